/-! paint in the twin and in the class are one, when there is no loaf */ -/
/-- paint lies where there is bread -/
def PtOk (P : Int) (bd : Int → Int) (pt : Int → Bool) : Prop := ∀ q : Int, pt q = true → (0 ≤ q ∧ q < P) ∧ 1 ≤ bd q
theorem stp_pt {C : Cf} {h : Int} {al : Int → Bool} {a b T : Int} {s : Hs} {b0 : Int → Int} {p0 : Int → Bool} (hb : BdOk (cS C 0) T s.1) (e : (pev s.2 (b0, p0)).1 = s.1) (hp : PtOk (cS C 0) s.1 (pev s.2 (b0, p0)).2) (h0 : 0 ≤ a) (h1 : a < b) (h2 : b < cS C 0) :
    (pev (stp C h al a b s).2 (b0, p0)).1 = (stp C h al a b s).1 ∧ PtOk (cS C 0) (stp C h al a b s).1 (pev (stp C h al a b s).2 (b0, p0)).2 := by
  unfold stp
  split
  · have ep : pev ((a, b, gvr C s.1 a b) :: s.2) (b0, p0) = pvE (a, b, gvr C s.1 a b) (s.1, (pev s.2 (b0, p0)).2) := by
      rw [pev_c, ← e]
    show (pev ((a, b, gvr C s.1 a b) :: s.2) (b0, p0)).1 = mvb s.1 a b (gvr C s.1 a b) ∧ PtOk (cS C 0) (mvb s.1 a b (gvr C s.1 a b)) (pev ((a, b, gvr C s.1 a b) :: s.2) (b0, p0)).2
    rw [ep]
    generalize hx : gvr C s.1 a b = x
    have hin := gvr_in C s.1 a b
    rw [hx] at hin
    unfold pvE
    by_cases z : x = -1
    · rw [if_pos (show (a, b, x).2.2 = -1 from z)]
      unfold mvb
      rw [if_pos z]
      exact ⟨rfl, hp⟩
    · rw [if_neg (show ¬ (a, b, x).2.2 = -1 from z)]
      refine ⟨rfl, fun q hq => ?_⟩
      have hq2 : (((pev s.2 (b0, p0)).2 q || ((pev s.2 (b0, p0)).2 x && decide (q = a + b - x))) && !(decide (mvb s.1 a b x x < 1) && decide (q = x))) = true := hq
      simp only [Bool.and_eq_true, Bool.or_eq_true, Bool.not_eq_true', Bool.and_eq_false_iff, decide_eq_true_eq, decide_eq_false_iff_not] at hq2
      have hx2 : (x = a ∨ x = b) ∧ 1 ≤ s.1 x := by
        rcases hin with w | w
        · exact absurd w z
        · exact ⟨w.1, w.2.1⟩
      have qr : 0 ≤ q ∧ q < cS C 0 := by
        rcases hq2.1 with w | w
        · exact (hp q w).1
        · omega
      refine ⟨qr, ?_⟩
      have b1 := hb.1 q qr.1 qr.2
      unfold mvb at hq2 ⊢
      rw [if_neg z] at hq2 ⊢
      show 1 ≤ (if q = x then s.1 q - 1 else if q = a + b - x then s.1 q + 1 else s.1 q)
      by_cases w1 : q = x
      · rw [if_pos w1]
        have := hq2.2
        rw [if_pos rfl] at this
        rw [w1]
        omega
      · rw [if_neg w1]
        by_cases w2 : q = a + b - x
        · rw [if_pos w2]; omega
        · rw [if_neg w2]
          rcases hq2.1 with w | w
          · exact (hp q w).2
          · exact absurd w.2 w2
  · exact ⟨e, hp⟩
theorem inn_pt {C : Cf} {h : Int} {al : Int → Bool} {a T : Int} {b0 : Int → Int} {p0 : Int → Bool} (h0 : 0 ≤ a) : ∀ (n : Nat) (b : Int) (s : Hs), a < b → b + n ≤ cS C 0 → BdOk (cS C 0) T s.1 → EvsOk (cS C 0) s.2 → (pev s.2 (b0, p0)).1 = s.1 → PtOk (cS C 0) s.1 (pev s.2 (b0, p0)).2 →
    (pev (inn (stp C h al a) n b s).2 (b0, p0)).1 = (inn (stp C h al a) n b s).1 ∧ PtOk (cS C 0) (inn (stp C h al a) n b s).1 (pev (inn (stp C h al a) n b s).2 (b0, p0)).2
  | 0, b, s, h1, h2, hb, he, e, hp => ⟨e, hp⟩
  | n + 1, b, s, h1, h2, hb, he, e, hp => by
    obtain ⟨g1, g2, -⟩ := stp_ok (h := h) (al := al) hb he h0 h1 (by omega)
    obtain ⟨k1, k2⟩ := stp_pt (h := h) (al := al) hb e hp h0 h1 (by omega)
    exact inn_pt h0 n (b + 1) _ (by omega) (by omega) g1 g2 k1 k2
theorem outr_pt {C : Cf} {h : Int} {al : Int → Bool} {T : Int} {b0 : Int → Int} {p0 : Int → Bool} : ∀ (n k : Nat) (s : Hs), (k : Int) + n = cS C 0 → BdOk (cS C 0) T s.1 → EvsOk (cS C 0) s.2 → (pev s.2 (b0, p0)).1 = s.1 → PtOk (cS C 0) s.1 (pev s.2 (b0, p0)).2 →
    PtOk (cS C 0) (outr C h al n k s).1 (pev (outr C h al n k s).2 (b0, p0)).2
  | 0, k, s, h1, hb, he, e, hp => hp
  | n + 1, k, s, h1, hb, he, e, hp => by
    obtain ⟨g1, g2, -⟩ := inn_ok (h := h) (al := al) (a := (k : Int)) (by omega) (cS C 0 - (k + 1)).toNat (k + 1) s (by omega) (by omega) hb he
    obtain ⟨k1, k2⟩ := inn_pt (h := h) (al := al) (a := (k : Int)) (by omega) (cS C 0 - (k + 1)).toNat (k + 1) s (by omega) (by omega) hb he e hp
    have := outr_pt (h := h) (al := al) n (k + 1) _ (by omega) g1 g2 k1 k2
    simp only [outr]
    rw [show (k : Int) + 1 = ((k + 1 : Nat) : Int) by omega]
    rw [show (k : Int) + 1 = ((k + 1 : Nat) : Int) by omega] at this
    exact this
theorem twP_pnt {C : Cf} (hC : CfOk C) (hl : cS C 6 = -1) (s0 : Int → Bool) (hs : PtOk (cS C 0) (cSt C) s0) : ∀ n : Nat, twP C s0 n = pnt C s0 n ∧ PtOk (cS C 0) (rst C n).1 (twP C s0 n)
  | 0 => ⟨rfl, hs⟩
  | n + 1 => by
    obtain ⟨e, hp⟩ := twP_pnt hC hl s0 hs n
    have el : lof C n (rst C n).1 = (rst C n).1 := by
      unfold lof
      rw [if_neg (fun w => by have := w.1; omega)]
    have hbo := rst_ok hC n
    have hm : PtOk (cS C 0) (hmi C n).1 (twQ C s0 n (twP C s0 n)) := by
      have := outr_pt (C := C) (h := (n : Int)) (al := (rst C n).2) (b0 := lof C n (rst C n).1) (p0 := twP C s0 n) (cS C 0).toNat 0 (lof C n (rst C n).1, []) (by have := hC.1; omega) (by rw [el]; exact hbo) (fun e he => by cases he) rfl (by rw [el]; exact hp)
      exact this
    have eM : twQ C s0 n (twP C s0 n) = (pev (hev C n) ((rst C n).1, pnt C s0 n)).2 := by
      unfold twQ
      rw [el, e]
    have er : rst C (n + 1) = hst C n (rst C n) := rfl
    have pt : ∀ q : Int, twP C s0 (n + 1) q = (twQ C s0 n (twP C s0 n) q && !decide ((rst C (n + 1)).1 q < 1)) := by
      intro q
      show (if eats C n = true then twQ C s0 n (twP C s0 n) q && !(fedB C (hmi C n).1 (rst C n).2 q && decide ((hmi C n).1 q - cS C 3 = 0)) else twQ C s0 n (twP C s0 n) q) = _
      cases hq : twQ C s0 n (twP C s0 n) q with
      | false => split <;> rfl
      | true =>
        have hb1 := (hm q hq).2
        by_cases he : eats C n = true
        · have e1 : (rst C (n + 1)).1 q = eatB C (hmi C n).1 (rst C n).2 q := by
            rw [er]
            unfold hst
            rw [if_pos he]
            rfl
          rw [if_pos he, e1, Bool.true_and, Bool.true_and]
          unfold eatB fedB
          by_cases ha : (rst C n).2 q = true ∧ cS C 3 ≤ (hmi C n).1 q
          · rw [if_pos ha, ha.1, decide_eq_true ha.2, Bool.true_and, Bool.true_and]
            rw [decide_eq_decide.mpr (show (hmi C n).1 q - cS C 3 = 0 ↔ (hmi C n).1 q - cS C 3 < 1 by omega)]
          · rw [if_neg ha, decide_eq_false (show ¬ (hmi C n).1 q < 1 by omega)]
            have : ((rst C n).2 q && decide (cS C 3 ≤ (hmi C n).1 q)) = false := by
              cases hc : (rst C n).2 q with
              | false => rfl
              | true => rw [Bool.true_and]; exact decide_eq_false (fun w => ha ⟨hc, w⟩)
            rw [this]
            rfl
        · have e1 : (rst C (n + 1)).1 q = (hmi C n).1 q := by
            rw [er]
            unfold hst
            rw [if_neg he]
            rfl
          rw [if_neg he, e1, decide_eq_false (show ¬ (hmi C n).1 q < 1 by omega)]
          rfl
    refine ⟨?_, fun q hq => ?_⟩
    · funext q
      rw [pt q, eM]
      rfl
    · rw [pt q] at hq
      simp only [Bool.and_eq_true, Bool.not_eq_true', decide_eq_false_iff_not] at hq
      exact ⟨(hm q hq.1).1, by omega⟩
