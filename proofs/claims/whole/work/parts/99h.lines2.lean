/-! the twin's reader: lines of numbers, against the class's -/
def xsN (T : Int → Int) (n l : Int) (x : Rx) : Nat → Rx
  | 0 => x
  | j + 1 => nuX T n (loT l j) (hiT l j) (xsN T n l x j)
section
variable {T : Int → Int} {n l q1 : Int} {fp : Int × Int}
theorem nuX_br {lo hi : Int} {x : Rx} (h : x.1 = true) : nuX T n lo hi x = x := by
  obtain ⟨b, q, f⟩ := x
  have h : b = true := h
  subst h
  exact if_pos (Or.inl rfl)
theorem eoX_br {x : Rx} (h : x.1 = true) : eoX T n x = x := by
  obtain ⟨b, q, f⟩ := x
  have h : b = true := h
  subst h
  exact if_pos (Or.inl rfl)
theorem qit_lt {e : Nat} (he : ∀ i : Nat, i < e → tkK T n (qit T n q1 i) = 1) : ∀ j : Nat, j < e → qit T n q1 j < qit T n q1 (j + 1) := fun j hj => nxt_gt (by rw [he j hj]; decide)
theorem qit_up {e : Nat} (he : ∀ i : Nat, i < e → tkK T n (qit T n q1 i) = 1) : ∀ j : Nat, j ≤ e → q1 ≤ qit T n q1 j
  | 0, _ => Int.le_refl _
  | j + 1, h => by
    have h1 := qit_up he j (by omega)
    have h2 := qit_lt he j (by omega)
    omega
theorem blm_lt {b : Bool} {k a q : Int} (hf : fp.1 ≠ 0 → fp.2 < q) (ha : a < q) : (blm fp b k a).1 ≠ 0 → (blm fp b k a).2 < q := by
  intro z
  unfold blm at z ⊢
  split
  · exact ha
  · rename_i w
    rw [if_neg w] at z
    exact hf z
theorem fpN_lt {e : Nat} (he : ∀ i : Nat, i < e → tkK T n (qit T n q1 i) = 1) (hf : fp.1 ≠ 0 → fp.2 < q1) : ∀ j : Nat, j ≤ e → (fpN T n l q1 fp j).1 ≠ 0 → (fpN T n l q1 fp j).2 < qit T n q1 j
  | 0, _ => hf
  | j + 1, h => by
    have h1 := fpN_lt he hf j (by omega)
    have h2 := qit_lt he j (by omega)
    have h3 : (fpN T n l q1 fp j).1 ≠ 0 → (fpN T n l q1 fp j).2 < qit T n q1 (j + 1) := fun z => by have := h1 z; omega
    show (blm (blm (fpN T n l q1 fp j) (badN T n l q1 j) 2 (qit T n q1 j)) (decide (13 ≤ j)) 3 (qit T n q1 j)).1 ≠ 0 → (blm (blm (fpN T n l q1 fp j) (badN T n l q1 j) 2 (qit T n q1 j)) (decide (13 ≤ j)) 3 (qit T n q1 j)).2 < qit T n q1 (j + 1)
    exact blm_lt (blm_lt h3 h2) h2
theorem also_blm {k a : Int} (hf : fp.1 ≠ 0 → fp.2 < a) : alsoF fp k a = blm fp true k a := by
  unfold alsoF blm
  by_cases z : fp.1 = 0
  · rw [if_neg (fun w => w.1 z), if_pos ⟨z, rfl⟩]
  · rw [if_pos ⟨z, Or.inl (hf z)⟩, if_neg (fun w => z w.1)]
/-- one number: the fault, as both have it -/
theorem nu_blm {q lo hi : Int} {b : Bool} (hb : b = true ↔ ¬ (lo ≤ tkV T n q ∧ tkV T n q ≤ hi)) (hf : fp.1 ≠ 0 → fp.2 < q) : (if lo ≤ tkV T n q ∧ tkV T n q ≤ hi then fp else alsoF fp 2 q) = blm fp b 2 q := by
  by_cases z : lo ≤ tkV T n q ∧ tkV T n q ≤ hi
  · rw [if_pos z, blm_ff (by
      cases b with
      | false => rfl
      | true => exact absurd z (hb.mp rfl))]
  · rw [if_neg z, also_blm hf, hb.mpr z]
theorem bad_iff {j : Nat} (h6 : l ≠ 6) : badN T n l q1 j = true ↔ ¬ (loT l j ≤ tkV T n (qit T n q1 j) ∧ tkV T n (qit T n q1 j) ≤ hiT l j) := by
  unfold badN
  rw [decide_eq_false h6, Bool.false_and, Bool.false_and, Bool.or_false, Bool.or_eq_true, decide_eq_true_eq, decide_eq_true_eq]
  omega
theorem xsN_go {e : Nat} (h6 : l ≠ 6) (he : ∀ i : Nat, i < e → tkK T n (qit T n q1 i) = 1) (hf : fp.1 ≠ 0 → fp.2 < q1) : ∀ j : Nat, j ≤ e → j ≤ 13 → xsN T n l (false, q1, fp) j = (false, qit T n q1 j, fpN T n l q1 fp j)
  | 0, _, _ => rfl
  | j + 1, h, h13 => by
    have ih := xsN_go h6 he hf j (by omega) (by omega)
    show nuX T n (loT l j) (hiT l j) (xsN T n l (false, q1, fp) j) = _
    rw [ih]
    have nz : ¬ (false = true ∨ tkK T n (qit T n q1 j) ≠ 1) := fun w => w.elim (fun y => Bool.noConfusion y) (fun y => y (he j (by omega)))
    show (if false = true ∨ tkK T n (qit T n q1 j) ≠ 1 then brX (false, qit T n q1 j, fpN T n l q1 fp j) else (false, nxt T n (qit T n q1 j), if loT l j ≤ tkV T n (qit T n q1 j) ∧ tkV T n (qit T n q1 j) ≤ hiT l j then fpN T n l q1 fp j else alsoF (fpN T n l q1 fp j) 2 (qit T n q1 j))) = _
    rw [if_neg nz, nu_blm (bad_iff h6) (fpN_lt he hf j (by omega))]
    have e2 : fpN T n l q1 fp (j + 1) = blm (blm (fpN T n l q1 fp j) (badN T n l q1 j) 2 (qit T n q1 j)) (decide (13 ≤ j)) 3 (qit T n q1 j) := rfl
    rw [e2, blm_ff (fp := blm (fpN T n l q1 fp j) (badN T n l q1 j) 2 (qit T n q1 j)) (decide_eq_false (by omega))]
    rfl
theorem xsN_br {x : Rx} {j : Nat} (h : (xsN T n l x j).1 = true) : ∀ d : Nat, xsN T n l x (j + d) = xsN T n l x j
  | 0 => rfl
  | d + 1 => by
    show nuX T n (loT l (j + d)) (hiT l (j + d)) (xsN T n l x (j + d)) = _
    rw [xsN_br h d]
    exact nuX_br h
theorem nuX_bk {lo hi q : Int} (h : tkK T n q ≠ 1) : nuX T n lo hi (false, q, fp) = (true, q, fp) := if_pos (Or.inr h)
theorem eoX_bk {q : Int} (h : tkK T n q ≠ 2) : eoX T n (false, q, fp) = (true, q, fp) := if_pos (Or.inr h)
theorem eoX_go {q : Int} (h : tkK T n q = 2) : eoX T n (false, q, fp) = (false, nxt T n q, fp) := if_neg (fun w => w.elim (fun y => Bool.noConfusion y) (fun y => y h))
/-- a line of m numbers and its stop -/
theorem xsN_end {m e : Nat} (h6 : l ≠ 6) (hm : m ≤ 13) (hf : fp.1 ≠ 0 → fp.2 < q1) (he : e = nrun T n m q1) :
    (¬ (tkK T n (qit T n q1 e) = 2 ∧ m ≤ e) → ∃ f : Int × Int, eoX T n (xsN T n l (false, q1, fp) m) = (true, qit T n q1 e, f)) ∧
    ((tkK T n (qit T n q1 e) = 2 ∧ m ≤ e) → e = m ∧ (∀ i : Nat, i < m → tkK T n (qit T n q1 i) = 1) ∧ eoX T n (xsN T n l (false, q1, fp) m) = (false, nxt T n (qit T n q1 m), fpN T n l q1 fp m)) := by
  have hle := nrun_le T n m q1
  rw [← he] at hle
  have hin : ∀ i : Nat, i < e → tkK T n (qit T n q1 i) = 1 := fun i hi => nrun_in T n m q1 i (by rw [← he]; exact hi)
  have hend : e < m → tkK T n (qit T n q1 e) ≠ 1 := fun z => by
    have := nrun_end T n m q1 (by rw [← he]; exact z)
    rw [← he] at this
    exact this
  constructor
  · intro z
    by_cases y : e < m
    · have g := xsN_go (l := l) h6 hin hf e (Nat.le_refl _) (by omega)
      have b : xsN T n l (false, q1, fp) (e + 1) = (true, qit T n q1 e, fpN T n l q1 fp e) := by
        show nuX T n (loT l e) (hiT l e) (xsN T n l (false, q1, fp) e) = _
        rw [g]
        exact nuX_bk (hend y)
      have c := xsN_br (T := T) (n := n) (l := l) (x := (false, q1, fp)) (j := e + 1) (by rw [b]) (m - (e + 1))
      rw [show e + 1 + (m - (e + 1)) = m by omega, b] at c
      exact ⟨_, by rw [c]; exact eoX_br rfl⟩
    · have em : e = m := by omega
      have g := xsN_go (l := l) h6 hin hf m (by omega) hm
      exact ⟨_, by rw [g, em]; exact eoX_bk (fun w => z ⟨by rw [em]; exact w, by omega⟩)⟩
  · intro z
    have em : e = m := by omega
    rw [em] at hin z
    have g := xsN_go (l := l) h6 hin hf m (Nat.le_refl _) hm
    exact ⟨em, hin, by rw [g]; exact eoX_go z.1⟩
theorem nuV_ok {lo hi : Int} {q : Int} (hk : tkK T n q = 1) (h : lo ≤ tkV T n q ∧ tkV T n q ≤ hi) : nuV T n lo hi (false, q, fp) = tkV T n q := if_pos ⟨rfl, hk, h⟩
end
/-- bounds of the row, faults or none -/
def BnR (σ : xS) (s : Int) : Prop := (s = 0 → ((2 ≤ σ 177 0 ∧ σ 177 0 ≤ 6) ∧ (2 ≤ σ 177 1 ∧ σ 177 1 ≤ 6)) ∧ (0 ≤ σ 177 6 ∧ σ 177 6 ≤ 8) ∧ (0 ≤ σ 177 7 ∧ σ 177 7 ≤ 6)) ∧ (s = 1 → 0 ≤ σ 177 0 ∧ σ 177 0 ≤ 8)
/-- what the twin holds at the start of a line -/
def TwL (σ : xS) (T : Int → Int) (n s : Int) (P : Ps) : Prop := RX σ T n (false, P.1, P.2.1) ∧ (P.2.1.1 ≠ 0 → P.2.1.2 < P.1) ∧ BnR σ s ∧ (P.2.1.1 = 0 → (σ 174 9 = P.2.2.1 ∧ σ 174 10 = P.2.2.2.1) ∧ ∀ i : Int, 0 ≤ i → i < 190 → σ 177 i = P.2.2.2.2 i)
/-- and behind it -/
def LnR (σ : xS) (T : Int → Int) (n s : Int) (P : Ps) : Prop := ((stpP T n s P).1 = true ∧ TwL σ T n s (stpP T n s P).2) ∨ ((stpP T n s P).1 = false ∧ RX σ T n (true, (stpP T n s P).2.1, (stpP T n s P).2.2.1) ∧ (stpP T n s P).2.2.1.1 = 1 ∧ (stpP T n s P).2.2.1.2 = (stpP T n s P).2.1)
theorem RX.bk {σ : xS} {T : Int → Int} {n q : Int} {f f' : Int × Int} (H : RX σ T n (true, q, f)) : RX σ T n (true, q, f') := ⟨H.1, fun z => Bool.noConfusion z, H.2.2⟩
theorem LnR.brk {σ : xS} {T : Int → Int} {n s q : Int} {P : Ps} {f : Int × Int} (e : stpP T n s P = brkP P q) (H : RX σ T n (true, q, f)) : LnR σ T n s P := by
  refine Or.inr ?_
  rw [e]
  exact ⟨rfl, H.bk, rfl, rfl⟩
/-- a line that began at P and is read with l: what the class makes of it -/
theorem LnR.num {σ : xS} {T : Int → Int} {n s l : Int} {P : Ps} {X : Rx} {e : Nat} (h0 : tkK T n P.1 ≠ 0) (hl : lnK T n s P.1 = l) (h1 : l ≠ -1) (h8 : l ≠ 8) (he : e = nrun T n (mostT l).toNat (nxt T n P.1)) (hB : BnR σ s) (hX : RX σ T n X) (hf : P.2.1.1 ≠ 0 → P.2.1.2 < P.1)
    (c0 : ¬ (tkK T n (qit T n (nxt T n P.1) e) = 2 ∧ fewT l ≤ (e : Nat)) → ∃ f : Int × Int, X = (true, qit T n (nxt T n P.1) e, f))
    (c1 : (tkK T n (qit T n (nxt T n P.1) e) = 2 ∧ fewT l ≤ (e : Nat)) → (∀ i : Nat, i < e → tkK T n (qit T n (nxt T n P.1) i) = 1) ∧ X = (false, nxt T n (qit T n (nxt T n P.1) e), fpN T n l (nxt T n P.1) (blm P.2.1 (fulL l P.2.2.2.2) 3 P.1) e) ∧ ((fpN T n l (nxt T n P.1) (blm P.2.1 (fulL l P.2.2.2.2) 3 P.1) e).1 = 0 → (σ 174 9 = gpN T n l (nxt T n P.1) P.2.2.1 e ∧ σ 174 10 = gcN T n l (nxt T n P.1) P.2.2.2.1 e) ∧ ∀ i : Int, 0 ≤ i → i < 190 → σ 177 i = rowL l (mnW (wrd T n P.1)) (fun j => tkV T n (qit T n (nxt T n P.1) j)) e P.2.2.2.2 i)) : LnR σ T n s P := by
  by_cases z : tkK T n (qit T n (nxt T n P.1) e) = 2 ∧ fewT l ≤ (e : Nat)
  · obtain ⟨hin, eX, hv⟩ := c1 z
    refine Or.inl ?_
    rw [stp_num1 h0 hl h1 h8 he z]
    refine ⟨rfl, by rw [← eX]; exact hX, fun y => ?_, hB, hv⟩
    have q1 := nxt_gt h0
    have f0 := blm_lt (b := fulL l P.2.2.2.2) (k := 3) (a := P.1) (q := nxt T n P.1) (fp := P.2.1) (fun w => by have := hf w; omega) q1
    have f1 := fpN_lt (l := l) hin f0 e (Nat.le_refl _) y
    have f2 := nxt_ge T n (qit T n (nxt T n P.1) e)
    show (fpN T n l (nxt T n P.1) (blm P.2.1 (fulL l P.2.2.2.2) 3 P.1) e).2 < nxt T n (qit T n (nxt T n P.1) e)
    omega
  · obtain ⟨f, eX⟩ := c0 z
    rw [eX] at hX
    exact LnR.brk (stp_num0 h0 hl h1 h8 he z) hX
/-- a line of just m numbers -/
theorem LnR.fix {σ : xS} {T : Int → Int} {n s l : Int} {P : Ps} {m : Nat} {f0 : Int × Int} (h0 : tkK T n P.1 ≠ 0) (hl : lnK T n s P.1 = l) (h1 : l ≠ -1) (h8 : l ≠ 8) (h6 : l ≠ 6) (hm : m ≤ 13) (hmo : mostT l = (m : Int)) (hfe : fewT l = (m : Int)) (hB : BnR σ s) (e0 : f0 = blm P.2.1 (fulL l P.2.2.2.2) 3 P.1) (hX : RX σ T n (eoX T n (xsN T n l (false, nxt T n P.1, f0) m))) (hf : P.2.1.1 ≠ 0 → P.2.1.2 < P.1)
    (hv : (∀ i : Nat, i < m → tkK T n (qit T n (nxt T n P.1) i) = 1) → (∀ i : Nat, i ≤ m → xsN T n l (false, nxt T n P.1, f0) i = (false, qit T n (nxt T n P.1) i, fpN T n l (nxt T n P.1) f0 i)) → (∀ i : Nat, i < m → loT l i ≤ tkV T n (qit T n (nxt T n P.1) i) ∧ tkV T n (qit T n (nxt T n P.1) i) ≤ hiT l i) → P.2.1.1 = 0 → fulL l P.2.2.2.2 = false → (σ 174 9 = gpN T n l (nxt T n P.1) P.2.2.1 m ∧ σ 174 10 = gcN T n l (nxt T n P.1) P.2.2.2.1 m) ∧ ∀ i : Int, 0 ≤ i → i < 190 → σ 177 i = rowL l (mnW (wrd T n P.1)) (fun j => tkV T n (qit T n (nxt T n P.1) j)) m P.2.2.2.2 i) : LnR σ T n s P := by
  have q1 := nxt_gt h0
  have fl : f0.1 ≠ 0 → f0.2 < nxt T n P.1 := by
    rw [e0]
    exact blm_lt (fun w => by have := hf w; omega) q1
  obtain ⟨x0, x1⟩ := xsN_end (T := T) (n := n) (l := l) (q1 := nxt T n P.1) (fp := f0) (m := m) h6 hm fl rfl
  have mt : (mostT l).toNat = m := by omega
  refine LnR.num (e := nrun T n m (nxt T n P.1)) h0 hl h1 h8 (by rw [mt]) hB hX hf (fun z => x0 (fun y => z ⟨y.1, by rw [hfe]; omega⟩)) (fun z => ?_)
  obtain ⟨em, hin, ex⟩ := x1 ⟨z.1, by have := z.2; rw [hfe] at this; omega⟩
  rw [em, ← e0]
  refine ⟨hin, ex, fun y => ?_⟩
  have ok := fpN_ok m y
  have f00 := blm_0 (fp := P.2.1) (b := fulL l P.2.2.2.2) (k := 3) (at_ := P.1) (by decide) (by rw [← e0]; exact ok.1)
  exact hv hin (fun i hi => xsN_go h6 hin fl i hi (by omega)) (fun i hi => ⟨(badN_0 (ok.2.2 i hi).1).1, (badN_0 (ok.2.2 i hi).1).2.1⟩) f00.1 f00.2.1
