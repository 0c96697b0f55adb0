/-! what holds of an hour's hands -/
def PIn (P p : Int) : Prop := 0 ≤ p ∧ p < P
theorem inn_ind {f : Int → Hs → Hs} {Q : Int → Hs → Prop} : ∀ (n : Nat) (b : Int) (s : Hs), (∀ (b' : Int) (s : Hs), b ≤ b' → b' < b + n → Q b' s → Q (b' + 1) (f b' s)) → Q b s → Q (b + n) (inn f n b s)
  | 0, b, s, _, h => by
    rw [show b + ((0 : Nat) : Int) = b by omega]
    exact h
  | n + 1, b, s, hf, h => by
    have := inn_ind (Q := Q) n (b + 1) (f b s) (fun b' s h0 h1 hq => hf b' s (by omega) (by omega) hq) (hf b s (by omega) (by omega) h)
    rw [show b + 1 + (n : Int) = b + ((n + 1 : Nat) : Int) by omega] at this
    exact this
theorem outr_ind {C : Cf} {h : Int} {al : Int → Bool} {Q : Int → Int → Hs → Prop} (h1 : ∀ (a b : Int) (s : Hs), 0 ≤ a → a < b → b < cS C 0 → Q a b s → Q a (b + 1) (stp C h al a b s)) (h2 : ∀ (a : Int) (s : Hs), 0 ≤ a → a < cS C 0 → Q a (cS C 0) s → Q (a + 1) (a + 2) s) : ∀ (n : Nat) (a : Int) (s : Hs), 0 ≤ a → a + n = cS C 0 → Q a (a + 1) s → ∃ b, Q (cS C 0) b (outr C h al n a s)
  | 0, a, s, h0, hn, hq => ⟨a + 1, by rw [← hn, show a + ((0 : Nat) : Int) = a by omega]; exact hq⟩
  | n + 1, a, s, h0, hn, hq => by
    have e := inn_ind (f := stp C h al a) (Q := fun b s => Q a b s) (cS C 0 - (a + 1)).toNat (a + 1) s (fun b' s b0 b1 hq => h1 a b' s h0 (by omega) (by omega) hq) hq
    rw [show a + 1 + ((cS C 0 - (a + 1)).toNat : Int) = cS C 0 by omega] at e
    exact outr_ind h1 h2 n (a + 1) _ (by omega) (by omega) (by rw [show a + 1 + 1 = a + 2 by omega]; exact h2 a _ h0 (by omega) e)
theorem hsh_ind {C : Cf} {h : Int} {al : Int → Bool} {bd : Int → Int} {Q : Hs → Prop} (P0 : 0 ≤ cS C 0) (h0 : Q (bd, [])) (h1 : ∀ (a b : Int) (s : Hs), 0 ≤ a → a < b → b < cS C 0 → Q s → Q (stp C h al a b s)) : Q (hsh C h al bd) := by
  obtain ⟨b, hb⟩ := outr_ind (C := C) (h := h) (al := al) (Q := fun _ _ s => Q s) (fun a b s q0 q1 q2 hq => h1 a b s q0 q1 q2 hq) (fun a s _ _ hq => hq) (cS C 0).toNat 0 (bd, []) (Int.le_refl 0) (by omega) h0
  exact hb
theorem cameI_c (e : Ev) (l : List Ev) (p : Int) : cameI (e :: l) p = cmE e p + cameI l p := rfl
theorem goneI_c (e : Ev) (l : List Ev) : goneI (e :: l) = (if e.2.2 = -1 then 0 else 1) + goneI l := rfl
theorem mvb_cm (bd : Int → Int) (x y z p : Int) : mvb bd x y z p = bd p + cmE (x, y, z) p := by
  unfold mvb cmE
  by_cases h : z = -1
  · rw [if_pos h, if_pos h]; omega
  · rw [if_neg h, if_neg h]
    show (if p = z then bd p - 1 else if p = x + y - z then bd p + 1 else bd p) = bd p + (if p = z then -1 else if p = x + y - z then 1 else 0)
    by_cases h1 : p = z
    · rw [if_pos h1, if_pos h1]; omega
    · rw [if_neg h1, if_neg h1]
      by_cases h2 : p = x + y - z
      · rw [if_pos h2, if_pos h2]
      · rw [if_neg h2, if_neg h2]; omega
/-- bread behind the hands is what was there and what came -/
theorem hsh_came {C : Cf} {h : Int} {al : Int → Bool} {bd : Int → Int} (P0 : 0 ≤ cS C 0) (p : Int) : (hsh C h al bd).1 p = bd p + cameI (hsh C h al bd).2 p := by
  refine hsh_ind (Q := fun s => s.1 p = bd p + cameI s.2 p) P0 (by simp [cameI]) (fun x y s _ _ _ hq => ?_)
  unfold stp
  split
  · show mvb s.1 x y _ p = bd p + cameI ((x, y, _) :: s.2) p
    rw [mvb_cm, cameI_c, hq]
    omega
  · exact hq
theorem tot_add (f g : Int → Int) : ∀ n : Nat, tot (fun p => f p + g p) n = tot f n + tot g n
  | 0 => rfl
  | n + 1 => by
    simp only [tot]
    rw [tot_add f g n]
    omega
theorem hsh_tot {C : Cf} {h : Int} {al : Int → Bool} {bd : Int → Int} (P0 : 0 ≤ cS C 0) : tot (hsh C h al bd).1 (cS C 0).toNat = tot bd (cS C 0).toNat := by
  refine hsh_ind (Q := fun s => tot s.1 (cS C 0).toNat = tot bd (cS C 0).toNat) P0 rfl (fun x y s h0 h1 h2 hq => ?_)
  unfold stp
  split
  · show tot (mvb s.1 x y _) _ = _
    rw [mvb_tot h0 h1 (by omega) (by rcases gvr_in C s.1 x y with h | ⟨h, -⟩ <;> omega)]
    exact hq
  · exact hq
/-- what comes is 0 in all -/
theorem came_0 {C : Cf} {h : Int} {al : Int → Bool} {bd : Int → Int} (P0 : 0 ≤ cS C 0) : tot (cameI (hsh C h al bd).2) (cS C 0).toNat = 0 := by
  have h1 := hsh_tot (C := C) (h := h) (al := al) (bd := bd) P0
  have h2 := tot_congr (f := (hsh C h al bd).1) (g := fun p => bd p + cameI (hsh C h al bd).2 p) (cS C 0).toNat (fun p _ _ => hsh_came P0 p)
  rw [tot_add] at h2
  omega
/-- who shook hands did so -/
theorem hsh_shk {C : Cf} {h : Int} {al : Int → Bool} {bd : Int → Int} (P0 : 0 ≤ cS C 0) : ∀ e ∈ (hsh C h al bd).2, (0 ≤ e.1 ∧ e.1 < e.2.1 ∧ e.2.1 < cS C 0) ∧ shk C h al e.1 e.2.1 = true := by
  refine hsh_ind (Q := fun s => ∀ e ∈ s.2, (0 ≤ e.1 ∧ e.1 < e.2.1 ∧ e.2.1 < cS C 0) ∧ shk C h al e.1 e.2.1 = true) P0 (fun e he => absurd he List.not_mem_nil) (fun x y s h0 h1 h2 hq => ?_)
  unfold stp
  split
  · rename_i w
    intro e he
    rcases List.mem_cons.mp he with rfl | he
    · exact ⟨⟨h0, h1, h2⟩, w⟩
    · exact hq e he
  · exact hq
/-- no couple twice -/
def Fal (l : List Ev) : Prop := l.Pairwise (fun e e' => 8 * e'.1 + e'.2.1 < 8 * e.1 + e.2.1)
theorem hsh_fal {C : Cf} {h : Int} {al : Int → Bool} {bd : Int → Int} (P0 : 0 ≤ cS C 0) (P8 : cS C 0 ≤ 8) : Fal (hsh C h al bd).2 := by
  obtain ⟨b, hb⟩ := outr_ind (C := C) (h := h) (al := al) (Q := fun x y s => (∀ e ∈ s.2, 8 * e.1 + e.2.1 < 8 * x + y) ∧ Fal s.2) (fun x y s h0 h1 h2 hq => by
    unfold stp
    split
    · refine ⟨fun e he => ?_, List.Pairwise.cons (fun e he => ?_) hq.2⟩
      · rcases List.mem_cons.mp he with rfl | he
        · show 8 * x + y < 8 * x + (y + 1)
          omega
        · have := hq.1 e he
          omega
      · exact hq.1 e he
    · exact ⟨fun e he => by have := hq.1 e he; omega, hq.2⟩) (fun x s h0 h1 hq => ⟨fun e he => by have := hq.1 e he; omega, hq.2⟩) (cS C 0).toNat 0 (bd, []) (Int.le_refl 0) (by omega) ⟨fun e he => absurd he List.not_mem_nil, List.Pairwise.nil⟩
  exact hb.2
theorem metB_c (e : Ev) (l : List Ev) (p q : Int) : metB (e :: l) p q = (hitE e p q || metB l p q) := rfl
theorem metB_of {l : List Ev} {p q : Int} (h : metB l p q = true) : ∃ e ∈ l, (e.1 = p ∧ e.2.1 = q) ∨ (e.1 = q ∧ e.2.1 = p) := by
  obtain ⟨e, he, hh⟩ := List.any_eq_true.mp h
  refine ⟨e, he, ?_⟩
  unfold hitE at hh
  simpa using hh
theorem metB_sym (l : List Ev) (p q : Int) : metB l p q = metB l q p := by
  unfold metB
  congr 1
  funext e
  unfold hitE
  exact Bool.or_comm _ _
theorem hit_2 : ∀ P : Nat, P < 9 → ∀ y : Nat, y < P → ∀ x : Nat, x < y → sumN (fun p => cntN (hitE ((x : Int), (y : Int), 0) (p : Int)) 8) P = 2 := by decide +kernel
theorem sumN_add (f g : Nat → Int) : ∀ n : Nat, sumN (fun i => f i + g i) n = sumN f n + sumN g n
  | 0 => rfl
  | n + 1 => by
    simp only [sumN]
    rw [sumN_add f g n]
    omega
/-- each shaking is told by both -/
theorem hands_2 {P : Nat} (hP : P < 9) : ∀ {l : List Ev}, Fal l → (∀ e ∈ l, 0 ≤ e.1 ∧ e.1 < e.2.1 ∧ e.2.1 < (P : Int)) → sumN (fun p => cntN (metB l (p : Int)) 8) P = 2 * (l.length : Int)
  | [], _, _ => by
    have e0 : ∀ n : Nat, cntN (metB [] 0) n = 0 ∧ ∀ p : Int, cntN (metB [] p) n = 0 := fun n => by
      induction n with
      | zero => exact ⟨rfl, fun _ => rfl⟩
      | succ n ih => exact ⟨by simp only [cntN]; rw [ih.1]; rfl, fun p => by simp only [cntN]; rw [ih.2 p]; rfl⟩
    rw [sumN_congr (f' := fun _ => 0) P (fun p _ => (e0 8).2 p)]
    have : ∀ n : Nat, sumN (fun _ => 0) n = 0 := fun n => by
      induction n with
      | zero => rfl
      | succ n ih => simp only [sumN]; rw [ih]; rfl
    rw [this]
    rfl
  | e :: l, hF, hl => by
    have he := hl e List.mem_cons_self
    have hF2 := List.pairwise_cons.mp hF
    have ih := hands_2 hP (l := l) hF2.2 (fun e he => hl e (List.mem_cons_of_mem _ he))
    have hdis : ∀ p q : Int, hitE e p q = true → metB l p q = true → False := fun p q h1 h2 => by
      obtain ⟨e', m', hh⟩ := metB_of h2
      have h3 := hF2.1 e' m'
      have h4 := hl e' (List.mem_cons_of_mem _ m')
      unfold hitE at h1
      have h5 : (e.1 = p ∧ e.2.1 = q) ∨ (e.1 = q ∧ e.2.1 = p) := by simpa using h1
      omega
    have e1 : ∀ p : Int, cntN (metB (e :: l) p) 8 = cntN (hitE e p) 8 + cntN (metB l p) 8 := fun p => by
      have := cnt_or (f := hitE e p) (f' := metB l p) (hdis p) 8
      rw [← this]
      exact cntN_congr 8 (fun q _ _ => metB_c e l p q)
    rw [sumN_congr (f' := fun p => cntN (hitE e (p : Int)) 8 + cntN (metB l (p : Int)) 8) P (fun p _ => e1 p), sumN_add, ih]
    have e2 := hit_2 P hP e.2.1.toNat (by omega) e.1.toNat (by omega)
    have e3 : ∀ p : Int, hitE ((e.1.toNat : Int), (e.2.1.toNat : Int), 0) p = hitE e p := fun p => by
      funext q
      unfold hitE
      rw [show ((e.1.toNat : Int), (e.2.1.toNat : Int), (0 : Int)).1 = e.1 from by show (e.1.toNat : Int) = e.1; omega, show ((e.1.toNat : Int), (e.2.1.toNat : Int), (0 : Int)).2.1 = e.2.1 from by show (e.2.1.toNat : Int) = e.2.1; omega]
    rw [sumN_congr (f' := fun p => cntN (hitE e (p : Int)) 8) P (fun p _ => by rw [e3])] at e2
    rw [e2, List.length_cons]
    omega
theorem gone_le : ∀ l : List Ev, 0 ≤ goneI l ∧ goneI l ≤ l.length
  | [] => ⟨by decide, by decide⟩
  | e :: l => by
    have := gone_le l
    rw [goneI_c, List.length_cons]
    split <;> omega
/-! an hour of a run that has no loaf -/
theorem lof_no {C : Cf} (h6 : cS C 6 = -1) {h : Int} (h0 : 0 ≤ h) (bd : Int → Int) : lof C h bd = bd := if_neg (fun w => by omega)
theorem hst_1 {C : Cf} (h6 : cS C 6 = -1) (n : Nat) : rst C (n + 1) = (if eats C n = true then eatB C (hmi C n).1 (rst C n).2 else (hmi C n).1, if eats C n = true then eatA C (hmi C n).1 (rst C n).2 else (rst C n).2) := rfl
theorem hmi_no {C : Cf} (h6 : cS C 6 = -1) (n : Nat) : hmi C n = hsh C n (rst C n).2 (rst C n).1 := by
  unfold hmi
  rw [lof_no h6 (by omega)]
/-- what one eats is nothing, or the need -/
theorem eat_01 {C : Cf} (P0 : 0 ≤ cS C 0) (h6 : cS C 6 = -1) (n : Nat) (p : Int) : (rst C n).1 p + cameI (hev C n) p - (rst C (n + 1)).1 p = 0 ∨ (rst C n).1 p + cameI (hev C n) p - (rst C (n + 1)).1 p = cS C 3 := by
  have e : (hmi C n).1 p = (rst C n).1 p + cameI (hev C n) p := by
    unfold hev
    rw [hmi_no h6]
    exact hsh_came P0 p
  rw [hst_1 h6, ← e]
  by_cases z : eats C n = true
  · rw [if_pos z]
    show _ - eatB C (hmi C n).1 (rst C n).2 p = 0 ∨ _ - eatB C (hmi C n).1 (rst C n).2 p = _
    have e2 : eatB C (hmi C n).1 (rst C n).2 p = (hmi C n).1 p - cS C 3 ∨ eatB C (hmi C n).1 (rst C n).2 p = (hmi C n).1 p := by
      unfold eatB
      by_cases w : (rst C n).2 p = true ∧ cS C 3 ≤ (hmi C n).1 p
      · left; exact if_pos w
      · right; exact if_neg w
    rcases e2 with w | w
    · right; rw [w]; omega
    · left; rw [w]; omega
  · rw [if_neg z]
    left
    show (hmi C n).1 p - (hmi C n).1 p = 0
    omega
theorem al_dn {C : Cf} (n : Nat) {p : Int} (h : (rst C (n + 1)).2 p = true) : (rst C n).2 p = true := by
  have e : (rst C (n + 1)).2 p = (if eats C n = true then eatA C (hsh C n (rst C n).2 (lof C n (rst C n).1)).1 (rst C n).2 else (rst C n).2) p := rfl
  rw [e] at h
  split at h
  · unfold eatA at h
    exact (Bool.and_eq_true _ _ ▸ h).1
  · exact h
theorem tot_eat {C : Cf} (bd : Int → Int) (al : Int → Bool) : ∀ n : Nat, tot (eatB C bd al) n = tot bd n - cS C 3 * cntN (eatA C bd al) n
  | 0 => by simp [tot, cntN]
  | n + 1 => by
    simp only [tot, cntN]
    rw [tot_eat bd al n]
    unfold eatB eatA
    by_cases z : al n = true ∧ cS C 3 ≤ bd n
    · rw [if_pos z, if_pos (by simp [z.1, z.2]), Int.mul_add]
      omega
    · rw [if_neg z, if_neg (by simpa using z), Int.add_zero]
      omega
theorem cntN_8 {f : Int → Bool} {P : Int} (P8 : P ≤ 8) (P0 : 0 ≤ P) (h : ∀ p : Int, f p = true → p < P) : cntN f 8 = cntN f P.toNat := by
  have key : ∀ d : Nat, cntN f (P.toNat + d) = cntN f P.toNat := fun d => by
    induction d with
    | zero => rfl
    | succ d ih =>
      show cntN f (P.toNat + d) + _ = _
      rw [ih, if_neg (fun w => by have := h ((P.toNat + d : Nat) : Int) w; omega)]
      omega
  have := key (8 - P.toNat)
  rw [show P.toNat + (8 - P.toNat) = 8 by omega] at this
  exact this
/-- all bread behind an hour, and what was eaten, is what was there -/
theorem br_1 {C : Cf} (hC : CfOk C) (h6 : cS C 6 = -1) (n : Nat) : brN C (n + 1) = brN C n - eatN C n := by
  have P0 := hC.1
  have P8 := hC.2.1
  have e : tot (hmi C n).1 (cS C 0).toNat = tot (rst C n).1 (cS C 0).toNat := by
    rw [hmi_no h6]
    exact hsh_tot P0
  unfold brN eatN
  rw [hst_1 h6]
  by_cases z : eats C n = true
  · rw [if_pos z, if_pos z, if_pos z]
    show tot (eatB C (hmi C n).1 (rst C n).2) _ = _
    rw [tot_eat, e]
    have e2 : alN C (n + 1) = cntN (eatA C (hmi C n).1 (rst C n).2) (cS C 0).toNat := by
      unfold alN
      rw [cntN_8 P8 P0 (fun p hp => (rst_al _ p hp).2), hst_1 h6, if_pos z, if_pos z]
    rw [e2]
  · rw [if_neg z, if_neg z, if_neg z]
    show tot (hmi C n).1 _ = _
    rw [e]
    omega
