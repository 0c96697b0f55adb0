/-! what holds of a run -/
theorem sum_br {C : Cf} (hC : CfOk C) (h6 : cS C 6 = -1) : ∀ n : Nat, brN C n = brN C 0 - sumN (eatN C) n
  | 0 => by simp [sumN]
  | n + 1 => by
    rw [br_1 hC h6, sum_br hC h6 n]
    simp only [sumN]
    omega
/-! parts of a town: at least as many as people less couples -/
def mrg (c : Int → Int) (p q : Int) : Int → Int := fun v => if c v = c q then c p else c v
def Idm (c : Int → Int) : Prop := ∀ v : Int, c (c v) = c v
theorem mrg_id {c : Int → Int} (h : Idm c) (p q : Int) : Idm (mrg c p q) := fun v => by
  unfold mrg
  by_cases z : c v = c q
  · rw [if_pos z, h p]
    by_cases y : c p = c q
    · rw [if_pos y]
    · rw [if_neg y]
  · rw [if_neg z, h v, if_neg z]
theorem cntN_le1 {f f' : Int → Bool} {x : Int} (h : ∀ v : Int, v ≠ x → f v = true → f' v = true) : ∀ n : Nat, cntN f n ≤ cntN f' n + 1 ∧ ((n : Int) ≤ x → cntN f n ≤ cntN f' n)
  | 0 => ⟨by simp [cntN], fun _ => by simp [cntN]⟩
  | n + 1 => by
    obtain ⟨h1, h2⟩ := cntN_le1 h n
    simp only [cntN]
    by_cases z : (n : Int) = x
    · have := h2 (by omega)
      refine ⟨?_, fun w => by omega⟩
      split <;> split <;> omega
    · have e : (if f n = true then (1 : Int) else 0) ≤ (if f' n = true then 1 else 0) := by
        by_cases y : f n = true
        · rw [if_pos y, if_pos (h _ z y)]; omega
        · rw [if_neg y]; split <;> omega
      exact ⟨by omega, fun w => by have := h2 (by omega); omega⟩
def fixN (c : Int → Int) (P : Nat) : Int := cntN (fun v => decide (c v = v)) P
theorem mrg_fix {c : Int → Int} (p q : Int) (P : Nat) : fixN c P ≤ fixN (mrg c p q) P + 1 := by
  refine (cntN_le1 (x := c q) (fun v hv hf => ?_) P).1
  have e : c v = v := of_decide_eq_true hf
  refine decide_eq_true ?_
  unfold mrg
  rw [if_neg (by rw [e]; exact hv), e]
/-- couples q below p, one by one -/
def cl1 (M : Int → Int → Bool) (p : Int) (c : Int → Int) : Nat → Int → Int
  | 0 => c
  | q + 1 => if M p q = true then mrg (cl1 M p c q) p q else cl1 M p c q
def cl2 (M : Int → Int → Bool) : Nat → Int → Int
  | 0 => fun v => v
  | p + 1 => cl1 M p (cl2 M p) p
theorem cl1_ok {M : Int → Int → Bool} {p : Int} {c : Int → Int} (hc : Idm c) (P : Nat) : ∀ n : Nat, Idm (cl1 M p c n) ∧ fixN c P ≤ fixN (cl1 M p c n) P + cntN (M p) n ∧ (∀ u v : Int, c u = c v → cl1 M p c n u = cl1 M p c n v) ∧ ∀ q : Nat, q < n → M p q = true → cl1 M p c n p = cl1 M p c n q
  | 0 => ⟨hc, by simp [cl1, cntN], fun u v h => h, fun q hq => absurd hq (Nat.not_lt_zero q)⟩
  | n + 1 => by
    obtain ⟨h1, h2, h3, h4⟩ := cl1_ok (M := M) (p := p) hc P n
    simp only [cl1, cntN]
    by_cases z : M p n = true
    · rw [if_pos z, if_pos z]
      have hk : ∀ u v : Int, cl1 M p c n u = cl1 M p c n v → mrg (cl1 M p c n) p n u = mrg (cl1 M p c n) p n v := fun u v h => by unfold mrg; rw [h]
      refine ⟨mrg_id h1 _ _, ?_, fun u v h => hk u v (h3 u v h), fun q hq hM => ?_⟩
      · have := mrg_fix (c := cl1 M p c n) p n P
        omega
      · by_cases y : q = n
        · subst y
          unfold mrg
          rw [if_pos rfl]
          by_cases x : cl1 M p c q p = cl1 M p c q q
          · rw [if_pos x]
          · rw [if_neg x]
        · exact hk _ _ (h4 q (by omega) hM)
    · rw [if_neg z, if_neg z]
      refine ⟨h1, by omega, h3, fun q hq hM => ?_⟩
      by_cases y : q = n
      · subst y; exact absurd hM z
      · exact h4 q (by omega) hM
theorem cl2_ok {M : Int → Int → Bool} (P : Nat) : ∀ n : Nat, Idm (cl2 M n) ∧ (P : Int) ≤ fixN (cl2 M n) P + sumN (fun p => cntN (M (p : Int)) p) n ∧ ∀ p q : Nat, p < n → q < p → M p q = true → cl2 M n p = cl2 M n q
  | 0 => by
    refine ⟨fun v => rfl, ?_, fun p q hp => absurd hp (Nat.not_lt_zero p)⟩
    have : ∀ m : Nat, cntN (fun v => decide (cl2 M 0 v = v)) m = m := fun m => by
      induction m with
      | zero => rfl
      | succ m ih =>
        simp only [cntN]
        rw [ih, if_pos (show decide (cl2 M 0 (m : Int) = (m : Int)) = true from decide_eq_true rfl)]
        omega
    show (P : Int) ≤ cntN (fun v => decide (cl2 M 0 v = v)) P + 0
    rw [this]
    omega
  | n + 1 => by
    obtain ⟨h1, h2, h3⟩ := cl2_ok (M := M) P n
    obtain ⟨g1, g2, g3, g4⟩ := cl1_ok (M := M) (p := n) (c := cl2 M n) h1 P n
    refine ⟨g1, ?_, fun p q hp hq hM => ?_⟩
    · simp only [sumN, cl2]
      omega
    · by_cases z : p = n
      · subst z; exact g4 q hq hM
      · exact g3 _ _ (h3 p q (by omega) hq hM)
/-- the couples counted by both are twice those counted by one -/
theorem cp_2 {M : Int → Int → Bool} (hs : ∀ p q : Int, M p q = M q p) (hi : ∀ p : Int, M p p = false) : ∀ P : Nat, sumN (fun p => cntN (M (p : Int)) P) P = 2 * sumN (fun p => cntN (M (p : Int)) p) P
  | 0 => rfl
  | P + 1 => by
    have ih := cp_2 hs hi P
    have e1 : sumN (fun p => cntN (M (p : Int)) (P + 1)) P = sumN (fun p => cntN (M (p : Int)) P) P + cntN (M P) P := by
      have e2 : ∀ n : Nat, sumN (fun p => cntN (M (p : Int)) (P + 1)) n = sumN (fun p => cntN (M (p : Int)) P) n + cntN (M P) n := fun n => by
        induction n with
        | zero => rfl
        | succ n ihn =>
          simp only [sumN]
          rw [ihn]
          simp only [cntN]
          rw [hs (n : Int) (P : Int)]
          omega
      exact e2 P
    simp only [sumN]
    rw [e1, ih]
    simp only [cntN]
    rw [hi, if_neg (by decide)]
    omega
theorem cntN_or_le {f f' : Int → Bool} : ∀ n : Nat, cntN (fun v => f v || f' v) n ≤ cntN f n + cntN f' n
  | 0 => by simp [cntN]
  | n + 1 => by
    have := cntN_or_le (f := f) (f' := f') n
    simp only [cntN]
    by_cases y : f n = true
    · rw [if_pos y, if_pos (by rw [y, Bool.true_or])]
      split <;> omega
    · by_cases z : f' n = true
      · rw [if_neg y, if_pos z, if_pos (by rw [z, Bool.or_true])]
        omega
      · rw [if_neg y, if_neg z, if_neg (by simp [y, z])]
        omega
theorem cntN_1 {f : Int → Bool} {x : Int} (h : ∀ v : Int, f v = true → v = x) (n : Nat) : cntN f n ≤ 1 := by
  have := (cntN_le1 (f := f) (f' := fun _ => false) (x := x) (fun v hv hf => absurd (h v hf) hv) n).1
  have e : ∀ m : Nat, cntN (fun _ => false) m = 0 := fun m => by
    induction m with
    | zero => rfl
    | succ m ih => simp only [cntN]; rw [ih]; rfl
  rw [e] at this
  omega
theorem metA_sym (C : Cf) (p q : Int) : metA C p q = metA C q p := metB_sym _ _ _
theorem metA_irr {C : Cf} (hC : CfOk C) (p : Int) : metA C p p = false := by
  cases h : metA C p p with
  | false => rfl
  | true =>
    obtain ⟨e, he, hh⟩ := metB_of h
    have := (lgs_ok hC 0 (cH C)).1 e he
    unfold EvOk at this
    omega
theorem pts_ge {C : Cf} (hC : CfOk C) {c : Int → Int} (hj : ∀ p q : Int, 0 ≤ p → p < cS C 0 → joi C p q = true → c q = c p) : ∀ n : Nat, (n : Int) ≤ cS C 0 → cntN (fun v => decide (c v = v) && (pts C n).1 v) (cS C 0).toNat ≤ (pts C n).2
  | 0, _ => by
    have e : ∀ m : Nat, cntN (fun v => decide (c v = v) && (pts C 0).1 v) m = 0 := fun m => by
      induction m with
      | zero => rfl
      | succ m ih => simp only [cntN]; rw [ih, if_neg (by simp [pts])]; rfl
    rw [e]
    exact Int.le_refl 0
  | n + 1, hn => by
    have ih := pts_ge hC hj n (by omega)
    by_cases z : (pts C n).1 n = true
    · have e : pts C (n + 1) = pts C n := by simp only [pts]; rw [if_pos z]
      rw [e]; exact ih
    · have e : pts C (n + 1) = (fun q => (pts C n).1 q || joi C n q, (pts C n).2 + 1) := by simp only [pts]; rw [if_neg z]
      rw [e]
      have e1 : cntN (fun v => decide (c v = v) && ((pts C n).1 v || joi C n v)) (cS C 0).toNat = cntN (fun v => (decide (c v = v) && (pts C n).1 v) || (decide (c v = v) && joi C n v)) (cS C 0).toNat := cntN_congr _ (fun v _ _ => Bool.and_or_distrib_left _ _ _)
      have e2 := cntN_or_le (f := fun v => decide (c v = v) && (pts C n).1 v) (f' := fun v => decide (c v = v) && joi C n v) (cS C 0).toNat
      have e3 := cntN_1 (f := fun v => decide (c v = v) && joi C n v) (x := c n) (fun v hv => by
        have h := (Bool.and_eq_true _ _ ▸ hv : decide (c v = v) = true ∧ joi C n v = true)
        have h1 : c v = v := of_decide_eq_true h.1
        rw [← hj n v (by omega) (by omega) h.2, h1]) (cS C 0).toNat
      show cntN (fun v => decide (c v = v) && ((pts C n).1 v || joi C n v)) (cS C 0).toNat ≤ (pts C n).2 + 1
      omega
theorem pts_seen {C : Cf} : ∀ n v : Nat, v < n → (pts C n).1 v = true
  | 0, v, h => absurd h (Nat.not_lt_zero v)
  | n + 1, v, h => by
    by_cases z : (pts C n).1 n = true
    · have e : pts C (n + 1) = pts C n := by simp only [pts]; rw [if_pos z]
      rw [e]
      by_cases y : v = n
      · subst y; exact z
      · exact pts_seen n v (by omega)
    · have e : pts C (n + 1) = (fun q => (pts C n).1 q || joi C n q, (pts C n).2 + 1) := by simp only [pts]; rw [if_neg z]
      rw [e]
      show ((pts C n).1 v || joi C n v) = true
      by_cases y : v = n
      · subst y; rw [joi_self, Bool.or_true]
      · rw [pts_seen n v (by omega), Bool.true_or]
theorem cpl_eq {C : Cf} (hC : CfOk C) : cpl2 C (cS C 0).toNat = 2 * sumN (fun p => cntN (metA C (p : Int)) p) (cS C 0).toNat := by
  rw [← cp_2 (metA_sym C) (metA_irr hC)]
  unfold cpl2
  exact sumN_congr _ (fun p _ => cntN_8 hC.2.1 hC.1 (fun q hq => (metA_in hC hq).2.2))
/-- parts and couples together are no fewer than people -/
theorem parts_ok {C : Cf} (hC : CfOk C) : cS C 0 ≤ (pts C (cS C 0).toNat).2 + cpl2 C (cS C 0).toNat / 2 := by
  have P0 := hC.1
  obtain ⟨c1, c2, c3⟩ := cl2_ok (M := metA C) (cS C 0).toNat (cS C 0).toNat
  generalize hc : cl2 (metA C) (cS C 0).toNat = c at c1 c2 c3
  have hM : ∀ p q : Int, 0 ≤ p → p < cS C 0 → metA C p q = true → c q = c p := fun p q p0 p1 h => by
    obtain ⟨-, q0, q1⟩ := metA_in hC h
    have hpq : p ≠ q := fun e => by subst e; rw [metA_irr hC] at h; exact Bool.noConfusion h
    have ep : ((p.toNat : Nat) : Int) = p := by omega
    have eq_ : ((q.toNat : Nat) : Int) = q := by omega
    by_cases z : q < p
    · have := c3 p.toNat q.toNat (by omega) (by omega) (by rw [ep, eq_]; exact h)
      rw [ep, eq_] at this
      exact this.symm
    · have := c3 q.toNat p.toNat (by omega) (by omega) (by rw [ep, eq_, metA_sym]; exact h)
      rw [ep, eq_] at this
      exact this
  have hj : ∀ p q : Int, 0 ≤ p → p < cS C 0 → joi C p q = true → c q = c p := fun p q p0 p1 h => by
    have hcl : clo (metA C) (cS C 0).toNat (fun q => decide (c q = c p)) := fun x y x0 x1 hx hxy => by
      have h1 : c x = c p := of_decide_eq_true hx
      exact decide_eq_true (by rw [hM x y x0 (by omega) hxy, h1])
    have := swpN_sub hcl (s := fun q => decide (q = p)) (fun q hq => by
      have : q = p := of_decide_eq_true hq
      exact decide_eq_true (by rw [this])) 8 q h
    exact of_decide_eq_true this
  have g1 := pts_ge hC hj (cS C 0).toNat (by omega)
  have g2 : cntN (fun v => decide (c v = v) && (pts C (cS C 0).toNat).1 v) (cS C 0).toNat = fixN c (cS C 0).toNat := cntN_congr _ (fun v v0 v1 => by
    have := pts_seen (C := C) (cS C 0).toNat v.toNat (by omega)
    rw [show ((v.toNat : Nat) : Int) = v by omega] at this
    rw [this, Bool.and_true])
  have g3 := cpl_eq hC
  omega
theorem pts_1 {C : Cf} : ∀ n : Nat, 1 ≤ n → 1 ≤ (pts C n).2
  | 0, h => absurd h (by decide)
  | 1, _ => by
    have : pts C 1 = (fun q => (pts C 0).1 q || joi C 0 q, (pts C 0).2 + 1) := by simp [pts]
    rw [this]
    show (1 : Int) ≤ (pts C 0).2 + 1
    exact Int.le_refl 1
  | n + 2, _ => by
    have ih := pts_1 (C := C) (n + 1) (by omega)
    show 1 ≤ (if (pts C (n + 1)).1 (n + 1 : Nat) = true then pts C (n + 1) else _).2
    split
    · exact ih
    · show 1 ≤ (pts C (n + 1)).2 + 1
      omega
