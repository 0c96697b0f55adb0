theorem PlanR.opn {σ σ' : xS} {C : Cf} {f : Int → Int → Bool} (H : PlanR σ C) (hf : ∀ o : Nat, o ≠ 141 → σ' o = σ o) (ho : ∀ a : Int, 0 ≤ a → a < cS C 0 → 0 ≤ σ' 141 a ∧ σ' 141 a < 256 ∧ ∀ b : Int, a < b → b < cS C 0 → tb (σ' 141 a) b = f a b) : PlanR σ' (mOp C f) := by
  obtain ⟨b0, b1, b2, b3, b4, b5, b6, b7, b8, b9, b10, b11, b12⟩ := H
  unfold PlanR
  rw [hf 138 (by decide), hf 139 (by decide), hf 140 (by decide), hf 142 (by decide)]
  exact ⟨b0, b1, b2, b3, b4, b5, b6, b7, b8, b9, b10, ho, b12⟩
theorem clr_bit {v x : Int} (h0 : 0 ≤ v) (h1 : v < 256) (x0 : 0 ≤ x) (x1 : x < 8) : 0 ≤ iand v (ixor (ishl 1 x) (-1)) ∧ iand v (ixor (ishl 1 x) (-1)) < 256 ∧ ∀ b : Int, 0 ≤ b → b < 8 → tb (iand v (ixor (ishl 1 x) (-1))) b = (tb v b && !decide (b = x)) := by
  have m := (msk_self (n := 8) h0 (by omega)).andn (by decide) (Msk.one (n := 8) (by decide) x0 x1)
  exact ⟨m.1, m.2.1, fun b b0 b1 => m.2.2 b b0 b1⟩
theorem sp_Pl_partP {g : xG} {K : Option MV → xS → Prop} {σ : xS} {C : Cf} {x w : Int} (hP : cS C 0 ≤ 8) (hp : PlanR σ C) (x0 : 0 ≤ x) (x1 : x < cS C 0) (w0 : 0 ≤ w) (w1 : w < cS C 0)
    (k : ∀ σ' : xS, PlanR σ' (mOp C (fun a b => cOp C a b && !((decide (x = a) && decide (w = b)) || (decide (x = b) && decide (w = a))))) → (∀ o : Nat, o ≠ 141 → σ' o = σ o) → K none σ') : Mt g y_Pl_part [vR 138, vI x, vI w] σ K := by
  have ho := hp.2.2.2.2.2.2.2.2.2.2.2.1
  by_cases e : x = w
  · subst e
    refine x_enter 0 rfl rfl rfl (fun Z => ?_)
    show Wx g y_Pl_part Z K 0 [vR 138, vI x, vI x] [] σ
    refine x_iload_n (dat d_Pl_part 0 rfl) rfl rfl ?_
    refine x_if_lt (tgt := 48) (dat d_Pl_part 1 rfl) (by decide) (fun c_1 => (by omega)) (fun c_1 => ?_)
    refine x_iload_n (dat d_Pl_part 2 rfl) rfl rfl ?_
    refine x_bipush (dat d_Pl_part 3 rfl) (by decide) (by decide) ?_
    refine x_icmp_ge (tgt := 48) (dat d_Pl_part 4 rfl) (by decide) (fun c_7 => (by omega)) (fun c_7 => ?_)
    refine x_iload_n (dat d_Pl_part 5 rfl) rfl rfl ?_
    refine x_if_lt (tgt := 48) (dat d_Pl_part 6 rfl) (by decide) (fun c_11 => (by omega)) (fun c_11 => ?_)
    refine x_iload_n (dat d_Pl_part 7 rfl) rfl rfl ?_
    refine x_bipush (dat d_Pl_part 8 rfl) (by decide) (by decide) ?_
    refine x_icmp_ge (tgt := 48) (dat d_Pl_part 9 rfl) (by decide) (fun c_17 => (by omega)) (fun c_17 => ?_)
    refine x_aload_n (dat d_Pl_part 10 rfl) rfl rfl ?_
    refine x_getr (r := 141) (dat d_Pl_part 11 rfl) rfl f_Pl_18 (or_mk (by decide +kernel)) ?_
    refine x_iload_n (dat d_Pl_part 12 rfl) rfl rfl ?_
    refine x_dup2 (dat d_Pl_part 13 rfl) rfl rfl ?_
    refine x_iald (n := 8) (v := σ 141 x) (dat d_Pl_part 14 rfl) (ai_mk (by decide +kernel)) (by omega) (by omega) rfl ?_
    refine x_iconst (dat d_Pl_part 15 rfl) (by decide) ?_
    refine x_iload_n (dat d_Pl_part 16 rfl) rfl rfl ?_
    refine x_ishl (v := ishl 1 x) (dat d_Pl_part 17 rfl) rfl ?_
    refine x_iconst (dat d_Pl_part 18 rfl) (by decide) ?_
    refine x_ixor (v := ixor (ishl 1 x) (-1)) (dat d_Pl_part 19 rfl) rfl ?_
    refine x_iand (v := iand (σ 141 x) (ixor (ishl 1 x) (-1))) (dat d_Pl_part 20 rfl) rfl ?_
    refine x_iast (n := 8) (dat d_Pl_part 21 rfl) (ai_mk (by decide +kernel)) (by omega) (by omega) ?_
    refine x_aload_n (dat d_Pl_part 22 rfl) rfl rfl ?_
    refine x_getr (r := 141) (dat d_Pl_part 23 rfl) rfl f_Pl_18 (or_mk (by decide +kernel)) ?_
    refine x_iload_n (dat d_Pl_part 24 rfl) rfl rfl ?_
    refine x_dup2 (dat d_Pl_part 25 rfl) rfl rfl ?_
    refine x_iald (n := 8) (v := iand (σ 141 x) (ixor (ishl 1 x) (-1))) (dat d_Pl_part 26 rfl) (ai_mk (by decide +kernel)) (by omega) (by omega) (up_s) ?_
    refine x_iconst (dat d_Pl_part 27 rfl) (by decide) ?_
    refine x_iload_n (dat d_Pl_part 28 rfl) rfl rfl ?_
    refine x_ishl (v := ishl 1 x) (dat d_Pl_part 29 rfl) rfl ?_
    refine x_iconst (dat d_Pl_part 30 rfl) (by decide) ?_
    refine x_ixor (v := ixor (ishl 1 x) (-1)) (dat d_Pl_part 31 rfl) rfl ?_
    refine x_iand (v := iand (iand (σ 141 x) (ixor (ishl 1 x) (-1))) (ixor (ishl 1 x) (-1))) (dat d_Pl_part 32 rfl) rfl ?_
    refine x_iast (n := 8) (dat d_Pl_part 33 rfl) (ai_mk (by decide +kernel)) (by omega) (by omega) ?_
    refine x_ret (dat d_Pl_part 34 rfl) rfl ?_
    obtain ⟨o1, o2, o3⟩ := ho x x0 x1
    obtain ⟨c1, c2, c3⟩ := clr_bit o1 o2 x0 (by omega)
    obtain ⟨d1, d2, d3⟩ := clr_bit c1 c2 x0 (by omega)
    refine k _ (hp.opn (fun o q => by rw [up_ne q, up_ne q]) (fun a a0 a1 => ?_)) (fun o q => by rw [up_ne q, up_ne q])
    by_cases e1 : a = x
    · subst e1
      rw [up_s]
      refine ⟨d1, d2, fun b ab b1 => ?_⟩
      rw [d3 b (by omega) (by omega), c3 b (by omega) (by omega), o3 b ab b1]
      have e2 : ¬ b = a := by omega
      have e3 : ¬ a = b := by omega
      simp [e2, e3]
    · rw [up_ni (fun q => e1 q.symm), up_ni (fun q => e1 q.symm)]
      refine ⟨(ho a a0 a1).1, (ho a a0 a1).2.1, fun b ab b1 => ?_⟩
      rw [(ho a a0 a1).2.2 b ab b1]
      have e2 : ¬ x = a := fun q => e1 q.symm
      simp [e2]
  · refine sp_Pl_part x0 (by omega) w0 (by omega) e ?_
    obtain ⟨o1, o2, o3⟩ := ho x x0 x1
    obtain ⟨c1, c2, c3⟩ := clr_bit (x := w) o1 o2 w0 (by omega)
    obtain ⟨r1, r2, r3⟩ := ho w w0 w1
    obtain ⟨d1, d2, d3⟩ := clr_bit (x := x) r1 r2 x0 (by omega)
    refine k _ (hp.opn (fun o q => by rw [up_ne q, up_ne q]) (fun a a0 a1 => ?_)) (fun o q => by rw [up_ne q, up_ne q])
    by_cases e1 : a = w
    · subst e1
      rw [up_s]
      refine ⟨d1, d2, fun b ab b1 => ?_⟩
      rw [d3 b (by omega) (by omega), r3 b ab b1]
      have e2 : ¬ x = a := e
      by_cases e3 : b = x
      · subst e3; simp [e2]
      · have e4 : ¬ x = b := fun q => e3 q.symm
        simp [e2, e3, e4]
    · rw [up_ni (fun q => e1 q.symm)]
      have e5 : ¬ w = a := fun q => e1 q.symm
      by_cases e2 : a = x
      · subst e2
        rw [up_s]
        refine ⟨c1, c2, fun b ab b1 => ?_⟩
        rw [c3 b (by omega) (by omega), o3 b ab b1]
        by_cases e3 : b = w
        · subst e3; simp
        · have e4 : ¬ w = b := fun q => e3 q.symm
          simp [e3, e4, e5]
      · rw [up_ni (fun q => e2 q.symm)]
        refine ⟨(ho a a0 a1).1, (ho a a0 a1).2.1, fun b ab b1 => ?_⟩
        rw [(ho a a0 a1).2.2 b ab b1]
        have e6 : ¬ x = a := fun q => e2 q.symm
        simp [e5, e6]
def opStay (C : Cf) (s : Int) : Int → Int → Bool := fun a b => cOp C a b && !(decide (a = s) || decide (b = s))
theorem lp_Pl_keepAway {g : xG} {Z : xZ} {K : Option MV → xS → Prop} {σ0 : xS} {C : Cf} {s : Int} (hC : CfOk C) (s0 : 0 ≤ s) (s1 : s < cS C 0) (k : ∀ σ : xS, PlanR σ (mOp C (opStay C s)) → PlanF σ σ0 → K none σ) : ∀ (n : Nat) (i : Int) (σ : xS), 0 ≤ i → i + n = cS C 0 → PlanR σ (mOp C (fun a b => cOp C a b && !((decide (a = s) && decide (b < i)) || (decide (b = s) && decide (a < i))))) → PlanF σ σ0 → Wx g y_Pl_keepAway Z K 2 [vR 138, vI s, vI i] [] σ := by
  have h8 := hC.2.1
  intro n
  induction n with
  | zero =>
    intro i σ q0 q1 H hf
    have e : i = cS C 0 := by omega
    subst e
    have e0 : σ 138 0 = cS C 0 := H.1
    refine x_iload_n (dat d_Pl_keepAway 2 rfl) rfl rfl ?_
    refine x_aload_n (dat d_Pl_keepAway 3 rfl) rfl rfl ?_
    refine x_geti (ji := 0) (v := cS C 0) (dat d_Pl_keepAway 4 rfl) rfl f_Pl_36 (oi_mk (by decide +kernel)) (e0) ?_
    refine x_icmp_ge (tgt := 22) (dat d_Pl_keepAway 5 rfl) (by decide) (fun c_7 => ?_) (fun c_7 => (by omega))
    refine x_ret (dat d_Pl_keepAway 12 rfl) rfl ?_
    refine k σ (H.congr (fun _ => rfl) (fun _ _ _ => rfl) (fun _ _ _ _ _ => rfl) (fun a b a0 ab b1 => ?_) (fun _ _ _ _ _ _ => rfl) (fun _ _ _ => rfl)) hf
    have r1 : b < cS C 0 := b1
    have r2 : a < cS C 0 := by omega
    show opStay C s a b = (cOp C a b && !((decide (a = s) && decide (b < cS C 0)) || (decide (b = s) && decide (a < cS C 0))))
    simp [opStay, r1, r2]
  | succ n ih =>
    intro i σ q0 q1 H hf
    have e0 : σ 138 0 = cS C 0 := H.1
    refine x_iload_n (dat d_Pl_keepAway 2 rfl) rfl rfl ?_
    refine x_aload_n (dat d_Pl_keepAway 3 rfl) rfl rfl ?_
    refine x_geti (ji := 0) (v := cS C 0) (dat d_Pl_keepAway 4 rfl) rfl f_Pl_36 (oi_mk (by decide +kernel)) (e0) ?_
    refine x_icmp_ge (tgt := 22) (dat d_Pl_keepAway 5 rfl) (by decide) (fun c_7 => (by omega)) (fun c_7 => ?_)
    refine x_aload_n (dat d_Pl_keepAway 6 rfl) rfl rfl ?_
    refine x_iload_n (dat d_Pl_keepAway 7 rfl) rfl rfl ?_
    refine x_iload_n (dat d_Pl_keepAway 8 rfl) rfl rfl ?_
    refine x_inv (As := [vI s, vI i]) (dat d_Pl_keepAway 9 rfl) rfl c_Pl_part l_Pl_87 (by decide) (rv_pl (by decide +kernel)) rfl rfl (Nat.le_of_ble_eq_true rfl) ?_
    refine sp_Pl_partP (C := mOp C (fun a b => cOp C a b && !((decide (a = s) && decide (b < i)) || (decide (b = s) && decide (a < i))))) h8 H s0 s1 q0 (show i < cS C 0 by omega) (fun σ2 H2 hf2 => ?_)
    show Wx g y_Pl_keepAway Z K 16 [vR 138, vI s, vI i] [] σ2
    refine x_iinc (v' := i + 1) (L' := [vR 138, vI s, vI (i + 1)]) (dat d_Pl_keepAway 10 rfl) rfl (by decide) rfl rfl (by omega) rfl ?_
    refine x_goto (tgt := 2) (dat d_Pl_keepAway 11 rfl) (by decide) ?_
    refine ih (i + 1) σ2 (by omega) (by omega) (H2.congr (fun _ => rfl) (fun _ _ _ => rfl) (fun _ _ _ _ _ => rfl) (fun a b a0 ab b1 => ?_) (fun _ _ _ _ _ _ => rfl) (fun _ _ _ => rfl)) (fun j hj => by rw [hf2 j (by omega)]; exact hf j hj)
    show (cOp C a b && !((decide (a = s) && decide (b < i + 1)) || (decide (b = s) && decide (a < i + 1)))) = ((cOp C a b && !((decide (a = s) && decide (b < i)) || (decide (b = s) && decide (a < i)))) && !((decide (s = a) && decide (i = b)) || (decide (s = b) && decide (i = a))))
    have e1 : decide (b < i + 1) = (decide (b < i) || decide (i = b)) := by
      by_cases z : b < i
      · have : b < i + 1 := by omega
        simp [z, this]
      · by_cases z2 : i = b
        · subst z2
          simp
          omega
        · have : ¬ b < i + 1 := by omega
          simp [z, z2, this]
    have e2 : decide (a < i + 1) = (decide (a < i) || decide (i = a)) := by
      by_cases z : a < i
      · have : a < i + 1 := by omega
        simp [z, this]
      · by_cases z2 : i = a
        · subst z2
          simp
          omega
        · have : ¬ a < i + 1 := by omega
          simp [z, z2, this]
    have e3 : decide (s = a) = decide (a = s) := by simp [eq_comm]
    have e4 : decide (s = b) = decide (b = s) := by simp [eq_comm]
    rw [e1, e2, e3, e4]
    cases cOp C a b <;> cases decide (a = s) <;> cases decide (b = s) <;> cases decide (b < i) <;> cases decide (i = b) <;> cases decide (a < i) <;> cases decide (i = a) <;> rfl
theorem sp_Pl_keepAway {g : xG} {K : Option MV → xS → Prop} {σ : xS} {C : Cf} {s : Int} (hC : CfOk C) (hp : PlanR σ C) (s0 : 0 ≤ s) (s1 : s < cS C 0) (k : ∀ σ' : xS, PlanR σ' (mOp C (opStay C s)) → PlanF σ' σ → K none σ') : Mt g y_Pl_keepAway [vR 138, vI s] σ K := by
  refine x_enter 1 rfl rfl rfl (fun Z => ?_)
  show Wx g y_Pl_keepAway Z K 0 [vR 138, vI s, vU] [] σ
  refine x_iconst (dat d_Pl_keepAway 0 rfl) (by decide) ?_
  refine x_istore_n (L' := [vR 138, vI s, vI 0]) (dat d_Pl_keepAway 1 rfl) rfl (by decide) rfl rfl ?_
  refine lp_Pl_keepAway hC s0 s1 k (cS C 0).toNat 0 σ (by omega) (by have := hC.1; omega) (hp.congr (fun _ => rfl) (fun _ _ _ => rfl) (fun _ _ _ _ _ => rfl) (fun a b a0 ab b1 => ?_) (fun _ _ _ _ _ _ => rfl) (fun _ _ _ => rfl)) (fun _ _ => rfl)
  show (cOp C a b && !((decide (a = s) && decide (b < 0)) || (decide (b = s) && decide (a < 0)))) = cOp C a b
  have r1 : ¬ b < 0 := by omega
  have r2 : ¬ a < 0 := by omega
  simp [r1, r2]
theorem lp_Pl_isOther {g : xG} {Z : xZ} {K : Option MV → xS → Prop} {σ : xS} {C : Cf} {h p c : Int} (hC : CfOk C) (hp : PlanR σ C) (h0 : 0 ≤ h) (h1 : h < cS C 1) (kt : (∃ q : Int, 0 ≤ q ∧ q < cS C 0 ∧ q ≠ p ∧ cWh C h q = c) → K (some (vI 1)) σ) (kf : (∀ q : Int, 0 ≤ q → q < cS C 0 → q ≠ p → cWh C h q ≠ c) → K (some (vI 0)) σ) : ∀ (n : Nat) (i : Int), 0 ≤ i → i + n = cS C 0 → (∀ q : Int, 0 ≤ q → q < i → q ≠ p → cWh C h q ≠ c) → Wx g y_Pl_isOtherThere Z K 3 [vR 138, vI h, vI p, vI c, vI i] [] σ := by
  have h8 := hC.2.1
  have h24 := hC.2.2.2.1
  have e0 : σ 138 0 = cS C 0 := hp.1
  intro n
  induction n with
  | zero =>
    intro i q0 q1 H
    have e : i = cS C 0 := by omega
    subst e
    refine x_iload (dat d_Pl_isOtherThere 2 rfl) rfl ?_
    refine x_aload_n (dat d_Pl_isOtherThere 3 rfl) rfl rfl ?_
    refine x_geti (ji := 0) (v := cS C 0) (dat d_Pl_isOtherThere 4 rfl) rfl f_Pl_36 (oi_mk (by decide +kernel)) (e0) ?_
    refine x_icmp_ge (tgt := 42) (dat d_Pl_isOtherThere 5 rfl) (by decide) (fun c_9 => ?_) (fun c_9 => (by omega))
    refine x_iconst (dat d_Pl_isOtherThere 23 rfl) (by decide) ?_
    refine x_zret (dat d_Pl_isOtherThere 24 rfl) rfl (by decide) ?_
    exact kf H
  | succ n ih =>
    intro i q0 q1 H
    have wi : σ 142 (8 * h + i) = cWh C h i := hp.2.2.2.2.2.2.2.2.2.2.2.2 h i h0 h1 q0 (by omega)
    refine x_iload (dat d_Pl_isOtherThere 2 rfl) rfl ?_
    refine x_aload_n (dat d_Pl_isOtherThere 3 rfl) rfl rfl ?_
    refine x_geti (ji := 0) (v := cS C 0) (dat d_Pl_isOtherThere 4 rfl) rfl f_Pl_36 (oi_mk (by decide +kernel)) (e0) ?_
    refine x_icmp_ge (tgt := 42) (dat d_Pl_isOtherThere 5 rfl) (by decide) (fun c_9 => (by omega)) (fun c_9 => ?_)
    refine x_iload (dat d_Pl_isOtherThere 6 rfl) rfl ?_
    refine x_iload_n (dat d_Pl_isOtherThere 7 rfl) rfl rfl ?_
    refine x_icmp_eq (tgt := 36) (dat d_Pl_isOtherThere 8 rfl) (by decide) (fun c_15 => ?_) (fun c_15 => ?_)
    · refine x_iinc (v' := i + 1) (L' := [vR 138, vI h, vI p, vI c, vI (i + 1)]) (dat d_Pl_isOtherThere 21 rfl) rfl (by decide) rfl rfl (by omega) rfl ?_
      refine x_goto (tgt := 3) (dat d_Pl_isOtherThere 22 rfl) (by decide) ?_
      refine ih (i + 1) (by omega) (by omega) (fun q r0 r1 r2 => ?_)
      by_cases e : q = i
      · subst e
        first | exact absurd c_15 r2 | exact c_31
      · exact H q r0 (by omega) r2
    · refine x_aload_n (dat d_Pl_isOtherThere 9 rfl) rfl rfl ?_
      refine x_getr (r := 142) (dat d_Pl_isOtherThere 10 rfl) rfl f_Pl_21 (or_mk (by decide +kernel)) ?_
      refine x_iload_n (dat d_Pl_isOtherThere 11 rfl) rfl rfl ?_
      refine x_bipush (dat d_Pl_isOtherThere 12 rfl) (by decide) (by decide) ?_
      refine x_imul (v := 8 * h) (dat d_Pl_isOtherThere 13 rfl) (by omega) (by omega) ?_
      refine x_iload (dat d_Pl_isOtherThere 14 rfl) rfl ?_
      refine x_iadd (v := (8 * h) + i) (dat d_Pl_isOtherThere 15 rfl) rfl (by omega) ?_
      refine x_iald (n := 192) (v := cWh C h i) (dat d_Pl_isOtherThere 16 rfl) (ai_mk (by decide +kernel)) (by omega) (by omega) (wi) ?_
      refine x_iload_n (dat d_Pl_isOtherThere 17 rfl) rfl rfl ?_
      refine x_icmp_ne (tgt := 36) (dat d_Pl_isOtherThere 18 rfl) (by decide) (fun c_31 => ?_) (fun c_31 => ?_)
      · refine x_iinc (v' := i + 1) (L' := [vR 138, vI h, vI p, vI c, vI (i + 1)]) (dat d_Pl_isOtherThere 21 rfl) rfl (by decide) rfl rfl (by omega) rfl ?_
        refine x_goto (tgt := 3) (dat d_Pl_isOtherThere 22 rfl) (by decide) ?_
        refine ih (i + 1) (by omega) (by omega) (fun q r0 r1 r2 => ?_)
        by_cases e : q = i
        · subst e
          first | exact absurd c_15 r2 | exact c_31
        · exact H q r0 (by omega) r2
      · refine x_iconst (dat d_Pl_isOtherThere 19 rfl) (by decide) ?_
        refine x_zret (dat d_Pl_isOtherThere 20 rfl) rfl (by decide) ?_
        exact kt ⟨i, q0, by omega, c_15, c_31⟩
theorem sp_Pl_isOther {g : xG} {K : Option MV → xS → Prop} {σ : xS} {C : Cf} {h p c : Int} (hC : CfOk C) (hp : PlanR σ C) (h0 : 0 ≤ h) (h1 : h < cS C 1) (kt : (∃ q : Int, 0 ≤ q ∧ q < cS C 0 ∧ q ≠ p ∧ cWh C h q = c) → K (some (vI 1)) σ) (kf : (∀ q : Int, 0 ≤ q → q < cS C 0 → q ≠ p → cWh C h q ≠ c) → K (some (vI 0)) σ) : Mt g y_Pl_isOtherThere [vR 138, vI h, vI p, vI c] σ K := by
  refine x_enter 1 rfl rfl rfl (fun Z => ?_)
  show Wx g y_Pl_isOtherThere Z K 0 [vR 138, vI h, vI p, vI c, vU] [] σ
  refine x_iconst (dat d_Pl_isOtherThere 0 rfl) (by decide) ?_
  refine x_istore (L' := [vR 138, vI h, vI p, vI c, vI 0]) (dat d_Pl_isOtherThere 1 rfl) (by decide) rfl rfl ?_
  exact lp_Pl_isOther hC hp h0 h1 kt kf (cS C 0).toNat 0 (by omega) (by have := hC.1; omega) (fun q r0 r1 _ => by omega)
theorem sp_Tw_hasPerson {g : xG} {K : Option MV → xS → Prop} {σ : xS} {o : Nat} {t : Int → Int} {p : Int} (ho : IsTw o) (hT : TownOk t) (hR : TownR σ o t) (kt : 0 ≤ p → p < t 6 → K (some (vI 1)) σ) (kf : ¬ (0 ≤ p ∧ p < t 6) → K (some (vI 0)) σ) : Mt g y_Tw_hasPerson [vR o, vI p] σ K := by
  have h8 := hT.2.2.2.2.2.2.1.2
  have r := hR.1 6 (by decide) (by decide)
  refine x_enter 0 rfl rfl rfl (fun Z => ?_)
  show Wx g y_Tw_hasPerson Z K 0 [vR o, vI p] [] σ
  refine x_iload_n (dat d_Tw_hasPerson 0 rfl) rfl rfl ?_
  refine x_if_lt (tgt := 22) (dat d_Tw_hasPerson 1 rfl) (by decide) (fun c_1 => ?_) (fun c_1 => ?_)
  · refine x_iconst (dat d_Tw_hasPerson 11 rfl) (by decide) ?_
    refine x_zret (dat d_Tw_hasPerson 12 rfl) rfl (by decide) ?_
    first | exact kt (by omega) (by omega) | exact kf (by omega)
  · refine x_iload_n (dat d_Tw_hasPerson 2 rfl) rfl rfl ?_
    refine x_aload_n (dat d_Tw_hasPerson 3 rfl) rfl rfl ?_
    refine x_geti (ji := 6) (v := t 6) (dat d_Tw_hasPerson 4 rfl) rfl f_Tw_55 (tw_oi_6 ho) (r) ?_
    refine x_icmp_ge (tgt := 22) (dat d_Tw_hasPerson 5 rfl) (by decide) (fun c_9 => ?_) (fun c_9 => ?_)
    · refine x_iconst (dat d_Tw_hasPerson 11 rfl) (by decide) ?_
      refine x_zret (dat d_Tw_hasPerson 12 rfl) rfl (by decide) ?_
      first | exact kt (by omega) (by omega) | exact kf (by omega)
    · refine x_iload_n (dat d_Tw_hasPerson 6 rfl) rfl rfl ?_
      refine x_bipush (dat d_Tw_hasPerson 7 rfl) (by decide) (by decide) ?_
      refine x_icmp_ge (tgt := 22) (dat d_Tw_hasPerson 8 rfl) (by decide) (fun c_15 => ?_) (fun c_15 => ?_)
      · refine x_iconst (dat d_Tw_hasPerson 11 rfl) (by decide) ?_
        refine x_zret (dat d_Tw_hasPerson 12 rfl) rfl (by decide) ?_
        first | exact kt (by omega) (by omega) | exact kf (by omega)
      · refine x_iconst (dat d_Tw_hasPerson 9 rfl) (by decide) ?_
        refine x_goto (tgt := 23) (dat d_Tw_hasPerson 10 rfl) (by decide) ?_
        refine x_zret (dat d_Tw_hasPerson 12 rfl) rfl (by decide) ?_
        first | exact kt (by omega) (by omega) | exact kf (by omega)
theorem sp_Tw_hasHour {g : xG} {K : Option MV → xS → Prop} {σ : xS} {o : Nat} {t : Int → Int} {p : Int} (ho : IsTw o) (hT : TownOk t) (hR : TownR σ o t) (kt : 0 ≤ p → p < t 3 → K (some (vI 1)) σ) (kf : ¬ (0 ≤ p ∧ p < t 3) → K (some (vI 0)) σ) : Mt g y_Tw_hasHour [vR o, vI p] σ K := by
  have h8 := hT.2.2.2.1.2
  have r := hR.1 3 (by decide) (by decide)
  refine x_enter 0 rfl rfl rfl (fun Z => ?_)
  show Wx g y_Tw_hasHour Z K 0 [vR o, vI p] [] σ
  refine x_iload_n (dat d_Tw_hasHour 0 rfl) rfl rfl ?_
  refine x_if_lt (tgt := 22) (dat d_Tw_hasHour 1 rfl) (by decide) (fun c_1 => ?_) (fun c_1 => ?_)
  · refine x_iconst (dat d_Tw_hasHour 11 rfl) (by decide) ?_
    refine x_zret (dat d_Tw_hasHour 12 rfl) rfl (by decide) ?_
    first | exact kt (by omega) (by omega) | exact kf (by omega)
  · refine x_iload_n (dat d_Tw_hasHour 2 rfl) rfl rfl ?_
    refine x_aload_n (dat d_Tw_hasHour 3 rfl) rfl rfl ?_
    refine x_geti (ji := 3) (v := t 3) (dat d_Tw_hasHour 4 rfl) rfl f_Tw_46 (tw_oi_3 ho) (r) ?_
    refine x_icmp_ge (tgt := 22) (dat d_Tw_hasHour 5 rfl) (by decide) (fun c_9 => ?_) (fun c_9 => ?_)
    · refine x_iconst (dat d_Tw_hasHour 11 rfl) (by decide) ?_
      refine x_zret (dat d_Tw_hasHour 12 rfl) rfl (by decide) ?_
      first | exact kt (by omega) (by omega) | exact kf (by omega)
    · refine x_iload_n (dat d_Tw_hasHour 6 rfl) rfl rfl ?_
      refine x_bipush (dat d_Tw_hasHour 7 rfl) (by decide) (by decide) ?_
      refine x_icmp_ge (tgt := 22) (dat d_Tw_hasHour 8 rfl) (by decide) (fun c_15 => ?_) (fun c_15 => ?_)
      · refine x_iconst (dat d_Tw_hasHour 11 rfl) (by decide) ?_
        refine x_zret (dat d_Tw_hasHour 12 rfl) rfl (by decide) ?_
        first | exact kt (by omega) (by omega) | exact kf (by omega)
      · refine x_iconst (dat d_Tw_hasHour 9 rfl) (by decide) ?_
        refine x_goto (tgt := 23) (dat d_Tw_hasHour 10 rfl) (by decide) ?_
        refine x_zret (dat d_Tw_hasHour 12 rfl) rfl (by decide) ?_
        first | exact kt (by omega) (by omega) | exact kf (by omega)
theorem cells_bd {t : Int → Int} (hT : TownOk t) : 4 ≤ t 0 * t 1 ∧ t 0 * t 1 ≤ 36 := by
  obtain ⟨⟨a1, a2⟩, ⟨b1, b2⟩, -⟩ := hT
  rcases (show t 0 = 2 ∨ t 0 = 3 ∨ t 0 = 4 ∨ t 0 = 5 ∨ t 0 = 6 by omega) with e | e | e | e | e <;> rw [e] <;> omega
theorem sp_Tw_hasCell {g : xG} {K : Option MV → xS → Prop} {σ : xS} {o : Nat} {t : Int → Int} {p : Int} (ho : IsTw o) (hT : TownOk t) (hR : TownR σ o t) (kt : 0 ≤ p → p < t 0 * t 1 → K (some (vI 1)) σ) (kf : ¬ (0 ≤ p ∧ p < t 0 * t 1) → K (some (vI 0)) σ) : Mt g y_Tw_hasCell [vR o, vI p] σ K := by
  have hc := cells_bd hT
  have r0 := hR.1 0 (by decide) (by decide)
  have r1 := hR.1 1 (by decide) (by decide)
  refine x_enter 0 rfl rfl rfl (fun Z => ?_)
  show Wx g y_Tw_hasCell Z K 0 [vR o, vI p] [] σ
  refine x_iload_n (dat d_Tw_hasCell 0 rfl) rfl rfl ?_
  refine x_if_lt (tgt := 21) (dat d_Tw_hasCell 1 rfl) (by decide) (fun c_1 => ?_) (fun c_1 => ?_)
  · refine x_iconst (dat d_Tw_hasCell 11 rfl) (by decide) ?_
    refine x_zret (dat d_Tw_hasCell 12 rfl) rfl (by decide) ?_
    first | exact kt (by omega) (by omega) | exact kf (by omega)
  · refine x_iload_n (dat d_Tw_hasCell 2 rfl) rfl rfl ?_
    refine x_aload_n (dat d_Tw_hasCell 3 rfl) rfl rfl ?_
    refine x_geti (ji := 0) (v := t 0) (dat d_Tw_hasCell 4 rfl) rfl f_Tw_36 (tw_oi_0 ho) (r0) ?_
    refine x_aload_n (dat d_Tw_hasCell 5 rfl) rfl rfl ?_
    refine x_geti (ji := 1) (v := t 1) (dat d_Tw_hasCell 6 rfl) rfl f_Tw_40 (tw_oi_1 ho) (r1) ?_
    refine x_imul (v := (t 0) * (t 1)) (dat d_Tw_hasCell 7 rfl) rfl (by omega) ?_
    refine x_icmp_ge (tgt := 21) (dat d_Tw_hasCell 8 rfl) (by decide) (fun c_14 => ?_) (fun c_14 => ?_)
    · refine x_iconst (dat d_Tw_hasCell 11 rfl) (by decide) ?_
      refine x_zret (dat d_Tw_hasCell 12 rfl) rfl (by decide) ?_
      first | exact kt (by omega) (by omega) | exact kf (by omega)
    · refine x_iconst (dat d_Tw_hasCell 9 rfl) (by decide) ?_
      refine x_goto (tgt := 22) (dat d_Tw_hasCell 10 rfl) (by decide) ?_
      refine x_zret (dat d_Tw_hasCell 12 rfl) rfl (by decide) ?_
      first | exact kt (by omega) (by omega) | exact kf (by omega)
/-- where a step of a walk leads -/
def stepT (t : Int → Int) (c s : Int) : Int :=
  if s = 4 then c else if s = 0 then (if c < t 0 then -1 else c - t 0) else if s = 1 then (if c % t 0 = t 0 - 1 then -1 else c + 1) else if s = 2 then (if t 0 * t 1 ≤ c + t 0 then -1 else c + t 0) else (if c % t 0 = 0 then -1 else c - 1)
theorem sp_Tw_cellBeside {g : xG} {K : Option MV → xS → Prop} {σ : xS} {o : Nat} {t : Int → Int} {c s : Int} (ho : IsTw o) (hT : TownOk t) (hR : TownR σ o t) (c0 : 0 ≤ c) (c1 : c < 100) (s0 : 0 ≤ s) (s1 : s < 5) (k : K (some (vI (stepT t c s))) σ) : Mt g y_Tw_cellBeside [vR o, vI c, vI s] σ K := by
  have hc := cells_bd hT
  have hw := hT.1
  have r0 := hR.1 0 (by decide) (by decide)
  have r1 := hR.1 1 (by decide) (by decide)
  have hm : 0 ≤ c % t 0 ∧ c % t 0 < t 0 := ⟨Int.emod_nonneg _ (by omega), Int.emod_lt_of_pos _ (by omega)⟩
  refine x_enter 0 rfl rfl rfl (fun Z => ?_)
  show Wx g y_Tw_cellBeside Z K 0 [vR o, vI c, vI s] [] σ
  refine x_aload_n (dat d_Tw_cellBeside 0 rfl) rfl rfl ?_
  refine x_geti (ji := 0) (v := t 0) (dat d_Tw_cellBeside 1 rfl) rfl f_Tw_36 (tw_oi_0 ho) (r0) ?_
  refine x_iconst (dat d_Tw_cellBeside 2 rfl) (by decide) ?_
  refine x_icmp_ge (tgt := 10) (dat d_Tw_cellBeside 3 rfl) (by decide) (fun c_5 => ?_) (fun c_5 => (by omega))
  refine x_iload_n (dat d_Tw_cellBeside 6 rfl) rfl rfl ?_
  by_cases c_11 : s < 0 ∨ 4 < s
  · omega
  · have e_11 : s = 0 ∨ s = 1 ∨ s = 2 ∨ s = 3 ∨ s = 4 := by omega
    rcases e_11 with e_11 | e_11 | e_11 | e_11 | e_11
    · refine x_tableIn (tgt := 44) (dat d_Tw_cellBeside 7 rfl).1 0 rfl (by omega) (by decide) ?_
      refine x_iload_n (dat d_Tw_cellBeside 8 rfl) rfl rfl ?_
      refine x_aload_n (dat d_Tw_cellBeside 9 rfl) rfl rfl ?_
      refine x_geti (ji := 0) (v := t 0) (dat d_Tw_cellBeside 10 rfl) rfl f_Tw_36 (tw_oi_0 ho) (r0) ?_
      refine x_icmp_lt (tgt := 61) (dat d_Tw_cellBeside 11 rfl) (by decide) (fun c_49 => ?_) (fun c_49 => ?_)
      · refine x_iconst (dat d_Tw_cellBeside 17 rfl) (by decide) ?_
        refine x_iret (dat d_Tw_cellBeside 18 rfl) rfl ?_
        unfold stepT at k
        simp only [e_11] at k
        first
        | exact k
        | (simp at k
           first | exact k | (rw [if_pos (by omega)] at k; exact k) | (rw [if_neg (by omega)] at k; exact k))
      · refine x_iload_n (dat d_Tw_cellBeside 12 rfl) rfl rfl ?_
        refine x_aload_n (dat d_Tw_cellBeside 13 rfl) rfl rfl ?_
        refine x_geti (ji := 0) (v := t 0) (dat d_Tw_cellBeside 14 rfl) rfl f_Tw_36 (tw_oi_0 ho) (r0) ?_
        refine x_isub (v := c - (t 0)) (dat d_Tw_cellBeside 15 rfl) rfl (by omega) ?_
        refine x_goto (tgt := 62) (dat d_Tw_cellBeside 16 rfl) (by decide) ?_
        refine x_iret (dat d_Tw_cellBeside 18 rfl) rfl ?_
        unfold stepT at k
        simp only [e_11] at k
        first
        | exact k
        | (simp at k
           first | exact k | (rw [if_pos (by omega)] at k; exact k) | (rw [if_neg (by omega)] at k; exact k))
    · refine x_tableIn (tgt := 63) (dat d_Tw_cellBeside 7 rfl).1 1 rfl (by omega) (by decide) ?_
      refine x_iload_n (dat d_Tw_cellBeside 19 rfl) rfl rfl ?_
      refine x_aload_n (dat d_Tw_cellBeside 20 rfl) rfl rfl ?_
      refine x_geti (ji := 0) (v := t 0) (dat d_Tw_cellBeside 21 rfl) rfl f_Tw_36 (tw_oi_0 ho) (r0) ?_
      refine x_irem (v := c % (t 0)) (dat d_Tw_cellBeside 22 rfl) (by omega) rfl ?_
      refine x_aload_n (dat d_Tw_cellBeside 23 rfl) rfl rfl ?_
      refine x_geti (ji := 0) (v := t 0) (dat d_Tw_cellBeside 24 rfl) rfl f_Tw_36 (tw_oi_0 ho) (r0) ?_
      refine x_iconst (dat d_Tw_cellBeside 25 rfl) (by decide) ?_
      refine x_isub (v := (t 0) - 1) (dat d_Tw_cellBeside 26 rfl) rfl (by omega) ?_
      refine x_icmp_ge (tgt := 84) (dat d_Tw_cellBeside 27 rfl) (by decide) (fun c_75 => ?_) (fun c_75 => ?_)
      · refine x_iconst (dat d_Tw_cellBeside 32 rfl) (by decide) ?_
        refine x_iret (dat d_Tw_cellBeside 33 rfl) rfl ?_
        unfold stepT at k
        simp only [e_11] at k
        first
        | exact k
        | (simp at k
           first | exact k | (rw [if_pos (by omega)] at k; exact k) | (rw [if_neg (by omega)] at k; exact k))
      · refine x_iload_n (dat d_Tw_cellBeside 28 rfl) rfl rfl ?_
        refine x_iconst (dat d_Tw_cellBeside 29 rfl) (by decide) ?_
        refine x_iadd (v := c + 1) (dat d_Tw_cellBeside 30 rfl) rfl (by omega) ?_
        refine x_goto (tgt := 85) (dat d_Tw_cellBeside 31 rfl) (by decide) ?_
        refine x_iret (dat d_Tw_cellBeside 33 rfl) rfl ?_
        unfold stepT at k
        simp only [e_11] at k
        first
        | exact k
        | (simp at k
           first | exact k | (rw [if_pos (by omega)] at k; exact k) | (rw [if_neg (by omega)] at k; exact k))
    · refine x_tableIn (tgt := 86) (dat d_Tw_cellBeside 7 rfl).1 2 rfl (by omega) (by decide) ?_
      refine x_iload_n (dat d_Tw_cellBeside 34 rfl) rfl rfl ?_
      refine x_aload_n (dat d_Tw_cellBeside 35 rfl) rfl rfl ?_
      refine x_geti (ji := 0) (v := t 0) (dat d_Tw_cellBeside 36 rfl) rfl f_Tw_36 (tw_oi_0 ho) (r0) ?_
      refine x_iadd (v := c + (t 0)) (dat d_Tw_cellBeside 37 rfl) rfl (by omega) ?_
      refine x_aload_n (dat d_Tw_cellBeside 38 rfl) rfl rfl ?_
      refine x_geti (ji := 0) (v := t 0) (dat d_Tw_cellBeside 39 rfl) rfl f_Tw_36 (tw_oi_0 ho) (r0) ?_
      refine x_aload_n (dat d_Tw_cellBeside 40 rfl) rfl rfl ?_
      refine x_geti (ji := 1) (v := t 1) (dat d_Tw_cellBeside 41 rfl) rfl f_Tw_40 (tw_oi_1 ho) (r1) ?_
      refine x_imul (v := (t 0) * (t 1)) (dat d_Tw_cellBeside 42 rfl) rfl (by omega) ?_
      refine x_icmp_ge (tgt := 113) (dat d_Tw_cellBeside 43 rfl) (by decide) (fun c_101 => ?_) (fun c_101 => ?_)
      · refine x_iconst (dat d_Tw_cellBeside 49 rfl) (by decide) ?_
        refine x_iret (dat d_Tw_cellBeside 50 rfl) rfl ?_
        unfold stepT at k
        simp only [e_11] at k
        first
        | exact k
        | (simp at k
           first | exact k | (rw [if_pos (by omega)] at k; exact k) | (rw [if_neg (by omega)] at k; exact k))
      · refine x_iload_n (dat d_Tw_cellBeside 44 rfl) rfl rfl ?_
        refine x_aload_n (dat d_Tw_cellBeside 45 rfl) rfl rfl ?_
        refine x_geti (ji := 0) (v := t 0) (dat d_Tw_cellBeside 46 rfl) rfl f_Tw_36 (tw_oi_0 ho) (r0) ?_
        refine x_iadd (v := c + (t 0)) (dat d_Tw_cellBeside 47 rfl) rfl (by omega) ?_
        refine x_goto (tgt := 114) (dat d_Tw_cellBeside 48 rfl) (by decide) ?_
        refine x_iret (dat d_Tw_cellBeside 50 rfl) rfl ?_
        unfold stepT at k
        simp only [e_11] at k
        first
        | exact k
        | (simp at k
           first | exact k | (rw [if_pos (by omega)] at k; exact k) | (rw [if_neg (by omega)] at k; exact k))
    · refine x_tableIn (tgt := 115) (dat d_Tw_cellBeside 7 rfl).1 3 rfl (by omega) (by decide) ?_
      refine x_iload_n (dat d_Tw_cellBeside 51 rfl) rfl rfl ?_
      refine x_aload_n (dat d_Tw_cellBeside 52 rfl) rfl rfl ?_
      refine x_geti (ji := 0) (v := t 0) (dat d_Tw_cellBeside 53 rfl) rfl f_Tw_36 (tw_oi_0 ho) (r0) ?_
      refine x_irem (v := c % (t 0)) (dat d_Tw_cellBeside 54 rfl) (by omega) rfl ?_
      refine x_if_le (tgt := 130) (dat d_Tw_cellBeside 55 rfl) (by decide) (fun c_121 => ?_) (fun c_121 => ?_)
      · refine x_iconst (dat d_Tw_cellBeside 60 rfl) (by decide) ?_
        refine x_iret (dat d_Tw_cellBeside 61 rfl) rfl ?_
        unfold stepT at k
        simp only [e_11] at k
        first
        | exact k
        | (simp at k
           first | exact k | (rw [if_pos (by omega)] at k; exact k) | (rw [if_neg (by omega)] at k; exact k))
      · refine x_iload_n (dat d_Tw_cellBeside 56 rfl) rfl rfl ?_
        refine x_iconst (dat d_Tw_cellBeside 57 rfl) (by decide) ?_
        refine x_isub (v := c - 1) (dat d_Tw_cellBeside 58 rfl) rfl (by omega) ?_
        refine x_goto (tgt := 131) (dat d_Tw_cellBeside 59 rfl) (by decide) ?_
        refine x_iret (dat d_Tw_cellBeside 61 rfl) rfl ?_
        unfold stepT at k
        simp only [e_11] at k
        first
        | exact k
        | (simp at k
           first | exact k | (rw [if_pos (by omega)] at k; exact k) | (rw [if_neg (by omega)] at k; exact k))
    · refine x_tableIn (tgt := 132) (dat d_Tw_cellBeside 7 rfl).1 4 rfl (by omega) (by decide) ?_
      refine x_iload_n (dat d_Tw_cellBeside 62 rfl) rfl rfl ?_
      refine x_iret (dat d_Tw_cellBeside 63 rfl) rfl ?_
      unfold stepT at k
      simp only [e_11] at k
      first
      | exact k
      | (simp at k
         first | exact k | (rw [if_pos (by omega)] at k; exact k) | (rw [if_neg (by omega)] at k; exact k))
