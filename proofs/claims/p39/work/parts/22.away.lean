theorem PlanR.opn {σ σ' : xS} {C : Cf} {f : Int → Int → Bool} (H : PlanR σ C) (hf : ∀ o : Nat, o ≠ 141 → σ' o = σ o) (ho : ∀ a : Int, 0 ≤ a → a < cS C 0 → 0 ≤ σ' 141 a ∧ σ' 141 a < 256 ∧ ∀ b : Int, a < b → b < cS C 0 → tb (σ' 141 a) b = f a b) : PlanR σ' (mOp C f) := by
  obtain ⟨b0, b1, b2, b3, b4, b5, b6, b7, b8, b9, b10, b11, b12⟩ := H
  unfold PlanR
  rw [hf 138 (by decide), hf 139 (by decide), hf 140 (by decide), hf 142 (by decide)]
  exact ⟨b0, b1, b2, b3, b4, b5, b6, b7, b8, b9, b10, ho, b12⟩
theorem clr_bit {v x : Int} (h0 : 0 ≤ v) (h1 : v < 256) (x0 : 0 ≤ x) (x1 : x < 8) : 0 ≤ iand v (ixor (ishl 1 x) (-1)) ∧ iand v (ixor (ishl 1 x) (-1)) < 256 ∧ ∀ b : Int, 0 ≤ b → b < 8 → tb (iand v (ixor (ishl 1 x) (-1))) b = (tb v b && !decide (b = x)) := by
  have m := (msk_self (n := 8) h0 (by omega)).andn (by decide) (Msk.one (n := 8) (by decide) x0 x1)
  exact ⟨m.1, m.2.1, fun b b0 b1 => m.2.2 b b0 b1⟩
theorem sp_Pl_partP {g : xG} {K : Option MV → xS → Prop} {σ : xS} {C : Cf} {x w : Int} (hP : cS C 0 ≤ 8) (hp : PlanR σ C) (x0 : 0 ≤ x) (x1 : x < cS C 0) (w0 : 0 ≤ w) (w1 : w < cS C 0)
    (k : ∀ σ' : xS, PlanR σ' (mOp C (fun a b => cOp C a b && !((decide (x = a) && decide (w = b)) || (decide (x = b) && decide (w = a))))) → (∀ o : Nat, o ≠ 141 → σ' o = σ o) → K none σ') : Mt g y_Pl_part [vR 138, vI x, vI w] σ K := by
  have ho := hp.2.2.2.2.2.2.2.2.2.2.2.1
  by_cases e : x = w
  · subst e
    refine x_enter 0 rfl rfl rfl (fun Z => ?_)
    show Wx g y_Pl_part Z K 0 [vR 138, vI x, vI x] [] σ
    refine x_iload_n (dat d_Pl_part 0 rfl) rfl rfl ?_
    refine x_if_lt (tgt := 48) (dat d_Pl_part 1 rfl) (by decide) (fun c_1 => (by omega)) (fun c_1 => ?_)
    refine x_iload_n (dat d_Pl_part 2 rfl) rfl rfl ?_
    refine x_bipush (dat d_Pl_part 3 rfl) (by decide) (by decide) ?_
    refine x_icmp_ge (tgt := 48) (dat d_Pl_part 4 rfl) (by decide) (fun c_7 => (by omega)) (fun c_7 => ?_)
    refine x_iload_n (dat d_Pl_part 5 rfl) rfl rfl ?_
    refine x_if_lt (tgt := 48) (dat d_Pl_part 6 rfl) (by decide) (fun c_11 => (by omega)) (fun c_11 => ?_)
    refine x_iload_n (dat d_Pl_part 7 rfl) rfl rfl ?_
    refine x_bipush (dat d_Pl_part 8 rfl) (by decide) (by decide) ?_
    refine x_icmp_ge (tgt := 48) (dat d_Pl_part 9 rfl) (by decide) (fun c_17 => (by omega)) (fun c_17 => ?_)
    refine x_aload_n (dat d_Pl_part 10 rfl) rfl rfl ?_
    refine x_getr (r := 141) (dat d_Pl_part 11 rfl) rfl f_Pl_18 (or_mk (by decide +kernel)) ?_
    refine x_iload_n (dat d_Pl_part 12 rfl) rfl rfl ?_
    refine x_dup2 (dat d_Pl_part 13 rfl) rfl rfl ?_
    refine x_iald (n := 8) (v := σ 141 x) (dat d_Pl_part 14 rfl) (ai_mk (by decide +kernel)) (by omega) (by omega) rfl ?_
    refine x_iconst (dat d_Pl_part 15 rfl) (by decide) ?_
    refine x_iload_n (dat d_Pl_part 16 rfl) rfl rfl ?_
    refine x_ishl (v := ishl 1 x) (dat d_Pl_part 17 rfl) rfl ?_
    refine x_iconst (dat d_Pl_part 18 rfl) (by decide) ?_
    refine x_ixor (v := ixor (ishl 1 x) (-1)) (dat d_Pl_part 19 rfl) rfl ?_
    refine x_iand (v := iand (σ 141 x) (ixor (ishl 1 x) (-1))) (dat d_Pl_part 20 rfl) rfl ?_
    refine x_iast (n := 8) (dat d_Pl_part 21 rfl) (ai_mk (by decide +kernel)) (by omega) (by omega) ?_
    refine x_aload_n (dat d_Pl_part 22 rfl) rfl rfl ?_
    refine x_getr (r := 141) (dat d_Pl_part 23 rfl) rfl f_Pl_18 (or_mk (by decide +kernel)) ?_
    refine x_iload_n (dat d_Pl_part 24 rfl) rfl rfl ?_
    refine x_dup2 (dat d_Pl_part 25 rfl) rfl rfl ?_
    refine x_iald (n := 8) (v := iand (σ 141 x) (ixor (ishl 1 x) (-1))) (dat d_Pl_part 26 rfl) (ai_mk (by decide +kernel)) (by omega) (by omega) (up_s) ?_
    refine x_iconst (dat d_Pl_part 27 rfl) (by decide) ?_
    refine x_iload_n (dat d_Pl_part 28 rfl) rfl rfl ?_
    refine x_ishl (v := ishl 1 x) (dat d_Pl_part 29 rfl) rfl ?_
    refine x_iconst (dat d_Pl_part 30 rfl) (by decide) ?_
    refine x_ixor (v := ixor (ishl 1 x) (-1)) (dat d_Pl_part 31 rfl) rfl ?_
    refine x_iand (v := iand (iand (σ 141 x) (ixor (ishl 1 x) (-1))) (ixor (ishl 1 x) (-1))) (dat d_Pl_part 32 rfl) rfl ?_
    refine x_iast (n := 8) (dat d_Pl_part 33 rfl) (ai_mk (by decide +kernel)) (by omega) (by omega) ?_
    refine x_ret (dat d_Pl_part 34 rfl) rfl ?_
    obtain ⟨o1, o2, o3⟩ := ho x x0 x1
    obtain ⟨c1, c2, c3⟩ := clr_bit o1 o2 x0 (by omega)
    obtain ⟨d1, d2, d3⟩ := clr_bit c1 c2 x0 (by omega)
    refine k _ (hp.opn (fun o q => by rw [up_ne q, up_ne q]) (fun a a0 a1 => ?_)) (fun o q => by rw [up_ne q, up_ne q])
    by_cases e1 : a = x
    · subst e1
      rw [up_s]
      refine ⟨d1, d2, fun b ab b1 => ?_⟩
      rw [d3 b (by omega) (by omega), c3 b (by omega) (by omega), o3 b ab b1]
      have e2 : ¬ b = a := by omega
      have e3 : ¬ a = b := by omega
      simp [e2, e3]
    · rw [up_ni (fun q => e1 q.symm), up_ni (fun q => e1 q.symm)]
      refine ⟨(ho a a0 a1).1, (ho a a0 a1).2.1, fun b ab b1 => ?_⟩
      rw [(ho a a0 a1).2.2 b ab b1]
      have e2 : ¬ x = a := fun q => e1 q.symm
      simp [e2]
  · refine sp_Pl_part x0 (by omega) w0 (by omega) e ?_
    obtain ⟨o1, o2, o3⟩ := ho x x0 x1
    obtain ⟨c1, c2, c3⟩ := clr_bit (x := w) o1 o2 w0 (by omega)
    obtain ⟨r1, r2, r3⟩ := ho w w0 w1
    obtain ⟨d1, d2, d3⟩ := clr_bit (x := x) r1 r2 x0 (by omega)
    refine k _ (hp.opn (fun o q => by rw [up_ne q, up_ne q]) (fun a a0 a1 => ?_)) (fun o q => by rw [up_ne q, up_ne q])
    by_cases e1 : a = w
    · subst e1
      rw [up_s]
      refine ⟨d1, d2, fun b ab b1 => ?_⟩
      rw [d3 b (by omega) (by omega), r3 b ab b1]
      have e2 : ¬ x = a := e
      by_cases e3 : b = x
      · subst e3; simp [e2]
      · have e4 : ¬ x = b := fun q => e3 q.symm
        simp [e2, e3, e4]
    · rw [up_ni (fun q => e1 q.symm)]
      have e5 : ¬ w = a := fun q => e1 q.symm
      by_cases e2 : a = x
      · subst e2
        rw [up_s]
        refine ⟨c1, c2, fun b ab b1 => ?_⟩
        rw [c3 b (by omega) (by omega), o3 b ab b1]
        by_cases e3 : b = w
        · subst e3; simp
        · have e4 : ¬ w = b := fun q => e3 q.symm
          simp [e3, e4, e5]
      · rw [up_ni (fun q => e2 q.symm)]
        refine ⟨(ho a a0 a1).1, (ho a a0 a1).2.1, fun b ab b1 => ?_⟩
        rw [(ho a a0 a1).2.2 b ab b1]
        have e6 : ¬ x = a := fun q => e2 q.symm
        simp [e5, e6]
def opStay (C : Cf) (s : Int) : Int → Int → Bool := fun a b => cOp C a b && !(decide (a = s) || decide (b = s))
theorem lp_Pl_isOther {g : xG} {Z : xZ} {K : Option MV → xS → Prop} {σ : xS} {C : Cf} {h p c : Int} (hC : CfOk C) (hp : PlanR σ C) (h0 : 0 ≤ h) (h1 : h < cS C 1) (kt : (∃ q : Int, 0 ≤ q ∧ q < cS C 0 ∧ q ≠ p ∧ cWh C h q = c) → K (some (vI 1)) σ) (kf : (∀ q : Int, 0 ≤ q → q < cS C 0 → q ≠ p → cWh C h q ≠ c) → K (some (vI 0)) σ) : ∀ (n : Nat) (i : Int), 0 ≤ i → i + n = cS C 0 → (∀ q : Int, 0 ≤ q → q < i → q ≠ p → cWh C h q ≠ c) → Wx g y_Pl_isOtherThere Z K 3 [vR 138, vI h, vI p, vI c, vI i] [] σ := by
  have h8 := hC.2.1
  have h24 := hC.2.2.2.1
  have e0 : σ 138 0 = cS C 0 := hp.1
  intro n
  induction n with
  | zero =>
    intro i q0 q1 H
    have e : i = cS C 0 := by omega
    subst e
    refine x_iload (dat d_Pl_isOtherThere 2 rfl) rfl ?_
    refine x_aload_n (dat d_Pl_isOtherThere 3 rfl) rfl rfl ?_
    refine x_geti (ji := 0) (v := cS C 0) (dat d_Pl_isOtherThere 4 rfl) rfl f_Pl_36 (oi_mk (by decide +kernel)) (e0) ?_
    refine x_icmp_ge (tgt := 42) (dat d_Pl_isOtherThere 5 rfl) (by decide) (fun c_9 => ?_) (fun c_9 => (by omega))
    refine x_iconst (dat d_Pl_isOtherThere 23 rfl) (by decide) ?_
    refine x_zret (dat d_Pl_isOtherThere 24 rfl) rfl (by decide) ?_
    exact kf H
  | succ n ih =>
    intro i q0 q1 H
    have wi : σ 142 (8 * h + i) = cWh C h i := hp.2.2.2.2.2.2.2.2.2.2.2.2 h i h0 h1 q0 (by omega)
    refine x_iload (dat d_Pl_isOtherThere 2 rfl) rfl ?_
    refine x_aload_n (dat d_Pl_isOtherThere 3 rfl) rfl rfl ?_
    refine x_geti (ji := 0) (v := cS C 0) (dat d_Pl_isOtherThere 4 rfl) rfl f_Pl_36 (oi_mk (by decide +kernel)) (e0) ?_
    refine x_icmp_ge (tgt := 42) (dat d_Pl_isOtherThere 5 rfl) (by decide) (fun c_9 => (by omega)) (fun c_9 => ?_)
    refine x_iload (dat d_Pl_isOtherThere 6 rfl) rfl ?_
    refine x_iload_n (dat d_Pl_isOtherThere 7 rfl) rfl rfl ?_
    refine x_icmp_eq (tgt := 36) (dat d_Pl_isOtherThere 8 rfl) (by decide) (fun c_15 => ?_) (fun c_15 => ?_)
    · refine x_iinc (v' := i + 1) (L' := [vR 138, vI h, vI p, vI c, vI (i + 1)]) (dat d_Pl_isOtherThere 21 rfl) rfl (by decide) rfl rfl (by omega) rfl ?_
      refine x_goto (tgt := 3) (dat d_Pl_isOtherThere 22 rfl) (by decide) ?_
      refine ih (i + 1) (by omega) (by omega) (fun q r0 r1 r2 => ?_)
      by_cases e : q = i
      · subst e
        first | exact absurd c_15 r2 | exact c_31
      · exact H q r0 (by omega) r2
    · refine x_aload_n (dat d_Pl_isOtherThere 9 rfl) rfl rfl ?_
      refine x_getr (r := 142) (dat d_Pl_isOtherThere 10 rfl) rfl f_Pl_21 (or_mk (by decide +kernel)) ?_
      refine x_iload_n (dat d_Pl_isOtherThere 11 rfl) rfl rfl ?_
      refine x_bipush (dat d_Pl_isOtherThere 12 rfl) (by decide) (by decide) ?_
      refine x_imul (v := 8 * h) (dat d_Pl_isOtherThere 13 rfl) (by omega) (by omega) ?_
      refine x_iload (dat d_Pl_isOtherThere 14 rfl) rfl ?_
      refine x_iadd (v := (8 * h) + i) (dat d_Pl_isOtherThere 15 rfl) rfl (by omega) ?_
      refine x_iald (n := 192) (v := cWh C h i) (dat d_Pl_isOtherThere 16 rfl) (ai_mk (by decide +kernel)) (by omega) (by omega) (wi) ?_
      refine x_iload_n (dat d_Pl_isOtherThere 17 rfl) rfl rfl ?_
      refine x_icmp_ne (tgt := 36) (dat d_Pl_isOtherThere 18 rfl) (by decide) (fun c_31 => ?_) (fun c_31 => ?_)
      · refine x_iinc (v' := i + 1) (L' := [vR 138, vI h, vI p, vI c, vI (i + 1)]) (dat d_Pl_isOtherThere 21 rfl) rfl (by decide) rfl rfl (by omega) rfl ?_
        refine x_goto (tgt := 3) (dat d_Pl_isOtherThere 22 rfl) (by decide) ?_
        refine ih (i + 1) (by omega) (by omega) (fun q r0 r1 r2 => ?_)
        by_cases e : q = i
        · subst e
          first | exact absurd c_15 r2 | exact c_31
        · exact H q r0 (by omega) r2
      · refine x_iconst (dat d_Pl_isOtherThere 19 rfl) (by decide) ?_
        refine x_zret (dat d_Pl_isOtherThere 20 rfl) rfl (by decide) ?_
        exact kt ⟨i, q0, by omega, c_15, c_31⟩
theorem sp_Pl_isOther {g : xG} {K : Option MV → xS → Prop} {σ : xS} {C : Cf} {h p c : Int} (hC : CfOk C) (hp : PlanR σ C) (h0 : 0 ≤ h) (h1 : h < cS C 1) (kt : (∃ q : Int, 0 ≤ q ∧ q < cS C 0 ∧ q ≠ p ∧ cWh C h q = c) → K (some (vI 1)) σ) (kf : (∀ q : Int, 0 ≤ q → q < cS C 0 → q ≠ p → cWh C h q ≠ c) → K (some (vI 0)) σ) : Mt g y_Pl_isOtherThere [vR 138, vI h, vI p, vI c] σ K := by
  refine x_enter 1 rfl rfl rfl (fun Z => ?_)
  show Wx g y_Pl_isOtherThere Z K 0 [vR 138, vI h, vI p, vI c, vU] [] σ
  refine x_iconst (dat d_Pl_isOtherThere 0 rfl) (by decide) ?_
  refine x_istore (L' := [vR 138, vI h, vI p, vI c, vI 0]) (dat d_Pl_isOtherThere 1 rfl) (by decide) rfl rfl ?_
  exact lp_Pl_isOther hC hp h0 h1 kt kf (cS C 0).toNat 0 (by omega) (by have := hC.1; omega) (fun q r0 r1 _ => by omega)
theorem sp_Tw_hasPerson {g : xG} {K : Option MV → xS → Prop} {σ : xS} {o : Nat} {t : Int → Int} {p : Int} (ho : IsTw o) (hT : TownOk t) (hR : TownR σ o t) (kt : 0 ≤ p → p < t 6 → K (some (vI 1)) σ) (kf : ¬ (0 ≤ p ∧ p < t 6) → K (some (vI 0)) σ) : Mt g y_Tw_hasPerson [vR o, vI p] σ K := by
  have h8 := hT.2.2.2.2.2.2.1.2
  have r := hR.1 6 (by decide) (by decide)
  refine x_enter 0 rfl rfl rfl (fun Z => ?_)
  show Wx g y_Tw_hasPerson Z K 0 [vR o, vI p] [] σ
  refine x_iload_n (dat d_Tw_hasPerson 0 rfl) rfl rfl ?_
  refine x_if_lt (tgt := 22) (dat d_Tw_hasPerson 1 rfl) (by decide) (fun c_1 => ?_) (fun c_1 => ?_)
  · refine x_iconst (dat d_Tw_hasPerson 11 rfl) (by decide) ?_
    refine x_zret (dat d_Tw_hasPerson 12 rfl) rfl (by decide) ?_
    first | exact kt (by omega) (by omega) | exact kf (by omega)
  · refine x_iload_n (dat d_Tw_hasPerson 2 rfl) rfl rfl ?_
    refine x_aload_n (dat d_Tw_hasPerson 3 rfl) rfl rfl ?_
    refine x_geti (ji := 6) (v := t 6) (dat d_Tw_hasPerson 4 rfl) rfl f_Tw_55 (tw_oi_6 ho) (r) ?_
    refine x_icmp_ge (tgt := 22) (dat d_Tw_hasPerson 5 rfl) (by decide) (fun c_9 => ?_) (fun c_9 => ?_)
    · refine x_iconst (dat d_Tw_hasPerson 11 rfl) (by decide) ?_
      refine x_zret (dat d_Tw_hasPerson 12 rfl) rfl (by decide) ?_
      first | exact kt (by omega) (by omega) | exact kf (by omega)
    · refine x_iload_n (dat d_Tw_hasPerson 6 rfl) rfl rfl ?_
      refine x_bipush (dat d_Tw_hasPerson 7 rfl) (by decide) (by decide) ?_
      refine x_icmp_ge (tgt := 22) (dat d_Tw_hasPerson 8 rfl) (by decide) (fun c_15 => ?_) (fun c_15 => ?_)
      · refine x_iconst (dat d_Tw_hasPerson 11 rfl) (by decide) ?_
        refine x_zret (dat d_Tw_hasPerson 12 rfl) rfl (by decide) ?_
        first | exact kt (by omega) (by omega) | exact kf (by omega)
      · refine x_iconst (dat d_Tw_hasPerson 9 rfl) (by decide) ?_
        refine x_goto (tgt := 23) (dat d_Tw_hasPerson 10 rfl) (by decide) ?_
        refine x_zret (dat d_Tw_hasPerson 12 rfl) rfl (by decide) ?_
        first | exact kt (by omega) (by omega) | exact kf (by omega)
theorem sp_Tw_hasHour {g : xG} {K : Option MV → xS → Prop} {σ : xS} {o : Nat} {t : Int → Int} {p : Int} (ho : IsTw o) (hT : TownOk t) (hR : TownR σ o t) (kt : 0 ≤ p → p < t 3 → K (some (vI 1)) σ) (kf : ¬ (0 ≤ p ∧ p < t 3) → K (some (vI 0)) σ) : Mt g y_Tw_hasHour [vR o, vI p] σ K := by
  have h8 := hT.2.2.2.1.2
  have r := hR.1 3 (by decide) (by decide)
  refine x_enter 0 rfl rfl rfl (fun Z => ?_)
  show Wx g y_Tw_hasHour Z K 0 [vR o, vI p] [] σ
  refine x_iload_n (dat d_Tw_hasHour 0 rfl) rfl rfl ?_
  refine x_if_lt (tgt := 22) (dat d_Tw_hasHour 1 rfl) (by decide) (fun c_1 => ?_) (fun c_1 => ?_)
  · refine x_iconst (dat d_Tw_hasHour 11 rfl) (by decide) ?_
    refine x_zret (dat d_Tw_hasHour 12 rfl) rfl (by decide) ?_
    first | exact kt (by omega) (by omega) | exact kf (by omega)
  · refine x_iload_n (dat d_Tw_hasHour 2 rfl) rfl rfl ?_
    refine x_aload_n (dat d_Tw_hasHour 3 rfl) rfl rfl ?_
    refine x_geti (ji := 3) (v := t 3) (dat d_Tw_hasHour 4 rfl) rfl f_Tw_46 (tw_oi_3 ho) (r) ?_
    refine x_icmp_ge (tgt := 22) (dat d_Tw_hasHour 5 rfl) (by decide) (fun c_9 => ?_) (fun c_9 => ?_)
    · refine x_iconst (dat d_Tw_hasHour 11 rfl) (by decide) ?_
      refine x_zret (dat d_Tw_hasHour 12 rfl) rfl (by decide) ?_
      first | exact kt (by omega) (by omega) | exact kf (by omega)
    · refine x_iload_n (dat d_Tw_hasHour 6 rfl) rfl rfl ?_
      refine x_bipush (dat d_Tw_hasHour 7 rfl) (by decide) (by decide) ?_
      refine x_icmp_ge (tgt := 22) (dat d_Tw_hasHour 8 rfl) (by decide) (fun c_15 => ?_) (fun c_15 => ?_)
      · refine x_iconst (dat d_Tw_hasHour 11 rfl) (by decide) ?_
        refine x_zret (dat d_Tw_hasHour 12 rfl) rfl (by decide) ?_
        first | exact kt (by omega) (by omega) | exact kf (by omega)
      · refine x_iconst (dat d_Tw_hasHour 9 rfl) (by decide) ?_
        refine x_goto (tgt := 23) (dat d_Tw_hasHour 10 rfl) (by decide) ?_
        refine x_zret (dat d_Tw_hasHour 12 rfl) rfl (by decide) ?_
        first | exact kt (by omega) (by omega) | exact kf (by omega)
theorem cells_bd {t : Int → Int} (hT : TownOk t) : 4 ≤ t 0 * t 1 ∧ t 0 * t 1 ≤ 36 := by
  obtain ⟨⟨a1, a2⟩, ⟨b1, b2⟩, -⟩ := hT
  rcases (show t 0 = 2 ∨ t 0 = 3 ∨ t 0 = 4 ∨ t 0 = 5 ∨ t 0 = 6 by omega) with e | e | e | e | e <;> rw [e] <;> omega
/-- where a step of a walk leads -/
def stepT (t : Int → Int) (c s : Int) : Int :=
  if s = 4 then c else if s = 0 then (if c < t 0 then -1 else c - t 0) else if s = 1 then (if c % t 0 = t 0 - 1 then -1 else c + 1) else if s = 2 then (if t 0 * t 1 ≤ c + t 0 then -1 else c + t 0) else (if c % t 0 = 0 then -1 else c - 1)
