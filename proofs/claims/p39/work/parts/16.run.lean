/-! a run, hour by hour -/
theorem sp_Ru_eatsAt {g : xG} {K : Option MV → xS → Prop} {σ : xS} {u : Nat} {C : Cf} {h : Int} (hu : IsRu u) (hC : CfOk C) (h3 : σ u 3 = cS C 4) (h0 : 0 ≤ h) (h1 : h < 24) (kt : eats C h = true → K (some (vI 1)) σ) (kf : eats C h = false → K (some (vI 0)) σ) : Mt g y_Ru_eatsAt [vR u, vI h] σ K := by
  have h4 := hC.2.2.2.2.2.2.1
  refine x_enter 0 rfl rfl rfl (fun Z => ?_)
  show Wx g y_Ru_eatsAt Z K 0 [vR u, vI h] [] σ
  refine x_aload_n (dat d_Ru_eatsAt 0 rfl) rfl rfl ?_
  refine x_geti (ji := 3) (v := cS C 4) (dat d_Ru_eatsAt 1 rfl) rfl f_Ru_58 (ru_oi_3 hu) (h3) ?_
  refine x_if_le (tgt := 22) (dat d_Ru_eatsAt 2 rfl) (by decide) (fun c_4 => (by omega)) (fun c_4 => ?_)
  refine x_iload_n (dat d_Ru_eatsAt 3 rfl) rfl rfl ?_
  refine x_iconst (dat d_Ru_eatsAt 4 rfl) (by decide) ?_
  refine x_iadd (v := h + 1) (dat d_Ru_eatsAt 5 rfl) rfl (by omega) ?_
  refine x_aload_n (dat d_Ru_eatsAt 6 rfl) rfl rfl ?_
  refine x_geti (ji := 3) (v := cS C 4) (dat d_Ru_eatsAt 7 rfl) rfl f_Ru_58 (ru_oi_3 hu) (h3) ?_
  refine x_irem (v := (h + 1) % (cS C 4)) (dat d_Ru_eatsAt 8 rfl) (by omega) rfl ?_
  refine x_if_ne (tgt := 22) (dat d_Ru_eatsAt 9 rfl) (by decide) (fun c_15 => ?_) (fun c_15 => ?_)
  · refine x_iconst (dat d_Ru_eatsAt 12 rfl) (by decide) ?_
    refine x_zret (dat d_Ru_eatsAt 13 rfl) rfl (by decide) ?_
    first
    | exact kt (by unfold eats; exact decide_eq_true c_15)
    | exact kf (by unfold eats; exact decide_eq_false c_15)
  · refine x_iconst (dat d_Ru_eatsAt 10 rfl) (by decide) ?_
    refine x_goto (tgt := 23) (dat d_Ru_eatsAt 11 rfl) (by decide) ?_
    refine x_zret (dat d_Ru_eatsAt 13 rfl) rfl (by decide) ?_
    first
    | exact kt (by unfold eats; exact decide_eq_true c_15)
    | exact kf (by unfold eats; exact decide_eq_false c_15)
def EatI (σ0 σ : xS) (u : Nat) (C : Cf) (bd : Int → Int) (al : Int → Bool) (i : Int) : Prop :=
  (∀ p : Int, 0 ≤ p → p < cS C 0 → σ (u + 12) p = if p < i then eatB C bd al p else bd p) ∧ Msk 8 (σ u 12) (fun q => if q < i then eatA C bd al q else al q) ∧ (∀ o : Nat, o ≠ u → o ≠ u + 12 → σ o = σ0 o) ∧ (∀ j : Int, j ≠ 12 → σ u j = σ0 u j)
theorem lp_Ru_eat {g : xG} {Z : xZ} {K : Option MV → xS → Prop} {σ0 : xS} {u : Nat} {C : Cf} {bd : Int → Int} {al : Int → Bool} (hu : IsRu u) (hC : CfOk C) (h20 : σ0 u 0 = cS C 0) (h2 : σ0 u 2 = cS C 3) (hB : BdOk (cS C 0) 1000 bd)
    (k : ∀ σ' : xS, EatI σ0 σ' u C bd al (cS C 0) → K none σ') : ∀ (n : Nat) (i : Int) (σ : xS), 0 ≤ i → i + n = cS C 0 → EatI σ0 σ u C bd al i → Wx g y_Ru_eat Z K 2 [vR u, vI i] [] σ := by
  have h8 := hC.2.1
  have hn0 := hC.2.2.2.2.1
  have hn9 := hC.2.2.2.2.2.1
  intro n
  induction n with
  | zero =>
    intro i σ h0 hi H
    have e0 : σ u 0 = cS C 0 := by rw [H.2.2.2 0 (by decide), h20]
    have ei : i = cS C 0 := by omega
    subst ei
    refine x_iload_n (dat d_Ru_eat 2 rfl) rfl rfl ?_
    refine x_aload_n (dat d_Ru_eat 3 rfl) rfl rfl ?_
    refine x_geti (ji := 0) (v := cS C 0) (dat d_Ru_eat 4 rfl) rfl f_Ru_46 (ru_oi_0 hu) (e0) ?_
    refine x_icmp_ge (tgt := 70) (dat d_Ru_eat 5 rfl) (by decide) (fun c_7 => ?_) (fun c_7 => (by omega))
    refine x_ret (dat d_Ru_eat 42 rfl) rfl ?_
    exact k _ H
  | succ n ih =>
    intro i σ h0 hi H
    have e0 : σ u 0 = cS C 0 := by rw [H.2.2.2 0 (by decide), h20]
    have e2 : σ u 2 = cS C 3 := by rw [H.2.2.2 2 (by decide), h2]
    have eb : σ (u + 12) i = bd i := by rw [H.1 i h0 (by omega), if_neg (by omega)]
    have em : iand (ishr (σ u 12) i) 1 = if al i = true then 1 else 0 := by
      have := H.2.1.get (by decide) h0 (by omega)
      simpa using this
    have hbi := hB.le h0 (show i < cS C 0 by omega)
    have nx : ∀ σ2 : xS, EatI σ0 σ2 u C bd al (i + 1) → Wx g y_Ru_eat Z K 2 [vR u, vI (i + 1)] [] σ2 := fun σ2 H2 => ih (i + 1) σ2 (by omega) (by omega) H2
    have kB : ∀ p : Int, p ≠ i → (if p < i + 1 then eatB C bd al p else bd p) = if p < i then eatB C bd al p else bd p := fun p e1 => by
      by_cases e5 : p < i
      · rw [if_pos e5, if_pos (by omega)]
      · rw [if_neg e5, if_neg (by omega)]
    have kA : ∀ q : Int, (if q < i + 1 then eatA C bd al q else al q) = if q = i then eatA C bd al i else (if q < i then eatA C bd al q else al q) := fun q => by
      by_cases e5 : q = i
      · subst e5
        rw [if_pos rfl, if_pos (by omega)]
      · rw [if_neg e5]
        by_cases e6 : q < i
        · rw [if_pos e6, if_pos (by omega)]
        · rw [if_neg e6, if_neg (by omega)]
    cases ha : al i
    · have fB : eatB C bd al i = bd i := by simp [eatB, ha]
      have fA : eatA C bd al i = false := by simp [eatA, ha]
      refine x_iload_n (dat d_Ru_eat 2 rfl) rfl rfl ?_
      refine x_aload_n (dat d_Ru_eat 3 rfl) rfl rfl ?_
      refine x_geti (ji := 0) (v := cS C 0) (dat d_Ru_eat 4 rfl) rfl f_Ru_46 (ru_oi_0 hu) (e0) ?_
      refine x_icmp_ge (tgt := 70) (dat d_Ru_eat 5 rfl) (by decide) (fun c_7 => (by omega)) (fun c_7 => ?_)
      refine x_aload_n (dat d_Ru_eat 6 rfl) rfl rfl ?_
      refine x_geti (ji := 12) (v := σ u 12) (dat d_Ru_eat 7 rfl) rfl f_Ru_71 (ru_oi_12 hu) rfl ?_
      refine x_iload_n (dat d_Ru_eat 8 rfl) rfl rfl ?_
      refine x_ishr (v := ishr (σ u 12) i) (dat d_Ru_eat 9 rfl) rfl ?_
      refine x_iconst (dat d_Ru_eat 10 rfl) (by decide) ?_
      refine x_iand (v := 0) (dat d_Ru_eat 11 rfl) (by rw [em, ha]; rfl) ?_
      refine x_if_eq (tgt := 64) (dat d_Ru_eat 12 rfl) (by decide) (fun c_18 => ?_) (fun h => absurd h (by decide))
      refine x_iinc (v' := i + 1) (L' := [vR u, vI (i + 1)]) (dat d_Ru_eat 40 rfl) rfl (by decide) rfl rfl (by omega) rfl ?_
      refine x_goto (tgt := 2) (dat d_Ru_eat 41 rfl) (by decide) ?_
      refine nx _ ⟨fun p q0 q1 => ?_, H.2.1.congr (fun q q0 q1 => ?_), H.2.2.1, H.2.2.2⟩
      · by_cases e1 : p = i
        · subst e1
          rw [if_pos (by omega), fB, eb]
        · rw [kB p e1, H.1 p q0 q1]
      · rw [kA q]
        by_cases e5 : q = i
        · subst e5
          rw [if_pos rfl, if_neg (by omega), ha, fA]
        · rw [if_neg e5]
    · by_cases e3 : cS C 3 ≤ bd i
      · have fB : eatB C bd al i = bd i - cS C 3 := by simp [eatB, ha, e3]
        have fA : eatA C bd al i = true := by simp [eatA, ha, e3]
        refine x_iload_n (dat d_Ru_eat 2 rfl) rfl rfl ?_
        refine x_aload_n (dat d_Ru_eat 3 rfl) rfl rfl ?_
        refine x_geti (ji := 0) (v := cS C 0) (dat d_Ru_eat 4 rfl) rfl f_Ru_46 (ru_oi_0 hu) (e0) ?_
        refine x_icmp_ge (tgt := 70) (dat d_Ru_eat 5 rfl) (by decide) (fun c_7 => (by omega)) (fun c_7 => ?_)
        refine x_aload_n (dat d_Ru_eat 6 rfl) rfl rfl ?_
        refine x_geti (ji := 12) (v := σ u 12) (dat d_Ru_eat 7 rfl) rfl f_Ru_71 (ru_oi_12 hu) rfl ?_
        refine x_iload_n (dat d_Ru_eat 8 rfl) rfl rfl ?_
        refine x_ishr (v := ishr (σ u 12) i) (dat d_Ru_eat 9 rfl) rfl ?_
        refine x_iconst (dat d_Ru_eat 10 rfl) (by decide) ?_
        refine x_iand (v := 1) (dat d_Ru_eat 11 rfl) (by rw [em, ha]; rfl) ?_
        refine x_if_eq (tgt := 64) (dat d_Ru_eat 12 rfl) (by decide) (fun h => absurd h (by decide)) (fun c_18 => ?_)
        refine x_aload_n (dat d_Ru_eat 13 rfl) rfl rfl ?_
        refine x_getr (r := u + 12) (dat d_Ru_eat 14 rfl) rfl f_Ru_37 (ru_or_11 hu) ?_
        refine x_iload_n (dat d_Ru_eat 15 rfl) rfl rfl ?_
        refine x_iald (n := 8) (v := bd i) (dat d_Ru_eat 16 rfl) (ru_ai_12 hu) (by omega) (by omega) (eb) ?_
        refine x_aload_n (dat d_Ru_eat 17 rfl) rfl rfl ?_
        refine x_geti (ji := 2) (v := cS C 3) (dat d_Ru_eat 18 rfl) rfl f_Ru_54 (ru_oi_2 hu) (e2) ?_
        refine x_icmp_ge (tgt := 51) (dat d_Ru_eat 19 rfl) (by decide) (fun c_31 => ?_) (fun c_31 => (by omega))
        refine x_aload_n (dat d_Ru_eat 31 rfl) rfl rfl ?_
        refine x_getr (r := u + 12) (dat d_Ru_eat 32 rfl) rfl f_Ru_37 (ru_or_11 hu) ?_
        refine x_iload_n (dat d_Ru_eat 33 rfl) rfl rfl ?_
        refine x_dup2 (dat d_Ru_eat 34 rfl) rfl rfl ?_
        refine x_iald (n := 8) (v := bd i) (dat d_Ru_eat 35 rfl) (ru_ai_12 hu) (by omega) (by omega) (eb) ?_
        refine x_aload_n (dat d_Ru_eat 36 rfl) rfl rfl ?_
        refine x_geti (ji := 2) (v := cS C 3) (dat d_Ru_eat 37 rfl) rfl f_Ru_54 (ru_oi_2 hu) (e2) ?_
        refine x_isub (v := (bd i) - (cS C 3)) (dat d_Ru_eat 38 rfl) rfl (by omega) ?_
        refine x_iast (n := 8) (dat d_Ru_eat 39 rfl) (ru_ai_12 hu) (by omega) (by omega) ?_
        refine x_iinc (v' := i + 1) (L' := [vR u, vI (i + 1)]) (dat d_Ru_eat 40 rfl) rfl (by decide) rfl rfl (by omega) rfl ?_
        refine x_goto (tgt := 2) (dat d_Ru_eat 41 rfl) (by decide) ?_
        refine nx _ ⟨fun p q0 q1 => ?_, ?_, fun o q0 q1 => by rw [up_ne q1]; exact H.2.2.1 o q0 q1, fun j q0 => by rw [up_nk (by omega)]; exact H.2.2.2 j q0⟩
        · by_cases e1 : p = i
          · subst e1
            rw [if_pos (by omega), fB, up_s]
          · rw [kB p e1, up_ni (fun q => e1 q.symm), H.1 p q0 q1]
        · rw [up_nk (by omega)]
          refine H.2.1.congr (fun q q0 q1 => ?_)
          rw [kA q]
          by_cases e5 : q = i
          · subst e5
            rw [if_pos rfl, if_neg (by omega), ha, fA]
          · rw [if_neg e5]
      · have fB : eatB C bd al i = bd i := by simp [eatB, e3]
        have fA : eatA C bd al i = false := by simp [eatA, e3]
        refine x_iload_n (dat d_Ru_eat 2 rfl) rfl rfl ?_
        refine x_aload_n (dat d_Ru_eat 3 rfl) rfl rfl ?_
        refine x_geti (ji := 0) (v := cS C 0) (dat d_Ru_eat 4 rfl) rfl f_Ru_46 (ru_oi_0 hu) (e0) ?_
        refine x_icmp_ge (tgt := 70) (dat d_Ru_eat 5 rfl) (by decide) (fun c_7 => (by omega)) (fun c_7 => ?_)
        refine x_aload_n (dat d_Ru_eat 6 rfl) rfl rfl ?_
        refine x_geti (ji := 12) (v := σ u 12) (dat d_Ru_eat 7 rfl) rfl f_Ru_71 (ru_oi_12 hu) rfl ?_
        refine x_iload_n (dat d_Ru_eat 8 rfl) rfl rfl ?_
        refine x_ishr (v := ishr (σ u 12) i) (dat d_Ru_eat 9 rfl) rfl ?_
        refine x_iconst (dat d_Ru_eat 10 rfl) (by decide) ?_
        refine x_iand (v := 1) (dat d_Ru_eat 11 rfl) (by rw [em, ha]; rfl) ?_
        refine x_if_eq (tgt := 64) (dat d_Ru_eat 12 rfl) (by decide) (fun h => absurd h (by decide)) (fun c_18 => ?_)
        refine x_aload_n (dat d_Ru_eat 13 rfl) rfl rfl ?_
        refine x_getr (r := u + 12) (dat d_Ru_eat 14 rfl) rfl f_Ru_37 (ru_or_11 hu) ?_
        refine x_iload_n (dat d_Ru_eat 15 rfl) rfl rfl ?_
        refine x_iald (n := 8) (v := bd i) (dat d_Ru_eat 16 rfl) (ru_ai_12 hu) (by omega) (by omega) (eb) ?_
        refine x_aload_n (dat d_Ru_eat 17 rfl) rfl rfl ?_
        refine x_geti (ji := 2) (v := cS C 3) (dat d_Ru_eat 18 rfl) rfl f_Ru_54 (ru_oi_2 hu) (e2) ?_
        refine x_icmp_ge (tgt := 51) (dat d_Ru_eat 19 rfl) (by decide) (fun c_31 => (by omega)) (fun c_31 => ?_)
        refine x_aload_n (dat d_Ru_eat 20 rfl) rfl rfl ?_
        refine x_dup (dat d_Ru_eat 21 rfl) rfl ?_
        refine x_geti (ji := 12) (v := σ u 12) (dat d_Ru_eat 22 rfl) rfl f_Ru_71 (ru_oi_12 hu) rfl ?_
        refine x_iconst (dat d_Ru_eat 23 rfl) (by decide) ?_
        refine x_iload_n (dat d_Ru_eat 24 rfl) rfl rfl ?_
        refine x_ishl (v := ishl 1 i) (dat d_Ru_eat 25 rfl) rfl ?_
        refine x_iconst (dat d_Ru_eat 26 rfl) (by decide) ?_
        refine x_ixor (v := ixor (ishl 1 i) (-1)) (dat d_Ru_eat 27 rfl) rfl ?_
        refine x_iand (v := iand (σ u 12) (ixor (ishl 1 i) (-1))) (dat d_Ru_eat 28 rfl) rfl ?_
        refine x_puti (ji := 12) (x := iand (σ u 12) (ixor (ishl 1 i) (-1))) (dat d_Ru_eat 29 rfl) rfl f_Ru_71w (ru_oi_12 hu) (fun h => absurd h (by decide)) (by decide) ?_
        refine x_goto (tgt := 64) (dat d_Ru_eat 30 rfl) (by decide) ?_
        refine x_iinc (v' := i + 1) (L' := [vR u, vI (i + 1)]) (dat d_Ru_eat 40 rfl) rfl (by decide) rfl rfl (by omega) rfl ?_
        refine x_goto (tgt := 2) (dat d_Ru_eat 41 rfl) (by decide) ?_
        refine nx _ ⟨fun p q0 q1 => ?_, ?_, fun o q0 q1 => by rw [up_ne q0]; exact H.2.2.1 o q0 q1, fun j q0 => by rw [up_ni (fun q => q0 q.symm)]; exact H.2.2.2 j q0⟩
        · rw [up_nk (by omega)]
          by_cases e1 : p = i
          · subst e1
            rw [if_pos (by omega), fB, eb]
          · rw [kB p e1, H.1 p q0 q1]
        · rw [up_s]
          refine (H.2.1.andn (by decide) (Msk.one (n := 8) (by decide) h0 (by omega))).congr (fun q q0 q1 => ?_)
          rw [kA q]
          by_cases e5 : q = i
          · subst e5
            rw [if_pos rfl, fA]
            simp
          · rw [if_neg e5]
            simp [e5]
theorem sp_Ru_eat {g : xG} {K : Option MV → xS → Prop} {σ : xS} {u : Nat} {C : Cf} {bd : Int → Int} {al : Int → Bool} (hu : IsRu u) (hC : CfOk C) (h20 : σ u 0 = cS C 0) (h2 : σ u 2 = cS C 3) (hB : BdOk (cS C 0) 1000 bd) (h12 : ∀ p : Int, 0 ≤ p → p < cS C 0 → σ (u + 12) p = bd p) (hm : Msk 8 (σ u 12) al)
    (hal : ∀ p : Int, al p = true → p < cS C 0)
    (k : ∀ σ' : xS, (∀ p : Int, 0 ≤ p → p < cS C 0 → σ' (u + 12) p = eatB C bd al p) → Msk 8 (σ' u 12) (eatA C bd al) → (∀ o : Nat, o ≠ u → o ≠ u + 12 → σ' o = σ o) → (∀ j : Int, j ≠ 12 → σ' u j = σ u j) → K none σ') : Mt g y_Ru_eat [vR u] σ K := by
  refine x_enter 1 rfl rfl rfl (fun Z => ?_)
  show Wx g y_Ru_eat Z K 0 [vR u, vU] [] σ
  refine x_iconst (dat d_Ru_eat 0 rfl) (by decide) ?_
  refine x_istore_n (L' := [vR u, vI 0]) (dat d_Ru_eat 1 rfl) rfl (by decide) rfl rfl ?_
  refine lp_Ru_eat hu hC h20 h2 hB (fun σ' H => k σ' (fun p q0 q1 => by rw [H.1 p q0 q1, if_pos q1]) (H.2.1.congr (fun q q0 q1 => ?_)) H.2.2.1 H.2.2.2) (cS C 0).toNat 0 σ (by omega) (by have := hC.1; omega) ⟨fun p q0 q1 => by rw [if_neg (by omega), h12 p q0 q1], hm.congr (fun q q0 q1 => by rw [if_neg (by omega)]), fun _ _ _ => rfl, fun _ _ => rfl⟩
  by_cases e : q < cS C 0
  · rw [if_pos e]
  · rw [if_neg e]
    have : al q = false := by
      cases h : al q
      · rfl
      · exact absurd (hal q h) e
    simp [eatA, this]
