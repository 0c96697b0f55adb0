/-! a whole run -/
theorem lp_Ru_go {g : xG} {Z : xZ} {K : Option MV → xS → Prop} {σ0 : xS} {u f N : Nat} {C : Cf} {w2 : MV} {w3 : Int} (hu : IsRu u) (hC : CfOk C) (hp : PlanR σ0 C) (hN : (N : Int) = cS C 1)
    (k : ∀ σ' : xS, RunS σ' u C f N → (∀ o : Nat, o < u ∨ u + 12 < o → σ' o = σ0 o) → K none σ') : ∀ (m n : Nat) (σ : xS), f ≤ n → n + m = N → RunS σ u C f n → (∀ o : Nat, o < u ∨ u + 12 < o → σ o = σ0 o) → Wx g y_Ru_go Z K 122 [vR u, vR 138, w2, vI w3, vI (n : Int)] [] σ := by
  have cs := ru_cs hu
  have hH := hC.2.2.2.1
  intro m
  induction m with
  | zero =>
    intro n σ hf hn R hfr
    have e1 : σ u 1 = cS C 1 := R.1.2.1
    have e : n = N := by omega
    subst e
    refine x_iload (dat d_Ru_go 68 rfl) rfl ?_
    refine x_aload_n (dat d_Ru_go 69 rfl) rfl rfl ?_
    refine x_geti (ji := 1) (v := cS C 1) (dat d_Ru_go 70 rfl) rfl f_Ru_50 (ru_oi_1 hu) (e1) ?_
    refine x_icmp_ge (tgt := 144) (dat d_Ru_go 71 rfl) (by decide) (fun c_128 => ?_) (fun c_128 => (by omega))
    refine x_ret (dat d_Ru_go 78 rfl) rfl ?_
    exact k _ R hfr
  | succ m ih =>
    intro n σ hf hn R hfr
    have e1 : σ u 1 = cS C 1 := R.1.2.1
    have hp2 : PlanR σ C := hp.same (fun o q0 q1 => hfr o (by omega))
    refine x_iload (dat d_Ru_go 68 rfl) rfl ?_
    refine x_aload_n (dat d_Ru_go 69 rfl) rfl rfl ?_
    refine x_geti (ji := 1) (v := cS C 1) (dat d_Ru_go 70 rfl) rfl f_Ru_50 (ru_oi_1 hu) (e1) ?_
    refine x_icmp_ge (tgt := 144) (dat d_Ru_go 71 rfl) (by decide) (fun c_128 => (by omega)) (fun c_128 => ?_)
    refine x_aload_n (dat d_Ru_go 72 rfl) rfl rfl ?_
    refine x_aload_n (dat d_Ru_go 73 rfl) rfl rfl ?_
    refine x_iload (dat d_Ru_go 74 rfl) rfl ?_
    refine x_inv (As := [vR 138, vI (n : Int)]) (dat d_Ru_go 75 rfl) rfl c_Ru_passHour l_Ru_74 (by decide) (rv_ru (ru_k hu)) rfl rfl (Nat.le_of_ble_eq_true rfl) ?_
    refine sp_Ru_passHour hu hC hp2 hf (by omega) R (fun σ2 R2 hf2 => ?_)
    show Wx g y_Ru_go Z K 138 [vR u, vR 138, w2, vI w3, vI (n : Int)] [] σ2
    refine x_iinc (v' := ((n + 1 : Nat) : Int)) (L' := [vR u, vR 138, w2, vI w3, vI ((n + 1 : Nat) : Int)]) (dat d_Ru_go 76 rfl) rfl (by decide) rfl (by omega) (by omega) rfl ?_
    refine x_goto (tgt := 122) (dat d_Ru_go 77 rfl) (by decide) ?_
    exact ih (n + 1) σ2 (by omega) (by omega) R2 (fun o q => by rw [hf2 o q, hfr o q])
/-- what a run's start needs, from a state whose numbers are put and whose log is empty -/
theorem RunS.start {σ : xS} {u f : Nat} {C : Cf} (h0 : σ u 0 = cS C 0) (h1 : σ u 1 = cS C 1) (h2 : σ u 2 = cS C 3) (h3 : σ u 3 = cS C 4) (hb : ∀ p : Int, 0 ≤ p → p < cS C 0 → σ (u + 12) p = (rst C f).1 p) (hm : Msk 8 (σ u 12) (rst C f).2) (hl : σ (u + 1) 4 = 0) : RunS σ u C f f := by
  have e : lgs C f f = [] := by
    cases f with
    | zero => rfl
    | succ n =>
      simp only [lgs]
      rw [if_pos (by omega)]
  refine ⟨⟨h0, h1, h2, h3⟩, hb, hm, ?_, fun h q0 q1 => by omega⟩
  rw [e]
  refine ⟨by rw [hl]; rfl, fun t e s he => ?_⟩
  cases t <;> cases he
theorem sp_Ru_go {g : xG} {K : Option MV → xS → Prop} {σ : xS} {u : Nat} {C : Cf} (hu : IsRu u) (hC : CfOk C) (hp : PlanR σ C)
    (k : ∀ σ' : xS, RunS σ' u C 0 (cS C 1).toNat → (∀ o : Nat, o < u ∨ u + 12 < o → σ' o = σ o) → K none σ') : Mt g y_Ru_go [vR u, vR 138, vN, vI 0] σ K := by
  have cs := ru_cs hu
  have h8 := hC.2.1
  have hP0 := hC.1
  have hH0 := hC.2.2.1
  have hsh : 1 ≤ ishl 1 (cS C 0) ∧ ishl 1 (cS C 0) ≤ 256 := ishl_bd (n := 8) hP0 (by omega) (by decide)
  have hp' := hp
  obtain ⟨b0, b1, b2, b3, b4, -, -, -, -, b9, -⟩ := hp'
  refine x_enter 1 rfl rfl rfl (fun Z => ?_)
  show Wx g y_Ru_go Z K 0 [vR u, vR 138, vN, vI 0, vU] [] σ
  refine x_aload_n (dat d_Ru_go 0 rfl) rfl rfl ?_
  refine x_aload_n (dat d_Ru_go 1 rfl) rfl rfl ?_
  refine x_geti (ji := 0) (v := cS C 0) (dat d_Ru_go 2 rfl) rfl f_Ru_40 (oi_mk (by decide +kernel)) (b0) ?_
  refine x_puti (ji := 0) (x := cS C 0) (dat d_Ru_go 3 rfl) rfl f_Ru_46w (ru_oi_0 hu) (fun h => absurd h (by decide)) (by decide) ?_
  refine x_aload_n (dat d_Ru_go 4 rfl) rfl rfl ?_
  refine x_aload_n (dat d_Ru_go 5 rfl) rfl rfl ?_
  refine x_geti (ji := 1) (v := cS C 1) (dat d_Ru_go 6 rfl) rfl f_Ru_47 (oi_mk (by decide +kernel)) ((up_nk (by have := ru_cs hu; omega)).trans b1) ?_
  refine x_puti (ji := 1) (x := cS C 1) (dat d_Ru_go 7 rfl) rfl f_Ru_50w (ru_oi_1 hu) (fun h => absurd h (by decide)) (by decide) ?_
  refine x_aload_n (dat d_Ru_go 8 rfl) rfl rfl ?_
  refine x_aload_n (dat d_Ru_go 9 rfl) rfl rfl ?_
  refine x_geti (ji := 3) (v := cS C 3) (dat d_Ru_go 10 rfl) rfl f_Ru_51 (oi_mk (by decide +kernel)) ((up_nk (by have := ru_cs hu; omega)).trans ((up_nk (by have := ru_cs hu; omega)).trans b3)) ?_
  refine x_puti (ji := 2) (x := cS C 3) (dat d_Ru_go 11 rfl) rfl f_Ru_54w (ru_oi_2 hu) (fun h => absurd h (by decide)) (by decide) ?_
  refine x_aload_n (dat d_Ru_go 12 rfl) rfl rfl ?_
  refine x_aload_n (dat d_Ru_go 13 rfl) rfl rfl ?_
  refine x_geti (ji := 4) (v := cS C 4) (dat d_Ru_go 14 rfl) rfl f_Ru_55 (oi_mk (by decide +kernel)) ((up_nk (by have := ru_cs hu; omega)).trans ((up_nk (by have := ru_cs hu; omega)).trans ((up_nk (by have := ru_cs hu; omega)).trans b4))) ?_
  refine x_puti (ji := 3) (x := cS C 4) (dat d_Ru_go 15 rfl) rfl f_Ru_58w (ru_oi_3 hu) (fun h => absurd h (by decide)) (by decide) ?_
  refine x_aload_n (dat d_Ru_go 16 rfl) rfl rfl ?_
  refine x_getr (r := u + 1) (dat d_Ru_go 17 rfl) rfl f_Ru_12 (ru_or_4 hu) ?_
  refine x_inv (As := []) (dat d_Ru_go 18 rfl) rfl c_Ha_clear l_Ru_59 (by decide) (rv_ha (ha_k (ru_ha hu))) rfl rfl (Nat.le_of_ble_eq_true rfl) ?_
  refine sp_Ha_clear (ru_ha hu) ?_
  have fo : ∀ o : Nat, o ≠ u → o ≠ u + 1 → o ≠ u + 1 + 4 → fil (up (up (up (up (up σ u 0 (cS C 0)) u 1 (cS C 1)) u 2 (cS C 3)) u 3 (cS C 4)) (u + 1) 4 0) (u + 1 + 4) 24 0 o = σ o := fun o q0 q1 q2 => by rw [fil_ne q2, up_ne q1, up_ne q0, up_ne q0, up_ne q0, up_ne q0]
  have fl : fil (up (up (up (up (up σ u 0 (cS C 0)) u 1 (cS C 1)) u 2 (cS C 3)) u 3 (cS C 4)) (u + 1) 4 0) (u + 1 + 4) 24 0 (u + 1) 4 = 0 := by rw [fil_ne (by omega), up_s]
  have fu : ∀ j : Int, fil (up (up (up (up (up σ u 0 (cS C 0)) u 1 (cS C 1)) u 2 (cS C 3)) u 3 (cS C 4)) (u + 1) 4 0) (u + 1 + 4) 24 0 u j = (up (up (up (up σ u 0 (cS C 0)) u 1 (cS C 1)) u 2 (cS C 3)) u 3 (cS C 4)) u j := fun j => by rw [fil_ne (by omega), up_nk (by omega)]
  have f0 : (up (up (up (up σ u 0 (cS C 0)) u 1 (cS C 1)) u 2 (cS C 3)) u 3 (cS C 4)) u 0 = cS C 0 := by rw [up_ni (by decide), up_ni (by decide), up_ni (by decide), up_s]
  have f1 : (up (up (up (up σ u 0 (cS C 0)) u 1 (cS C 1)) u 2 (cS C 3)) u 3 (cS C 4)) u 1 = cS C 1 := by rw [up_ni (by decide), up_ni (by decide), up_s]
  have f2 : (up (up (up (up σ u 0 (cS C 0)) u 1 (cS C 1)) u 2 (cS C 3)) u 3 (cS C 4)) u 2 = cS C 3 := by rw [up_ni (by decide), up_s]
  have f3 : (up (up (up (up σ u 0 (cS C 0)) u 1 (cS C 1)) u 2 (cS C 3)) u 3 (cS C 4)) u 3 = cS C 4 := by rw [up_s]
  rw [← fu] at f0 f1 f2 f3
  generalize fil (up (up (up (up (up σ u 0 (cS C 0)) u 1 (cS C 1)) u 2 (cS C 3)) u 3 (cS C 4)) (u + 1) 4 0) (u + 1 + 4) 24 0 = σ2 at fo fl f0 f1 f2 f3 ⊢
  show Wx g y_Ru_go Z K 39 [vR u, vR 138, vN, vI 0, vU] [] σ2
  refine x_iconst (dat d_Ru_go 19 rfl) (by decide) ?_
  refine x_istore (L' := [vR u, vR 138, vN, vI 0, vI 0]) (dat d_Ru_go 20 rfl) (by decide) rfl rfl ?_
  refine x_aload_nN (dat d_Ru_go 21 rfl) rfl rfl ?_
  refine x_ifnullN (tgt := 57) (dat d_Ru_go 22 rfl) (by decide) ?_
  refine x_aload_n (dat d_Ru_go 29 rfl) rfl rfl ?_
  refine x_getr (r := 139) (dat d_Ru_go 30 rfl) rfl f_Ru_62 (or_mk (by decide +kernel)) ?_
  refine x_iconst (dat d_Ru_go 31 rfl) (by decide) ?_
  refine x_aload_n (dat d_Ru_go 32 rfl) rfl rfl ?_
  refine x_getr (r := u + 12) (dat d_Ru_go 33 rfl) rfl f_Ru_37 (ru_or_11 hu) ?_
  refine x_iconst (dat d_Ru_go 34 rfl) (by decide) ?_
  refine x_bipush (dat d_Ru_go 35 rfl) (by decide) (by decide) ?_
  refine x_copy (own := "ShakenBread$Run") (t := 20) (na := 8) (nb := 8) (dat d_Ru_go 36 rfl) rfl l_Ru_65 (by decide) (by decide) (ai_mk (by decide +kernel)) (ru_ai_12 hu) (by omega) (by omega) (by omega) (by omega) (by omega) (Nat.le_of_ble_eq_true rfl) ?_
  refine x_aload_n (dat d_Ru_go 37 rfl) rfl rfl ?_
  refine x_iconst (dat d_Ru_go 38 rfl) (by decide) ?_
  refine x_aload_n (dat d_Ru_go 39 rfl) rfl rfl ?_
  refine x_geti (ji := 0) (v := cS C 0) (dat d_Ru_go 40 rfl) rfl f_Ru_46 (ru_oi_0 hu) ((congrFun (cpy_ne (Ne.symm (by omega))) _).trans f0) ?_
  refine x_ishl (v := ishl 1 (cS C 0)) (dat d_Ru_go 41 rfl) rfl ?_
  refine x_iconst (dat d_Ru_go 42 rfl) (by decide) ?_
  refine x_isub (v := (ishl 1 (cS C 0)) - 1) (dat d_Ru_go 43 rfl) rfl (by omega) ?_
  refine x_puti (ji := 12) (x := (ishl 1 (cS C 0)) - 1) (dat d_Ru_go 44 rfl) rfl f_Ru_71w (ru_oi_12 hu) (fun h => absurd h (by decide)) (by decide) ?_
  refine x_goto (tgt := 122) (dat d_Ru_go 45 rfl) (by decide) ?_
  refine lp_Ru_go hu hC hp (by omega) k (cS C 1).toNat 0 _ (Nat.le_refl 0) (by omega) (RunS.start ?_ ?_ ?_ ?_ (fun p q0 q1 => ?_) ?_ ?_) (fun o q => ?_)
  · rw [up_ni (by decide), cpy_ne (by omega)]; exact f0
  · rw [up_ni (by decide), cpy_ne (by omega)]; exact f1
  · rw [up_ni (by decide), cpy_ne (by omega)]; exact f2
  · rw [up_ni (by decide), cpy_ne (by omega)]; exact f3
  · rw [up_nk (by omega), cpy_in (by omega) (by omega), fo 139 (by omega) (by omega) (by omega), show (0 : Int) + (p - 0) = p by omega]
    exact b9 p q0 q1
  · rw [up_s]
    refine (Msk.full (n := 8) (by decide) hP0 (by omega)).congr (fun q r0 r1 => ?_)
    simp [rst, r0]
  · rw [up_nk (by omega), cpy_ne (by omega)]; exact fl
  · rw [up_ne (by omega), cpy_ne (by omega), fo o (by omega) (by omega) (by omega)]
theorem sp_Ru_goF {g : xG} {K : Option MV → xS → Prop} {σ : xS} {u e f : Nat} {C : Cf} (hu : IsRu u) (he : IsRu e) (hue : e ≠ u) (hC : CfOk C) (hp : PlanR σ C) (hf : (f : Int) < cS C 1)
    (hE : 1 ≤ f → (∀ p : Int, 0 ≤ p → p < cS C 0 → σ (e + 6) (8 * ((f : Int) - 1) + p) = (rst C f).1 p) ∧ Msk 8 (σ (e + 9) ((f : Int) - 1)) (rst C f).2)
    (k : ∀ σ' : xS, RunS σ' u C f (cS C 1).toNat → (∀ o : Nat, o < u ∨ u + 12 < o → σ' o = σ o) → K none σ') : Mt g y_Ru_go [vR u, vR 138, vR e, vI (f : Int)] σ K := by
  have cs := ru_cs hu
  have ce := ru_cs he
  have h8 := hC.2.1
  have hP0 := hC.1
  have hH0 := hC.2.2.1
  have hH := hC.2.2.2.1
  have hsh : 1 ≤ ishl 1 (cS C 0) ∧ ishl 1 (cS C 0) ≤ 256 := ishl_bd (n := 8) hP0 (by omega) (by decide)
  have hp' := hp
  obtain ⟨b0, b1, b2, b3, b4, -, -, -, -, b9, -⟩ := hp'
  refine x_enter 1 rfl rfl rfl (fun Z => ?_)
  show Wx g y_Ru_go Z K 0 [vR u, vR 138, vR e, vI (f : Int), vU] [] σ
  refine x_aload_n (dat d_Ru_go 0 rfl) rfl rfl ?_
  refine x_aload_n (dat d_Ru_go 1 rfl) rfl rfl ?_
  refine x_geti (ji := 0) (v := cS C 0) (dat d_Ru_go 2 rfl) rfl f_Ru_40 (oi_mk (by decide +kernel)) (b0) ?_
  refine x_puti (ji := 0) (x := cS C 0) (dat d_Ru_go 3 rfl) rfl f_Ru_46w (ru_oi_0 hu) (fun h => absurd h (by decide)) (by decide) ?_
  refine x_aload_n (dat d_Ru_go 4 rfl) rfl rfl ?_
  refine x_aload_n (dat d_Ru_go 5 rfl) rfl rfl ?_
  refine x_geti (ji := 1) (v := cS C 1) (dat d_Ru_go 6 rfl) rfl f_Ru_47 (oi_mk (by decide +kernel)) ((up_nk (by have := ru_cs hu; omega)).trans b1) ?_
  refine x_puti (ji := 1) (x := cS C 1) (dat d_Ru_go 7 rfl) rfl f_Ru_50w (ru_oi_1 hu) (fun h => absurd h (by decide)) (by decide) ?_
  refine x_aload_n (dat d_Ru_go 8 rfl) rfl rfl ?_
  refine x_aload_n (dat d_Ru_go 9 rfl) rfl rfl ?_
  refine x_geti (ji := 3) (v := cS C 3) (dat d_Ru_go 10 rfl) rfl f_Ru_51 (oi_mk (by decide +kernel)) ((up_nk (by have := ru_cs hu; omega)).trans ((up_nk (by have := ru_cs hu; omega)).trans b3)) ?_
  refine x_puti (ji := 2) (x := cS C 3) (dat d_Ru_go 11 rfl) rfl f_Ru_54w (ru_oi_2 hu) (fun h => absurd h (by decide)) (by decide) ?_
  refine x_aload_n (dat d_Ru_go 12 rfl) rfl rfl ?_
  refine x_aload_n (dat d_Ru_go 13 rfl) rfl rfl ?_
  refine x_geti (ji := 4) (v := cS C 4) (dat d_Ru_go 14 rfl) rfl f_Ru_55 (oi_mk (by decide +kernel)) ((up_nk (by have := ru_cs hu; omega)).trans ((up_nk (by have := ru_cs hu; omega)).trans ((up_nk (by have := ru_cs hu; omega)).trans b4))) ?_
  refine x_puti (ji := 3) (x := cS C 4) (dat d_Ru_go 15 rfl) rfl f_Ru_58w (ru_oi_3 hu) (fun h => absurd h (by decide)) (by decide) ?_
  refine x_aload_n (dat d_Ru_go 16 rfl) rfl rfl ?_
  refine x_getr (r := u + 1) (dat d_Ru_go 17 rfl) rfl f_Ru_12 (ru_or_4 hu) ?_
  refine x_inv (As := []) (dat d_Ru_go 18 rfl) rfl c_Ha_clear l_Ru_59 (by decide) (rv_ha (ha_k (ru_ha hu))) rfl rfl (Nat.le_of_ble_eq_true rfl) ?_
  refine sp_Ha_clear (ru_ha hu) ?_
  have fo : ∀ o : Nat, o ≠ u → o ≠ u + 1 → o ≠ u + 1 + 4 → fil (up (up (up (up (up σ u 0 (cS C 0)) u 1 (cS C 1)) u 2 (cS C 3)) u 3 (cS C 4)) (u + 1) 4 0) (u + 1 + 4) 24 0 o = σ o := fun o q0 q1 q2 => by rw [fil_ne q2, up_ne q1, up_ne q0, up_ne q0, up_ne q0, up_ne q0]
  have fl : fil (up (up (up (up (up σ u 0 (cS C 0)) u 1 (cS C 1)) u 2 (cS C 3)) u 3 (cS C 4)) (u + 1) 4 0) (u + 1 + 4) 24 0 (u + 1) 4 = 0 := by rw [fil_ne (by omega), up_s]
  have fu : ∀ j : Int, fil (up (up (up (up (up σ u 0 (cS C 0)) u 1 (cS C 1)) u 2 (cS C 3)) u 3 (cS C 4)) (u + 1) 4 0) (u + 1 + 4) 24 0 u j = (up (up (up (up σ u 0 (cS C 0)) u 1 (cS C 1)) u 2 (cS C 3)) u 3 (cS C 4)) u j := fun j => by rw [fil_ne (by omega), up_nk (by omega)]
  have f0 : (up (up (up (up σ u 0 (cS C 0)) u 1 (cS C 1)) u 2 (cS C 3)) u 3 (cS C 4)) u 0 = cS C 0 := by rw [up_ni (by decide), up_ni (by decide), up_ni (by decide), up_s]
  have f1 : (up (up (up (up σ u 0 (cS C 0)) u 1 (cS C 1)) u 2 (cS C 3)) u 3 (cS C 4)) u 1 = cS C 1 := by rw [up_ni (by decide), up_ni (by decide), up_s]
  have f2 : (up (up (up (up σ u 0 (cS C 0)) u 1 (cS C 1)) u 2 (cS C 3)) u 3 (cS C 4)) u 2 = cS C 3 := by rw [up_ni (by decide), up_s]
  have f3 : (up (up (up (up σ u 0 (cS C 0)) u 1 (cS C 1)) u 2 (cS C 3)) u 3 (cS C 4)) u 3 = cS C 4 := by rw [up_s]
  rw [← fu] at f0 f1 f2 f3
  generalize fil (up (up (up (up (up σ u 0 (cS C 0)) u 1 (cS C 1)) u 2 (cS C 3)) u 3 (cS C 4)) (u + 1) 4 0) (u + 1 + 4) 24 0 = σ2 at fo fl f0 f1 f2 f3 ⊢
  show Wx g y_Ru_go Z K 39 [vR u, vR 138, vR e, vI (f : Int), vU] [] σ2
  refine x_iconst (dat d_Ru_go 19 rfl) (by decide) ?_
  refine x_istore (L' := [vR u, vR 138, vR e, vI (f : Int), vI 0]) (dat d_Ru_go 20 rfl) (by decide) rfl rfl ?_
  refine x_aload_n (dat d_Ru_go 21 rfl) rfl rfl ?_
  refine x_ifnull (dat d_Ru_go 22 rfl) ?_
  refine x_iload_n (dat d_Ru_go 23 rfl) rfl rfl ?_
  refine x_iconst (dat d_Ru_go 24 rfl) (by decide) ?_
  refine x_icmp_lt (tgt := 57) (dat d_Ru_go 25 rfl) (by decide) (fun c_48 => ?_) (fun c_48 => ?_)
  · refine x_aload_n (dat d_Ru_go 29 rfl) rfl rfl ?_
    refine x_getr (r := 139) (dat d_Ru_go 30 rfl) rfl f_Ru_62 (or_mk (by decide +kernel)) ?_
    refine x_iconst (dat d_Ru_go 31 rfl) (by decide) ?_
    refine x_aload_n (dat d_Ru_go 32 rfl) rfl rfl ?_
    refine x_getr (r := u + 12) (dat d_Ru_go 33 rfl) rfl f_Ru_37 (ru_or_11 hu) ?_
    refine x_iconst (dat d_Ru_go 34 rfl) (by decide) ?_
    refine x_bipush (dat d_Ru_go 35 rfl) (by decide) (by decide) ?_
    refine x_copy (own := "ShakenBread$Run") (t := 20) (na := 8) (nb := 8) (dat d_Ru_go 36 rfl) rfl l_Ru_65 (by decide) (by decide) (ai_mk (by decide +kernel)) (ru_ai_12 hu) (by omega) (by omega) (by omega) (by omega) (by omega) (Nat.le_of_ble_eq_true rfl) ?_
    refine x_aload_n (dat d_Ru_go 37 rfl) rfl rfl ?_
    refine x_iconst (dat d_Ru_go 38 rfl) (by decide) ?_
    refine x_aload_n (dat d_Ru_go 39 rfl) rfl rfl ?_
    refine x_geti (ji := 0) (v := cS C 0) (dat d_Ru_go 40 rfl) rfl f_Ru_46 (ru_oi_0 hu) ((congrFun (cpy_ne (Ne.symm (by omega))) _).trans f0) ?_
    refine x_ishl (v := ishl 1 (cS C 0)) (dat d_Ru_go 41 rfl) rfl ?_
    refine x_iconst (dat d_Ru_go 42 rfl) (by decide) ?_
    refine x_isub (v := (ishl 1 (cS C 0)) - 1) (dat d_Ru_go 43 rfl) rfl (by omega) ?_
    refine x_puti (ji := 12) (x := (ishl 1 (cS C 0)) - 1) (dat d_Ru_go 44 rfl) rfl f_Ru_71w (ru_oi_12 hu) (fun h => absurd h (by decide)) (by decide) ?_
    refine x_goto (tgt := 122) (dat d_Ru_go 45 rfl) (by decide) ?_
    first
    | (have ef : f = 0 := by omega
       subst ef
       refine lp_Ru_go hu hC hp (by omega) k (cS C 1).toNat 0 _ (Nat.le_refl 0) (by omega) (RunS.start ?_ ?_ ?_ ?_ (fun p q0 q1 => ?_) ?_ ?_) (fun o q => ?_)
       · rw [up_ni (by decide), cpy_ne (by omega)]; exact f0
       · rw [up_ni (by decide), cpy_ne (by omega)]; exact f1
       · rw [up_ni (by decide), cpy_ne (by omega)]; exact f2
       · rw [up_ni (by decide), cpy_ne (by omega)]; exact f3
       · rw [up_nk (by omega), cpy_in (by omega) (by omega), fo 139 (by omega) (by omega) (by omega), show (0 : Int) + (p - 0) = p by omega]
         exact b9 p q0 q1
       · rw [up_s]
         refine (Msk.full (n := 8) (by decide) hP0 (by omega)).congr (fun q r0 r1 => ?_)
         simp [rst, r0]
       · rw [up_nk (by omega), cpy_ne (by omega)]; exact fl
       · rw [up_ne (by omega), cpy_ne (by omega), fo o (by omega) (by omega) (by omega)])
    | (obtain ⟨k1, k2⟩ := hE (by omega)
       refine lp_Ru_go hu hC hp (by omega) k ((cS C 1).toNat - f) f _ (Nat.le_refl f) (by omega) (RunS.start ?_ ?_ ?_ ?_ (fun p q0 q1 => ?_) ?_ ?_) (fun o q => ?_)
       · rw [up_ni (by decide), cpy_ne (by omega)]; exact f0
       · rw [up_ni (by decide), cpy_ne (by omega)]; exact f1
       · rw [up_ni (by decide), cpy_ne (by omega)]; exact f2
       · rw [up_ni (by decide), cpy_ne (by omega)]; exact f3
       · rw [up_nk (by omega), cpy_in (by omega) (by omega), fo (e + 6) (by omega) (by omega) (by omega), ← k1 p q0 q1]
         congr 1
         omega
       · rw [up_s]
         have : σ2 (e + 9) ((f : Int) - 1) = σ (e + 9) ((f : Int) - 1) := by rw [fo (e + 9) (by omega) (by omega) (by omega)]
         rw [this]
         exact k2
       · rw [up_nk (by omega), cpy_ne (by omega)]; exact fl
       · rw [up_ne (by omega), cpy_ne (by omega), fo o (by omega) (by omega) (by omega)])
  · refine x_iload_n (dat d_Ru_go 26 rfl) rfl rfl ?_
    refine x_bipush (dat d_Ru_go 27 rfl) (by decide) (by decide) ?_
    refine x_icmp_lt (tgt := 87) (dat d_Ru_go 28 rfl) (by decide) (fun c_54 => ?_) (fun c_54 => (by omega))
    refine x_iload_n (dat d_Ru_go 46 rfl) rfl rfl ?_
    refine x_istore (L' := [vR u, vR 138, vR e, vI (f : Int), vI (f : Int)]) (dat d_Ru_go 47 rfl) (by decide) rfl rfl ?_
    refine x_aload_n (dat d_Ru_go 48 rfl) rfl rfl ?_
    refine x_getr (r := e + 6) (dat d_Ru_go 49 rfl) rfl f_Ru_18 (ru_or_5 he) ?_
    refine x_iload_n (dat d_Ru_go 50 rfl) rfl rfl ?_
    refine x_iconst (dat d_Ru_go 51 rfl) (by decide) ?_
    refine x_isub (v := (f : Int) - 1) (dat d_Ru_go 52 rfl) rfl (by omega) ?_
    refine x_bipush (dat d_Ru_go 53 rfl) (by decide) (by decide) ?_
    refine x_imul (v := ((f : Int) - 1) * 8) (dat d_Ru_go 54 rfl) rfl (by omega) ?_
    refine x_aload_n (dat d_Ru_go 55 rfl) rfl rfl ?_
    refine x_getr (r := u + 12) (dat d_Ru_go 56 rfl) rfl f_Ru_37 (ru_or_11 hu) ?_
    refine x_iconst (dat d_Ru_go 57 rfl) (by decide) ?_
    refine x_bipush (dat d_Ru_go 58 rfl) (by decide) (by decide) ?_
    refine x_copy (own := "ShakenBread$Run") (t := 20) (na := 192) (nb := 8) (dat d_Ru_go 59 rfl) rfl l_Ru_65 (by decide) (by decide) (ru_ai_6 he) (ru_ai_12 hu) (by omega) (by omega) (by omega) (by omega) (by omega) (Nat.le_of_ble_eq_true rfl) ?_
    refine x_aload_n (dat d_Ru_go 60 rfl) rfl rfl ?_
    refine x_aload_n (dat d_Ru_go 61 rfl) rfl rfl ?_
    refine x_getr (r := e + 9) (dat d_Ru_go 62 rfl) rfl f_Ru_28 (ru_or_8 he) ?_
    refine x_iload_n (dat d_Ru_go 63 rfl) rfl rfl ?_
    refine x_iconst (dat d_Ru_go 64 rfl) (by decide) ?_
    refine x_isub (v := (f : Int) - 1) (dat d_Ru_go 65 rfl) rfl (by omega) ?_
    refine x_iald (n := 24) (v := σ2 (e + 9) ((f : Int) - 1)) (dat d_Ru_go 66 rfl) (ru_ai_9 he) (by omega) (by omega) (congrFun (cpy_ne (Ne.symm (by have := ru_cs he; have := ru_cs hu; omega))) _) ?_
    refine x_puti (ji := 12) (x := σ2 (e + 9) ((f : Int) - 1)) (dat d_Ru_go 67 rfl) rfl f_Ru_71w (ru_oi_12 hu) (fun h => absurd h (by decide)) (by decide) ?_
    first
    | (have ef : f = 0 := by omega
       subst ef
       refine lp_Ru_go hu hC hp (by omega) k (cS C 1).toNat 0 _ (Nat.le_refl 0) (by omega) (RunS.start ?_ ?_ ?_ ?_ (fun p q0 q1 => ?_) ?_ ?_) (fun o q => ?_)
       · rw [up_ni (by decide), cpy_ne (by omega)]; exact f0
       · rw [up_ni (by decide), cpy_ne (by omega)]; exact f1
       · rw [up_ni (by decide), cpy_ne (by omega)]; exact f2
       · rw [up_ni (by decide), cpy_ne (by omega)]; exact f3
       · rw [up_nk (by omega), cpy_in (by omega) (by omega), fo 139 (by omega) (by omega) (by omega), show (0 : Int) + (p - 0) = p by omega]
         exact b9 p q0 q1
       · rw [up_s]
         refine (Msk.full (n := 8) (by decide) hP0 (by omega)).congr (fun q r0 r1 => ?_)
         simp [rst, r0]
       · rw [up_nk (by omega), cpy_ne (by omega)]; exact fl
       · rw [up_ne (by omega), cpy_ne (by omega), fo o (by omega) (by omega) (by omega)])
    | (obtain ⟨k1, k2⟩ := hE (by omega)
       refine lp_Ru_go hu hC hp (by omega) k ((cS C 1).toNat - f) f _ (Nat.le_refl f) (by omega) (RunS.start ?_ ?_ ?_ ?_ (fun p q0 q1 => ?_) ?_ ?_) (fun o q => ?_)
       · rw [up_ni (by decide), cpy_ne (by omega)]; exact f0
       · rw [up_ni (by decide), cpy_ne (by omega)]; exact f1
       · rw [up_ni (by decide), cpy_ne (by omega)]; exact f2
       · rw [up_ni (by decide), cpy_ne (by omega)]; exact f3
       · rw [up_nk (by omega), cpy_in (by omega) (by omega), fo (e + 6) (by omega) (by omega) (by omega), ← k1 p q0 q1]
         congr 1
         omega
       · rw [up_s]
         have : σ2 (e + 9) ((f : Int) - 1) = σ (e + 9) ((f : Int) - 1) := by rw [fo (e + 9) (by omega) (by omega) (by omega)]
         rw [this]
         exact k2
       · rw [up_nk (by omega), cpy_ne (by omega)]; exact fl
       · rw [up_ne (by omega), cpy_ne (by omega), fo o (by omega) (by omega) (by omega)])
