/-! what is told: images copied, texts kept -/
theorem sp_To_copy_31_1 {g : xG} {K : Option MV → xS → Prop} {σ : xS} (k : ∀ σ' : xS, (∀ a : Int → Int, TolR σ 1 a → TolR σ' 31 a) → (∀ x : Nat, (x < 31 ∨ 31 + 29 < x) → σ' x = σ x) → K none σ') : Mt g y_To_copy [vR 31, vR 1] σ K := by
  refine x_enter 1 rfl rfl rfl (fun Z => ?_)
  show Wx g y_To_copy Z K 0 [vR 31, vR 1, vU] [] σ
  refine x_aload_n (dat d_To_copy 0 rfl) rfl rfl ?_
  refine x_getr (r := 2) (dat d_To_copy 1 rfl) rfl f_To_9 (or_mk (by decide +kernel)) ?_
  refine x_iconst (dat d_To_copy 2 rfl) (by decide) ?_
  refine x_aload_n (dat d_To_copy 3 rfl) rfl rfl ?_
  refine x_getr (r := 32) (dat d_To_copy 4 rfl) rfl f_To_9 (or_mk (by decide +kernel)) ?_
  refine x_iconst (dat d_To_copy 5 rfl) (by decide) ?_
  refine x_sipush (dat d_To_copy 6 rfl) (by decide) (by decide) ?_
  refine x_copy (own := "ShakenBread$Told") (t := 21) (na := 600) (nb := 600) (dat d_To_copy 7 rfl) rfl l_To_58 (by decide) (by decide) (ai_mk (by decide +kernel)) (ai_mk (by decide +kernel)) (by omega) (by omega) (by omega) (by omega) (by omega) (Nat.le_of_ble_eq_true rfl) ?_
  refine x_aload_n (dat d_To_copy 8 rfl) rfl rfl ?_
  refine x_aload_n (dat d_To_copy 9 rfl) rfl rfl ?_
  refine x_geti (ji := 3) (v := σ 1 3) (dat d_To_copy 10 rfl) rfl f_To_33 (oi_mk (by decide +kernel)) (congrFun (cpy_ne (Ne.symm (by decide))) _) ?_
  refine x_puti (ji := 3) (x := (σ 1 3)) (dat d_To_copy 11 rfl) rfl f_To_33w (oi_mk (by decide +kernel)) (fun h => absurd h (by decide)) (by decide) ?_
  refine x_aload_n (dat d_To_copy 12 rfl) rfl rfl ?_
  refine x_aload_n (dat d_To_copy 13 rfl) rfl rfl ?_
  refine x_geti (ji := 4) (v := σ 1 4) (dat d_To_copy 14 rfl) rfl f_To_36 (oi_mk (by decide +kernel)) ((up_nk (by decide)).trans (congrFun (cpy_ne (Ne.symm (by decide))) _)) ?_
  refine x_puti (ji := 4) (x := (σ 1 4)) (dat d_To_copy 15 rfl) rfl f_To_36w (oi_mk (by decide +kernel)) (fun h => absurd h (by decide)) (by decide) ?_
  refine x_aload_n (dat d_To_copy 16 rfl) rfl rfl ?_
  refine x_aload_n (dat d_To_copy 17 rfl) rfl rfl ?_
  refine x_geti (ji := 5) (v := σ 1 5) (dat d_To_copy 18 rfl) rfl f_To_29 (oi_mk (by decide +kernel)) ((up_nk (by decide)).trans ((up_nk (by decide)).trans (congrFun (cpy_ne (Ne.symm (by decide))) _))) ?_
  refine x_puti (ji := 5) (x := (σ 1 5)) (dat d_To_copy 19 rfl) rfl f_To_29w (oi_mk (by decide +kernel)) (fun h => absurd h (by decide)) (by decide) ?_
  refine x_aload_n (dat d_To_copy 20 rfl) rfl rfl ?_
  refine x_aload_n (dat d_To_copy 21 rfl) rfl rfl ?_
  refine x_geti (ji := 6) (v := σ 1 6) (dat d_To_copy 22 rfl) rfl f_To_39 (oi_mk (by decide +kernel)) ((up_nk (by decide)).trans ((up_nk (by decide)).trans ((up_nk (by decide)).trans (congrFun (cpy_ne (Ne.symm (by decide))) _)))) ?_
  refine x_puti (ji := 6) (x := (σ 1 6)) (dat d_To_copy 23 rfl) rfl f_To_39w (oi_mk (by decide +kernel)) (fun h => absurd h (by decide)) (by decide) ?_
  refine x_aload_n (dat d_To_copy 24 rfl) rfl rfl ?_
  refine x_aload_n (dat d_To_copy 25 rfl) rfl rfl ?_
  refine x_geti (ji := 7) (v := σ 1 7) (dat d_To_copy 26 rfl) rfl f_To_42 (oi_mk (by decide +kernel)) ((up_nk (by decide)).trans ((up_nk (by decide)).trans ((up_nk (by decide)).trans ((up_nk (by decide)).trans (congrFun (cpy_ne (Ne.symm (by decide))) _))))) ?_
  refine x_puti (ji := 7) (x := (σ 1 7)) (dat d_To_copy 27 rfl) rfl f_To_42w (oi_mk (by decide +kernel)) (fun h => absurd h (by decide)) (by decide) ?_
  have A1 : (up (up (up (up (up (cpy σ 2 32 0 0 600) 31 3 (σ 1 3)) 31 4 (σ 1 4)) 31 5 (σ 1 5)) 31 6 (σ 1 6)) 31 7 (σ 1 7)) 31 3 = σ 1 3 ∧ (up (up (up (up (up (cpy σ 2 32 0 0 600) 31 3 (σ 1 3)) 31 4 (σ 1 4)) 31 5 (σ 1 5)) 31 6 (σ 1 6)) 31 7 (σ 1 7)) 31 4 = σ 1 4 ∧ (up (up (up (up (up (cpy σ 2 32 0 0 600) 31 3 (σ 1 3)) 31 4 (σ 1 4)) 31 5 (σ 1 5)) 31 6 (σ 1 6)) 31 7 (σ 1 7)) 31 5 = σ 1 5 ∧ (up (up (up (up (up (cpy σ 2 32 0 0 600) 31 3 (σ 1 3)) 31 4 (σ 1 4)) 31 5 (σ 1 5)) 31 6 (σ 1 6)) 31 7 (σ 1 7)) 31 6 = σ 1 6 ∧ (up (up (up (up (up (cpy σ 2 32 0 0 600) 31 3 (σ 1 3)) 31 4 (σ 1 4)) 31 5 (σ 1 5)) 31 6 (σ 1 6)) 31 7 (σ 1 7)) 31 7 = σ 1 7 := by
    refine ⟨?_, ?_, ?_, ?_, ?_⟩
    · rw [up_ni (by decide), up_ni (by decide), up_ni (by decide), up_ni (by decide), up_s]
    · rw [up_ni (by decide), up_ni (by decide), up_ni (by decide), up_s]
    · rw [up_ni (by decide), up_ni (by decide), up_s]
    · rw [up_ni (by decide), up_s]
    · rw [up_s]
  have A2 : ∀ i : Int, 0 ≤ i → i < 600 → (up (up (up (up (up (cpy σ 2 32 0 0 600) 31 3 (σ 1 3)) 31 4 (σ 1 4)) 31 5 (σ 1 5)) 31 6 (σ 1 6)) 31 7 (σ 1 7)) (31 + 1) i = σ (1 + 1) i := fun i i0 i1 => by
    rw [up_ne (by decide), up_ne (by decide), up_ne (by decide), up_ne (by decide), up_ne (by decide), cpy_in (by omega) (by omega), show (0 : Int) + (i - 0) = i by omega]
  have A3 : ∀ x : Nat, x ≠ 31 → x ≠ 31 + 1 → (up (up (up (up (up (cpy σ 2 32 0 0 600) 31 3 (σ 1 3)) 31 4 (σ 1 4)) 31 5 (σ 1 5)) 31 6 (σ 1 6)) 31 7 (σ 1 7)) x = σ x := fun x h1 h2 => by
    rw [up_ne h1, up_ne h1, up_ne h1, up_ne h1, up_ne h1, cpy_ne h2]
  generalize (up (up (up (up (up (cpy σ 2 32 0 0 600) 31 3 (σ 1 3)) 31 4 (σ 1 4)) 31 5 (σ 1 5)) 31 6 (σ 1 6)) 31 7 (σ 1 7)) = σ1 at A1 A2 A3 ⊢
  refine x_iconst (dat d_To_copy 28 rfl) (by decide) ?_
  refine x_istore_n (L' := [vR 31, vR 1, vI 0]) (dat d_To_copy 29 rfl) rfl (by decide) rfl rfl ?_
  refine x_iload_n (dat d_To_copy 30 rfl) rfl rfl ?_
  refine x_iconst (dat d_To_copy 31 rfl) (by decide) ?_
  refine x_icmp_ge (tgt := 99) (dat d_To_copy 32 rfl) (by decide) (fun h => absurd h (by decide)) (fun c_60 => ?_)
  refine x_aload_n (dat d_To_copy 33 rfl) rfl rfl ?_
  refine x_getr (r := 33) (dat d_To_copy 34 rfl) rfl f_To_18 (or_mk (by decide +kernel)) ?_
  refine x_iload_n (dat d_To_copy 35 rfl) rfl rfl ?_
  refine x_aald (r := 34) (t := 23) (dat d_To_copy 36 rfl) (by decide +kernel) (by decide) (by decide) (by decide +kernel) (by decide +kernel) ?_
  refine x_aload_n (dat d_To_copy 37 rfl) rfl rfl ?_
  refine x_getr (r := 3) (dat d_To_copy 38 rfl) rfl f_To_18 (or_mk (by decide +kernel)) ?_
  refine x_iload_n (dat d_To_copy 39 rfl) rfl rfl ?_
  refine x_aald (r := 4) (t := 23) (dat d_To_copy 40 rfl) (by decide +kernel) (by decide) (by decide) (by decide +kernel) (by decide +kernel) ?_
  refine x_inv (As := [vR 4]) (dat d_To_copy 41 rfl) rfl c_Tw_copy l_To_45 (by decide) (rv_tw (by decide +kernel)) rfl rfl (Nat.le_of_ble_eq_true rfl) ?_
  refine sp_Tw_copy (by simp [IsTw, L_Tw]) (by simp [IsTw, L_Tw]) (by decide) (fun σt0 T0 F0 => ?_)
  show Wx g y_To_copy Z K 78 [vR 31, vR 1, vI 0] [] σt0
  refine x_aload_n (dat d_To_copy 42 rfl) rfl rfl ?_
  refine x_getr (r := 52) (dat d_To_copy 43 rfl) rfl f_To_25 (or_mk (by decide +kernel)) ?_
  refine x_iload_n (dat d_To_copy 44 rfl) rfl rfl ?_
  refine x_aald (r := 53) (t := 24) (dat d_To_copy 45 rfl) (by decide +kernel) (by decide) (by decide) (by decide +kernel) (by decide +kernel) ?_
  refine x_aload_n (dat d_To_copy 46 rfl) rfl rfl ?_
  refine x_getr (r := 22) (dat d_To_copy 47 rfl) rfl f_To_25 (or_mk (by decide +kernel)) ?_
  refine x_iload_n (dat d_To_copy 48 rfl) rfl rfl ?_
  refine x_aald (r := 23) (t := 24) (dat d_To_copy 49 rfl) (by decide +kernel) (by decide) (by decide) (by decide +kernel) (by decide +kernel) ?_
  refine x_inv (As := [vR 23]) (dat d_To_copy 50 rfl) rfl c_Bk_copy l_To_55 (by decide) (rv_bk (by decide +kernel)) rfl rfl (Nat.le_of_ble_eq_true rfl) ?_
  refine sp_Bk_copy (by simp [IsBk, L_Bk]) (by simp [IsBk, L_Bk]) (by decide) (fun σb0 B0 G0 => ?_)
  show Wx g y_To_copy Z K 93 [vR 31, vR 1, vI 0] [] σb0
  refine x_iinc (v' := 1) (L' := [vR 31, vR 1, vI 1]) (dat d_To_copy 51 rfl) rfl (by decide) rfl (by decide) (by omega) rfl ?_
  refine x_goto (tgt := 58) (dat d_To_copy 52 rfl) (by decide) ?_
  refine x_iload_n (dat d_To_copy 30 rfl) rfl rfl ?_
  refine x_iconst (dat d_To_copy 31 rfl) (by decide) ?_
  refine x_icmp_ge (tgt := 99) (dat d_To_copy 32 rfl) (by decide) (fun h => absurd h (by decide)) (fun c_60 => ?_)
  refine x_aload_n (dat d_To_copy 33 rfl) rfl rfl ?_
  refine x_getr (r := 33) (dat d_To_copy 34 rfl) rfl f_To_18 (or_mk (by decide +kernel)) ?_
  refine x_iload_n (dat d_To_copy 35 rfl) rfl rfl ?_
  refine x_aald (r := 43) (t := 23) (dat d_To_copy 36 rfl) (by decide +kernel) (by decide) (by decide) (by decide +kernel) (by decide +kernel) ?_
  refine x_aload_n (dat d_To_copy 37 rfl) rfl rfl ?_
  refine x_getr (r := 3) (dat d_To_copy 38 rfl) rfl f_To_18 (or_mk (by decide +kernel)) ?_
  refine x_iload_n (dat d_To_copy 39 rfl) rfl rfl ?_
  refine x_aald (r := 13) (t := 23) (dat d_To_copy 40 rfl) (by decide +kernel) (by decide) (by decide) (by decide +kernel) (by decide +kernel) ?_
  refine x_inv (As := [vR 13]) (dat d_To_copy 41 rfl) rfl c_Tw_copy l_To_45 (by decide) (rv_tw (by decide +kernel)) rfl rfl (Nat.le_of_ble_eq_true rfl) ?_
  refine sp_Tw_copy (by simp [IsTw, L_Tw]) (by simp [IsTw, L_Tw]) (by decide) (fun σt1 T1 F1 => ?_)
  show Wx g y_To_copy Z K 78 [vR 31, vR 1, vI 1] [] σt1
  refine x_aload_n (dat d_To_copy 42 rfl) rfl rfl ?_
  refine x_getr (r := 52) (dat d_To_copy 43 rfl) rfl f_To_25 (or_mk (by decide +kernel)) ?_
  refine x_iload_n (dat d_To_copy 44 rfl) rfl rfl ?_
  refine x_aald (r := 57) (t := 24) (dat d_To_copy 45 rfl) (by decide +kernel) (by decide) (by decide) (by decide +kernel) (by decide +kernel) ?_
  refine x_aload_n (dat d_To_copy 46 rfl) rfl rfl ?_
  refine x_getr (r := 22) (dat d_To_copy 47 rfl) rfl f_To_25 (or_mk (by decide +kernel)) ?_
  refine x_iload_n (dat d_To_copy 48 rfl) rfl rfl ?_
  refine x_aald (r := 27) (t := 24) (dat d_To_copy 49 rfl) (by decide +kernel) (by decide) (by decide) (by decide +kernel) (by decide +kernel) ?_
  refine x_inv (As := [vR 27]) (dat d_To_copy 50 rfl) rfl c_Bk_copy l_To_55 (by decide) (rv_bk (by decide +kernel)) rfl rfl (Nat.le_of_ble_eq_true rfl) ?_
  refine sp_Bk_copy (by simp [IsBk, L_Bk]) (by simp [IsBk, L_Bk]) (by decide) (fun σb1 B1 G1 => ?_)
  show Wx g y_To_copy Z K 93 [vR 31, vR 1, vI 1] [] σb1
  refine x_iinc (v' := 2) (L' := [vR 31, vR 1, vI 2]) (dat d_To_copy 51 rfl) rfl (by decide) rfl (by decide) (by omega) rfl ?_
  refine x_goto (tgt := 58) (dat d_To_copy 52 rfl) (by decide) ?_
  refine x_iload_n (dat d_To_copy 30 rfl) rfl rfl ?_
  refine x_iconst (dat d_To_copy 31 rfl) (by decide) ?_
  refine x_icmp_ge (tgt := 99) (dat d_To_copy 32 rfl) (by decide) (fun c_60 => ?_) (fun h => absurd h (by decide))
  refine x_ret (dat d_To_copy 53 rfl) rfl ?_
  have fr : ∀ x : Nat, (x < 31 + 3 ∨ 31 + 29 < x) → σb1 x = σ1 x := fun x hx => by rw [G1 x (by omega), F1 x (by omega), G0 x (by omega), F0 x (by omega)]
  refine k σb1 (fun a H => ?_) (fun x hx => by rw [fr x (by omega), A3 x (by omega) (by omega)])
  obtain ⟨h1, h2, h3, h4, h5⟩ := H
  have c0 := h1.1
  have c1 := h1.2.1
  have c2 := h1.2.2
  refine ⟨h1, ?_, fun i i0 i1 => ?_, fun n hn => ?_, fun n hn => ?_⟩
  · rw [fr 31 (by omega), A1.1, A1.2.1, A1.2.2.1, A1.2.2.2.1, A1.2.2.2.2]; exact h2
  · rw [fr (31 + 1) (by omega), A2 i i0 (by omega)]; exact h3 i i0 i1
  · obtain ⟨g1, g2⟩ := h4 n hn
    refine ⟨g1, ?_⟩
    rcases (show n = 0 ∨ n = 1 by omega) with q | q
    · subst q
      refine TownR.same (σ := σt0) ?_ (fun x q0 q1 => by rw [G1 x (by omega), F1 x (by omega), G0 x (by omega)])
      exact T0 _ g1 (g2.same (fun x q0 q1 => A3 x (by omega) (by omega)))
    · subst q
      refine TownR.same (σ := σt1) ?_ (fun x q0 q1 => by rw [G1 x (by omega)])
      exact T1 _ g1 (g2.same (fun x q0 q1 => by rw [G0 x (by omega), F0 x (by omega), A3 x (by omega) (by omega)]))
  · obtain ⟨g1, g2⟩ := h5 n hn
    refine ⟨g1, ?_⟩
    rcases (show n = 0 ∨ n = 1 by omega) with q | q
    · subst q
      refine BookR.same (σ := σb0) ?_ (fun x q0 q1 => by rw [G1 x (by omega), F1 x (by omega)])
      exact B0 _ g1 (g2.same (fun x q0 q1 => by rw [F0 x (by omega), A3 x (by omega) (by omega)]))
    · subst q
      exact B1 _ g1 (g2.same (fun x q0 q1 => by rw [F1 x (by omega), G0 x (by omega), F0 x (by omega), A3 x (by omega) (by omega)]))
theorem sp_To_copy_1_31 {g : xG} {K : Option MV → xS → Prop} {σ : xS} (k : ∀ σ' : xS, (∀ a : Int → Int, TolR σ 31 a → TolR σ' 1 a) → (∀ x : Nat, (x < 1 ∨ 1 + 29 < x) → σ' x = σ x) → K none σ') : Mt g y_To_copy [vR 1, vR 31] σ K := by
  refine x_enter 1 rfl rfl rfl (fun Z => ?_)
  show Wx g y_To_copy Z K 0 [vR 1, vR 31, vU] [] σ
  refine x_aload_n (dat d_To_copy 0 rfl) rfl rfl ?_
  refine x_getr (r := 32) (dat d_To_copy 1 rfl) rfl f_To_9 (or_mk (by decide +kernel)) ?_
  refine x_iconst (dat d_To_copy 2 rfl) (by decide) ?_
  refine x_aload_n (dat d_To_copy 3 rfl) rfl rfl ?_
  refine x_getr (r := 2) (dat d_To_copy 4 rfl) rfl f_To_9 (or_mk (by decide +kernel)) ?_
  refine x_iconst (dat d_To_copy 5 rfl) (by decide) ?_
  refine x_sipush (dat d_To_copy 6 rfl) (by decide) (by decide) ?_
  refine x_copy (own := "ShakenBread$Told") (t := 21) (na := 600) (nb := 600) (dat d_To_copy 7 rfl) rfl l_To_58 (by decide) (by decide) (ai_mk (by decide +kernel)) (ai_mk (by decide +kernel)) (by omega) (by omega) (by omega) (by omega) (by omega) (Nat.le_of_ble_eq_true rfl) ?_
  refine x_aload_n (dat d_To_copy 8 rfl) rfl rfl ?_
  refine x_aload_n (dat d_To_copy 9 rfl) rfl rfl ?_
  refine x_geti (ji := 3) (v := σ 31 3) (dat d_To_copy 10 rfl) rfl f_To_33 (oi_mk (by decide +kernel)) (congrFun (cpy_ne (Ne.symm (by decide))) _) ?_
  refine x_puti (ji := 3) (x := (σ 31 3)) (dat d_To_copy 11 rfl) rfl f_To_33w (oi_mk (by decide +kernel)) (fun h => absurd h (by decide)) (by decide) ?_
  refine x_aload_n (dat d_To_copy 12 rfl) rfl rfl ?_
  refine x_aload_n (dat d_To_copy 13 rfl) rfl rfl ?_
  refine x_geti (ji := 4) (v := σ 31 4) (dat d_To_copy 14 rfl) rfl f_To_36 (oi_mk (by decide +kernel)) ((up_nk (by decide)).trans (congrFun (cpy_ne (Ne.symm (by decide))) _)) ?_
  refine x_puti (ji := 4) (x := (σ 31 4)) (dat d_To_copy 15 rfl) rfl f_To_36w (oi_mk (by decide +kernel)) (fun h => absurd h (by decide)) (by decide) ?_
  refine x_aload_n (dat d_To_copy 16 rfl) rfl rfl ?_
  refine x_aload_n (dat d_To_copy 17 rfl) rfl rfl ?_
  refine x_geti (ji := 5) (v := σ 31 5) (dat d_To_copy 18 rfl) rfl f_To_29 (oi_mk (by decide +kernel)) ((up_nk (by decide)).trans ((up_nk (by decide)).trans (congrFun (cpy_ne (Ne.symm (by decide))) _))) ?_
  refine x_puti (ji := 5) (x := (σ 31 5)) (dat d_To_copy 19 rfl) rfl f_To_29w (oi_mk (by decide +kernel)) (fun h => absurd h (by decide)) (by decide) ?_
  refine x_aload_n (dat d_To_copy 20 rfl) rfl rfl ?_
  refine x_aload_n (dat d_To_copy 21 rfl) rfl rfl ?_
  refine x_geti (ji := 6) (v := σ 31 6) (dat d_To_copy 22 rfl) rfl f_To_39 (oi_mk (by decide +kernel)) ((up_nk (by decide)).trans ((up_nk (by decide)).trans ((up_nk (by decide)).trans (congrFun (cpy_ne (Ne.symm (by decide))) _)))) ?_
  refine x_puti (ji := 6) (x := (σ 31 6)) (dat d_To_copy 23 rfl) rfl f_To_39w (oi_mk (by decide +kernel)) (fun h => absurd h (by decide)) (by decide) ?_
  refine x_aload_n (dat d_To_copy 24 rfl) rfl rfl ?_
  refine x_aload_n (dat d_To_copy 25 rfl) rfl rfl ?_
  refine x_geti (ji := 7) (v := σ 31 7) (dat d_To_copy 26 rfl) rfl f_To_42 (oi_mk (by decide +kernel)) ((up_nk (by decide)).trans ((up_nk (by decide)).trans ((up_nk (by decide)).trans ((up_nk (by decide)).trans (congrFun (cpy_ne (Ne.symm (by decide))) _))))) ?_
  refine x_puti (ji := 7) (x := (σ 31 7)) (dat d_To_copy 27 rfl) rfl f_To_42w (oi_mk (by decide +kernel)) (fun h => absurd h (by decide)) (by decide) ?_
  have A1 : (up (up (up (up (up (cpy σ 32 2 0 0 600) 1 3 (σ 31 3)) 1 4 (σ 31 4)) 1 5 (σ 31 5)) 1 6 (σ 31 6)) 1 7 (σ 31 7)) 1 3 = σ 31 3 ∧ (up (up (up (up (up (cpy σ 32 2 0 0 600) 1 3 (σ 31 3)) 1 4 (σ 31 4)) 1 5 (σ 31 5)) 1 6 (σ 31 6)) 1 7 (σ 31 7)) 1 4 = σ 31 4 ∧ (up (up (up (up (up (cpy σ 32 2 0 0 600) 1 3 (σ 31 3)) 1 4 (σ 31 4)) 1 5 (σ 31 5)) 1 6 (σ 31 6)) 1 7 (σ 31 7)) 1 5 = σ 31 5 ∧ (up (up (up (up (up (cpy σ 32 2 0 0 600) 1 3 (σ 31 3)) 1 4 (σ 31 4)) 1 5 (σ 31 5)) 1 6 (σ 31 6)) 1 7 (σ 31 7)) 1 6 = σ 31 6 ∧ (up (up (up (up (up (cpy σ 32 2 0 0 600) 1 3 (σ 31 3)) 1 4 (σ 31 4)) 1 5 (σ 31 5)) 1 6 (σ 31 6)) 1 7 (σ 31 7)) 1 7 = σ 31 7 := by
    refine ⟨?_, ?_, ?_, ?_, ?_⟩
    · rw [up_ni (by decide), up_ni (by decide), up_ni (by decide), up_ni (by decide), up_s]
    · rw [up_ni (by decide), up_ni (by decide), up_ni (by decide), up_s]
    · rw [up_ni (by decide), up_ni (by decide), up_s]
    · rw [up_ni (by decide), up_s]
    · rw [up_s]
  have A2 : ∀ i : Int, 0 ≤ i → i < 600 → (up (up (up (up (up (cpy σ 32 2 0 0 600) 1 3 (σ 31 3)) 1 4 (σ 31 4)) 1 5 (σ 31 5)) 1 6 (σ 31 6)) 1 7 (σ 31 7)) (1 + 1) i = σ (31 + 1) i := fun i i0 i1 => by
    rw [up_ne (by decide), up_ne (by decide), up_ne (by decide), up_ne (by decide), up_ne (by decide), cpy_in (by omega) (by omega), show (0 : Int) + (i - 0) = i by omega]
  have A3 : ∀ x : Nat, x ≠ 1 → x ≠ 1 + 1 → (up (up (up (up (up (cpy σ 32 2 0 0 600) 1 3 (σ 31 3)) 1 4 (σ 31 4)) 1 5 (σ 31 5)) 1 6 (σ 31 6)) 1 7 (σ 31 7)) x = σ x := fun x h1 h2 => by
    rw [up_ne h1, up_ne h1, up_ne h1, up_ne h1, up_ne h1, cpy_ne h2]
  generalize (up (up (up (up (up (cpy σ 32 2 0 0 600) 1 3 (σ 31 3)) 1 4 (σ 31 4)) 1 5 (σ 31 5)) 1 6 (σ 31 6)) 1 7 (σ 31 7)) = σ1 at A1 A2 A3 ⊢
  refine x_iconst (dat d_To_copy 28 rfl) (by decide) ?_
  refine x_istore_n (L' := [vR 1, vR 31, vI 0]) (dat d_To_copy 29 rfl) rfl (by decide) rfl rfl ?_
  refine x_iload_n (dat d_To_copy 30 rfl) rfl rfl ?_
  refine x_iconst (dat d_To_copy 31 rfl) (by decide) ?_
  refine x_icmp_ge (tgt := 99) (dat d_To_copy 32 rfl) (by decide) (fun h => absurd h (by decide)) (fun c_60 => ?_)
  refine x_aload_n (dat d_To_copy 33 rfl) rfl rfl ?_
  refine x_getr (r := 3) (dat d_To_copy 34 rfl) rfl f_To_18 (or_mk (by decide +kernel)) ?_
  refine x_iload_n (dat d_To_copy 35 rfl) rfl rfl ?_
  refine x_aald (r := 4) (t := 23) (dat d_To_copy 36 rfl) (by decide +kernel) (by decide) (by decide) (by decide +kernel) (by decide +kernel) ?_
  refine x_aload_n (dat d_To_copy 37 rfl) rfl rfl ?_
  refine x_getr (r := 33) (dat d_To_copy 38 rfl) rfl f_To_18 (or_mk (by decide +kernel)) ?_
  refine x_iload_n (dat d_To_copy 39 rfl) rfl rfl ?_
  refine x_aald (r := 34) (t := 23) (dat d_To_copy 40 rfl) (by decide +kernel) (by decide) (by decide) (by decide +kernel) (by decide +kernel) ?_
  refine x_inv (As := [vR 34]) (dat d_To_copy 41 rfl) rfl c_Tw_copy l_To_45 (by decide) (rv_tw (by decide +kernel)) rfl rfl (Nat.le_of_ble_eq_true rfl) ?_
  refine sp_Tw_copy (by simp [IsTw, L_Tw]) (by simp [IsTw, L_Tw]) (by decide) (fun σt0 T0 F0 => ?_)
  show Wx g y_To_copy Z K 78 [vR 1, vR 31, vI 0] [] σt0
  refine x_aload_n (dat d_To_copy 42 rfl) rfl rfl ?_
  refine x_getr (r := 22) (dat d_To_copy 43 rfl) rfl f_To_25 (or_mk (by decide +kernel)) ?_
  refine x_iload_n (dat d_To_copy 44 rfl) rfl rfl ?_
  refine x_aald (r := 23) (t := 24) (dat d_To_copy 45 rfl) (by decide +kernel) (by decide) (by decide) (by decide +kernel) (by decide +kernel) ?_
  refine x_aload_n (dat d_To_copy 46 rfl) rfl rfl ?_
  refine x_getr (r := 52) (dat d_To_copy 47 rfl) rfl f_To_25 (or_mk (by decide +kernel)) ?_
  refine x_iload_n (dat d_To_copy 48 rfl) rfl rfl ?_
  refine x_aald (r := 53) (t := 24) (dat d_To_copy 49 rfl) (by decide +kernel) (by decide) (by decide) (by decide +kernel) (by decide +kernel) ?_
  refine x_inv (As := [vR 53]) (dat d_To_copy 50 rfl) rfl c_Bk_copy l_To_55 (by decide) (rv_bk (by decide +kernel)) rfl rfl (Nat.le_of_ble_eq_true rfl) ?_
  refine sp_Bk_copy (by simp [IsBk, L_Bk]) (by simp [IsBk, L_Bk]) (by decide) (fun σb0 B0 G0 => ?_)
  show Wx g y_To_copy Z K 93 [vR 1, vR 31, vI 0] [] σb0
  refine x_iinc (v' := 1) (L' := [vR 1, vR 31, vI 1]) (dat d_To_copy 51 rfl) rfl (by decide) rfl (by decide) (by omega) rfl ?_
  refine x_goto (tgt := 58) (dat d_To_copy 52 rfl) (by decide) ?_
  refine x_iload_n (dat d_To_copy 30 rfl) rfl rfl ?_
  refine x_iconst (dat d_To_copy 31 rfl) (by decide) ?_
  refine x_icmp_ge (tgt := 99) (dat d_To_copy 32 rfl) (by decide) (fun h => absurd h (by decide)) (fun c_60 => ?_)
  refine x_aload_n (dat d_To_copy 33 rfl) rfl rfl ?_
  refine x_getr (r := 3) (dat d_To_copy 34 rfl) rfl f_To_18 (or_mk (by decide +kernel)) ?_
  refine x_iload_n (dat d_To_copy 35 rfl) rfl rfl ?_
  refine x_aald (r := 13) (t := 23) (dat d_To_copy 36 rfl) (by decide +kernel) (by decide) (by decide) (by decide +kernel) (by decide +kernel) ?_
  refine x_aload_n (dat d_To_copy 37 rfl) rfl rfl ?_
  refine x_getr (r := 33) (dat d_To_copy 38 rfl) rfl f_To_18 (or_mk (by decide +kernel)) ?_
  refine x_iload_n (dat d_To_copy 39 rfl) rfl rfl ?_
  refine x_aald (r := 43) (t := 23) (dat d_To_copy 40 rfl) (by decide +kernel) (by decide) (by decide) (by decide +kernel) (by decide +kernel) ?_
  refine x_inv (As := [vR 43]) (dat d_To_copy 41 rfl) rfl c_Tw_copy l_To_45 (by decide) (rv_tw (by decide +kernel)) rfl rfl (Nat.le_of_ble_eq_true rfl) ?_
  refine sp_Tw_copy (by simp [IsTw, L_Tw]) (by simp [IsTw, L_Tw]) (by decide) (fun σt1 T1 F1 => ?_)
  show Wx g y_To_copy Z K 78 [vR 1, vR 31, vI 1] [] σt1
  refine x_aload_n (dat d_To_copy 42 rfl) rfl rfl ?_
  refine x_getr (r := 22) (dat d_To_copy 43 rfl) rfl f_To_25 (or_mk (by decide +kernel)) ?_
  refine x_iload_n (dat d_To_copy 44 rfl) rfl rfl ?_
  refine x_aald (r := 27) (t := 24) (dat d_To_copy 45 rfl) (by decide +kernel) (by decide) (by decide) (by decide +kernel) (by decide +kernel) ?_
  refine x_aload_n (dat d_To_copy 46 rfl) rfl rfl ?_
  refine x_getr (r := 52) (dat d_To_copy 47 rfl) rfl f_To_25 (or_mk (by decide +kernel)) ?_
  refine x_iload_n (dat d_To_copy 48 rfl) rfl rfl ?_
  refine x_aald (r := 57) (t := 24) (dat d_To_copy 49 rfl) (by decide +kernel) (by decide) (by decide) (by decide +kernel) (by decide +kernel) ?_
  refine x_inv (As := [vR 57]) (dat d_To_copy 50 rfl) rfl c_Bk_copy l_To_55 (by decide) (rv_bk (by decide +kernel)) rfl rfl (Nat.le_of_ble_eq_true rfl) ?_
  refine sp_Bk_copy (by simp [IsBk, L_Bk]) (by simp [IsBk, L_Bk]) (by decide) (fun σb1 B1 G1 => ?_)
  show Wx g y_To_copy Z K 93 [vR 1, vR 31, vI 1] [] σb1
  refine x_iinc (v' := 2) (L' := [vR 1, vR 31, vI 2]) (dat d_To_copy 51 rfl) rfl (by decide) rfl (by decide) (by omega) rfl ?_
  refine x_goto (tgt := 58) (dat d_To_copy 52 rfl) (by decide) ?_
  refine x_iload_n (dat d_To_copy 30 rfl) rfl rfl ?_
  refine x_iconst (dat d_To_copy 31 rfl) (by decide) ?_
  refine x_icmp_ge (tgt := 99) (dat d_To_copy 32 rfl) (by decide) (fun c_60 => ?_) (fun h => absurd h (by decide))
  refine x_ret (dat d_To_copy 53 rfl) rfl ?_
  have fr : ∀ x : Nat, (x < 1 + 3 ∨ 1 + 29 < x) → σb1 x = σ1 x := fun x hx => by rw [G1 x (by omega), F1 x (by omega), G0 x (by omega), F0 x (by omega)]
  refine k σb1 (fun a H => ?_) (fun x hx => by rw [fr x (by omega), A3 x (by omega) (by omega)])
  obtain ⟨h1, h2, h3, h4, h5⟩ := H
  have c0 := h1.1
  have c1 := h1.2.1
  have c2 := h1.2.2
  refine ⟨h1, ?_, fun i i0 i1 => ?_, fun n hn => ?_, fun n hn => ?_⟩
  · rw [fr 1 (by omega), A1.1, A1.2.1, A1.2.2.1, A1.2.2.2.1, A1.2.2.2.2]; exact h2
  · rw [fr (1 + 1) (by omega), A2 i i0 (by omega)]; exact h3 i i0 i1
  · obtain ⟨g1, g2⟩ := h4 n hn
    refine ⟨g1, ?_⟩
    rcases (show n = 0 ∨ n = 1 by omega) with q | q
    · subst q
      refine TownR.same (σ := σt0) ?_ (fun x q0 q1 => by rw [G1 x (by omega), F1 x (by omega), G0 x (by omega)])
      exact T0 _ g1 (g2.same (fun x q0 q1 => A3 x (by omega) (by omega)))
    · subst q
      refine TownR.same (σ := σt1) ?_ (fun x q0 q1 => by rw [G1 x (by omega)])
      exact T1 _ g1 (g2.same (fun x q0 q1 => by rw [G0 x (by omega), F0 x (by omega), A3 x (by omega) (by omega)]))
  · obtain ⟨g1, g2⟩ := h5 n hn
    refine ⟨g1, ?_⟩
    rcases (show n = 0 ∨ n = 1 by omega) with q | q
    · subst q
      refine BookR.same (σ := σb0) ?_ (fun x q0 q1 => by rw [G1 x (by omega), F1 x (by omega)])
      exact B0 _ g1 (g2.same (fun x q0 q1 => by rw [F0 x (by omega), A3 x (by omega) (by omega)]))
    · subst q
      exact B1 _ g1 (g2.same (fun x q0 q1 => by rw [F1 x (by omega), G0 x (by omega), F0 x (by omega), A3 x (by omega) (by omega)]))
theorem sp_To_copy_61_1 {g : xG} {K : Option MV → xS → Prop} {σ : xS} (k : ∀ σ' : xS, (∀ a : Int → Int, TolR σ 1 a → TolR σ' 61 a) → (∀ x : Nat, (x < 61 ∨ 61 + 29 < x) → σ' x = σ x) → K none σ') : Mt g y_To_copy [vR 61, vR 1] σ K := by
  refine x_enter 1 rfl rfl rfl (fun Z => ?_)
  show Wx g y_To_copy Z K 0 [vR 61, vR 1, vU] [] σ
  refine x_aload_n (dat d_To_copy 0 rfl) rfl rfl ?_
  refine x_getr (r := 2) (dat d_To_copy 1 rfl) rfl f_To_9 (or_mk (by decide +kernel)) ?_
  refine x_iconst (dat d_To_copy 2 rfl) (by decide) ?_
  refine x_aload_n (dat d_To_copy 3 rfl) rfl rfl ?_
  refine x_getr (r := 62) (dat d_To_copy 4 rfl) rfl f_To_9 (or_mk (by decide +kernel)) ?_
  refine x_iconst (dat d_To_copy 5 rfl) (by decide) ?_
  refine x_sipush (dat d_To_copy 6 rfl) (by decide) (by decide) ?_
  refine x_copy (own := "ShakenBread$Told") (t := 21) (na := 600) (nb := 600) (dat d_To_copy 7 rfl) rfl l_To_58 (by decide) (by decide) (ai_mk (by decide +kernel)) (ai_mk (by decide +kernel)) (by omega) (by omega) (by omega) (by omega) (by omega) (Nat.le_of_ble_eq_true rfl) ?_
  refine x_aload_n (dat d_To_copy 8 rfl) rfl rfl ?_
  refine x_aload_n (dat d_To_copy 9 rfl) rfl rfl ?_
  refine x_geti (ji := 3) (v := σ 1 3) (dat d_To_copy 10 rfl) rfl f_To_33 (oi_mk (by decide +kernel)) (congrFun (cpy_ne (Ne.symm (by decide))) _) ?_
  refine x_puti (ji := 3) (x := (σ 1 3)) (dat d_To_copy 11 rfl) rfl f_To_33w (oi_mk (by decide +kernel)) (fun h => absurd h (by decide)) (by decide) ?_
  refine x_aload_n (dat d_To_copy 12 rfl) rfl rfl ?_
  refine x_aload_n (dat d_To_copy 13 rfl) rfl rfl ?_
  refine x_geti (ji := 4) (v := σ 1 4) (dat d_To_copy 14 rfl) rfl f_To_36 (oi_mk (by decide +kernel)) ((up_nk (by decide)).trans (congrFun (cpy_ne (Ne.symm (by decide))) _)) ?_
  refine x_puti (ji := 4) (x := (σ 1 4)) (dat d_To_copy 15 rfl) rfl f_To_36w (oi_mk (by decide +kernel)) (fun h => absurd h (by decide)) (by decide) ?_
  refine x_aload_n (dat d_To_copy 16 rfl) rfl rfl ?_
  refine x_aload_n (dat d_To_copy 17 rfl) rfl rfl ?_
  refine x_geti (ji := 5) (v := σ 1 5) (dat d_To_copy 18 rfl) rfl f_To_29 (oi_mk (by decide +kernel)) ((up_nk (by decide)).trans ((up_nk (by decide)).trans (congrFun (cpy_ne (Ne.symm (by decide))) _))) ?_
  refine x_puti (ji := 5) (x := (σ 1 5)) (dat d_To_copy 19 rfl) rfl f_To_29w (oi_mk (by decide +kernel)) (fun h => absurd h (by decide)) (by decide) ?_
  refine x_aload_n (dat d_To_copy 20 rfl) rfl rfl ?_
  refine x_aload_n (dat d_To_copy 21 rfl) rfl rfl ?_
  refine x_geti (ji := 6) (v := σ 1 6) (dat d_To_copy 22 rfl) rfl f_To_39 (oi_mk (by decide +kernel)) ((up_nk (by decide)).trans ((up_nk (by decide)).trans ((up_nk (by decide)).trans (congrFun (cpy_ne (Ne.symm (by decide))) _)))) ?_
  refine x_puti (ji := 6) (x := (σ 1 6)) (dat d_To_copy 23 rfl) rfl f_To_39w (oi_mk (by decide +kernel)) (fun h => absurd h (by decide)) (by decide) ?_
  refine x_aload_n (dat d_To_copy 24 rfl) rfl rfl ?_
  refine x_aload_n (dat d_To_copy 25 rfl) rfl rfl ?_
  refine x_geti (ji := 7) (v := σ 1 7) (dat d_To_copy 26 rfl) rfl f_To_42 (oi_mk (by decide +kernel)) ((up_nk (by decide)).trans ((up_nk (by decide)).trans ((up_nk (by decide)).trans ((up_nk (by decide)).trans (congrFun (cpy_ne (Ne.symm (by decide))) _))))) ?_
  refine x_puti (ji := 7) (x := (σ 1 7)) (dat d_To_copy 27 rfl) rfl f_To_42w (oi_mk (by decide +kernel)) (fun h => absurd h (by decide)) (by decide) ?_
  have A1 : (up (up (up (up (up (cpy σ 2 62 0 0 600) 61 3 (σ 1 3)) 61 4 (σ 1 4)) 61 5 (σ 1 5)) 61 6 (σ 1 6)) 61 7 (σ 1 7)) 61 3 = σ 1 3 ∧ (up (up (up (up (up (cpy σ 2 62 0 0 600) 61 3 (σ 1 3)) 61 4 (σ 1 4)) 61 5 (σ 1 5)) 61 6 (σ 1 6)) 61 7 (σ 1 7)) 61 4 = σ 1 4 ∧ (up (up (up (up (up (cpy σ 2 62 0 0 600) 61 3 (σ 1 3)) 61 4 (σ 1 4)) 61 5 (σ 1 5)) 61 6 (σ 1 6)) 61 7 (σ 1 7)) 61 5 = σ 1 5 ∧ (up (up (up (up (up (cpy σ 2 62 0 0 600) 61 3 (σ 1 3)) 61 4 (σ 1 4)) 61 5 (σ 1 5)) 61 6 (σ 1 6)) 61 7 (σ 1 7)) 61 6 = σ 1 6 ∧ (up (up (up (up (up (cpy σ 2 62 0 0 600) 61 3 (σ 1 3)) 61 4 (σ 1 4)) 61 5 (σ 1 5)) 61 6 (σ 1 6)) 61 7 (σ 1 7)) 61 7 = σ 1 7 := by
    refine ⟨?_, ?_, ?_, ?_, ?_⟩
    · rw [up_ni (by decide), up_ni (by decide), up_ni (by decide), up_ni (by decide), up_s]
    · rw [up_ni (by decide), up_ni (by decide), up_ni (by decide), up_s]
    · rw [up_ni (by decide), up_ni (by decide), up_s]
    · rw [up_ni (by decide), up_s]
    · rw [up_s]
  have A2 : ∀ i : Int, 0 ≤ i → i < 600 → (up (up (up (up (up (cpy σ 2 62 0 0 600) 61 3 (σ 1 3)) 61 4 (σ 1 4)) 61 5 (σ 1 5)) 61 6 (σ 1 6)) 61 7 (σ 1 7)) (61 + 1) i = σ (1 + 1) i := fun i i0 i1 => by
    rw [up_ne (by decide), up_ne (by decide), up_ne (by decide), up_ne (by decide), up_ne (by decide), cpy_in (by omega) (by omega), show (0 : Int) + (i - 0) = i by omega]
  have A3 : ∀ x : Nat, x ≠ 61 → x ≠ 61 + 1 → (up (up (up (up (up (cpy σ 2 62 0 0 600) 61 3 (σ 1 3)) 61 4 (σ 1 4)) 61 5 (σ 1 5)) 61 6 (σ 1 6)) 61 7 (σ 1 7)) x = σ x := fun x h1 h2 => by
    rw [up_ne h1, up_ne h1, up_ne h1, up_ne h1, up_ne h1, cpy_ne h2]
  generalize (up (up (up (up (up (cpy σ 2 62 0 0 600) 61 3 (σ 1 3)) 61 4 (σ 1 4)) 61 5 (σ 1 5)) 61 6 (σ 1 6)) 61 7 (σ 1 7)) = σ1 at A1 A2 A3 ⊢
  refine x_iconst (dat d_To_copy 28 rfl) (by decide) ?_
  refine x_istore_n (L' := [vR 61, vR 1, vI 0]) (dat d_To_copy 29 rfl) rfl (by decide) rfl rfl ?_
  refine x_iload_n (dat d_To_copy 30 rfl) rfl rfl ?_
  refine x_iconst (dat d_To_copy 31 rfl) (by decide) ?_
  refine x_icmp_ge (tgt := 99) (dat d_To_copy 32 rfl) (by decide) (fun h => absurd h (by decide)) (fun c_60 => ?_)
  refine x_aload_n (dat d_To_copy 33 rfl) rfl rfl ?_
  refine x_getr (r := 63) (dat d_To_copy 34 rfl) rfl f_To_18 (or_mk (by decide +kernel)) ?_
  refine x_iload_n (dat d_To_copy 35 rfl) rfl rfl ?_
  refine x_aald (r := 64) (t := 23) (dat d_To_copy 36 rfl) (by decide +kernel) (by decide) (by decide) (by decide +kernel) (by decide +kernel) ?_
  refine x_aload_n (dat d_To_copy 37 rfl) rfl rfl ?_
  refine x_getr (r := 3) (dat d_To_copy 38 rfl) rfl f_To_18 (or_mk (by decide +kernel)) ?_
  refine x_iload_n (dat d_To_copy 39 rfl) rfl rfl ?_
  refine x_aald (r := 4) (t := 23) (dat d_To_copy 40 rfl) (by decide +kernel) (by decide) (by decide) (by decide +kernel) (by decide +kernel) ?_
  refine x_inv (As := [vR 4]) (dat d_To_copy 41 rfl) rfl c_Tw_copy l_To_45 (by decide) (rv_tw (by decide +kernel)) rfl rfl (Nat.le_of_ble_eq_true rfl) ?_
  refine sp_Tw_copy (by simp [IsTw, L_Tw]) (by simp [IsTw, L_Tw]) (by decide) (fun σt0 T0 F0 => ?_)
  show Wx g y_To_copy Z K 78 [vR 61, vR 1, vI 0] [] σt0
  refine x_aload_n (dat d_To_copy 42 rfl) rfl rfl ?_
  refine x_getr (r := 82) (dat d_To_copy 43 rfl) rfl f_To_25 (or_mk (by decide +kernel)) ?_
  refine x_iload_n (dat d_To_copy 44 rfl) rfl rfl ?_
  refine x_aald (r := 83) (t := 24) (dat d_To_copy 45 rfl) (by decide +kernel) (by decide) (by decide) (by decide +kernel) (by decide +kernel) ?_
  refine x_aload_n (dat d_To_copy 46 rfl) rfl rfl ?_
  refine x_getr (r := 22) (dat d_To_copy 47 rfl) rfl f_To_25 (or_mk (by decide +kernel)) ?_
  refine x_iload_n (dat d_To_copy 48 rfl) rfl rfl ?_
  refine x_aald (r := 23) (t := 24) (dat d_To_copy 49 rfl) (by decide +kernel) (by decide) (by decide) (by decide +kernel) (by decide +kernel) ?_
  refine x_inv (As := [vR 23]) (dat d_To_copy 50 rfl) rfl c_Bk_copy l_To_55 (by decide) (rv_bk (by decide +kernel)) rfl rfl (Nat.le_of_ble_eq_true rfl) ?_
  refine sp_Bk_copy (by simp [IsBk, L_Bk]) (by simp [IsBk, L_Bk]) (by decide) (fun σb0 B0 G0 => ?_)
  show Wx g y_To_copy Z K 93 [vR 61, vR 1, vI 0] [] σb0
  refine x_iinc (v' := 1) (L' := [vR 61, vR 1, vI 1]) (dat d_To_copy 51 rfl) rfl (by decide) rfl (by decide) (by omega) rfl ?_
  refine x_goto (tgt := 58) (dat d_To_copy 52 rfl) (by decide) ?_
  refine x_iload_n (dat d_To_copy 30 rfl) rfl rfl ?_
  refine x_iconst (dat d_To_copy 31 rfl) (by decide) ?_
  refine x_icmp_ge (tgt := 99) (dat d_To_copy 32 rfl) (by decide) (fun h => absurd h (by decide)) (fun c_60 => ?_)
  refine x_aload_n (dat d_To_copy 33 rfl) rfl rfl ?_
  refine x_getr (r := 63) (dat d_To_copy 34 rfl) rfl f_To_18 (or_mk (by decide +kernel)) ?_
  refine x_iload_n (dat d_To_copy 35 rfl) rfl rfl ?_
  refine x_aald (r := 73) (t := 23) (dat d_To_copy 36 rfl) (by decide +kernel) (by decide) (by decide) (by decide +kernel) (by decide +kernel) ?_
  refine x_aload_n (dat d_To_copy 37 rfl) rfl rfl ?_
  refine x_getr (r := 3) (dat d_To_copy 38 rfl) rfl f_To_18 (or_mk (by decide +kernel)) ?_
  refine x_iload_n (dat d_To_copy 39 rfl) rfl rfl ?_
  refine x_aald (r := 13) (t := 23) (dat d_To_copy 40 rfl) (by decide +kernel) (by decide) (by decide) (by decide +kernel) (by decide +kernel) ?_
  refine x_inv (As := [vR 13]) (dat d_To_copy 41 rfl) rfl c_Tw_copy l_To_45 (by decide) (rv_tw (by decide +kernel)) rfl rfl (Nat.le_of_ble_eq_true rfl) ?_
  refine sp_Tw_copy (by simp [IsTw, L_Tw]) (by simp [IsTw, L_Tw]) (by decide) (fun σt1 T1 F1 => ?_)
  show Wx g y_To_copy Z K 78 [vR 61, vR 1, vI 1] [] σt1
  refine x_aload_n (dat d_To_copy 42 rfl) rfl rfl ?_
  refine x_getr (r := 82) (dat d_To_copy 43 rfl) rfl f_To_25 (or_mk (by decide +kernel)) ?_
  refine x_iload_n (dat d_To_copy 44 rfl) rfl rfl ?_
  refine x_aald (r := 87) (t := 24) (dat d_To_copy 45 rfl) (by decide +kernel) (by decide) (by decide) (by decide +kernel) (by decide +kernel) ?_
  refine x_aload_n (dat d_To_copy 46 rfl) rfl rfl ?_
  refine x_getr (r := 22) (dat d_To_copy 47 rfl) rfl f_To_25 (or_mk (by decide +kernel)) ?_
  refine x_iload_n (dat d_To_copy 48 rfl) rfl rfl ?_
  refine x_aald (r := 27) (t := 24) (dat d_To_copy 49 rfl) (by decide +kernel) (by decide) (by decide) (by decide +kernel) (by decide +kernel) ?_
  refine x_inv (As := [vR 27]) (dat d_To_copy 50 rfl) rfl c_Bk_copy l_To_55 (by decide) (rv_bk (by decide +kernel)) rfl rfl (Nat.le_of_ble_eq_true rfl) ?_
  refine sp_Bk_copy (by simp [IsBk, L_Bk]) (by simp [IsBk, L_Bk]) (by decide) (fun σb1 B1 G1 => ?_)
  show Wx g y_To_copy Z K 93 [vR 61, vR 1, vI 1] [] σb1
  refine x_iinc (v' := 2) (L' := [vR 61, vR 1, vI 2]) (dat d_To_copy 51 rfl) rfl (by decide) rfl (by decide) (by omega) rfl ?_
  refine x_goto (tgt := 58) (dat d_To_copy 52 rfl) (by decide) ?_
  refine x_iload_n (dat d_To_copy 30 rfl) rfl rfl ?_
  refine x_iconst (dat d_To_copy 31 rfl) (by decide) ?_
  refine x_icmp_ge (tgt := 99) (dat d_To_copy 32 rfl) (by decide) (fun c_60 => ?_) (fun h => absurd h (by decide))
  refine x_ret (dat d_To_copy 53 rfl) rfl ?_
  have fr : ∀ x : Nat, (x < 61 + 3 ∨ 61 + 29 < x) → σb1 x = σ1 x := fun x hx => by rw [G1 x (by omega), F1 x (by omega), G0 x (by omega), F0 x (by omega)]
  refine k σb1 (fun a H => ?_) (fun x hx => by rw [fr x (by omega), A3 x (by omega) (by omega)])
  obtain ⟨h1, h2, h3, h4, h5⟩ := H
  have c0 := h1.1
  have c1 := h1.2.1
  have c2 := h1.2.2
  refine ⟨h1, ?_, fun i i0 i1 => ?_, fun n hn => ?_, fun n hn => ?_⟩
  · rw [fr 61 (by omega), A1.1, A1.2.1, A1.2.2.1, A1.2.2.2.1, A1.2.2.2.2]; exact h2
  · rw [fr (61 + 1) (by omega), A2 i i0 (by omega)]; exact h3 i i0 i1
  · obtain ⟨g1, g2⟩ := h4 n hn
    refine ⟨g1, ?_⟩
    rcases (show n = 0 ∨ n = 1 by omega) with q | q
    · subst q
      refine TownR.same (σ := σt0) ?_ (fun x q0 q1 => by rw [G1 x (by omega), F1 x (by omega), G0 x (by omega)])
      exact T0 _ g1 (g2.same (fun x q0 q1 => A3 x (by omega) (by omega)))
    · subst q
      refine TownR.same (σ := σt1) ?_ (fun x q0 q1 => by rw [G1 x (by omega)])
      exact T1 _ g1 (g2.same (fun x q0 q1 => by rw [G0 x (by omega), F0 x (by omega), A3 x (by omega) (by omega)]))
  · obtain ⟨g1, g2⟩ := h5 n hn
    refine ⟨g1, ?_⟩
    rcases (show n = 0 ∨ n = 1 by omega) with q | q
    · subst q
      refine BookR.same (σ := σb0) ?_ (fun x q0 q1 => by rw [G1 x (by omega), F1 x (by omega)])
      exact B0 _ g1 (g2.same (fun x q0 q1 => by rw [F0 x (by omega), A3 x (by omega) (by omega)]))
    · subst q
      exact B1 _ g1 (g2.same (fun x q0 q1 => by rw [F1 x (by omega), G0 x (by omega), F0 x (by omega), A3 x (by omega) (by omega)]))
theorem sp_To_copy_1_61 {g : xG} {K : Option MV → xS → Prop} {σ : xS} (k : ∀ σ' : xS, (∀ a : Int → Int, TolR σ 61 a → TolR σ' 1 a) → (∀ x : Nat, (x < 1 ∨ 1 + 29 < x) → σ' x = σ x) → K none σ') : Mt g y_To_copy [vR 1, vR 61] σ K := by
  refine x_enter 1 rfl rfl rfl (fun Z => ?_)
  show Wx g y_To_copy Z K 0 [vR 1, vR 61, vU] [] σ
  refine x_aload_n (dat d_To_copy 0 rfl) rfl rfl ?_
  refine x_getr (r := 62) (dat d_To_copy 1 rfl) rfl f_To_9 (or_mk (by decide +kernel)) ?_
  refine x_iconst (dat d_To_copy 2 rfl) (by decide) ?_
  refine x_aload_n (dat d_To_copy 3 rfl) rfl rfl ?_
  refine x_getr (r := 2) (dat d_To_copy 4 rfl) rfl f_To_9 (or_mk (by decide +kernel)) ?_
  refine x_iconst (dat d_To_copy 5 rfl) (by decide) ?_
  refine x_sipush (dat d_To_copy 6 rfl) (by decide) (by decide) ?_
  refine x_copy (own := "ShakenBread$Told") (t := 21) (na := 600) (nb := 600) (dat d_To_copy 7 rfl) rfl l_To_58 (by decide) (by decide) (ai_mk (by decide +kernel)) (ai_mk (by decide +kernel)) (by omega) (by omega) (by omega) (by omega) (by omega) (Nat.le_of_ble_eq_true rfl) ?_
  refine x_aload_n (dat d_To_copy 8 rfl) rfl rfl ?_
  refine x_aload_n (dat d_To_copy 9 rfl) rfl rfl ?_
  refine x_geti (ji := 3) (v := σ 61 3) (dat d_To_copy 10 rfl) rfl f_To_33 (oi_mk (by decide +kernel)) (congrFun (cpy_ne (Ne.symm (by decide))) _) ?_
  refine x_puti (ji := 3) (x := (σ 61 3)) (dat d_To_copy 11 rfl) rfl f_To_33w (oi_mk (by decide +kernel)) (fun h => absurd h (by decide)) (by decide) ?_
  refine x_aload_n (dat d_To_copy 12 rfl) rfl rfl ?_
  refine x_aload_n (dat d_To_copy 13 rfl) rfl rfl ?_
  refine x_geti (ji := 4) (v := σ 61 4) (dat d_To_copy 14 rfl) rfl f_To_36 (oi_mk (by decide +kernel)) ((up_nk (by decide)).trans (congrFun (cpy_ne (Ne.symm (by decide))) _)) ?_
  refine x_puti (ji := 4) (x := (σ 61 4)) (dat d_To_copy 15 rfl) rfl f_To_36w (oi_mk (by decide +kernel)) (fun h => absurd h (by decide)) (by decide) ?_
  refine x_aload_n (dat d_To_copy 16 rfl) rfl rfl ?_
  refine x_aload_n (dat d_To_copy 17 rfl) rfl rfl ?_
  refine x_geti (ji := 5) (v := σ 61 5) (dat d_To_copy 18 rfl) rfl f_To_29 (oi_mk (by decide +kernel)) ((up_nk (by decide)).trans ((up_nk (by decide)).trans (congrFun (cpy_ne (Ne.symm (by decide))) _))) ?_
  refine x_puti (ji := 5) (x := (σ 61 5)) (dat d_To_copy 19 rfl) rfl f_To_29w (oi_mk (by decide +kernel)) (fun h => absurd h (by decide)) (by decide) ?_
  refine x_aload_n (dat d_To_copy 20 rfl) rfl rfl ?_
  refine x_aload_n (dat d_To_copy 21 rfl) rfl rfl ?_
  refine x_geti (ji := 6) (v := σ 61 6) (dat d_To_copy 22 rfl) rfl f_To_39 (oi_mk (by decide +kernel)) ((up_nk (by decide)).trans ((up_nk (by decide)).trans ((up_nk (by decide)).trans (congrFun (cpy_ne (Ne.symm (by decide))) _)))) ?_
  refine x_puti (ji := 6) (x := (σ 61 6)) (dat d_To_copy 23 rfl) rfl f_To_39w (oi_mk (by decide +kernel)) (fun h => absurd h (by decide)) (by decide) ?_
  refine x_aload_n (dat d_To_copy 24 rfl) rfl rfl ?_
  refine x_aload_n (dat d_To_copy 25 rfl) rfl rfl ?_
  refine x_geti (ji := 7) (v := σ 61 7) (dat d_To_copy 26 rfl) rfl f_To_42 (oi_mk (by decide +kernel)) ((up_nk (by decide)).trans ((up_nk (by decide)).trans ((up_nk (by decide)).trans ((up_nk (by decide)).trans (congrFun (cpy_ne (Ne.symm (by decide))) _))))) ?_
  refine x_puti (ji := 7) (x := (σ 61 7)) (dat d_To_copy 27 rfl) rfl f_To_42w (oi_mk (by decide +kernel)) (fun h => absurd h (by decide)) (by decide) ?_
  have A1 : (up (up (up (up (up (cpy σ 62 2 0 0 600) 1 3 (σ 61 3)) 1 4 (σ 61 4)) 1 5 (σ 61 5)) 1 6 (σ 61 6)) 1 7 (σ 61 7)) 1 3 = σ 61 3 ∧ (up (up (up (up (up (cpy σ 62 2 0 0 600) 1 3 (σ 61 3)) 1 4 (σ 61 4)) 1 5 (σ 61 5)) 1 6 (σ 61 6)) 1 7 (σ 61 7)) 1 4 = σ 61 4 ∧ (up (up (up (up (up (cpy σ 62 2 0 0 600) 1 3 (σ 61 3)) 1 4 (σ 61 4)) 1 5 (σ 61 5)) 1 6 (σ 61 6)) 1 7 (σ 61 7)) 1 5 = σ 61 5 ∧ (up (up (up (up (up (cpy σ 62 2 0 0 600) 1 3 (σ 61 3)) 1 4 (σ 61 4)) 1 5 (σ 61 5)) 1 6 (σ 61 6)) 1 7 (σ 61 7)) 1 6 = σ 61 6 ∧ (up (up (up (up (up (cpy σ 62 2 0 0 600) 1 3 (σ 61 3)) 1 4 (σ 61 4)) 1 5 (σ 61 5)) 1 6 (σ 61 6)) 1 7 (σ 61 7)) 1 7 = σ 61 7 := by
    refine ⟨?_, ?_, ?_, ?_, ?_⟩
    · rw [up_ni (by decide), up_ni (by decide), up_ni (by decide), up_ni (by decide), up_s]
    · rw [up_ni (by decide), up_ni (by decide), up_ni (by decide), up_s]
    · rw [up_ni (by decide), up_ni (by decide), up_s]
    · rw [up_ni (by decide), up_s]
    · rw [up_s]
  have A2 : ∀ i : Int, 0 ≤ i → i < 600 → (up (up (up (up (up (cpy σ 62 2 0 0 600) 1 3 (σ 61 3)) 1 4 (σ 61 4)) 1 5 (σ 61 5)) 1 6 (σ 61 6)) 1 7 (σ 61 7)) (1 + 1) i = σ (61 + 1) i := fun i i0 i1 => by
    rw [up_ne (by decide), up_ne (by decide), up_ne (by decide), up_ne (by decide), up_ne (by decide), cpy_in (by omega) (by omega), show (0 : Int) + (i - 0) = i by omega]
  have A3 : ∀ x : Nat, x ≠ 1 → x ≠ 1 + 1 → (up (up (up (up (up (cpy σ 62 2 0 0 600) 1 3 (σ 61 3)) 1 4 (σ 61 4)) 1 5 (σ 61 5)) 1 6 (σ 61 6)) 1 7 (σ 61 7)) x = σ x := fun x h1 h2 => by
    rw [up_ne h1, up_ne h1, up_ne h1, up_ne h1, up_ne h1, cpy_ne h2]
  generalize (up (up (up (up (up (cpy σ 62 2 0 0 600) 1 3 (σ 61 3)) 1 4 (σ 61 4)) 1 5 (σ 61 5)) 1 6 (σ 61 6)) 1 7 (σ 61 7)) = σ1 at A1 A2 A3 ⊢
  refine x_iconst (dat d_To_copy 28 rfl) (by decide) ?_
  refine x_istore_n (L' := [vR 1, vR 61, vI 0]) (dat d_To_copy 29 rfl) rfl (by decide) rfl rfl ?_
  refine x_iload_n (dat d_To_copy 30 rfl) rfl rfl ?_
  refine x_iconst (dat d_To_copy 31 rfl) (by decide) ?_
  refine x_icmp_ge (tgt := 99) (dat d_To_copy 32 rfl) (by decide) (fun h => absurd h (by decide)) (fun c_60 => ?_)
  refine x_aload_n (dat d_To_copy 33 rfl) rfl rfl ?_
  refine x_getr (r := 3) (dat d_To_copy 34 rfl) rfl f_To_18 (or_mk (by decide +kernel)) ?_
  refine x_iload_n (dat d_To_copy 35 rfl) rfl rfl ?_
  refine x_aald (r := 4) (t := 23) (dat d_To_copy 36 rfl) (by decide +kernel) (by decide) (by decide) (by decide +kernel) (by decide +kernel) ?_
  refine x_aload_n (dat d_To_copy 37 rfl) rfl rfl ?_
  refine x_getr (r := 63) (dat d_To_copy 38 rfl) rfl f_To_18 (or_mk (by decide +kernel)) ?_
  refine x_iload_n (dat d_To_copy 39 rfl) rfl rfl ?_
  refine x_aald (r := 64) (t := 23) (dat d_To_copy 40 rfl) (by decide +kernel) (by decide) (by decide) (by decide +kernel) (by decide +kernel) ?_
  refine x_inv (As := [vR 64]) (dat d_To_copy 41 rfl) rfl c_Tw_copy l_To_45 (by decide) (rv_tw (by decide +kernel)) rfl rfl (Nat.le_of_ble_eq_true rfl) ?_
  refine sp_Tw_copy (by simp [IsTw, L_Tw]) (by simp [IsTw, L_Tw]) (by decide) (fun σt0 T0 F0 => ?_)
  show Wx g y_To_copy Z K 78 [vR 1, vR 61, vI 0] [] σt0
  refine x_aload_n (dat d_To_copy 42 rfl) rfl rfl ?_
  refine x_getr (r := 22) (dat d_To_copy 43 rfl) rfl f_To_25 (or_mk (by decide +kernel)) ?_
  refine x_iload_n (dat d_To_copy 44 rfl) rfl rfl ?_
  refine x_aald (r := 23) (t := 24) (dat d_To_copy 45 rfl) (by decide +kernel) (by decide) (by decide) (by decide +kernel) (by decide +kernel) ?_
  refine x_aload_n (dat d_To_copy 46 rfl) rfl rfl ?_
  refine x_getr (r := 82) (dat d_To_copy 47 rfl) rfl f_To_25 (or_mk (by decide +kernel)) ?_
  refine x_iload_n (dat d_To_copy 48 rfl) rfl rfl ?_
  refine x_aald (r := 83) (t := 24) (dat d_To_copy 49 rfl) (by decide +kernel) (by decide) (by decide) (by decide +kernel) (by decide +kernel) ?_
  refine x_inv (As := [vR 83]) (dat d_To_copy 50 rfl) rfl c_Bk_copy l_To_55 (by decide) (rv_bk (by decide +kernel)) rfl rfl (Nat.le_of_ble_eq_true rfl) ?_
  refine sp_Bk_copy (by simp [IsBk, L_Bk]) (by simp [IsBk, L_Bk]) (by decide) (fun σb0 B0 G0 => ?_)
  show Wx g y_To_copy Z K 93 [vR 1, vR 61, vI 0] [] σb0
  refine x_iinc (v' := 1) (L' := [vR 1, vR 61, vI 1]) (dat d_To_copy 51 rfl) rfl (by decide) rfl (by decide) (by omega) rfl ?_
  refine x_goto (tgt := 58) (dat d_To_copy 52 rfl) (by decide) ?_
  refine x_iload_n (dat d_To_copy 30 rfl) rfl rfl ?_
  refine x_iconst (dat d_To_copy 31 rfl) (by decide) ?_
  refine x_icmp_ge (tgt := 99) (dat d_To_copy 32 rfl) (by decide) (fun h => absurd h (by decide)) (fun c_60 => ?_)
  refine x_aload_n (dat d_To_copy 33 rfl) rfl rfl ?_
  refine x_getr (r := 3) (dat d_To_copy 34 rfl) rfl f_To_18 (or_mk (by decide +kernel)) ?_
  refine x_iload_n (dat d_To_copy 35 rfl) rfl rfl ?_
  refine x_aald (r := 13) (t := 23) (dat d_To_copy 36 rfl) (by decide +kernel) (by decide) (by decide) (by decide +kernel) (by decide +kernel) ?_
  refine x_aload_n (dat d_To_copy 37 rfl) rfl rfl ?_
  refine x_getr (r := 63) (dat d_To_copy 38 rfl) rfl f_To_18 (or_mk (by decide +kernel)) ?_
  refine x_iload_n (dat d_To_copy 39 rfl) rfl rfl ?_
  refine x_aald (r := 73) (t := 23) (dat d_To_copy 40 rfl) (by decide +kernel) (by decide) (by decide) (by decide +kernel) (by decide +kernel) ?_
  refine x_inv (As := [vR 73]) (dat d_To_copy 41 rfl) rfl c_Tw_copy l_To_45 (by decide) (rv_tw (by decide +kernel)) rfl rfl (Nat.le_of_ble_eq_true rfl) ?_
  refine sp_Tw_copy (by simp [IsTw, L_Tw]) (by simp [IsTw, L_Tw]) (by decide) (fun σt1 T1 F1 => ?_)
  show Wx g y_To_copy Z K 78 [vR 1, vR 61, vI 1] [] σt1
  refine x_aload_n (dat d_To_copy 42 rfl) rfl rfl ?_
  refine x_getr (r := 22) (dat d_To_copy 43 rfl) rfl f_To_25 (or_mk (by decide +kernel)) ?_
  refine x_iload_n (dat d_To_copy 44 rfl) rfl rfl ?_
  refine x_aald (r := 27) (t := 24) (dat d_To_copy 45 rfl) (by decide +kernel) (by decide) (by decide) (by decide +kernel) (by decide +kernel) ?_
  refine x_aload_n (dat d_To_copy 46 rfl) rfl rfl ?_
  refine x_getr (r := 82) (dat d_To_copy 47 rfl) rfl f_To_25 (or_mk (by decide +kernel)) ?_
  refine x_iload_n (dat d_To_copy 48 rfl) rfl rfl ?_
  refine x_aald (r := 87) (t := 24) (dat d_To_copy 49 rfl) (by decide +kernel) (by decide) (by decide) (by decide +kernel) (by decide +kernel) ?_
  refine x_inv (As := [vR 87]) (dat d_To_copy 50 rfl) rfl c_Bk_copy l_To_55 (by decide) (rv_bk (by decide +kernel)) rfl rfl (Nat.le_of_ble_eq_true rfl) ?_
  refine sp_Bk_copy (by simp [IsBk, L_Bk]) (by simp [IsBk, L_Bk]) (by decide) (fun σb1 B1 G1 => ?_)
  show Wx g y_To_copy Z K 93 [vR 1, vR 61, vI 1] [] σb1
  refine x_iinc (v' := 2) (L' := [vR 1, vR 61, vI 2]) (dat d_To_copy 51 rfl) rfl (by decide) rfl (by decide) (by omega) rfl ?_
  refine x_goto (tgt := 58) (dat d_To_copy 52 rfl) (by decide) ?_
  refine x_iload_n (dat d_To_copy 30 rfl) rfl rfl ?_
  refine x_iconst (dat d_To_copy 31 rfl) (by decide) ?_
  refine x_icmp_ge (tgt := 99) (dat d_To_copy 32 rfl) (by decide) (fun c_60 => ?_) (fun h => absurd h (by decide))
  refine x_ret (dat d_To_copy 53 rfl) rfl ?_
  have fr : ∀ x : Nat, (x < 1 + 3 ∨ 1 + 29 < x) → σb1 x = σ1 x := fun x hx => by rw [G1 x (by omega), F1 x (by omega), G0 x (by omega), F0 x (by omega)]
  refine k σb1 (fun a H => ?_) (fun x hx => by rw [fr x (by omega), A3 x (by omega) (by omega)])
  obtain ⟨h1, h2, h3, h4, h5⟩ := H
  have c0 := h1.1
  have c1 := h1.2.1
  have c2 := h1.2.2
  refine ⟨h1, ?_, fun i i0 i1 => ?_, fun n hn => ?_, fun n hn => ?_⟩
  · rw [fr 1 (by omega), A1.1, A1.2.1, A1.2.2.1, A1.2.2.2.1, A1.2.2.2.2]; exact h2
  · rw [fr (1 + 1) (by omega), A2 i i0 (by omega)]; exact h3 i i0 i1
  · obtain ⟨g1, g2⟩ := h4 n hn
    refine ⟨g1, ?_⟩
    rcases (show n = 0 ∨ n = 1 by omega) with q | q
    · subst q
      refine TownR.same (σ := σt0) ?_ (fun x q0 q1 => by rw [G1 x (by omega), F1 x (by omega), G0 x (by omega)])
      exact T0 _ g1 (g2.same (fun x q0 q1 => A3 x (by omega) (by omega)))
    · subst q
      refine TownR.same (σ := σt1) ?_ (fun x q0 q1 => by rw [G1 x (by omega)])
      exact T1 _ g1 (g2.same (fun x q0 q1 => by rw [G0 x (by omega), F0 x (by omega), A3 x (by omega) (by omega)]))
  · obtain ⟨g1, g2⟩ := h5 n hn
    refine ⟨g1, ?_⟩
    rcases (show n = 0 ∨ n = 1 by omega) with q | q
    · subst q
      refine BookR.same (σ := σb0) ?_ (fun x q0 q1 => by rw [G1 x (by omega), F1 x (by omega)])
      exact B0 _ g1 (g2.same (fun x q0 q1 => by rw [F0 x (by omega), A3 x (by omega) (by omega)]))
    · subst q
      exact B1 _ g1 (g2.same (fun x q0 q1 => by rw [F1 x (by omega), G0 x (by omega), F0 x (by omega), A3 x (by omega) (by omega)]))
theorem sp_To_copy_91_1 {g : xG} {K : Option MV → xS → Prop} {σ : xS} (k : ∀ σ' : xS, (∀ a : Int → Int, TolR σ 1 a → TolR σ' 91 a) → (∀ x : Nat, (x < 91 ∨ 91 + 29 < x) → σ' x = σ x) → K none σ') : Mt g y_To_copy [vR 91, vR 1] σ K := by
  refine x_enter 1 rfl rfl rfl (fun Z => ?_)
  show Wx g y_To_copy Z K 0 [vR 91, vR 1, vU] [] σ
  refine x_aload_n (dat d_To_copy 0 rfl) rfl rfl ?_
  refine x_getr (r := 2) (dat d_To_copy 1 rfl) rfl f_To_9 (or_mk (by decide +kernel)) ?_
  refine x_iconst (dat d_To_copy 2 rfl) (by decide) ?_
  refine x_aload_n (dat d_To_copy 3 rfl) rfl rfl ?_
  refine x_getr (r := 92) (dat d_To_copy 4 rfl) rfl f_To_9 (or_mk (by decide +kernel)) ?_
  refine x_iconst (dat d_To_copy 5 rfl) (by decide) ?_
  refine x_sipush (dat d_To_copy 6 rfl) (by decide) (by decide) ?_
  refine x_copy (own := "ShakenBread$Told") (t := 21) (na := 600) (nb := 600) (dat d_To_copy 7 rfl) rfl l_To_58 (by decide) (by decide) (ai_mk (by decide +kernel)) (ai_mk (by decide +kernel)) (by omega) (by omega) (by omega) (by omega) (by omega) (Nat.le_of_ble_eq_true rfl) ?_
  refine x_aload_n (dat d_To_copy 8 rfl) rfl rfl ?_
  refine x_aload_n (dat d_To_copy 9 rfl) rfl rfl ?_
  refine x_geti (ji := 3) (v := σ 1 3) (dat d_To_copy 10 rfl) rfl f_To_33 (oi_mk (by decide +kernel)) (congrFun (cpy_ne (Ne.symm (by decide))) _) ?_
  refine x_puti (ji := 3) (x := (σ 1 3)) (dat d_To_copy 11 rfl) rfl f_To_33w (oi_mk (by decide +kernel)) (fun h => absurd h (by decide)) (by decide) ?_
  refine x_aload_n (dat d_To_copy 12 rfl) rfl rfl ?_
  refine x_aload_n (dat d_To_copy 13 rfl) rfl rfl ?_
  refine x_geti (ji := 4) (v := σ 1 4) (dat d_To_copy 14 rfl) rfl f_To_36 (oi_mk (by decide +kernel)) ((up_nk (by decide)).trans (congrFun (cpy_ne (Ne.symm (by decide))) _)) ?_
  refine x_puti (ji := 4) (x := (σ 1 4)) (dat d_To_copy 15 rfl) rfl f_To_36w (oi_mk (by decide +kernel)) (fun h => absurd h (by decide)) (by decide) ?_
  refine x_aload_n (dat d_To_copy 16 rfl) rfl rfl ?_
  refine x_aload_n (dat d_To_copy 17 rfl) rfl rfl ?_
  refine x_geti (ji := 5) (v := σ 1 5) (dat d_To_copy 18 rfl) rfl f_To_29 (oi_mk (by decide +kernel)) ((up_nk (by decide)).trans ((up_nk (by decide)).trans (congrFun (cpy_ne (Ne.symm (by decide))) _))) ?_
  refine x_puti (ji := 5) (x := (σ 1 5)) (dat d_To_copy 19 rfl) rfl f_To_29w (oi_mk (by decide +kernel)) (fun h => absurd h (by decide)) (by decide) ?_
  refine x_aload_n (dat d_To_copy 20 rfl) rfl rfl ?_
  refine x_aload_n (dat d_To_copy 21 rfl) rfl rfl ?_
  refine x_geti (ji := 6) (v := σ 1 6) (dat d_To_copy 22 rfl) rfl f_To_39 (oi_mk (by decide +kernel)) ((up_nk (by decide)).trans ((up_nk (by decide)).trans ((up_nk (by decide)).trans (congrFun (cpy_ne (Ne.symm (by decide))) _)))) ?_
  refine x_puti (ji := 6) (x := (σ 1 6)) (dat d_To_copy 23 rfl) rfl f_To_39w (oi_mk (by decide +kernel)) (fun h => absurd h (by decide)) (by decide) ?_
  refine x_aload_n (dat d_To_copy 24 rfl) rfl rfl ?_
  refine x_aload_n (dat d_To_copy 25 rfl) rfl rfl ?_
  refine x_geti (ji := 7) (v := σ 1 7) (dat d_To_copy 26 rfl) rfl f_To_42 (oi_mk (by decide +kernel)) ((up_nk (by decide)).trans ((up_nk (by decide)).trans ((up_nk (by decide)).trans ((up_nk (by decide)).trans (congrFun (cpy_ne (Ne.symm (by decide))) _))))) ?_
  refine x_puti (ji := 7) (x := (σ 1 7)) (dat d_To_copy 27 rfl) rfl f_To_42w (oi_mk (by decide +kernel)) (fun h => absurd h (by decide)) (by decide) ?_
  have A1 : (up (up (up (up (up (cpy σ 2 92 0 0 600) 91 3 (σ 1 3)) 91 4 (σ 1 4)) 91 5 (σ 1 5)) 91 6 (σ 1 6)) 91 7 (σ 1 7)) 91 3 = σ 1 3 ∧ (up (up (up (up (up (cpy σ 2 92 0 0 600) 91 3 (σ 1 3)) 91 4 (σ 1 4)) 91 5 (σ 1 5)) 91 6 (σ 1 6)) 91 7 (σ 1 7)) 91 4 = σ 1 4 ∧ (up (up (up (up (up (cpy σ 2 92 0 0 600) 91 3 (σ 1 3)) 91 4 (σ 1 4)) 91 5 (σ 1 5)) 91 6 (σ 1 6)) 91 7 (σ 1 7)) 91 5 = σ 1 5 ∧ (up (up (up (up (up (cpy σ 2 92 0 0 600) 91 3 (σ 1 3)) 91 4 (σ 1 4)) 91 5 (σ 1 5)) 91 6 (σ 1 6)) 91 7 (σ 1 7)) 91 6 = σ 1 6 ∧ (up (up (up (up (up (cpy σ 2 92 0 0 600) 91 3 (σ 1 3)) 91 4 (σ 1 4)) 91 5 (σ 1 5)) 91 6 (σ 1 6)) 91 7 (σ 1 7)) 91 7 = σ 1 7 := by
    refine ⟨?_, ?_, ?_, ?_, ?_⟩
    · rw [up_ni (by decide), up_ni (by decide), up_ni (by decide), up_ni (by decide), up_s]
    · rw [up_ni (by decide), up_ni (by decide), up_ni (by decide), up_s]
    · rw [up_ni (by decide), up_ni (by decide), up_s]
    · rw [up_ni (by decide), up_s]
    · rw [up_s]
  have A2 : ∀ i : Int, 0 ≤ i → i < 600 → (up (up (up (up (up (cpy σ 2 92 0 0 600) 91 3 (σ 1 3)) 91 4 (σ 1 4)) 91 5 (σ 1 5)) 91 6 (σ 1 6)) 91 7 (σ 1 7)) (91 + 1) i = σ (1 + 1) i := fun i i0 i1 => by
    rw [up_ne (by decide), up_ne (by decide), up_ne (by decide), up_ne (by decide), up_ne (by decide), cpy_in (by omega) (by omega), show (0 : Int) + (i - 0) = i by omega]
  have A3 : ∀ x : Nat, x ≠ 91 → x ≠ 91 + 1 → (up (up (up (up (up (cpy σ 2 92 0 0 600) 91 3 (σ 1 3)) 91 4 (σ 1 4)) 91 5 (σ 1 5)) 91 6 (σ 1 6)) 91 7 (σ 1 7)) x = σ x := fun x h1 h2 => by
    rw [up_ne h1, up_ne h1, up_ne h1, up_ne h1, up_ne h1, cpy_ne h2]
  generalize (up (up (up (up (up (cpy σ 2 92 0 0 600) 91 3 (σ 1 3)) 91 4 (σ 1 4)) 91 5 (σ 1 5)) 91 6 (σ 1 6)) 91 7 (σ 1 7)) = σ1 at A1 A2 A3 ⊢
  refine x_iconst (dat d_To_copy 28 rfl) (by decide) ?_
  refine x_istore_n (L' := [vR 91, vR 1, vI 0]) (dat d_To_copy 29 rfl) rfl (by decide) rfl rfl ?_
  refine x_iload_n (dat d_To_copy 30 rfl) rfl rfl ?_
  refine x_iconst (dat d_To_copy 31 rfl) (by decide) ?_
  refine x_icmp_ge (tgt := 99) (dat d_To_copy 32 rfl) (by decide) (fun h => absurd h (by decide)) (fun c_60 => ?_)
  refine x_aload_n (dat d_To_copy 33 rfl) rfl rfl ?_
  refine x_getr (r := 93) (dat d_To_copy 34 rfl) rfl f_To_18 (or_mk (by decide +kernel)) ?_
  refine x_iload_n (dat d_To_copy 35 rfl) rfl rfl ?_
  refine x_aald (r := 94) (t := 23) (dat d_To_copy 36 rfl) (by decide +kernel) (by decide) (by decide) (by decide +kernel) (by decide +kernel) ?_
  refine x_aload_n (dat d_To_copy 37 rfl) rfl rfl ?_
  refine x_getr (r := 3) (dat d_To_copy 38 rfl) rfl f_To_18 (or_mk (by decide +kernel)) ?_
  refine x_iload_n (dat d_To_copy 39 rfl) rfl rfl ?_
  refine x_aald (r := 4) (t := 23) (dat d_To_copy 40 rfl) (by decide +kernel) (by decide) (by decide) (by decide +kernel) (by decide +kernel) ?_
  refine x_inv (As := [vR 4]) (dat d_To_copy 41 rfl) rfl c_Tw_copy l_To_45 (by decide) (rv_tw (by decide +kernel)) rfl rfl (Nat.le_of_ble_eq_true rfl) ?_
  refine sp_Tw_copy (by simp [IsTw, L_Tw]) (by simp [IsTw, L_Tw]) (by decide) (fun σt0 T0 F0 => ?_)
  show Wx g y_To_copy Z K 78 [vR 91, vR 1, vI 0] [] σt0
  refine x_aload_n (dat d_To_copy 42 rfl) rfl rfl ?_
  refine x_getr (r := 112) (dat d_To_copy 43 rfl) rfl f_To_25 (or_mk (by decide +kernel)) ?_
  refine x_iload_n (dat d_To_copy 44 rfl) rfl rfl ?_
  refine x_aald (r := 113) (t := 24) (dat d_To_copy 45 rfl) (by decide +kernel) (by decide) (by decide) (by decide +kernel) (by decide +kernel) ?_
  refine x_aload_n (dat d_To_copy 46 rfl) rfl rfl ?_
  refine x_getr (r := 22) (dat d_To_copy 47 rfl) rfl f_To_25 (or_mk (by decide +kernel)) ?_
  refine x_iload_n (dat d_To_copy 48 rfl) rfl rfl ?_
  refine x_aald (r := 23) (t := 24) (dat d_To_copy 49 rfl) (by decide +kernel) (by decide) (by decide) (by decide +kernel) (by decide +kernel) ?_
  refine x_inv (As := [vR 23]) (dat d_To_copy 50 rfl) rfl c_Bk_copy l_To_55 (by decide) (rv_bk (by decide +kernel)) rfl rfl (Nat.le_of_ble_eq_true rfl) ?_
  refine sp_Bk_copy (by simp [IsBk, L_Bk]) (by simp [IsBk, L_Bk]) (by decide) (fun σb0 B0 G0 => ?_)
  show Wx g y_To_copy Z K 93 [vR 91, vR 1, vI 0] [] σb0
  refine x_iinc (v' := 1) (L' := [vR 91, vR 1, vI 1]) (dat d_To_copy 51 rfl) rfl (by decide) rfl (by decide) (by omega) rfl ?_
  refine x_goto (tgt := 58) (dat d_To_copy 52 rfl) (by decide) ?_
  refine x_iload_n (dat d_To_copy 30 rfl) rfl rfl ?_
  refine x_iconst (dat d_To_copy 31 rfl) (by decide) ?_
  refine x_icmp_ge (tgt := 99) (dat d_To_copy 32 rfl) (by decide) (fun h => absurd h (by decide)) (fun c_60 => ?_)
  refine x_aload_n (dat d_To_copy 33 rfl) rfl rfl ?_
  refine x_getr (r := 93) (dat d_To_copy 34 rfl) rfl f_To_18 (or_mk (by decide +kernel)) ?_
  refine x_iload_n (dat d_To_copy 35 rfl) rfl rfl ?_
  refine x_aald (r := 103) (t := 23) (dat d_To_copy 36 rfl) (by decide +kernel) (by decide) (by decide) (by decide +kernel) (by decide +kernel) ?_
  refine x_aload_n (dat d_To_copy 37 rfl) rfl rfl ?_
  refine x_getr (r := 3) (dat d_To_copy 38 rfl) rfl f_To_18 (or_mk (by decide +kernel)) ?_
  refine x_iload_n (dat d_To_copy 39 rfl) rfl rfl ?_
  refine x_aald (r := 13) (t := 23) (dat d_To_copy 40 rfl) (by decide +kernel) (by decide) (by decide) (by decide +kernel) (by decide +kernel) ?_
  refine x_inv (As := [vR 13]) (dat d_To_copy 41 rfl) rfl c_Tw_copy l_To_45 (by decide) (rv_tw (by decide +kernel)) rfl rfl (Nat.le_of_ble_eq_true rfl) ?_
  refine sp_Tw_copy (by simp [IsTw, L_Tw]) (by simp [IsTw, L_Tw]) (by decide) (fun σt1 T1 F1 => ?_)
  show Wx g y_To_copy Z K 78 [vR 91, vR 1, vI 1] [] σt1
  refine x_aload_n (dat d_To_copy 42 rfl) rfl rfl ?_
  refine x_getr (r := 112) (dat d_To_copy 43 rfl) rfl f_To_25 (or_mk (by decide +kernel)) ?_
  refine x_iload_n (dat d_To_copy 44 rfl) rfl rfl ?_
  refine x_aald (r := 117) (t := 24) (dat d_To_copy 45 rfl) (by decide +kernel) (by decide) (by decide) (by decide +kernel) (by decide +kernel) ?_
  refine x_aload_n (dat d_To_copy 46 rfl) rfl rfl ?_
  refine x_getr (r := 22) (dat d_To_copy 47 rfl) rfl f_To_25 (or_mk (by decide +kernel)) ?_
  refine x_iload_n (dat d_To_copy 48 rfl) rfl rfl ?_
  refine x_aald (r := 27) (t := 24) (dat d_To_copy 49 rfl) (by decide +kernel) (by decide) (by decide) (by decide +kernel) (by decide +kernel) ?_
  refine x_inv (As := [vR 27]) (dat d_To_copy 50 rfl) rfl c_Bk_copy l_To_55 (by decide) (rv_bk (by decide +kernel)) rfl rfl (Nat.le_of_ble_eq_true rfl) ?_
  refine sp_Bk_copy (by simp [IsBk, L_Bk]) (by simp [IsBk, L_Bk]) (by decide) (fun σb1 B1 G1 => ?_)
  show Wx g y_To_copy Z K 93 [vR 91, vR 1, vI 1] [] σb1
  refine x_iinc (v' := 2) (L' := [vR 91, vR 1, vI 2]) (dat d_To_copy 51 rfl) rfl (by decide) rfl (by decide) (by omega) rfl ?_
  refine x_goto (tgt := 58) (dat d_To_copy 52 rfl) (by decide) ?_
  refine x_iload_n (dat d_To_copy 30 rfl) rfl rfl ?_
  refine x_iconst (dat d_To_copy 31 rfl) (by decide) ?_
  refine x_icmp_ge (tgt := 99) (dat d_To_copy 32 rfl) (by decide) (fun c_60 => ?_) (fun h => absurd h (by decide))
  refine x_ret (dat d_To_copy 53 rfl) rfl ?_
  have fr : ∀ x : Nat, (x < 91 + 3 ∨ 91 + 29 < x) → σb1 x = σ1 x := fun x hx => by rw [G1 x (by omega), F1 x (by omega), G0 x (by omega), F0 x (by omega)]
  refine k σb1 (fun a H => ?_) (fun x hx => by rw [fr x (by omega), A3 x (by omega) (by omega)])
  obtain ⟨h1, h2, h3, h4, h5⟩ := H
  have c0 := h1.1
  have c1 := h1.2.1
  have c2 := h1.2.2
  refine ⟨h1, ?_, fun i i0 i1 => ?_, fun n hn => ?_, fun n hn => ?_⟩
  · rw [fr 91 (by omega), A1.1, A1.2.1, A1.2.2.1, A1.2.2.2.1, A1.2.2.2.2]; exact h2
  · rw [fr (91 + 1) (by omega), A2 i i0 (by omega)]; exact h3 i i0 i1
  · obtain ⟨g1, g2⟩ := h4 n hn
    refine ⟨g1, ?_⟩
    rcases (show n = 0 ∨ n = 1 by omega) with q | q
    · subst q
      refine TownR.same (σ := σt0) ?_ (fun x q0 q1 => by rw [G1 x (by omega), F1 x (by omega), G0 x (by omega)])
      exact T0 _ g1 (g2.same (fun x q0 q1 => A3 x (by omega) (by omega)))
    · subst q
      refine TownR.same (σ := σt1) ?_ (fun x q0 q1 => by rw [G1 x (by omega)])
      exact T1 _ g1 (g2.same (fun x q0 q1 => by rw [G0 x (by omega), F0 x (by omega), A3 x (by omega) (by omega)]))
  · obtain ⟨g1, g2⟩ := h5 n hn
    refine ⟨g1, ?_⟩
    rcases (show n = 0 ∨ n = 1 by omega) with q | q
    · subst q
      refine BookR.same (σ := σb0) ?_ (fun x q0 q1 => by rw [G1 x (by omega), F1 x (by omega)])
      exact B0 _ g1 (g2.same (fun x q0 q1 => by rw [F0 x (by omega), A3 x (by omega) (by omega)]))
    · subst q
      exact B1 _ g1 (g2.same (fun x q0 q1 => by rw [F1 x (by omega), G0 x (by omega), F0 x (by omega), A3 x (by omega) (by omega)]))
theorem sp_To_copy_1_91 {g : xG} {K : Option MV → xS → Prop} {σ : xS} (k : ∀ σ' : xS, (∀ a : Int → Int, TolR σ 91 a → TolR σ' 1 a) → (∀ x : Nat, (x < 1 ∨ 1 + 29 < x) → σ' x = σ x) → K none σ') : Mt g y_To_copy [vR 1, vR 91] σ K := by
  refine x_enter 1 rfl rfl rfl (fun Z => ?_)
  show Wx g y_To_copy Z K 0 [vR 1, vR 91, vU] [] σ
  refine x_aload_n (dat d_To_copy 0 rfl) rfl rfl ?_
  refine x_getr (r := 92) (dat d_To_copy 1 rfl) rfl f_To_9 (or_mk (by decide +kernel)) ?_
  refine x_iconst (dat d_To_copy 2 rfl) (by decide) ?_
  refine x_aload_n (dat d_To_copy 3 rfl) rfl rfl ?_
  refine x_getr (r := 2) (dat d_To_copy 4 rfl) rfl f_To_9 (or_mk (by decide +kernel)) ?_
  refine x_iconst (dat d_To_copy 5 rfl) (by decide) ?_
  refine x_sipush (dat d_To_copy 6 rfl) (by decide) (by decide) ?_
  refine x_copy (own := "ShakenBread$Told") (t := 21) (na := 600) (nb := 600) (dat d_To_copy 7 rfl) rfl l_To_58 (by decide) (by decide) (ai_mk (by decide +kernel)) (ai_mk (by decide +kernel)) (by omega) (by omega) (by omega) (by omega) (by omega) (Nat.le_of_ble_eq_true rfl) ?_
  refine x_aload_n (dat d_To_copy 8 rfl) rfl rfl ?_
  refine x_aload_n (dat d_To_copy 9 rfl) rfl rfl ?_
  refine x_geti (ji := 3) (v := σ 91 3) (dat d_To_copy 10 rfl) rfl f_To_33 (oi_mk (by decide +kernel)) (congrFun (cpy_ne (Ne.symm (by decide))) _) ?_
  refine x_puti (ji := 3) (x := (σ 91 3)) (dat d_To_copy 11 rfl) rfl f_To_33w (oi_mk (by decide +kernel)) (fun h => absurd h (by decide)) (by decide) ?_
  refine x_aload_n (dat d_To_copy 12 rfl) rfl rfl ?_
  refine x_aload_n (dat d_To_copy 13 rfl) rfl rfl ?_
  refine x_geti (ji := 4) (v := σ 91 4) (dat d_To_copy 14 rfl) rfl f_To_36 (oi_mk (by decide +kernel)) ((up_nk (by decide)).trans (congrFun (cpy_ne (Ne.symm (by decide))) _)) ?_
  refine x_puti (ji := 4) (x := (σ 91 4)) (dat d_To_copy 15 rfl) rfl f_To_36w (oi_mk (by decide +kernel)) (fun h => absurd h (by decide)) (by decide) ?_
  refine x_aload_n (dat d_To_copy 16 rfl) rfl rfl ?_
  refine x_aload_n (dat d_To_copy 17 rfl) rfl rfl ?_
  refine x_geti (ji := 5) (v := σ 91 5) (dat d_To_copy 18 rfl) rfl f_To_29 (oi_mk (by decide +kernel)) ((up_nk (by decide)).trans ((up_nk (by decide)).trans (congrFun (cpy_ne (Ne.symm (by decide))) _))) ?_
  refine x_puti (ji := 5) (x := (σ 91 5)) (dat d_To_copy 19 rfl) rfl f_To_29w (oi_mk (by decide +kernel)) (fun h => absurd h (by decide)) (by decide) ?_
  refine x_aload_n (dat d_To_copy 20 rfl) rfl rfl ?_
  refine x_aload_n (dat d_To_copy 21 rfl) rfl rfl ?_
  refine x_geti (ji := 6) (v := σ 91 6) (dat d_To_copy 22 rfl) rfl f_To_39 (oi_mk (by decide +kernel)) ((up_nk (by decide)).trans ((up_nk (by decide)).trans ((up_nk (by decide)).trans (congrFun (cpy_ne (Ne.symm (by decide))) _)))) ?_
  refine x_puti (ji := 6) (x := (σ 91 6)) (dat d_To_copy 23 rfl) rfl f_To_39w (oi_mk (by decide +kernel)) (fun h => absurd h (by decide)) (by decide) ?_
  refine x_aload_n (dat d_To_copy 24 rfl) rfl rfl ?_
  refine x_aload_n (dat d_To_copy 25 rfl) rfl rfl ?_
  refine x_geti (ji := 7) (v := σ 91 7) (dat d_To_copy 26 rfl) rfl f_To_42 (oi_mk (by decide +kernel)) ((up_nk (by decide)).trans ((up_nk (by decide)).trans ((up_nk (by decide)).trans ((up_nk (by decide)).trans (congrFun (cpy_ne (Ne.symm (by decide))) _))))) ?_
  refine x_puti (ji := 7) (x := (σ 91 7)) (dat d_To_copy 27 rfl) rfl f_To_42w (oi_mk (by decide +kernel)) (fun h => absurd h (by decide)) (by decide) ?_
  have A1 : (up (up (up (up (up (cpy σ 92 2 0 0 600) 1 3 (σ 91 3)) 1 4 (σ 91 4)) 1 5 (σ 91 5)) 1 6 (σ 91 6)) 1 7 (σ 91 7)) 1 3 = σ 91 3 ∧ (up (up (up (up (up (cpy σ 92 2 0 0 600) 1 3 (σ 91 3)) 1 4 (σ 91 4)) 1 5 (σ 91 5)) 1 6 (σ 91 6)) 1 7 (σ 91 7)) 1 4 = σ 91 4 ∧ (up (up (up (up (up (cpy σ 92 2 0 0 600) 1 3 (σ 91 3)) 1 4 (σ 91 4)) 1 5 (σ 91 5)) 1 6 (σ 91 6)) 1 7 (σ 91 7)) 1 5 = σ 91 5 ∧ (up (up (up (up (up (cpy σ 92 2 0 0 600) 1 3 (σ 91 3)) 1 4 (σ 91 4)) 1 5 (σ 91 5)) 1 6 (σ 91 6)) 1 7 (σ 91 7)) 1 6 = σ 91 6 ∧ (up (up (up (up (up (cpy σ 92 2 0 0 600) 1 3 (σ 91 3)) 1 4 (σ 91 4)) 1 5 (σ 91 5)) 1 6 (σ 91 6)) 1 7 (σ 91 7)) 1 7 = σ 91 7 := by
    refine ⟨?_, ?_, ?_, ?_, ?_⟩
    · rw [up_ni (by decide), up_ni (by decide), up_ni (by decide), up_ni (by decide), up_s]
    · rw [up_ni (by decide), up_ni (by decide), up_ni (by decide), up_s]
    · rw [up_ni (by decide), up_ni (by decide), up_s]
    · rw [up_ni (by decide), up_s]
    · rw [up_s]
  have A2 : ∀ i : Int, 0 ≤ i → i < 600 → (up (up (up (up (up (cpy σ 92 2 0 0 600) 1 3 (σ 91 3)) 1 4 (σ 91 4)) 1 5 (σ 91 5)) 1 6 (σ 91 6)) 1 7 (σ 91 7)) (1 + 1) i = σ (91 + 1) i := fun i i0 i1 => by
    rw [up_ne (by decide), up_ne (by decide), up_ne (by decide), up_ne (by decide), up_ne (by decide), cpy_in (by omega) (by omega), show (0 : Int) + (i - 0) = i by omega]
  have A3 : ∀ x : Nat, x ≠ 1 → x ≠ 1 + 1 → (up (up (up (up (up (cpy σ 92 2 0 0 600) 1 3 (σ 91 3)) 1 4 (σ 91 4)) 1 5 (σ 91 5)) 1 6 (σ 91 6)) 1 7 (σ 91 7)) x = σ x := fun x h1 h2 => by
    rw [up_ne h1, up_ne h1, up_ne h1, up_ne h1, up_ne h1, cpy_ne h2]
  generalize (up (up (up (up (up (cpy σ 92 2 0 0 600) 1 3 (σ 91 3)) 1 4 (σ 91 4)) 1 5 (σ 91 5)) 1 6 (σ 91 6)) 1 7 (σ 91 7)) = σ1 at A1 A2 A3 ⊢
  refine x_iconst (dat d_To_copy 28 rfl) (by decide) ?_
  refine x_istore_n (L' := [vR 1, vR 91, vI 0]) (dat d_To_copy 29 rfl) rfl (by decide) rfl rfl ?_
  refine x_iload_n (dat d_To_copy 30 rfl) rfl rfl ?_
  refine x_iconst (dat d_To_copy 31 rfl) (by decide) ?_
  refine x_icmp_ge (tgt := 99) (dat d_To_copy 32 rfl) (by decide) (fun h => absurd h (by decide)) (fun c_60 => ?_)
  refine x_aload_n (dat d_To_copy 33 rfl) rfl rfl ?_
  refine x_getr (r := 3) (dat d_To_copy 34 rfl) rfl f_To_18 (or_mk (by decide +kernel)) ?_
  refine x_iload_n (dat d_To_copy 35 rfl) rfl rfl ?_
  refine x_aald (r := 4) (t := 23) (dat d_To_copy 36 rfl) (by decide +kernel) (by decide) (by decide) (by decide +kernel) (by decide +kernel) ?_
  refine x_aload_n (dat d_To_copy 37 rfl) rfl rfl ?_
  refine x_getr (r := 93) (dat d_To_copy 38 rfl) rfl f_To_18 (or_mk (by decide +kernel)) ?_
  refine x_iload_n (dat d_To_copy 39 rfl) rfl rfl ?_
  refine x_aald (r := 94) (t := 23) (dat d_To_copy 40 rfl) (by decide +kernel) (by decide) (by decide) (by decide +kernel) (by decide +kernel) ?_
  refine x_inv (As := [vR 94]) (dat d_To_copy 41 rfl) rfl c_Tw_copy l_To_45 (by decide) (rv_tw (by decide +kernel)) rfl rfl (Nat.le_of_ble_eq_true rfl) ?_
  refine sp_Tw_copy (by simp [IsTw, L_Tw]) (by simp [IsTw, L_Tw]) (by decide) (fun σt0 T0 F0 => ?_)
  show Wx g y_To_copy Z K 78 [vR 1, vR 91, vI 0] [] σt0
  refine x_aload_n (dat d_To_copy 42 rfl) rfl rfl ?_
  refine x_getr (r := 22) (dat d_To_copy 43 rfl) rfl f_To_25 (or_mk (by decide +kernel)) ?_
  refine x_iload_n (dat d_To_copy 44 rfl) rfl rfl ?_
  refine x_aald (r := 23) (t := 24) (dat d_To_copy 45 rfl) (by decide +kernel) (by decide) (by decide) (by decide +kernel) (by decide +kernel) ?_
  refine x_aload_n (dat d_To_copy 46 rfl) rfl rfl ?_
  refine x_getr (r := 112) (dat d_To_copy 47 rfl) rfl f_To_25 (or_mk (by decide +kernel)) ?_
  refine x_iload_n (dat d_To_copy 48 rfl) rfl rfl ?_
  refine x_aald (r := 113) (t := 24) (dat d_To_copy 49 rfl) (by decide +kernel) (by decide) (by decide) (by decide +kernel) (by decide +kernel) ?_
  refine x_inv (As := [vR 113]) (dat d_To_copy 50 rfl) rfl c_Bk_copy l_To_55 (by decide) (rv_bk (by decide +kernel)) rfl rfl (Nat.le_of_ble_eq_true rfl) ?_
  refine sp_Bk_copy (by simp [IsBk, L_Bk]) (by simp [IsBk, L_Bk]) (by decide) (fun σb0 B0 G0 => ?_)
  show Wx g y_To_copy Z K 93 [vR 1, vR 91, vI 0] [] σb0
  refine x_iinc (v' := 1) (L' := [vR 1, vR 91, vI 1]) (dat d_To_copy 51 rfl) rfl (by decide) rfl (by decide) (by omega) rfl ?_
  refine x_goto (tgt := 58) (dat d_To_copy 52 rfl) (by decide) ?_
  refine x_iload_n (dat d_To_copy 30 rfl) rfl rfl ?_
  refine x_iconst (dat d_To_copy 31 rfl) (by decide) ?_
  refine x_icmp_ge (tgt := 99) (dat d_To_copy 32 rfl) (by decide) (fun h => absurd h (by decide)) (fun c_60 => ?_)
  refine x_aload_n (dat d_To_copy 33 rfl) rfl rfl ?_
  refine x_getr (r := 3) (dat d_To_copy 34 rfl) rfl f_To_18 (or_mk (by decide +kernel)) ?_
  refine x_iload_n (dat d_To_copy 35 rfl) rfl rfl ?_
  refine x_aald (r := 13) (t := 23) (dat d_To_copy 36 rfl) (by decide +kernel) (by decide) (by decide) (by decide +kernel) (by decide +kernel) ?_
  refine x_aload_n (dat d_To_copy 37 rfl) rfl rfl ?_
  refine x_getr (r := 93) (dat d_To_copy 38 rfl) rfl f_To_18 (or_mk (by decide +kernel)) ?_
  refine x_iload_n (dat d_To_copy 39 rfl) rfl rfl ?_
  refine x_aald (r := 103) (t := 23) (dat d_To_copy 40 rfl) (by decide +kernel) (by decide) (by decide) (by decide +kernel) (by decide +kernel) ?_
  refine x_inv (As := [vR 103]) (dat d_To_copy 41 rfl) rfl c_Tw_copy l_To_45 (by decide) (rv_tw (by decide +kernel)) rfl rfl (Nat.le_of_ble_eq_true rfl) ?_
  refine sp_Tw_copy (by simp [IsTw, L_Tw]) (by simp [IsTw, L_Tw]) (by decide) (fun σt1 T1 F1 => ?_)
  show Wx g y_To_copy Z K 78 [vR 1, vR 91, vI 1] [] σt1
  refine x_aload_n (dat d_To_copy 42 rfl) rfl rfl ?_
  refine x_getr (r := 22) (dat d_To_copy 43 rfl) rfl f_To_25 (or_mk (by decide +kernel)) ?_
  refine x_iload_n (dat d_To_copy 44 rfl) rfl rfl ?_
  refine x_aald (r := 27) (t := 24) (dat d_To_copy 45 rfl) (by decide +kernel) (by decide) (by decide) (by decide +kernel) (by decide +kernel) ?_
  refine x_aload_n (dat d_To_copy 46 rfl) rfl rfl ?_
  refine x_getr (r := 112) (dat d_To_copy 47 rfl) rfl f_To_25 (or_mk (by decide +kernel)) ?_
  refine x_iload_n (dat d_To_copy 48 rfl) rfl rfl ?_
  refine x_aald (r := 117) (t := 24) (dat d_To_copy 49 rfl) (by decide +kernel) (by decide) (by decide) (by decide +kernel) (by decide +kernel) ?_
  refine x_inv (As := [vR 117]) (dat d_To_copy 50 rfl) rfl c_Bk_copy l_To_55 (by decide) (rv_bk (by decide +kernel)) rfl rfl (Nat.le_of_ble_eq_true rfl) ?_
  refine sp_Bk_copy (by simp [IsBk, L_Bk]) (by simp [IsBk, L_Bk]) (by decide) (fun σb1 B1 G1 => ?_)
  show Wx g y_To_copy Z K 93 [vR 1, vR 91, vI 1] [] σb1
  refine x_iinc (v' := 2) (L' := [vR 1, vR 91, vI 2]) (dat d_To_copy 51 rfl) rfl (by decide) rfl (by decide) (by omega) rfl ?_
  refine x_goto (tgt := 58) (dat d_To_copy 52 rfl) (by decide) ?_
  refine x_iload_n (dat d_To_copy 30 rfl) rfl rfl ?_
  refine x_iconst (dat d_To_copy 31 rfl) (by decide) ?_
  refine x_icmp_ge (tgt := 99) (dat d_To_copy 32 rfl) (by decide) (fun c_60 => ?_) (fun h => absurd h (by decide))
  refine x_ret (dat d_To_copy 53 rfl) rfl ?_
  have fr : ∀ x : Nat, (x < 1 + 3 ∨ 1 + 29 < x) → σb1 x = σ1 x := fun x hx => by rw [G1 x (by omega), F1 x (by omega), G0 x (by omega), F0 x (by omega)]
  refine k σb1 (fun a H => ?_) (fun x hx => by rw [fr x (by omega), A3 x (by omega) (by omega)])
  obtain ⟨h1, h2, h3, h4, h5⟩ := H
  have c0 := h1.1
  have c1 := h1.2.1
  have c2 := h1.2.2
  refine ⟨h1, ?_, fun i i0 i1 => ?_, fun n hn => ?_, fun n hn => ?_⟩
  · rw [fr 1 (by omega), A1.1, A1.2.1, A1.2.2.1, A1.2.2.2.1, A1.2.2.2.2]; exact h2
  · rw [fr (1 + 1) (by omega), A2 i i0 (by omega)]; exact h3 i i0 i1
  · obtain ⟨g1, g2⟩ := h4 n hn
    refine ⟨g1, ?_⟩
    rcases (show n = 0 ∨ n = 1 by omega) with q | q
    · subst q
      refine TownR.same (σ := σt0) ?_ (fun x q0 q1 => by rw [G1 x (by omega), F1 x (by omega), G0 x (by omega)])
      exact T0 _ g1 (g2.same (fun x q0 q1 => A3 x (by omega) (by omega)))
    · subst q
      refine TownR.same (σ := σt1) ?_ (fun x q0 q1 => by rw [G1 x (by omega)])
      exact T1 _ g1 (g2.same (fun x q0 q1 => by rw [G0 x (by omega), F0 x (by omega), A3 x (by omega) (by omega)]))
  · obtain ⟨g1, g2⟩ := h5 n hn
    refine ⟨g1, ?_⟩
    rcases (show n = 0 ∨ n = 1 by omega) with q | q
    · subst q
      refine BookR.same (σ := σb0) ?_ (fun x q0 q1 => by rw [G1 x (by omega), F1 x (by omega)])
      exact B0 _ g1 (g2.same (fun x q0 q1 => by rw [F0 x (by omega), A3 x (by omega) (by omega)]))
    · subst q
      exact B1 _ g1 (g2.same (fun x q0 q1 => by rw [F1 x (by omega), G0 x (by omega), F0 x (by omega), A3 x (by omega) (by omega)]))
/-- a text takes its place -/
def putT (a : Int → Int) (n : Int) (t : Int → Int) : Int → Int := fun i => if i = 0 then (if a 0 < n + 1 then n + 1 else a 0) else if 610 + 156 * n ≤ i ∧ i < 610 + 156 * n + 156 then t (i - (610 + 156 * n)) else a i
def putB (a : Int → Int) (n : Int) (t : Int → Int) : Int → Int := fun i => if i = 1 then (if a 1 < n + 1 then n + 1 else a 1) else if 922 + 25 * n ≤ i ∧ i < 922 + 25 * n + 25 then t (i - (922 + 25 * n)) else a i
theorem putT_self {a t : Int → Int} {n i : Int} (n0 : 0 ≤ n) (i0 : 0 ≤ i) (i1 : i < 156) : twn (putT a n t) n i = t i := by
  unfold twn putT
  rw [if_neg (by omega), if_pos (by omega)]
  congr 1
  omega
theorem putB_self {a t : Int → Int} {n i : Int} (n0 : 0 ≤ n) (i0 : 0 ≤ i) (i1 : i < 25) : bkn (putB a n t) n i = t i := by
  unfold bkn putB
  rw [if_neg (by omega), if_pos (by omega)]
  congr 1
  omega
theorem putT_oth {a t : Int → Int} {n i : Int} (h0 : i ≠ 0) (h : i < 610 + 156 * n ∨ 610 + 156 * n + 156 ≤ i) : putT a n t i = a i := by
  unfold putT
  rw [if_neg h0, if_neg (by omega)]
theorem putB_oth {a t : Int → Int} {n i : Int} (h0 : i ≠ 1) (h : i < 922 + 25 * n ∨ 922 + 25 * n + 25 ≤ i) : putB a n t i = a i := by
  unfold putB
  rw [if_neg h0, if_neg (by omega)]
theorem sp_To_keepTown {g : xG} {K : Option MV → xS → Prop} {σ : xS} {a t : Int → Int} {n : Int} (H : TolR σ 1 a) (n0 : 0 ≤ n) (n1 : n < 2) (n2 : n ≤ a 0) (hT : TownOk t) (hR : TownR σ 124 t) (k : ∀ σ' : xS, TolR σ' 1 (putT a n t) → (∀ x : Nat, (x < 1 ∨ 30 < x) → σ' x = σ x) → K none σ') : Mt g y_To_keepTown [vR 1, vI n, vR 124] σ K := by
  have b0 := H.1.1
  have b1 := H.1.2.1
  have main : ∀ (m : Nat) (v : Int) (σ1 : xS), n = m → a 0 ≤ v → n + 1 ≤ v → (v = a 0 ∨ v = n + 1) → TownR σ1 (4 + 9 * m) t → (∀ x : Nat, (x < 4 + 9 * m ∨ 4 + 9 * m + 8 < x) → σ1 x = σ x) → K none (up σ1 1 6 v) := by
    intro m v σ1 hm v0 v1 v2 R F
    have hm2 : m < 2 := by omega
    have e1 : σ1 1 = σ 1 := F 1 (by omega)
    have hv : v = putT a n t 0 := by
      unfold putT
      rw [if_pos rfl]
      split <;> omega
    have eo : ∀ i : Int, i ≠ 0 → i < 610 → putT a n t i = a i := fun i h0 h1 => putT_oth h0 (by omega)
    obtain ⟨h1, h2, h3, h4, h5⟩ := H
    refine k _ ⟨?_, ?_, fun i i0 i1 => ?_, fun q hq => ?_, fun q hq => ?_⟩ (fun x hx => by rw [up_ne (by omega), F x (by omega)])
    · rw [← hv, eo 1 (by decide) (by decide), eo 2 (by decide) (by decide)]
      omega
    · rw [← hv, eo 1 (by decide) (by decide), eo 2 (by decide) (by decide), eo 3 (by decide) (by decide), eo 4 (by decide) (by decide), up_ni (by decide), up_ni (by decide), up_ni (by decide), up_s, up_ni (by decide), e1]
      exact ⟨h2.1, h2.2.1, h2.2.2.1, rfl, h2.2.2.2.2⟩
    · rw [eo 2 (by decide) (by decide)] at i1
      rw [eo (10 + i) (by omega) (by omega), up_ne (by decide), F (1 + 1) (by omega)]
      exact h3 i i0 i1
    · rw [← hv] at hq
      by_cases z : q = m
      · subst z
        have e : ∀ i : Int, 0 ≤ i → i < 156 → twn (putT a n t) q i = t i := fun i i0 i1 => by rw [← hm]; exact putT_self n0 i0 i1
        exact ⟨TownOk.congr hT e, TownR.congr hT (R.same (fun x q0 q1 => up_ne (by omega))) e⟩
      · have q2 : q < 2 := by omega
        obtain ⟨g1, g2⟩ := h4 q (by omega)
        have e : ∀ i : Int, 0 ≤ i → i < 156 → twn (putT a n t) q i = twn a q i := fun i i0 i1 => putT_oth (by omega) (by omega)
        exact ⟨TownOk.congr g1 e, TownR.congr g1 (g2.same (fun x q0 q1 => by rw [up_ne (by omega), F x (by omega)])) e⟩
    · rw [eo 1 (by decide) (by decide)] at hq
      have q2 : q < 2 := by omega
      obtain ⟨g1, g2⟩ := h5 q hq
      have e : ∀ i : Int, 0 ≤ i → i < 25 → bkn (putT a n t) q i = bkn a q i := fun i i0 i1 => putT_oth (by omega) (by omega)
      exact ⟨BookOk.congr g1 e, BookR.congr g1 (g2.same (fun x q0 q1 => by rw [up_ne (by omega), F x (by omega)])) e⟩
  have ec : σ 1 6 = a 0 := H.2.1.2.2.2.1
  refine x_enter 0 rfl rfl rfl (fun Z => ?_)
  show Wx g y_To_keepTown Z K 0 [vR 1, vI n, vR 124] [] σ
  refine x_iload_n (dat d_To_keepTown 0 rfl) rfl rfl ?_
  refine x_if_lt (tgt := 33) (dat d_To_keepTown 1 rfl) (by decide) (fun c_1 => (by omega)) (fun c_1 => ?_)
  refine x_iload_n (dat d_To_keepTown 2 rfl) rfl rfl ?_
  refine x_iconst (dat d_To_keepTown 3 rfl) (by decide) ?_
  refine x_icmp_ge (tgt := 33) (dat d_To_keepTown 4 rfl) (by decide) (fun c_6 => (by omega)) (fun c_6 => ?_)
  refine x_aload_n (dat d_To_keepTown 5 rfl) rfl rfl ?_
  refine x_getr (r := 3) (dat d_To_keepTown 6 rfl) rfl f_To_18 (or_mk (by decide +kernel)) ?_
  refine x_iload_n (dat d_To_keepTown 7 rfl) rfl rfl ?_
  rcases (show n = 0 ∨ n = 1 by omega) with e | e
  · subst e
    refine x_aald (r := 4) (t := 23) (dat d_To_keepTown 8 rfl) (by decide +kernel) (by decide) (by decide) (by decide +kernel) (by decide +kernel) ?_
    refine x_aload_n (dat d_To_keepTown 9 rfl) rfl rfl ?_
    refine x_inv (As := [vR 124]) (dat d_To_keepTown 10 rfl) rfl c_Tw_copy l_To_45 (by decide) (rv_tw (by decide +kernel)) rfl rfl (Nat.le_of_ble_eq_true rfl) ?_
    refine sp_Tw_copy (by simp [IsTw, L_Tw]) (by simp [IsTw, L_Tw]) (by decide) (fun σ1 T F => ?_)
    have ec1 : σ1 1 6 = a 0 := by rw [F 1 (by omega)]; exact ec
    show Wx g y_To_keepTown Z K 19 [vR 1, vI 0, vR 124] [] σ1
    refine x_aload_n (dat d_To_keepTown 11 rfl) rfl rfl ?_
    refine x_aload_n (dat d_To_keepTown 12 rfl) rfl rfl ?_
    refine x_geti (ji := 6) (v := a 0) (dat d_To_keepTown 13 rfl) rfl f_To_39 (oi_mk (by decide +kernel)) (ec1) ?_
    refine x_iload_n (dat d_To_keepTown 14 rfl) rfl rfl ?_
    refine x_iconst (dat d_To_keepTown 15 rfl) (by decide) ?_
    refine x_iadd (v := 1) (dat d_To_keepTown 16 rfl) (by decide) (by omega) ?_
    refine x_mmax (own := "ShakenBread$Told") (dat d_To_keepTown 17 rfl) rfl l_To_49 (by decide) (Nat.le_of_ble_eq_true rfl) (fun m_27 h1_27 h2_27 h3_27 => ?_)
    refine x_puti (ji := 6) (x := (m_27)) (dat d_To_keepTown 18 rfl) rfl f_To_39w (oi_mk (by decide +kernel)) (fun h => absurd h (by decide)) (by decide) ?_
    refine x_ret (dat d_To_keepTown 19 rfl) rfl ?_
    first
    | exact main 0 _ σ1 rfl (by omega) (by omega) (by omega) (T _ hT hR) F
    | exact main 1 _ σ1 rfl (by omega) (by omega) (by omega) (T _ hT hR) F
  · subst e
    refine x_aald (r := 13) (t := 23) (dat d_To_keepTown 8 rfl) (by decide +kernel) (by decide) (by decide) (by decide +kernel) (by decide +kernel) ?_
    refine x_aload_n (dat d_To_keepTown 9 rfl) rfl rfl ?_
    refine x_inv (As := [vR 124]) (dat d_To_keepTown 10 rfl) rfl c_Tw_copy l_To_45 (by decide) (rv_tw (by decide +kernel)) rfl rfl (Nat.le_of_ble_eq_true rfl) ?_
    refine sp_Tw_copy (by simp [IsTw, L_Tw]) (by simp [IsTw, L_Tw]) (by decide) (fun σ1 T F => ?_)
    have ec1 : σ1 1 6 = a 0 := by rw [F 1 (by omega)]; exact ec
    show Wx g y_To_keepTown Z K 19 [vR 1, vI 1, vR 124] [] σ1
    refine x_aload_n (dat d_To_keepTown 11 rfl) rfl rfl ?_
    refine x_aload_n (dat d_To_keepTown 12 rfl) rfl rfl ?_
    refine x_geti (ji := 6) (v := a 0) (dat d_To_keepTown 13 rfl) rfl f_To_39 (oi_mk (by decide +kernel)) (ec1) ?_
    refine x_iload_n (dat d_To_keepTown 14 rfl) rfl rfl ?_
    refine x_iconst (dat d_To_keepTown 15 rfl) (by decide) ?_
    refine x_iadd (v := 2) (dat d_To_keepTown 16 rfl) (by decide) (by omega) ?_
    refine x_mmax (own := "ShakenBread$Told") (dat d_To_keepTown 17 rfl) rfl l_To_49 (by decide) (Nat.le_of_ble_eq_true rfl) (fun m_27 h1_27 h2_27 h3_27 => ?_)
    refine x_puti (ji := 6) (x := (m_27)) (dat d_To_keepTown 18 rfl) rfl f_To_39w (oi_mk (by decide +kernel)) (fun h => absurd h (by decide)) (by decide) ?_
    refine x_ret (dat d_To_keepTown 19 rfl) rfl ?_
    first
    | exact main 0 _ σ1 rfl (by omega) (by omega) (by omega) (T _ hT hR) F
    | exact main 1 _ σ1 rfl (by omega) (by omega) (by omega) (T _ hT hR) F
theorem sp_To_keepBook {g : xG} {K : Option MV → xS → Prop} {σ : xS} {a t : Int → Int} {n : Int} (H : TolR σ 1 a) (n0 : 0 ≤ n) (n1 : n < 2) (n2 : n ≤ a 1) (hT : BookOk t) (hR : BookR σ 133 t) (k : ∀ σ' : xS, TolR σ' 1 (putB a n t) → (∀ x : Nat, (x < 1 ∨ 30 < x) → σ' x = σ x) → K none σ') : Mt g y_To_keepBook [vR 1, vI n, vR 133] σ K := by
  have b0 := H.1.1
  have b1 := H.1.2.1
  have main : ∀ (m : Nat) (v : Int) (σ1 : xS), n = m → a 1 ≤ v → n + 1 ≤ v → (v = a 1 ∨ v = n + 1) → BookR σ1 (23 + 4 * m) t → (∀ x : Nat, (x < 23 + 4 * m ∨ 23 + 4 * m + 3 < x) → σ1 x = σ x) → K none (up σ1 1 7 v) := by
    intro m v σ1 hm v0 v1 v2 R F
    have hm2 : m < 2 := by omega
    have e1 : σ1 1 = σ 1 := F 1 (by omega)
    have hv : v = putB a n t 1 := by
      unfold putB
      rw [if_pos rfl]
      split <;> omega
    have eo : ∀ i : Int, i ≠ 1 → i < 610 → putB a n t i = a i := fun i h0 h1 => putB_oth h0 (by omega)
    obtain ⟨h1, h2, h3, h4, h5⟩ := H
    refine k _ ⟨?_, ?_, fun i i0 i1 => ?_, fun q hq => ?_, fun q hq => ?_⟩ (fun x hx => by rw [up_ne (by omega), F x (by omega)])
    · rw [← hv, eo 0 (by decide) (by decide), eo 2 (by decide) (by decide)]
      omega
    · rw [← hv, eo 0 (by decide) (by decide), eo 2 (by decide) (by decide), eo 3 (by decide) (by decide), eo 4 (by decide) (by decide), up_ni (by decide), up_ni (by decide), up_ni (by decide), up_s, up_ni (by decide), e1]
      exact ⟨h2.1, h2.2.1, h2.2.2.1, h2.2.2.2.1, rfl⟩
    · rw [eo 2 (by decide) (by decide)] at i1
      rw [eo (10 + i) (by omega) (by omega), up_ne (by decide), F (1 + 1) (by omega)]
      exact h3 i i0 i1
    · rw [eo 0 (by decide) (by decide)] at hq
      have q2 : q < 2 := by omega
      obtain ⟨g1, g2⟩ := h4 q hq
      have e : ∀ i : Int, 0 ≤ i → i < 156 → twn (putB a n t) q i = twn a q i := fun i i0 i1 => putB_oth (by omega) (by omega)
      exact ⟨TownOk.congr g1 e, TownR.congr g1 (g2.same (fun x q0 q1 => by rw [up_ne (by omega), F x (by omega)])) e⟩
    · rw [← hv] at hq
      by_cases z : q = m
      · subst z
        have e : ∀ i : Int, 0 ≤ i → i < 25 → bkn (putB a n t) q i = t i := fun i i0 i1 => by rw [← hm]; exact putB_self n0 i0 i1
        exact ⟨BookOk.congr hT e, BookR.congr hT (R.same (fun x q0 q1 => up_ne (by omega))) e⟩
      · have q2 : q < 2 := by omega
        obtain ⟨g1, g2⟩ := h5 q (by omega)
        have e : ∀ i : Int, 0 ≤ i → i < 25 → bkn (putB a n t) q i = bkn a q i := fun i i0 i1 => putB_oth (by omega) (by omega)
        exact ⟨BookOk.congr g1 e, BookR.congr g1 (g2.same (fun x q0 q1 => by rw [up_ne (by omega), F x (by omega)])) e⟩
  have ec : σ 1 7 = a 1 := H.2.1.2.2.2.2
  refine x_enter 0 rfl rfl rfl (fun Z => ?_)
  show Wx g y_To_keepBook Z K 0 [vR 1, vI n, vR 133] [] σ
  refine x_iload_n (dat d_To_keepBook 0 rfl) rfl rfl ?_
  refine x_if_lt (tgt := 33) (dat d_To_keepBook 1 rfl) (by decide) (fun c_1 => (by omega)) (fun c_1 => ?_)
  refine x_iload_n (dat d_To_keepBook 2 rfl) rfl rfl ?_
  refine x_iconst (dat d_To_keepBook 3 rfl) (by decide) ?_
  refine x_icmp_ge (tgt := 33) (dat d_To_keepBook 4 rfl) (by decide) (fun c_6 => (by omega)) (fun c_6 => ?_)
  refine x_aload_n (dat d_To_keepBook 5 rfl) rfl rfl ?_
  refine x_getr (r := 22) (dat d_To_keepBook 6 rfl) rfl f_To_25 (or_mk (by decide +kernel)) ?_
  refine x_iload_n (dat d_To_keepBook 7 rfl) rfl rfl ?_
  rcases (show n = 0 ∨ n = 1 by omega) with e | e
  · subst e
    refine x_aald (r := 23) (t := 24) (dat d_To_keepBook 8 rfl) (by decide +kernel) (by decide) (by decide) (by decide +kernel) (by decide +kernel) ?_
    refine x_aload_n (dat d_To_keepBook 9 rfl) rfl rfl ?_
    refine x_inv (As := [vR 133]) (dat d_To_keepBook 10 rfl) rfl c_Bk_copy l_To_55 (by decide) (rv_bk (by decide +kernel)) rfl rfl (Nat.le_of_ble_eq_true rfl) ?_
    refine sp_Bk_copy (by simp [IsBk, L_Bk]) (by simp [IsBk, L_Bk]) (by decide) (fun σ1 T F => ?_)
    have ec1 : σ1 1 7 = a 1 := by rw [F 1 (by omega)]; exact ec
    show Wx g y_To_keepBook Z K 19 [vR 1, vI 0, vR 133] [] σ1
    refine x_aload_n (dat d_To_keepBook 11 rfl) rfl rfl ?_
    refine x_aload_n (dat d_To_keepBook 12 rfl) rfl rfl ?_
    refine x_geti (ji := 7) (v := a 1) (dat d_To_keepBook 13 rfl) rfl f_To_42 (oi_mk (by decide +kernel)) (ec1) ?_
    refine x_iload_n (dat d_To_keepBook 14 rfl) rfl rfl ?_
    refine x_iconst (dat d_To_keepBook 15 rfl) (by decide) ?_
    refine x_iadd (v := 1) (dat d_To_keepBook 16 rfl) (by decide) (by omega) ?_
    refine x_mmax (own := "ShakenBread$Told") (dat d_To_keepBook 17 rfl) rfl l_To_49 (by decide) (Nat.le_of_ble_eq_true rfl) (fun m_27 h1_27 h2_27 h3_27 => ?_)
    refine x_puti (ji := 7) (x := (m_27)) (dat d_To_keepBook 18 rfl) rfl f_To_42w (oi_mk (by decide +kernel)) (fun h => absurd h (by decide)) (by decide) ?_
    refine x_ret (dat d_To_keepBook 19 rfl) rfl ?_
    first
    | exact main 0 _ σ1 rfl (by omega) (by omega) (by omega) (T _ hT hR) F
    | exact main 1 _ σ1 rfl (by omega) (by omega) (by omega) (T _ hT hR) F
  · subst e
    refine x_aald (r := 27) (t := 24) (dat d_To_keepBook 8 rfl) (by decide +kernel) (by decide) (by decide) (by decide +kernel) (by decide +kernel) ?_
    refine x_aload_n (dat d_To_keepBook 9 rfl) rfl rfl ?_
    refine x_inv (As := [vR 133]) (dat d_To_keepBook 10 rfl) rfl c_Bk_copy l_To_55 (by decide) (rv_bk (by decide +kernel)) rfl rfl (Nat.le_of_ble_eq_true rfl) ?_
    refine sp_Bk_copy (by simp [IsBk, L_Bk]) (by simp [IsBk, L_Bk]) (by decide) (fun σ1 T F => ?_)
    have ec1 : σ1 1 7 = a 1 := by rw [F 1 (by omega)]; exact ec
    show Wx g y_To_keepBook Z K 19 [vR 1, vI 1, vR 133] [] σ1
    refine x_aload_n (dat d_To_keepBook 11 rfl) rfl rfl ?_
    refine x_aload_n (dat d_To_keepBook 12 rfl) rfl rfl ?_
    refine x_geti (ji := 7) (v := a 1) (dat d_To_keepBook 13 rfl) rfl f_To_42 (oi_mk (by decide +kernel)) (ec1) ?_
    refine x_iload_n (dat d_To_keepBook 14 rfl) rfl rfl ?_
    refine x_iconst (dat d_To_keepBook 15 rfl) (by decide) ?_
    refine x_iadd (v := 2) (dat d_To_keepBook 16 rfl) (by decide) (by omega) ?_
    refine x_mmax (own := "ShakenBread$Told") (dat d_To_keepBook 17 rfl) rfl l_To_49 (by decide) (Nat.le_of_ble_eq_true rfl) (fun m_27 h1_27 h2_27 h3_27 => ?_)
    refine x_puti (ji := 7) (x := (m_27)) (dat d_To_keepBook 18 rfl) rfl f_To_42w (oi_mk (by decide +kernel)) (fun h => absurd h (by decide)) (by decide) ?_
    refine x_ret (dat d_To_keepBook 19 rfl) rfl ?_
    first
    | exact main 0 _ σ1 rfl (by omega) (by omega) (by omega) (T _ hT hR) F
    | exact main 1 _ σ1 rfl (by omega) (by omega) (by omega) (T _ hT hR) F
