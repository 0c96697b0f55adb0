/-! searches: the best order, over all hours and people -/
theorem sp_Tr_findOrder {g : xG} {K : Option MV → xS → Prop} {σ : xS} {o : Nat} {t : Int → Int} {H P M : Nat} (ho : IsTw o) (hT : TownOk t) (hR : TownR σ o t) (hM : (M : Int) = t 0 * t 1) (hP : (P : Int) = t 6) (hHH : (H : Int) = t 3) (k : ∀ σ' : xS, OrdS t σ' (H * P * M) → TrF σ' σ → K (some (vI (if (ordN (ordF t) (stv (cfg t)) (H * P * M)).1 = -1 then 0 else 1))) σ') : Mt g y_Tr_findOrder [vR 169, vR o] σ K := by
  have hC := cfg_ok hT
  have hH := cH_eq hC
  have h6 := hT.2.2.2.2.2.2.1
  have h3 := hT.2.2.2.1
  have hcb := cells_bd hT
  have hb0 := stv_bd hC
  have nz : ∀ j : Nat, 0 ≤ ordF t j := fun j => (stv_bd (hC.whr (whSend (cfg t) ((j : Int) / (t 0 * t 1) / t 6) ((j : Int) / (t 0 * t 1) % t 6) ((j : Int) % (t 0 * t 1))))).1
  have fi : ∀ (Z : xZ) (σ1 : xS) (v w3 : MV), OrdS t σ1 (H * P * M) → TrF σ1 σ → Wx g y_Tr_findOrder Z K 73 [vR 169, vR o, v, w3] [] σ1 := by
    intro Z σ1 v w3 HS F
    have fin := k σ1 HS F
    have S0 := HS.1
    have hi := (ordN_in (ordF t) (stv (cfg t)) (H * P * M)).1
    have nn : 0 ≤ (ordN (ordF t) (stv (cfg t)) (H * P * M)).1 → 0 ≤ (ordN (ordF t) (stv (cfg t)) (H * P * M)).1 / (t 0 * t 1) / t 6 := fun w => Int.ediv_nonneg (Int.ediv_nonneg w (by omega)) (by omega)
    generalize ordN (ordF t) (stv (cfg t)) (H * P * M) = q at hi S0 fin nn
    generalize q.1 / (t 0 * t 1) / t 6 = d at S0 nn
    refine x_aload_n (dat d_Tr_findOrder 39 rfl) rfl rfl ?_
    refine x_getr (r := 170) (dat d_Tr_findOrder 40 rfl) rfl f_Tr_9 (or_mk (by decide +kernel)) ?_
    refine x_iconst (dat d_Tr_findOrder 41 rfl) (by decide) ?_
    refine x_iald (n := 4) (v := σ1 170 0) (dat d_Tr_findOrder 42 rfl) (ai_mk (by decide +kernel)) (by omega) (by omega) rfl ?_
    refine x_iconst (dat d_Tr_findOrder 43 rfl) (by decide) ?_
    refine x_icmp_eq (tgt := 87) (dat d_Tr_findOrder 44 rfl) (by decide) (fun c_80 => ?_) (fun c_80 => ?_)
    · refine x_iconst (dat d_Tr_findOrder 47 rfl) (by decide) ?_
      refine x_zret (dat d_Tr_findOrder 48 rfl) rfl (by decide) ?_
      first
      | (rw [if_pos (by
           rcases hi with w | w
           · exact w
           · rw [if_neg (by omega)] at S0
             have := nn w.1
             omega)] at fin
         exact fin)
      | (rw [if_neg (by
           intro w
           rw [if_pos w] at S0
           omega)] at fin
         exact fin)
    · refine x_iconst (dat d_Tr_findOrder 45 rfl) (by decide) ?_
      refine x_goto (tgt := 88) (dat d_Tr_findOrder 46 rfl) (by decide) ?_
      refine x_zret (dat d_Tr_findOrder 48 rfl) rfl (by decide) ?_
      first
      | (rw [if_pos (by
           rcases hi with w | w
           · exact w
           · rw [if_neg (by omega)] at S0
             have := nn w.1
             omega)] at fin
         exact fin)
      | (rw [if_neg (by
           intro w
           rw [if_pos w] at S0
           omega)] at fin
         exact fin)
  have li : ∀ (Z : xZ) (h : Nat), h < H → (∀ (σ2 : xS) (w3 : MV), PlanR σ2 (cfg t) → RunS σ2 143 (cfg t) 0 (cH (cfg t)) → OrdS t σ2 ((h + 1) * P * M) → TrF σ2 σ → Wx g y_Tr_findOrder Z K 21 [vR 169, vR o, vI ((h + 1 : Nat) : Int), w3] [] σ2) → ∀ (n p : Nat) (σ1 : xS), p + n = P → PlanR σ1 (cfg t) → RunS σ1 143 (cfg t) 0 (cH (cfg t)) → OrdS t σ1 ((h * P + p) * M) → TrF σ1 σ → Wx g y_Tr_findOrder Z K 43 [vR 169, vR o, vI (h : Int), vI (p : Int)] [] σ1 := by
    intro Z h hh nxA n
    induction n with
    | zero =>
      intro p σ1 hn hp R HS F
      have e : p = P := by omega
      subst e
      have e0 : σ1 138 0 = (p : Int) := by rw [hP]; exact hp.1
      rw [show h * p + p = (h + 1) * p by rw [Nat.succ_mul]] at HS
      refine x_iload_n (dat d_Tr_findOrder 25 rfl) rfl rfl ?_
      refine x_aload_n (dat d_Tr_findOrder 26 rfl) rfl rfl ?_
      refine x_getr (r := 138) (dat d_Tr_findOrder 27 rfl) rfl f_Tr_15 (or_mk (by decide +kernel)) ?_
      refine x_geti (ji := 0) (v := (p : Int)) (dat d_Tr_findOrder 28 rfl) rfl f_Tr_52 (oi_mk (by decide +kernel)) (e0) ?_
      refine x_icmp_ge (tgt := 67) (dat d_Tr_findOrder 29 rfl) (by decide) (fun c_51 => ?_) (fun c_51 => (by omega))
      refine x_iinc (v' := ((h + 1 : Nat) : Int)) (L' := [vR 169, vR o, vI ((h + 1 : Nat) : Int), vI (p : Int)]) (dat d_Tr_findOrder 37 rfl) rfl (by decide) rfl (by omega) (by omega) rfl ?_
      refine x_goto (tgt := 21) (dat d_Tr_findOrder 38 rfl) (by decide) ?_
      exact nxA _ _ hp R HS F
    | succ n ih =>
      intro p σ1 hn hp R HS F
      have e0 : σ1 138 0 = (P : Int) := by rw [hP]; exact hp.1
      refine x_iload_n (dat d_Tr_findOrder 25 rfl) rfl rfl ?_
      refine x_aload_n (dat d_Tr_findOrder 26 rfl) rfl rfl ?_
      refine x_getr (r := 138) (dat d_Tr_findOrder 27 rfl) rfl f_Tr_15 (or_mk (by decide +kernel)) ?_
      refine x_geti (ji := 0) (v := (P : Int)) (dat d_Tr_findOrder 28 rfl) rfl f_Tr_52 (oi_mk (by decide +kernel)) (e0) ?_
      refine x_icmp_ge (tgt := 67) (dat d_Tr_findOrder 29 rfl) (by decide) (fun c_51 => (by omega)) (fun c_51 => ?_)
      refine x_aload_n (dat d_Tr_findOrder 30 rfl) rfl rfl ?_
      refine x_aload_n (dat d_Tr_findOrder 31 rfl) rfl rfl ?_
      refine x_iload_n (dat d_Tr_findOrder 32 rfl) rfl rfl ?_
      refine x_iload_n (dat d_Tr_findOrder 33 rfl) rfl rfl ?_
      refine x_inv (As := [vR o, vI (h : Int), vI (p : Int)]) (dat d_Tr_findOrder 34 rfl) rfl c_Tr_tryCells l_Tr_84 (by decide) (rv_tr (by decide +kernel)) rfl rfl (Nat.le_of_ble_eq_true rfl) ?_
      refine sp_Tr_tryCells (M := M) (P := P) ho hT (F.town ho hR) hM hP (by omega) (by omega) hp R HS (fun σ2 hp2 R2 HS2 F2 => ?_)
      rw [show (h * P + p) * M + M = (h * P + (p + 1)) * M by rw [← Nat.succ_mul]; rfl] at HS2
      show Wx g y_Tr_findOrder Z K 61 [vR 169, vR o, vI (h : Int), vI (p : Int)] [] σ2
      refine x_iinc (v' := ((p + 1 : Nat) : Int)) (L' := [vR 169, vR o, vI (h : Int), vI ((p + 1 : Nat) : Int)]) (dat d_Tr_findOrder 35 rfl) rfl (by decide) rfl (by omega) (by omega) rfl ?_
      refine x_goto (tgt := 43) (dat d_Tr_findOrder 36 rfl) (by decide) ?_
      exact ih (p + 1) σ2 (by omega) hp2 R2 HS2 (fun b hb => by rw [F2 b hb]; exact F b hb)
  have lo : ∀ (Z : xZ) (n h : Nat) (σ1 : xS) (w3 : MV), h + n = H → PlanR σ1 (cfg t) → RunS σ1 143 (cfg t) 0 (cH (cfg t)) → OrdS t σ1 (h * P * M) → TrF σ1 σ → Wx g y_Tr_findOrder Z K 21 [vR 169, vR o, vI (h : Int), w3] [] σ1 := by
    intro Z n
    induction n with
    | zero =>
      intro h σ1 w3 hn hp R HS F
      have e : h = H := by omega
      subst e
      have e1 : σ1 138 1 = (h : Int) := by rw [hHH]; exact hp.2.1
      have e3 : σ1 170 3 = (ordN (ordF t) (stv (cfg t)) (h * P * M)).2 := HS.2.2
      refine x_aload_n (dat d_Tr_findOrder 13 rfl) rfl rfl ?_
      refine x_getr (r := 170) (dat d_Tr_findOrder 14 rfl) rfl f_Tr_9 (or_mk (by decide +kernel)) ?_
      refine x_iconst (dat d_Tr_findOrder 15 rfl) (by decide) ?_
      refine x_iald (n := 4) (v := (ordN (ordF t) (stv (cfg t)) (h * P * M)).2) (dat d_Tr_findOrder 16 rfl) (ai_mk (by decide +kernel)) (by omega) (by omega) (e3) ?_
      refine x_if_le (tgt := 73) (dat d_Tr_findOrder 17 rfl) (by decide) (fun c_27 => ?_) (fun c_27 => ?_)
      · exact fi Z σ1 _ _ HS F
      · refine x_iload_n (dat d_Tr_findOrder 18 rfl) rfl rfl ?_
        refine x_aload_n (dat d_Tr_findOrder 19 rfl) rfl rfl ?_
        refine x_getr (r := 138) (dat d_Tr_findOrder 20 rfl) rfl f_Tr_15 (or_mk (by decide +kernel)) ?_
        refine x_geti (ji := 1) (v := (h : Int)) (dat d_Tr_findOrder 21 rfl) rfl f_Tr_81 (oi_mk (by decide +kernel)) (e1) ?_
        refine x_icmp_ge (tgt := 73) (dat d_Tr_findOrder 22 rfl) (by decide) (fun c_38 => ?_) (fun c_38 => (by omega))
        exact fi Z σ1 _ _ HS F
    | succ n ih =>
      intro h σ1 w3 hn hp R HS F
      have e1 : σ1 138 1 = (H : Int) := by rw [hHH]; exact hp.2.1
      have e3 : σ1 170 3 = (ordN (ordF t) (stv (cfg t)) (h * P * M)).2 := HS.2.2
      have eN : h * P * M + (n + 1) * P * M = H * P * M := by rw [← Nat.add_mul, ← Nat.add_mul, hn]
      refine x_aload_n (dat d_Tr_findOrder 13 rfl) rfl rfl ?_
      refine x_getr (r := 170) (dat d_Tr_findOrder 14 rfl) rfl f_Tr_9 (or_mk (by decide +kernel)) ?_
      refine x_iconst (dat d_Tr_findOrder 15 rfl) (by decide) ?_
      refine x_iald (n := 4) (v := (ordN (ordF t) (stv (cfg t)) (h * P * M)).2) (dat d_Tr_findOrder 16 rfl) (ai_mk (by decide +kernel)) (by omega) (by omega) (e3) ?_
      refine x_if_le (tgt := 73) (dat d_Tr_findOrder 17 rfl) (by decide) (fun c_27 => ?_) (fun c_27 => ?_)
      · refine fi Z σ1 _ _ (HS.eq rfl ?_) F
        rw [← eN]
        exact ordN_skip hb0.2 (h * P * M) ((n + 1) * P * M) (fun j _ _ => Int.le_trans c_27 (nz j))
      · refine x_iload_n (dat d_Tr_findOrder 18 rfl) rfl rfl ?_
        refine x_aload_n (dat d_Tr_findOrder 19 rfl) rfl rfl ?_
        refine x_getr (r := 138) (dat d_Tr_findOrder 20 rfl) rfl f_Tr_15 (or_mk (by decide +kernel)) ?_
        refine x_geti (ji := 1) (v := (H : Int)) (dat d_Tr_findOrder 21 rfl) rfl f_Tr_81 (oi_mk (by decide +kernel)) (e1) ?_
        refine x_icmp_ge (tgt := 73) (dat d_Tr_findOrder 22 rfl) (by decide) (fun c_38 => (by omega)) (fun c_38 => ?_)
        refine x_iconst (dat d_Tr_findOrder 23 rfl) (by decide) ?_
        refine x_istore_n (L' := [vR 169, vR o, vI (h : Int), vI 0]) (dat d_Tr_findOrder 24 rfl) rfl (by decide) rfl rfl ?_
        exact li Z h (by omega) (fun σ2 w3' q1 q2 q3 q4 => ih (h + 1) σ2 w3' (by omega) q1 q2 q3 q4) P 0 σ1 (by omega) hp R (by rw [Nat.add_zero]; exact HS) F
  refine x_enter 2 rfl rfl rfl (fun Z => ?_)
  show Wx g y_Tr_findOrder Z K 0 [vR 169, vR o, vU, vU] [] σ
  refine x_aload_n (dat d_Tr_findOrder 0 rfl) rfl rfl ?_
  refine x_aload_n (dat d_Tr_findOrder 1 rfl) rfl rfl ?_
  refine x_inv (As := [vR o]) (dat d_Tr_findOrder 2 rfl) rfl c_Tr_begin l_Tr_74 (by decide) (rv_tr (by decide +kernel)) rfl rfl (Nat.le_of_ble_eq_true rfl) ?_
  refine sp_Tr_begin ho hT hR (fun σ1 hp R F1 => ?_)
  show Wx g y_Tr_findOrder Z K 5 [vR 169, vR o, vU, vU] [] σ1
  refine x_aload_n (dat d_Tr_findOrder 3 rfl) rfl rfl ?_
  refine x_iconst (dat d_Tr_findOrder 4 rfl) (by decide) ?_
  refine x_iconst (dat d_Tr_findOrder 5 rfl) (by decide) ?_
  refine x_iconst (dat d_Tr_findOrder 6 rfl) (by decide) ?_
  refine x_aload_n (dat d_Tr_findOrder 7 rfl) rfl rfl ?_
  refine x_getr (r := 143) (dat d_Tr_findOrder 8 rfl) rfl f_Tr_19 (or_mk (by decide +kernel)) ?_
  refine x_inv (As := []) (dat d_Tr_findOrder 9 rfl) rfl c_Ru_starved l_Tr_38 (by decide) (rv_ru (by decide +kernel)) rfl rfl (Nat.le_of_ble_eq_true rfl) ?_
  refine sp_Ru_starved ru_143 hC R (by omega) ?_
  show Wx g y_Tr_findOrder Z K 16 [vR 169, vR o, vU, vU] [vI (stv (cfg t)), vI (-1), vI (-1), vI (-1), vR 169] σ1
  refine x_inv (As := [vI (-1), vI (-1), vI (-1), vI (stv (cfg t))]) (dat d_Tr_findOrder 10 rfl) rfl c_Tr_keepFound l_Tr_77 (by decide) (rv_tr (by decide +kernel)) rfl rfl (Nat.le_of_ble_eq_true rfl) ?_
  refine sp_Tr_keepFound ?_
  have u4 := up4 σ1 170 (-1) (-1) (-1) (stv (cfg t))
  show Wx g y_Tr_findOrder Z K 19 [vR 169, vR o, vU, vU] [] (up (up (up (up σ1 170 0 (-1)) 170 1 (-1)) 170 2 (-1)) 170 3 (stv (cfg t)))
  refine x_iconst (dat d_Tr_findOrder 11 rfl) (by decide) ?_
  refine x_istore_n (L' := [vR 169, vR o, vI 0, vU]) (dat d_Tr_findOrder 12 rfl) rfl (by decide) rfl rfl ?_
  refine lo Z H 0 _ _ (by omega) (hp.same (fun b _ _ => u4.2.2.2.2 b (by omega))) (R.same (fun b _ _ => u4.2.2.2.2 b (by omega))) ?_ (fun b hb => by rw [u4.2.2.2.2 b (by omega), F1 b (by omega)])
  rw [Nat.zero_mul, Nat.zero_mul]
  exact ⟨u4.1, fun w => absurd rfl w, u4.2.2.2.1⟩
