/-! searches: laws, aid, need -/
def scanMin (f : Nat → Int) : Nat → Int × Int
  | 0 => (-1, 0)
  | n + 1 => if (scanMin f n).1 = -1 ∨ f n < (scanMin f n).2 then ((n : Int), f n) else scanMin f n
theorem scanMin_in (f : Nat → Int) : ∀ n : Nat, (n = 0 ∧ (scanMin f n).1 = -1) ∨ (1 ≤ n ∧ 0 ≤ (scanMin f n).1 ∧ (scanMin f n).1 < n)
  | 0 => Or.inl ⟨rfl, rfl⟩
  | n + 1 => by
    have := scanMin_in f n
    simp only [scanMin]
    split
    · right; simp; omega
    · omega
theorem mS_mS (C : Cf) (i v w : Int) : mS (mS C i w) i v = mS C i v := by
  unfold mS
  have : (fun j => if j = i then v else cS (fun j => if j = i then w else cS C j, C.2) j) = (fun j => if j = i then v else cS C j) := by
    funext j
    by_cases q : j = i
    · rw [if_pos q, if_pos q]
    · rw [if_neg q, if_neg q]
      show (if j = i then w else cS C j) = cS C j
      rw [if_neg q]
  rw [this]
theorem mS_self (C : Cf) (i : Int) : mS C i (cS C i) = C := by
  unfold mS
  have : (fun j => if j = i then cS C i else cS C j) = C.1 := by
    funext j
    by_cases q : j = i
    · rw [if_pos q, q]; rfl
    · rw [if_neg q]; rfl
  rw [this]
theorem PlanR.set {σ : xS} {C : Cf} {i w v : Int} (H : PlanR σ (mS C i w)) (hi : (i = 2 ∨ i = 3) ∨ i = 4) : PlanR (up σ 138 i v) (mS C i v) := by
  have := H.one (v := v) hi
  rwa [mS_mS] at this
theorem mS_get (C : Cf) (i v j : Int) : cS (mS C i v) j = if j = i then v else cS C j := rfl
theorem CfOk.law {C : Cf} (hC : CfOk C) {v : Int} (h0 : 0 ≤ v) (h1 : v ≤ 3) : CfOk (mS C 2 v) := by
  obtain ⟨g0, g1, g2, g3, g4, g5, g6, g7, g8, g9, g10, g11, g12⟩ := hC
  exact ⟨g0, g1, g2, g3, g4, g5, g6, g7, h0, h1, g10, g11, g12⟩
theorem CfOk.need {C : Cf} (hC : CfOk C) {v : Int} (h0 : 0 ≤ v) (h1 : v ≤ 9) : CfOk (mS C 3 v) := by
  obtain ⟨g0, g1, g2, g3, g4, g5, g6, g7, g8, g9, g10, g11, g12⟩ := hC
  exact ⟨g0, g1, g2, g3, h0, h1, g6, g7, g8, g9, g10, g11, g12⟩
theorem CfOk.every {C : Cf} (hC : CfOk C) {v : Int} (h0 : 1 ≤ v) (h1 : v ≤ 24) : CfOk (mS C 4 v) := by
  obtain ⟨g0, g1, g2, g3, g4, g5, g6, g7, g8, g9, g10, g11, g12⟩ := hC
  exact ⟨g0, g1, g2, g3, g4, g5, h0, h1, g8, g9, g10, g11, g12⟩
theorem CfOk.loaf {C : Cf} (hC : CfOk C) (p h : Int) {v : Int} (h0 : 0 ≤ v) (h1 : v ≤ 30) : CfOk (mLoaf C p h v) := by
  obtain ⟨g0, g1, g2, g3, g4, g5, g6, g7, g8, g9, g10, g11, g12⟩ := hC
  exact ⟨g0, g1, g2, g3, g4, g5, g6, g7, g8, g9, h0, h1, g12⟩
/-- how many starve by a law -/
def lawF (t : Int → Int) (n : Nat) : Int := stv (mS (cfg t) 2 n)
theorem sp_Tr_findLaw {g : xG} {K : Option MV → xS → Prop} {σ : xS} {o : Nat} {t : Int → Int} (ho : IsTw o) (hT : TownOk t) (hR : TownR σ o t) (k : ∀ σ' : xS, σ' 170 0 = (scanMin (lawF t) 4).1 → σ' 170 1 = (scanMin (lawF t) 4).2 → TrF σ' σ → K none σ') : Mt g y_Tr_findLaw [vR 169, vR o] σ K := by
  have hC := cfg_ok hT
  have lp : ∀ (Z : xZ) (n i : Nat) (σ1 : xS) (w : Int) (w3 : MV), i + n = 4 → PlanR σ1 (mS (cfg t) 2 w) → σ1 170 0 = (scanMin (lawF t) i).1 → (1 ≤ i → σ1 170 1 = (scanMin (lawF t) i).2) → TrF σ1 σ → Wx g y_Tr_findLaw Z K 18 [vR 169, vR o, vI (i : Int), w3] [] σ1 := by
    intro Z n
    induction n with
    | zero =>
      intro i σ1 w w3 hn hp e0 e1 F
      have e : i = 4 := by omega
      subst e
      refine x_iload_n (dat d_Tr_findLaw 12 rfl) rfl rfl ?_
      refine x_iconst (dat d_Tr_findLaw 13 rfl) (by decide) ?_
      refine x_icmp_ge (tgt := 70) (dat d_Tr_findLaw 14 rfl) (by decide) (fun c_20 => ?_) (fun c_20 => (by omega))
      refine x_ret (dat d_Tr_findLaw 42 rfl) rfl ?_
      exact k _ e0 (e1 (by omega)) F
    | succ n ih =>
      intro i σ1 w w3 hn hp e0 e1 F
      have hl := stv_bd (hC.law (v := (i : Int)) (by omega) (by omega))
      have hs := scanMin_in (lawF t) i
      have st : scanMin (lawF t) (i + 1) = if (scanMin (lawF t) i).1 = -1 ∨ lawF t i < (scanMin (lawF t) i).2 then ((i : Int), lawF t i) else scanMin (lawF t) i := rfl
      have hf : lawF t i = stv (mS (cfg t) 2 i) := rfl
      generalize hq : scanMin (lawF t) i = q at hs st e0 e1
      refine x_iload_n (dat d_Tr_findLaw 12 rfl) rfl rfl ?_
      refine x_iconst (dat d_Tr_findLaw 13 rfl) (by decide) ?_
      refine x_icmp_ge (tgt := 70) (dat d_Tr_findLaw 14 rfl) (by decide) (fun c_20 => (by omega)) (fun c_20 => ?_)
      refine x_aload_n (dat d_Tr_findLaw 15 rfl) rfl rfl ?_
      refine x_getr (r := 138) (dat d_Tr_findLaw 16 rfl) rfl f_Tr_15 (or_mk (by decide +kernel)) ?_
      refine x_iload_n (dat d_Tr_findLaw 17 rfl) rfl rfl ?_
      refine x_puti (ji := 2) (x := (i : Int)) (dat d_Tr_findLaw 18 rfl) rfl f_Tr_126w (oi_mk (by decide +kernel)) (fun h => absurd h (by decide)) (by decide) ?_
      refine x_aload_n (dat d_Tr_findLaw 19 rfl) rfl rfl ?_
      refine x_inv (As := []) (dat d_Tr_findLaw 20 rfl) rfl c_Tr_starvedByPlan l_Tr_59 (by decide) (rv_tr (by decide +kernel)) rfl rfl (Nat.le_of_ble_eq_true rfl) ?_
      refine sp_Tr_starvedByPlan (hC.law (v := (i : Int)) (by omega) (by omega)) (hp.set (Or.inl (Or.inl rfl))) (fun σ2 F2 => ?_)
      rw [← hf]
      have f0 : σ2 170 0 = q.1 := by rw [F2 170 (by omega), up_ne (by decide)]; exact e0
      have f1 : 1 ≤ i → σ2 170 1 = q.2 := fun w => by rw [F2 170 (by omega), up_ne (by decide)]; exact e1 w
      have Fx : TrF σ2 σ := fun b hb => by rw [F2 b (by omega), up_ne (by omega)]; exact F b hb
      have hp2 : PlanR σ2 (mS (cfg t) 2 i) := (hp.set (v := (i : Int)) (Or.inl (Or.inl rfl))).same (fun b _ _ => F2 b (by omega))
      show Wx g y_Tr_findLaw Z K 35 [vR 169, vR o, vI (i : Int), w3] [vI (lawF t i)] σ2
      refine x_istore_n (L' := [vR 169, vR o, vI (i : Int), vI (lawF t i)]) (dat d_Tr_findLaw 21 rfl) rfl (by decide) rfl rfl ?_
      refine x_aload_n (dat d_Tr_findLaw 22 rfl) rfl rfl ?_
      refine x_getr (r := 170) (dat d_Tr_findLaw 23 rfl) rfl f_Tr_9 (or_mk (by decide +kernel)) ?_
      refine x_iconst (dat d_Tr_findLaw 24 rfl) (by decide) ?_
      refine x_iald (n := 4) (v := q.1) (dat d_Tr_findLaw 25 rfl) (ai_mk (by decide +kernel)) (by omega) (by omega) (f0) ?_
      refine x_iconst (dat d_Tr_findLaw 26 rfl) (by decide) ?_
      refine x_icmp_eq (tgt := 56) (dat d_Tr_findLaw 27 rfl) (by decide) (fun c_43 => ?_) (fun c_43 => ?_)
      · refine x_aload_n (dat d_Tr_findLaw 34 rfl) rfl rfl ?_
        refine x_iload_n (dat d_Tr_findLaw 35 rfl) rfl rfl ?_
        refine x_iload_n (dat d_Tr_findLaw 36 rfl) rfl rfl ?_
        refine x_iconst (dat d_Tr_findLaw 37 rfl) (by decide) ?_
        refine x_iconst (dat d_Tr_findLaw 38 rfl) (by decide) ?_
        refine x_inv (As := [vI (i : Int), vI (lawF t i), vI (-1), vI (-1)]) (dat d_Tr_findLaw 39 rfl) rfl c_Tr_keepFound l_Tr_77 (by decide) (rv_tr (by decide +kernel)) rfl rfl (Nat.le_of_ble_eq_true rfl) ?_
        refine sp_Tr_keepFound ?_
        show Wx g y_Tr_findLaw Z K 64 [vR 169, vR o, vI (i : Int), vI (lawF t i)] [] (up (up (up (up σ2 170 0 (i : Int)) 170 1 (lawF t i)) 170 2 (-1)) 170 3 (-1))
        refine x_iinc (v' := ((i + 1 : Nat) : Int)) (L' := [vR 169, vR o, vI ((i + 1 : Nat) : Int), vI (lawF t i)]) (dat d_Tr_findLaw 40 rfl) rfl (by decide) rfl (by omega) (by omega) rfl ?_
        refine x_goto (tgt := 18) (dat d_Tr_findLaw 41 rfl) (by decide) ?_
        first
        | (rw [if_pos (by omega)] at st
           exact ih (i + 1) _ i _ (by omega) (hp2.same (fun b _ _ => by rw [up_ne (by omega), up_ne (by omega), up_ne (by omega), up_ne (by omega)])) (by rw [st, up_ni (by decide), up_ni (by decide), up_ni (by decide), up_s]) (fun _ => by rw [st, up_ni (by decide), up_ni (by decide), up_s]) (fun b hb => by rw [up_ne (by omega), up_ne (by omega), up_ne (by omega), up_ne (by omega)]; exact Fx b hb))
        | (rw [if_neg (by have := f1 (by omega); omega)] at st
           exact ih (i + 1) _ i _ (by omega) hp2 (by rw [st, f0]) (fun _ => by rw [st, f1 (by omega)]) Fx)
      · refine x_iload_n (dat d_Tr_findLaw 28 rfl) rfl rfl ?_
        refine x_aload_n (dat d_Tr_findLaw 29 rfl) rfl rfl ?_
        refine x_getr (r := 170) (dat d_Tr_findLaw 30 rfl) rfl f_Tr_9 (or_mk (by decide +kernel)) ?_
        refine x_iconst (dat d_Tr_findLaw 31 rfl) (by decide) ?_
        refine x_iald (n := 4) (v := σ2 170 1) (dat d_Tr_findLaw 32 rfl) (ai_mk (by decide +kernel)) (by omega) (by omega) rfl ?_
        refine x_icmp_ge (tgt := 64) (dat d_Tr_findLaw 33 rfl) (by decide) (fun c_53 => ?_) (fun c_53 => ?_)
        · refine x_iinc (v' := ((i + 1 : Nat) : Int)) (L' := [vR 169, vR o, vI ((i + 1 : Nat) : Int), vI (lawF t i)]) (dat d_Tr_findLaw 40 rfl) rfl (by decide) rfl (by omega) (by omega) rfl ?_
          refine x_goto (tgt := 18) (dat d_Tr_findLaw 41 rfl) (by decide) ?_
          first
          | (rw [if_pos (by omega)] at st
             exact ih (i + 1) _ i _ (by omega) (hp2.same (fun b _ _ => by rw [up_ne (by omega), up_ne (by omega), up_ne (by omega), up_ne (by omega)])) (by rw [st, up_ni (by decide), up_ni (by decide), up_ni (by decide), up_s]) (fun _ => by rw [st, up_ni (by decide), up_ni (by decide), up_s]) (fun b hb => by rw [up_ne (by omega), up_ne (by omega), up_ne (by omega), up_ne (by omega)]; exact Fx b hb))
          | (rw [if_neg (by have := f1 (by omega); omega)] at st
             exact ih (i + 1) _ i _ (by omega) hp2 (by rw [st, f0]) (fun _ => by rw [st, f1 (by omega)]) Fx)
        · refine x_aload_n (dat d_Tr_findLaw 34 rfl) rfl rfl ?_
          refine x_iload_n (dat d_Tr_findLaw 35 rfl) rfl rfl ?_
          refine x_iload_n (dat d_Tr_findLaw 36 rfl) rfl rfl ?_
          refine x_iconst (dat d_Tr_findLaw 37 rfl) (by decide) ?_
          refine x_iconst (dat d_Tr_findLaw 38 rfl) (by decide) ?_
          refine x_inv (As := [vI (i : Int), vI (lawF t i), vI (-1), vI (-1)]) (dat d_Tr_findLaw 39 rfl) rfl c_Tr_keepFound l_Tr_77 (by decide) (rv_tr (by decide +kernel)) rfl rfl (Nat.le_of_ble_eq_true rfl) ?_
          refine sp_Tr_keepFound ?_
          show Wx g y_Tr_findLaw Z K 64 [vR 169, vR o, vI (i : Int), vI (lawF t i)] [] (up (up (up (up σ2 170 0 (i : Int)) 170 1 (lawF t i)) 170 2 (-1)) 170 3 (-1))
          refine x_iinc (v' := ((i + 1 : Nat) : Int)) (L' := [vR 169, vR o, vI ((i + 1 : Nat) : Int), vI (lawF t i)]) (dat d_Tr_findLaw 40 rfl) rfl (by decide) rfl (by omega) (by omega) rfl ?_
          refine x_goto (tgt := 18) (dat d_Tr_findLaw 41 rfl) (by decide) ?_
          first
          | (rw [if_pos (by omega)] at st
             exact ih (i + 1) _ i _ (by omega) (hp2.same (fun b _ _ => by rw [up_ne (by omega), up_ne (by omega), up_ne (by omega), up_ne (by omega)])) (by rw [st, up_ni (by decide), up_ni (by decide), up_ni (by decide), up_s]) (fun _ => by rw [st, up_ni (by decide), up_ni (by decide), up_s]) (fun b hb => by rw [up_ne (by omega), up_ne (by omega), up_ne (by omega), up_ne (by omega)]; exact Fx b hb))
          | (rw [if_neg (by have := f1 (by omega); omega)] at st
             exact ih (i + 1) _ i _ (by omega) hp2 (by rw [st, f0]) (fun _ => by rw [st, f1 (by omega)]) Fx)
  refine x_enter 2 rfl rfl rfl (fun Z => ?_)
  show Wx g y_Tr_findLaw Z K 0 [vR 169, vR o, vU, vU] [] σ
  refine x_aload_n (dat d_Tr_findLaw 0 rfl) rfl rfl ?_
  refine x_getr (r := 138) (dat d_Tr_findLaw 1 rfl) rfl f_Tr_15 (or_mk (by decide +kernel)) ?_
  refine x_aload_n (dat d_Tr_findLaw 2 rfl) rfl rfl ?_
  refine x_inv (As := [vR o]) (dat d_Tr_findLaw 3 rfl) rfl c_Pl_lay l_Tr_26 (by decide) (rv_pl (by decide +kernel)) rfl rfl (Nat.le_of_ble_eq_true rfl) ?_
  refine sp_Pl_lay ho hT hR (fun σ1 hp F1 => ?_)
  show Wx g y_Tr_findLaw Z K 8 [vR 169, vR o, vU, vU] [] σ1
  refine x_aload_n (dat d_Tr_findLaw 4 rfl) rfl rfl ?_
  refine x_iconst (dat d_Tr_findLaw 5 rfl) (by decide) ?_
  refine x_iconst (dat d_Tr_findLaw 6 rfl) (by decide) ?_
  refine x_iconst (dat d_Tr_findLaw 7 rfl) (by decide) ?_
  refine x_iconst (dat d_Tr_findLaw 8 rfl) (by decide) ?_
  refine x_inv (As := [vI (-1), vI (-1), vI (-1), vI (-1)]) (dat d_Tr_findLaw 9 rfl) rfl c_Tr_keepFound l_Tr_77 (by decide) (rv_tr (by decide +kernel)) rfl rfl (Nat.le_of_ble_eq_true rfl) ?_
  refine sp_Tr_keepFound ?_
  show Wx g y_Tr_findLaw Z K 16 [vR 169, vR o, vU, vU] [] (up (up (up (up σ1 170 0 (-1)) 170 1 (-1)) 170 2 (-1)) 170 3 (-1))
  refine x_iconst (dat d_Tr_findLaw 10 rfl) (by decide) ?_
  refine x_istore_n (L' := [vR 169, vR o, vI 0, vU]) (dat d_Tr_findLaw 11 rfl) rfl (by decide) rfl rfl ?_
  refine lp Z 4 0 _ (cS (cfg t) 2) _ (by omega) ?_ (by rw [up_ni (by decide), up_ni (by decide), up_ni (by decide), up_s]; rfl) (fun w => absurd w (by decide)) (fun b hb => by rw [up_ne (by omega), up_ne (by omega), up_ne (by omega), up_ne (by omega)]; exact F1 b (by omega))
  rw [mS_self]
  exact hp.same (fun b _ _ => by rw [up_ne (by omega), up_ne (by omega), up_ne (by omega), up_ne (by omega)])
theorem sp_Tr_greatestNeed {g : xG} {K : Option MV → xS → Prop} {σ : xS} {o : Nat} {t : Int → Int} (ho : IsTw o) (hT : TownOk t) (hR : TownR σ o t) (k : ∀ (v : Int) (σ' : xS), FirstH (fun n => stv (mS (cfg t) 3 (9 - (n : Int))) = 0) 10 v → TrF σ' σ → K (some (vI (if v < 0 then -1 else 9 - v))) σ') : Mt g y_Tr_greatestNeed [vR 169, vR o] σ K := by
  have hC := cfg_ok hT
  have lp : ∀ (Z : xZ) (n i : Nat) (σ1 : xS) (w : Int), i + n = 10 → PlanR σ1 (mS (cfg t) 3 w) → (∀ j : Nat, j < i → ¬ stv (mS (cfg t) 3 (9 - (j : Int))) = 0) → TrF σ1 σ → Wx g y_Tr_greatestNeed Z K 11 [vR 169, vR o, vI (9 - (i : Int))] [] σ1 := by
    intro Z n
    induction n with
    | zero =>
      intro i σ1 w hn hp H F
      have e : i = 10 := by omega
      subst e
      refine x_iload_n (dat d_Tr_greatestNeed 6 rfl) rfl rfl ?_
      refine x_if_lt (tgt := 38) (dat d_Tr_greatestNeed 7 rfl) (by decide) (fun c_12 => ?_) (fun c_12 => (by omega))
      refine x_iconst (dat d_Tr_greatestNeed 19 rfl) (by decide) ?_
      refine x_iret (dat d_Tr_greatestNeed 20 rfl) rfl ?_
      exact k (-1) _ (Or.inl ⟨rfl, H⟩) F
    | succ n ih =>
      intro i σ1 w hn hp H F
      have hok := hC.need (v := 9 - (i : Int)) (by omega) (by omega)
      have hl := stv_bd hok
      refine x_iload_n (dat d_Tr_greatestNeed 6 rfl) rfl rfl ?_
      refine x_if_lt (tgt := 38) (dat d_Tr_greatestNeed 7 rfl) (by decide) (fun c_12 => (by omega)) (fun c_12 => ?_)
      refine x_aload_n (dat d_Tr_greatestNeed 8 rfl) rfl rfl ?_
      refine x_getr (r := 138) (dat d_Tr_greatestNeed 9 rfl) rfl f_Tr_15 (or_mk (by decide +kernel)) ?_
      refine x_iload_n (dat d_Tr_greatestNeed 10 rfl) rfl rfl ?_
      refine x_puti (ji := 3) (x := (9 - (i : Int))) (dat d_Tr_greatestNeed 11 rfl) rfl f_Tr_132w (oi_mk (by decide +kernel)) (fun h => absurd h (by decide)) (by decide) ?_
      refine x_aload_n (dat d_Tr_greatestNeed 12 rfl) rfl rfl ?_
      refine x_inv (As := []) (dat d_Tr_greatestNeed 13 rfl) rfl c_Tr_starvedByPlan l_Tr_59 (by decide) (rv_tr (by decide +kernel)) rfl rfl (Nat.le_of_ble_eq_true rfl) ?_
      refine sp_Tr_starvedByPlan hok (hp.set (Or.inl (Or.inr rfl))) (fun σ2 F2 => ?_)
      have Fx : TrF σ2 σ := fun b hb => by rw [F2 b (by omega), up_ne (by omega)]; exact F b hb
      have hp2 : PlanR σ2 (mS (cfg t) 3 (9 - (i : Int))) := (hp.set (v := 9 - (i : Int)) (Or.inl (Or.inr rfl))).same (fun b _ _ => F2 b (by omega))
      show Wx g y_Tr_greatestNeed Z K 27 [vR 169, vR o, vI (9 - (i : Int))] [vI (stv (mS (cfg t) 3 (9 - (i : Int))))] σ2
      refine x_if_ne (tgt := 32) (dat d_Tr_greatestNeed 14 rfl) (by decide) (fun c_27 => ?_) (fun c_27 => ?_)
      · refine x_iinc (v' := 9 - ((i + 1 : Nat) : Int)) (L' := [vR 169, vR o, vI (9 - ((i + 1 : Nat) : Int))]) (dat d_Tr_greatestNeed 17 rfl) rfl (by decide) rfl (by omega) (by omega) rfl ?_
        refine x_goto (tgt := 11) (dat d_Tr_greatestNeed 18 rfl) (by decide) ?_
        refine ih (i + 1) _ _ (by omega) hp2 (fun j q => ?_) Fx
        rcases Nat.lt_or_eq_of_le (Nat.le_of_lt_succ q) with q2 | q2
        · exact H j q2
        · subst q2
          exact c_27
      · refine x_iload_n (dat d_Tr_greatestNeed 15 rfl) rfl rfl ?_
        refine x_iret (dat d_Tr_greatestNeed 16 rfl) rfl ?_
        have := k (i : Int) _ (Or.inr ⟨i, by omega, rfl, c_27, H⟩) Fx
        rw [if_neg (by omega)] at this
        exact this
  refine x_enter 1 rfl rfl rfl (fun Z => ?_)
  show Wx g y_Tr_greatestNeed Z K 0 [vR 169, vR o, vU] [] σ
  refine x_aload_n (dat d_Tr_greatestNeed 0 rfl) rfl rfl ?_
  refine x_getr (r := 138) (dat d_Tr_greatestNeed 1 rfl) rfl f_Tr_15 (or_mk (by decide +kernel)) ?_
  refine x_aload_n (dat d_Tr_greatestNeed 2 rfl) rfl rfl ?_
  refine x_inv (As := [vR o]) (dat d_Tr_greatestNeed 3 rfl) rfl c_Pl_lay l_Tr_26 (by decide) (rv_pl (by decide +kernel)) rfl rfl (Nat.le_of_ble_eq_true rfl) ?_
  refine sp_Pl_lay ho hT hR (fun σ1 hp F1 => ?_)
  show Wx g y_Tr_greatestNeed Z K 8 [vR 169, vR o, vU] [] σ1
  refine x_bipush (dat d_Tr_greatestNeed 4 rfl) (by decide) (by decide) ?_
  refine x_istore_n (L' := [vR 169, vR o, vI 9]) (dat d_Tr_greatestNeed 5 rfl) rfl (by decide) rfl rfl ?_
  refine lp Z 10 0 _ (cS (cfg t) 3) (by omega) ?_ (fun j q => absurd q (Nat.not_lt_zero _)) (fun b hb => F1 b (by omega))
  rw [mS_self]
  exact hp
theorem sp_Tr_leastEvery {g : xG} {K : Option MV → xS → Prop} {σ : xS} {o : Nat} {t : Int → Int} (ho : IsTw o) (hT : TownOk t) (hR : TownR σ o t) (k : ∀ (v : Int) (σ' : xS), FirstH (fun n => stv (mS (cfg t) 4 ((n : Int) + 1)) = 0) 24 v → TrF σ' σ → K (some (vI (if v < 0 then -1 else v + 1))) σ') : Mt g y_Tr_leastEvery [vR 169, vR o] σ K := by
  have hC := cfg_ok hT
  have lp : ∀ (Z : xZ) (n i : Nat) (σ1 : xS) (w : Int), i + n = 24 → PlanR σ1 (mS (cfg t) 4 w) → (∀ j : Nat, j < i → ¬ stv (mS (cfg t) 4 ((j : Int) + 1)) = 0) → TrF σ1 σ → Wx g y_Tr_leastEvery Z K 10 [vR 169, vR o, vI ((i : Int) + 1)] [] σ1 := by
    intro Z n
    induction n with
    | zero =>
      intro i σ1 w hn hp H F
      have e : i = 24 := by omega
      subst e
      refine x_iload_n (dat d_Tr_leastEvery 6 rfl) rfl rfl ?_
      refine x_bipush (dat d_Tr_leastEvery 7 rfl) (by decide) (by decide) ?_
      refine x_icmp_gt (tgt := 39) (dat d_Tr_leastEvery 8 rfl) (by decide) (fun c_13 => ?_) (fun c_13 => (by omega))
      refine x_iconst (dat d_Tr_leastEvery 20 rfl) (by decide) ?_
      refine x_iret (dat d_Tr_leastEvery 21 rfl) rfl ?_
      exact k (-1) _ (Or.inl ⟨rfl, H⟩) F
    | succ n ih =>
      intro i σ1 w hn hp H F
      have hok := hC.every (v := (i : Int) + 1) (by omega) (by omega)
      have hl := stv_bd hok
      refine x_iload_n (dat d_Tr_leastEvery 6 rfl) rfl rfl ?_
      refine x_bipush (dat d_Tr_leastEvery 7 rfl) (by decide) (by decide) ?_
      refine x_icmp_gt (tgt := 39) (dat d_Tr_leastEvery 8 rfl) (by decide) (fun c_13 => (by omega)) (fun c_13 => ?_)
      refine x_aload_n (dat d_Tr_leastEvery 9 rfl) rfl rfl ?_
      refine x_getr (r := 138) (dat d_Tr_leastEvery 10 rfl) rfl f_Tr_15 (or_mk (by decide +kernel)) ?_
      refine x_iload_n (dat d_Tr_leastEvery 11 rfl) rfl rfl ?_
      refine x_puti (ji := 4) (x := ((i : Int) + 1)) (dat d_Tr_leastEvery 12 rfl) rfl f_Tr_135w (oi_mk (by decide +kernel)) (fun h => absurd h (by decide)) (by decide) ?_
      refine x_aload_n (dat d_Tr_leastEvery 13 rfl) rfl rfl ?_
      refine x_inv (As := []) (dat d_Tr_leastEvery 14 rfl) rfl c_Tr_starvedByPlan l_Tr_59 (by decide) (rv_tr (by decide +kernel)) rfl rfl (Nat.le_of_ble_eq_true rfl) ?_
      refine sp_Tr_starvedByPlan hok (hp.set (Or.inr rfl)) (fun σ2 F2 => ?_)
      have Fx : TrF σ2 σ := fun b hb => by rw [F2 b (by omega), up_ne (by omega)]; exact F b hb
      have hp2 : PlanR σ2 (mS (cfg t) 4 ((i : Int) + 1)) := (hp.set (v := (i : Int) + 1) (Or.inr rfl)).same (fun b _ _ => F2 b (by omega))
      show Wx g y_Tr_leastEvery Z K 28 [vR 169, vR o, vI ((i : Int) + 1)] [vI (stv (mS (cfg t) 4 ((i : Int) + 1)))] σ2
      refine x_if_ne (tgt := 33) (dat d_Tr_leastEvery 15 rfl) (by decide) (fun c_28 => ?_) (fun c_28 => ?_)
      · refine x_iinc (v' := ((i + 1 : Nat) : Int) + 1) (L' := [vR 169, vR o, vI (((i + 1 : Nat) : Int) + 1)]) (dat d_Tr_leastEvery 18 rfl) rfl (by decide) rfl (by omega) (by omega) rfl ?_
        refine x_goto (tgt := 10) (dat d_Tr_leastEvery 19 rfl) (by decide) ?_
        refine ih (i + 1) _ _ (by omega) hp2 (fun j q => ?_) Fx
        rcases Nat.lt_or_eq_of_le (Nat.le_of_lt_succ q) with q2 | q2
        · exact H j q2
        · subst q2
          exact c_28
      · refine x_iload_n (dat d_Tr_leastEvery 16 rfl) rfl rfl ?_
        refine x_iret (dat d_Tr_leastEvery 17 rfl) rfl ?_
        have := k (i : Int) _ (Or.inr ⟨i, by omega, rfl, c_28, H⟩) Fx
        rw [if_neg (by omega)] at this
        exact this
  refine x_enter 1 rfl rfl rfl (fun Z => ?_)
  show Wx g y_Tr_leastEvery Z K 0 [vR 169, vR o, vU] [] σ
  refine x_aload_n (dat d_Tr_leastEvery 0 rfl) rfl rfl ?_
  refine x_getr (r := 138) (dat d_Tr_leastEvery 1 rfl) rfl f_Tr_15 (or_mk (by decide +kernel)) ?_
  refine x_aload_n (dat d_Tr_leastEvery 2 rfl) rfl rfl ?_
  refine x_inv (As := [vR o]) (dat d_Tr_leastEvery 3 rfl) rfl c_Pl_lay l_Tr_26 (by decide) (rv_pl (by decide +kernel)) rfl rfl (Nat.le_of_ble_eq_true rfl) ?_
  refine sp_Pl_lay ho hT hR (fun σ1 hp F1 => ?_)
  show Wx g y_Tr_leastEvery Z K 8 [vR 169, vR o, vU] [] σ1
  refine x_iconst (dat d_Tr_leastEvery 4 rfl) (by decide) ?_
  refine x_istore_n (L' := [vR 169, vR o, vI 1]) (dat d_Tr_leastEvery 5 rfl) rfl (by decide) rfl rfl ?_
  refine lp Z 24 0 _ (cS (cfg t) 4) (by omega) ?_ (fun j q => absurd q (Nat.not_lt_zero _)) (fun b hb => F1 b (by omega))
  rw [mS_self]
  exact hp
theorem mLoaf_mLoaf (C : Cf) (p h v p2 h2 v2 : Int) : mLoaf (mLoaf C p h v) p2 h2 v2 = mLoaf C p2 h2 v2 := by
  unfold mLoaf mS
  have : ∀ j : Int, (if j = 7 then v2 else if j = 6 then h2 else if j = 5 then p2 else if j = 7 then v else if j = 6 then h else if j = 5 then p else cS C j) = (if j = 7 then v2 else if j = 6 then h2 else if j = 5 then p2 else cS C j) := by
    intro j
    by_cases q7 : j = 7
    · simp [q7]
    · by_cases q6 : j = 6
      · simp [q6]
      · by_cases q5 : j = 5
        · simp [q5]
        · simp [q5, q6, q7]
  exact congrArg (fun f => (f, C.2)) (funext this)
/-- no bread let in is no bread let in -/
theorem loaf_0 (C : Cf) (hC : CfOk C) (hn : cS C 6 = -1) (p : Int) : stv (mLoaf C p 0 0) = stv C := by
  refine Agr.sV (C := C) ⟨fun i hi => ?_, rfl, rfl, rfl, fun h bd _ => ?_, fun h al a b _ _ _ _ => rfl⟩ hC.1
  · show (if i = 7 then (0 : Int) else if i = 6 then 0 else if i = 5 then p else cS C i) = cS C i
    rw [if_neg (by omega), if_neg (by omega), if_neg (by omega)]
  · have e1 : lof C h bd = bd := by
      unfold lof
      rw [hn, if_neg (fun w => by omega)]
    rw [e1]
    unfold lof
    split
    · funext q
      split
      · show bd q + 0 = bd q
        omega
      · rfl
    · rfl
theorem sp_Tr_leastAid {g : xG} {K : Option MV → xS → Prop} {σ : xS} {o : Nat} {t : Int → Int} {p : Int} (ho : IsTw o) (hT : TownOk t) (hR : TownR σ o t) (p0 : 0 ≤ p) (p1 : p < t 6) (k : ∀ (v : Int) (σ' : xS), FirstH (fun n => stv (mLoaf (cfg t) p 0 n) = 0) 31 v → TrF σ' σ → K (some (vI v)) σ') : Mt g y_Tr_leastAid [vR 169, vR o, vI p] σ K := by
  have hC := cfg_ok hT
  have hH := cH_eq hC
  have z0 := loaf_0 (cfg t) hC rfl p
  have lp : ∀ (Z : xZ) (n i : Nat) (σ1 : xS) (C1 : Cf), i + n = 31 → 1 ≤ i → PlanR σ1 C1 → (∀ h v : Int, mLoaf C1 p h v = mLoaf (cfg t) p h v) → (∀ j : Nat, j < i → ¬ stv (mLoaf (cfg t) p 0 j) = 0) → TrF σ1 σ → Wx g y_Tr_leastAid Z K 19 [vR 169, vR o, vI p, vI (i : Int)] [] σ1 := by
    intro Z n
    induction n with
    | zero =>
      intro i σ1 C1 hn hi hp hc H F
      have e : i = 31 := by omega
      subst e
      refine x_iload_n (dat d_Tr_leastAid 11 rfl) rfl rfl ?_
      refine x_bipush (dat d_Tr_leastAid 12 rfl) (by decide) (by decide) ?_
      refine x_icmp_gt (tgt := 50) (dat d_Tr_leastAid 13 rfl) (by decide) (fun c_22 => ?_) (fun c_22 => (by omega))
      refine x_iconst (dat d_Tr_leastAid 27 rfl) (by decide) ?_
      refine x_iret (dat d_Tr_leastAid 28 rfl) rfl ?_
      exact k _ _ (Or.inl ⟨rfl, H⟩) F
    | succ n ih =>
      intro i σ1 C1 hn hi hp hc H F
      have hok := hC.loaf p 0 (v := (i : Int)) (by omega) (by omega)
      have hl := stv_bd hok
      refine x_iload_n (dat d_Tr_leastAid 11 rfl) rfl rfl ?_
      refine x_bipush (dat d_Tr_leastAid 12 rfl) (by decide) (by decide) ?_
      refine x_icmp_gt (tgt := 50) (dat d_Tr_leastAid 13 rfl) (by decide) (fun c_22 => (by omega)) (fun c_22 => ?_)
      refine x_aload_n (dat d_Tr_leastAid 14 rfl) rfl rfl ?_
      refine x_getr (r := 138) (dat d_Tr_leastAid 15 rfl) rfl f_Tr_15 (or_mk (by decide +kernel)) ?_
      refine x_iload_n (dat d_Tr_leastAid 16 rfl) rfl rfl ?_
      refine x_iconst (dat d_Tr_leastAid 17 rfl) (by decide) ?_
      refine x_iload_n (dat d_Tr_leastAid 18 rfl) rfl rfl ?_
      refine x_inv (As := [vI p, vI 0, vI (i : Int)]) (dat d_Tr_leastAid 19 rfl) rfl c_Pl_letIn l_Tr_129 (by decide) (rv_pl (by decide +kernel)) rfl rfl (Nat.le_of_ble_eq_true rfl) ?_
      refine sp_Pl_letIn hp (fun σ2 hp2 F2 => ?_)
      rw [hc] at hp2
      show Wx g y_Tr_leastAid Z K 35 [vR 169, vR o, vI p, vI (i : Int)] [] σ2
      refine x_aload_n (dat d_Tr_leastAid 20 rfl) rfl rfl ?_
      refine x_inv (As := []) (dat d_Tr_leastAid 21 rfl) rfl c_Tr_starvedByPlan l_Tr_59 (by decide) (rv_tr (by decide +kernel)) rfl rfl (Nat.le_of_ble_eq_true rfl) ?_
      refine sp_Tr_starvedByPlan hok hp2 (fun σ3 F3 => ?_)
      have Fx : TrF σ3 σ := fun b hb => by rw [F3 b (by omega), F2 b (by omega)]; exact F b hb
      have hp3 := hp2.same (σ' := σ3) (fun b _ _ => F3 b (by omega))
      show Wx g y_Tr_leastAid Z K 39 [vR 169, vR o, vI p, vI (i : Int)] [vI (stv (mLoaf (cfg t) p 0 (i : Int)))] σ3
      refine x_if_ne (tgt := 44) (dat d_Tr_leastAid 22 rfl) (by decide) (fun c_39 => ?_) (fun c_39 => ?_)
      · refine x_iinc (v' := ((i + 1 : Nat) : Int)) (L' := [vR 169, vR o, vI p, vI ((i + 1 : Nat) : Int)]) (dat d_Tr_leastAid 25 rfl) rfl (by decide) rfl (by omega) (by omega) rfl ?_
        refine x_goto (tgt := 19) (dat d_Tr_leastAid 26 rfl) (by decide) ?_
        refine ih (i + 1) _ _ (by omega) (by omega) hp3 (fun _ _ => mLoaf_mLoaf _ _ _ _ _ _ _) (fun j q => ?_) Fx
        rcases Nat.lt_or_eq_of_le (Nat.le_of_lt_succ q) with q2 | q2
        · exact H j q2
        · subst q2
          exact c_39
      · refine x_iload_n (dat d_Tr_leastAid 23 rfl) rfl rfl ?_
        refine x_iret (dat d_Tr_leastAid 24 rfl) rfl ?_
        exact k _ _ (Or.inr ⟨i, by omega, rfl, c_39, H⟩) Fx
  refine x_enter 1 rfl rfl rfl (fun Z => ?_)
  show Wx g y_Tr_leastAid Z K 0 [vR 169, vR o, vI p, vU] [] σ
  refine x_aload_n (dat d_Tr_leastAid 0 rfl) rfl rfl ?_
  refine x_aload_n (dat d_Tr_leastAid 1 rfl) rfl rfl ?_
  refine x_inv (As := [vR o]) (dat d_Tr_leastAid 2 rfl) rfl c_Tr_begin l_Tr_74 (by decide) (rv_tr (by decide +kernel)) rfl rfl (Nat.le_of_ble_eq_true rfl) ?_
  refine sp_Tr_begin ho hT hR (fun σ1 hp R F1 => ?_)
  show Wx g y_Tr_leastAid Z K 5 [vR 169, vR o, vI p, vU] [] σ1
  refine x_aload_n (dat d_Tr_leastAid 3 rfl) rfl rfl ?_
  refine x_getr (r := 143) (dat d_Tr_leastAid 4 rfl) rfl f_Tr_19 (or_mk (by decide +kernel)) ?_
  refine x_inv (As := []) (dat d_Tr_leastAid 5 rfl) rfl c_Ru_starved l_Tr_38 (by decide) (rv_ru (by decide +kernel)) rfl rfl (Nat.le_of_ble_eq_true rfl) ?_
  refine sp_Ru_starved ru_143 hC R (by omega) ?_
  show Wx g y_Tr_leastAid Z K 12 [vR 169, vR o, vI p, vU] [vI (stv (cfg t))] σ1
  refine x_if_ne (tgt := 17) (dat d_Tr_leastAid 6 rfl) (by decide) (fun c_12 => ?_) (fun c_12 => ?_)
  · refine x_iconst (dat d_Tr_leastAid 9 rfl) (by decide) ?_
    refine x_istore_n (L' := [vR 169, vR o, vI p, vI 1]) (dat d_Tr_leastAid 10 rfl) rfl (by decide) rfl rfl ?_
    refine lp Z 30 1 _ _ (by omega) (by omega) hp (fun _ _ => rfl) (fun j q => ?_) (fun b hb => F1 b (by omega))
    have e : j = 0 := by omega
    subst e
    intro w
    exact c_12 (z0.symm.trans w)
  · refine x_iconst (dat d_Tr_leastAid 7 rfl) (by decide) ?_
    refine x_iret (dat d_Tr_leastAid 8 rfl) rfl ?_
    exact k 0 _ (Or.inr ⟨0, by omega, rfl, z0.trans c_12, fun h2 q => absurd q (Nat.not_lt_zero _)⟩) (fun b hb => F1 b (by omega))
