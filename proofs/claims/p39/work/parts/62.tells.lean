/-! the class's calls: what the texts tell, what a run is -/
def townA (t : Int → Int) (w : Int) : Int := if 0 ≤ w ∧ w ≤ 7 then t w else if 10 ≤ w ∧ w < 10 + t 7 then t (8 + 2 * (w - 10)) else if 20 ≤ w ∧ w < 20 + t 7 then t (9 + 2 * (w - 20)) else -1
def personA (t : Int → Int) (p w : Int) : Int := if ¬ (0 ≤ p ∧ p < t 6) then -1 else if 0 ≤ w ∧ w ≤ 4 then t (20 + 17 * p + w) else if 10 ≤ w ∧ w < 10 + t (24 + 17 * p) then t (25 + 17 * p + (w - 10)) else -1
def noteA (b : Int → Int) (k w : Int) : Int := if k = -1 ∧ w = 0 then b 0 else if ¬ (0 ≤ k ∧ k < b 0) then -2 else if 0 ≤ w ∧ w ≤ 2 then b (1 + 3 * k + w) else -2
theorem sp_Sb_runOf {g : xG} {K : Option MV → xS → Prop} {σ : xS} {o : Nat} {t : Int → Int} (ho : IsTw o) (hT : TownOk t) (hR : TownR σ o t) (k : ∀ σ' : xS, PlanR σ' (cfg t) → RunS σ' 143 (cfg t) 0 (cH (cfg t)) → (∀ o : Nat, o < 138 ∨ 155 < o → σ' o = σ o) → K (some (vR 143)) σ') : Mt g y_Sb_runOf [vR 0, vR o] σ K := by
  have hu := ru_143
  have hC := cfg_ok hT
  refine x_enter 0 rfl rfl rfl (fun Z => ?_)
  show Wx g y_Sb_runOf Z K 0 [vR 0, vR o] [] σ
  refine x_aload_n (dat d_Sb_runOf 0 rfl) rfl rfl ?_
  refine x_getr (r := 138) (dat d_Sb_runOf 1 rfl) rfl f_Sb_34 (or_mk (by decide +kernel)) ?_
  refine x_aload_n (dat d_Sb_runOf 2 rfl) rfl rfl ?_
  refine x_inv (As := [vR o]) (dat d_Sb_runOf 3 rfl) rfl c_Pl_lay l_Sb_206 (by decide) (rv_pl (by decide +kernel)) rfl rfl (Nat.le_of_ble_eq_true rfl) ?_
  refine sp_Pl_lay ho hT hR (fun σ1 hp F1 => ?_)
  show Wx g y_Sb_runOf Z K 8 [vR 0, vR o] [] σ1
  refine x_aload_n (dat d_Sb_runOf 4 rfl) rfl rfl ?_
  refine x_getr (r := 143) (dat d_Sb_runOf 5 rfl) rfl f_Sb_41 (or_mk (by decide +kernel)) ?_
  refine x_aload_n (dat d_Sb_runOf 6 rfl) rfl rfl ?_
  refine x_getr (r := 138) (dat d_Sb_runOf 7 rfl) rfl f_Sb_34 (or_mk (by decide +kernel)) ?_
  refine x_null (dat d_Sb_runOf 8 rfl) ?_
  refine x_iconst (dat d_Sb_runOf 9 rfl) (by decide) ?_
  refine x_inv (As := [vR 138, vN, vI 0]) (dat d_Sb_runOf 10 rfl) rfl c_Ru_go l_Sb_210 (by decide) (rv_ru (by decide +kernel)) rfl rfl (Nat.le_of_ble_eq_true rfl) ?_
  refine sp_Ru_go hu hC hp (fun σ2 R F2 => ?_)
  show Wx g y_Sb_runOf Z K 21 [vR 0, vR o] [] σ2
  refine x_aload_n (dat d_Sb_runOf 11 rfl) rfl rfl ?_
  refine x_getr (r := 143) (dat d_Sb_runOf 12 rfl) rfl f_Sb_41 (or_mk (by decide +kernel)) ?_
  refine x_aret (dat d_Sb_runOf 13 rfl) rfl ?_
  exact k σ2 (hp.same (fun q _ _ => F2 q (by omega))) R (fun q hq => by rw [F2 q (by omega), F1 q (by omega)])
