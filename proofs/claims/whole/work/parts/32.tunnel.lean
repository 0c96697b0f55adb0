/-! searches that begin with a run: the tunnel, the wedding, the miser -/
theorem RunS.same {σ σ' : xS} {u : Nat} {C : Cf} {f N : Nat} (R : RunS σ u C f N) (e : ∀ o : Nat, u ≤ o → o ≤ u + 12 → σ' o = σ o) : RunS σ' u C f N := by
  obtain ⟨R1, R2, R3, R4, R5⟩ := R
  refine ⟨?_, ?_, ?_, R4.same (fun o q0 q1 => e o (by omega) (by omega)), fun h h0 h1 => ?_⟩
  · rw [e u (by omega) (by omega)]; exact R1
  · rw [e (u + 12) (by omega) (by omega)]; exact R2
  · rw [e u (by omega) (by omega)]; exact R3
  · have := R5 h h0 h1
    unfold HourR at this ⊢
    rw [e (u + 6) (by omega) (by omega), e (u + 9) (by omega) (by omega), e (u + 7) (by omega) (by omega), e (u + 8) (by omega) (by omega), e (u + 10) (by omega) (by omega), e (u + 11) (by omega) (by omega), e (u + 5) (by omega) (by omega)]
    exact this
theorem base_hE {σ : xS} {e : Nat} {C C' : Cf} {f N : Nat} (hC : CfOk C) (R : RunS σ e C 0 N) (A : Agr C C' f) (hf : f ≤ N) : 1 ≤ f → (∀ p : Int, 0 ≤ p → p < cS C' 0 → σ (e + 6) (8 * ((f : Int) - 1) + p) = (rst C' f).1 p) ∧ Msk 8 (σ (e + 9) ((f : Int) - 1)) (rst C' f).2 := by
  intro h1
  rw [A.rS hC.1 f (Nat.le_refl f), A.1 0 (by decide), show (f : Int) - 1 = ((f - 1 : Nat) : Int) by omega]
  have h2 := R.hour (h := f - 1) (by omega) (by omega)
  rw [HourR, show f - 1 + 1 = f by omega] at h2
  exact ⟨h2.1, h2.2.1⟩
theorem Agr.loaf {C : Cf} (hn : cS C 6 = -1) (p n : Int) (f : Nat) : Agr C (mLoaf C p f n) f := by
  refine ⟨fun i hi => ?_, rfl, rfl, rfl, fun h bd hh => ?_, fun h al a b _ _ _ _ => rfl⟩
  · show (if i = 7 then n else if i = 6 then (f : Int) else if i = 5 then p else cS C i) = cS C i
    rw [if_neg (by omega), if_neg (by omega), if_neg (by omega)]
  · have e1 : lof C h bd = bd := by
      unfold lof
      rw [hn, if_neg (fun w => by omega)]
    rw [e1]
    unfold lof
    have : cS (mLoaf C p f n) 6 = (f : Int) := rfl
    rw [this, if_neg (fun w => by omega)]
theorem shk_wh {C : Cf} {f : Int → Int → Int} {h : Int} {al : Int → Bool} {a b : Int} (ea : f h a = cWh C h a) (eb : f h b = cWh C h b) : shk (mWh C f) h al a b = shk C h al a b := by
  show (al a && al b && cOp C a b && decide (f h a = f h b)) = _
  rw [ea, eb]
  rfl
theorem Agr.wh {C : Cf} {f : Int → Int → Int} {n : Nat} (e : ∀ (h : Nat) (p : Int), h < n → f h p = cWh C h p) : Agr C (mWh C f) n := ⟨fun _ _ => rfl, rfl, rfl, rfl, fun _ _ _ => rfl, fun h _ a b hh _ _ _ => shk_wh (e h a hh) (e h b hh)⟩
def scanMax (f : Nat → Int) : Nat → Int × Int
  | 0 => (-1, 0)
  | n + 1 => if (scanMax f n).1 = -1 ∨ (scanMax f n).2 < f n then ((n : Int), f n) else scanMax f n
theorem scanMax_in (f : Nat → Int) : ∀ n : Nat, (n = 0 ∧ (scanMax f n).1 = -1) ∨ (1 ≤ n ∧ 0 ≤ (scanMax f n).1 ∧ (scanMax f n).1 < n)
  | 0 => Or.inl ⟨rfl, rfl⟩
  | n + 1 => by
    have := scanMax_in f n
    simp only [scanMax]
    split
    · right; simp; omega
    · omega
def scanTop (f : Nat → Int) : Nat → Int × Int
  | 0 => (-1, 0)
  | n + 1 => if (scanTop f n).2 < f n then ((n : Int), f n) else scanTop f n
theorem up4 (σ : xS) (k : Nat) (v0 v1 v2 v3 : Int) : up (up (up (up σ k 0 v0) k 1 v1) k 2 v2) k 3 v3 k 0 = v0 ∧ up (up (up (up σ k 0 v0) k 1 v1) k 2 v2) k 3 v3 k 1 = v1 ∧ up (up (up (up σ k 0 v0) k 1 v1) k 2 v2) k 3 v3 k 2 = v2 ∧ up (up (up (up σ k 0 v0) k 1 v1) k 2 v2) k 3 v3 k 3 = v3 ∧ ∀ o : Nat, o ≠ k → up (up (up (up σ k 0 v0) k 1 v1) k 2 v2) k 3 v3 o = σ o := by
  refine ⟨?_, ?_, ?_, ?_, fun o h => ?_⟩
  · rw [up_ni (by decide), up_ni (by decide), up_ni (by decide), up_s]
  · rw [up_ni (by decide), up_ni (by decide), up_s]
  · rw [up_ni (by decide), up_s]
  · rw [up_s]
  · rw [up_ne h, up_ne h, up_ne h, up_ne h]
def tunF (t : Int → Int) (h n : Int) (p : Nat) : Int := stv (cfg t) - stv (mLoaf (cfg t) p h n)
theorem sp_Tr_findTunnel {g : xG} {K : Option MV → xS → Prop} {σ : xS} {o : Nat} {t : Int → Int} {h : Nat} {nn : Int} (ho : IsTw o) (hT : TownOk t) (hR : TownR σ o t) (hh : (h : Int) < t 3) (n0 : 0 ≤ nn) (n1 : nn ≤ 30) (k : ∀ σ' : xS, σ' 170 0 = (scanMax (tunF t h nn) (t 6).toNat).1 → (1 ≤ t 6 → σ' 170 1 = (scanMax (tunF t h nn) (t 6).toNat).2) → TrF σ' σ → K none σ') : Mt g y_Tr_findTunnel [vR 169, vR o, vI (h : Int), vI nn] σ K := by
  have hC := cfg_ok hT
  have hH := cH_eq hC
  have h6 := hT.2.2.2.2.2.2.1
  have e3 : cS (cfg t) 1 = t 3 := rfl
  have lp : ∀ (Z : xZ) (n i : Nat) (σ1 : xS) (C1 : Cf) (w5 : MV), (i : Int) + n = t 6 → PlanR σ1 C1 → cS C1 0 = t 6 → (∀ p v : Int, mLoaf C1 p h v = mLoaf (cfg t) p h v) → RunS σ1 143 (cfg t) 0 (cH (cfg t)) → σ1 170 0 = (scanMax (tunF t h nn) i).1 → (1 ≤ i → σ1 170 1 = (scanMax (tunF t h nn) i).2) → TrF σ1 σ → Wx g y_Tr_findTunnel Z K 16 [vR 169, vR o, vI (h : Int), vI nn, vI (i : Int), w5] [] σ1 := by
    intro Z n
    induction n with
    | zero =>
      intro i σ1 C1 w5 hn hp hc0 hc R f0 f1 F
      have e : i = (t 6).toNat := by omega
      subst e
      have e0 : σ1 138 0 = t 6 := by rw [← hc0]; exact hp.1
      refine x_iload (dat d_Tr_findTunnel 11 rfl) rfl ?_
      refine x_aload_n (dat d_Tr_findTunnel 12 rfl) rfl rfl ?_
      refine x_getr (r := 138) (dat d_Tr_findTunnel 13 rfl) rfl f_Tr_15 (or_mk (by decide +kernel)) ?_
      refine x_geti (ji := 0) (v := t 6) (dat d_Tr_findTunnel 14 rfl) rfl f_Tr_52 (oi_mk (by decide +kernel)) (e0) ?_
      refine x_icmp_ge (tgt := 109) (dat d_Tr_findTunnel 15 rfl) (by decide) (fun c_25 => ?_) (fun c_25 => (by omega))
      refine x_ret (dat d_Tr_findTunnel 58 rfl) rfl ?_
      exact k _ f0 (fun w => f1 (by omega)) F
    | succ n ih =>
      intro i σ1 C1 w5 hn hp hc0 hc R f0 f1 F
      have e0 : σ1 138 0 = t 6 := by rw [← hc0]; exact hp.1
      have hok := hC.loaf (i : Int) (h : Int) n0 n1
      have hb0 := stv_bd hC
      have hb1 := stv_bd hok
      have hs := scanMax_in (tunF t h nn) i
      have st : scanMax (tunF t h nn) (i + 1) = if (scanMax (tunF t h nn) i).1 = -1 ∨ (scanMax (tunF t h nn) i).2 < tunF t h nn i then ((i : Int), tunF t h nn i) else scanMax (tunF t h nn) i := rfl
      have hf : tunF t h nn i = stv (cfg t) - stv (mLoaf (cfg t) i h nn) := rfl
      have nx := fun σ' C1' w5' => ih (i + 1) σ' C1' w5' (by omega)
      generalize scanMax (tunF t h nn) i = q at hs st f0 f1
      refine x_iload (dat d_Tr_findTunnel 11 rfl) rfl ?_
      refine x_aload_n (dat d_Tr_findTunnel 12 rfl) rfl rfl ?_
      refine x_getr (r := 138) (dat d_Tr_findTunnel 13 rfl) rfl f_Tr_15 (or_mk (by decide +kernel)) ?_
      refine x_geti (ji := 0) (v := t 6) (dat d_Tr_findTunnel 14 rfl) rfl f_Tr_52 (oi_mk (by decide +kernel)) (e0) ?_
      refine x_icmp_ge (tgt := 109) (dat d_Tr_findTunnel 15 rfl) (by decide) (fun c_25 => (by omega)) (fun c_25 => ?_)
      refine x_aload_n (dat d_Tr_findTunnel 16 rfl) rfl rfl ?_
      refine x_getr (r := 138) (dat d_Tr_findTunnel 17 rfl) rfl f_Tr_15 (or_mk (by decide +kernel)) ?_
      refine x_iload (dat d_Tr_findTunnel 18 rfl) rfl ?_
      refine x_iload_n (dat d_Tr_findTunnel 19 rfl) rfl rfl ?_
      refine x_iload_n (dat d_Tr_findTunnel 20 rfl) rfl rfl ?_
      refine x_inv (As := [vI (i : Int), vI (h : Int), vI nn]) (dat d_Tr_findTunnel 21 rfl) rfl c_Pl_letIn l_Tr_129 (by decide) (rv_pl (by decide +kernel)) rfl rfl (Nat.le_of_ble_eq_true rfl) ?_
      refine sp_Pl_letIn hp (fun σ2 hp2 F2 => ?_)
      rw [hc] at hp2
      have R2 : RunS σ2 143 (cfg t) 0 (cH (cfg t)) := R.same (fun b _ _ => F2 b (by omega))
      show Wx g y_Tr_findTunnel Z K 39 [vR 169, vR o, vI (h : Int), vI nn, vI (i : Int), w5] [] σ2
      refine x_aload_n (dat d_Tr_findTunnel 22 rfl) rfl rfl ?_
      refine x_getr (r := 156) (dat d_Tr_findTunnel 23 rfl) rfl f_Tr_23 (or_mk (by decide +kernel)) ?_
      refine x_aload_n (dat d_Tr_findTunnel 24 rfl) rfl rfl ?_
      refine x_getr (r := 138) (dat d_Tr_findTunnel 25 rfl) rfl f_Tr_15 (or_mk (by decide +kernel)) ?_
      refine x_aload_n (dat d_Tr_findTunnel 26 rfl) rfl rfl ?_
      refine x_getr (r := 143) (dat d_Tr_findTunnel 27 rfl) rfl f_Tr_19 (or_mk (by decide +kernel)) ?_
      refine x_iload_n (dat d_Tr_findTunnel 28 rfl) rfl rfl ?_
      refine x_inv (As := [vR 138, vR 143, vI (h : Int)]) (dat d_Tr_findTunnel 29 rfl) rfl c_Ru_go l_Tr_32 (by decide) (rv_ru (by decide +kernel)) rfl rfl (Nat.le_of_ble_eq_true rfl) ?_
      refine sp_Ru_goF ru_156 ru_143 (by decide) hok hp2 hh (base_hE hC R2 (Agr.loaf rfl (i : Int) nn h) (by omega)) (fun σ3 R3 F3 => ?_)
      have R4 := R2.same (σ' := σ3) (fun b _ _ => F3 b (by omega))
      have hp3 := hp2.same (σ' := σ3) (fun b _ _ => F3 b (by omega))
      have g0 : σ3 170 0 = q.1 := by rw [F3 170 (by omega), F2 170 (by decide)]; exact f0
      have g1 : 1 ≤ i → σ3 170 1 = q.2 := fun w => by rw [F3 170 (by omega), F2 170 (by decide)]; exact f1 w
      have Fx : TrF σ3 σ := fun b hb => by rw [F3 b (by omega), F2 b (by omega)]; exact F b hb
      show Wx g y_Tr_findTunnel Z K 55 [vR 169, vR o, vI (h : Int), vI nn, vI (i : Int), w5] [] σ3
      refine x_aload_n (dat d_Tr_findTunnel 30 rfl) rfl rfl ?_
      refine x_getr (r := 143) (dat d_Tr_findTunnel 31 rfl) rfl f_Tr_19 (or_mk (by decide +kernel)) ?_
      refine x_inv (As := []) (dat d_Tr_findTunnel 32 rfl) rfl c_Ru_starved l_Tr_38 (by decide) (rv_ru (by decide +kernel)) rfl rfl (Nat.le_of_ble_eq_true rfl) ?_
      refine sp_Ru_starved ru_143 hC R4 (by omega) ?_
      show Wx g y_Tr_findTunnel Z K 62 [vR 169, vR o, vI (h : Int), vI nn, vI (i : Int), w5] [vI (stv (cfg t))] σ3
      refine x_aload_n (dat d_Tr_findTunnel 33 rfl) rfl rfl ?_
      refine x_getr (r := 156) (dat d_Tr_findTunnel 34 rfl) rfl f_Tr_23 (or_mk (by decide +kernel)) ?_
      refine x_inv (As := []) (dat d_Tr_findTunnel 35 rfl) rfl c_Ru_starved l_Tr_38 (by decide) (rv_ru (by decide +kernel)) rfl rfl (Nat.le_of_ble_eq_true rfl) ?_
      refine sp_Ru_starved (f := h) ru_156 hok R3 (by show h < (t 3).toNat; omega) ?_
      show Wx g y_Tr_findTunnel Z K 69 [vR 169, vR o, vI (h : Int), vI nn, vI (i : Int), w5] [vI (stv (mLoaf (cfg t) i h nn)), vI (stv (cfg t))] σ3
      refine x_isub (v := tunF t h nn i) (dat d_Tr_findTunnel 36 rfl) (by rfl) (by omega) ?_
      refine x_istore (L' := [vR 169, vR o, vI (h : Int), vI nn, vI (i : Int), vI (tunF t h nn i)]) (dat d_Tr_findTunnel 37 rfl) (by decide) rfl rfl ?_
      refine x_aload_n (dat d_Tr_findTunnel 38 rfl) rfl rfl ?_
      refine x_getr (r := 170) (dat d_Tr_findTunnel 39 rfl) rfl f_Tr_9 (or_mk (by decide +kernel)) ?_
      refine x_iconst (dat d_Tr_findTunnel 40 rfl) (by decide) ?_
      refine x_iald (n := 4) (v := q.1) (dat d_Tr_findTunnel 41 rfl) (ai_mk (by decide +kernel)) (by omega) (by omega) (g0) ?_
      refine x_iconst (dat d_Tr_findTunnel 42 rfl) (by decide) ?_
      refine x_icmp_eq (tgt := 93) (dat d_Tr_findTunnel 43 rfl) (by decide) (fun c_79 => ?_) (fun c_79 => ?_)
      · refine x_aload_n (dat d_Tr_findTunnel 50 rfl) rfl rfl ?_
        refine x_iload (dat d_Tr_findTunnel 51 rfl) rfl ?_
        refine x_iload (dat d_Tr_findTunnel 52 rfl) rfl ?_
        refine x_iconst (dat d_Tr_findTunnel 53 rfl) (by decide) ?_
        refine x_iconst (dat d_Tr_findTunnel 54 rfl) (by decide) ?_
        refine x_inv (As := [vI (i : Int), vI (tunF t h nn i), vI (-1), vI (-1)]) (dat d_Tr_findTunnel 55 rfl) rfl c_Tr_keepFound l_Tr_77 (by decide) (rv_tr (by decide +kernel)) rfl rfl (Nat.le_of_ble_eq_true rfl) ?_
        refine sp_Tr_keepFound ?_
        have u4 := up4 σ3 170 i (tunF t h nn i) (-1) (-1)
        show Wx g y_Tr_findTunnel Z K 103 [vR 169, vR o, vI (h : Int), vI nn, vI (i : Int), vI (tunF t h nn i)] [] (up (up (up (up σ3 170 0 (i : Int)) 170 1 (tunF t h nn i)) 170 2 (-1)) 170 3 (-1))
        refine x_iinc (v' := ((i + 1 : Nat) : Int)) (L' := [vR 169, vR o, vI (h : Int), vI nn, vI ((i + 1 : Nat) : Int), vI (tunF t h nn i)]) (dat d_Tr_findTunnel 56 rfl) rfl (by decide) rfl (by omega) (by omega) rfl ?_
        refine x_goto (tgt := 16) (dat d_Tr_findTunnel 57 rfl) (by decide) ?_
        first
        | (rw [if_pos (by omega)] at st
           exact nx _ _ _ (hp3.same (fun b _ _ => u4.2.2.2.2 b (by omega))) rfl (fun _ _ => mLoaf_mLoaf _ _ _ _ _ _ _) (R4.same (fun b _ _ => u4.2.2.2.2 b (by omega))) (by rw [st]; exact u4.1) (fun _ => by rw [st]; exact u4.2.1) (fun b hb => by rw [u4.2.2.2.2 b (by omega)]; exact Fx b hb))
        | (rw [if_neg (by have := g1 (by omega); omega)] at st
           exact nx _ _ _ hp3 rfl (fun _ _ => mLoaf_mLoaf _ _ _ _ _ _ _) R4 (by rw [st, g0]) (fun _ => by rw [st, g1 (by omega)]) Fx)
      · refine x_iload (dat d_Tr_findTunnel 44 rfl) rfl ?_
        refine x_aload_n (dat d_Tr_findTunnel 45 rfl) rfl rfl ?_
        refine x_getr (r := 170) (dat d_Tr_findTunnel 46 rfl) rfl f_Tr_9 (or_mk (by decide +kernel)) ?_
        refine x_iconst (dat d_Tr_findTunnel 47 rfl) (by decide) ?_
        refine x_iald (n := 4) (v := σ3 170 1) (dat d_Tr_findTunnel 48 rfl) (ai_mk (by decide +kernel)) (by omega) (by omega) rfl ?_
        refine x_icmp_le (tgt := 103) (dat d_Tr_findTunnel 49 rfl) (by decide) (fun c_90 => ?_) (fun c_90 => ?_)
        · refine x_iinc (v' := ((i + 1 : Nat) : Int)) (L' := [vR 169, vR o, vI (h : Int), vI nn, vI ((i + 1 : Nat) : Int), vI (tunF t h nn i)]) (dat d_Tr_findTunnel 56 rfl) rfl (by decide) rfl (by omega) (by omega) rfl ?_
          refine x_goto (tgt := 16) (dat d_Tr_findTunnel 57 rfl) (by decide) ?_
          first
          | (rw [if_pos (by omega)] at st
             exact nx _ _ _ (hp3.same (fun b _ _ => u4.2.2.2.2 b (by omega))) rfl (fun _ _ => mLoaf_mLoaf _ _ _ _ _ _ _) (R4.same (fun b _ _ => u4.2.2.2.2 b (by omega))) (by rw [st]; exact u4.1) (fun _ => by rw [st]; exact u4.2.1) (fun b hb => by rw [u4.2.2.2.2 b (by omega)]; exact Fx b hb))
          | (rw [if_neg (by have := g1 (by omega); omega)] at st
             exact nx _ _ _ hp3 rfl (fun _ _ => mLoaf_mLoaf _ _ _ _ _ _ _) R4 (by rw [st, g0]) (fun _ => by rw [st, g1 (by omega)]) Fx)
        · refine x_aload_n (dat d_Tr_findTunnel 50 rfl) rfl rfl ?_
          refine x_iload (dat d_Tr_findTunnel 51 rfl) rfl ?_
          refine x_iload (dat d_Tr_findTunnel 52 rfl) rfl ?_
          refine x_iconst (dat d_Tr_findTunnel 53 rfl) (by decide) ?_
          refine x_iconst (dat d_Tr_findTunnel 54 rfl) (by decide) ?_
          refine x_inv (As := [vI (i : Int), vI (tunF t h nn i), vI (-1), vI (-1)]) (dat d_Tr_findTunnel 55 rfl) rfl c_Tr_keepFound l_Tr_77 (by decide) (rv_tr (by decide +kernel)) rfl rfl (Nat.le_of_ble_eq_true rfl) ?_
          refine sp_Tr_keepFound ?_
          have u4 := up4 σ3 170 i (tunF t h nn i) (-1) (-1)
          show Wx g y_Tr_findTunnel Z K 103 [vR 169, vR o, vI (h : Int), vI nn, vI (i : Int), vI (tunF t h nn i)] [] (up (up (up (up σ3 170 0 (i : Int)) 170 1 (tunF t h nn i)) 170 2 (-1)) 170 3 (-1))
          refine x_iinc (v' := ((i + 1 : Nat) : Int)) (L' := [vR 169, vR o, vI (h : Int), vI nn, vI ((i + 1 : Nat) : Int), vI (tunF t h nn i)]) (dat d_Tr_findTunnel 56 rfl) rfl (by decide) rfl (by omega) (by omega) rfl ?_
          refine x_goto (tgt := 16) (dat d_Tr_findTunnel 57 rfl) (by decide) ?_
          first
          | (rw [if_pos (by omega)] at st
             exact nx _ _ _ (hp3.same (fun b _ _ => u4.2.2.2.2 b (by omega))) rfl (fun _ _ => mLoaf_mLoaf _ _ _ _ _ _ _) (R4.same (fun b _ _ => u4.2.2.2.2 b (by omega))) (by rw [st]; exact u4.1) (fun _ => by rw [st]; exact u4.2.1) (fun b hb => by rw [u4.2.2.2.2 b (by omega)]; exact Fx b hb))
          | (rw [if_neg (by have := g1 (by omega); omega)] at st
             exact nx _ _ _ hp3 rfl (fun _ _ => mLoaf_mLoaf _ _ _ _ _ _ _) R4 (by rw [st, g0]) (fun _ => by rw [st, g1 (by omega)]) Fx)
  refine x_enter 2 rfl rfl rfl (fun Z => ?_)
  show Wx g y_Tr_findTunnel Z K 0 [vR 169, vR o, vI (h : Int), vI nn, vU, vU] [] σ
  refine x_aload_n (dat d_Tr_findTunnel 0 rfl) rfl rfl ?_
  refine x_aload_n (dat d_Tr_findTunnel 1 rfl) rfl rfl ?_
  refine x_inv (As := [vR o]) (dat d_Tr_findTunnel 2 rfl) rfl c_Tr_begin l_Tr_74 (by decide) (rv_tr (by decide +kernel)) rfl rfl (Nat.le_of_ble_eq_true rfl) ?_
  refine sp_Tr_begin ho hT hR (fun σ1 hp R F1 => ?_)
  show Wx g y_Tr_findTunnel Z K 5 [vR 169, vR o, vI (h : Int), vI nn, vU, vU] [] σ1
  refine x_aload_n (dat d_Tr_findTunnel 3 rfl) rfl rfl ?_
  refine x_iconst (dat d_Tr_findTunnel 4 rfl) (by decide) ?_
  refine x_iconst (dat d_Tr_findTunnel 5 rfl) (by decide) ?_
  refine x_iconst (dat d_Tr_findTunnel 6 rfl) (by decide) ?_
  refine x_iconst (dat d_Tr_findTunnel 7 rfl) (by decide) ?_
  refine x_inv (As := [vI (-1), vI (-1), vI (-1), vI (-1)]) (dat d_Tr_findTunnel 8 rfl) rfl c_Tr_keepFound l_Tr_77 (by decide) (rv_tr (by decide +kernel)) rfl rfl (Nat.le_of_ble_eq_true rfl) ?_
  refine sp_Tr_keepFound ?_
  have u4 := up4 σ1 170 (-1) (-1) (-1) (-1)
  show Wx g y_Tr_findTunnel Z K 13 [vR 169, vR o, vI (h : Int), vI nn, vU, vU] [] (up (up (up (up σ1 170 0 (-1)) 170 1 (-1)) 170 2 (-1)) 170 3 (-1))
  refine x_iconst (dat d_Tr_findTunnel 9 rfl) (by decide) ?_
  refine x_istore (L' := [vR 169, vR o, vI (h : Int), vI nn, vI 0, vU]) (dat d_Tr_findTunnel 10 rfl) (by decide) rfl rfl ?_
  exact lp Z (t 6).toNat 0 _ _ _ (by omega) (hp.same (fun b _ _ => u4.2.2.2.2 b (by omega))) rfl (fun _ _ => rfl) (R.same (fun b _ _ => u4.2.2.2.2 b (by omega))) u4.1 (fun w => absurd w (by decide)) (fun b hb => by rw [u4.2.2.2.2 b (by omega), F1 b (by omega)])
def wedC (t : Int → Int) (h c : Int) : Cf := mWh (cfg t) (whFeast (cfg t) h c)
def wedF (t : Int → Int) (h : Nat) : Int := stv (wedC t h 0)
theorem sp_Tr_findWedding {g : xG} {K : Option MV → xS → Prop} {σ : xS} {o : Nat} {t : Int → Int} (ho : IsTw o) (hT : TownOk t) (hR : TownR σ o t) (k : ∀ σ' : xS, σ' 170 0 = (scanMin (wedF t) (t 3).toNat).1 → σ' 170 1 = (scanMin (wedF t) (t 3).toNat).2 → TrF σ' σ → K none σ') : Mt g y_Tr_findWedding [vR 169, vR o] σ K := by
  have hC := cfg_ok hT
  have hH := cH_eq hC
  have h3 := hT.2.2.2.1
  have e3 : cS (cfg t) 1 = t 3 := rfl
  have lp : ∀ (Z : xZ) (n i : Nat) (σ1 : xS), (i : Int) + n = t 3 → RunS σ1 143 (cfg t) 0 (cH (cfg t)) → σ1 170 0 = (scanMin (wedF t) i).1 → (1 ≤ i → σ1 170 1 = (scanMin (wedF t) i).2) → TrF σ1 σ → Wx g y_Tr_findWedding Z K 15 [vR 169, vR o, vI (i : Int)] [] σ1 := by
    intro Z n
    induction n with
    | zero =>
      intro i σ1 hn R f0 f1 F
      have e : i = (t 3).toNat := by omega
      subst e
      have e0 : σ1 o 3 = t 3 := (F.town ho hR).1 3 (by decide) (by decide)
      refine x_iload_n (dat d_Tr_findWedding 11 rfl) rfl rfl ?_
      refine x_aload_n (dat d_Tr_findWedding 12 rfl) rfl rfl ?_
      refine x_geti (ji := 3) (v := t 3) (dat d_Tr_findWedding 13 rfl) rfl f_Tr_142 (tw_oi_3 ho) (e0) ?_
      refine x_icmp_ge (tgt := 102) (dat d_Tr_findWedding 14 rfl) (by decide) (fun c_20 => ?_) (fun c_20 => (by omega))
      refine x_ret (dat d_Tr_findWedding 56 rfl) rfl ?_
      exact k _ f0 (f1 (by omega)) F
    | succ n ih =>
      intro i σ1 hn R f0 f1 F
      have hR1 := F.town ho hR
      have e0 : σ1 o 3 = t 3 := hR1.1 3 (by decide) (by decide)
      have hok : CfOk (wedC t i 0) := hC.whr _
      have hb1 := stv_bd hok
      have hs := scanMin_in (wedF t) i
      have st : scanMin (wedF t) (i + 1) = if (scanMin (wedF t) i).1 = -1 ∨ wedF t i < (scanMin (wedF t) i).2 then ((i : Int), wedF t i) else scanMin (wedF t) i := rfl
      have nx := fun σ' => ih (i + 1) σ' (by omega)
      generalize scanMin (wedF t) i = q at hs st f0 f1
      have ag : Agr (cfg t) (wedC t i 0) i := Agr.wh (fun h p hh => by unfold whFeast; rw [if_neg (by omega)])
      refine x_iload_n (dat d_Tr_findWedding 11 rfl) rfl rfl ?_
      refine x_aload_n (dat d_Tr_findWedding 12 rfl) rfl rfl ?_
      refine x_geti (ji := 3) (v := t 3) (dat d_Tr_findWedding 13 rfl) rfl f_Tr_142 (tw_oi_3 ho) (e0) ?_
      refine x_icmp_ge (tgt := 102) (dat d_Tr_findWedding 14 rfl) (by decide) (fun c_20 => (by omega)) (fun c_20 => ?_)
      refine x_aload_n (dat d_Tr_findWedding 15 rfl) rfl rfl ?_
      refine x_getr (r := 138) (dat d_Tr_findWedding 16 rfl) rfl f_Tr_15 (or_mk (by decide +kernel)) ?_
      refine x_aload_n (dat d_Tr_findWedding 17 rfl) rfl rfl ?_
      refine x_inv (As := [vR o]) (dat d_Tr_findWedding 18 rfl) rfl c_Pl_lay l_Tr_26 (by decide) (rv_pl (by decide +kernel)) rfl rfl (Nat.le_of_ble_eq_true rfl) ?_
      refine sp_Pl_lay ho hT hR1 (fun σ2 hp2 F2 => ?_)
      show Wx g y_Tr_findWedding Z K 31 [vR 169, vR o, vI (i : Int)] [] σ2
      refine x_aload_n (dat d_Tr_findWedding 19 rfl) rfl rfl ?_
      refine x_getr (r := 138) (dat d_Tr_findWedding 20 rfl) rfl f_Tr_15 (or_mk (by decide +kernel)) ?_
      refine x_iload_n (dat d_Tr_findWedding 21 rfl) rfl rfl ?_
      refine x_iconst (dat d_Tr_findWedding 22 rfl) (by decide) ?_
      refine x_inv (As := [vI (i : Int), vI 0]) (dat d_Tr_findWedding 23 rfl) rfl c_Pl_gather l_Tr_143 (by decide) (rv_pl (by decide +kernel)) rfl rfl (Nat.le_of_ble_eq_true rfl) ?_
      refine sp_Pl_gather hC hp2 (by omega) (by omega) (fun σ4 hp4 F4 => ?_)
      have R2 : RunS σ4 143 (cfg t) 0 (cH (cfg t)) := R.same (fun b _ _ => by rw [F4 b (by omega), F2 b (by omega)])
      show Wx g y_Tr_findWedding Z K 40 [vR 169, vR o, vI (i : Int)] [] σ4
      refine x_aload_n (dat d_Tr_findWedding 24 rfl) rfl rfl ?_
      refine x_getr (r := 156) (dat d_Tr_findWedding 25 rfl) rfl f_Tr_23 (or_mk (by decide +kernel)) ?_
      refine x_aload_n (dat d_Tr_findWedding 26 rfl) rfl rfl ?_
      refine x_getr (r := 138) (dat d_Tr_findWedding 27 rfl) rfl f_Tr_15 (or_mk (by decide +kernel)) ?_
      refine x_aload_n (dat d_Tr_findWedding 28 rfl) rfl rfl ?_
      refine x_getr (r := 143) (dat d_Tr_findWedding 29 rfl) rfl f_Tr_19 (or_mk (by decide +kernel)) ?_
      refine x_iload_n (dat d_Tr_findWedding 30 rfl) rfl rfl ?_
      refine x_inv (As := [vR 138, vR 143, vI (i : Int)]) (dat d_Tr_findWedding 31 rfl) rfl c_Ru_go l_Tr_32 (by decide) (rv_ru (by decide +kernel)) rfl rfl (Nat.le_of_ble_eq_true rfl) ?_
      refine sp_Ru_goF (C := wedC t i 0) ru_156 ru_143 (by decide) hok hp4 (by show (i : Int) < t 3; omega) (base_hE hC R2 ag (by omega)) (fun σ3 R3 F3 => ?_)
      have R4 := R2.same (σ' := σ3) (fun b _ _ => F3 b (by omega))
      have g0 : σ3 170 0 = q.1 := by rw [F3 170 (by omega), F4 170 (by decide), F2 170 (by decide)]; exact f0
      have g1 : 1 ≤ i → σ3 170 1 = q.2 := fun w => by rw [F3 170 (by omega), F4 170 (by decide), F2 170 (by decide)]; exact f1 w
      have Fx : TrF σ3 σ := fun b hb => by rw [F3 b (by omega), F4 b (by omega), F2 b (by omega)]; exact F b hb
      have u4 := up4 σ3 170 i (wedF t i) (-1) (-1)
      show Wx g y_Tr_findWedding Z K 56 [vR 169, vR o, vI (i : Int)] [] σ3
      refine x_aload_n (dat d_Tr_findWedding 32 rfl) rfl rfl ?_
      refine x_getr (r := 170) (dat d_Tr_findWedding 33 rfl) rfl f_Tr_9 (or_mk (by decide +kernel)) ?_
      refine x_iconst (dat d_Tr_findWedding 34 rfl) (by decide) ?_
      refine x_iald (n := 4) (v := q.1) (dat d_Tr_findWedding 35 rfl) (ai_mk (by decide +kernel)) (by omega) (by omega) (g0) ?_
      refine x_iconst (dat d_Tr_findWedding 36 rfl) (by decide) ?_
      refine x_icmp_eq (tgt := 82) (dat d_Tr_findWedding 37 rfl) (by decide) (fun c_63 => ?_) (fun c_63 => ?_)
      · refine x_aload_n (dat d_Tr_findWedding 46 rfl) rfl rfl ?_
        refine x_iload_n (dat d_Tr_findWedding 47 rfl) rfl rfl ?_
        refine x_aload_n (dat d_Tr_findWedding 48 rfl) rfl rfl ?_
        refine x_getr (r := 156) (dat d_Tr_findWedding 49 rfl) rfl f_Tr_23 (or_mk (by decide +kernel)) ?_
        refine x_inv (As := []) (dat d_Tr_findWedding 50 rfl) rfl c_Ru_starved l_Tr_38 (by decide) (rv_ru (by decide +kernel)) rfl rfl (Nat.le_of_ble_eq_true rfl) ?_
        refine sp_Ru_starved (f := i) ru_156 hok R3 (by show i < (t 3).toNat; omega) ?_
        show Wx g y_Tr_findWedding Z K 91 [vR 169, vR o, vI (i : Int)] [vI (wedF t i), vI (i : Int), vR 169] σ3
        refine x_iconst (dat d_Tr_findWedding 51 rfl) (by decide) ?_
        refine x_iconst (dat d_Tr_findWedding 52 rfl) (by decide) ?_
        refine x_inv (As := [vI (i : Int), vI (wedF t i), vI (-1), vI (-1)]) (dat d_Tr_findWedding 53 rfl) rfl c_Tr_keepFound l_Tr_77 (by decide) (rv_tr (by decide +kernel)) rfl rfl (Nat.le_of_ble_eq_true rfl) ?_
        refine sp_Tr_keepFound ?_
        show Wx g y_Tr_findWedding Z K 96 [vR 169, vR o, vI (i : Int)] [] (up (up (up (up σ3 170 0 (i : Int)) 170 1 (wedF t i)) 170 2 (-1)) 170 3 (-1))
        refine x_iinc (v' := ((i + 1 : Nat) : Int)) (L' := [vR 169, vR o, vI ((i + 1 : Nat) : Int)]) (dat d_Tr_findWedding 54 rfl) rfl (by decide) rfl (by omega) (by omega) rfl ?_
        refine x_goto (tgt := 15) (dat d_Tr_findWedding 55 rfl) (by decide) ?_
        first
        | (rw [if_pos (by omega)] at st
           exact nx _ (R4.same (fun b _ _ => u4.2.2.2.2 b (by omega))) (by rw [st]; exact u4.1) (fun _ => by rw [st]; exact u4.2.1) (fun b hb => by rw [u4.2.2.2.2 b (by omega)]; exact Fx b hb))
        | (rw [if_neg (by have := g1 (by omega); omega)] at st
           exact nx _ R4 (by rw [st, g0]) (fun _ => by rw [st, g1 (by omega)]) Fx)
        | (rw [if_pos (by have := g1 (by omega); omega)] at st
           exact nx _ (R4.same (fun b _ _ => u4.2.2.2.2 b (by omega))) (by rw [st]; exact u4.1) (fun _ => by rw [st]; exact u4.2.1) (fun b hb => by rw [u4.2.2.2.2 b (by omega)]; exact Fx b hb))
      · refine x_aload_n (dat d_Tr_findWedding 38 rfl) rfl rfl ?_
        refine x_getr (r := 156) (dat d_Tr_findWedding 39 rfl) rfl f_Tr_23 (or_mk (by decide +kernel)) ?_
        refine x_inv (As := []) (dat d_Tr_findWedding 40 rfl) rfl c_Ru_starved l_Tr_38 (by decide) (rv_ru (by decide +kernel)) rfl rfl (Nat.le_of_ble_eq_true rfl) ?_
        refine sp_Ru_starved (f := i) ru_156 hok R3 (by show i < (t 3).toNat; omega) ?_
        show Wx g y_Tr_findWedding Z K 73 [vR 169, vR o, vI (i : Int)] [vI (wedF t i)] σ3
        refine x_aload_n (dat d_Tr_findWedding 41 rfl) rfl rfl ?_
        refine x_getr (r := 170) (dat d_Tr_findWedding 42 rfl) rfl f_Tr_9 (or_mk (by decide +kernel)) ?_
        refine x_iconst (dat d_Tr_findWedding 43 rfl) (by decide) ?_
        refine x_iald (n := 4) (v := σ3 170 1) (dat d_Tr_findWedding 44 rfl) (ai_mk (by decide +kernel)) (by omega) (by omega) rfl ?_
        refine x_icmp_ge (tgt := 96) (dat d_Tr_findWedding 45 rfl) (by decide) (fun c_79 => ?_) (fun c_79 => ?_)
        · refine x_iinc (v' := ((i + 1 : Nat) : Int)) (L' := [vR 169, vR o, vI ((i + 1 : Nat) : Int)]) (dat d_Tr_findWedding 54 rfl) rfl (by decide) rfl (by omega) (by omega) rfl ?_
          refine x_goto (tgt := 15) (dat d_Tr_findWedding 55 rfl) (by decide) ?_
          first
          | (rw [if_pos (by omega)] at st
             exact nx _ (R4.same (fun b _ _ => u4.2.2.2.2 b (by omega))) (by rw [st]; exact u4.1) (fun _ => by rw [st]; exact u4.2.1) (fun b hb => by rw [u4.2.2.2.2 b (by omega)]; exact Fx b hb))
          | (rw [if_neg (by have := g1 (by omega); omega)] at st
             exact nx _ R4 (by rw [st, g0]) (fun _ => by rw [st, g1 (by omega)]) Fx)
          | (rw [if_pos (by have := g1 (by omega); omega)] at st
             exact nx _ (R4.same (fun b _ _ => u4.2.2.2.2 b (by omega))) (by rw [st]; exact u4.1) (fun _ => by rw [st]; exact u4.2.1) (fun b hb => by rw [u4.2.2.2.2 b (by omega)]; exact Fx b hb))
        · refine x_aload_n (dat d_Tr_findWedding 46 rfl) rfl rfl ?_
          refine x_iload_n (dat d_Tr_findWedding 47 rfl) rfl rfl ?_
          refine x_aload_n (dat d_Tr_findWedding 48 rfl) rfl rfl ?_
          refine x_getr (r := 156) (dat d_Tr_findWedding 49 rfl) rfl f_Tr_23 (or_mk (by decide +kernel)) ?_
          refine x_inv (As := []) (dat d_Tr_findWedding 50 rfl) rfl c_Ru_starved l_Tr_38 (by decide) (rv_ru (by decide +kernel)) rfl rfl (Nat.le_of_ble_eq_true rfl) ?_
          refine sp_Ru_starved (f := i) ru_156 hok R3 (by show i < (t 3).toNat; omega) ?_
          show Wx g y_Tr_findWedding Z K 91 [vR 169, vR o, vI (i : Int)] [vI (wedF t i), vI (i : Int), vR 169] σ3
          refine x_iconst (dat d_Tr_findWedding 51 rfl) (by decide) ?_
          refine x_iconst (dat d_Tr_findWedding 52 rfl) (by decide) ?_
          refine x_inv (As := [vI (i : Int), vI (wedF t i), vI (-1), vI (-1)]) (dat d_Tr_findWedding 53 rfl) rfl c_Tr_keepFound l_Tr_77 (by decide) (rv_tr (by decide +kernel)) rfl rfl (Nat.le_of_ble_eq_true rfl) ?_
          refine sp_Tr_keepFound ?_
          show Wx g y_Tr_findWedding Z K 96 [vR 169, vR o, vI (i : Int)] [] (up (up (up (up σ3 170 0 (i : Int)) 170 1 (wedF t i)) 170 2 (-1)) 170 3 (-1))
          refine x_iinc (v' := ((i + 1 : Nat) : Int)) (L' := [vR 169, vR o, vI ((i + 1 : Nat) : Int)]) (dat d_Tr_findWedding 54 rfl) rfl (by decide) rfl (by omega) (by omega) rfl ?_
          refine x_goto (tgt := 15) (dat d_Tr_findWedding 55 rfl) (by decide) ?_
          first
          | (rw [if_pos (by omega)] at st
             exact nx _ (R4.same (fun b _ _ => u4.2.2.2.2 b (by omega))) (by rw [st]; exact u4.1) (fun _ => by rw [st]; exact u4.2.1) (fun b hb => by rw [u4.2.2.2.2 b (by omega)]; exact Fx b hb))
          | (rw [if_neg (by have := g1 (by omega); omega)] at st
             exact nx _ R4 (by rw [st, g0]) (fun _ => by rw [st, g1 (by omega)]) Fx)
          | (rw [if_pos (by have := g1 (by omega); omega)] at st
             exact nx _ (R4.same (fun b _ _ => u4.2.2.2.2 b (by omega))) (by rw [st]; exact u4.1) (fun _ => by rw [st]; exact u4.2.1) (fun b hb => by rw [u4.2.2.2.2 b (by omega)]; exact Fx b hb))
  refine x_enter 1 rfl rfl rfl (fun Z => ?_)
  show Wx g y_Tr_findWedding Z K 0 [vR 169, vR o, vU] [] σ
  refine x_aload_n (dat d_Tr_findWedding 0 rfl) rfl rfl ?_
  refine x_aload_n (dat d_Tr_findWedding 1 rfl) rfl rfl ?_
  refine x_inv (As := [vR o]) (dat d_Tr_findWedding 2 rfl) rfl c_Tr_begin l_Tr_74 (by decide) (rv_tr (by decide +kernel)) rfl rfl (Nat.le_of_ble_eq_true rfl) ?_
  refine sp_Tr_begin ho hT hR (fun σ1 hp R F1 => ?_)
  show Wx g y_Tr_findWedding Z K 5 [vR 169, vR o, vU] [] σ1
  refine x_aload_n (dat d_Tr_findWedding 3 rfl) rfl rfl ?_
  refine x_iconst (dat d_Tr_findWedding 4 rfl) (by decide) ?_
  refine x_iconst (dat d_Tr_findWedding 5 rfl) (by decide) ?_
  refine x_iconst (dat d_Tr_findWedding 6 rfl) (by decide) ?_
  refine x_iconst (dat d_Tr_findWedding 7 rfl) (by decide) ?_
  refine x_inv (As := [vI (-1), vI (-1), vI (-1), vI (-1)]) (dat d_Tr_findWedding 8 rfl) rfl c_Tr_keepFound l_Tr_77 (by decide) (rv_tr (by decide +kernel)) rfl rfl (Nat.le_of_ble_eq_true rfl) ?_
  refine sp_Tr_keepFound ?_
  have u4 := up4 σ1 170 (-1) (-1) (-1) (-1)
  show Wx g y_Tr_findWedding Z K 13 [vR 169, vR o, vU] [] (up (up (up (up σ1 170 0 (-1)) 170 1 (-1)) 170 2 (-1)) 170 3 (-1))
  refine x_iconst (dat d_Tr_findWedding 9 rfl) (by decide) ?_
  refine x_istore_n (L' := [vR 169, vR o, vI 0]) (dat d_Tr_findWedding 10 rfl) rfl (by decide) rfl rfl ?_
  exact lp Z (t 3).toNat 0 _ (by omega) (R.same (fun b _ _ => u4.2.2.2.2 b (by omega))) u4.1 (fun w => absurd w (by decide)) (fun b hb => by rw [u4.2.2.2.2 b (by omega), F1 b (by omega)])
