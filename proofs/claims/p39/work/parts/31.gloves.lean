/-! searches: gloves, quarrels, who is richest by a law, the evenest law -/
theorem PlanR.glv {σ : xS} {C : Cf} {m : Int} {f : Int → Bool} (H : PlanR σ C) (hm : Mss (cS C 0) m f) : PlanR (up σ 138 5 m) (mGl C f) := by
  obtain ⟨b0, b1, b2, b3, b4, b5, b6, b7, b8, b9, b10, b11, b12⟩ := H
  unfold PlanR
  rw [up_ne (show 139 ≠ 138 by decide), up_ne (show 140 ≠ 138 by decide), up_ne (show 141 ≠ 138 by decide), up_ne (show 142 ≠ 138 by decide), up_ni (by decide), up_ni (by decide), up_ni (by decide), up_ni (by decide), up_ni (by decide), up_s, up_ni (by decide), up_ni (by decide), up_ni (by decide)]
  exact ⟨b0, b1, b2, b3, b4, hm, b6, b7, b8, b9, b10, b11, b12⟩
theorem CfOk.glv {C : Cf} (hC : CfOk C) (f : Int → Bool) : CfOk (mGl C f) := hC
theorem CfOk.opn {C : Cf} (hC : CfOk C) (f : Int → Int → Bool) : CfOk (mOp C f) := hC
theorem CfOk.whr {C : Cf} (hC : CfOk C) (f : Int → Int → Int) : CfOk (mWh C f) := hC
theorem Mss.lor {P m n : Int} {f : Int → Bool} (h : Mss P m f) (n0 : 0 ≤ n) (n1 : n < 256) : Mss P (ior m n) (fun p => f p || tb n p) := by
  have h1 : Msk 8 (ior m n) (fun p => tb m p || tb n p) := (msk_self (n := 8) h.1 (by have := h.2.1; omega)).lor (by decide) (msk_self (n := 8) n0 (by omega))
  refine ⟨h1.1, by have := h1.2.1; omega, fun p p0 p1 => ?_⟩
  rw [tb_ior ⟨h.1, by have := h.2.1; omega⟩ ⟨n0, by omega⟩, h.2.2 p p0 p1]
/-- the fewest that will do -/
def fewB (ok : Nat → Bool) : Nat → Int
  | 0 => -1
  | n + 1 => if (fewB ok n = -1 ∨ bcnt n < bcnt (fewB ok n)) ∧ ok n = true then (n : Int) else fewB ok n
theorem fewB_in (ok : Nat → Bool) : ∀ n : Nat, fewB ok n = -1 ∨ (0 ≤ fewB ok n ∧ fewB ok n < n)
  | 0 => Or.inl rfl
  | n + 1 => by
    have := fewB_in ok n
    simp only [fewB]
    split
    · right; omega
    · omega
def glF (t : Int → Int) (n : Nat) : Bool := decide (stv (mGl (cfg t) (fun p => cGl (cfg t) p || tb n p)) = 0)
theorem sp_Tr_fewestGloves {g : xG} {K : Option MV → xS → Prop} {σ : xS} {o : Nat} {t : Int → Int} (ho : IsTw o) (hT : TownOk t) (hR : TownR σ o t) (k : ∀ σ' : xS, TrF σ' σ → K (some (vI (fewB (glF t) (2 ^ (t 6).toNat)))) σ') : Mt g y_Tr_fewestGloves [vR 169, vR o] σ K := by
  have hC := cfg_ok hT
  have h6 := hT.2.2.2.2.2.2.1
  have e2 : ishl 1 (t 6) = ((2 ^ (t 6).toNat : Nat) : Int) := ishl_1 h6.1 (by omega)
  have N8 : 2 ^ (t 6).toNat ≤ 2 ^ 8 := Nat.pow_le_pow_right (by decide) (by omega)
  generalize 2 ^ (t 6).toNat = N at e2 N8 k
  have lp : ∀ (Z : xZ) (m0 : Int), Mss (t 6) m0 (cGl (cfg t)) → ∀ (n i : Nat) (σ1 : xS) (f : Int → Bool), i + n = N → PlanR σ1 (mGl (cfg t) f) → TrF σ1 σ → Wx g y_Tr_fewestGloves Z K 21 [vR 169, vR o, vI m0, vI (fewB (glF t) i), vI (i : Int)] [] σ1 := by
    intro Z m0 hm0 n
    induction n with
    | zero =>
      intro i σ1 f hn hp F
      have e : i = N := by omega
      subst e
      have e0 : σ1 138 0 = t 6 := hp.1
      refine x_iload (dat d_Tr_fewestGloves 12 rfl) rfl ?_
      refine x_iconst (dat d_Tr_fewestGloves 13 rfl) (by decide) ?_
      refine x_aload_n (dat d_Tr_fewestGloves 14 rfl) rfl rfl ?_
      refine x_getr (r := 138) (dat d_Tr_fewestGloves 15 rfl) rfl f_Tr_15 (or_mk (by decide +kernel)) ?_
      refine x_geti (ji := 0) (v := t 6) (dat d_Tr_fewestGloves 16 rfl) rfl f_Tr_52 (oi_mk (by decide +kernel)) (e0) ?_
      refine x_ishl (v := (i : Int)) (dat d_Tr_fewestGloves 17 rfl) (by exact e2) ?_
      refine x_icmp_ge (tgt := 72) (dat d_Tr_fewestGloves 18 rfl) (by decide) (fun c_32 => ?_) (fun c_32 => (by omega))
      refine x_iload_n (dat d_Tr_fewestGloves 37 rfl) rfl rfl ?_
      refine x_iret (dat d_Tr_fewestGloves 38 rfl) rfl ?_
      exact k _ F
    | succ n ih =>
      intro i σ1 f hn hp F
      have e0 : σ1 138 0 = t 6 := hp.1
      have hm := hm0.lor (n := (i : Int)) (by omega) (by omega)
      have hp2 : PlanR (up σ1 138 5 (ior m0 (i : Int))) (mGl (cfg t) (fun p => cGl (cfg t) p || tb i p)) := hp.glv (C := mGl (cfg t) f) hm
      have st : fewB (glF t) (i + 1) = if (fewB (glF t) i = -1 ∨ bcnt i < bcnt (fewB (glF t) i)) ∧ glF t i = true then (i : Int) else fewB (glF t) i := rfl
      have F1 : TrF (up σ1 138 5 (ior m0 (i : Int))) σ := fun b hb => by rw [up_ne (by omega)]; exact F b hb
      refine x_iload (dat d_Tr_fewestGloves 12 rfl) rfl ?_
      refine x_iconst (dat d_Tr_fewestGloves 13 rfl) (by decide) ?_
      refine x_aload_n (dat d_Tr_fewestGloves 14 rfl) rfl rfl ?_
      refine x_getr (r := 138) (dat d_Tr_fewestGloves 15 rfl) rfl f_Tr_15 (or_mk (by decide +kernel)) ?_
      refine x_geti (ji := 0) (v := t 6) (dat d_Tr_fewestGloves 16 rfl) rfl f_Tr_52 (oi_mk (by decide +kernel)) (e0) ?_
      refine x_ishl (v := (N : Int)) (dat d_Tr_fewestGloves 17 rfl) (by exact e2) ?_
      refine x_icmp_ge (tgt := 72) (dat d_Tr_fewestGloves 18 rfl) (by decide) (fun c_32 => (by omega)) (fun c_32 => ?_)
      refine x_aload_n (dat d_Tr_fewestGloves 19 rfl) rfl rfl ?_
      refine x_getr (r := 138) (dat d_Tr_fewestGloves 20 rfl) rfl f_Tr_15 (or_mk (by decide +kernel)) ?_
      refine x_iload_n (dat d_Tr_fewestGloves 21 rfl) rfl rfl ?_
      refine x_iload (dat d_Tr_fewestGloves 22 rfl) rfl ?_
      refine x_ior (v := ior m0 (i : Int)) (dat d_Tr_fewestGloves 23 rfl) rfl ?_
      refine x_puti (ji := 5) (x := (ior m0 (i : Int))) (dat d_Tr_fewestGloves 24 rfl) rfl f_Tr_48w (oi_mk (by decide +kernel)) (fun h => absurd h (by decide)) (by decide) ?_
      refine x_aload_n (dat d_Tr_fewestGloves 25 rfl) rfl rfl ?_
      refine x_iload (dat d_Tr_fewestGloves 26 rfl) rfl ?_
      refine x_iload_n (dat d_Tr_fewestGloves 27 rfl) rfl rfl ?_
      refine x_inv (As := [vI (i : Int), vI (fewB (glF t) i)]) (dat d_Tr_fewestGloves 28 rfl) rfl c_Tr_isFewer l_Tr_55 (by decide) (rv_tr (by decide +kernel)) rfl rfl (Nat.le_of_ble_eq_true rfl) ?_
      refine sp_Tr_isFewer (fun hw => ?_) (fun hw => ?_)
      · show Wx g y_Tr_fewestGloves Z K 53 [vR 169, vR o, vI m0, vI (fewB (glF t) i), vI (i : Int)] [vI 1] (up σ1 138 5 (ior m0 (i : Int)))
        refine x_if_eq (tgt := 66) (dat d_Tr_fewestGloves 29 rfl) (by decide) (fun h => absurd h (by decide)) (fun c_53 => ?_)
        refine x_aload_n (dat d_Tr_fewestGloves 30 rfl) rfl rfl ?_
        refine x_inv (As := []) (dat d_Tr_fewestGloves 31 rfl) rfl c_Tr_starvedByPlan l_Tr_59 (by decide) (rv_tr (by decide +kernel)) rfl rfl (Nat.le_of_ble_eq_true rfl) ?_
        refine sp_Tr_starvedByPlan (hC.glv _) hp2 (fun σ2 F2 => ?_)
        have hp3 := hp2.same (σ' := σ2) (fun b _ _ => F2 b (by omega))
        have Fx : TrF σ2 σ := fun b hb => by rw [F2 b (by omega)]; exact F1 b hb
        show Wx g y_Tr_fewestGloves Z K 60 [vR 169, vR o, vI m0, vI (fewB (glF t) i), vI (i : Int)] [vI (stv (mGl (cfg t) (fun p => cGl (cfg t) p || tb (i : Int) p)))] σ2
        refine x_if_ne (tgt := 66) (dat d_Tr_fewestGloves 32 rfl) (by decide) (fun c_60 => ?_) (fun c_60 => ?_)
        · refine x_iinc (v' := ((i + 1 : Nat) : Int)) (L' := [vR 169, vR o, vI m0, vI (fewB (glF t) i), vI ((i + 1 : Nat) : Int)]) (dat d_Tr_fewestGloves 35 rfl) rfl (by decide) rfl (by omega) (by omega) rfl ?_
          refine x_goto (tgt := 21) (dat d_Tr_fewestGloves 36 rfl) (by decide) ?_
          first
          | (rw [if_neg (fun w => hw w.1)] at st
             have := ih (i + 1) _ _ (by omega) hp2 F1
             rw [st] at this
             exact this)
          | (rw [if_pos ⟨hw, decide_eq_true c_60⟩] at st
             have := ih (i + 1) _ _ (by omega) hp3 Fx
             rw [st] at this
             exact this)
          | (rw [if_neg (fun w => c_60 (of_decide_eq_true w.2))] at st
             have := ih (i + 1) _ _ (by omega) hp3 Fx
             rw [st] at this
             exact this)
        · refine x_iload (dat d_Tr_fewestGloves 33 rfl) rfl ?_
          refine x_istore_n (L' := [vR 169, vR o, vI m0, vI (i : Int), vI (i : Int)]) (dat d_Tr_fewestGloves 34 rfl) rfl (by decide) rfl rfl ?_
          refine x_iinc (v' := ((i + 1 : Nat) : Int)) (L' := [vR 169, vR o, vI m0, vI (i : Int), vI ((i + 1 : Nat) : Int)]) (dat d_Tr_fewestGloves 35 rfl) rfl (by decide) rfl (by omega) (by omega) rfl ?_
          refine x_goto (tgt := 21) (dat d_Tr_fewestGloves 36 rfl) (by decide) ?_
          first
          | (rw [if_neg (fun w => hw w.1)] at st
             have := ih (i + 1) _ _ (by omega) hp2 F1
             rw [st] at this
             exact this)
          | (rw [if_pos ⟨hw, decide_eq_true c_60⟩] at st
             have := ih (i + 1) _ _ (by omega) hp3 Fx
             rw [st] at this
             exact this)
          | (rw [if_neg (fun w => c_60 (of_decide_eq_true w.2))] at st
             have := ih (i + 1) _ _ (by omega) hp3 Fx
             rw [st] at this
             exact this)
      · show Wx g y_Tr_fewestGloves Z K 53 [vR 169, vR o, vI m0, vI (fewB (glF t) i), vI (i : Int)] [vI 0] (up σ1 138 5 (ior m0 (i : Int)))
        refine x_if_eq (tgt := 66) (dat d_Tr_fewestGloves 29 rfl) (by decide) (fun c_53 => ?_) (fun h => absurd h (by decide))
        refine x_iinc (v' := ((i + 1 : Nat) : Int)) (L' := [vR 169, vR o, vI m0, vI (fewB (glF t) i), vI ((i + 1 : Nat) : Int)]) (dat d_Tr_fewestGloves 35 rfl) rfl (by decide) rfl (by omega) (by omega) rfl ?_
        refine x_goto (tgt := 21) (dat d_Tr_fewestGloves 36 rfl) (by decide) ?_
        first
        | (rw [if_neg (fun w => hw w.1)] at st
           have := ih (i + 1) _ _ (by omega) hp2 F1
           rw [st] at this
           exact this)
        | (rw [if_pos ⟨hw, decide_eq_true c_60⟩] at st
           have := ih (i + 1) _ _ (by omega) hp3 Fx
           rw [st] at this
           exact this)
        | (rw [if_neg (fun w => c_60 (of_decide_eq_true w.2))] at st
           have := ih (i + 1) _ _ (by omega) hp3 Fx
           rw [st] at this
           exact this)
  refine x_enter 3 rfl rfl rfl (fun Z => ?_)
  show Wx g y_Tr_fewestGloves Z K 0 [vR 169, vR o, vU, vU, vU] [] σ
  refine x_aload_n (dat d_Tr_fewestGloves 0 rfl) rfl rfl ?_
  refine x_getr (r := 138) (dat d_Tr_fewestGloves 1 rfl) rfl f_Tr_15 (or_mk (by decide +kernel)) ?_
  refine x_aload_n (dat d_Tr_fewestGloves 2 rfl) rfl rfl ?_
  refine x_inv (As := [vR o]) (dat d_Tr_fewestGloves 3 rfl) rfl c_Pl_lay l_Tr_26 (by decide) (rv_pl (by decide +kernel)) rfl rfl (Nat.le_of_ble_eq_true rfl) ?_
  refine sp_Pl_lay ho hT hR (fun σ1 hp F1 => ?_)
  show Wx g y_Tr_fewestGloves Z K 8 [vR 169, vR o, vU, vU, vU] [] σ1
  refine x_aload_n (dat d_Tr_fewestGloves 4 rfl) rfl rfl ?_
  refine x_getr (r := 138) (dat d_Tr_fewestGloves 5 rfl) rfl f_Tr_15 (or_mk (by decide +kernel)) ?_
  refine x_geti (ji := 5) (v := σ1 138 5) (dat d_Tr_fewestGloves 6 rfl) rfl f_Tr_48 (oi_mk (by decide +kernel)) rfl ?_
  refine x_istore_n (L' := [vR 169, vR o, vI (σ1 138 5), vU, vU]) (dat d_Tr_fewestGloves 7 rfl) rfl (by decide) rfl rfl ?_
  refine x_iconst (dat d_Tr_fewestGloves 8 rfl) (by decide) ?_
  refine x_istore_n (L' := [vR 169, vR o, vI (σ1 138 5), vI (-1), vU]) (dat d_Tr_fewestGloves 9 rfl) rfl (by decide) rfl rfl ?_
  refine x_iconst (dat d_Tr_fewestGloves 10 rfl) (by decide) ?_
  refine x_istore (L' := [vR 169, vR o, vI (σ1 138 5), vI (-1), vI 0]) (dat d_Tr_fewestGloves 11 rfl) (by decide) rfl rfl ?_
  exact lp Z _ hp.2.2.2.2.2.1 N 0 _ (cGl (cfg t)) (by omega) hp (fun b hb => F1 b (by omega))
def qrF (t : Int → Int) (n : Nat) : Bool := decide ((pts (mOp (cfg t) (opT t n)) (t 6).toNat).2 ≤ 1)
theorem OpI.plan {σ σ' : xS} {C : Cf} {f : Int → Int → Bool} (H : PlanR σ C) (h : OpI σ' (cS C 0) f) (hf : ∀ o : Nat, o ≠ 141 → σ' o = σ o) : PlanR σ' (mOp C f) := H.opn hf (fun a a0 a1 => ⟨(h a a0 a1).1, (h a a0 a1).2.1, fun b q0 q1 => (h a a0 a1).2.2 b (by omega) q1⟩)
theorem sp_Tr_fewestQuarrels {g : xG} {K : Option MV → xS → Prop} {σ : xS} {o : Nat} {t : Int → Int} (ho : IsTw o) (hT : TownOk t) (hR : TownR σ o t) (k : ∀ σ' : xS, TrF σ' σ → K (some (vI (fewB (qrF t) (2 ^ (t 7).toNat)))) σ') : Mt g y_Tr_fewestQuarrels [vR 169, vR o] σ K := by
  have hC := cfg_ok hT
  have h7 := hT.2.2.2.2.2.2.2.1
  have e2 : ishl 1 (t 7) = ((2 ^ (t 7).toNat : Nat) : Int) := ishl_1 h7.1 (by omega)
  have N8 : 2 ^ (t 7).toNat ≤ 2 ^ 6 := Nat.pow_le_pow_right (by decide) (by omega)
  generalize 2 ^ (t 7).toNat = N at e2 N8 k
  have lp : ∀ (Z : xZ) (n i : Nat) (σ1 : xS) (f : Int → Int → Bool), i + n = N → PlanR σ1 (mOp (cfg t) f) → TrF σ1 σ → Wx g y_Tr_fewestQuarrels Z K 12 [vR 169, vR o, vI (fewB (qrF t) i), vI (i : Int)] [] σ1 := by
    intro Z n
    induction n with
    | zero =>
      intro i σ1 f hn hp F
      have e : i = N := by omega
      subst e
      have e7 : σ1 o 7 = t 7 := (F.town ho hR).1 7 (by decide) (by decide)
      refine x_iload_n (dat d_Tr_fewestQuarrels 8 rfl) rfl rfl ?_
      refine x_iconst (dat d_Tr_fewestQuarrels 9 rfl) (by decide) ?_
      refine x_aload_n (dat d_Tr_fewestQuarrels 10 rfl) rfl rfl ?_
      refine x_geti (ji := 7) (v := t 7) (dat d_Tr_fewestQuarrels 11 rfl) rfl f_Tr_62 (tw_oi_7 ho) (e7) ?_
      refine x_ishl (v := (i : Int)) (dat d_Tr_fewestQuarrels 12 rfl) (by exact e2) ?_
      refine x_icmp_ge (tgt := 76) (dat d_Tr_fewestQuarrels 13 rfl) (by decide) (fun c_19 => ?_) (fun c_19 => (by omega))
      refine x_iload_n (dat d_Tr_fewestQuarrels 42 rfl) rfl rfl ?_
      refine x_iret (dat d_Tr_fewestQuarrels 43 rfl) rfl ?_
      exact k _ F
    | succ n ih =>
      intro i σ1 f hn hp F
      have hR1 := F.town ho hR
      have e7 : σ1 o 7 = t 7 := hR1.1 7 (by decide) (by decide)
      have st : fewB (qrF t) (i + 1) = if (fewB (qrF t) i = -1 ∨ bcnt i < bcnt (fewB (qrF t) i)) ∧ qrF t i = true then (i : Int) else fewB (qrF t) i := rfl
      refine x_iload_n (dat d_Tr_fewestQuarrels 8 rfl) rfl rfl ?_
      refine x_iconst (dat d_Tr_fewestQuarrels 9 rfl) (by decide) ?_
      refine x_aload_n (dat d_Tr_fewestQuarrels 10 rfl) rfl rfl ?_
      refine x_geti (ji := 7) (v := t 7) (dat d_Tr_fewestQuarrels 11 rfl) rfl f_Tr_62 (tw_oi_7 ho) (e7) ?_
      refine x_ishl (v := (N : Int)) (dat d_Tr_fewestQuarrels 12 rfl) (by exact e2) ?_
      refine x_icmp_ge (tgt := 76) (dat d_Tr_fewestQuarrels 13 rfl) (by decide) (fun c_19 => (by omega)) (fun c_19 => ?_)
      refine x_aload_n (dat d_Tr_fewestQuarrels 14 rfl) rfl rfl ?_
      refine x_iload_n (dat d_Tr_fewestQuarrels 15 rfl) rfl rfl ?_
      refine x_iload_n (dat d_Tr_fewestQuarrels 16 rfl) rfl rfl ?_
      refine x_inv (As := [vI (i : Int), vI (fewB (qrF t) i)]) (dat d_Tr_fewestQuarrels 17 rfl) rfl c_Tr_isFewer l_Tr_55 (by decide) (rv_tr (by decide +kernel)) rfl rfl (Nat.le_of_ble_eq_true rfl) ?_
      refine sp_Tr_isFewer (fun hw => ?_) (fun hw => ?_)
      · show Wx g y_Tr_fewestQuarrels Z K 28 [vR 169, vR o, vI (fewB (qrF t) i), vI (i : Int)] [vI 1] σ1
        refine x_if_eq (tgt := 70) (dat d_Tr_fewestQuarrels 18 rfl) (by decide) (fun h => absurd h (by decide)) (fun c_28 => ?_)
        refine x_aload_n (dat d_Tr_fewestQuarrels 19 rfl) rfl rfl ?_
        refine x_getr (r := 138) (dat d_Tr_fewestQuarrels 20 rfl) rfl f_Tr_15 (or_mk (by decide +kernel)) ?_
        refine x_aload_n (dat d_Tr_fewestQuarrels 21 rfl) rfl rfl ?_
        refine x_iload_n (dat d_Tr_fewestQuarrels 22 rfl) rfl rfl ?_
        refine x_inv (As := [vR o, vI (i : Int)]) (dat d_Tr_fewestQuarrels 23 rfl) rfl c_Pl_openHands l_Tr_67 (by decide) (rv_pl (by decide +kernel)) rfl rfl (Nat.le_of_ble_eq_true rfl) ?_
        refine sp_Pl_openHands ho hT hR1 hp.1 ⟨by omega, by omega⟩ (fun σ2 H2 F2 => ?_)
        have hp2 : PlanR σ2 (mOp (cfg t) (opT t i)) := OpI.plan (C := mOp (cfg t) f) hp H2 F2
        show Wx g y_Tr_fewestQuarrels Z K 40 [vR 169, vR o, vI (fewB (qrF t) i), vI (i : Int)] [] σ2
        refine x_aload_n (dat d_Tr_fewestQuarrels 24 rfl) rfl rfl ?_
        refine x_getr (r := 156) (dat d_Tr_fewestQuarrels 25 rfl) rfl f_Tr_23 (or_mk (by decide +kernel)) ?_
        refine x_aload_n (dat d_Tr_fewestQuarrels 26 rfl) rfl rfl ?_
        refine x_getr (r := 138) (dat d_Tr_fewestQuarrels 27 rfl) rfl f_Tr_15 (or_mk (by decide +kernel)) ?_
        refine x_null (dat d_Tr_fewestQuarrels 28 rfl) ?_
        refine x_iconst (dat d_Tr_fewestQuarrels 29 rfl) (by decide) ?_
        refine x_inv (As := [vR 138, vN, vI 0]) (dat d_Tr_fewestQuarrels 30 rfl) rfl c_Ru_go l_Tr_32 (by decide) (rv_ru (by decide +kernel)) rfl rfl (Nat.le_of_ble_eq_true rfl) ?_
        refine sp_Ru_go ru_156 (hC.opn _) hp2 (fun σ3 R3 F3 => ?_)
        have hp3 := hp2.same (σ' := σ3) (fun b _ _ => F3 b (by omega))
        have Fx : TrF σ3 σ := fun b hb => by rw [F3 b (by omega), F2 b (by omega)]; exact F b hb
        show Wx g y_Tr_fewestQuarrels Z K 53 [vR 169, vR o, vI (fewB (qrF t) i), vI (i : Int)] [] σ3
        refine x_aload_n (dat d_Tr_fewestQuarrels 31 rfl) rfl rfl ?_
        refine x_getr (r := 156) (dat d_Tr_fewestQuarrels 32 rfl) rfl f_Tr_23 (or_mk (by decide +kernel)) ?_
        refine x_inv (As := []) (dat d_Tr_fewestQuarrels 33 rfl) rfl c_Ru_parts l_Tr_71 (by decide) (rv_ru (by decide +kernel)) rfl rfl (Nat.le_of_ble_eq_true rfl) ?_
        refine sp_Ru_parts ru_156 (hC.opn _) R3 ?_
        show Wx g y_Tr_fewestQuarrels Z K 60 [vR 169, vR o, vI (fewB (qrF t) i), vI (i : Int)] [vI ((pts (mOp (cfg t) (opT t (i : Int))) (t 6).toNat).2)] σ3
        refine x_iconst (dat d_Tr_fewestQuarrels 34 rfl) (by decide) ?_
        refine x_icmp_gt (tgt := 68) (dat d_Tr_fewestQuarrels 35 rfl) (by decide) (fun c_61 => ?_) (fun c_61 => ?_)
        · refine x_iload_n (dat d_Tr_fewestQuarrels 38 rfl) rfl rfl ?_
          refine x_istore_n (L' := [vR 169, vR o, vI (fewB (qrF t) i), vI (i : Int)]) (dat d_Tr_fewestQuarrels 39 rfl) rfl (by decide) rfl rfl ?_
          refine x_iinc (v' := ((i + 1 : Nat) : Int)) (L' := [vR 169, vR o, vI (fewB (qrF t) i), vI ((i + 1 : Nat) : Int)]) (dat d_Tr_fewestQuarrels 40 rfl) rfl (by decide) rfl (by omega) (by omega) rfl ?_
          refine x_goto (tgt := 12) (dat d_Tr_fewestQuarrels 41 rfl) (by decide) ?_
          first
          | (rw [if_neg (fun w => hw w.1)] at st
             have := ih (i + 1) _ _ (by omega) hp F
             rw [st] at this
             exact this)
          | (rw [if_pos ⟨hw, decide_eq_true (by omega)⟩] at st
             have := ih (i + 1) _ _ (by omega) hp3 Fx
             rw [st] at this
             exact this)
          | (rw [if_neg (fun w => by have := of_decide_eq_true w.2; omega)] at st
             have := ih (i + 1) _ _ (by omega) hp3 Fx
             rw [st] at this
             exact this)
        · refine x_iload_n (dat d_Tr_fewestQuarrels 36 rfl) rfl rfl ?_
          refine x_goto (tgt := 69) (dat d_Tr_fewestQuarrels 37 rfl) (by decide) ?_
          refine x_istore_n (L' := [vR 169, vR o, vI (i : Int), vI (i : Int)]) (dat d_Tr_fewestQuarrels 39 rfl) rfl (by decide) rfl rfl ?_
          refine x_iinc (v' := ((i + 1 : Nat) : Int)) (L' := [vR 169, vR o, vI (i : Int), vI ((i + 1 : Nat) : Int)]) (dat d_Tr_fewestQuarrels 40 rfl) rfl (by decide) rfl (by omega) (by omega) rfl ?_
          refine x_goto (tgt := 12) (dat d_Tr_fewestQuarrels 41 rfl) (by decide) ?_
          first
          | (rw [if_neg (fun w => hw w.1)] at st
             have := ih (i + 1) _ _ (by omega) hp F
             rw [st] at this
             exact this)
          | (rw [if_pos ⟨hw, decide_eq_true (by omega)⟩] at st
             have := ih (i + 1) _ _ (by omega) hp3 Fx
             rw [st] at this
             exact this)
          | (rw [if_neg (fun w => by have := of_decide_eq_true w.2; omega)] at st
             have := ih (i + 1) _ _ (by omega) hp3 Fx
             rw [st] at this
             exact this)
      · show Wx g y_Tr_fewestQuarrels Z K 28 [vR 169, vR o, vI (fewB (qrF t) i), vI (i : Int)] [vI 0] σ1
        refine x_if_eq (tgt := 70) (dat d_Tr_fewestQuarrels 18 rfl) (by decide) (fun c_28 => ?_) (fun h => absurd h (by decide))
        refine x_iinc (v' := ((i + 1 : Nat) : Int)) (L' := [vR 169, vR o, vI (fewB (qrF t) i), vI ((i + 1 : Nat) : Int)]) (dat d_Tr_fewestQuarrels 40 rfl) rfl (by decide) rfl (by omega) (by omega) rfl ?_
        refine x_goto (tgt := 12) (dat d_Tr_fewestQuarrels 41 rfl) (by decide) ?_
        first
        | (rw [if_neg (fun w => hw w.1)] at st
           have := ih (i + 1) _ _ (by omega) hp F
           rw [st] at this
           exact this)
        | (rw [if_pos ⟨hw, decide_eq_true (by omega)⟩] at st
           have := ih (i + 1) _ _ (by omega) hp3 Fx
           rw [st] at this
           exact this)
        | (rw [if_neg (fun w => by have := of_decide_eq_true w.2; omega)] at st
           have := ih (i + 1) _ _ (by omega) hp3 Fx
           rw [st] at this
           exact this)
  refine x_enter 2 rfl rfl rfl (fun Z => ?_)
  show Wx g y_Tr_fewestQuarrels Z K 0 [vR 169, vR o, vU, vU] [] σ
  refine x_aload_n (dat d_Tr_fewestQuarrels 0 rfl) rfl rfl ?_
  refine x_getr (r := 138) (dat d_Tr_fewestQuarrels 1 rfl) rfl f_Tr_15 (or_mk (by decide +kernel)) ?_
  refine x_aload_n (dat d_Tr_fewestQuarrels 2 rfl) rfl rfl ?_
  refine x_inv (As := [vR o]) (dat d_Tr_fewestQuarrels 3 rfl) rfl c_Pl_lay l_Tr_26 (by decide) (rv_pl (by decide +kernel)) rfl rfl (Nat.le_of_ble_eq_true rfl) ?_
  refine sp_Pl_lay ho hT hR (fun σ1 hp F1 => ?_)
  show Wx g y_Tr_fewestQuarrels Z K 8 [vR 169, vR o, vU, vU] [] σ1
  refine x_iconst (dat d_Tr_fewestQuarrels 4 rfl) (by decide) ?_
  refine x_istore_n (L' := [vR 169, vR o, vI (-1), vU]) (dat d_Tr_fewestQuarrels 5 rfl) rfl (by decide) rfl rfl ?_
  refine x_iconst (dat d_Tr_fewestQuarrels 6 rfl) (by decide) ?_
  refine x_istore_n (L' := [vR 169, vR o, vI (-1), vI 0]) (dat d_Tr_fewestQuarrels 7 rfl) rfl (by decide) rfl rfl ?_
  exact lp Z N 0 _ (cOp (cfg t)) (by omega) hp (fun b hb => F1 b (by omega))
/-- who is richest at the end -/
def rchT (C : Cf) : Int := rcs (fun q => decide (q < cS C 0)) (rst C (cH C)).1 (cS C 0).toNat
/-- the most and the least at the end, of some from the first on -/
def mxE (f : Int → Int) : Nat → Int
  | 0 => f 0
  | n + 1 => if mxE f n < f ((n + 1 : Nat) : Int) then f ((n + 1 : Nat) : Int) else mxE f n
def mnE (f : Int → Int) : Nat → Int
  | 0 => f 0
  | n + 1 => if f ((n + 1 : Nat) : Int) < mnE f n then f ((n + 1 : Nat) : Int) else mnE f n
theorem mE_bd {f : Int → Int} {B : Int} : ∀ n : Nat, (∀ p : Int, 0 ≤ p → p ≤ n → 0 ≤ f p ∧ f p ≤ B) → (0 ≤ mxE f n ∧ mxE f n ≤ B) ∧ 0 ≤ mnE f n ∧ mnE f n ≤ B
  | 0, h => ⟨h 0 (by decide) (by decide), h 0 (by decide) (by decide)⟩
  | n + 1, h => by
    have h1 := mE_bd n (fun p p0 p1 => h p p0 (by omega))
    have h2 := h ((n + 1 : Nat) : Int) (by omega) (by omega)
    simp only [mxE, mnE]
    constructor <;> split <;> omega
def spn (C : Cf) : Int := mxE (brE C) ((cS C 0).toNat - 1) - mnE (brE C) ((cS C 0).toNat - 1)
def evF (t : Int → Int) (n : Nat) : Int := spn (mS (cfg t) 2 n)
