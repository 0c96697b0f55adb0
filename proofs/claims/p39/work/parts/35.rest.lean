/-! gloves at rest -/
theorem chN_S {t : Int → Int} {s : Int → Bool} (hs : GlS t s) : ∀ n : Nat, (n : Int) ≤ t 6 → GlS t (chN t s n).1
  | 0, _ => hs
  | n + 1, h => by
    have h1 := chN_S hs n (by omega)
    simp only [chN]
    split
    · rename_i hc
      refine h1.flip (by omega) (by omega) ?_
      unfold chB at hc
      simp only [Bool.and_eq_true, Bool.not_eq_true'] at hc
      exact hc.1
    · exact h1
theorem sp_Tr_changeGloves {g : xG} {K : Option MV → xS → Prop} {σ : xS} {t : Int → Int} {m0 : Int} {s : Int → Bool} (hT : TownOk t) (h0 : Mss (t 6) m0 (cGl (cfg t))) (hp0 : PlanR σ (glC t s)) (hm0 : GlM m0 (σ 138 5) s) (hs0 : GlS t s) (k : ∀ σ' : xS, PlanR σ' (glC t (chN t s (t 6).toNat).1) → GlM m0 (σ' 138 5) (chN t s (t 6).toNat).1 → TrF σ' σ → K (some (vI (if (chN t s (t 6).toNat).2 = true then 1 else 0))) σ') : Mt g y_Tr_changeGloves [vR 169, vI m0] σ K := by
  have hC := cfg_ok hT
  have h6 := hT.2.2.2.2.2.2.1
  have h3 := hT.2.2.2.1
  have lp : ∀ (Z : xZ) (n i : Nat) (σ1 : xS) (w4 : MV), (i : Int) + n = t 6 → PlanR σ1 (glC t (chN t s i).1) → GlM m0 (σ1 138 5) (chN t s i).1 → TrF σ1 σ → Wx g y_Tr_changeGloves Z K 4 [vR 169, vI m0, vI (if (chN t s i).2 = true then 1 else 0), vI (i : Int), w4] [] σ1 := by
    intro Z n
    induction n with
    | zero =>
      intro i σ1 w4 hn hp hm F
      have e : i = (t 6).toNat := by omega
      subst e
      have e0 : σ1 138 0 = t 6 := hp.1
      refine x_iload_n (dat d_Tr_changeGloves 4 rfl) rfl rfl ?_
      refine x_aload_n (dat d_Tr_changeGloves 5 rfl) rfl rfl ?_
      refine x_getr (r := 138) (dat d_Tr_changeGloves 6 rfl) rfl f_Tr_15 (or_mk (by decide +kernel)) ?_
      refine x_geti (ji := 0) (v := t 6) (dat d_Tr_changeGloves 7 rfl) rfl f_Tr_52 (oi_mk (by decide +kernel)) (e0) ?_
      refine x_icmp_ge (tgt := 113) (dat d_Tr_changeGloves 8 rfl) (by decide) (fun c_12 => ?_) (fun c_12 => (by omega))
      refine x_iload_n (dat d_Tr_changeGloves 63 rfl) rfl rfl ?_
      refine x_zret (dat d_Tr_changeGloves 64 rfl) rfl (by omega) ?_
      exact k _ hp hm F
    | succ n ih =>
      intro i σ1 w4 hn hp hm F
      have e0 : σ1 138 0 = t 6 := hp.1
      have hS := chN_S hs0 i (by omega)
      have bt := h0.get (p := (i : Int)) (by omega) (by omega) h6.2
      have st : chN t s (i + 1) = if chB t (chN t s i).1 i = true then (tgl (chN t s i).1 i, true) else chN t s i := rfl
      have nx := fun σ' w' => ih (i + 1) σ' w' (by omega)
      generalize chN t s i = q at hp hm hS st ⊢
      cases hg : cGl (cfg t) (i : Int)
      · rw [hg] at bt
        have bt : iand (ishr m0 (i : Int)) 1 = 0 := bt
        have ok1 : CfOk (glC t q.1) := hC.glv _
        have ok2 : CfOk (glC t (tgl q.1 i)) := hC.glv _
        have hm2 := hm.flip (p := (i : Int)) (by omega) (by omega)
        have hS2 := hS.flip (p := (i : Int)) (by omega) (by omega) hg
        have hp2 : ∀ σ2 : xS, PlanR σ2 (glC t q.1) → PlanR (up σ2 138 5 (ixor (σ1 138 5) (ishl 1 (i : Int)))) (glC t (tgl q.1 i)) := fun σ2 h => PlanR.glv (C := glC t q.1) h (hm2.plan h6.2 h0 hS2)
        have hm3 : GlM m0 (ixor (ixor (σ1 138 5) (ishl 1 (i : Int))) (ishl 1 (i : Int))) q.1 := by
          have := hm2.flip (p := (i : Int)) (by omega) (by omega)
          rwa [tgl_tgl] at this
        have hp3 : ∀ σ2 : xS, PlanR σ2 (glC t (tgl q.1 i)) → PlanR (up σ2 138 5 (ixor (ixor (σ1 138 5) (ishl 1 (i : Int))) (ishl 1 (i : Int)))) (glC t q.1) := fun σ2 h => PlanR.glv (C := glC t (tgl q.1 i)) h (hm3.plan h6.2 h0 hS)
        generalize hmv : σ1 138 5 = mv at hm2 hp2 hm3 hp3
        refine x_iload_n (dat d_Tr_changeGloves 4 rfl) rfl rfl ?_
        refine x_aload_n (dat d_Tr_changeGloves 5 rfl) rfl rfl ?_
        refine x_getr (r := 138) (dat d_Tr_changeGloves 6 rfl) rfl f_Tr_15 (or_mk (by decide +kernel)) ?_
        refine x_geti (ji := 0) (v := t 6) (dat d_Tr_changeGloves 7 rfl) rfl f_Tr_52 (oi_mk (by decide +kernel)) (e0) ?_
        refine x_icmp_ge (tgt := 113) (dat d_Tr_changeGloves 8 rfl) (by decide) (fun c_12 => (by omega)) (fun c_12 => ?_)
        refine x_iload_n (dat d_Tr_changeGloves 9 rfl) rfl rfl ?_
        refine x_iload_n (dat d_Tr_changeGloves 10 rfl) rfl rfl ?_
        refine x_ishr (v := ishr m0 (i : Int)) (dat d_Tr_changeGloves 11 rfl) rfl ?_
        refine x_iconst (dat d_Tr_changeGloves 12 rfl) (by decide) ?_
        refine x_iand (v := 0) (dat d_Tr_changeGloves 13 rfl) (by exact bt) ?_
        refine x_if_ne (tgt := 107) (dat d_Tr_changeGloves 14 rfl) (by decide) (fun h => absurd h (by decide)) (fun c_20 => ?_)
        refine x_aload_n (dat d_Tr_changeGloves 15 rfl) rfl rfl ?_
        refine x_getr (r := 156) (dat d_Tr_changeGloves 16 rfl) rfl f_Tr_23 (or_mk (by decide +kernel)) ?_
        refine x_aload_n (dat d_Tr_changeGloves 17 rfl) rfl rfl ?_
        refine x_getr (r := 138) (dat d_Tr_changeGloves 18 rfl) rfl f_Tr_15 (or_mk (by decide +kernel)) ?_
        refine x_null (dat d_Tr_changeGloves 19 rfl) ?_
        refine x_iconst (dat d_Tr_changeGloves 20 rfl) (by decide) ?_
        refine x_inv (As := [vR 138, vN, vI 0]) (dat d_Tr_changeGloves 21 rfl) rfl c_Ru_go l_Tr_32 (by decide) (rv_ru (by decide +kernel)) rfl rfl (Nat.le_of_ble_eq_true rfl) ?_
        refine sp_Ru_go ru_156 ok1 hp (fun σ2 R2 F2 => ?_)
        have q2 := hp.same (σ' := σ2) (fun b _ _ => F2 b (by omega))
        have v2 : σ2 138 5 = mv := by rw [F2 138 (by omega)]; exact hmv
        show Wx g y_Tr_changeGloves Z K 36 [vR 169, vI m0, vI (if q.2 = true then 1 else 0), vI (i : Int), w4] [] σ2
        refine x_aload_n (dat d_Tr_changeGloves 22 rfl) rfl rfl ?_
        refine x_getr (r := 156) (dat d_Tr_changeGloves 23 rfl) rfl f_Tr_23 (or_mk (by decide +kernel)) ?_
        refine x_iload_n (dat d_Tr_changeGloves 24 rfl) rfl rfl ?_
        refine x_inv (As := [vI (i : Int)]) (dat d_Tr_changeGloves 25 rfl) rfl c_Ru_breadAtEnd l_Tr_113 (by decide) (rv_ru (by decide +kernel)) rfl rfl (Nat.le_of_ble_eq_true rfl) ?_
        refine sp_Ru_breadAtEnd (f := 0) ru_156 ok1 R2 (by show 0 < (t 3).toNat; omega) (by omega) (by show (i : Int) < t 6; omega) ?_
        show Wx g y_Tr_changeGloves Z K 44 [vR 169, vI m0, vI (if q.2 = true then 1 else 0), vI (i : Int), w4] [vI (brE (glC t q.1) i)] σ2
        refine x_istore (L' := [vR 169, vI m0, vI (if q.2 = true then 1 else 0), vI (i : Int), vI (brE (glC t q.1) i)]) (dat d_Tr_changeGloves 26 rfl) (by decide) rfl rfl ?_
        refine x_aload_n (dat d_Tr_changeGloves 27 rfl) rfl rfl ?_
        refine x_getr (r := 138) (dat d_Tr_changeGloves 28 rfl) rfl f_Tr_15 (or_mk (by decide +kernel)) ?_
        refine x_dup (dat d_Tr_changeGloves 29 rfl) rfl ?_
        refine x_geti (ji := 5) (v := mv) (dat d_Tr_changeGloves 30 rfl) rfl f_Tr_48 (oi_mk (by decide +kernel)) (v2) ?_
        refine x_iconst (dat d_Tr_changeGloves 31 rfl) (by decide) ?_
        refine x_iload_n (dat d_Tr_changeGloves 32 rfl) rfl rfl ?_
        refine x_ishl (v := ishl 1 (i : Int)) (dat d_Tr_changeGloves 33 rfl) rfl ?_
        refine x_ixor (v := ixor mv (ishl 1 (i : Int))) (dat d_Tr_changeGloves 34 rfl) rfl ?_
        refine x_puti (ji := 5) (x := (ixor mv (ishl 1 (i : Int)))) (dat d_Tr_changeGloves 35 rfl) rfl f_Tr_48w (oi_mk (by decide +kernel)) (fun h => absurd h (by decide)) (by decide) ?_
        refine x_aload_n (dat d_Tr_changeGloves 36 rfl) rfl rfl ?_
        refine x_getr (r := 156) (dat d_Tr_changeGloves 37 rfl) rfl f_Tr_23 (or_mk (by decide +kernel)) ?_
        refine x_aload_n (dat d_Tr_changeGloves 38 rfl) rfl rfl ?_
        refine x_getr (r := 138) (dat d_Tr_changeGloves 39 rfl) rfl f_Tr_15 (or_mk (by decide +kernel)) ?_
        refine x_null (dat d_Tr_changeGloves 40 rfl) ?_
        refine x_iconst (dat d_Tr_changeGloves 41 rfl) (by decide) ?_
        refine x_inv (As := [vR 138, vN, vI 0]) (dat d_Tr_changeGloves 42 rfl) rfl c_Ru_go l_Tr_32 (by decide) (rv_ru (by decide +kernel)) rfl rfl (Nat.le_of_ble_eq_true rfl) ?_
        refine sp_Ru_go ru_156 ok2 (hp2 σ2 q2) (fun σ3 R3 F3 => ?_)
        have q3 := (hp2 σ2 q2).same (σ' := σ3) (fun b _ _ => F3 b (by omega))
        have v3 : σ3 138 5 = ixor mv (ishl 1 (i : Int)) := by rw [F3 138 (by omega), up_s]
        have Fx : TrF σ3 σ := fun b hb => by rw [F3 b (by omega), up_ne (by omega), F2 b (by omega)]; exact F b hb
        show Wx g y_Tr_changeGloves Z K 74 [vR 169, vI m0, vI (if q.2 = true then 1 else 0), vI (i : Int), vI (brE (glC t q.1) i)] [] σ3
        refine x_aload_n (dat d_Tr_changeGloves 43 rfl) rfl rfl ?_
        refine x_getr (r := 156) (dat d_Tr_changeGloves 44 rfl) rfl f_Tr_23 (or_mk (by decide +kernel)) ?_
        refine x_iload_n (dat d_Tr_changeGloves 45 rfl) rfl rfl ?_
        refine x_inv (As := [vI (i : Int)]) (dat d_Tr_changeGloves 46 rfl) rfl c_Ru_breadAtEnd l_Tr_113 (by decide) (rv_ru (by decide +kernel)) rfl rfl (Nat.le_of_ble_eq_true rfl) ?_
        refine sp_Ru_breadAtEnd (f := 0) ru_156 ok2 R3 (by show 0 < (t 3).toNat; omega) (by omega) (by show (i : Int) < t 6; omega) ?_
        show Wx g y_Tr_changeGloves Z K 82 [vR 169, vI m0, vI (if q.2 = true then 1 else 0), vI (i : Int), vI (brE (glC t q.1) i)] [vI (brE (glC t (tgl q.1 i)) i)] σ3
        refine x_iload (dat d_Tr_changeGloves 47 rfl) rfl ?_
        refine x_icmp_le (tgt := 92) (dat d_Tr_changeGloves 48 rfl) (by decide) (fun c_84 => ?_) (fun c_84 => ?_)
        · refine x_aload_n (dat d_Tr_changeGloves 52 rfl) rfl rfl ?_
          refine x_getr (r := 138) (dat d_Tr_changeGloves 53 rfl) rfl f_Tr_15 (or_mk (by decide +kernel)) ?_
          refine x_dup (dat d_Tr_changeGloves 54 rfl) rfl ?_
          refine x_geti (ji := 5) (v := ixor mv (ishl 1 (i : Int))) (dat d_Tr_changeGloves 55 rfl) rfl f_Tr_48 (oi_mk (by decide +kernel)) (v3) ?_
          refine x_iconst (dat d_Tr_changeGloves 56 rfl) (by decide) ?_
          refine x_iload_n (dat d_Tr_changeGloves 57 rfl) rfl rfl ?_
          refine x_ishl (v := ishl 1 (i : Int)) (dat d_Tr_changeGloves 58 rfl) rfl ?_
          refine x_ixor (v := ixor (ixor mv (ishl 1 (i : Int))) (ishl 1 (i : Int))) (dat d_Tr_changeGloves 59 rfl) rfl ?_
          refine x_puti (ji := 5) (x := (ixor (ixor mv (ishl 1 (i : Int))) (ishl 1 (i : Int)))) (dat d_Tr_changeGloves 60 rfl) rfl f_Tr_48w (oi_mk (by decide +kernel)) (fun h => absurd h (by decide)) (by decide) ?_
          refine x_iinc (v' := ((i + 1 : Nat) : Int)) (L' := [vR 169, vI m0, vI (if q.2 = true then 1 else 0), vI ((i + 1 : Nat) : Int), vI (brE (glC t q.1) i)]) (dat d_Tr_changeGloves 61 rfl) rfl (by decide) rfl (by omega) (by omega) rfl ?_
          refine x_goto (tgt := 4) (dat d_Tr_changeGloves 62 rfl) (by decide) ?_
          first
          | (rw [if_pos (by unfold chB; rw [hg, decide_eq_true (by omega)]; rfl)] at st
             have := nx _ (vI (brE (glC t q.1) i)) (by rw [st]; exact q3) (by rw [st, v3]; exact hm2) Fx
             rw [st] at this
             exact this)
          | (rw [if_neg (by unfold chB; rw [hg, decide_eq_false (by omega)]; decide)] at st
             have := nx _ (vI (brE (glC t q.1) i)) (by rw [st]; exact hp3 σ3 q3) (by rw [st, up_s]; exact hm3) (fun b hb => by rw [up_ne (by omega)]; exact Fx b hb)
             rw [st] at this
             exact this)
        · refine x_iconst (dat d_Tr_changeGloves 49 rfl) (by decide) ?_
          refine x_istore_n (L' := [vR 169, vI m0, vI 1, vI (i : Int), vI (brE (glC t q.1) i)]) (dat d_Tr_changeGloves 50 rfl) rfl (by decide) rfl rfl ?_
          refine x_goto (tgt := 107) (dat d_Tr_changeGloves 51 rfl) (by decide) ?_
          refine x_iinc (v' := ((i + 1 : Nat) : Int)) (L' := [vR 169, vI m0, vI 1, vI ((i + 1 : Nat) : Int), vI (brE (glC t q.1) i)]) (dat d_Tr_changeGloves 61 rfl) rfl (by decide) rfl (by omega) (by omega) rfl ?_
          refine x_goto (tgt := 4) (dat d_Tr_changeGloves 62 rfl) (by decide) ?_
          first
          | (rw [if_pos (by unfold chB; rw [hg, decide_eq_true (by omega)]; rfl)] at st
             have := nx _ (vI (brE (glC t q.1) i)) (by rw [st]; exact q3) (by rw [st, v3]; exact hm2) Fx
             rw [st] at this
             exact this)
          | (rw [if_neg (by unfold chB; rw [hg, decide_eq_false (by omega)]; decide)] at st
             have := nx _ (vI (brE (glC t q.1) i)) (by rw [st]; exact hp3 σ3 q3) (by rw [st, up_s]; exact hm3) (fun b hb => by rw [up_ne (by omega)]; exact Fx b hb)
             rw [st] at this
             exact this)
      · rw [hg] at bt
        have bt : iand (ishr m0 (i : Int)) 1 = 1 := bt
        rw [if_neg (by unfold chB; rw [hg]; simp)] at st
        refine x_iload_n (dat d_Tr_changeGloves 4 rfl) rfl rfl ?_
        refine x_aload_n (dat d_Tr_changeGloves 5 rfl) rfl rfl ?_
        refine x_getr (r := 138) (dat d_Tr_changeGloves 6 rfl) rfl f_Tr_15 (or_mk (by decide +kernel)) ?_
        refine x_geti (ji := 0) (v := t 6) (dat d_Tr_changeGloves 7 rfl) rfl f_Tr_52 (oi_mk (by decide +kernel)) (e0) ?_
        refine x_icmp_ge (tgt := 113) (dat d_Tr_changeGloves 8 rfl) (by decide) (fun c_12 => (by omega)) (fun c_12 => ?_)
        refine x_iload_n (dat d_Tr_changeGloves 9 rfl) rfl rfl ?_
        refine x_iload_n (dat d_Tr_changeGloves 10 rfl) rfl rfl ?_
        refine x_ishr (v := ishr m0 (i : Int)) (dat d_Tr_changeGloves 11 rfl) rfl ?_
        refine x_iconst (dat d_Tr_changeGloves 12 rfl) (by decide) ?_
        refine x_iand (v := 1) (dat d_Tr_changeGloves 13 rfl) (by exact bt) ?_
        refine x_if_ne (tgt := 107) (dat d_Tr_changeGloves 14 rfl) (by decide) (fun c_20 => ?_) (fun h => absurd h (by decide))
        refine x_iinc (v' := ((i + 1 : Nat) : Int)) (L' := [vR 169, vI m0, vI (if q.2 = true then 1 else 0), vI ((i + 1 : Nat) : Int), w4]) (dat d_Tr_changeGloves 61 rfl) rfl (by decide) rfl (by omega) (by omega) rfl ?_
        refine x_goto (tgt := 4) (dat d_Tr_changeGloves 62 rfl) (by decide) ?_
        have := nx σ1 w4 (by rw [st]; exact hp) (by rw [st]; exact hm) F
        rw [st] at this
        exact this
  refine x_enter 3 rfl rfl rfl (fun Z => ?_)
  show Wx g y_Tr_changeGloves Z K 0 [vR 169, vI m0, vU, vU, vU] [] σ
  refine x_iconst (dat d_Tr_changeGloves 0 rfl) (by decide) ?_
  refine x_istore_n (L' := [vR 169, vI m0, vI 0, vU, vU]) (dat d_Tr_changeGloves 1 rfl) rfl (by decide) rfl rfl ?_
  refine x_iconst (dat d_Tr_changeGloves 2 rfl) (by decide) ?_
  refine x_istore_n (L' := [vR 169, vI m0, vI 0, vI 0, vU]) (dat d_Tr_changeGloves 3 rfl) rfl (by decide) rfl rfl ?_
  exact lp Z (t 6).toNat 0 _ _ (by omega) hp0 hm0 (fun _ _ => rfl)
theorem rdN_S (t : Int → Int) (h6 : 0 ≤ t 6) : ∀ n : Nat, GlS t (rdN t n).1
  | 0 => fun q hq => by cases hq
  | n + 1 => by
    have h1 := rdN_S t h6 n
    simp only [rdN]
    split
    · exact chN_S h1 _ (by omega)
    · exact h1
theorem rdN_in (t : Int → Int) : ∀ n : Nat, -1 ≤ (rdN t n).2 ∧ (rdN t n).2 ≤ n
  | 0 => ⟨(by decide : (-1 : Int) ≤ -1), (by decide : (-1 : Int) ≤ 0)⟩
  | n + 1 => by
    have h1 := rdN_in t n
    simp only [rdN]
    split
    · simp
      split <;> omega
    · omega
theorem sp_Tr_findRest {g : xG} {K : Option MV → xS → Prop} {σ : xS} {o : Nat} {t : Int → Int} (ho : IsTw o) (hT : TownOk t) (hR : TownR σ o t) (k : ∀ σ' : xS, Msk 8 (σ' 170 0) (rdN t 20).1 → σ' 170 1 = (rdN t 20).2 → TrF σ' σ → K none σ') : Mt g y_Tr_findRest [vR 169, vR o] σ K := by
  have hC := cfg_ok hT
  have h6 := hT.2.2.2.2.2.2.1
  have lp : ∀ (Z : xZ) (m0 : Int), Mss (t 6) m0 (cGl (cfg t)) → ∀ (n i : Nat) (σ1 : xS), i + n = 20 → PlanR σ1 (glC t (rdN t i).1) → GlM m0 (σ1 138 5) (rdN t i).1 → TrF σ1 σ → Wx g y_Tr_findRest Z K 21 [vR 169, vR o, vI m0, vI (rdN t i).2, vI ((i + 1 : Nat) : Int)] [] σ1 := by
    intro Z m0 h0 n
    have fin : ∀ (i : Nat) (σ1 : xS), rdN t 20 = rdN t i → GlM m0 (σ1 138 5) (rdN t i).1 → TrF σ1 σ → Wx g y_Tr_findRest Z K 54 [vR 169, vR o, vI m0, vI (rdN t i).2, vI ((i + 1 : Nat) : Int)] [] σ1 := by
      intro i σ1 e hm F
      have mk : Msk 8 (iand (σ1 138 5) (ixor m0 (-1))) (rdN t 20).1 := by
        refine (Msk.andn (by decide) hm (msk_self (n := 8) h0.1 (by have := h0.2.1; omega))).congr (fun q q0 q1 => ?_)
        rw [e]
        cases hq : (rdN t i).1 q
        · show ((tb m0 q ^^ false) && !tb m0 q) = false
          cases tb m0 q <;> rfl
        · have hi := rdN_S t h6.1 i q hq
          show ((tb m0 q ^^ true) && !tb m0 q) = true
          rw [h0.2.2 q hi.1 hi.2.1, hi.2.2]
          rfl
      refine x_aload_n (dat d_Tr_findRest 28 rfl) rfl rfl ?_
      refine x_aload_n (dat d_Tr_findRest 29 rfl) rfl rfl ?_
      refine x_getr (r := 138) (dat d_Tr_findRest 30 rfl) rfl f_Tr_15 (or_mk (by decide +kernel)) ?_
      refine x_geti (ji := 5) (v := σ1 138 5) (dat d_Tr_findRest 31 rfl) rfl f_Tr_48 (oi_mk (by decide +kernel)) rfl ?_
      refine x_iload_n (dat d_Tr_findRest 32 rfl) rfl rfl ?_
      refine x_iconst (dat d_Tr_findRest 33 rfl) (by decide) ?_
      refine x_ixor (v := ixor m0 (-1)) (dat d_Tr_findRest 34 rfl) rfl ?_
      refine x_iand (v := iand (σ1 138 5) (ixor m0 (-1))) (dat d_Tr_findRest 35 rfl) rfl ?_
      refine x_iload_n (dat d_Tr_findRest 36 rfl) rfl rfl ?_
      refine x_iconst (dat d_Tr_findRest 37 rfl) (by decide) ?_
      refine x_iconst (dat d_Tr_findRest 38 rfl) (by decide) ?_
      refine x_inv (As := [vI (iand (σ1 138 5) (ixor m0 (-1))), vI ((rdN t i).2), vI (-1), vI (-1)]) (dat d_Tr_findRest 39 rfl) rfl c_Tr_keepFound l_Tr_77 (by decide) (rv_tr (by decide +kernel)) rfl rfl (Nat.le_of_ble_eq_true rfl) ?_
      refine sp_Tr_keepFound ?_
      have u4 := up4 σ1 170 (iand (σ1 138 5) (ixor m0 (-1))) (rdN t i).2 (-1) (-1)
      show Wx g y_Tr_findRest Z K 72 [vR 169, vR o, vI m0, vI ((rdN t i).2), vI ((i + 1 : Nat) : Int)] [] (up (up (up (up σ1 170 0 (iand (σ1 138 5) (ixor m0 (-1)))) 170 1 (rdN t i).2) 170 2 (-1)) 170 3 (-1))
      refine x_ret (dat d_Tr_findRest 40 rfl) rfl ?_
      exact k _ (by rw [u4.1]; exact mk) (by rw [u4.2.1, e]) (fun b hb => by rw [u4.2.2.2.2 b (by omega)]; exact F b hb)
    induction n with
    | zero =>
      intro i σ1 hn hp hm F
      have e : i = 20 := by omega
      subst e
      have f20 := fin 20 σ1 rfl hm F
      refine x_iload_n (dat d_Tr_findRest 12 rfl) rfl rfl ?_
      refine x_iconst (dat d_Tr_findRest 13 rfl) (by decide) ?_
      refine x_icmp_ne (tgt := 54) (dat d_Tr_findRest 14 rfl) (by decide) (fun c_23 => ?_) (fun c_23 => ?_)
      · exact f20
      · refine x_iload (dat d_Tr_findRest 15 rfl) rfl ?_
        refine x_bipush (dat d_Tr_findRest 16 rfl) (by decide) (by decide) ?_
        refine x_icmp_gt (tgt := 54) (dat d_Tr_findRest 17 rfl) (by decide) (fun c_30 => ?_) (fun c_30 => (by omega))
        exact f20
    | succ n ih =>
      intro i σ1 hn hp hm F
      have hi := rdN_in t i
      have f20 : (rdN t i).2 ≠ -1 → Wx g y_Tr_findRest Z K 54 [vR 169, vR o, vI m0, vI (rdN t i).2, vI ((i + 1 : Nat) : Int)] [] σ1 := fun w => fin i σ1 (by have := rdN_stop w (20 - i); rwa [show i + (20 - i) = 20 by omega] at this) hm F
      have hS := rdN_S t h6.1 i
      have st : rdN t (i + 1) = if (rdN t i).2 = -1 then ((chN t (rdN t i).1 (t 6).toNat).1, if (chN t (rdN t i).1 (t 6).toNat).2 = true then -1 else ((i + 1 : Nat) : Int)) else rdN t i := rfl
      have nx := fun σ' => ih (i + 1) σ' (by omega)
      generalize rdN t i = q at hi f20 hS st hp hm ⊢
      refine x_iload_n (dat d_Tr_findRest 12 rfl) rfl rfl ?_
      refine x_iconst (dat d_Tr_findRest 13 rfl) (by decide) ?_
      refine x_icmp_ne (tgt := 54) (dat d_Tr_findRest 14 rfl) (by decide) (fun c_23 => ?_) (fun c_23 => ?_)
      · exact f20 (by omega)
      · refine x_iload (dat d_Tr_findRest 15 rfl) rfl ?_
        refine x_bipush (dat d_Tr_findRest 16 rfl) (by decide) (by decide) ?_
        refine x_icmp_gt (tgt := 54) (dat d_Tr_findRest 17 rfl) (by decide) (fun c_30 => (by omega)) (fun c_30 => ?_)
        refine x_aload_n (dat d_Tr_findRest 18 rfl) rfl rfl ?_
        refine x_iload_n (dat d_Tr_findRest 19 rfl) rfl rfl ?_
        refine x_inv (As := [vI m0]) (dat d_Tr_findRest 20 rfl) rfl c_Tr_changeGloves l_Tr_160 (by decide) (rv_tr (by decide +kernel)) rfl rfl (Nat.le_of_ble_eq_true rfl) ?_
        refine sp_Tr_changeGloves hT h0 hp hm hS (fun σ2 hp2 hm2 F2 => ?_)
        have Fx : TrF σ2 σ := fun b hb => by rw [F2 b hb]; exact F b hb
        rw [if_pos (by omega)] at st
        cases hch : (chN t q.1 (t 6).toNat).2 <;> rw [hch] at st
        · show Wx g y_Tr_findRest Z K 38 [vR 169, vR o, vI m0, vI q.2, vI ((i + 1 : Nat) : Int)] [vI 0] σ2
          refine x_if_eq (tgt := 45) (dat d_Tr_findRest 21 rfl) (by decide) (fun c_38 => ?_) (fun h => absurd h (by decide))
          refine x_iload (dat d_Tr_findRest 24 rfl) rfl ?_
          refine x_istore_n (L' := [vR 169, vR o, vI m0, vI ((i + 1 : Nat) : Int), vI ((i + 1 : Nat) : Int)]) (dat d_Tr_findRest 25 rfl) rfl (by decide) rfl rfl ?_
          refine x_iinc (v' := ((i + 1 + 1 : Nat) : Int)) (L' := [vR 169, vR o, vI m0, vI ((i + 1 : Nat) : Int), vI ((i + 1 + 1 : Nat) : Int)]) (dat d_Tr_findRest 26 rfl) rfl (by decide) rfl (by omega) (by omega) rfl ?_
          refine x_goto (tgt := 21) (dat d_Tr_findRest 27 rfl) (by decide) ?_
          have := nx σ2 (by rw [st]; exact hp2) (by rw [st]; exact hm2) Fx
          rw [st] at this
          exact this
        · show Wx g y_Tr_findRest Z K 38 [vR 169, vR o, vI m0, vI q.2, vI ((i + 1 : Nat) : Int)] [vI 1] σ2
          refine x_if_eq (tgt := 45) (dat d_Tr_findRest 21 rfl) (by decide) (fun h => absurd h (by decide)) (fun c_38 => ?_)
          refine x_iconst (dat d_Tr_findRest 22 rfl) (by decide) ?_
          refine x_goto (tgt := 47) (dat d_Tr_findRest 23 rfl) (by decide) ?_
          refine x_istore_n (L' := [vR 169, vR o, vI m0, vI (-1), vI ((i + 1 : Nat) : Int)]) (dat d_Tr_findRest 25 rfl) rfl (by decide) rfl rfl ?_
          refine x_iinc (v' := ((i + 1 + 1 : Nat) : Int)) (L' := [vR 169, vR o, vI m0, vI (-1), vI ((i + 1 + 1 : Nat) : Int)]) (dat d_Tr_findRest 26 rfl) rfl (by decide) rfl (by omega) (by omega) rfl ?_
          refine x_goto (tgt := 21) (dat d_Tr_findRest 27 rfl) (by decide) ?_
          have := nx σ2 (by rw [st]; exact hp2) (by rw [st]; exact hm2) Fx
          rw [st] at this
          exact this
  refine x_enter 3 rfl rfl rfl (fun Z => ?_)
  show Wx g y_Tr_findRest Z K 0 [vR 169, vR o, vU, vU, vU] [] σ
  refine x_aload_n (dat d_Tr_findRest 0 rfl) rfl rfl ?_
  refine x_getr (r := 138) (dat d_Tr_findRest 1 rfl) rfl f_Tr_15 (or_mk (by decide +kernel)) ?_
  refine x_aload_n (dat d_Tr_findRest 2 rfl) rfl rfl ?_
  refine x_inv (As := [vR o]) (dat d_Tr_findRest 3 rfl) rfl c_Pl_lay l_Tr_26 (by decide) (rv_pl (by decide +kernel)) rfl rfl (Nat.le_of_ble_eq_true rfl) ?_
  refine sp_Pl_lay ho hT hR (fun σ1 hp F1 => ?_)
  have g0 := hp.2.2.2.2.2.1
  have gm : GlM (σ1 138 5) (σ1 138 5) (fun _ => false) := (msk_self (n := 8) g0.1 (by have := g0.2.1; omega)).congr (fun q _ _ => (Bool.xor_false _).symm)
  have gp : PlanR σ1 (glC t (fun _ => false)) := hp.congr (fun _ => rfl) (fun p _ _ => Bool.or_false _) (fun _ _ _ _ _ => rfl) (fun _ _ _ _ _ => rfl) (fun _ _ _ _ _ _ => rfl) (fun _ _ _ => rfl)
  show Wx g y_Tr_findRest Z K 8 [vR 169, vR o, vU, vU, vU] [] σ1
  refine x_aload_n (dat d_Tr_findRest 4 rfl) rfl rfl ?_
  refine x_getr (r := 138) (dat d_Tr_findRest 5 rfl) rfl f_Tr_15 (or_mk (by decide +kernel)) ?_
  refine x_geti (ji := 5) (v := σ1 138 5) (dat d_Tr_findRest 6 rfl) rfl f_Tr_48 (oi_mk (by decide +kernel)) rfl ?_
  refine x_istore_n (L' := [vR 169, vR o, vI (σ1 138 5), vU, vU]) (dat d_Tr_findRest 7 rfl) rfl (by decide) rfl rfl ?_
  refine x_iconst (dat d_Tr_findRest 8 rfl) (by decide) ?_
  refine x_istore_n (L' := [vR 169, vR o, vI (σ1 138 5), vI (-1), vU]) (dat d_Tr_findRest 9 rfl) rfl (by decide) rfl rfl ?_
  refine x_iconst (dat d_Tr_findRest 10 rfl) (by decide) ?_
  refine x_istore (L' := [vR 169, vR o, vI (σ1 138 5), vI (-1), vI 1]) (dat d_Tr_findRest 11 rfl) (by decide) rfl rfl ?_
  exact lp Z _ g0 20 0 σ1 (by omega) gp gm (fun b hb => F1 b (by omega))
