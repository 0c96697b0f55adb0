/-! searches: the miser, gloves at rest -/
theorem Mss.xor1 {P m p : Int} {f : Int → Bool} (h : Mss P m f) (p0 : 0 ≤ p) (p1 : p < 8) : Mss P (ixor m (ishl 1 p)) (fun q => f q ^^ decide (q = p)) := by
  have h1 : Msk 8 (ixor m (ishl 1 p)) (fun q => tb m q ^^ decide (q = p)) := (msk_self (n := 8) h.1 (by have := h.2.1; omega)).lxor (by decide) (Msk.one (n := 8) (by decide) p0 p1)
  refine ⟨h1.1, by have := h1.2.1; omega, fun q q0 q1 => ?_⟩
  by_cases hq : q < 8
  · refine (h1.2.2 q q0 (by omega)).trans ?_
    show (tb m q ^^ decide (q = p)) = (f q ^^ decide (q = p))
    rw [h.2.2 q q0 q1]
  · show tb _ q = (f q ^^ decide (q = p))
    rw [tb_lt (n := 8) h1.2.1 (by omega), ← h.2.2 q q0 q1, tb_lt (n := 8) (by have := h.2.1; omega) (by omega), decide_eq_false (by omega)]
    rfl
theorem Mss.or1 {P m p : Int} {f : Int → Bool} (h : Mss P m f) (p0 : 0 ≤ p) (p1 : p < 8) : Mss P (ior m (ishl 1 p)) (fun q => f q || decide (q = p)) := by
  have h1 : Msk 8 (ior m (ishl 1 p)) (fun q => tb m q || decide (q = p)) := (msk_self (n := 8) h.1 (by have := h.2.1; omega)).lor (by decide) (Msk.one (n := 8) (by decide) p0 p1)
  refine ⟨h1.1, by have := h1.2.1; omega, fun q q0 q1 => ?_⟩
  by_cases hq : q < 8
  · refine (h1.2.2 q q0 (by omega)).trans ?_
    show (tb m q || decide (q = p)) = (f q || decide (q = p))
    rw [h.2.2 q q0 q1]
  · show tb _ q = (f q || decide (q = p))
    rw [tb_lt (n := 8) h1.2.1 (by omega), ← h.2.2 q q0 q1, tb_lt (n := 8) (by have := h.2.1; omega) (by omega), decide_eq_false (by omega)]
    rfl
theorem PlanR.glc {σ : xS} {C : Cf} {f f' : Int → Bool} (H : PlanR σ (mGl C f)) (e : ∀ p : Int, 0 ≤ p → p < cS C 0 → f' p = f p) : PlanR σ (mGl C f') := H.congr (fun _ => rfl) e (fun _ _ _ _ _ => rfl) (fun _ _ _ _ _ => rfl) (fun _ _ _ _ _ _ => rfl) (fun _ _ _ => rfl)
/-- with some gloved besides -/
def glC (t : Int → Int) (s : Int → Bool) : Cf := mGl (cfg t) (fun q => cGl (cfg t) q || s q)
def misF (t : Int → Int) (p : Nat) : Int := brE (glC t (fun q => decide (q = p))) p - brE (cfg t) p
theorem sp_Tr_findMiser {g : xG} {K : Option MV → xS → Prop} {σ : xS} {o : Nat} {t : Int → Int} (ho : IsTw o) (hT : TownOk t) (hR : TownR σ o t) (k : ∀ σ' : xS, σ' 170 0 = (scanTop (misF t) (t 6).toNat).1 → σ' 170 1 = (scanTop (misF t) (t 6).toNat).2 → TrF σ' σ → K none σ') : Mt g y_Tr_findMiser [vR 169, vR o] σ K := by
  have hC := cfg_ok hT
  have hH := cH_eq hC
  have h6 := hT.2.2.2.2.2.2.1
  have lp : ∀ (Z : xZ) (m0 : Int), Mss (t 6) m0 (cGl (cfg t)) → ∀ (n i : Nat) (σ1 : xS) (f : Int → Bool) (w4 : MV), (i : Int) + n = t 6 → PlanR σ1 (mGl (cfg t) f) → RunS σ1 143 (cfg t) 0 (cH (cfg t)) → σ1 170 0 = (scanTop (misF t) i).1 → σ1 170 1 = (scanTop (misF t) i).2 → TrF σ1 σ → Wx g y_Tr_findMiser Z K 23 [vR 169, vR o, vI m0, vI (i : Int), w4] [] σ1 := by
    intro Z m0 hm0 n
    induction n with
    | zero =>
      intro i σ1 f w4 hn hp R f0 f1 F
      have e : i = (t 6).toNat := by omega
      subst e
      have e0 : σ1 138 0 = t 6 := hp.1
      refine x_iload_n (dat d_Tr_findMiser 15 rfl) rfl rfl ?_
      refine x_aload_n (dat d_Tr_findMiser 16 rfl) rfl rfl ?_
      refine x_getr (r := 138) (dat d_Tr_findMiser 17 rfl) rfl f_Tr_15 (or_mk (by decide +kernel)) ?_
      refine x_geti (ji := 0) (v := t 6) (dat d_Tr_findMiser 18 rfl) rfl f_Tr_52 (oi_mk (by decide +kernel)) (e0) ?_
      refine x_icmp_ge (tgt := 104) (dat d_Tr_findMiser 19 rfl) (by decide) (fun c_31 => ?_) (fun c_31 => (by omega))
      refine x_ret (dat d_Tr_findMiser 59 rfl) rfl ?_
      exact k _ f0 f1 F
    | succ n ih =>
      intro i σ1 f w4 hn hp R f0 f1 F
      have e0 : σ1 138 0 = t 6 := hp.1
      have hok : CfOk (glC t (fun q => decide (q = (i : Int)))) := hC.glv _
      have hm := hm0.or1 (p := (i : Int)) (by omega) (by omega)
      have hp2 : PlanR (up σ1 138 5 (ior m0 (ishl 1 (i : Int)))) (glC t (fun q => decide (q = (i : Int)))) := hp.glv (C := mGl (cfg t) f) hm
      have b1 : 0 ≤ brE (glC t (fun q => decide (q = (i : Int)))) i ∧ brE (glC t (fun q => decide (q = (i : Int)))) i ≤ 294 := rst_bd hok (cH _) (by omega) (by show (i : Int) < t 6; omega)
      have b2 : 0 ≤ brE (cfg t) i ∧ brE (cfg t) i ≤ 294 := rst_bd hC (cH _) (by omega) (by show (i : Int) < t 6; omega)
      have st : scanTop (misF t) (i + 1) = if (scanTop (misF t) i).2 < misF t i then ((i : Int), misF t i) else scanTop (misF t) i := rfl
      have nx := fun σ' f' w' => ih (i + 1) σ' f' w' (by omega)
      generalize scanTop (misF t) i = q at st f0 f1
      refine x_iload_n (dat d_Tr_findMiser 15 rfl) rfl rfl ?_
      refine x_aload_n (dat d_Tr_findMiser 16 rfl) rfl rfl ?_
      refine x_getr (r := 138) (dat d_Tr_findMiser 17 rfl) rfl f_Tr_15 (or_mk (by decide +kernel)) ?_
      refine x_geti (ji := 0) (v := t 6) (dat d_Tr_findMiser 18 rfl) rfl f_Tr_52 (oi_mk (by decide +kernel)) (e0) ?_
      refine x_icmp_ge (tgt := 104) (dat d_Tr_findMiser 19 rfl) (by decide) (fun c_31 => (by omega)) (fun c_31 => ?_)
      refine x_aload_n (dat d_Tr_findMiser 20 rfl) rfl rfl ?_
      refine x_getr (r := 138) (dat d_Tr_findMiser 21 rfl) rfl f_Tr_15 (or_mk (by decide +kernel)) ?_
      refine x_iload_n (dat d_Tr_findMiser 22 rfl) rfl rfl ?_
      refine x_iconst (dat d_Tr_findMiser 23 rfl) (by decide) ?_
      refine x_iload_n (dat d_Tr_findMiser 24 rfl) rfl rfl ?_
      refine x_ishl (v := ishl 1 (i : Int)) (dat d_Tr_findMiser 25 rfl) rfl ?_
      refine x_ior (v := ior m0 (ishl 1 (i : Int))) (dat d_Tr_findMiser 26 rfl) rfl ?_
      refine x_puti (ji := 5) (x := (ior m0 (ishl 1 (i : Int)))) (dat d_Tr_findMiser 27 rfl) rfl f_Tr_48w (oi_mk (by decide +kernel)) (fun h => absurd h (by decide)) (by decide) ?_
      refine x_aload_n (dat d_Tr_findMiser 28 rfl) rfl rfl ?_
      refine x_getr (r := 156) (dat d_Tr_findMiser 29 rfl) rfl f_Tr_23 (or_mk (by decide +kernel)) ?_
      refine x_aload_n (dat d_Tr_findMiser 30 rfl) rfl rfl ?_
      refine x_getr (r := 138) (dat d_Tr_findMiser 31 rfl) rfl f_Tr_15 (or_mk (by decide +kernel)) ?_
      refine x_null (dat d_Tr_findMiser 32 rfl) ?_
      refine x_iconst (dat d_Tr_findMiser 33 rfl) (by decide) ?_
      refine x_inv (As := [vR 138, vN, vI 0]) (dat d_Tr_findMiser 34 rfl) rfl c_Ru_go l_Tr_32 (by decide) (rv_ru (by decide +kernel)) rfl rfl (Nat.le_of_ble_eq_true rfl) ?_
      refine sp_Ru_go ru_156 hok hp2 (fun σ3 R3 F3 => ?_)
      have R4 : RunS σ3 143 (cfg t) 0 (cH (cfg t)) := R.same (fun b _ _ => by rw [F3 b (by omega), up_ne (by omega)])
      have hp3 := hp2.same (σ' := σ3) (fun b _ _ => F3 b (by omega))
      have g01 : σ3 170 = σ1 170 := by rw [F3 170 (by omega), up_ne (by decide)]
      have g1 : σ3 170 1 = q.2 := by rw [g01]; exact f1
      have Fx : TrF σ3 σ := fun b hb => by rw [F3 b (by omega), up_ne (by omega)]; exact F b hb
      show Wx g y_Tr_findMiser Z K 59 [vR 169, vR o, vI m0, vI (i : Int), w4] [] σ3
      refine x_aload_n (dat d_Tr_findMiser 35 rfl) rfl rfl ?_
      refine x_getr (r := 156) (dat d_Tr_findMiser 36 rfl) rfl f_Tr_23 (or_mk (by decide +kernel)) ?_
      refine x_iload_n (dat d_Tr_findMiser 37 rfl) rfl rfl ?_
      refine x_inv (As := [vI (i : Int)]) (dat d_Tr_findMiser 38 rfl) rfl c_Ru_breadAtEnd l_Tr_113 (by decide) (rv_ru (by decide +kernel)) rfl rfl (Nat.le_of_ble_eq_true rfl) ?_
      refine sp_Ru_breadAtEnd (f := 0) ru_156 hok R3 (by show 0 < (t 3).toNat; have := hT.2.2.2.1; omega) (by omega) (by show (i : Int) < t 6; omega) ?_
      show Wx g y_Tr_findMiser Z K 67 [vR 169, vR o, vI m0, vI (i : Int), w4] [vI (brE (glC t (fun q => decide (q = (i : Int)))) i)] σ3
      refine x_aload_n (dat d_Tr_findMiser 39 rfl) rfl rfl ?_
      refine x_getr (r := 143) (dat d_Tr_findMiser 40 rfl) rfl f_Tr_19 (or_mk (by decide +kernel)) ?_
      refine x_iload_n (dat d_Tr_findMiser 41 rfl) rfl rfl ?_
      refine x_inv (As := [vI (i : Int)]) (dat d_Tr_findMiser 42 rfl) rfl c_Ru_breadAtEnd l_Tr_113 (by decide) (rv_ru (by decide +kernel)) rfl rfl (Nat.le_of_ble_eq_true rfl) ?_
      refine sp_Ru_breadAtEnd (f := 0) ru_143 hC R4 (by omega) (by omega) (by show (i : Int) < t 6; omega) ?_
      show Wx g y_Tr_findMiser Z K 75 [vR 169, vR o, vI m0, vI (i : Int), w4] [vI (brE (cfg t) i), vI (brE (glC t (fun q => decide (q = (i : Int)))) i)] σ3
      refine x_isub (v := misF t i) (dat d_Tr_findMiser 43 rfl) (by rfl) (by unfold misF; omega) ?_
      refine x_istore (L' := [vR 169, vR o, vI m0, vI (i : Int), vI (misF t i)]) (dat d_Tr_findMiser 44 rfl) (by decide) rfl rfl ?_
      refine x_iload (dat d_Tr_findMiser 45 rfl) rfl ?_
      refine x_aload_n (dat d_Tr_findMiser 46 rfl) rfl rfl ?_
      refine x_getr (r := 170) (dat d_Tr_findMiser 47 rfl) rfl f_Tr_9 (or_mk (by decide +kernel)) ?_
      refine x_iconst (dat d_Tr_findMiser 48 rfl) (by decide) ?_
      refine x_iald (n := 4) (v := q.2) (dat d_Tr_findMiser 49 rfl) (ai_mk (by decide +kernel)) (by omega) (by omega) (g1) ?_
      refine x_icmp_le (tgt := 98) (dat d_Tr_findMiser 50 rfl) (by decide) (fun c_86 => ?_) (fun c_86 => ?_)
      · refine x_iinc (v' := ((i + 1 : Nat) : Int)) (L' := [vR 169, vR o, vI m0, vI ((i + 1 : Nat) : Int), vI (misF t i)]) (dat d_Tr_findMiser 57 rfl) rfl (by decide) rfl (by omega) (by omega) rfl ?_
        refine x_goto (tgt := 23) (dat d_Tr_findMiser 58 rfl) (by decide) ?_
        first
        | (rw [if_pos (by omega)] at st
           exact nx _ _ _ (hp3.same (fun b _ _ => u4.2.2.2.2 b (by omega))) (R4.same (fun b _ _ => u4.2.2.2.2 b (by omega))) (by rw [st]; exact u4.1) (by rw [st]; exact u4.2.1) (fun b hb => by rw [u4.2.2.2.2 b (by omega)]; exact Fx b hb))
        | (rw [if_neg (by omega)] at st
           exact nx _ _ _ hp3 R4 (by rw [st, g01]; exact f0) (by rw [st, g1]) Fx)
      · refine x_aload_n (dat d_Tr_findMiser 51 rfl) rfl rfl ?_
        refine x_iload_n (dat d_Tr_findMiser 52 rfl) rfl rfl ?_
        refine x_iload (dat d_Tr_findMiser 53 rfl) rfl ?_
        refine x_iconst (dat d_Tr_findMiser 54 rfl) (by decide) ?_
        refine x_iconst (dat d_Tr_findMiser 55 rfl) (by decide) ?_
        refine x_inv (As := [vI (i : Int), vI (misF t i), vI (-1), vI (-1)]) (dat d_Tr_findMiser 56 rfl) rfl c_Tr_keepFound l_Tr_77 (by decide) (rv_tr (by decide +kernel)) rfl rfl (Nat.le_of_ble_eq_true rfl) ?_
        refine sp_Tr_keepFound ?_
        have u4 := up4 σ3 170 i (misF t i) (-1) (-1)
        show Wx g y_Tr_findMiser Z K 98 [vR 169, vR o, vI m0, vI (i : Int), vI (misF t i)] [] (up (up (up (up σ3 170 0 (i : Int)) 170 1 (misF t i)) 170 2 (-1)) 170 3 (-1))
        refine x_iinc (v' := ((i + 1 : Nat) : Int)) (L' := [vR 169, vR o, vI m0, vI ((i + 1 : Nat) : Int), vI (misF t i)]) (dat d_Tr_findMiser 57 rfl) rfl (by decide) rfl (by omega) (by omega) rfl ?_
        refine x_goto (tgt := 23) (dat d_Tr_findMiser 58 rfl) (by decide) ?_
        first
        | (rw [if_pos (by omega)] at st
           exact nx _ _ _ (hp3.same (fun b _ _ => u4.2.2.2.2 b (by omega))) (R4.same (fun b _ _ => u4.2.2.2.2 b (by omega))) (by rw [st]; exact u4.1) (by rw [st]; exact u4.2.1) (fun b hb => by rw [u4.2.2.2.2 b (by omega)]; exact Fx b hb))
        | (rw [if_neg (by omega)] at st
           exact nx _ _ _ hp3 R4 (by rw [st, g01]; exact f0) (by rw [st, g1]) Fx)
  refine x_enter 3 rfl rfl rfl (fun Z => ?_)
  show Wx g y_Tr_findMiser Z K 0 [vR 169, vR o, vU, vU, vU] [] σ
  refine x_aload_n (dat d_Tr_findMiser 0 rfl) rfl rfl ?_
  refine x_aload_n (dat d_Tr_findMiser 1 rfl) rfl rfl ?_
  refine x_inv (As := [vR o]) (dat d_Tr_findMiser 2 rfl) rfl c_Tr_begin l_Tr_74 (by decide) (rv_tr (by decide +kernel)) rfl rfl (Nat.le_of_ble_eq_true rfl) ?_
  refine sp_Tr_begin ho hT hR (fun σ1 hp R F1 => ?_)
  show Wx g y_Tr_findMiser Z K 5 [vR 169, vR o, vU, vU, vU] [] σ1
  refine x_aload_n (dat d_Tr_findMiser 3 rfl) rfl rfl ?_
  refine x_getr (r := 138) (dat d_Tr_findMiser 4 rfl) rfl f_Tr_15 (or_mk (by decide +kernel)) ?_
  refine x_geti (ji := 5) (v := σ1 138 5) (dat d_Tr_findMiser 5 rfl) rfl f_Tr_48 (oi_mk (by decide +kernel)) rfl ?_
  refine x_istore_n (L' := [vR 169, vR o, vI (σ1 138 5), vU, vU]) (dat d_Tr_findMiser 6 rfl) rfl (by decide) rfl rfl ?_
  refine x_aload_n (dat d_Tr_findMiser 7 rfl) rfl rfl ?_
  refine x_iconst (dat d_Tr_findMiser 8 rfl) (by decide) ?_
  refine x_iconst (dat d_Tr_findMiser 9 rfl) (by decide) ?_
  refine x_iconst (dat d_Tr_findMiser 10 rfl) (by decide) ?_
  refine x_iconst (dat d_Tr_findMiser 11 rfl) (by decide) ?_
  refine x_inv (As := [vI (-1), vI 0, vI (-1), vI (-1)]) (dat d_Tr_findMiser 12 rfl) rfl c_Tr_keepFound l_Tr_77 (by decide) (rv_tr (by decide +kernel)) rfl rfl (Nat.le_of_ble_eq_true rfl) ?_
  refine sp_Tr_keepFound ?_
  have u4 := up4 σ1 170 (-1) 0 (-1) (-1)
  show Wx g y_Tr_findMiser Z K 21 [vR 169, vR o, vI (σ1 138 5), vU, vU] [] (up (up (up (up σ1 170 0 (-1)) 170 1 0) 170 2 (-1)) 170 3 (-1))
  refine x_iconst (dat d_Tr_findMiser 13 rfl) (by decide) ?_
  refine x_istore_n (L' := [vR 169, vR o, vI (σ1 138 5), vI 0, vU]) (dat d_Tr_findMiser 14 rfl) rfl (by decide) rfl rfl ?_
  exact lp Z _ hp.2.2.2.2.2.1 (t 6).toNat 0 _ (cGl (cfg t)) _ (by omega) (hp.same (fun b _ _ => u4.2.2.2.2 b (by omega))) (R.same (fun b _ _ => u4.2.2.2.2 b (by omega))) u4.1 u4.2.1 (fun b hb => by rw [u4.2.2.2.2 b (by omega), F1 b (by omega)])
def tgl (s : Int → Bool) (p : Int) : Int → Bool := fun q => s q ^^ decide (q = p)
/-- whether one changes, by what he has at the end -/
def chB (t : Int → Int) (s : Int → Bool) (p : Int) : Bool := !cGl (cfg t) p && decide (brE (glC t s) p < brE (glC t (tgl s p)) p)
/-- one round of changes -/
def chN (t : Int → Int) (s : Int → Bool) : Nat → (Int → Bool) × Bool
  | 0 => (s, false)
  | n + 1 => if chB t (chN t s n).1 n = true then (tgl (chN t s n).1 n, true) else chN t s n
/-- rounds: who wears gloves, and the round that changed nothing; -1 if none yet -/
def rdN (t : Int → Int) : Nat → (Int → Bool) × Int
  | 0 => (fun _ => false, -1)
  | n + 1 => if (rdN t n).2 = -1 then ((chN t (rdN t n).1 (t 6).toNat).1, if (chN t (rdN t n).1 (t 6).toNat).2 = true then -1 else ((n + 1 : Nat) : Int)) else rdN t n
theorem rdN_stop {t : Int → Int} {n : Nat} (h : (rdN t n).2 ≠ -1) : ∀ d : Nat, rdN t (n + d) = rdN t n
  | 0 => rfl
  | d + 1 => by
    have h1 := rdN_stop h d
    show (if (rdN t (n + d)).2 = -1 then _ else rdN t (n + d)) = _
    rw [h1, if_neg h]
/-- who may change: in the town, not gloved by manner -/
def GlS (t : Int → Int) (s : Int → Bool) : Prop := ∀ q : Int, s q = true → 0 ≤ q ∧ q < t 6 ∧ cGl (cfg t) q = false
theorem GlS.flip {t : Int → Int} {s : Int → Bool} (h : GlS t s) {p : Int} (p0 : 0 ≤ p) (p1 : p < t 6) (hg : cGl (cfg t) p = false) : GlS t (tgl s p) := by
  intro q hq
  unfold tgl at hq
  by_cases e : q = p
  · rw [e]; exact ⟨p0, p1, hg⟩
  · rw [decide_eq_false e, Bool.xor_false] at hq
    exact h q hq
/-- the mask of the plan, and who is gloved besides -/
def GlM (m0 m : Int) (s : Int → Bool) : Prop := Msk 8 m (fun q => tb m0 q ^^ s q)
theorem GlM.plan {t : Int → Int} {m0 m : Int} {s : Int → Bool} (hP : t 6 ≤ 8) (h0 : Mss (t 6) m0 (cGl (cfg t))) (h : GlM m0 m s) (hs : GlS t s) : Mss (t 6) m (fun q => cGl (cfg t) q || s q) := by
  refine ⟨h.1, by have := h.2.1; omega, fun q q0 q1 => ?_⟩
  refine (h.2.2 q q0 (by omega)).trans ?_
  show (tb m0 q ^^ s q) = (cGl (cfg t) q || s q)
  rw [h0.2.2 q q0 q1]
  cases e : s q
  · simp
  · rw [(hs q e).2.2]; rfl
theorem GlM.flip {m0 m p : Int} {s : Int → Bool} (h : GlM m0 m s) (p0 : 0 ≤ p) (p1 : p < 8) : GlM m0 (ixor m (ishl 1 p)) (tgl s p) := (Msk.lxor (by decide) h (Msk.one (n := 8) (by decide) p0 p1)).congr (fun q _ _ => Bool.xor_assoc _ _ _)
theorem tgl_tgl (s : Int → Bool) (p : Int) : tgl (tgl s p) p = s := by
  funext q
  unfold tgl
  cases s q <;> cases decide (q = p) <;> rfl
