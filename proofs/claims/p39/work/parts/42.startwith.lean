/-! worlds: the run of a number, and whether it is so -/
def restT (t : Int → Int) (n : Int) : Nat → Int
  | 0 => n
  | p + 1 => restT t n p / (t (23 + 17 * (p : Int)) + 1)
def stW (t : Int → Int) (n p : Int) : Int := t (22 + 17 * p) + restT t n p.toNat % (t (23 + 17 * p) + 1)
def wC (t : Int → Int) (n : Int) : Cf := mSt (cfg t) (stW t n)
theorem PlanR.st {σ σ' : xS} {C : Cf} {f : Int → Int} (H : PlanR σ C) (hf : ∀ o : Nat, o ≠ 139 → σ' o = σ o) (hs : ∀ p : Int, 0 ≤ p → p < cS C 0 → σ' 139 p = f p) : PlanR σ' (mSt C f) := by
  obtain ⟨b0, b1, b2, b3, b4, b5, b6, b7, b8, b9, b10, b11, b12⟩ := H
  unfold PlanR
  rw [hf 138 (by decide), hf 140 (by decide), hf 141 (by decide), hf 142 (by decide)]
  exact ⟨b0, b1, b2, b3, b4, b5, b6, b7, b8, hs, b10, b11, b12⟩
theorem restT_nn {t : Int → Int} (hT : TownOk t) {n : Int} (n0 : 0 ≤ n) : ∀ p : Nat, (p : Int) ≤ t 6 → 0 ≤ restT t n p ∧ restT t n p ≤ n
  | 0, _ => ⟨n0, Int.le_refl n⟩
  | p + 1, h => by
    have h1 := restT_nn hT n0 p (by omega)
    have h2 := (hT.2.2.2.2.2.2.2.2.1 p (by omega) (by omega)).2.2.2.1
    simp only [restT]
    have h3 : restT t n p / (t (23 + 17 * (p : Int)) + 1) ≤ restT t n p := Int.ediv_le_self _ h1.1
    exact ⟨Int.ediv_nonneg h1.1 (by omega), by omega⟩
theorem wC_ok {t : Int → Int} (hT : TownOk t) (n : Int) : CfOk (wC t n) := by
  obtain ⟨g0, g1, g2, g3, g4, g5, g6, g7, g8, g9, g10, g11, g12⟩ := cfg_ok hT
  refine ⟨g0, g1, g2, g3, g4, g5, g6, g7, g8, g9, g10, g11, fun p p0 p1 => ?_⟩
  have h2 := hT.2.2.2.2.2.2.2.2.1 p p0 p1
  have a1 := h2.2.2.1
  have a2 := h2.2.2.2.1
  have m1 := Int.emod_nonneg (restT t n p.toNat) (show t (23 + 17 * p) + 1 ≠ 0 by omega)
  have m2 := Int.emod_lt_of_pos (restT t n p.toNat) (show 0 < t (23 + 17 * p) + 1 by omega)
  show 0 ≤ t (22 + 17 * p) + restT t n p.toNat % (t (23 + 17 * p) + 1) ∧ t (22 + 17 * p) + restT t n p.toNat % (t (23 + 17 * p) + 1) ≤ 33
  omega
theorem sp_Wo_startWith {g : xG} {K : Option MV → xS → Prop} {σ : xS} {o : Nat} {t : Int → Int} {n : Int} {f : Int → Int} (ho : IsTw o) (hT : TownOk t) (hR : TownR σ o t) (n0 : 0 ≤ n) (n1 : n ≤ 1024) (hp : PlanR σ (mSt (cfg t) f)) (k : ∀ σ' : xS, PlanR σ' (wC t n) → (∀ o : Nat, o ≠ 139 → σ' o = σ o) → K none σ') : Mt g y_Wo_startWith [vR 171, vR o, vI n] σ K := by
  have h6 := hT.2.2.2.2.2.2.1
  have lp : ∀ (Z : xZ) (d p : Nat) (σ1 : xS) (w5 : MV), (p : Int) + d = t 6 → (∀ q : Int, 0 ≤ q → q < p → σ1 139 q = stW t n q) → (∀ o : Nat, o ≠ 139 → σ1 o = σ o) → Wx g y_Wo_startWith Z K 5 [vR 171, vR o, vI n, vI (restT t n p), vI (p : Int), w5] [] σ1 := by
    intro Z d
    induction d with
    | zero =>
      intro p σ1 w5 hn H F
      have e0 : σ1 138 0 = t 6 := by rw [F 138 (by decide)]; exact hp.1
      refine x_iload (dat d_Wo_startWith 4 rfl) rfl ?_
      refine x_aload_n (dat d_Wo_startWith 5 rfl) rfl rfl ?_
      refine x_getr (r := 138) (dat d_Wo_startWith 6 rfl) rfl f_Wo_19 (or_mk (by decide +kernel)) ?_
      refine x_geti (ji := 0) (v := t 6) (dat d_Wo_startWith 7 rfl) rfl f_Wo_51 (oi_mk (by decide +kernel)) (e0) ?_
      refine x_icmp_ge (tgt := 65) (dat d_Wo_startWith 8 rfl) (by decide) (fun c_14 => ?_) (fun c_14 => (by omega))
      refine x_ret (dat d_Wo_startWith 37 rfl) rfl ?_
      exact k _ (PlanR.st (C := mSt (cfg t) f) hp F (fun q q0 q1 => H q q0 (by have q1 : q < t 6 := q1; omega))) F
    | succ d ih =>
      intro p σ1 w5 hn H F
      have e0 : σ1 138 0 = t 6 := by rw [F 138 (by decide)]; exact hp.1
      have hR1 : TownR σ1 o t := hR.same (fun b _ _ => F b (by have := tw_cs ho; omega))
      have r := hR1.2.1 (p : Int) (by omega) (by omega)
      have tt := hT.2.2.2.2.2.2.2.2.1 (p : Int) (by omega) (by omega)
      have a1 := tt.2.2.1
      have a2 := tt.2.2.2.1
      have rn := restT_nn hT n0 p (by omega)
      have m1 := Int.emod_nonneg (restT t n p) (show t (23 + 17 * (p : Int)) + 1 ≠ 0 by omega)
      have m2 := Int.emod_lt_of_pos (restT t n p) (show 0 < t (23 + 17 * (p : Int)) + 1 by omega)
      have e4 : σ1 (o + 4) (p : Int) = t (23 + 17 * (p : Int)) := r.2.2.2.1
      have e3 : σ1 (o + 3) (p : Int) = t (22 + 17 * (p : Int)) := r.2.2.1
      have fin : ∀ (x : Int) (w5' : MV), x = t (23 + 17 * (p : Int)) + 1 → Wx g y_Wo_startWith Z K 32 [vR 171, vR o, vI n, vI (restT t n p), vI (p : Int), vI x] [] σ1 := by
        intro x w5' ex
        subst ex
        refine x_aload_n (dat d_Wo_startWith 18 rfl) rfl rfl ?_
        refine x_getr (r := 138) (dat d_Wo_startWith 19 rfl) rfl f_Wo_19 (or_mk (by decide +kernel)) ?_
        refine x_getr (r := 139) (dat d_Wo_startWith 20 rfl) rfl f_Wo_84 (or_mk (by decide +kernel)) ?_
        refine x_iload (dat d_Wo_startWith 21 rfl) rfl ?_
        refine x_aload_n (dat d_Wo_startWith 22 rfl) rfl rfl ?_
        refine x_getr (r := o + 3) (dat d_Wo_startWith 23 rfl) rfl f_Wo_87 (tw_or_10 ho) ?_
        refine x_iload (dat d_Wo_startWith 24 rfl) rfl ?_
        refine x_iald (n := 8) (v := t (22 + 17 * (p : Int))) (dat d_Wo_startWith 25 rfl) (tw_ai_3 ho) (by omega) (by omega) (e3) ?_
        refine x_iload_n (dat d_Wo_startWith 26 rfl) rfl rfl ?_
        refine x_iload (dat d_Wo_startWith 27 rfl) rfl ?_
        refine x_irem (v := (restT t n p) % (t (23 + 17 * (p : Int)) + 1)) (dat d_Wo_startWith 28 rfl) (by omega) rfl ?_
        refine x_iadd (v := (t (22 + 17 * (p : Int))) + ((restT t n p) % (t (23 + 17 * (p : Int)) + 1))) (dat d_Wo_startWith 29 rfl) rfl (by omega) ?_
        refine x_iast (n := 8) (dat d_Wo_startWith 30 rfl) (ai_mk (by decide +kernel)) (by omega) (by omega) ?_
        refine x_iload_n (dat d_Wo_startWith 31 rfl) rfl rfl ?_
        refine x_iload (dat d_Wo_startWith 32 rfl) rfl ?_
        refine x_idiv (v := restT t n (p + 1)) (dat d_Wo_startWith 33 rfl) (by omega) (by rfl) ?_
        refine x_istore_n (L' := [vR 171, vR o, vI n, vI (restT t n (p + 1)), vI (p : Int), vI (t (23 + 17 * (p : Int)) + 1)]) (dat d_Wo_startWith 34 rfl) rfl (by decide) rfl rfl ?_
        refine x_iinc (v' := ((p + 1 : Nat) : Int)) (L' := [vR 171, vR o, vI n, vI (restT t n (p + 1)), vI ((p + 1 : Nat) : Int), vI (t (23 + 17 * (p : Int)) + 1)]) (dat d_Wo_startWith 35 rfl) rfl (by decide) rfl (by omega) (by omega) rfl ?_
        refine x_goto (tgt := 5) (dat d_Wo_startWith 36 rfl) (by decide) ?_
        refine ih (p + 1) _ _ (by omega) (fun q q0 q1 => ?_) (fun b hb => by rw [up_ne hb]; exact F b hb)
        by_cases e : q = (p : Int)
        · rw [e, up_s]
          unfold stW
          rw [Int.toNat_natCast]
        · rw [up_ni (Ne.symm e)]
          exact H q q0 (by omega)
      refine x_iload (dat d_Wo_startWith 4 rfl) rfl ?_
      refine x_aload_n (dat d_Wo_startWith 5 rfl) rfl rfl ?_
      refine x_getr (r := 138) (dat d_Wo_startWith 6 rfl) rfl f_Wo_19 (or_mk (by decide +kernel)) ?_
      refine x_geti (ji := 0) (v := t 6) (dat d_Wo_startWith 7 rfl) rfl f_Wo_51 (oi_mk (by decide +kernel)) (e0) ?_
      refine x_icmp_ge (tgt := 65) (dat d_Wo_startWith 8 rfl) (by decide) (fun c_14 => (by omega)) (fun c_14 => ?_)
      refine x_iconst (dat d_Wo_startWith 9 rfl) (by decide) ?_
      refine x_aload_n (dat d_Wo_startWith 10 rfl) rfl rfl ?_
      refine x_getr (r := o + 4) (dat d_Wo_startWith 11 rfl) rfl f_Wo_42 (tw_or_11 ho) ?_
      refine x_iload (dat d_Wo_startWith 12 rfl) rfl ?_
      refine x_iald (n := 8) (v := t (23 + 17 * (p : Int))) (dat d_Wo_startWith 13 rfl) (tw_ai_4 ho) (by omega) (by omega) (e4) ?_
      refine x_iconst (dat d_Wo_startWith 14 rfl) (by decide) ?_
      refine x_iadd (v := (t (23 + 17 * (p : Int))) + 1) (dat d_Wo_startWith 15 rfl) rfl (by omega) ?_
      refine x_mmax (own := "ShakenBread$Worlds") (dat d_Wo_startWith 16 rfl) rfl l_Wo_78 (by decide) (Nat.le_of_ble_eq_true rfl) (fun m_27 h1_27 h2_27 h3_27 => ?_)
      refine x_istore (L' := [vR 171, vR o, vI n, vI (restT t n p), vI (p : Int), vI m_27]) (dat d_Wo_startWith 17 rfl) (by decide) rfl rfl ?_
      exact fin _ vU (by omega)
  refine x_enter 3 rfl rfl rfl (fun Z => ?_)
  show Wx g y_Wo_startWith Z K 0 [vR 171, vR o, vI n, vU, vU, vU] [] σ
  refine x_iload_n (dat d_Wo_startWith 0 rfl) rfl rfl ?_
  refine x_istore_n (L' := [vR 171, vR o, vI n, vI n, vU, vU]) (dat d_Wo_startWith 1 rfl) rfl (by decide) rfl rfl ?_
  refine x_iconst (dat d_Wo_startWith 2 rfl) (by decide) ?_
  refine x_istore (L' := [vR 171, vR o, vI n, vI n, vI 0, vU]) (dat d_Wo_startWith 3 rfl) (by decide) rfl rfl ?_
  exact lp Z (t 6).toNat 0 σ _ (by omega) (fun q q0 q1 => by omega) (fun _ _ => rfl)
