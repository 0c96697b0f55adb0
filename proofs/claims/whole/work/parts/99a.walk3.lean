/-! the twin's answers: the walk by which one has most */ -/
def p5 (k : Nat) : Int := ((5 ^ k : Nat) : Int)
theorem p5_s (k : Nat) : p5 (k + 1) = p5 k * 5 := by
  unfold p5
  rw [Nat.pow_succ]
  rfl
theorem p5_pos : ∀ k : Nat, 0 < p5 k
  | 0 => by decide
  | k + 1 => by rw [p5_s]; have := p5_pos k; omega
theorem p5_le : ∀ k : Nat, k ≤ 4 → p5 k ≤ 625 := by decide
section
variable {s m w t : Int → Int}
theorem mC_Wk (f : Int → Int) (h27 : s 27 = -1) (h17 : s 17 = -1) (h32 : s 32 = -1) (p0 : 0 ≤ s 20) (h0 : 0 ≤ s 21) (hw : ∀ j : Int, 0 ≤ j → j < s 22 → w j = f j) : (mC s m w t).2.2.2.2.1 = fun h2 p2 => if p2 = s 20 ∧ s 21 ≤ h2 ∧ h2 < s 21 + s 22 then f (h2 - s 21) else cellT t p2 h2 := by
  funext h p
  show (if 0 ≤ h ∧ (0 ≤ p ∨ h = s 27) then cellM s w t p h else cellT t (gasM s p) h) = (if p = s 20 ∧ s 21 ≤ h ∧ h < s 21 + s 22 then f (h - s 21) else cellT t p h)
  have e : gasM s p = p := by unfold gasM; rw [if_pos h32]
  by_cases z : 0 ≤ h ∧ (0 ≤ p ∨ h = s 27)
  · rw [if_pos z]
    unfold cellM
    rw [if_neg (show ¬ h = s 27 by omega), if_neg (show ¬ (h = s 17 ∧ p = s 18) from fun y => by omega), e]
    by_cases y : p = s 20 ∧ s 21 ≤ h ∧ h < s 21 + s 22
    · rw [if_pos y, if_pos y]
      exact hw _ (by omega) (by omega)
    · rw [if_neg y, if_neg y]
  · rw [if_neg z, if_neg (show ¬ (p = s 20 ∧ s 21 ≤ h ∧ h < s 21 + s 22) from fun y => by omega), e]
end
section
variable {g : xG} {K : Option MV → xS → Prop} {σ σ0 : xS} {t : Int → Int} {t0 : Int} {a : Int → Int} {n : Int} {C : Cf}
theorem kn_wlk {p m c : Int} {h : Nat} (H : KnX σ t t0 [20]) (p0 : 0 ≤ p) (h1 : (h : Int) ≤ 23) (m0 : 1 ≤ m) (m1 : m ≤ 4) (e1 : σ 174 20 = p) (e2 : σ 174 21 = (h : Int)) (e3 : σ 174 22 = m) (hw : ∀ j : Int, 0 ≤ j → j < m → σ 178 j = wlk t c m (wlk0 t p h) (j + 1).toNat) : MoC σ t t0 (walC t p h m c) :=
  ⟨H.1, ⟨mC_mk (mC_N (H.s15 (by decide)) (H.s30 (by decide)) (H.s31 (by decide)) (H.s24 (by decide))) (mC_G (H.s13 (by decide))) rfl (mC_O (H.s14 (by decide)) (H.s16 (by decide))) (by rw [mC_Wk (fun j => wlk t c m (wlk0 t p h) (j + 1).toNat) (H.s27 (by decide)) (H.s17 (by decide)) (H.s32 (by decide)) (by omega) (by omega) (fun j j0 j1 => hw j j0 (by omega)), e1, e2, e3]; rfl) (mC_S (H.2.2.2 (by decide))), (cfg_ok H.1.2).whr _⟩, ⟨Or.inr ⟨by omega, by omega⟩, Or.inl (H.s32 (by decide))⟩, by rw [H.s13 (by decide)]; decide, by rw [H.s16 (by decide)]; decide⟩
theorem sp_Mo_stepped {c s : Int} (M : MoT σ t t0) (hT : TownOk t) (c0 : 0 ≤ c) (c1 : c < 100) (s0 : 0 ≤ s) (s1 : s < 5) (k : K (some (vI (stepT t c s))) σ) : Mt g y_Mo_stepped [vR 174, vI c, vI s] σ K := by
  have kk : ∀ v : Int, v = stepT t c s → K (some (vI v)) σ := fun v h => by rw [h]; exact k
  have cb := cells_bd hT
  have hw := hT.1
  have hm : 0 ≤ c % t 0 ∧ c % t 0 < t 0 := ⟨Int.emod_nonneg _ (by omega), Int.emod_lt_of_pos _ (by omega)⟩
  refine x_enter 1 rfl rfl rfl (fun Z => ?_)
  show Wx g y_Mo_stepped Z K 0 [vR 174, vI c, vI s, vU] [] σ
  refine x_aload_n (dat d_Mo_stepped 0 rfl) rfl rfl ?_
  refine x_iconst (dat d_Mo_stepped 1 rfl) (by decide) ?_
  refine x_inv (As := [vI 0]) (dat d_Mo_stepped 2 rfl) rfl c_Mo_of l_Mo_199 (by decide) (rv_mo (by decide +kernel)) rfl rfl (Nat.le_of_ble_eq_true rfl) ?_
  refine sp_Mo_of M (by decide) (by decide) ?_
  show Wx g y_Mo_stepped Z K 5 [vR 174, vI c, vI s, vU] [vI (t 0)] σ
  refine x_istore_n (L' := [vR 174, vI c, vI s, vI (t 0)]) (dat d_Mo_stepped 3 rfl) rfl (by decide) rfl rfl ?_
  refine x_iload_n (dat d_Mo_stepped 4 rfl) rfl rfl ?_
  refine x_iconst (dat d_Mo_stepped 5 rfl) (by decide) ?_
  refine x_icmp_ne (tgt := 13) (dat d_Mo_stepped 6 rfl) (by decide) (fun c_8 => ?_) (fun c_8 => ?_)
  · refine x_iload_n (dat d_Mo_stepped 9 rfl) rfl rfl ?_
    refine x_if_ne (tgt := 30) (dat d_Mo_stepped 10 rfl) (by decide) (fun c_14 => ?_) (fun c_14 => ?_)
    · refine x_iload_n (dat d_Mo_stepped 20 rfl) rfl rfl ?_
      refine x_iconst (dat d_Mo_stepped 21 rfl) (by decide) ?_
      refine x_icmp_ne (tgt := 52) (dat d_Mo_stepped 22 rfl) (by decide) (fun c_32 => ?_) (fun c_32 => ?_)
      · refine x_iload_n (dat d_Mo_stepped 36 rfl) rfl rfl ?_
        refine x_iconst (dat d_Mo_stepped 37 rfl) (by decide) ?_
        refine x_icmp_ne (tgt := 75) (dat d_Mo_stepped 38 rfl) (by decide) (fun c_54 => ?_) (fun c_54 => ?_)
        · refine x_iload_n (dat d_Mo_stepped 51 rfl) rfl rfl ?_
          refine x_iload_n (dat d_Mo_stepped 52 rfl) rfl rfl ?_
          refine x_irem (v := c % (t 0)) (dat d_Mo_stepped 53 rfl) (by omega) rfl ?_
          refine x_if_ne (tgt := 85) (dat d_Mo_stepped 54 rfl) (by decide) (fun c_78 => ?_) (fun c_78 => ?_)
          · refine x_iload_n (dat d_Mo_stepped 57 rfl) rfl rfl ?_
            refine x_iconst (dat d_Mo_stepped 58 rfl) (by decide) ?_
            refine x_isub (v := c - 1) (dat d_Mo_stepped 59 rfl) rfl (by omega) ?_
            refine x_iret (dat d_Mo_stepped 60 rfl) rfl ?_
            refine kk _ ?_
            unfold stepT
            first
            | rw [if_pos (by omega)]
            | rw [if_neg (by omega), if_pos (by omega), if_pos (by omega)]
            | rw [if_neg (by omega), if_pos (by omega), if_neg (by omega)]
            | rw [if_neg (by omega), if_neg (by omega), if_pos (by omega), if_pos (by omega)]
            | rw [if_neg (by omega), if_neg (by omega), if_pos (by omega), if_neg (by omega)]
            | rw [if_neg (by omega), if_neg (by omega), if_neg (by omega), if_pos (by omega), if_pos (by omega)]
            | rw [if_neg (by omega), if_neg (by omega), if_neg (by omega), if_pos (by omega), if_neg (by omega)]
            | rw [if_neg (by omega), if_neg (by omega), if_neg (by omega), if_neg (by omega), if_pos (by omega)]
            | rw [if_neg (by omega), if_neg (by omega), if_neg (by omega), if_neg (by omega), if_neg (by omega)]
          · refine x_iconst (dat d_Mo_stepped 55 rfl) (by decide) ?_
            refine x_goto (tgt := 88) (dat d_Mo_stepped 56 rfl) (by decide) ?_
            refine x_iret (dat d_Mo_stepped 60 rfl) rfl ?_
            refine kk _ ?_
            unfold stepT
            first
            | rw [if_pos (by omega)]
            | rw [if_neg (by omega), if_pos (by omega), if_pos (by omega)]
            | rw [if_neg (by omega), if_pos (by omega), if_neg (by omega)]
            | rw [if_neg (by omega), if_neg (by omega), if_pos (by omega), if_pos (by omega)]
            | rw [if_neg (by omega), if_neg (by omega), if_pos (by omega), if_neg (by omega)]
            | rw [if_neg (by omega), if_neg (by omega), if_neg (by omega), if_pos (by omega), if_pos (by omega)]
            | rw [if_neg (by omega), if_neg (by omega), if_neg (by omega), if_pos (by omega), if_neg (by omega)]
            | rw [if_neg (by omega), if_neg (by omega), if_neg (by omega), if_neg (by omega), if_pos (by omega)]
            | rw [if_neg (by omega), if_neg (by omega), if_neg (by omega), if_neg (by omega), if_neg (by omega)]
        · refine x_iload_n (dat d_Mo_stepped 39 rfl) rfl rfl ?_
          refine x_iload_n (dat d_Mo_stepped 40 rfl) rfl rfl ?_
          refine x_iadd (v := c + (t 0)) (dat d_Mo_stepped 41 rfl) rfl (by omega) ?_
          refine x_aload_n (dat d_Mo_stepped 42 rfl) rfl rfl ?_
          refine x_inv (As := []) (dat d_Mo_stepped 43 rfl) rfl c_Mo_cells l_Mo_373 (by decide) (rv_mo (by decide +kernel)) rfl rfl (Nat.le_of_ble_eq_true rfl) ?_
          refine sp_Mo_cells M hT ?_
          show Wx g y_Mo_stepped Z K 64 [vR 174, vI c, vI s, vI (t 0)] [vI (t 0 * t 1), vI (c + (t 0))] σ
          refine x_icmp_lt (tgt := 71) (dat d_Mo_stepped 44 rfl) (by decide) (fun c_64 => ?_) (fun c_64 => ?_)
          · refine x_iload_n (dat d_Mo_stepped 47 rfl) rfl rfl ?_
            refine x_iload_n (dat d_Mo_stepped 48 rfl) rfl rfl ?_
            refine x_iadd (v := c + (t 0)) (dat d_Mo_stepped 49 rfl) rfl (by omega) ?_
            refine x_iret (dat d_Mo_stepped 50 rfl) rfl ?_
            refine kk _ ?_
            unfold stepT
            first
            | rw [if_pos (by omega)]
            | rw [if_neg (by omega), if_pos (by omega), if_pos (by omega)]
            | rw [if_neg (by omega), if_pos (by omega), if_neg (by omega)]
            | rw [if_neg (by omega), if_neg (by omega), if_pos (by omega), if_pos (by omega)]
            | rw [if_neg (by omega), if_neg (by omega), if_pos (by omega), if_neg (by omega)]
            | rw [if_neg (by omega), if_neg (by omega), if_neg (by omega), if_pos (by omega), if_pos (by omega)]
            | rw [if_neg (by omega), if_neg (by omega), if_neg (by omega), if_pos (by omega), if_neg (by omega)]
            | rw [if_neg (by omega), if_neg (by omega), if_neg (by omega), if_neg (by omega), if_pos (by omega)]
            | rw [if_neg (by omega), if_neg (by omega), if_neg (by omega), if_neg (by omega), if_neg (by omega)]
          · refine x_iconst (dat d_Mo_stepped 45 rfl) (by decide) ?_
            refine x_goto (tgt := 74) (dat d_Mo_stepped 46 rfl) (by decide) ?_
            refine x_iret (dat d_Mo_stepped 50 rfl) rfl ?_
            refine kk _ ?_
            unfold stepT
            first
            | rw [if_pos (by omega)]
            | rw [if_neg (by omega), if_pos (by omega), if_pos (by omega)]
            | rw [if_neg (by omega), if_pos (by omega), if_neg (by omega)]
            | rw [if_neg (by omega), if_neg (by omega), if_pos (by omega), if_pos (by omega)]
            | rw [if_neg (by omega), if_neg (by omega), if_pos (by omega), if_neg (by omega)]
            | rw [if_neg (by omega), if_neg (by omega), if_neg (by omega), if_pos (by omega), if_pos (by omega)]
            | rw [if_neg (by omega), if_neg (by omega), if_neg (by omega), if_pos (by omega), if_neg (by omega)]
            | rw [if_neg (by omega), if_neg (by omega), if_neg (by omega), if_neg (by omega), if_pos (by omega)]
            | rw [if_neg (by omega), if_neg (by omega), if_neg (by omega), if_neg (by omega), if_neg (by omega)]
      · refine x_iload_n (dat d_Mo_stepped 23 rfl) rfl rfl ?_
        refine x_iload_n (dat d_Mo_stepped 24 rfl) rfl rfl ?_
        refine x_irem (v := c % (t 0)) (dat d_Mo_stepped 25 rfl) (by omega) rfl ?_
        refine x_iload_n (dat d_Mo_stepped 26 rfl) rfl rfl ?_
        refine x_iconst (dat d_Mo_stepped 27 rfl) (by decide) ?_
        refine x_isub (v := (t 0) - 1) (dat d_Mo_stepped 28 rfl) rfl (by omega) ?_
        refine x_icmp_ne (tgt := 48) (dat d_Mo_stepped 29 rfl) (by decide) (fun c_41 => ?_) (fun c_41 => ?_)
        · refine x_iload_n (dat d_Mo_stepped 32 rfl) rfl rfl ?_
          refine x_iconst (dat d_Mo_stepped 33 rfl) (by decide) ?_
          refine x_iadd (v := c + 1) (dat d_Mo_stepped 34 rfl) rfl (by omega) ?_
          refine x_iret (dat d_Mo_stepped 35 rfl) rfl ?_
          refine kk _ ?_
          unfold stepT
          first
          | rw [if_pos (by omega)]
          | rw [if_neg (by omega), if_pos (by omega), if_pos (by omega)]
          | rw [if_neg (by omega), if_pos (by omega), if_neg (by omega)]
          | rw [if_neg (by omega), if_neg (by omega), if_pos (by omega), if_pos (by omega)]
          | rw [if_neg (by omega), if_neg (by omega), if_pos (by omega), if_neg (by omega)]
          | rw [if_neg (by omega), if_neg (by omega), if_neg (by omega), if_pos (by omega), if_pos (by omega)]
          | rw [if_neg (by omega), if_neg (by omega), if_neg (by omega), if_pos (by omega), if_neg (by omega)]
          | rw [if_neg (by omega), if_neg (by omega), if_neg (by omega), if_neg (by omega), if_pos (by omega)]
          | rw [if_neg (by omega), if_neg (by omega), if_neg (by omega), if_neg (by omega), if_neg (by omega)]
        · refine x_iconst (dat d_Mo_stepped 30 rfl) (by decide) ?_
          refine x_goto (tgt := 51) (dat d_Mo_stepped 31 rfl) (by decide) ?_
          refine x_iret (dat d_Mo_stepped 35 rfl) rfl ?_
          refine kk _ ?_
          unfold stepT
          first
          | rw [if_pos (by omega)]
          | rw [if_neg (by omega), if_pos (by omega), if_pos (by omega)]
          | rw [if_neg (by omega), if_pos (by omega), if_neg (by omega)]
          | rw [if_neg (by omega), if_neg (by omega), if_pos (by omega), if_pos (by omega)]
          | rw [if_neg (by omega), if_neg (by omega), if_pos (by omega), if_neg (by omega)]
          | rw [if_neg (by omega), if_neg (by omega), if_neg (by omega), if_pos (by omega), if_pos (by omega)]
          | rw [if_neg (by omega), if_neg (by omega), if_neg (by omega), if_pos (by omega), if_neg (by omega)]
          | rw [if_neg (by omega), if_neg (by omega), if_neg (by omega), if_neg (by omega), if_pos (by omega)]
          | rw [if_neg (by omega), if_neg (by omega), if_neg (by omega), if_neg (by omega), if_neg (by omega)]
    · refine x_iload_n (dat d_Mo_stepped 11 rfl) rfl rfl ?_
      refine x_iload_n (dat d_Mo_stepped 12 rfl) rfl rfl ?_
      refine x_icmp_ge (tgt := 26) (dat d_Mo_stepped 13 rfl) (by decide) (fun c_19 => ?_) (fun c_19 => ?_)
      · refine x_iload_n (dat d_Mo_stepped 16 rfl) rfl rfl ?_
        refine x_iload_n (dat d_Mo_stepped 17 rfl) rfl rfl ?_
        refine x_isub (v := c - (t 0)) (dat d_Mo_stepped 18 rfl) rfl (by omega) ?_
        refine x_iret (dat d_Mo_stepped 19 rfl) rfl ?_
        refine kk _ ?_
        unfold stepT
        first
        | rw [if_pos (by omega)]
        | rw [if_neg (by omega), if_pos (by omega), if_pos (by omega)]
        | rw [if_neg (by omega), if_pos (by omega), if_neg (by omega)]
        | rw [if_neg (by omega), if_neg (by omega), if_pos (by omega), if_pos (by omega)]
        | rw [if_neg (by omega), if_neg (by omega), if_pos (by omega), if_neg (by omega)]
        | rw [if_neg (by omega), if_neg (by omega), if_neg (by omega), if_pos (by omega), if_pos (by omega)]
        | rw [if_neg (by omega), if_neg (by omega), if_neg (by omega), if_pos (by omega), if_neg (by omega)]
        | rw [if_neg (by omega), if_neg (by omega), if_neg (by omega), if_neg (by omega), if_pos (by omega)]
        | rw [if_neg (by omega), if_neg (by omega), if_neg (by omega), if_neg (by omega), if_neg (by omega)]
      · refine x_iconst (dat d_Mo_stepped 14 rfl) (by decide) ?_
        refine x_goto (tgt := 29) (dat d_Mo_stepped 15 rfl) (by decide) ?_
        refine x_iret (dat d_Mo_stepped 19 rfl) rfl ?_
        refine kk _ ?_
        unfold stepT
        first
        | rw [if_pos (by omega)]
        | rw [if_neg (by omega), if_pos (by omega), if_pos (by omega)]
        | rw [if_neg (by omega), if_pos (by omega), if_neg (by omega)]
        | rw [if_neg (by omega), if_neg (by omega), if_pos (by omega), if_pos (by omega)]
        | rw [if_neg (by omega), if_neg (by omega), if_pos (by omega), if_neg (by omega)]
        | rw [if_neg (by omega), if_neg (by omega), if_neg (by omega), if_pos (by omega), if_pos (by omega)]
        | rw [if_neg (by omega), if_neg (by omega), if_neg (by omega), if_pos (by omega), if_neg (by omega)]
        | rw [if_neg (by omega), if_neg (by omega), if_neg (by omega), if_neg (by omega), if_pos (by omega)]
        | rw [if_neg (by omega), if_neg (by omega), if_neg (by omega), if_neg (by omega), if_neg (by omega)]
  · refine x_iload_n (dat d_Mo_stepped 7 rfl) rfl rfl ?_
    refine x_iret (dat d_Mo_stepped 8 rfl) rfl ?_
    refine kk _ ?_
    unfold stepT
    first
    | rw [if_pos (by omega)]
    | rw [if_neg (by omega), if_pos (by omega), if_pos (by omega)]
    | rw [if_neg (by omega), if_pos (by omega), if_neg (by omega)]
    | rw [if_neg (by omega), if_neg (by omega), if_pos (by omega), if_pos (by omega)]
    | rw [if_neg (by omega), if_neg (by omega), if_pos (by omega), if_neg (by omega)]
    | rw [if_neg (by omega), if_neg (by omega), if_neg (by omega), if_pos (by omega), if_pos (by omega)]
    | rw [if_neg (by omega), if_neg (by omega), if_neg (by omega), if_pos (by omega), if_neg (by omega)]
    | rw [if_neg (by omega), if_neg (by omega), if_neg (by omega), if_neg (by omega), if_pos (by omega)]
    | rw [if_neg (by omega), if_neg (by omega), if_neg (by omega), if_neg (by omega), if_neg (by omega)]
theorem sp_Mo_isWalk {c s : Int} {m : Nat} (M : MoT σ t t0) (hT : TownOk t) (e22 : σ 174 22 = (m : Int)) (m0 : 1 ≤ m) (m1 : m ≤ 4) (c0 : 0 ≤ c) (s0 : 0 ≤ s) (s1 : s < t 0 * t 1)
    (kt : ∀ σ' : xS, wlk t c m s m ≠ -1 → (∀ j : Int, 0 ≤ j → j < m → σ' 178 j = wlk t c m s (j + 1).toNat) → (∀ o : Nat, o ≠ 178 → σ' o = σ o) → K (some (vI 1)) σ')
    (kf : ∀ σ' : xS, wlk t c m s m = -1 → (∀ o : Nat, o ≠ 178 → σ' o = σ o) → K (some (vI 0)) σ') : Mt g y_Mo_isWalk [vR 174, vI c, vI s] σ K := by
  have cb := cells_bd hT
  have wi := wlk_in hT c m s0 s1
  have lp2 : ∀ (Z : xZ) (d i : Nat) (σ1 : xS) (U : Int), i + d = m → 0 ≤ U → U ≤ 625 → (i < m → U = p5 (m - 1 - i)) → (∀ j : Int, 0 ≤ j → j < i → σ1 178 j = wlk t c m s (j + 1).toNat) → (∀ o : Nat, o ≠ 178 → σ1 o = σ o) → Wx g y_Mo_isWalk Z K 30 [vR 174, vI c, vI s, vI U, vI (wlk t c m s i), vI (i : Int)] [] σ1 := by
    intro Z d
    induction d with
    | zero =>
      intro i σ1 U hd U0 U1 hU hj F
      have e : i = m := by omega
      have e2 : σ1 174 22 = (m : Int) := by rw [F 174 (by decide)]; exact e22
      have wi2 := wi i
      generalize hx : wlk t c m s i = x at wi2
      rw [e] at hx
      refine x_iload (dat d_Mo_isWalk 18 rfl) rfl ?_
      refine x_aload_n (dat d_Mo_isWalk 19 rfl) rfl rfl ?_
      refine x_geti (ji := 22) (v := (m : Int)) (dat d_Mo_isWalk 20 rfl) rfl f_Mo_277 (oi_mk (by decide +kernel)) (e2) ?_
      refine x_icmp_ge (tgt := 76) (dat d_Mo_isWalk 21 rfl) (by decide) (fun c_36 => ?_) (fun c_36 => (by omega))
      refine x_iload (dat d_Mo_isWalk 44 rfl) rfl ?_
      refine x_if_lt (tgt := 85) (dat d_Mo_isWalk 45 rfl) (by decide) (fun c_78 => ?_) (fun c_78 => ?_)
      · refine x_iconst (dat d_Mo_isWalk 48 rfl) (by decide) ?_
        refine x_zret (dat d_Mo_isWalk 49 rfl) rfl (by decide) ?_
        first
        | exact kt σ1 (by rw [hx]; omega) (fun j j0 j1 => hj j j0 (by omega)) F
        | exact kf σ1 (by rw [hx]; omega) F
      · refine x_iconst (dat d_Mo_isWalk 46 rfl) (by decide) ?_
        refine x_goto (tgt := 86) (dat d_Mo_isWalk 47 rfl) (by decide) ?_
        refine x_zret (dat d_Mo_isWalk 49 rfl) rfl (by decide) ?_
        first
        | exact kt σ1 (by rw [hx]; omega) (fun j j0 j1 => hj j j0 (by omega)) F
        | exact kf σ1 (by rw [hx]; omega) F
    | succ d ih =>
      intro i σ1 U hd U0 U1 hU hj F
      have e2 : σ1 174 22 = (m : Int) := by rw [F 174 (by decide)]; exact e22
      have wi2 := wi i
      have eU := hU (by omega)
      have pp := p5_pos (m - 1 - i)
      have ws : wlk t c m s (i + 1) = if wlk t c m s i = -1 then -1 else stepT t (wlk t c m s i) (c / U % 5) := by
        show (if wlk t c m s i = -1 then -1 else stepT t (wlk t c m s i) (c / ((5 ^ ((m : Int) - 1 - (i : Int)).toNat : Nat) : Int) % 5)) = _
        rw [eU, show ((m : Int) - 1 - (i : Int)).toNat = m - 1 - i by omega]
        rfl
      have q0 : 0 ≤ c / U := Int.ediv_nonneg c0 U0
      have nst : wlk t c m s i = -1 → wlk t c m s m = -1 := fun z => by
        have := wlk_stop z (m - i)
        rw [show i + (m - i) = m by omega] at this
        exact this
      have nU : i + 1 < m → U / 5 = p5 (m - 1 - (i + 1)) := fun z => by
        rw [eU, show m - 1 - i = (m - 1 - (i + 1)) + 1 by omega, p5_s]
        omega
      have nx : ∀ (σ2 : xS) (U' x' : Int), 0 ≤ U' → U' ≤ 625 → (i + 1 < m → U' = p5 (m - 1 - (i + 1))) → x' = wlk t c m s (i + 1) → (∀ j : Int, 0 ≤ j → j < ((i + 1 : Nat) : Int) → σ2 178 j = wlk t c m s (j + 1).toNat) → (∀ o : Nat, o ≠ 178 → σ2 o = σ o) → Wx g y_Mo_isWalk Z K 30 [vR 174, vI c, vI s, vI U', vI x', vI ((i + 1 : Nat) : Int)] [] σ2 := fun σ2 U' x' g1 g2 g3 g4 g5 g6 => by rw [g4]; exact ih (i + 1) σ2 U' (by omega) g1 g2 g3 g5 g6
      generalize hx : wlk t c m s i = x at wi2 ws nst
      clear ih wi
      refine x_iload (dat d_Mo_isWalk 18 rfl) rfl ?_
      refine x_aload_n (dat d_Mo_isWalk 19 rfl) rfl rfl ?_
      refine x_geti (ji := 22) (v := (m : Int)) (dat d_Mo_isWalk 20 rfl) rfl f_Mo_277 (oi_mk (by decide +kernel)) (e2) ?_
      refine x_icmp_ge (tgt := 76) (dat d_Mo_isWalk 21 rfl) (by decide) (fun c_36 => (by omega)) (fun c_36 => ?_)
      refine x_iload (dat d_Mo_isWalk 22 rfl) rfl ?_
      refine x_if_lt (tgt := 76) (dat d_Mo_isWalk 23 rfl) (by decide) (fun c_41 => ?_) (fun c_41 => ?_)
      · refine x_iload (dat d_Mo_isWalk 44 rfl) rfl ?_
        refine x_if_lt (tgt := 85) (dat d_Mo_isWalk 45 rfl) (by decide) (fun c_78 => ?_) (fun c_78 => ?_)
        · refine x_iconst (dat d_Mo_isWalk 48 rfl) (by decide) ?_
          refine x_zret (dat d_Mo_isWalk 49 rfl) rfl (by decide) ?_
          first
          | exact kf σ1 (nst (by omega)) F
          | (exfalso; omega)
        · refine x_iconst (dat d_Mo_isWalk 46 rfl) (by decide) ?_
          refine x_goto (tgt := 86) (dat d_Mo_isWalk 47 rfl) (by decide) ?_
          refine x_zret (dat d_Mo_isWalk 49 rfl) rfl (by decide) ?_
          first
          | exact kf σ1 (nst (by omega)) F
          | (exfalso; omega)
      · refine x_aload_n (dat d_Mo_isWalk 24 rfl) rfl rfl ?_
        refine x_iload (dat d_Mo_isWalk 25 rfl) rfl ?_
        refine x_iload_n (dat d_Mo_isWalk 26 rfl) rfl rfl ?_
        refine x_iload_n (dat d_Mo_isWalk 27 rfl) rfl rfl ?_
        refine x_idiv (v := c / U) (dat d_Mo_isWalk 28 rfl) (by exact ⟨c0, by omega⟩) rfl ?_
        refine x_iconst (dat d_Mo_isWalk 29 rfl) (by decide) ?_
        refine x_irem (v := (c / U) % 5) (dat d_Mo_isWalk 30 rfl) (by exact ⟨q0, by decide⟩) rfl ?_
        refine x_inv (As := [vI x, vI ((c / U) % 5)]) (dat d_Mo_isWalk 31 rfl) rfl c_Mo_stepped l_Mo_376 (by decide) (rv_mo (by decide +kernel)) rfl rfl (Nat.le_of_ble_eq_true rfl) ?_
        refine sp_Mo_stepped (M.same (by rw [F 174 (by decide)]) (F 175 (by decide))) hT (by omega) (by omega) (Int.emod_nonneg _ (by decide)) (Int.emod_lt_of_pos _ (by decide)) ?_
        rw [show stepT t x (c / U % 5) = wlk t c m s (i + 1) by rw [ws, if_neg (by omega)]]
        show Wx g y_Mo_isWalk Z K 55 [vR 174, vI c, vI s, vI U, vI x, vI (i : Int)] [vI (wlk t c m s (i + 1))] σ1
        refine x_istore (L' := [vR 174, vI c, vI s, vI U, vI (wlk t c m s (i + 1)), vI (i : Int)]) (dat d_Mo_isWalk 32 rfl) (by decide) rfl rfl ?_
        refine x_aload_n (dat d_Mo_isWalk 33 rfl) rfl rfl ?_
        refine x_getr (r := 178) (dat d_Mo_isWalk 34 rfl) rfl f_Mo_20 (or_mk (by decide +kernel)) ?_
        refine x_iload (dat d_Mo_isWalk 35 rfl) rfl ?_
        refine x_iload (dat d_Mo_isWalk 36 rfl) rfl ?_
        refine x_iast (n := 4) (dat d_Mo_isWalk 37 rfl) (ai_mk (by decide +kernel)) (by omega) (by omega) ?_
        refine x_iload_n (dat d_Mo_isWalk 38 rfl) rfl rfl ?_
        refine x_iconst (dat d_Mo_isWalk 39 rfl) (by decide) ?_
        refine x_idiv (v := U / 5) (dat d_Mo_isWalk 40 rfl) (by omega) rfl ?_
        refine x_istore_n (L' := [vR 174, vI c, vI s, vI (U / 5), vI (wlk t c m s (i + 1)), vI (i : Int)]) (dat d_Mo_isWalk 41 rfl) rfl (by decide) rfl rfl ?_
        refine x_iinc (v' := ((i + 1 : Nat) : Int)) (L' := [vR 174, vI c, vI s, vI (U / 5), vI (wlk t c m s (i + 1)), vI ((i + 1 : Nat) : Int)]) (dat d_Mo_isWalk 42 rfl) rfl (by decide) rfl (by omega) (by omega) rfl ?_
        refine x_goto (tgt := 30) (dat d_Mo_isWalk 43 rfl) (by decide) ?_
        refine nx _ _ _ (by omega) (by omega) nU rfl (fun j j0 j1 => ?_) (fun o ho => by rw [up_ne ho]; exact F o ho)
        by_cases z : j = (i : Int)
        · rw [z, up_s, show ((i : Int) + 1).toNat = i + 1 by omega]
        · rw [up_ni (Ne.symm z)]; exact hj j j0 (by omega)
  have lp1 : ∀ (Z : xZ) (d i : Nat) (w5 : MV), i + 1 + d = m → Wx g y_Mo_isWalk Z K 5 [vR 174, vI c, vI s, vI (p5 i), vI ((i + 1 : Nat) : Int), w5] [] σ := by
    intro Z d
    induction d with
    | zero =>
      intro i w5 hd
      have pp := p5_pos i
      have pl := p5_le i (by omega)
      refine x_iload (dat d_Mo_isWalk 4 rfl) rfl ?_
      refine x_aload_n (dat d_Mo_isWalk 5 rfl) rfl rfl ?_
      refine x_geti (ji := 22) (v := (m : Int)) (dat d_Mo_isWalk 6 rfl) rfl f_Mo_277 (oi_mk (by decide +kernel)) (e22) ?_
      refine x_icmp_ge (tgt := 24) (dat d_Mo_isWalk 7 rfl) (by decide) (fun c_11 => ?_) (fun c_11 => (by omega))
      refine x_iload_n (dat d_Mo_isWalk 14 rfl) rfl rfl ?_
      refine x_istore (L' := [vR 174, vI c, vI s, vI (p5 i), vI s, w5]) (dat d_Mo_isWalk 15 rfl) (by decide) rfl rfl ?_
      refine x_iconst (dat d_Mo_isWalk 16 rfl) (by decide) ?_
      refine x_istore (L' := [vR 174, vI c, vI s, vI (p5 i), vI s, vI 0]) (dat d_Mo_isWalk 17 rfl) (by decide) rfl rfl ?_
      exact lp2 Z m 0 σ (p5 i) (by omega) (by omega) pl (fun _ => by congr 1; omega) (fun j j0 j1 => by omega) (fun _ _ => rfl)
    | succ d ih =>
      intro i w5 hd
      have pp := p5_pos i
      have pl := p5_le i (by omega)
      refine x_iload (dat d_Mo_isWalk 4 rfl) rfl ?_
      refine x_aload_n (dat d_Mo_isWalk 5 rfl) rfl rfl ?_
      refine x_geti (ji := 22) (v := (m : Int)) (dat d_Mo_isWalk 6 rfl) rfl f_Mo_277 (oi_mk (by decide +kernel)) (e22) ?_
      refine x_icmp_ge (tgt := 24) (dat d_Mo_isWalk 7 rfl) (by decide) (fun c_11 => (by omega)) (fun c_11 => ?_)
      refine x_iload_n (dat d_Mo_isWalk 8 rfl) rfl rfl ?_
      refine x_iconst (dat d_Mo_isWalk 9 rfl) (by decide) ?_
      refine x_imul (v := p5 (i + 1)) (dat d_Mo_isWalk 10 rfl) (by exact (p5_s i).symm) (by have := p5_s i; omega) ?_
      refine x_istore_n (L' := [vR 174, vI c, vI s, vI (p5 (i + 1)), vI ((i + 1 : Nat) : Int), w5]) (dat d_Mo_isWalk 11 rfl) rfl (by decide) rfl rfl ?_
      refine x_iinc (v' := ((i + 1 + 1 : Nat) : Int)) (L' := [vR 174, vI c, vI s, vI (p5 (i + 1)), vI ((i + 1 + 1 : Nat) : Int), w5]) (dat d_Mo_isWalk 12 rfl) rfl (by decide) rfl (by omega) (by omega) rfl ?_
      refine x_goto (tgt := 5) (dat d_Mo_isWalk 13 rfl) (by decide) ?_
      exact ih (i + 1) _ (by omega)
  refine x_enter 3 rfl rfl rfl (fun Z => ?_)
  show Wx g y_Mo_isWalk Z K 0 [vR 174, vI c, vI s, vU, vU, vU] [] σ
  refine x_iconst (dat d_Mo_isWalk 0 rfl) (by decide) ?_
  refine x_istore_n (L' := [vR 174, vI c, vI s, vI 1, vU, vU]) (dat d_Mo_isWalk 1 rfl) rfl (by decide) rfl rfl ?_
  refine x_iconst (dat d_Mo_isWalk 2 rfl) (by decide) ?_
  refine x_istore (L' := [vR 174, vI c, vI s, vI 1, vI 1, vU]) (dat d_Mo_isWalk 3 rfl) (by decide) rfl rfl ?_
  exact lp1 Z (m - 1) 0 _ (by omega)
theorem mxN_s {f : Nat → Int} {i : Nat} {b l : Int} (h : mxN f i = (b, l)) : mxN f (i + 1) = if l < f i then ((i : Int), f i) else (b, l) := by
  show (if (mxN f i).2 < f i then ((i : Int), f i) else mxN f i) = _
  rw [h]
/-- the figure of a walk's number that is asked -/
theorem lp_Mo_wdig {Z : xZ} {p h w s N l : Int} {m J : Nat} {B : Int} (B0 : 0 ≤ B) (hJ : (J : Int) = (m : Int) - 1 - (w - 10)) (hJ4 : J ≤ 3) (w0 : 10 ≤ w) (w1 : w < 100) (k : K (some (vI (B / p5 J % 5))) σ) : ∀ (d j : Nat) (w11 : MV), j + d = J → Wx g y_Mo_walk Z K 226 [vR 174, vI n, vI p, vI h, vI (m : Int), vI w, vI s, vI N, vI (B / p5 j), vI l, vI ((m : Int) - 1 - j), w11] [] σ := by
  intro d
  induction d with
  | zero =>
    intro j w11 hd
    have e : j = J := by omega
    have q0 : 0 ≤ B / p5 j := Int.ediv_nonneg B0 (Int.le_of_lt (p5_pos j))
    refine x_iload (dat d_Mo_walk 117 rfl) rfl ?_
    refine x_iload (dat d_Mo_walk 118 rfl) rfl ?_
    refine x_bipush (dat d_Mo_walk 119 rfl) (by decide) (by decide) ?_
    refine x_isub (v := w - 10) (dat d_Mo_walk 120 rfl) rfl (by omega) ?_
    refine x_icmp_le (tgt := 248) (dat d_Mo_walk 121 rfl) (by decide) (fun c_233 => ?_) (fun c_233 => (by omega))
    refine x_iload (dat d_Mo_walk 128 rfl) rfl ?_
    refine x_iconst (dat d_Mo_walk 129 rfl) (by decide) ?_
    refine x_irem (v := (B / p5 j) % 5) (dat d_Mo_walk 130 rfl) (by exact ⟨q0, by decide⟩) rfl ?_
    refine x_iret (dat d_Mo_walk 131 rfl) rfl ?_
    rw [e]
    exact k
  | succ d ih =>
    intro j w11 hd
    have q0 : 0 ≤ B / p5 j := Int.ediv_nonneg B0 (Int.le_of_lt (p5_pos j))
    refine x_iload (dat d_Mo_walk 117 rfl) rfl ?_
    refine x_iload (dat d_Mo_walk 118 rfl) rfl ?_
    refine x_bipush (dat d_Mo_walk 119 rfl) (by decide) (by decide) ?_
    refine x_isub (v := w - 10) (dat d_Mo_walk 120 rfl) rfl (by omega) ?_
    refine x_icmp_le (tgt := 248) (dat d_Mo_walk 121 rfl) (by decide) (fun c_233 => (by omega)) (fun c_233 => ?_)
    refine x_iload (dat d_Mo_walk 122 rfl) rfl ?_
    refine x_iconst (dat d_Mo_walk 123 rfl) (by decide) ?_
    refine x_idiv (v := B / p5 (j + 1)) (dat d_Mo_walk 124 rfl) (by exact ⟨q0, by decide⟩) (by rw [p5_s]; exact Int.ediv_ediv_of_nonneg (Int.le_of_lt (p5_pos j))) ?_
    refine x_istore (L' := [vR 174, vI n, vI p, vI h, vI (m : Int), vI w, vI s, vI N, vI (B / p5 (j + 1)), vI l, vI ((m : Int) - 1 - j), w11]) (dat d_Mo_walk 125 rfl) (by decide) rfl rfl ?_
    refine x_iinc (v' := (m : Int) - 1 - ((j + 1 : Nat) : Int)) (L' := [vR 174, vI n, vI p, vI h, vI (m : Int), vI w, vI s, vI N, vI (B / p5 (j + 1)), vI l, vI ((m : Int) - 1 - ((j + 1 : Nat) : Int)), w11]) (dat d_Mo_walk 126 rfl) rfl (by decide) rfl (by omega) (by omega) rfl ?_
    refine x_goto (tgt := 226) (dat d_Mo_walk 127 rfl) (by decide) ?_
    exact ih (j + 1) _ (by omega)
theorem lp_Mo_walk {Z : xZ} {p w : Int} {h m : Nat} (p0 : 0 ≤ p) (p1 : p < t 6) (hh : (h : Int) + m ≤ t 3) (m0 : 1 ≤ m) (m1 : m ≤ 4) (hw : w = 0 ∨ (10 ≤ w ∧ w < 10 + m)) (k : ∀ (r : Int) (σ' : xS), (r = if w = 0 then (mxN (wkF t p h m) (5 ^ m)).2 else (mxN (wkF t p h m) (5 ^ m)).1 / ((5 ^ ((m : Int) - 1 - (w - 10)).toNat : Nat) : Int) % 5) → MoF σ' σ0 → K (some (vI r)) σ') : ∀ (d i : Nat) (σ1 : xS) (b l : Int) (w11 : MV), i + d = 5 ^ m → mxN (wkF t p h m) i = (b, l) → KnX σ1 t t0 [20] → σ1 174 21 = (h : Int) → σ1 174 22 = (m : Int) → MoF σ1 σ0 → Wx g y_Mo_walk Z K 137 [vR 174, vI n, vI p, vI (h : Int), vI (m : Int), vI w, vI (wlk0 t p h), vI (p5 m), vI b, vI l, vI (i : Int), w11] [] σ1 := by
  have e5 : p5 m = ((5 ^ m : Nat) : Int) := rfl
  have p5l := p5_le m m1
  intro d
  induction d with
  | zero =>
    intro i σ1 b l w11 hd hb H e1 e2 F
    have hT := H.1.2
    have nn := wkF_nn hT (h := h) p0 p1 m0 m1
    have e : i = 5 ^ m := by omega
    rw [e] at hb
    rw [hb] at k nn
    dsimp only at k nn
    refine x_iload (dat d_Mo_walk 75 rfl) rfl ?_
    refine x_iload (dat d_Mo_walk 76 rfl) rfl ?_
    refine x_icmp_ge (tgt := 212) (dat d_Mo_walk 77 rfl) (by decide) (fun c_141 => ?_) (fun c_141 => (by omega))
    refine x_iload (dat d_Mo_walk 109 rfl) rfl ?_
    refine x_if_ne (tgt := 220) (dat d_Mo_walk 110 rfl) (by decide) (fun c_214 => ?_) (fun c_214 => ?_)
    · refine x_iload (dat d_Mo_walk 113 rfl) rfl ?_
      refine x_iconst (dat d_Mo_walk 114 rfl) (by decide) ?_
      refine x_isub (v := (m : Int) - 1) (dat d_Mo_walk 115 rfl) rfl (by omega) ?_
      refine x_istore (L' := [vR 174, vI n, vI p, vI (h : Int), vI (m : Int), vI w, vI (wlk0 t p h), vI (p5 m), vI b, vI l, vI ((m : Int) - 1), w11]) (dat d_Mo_walk 116 rfl) (by decide) rfl rfl ?_
      have J0 : (((m : Int) - 1 - (w - 10)).toNat : Int) = (m : Int) - 1 - (w - 10) := Int.toNat_of_nonneg (by omega)
      have dg := lp_Mo_wdig (g := g) (n := n) (K := K) (σ := σ1) (Z := Z) (p := p) (h := (h : Int)) (w := w) (s := wlk0 t p h) (N := p5 m) (l := l) (m := m) (J := ((m : Int) - 1 - (w - 10)).toNat) (B := b) nn J0 (by omega) (by omega) (by omega) (k _ σ1 (by rw [if_neg (by omega)]; rfl) F) ((m : Int) - 1 - (w - 10)).toNat 0
      rw [show b / p5 0 = b from Int.ediv_one b, show (m : Int) - 1 - ((0 : Nat) : Int) = (m : Int) - 1 by omega] at dg
      exact dg _ (by omega)
    · refine x_iload (dat d_Mo_walk 111 rfl) rfl ?_
      refine x_iret (dat d_Mo_walk 112 rfl) rfl ?_
      exact k _ σ1 (by rw [if_pos (by omega)]) F
  | succ d ih =>
    intro i σ1 b l w11 hd hb H e1 e2 F
    have hT := H.1.2
    have t3 := hT.2.2.2.1
    have st := mxN_s hb
    have bi := mxN_in (wkF t p h m) i
    rw [hb] at bi
    dsimp only at bi
    have w0 := wlk0_in hT p0 p1 h
    have ew : wkF t p h m i = if wlk t (i : Int) m (wlk0 t p h) m = -1 then -1 else brE (walC t p h m (i : Int)) p := rfl
    have nx : ∀ (σ2 : xS) (b' l' : Int) (w11 : MV), mxN (wkF t p h m) (i + 1) = (b', l') → KnX σ2 t t0 [20] → σ2 174 21 = (h : Int) → σ2 174 22 = (m : Int) → MoF σ2 σ0 → Wx g y_Mo_walk Z K 137 [vR 174, vI n, vI p, vI (h : Int), vI (m : Int), vI w, vI (wlk0 t p h), vI (p5 m), vI b', vI l', vI ((i + 1 : Nat) : Int), w11] [] σ2 := fun σ2 b' l' w11 e H3 e3 e4 F3 => ih (i + 1) σ2 b' l' w11 (by omega) e H3 e3 e4 F3
    clear ih
    refine x_iload (dat d_Mo_walk 75 rfl) rfl ?_
    refine x_iload (dat d_Mo_walk 76 rfl) rfl ?_
    refine x_icmp_ge (tgt := 212) (dat d_Mo_walk 77 rfl) (by decide) (fun c_141 => (by omega)) (fun c_141 => ?_)
    refine x_aload_n (dat d_Mo_walk 78 rfl) rfl rfl ?_
    refine x_iload (dat d_Mo_walk 79 rfl) rfl ?_
    refine x_iload (dat d_Mo_walk 80 rfl) rfl ?_
    refine x_inv (As := [vI (i : Int), vI (wlk0 t p h)]) (dat d_Mo_walk 81 rfl) rfl c_Mo_isWalk l_Mo_379 (by decide) (rv_mo (by decide +kernel)) rfl rfl (Nat.le_of_ble_eq_true rfl) ?_
    refine sp_Mo_isWalk H.1.1 hT e2 m0 m1 (by omega) w0.1 w0.2 (fun σ2 wn ws W => ?_) (fun σ2 wn W => ?_)
    · show Wx g y_Mo_walk Z K 152 [vR 174, vI n, vI p, vI (h : Int), vI (m : Int), vI w, vI (wlk0 t p h), vI (p5 m), vI b, vI l, vI (i : Int), w11] [vI 1] σ2
      have H2 : KnX σ2 t t0 [20] := H.oth (W 174 (by decide)) (W 175 (by decide)) (W 179 (by decide))
      have F2 : MoF σ2 σ0 := F.trans ⟨fun j _ => by rw [W 174 (by decide)], fun o ho => W o (by omega)⟩
      have q1 : σ2 174 21 = (h : Int) := by rw [W 174 (by decide)]; exact e1
      have q2 : σ2 174 22 = (m : Int) := by rw [W 174 (by decide)]; exact e2
      have H3 : KnX (up σ2 174 20 p) t t0 [20] := H2.put (by decide)
      have M3 := kn_wlk H3 (p := p) (m := (m : Int)) (c := (i : Int)) (h := h) p0 (by omega) (by omega) (by omega) up_s (by rw [up_ni (by decide)]; exact q1) (by rw [up_ni (by decide)]; exact q2) (fun j j0 j1 => by rw [up_ne (by decide)]; exact ws j j0 j1)
      rw [if_neg wn] at ew
      rw [ew] at st
      generalize hu : brE (walC t p h m (i : Int)) p = u at st
      refine x_if_ne (tgt := 158) (dat d_Mo_walk 82 rfl) (by decide) (fun c_152 => ?_) (fun h => absurd h (by decide))
      refine x_aload_n (dat d_Mo_walk 84 rfl) rfl rfl ?_
      refine x_iload_n (dat d_Mo_walk 85 rfl) rfl rfl ?_
      refine x_puti (ji := 20) (x := (p)) (dat d_Mo_walk 86 rfl) rfl f_Mo_229w (oi_mk (by decide +kernel)) (fun h => absurd h (by decide)) (by decide) ?_
      refine x_aload_n (dat d_Mo_walk 87 rfl) rfl rfl ?_
      refine x_inv (As := []) (dat d_Mo_walk 88 rfl) rfl c_Mo_runs l_Mo_336 (by decide) (rv_mo (by decide +kernel)) rfl rfl (Nat.le_of_ble_eq_true rfl) ?_
      refine sp_Kn_runs H3 M3 (Or.inl rfl) (fun σ3 R M4 H4 W4 => ?_)
      have q3 : σ3 174 21 = (h : Int) := by rw [W4.at (by decide), up_ni (by decide)]; exact q1
      have q4 : σ3 174 22 = (m : Int) := by rw [W4.at (by decide), up_ni (by decide)]; exact q2
      have F4 : MoF σ3 σ0 := (F2.put (by decide)).trans W4.mo
      show Wx g y_Mo_walk Z K 167 [vR 174, vI n, vI p, vI (h : Int), vI (m : Int), vI w, vI (wlk0 t p h), vI (p5 m), vI b, vI l, vI (i : Int), w11] [] σ3
      refine x_aload_n (dat d_Mo_walk 89 rfl) rfl rfl ?_
      refine x_iload_n (dat d_Mo_walk 90 rfl) rfl rfl ?_
      refine x_inv (As := [vI p]) (dat d_Mo_walk 91 rfl) rfl c_Mo_endOf l_Mo_382 (by decide) (rv_mo (by decide +kernel)) rfl rfl (Nat.le_of_ble_eq_true rfl) ?_
      refine sp_Mo_endOf M4 R p0 p1 ?_
      rw [hu]
      show Wx g y_Mo_walk Z K 172 [vR 174, vI n, vI p, vI (h : Int), vI (m : Int), vI w, vI (wlk0 t p h), vI (p5 m), vI b, vI l, vI (i : Int), w11] [vI u] σ3
      refine x_istore (L' := [vR 174, vI n, vI p, vI (h : Int), vI (m : Int), vI w, vI (wlk0 t p h), vI (p5 m), vI b, vI l, vI (i : Int), vI u]) (dat d_Mo_walk 92 rfl) (by decide) rfl rfl ?_
      refine x_iload (dat d_Mo_walk 93 rfl) rfl ?_
      refine x_iload (dat d_Mo_walk 94 rfl) rfl ?_
      refine x_icmp_le (tgt := 186) (dat d_Mo_walk 95 rfl) (by decide) (fun c_178 => ?_) (fun c_178 => ?_)
      · refine x_iload (dat d_Mo_walk 98 rfl) rfl ?_
        refine x_istore (L' := [vR 174, vI n, vI p, vI (h : Int), vI (m : Int), vI w, vI (wlk0 t p h), vI (p5 m), vI b, vI l, vI (i : Int), vI u]) (dat d_Mo_walk 99 rfl) (by decide) rfl rfl ?_
        refine x_iload (dat d_Mo_walk 100 rfl) rfl ?_
        refine x_iload (dat d_Mo_walk 101 rfl) rfl ?_
        refine x_icmp_le (tgt := 202) (dat d_Mo_walk 102 rfl) (by decide) (fun c_194 => ?_) (fun c_194 => ?_)
        · refine x_iload (dat d_Mo_walk 105 rfl) rfl ?_
          refine x_istore (L' := [vR 174, vI n, vI p, vI (h : Int), vI (m : Int), vI w, vI (wlk0 t p h), vI (p5 m), vI b, vI l, vI (i : Int), vI u]) (dat d_Mo_walk 106 rfl) (by decide) rfl rfl ?_
          refine x_iinc (v' := ((i + 1 : Nat) : Int)) (L' := [vR 174, vI n, vI p, vI (h : Int), vI (m : Int), vI w, vI (wlk0 t p h), vI (p5 m), vI b, vI l, vI ((i + 1 : Nat) : Int), vI u]) (dat d_Mo_walk 107 rfl) rfl (by decide) rfl (by omega) (by omega) rfl ?_
          refine x_goto (tgt := 137) (dat d_Mo_walk 108 rfl) (by decide) ?_
          first
          | (exfalso; omega)
          | exact nx _ _ _ _ (by rw [st, if_pos (by omega)]) H4 q3 q4 F4
          | exact nx _ _ _ _ (by rw [st, if_neg (by omega)]) H4 q3 q4 F4
          | exact nx _ _ _ _ (by rw [st, ew, if_pos wn, if_neg (by omega)]) H2 (by rw [W 174 (by decide)]; exact e1) (by rw [W 174 (by decide)]; exact e2) F2
        · refine x_iload (dat d_Mo_walk 103 rfl) rfl ?_
          refine x_goto (tgt := 204) (dat d_Mo_walk 104 rfl) (by decide) ?_
          refine x_istore (L' := [vR 174, vI n, vI p, vI (h : Int), vI (m : Int), vI w, vI (wlk0 t p h), vI (p5 m), vI b, vI u, vI (i : Int), vI u]) (dat d_Mo_walk 106 rfl) (by decide) rfl rfl ?_
          refine x_iinc (v' := ((i + 1 : Nat) : Int)) (L' := [vR 174, vI n, vI p, vI (h : Int), vI (m : Int), vI w, vI (wlk0 t p h), vI (p5 m), vI b, vI u, vI ((i + 1 : Nat) : Int), vI u]) (dat d_Mo_walk 107 rfl) rfl (by decide) rfl (by omega) (by omega) rfl ?_
          refine x_goto (tgt := 137) (dat d_Mo_walk 108 rfl) (by decide) ?_
          first
          | (exfalso; omega)
          | exact nx _ _ _ _ (by rw [st, if_pos (by omega)]) H4 q3 q4 F4
          | exact nx _ _ _ _ (by rw [st, if_neg (by omega)]) H4 q3 q4 F4
          | exact nx _ _ _ _ (by rw [st, ew, if_pos wn, if_neg (by omega)]) H2 (by rw [W 174 (by decide)]; exact e1) (by rw [W 174 (by decide)]; exact e2) F2
      · refine x_iload (dat d_Mo_walk 96 rfl) rfl ?_
        refine x_goto (tgt := 188) (dat d_Mo_walk 97 rfl) (by decide) ?_
        refine x_istore (L' := [vR 174, vI n, vI p, vI (h : Int), vI (m : Int), vI w, vI (wlk0 t p h), vI (p5 m), vI (i : Int), vI l, vI (i : Int), vI u]) (dat d_Mo_walk 99 rfl) (by decide) rfl rfl ?_
        refine x_iload (dat d_Mo_walk 100 rfl) rfl ?_
        refine x_iload (dat d_Mo_walk 101 rfl) rfl ?_
        refine x_icmp_le (tgt := 202) (dat d_Mo_walk 102 rfl) (by decide) (fun c_194 => ?_) (fun c_194 => ?_)
        · refine x_iload (dat d_Mo_walk 105 rfl) rfl ?_
          refine x_istore (L' := [vR 174, vI n, vI p, vI (h : Int), vI (m : Int), vI w, vI (wlk0 t p h), vI (p5 m), vI (i : Int), vI l, vI (i : Int), vI u]) (dat d_Mo_walk 106 rfl) (by decide) rfl rfl ?_
          refine x_iinc (v' := ((i + 1 : Nat) : Int)) (L' := [vR 174, vI n, vI p, vI (h : Int), vI (m : Int), vI w, vI (wlk0 t p h), vI (p5 m), vI (i : Int), vI l, vI ((i + 1 : Nat) : Int), vI u]) (dat d_Mo_walk 107 rfl) rfl (by decide) rfl (by omega) (by omega) rfl ?_
          refine x_goto (tgt := 137) (dat d_Mo_walk 108 rfl) (by decide) ?_
          first
          | (exfalso; omega)
          | exact nx _ _ _ _ (by rw [st, if_pos (by omega)]) H4 q3 q4 F4
          | exact nx _ _ _ _ (by rw [st, if_neg (by omega)]) H4 q3 q4 F4
          | exact nx _ _ _ _ (by rw [st, ew, if_pos wn, if_neg (by omega)]) H2 (by rw [W 174 (by decide)]; exact e1) (by rw [W 174 (by decide)]; exact e2) F2
        · refine x_iload (dat d_Mo_walk 103 rfl) rfl ?_
          refine x_goto (tgt := 204) (dat d_Mo_walk 104 rfl) (by decide) ?_
          refine x_istore (L' := [vR 174, vI n, vI p, vI (h : Int), vI (m : Int), vI w, vI (wlk0 t p h), vI (p5 m), vI (i : Int), vI u, vI (i : Int), vI u]) (dat d_Mo_walk 106 rfl) (by decide) rfl rfl ?_
          refine x_iinc (v' := ((i + 1 : Nat) : Int)) (L' := [vR 174, vI n, vI p, vI (h : Int), vI (m : Int), vI w, vI (wlk0 t p h), vI (p5 m), vI (i : Int), vI u, vI ((i + 1 : Nat) : Int), vI u]) (dat d_Mo_walk 107 rfl) rfl (by decide) rfl (by omega) (by omega) rfl ?_
          refine x_goto (tgt := 137) (dat d_Mo_walk 108 rfl) (by decide) ?_
          first
          | (exfalso; omega)
          | exact nx _ _ _ _ (by rw [st, if_pos (by omega)]) H4 q3 q4 F4
          | exact nx _ _ _ _ (by rw [st, if_neg (by omega)]) H4 q3 q4 F4
          | exact nx _ _ _ _ (by rw [st, ew, if_pos wn, if_neg (by omega)]) H2 (by rw [W 174 (by decide)]; exact e1) (by rw [W 174 (by decide)]; exact e2) F2
    · show Wx g y_Mo_walk Z K 152 [vR 174, vI n, vI p, vI (h : Int), vI (m : Int), vI w, vI (wlk0 t p h), vI (p5 m), vI b, vI l, vI (i : Int), w11] [vI 0] σ2
      have H2 : KnX σ2 t t0 [20] := H.oth (W 174 (by decide)) (W 175 (by decide)) (W 179 (by decide))
      have F2 : MoF σ2 σ0 := F.trans ⟨fun j _ => by rw [W 174 (by decide)], fun o ho => W o (by omega)⟩
      refine x_if_ne (tgt := 158) (dat d_Mo_walk 82 rfl) (by decide) (fun h => absurd h (by decide)) (fun c_152 => ?_)
      refine x_goto (tgt := 206) (dat d_Mo_walk 83 rfl) (by decide) ?_
      refine x_iinc (v' := ((i + 1 : Nat) : Int)) (L' := [vR 174, vI n, vI p, vI (h : Int), vI (m : Int), vI w, vI (wlk0 t p h), vI (p5 m), vI b, vI l, vI ((i + 1 : Nat) : Int), w11]) (dat d_Mo_walk 107 rfl) rfl (by decide) rfl (by omega) (by omega) rfl ?_
      refine x_goto (tgt := 137) (dat d_Mo_walk 108 rfl) (by decide) ?_
      first
      | (exfalso; omega)
      | exact nx _ _ _ _ (by rw [st, if_pos (by omega)]) H4 q3 q4 F4
      | exact nx _ _ _ _ (by rw [st, if_neg (by omega)]) H4 q3 q4 F4
      | exact nx _ _ _ _ (by rw [st, ew, if_pos wn, if_neg (by omega)]) H2 (by rw [W 174 (by decide)]; exact e1) (by rw [W 174 (by decide)]; exact e2) F2
theorem sp_Mo_walk {p h m w : Int} (A : MoA σ a) (k : ∀ (r : Int) (σ' : xS), atT a n (-1) (fun t r => wlkA t p h m w r) r → MoA σ' a → MoF σ' σ → K (some (vI r)) σ') : Mt g y_Mo_walk [vR 174, vI n, vI p, vI h, vI m, vI w] σ K := by
  have k0 : ¬ (0 ≤ n ∧ n < a 0) → K (some (vI (-1))) σ := fun z => k _ σ ⟨fun _ => rfl, fun z1 z2 => absurd ⟨z1, z2⟩ z⟩ A (MoF.rfl σ)
  have k1 : 0 ≤ n → n < a 0 → ¬ (((0 ≤ p ∧ p < tw a n 6) ∧ (0 ≤ h ∧ h < tw a n 3)) ∧ ((1 ≤ m ∧ m ≤ 4) ∧ h + m ≤ tw a n 3) ∧ (w = 0 ∨ 10 ≤ w ∧ w < 10 + m)) → ∀ σ' : xS, MoA σ' a → MoF σ' σ → K (some (vI (-1))) σ' := fun n0 n1 z σ' A1 F1 => k _ σ' ⟨fun z => absurd ⟨n0, n1⟩ z, fun _ _ => by show wlkA (tw a n) p h m w (-1); unfold wlkA; rw [if_pos z]⟩ A1 F1
  have lp5 : ∀ (Z : xZ) (st m1 : Int) (σ1 : xS), 0 ≤ m → m ≤ 4 → (∀ w9 w10 w11 : MV, Wx g y_Mo_walk Z K 128 [vR 174, vI n, vI p, vI h, vI m, vI w, vI st, vI (p5 m.toNat), vI m, w9, w10, w11] [] σ1) → ∀ (d i : Nat) (w9 w10 w11 : MV), (i : Int) + d = m → Wx g y_Mo_walk Z K 109 [vR 174, vI n, vI p, vI h, vI m, vI w, vI st, vI (p5 i), vI (i : Int), w9, w10, w11] [] σ1 := by
    intro Z st m1 σ1 hm0 hm4 kk d
    induction d with
    | zero =>
      intro i w9 w10 w11 hd
      have e : m.toNat = i := by omega
      have e2 : (i : Int) = m := by omega
      rw [e] at kk
      rw [e2]
      refine x_iload (dat d_Mo_walk 60 rfl) rfl ?_
      refine x_iload (dat d_Mo_walk 61 rfl) rfl ?_
      refine x_icmp_ge (tgt := 128) (dat d_Mo_walk 62 rfl) (by decide) (fun c_113 => ?_) (fun c_113 => (by omega))
      exact kk _ _ _
    | succ d ih =>
      intro i w9 w10 w11 hd
      have pp := p5_pos i
      have pl := p5_le i (by omega)
      refine x_iload (dat d_Mo_walk 60 rfl) rfl ?_
      refine x_iload (dat d_Mo_walk 61 rfl) rfl ?_
      refine x_icmp_ge (tgt := 128) (dat d_Mo_walk 62 rfl) (by decide) (fun c_113 => (by omega)) (fun c_113 => ?_)
      refine x_iload (dat d_Mo_walk 63 rfl) rfl ?_
      refine x_iconst (dat d_Mo_walk 64 rfl) (by decide) ?_
      refine x_imul (v := p5 (i + 1)) (dat d_Mo_walk 65 rfl) (by exact (p5_s i).symm) (by have := p5_s i; omega) ?_
      refine x_istore (L' := [vR 174, vI n, vI p, vI h, vI m, vI w, vI st, vI (p5 (i + 1)), vI (i : Int), w9, w10, w11]) (dat d_Mo_walk 66 rfl) (by decide) rfl rfl ?_
      refine x_iinc (v' := ((i + 1 : Nat) : Int)) (L' := [vR 174, vI n, vI p, vI h, vI m, vI w, vI st, vI (p5 (i + 1)), vI ((i + 1 : Nat) : Int), w9, w10, w11]) (dat d_Mo_walk 67 rfl) rfl (by decide) rfl (by omega) (by omega) rfl ?_
      refine x_goto (tgt := 109) (dat d_Mo_walk 68 rfl) (by decide) ?_
      exact ih (i + 1) _ _ _ (by omega)
  have fin : ∀ (Z : xZ) (σ1 : xS) (t0 : Int), 0 ≤ n → n < a 0 → KnX σ1 (tw a n) t0 [20] → MoF σ1 σ → (0 ≤ p ∧ p < tw a n 6) → 0 ≤ h → (1 ≤ m ∧ m ≤ 4) → h + m ≤ tw a n 3 → (w = 0 ∨ (10 ≤ w ∧ w < 10 + m)) → ∀ w7 w8 w9 w10 w11 : MV, Wx g y_Mo_walk Z K 92 [vR 174, vI n, vI p, vI h, vI m, vI w, vI (wlk0 (tw a n) p h), w7, w8, w9, w10, w11] [] σ1 := by
    intro Z σ1 t0 n0 n1 H F hp h0 hm hh hw w7 w8 w9 w10 w11
    have eh : ((h.toNat : Nat) : Int) = h := by omega
    have em : ((m.toNat : Nat) : Int) = m := by omega
    have cc := lp_Mo_walk (g := g) (K := K) (σ0 := σ) (n := n) (t := tw a n) (t0 := t0) (Z := Z) (p := p) (w := w) (h := h.toNat) (m := m.toNat) hp.1 hp.2 (by omega) (by omega) (by omega) (by omega) (fun r σ' hr F2 => k _ σ' ⟨fun z => absurd ⟨n0, n1⟩ z, fun _ _ => by
      show wlkA (tw a n) p h m w r
      unfold wlkA
      rw [if_neg (fun z => z ⟨⟨hp, h0, by omega⟩, ⟨hm, hh⟩, hw⟩)]
      rw [em] at hr
      by_cases z : w = 0
      · rw [if_pos z] at hr ⊢; exact hr
      · rw [if_neg z] at hr ⊢; exact hr⟩ (A.same F2) F2) (5 ^ m.toNat) 0
    rw [eh, em] at cc
    refine x_aload_n (dat d_Mo_walk 50 rfl) rfl rfl ?_
    refine x_iload_n (dat d_Mo_walk 51 rfl) rfl rfl ?_
    refine x_puti (ji := 21) (x := (h)) (dat d_Mo_walk 52 rfl) rfl f_Mo_274w (oi_mk (by decide +kernel)) (fun h => absurd h (by decide)) (by decide) ?_
    refine x_aload_n (dat d_Mo_walk 53 rfl) rfl rfl ?_
    refine x_iload (dat d_Mo_walk 54 rfl) rfl ?_
    refine x_puti (ji := 22) (x := (m)) (dat d_Mo_walk 55 rfl) rfl f_Mo_277w (oi_mk (by decide +kernel)) (fun h => absurd h (by decide)) (by decide) ?_
    refine x_iconst (dat d_Mo_walk 56 rfl) (by decide) ?_
    refine x_istore (L' := [vR 174, vI n, vI p, vI h, vI m, vI w, vI (wlk0 (tw a n) p h), vI 1, w8, w9, w10, w11]) (dat d_Mo_walk 57 rfl) (by decide) rfl rfl ?_
    refine x_iconst (dat d_Mo_walk 58 rfl) (by decide) ?_
    refine x_istore (L' := [vR 174, vI n, vI p, vI h, vI m, vI w, vI (wlk0 (tw a n) p h), vI 1, vI 0, w9, w10, w11]) (dat d_Mo_walk 59 rfl) (by decide) rfl rfl ?_
    refine lp5 Z _ 0 _ (by omega) (by omega) (fun w9 w10 w11 => ?_) m.toNat 0 _ _ _ (by omega)
    refine x_iconst (dat d_Mo_walk 69 rfl) (by decide) ?_
    refine x_istore (L' := [vR 174, vI n, vI p, vI h, vI m, vI w, vI (wlk0 (tw a n) p h), vI (p5 m.toNat), vI (-1), w9, w10, w11]) (dat d_Mo_walk 70 rfl) (by decide) rfl rfl ?_
    refine x_iconst (dat d_Mo_walk 71 rfl) (by decide) ?_
    refine x_istore (L' := [vR 174, vI n, vI p, vI h, vI m, vI w, vI (wlk0 (tw a n) p h), vI (p5 m.toNat), vI (-1), vI (-1), w10, w11]) (dat d_Mo_walk 72 rfl) (by decide) rfl rfl ?_
    refine x_iconst (dat d_Mo_walk 73 rfl) (by decide) ?_
    refine x_istore (L' := [vR 174, vI n, vI p, vI h, vI m, vI w, vI (wlk0 (tw a n) p h), vI (p5 m.toNat), vI (-1), vI (-1), vI 0, w11]) (dat d_Mo_walk 74 rfl) (by decide) rfl rfl ?_
    exact cc _ (-1) (-1) _ (by omega) rfl ((H.put (by decide)).put (by decide)) (by rw [up_ni (by decide), up_s]) up_s ((F.put (by decide)).put (by decide))
  refine x_enter 6 rfl rfl rfl (fun Z => ?_)
  show Wx g y_Mo_walk Z K 0 [vR 174, vI n, vI p, vI h, vI m, vI w, vU, vU, vU, vU, vU, vU] [] σ
  refine x_aload_n (dat d_Mo_walk 0 rfl) rfl rfl ?_
  refine x_iload_n (dat d_Mo_walk 1 rfl) rfl rfl ?_
  refine x_inv (As := [vI n]) (dat d_Mo_walk 2 rfl) rfl c_Mo_isTown l_Mo_205 (by decide) (rv_mo (by decide +kernel)) rfl rfl (Nat.le_of_ble_eq_true rfl) ?_
  refine sp_Mo_isTown A (fun σ1 t0 n0 n1 H P Z1 A1 F => ?_) (fun n01 => ?_)
  · show Wx g y_Mo_walk Z K 5 [vR 174, vI n, vI p, vI h, vI m, vI w, vU, vU, vU, vU, vU, vU] [vI 1] σ1
    refine x_if_eq (tgt := 67) (dat d_Mo_walk 3 rfl) (by decide) (fun h => absurd h (by decide)) (fun c_5 => ?_)
    refine x_aload_n (dat d_Mo_walk 4 rfl) rfl rfl ?_
    refine x_iload_n (dat d_Mo_walk 5 rfl) rfl rfl ?_
    refine x_inv (As := [vI p]) (dat d_Mo_walk 6 rfl) rfl c_Mo_isPerson l_Mo_208 (by decide) (rv_mo (by decide +kernel)) rfl rfl (Nat.le_of_ble_eq_true rfl) ?_
    refine sp_Mo_isPerson H.1.1 H.1.2 (fun p0 p1 => ?_) (fun p01 => ?_)
    · show Wx g y_Mo_walk Z K 13 [vR 174, vI n, vI p, vI h, vI m, vI w, vU, vU, vU, vU, vU, vU] [vI 1] σ1
      refine x_if_eq (tgt := 67) (dat d_Mo_walk 7 rfl) (by decide) (fun h => absurd h (by decide)) (fun c_13 => ?_)
      refine x_iload (dat d_Mo_walk 8 rfl) rfl ?_
      refine x_iconst (dat d_Mo_walk 9 rfl) (by decide) ?_
      refine x_iconst (dat d_Mo_walk 10 rfl) (by decide) ?_
      refine x_invs (As := [vI m, vI 1, vI 4]) (dat d_Mo_walk 11 rfl) rfl c_Mo_isIn l_Mo_136 (by decide) rfl rfl (Nat.le_of_ble_eq_true rfl) ?_
      refine sp_Mo_isIn (fun x1 x2 => ?_) (fun x1 => ?_)
      · show Wx g y_Mo_walk Z K 23 [vR 174, vI n, vI p, vI h, vI m, vI w, vU, vU, vU, vU, vU, vU] [vI 1] σ1
        refine x_if_eq (tgt := 67) (dat d_Mo_walk 12 rfl) (by decide) (fun h => absurd h (by decide)) (fun c_23 => ?_)
        refine x_aload_n (dat d_Mo_walk 13 rfl) rfl rfl ?_
        refine x_iload_n (dat d_Mo_walk 14 rfl) rfl rfl ?_
        refine x_inv (As := [vI h]) (dat d_Mo_walk 15 rfl) rfl c_Mo_isHour l_Mo_342 (by decide) (rv_mo (by decide +kernel)) rfl rfl (Nat.le_of_ble_eq_true rfl) ?_
        refine sp_Mo_isHour H.1.1 H.1.2 (fun h0 h1 => ?_) (fun h01 => ?_)
        have t3 := H.1.2.2.2.2.1
        · show Wx g y_Mo_walk Z K 31 [vR 174, vI n, vI p, vI h, vI m, vI w, vU, vU, vU, vU, vU, vU] [vI 1] σ1
          refine x_if_eq (tgt := 67) (dat d_Mo_walk 16 rfl) (by decide) (fun h => absurd h (by decide)) (fun c_31 => ?_)
          refine x_aload_n (dat d_Mo_walk 17 rfl) rfl rfl ?_
          refine x_iload_n (dat d_Mo_walk 18 rfl) rfl rfl ?_
          refine x_iload (dat d_Mo_walk 19 rfl) rfl ?_
          refine x_iadd (v := h + m) (dat d_Mo_walk 20 rfl) rfl (by omega) ?_
          refine x_iconst (dat d_Mo_walk 21 rfl) (by decide) ?_
          refine x_isub (v := (h + m) - 1) (dat d_Mo_walk 22 rfl) rfl (by omega) ?_
          refine x_inv (As := [vI ((h + m) - 1)]) (dat d_Mo_walk 23 rfl) rfl c_Mo_isHour l_Mo_342 (by decide) (rv_mo (by decide +kernel)) rfl rfl (Nat.le_of_ble_eq_true rfl) ?_
          refine sp_Mo_isHour H.1.1 H.1.2 (fun g0 g1 => ?_) (fun g01 => ?_)
          · show Wx g y_Mo_walk Z K 44 [vR 174, vI n, vI p, vI h, vI m, vI w, vU, vU, vU, vU, vU, vU] [vI 1] σ1
            refine x_if_eq (tgt := 67) (dat d_Mo_walk 24 rfl) (by decide) (fun h => absurd h (by decide)) (fun c_44 => ?_)
            refine x_iload (dat d_Mo_walk 25 rfl) rfl ?_
            refine x_if_eq (tgt := 69) (dat d_Mo_walk 26 rfl) (by decide) (fun c_49 => ?_) (fun c_49 => ?_)
            · refine x_iload_n (dat d_Mo_walk 36 rfl) rfl rfl ?_
              refine x_if_ne (tgt := 82) (dat d_Mo_walk 37 rfl) (by decide) (fun c_70 => ?_) (fun c_70 => ?_)
              · refine x_aload_n (dat d_Mo_walk 43 rfl) rfl rfl ?_
                refine x_iload_n (dat d_Mo_walk 44 rfl) rfl rfl ?_
                refine x_iload_n (dat d_Mo_walk 45 rfl) rfl rfl ?_
                refine x_iconst (dat d_Mo_walk 46 rfl) (by decide) ?_
                refine x_isub (v := h - 1) (dat d_Mo_walk 47 rfl) rfl (by omega) ?_
                refine x_inv (As := [vI p, vI (h - 1)]) (dat d_Mo_walk 48 rfl) rfl c_Mo_errandCell l_Mo_280 (by decide) (rv_mo (by decide +kernel)) rfl rfl (Nat.le_of_ble_eq_true rfl) ?_
                refine sp_Mo_errandCell H.1.1 H.1.2 H.2.2.1 p0 p1 (by omega) (by omega) ?_
                rw [show cellT (tw a n) (gasM (σ1 174) p) (h - 1) = wlk0 (tw a n) p h by unfold wlk0 gasM; rw [if_pos P.2.1.2, if_neg (by omega)]]
                show Wx g y_Mo_walk Z K 90 [vR 174, vI n, vI p, vI h, vI m, vI w, vU, vU, vU, vU, vU, vU] [vI (wlk0 (tw a n) p h)] σ1
                refine x_istore (L' := [vR 174, vI n, vI p, vI h, vI m, vI w, vI (wlk0 (tw a n) p h), vU, vU, vU, vU, vU]) (dat d_Mo_walk 49 rfl) (by decide) rfl rfl ?_
                exact fin Z σ1 t0 n0 n1 (KnX.pln H P Z1 _) F ⟨p0, p1⟩ h0 ⟨x1, x2⟩ (by omega) (by omega) _ _ _ _ _
              · refine x_aload_n (dat d_Mo_walk 38 rfl) rfl rfl ?_
                refine x_iload_n (dat d_Mo_walk 39 rfl) rfl rfl ?_
                refine x_iconst (dat d_Mo_walk 40 rfl) (by decide) ?_
                refine x_inv (As := [vI p, vI 1]) (dat d_Mo_walk 41 rfl) rfl c_Mo_personOf l_Mo_211 (by decide) (rv_mo (by decide +kernel)) rfl rfl (Nat.le_of_ble_eq_true rfl) ?_
                refine sp_Mo_personOf H.1.1 p0 (by have := H.1.2.2.2.2.2.2.2.1; omega) (by decide) (by decide) ?_
                rw [show tw a n (20 + 17 * p + 1) = wlk0 (tw a n) p h by unfold wlk0; rw [if_pos (by omega)]; congr 1; omega]
                show Wx g y_Mo_walk Z K 79 [vR 174, vI n, vI p, vI h, vI m, vI w, vU, vU, vU, vU, vU, vU] [vI (wlk0 (tw a n) p h)] σ1
                refine x_goto (tgt := 90) (dat d_Mo_walk 42 rfl) (by decide) ?_
                refine x_istore (L' := [vR 174, vI n, vI p, vI h, vI m, vI w, vI (wlk0 (tw a n) p h), vU, vU, vU, vU, vU]) (dat d_Mo_walk 49 rfl) (by decide) rfl rfl ?_
                exact fin Z σ1 t0 n0 n1 (KnX.pln H P Z1 _) F ⟨p0, p1⟩ h0 ⟨x1, x2⟩ (by omega) (by omega) _ _ _ _ _
            · refine x_iload (dat d_Mo_walk 27 rfl) rfl ?_
              refine x_bipush (dat d_Mo_walk 28 rfl) (by decide) (by decide) ?_
              refine x_bipush (dat d_Mo_walk 29 rfl) (by decide) (by decide) ?_
              refine x_iload (dat d_Mo_walk 30 rfl) rfl ?_
              refine x_iadd (v := 9 + m) (dat d_Mo_walk 31 rfl) rfl (by omega) ?_
              refine x_invs (As := [vI w, vI 10, vI (9 + m)]) (dat d_Mo_walk 32 rfl) rfl c_Mo_isIn l_Mo_136 (by decide) rfl rfl (Nat.le_of_ble_eq_true rfl) ?_
              refine sp_Mo_isIn (fun y1 y2 => ?_) (fun y1 => ?_)
              · show Wx g y_Mo_walk Z K 64 [vR 174, vI n, vI p, vI h, vI m, vI w, vU, vU, vU, vU, vU, vU] [vI 1] σ1
                refine x_if_ne (tgt := 69) (dat d_Mo_walk 33 rfl) (by decide) (fun c_64 => ?_) (fun h => absurd h (by decide))
                refine x_iload_n (dat d_Mo_walk 36 rfl) rfl rfl ?_
                refine x_if_ne (tgt := 82) (dat d_Mo_walk 37 rfl) (by decide) (fun c_70 => ?_) (fun c_70 => ?_)
                · refine x_aload_n (dat d_Mo_walk 43 rfl) rfl rfl ?_
                  refine x_iload_n (dat d_Mo_walk 44 rfl) rfl rfl ?_
                  refine x_iload_n (dat d_Mo_walk 45 rfl) rfl rfl ?_
                  refine x_iconst (dat d_Mo_walk 46 rfl) (by decide) ?_
                  refine x_isub (v := h - 1) (dat d_Mo_walk 47 rfl) rfl (by omega) ?_
                  refine x_inv (As := [vI p, vI (h - 1)]) (dat d_Mo_walk 48 rfl) rfl c_Mo_errandCell l_Mo_280 (by decide) (rv_mo (by decide +kernel)) rfl rfl (Nat.le_of_ble_eq_true rfl) ?_
                  refine sp_Mo_errandCell H.1.1 H.1.2 H.2.2.1 p0 p1 (by omega) (by omega) ?_
                  rw [show cellT (tw a n) (gasM (σ1 174) p) (h - 1) = wlk0 (tw a n) p h by unfold wlk0 gasM; rw [if_pos P.2.1.2, if_neg (by omega)]]
                  show Wx g y_Mo_walk Z K 90 [vR 174, vI n, vI p, vI h, vI m, vI w, vU, vU, vU, vU, vU, vU] [vI (wlk0 (tw a n) p h)] σ1
                  refine x_istore (L' := [vR 174, vI n, vI p, vI h, vI m, vI w, vI (wlk0 (tw a n) p h), vU, vU, vU, vU, vU]) (dat d_Mo_walk 49 rfl) (by decide) rfl rfl ?_
                  exact fin Z σ1 t0 n0 n1 (KnX.pln H P Z1 _) F ⟨p0, p1⟩ h0 ⟨x1, x2⟩ (by omega) (by omega) _ _ _ _ _
                · refine x_aload_n (dat d_Mo_walk 38 rfl) rfl rfl ?_
                  refine x_iload_n (dat d_Mo_walk 39 rfl) rfl rfl ?_
                  refine x_iconst (dat d_Mo_walk 40 rfl) (by decide) ?_
                  refine x_inv (As := [vI p, vI 1]) (dat d_Mo_walk 41 rfl) rfl c_Mo_personOf l_Mo_211 (by decide) (rv_mo (by decide +kernel)) rfl rfl (Nat.le_of_ble_eq_true rfl) ?_
                  refine sp_Mo_personOf H.1.1 p0 (by have := H.1.2.2.2.2.2.2.2.1; omega) (by decide) (by decide) ?_
                  rw [show tw a n (20 + 17 * p + 1) = wlk0 (tw a n) p h by unfold wlk0; rw [if_pos (by omega)]; congr 1; omega]
                  show Wx g y_Mo_walk Z K 79 [vR 174, vI n, vI p, vI h, vI m, vI w, vU, vU, vU, vU, vU, vU] [vI (wlk0 (tw a n) p h)] σ1
                  refine x_goto (tgt := 90) (dat d_Mo_walk 42 rfl) (by decide) ?_
                  refine x_istore (L' := [vR 174, vI n, vI p, vI h, vI m, vI w, vI (wlk0 (tw a n) p h), vU, vU, vU, vU, vU]) (dat d_Mo_walk 49 rfl) (by decide) rfl rfl ?_
                  exact fin Z σ1 t0 n0 n1 (KnX.pln H P Z1 _) F ⟨p0, p1⟩ h0 ⟨x1, x2⟩ (by omega) (by omega) _ _ _ _ _
              · show Wx g y_Mo_walk Z K 64 [vR 174, vI n, vI p, vI h, vI m, vI w, vU, vU, vU, vU, vU, vU] [vI 0] σ1
                refine x_if_ne (tgt := 69) (dat d_Mo_walk 33 rfl) (by decide) (fun h => absurd h (by decide)) (fun c_64 => ?_)
                refine x_iconst (dat d_Mo_walk 34 rfl) (by decide) ?_
                refine x_iret (dat d_Mo_walk 35 rfl) rfl ?_
                first
                | exact k0 n01
                | exact k1 n0 n1 (fun z => p01 z.1.1) σ1 A1 F
                | exact k1 n0 n1 (fun z => x1 z.2.1.1) σ1 A1 F
                | exact k1 n0 n1 (fun z => h01 z.1.2) σ1 A1 F
                | exact k1 n0 n1 (fun z => g01 (by have := z.2.1; omega)) σ1 A1 F
                | exact k1 n0 n1 (fun z => y1 (by have := z.2.2; omega)) σ1 A1 F
          · show Wx g y_Mo_walk Z K 44 [vR 174, vI n, vI p, vI h, vI m, vI w, vU, vU, vU, vU, vU, vU] [vI 0] σ1
            refine x_if_eq (tgt := 67) (dat d_Mo_walk 24 rfl) (by decide) (fun c_44 => ?_) (fun h => absurd h (by decide))
            refine x_iconst (dat d_Mo_walk 34 rfl) (by decide) ?_
            refine x_iret (dat d_Mo_walk 35 rfl) rfl ?_
            first
            | exact k0 n01
            | exact k1 n0 n1 (fun z => p01 z.1.1) σ1 A1 F
            | exact k1 n0 n1 (fun z => x1 z.2.1.1) σ1 A1 F
            | exact k1 n0 n1 (fun z => h01 z.1.2) σ1 A1 F
            | exact k1 n0 n1 (fun z => g01 (by have := z.2.1; omega)) σ1 A1 F
            | exact k1 n0 n1 (fun z => y1 (by have := z.2.2; omega)) σ1 A1 F
        · show Wx g y_Mo_walk Z K 31 [vR 174, vI n, vI p, vI h, vI m, vI w, vU, vU, vU, vU, vU, vU] [vI 0] σ1
          refine x_if_eq (tgt := 67) (dat d_Mo_walk 16 rfl) (by decide) (fun c_31 => ?_) (fun h => absurd h (by decide))
          refine x_iconst (dat d_Mo_walk 34 rfl) (by decide) ?_
          refine x_iret (dat d_Mo_walk 35 rfl) rfl ?_
          first
          | exact k0 n01
          | exact k1 n0 n1 (fun z => p01 z.1.1) σ1 A1 F
          | exact k1 n0 n1 (fun z => x1 z.2.1.1) σ1 A1 F
          | exact k1 n0 n1 (fun z => h01 z.1.2) σ1 A1 F
          | exact k1 n0 n1 (fun z => g01 (by have := z.2.1; omega)) σ1 A1 F
          | exact k1 n0 n1 (fun z => y1 (by have := z.2.2; omega)) σ1 A1 F
      · show Wx g y_Mo_walk Z K 23 [vR 174, vI n, vI p, vI h, vI m, vI w, vU, vU, vU, vU, vU, vU] [vI 0] σ1
        refine x_if_eq (tgt := 67) (dat d_Mo_walk 12 rfl) (by decide) (fun c_23 => ?_) (fun h => absurd h (by decide))
        refine x_iconst (dat d_Mo_walk 34 rfl) (by decide) ?_
        refine x_iret (dat d_Mo_walk 35 rfl) rfl ?_
        first
        | exact k0 n01
        | exact k1 n0 n1 (fun z => p01 z.1.1) σ1 A1 F
        | exact k1 n0 n1 (fun z => x1 z.2.1.1) σ1 A1 F
        | exact k1 n0 n1 (fun z => h01 z.1.2) σ1 A1 F
        | exact k1 n0 n1 (fun z => g01 (by have := z.2.1; omega)) σ1 A1 F
        | exact k1 n0 n1 (fun z => y1 (by have := z.2.2; omega)) σ1 A1 F
    · show Wx g y_Mo_walk Z K 13 [vR 174, vI n, vI p, vI h, vI m, vI w, vU, vU, vU, vU, vU, vU] [vI 0] σ1
      refine x_if_eq (tgt := 67) (dat d_Mo_walk 7 rfl) (by decide) (fun c_13 => ?_) (fun h => absurd h (by decide))
      refine x_iconst (dat d_Mo_walk 34 rfl) (by decide) ?_
      refine x_iret (dat d_Mo_walk 35 rfl) rfl ?_
      first
      | exact k0 n01
      | exact k1 n0 n1 (fun z => p01 z.1.1) σ1 A1 F
      | exact k1 n0 n1 (fun z => x1 z.2.1.1) σ1 A1 F
      | exact k1 n0 n1 (fun z => h01 z.1.2) σ1 A1 F
      | exact k1 n0 n1 (fun z => g01 (by have := z.2.1; omega)) σ1 A1 F
      | exact k1 n0 n1 (fun z => y1 (by have := z.2.2; omega)) σ1 A1 F
  · show Wx g y_Mo_walk Z K 5 [vR 174, vI n, vI p, vI h, vI m, vI w, vU, vU, vU, vU, vU, vU] [vI 0] σ
    refine x_if_eq (tgt := 67) (dat d_Mo_walk 3 rfl) (by decide) (fun c_5 => ?_) (fun h => absurd h (by decide))
    refine x_iconst (dat d_Mo_walk 34 rfl) (by decide) ?_
    refine x_iret (dat d_Mo_walk 35 rfl) rfl ?_
    first
    | exact k0 n01
    | exact k1 n0 n1 (fun z => p01 z.1.1) σ1 A1 F
    | exact k1 n0 n1 (fun z => x1 z.2.1.1) σ1 A1 F
    | exact k1 n0 n1 (fun z => h01 z.1.2) σ1 A1 F
    | exact k1 n0 n1 (fun z => g01 (by have := z.2.1; omega)) σ1 A1 F
    | exact k1 n0 n1 (fun z => y1 (by have := z.2.2; omega)) σ1 A1 F
end
