/-! the reader's tokens -/
theorem i2b_pl : ∀ u : Nat, u < 256 → i2b (u : Int) = if u < 128 then (u : Int) else (u : Int) - 256 := by decide +kernel
theorem i2b_u {u : Int} (h0 : 0 ≤ u) (h1 : u ≤ 255) : (u < 128 ∧ i2b u = u) ∨ (128 ≤ u ∧ i2b u = u - 256) := by
  have := i2b_pl u.toNat (by omega)
  rw [Int.toNat_of_nonneg h0] at this
  by_cases h : u < 128
  · rw [if_pos (by omega)] at this
    exact Or.inl ⟨h, this⟩
  · rw [if_neg (by omega)] at this
    exact Or.inr ⟨by omega, this⟩
/-- what the reader reads -/
def RdT (σ : xS) (T : Int → Int) (n : Int) : Prop := (0 ≤ n ∧ n ≤ 600) ∧ σ 123 5 = 2 ∧ σ 123 6 = n ∧ ∀ i : Int, 0 ≤ i → i < n → (0 ≤ T i ∧ T i ≤ 255) ∧ σ 2 i = i2b (T i)
theorem RdT.same {σ σ' : xS} {T : Int → Int} {n : Int} (h : RdT σ T n) (e5 : σ' 123 5 = σ 123 5) (e6 : σ' 123 6 = σ 123 6) (e2 : σ' 2 = σ 2) : RdT σ' T n := by
  unfold RdT at h ⊢
  rw [e5, e6, e2]
  exact h
theorem RdT.byte {σ : xS} {T : Int → Int} {n i : Int} (h : RdT σ T n) (i0 : 0 ≤ i) (i1 : i < n) : ∃ b : Int, σ 2 i = b ∧ (0 ≤ T i ∧ T i ≤ 255) ∧ ((T i < 128 ∧ b = T i) ∨ (128 ≤ T i ∧ b = T i - 256)) := by
  obtain ⟨h1, h2⟩ := h.2.2.2 i i0 i1
  exact ⟨_, h2, h1, i2b_u h1.1 h1.2⟩
/-- what tokens leave as it is -/
def RdF (σ' σ : xS) : Prop := (∀ i : Int, i < 7 ∨ 10 < i → σ' 123 i = σ 123 i) ∧ ∀ o : Nat, o ≠ 123 → σ' o = σ o
theorem RdF.rfl (σ : xS) : RdF σ σ := ⟨fun _ _ => Eq.refl _, fun _ _ => Eq.refl _⟩
theorem RdF.up {σ' σ : xS} (h : RdF σ' σ) {i v : Int} (i0 : 7 ≤ i) (i1 : i ≤ 10) : RdF (up σ' 123 i v) σ := ⟨fun j hj => by rw [up_ni (by omega)]; exact h.1 j hj, fun o ho => by rw [up_ne ho]; exact h.2 o ho⟩
theorem RdF.tape {σ' σ : xS} {T : Int → Int} {n : Int} (h : RdF σ' σ) (H : RdT σ T n) : RdT σ' T n := H.same (h.1 5 (by decide)) (h.1 6 (by decide)) (h.2 2 (by decide))
theorem RdF.trans {σ'' σ' σ : xS} (h : RdF σ'' σ') (h2 : RdF σ' σ) : RdF σ'' σ := ⟨fun i hi => (h.1 i hi).trans (h2.1 i hi), fun o ho => (h.2 o ho).trans (h2.2 o ho)⟩
theorem sp_Re_isLetter {g : xG} {K : Option MV → xS → Prop} {σ : xS} {T : Int → Int} {n i : Int} (H : RdT σ T n) (i0 : 0 ≤ i) (i1 : i < n) (kt : cLt (T i) = true → K (some (vI 1)) σ) (kf : ¬ cLt (T i) = true → K (some (vI 0)) σ) : Mt g y_Re_isLetter [vR 123, vI i] σ K := by
  obtain ⟨b, eb, hT, hb⟩ := H.byte i0 i1
  have hn := H.1
  refine x_enter 0 rfl rfl rfl (fun Z => ?_)
  show Wx g y_Re_isLetter Z K 0 [vR 123, vI i] [] σ
  refine x_aload_n (dat d_Re_isLetter 0 rfl) rfl rfl ?_
  refine x_getd (ji := 5) (r := 2) (dat d_Re_isLetter 1 rfl) rfl f_Re_62 (by decide +kernel) (by exact H.2.1) ?_
  refine x_iload_n (dat d_Re_isLetter 2 rfl) rfl rfl ?_
  refine x_bald (n := 600) (v := b) (dat d_Re_isLetter 3 rfl) (ai_mk (by decide +kernel)) (by omega) (by omega) (eb) ?_
  refine x_bipush (dat d_Re_isLetter 4 rfl) (by decide) (by decide) ?_
  refine x_icmp_lt (tgt := 26) (dat d_Re_isLetter 5 rfl) (by decide) (fun c_8 => ?_) (fun c_8 => ?_)
  · refine x_iconst (dat d_Re_isLetter 14 rfl) (by decide) ?_
    refine x_zret (dat d_Re_isLetter 15 rfl) rfl (by decide) ?_
    first
    | exact kt (cLt_iff.mpr (by omega))
    | exact kf (fun w => by have := cLt_iff.mp w; omega)
  · refine x_aload_n (dat d_Re_isLetter 6 rfl) rfl rfl ?_
    refine x_getd (ji := 5) (r := 2) (dat d_Re_isLetter 7 rfl) rfl f_Re_62 (by decide +kernel) (by exact H.2.1) ?_
    refine x_iload_n (dat d_Re_isLetter 8 rfl) rfl rfl ?_
    refine x_bald (n := 600) (v := b) (dat d_Re_isLetter 9 rfl) (ai_mk (by decide +kernel)) (by omega) (by omega) (eb) ?_
    refine x_bipush (dat d_Re_isLetter 10 rfl) (by decide) (by decide) ?_
    refine x_icmp_gt (tgt := 26) (dat d_Re_isLetter 11 rfl) (by decide) (fun c_19 => ?_) (fun c_19 => ?_)
    · refine x_iconst (dat d_Re_isLetter 14 rfl) (by decide) ?_
      refine x_zret (dat d_Re_isLetter 15 rfl) rfl (by decide) ?_
      first
      | exact kt (cLt_iff.mpr (by omega))
      | exact kf (fun w => by have := cLt_iff.mp w; omega)
    · refine x_iconst (dat d_Re_isLetter 12 rfl) (by decide) ?_
      refine x_goto (tgt := 27) (dat d_Re_isLetter 13 rfl) (by decide) ?_
      refine x_zret (dat d_Re_isLetter 15 rfl) rfl (by decide) ?_
      first
      | exact kt (cLt_iff.mpr (by omega))
      | exact kf (fun w => by have := cLt_iff.mp w; omega)
theorem sp_Re_isDigit {g : xG} {K : Option MV → xS → Prop} {σ : xS} {T : Int → Int} {n i : Int} (H : RdT σ T n) (i0 : 0 ≤ i) (i1 : i < n) (kt : cDg (T i) = true → K (some (vI 1)) σ) (kf : ¬ cDg (T i) = true → K (some (vI 0)) σ) : Mt g y_Re_isDigit [vR 123, vI i] σ K := by
  obtain ⟨b, eb, hT, hb⟩ := H.byte i0 i1
  have hn := H.1
  refine x_enter 0 rfl rfl rfl (fun Z => ?_)
  show Wx g y_Re_isDigit Z K 0 [vR 123, vI i] [] σ
  refine x_aload_n (dat d_Re_isDigit 0 rfl) rfl rfl ?_
  refine x_getd (ji := 5) (r := 2) (dat d_Re_isDigit 1 rfl) rfl f_Re_62 (by decide +kernel) (by exact H.2.1) ?_
  refine x_iload_n (dat d_Re_isDigit 2 rfl) rfl rfl ?_
  refine x_bald (n := 600) (v := b) (dat d_Re_isDigit 3 rfl) (ai_mk (by decide +kernel)) (by omega) (by omega) (eb) ?_
  refine x_bipush (dat d_Re_isDigit 4 rfl) (by decide) (by decide) ?_
  refine x_icmp_lt (tgt := 26) (dat d_Re_isDigit 5 rfl) (by decide) (fun c_8 => ?_) (fun c_8 => ?_)
  · refine x_iconst (dat d_Re_isDigit 14 rfl) (by decide) ?_
    refine x_zret (dat d_Re_isDigit 15 rfl) rfl (by decide) ?_
    first
    | exact kt (cDg_iff.mpr (by omega))
    | exact kf (fun w => by have := cDg_iff.mp w; omega)
  · refine x_aload_n (dat d_Re_isDigit 6 rfl) rfl rfl ?_
    refine x_getd (ji := 5) (r := 2) (dat d_Re_isDigit 7 rfl) rfl f_Re_62 (by decide +kernel) (by exact H.2.1) ?_
    refine x_iload_n (dat d_Re_isDigit 8 rfl) rfl rfl ?_
    refine x_bald (n := 600) (v := b) (dat d_Re_isDigit 9 rfl) (ai_mk (by decide +kernel)) (by omega) (by omega) (eb) ?_
    refine x_bipush (dat d_Re_isDigit 10 rfl) (by decide) (by decide) ?_
    refine x_icmp_gt (tgt := 26) (dat d_Re_isDigit 11 rfl) (by decide) (fun c_19 => ?_) (fun c_19 => ?_)
    · refine x_iconst (dat d_Re_isDigit 14 rfl) (by decide) ?_
      refine x_zret (dat d_Re_isDigit 15 rfl) rfl (by decide) ?_
      first
      | exact kt (cDg_iff.mpr (by omega))
      | exact kf (fun w => by have := cDg_iff.mp w; omega)
    · refine x_iconst (dat d_Re_isDigit 12 rfl) (by decide) ?_
      refine x_goto (tgt := 27) (dat d_Re_isDigit 13 rfl) (by decide) ?_
      refine x_zret (dat d_Re_isDigit 15 rfl) rfl (by decide) ?_
      first
      | exact kt (cDg_iff.mpr (by omega))
      | exact kf (fun w => by have := cDg_iff.mp w; omega)
/-- a number so far -/
def numP (T : Int → Int) (q p : Int) : Int := if p = q then 0 else if p = q + 1 then T q - 48 else 10 * (T q - 48) + (T (q + 1) - 48)
theorem sp_Re_readDigits {g : xG} {K : Option MV → xS → Prop} {σ : xS} {T : Int → Int} {n q : Int} (H : RdT σ T n) (q0 : 0 ≤ q) (q1 : q < n) (e9 : σ 123 9 = q) (e7 : σ 123 7 = q)
    (k : ∀ σ' : xS, σ' 123 9 = q → σ' 123 8 = (if cDg (T q) = true ∧ rn cDg T n q - q ≤ 2 then 2 else 4) → σ' 123 7 = rn cDg T n q → (cDg (T q) = true ∧ rn cDg T n q - q ≤ 2 → σ' 123 10 = tkV T n q) → RdF σ' σ → K none σ') : Mt g y_Re_readDigits [vR 123] σ K := by
  have hn := H.1
  have lp : ∀ (Z : xZ) (d : Nat) (p : Int) (σ1 : xS) (w1 : MV), p + d = n → q ≤ p → (∀ i : Int, q ≤ i → i < p → cDg (T i) = true) → σ1 123 7 = p → σ1 123 9 = q → σ1 123 10 = numP T q p → RdF σ1 σ → rn cDg T n p = rn cDg T n q → Wx g y_Re_readDigits Z K 5 [vR 123, w1] [] σ1 := by
    intro Z d
    induction d with
    | zero =>
      intro p σ1 w1 hd hq hin e7 e9 e10 F er
      have en : σ1 123 6 = n := (F.1 6 (by decide)).trans H.2.2.1
      have e1 : rn cDg T n p = p := rn_st (fun w => by omega)
      have hg := rn_ge (f := cDg) (T := T) (n := n) q
      have hd2 := hin q (by omega) (by omega)
      refine x_aload_n (dat d_Re_readDigits 3 rfl) rfl rfl ?_
      refine x_geti (ji := 7) (v := p) (dat d_Re_readDigits 4 rfl) rfl f_Re_72 (oi_mk (by decide +kernel)) (e7) ?_
      refine x_aload_n (dat d_Re_readDigits 5 rfl) rfl rfl ?_
      refine x_geti (ji := 6) (v := n) (dat d_Re_readDigits 6 rfl) rfl f_Re_56 (oi_mk (by decide +kernel)) (en) ?_
      refine x_icmp_ge (tgt := 77) (dat d_Re_readDigits 7 rfl) (by decide) (fun c_13 => ?_) (fun c_13 => (by omega))
      refine x_aload_n (dat d_Re_readDigits 41 rfl) rfl rfl ?_
      refine x_geti (ji := 7) (v := p) (dat d_Re_readDigits 42 rfl) rfl f_Re_72 (oi_mk (by decide +kernel)) (e7) ?_
      refine x_aload_n (dat d_Re_readDigits 43 rfl) rfl rfl ?_
      refine x_geti (ji := 9) (v := q) (dat d_Re_readDigits 44 rfl) rfl f_Re_114 (oi_mk (by decide +kernel)) (e9) ?_
      refine x_isub (v := p - q) (dat d_Re_readDigits 45 rfl) rfl (by omega) ?_
      refine x_istore_n (L' := [vR 123, vI (p - q)]) (dat d_Re_readDigits 46 rfl) rfl (by decide) rfl rfl ?_
      refine x_aload_n (dat d_Re_readDigits 47 rfl) rfl rfl ?_
      refine x_iload_n (dat d_Re_readDigits 48 rfl) rfl rfl ?_
      refine x_iconst (dat d_Re_readDigits 49 rfl) (by decide) ?_
      refine x_icmp_eq (tgt := 98) (dat d_Re_readDigits 50 rfl) (by decide) (fun c_90 => ?_) (fun c_90 => ?_)
      · refine x_iconst (dat d_Re_readDigits 54 rfl) (by decide) ?_
        refine x_goto (tgt := 103) (dat d_Re_readDigits 55 rfl) (by decide) ?_
        refine x_puti (ji := 8) (x := (2)) (dat d_Re_readDigits 57 rfl) rfl f_Re_93w (oi_mk (by decide +kernel)) (fun h => absurd h (by decide)) (by decide) ?_
        refine x_ret (dat d_Re_readDigits 58 rfl) rfl ?_
        refine k _ ?_ ?_ ?_ ?_ (F.up (by decide) (by decide))
        · rw [up_ni (by decide)]; exact e9
        · rw [up_s]
          first
          | rw [if_pos ⟨hd2, by omega⟩]
          | rw [if_neg (fun w => by omega)]
        · rw [up_ni (by decide), e7]; omega
        · intro w
          rw [up_ni (by decide), e10]
          unfold numP tkV
          rw [if_neg (by omega)]
          by_cases z : p = q + 1
          · rw [if_pos z, if_pos (by omega)]
          · rw [if_neg z, if_neg (by omega)]
      · refine x_iload_n (dat d_Re_readDigits 51 rfl) rfl rfl ?_
        refine x_iconst (dat d_Re_readDigits 52 rfl) (by decide) ?_
        refine x_icmp_ne (tgt := 102) (dat d_Re_readDigits 53 rfl) (by decide) (fun c_95 => ?_) (fun c_95 => ?_)
        · refine x_iconst (dat d_Re_readDigits 56 rfl) (by decide) ?_
          refine x_puti (ji := 8) (x := (4)) (dat d_Re_readDigits 57 rfl) rfl f_Re_93w (oi_mk (by decide +kernel)) (fun h => absurd h (by decide)) (by decide) ?_
          refine x_ret (dat d_Re_readDigits 58 rfl) rfl ?_
          refine k _ ?_ ?_ ?_ ?_ (F.up (by decide) (by decide))
          · rw [up_ni (by decide)]; exact e9
          · rw [up_s]
            first
            | rw [if_pos ⟨hd2, by omega⟩]
            | rw [if_neg (fun w => by omega)]
          · rw [up_ni (by decide), e7]; omega
          · intro w
            rw [up_ni (by decide), e10]
            unfold numP tkV
            rw [if_neg (by omega)]
            by_cases z : p = q + 1
            · rw [if_pos z, if_pos (by omega)]
            · rw [if_neg z, if_neg (by omega)]
        · refine x_iconst (dat d_Re_readDigits 54 rfl) (by decide) ?_
          refine x_goto (tgt := 103) (dat d_Re_readDigits 55 rfl) (by decide) ?_
          refine x_puti (ji := 8) (x := (2)) (dat d_Re_readDigits 57 rfl) rfl f_Re_93w (oi_mk (by decide +kernel)) (fun h => absurd h (by decide)) (by decide) ?_
          refine x_ret (dat d_Re_readDigits 58 rfl) rfl ?_
          refine k _ ?_ ?_ ?_ ?_ (F.up (by decide) (by decide))
          · rw [up_ni (by decide)]; exact e9
          · rw [up_s]
            first
            | rw [if_pos ⟨hd2, by omega⟩]
            | rw [if_neg (fun w => by omega)]
          · rw [up_ni (by decide), e7]; omega
          · intro w
            rw [up_ni (by decide), e10]
            unfold numP tkV
            rw [if_neg (by omega)]
            by_cases z : p = q + 1
            · rw [if_pos z, if_pos (by omega)]
            · rw [if_neg z, if_neg (by omega)]
    | succ d ih =>
      intro p σ1 w1 hd hq hin e7 e9 e10 F er
      have H1 := F.tape H
      have en : σ1 123 6 = n := H1.2.2.1
      obtain ⟨b, eb, hT, hb⟩ := H1.byte (i := p) (by omega) (by omega)
      have hg := rn_ge (f := cDg) (T := T) (n := n) q
      have num_bd : 0 ≤ numP T q p ∧ numP T q p ≤ 99 := by
        unfold numP
        by_cases z0 : p = q
        · rw [if_pos z0]; decide
        · rw [if_neg z0]
          have d0 := cDg_iff.mp (hin q (by omega) (by omega))
          by_cases z1 : p = q + 1
          · rw [if_pos z1]; omega
          · rw [if_neg z1]
            have d1 := cDg_iff.mp (hin (q + 1) (by omega) (by omega))
            omega
      have key : p < q + 2 → cDg (T p) = true → numP T q p * 10 + b - 48 = numP T q (p + 1) := fun w c0 => by
        have dg := cDg_iff.mp c0
        by_cases z : p = q
        · subst z
          unfold numP
          rw [if_pos rfl, if_neg (by omega), if_pos rfl]
          omega
        · have hp : p = q + 1 := by omega
          subst hp
          unfold numP
          rw [if_neg (by omega), if_pos rfl, if_neg (by omega), if_neg (by omega)]
          omega
      refine x_aload_n (dat d_Re_readDigits 3 rfl) rfl rfl ?_
      refine x_geti (ji := 7) (v := p) (dat d_Re_readDigits 4 rfl) rfl f_Re_72 (oi_mk (by decide +kernel)) (e7) ?_
      refine x_aload_n (dat d_Re_readDigits 5 rfl) rfl rfl ?_
      refine x_geti (ji := 6) (v := n) (dat d_Re_readDigits 6 rfl) rfl f_Re_56 (oi_mk (by decide +kernel)) (en) ?_
      refine x_icmp_ge (tgt := 77) (dat d_Re_readDigits 7 rfl) (by decide) (fun c_13 => (by omega)) (fun c_13 => ?_)
      refine x_aload_n (dat d_Re_readDigits 8 rfl) rfl rfl ?_
      refine x_aload_n (dat d_Re_readDigits 9 rfl) rfl rfl ?_
      refine x_geti (ji := 7) (v := p) (dat d_Re_readDigits 10 rfl) rfl f_Re_72 (oi_mk (by decide +kernel)) (e7) ?_
      refine x_inv (As := [vI p]) (dat d_Re_readDigits 11 rfl) rfl c_Re_isDigit l_Re_224 (by decide) (rv_re (by decide +kernel)) rfl rfl (Nat.le_of_ble_eq_true rfl) ?_
      refine sp_Re_isDigit H1 (by omega) (by omega) (fun c => ?_) (fun c => ?_)
      · show Wx g y_Re_readDigits Z K 24 [vR 123, w1] [vI 1] σ1
        have c0 := c
        refine x_if_eq (tgt := 77) (dat d_Re_readDigits 12 rfl) (by decide) (fun h => absurd h (by decide)) (fun c_24 => ?_)
        refine x_aload_n (dat d_Re_readDigits 13 rfl) rfl rfl ?_
        refine x_geti (ji := 7) (v := p) (dat d_Re_readDigits 14 rfl) rfl f_Re_72 (oi_mk (by decide +kernel)) (e7) ?_
        refine x_aload_n (dat d_Re_readDigits 15 rfl) rfl rfl ?_
        refine x_geti (ji := 9) (v := q) (dat d_Re_readDigits 16 rfl) rfl f_Re_114 (oi_mk (by decide +kernel)) (e9) ?_
        refine x_iconst (dat d_Re_readDigits 17 rfl) (by decide) ?_
        refine x_iadd (v := q + 2) (dat d_Re_readDigits 18 rfl) rfl (by omega) ?_
        refine x_icmp_ge (tgt := 64) (dat d_Re_readDigits 19 rfl) (by decide) (fun c_37 => ?_) (fun c_37 => ?_)
        · refine x_aload_n (dat d_Re_readDigits 34 rfl) rfl rfl ?_
          refine x_dup (dat d_Re_readDigits 35 rfl) rfl ?_
          refine x_geti (ji := 7) (v := p) (dat d_Re_readDigits 36 rfl) rfl f_Re_72 (oi_mk (by decide +kernel)) (e7) ?_
          refine x_iconst (dat d_Re_readDigits 37 rfl) (by decide) ?_
          refine x_iadd (v := p + 1) (dat d_Re_readDigits 38 rfl) rfl (by omega) ?_
          refine x_puti (ji := 7) (x := (p + 1)) (dat d_Re_readDigits 39 rfl) rfl f_Re_72w (oi_mk (by decide +kernel)) (fun h => absurd h (by decide)) (by decide) ?_
          refine x_goto (tgt := 5) (dat d_Re_readDigits 40 rfl) (by decide) ?_
          have er2 : rn cDg T n (p + 1) = rn cDg T n q := by rw [← er, rn_go (p := p) (by omega) c0]
          have hin2 : ∀ i : Int, q ≤ i → i < p + 1 → cDg (T i) = true := fun i i0 i1 => by
            by_cases z : i = p
            · rw [z]; exact c0
            · exact hin i i0 (by omega)
          first
          | (refine ih (p + 1) _ _ (by omega) (by omega) hin2 up_s (by rw [up_ni (by decide), up_ni (by decide)]; exact e9) ?_ ((F.up (by decide) (by decide)).up (by decide) (by decide)) er2
             rw [up_ni (by decide), up_s]
             exact key (by omega) c0)
          | (refine ih (p + 1) _ _ (by omega) (by omega) hin2 up_s (by rw [up_ni (by decide)]; exact e9) ?_ (F.up (by decide) (by decide)) er2
             rw [up_ni (by decide), e10]
             unfold numP
             rw [if_neg (show ¬ p = q by omega), if_neg (show ¬ p = q + 1 by omega), if_neg (show ¬ p + 1 = q by omega), if_neg (show ¬ p + 1 = q + 1 by omega)])
        · refine x_aload_n (dat d_Re_readDigits 20 rfl) rfl rfl ?_
          refine x_aload_n (dat d_Re_readDigits 21 rfl) rfl rfl ?_
          refine x_geti (ji := 10) (v := numP T q p) (dat d_Re_readDigits 22 rfl) rfl f_Re_181 (oi_mk (by decide +kernel)) (e10) ?_
          refine x_bipush (dat d_Re_readDigits 23 rfl) (by decide) (by decide) ?_
          refine x_imul (v := (numP T q p) * 10) (dat d_Re_readDigits 24 rfl) rfl (by omega) ?_
          refine x_aload_n (dat d_Re_readDigits 25 rfl) rfl rfl ?_
          refine x_getd (ji := 5) (r := 2) (dat d_Re_readDigits 26 rfl) rfl f_Re_62 (by decide +kernel) (by exact H1.2.1) ?_
          refine x_aload_n (dat d_Re_readDigits 27 rfl) rfl rfl ?_
          refine x_geti (ji := 7) (v := p) (dat d_Re_readDigits 28 rfl) rfl f_Re_72 (oi_mk (by decide +kernel)) (e7) ?_
          refine x_bald (n := 600) (v := b) (dat d_Re_readDigits 29 rfl) (ai_mk (by decide +kernel)) (by omega) (by omega) (eb) ?_
          refine x_iadd (v := ((numP T q p) * 10) + b) (dat d_Re_readDigits 30 rfl) rfl (by have := cDg_iff.mp c0; omega) ?_
          have dg := cDg_iff.mp c0
          refine x_bipush (dat d_Re_readDigits 31 rfl) (by decide) (by decide) ?_
          refine x_isub (v := (((numP T q p) * 10) + b) - 48) (dat d_Re_readDigits 32 rfl) rfl (by omega) ?_
          refine x_puti (ji := 10) (x := ((((numP T q p) * 10) + b) - 48)) (dat d_Re_readDigits 33 rfl) rfl f_Re_181w (oi_mk (by decide +kernel)) (fun h => absurd h (by decide)) (by decide) ?_
          refine x_aload_n (dat d_Re_readDigits 34 rfl) rfl rfl ?_
          refine x_dup (dat d_Re_readDigits 35 rfl) rfl ?_
          refine x_geti (ji := 7) (v := p) (dat d_Re_readDigits 36 rfl) rfl f_Re_72 (oi_mk (by decide +kernel)) ((up_ni (by decide)).trans e7) ?_
          refine x_iconst (dat d_Re_readDigits 37 rfl) (by decide) ?_
          refine x_iadd (v := p + 1) (dat d_Re_readDigits 38 rfl) rfl (by omega) ?_
          refine x_puti (ji := 7) (x := (p + 1)) (dat d_Re_readDigits 39 rfl) rfl f_Re_72w (oi_mk (by decide +kernel)) (fun h => absurd h (by decide)) (by decide) ?_
          refine x_goto (tgt := 5) (dat d_Re_readDigits 40 rfl) (by decide) ?_
          have er2 : rn cDg T n (p + 1) = rn cDg T n q := by rw [← er, rn_go (p := p) (by omega) c0]
          have hin2 : ∀ i : Int, q ≤ i → i < p + 1 → cDg (T i) = true := fun i i0 i1 => by
            by_cases z : i = p
            · rw [z]; exact c0
            · exact hin i i0 (by omega)
          first
          | (refine ih (p + 1) _ _ (by omega) (by omega) hin2 up_s (by rw [up_ni (by decide), up_ni (by decide)]; exact e9) ?_ ((F.up (by decide) (by decide)).up (by decide) (by decide)) er2
             rw [up_ni (by decide), up_s]
             exact key (by omega) c0)
          | (refine ih (p + 1) _ _ (by omega) (by omega) hin2 up_s (by rw [up_ni (by decide)]; exact e9) ?_ (F.up (by decide) (by decide)) er2
             rw [up_ni (by decide), e10]
             unfold numP
             rw [if_neg (show ¬ p = q by omega), if_neg (show ¬ p = q + 1 by omega), if_neg (show ¬ p + 1 = q by omega), if_neg (show ¬ p + 1 = q + 1 by omega)])
      · show Wx g y_Re_readDigits Z K 24 [vR 123, w1] [vI 0] σ1
        have c0 := c
        refine x_if_eq (tgt := 77) (dat d_Re_readDigits 12 rfl) (by decide) (fun c_24 => ?_) (fun h => absurd h (by decide))
        have e1 : rn cDg T n p = p := rn_st (fun w => c0 w.2)
        refine x_aload_n (dat d_Re_readDigits 41 rfl) rfl rfl ?_
        refine x_geti (ji := 7) (v := p) (dat d_Re_readDigits 42 rfl) rfl f_Re_72 (oi_mk (by decide +kernel)) (e7) ?_
        refine x_aload_n (dat d_Re_readDigits 43 rfl) rfl rfl ?_
        refine x_geti (ji := 9) (v := q) (dat d_Re_readDigits 44 rfl) rfl f_Re_114 (oi_mk (by decide +kernel)) (e9) ?_
        refine x_isub (v := p - q) (dat d_Re_readDigits 45 rfl) rfl (by omega) ?_
        refine x_istore_n (L' := [vR 123, vI (p - q)]) (dat d_Re_readDigits 46 rfl) rfl (by decide) rfl rfl ?_
        refine x_aload_n (dat d_Re_readDigits 47 rfl) rfl rfl ?_
        refine x_iload_n (dat d_Re_readDigits 48 rfl) rfl rfl ?_
        refine x_iconst (dat d_Re_readDigits 49 rfl) (by decide) ?_
        refine x_icmp_eq (tgt := 98) (dat d_Re_readDigits 50 rfl) (by decide) (fun c_90 => ?_) (fun c_90 => ?_)
        · refine x_iconst (dat d_Re_readDigits 54 rfl) (by decide) ?_
          refine x_goto (tgt := 103) (dat d_Re_readDigits 55 rfl) (by decide) ?_
          refine x_puti (ji := 8) (x := (2)) (dat d_Re_readDigits 57 rfl) rfl f_Re_93w (oi_mk (by decide +kernel)) (fun h => absurd h (by decide)) (by decide) ?_
          refine x_ret (dat d_Re_readDigits 58 rfl) rfl ?_
          refine k _ ?_ ?_ ?_ ?_ (F.up (by decide) (by decide))
          · rw [up_ni (by decide)]; exact e9
          · rw [up_s]
            by_cases z : p = q
            · subst z
              rw [if_neg (fun w => c0 w.1)]
              all_goals omega
            · have hd2 := hin q (by omega) (by omega)
              first
              | rw [if_pos ⟨hd2, by omega⟩]
              | rw [if_neg (fun w => by omega)]
          · rw [up_ni (by decide), e7]; omega
          · intro w
            rw [up_ni (by decide), e10]
            have z0 : ¬ p = q := fun z => c0 (by rw [z]; exact w.1)
            unfold numP tkV
            rw [if_neg z0]
            by_cases z : p = q + 1
            · rw [if_pos z, if_pos (by omega)]
            · rw [if_neg z, if_neg (by omega)]
        · refine x_iload_n (dat d_Re_readDigits 51 rfl) rfl rfl ?_
          refine x_iconst (dat d_Re_readDigits 52 rfl) (by decide) ?_
          refine x_icmp_ne (tgt := 102) (dat d_Re_readDigits 53 rfl) (by decide) (fun c_95 => ?_) (fun c_95 => ?_)
          · refine x_iconst (dat d_Re_readDigits 56 rfl) (by decide) ?_
            refine x_puti (ji := 8) (x := (4)) (dat d_Re_readDigits 57 rfl) rfl f_Re_93w (oi_mk (by decide +kernel)) (fun h => absurd h (by decide)) (by decide) ?_
            refine x_ret (dat d_Re_readDigits 58 rfl) rfl ?_
            refine k _ ?_ ?_ ?_ ?_ (F.up (by decide) (by decide))
            · rw [up_ni (by decide)]; exact e9
            · rw [up_s]
              by_cases z : p = q
              · subst z
                rw [if_neg (fun w => c0 w.1)]
                all_goals omega
              · have hd2 := hin q (by omega) (by omega)
                first
                | rw [if_pos ⟨hd2, by omega⟩]
                | rw [if_neg (fun w => by omega)]
            · rw [up_ni (by decide), e7]; omega
            · intro w
              rw [up_ni (by decide), e10]
              have z0 : ¬ p = q := fun z => c0 (by rw [z]; exact w.1)
              unfold numP tkV
              rw [if_neg z0]
              by_cases z : p = q + 1
              · rw [if_pos z, if_pos (by omega)]
              · rw [if_neg z, if_neg (by omega)]
          · refine x_iconst (dat d_Re_readDigits 54 rfl) (by decide) ?_
            refine x_goto (tgt := 103) (dat d_Re_readDigits 55 rfl) (by decide) ?_
            refine x_puti (ji := 8) (x := (2)) (dat d_Re_readDigits 57 rfl) rfl f_Re_93w (oi_mk (by decide +kernel)) (fun h => absurd h (by decide)) (by decide) ?_
            refine x_ret (dat d_Re_readDigits 58 rfl) rfl ?_
            refine k _ ?_ ?_ ?_ ?_ (F.up (by decide) (by decide))
            · rw [up_ni (by decide)]; exact e9
            · rw [up_s]
              by_cases z : p = q
              · subst z
                rw [if_neg (fun w => c0 w.1)]
                all_goals omega
              · have hd2 := hin q (by omega) (by omega)
                first
                | rw [if_pos ⟨hd2, by omega⟩]
                | rw [if_neg (fun w => by omega)]
            · rw [up_ni (by decide), e7]; omega
            · intro w
              rw [up_ni (by decide), e10]
              have z0 : ¬ p = q := fun z => c0 (by rw [z]; exact w.1)
              unfold numP tkV
              rw [if_neg z0]
              by_cases z : p = q + 1
              · rw [if_pos z, if_pos (by omega)]
              · rw [if_neg z, if_neg (by omega)]
  refine x_enter 1 rfl rfl rfl (fun Z => ?_)
  show Wx g y_Re_readDigits Z K 0 [vR 123, vU] [] σ
  refine x_aload_n (dat d_Re_readDigits 0 rfl) rfl rfl ?_
  refine x_iconst (dat d_Re_readDigits 1 rfl) (by decide) ?_
  refine x_puti (ji := 10) (x := (0)) (dat d_Re_readDigits 2 rfl) rfl f_Re_181w (oi_mk (by decide +kernel)) (fun h => absurd h (by decide)) (by decide) ?_
  exact lp Z (n - q).toNat q _ _ (by omega) (by omega) (fun i i0 i1 => by omega) (by rw [up_ni (by decide)]; exact e7) (by rw [up_ni (by decide)]; exact e9) (by rw [up_s]; unfold numP; rw [if_pos rfl]) ((RdF.rfl σ).up (by decide) (by decide)) rfl
/-- a token is read -/
def TokR (σ : xS) (T : Int → Int) (n q : Int) : Prop := σ 123 9 = q ∧ σ 123 8 = tkC T n q ∧ (tkC T n q ≠ 4 → σ 123 7 = tkN T n q) ∧ (tkC T n q = 2 → σ 123 10 = tkV T n q)
theorem sp_Re_readToken {g : xG} {K : Option MV → xS → Prop} {σ : xS} {T : Int → Int} {n p : Int} (H : RdT σ T n) (p0 : 0 ≤ p) (p1 : p ≤ n) (e7 : σ 123 7 = p)
    (k : ∀ σ' : xS, TokR σ' T n (rn cBl T n p) → RdF σ' σ → K none σ') : Mt g y_Re_readToken [vR 123] σ K := by
  have hn := H.1
  have pq := rn_ge (f := cBl) (T := T) (n := n) p
  have qn := rn_le (f := cBl) (T := T) (n := n) p1
  generalize hq : rn cBl T n p = q at k pq qn
  have lw : ∀ (Z : xZ) (d : Nat) (p : Int) (σ1 : xS), p + d = n → q ≤ p → q < n → ¬ T q = 59 → cLt (T q) = true → σ1 123 7 = p → σ1 123 9 = q → σ1 123 8 = 1 → RdF σ1 σ → rn cLt T n p = rn cLt T n q → Wx g y_Re_readToken Z K 127 [vR 123] [] σ1 := by
    intro Z d
    induction d with
    | zero =>
      intro p σ1 hd hp hqn h59 hlt e7 e9 e8 F er
      have en : σ1 123 6 = n := (F.1 6 (by decide)).trans H.2.2.1
      have e1 : rn cLt T n p = p := rn_st (fun w => by omega)
      refine x_aload_n (dat d_Re_readToken 64 rfl) rfl rfl ?_
      refine x_geti (ji := 7) (v := p) (dat d_Re_readToken 65 rfl) rfl f_Re_72 (oi_mk (by decide +kernel)) (e7) ?_
      refine x_aload_n (dat d_Re_readToken 66 rfl) rfl rfl ?_
      refine x_geti (ji := 6) (v := n) (dat d_Re_readToken 67 rfl) rfl f_Re_56 (oi_mk (by decide +kernel)) (en) ?_
      refine x_icmp_ge (tgt := 166) (dat d_Re_readToken 68 rfl) (by decide) (fun c_135 => ?_) (fun c_135 => (by omega))
      refine x_ret (dat d_Re_readToken 83 rfl) rfl ?_
      have hc : tkC T n q = 1 := by unfold tkC; rw [if_neg (by omega), if_neg h59, if_pos hlt]
      refine k σ1 ⟨e9, by rw [hc]; exact e8, fun _ => ?_, fun w => by rw [hc] at w; exact absurd w (by decide)⟩ F
      unfold tkN
      rw [if_neg (by omega), if_neg h59, if_pos hlt, e7]
      omega
    | succ d ih =>
      intro p σ1 hd hp hqn h59 hlt e7 e9 e8 F er
      have H1 := F.tape H
      have en : σ1 123 6 = n := H1.2.2.1
      refine x_aload_n (dat d_Re_readToken 64 rfl) rfl rfl ?_
      refine x_geti (ji := 7) (v := p) (dat d_Re_readToken 65 rfl) rfl f_Re_72 (oi_mk (by decide +kernel)) (e7) ?_
      refine x_aload_n (dat d_Re_readToken 66 rfl) rfl rfl ?_
      refine x_geti (ji := 6) (v := n) (dat d_Re_readToken 67 rfl) rfl f_Re_56 (oi_mk (by decide +kernel)) (en) ?_
      refine x_icmp_ge (tgt := 166) (dat d_Re_readToken 68 rfl) (by decide) (fun c_135 => (by omega)) (fun c_135 => ?_)
      refine x_aload_n (dat d_Re_readToken 69 rfl) rfl rfl ?_
      refine x_aload_n (dat d_Re_readToken 70 rfl) rfl rfl ?_
      refine x_geti (ji := 7) (v := p) (dat d_Re_readToken 71 rfl) rfl f_Re_72 (oi_mk (by decide +kernel)) (e7) ?_
      refine x_inv (As := [vI p]) (dat d_Re_readToken 72 rfl) rfl c_Re_isLetter l_Re_218 (by decide) (rv_re (by decide +kernel)) rfl rfl (Nat.le_of_ble_eq_true rfl) ?_
      refine sp_Re_isLetter H1 (by omega) (by omega) (fun c => ?_) (fun c => ?_)
      · show Wx g y_Re_readToken Z K 146 [vR 123] [vI 1] σ1
        have c0 := c
        refine x_if_eq (tgt := 166) (dat d_Re_readToken 73 rfl) (by decide) (fun h => absurd h (by decide)) (fun c_146 => ?_)
        refine x_aload_n (dat d_Re_readToken 74 rfl) rfl rfl ?_
        refine x_dup (dat d_Re_readToken 75 rfl) rfl ?_
        refine x_geti (ji := 7) (v := p) (dat d_Re_readToken 76 rfl) rfl f_Re_72 (oi_mk (by decide +kernel)) (e7) ?_
        refine x_iconst (dat d_Re_readToken 77 rfl) (by decide) ?_
        refine x_iadd (v := p + 1) (dat d_Re_readToken 78 rfl) rfl (by omega) ?_
        refine x_puti (ji := 7) (x := (p + 1)) (dat d_Re_readToken 79 rfl) rfl f_Re_72w (oi_mk (by decide +kernel)) (fun h => absurd h (by decide)) (by decide) ?_
        refine x_goto (tgt := 127) (dat d_Re_readToken 80 rfl) (by decide) ?_
        exact ih (p + 1) _ (by omega) (by omega) hqn h59 hlt up_s (by rw [up_ni (by decide)]; exact e9) (by rw [up_ni (by decide)]; exact e8) (F.up (by decide) (by decide)) (by rw [← er, rn_go (p := p) (by omega) c0])
      · show Wx g y_Re_readToken Z K 146 [vR 123] [vI 0] σ1
        have c0 := c
        refine x_if_eq (tgt := 166) (dat d_Re_readToken 73 rfl) (by decide) (fun c_146 => ?_) (fun h => absurd h (by decide))
        refine x_ret (dat d_Re_readToken 83 rfl) rfl ?_
        have hc : tkC T n q = 1 := by unfold tkC; rw [if_neg (by omega), if_neg h59, if_pos hlt]
        have e1 : rn cLt T n p = p := rn_st (fun w => c0 w.2)
        refine k σ1 ⟨e9, by rw [hc]; exact e8, fun _ => ?_, fun w => by rw [hc] at w; exact absurd w (by decide)⟩ F
        unfold tkN
        rw [if_neg (by omega), if_neg h59, if_pos hlt, e7]
        omega
  have lb : ∀ (Z : xZ) (σ1 : xS), σ1 123 7 = q → RdF σ1 σ → Wx g y_Re_readToken Z K 52 [vR 123] [] σ1 := by
    intro Z σ1 e7 F
    have H1 := F.tape H
    have en : σ1 123 6 = n := H1.2.2.1
    by_cases hqn : n ≤ q
    · refine x_aload_n (dat d_Re_readToken 26 rfl) rfl rfl ?_
      refine x_aload_n (dat d_Re_readToken 27 rfl) rfl rfl ?_
      refine x_geti (ji := 7) (v := q) (dat d_Re_readToken 28 rfl) rfl f_Re_72 (oi_mk (by decide +kernel)) (e7) ?_
      refine x_puti (ji := 9) (x := (q)) (dat d_Re_readToken 29 rfl) rfl f_Re_114w (oi_mk (by decide +kernel)) (fun h => absurd h (by decide)) (by decide) ?_
      refine x_aload_n (dat d_Re_readToken 30 rfl) rfl rfl ?_
      refine x_geti (ji := 7) (v := q) (dat d_Re_readToken 31 rfl) rfl f_Re_72 (oi_mk (by decide +kernel)) ((up_ni (by decide)).trans e7) ?_
      refine x_aload_n (dat d_Re_readToken 32 rfl) rfl rfl ?_
      refine x_geti (ji := 6) (v := n) (dat d_Re_readToken 33 rfl) rfl f_Re_56 (oi_mk (by decide +kernel)) ((up_ni (by decide)).trans en) ?_
      refine x_icmp_lt (tgt := 79) (dat d_Re_readToken 34 rfl) (by decide) (fun c_68 => (by omega)) (fun c_68 => ?_)
      refine x_aload_n (dat d_Re_readToken 35 rfl) rfl rfl ?_
      refine x_iconst (dat d_Re_readToken 36 rfl) (by decide) ?_
      refine x_puti (ji := 8) (x := (0)) (dat d_Re_readToken 37 rfl) rfl f_Re_93w (oi_mk (by decide +kernel)) (fun h => absurd h (by decide)) (by decide) ?_
      refine x_goto (tgt := 166) (dat d_Re_readToken 38 rfl) (by decide) ?_
      refine x_ret (dat d_Re_readToken 83 rfl) rfl ?_
      have hc : tkC T n q = 0 := by unfold tkC; rw [if_pos hqn]
      refine k _ ⟨by rw [up_ni (by decide), up_s], by rw [hc, up_s], fun _ => ?_, fun w => by rw [hc] at w; exact absurd w (by decide)⟩ ((F.up (by decide) (by decide)).up (by decide) (by decide))
      rw [up_ni (by decide), up_ni (by decide), e7]
      unfold tkN
      rw [if_pos hqn]
    · obtain ⟨b, eb, hT, hb⟩ := H1.byte (i := q) (by omega) (by omega)
      refine x_aload_n (dat d_Re_readToken 26 rfl) rfl rfl ?_
      refine x_aload_n (dat d_Re_readToken 27 rfl) rfl rfl ?_
      refine x_geti (ji := 7) (v := q) (dat d_Re_readToken 28 rfl) rfl f_Re_72 (oi_mk (by decide +kernel)) (e7) ?_
      refine x_puti (ji := 9) (x := (q)) (dat d_Re_readToken 29 rfl) rfl f_Re_114w (oi_mk (by decide +kernel)) (fun h => absurd h (by decide)) (by decide) ?_
      refine x_aload_n (dat d_Re_readToken 30 rfl) rfl rfl ?_
      refine x_geti (ji := 7) (v := q) (dat d_Re_readToken 31 rfl) rfl f_Re_72 (oi_mk (by decide +kernel)) ((up_ni (by decide)).trans e7) ?_
      refine x_aload_n (dat d_Re_readToken 32 rfl) rfl rfl ?_
      refine x_geti (ji := 6) (v := n) (dat d_Re_readToken 33 rfl) rfl f_Re_56 (oi_mk (by decide +kernel)) ((up_ni (by decide)).trans en) ?_
      refine x_icmp_lt (tgt := 79) (dat d_Re_readToken 34 rfl) (by decide) (fun c_68 => ?_) (fun c_68 => (by omega))
      refine x_aload_n (dat d_Re_readToken 39 rfl) rfl rfl ?_
      refine x_getd (ji := 5) (r := 2) (dat d_Re_readToken 40 rfl) rfl f_Re_62 (by decide +kernel) (by rw [up_ni (by decide)]; exact H1.2.1) ?_
      refine x_aload_n (dat d_Re_readToken 41 rfl) rfl rfl ?_
      refine x_geti (ji := 7) (v := q) (dat d_Re_readToken 42 rfl) rfl f_Re_72 (oi_mk (by decide +kernel)) ((up_ni (by decide)).trans e7) ?_
      refine x_bald (n := 600) (v := b) (dat d_Re_readToken 43 rfl) (ai_mk (by decide +kernel)) (by omega) (by omega) ((up_nk (by decide)).trans eb) ?_
      refine x_bipush (dat d_Re_readToken 44 rfl) (by decide) (by decide) ?_
      refine x_icmp_ne (tgt := 111) (dat d_Re_readToken 45 rfl) (by decide) (fun c_90 => ?_) (fun c_90 => ?_)
      · refine x_aload_n (dat d_Re_readToken 56 rfl) rfl rfl ?_
        refine x_aload_n (dat d_Re_readToken 57 rfl) rfl rfl ?_
        refine x_geti (ji := 7) (v := q) (dat d_Re_readToken 58 rfl) rfl f_Re_72 (oi_mk (by decide +kernel)) ((up_ni (by decide)).trans e7) ?_
        refine x_inv (As := [vI q]) (dat d_Re_readToken 59 rfl) rfl c_Re_isLetter l_Re_218 (by decide) (rv_re (by decide +kernel)) rfl rfl (Nat.le_of_ble_eq_true rfl) ?_
        refine sp_Re_isLetter (((RdF.rfl σ1).up (by decide) (by decide)).tape H1) (by omega) (by omega) (fun c => ?_) (fun c => ?_)
        · show Wx g y_Re_readToken Z K 119 [vR 123] [vI 1] (up σ1 123 9 q)
          have c0 := c
          refine x_if_eq (tgt := 162) (dat d_Re_readToken 60 rfl) (by decide) (fun h => absurd h (by decide)) (fun c_119 => ?_)
          refine x_aload_n (dat d_Re_readToken 61 rfl) rfl rfl ?_
          refine x_iconst (dat d_Re_readToken 62 rfl) (by decide) ?_
          refine x_puti (ji := 8) (x := (1)) (dat d_Re_readToken 63 rfl) rfl f_Re_93w (oi_mk (by decide +kernel)) (fun h => absurd h (by decide)) (by decide) ?_
          exact lw Z (n - q).toNat q _ (by omega) (by omega) (by omega) (by omega) c0 (by rw [up_ni (by decide), up_ni (by decide)]; exact e7) (by rw [up_ni (by decide), up_s]) up_s ((F.up (by decide) (by decide)).up (by decide) (by decide)) rfl
        · show Wx g y_Re_readToken Z K 119 [vR 123] [vI 0] (up σ1 123 9 q)
          have c0 := c
          refine x_if_eq (tgt := 162) (dat d_Re_readToken 60 rfl) (by decide) (fun c_119 => ?_) (fun h => absurd h (by decide))
          refine x_aload_n (dat d_Re_readToken 81 rfl) rfl rfl ?_
          refine x_inv (As := []) (dat d_Re_readToken 82 rfl) rfl c_Re_readDigits l_Re_221 (by decide) (rv_re (by decide +kernel)) rfl rfl (Nat.le_of_ble_eq_true rfl) ?_
          refine sp_Re_readDigits (((RdF.rfl σ1).up (by decide) (by decide)).tape H1) (by omega) (by omega) up_s (by rw [up_ni (by decide)]; exact e7) (fun σ2 f9 f8 f7 f10 F2 => ?_)
          show Wx g y_Re_readToken Z K 166 [vR 123] [] σ2
          refine x_ret (dat d_Re_readToken 83 rfl) rfl ?_
          first
          | (have hc : tkC T n q = 3 := by unfold tkC; rw [if_neg hqn, if_pos (by omega)]
             refine k _ ⟨by rw [up_ni (by decide), up_ni (by decide), up_s], by rw [hc, up_ni (by decide), up_s], fun _ => ?_, fun w => by rw [hc] at w; exact absurd w (by decide)⟩ (((F.up (by decide) (by decide)).up (by decide) (by decide)).up (by decide) (by decide))
             rw [up_s]
             unfold tkN
             rw [if_neg hqn, if_pos (by omega)])
          | (have h59 : ¬ T q = 59 := by omega
             have hc : tkC T n q = if cDg (T q) = true ∧ rn cDg T n q - q ≤ 2 then 2 else 4 := by unfold tkC; rw [if_neg hqn, if_neg h59, if_neg c0]
             refine k σ2 ⟨f9, by rw [hc]; exact f8, fun w => ?_, fun w => ?_⟩ (F2.trans (F.up (by decide) (by decide)))
             · by_cases z : cDg (T q) = true ∧ rn cDg T n q - q ≤ 2
               · rw [f7]
                 unfold tkN
                 rw [if_neg hqn, if_neg h59, if_neg c0, if_pos z.1]
               · rw [hc, if_neg z] at w
                 exact absurd rfl w
             · by_cases z : cDg (T q) = true ∧ rn cDg T n q - q ≤ 2
               · exact f10 z
               · rw [hc, if_neg z] at w
                 exact absurd w (by decide))
      · refine x_aload_n (dat d_Re_readToken 46 rfl) rfl rfl ?_
        refine x_iconst (dat d_Re_readToken 47 rfl) (by decide) ?_
        refine x_puti (ji := 8) (x := (3)) (dat d_Re_readToken 48 rfl) rfl f_Re_93w (oi_mk (by decide +kernel)) (fun h => absurd h (by decide)) (by decide) ?_
        refine x_aload_n (dat d_Re_readToken 49 rfl) rfl rfl ?_
        refine x_dup (dat d_Re_readToken 50 rfl) rfl ?_
        refine x_geti (ji := 7) (v := q) (dat d_Re_readToken 51 rfl) rfl f_Re_72 (oi_mk (by decide +kernel)) ((up_ni (by decide)).trans ((up_ni (by decide)).trans e7)) ?_
        refine x_iconst (dat d_Re_readToken 52 rfl) (by decide) ?_
        refine x_iadd (v := q + 1) (dat d_Re_readToken 53 rfl) rfl (by omega) ?_
        refine x_puti (ji := 7) (x := (q + 1)) (dat d_Re_readToken 54 rfl) rfl f_Re_72w (oi_mk (by decide +kernel)) (fun h => absurd h (by decide)) (by decide) ?_
        refine x_goto (tgt := 166) (dat d_Re_readToken 55 rfl) (by decide) ?_
        refine x_ret (dat d_Re_readToken 83 rfl) rfl ?_
        first
        | (have hc : tkC T n q = 3 := by unfold tkC; rw [if_neg hqn, if_pos (by omega)]
           refine k _ ⟨by rw [up_ni (by decide), up_ni (by decide), up_s], by rw [hc, up_ni (by decide), up_s], fun _ => ?_, fun w => by rw [hc] at w; exact absurd w (by decide)⟩ (((F.up (by decide) (by decide)).up (by decide) (by decide)).up (by decide) (by decide))
           rw [up_s]
           unfold tkN
           rw [if_neg hqn, if_pos (by omega)])
        | (have h59 : ¬ T q = 59 := by omega
           have hc : tkC T n q = if cDg (T q) = true ∧ rn cDg T n q - q ≤ 2 then 2 else 4 := by unfold tkC; rw [if_neg hqn, if_neg h59, if_neg c0]
           refine k σ2 ⟨f9, by rw [hc]; exact f8, fun w => ?_, fun w => ?_⟩ (F2.trans (F.up (by decide) (by decide)))
           · by_cases z : cDg (T q) = true ∧ rn cDg T n q - q ≤ 2
             · rw [f7]
               unfold tkN
               rw [if_neg hqn, if_neg h59, if_neg c0, if_pos z.1]
             · rw [hc, if_neg z] at w
               exact absurd rfl w
           · by_cases z : cDg (T q) = true ∧ rn cDg T n q - q ≤ 2
             · exact f10 z
             · rw [hc, if_neg z] at w
               exact absurd w (by decide))
  have lp : ∀ (Z : xZ) (d : Nat) (p : Int) (σ1 : xS), p + d = n → 0 ≤ p → σ1 123 7 = p → RdF σ1 σ → rn cBl T n p = q → Wx g y_Re_readToken Z K 0 [vR 123] [] σ1 := by
    intro Z d
    induction d with
    | zero =>
      intro p σ1 hd p0 e7 F er
      have en : σ1 123 6 = n := (F.1 6 (by decide)).trans H.2.2.1
      have e1 : rn cBl T n p = p := rn_st (fun w => by omega)
      refine x_aload_n (dat d_Re_readToken 0 rfl) rfl rfl ?_
      refine x_geti (ji := 7) (v := p) (dat d_Re_readToken 1 rfl) rfl f_Re_72 (oi_mk (by decide +kernel)) (e7) ?_
      refine x_aload_n (dat d_Re_readToken 2 rfl) rfl rfl ?_
      refine x_geti (ji := 6) (v := n) (dat d_Re_readToken 3 rfl) rfl f_Re_56 (oi_mk (by decide +kernel)) (en) ?_
      refine x_icmp_ge (tgt := 52) (dat d_Re_readToken 4 rfl) (by decide) (fun c_8 => ?_) (fun c_8 => (by omega))
      exact lb Z σ1 (by omega) F
    | succ d ih =>
      intro p σ1 hd p0 e7 F er
      have H1 := F.tape H
      have en : σ1 123 6 = n := H1.2.2.1
      obtain ⟨b, eb, hT, hb⟩ := H1.byte (i := p) (by omega) (by omega)
      refine x_aload_n (dat d_Re_readToken 0 rfl) rfl rfl ?_
      refine x_geti (ji := 7) (v := p) (dat d_Re_readToken 1 rfl) rfl f_Re_72 (oi_mk (by decide +kernel)) (e7) ?_
      refine x_aload_n (dat d_Re_readToken 2 rfl) rfl rfl ?_
      refine x_geti (ji := 6) (v := n) (dat d_Re_readToken 3 rfl) rfl f_Re_56 (oi_mk (by decide +kernel)) (en) ?_
      refine x_icmp_ge (tgt := 52) (dat d_Re_readToken 4 rfl) (by decide) (fun c_8 => (by omega)) (fun c_8 => ?_)
      refine x_aload_n (dat d_Re_readToken 5 rfl) rfl rfl ?_
      refine x_getd (ji := 5) (r := 2) (dat d_Re_readToken 6 rfl) rfl f_Re_62 (by decide +kernel) (by exact H1.2.1) ?_
      refine x_aload_n (dat d_Re_readToken 7 rfl) rfl rfl ?_
      refine x_geti (ji := 7) (v := p) (dat d_Re_readToken 8 rfl) rfl f_Re_72 (oi_mk (by decide +kernel)) (e7) ?_
      refine x_bald (n := 600) (v := b) (dat d_Re_readToken 9 rfl) (ai_mk (by decide +kernel)) (by omega) (by omega) (eb) ?_
      refine x_bipush (dat d_Re_readToken 10 rfl) (by decide) (by decide) ?_
      refine x_icmp_eq (tgt := 39) (dat d_Re_readToken 11 rfl) (by decide) (fun c_22 => ?_) (fun c_22 => ?_)
      · refine x_aload_n (dat d_Re_readToken 19 rfl) rfl rfl ?_
        refine x_dup (dat d_Re_readToken 20 rfl) rfl ?_
        refine x_geti (ji := 7) (v := p) (dat d_Re_readToken 21 rfl) rfl f_Re_72 (oi_mk (by decide +kernel)) (e7) ?_
        refine x_iconst (dat d_Re_readToken 22 rfl) (by decide) ?_
        refine x_iadd (v := p + 1) (dat d_Re_readToken 23 rfl) rfl (by omega) ?_
        refine x_puti (ji := 7) (x := (p + 1)) (dat d_Re_readToken 24 rfl) rfl f_Re_72w (oi_mk (by decide +kernel)) (fun h => absurd h (by decide)) (by decide) ?_
        refine x_goto (tgt := 0) (dat d_Re_readToken 25 rfl) (by decide) ?_
        exact ih (p + 1) _ (by omega) (by omega) up_s (F.up (by decide) (by decide)) (by rw [← er, rn_go (p := p) (by omega) (cBl_iff.mpr (by omega))])
      · refine x_aload_n (dat d_Re_readToken 12 rfl) rfl rfl ?_
        refine x_getd (ji := 5) (r := 2) (dat d_Re_readToken 13 rfl) rfl f_Re_62 (by decide +kernel) (by exact H1.2.1) ?_
        refine x_aload_n (dat d_Re_readToken 14 rfl) rfl rfl ?_
        refine x_geti (ji := 7) (v := p) (dat d_Re_readToken 15 rfl) rfl f_Re_72 (oi_mk (by decide +kernel)) (e7) ?_
        refine x_bald (n := 600) (v := b) (dat d_Re_readToken 16 rfl) (ai_mk (by decide +kernel)) (by omega) (by omega) (eb) ?_
        refine x_bipush (dat d_Re_readToken 17 rfl) (by decide) (by decide) ?_
        refine x_icmp_ne (tgt := 52) (dat d_Re_readToken 18 rfl) (by decide) (fun c_36 => ?_) (fun c_36 => ?_)
        · have e1 : rn cBl T n p = p := rn_st (fun w => by have := cBl_iff.mp w.2; omega)
          exact lb Z σ1 (by omega) F
        · refine x_aload_n (dat d_Re_readToken 19 rfl) rfl rfl ?_
          refine x_dup (dat d_Re_readToken 20 rfl) rfl ?_
          refine x_geti (ji := 7) (v := p) (dat d_Re_readToken 21 rfl) rfl f_Re_72 (oi_mk (by decide +kernel)) (e7) ?_
          refine x_iconst (dat d_Re_readToken 22 rfl) (by decide) ?_
          refine x_iadd (v := p + 1) (dat d_Re_readToken 23 rfl) rfl (by omega) ?_
          refine x_puti (ji := 7) (x := (p + 1)) (dat d_Re_readToken 24 rfl) rfl f_Re_72w (oi_mk (by decide +kernel)) (fun h => absurd h (by decide)) (by decide) ?_
          refine x_goto (tgt := 0) (dat d_Re_readToken 25 rfl) (by decide) ?_
          exact ih (p + 1) _ (by omega) (by omega) up_s (F.up (by decide) (by decide)) (by rw [← er, rn_go (p := p) (by omega) (cBl_iff.mpr (by omega))])
  refine x_enter 0 rfl rfl rfl (fun Z => ?_)
  show Wx g y_Re_readToken Z K 0 [vR 123] [] σ
  exact lp Z (n - p).toNat p σ (by omega) p0 e7 (RdF.rfl σ) hq
