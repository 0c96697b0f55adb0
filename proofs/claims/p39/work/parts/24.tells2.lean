/-! what a run tells, its hours and people -/
theorem sp_Ru_firstStarving {g : xG} {K : Option MV → xS → Prop} {σ : xS} {u : Nat} {C : Cf} (hu : IsRu u) (hC : CfOk C) (R : RunS σ u C 0 (cH C)) (k : ∀ v : Int, FirstH (fun h => ∃ p : Int, 0 ≤ p ∧ p < cS C 0 ∧ (rst C (h + 1)).2 p = false) (cH C) v → K (some (vI v)) σ) : Mt g y_Ru_firstStarving [vR u] σ K := by
  have hH := cH_eq hC
  have h8 := hC.2.1
  have hP := hC.1
  have e0 : σ u 0 = cS C 0 := R.1.1
  have e1 : σ u 1 = (cH C : Int) := by rw [R.1.2.1]; omega
  have hsh : 1 ≤ ishl 1 (cS C 0) ∧ ishl 1 (cS C 0) ≤ 256 := ishl_bd (n := 8) hP (by omega) (by decide)
  have fl := Msk.full (n := 8) (by decide) hP (by omega)
  have lp : ∀ (Z : xZ) (n h : Nat), h + n = cH C → (∀ h2 : Nat, h2 < h → ¬ ∃ p : Int, 0 ≤ p ∧ p < cS C 0 ∧ (rst C (h2 + 1)).2 p = false) → Wx g y_Ru_firstStarving Z K 2 [vR u, vI (h : Int)] [] σ := by
    intro Z n
    induction n with
    | zero =>
      intro h hn H
      have e : h = cH C := by omega
      subst e
      refine x_iload_n (dat d_Ru_firstStarving 2 rfl) rfl rfl ?_
      refine x_aload_n (dat d_Ru_firstStarving 3 rfl) rfl rfl ?_
      refine x_geti (ji := 1) (v := (cH C : Int)) (dat d_Ru_firstStarving 4 rfl) rfl f_Ru_50 (ru_oi_1 hu) (e1) ?_
      refine x_icmp_ge (tgt := 35) (dat d_Ru_firstStarving 5 rfl) (by decide) (fun c_7 => ?_) (fun c_7 => (by omega))
      refine x_iconst (dat d_Ru_firstStarving 21 rfl) (by decide) ?_
      refine x_iret (dat d_Ru_firstStarving 22 rfl) rfl ?_
      exact k _ (Or.inl ⟨rfl, H⟩)
    | succ n ih =>
      intro h hn H
      have ml := R.hL (h := h) (by omega) (by omega)
      refine x_iload_n (dat d_Ru_firstStarving 2 rfl) rfl rfl ?_
      refine x_aload_n (dat d_Ru_firstStarving 3 rfl) rfl rfl ?_
      refine x_geti (ji := 1) (v := (cH C : Int)) (dat d_Ru_firstStarving 4 rfl) rfl f_Ru_50 (ru_oi_1 hu) (e1) ?_
      refine x_icmp_ge (tgt := 35) (dat d_Ru_firstStarving 5 rfl) (by decide) (fun c_7 => (by omega)) (fun c_7 => ?_)
      refine x_aload_n (dat d_Ru_firstStarving 6 rfl) rfl rfl ?_
      refine x_getr (r := u + 9) (dat d_Ru_firstStarving 7 rfl) rfl f_Ru_28 (ru_or_8 hu) ?_
      refine x_iload_n (dat d_Ru_firstStarving 8 rfl) rfl rfl ?_
      refine x_iald (n := 24) (v := σ (u + 9) (h : Int)) (dat d_Ru_firstStarving 9 rfl) (ru_ai_9 hu) (by omega) (by omega) rfl ?_
      refine x_iconst (dat d_Ru_firstStarving 10 rfl) (by decide) ?_
      refine x_aload_n (dat d_Ru_firstStarving 11 rfl) rfl rfl ?_
      refine x_geti (ji := 0) (v := cS C 0) (dat d_Ru_firstStarving 12 rfl) rfl f_Ru_46 (ru_oi_0 hu) (e0) ?_
      refine x_ishl (v := ishl 1 (cS C 0)) (dat d_Ru_firstStarving 13 rfl) rfl ?_
      refine x_iconst (dat d_Ru_firstStarving 14 rfl) (by decide) ?_
      refine x_isub (v := (ishl 1 (cS C 0)) - 1) (dat d_Ru_firstStarving 15 rfl) rfl (by omega) ?_
      refine x_icmp_eq (tgt := 29) (dat d_Ru_firstStarving 16 rfl) (by decide) (fun c_24 => ?_) (fun c_24 => ?_)
      · refine x_iinc (v' := ((h + 1 : Nat) : Int)) (L' := [vR u, vI ((h + 1 : Nat) : Int)]) (dat d_Ru_firstStarving 19 rfl) rfl (by decide) rfl (by omega) (by omega) rfl ?_
        refine x_goto (tgt := 2) (dat d_Ru_firstStarving 20 rfl) (by decide) ?_
        refine ih (h + 1) (by omega) (fun h2 q => ?_)
        rcases Nat.lt_or_eq_of_le (Nat.le_of_lt_succ q) with q2 | q2
        · exact H h2 q2
        · subst q2
          rintro ⟨p, p0, p1, p2⟩
          have a1 := ml.2.2 p p0 (by omega)
          rw [c_24, fl.2.2 p p0 (by omega), p2] at a1
          simp at a1
          omega
      · refine x_iload_n (dat d_Ru_firstStarving 17 rfl) rfl rfl ?_
        refine x_iret (dat d_Ru_firstStarving 18 rfl) rfl ?_
        refine k _ (Or.inr ⟨h, by omega, rfl, ?_, H⟩)
        refine Classical.byContradiction fun q => c_24 (Msk.ext ml fl (fun p p0 p1 => ?_))
        by_cases p2 : p < cS C 0
        · rw [decide_eq_true p2]
          cases e : (rst C (h + 1)).2 p
          · exact absurd ⟨p, p0, p2, e⟩ q
          · rfl
        · rw [decide_eq_false p2]
          cases e : (rst C (h + 1)).2 p
          · rfl
          · exact absurd (rst_al (h + 1) p e).2 p2
  refine x_enter 1 rfl rfl rfl (fun Z => ?_)
  show Wx g y_Ru_firstStarving Z K 0 [vR u, vU] [] σ
  refine x_iconst (dat d_Ru_firstStarving 0 rfl) (by decide) ?_
  refine x_istore_n (L' := [vR u, vI 0]) (dat d_Ru_firstStarving 1 rfl) rfl (by decide) rfl rfl ?_
  exact lp Z (cH C) 0 (by omega) (fun h2 q => absurd q (Nat.not_lt_zero _))
theorem sp_Ru_starvingHour {g : xG} {K : Option MV → xS → Prop} {σ : xS} {u : Nat} {C : Cf} {p : Int} (hu : IsRu u) (hC : CfOk C) (R : RunS σ u C 0 (cH C)) (p0 : 0 ≤ p) (p1 : p < cS C 0) (k : ∀ v : Int, FirstH (fun h => (rst C (h + 1)).2 p = false) (cH C) v → K (some (vI v)) σ) : Mt g y_Ru_starvingHour [vR u, vI p] σ K := by
  have hH := cH_eq hC
  have h8 := hC.2.1
  have e1 : σ u 1 = (cH C : Int) := by rw [R.1.2.1]; omega
  have lp : ∀ (Z : xZ) (n h : Nat), h + n = cH C → (∀ h2 : Nat, h2 < h → ¬ (rst C (h2 + 1)).2 p = false) → Wx g y_Ru_starvingHour Z K 2 [vR u, vI p, vI (h : Int)] [] σ := by
    intro Z n
    induction n with
    | zero =>
      intro h hn H
      have e : h = cH C := by omega
      subst e
      refine x_iload_n (dat d_Ru_starvingHour 2 rfl) rfl rfl ?_
      refine x_aload_n (dat d_Ru_starvingHour 3 rfl) rfl rfl ?_
      refine x_geti (ji := 1) (v := (cH C : Int)) (dat d_Ru_starvingHour 4 rfl) rfl f_Ru_50 (ru_oi_1 hu) (e1) ?_
      refine x_icmp_ge (tgt := 27) (dat d_Ru_starvingHour 5 rfl) (by decide) (fun c_7 => ?_) (fun c_7 => (by omega))
      refine x_iconst (dat d_Ru_starvingHour 15 rfl) (by decide) ?_
      refine x_iret (dat d_Ru_starvingHour 16 rfl) rfl ?_
      exact k _ (Or.inl ⟨rfl, H⟩)
    | succ n ih =>
      intro h hn H
      refine x_iload_n (dat d_Ru_starvingHour 2 rfl) rfl rfl ?_
      refine x_aload_n (dat d_Ru_starvingHour 3 rfl) rfl rfl ?_
      refine x_geti (ji := 1) (v := (cH C : Int)) (dat d_Ru_starvingHour 4 rfl) rfl f_Ru_50 (ru_oi_1 hu) (e1) ?_
      refine x_icmp_ge (tgt := 27) (dat d_Ru_starvingHour 5 rfl) (by decide) (fun c_7 => (by omega)) (fun c_7 => ?_)
      refine x_aload_n (dat d_Ru_starvingHour 6 rfl) rfl rfl ?_
      refine x_iload_n (dat d_Ru_starvingHour 7 rfl) rfl rfl ?_
      refine x_iload_n (dat d_Ru_starvingHour 8 rfl) rfl rfl ?_
      refine x_inv (As := [vI (h : Int), vI p]) (dat d_Ru_starvingHour 9 rfl) rfl c_Ru_livesAt l_Ru_122 (by decide) (rv_ru (ru_k hu)) rfl rfl (Nat.le_of_ble_eq_true rfl) ?_
      refine sp_Ru_livesAt hu hC R (by omega) (by omega) p0 (by omega) (fun hv => ?_) (fun hv => ?_)
      · show Wx g y_Ru_starvingHour Z K 16 [vR u, vI p, vI (h : Int)] [vI 1] σ
        refine x_if_ne (tgt := 21) (dat d_Ru_starvingHour 10 rfl) (by decide) (fun c_16 => ?_) (fun h => absurd h (by decide))
        refine x_iinc (v' := ((h + 1 : Nat) : Int)) (L' := [vR u, vI p, vI ((h + 1 : Nat) : Int)]) (dat d_Ru_starvingHour 13 rfl) rfl (by decide) rfl (by omega) (by omega) rfl ?_
        refine x_goto (tgt := 2) (dat d_Ru_starvingHour 14 rfl) (by decide) ?_
        refine ih (h + 1) (by omega) (fun h2 q => ?_)
        rcases Nat.lt_or_eq_of_le (Nat.le_of_lt_succ q) with q2 | q2
        · exact H h2 q2
        · subst q2
          rw [hv]
          decide
      · show Wx g y_Ru_starvingHour Z K 16 [vR u, vI p, vI (h : Int)] [vI 0] σ
        refine x_if_ne (tgt := 21) (dat d_Ru_starvingHour 10 rfl) (by decide) (fun h => absurd h (by decide)) (fun c_16 => ?_)
        refine x_iload_n (dat d_Ru_starvingHour 11 rfl) rfl rfl ?_
        refine x_iret (dat d_Ru_starvingHour 12 rfl) rfl ?_
        exact k _ (Or.inr ⟨h, by omega, rfl, hv, H⟩)
  refine x_enter 1 rfl rfl rfl (fun Z => ?_)
  show Wx g y_Ru_starvingHour Z K 0 [vR u, vI p, vU] [] σ
  refine x_iconst (dat d_Ru_starvingHour 0 rfl) (by decide) ?_
  refine x_istore_n (L' := [vR u, vI p, vI 0]) (dat d_Ru_starvingHour 1 rfl) rfl (by decide) rfl rfl ?_
  exact lp Z (cH C) 0 (by omega) (fun h2 q => absurd q (Nat.not_lt_zero _))
theorem sp_Ru_richestHour {g : xG} {K : Option MV → xS → Prop} {σ : xS} {u : Nat} {C : Cf} {p : Int} (hu : IsRu u) (hC : CfOk C) (R : RunS σ u C 0 (cH C)) (p0 : 0 ≤ p) (p1 : p < cS C 0) (k : K (some (vI (amx (fun h => (rst C (h + 1)).1 p) (cH C - 1)))) σ) : Mt g y_Ru_richestHour [vR u, vI p] σ K := by
  have hH := cH_eq hC
  have h8 := hC.2.1
  have e1 : σ u 1 = (cH C : Int) := by rw [R.1.2.1]; omega
  have lp : ∀ (Z : xZ) (n h : Nat), h + 1 + n = cH C → Wx g y_Ru_richestHour Z K 4 [vR u, vI p, vI (amx (fun h => (rst C (h + 1)).1 p) h), vI ((h + 1 : Nat) : Int)] [] σ := by
    intro Z n
    induction n with
    | zero =>
      intro h hn
      have e : h = cH C - 1 := by omega
      subst e
      refine x_iload_n (dat d_Ru_richestHour 4 rfl) rfl rfl ?_
      refine x_aload_n (dat d_Ru_richestHour 5 rfl) rfl rfl ?_
      refine x_geti (ji := 1) (v := (cH C : Int)) (dat d_Ru_richestHour 6 rfl) rfl f_Ru_50 (ru_oi_1 hu) (e1) ?_
      refine x_icmp_ge (tgt := 45) (dat d_Ru_richestHour 7 rfl) (by decide) (fun c_9 => ?_) (fun c_9 => (by omega))
      refine x_iload_n (dat d_Ru_richestHour 29 rfl) rfl rfl ?_
      refine x_iret (dat d_Ru_richestHour 30 rfl) rfl ?_
      exact k
    | succ n ih =>
      intro h hn
      have hm := amx_le (fun h => (rst C (h + 1)).1 p) h
      generalize hb : amx (fun h => (rst C (h + 1)).1 p) h = b0 at hm ⊢
      have x1 := R.hB (h := h + 1) (by omega) (by omega) p0 p1
      have x2 := R.hB (h := b0) (by omega) (by omega) p0 p1
      have st : amx (fun h => (rst C (h + 1)).1 p) (h + 1) = if (rst C (b0 + 1)).1 p < (rst C (h + 1 + 1)).1 p then h + 1 else b0 := by
        rw [← hb]
        rfl
      refine x_iload_n (dat d_Ru_richestHour 4 rfl) rfl rfl ?_
      refine x_aload_n (dat d_Ru_richestHour 5 rfl) rfl rfl ?_
      refine x_geti (ji := 1) (v := (cH C : Int)) (dat d_Ru_richestHour 6 rfl) rfl f_Ru_50 (ru_oi_1 hu) (e1) ?_
      refine x_icmp_ge (tgt := 45) (dat d_Ru_richestHour 7 rfl) (by decide) (fun c_9 => (by omega)) (fun c_9 => ?_)
      refine x_aload_n (dat d_Ru_richestHour 8 rfl) rfl rfl ?_
      refine x_getr (r := u + 6) (dat d_Ru_richestHour 9 rfl) rfl f_Ru_18 (ru_or_5 hu) ?_
      refine x_iload_n (dat d_Ru_richestHour 10 rfl) rfl rfl ?_
      refine x_bipush (dat d_Ru_richestHour 11 rfl) (by decide) (by decide) ?_
      refine x_imul (v := 8 * ((h + 1 : Nat) : Int)) (dat d_Ru_richestHour 12 rfl) (by omega) (by omega) ?_
      refine x_iload_n (dat d_Ru_richestHour 13 rfl) rfl rfl ?_
      refine x_iadd (v := (8 * ((h + 1 : Nat) : Int)) + p) (dat d_Ru_richestHour 14 rfl) rfl (by omega) ?_
      refine x_iald (n := 192) (v := (rst C (h + 1 + 1)).1 p) (dat d_Ru_richestHour 15 rfl) (ru_ai_6 hu) (by omega) (by omega) (x1) ?_
      refine x_aload_n (dat d_Ru_richestHour 16 rfl) rfl rfl ?_
      refine x_getr (r := u + 6) (dat d_Ru_richestHour 17 rfl) rfl f_Ru_18 (ru_or_5 hu) ?_
      refine x_iload_n (dat d_Ru_richestHour 18 rfl) rfl rfl ?_
      refine x_bipush (dat d_Ru_richestHour 19 rfl) (by decide) (by decide) ?_
      refine x_imul (v := 8 * (b0 : Int)) (dat d_Ru_richestHour 20 rfl) (by omega) (by omega) ?_
      refine x_iload_n (dat d_Ru_richestHour 21 rfl) rfl rfl ?_
      refine x_iadd (v := (8 * (b0 : Int)) + p) (dat d_Ru_richestHour 22 rfl) rfl (by omega) ?_
      refine x_iald (n := 192) (v := (rst C (b0 + 1)).1 p) (dat d_Ru_richestHour 23 rfl) (ru_ai_6 hu) (by omega) (by omega) (x2) ?_
      refine x_icmp_le (tgt := 39) (dat d_Ru_richestHour 24 rfl) (by decide) (fun c_34 => ?_) (fun c_34 => ?_)
      · refine x_iinc (v' := ((h + 1 + 1 : Nat) : Int)) (L' := [vR u, vI p, vI (b0 : Int), vI ((h + 1 + 1 : Nat) : Int)]) (dat d_Ru_richestHour 27 rfl) rfl (by decide) rfl (by omega) (by omega) rfl ?_
        refine x_goto (tgt := 4) (dat d_Ru_richestHour 28 rfl) (by decide) ?_
        have := ih (h + 1) (by omega)
        rw [st] at this
        first
        | (rw [if_pos (by omega)] at this; exact this)
        | (rw [if_neg (by omega)] at this; exact this)
      · refine x_iload_n (dat d_Ru_richestHour 25 rfl) rfl rfl ?_
        refine x_istore_n (L' := [vR u, vI p, vI ((h + 1 : Nat) : Int), vI ((h + 1 : Nat) : Int)]) (dat d_Ru_richestHour 26 rfl) rfl (by decide) rfl rfl ?_
        refine x_iinc (v' := ((h + 1 + 1 : Nat) : Int)) (L' := [vR u, vI p, vI ((h + 1 : Nat) : Int), vI ((h + 1 + 1 : Nat) : Int)]) (dat d_Ru_richestHour 27 rfl) rfl (by decide) rfl (by omega) (by omega) rfl ?_
        refine x_goto (tgt := 4) (dat d_Ru_richestHour 28 rfl) (by decide) ?_
        have := ih (h + 1) (by omega)
        rw [st] at this
        first
        | (rw [if_pos (by omega)] at this; exact this)
        | (rw [if_neg (by omega)] at this; exact this)
  refine x_enter 2 rfl rfl rfl (fun Z => ?_)
  show Wx g y_Ru_richestHour Z K 0 [vR u, vI p, vU, vU] [] σ
  refine x_iconst (dat d_Ru_richestHour 0 rfl) (by decide) ?_
  refine x_istore_n (L' := [vR u, vI p, vI 0, vU]) (dat d_Ru_richestHour 1 rfl) rfl (by decide) rfl rfl ?_
  refine x_iconst (dat d_Ru_richestHour 2 rfl) (by decide) ?_
  refine x_istore_n (L' := [vR u, vI p, vI 0, vI 1]) (dat d_Ru_richestHour 3 rfl) rfl (by decide) rfl rfl ?_
  exact lp Z (cH C - 1) 0 (by omega)
theorem sp_Ru_richestOf {g : xG} {K : Option MV → xS → Prop} {σ : xS} {u f h : Nat} {C : Cf} {m : Int} {w : Int → Bool} (hu : IsRu u) (hC : CfOk C) (R : RunS σ u C f (cH C)) (h0 : f ≤ h) (h1 : h < cH C) (hm : Msk 8 m w) (k : K (some (vI (rcs w (rst C (h + 1)).1 (cS C 0).toNat))) σ) : Mt g y_Ru_richestOf [vR u, vI (h : Int), vI m] σ K := by
  have hH := cH_eq hC
  have h8 := hC.2.1
  have hP := hC.1
  have e0 : σ u 0 = cS C 0 := R.1.1
  have lp : ∀ (Z : xZ) (n p : Nat), (p : Int) + n = cS C 0 → Wx g y_Ru_richestOf Z K 11 [vR u, vI (h : Int), vI m, vI (8 * (h : Int)), vI (rcs w (rst C (h + 1)).1 p), vI (p : Int)] [] σ := by
    intro Z n
    induction n with
    | zero =>
      intro p hn
      have e : (cS C 0).toNat = p := by omega
      rw [e] at k
      refine x_iload (dat d_Ru_richestOf 8 rfl) rfl ?_
      refine x_aload_n (dat d_Ru_richestOf 9 rfl) rfl rfl ?_
      refine x_geti (ji := 0) (v := cS C 0) (dat d_Ru_richestOf 10 rfl) rfl f_Ru_46 (ru_oi_0 hu) (e0) ?_
      refine x_icmp_ge (tgt := 66) (dat d_Ru_richestOf 11 rfl) (by decide) (fun c_17 => ?_) (fun c_17 => (by omega))
      refine x_iload (dat d_Ru_richestOf 38 rfl) rfl ?_
      refine x_iret (dat d_Ru_richestOf 39 rfl) rfl ?_
      exact k
    | succ n ih =>
      intro p hn
      have hr := rcs_in w (rst C (h + 1)).1 p
      have st : rcs w (rst C (h + 1)).1 (p + 1) = if w p = true ∧ (rcs w (rst C (h + 1)).1 p = -1 ∨ (rst C (h + 1)).1 (rcs w (rst C (h + 1)).1 p) < (rst C (h + 1)).1 p) then (p : Int) else rcs w (rst C (h + 1)).1 p := rfl
      have nx := ih (p + 1) (by omega)
      rw [st] at nx
      generalize hb : rcs w (rst C (h + 1)).1 p = b0 at hr nx ⊢
      have bt := hm.get (by decide) (p := (p : Int)) (by omega) (by omega)
      have x1 := R.hB h0 h1 (p := (p : Int)) (by omega) (by omega)
      have x2 : b0 ≠ -1 → σ (u + 6) (8 * (h : Int) + b0) = (rst C (h + 1)).1 b0 := fun q => R.hB h0 h1 (by omega) (by omega)
      cases hw : w p
      · rw [hw] at bt
        rw [if_neg (fun q => by rw [hw] at q; cases q.1)] at nx
        refine x_iload (dat d_Ru_richestOf 8 rfl) rfl ?_
        refine x_aload_n (dat d_Ru_richestOf 9 rfl) rfl rfl ?_
        refine x_geti (ji := 0) (v := cS C 0) (dat d_Ru_richestOf 10 rfl) rfl f_Ru_46 (ru_oi_0 hu) (e0) ?_
        refine x_icmp_ge (tgt := 66) (dat d_Ru_richestOf 11 rfl) (by decide) (fun c_17 => (by omega)) (fun c_17 => ?_)
        refine x_iload_n (dat d_Ru_richestOf 12 rfl) rfl rfl ?_
        refine x_iload (dat d_Ru_richestOf 13 rfl) rfl ?_
        refine x_ishr (v := ishr m (p : Int)) (dat d_Ru_richestOf 14 rfl) rfl ?_
        refine x_iconst (dat d_Ru_richestOf 15 rfl) (by decide) ?_
        refine x_iand (v := 0) (dat d_Ru_richestOf 16 rfl) (by rw [bt]; rfl) ?_
        refine x_if_eq (tgt := 60) (dat d_Ru_richestOf 17 rfl) (by decide) (fun c_26 => ?_) (fun h => absurd h (by decide))
        refine x_iinc (v' := ((p + 1 : Nat) : Int)) (L' := [vR u, vI (h : Int), vI m, vI (8 * (h : Int)), vI b0, vI ((p + 1 : Nat) : Int)]) (dat d_Ru_richestOf 36 rfl) rfl (by decide) rfl (by omega) (by omega) rfl ?_
        refine x_goto (tgt := 11) (dat d_Ru_richestOf 37 rfl) (by decide) ?_
        exact nx
      · rw [hw] at bt
        simp only [hw, true_and] at nx
        refine x_iload (dat d_Ru_richestOf 8 rfl) rfl ?_
        refine x_aload_n (dat d_Ru_richestOf 9 rfl) rfl rfl ?_
        refine x_geti (ji := 0) (v := cS C 0) (dat d_Ru_richestOf 10 rfl) rfl f_Ru_46 (ru_oi_0 hu) (e0) ?_
        refine x_icmp_ge (tgt := 66) (dat d_Ru_richestOf 11 rfl) (by decide) (fun c_17 => (by omega)) (fun c_17 => ?_)
        refine x_iload_n (dat d_Ru_richestOf 12 rfl) rfl rfl ?_
        refine x_iload (dat d_Ru_richestOf 13 rfl) rfl ?_
        refine x_ishr (v := ishr m (p : Int)) (dat d_Ru_richestOf 14 rfl) rfl ?_
        refine x_iconst (dat d_Ru_richestOf 15 rfl) (by decide) ?_
        refine x_iand (v := 1) (dat d_Ru_richestOf 16 rfl) (by rw [bt]; rfl) ?_
        refine x_if_eq (tgt := 60) (dat d_Ru_richestOf 17 rfl) (by decide) (fun h => absurd h (by decide)) (fun c_26 => ?_)
        refine x_iload (dat d_Ru_richestOf 18 rfl) rfl ?_
        refine x_iconst (dat d_Ru_richestOf 19 rfl) (by decide) ?_
        refine x_icmp_eq (tgt := 56) (dat d_Ru_richestOf 20 rfl) (by decide) (fun c_32 => ?_) (fun c_32 => ?_)
        · refine x_iload (dat d_Ru_richestOf 34 rfl) rfl ?_
          refine x_istore (L' := [vR u, vI (h : Int), vI m, vI (8 * (h : Int)), vI (p : Int), vI (p : Int)]) (dat d_Ru_richestOf 35 rfl) (by decide) rfl rfl ?_
          refine x_iinc (v' := ((p + 1 : Nat) : Int)) (L' := [vR u, vI (h : Int), vI m, vI (8 * (h : Int)), vI (p : Int), vI ((p + 1 : Nat) : Int)]) (dat d_Ru_richestOf 36 rfl) rfl (by decide) rfl (by omega) (by omega) rfl ?_
          refine x_goto (tgt := 11) (dat d_Ru_richestOf 37 rfl) (by decide) ?_
          first
          | (rw [if_pos (by omega)] at nx; exact nx)
          | (rw [if_neg (by omega)] at nx; exact nx)
        · refine x_aload_n (dat d_Ru_richestOf 21 rfl) rfl rfl ?_
          refine x_getr (r := u + 6) (dat d_Ru_richestOf 22 rfl) rfl f_Ru_18 (ru_or_5 hu) ?_
          refine x_iload_n (dat d_Ru_richestOf 23 rfl) rfl rfl ?_
          refine x_iload (dat d_Ru_richestOf 24 rfl) rfl ?_
          refine x_iadd (v := (8 * (h : Int)) + (p : Int)) (dat d_Ru_richestOf 25 rfl) rfl (by omega) ?_
          refine x_iald (n := 192) (v := (rst C (h + 1)).1 p) (dat d_Ru_richestOf 26 rfl) (ru_ai_6 hu) (by omega) (by omega) (x1) ?_
          refine x_aload_n (dat d_Ru_richestOf 27 rfl) rfl rfl ?_
          refine x_getr (r := u + 6) (dat d_Ru_richestOf 28 rfl) rfl f_Ru_18 (ru_or_5 hu) ?_
          refine x_iload_n (dat d_Ru_richestOf 29 rfl) rfl rfl ?_
          refine x_iload (dat d_Ru_richestOf 30 rfl) rfl ?_
          refine x_iadd (v := (8 * (h : Int)) + b0) (dat d_Ru_richestOf 31 rfl) rfl (by omega) ?_
          refine x_iald (n := 192) (v := (rst C (h + 1)).1 b0) (dat d_Ru_richestOf 32 rfl) (ru_ai_6 hu) (by omega) (by omega) (by exact x2 (by omega)) ?_
          refine x_icmp_le (tgt := 60) (dat d_Ru_richestOf 33 rfl) (by decide) (fun c_53 => ?_) (fun c_53 => ?_)
          · refine x_iinc (v' := ((p + 1 : Nat) : Int)) (L' := [vR u, vI (h : Int), vI m, vI (8 * (h : Int)), vI b0, vI ((p + 1 : Nat) : Int)]) (dat d_Ru_richestOf 36 rfl) rfl (by decide) rfl (by omega) (by omega) rfl ?_
            refine x_goto (tgt := 11) (dat d_Ru_richestOf 37 rfl) (by decide) ?_
            first
            | (rw [if_pos (by omega)] at nx; exact nx)
            | (rw [if_neg (by omega)] at nx; exact nx)
          · refine x_iload (dat d_Ru_richestOf 34 rfl) rfl ?_
            refine x_istore (L' := [vR u, vI (h : Int), vI m, vI (8 * (h : Int)), vI (p : Int), vI (p : Int)]) (dat d_Ru_richestOf 35 rfl) (by decide) rfl rfl ?_
            refine x_iinc (v' := ((p + 1 : Nat) : Int)) (L' := [vR u, vI (h : Int), vI m, vI (8 * (h : Int)), vI (p : Int), vI ((p + 1 : Nat) : Int)]) (dat d_Ru_richestOf 36 rfl) rfl (by decide) rfl (by omega) (by omega) rfl ?_
            refine x_goto (tgt := 11) (dat d_Ru_richestOf 37 rfl) (by decide) ?_
            first
            | (rw [if_pos (by omega)] at nx; exact nx)
            | (rw [if_neg (by omega)] at nx; exact nx)
  refine x_enter 3 rfl rfl rfl (fun Z => ?_)
  show Wx g y_Ru_richestOf Z K 0 [vR u, vI (h : Int), vI m, vU, vU, vU] [] σ
  refine x_iload_n (dat d_Ru_richestOf 0 rfl) rfl rfl ?_
  refine x_bipush (dat d_Ru_richestOf 1 rfl) (by decide) (by decide) ?_
  refine x_imul (v := 8 * (h : Int)) (dat d_Ru_richestOf 2 rfl) (by omega) (by omega) ?_
  refine x_istore_n (L' := [vR u, vI (h : Int), vI m, vI (8 * (h : Int)), vU, vU]) (dat d_Ru_richestOf 3 rfl) rfl (by decide) rfl rfl ?_
  refine x_iconst (dat d_Ru_richestOf 4 rfl) (by decide) ?_
  refine x_istore (L' := [vR u, vI (h : Int), vI m, vI (8 * (h : Int)), vI (-1), vU]) (dat d_Ru_richestOf 5 rfl) (by decide) rfl rfl ?_
  refine x_iconst (dat d_Ru_richestOf 6 rfl) (by decide) ?_
  refine x_istore (L' := [vR u, vI (h : Int), vI m, vI (8 * (h : Int)), vI (-1), vI 0]) (dat d_Ru_richestOf 7 rfl) (by decide) rfl rfl ?_
  exact lp Z (cS C 0).toNat 0 (by omega)
theorem sp_Ru_richestAtEnd {g : xG} {K : Option MV → xS → Prop} {σ : xS} {u f : Nat} {C : Cf} (hu : IsRu u) (hC : CfOk C) (R : RunS σ u C f (cH C)) (hf : f < cH C) (k : K (some (vI (rcs (fun q => decide (q < cS C 0)) (rst C (cH C)).1 (cS C 0).toNat))) σ) : Mt g y_Ru_richestAtEnd [vR u] σ K := by
  have hH := cH_eq hC
  have h8 := hC.2.1
  have hP := hC.1
  have e0 : σ u 0 = cS C 0 := R.1.1
  have e1 : σ u 1 = (cH C : Int) := by rw [R.1.2.1]; omega
  have hsh : 1 ≤ ishl 1 (cS C 0) ∧ ishl 1 (cS C 0) ≤ 256 := ishl_bd (n := 8) hP (by omega) (by decide)
  have fl := Msk.full (n := 8) (by decide) hP (by omega)
  refine x_enter 0 rfl rfl rfl (fun Z => ?_)
  show Wx g y_Ru_richestAtEnd Z K 0 [vR u] [] σ
  refine x_aload_n (dat d_Ru_richestAtEnd 0 rfl) rfl rfl ?_
  refine x_geti (ji := 1) (v := (cH C : Int)) (dat d_Ru_richestAtEnd 1 rfl) rfl f_Ru_50 (ru_oi_1 hu) (e1) ?_
  refine x_iconst (dat d_Ru_richestAtEnd 2 rfl) (by decide) ?_
  refine x_icmp_ge (tgt := 12) (dat d_Ru_richestAtEnd 3 rfl) (by decide) (fun c_5 => ?_) (fun c_5 => (by omega))
  refine x_aload_n (dat d_Ru_richestAtEnd 6 rfl) rfl rfl ?_
  refine x_aload_n (dat d_Ru_richestAtEnd 7 rfl) rfl rfl ?_
  refine x_geti (ji := 1) (v := (cH C : Int)) (dat d_Ru_richestAtEnd 8 rfl) rfl f_Ru_50 (ru_oi_1 hu) (e1) ?_
  refine x_iconst (dat d_Ru_richestAtEnd 9 rfl) (by decide) ?_
  refine x_isub (v := ((cH C - 1 : Nat) : Int)) (dat d_Ru_richestAtEnd 10 rfl) (by omega) (by omega) ?_
  refine x_iconst (dat d_Ru_richestAtEnd 11 rfl) (by decide) ?_
  refine x_aload_n (dat d_Ru_richestAtEnd 12 rfl) rfl rfl ?_
  refine x_geti (ji := 0) (v := cS C 0) (dat d_Ru_richestAtEnd 13 rfl) rfl f_Ru_46 (ru_oi_0 hu) (e0) ?_
  refine x_ishl (v := ishl 1 (cS C 0)) (dat d_Ru_richestAtEnd 14 rfl) rfl ?_
  refine x_iconst (dat d_Ru_richestAtEnd 15 rfl) (by decide) ?_
  refine x_isub (v := (ishl 1 (cS C 0)) - 1) (dat d_Ru_richestAtEnd 16 rfl) rfl (by omega) ?_
  refine x_inv (As := [vI ((cH C - 1 : Nat) : Int), vI ((ishl 1 (cS C 0)) - 1)]) (dat d_Ru_richestAtEnd 17 rfl) rfl c_Ru_richestOf l_Ru_129 (by decide) (rv_ru (ru_k hu)) rfl rfl (Nat.le_of_ble_eq_true rfl) ?_
  refine sp_Ru_richestOf hu hC R (by omega) (by omega) fl ?_
  rw [show cH C - 1 + 1 = cH C by omega]
  show Wx g y_Ru_richestAtEnd Z K 30 [vR u] [vI (rcs (fun q => decide (q < cS C 0)) (rst C (cH C)).1 (cS C 0).toNat)] σ
  refine x_iret (dat d_Ru_richestAtEnd 18 rfl) rfl ?_
  exact k
