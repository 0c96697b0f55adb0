/-! the hours, one after the other -/
section LAW3
variable {p : Program} {e : Env} {s : State} {m : MethodId} {below : List Frame} {meth : Method} {c : Code} {b cc ss : Nat} {g : xG} {A t r : Int → Int} {im : Nat → Int → Int} {σ : xS} {a : Int}
/-- behind the people of an hour -/
theorem lw_407 {w12 w13 w14 w15 : MV} {al lv sh co hd : Int} {hr : Nat} (hG : aG g (lY p e s m below meth c b)) (hS : LwS σ A t r im) (hT : TRg t) (hh : (hr : Int) < t 3) (hal : al = brN (cfg r) hr) (hlv : Msk 8 lv (rst (cfg r) hr).2) (hsh : sh = sumN (fun h => ((hev (cfg r) h).length : Int)) hr) (hco : co = 0) (hhd : hd = 2 * ((hev (cfg r) hr).length : Int)) (ih : ∀ (al lv sh : Int) (σ : xS), LwS σ A t r im → al = brN (cfg r) (hr + 1) → Msk 8 lv (rst (cfg r) (hr + 1)).2 → sh = sumN (fun h => ((hev (cfg r) h).length : Int)) (hr + 1) → Ax g y_Lw_law (lY p e s m below meth c b) (List.range NB ++ []) cc ss 134 [vR 500, vR 0, vR 174, vI a, vI (t 6), vR 175, vI al, vI lv, vI sh, vI ((hr + 1 : Nat) : Int), vI co, vI hd, w12, w13, w14, w15] [] σ) : Ax g y_Lw_law (lY p e s m below meth c b) (List.range NB ++ []) cc ss 407 [vR 500, vR 0, vR 174, vI a, vI (t 6), vR 175, vI al, vI lv, vI sh, vI (hr : Int), vI co, vI hd, w12, w13, w14, w15] [] σ := by
  have hC := cfg_ok hS.ok
  have R := hS.2.2.1.2
  have e3 : r 3 = t 3 := R.1.2.2.2.1
  have e6 : r 6 = t 6 := R.2.1.1
  have t3 := hT.1.2.2.2.1
  have t6 := hT.1.2.2.2.2.2.2.1
  have hk : 0 ≤ (hr : Int) ∧ (hr : Int) < r 3 := by omega
  have eh : (hr : Int).toNat = hr := Int.toNat_natCast hr
  have hl := (hmi_ok hC hr).2.2
  have hb1 := br_1 hC (c6_cfg r) hr
  have hb2 := brN_bd hC (c6_cfg r) (hr + 1)
  have hs1 : sumN (fun h => ((hev (cfg r) h).length : Int)) (hr + 1) = sumN (fun h => ((hev (cfg r) h).length : Int)) hr + ((hev (cfg r) hr).length : Int) := rfl
  have hs2 := sumN_len_bd hC (hr + 1)
  change (hev (cfg r) hr).length ≤ 28 at hl
  refine a_iload (dat d_Lw_law_3 51 rfl) rfl ?_
  refine a_aload_n (dat d_Lw_law_3 52 rfl) rfl rfl ?_
  refine a_iconst (dat d_Lw_law_3 53 rfl) (by decide) ?_
  refine a_iload (dat d_Lw_law_3 54 rfl) rfl ?_
  refine a_iconst (dat d_Lw_law_3 55 rfl) (by decide) ?_
  refine a_inv hG (As := [vI 0, vI (hr : Int), vI 2]) (dat d_Lw_law_3 56 rfl) rfl c_Sb_hour l_Lw_126 (by decide) rv_0 rfl rfl (Nat.le_of_ble_eq_true rfl) ?_
  refine sp_Sb_hour hS.1.1 (fun v1 σ1 h1 F1 => ⟨fun o ho => absurd ho List.not_mem_nil, ?_⟩)
  have h1 := an_h2 hk (hS.at0 h1)
  rw [eh] at h1
  have hS := hS.tr F1
  have hal2 : al - v1 = brN (cfg r) (hr + 1) := by rw [hal, h1]; exact hb1.symm
  show Ax g y_Lw_law (lY p e s m below meth c b) (List.range NB ++ []) cc ss 417 [vR 500, vR 0, vR 174, vI a, vI (t 6), vR 175, vI al, vI lv, vI sh, vI (hr : Int), vI co, vI hd, w12, w13, w14, w15] [vI v1, vI al] σ1
  refine a_isub (v := al - v1) (dat d_Lw_law_3 57 rfl) rfl (by rw [hal2]; omega) ?_
  refine a_istore (L' := [vR 500, vR 0, vR 174, vI a, vI (t 6), vR 175, vI (al - v1), vI lv, vI sh, vI (hr : Int), vI co, vI hd, w12, w13, w14, w15]) (dat d_Lw_law_3 58 rfl) (by decide) rfl rfl ?_
  refine a_iload (dat d_Lw_law_3 59 rfl) rfl ?_
  refine a_aload_n (dat d_Lw_law_3 60 rfl) rfl rfl ?_
  refine a_iconst (dat d_Lw_law_3 61 rfl) (by decide) ?_
  refine a_iload (dat d_Lw_law_4 0 rfl) rfl ?_
  refine a_iconst (dat d_Lw_law_4 1 rfl) (by decide) ?_
  refine a_inv hG (As := [vI 0, vI (hr : Int), vI 0]) (dat d_Lw_law_4 2 rfl) rfl c_Sb_hour l_Lw_126 (by decide) rv_0 rfl rfl (Nat.le_of_ble_eq_true rfl) ?_
  refine sp_Sb_hour hS.1.1 (fun v2 σ2 h2 F2 => ⟨fun o ho => absurd ho List.not_mem_nil, ?_⟩)
  have h2 := an_h0 hk (hS.at0 h2)
  rw [eh] at h2
  have hS := hS.tr F2
  have hsh2 : sh + v2 = sumN (fun h => ((hev (cfg r) h).length : Int)) (hr + 1) := by rw [hsh, h2, hs1]
  show Ax g y_Lw_law (lY p e s m below meth c b) (List.range NB ++ []) cc ss 430 [vR 500, vR 0, vR 174, vI a, vI (t 6), vR 175, vI (al - v1), vI lv, vI sh, vI (hr : Int), vI co, vI hd, w12, w13, w14, w15] [vI v2, vI sh] σ2
  refine a_iadd (v := sh + v2) (dat d_Lw_law_4 3 rfl) rfl (by rw [hsh2]; omega) ?_
  refine a_istore (L' := [vR 500, vR 0, vR 174, vI a, vI (t 6), vR 175, vI (al - v1), vI lv, vI (sh + v2), vI (hr : Int), vI co, vI hd, w12, w13, w14, w15]) (dat d_Lw_law_4 4 rfl) (by decide) rfl rfl ?_
  refine a_iload (dat d_Lw_law_4 5 rfl) rfl ?_
  refine a_if_ne (tgt := 501) (dat d_Lw_law_4 6 rfl) (by decide) (fun c_435 => (by omega)) (fun c_435 => ?_)
  refine a_iload (dat d_Lw_law_4 7 rfl) rfl ?_
  refine a_iconst (dat d_Lw_law_4 8 rfl) (by decide) ?_
  refine a_aload_n (dat d_Lw_law_4 9 rfl) rfl rfl ?_
  refine a_iconst (dat d_Lw_law_4 10 rfl) (by decide) ?_
  refine a_iload (dat d_Lw_law_4 11 rfl) rfl ?_
  refine a_iconst (dat d_Lw_law_4 12 rfl) (by decide) ?_
  refine a_inv hG (As := [vI 0, vI (hr : Int), vI 0]) (dat d_Lw_law_4 13 rfl) rfl c_Sb_hour l_Lw_126 (by decide) rv_0 rfl rfl (Nat.le_of_ble_eq_true rfl) ?_
  refine sp_Sb_hour hS.1.1 (fun v3 σ3 h3 F3 => ⟨fun o ho => absurd ho List.not_mem_nil, ?_⟩)
  have h3 := an_h0 hk (hS.at0 h3)
  rw [eh] at h3
  have hS := hS.tr F3
  show Ax g y_Lw_law (lY p e s m below meth c b) (List.range NB ++ []) cc ss 449 [vR 500, vR 0, vR 174, vI a, vI (t 6), vR 175, vI (al - v1), vI lv, vI (sh + v2), vI (hr : Int), vI co, vI hd, w12, w13, w14, w15] [vI v3, vI 2, vI hd] σ3
  refine a_imul (v := 2 * v3) (dat d_Lw_law_4 14 rfl) rfl (by omega) ?_
  refine a_icmp_ne (tgt := 501) (dat d_Lw_law_4 15 rfl) (by decide) (fun c_450 => (by omega)) (fun c_450 => ?_)
  refine a_aload_n (dat d_Lw_law_4 16 rfl) rfl rfl ?_
  refine a_iconst (dat d_Lw_law_4 17 rfl) (by decide) ?_
  refine a_iload (dat d_Lw_law_4 18 rfl) rfl ?_
  refine a_iconst (dat d_Lw_law_4 19 rfl) (by decide) ?_
  refine a_inv hG (As := [vI 0, vI (hr : Int), vI 4]) (dat d_Lw_law_4 20 rfl) rfl c_Sb_hour l_Lw_126 (by decide) rv_0 rfl rfl (Nat.le_of_ble_eq_true rfl) ?_
  refine sp_Sb_hour hS.1.1 (fun v4 σ4 h4 F4 => ⟨fun o ho => absurd ho List.not_mem_nil, ?_⟩)
  have h4 := an_h4 hk (hS.at0 h4)
  rw [eh] at h4
  have hS := hS.tr F4
  show Ax g y_Lw_law (lY p e s m below meth c b) (List.range NB ++ []) cc ss 461 [vR 500, vR 0, vR 174, vI a, vI (t 6), vR 175, vI (al - v1), vI lv, vI (sh + v2), vI (hr : Int), vI co, vI hd, w12, w13, w14, w15] [vI v4] σ4
  refine a_iload (dat d_Lw_law_4 21 rfl) rfl ?_
  refine a_icmp_ne (tgt := 501) (dat d_Lw_law_4 22 rfl) (by decide) (fun c_463 => (by omega)) (fun c_463 => ?_)
  refine a_aload_n (dat d_Lw_law_4 23 rfl) rfl rfl ?_
  refine a_iconst (dat d_Lw_law_4 24 rfl) (by decide) ?_
  refine a_iload (dat d_Lw_law_4 25 rfl) rfl ?_
  refine a_iconst (dat d_Lw_law_4 26 rfl) (by decide) ?_
  refine a_inv hG (As := [vI 0, vI (hr : Int), vI 1]) (dat d_Lw_law_4 27 rfl) rfl c_Sb_hour l_Lw_126 (by decide) rv_0 rfl rfl (Nat.le_of_ble_eq_true rfl) ?_
  refine sp_Sb_hour hS.1.1 (fun v5 σ5 h5 F5 => ⟨fun o ho => absurd ho List.not_mem_nil, ?_⟩)
  have h5 := an_h1 hk (hS.at0 h5)
  rw [eh] at h5
  have hS := hS.tr F5
  show Ax g y_Lw_law (lY p e s m below meth c b) (List.range NB ++ []) cc ss 474 [vR 500, vR 0, vR 174, vI a, vI (t 6), vR 175, vI (al - v1), vI lv, vI (sh + v2), vI (hr : Int), vI co, vI hd, w12, w13, w14, w15] [vI v5] σ5
  refine a_aload_n (dat d_Lw_law_4 28 rfl) rfl rfl ?_
  refine a_iconst (dat d_Lw_law_4 29 rfl) (by decide) ?_
  refine a_iload (dat d_Lw_law_4 30 rfl) rfl ?_
  refine a_iconst (dat d_Lw_law_4 31 rfl) (by decide) ?_
  refine a_inv hG (As := [vI 0, vI (hr : Int), vI 0]) (dat d_Lw_law_4 32 rfl) rfl c_Sb_hour l_Lw_126 (by decide) rv_0 rfl rfl (Nat.le_of_ble_eq_true rfl) ?_
  refine sp_Sb_hour hS.1.1 (fun v6 σ6 h6 F6 => ⟨fun o ho => absurd ho List.not_mem_nil, ?_⟩)
  have h6 := an_h0 hk (hS.at0 h6)
  rw [eh] at h6
  have hS := hS.tr F6
  have h56 : v5 ≤ v6 := by rw [h5, h6]; exact (gone_le _).2
  show Ax g y_Lw_law (lY p e s m below meth c b) (List.range NB ++ []) cc ss 482 [vR 500, vR 0, vR 174, vI a, vI (t 6), vR 175, vI (al - v1), vI lv, vI (sh + v2), vI (hr : Int), vI co, vI hd, w12, w13, w14, w15] [vI v6, vI v5] σ6
  refine a_icmp_gt (tgt := 501) (dat d_Lw_law_4 33 rfl) (by decide) (fun c_482 => (by omega)) (fun c_482 => ?_)
  refine a_aload_n (dat d_Lw_law_4 34 rfl) rfl rfl ?_
  refine a_iconst (dat d_Lw_law_4 35 rfl) (by decide) ?_
  refine a_iload (dat d_Lw_law_4 36 rfl) rfl ?_
  refine a_iconst (dat d_Lw_law_4 37 rfl) (by decide) ?_
  refine a_inv hG (As := [vI 0, vI (hr : Int), vI 3]) (dat d_Lw_law_4 38 rfl) rfl c_Sb_hour l_Lw_126 (by decide) rv_0 rfl rfl (Nat.le_of_ble_eq_true rfl) ?_
  refine sp_Sb_hour hS.1.1 (fun v7 σ7 h7 F7 => ⟨fun o ho => absurd ho List.not_mem_nil, ?_⟩)
  have h7 := an_h3 hk (hS.at0 h7)
  rw [eh] at h7
  have hS := hS.tr F7
  show Ax g y_Lw_law (lY p e s m below meth c b) (List.range NB ++ []) cc ss 493 [vR 500, vR 0, vR 174, vI a, vI (t 6), vR 175, vI (al - v1), vI lv, vI (sh + v2), vI (hr : Int), vI co, vI hd, w12, w13, w14, w15] [vI v7] σ7
  refine a_iload (dat d_Lw_law_4 39 rfl) rfl ?_
  refine a_iconst (dat d_Lw_law_4 40 rfl) (by decide) ?_
  refine a_ixor (v := ixor lv (-1)) (dat d_Lw_law_4 41 rfl) rfl ?_
  refine a_iand (v := 0) (dat d_Lw_law_4 42 rfl) (by exact al_sub h7 hlv) ?_
  refine a_if_eq (tgt := 503) (dat d_Lw_law_4 43 rfl) (by decide) (fun c_498 => ?_) (fun h => absurd h (by decide))
  refine a_aload_n (dat d_Lw_law_4 46 rfl) rfl rfl ?_
  refine a_iconst (dat d_Lw_law_4 47 rfl) (by decide) ?_
  refine a_iload (dat d_Lw_law_4 48 rfl) rfl ?_
  refine a_iconst (dat d_Lw_law_4 49 rfl) (by decide) ?_
  refine a_inv hG (As := [vI 0, vI (hr : Int), vI 3]) (dat d_Lw_law_4 50 rfl) rfl c_Sb_hour l_Lw_126 (by decide) rv_0 rfl rfl (Nat.le_of_ble_eq_true rfl) ?_
  refine sp_Sb_hour hS.1.1 (fun v8 σ8 h8 F8 => ⟨fun o ho => absurd ho List.not_mem_nil, ?_⟩)
  have h8 := an_h3 hk (hS.at0 h8)
  rw [eh] at h8
  have hS := hS.tr F8
  show Ax g y_Lw_law (lY p e s m below meth c b) (List.range NB ++ []) cc ss 511 [vR 500, vR 0, vR 174, vI a, vI (t 6), vR 175, vI (al - v1), vI lv, vI (sh + v2), vI (hr : Int), vI co, vI hd, w12, w13, w14, w15] [vI v8] σ8
  refine a_istore (L' := [vR 500, vR 0, vR 174, vI a, vI (t 6), vR 175, vI (al - v1), vI v8, vI (sh + v2), vI (hr : Int), vI co, vI hd, w12, w13, w14, w15]) (dat d_Lw_law_4 51 rfl) (by decide) rfl rfl ?_
  refine a_iinc (v' := ((hr + 1 : Nat) : Int)) (L' := [vR 500, vR 0, vR 174, vI a, vI (t 6), vR 175, vI (al - v1), vI v8, vI (sh + v2), vI ((hr + 1 : Nat) : Int), vI co, vI hd, w12, w13, w14, w15]) (dat d_Lw_law_4 52 rfl) rfl (by decide) rfl (by omega) (by omega) rfl ?_
  refine a_goto (tgt := 134) (dat d_Lw_law_4 53 rfl) (by decide) ?_
  exact ih _ _ _ _ hS hal2 h8 hsh2
/-- whom one met in the hour, each with each -/
theorem lw_199 {w15 : MV} {al lv sh co hd mt : Int} {hr k : Nat} (hG : aG g (lY p e s m below meth c b)) (hT : TRg t) (hh : (hr : Int) < t 3) (hk : (k : Int) < t 6) (hlv : Msk 8 lv (rst (cfg r) hr).2) (hmt : Msk 8 mt (metB (hev (cfg r) hr) k)) (nx : ∀ (w14 w15 : MV) (σ : xS), LwS σ A t r im → Ax g y_Lw_law (lY p e s m below meth c b) (List.range NB ++ []) cc ss 283 [vR 500, vR 0, vR 174, vI a, vI (t 6), vR 175, vI al, vI lv, vI sh, vI (hr : Int), vI co, vI hd, vI (k : Int), vI mt, w14, w15] [] σ) : ∀ (n j : Nat) (σ : xS), ((j + n : Nat) : Int) = t 6 → LwS σ A t r im → Ax g y_Lw_law (lY p e s m below meth c b) (List.range NB ++ []) cc ss 199 [vR 500, vR 0, vR 174, vI a, vI (t 6), vR 175, vI al, vI lv, vI sh, vI (hr : Int), vI co, vI hd, vI (k : Int), vI mt, vI (j : Int), w15] [] σ := by
  intro n
  induction n with
  | zero =>
    intro j σ hj hS
    refine a_iload (dat d_Lw_law_1 56 rfl) rfl ?_
    refine a_iload (dat d_Lw_law_1 57 rfl) rfl ?_
    refine a_icmp_ge (tgt := 283) (dat d_Lw_law_1 58 rfl) (by decide) (fun c_203 => ?_) (fun c_203 => (by omega))
    exact nx _ _ _ hS
  | succ n ih =>
    intro j σ hj hS
    have hC := cfg_ok hS.ok
    have R := hS.2.2.1.2
    have e3 : r 3 = t 3 := R.1.2.2.2.1
    have e6 : r 6 = t 6 := R.2.1.1
    have t6 := hT.1.2.2.2.2.2.2.1
    have hk3 : 0 ≤ (hr : Int) ∧ (hr : Int) < r 3 := by omega
    have hkp : 0 ≤ (k : Int) ∧ (k : Int) < r 6 := by omega
    have hjp : 0 ≤ (j : Int) ∧ (j : Int) < r 6 := by omega
    have eh : (hr : Int).toNat = hr := Int.toNat_natCast hr
    have hg := hmt.get (by decide) (p := (j : Int)) (by omega) (by omega)
    have hlg := hlv.get (by decide) (p := (j : Int)) (by omega) (by omega)
    have nj : ∀ σ2 : xS, LwS σ2 A t r im → Ax g y_Lw_law (lY p e s m below meth c b) (List.range NB ++ []) cc ss 277 [vR 500, vR 0, vR 174, vI a, vI (t 6), vR 175, vI al, vI lv, vI sh, vI (hr : Int), vI co, vI hd, vI (k : Int), vI mt, vI (j : Int), w15] [] σ2 := fun σ2 hS => by
      refine a_iinc (v' := ((j + 1 : Nat) : Int)) (L' := [vR 500, vR 0, vR 174, vI a, vI (t 6), vR 175, vI al, vI lv, vI sh, vI (hr : Int), vI co, vI hd, vI (k : Int), vI mt, vI ((j + 1 : Nat) : Int), w15]) (dat d_Lw_law_2 39 rfl) rfl (by decide) rfl (by omega) (by omega) rfl ?_
      refine a_goto (tgt := 199) (dat d_Lw_law_2 40 rfl) (by decide) ?_
      exact ih (j + 1) _ (by omega) hS
    refine a_iload (dat d_Lw_law_1 56 rfl) rfl ?_
    refine a_iload (dat d_Lw_law_1 57 rfl) rfl ?_
    refine a_icmp_ge (tgt := 283) (dat d_Lw_law_1 58 rfl) (by decide) (fun c_203 => (by omega)) (fun c_203 => ?_)
    refine a_iload (dat d_Lw_law_1 59 rfl) rfl ?_
    refine a_iload (dat d_Lw_law_1 60 rfl) rfl ?_
    refine a_ishr (v := ishr mt (j : Int)) (dat d_Lw_law_1 61 rfl) rfl ?_
    refine a_iconst (dat d_Lw_law_2 0 rfl) (by decide) ?_
    refine a_iand (v := iand (ishr mt (j : Int)) 1) (dat d_Lw_law_2 1 rfl) rfl ?_
    refine a_iconst (dat d_Lw_law_2 2 rfl) (by decide) ?_
    refine a_icmp_ne (tgt := 277) (dat d_Lw_law_2 3 rfl) (by decide) (fun c_214 => ?_) (fun c_214 => ?_)
    · exact nj _ hS
    · have hm : metB (hev (cfg r) hr) k j = true := by
        cases hz : metB (hev (cfg r) hr) k j with
        | true => rfl
        | false =>
          rw [hz] at hg
          exact absurd (hg.symm.trans (by assumption)) (by decide)
      have hmo := met_ok hC hm
      rw [if_pos hmo.2.2] at hlg
      refine a_iload (dat d_Lw_law_2 4 rfl) rfl ?_
      refine a_iload (dat d_Lw_law_2 5 rfl) rfl ?_
      refine a_icmp_eq (tgt := 275) (dat d_Lw_law_2 6 rfl) (by decide) (fun c_221 => (by omega)) (fun c_221 => ?_)
      refine a_aload_n (dat d_Lw_law_2 7 rfl) rfl rfl ?_
      refine a_iconst (dat d_Lw_law_2 8 rfl) (by decide) ?_
      refine a_iload (dat d_Lw_law_2 9 rfl) rfl ?_
      refine a_iload (dat d_Lw_law_2 10 rfl) rfl ?_
      refine a_iconst (dat d_Lw_law_2 11 rfl) (by decide) ?_
      refine a_inv hG (As := [vI 0, vI (hr : Int), vI (j : Int), vI 3]) (dat d_Lw_law_2 12 rfl) rfl c_Sb_at l_Lw_118 (by decide) rv_0 rfl rfl (Nat.le_of_ble_eq_true rfl) ?_
      refine sp_Sb_at hS.1.1 (fun v1 σ1 h1 F1 => ⟨fun o ho => absurd ho List.not_mem_nil, ?_⟩)
      have h1 := an_at3 hk3 hjp (hS.at0 h1)
      rw [eh] at h1
      have h1 := h1.get (by decide) (p := (k : Int)) (by omega) (by omega)
      rw [metB_sym, if_pos hm] at h1
      have hS := hS.tr F1
      show Ax g y_Lw_law (lY p e s m below meth c b) (List.range NB ++ []) cc ss 234 [vR 500, vR 0, vR 174, vI a, vI (t 6), vR 175, vI al, vI lv, vI sh, vI (hr : Int), vI co, vI hd, vI (k : Int), vI mt, vI (j : Int), w15] [vI v1] σ1
      refine a_iload (dat d_Lw_law_2 13 rfl) rfl ?_
      refine a_ishr (v := ishr v1 (k : Int)) (dat d_Lw_law_2 14 rfl) rfl ?_
      refine a_iconst (dat d_Lw_law_2 15 rfl) (by decide) ?_
      refine a_iand (v := iand (ishr v1 (k : Int)) 1) (dat d_Lw_law_2 16 rfl) rfl ?_
      refine a_if_eq (tgt := 275) (dat d_Lw_law_2 17 rfl) (by decide) (fun c_239 => (by omega)) (fun c_239 => ?_)
      refine a_aload_n (dat d_Lw_law_2 18 rfl) rfl rfl ?_
      refine a_iconst (dat d_Lw_law_2 19 rfl) (by decide) ?_
      refine a_iload (dat d_Lw_law_2 20 rfl) rfl ?_
      refine a_iload (dat d_Lw_law_2 21 rfl) rfl ?_
      refine a_iconst (dat d_Lw_law_2 22 rfl) (by decide) ?_
      refine a_inv hG (As := [vI 0, vI (hr : Int), vI (j : Int), vI 0]) (dat d_Lw_law_2 23 rfl) rfl c_Sb_at l_Lw_118 (by decide) rv_0 rfl rfl (Nat.le_of_ble_eq_true rfl) ?_
      refine sp_Sb_at hS.1.1 (fun v2 σ2 h2 F2 => ⟨fun o ho => absurd ho List.not_mem_nil, ?_⟩)
      have h2 := an_at0 hk3 hjp (hS.at0 h2)
      have hS := hS.tr F2
      show Ax g y_Lw_law (lY p e s m below meth c b) (List.range NB ++ []) cc ss 252 [vR 500, vR 0, vR 174, vI a, vI (t 6), vR 175, vI al, vI lv, vI sh, vI (hr : Int), vI co, vI hd, vI (k : Int), vI mt, vI (j : Int), w15] [vI v2] σ2
      refine a_aload_n (dat d_Lw_law_2 24 rfl) rfl rfl ?_
      refine a_iconst (dat d_Lw_law_2 25 rfl) (by decide) ?_
      refine a_iload (dat d_Lw_law_2 26 rfl) rfl ?_
      refine a_iload (dat d_Lw_law_2 27 rfl) rfl ?_
      refine a_iconst (dat d_Lw_law_2 28 rfl) (by decide) ?_
      refine a_inv hG (As := [vI 0, vI (hr : Int), vI (k : Int), vI 0]) (dat d_Lw_law_2 29 rfl) rfl c_Sb_at l_Lw_118 (by decide) rv_0 rfl rfl (Nat.le_of_ble_eq_true rfl) ?_
      refine sp_Sb_at hS.1.1 (fun v3 σ3 h3 F3 => ⟨fun o ho => absurd ho List.not_mem_nil, ?_⟩)
      have h3 := an_at0 hk3 hkp (hS.at0 h3)
      have h23 : v2 = v3 := by rw [h2, h3]; exact hmo.2.1
      have hS := hS.tr F3
      show Ax g y_Lw_law (lY p e s m below meth c b) (List.range NB ++ []) cc ss 262 [vR 500, vR 0, vR 174, vI a, vI (t 6), vR 175, vI al, vI lv, vI sh, vI (hr : Int), vI co, vI hd, vI (k : Int), vI mt, vI (j : Int), w15] [vI v3, vI v2] σ3
      refine a_icmp_ne (tgt := 275) (dat d_Lw_law_2 30 rfl) (by decide) (fun c_262 => (by omega)) (fun c_262 => ?_)
      refine a_iload (dat d_Lw_law_2 31 rfl) rfl ?_
      refine a_iload (dat d_Lw_law_2 32 rfl) rfl ?_
      refine a_ishr (v := ishr lv (j : Int)) (dat d_Lw_law_2 33 rfl) rfl ?_
      refine a_iconst (dat d_Lw_law_2 34 rfl) (by decide) ?_
      refine a_iand (v := iand (ishr lv (j : Int)) 1) (dat d_Lw_law_2 35 rfl) rfl ?_
      refine a_if_ne (tgt := 277) (dat d_Lw_law_2 36 rfl) (by decide) (fun c_272 => ?_) (fun c_272 => (by omega))
      exact nj _ hS
/-- what one had, has, ate; whether one lives -/
theorem lw_283 {w14 w15 : MV} {al lv sh co hd mt : Int} {hr k : Nat} {σ : xS} (hG : aG g (lY p e s m below meth c b)) (hS : LwS σ A t r im) (hT : TRg t) (hh : (hr : Int) < t 3) (hk : (k : Int) < t 6) (nx : ∀ (w14 w15 : MV) (σ : xS), LwS σ A t r im → Ax g y_Lw_law (lY p e s m below meth c b) (List.range NB ++ []) cc ss 152 [vR 500, vR 0, vR 174, vI a, vI (t 6), vR 175, vI al, vI lv, vI sh, vI (hr : Int), vI co, vI hd, vI ((k + 1 : Nat) : Int), vI mt, w14, w15] [] σ) : Ax g y_Lw_law (lY p e s m below meth c b) (List.range NB ++ []) cc ss 283 [vR 500, vR 0, vR 174, vI a, vI (t 6), vR 175, vI al, vI lv, vI sh, vI (hr : Int), vI co, vI hd, vI (k : Int), vI mt, w14, w15] [] σ := by
  have hC := cfg_ok hS.ok
  have R := hS.2.2.1.2
  have e3 : r 3 = t 3 := R.1.2.2.2.1
  have e4 : r 4 = t 4 := R.1.2.2.2.2.1
  have e6 : r 6 = t 6 := R.2.1.1
  have t6 := hT.1.2.2.2.2.2.2.1
  have t3 := hT.1.2.2.2.1
  have hI := aI_175 []
  have hk3 : 0 ≤ (hr : Int) ∧ (hr : Int) < r 3 := by omega
  have hkp : 0 ≤ (k : Int) ∧ (k : Int) < r 6 := by omega
  have eh : (hr : Int).toNat = hr := Int.toNat_natCast hr
  have hl := (hmi_ok hC hr).2.2
  change (hev (cfg r) hr).length ≤ 28 at hl
  have j355 : ∀ (w14 w15 : MV) (σ2 : xS), LwS σ2 A t r im → Ax g y_Lw_law (lY p e s m below meth c b) (List.range NB ++ []) cc ss 355 [vR 500, vR 0, vR 174, vI a, vI (t 6), vR 175, vI al, vI lv, vI sh, vI (hr : Int), vI co, vI hd, vI (k : Int), vI mt, w14, w15] [] σ2 := fun w14 w15 σ2 hS => by
    refine a_aload_n (dat d_Lw_law_3 21 rfl) rfl rfl ?_
    refine a_iconst (dat d_Lw_law_3 22 rfl) (by decide) ?_
    refine a_iload (dat d_Lw_law_3 23 rfl) rfl ?_
    refine a_iload (dat d_Lw_law_3 24 rfl) rfl ?_
    refine a_iconst (dat d_Lw_law_3 25 rfl) (by decide) ?_
    refine a_inv hG (As := [vI 0, vI (hr : Int), vI (k : Int), vI 2]) (dat d_Lw_law_3 26 rfl) rfl c_Sb_at l_Lw_118 (by decide) rv_0 rfl rfl (Nat.le_of_ble_eq_true rfl) ?_
    refine sp_Sb_at hS.1.1 (fun v1 σ3 h1 F1 => ⟨fun o ho => absurd ho List.not_mem_nil, ?_⟩)
    have h1 := an_at2 hk3 hkp (hS.at0 h1)
    rw [eh] at h1
    have hS := hS.tr F1
    show Ax g y_Lw_law (lY p e s m below meth c b) (List.range NB ++ []) cc ss 365 [vR 500, vR 0, vR 174, vI a, vI (t 6), vR 175, vI al, vI lv, vI sh, vI (hr : Int), vI co, vI hd, vI (k : Int), vI mt, w14, w15] [vI v1] σ3
    refine a_iconst (dat d_Lw_law_3 27 rfl) (by decide) ?_
    refine a_icmp_ne (tgt := 373) (dat d_Lw_law_3 28 rfl) (by decide) (fun c_366 => ?_) (fun c_366 => ?_)
    · refine a_iconst (dat d_Lw_law_3 31 rfl) (by decide) ?_
      refine a_aload_n (dat d_Lw_law_3 32 rfl) rfl rfl ?_
      refine a_iconst (dat d_Lw_law_3 33 rfl) (by decide) ?_
      refine a_iload (dat d_Lw_law_3 34 rfl) rfl ?_
      refine a_iconst (dat d_Lw_law_3 35 rfl) (by decide) ?_
      refine a_inv hG (As := [vI 0, vI (hr : Int), vI 3]) (dat d_Lw_law_3 36 rfl) rfl c_Sb_hour l_Lw_126 (by decide) rv_0 rfl rfl (Nat.le_of_ble_eq_true rfl) ?_
      refine sp_Sb_hour hS.1.1 (fun v2 σ4 h2 F2 => ⟨fun o ho => absurd ho List.not_mem_nil, ?_⟩)
      have h2 := an_h3 hk3 (hS.at0 h2)
      rw [eh] at h2
      have h2 := h2.get (by decide) (p := (k : Int)) (by omega) (by omega)
      have h12 : v1 = iand (ishr v2 (k : Int)) 1 := h1.trans h2.symm
      clear h1 h2
      have hS := hS.tr F2
      show Ax g y_Lw_law (lY p e s m below meth c b) (List.range NB ++ []) cc ss 382 [vR 500, vR 0, vR 174, vI a, vI (t 6), vR 175, vI al, vI lv, vI sh, vI (hr : Int), vI co, vI hd, vI (k : Int), vI mt, w14, w15] [vI v2, vI 0] σ4
      refine a_iload (dat d_Lw_law_3 37 rfl) rfl ?_
      refine a_ishr (v := ishr v2 (k : Int)) (dat d_Lw_law_3 38 rfl) rfl ?_
      refine a_iconst (dat d_Lw_law_3 39 rfl) (by decide) ?_
      refine a_iand (v := iand (ishr v2 (k : Int)) 1) (dat d_Lw_law_3 40 rfl) rfl ?_
      refine a_iconst (dat d_Lw_law_3 41 rfl) (by decide) ?_
      refine a_icmp_ne (tgt := 395) (dat d_Lw_law_3 42 rfl) (by decide) (fun c_388 => ?_) (fun c_388 => ?_)
      · refine a_iconst (dat d_Lw_law_3 45 rfl) (by decide) ?_
        refine a_icmp_eq (tgt := 401) (dat d_Lw_law_3 46 rfl) (by decide) (fun c_396 => ?_) (fun h => absurd h (by decide))
        refine a_iinc (v' := ((k + 1 : Nat) : Int)) (L' := [vR 500, vR 0, vR 174, vI a, vI (t 6), vR 175, vI al, vI lv, vI sh, vI (hr : Int), vI co, vI hd, vI ((k + 1 : Nat) : Int), vI mt, w14, w15]) (dat d_Lw_law_3 49 rfl) rfl (by decide) rfl (by omega) (by omega) rfl ?_
        refine a_goto (tgt := 152) (dat d_Lw_law_3 50 rfl) (by decide) ?_
        exact nx _ _ _ hS
      · refine a_iconst (dat d_Lw_law_3 43 rfl) (by decide) ?_
        refine a_goto (tgt := 396) (dat d_Lw_law_3 44 rfl) (by decide) ?_
        refine a_icmp_eq (tgt := 401) (dat d_Lw_law_3 46 rfl) (by decide) (fun h => absurd h (by decide)) (fun c_396 => ?_)
        exfalso
        omega
    · refine a_iconst (dat d_Lw_law_3 29 rfl) (by decide) ?_
      refine a_goto (tgt := 374) (dat d_Lw_law_3 30 rfl) (by decide) ?_
      refine a_aload_n (dat d_Lw_law_3 32 rfl) rfl rfl ?_
      refine a_iconst (dat d_Lw_law_3 33 rfl) (by decide) ?_
      refine a_iload (dat d_Lw_law_3 34 rfl) rfl ?_
      refine a_iconst (dat d_Lw_law_3 35 rfl) (by decide) ?_
      refine a_inv hG (As := [vI 0, vI (hr : Int), vI 3]) (dat d_Lw_law_3 36 rfl) rfl c_Sb_hour l_Lw_126 (by decide) rv_0 rfl rfl (Nat.le_of_ble_eq_true rfl) ?_
      refine sp_Sb_hour hS.1.1 (fun v2 σ4 h2 F2 => ⟨fun o ho => absurd ho List.not_mem_nil, ?_⟩)
      have h2 := an_h3 hk3 (hS.at0 h2)
      rw [eh] at h2
      have h2 := h2.get (by decide) (p := (k : Int)) (by omega) (by omega)
      have h12 : v1 = iand (ishr v2 (k : Int)) 1 := h1.trans h2.symm
      clear h1 h2
      have hS := hS.tr F2
      show Ax g y_Lw_law (lY p e s m below meth c b) (List.range NB ++ []) cc ss 382 [vR 500, vR 0, vR 174, vI a, vI (t 6), vR 175, vI al, vI lv, vI sh, vI (hr : Int), vI co, vI hd, vI (k : Int), vI mt, w14, w15] [vI v2, vI 1] σ4
      refine a_iload (dat d_Lw_law_3 37 rfl) rfl ?_
      refine a_ishr (v := ishr v2 (k : Int)) (dat d_Lw_law_3 38 rfl) rfl ?_
      refine a_iconst (dat d_Lw_law_3 39 rfl) (by decide) ?_
      refine a_iand (v := iand (ishr v2 (k : Int)) 1) (dat d_Lw_law_3 40 rfl) rfl ?_
      refine a_iconst (dat d_Lw_law_3 41 rfl) (by decide) ?_
      refine a_icmp_ne (tgt := 395) (dat d_Lw_law_3 42 rfl) (by decide) (fun c_388 => ?_) (fun c_388 => ?_)
      · refine a_iconst (dat d_Lw_law_3 45 rfl) (by decide) ?_
        refine a_icmp_eq (tgt := 401) (dat d_Lw_law_3 46 rfl) (by decide) (fun h => absurd h (by decide)) (fun c_396 => ?_)
        exfalso
        omega
      · refine a_iconst (dat d_Lw_law_3 43 rfl) (by decide) ?_
        refine a_goto (tgt := 396) (dat d_Lw_law_3 44 rfl) (by decide) ?_
        refine a_icmp_eq (tgt := 401) (dat d_Lw_law_3 46 rfl) (by decide) (fun c_396 => ?_) (fun h => absurd h (by decide))
        refine a_iinc (v' := ((k + 1 : Nat) : Int)) (L' := [vR 500, vR 0, vR 174, vI a, vI (t 6), vR 175, vI al, vI lv, vI sh, vI (hr : Int), vI co, vI hd, vI ((k + 1 : Nat) : Int), vI mt, w14, w15]) (dat d_Lw_law_3 49 rfl) rfl (by decide) rfl (by omega) (by omega) rfl ?_
        refine a_goto (tgt := 152) (dat d_Lw_law_3 50 rfl) (by decide) ?_
        exact nx _ _ _ hS
  have j313 : ∀ (ha : Int) (w14 w15 : MV) (σ2 : xS), LwS σ2 A t r im → ha = (rst (cfg r) hr).1 k → Ax g y_Lw_law (lY p e s m below meth c b) (List.range NB ++ []) cc ss 313 [vR 500, vR 0, vR 174, vI a, vI (t 6), vR 175, vI al, vI lv, vI sh, vI (hr : Int), vI co, vI hd, vI (k : Int), vI mt, w14, w15] [vI ha] σ2 := fun ha w14 w15 σ2 hS hha => by
    have hb := rst_bd hC hr (p := (k : Int)) hkp.1 hkp.2
    have hc := came_bd (hev (cfg r) hr) (k : Int)
    have hb1 := rst_bd hC (hr + 1) (p := (k : Int)) hkp.1 hkp.2
    have he := eat_01 hC.1 (c6_cfg r) hr (k : Int)
    rw [show cS (cfg r) 3 = r 4 from rfl] at he
    rw [← hha] at hb he
    refine a_istore (L' := [vR 500, vR 0, vR 174, vI a, vI (t 6), vR 175, vI al, vI lv, vI sh, vI (hr : Int), vI co, vI hd, vI (k : Int), vI mt, vI ha, w15]) (dat d_Lw_law_2 59 rfl) (by decide) rfl rfl ?_
    refine a_iload (dat d_Lw_law_2 60 rfl) rfl ?_
    refine a_aload_n (dat d_Lw_law_2 61 rfl) rfl rfl ?_
    refine a_iconst (dat d_Lw_law_3 0 rfl) (by decide) ?_
    refine a_iload (dat d_Lw_law_3 1 rfl) rfl ?_
    refine a_iload (dat d_Lw_law_3 2 rfl) rfl ?_
    refine a_iconst (dat d_Lw_law_3 3 rfl) (by decide) ?_
    refine a_inv hG (As := [vI 0, vI (hr : Int), vI (k : Int), vI 4]) (dat d_Lw_law_3 4 rfl) rfl c_Sb_at l_Lw_118 (by decide) rv_0 rfl rfl (Nat.le_of_ble_eq_true rfl) ?_
    refine sp_Sb_at hS.1.1 (fun v1 σ3 h1 F1 => ⟨fun o ho => absurd ho List.not_mem_nil, ?_⟩)
    have h1 := an_at4 hk3 hkp (hS.at0 h1)
    rw [eh] at h1
    rw [← h1] at hc he
    have hS := hS.tr F1
    show Ax g y_Lw_law (lY p e s m below meth c b) (List.range NB ++ []) cc ss 327 [vR 500, vR 0, vR 174, vI a, vI (t 6), vR 175, vI al, vI lv, vI sh, vI (hr : Int), vI co, vI hd, vI (k : Int), vI mt, vI ha, w15] [vI v1, vI ha] σ3
    refine a_iadd (v := ha + v1) (dat d_Lw_law_3 5 rfl) rfl (by omega) ?_
    refine a_aload_n (dat d_Lw_law_3 6 rfl) rfl rfl ?_
    refine a_iconst (dat d_Lw_law_3 7 rfl) (by decide) ?_
    refine a_iload (dat d_Lw_law_3 8 rfl) rfl ?_
    refine a_iload (dat d_Lw_law_3 9 rfl) rfl ?_
    refine a_iconst (dat d_Lw_law_3 10 rfl) (by decide) ?_
    refine a_inv hG (As := [vI 0, vI (hr : Int), vI (k : Int), vI 1]) (dat d_Lw_law_3 11 rfl) rfl c_Sb_at l_Lw_118 (by decide) rv_0 rfl rfl (Nat.le_of_ble_eq_true rfl) ?_
    refine sp_Sb_at hS.1.1 (fun v2 σ4 h2 F2 => ⟨fun o ho => absurd ho List.not_mem_nil, ?_⟩)
    have h2 := an_at1 hk3 hkp (hS.at0 h2)
    rw [eh] at h2
    rw [← h2] at hb1 he
    have hS := hS.tr F2
    show Ax g y_Lw_law (lY p e s m below meth c b) (List.range NB ++ []) cc ss 338 [vR 500, vR 0, vR 174, vI a, vI (t 6), vR 175, vI al, vI lv, vI sh, vI (hr : Int), vI co, vI hd, vI (k : Int), vI mt, vI ha, w15] [vI v2, vI (ha + v1)] σ4
    refine a_isub (v := (ha + v1) - v2) (dat d_Lw_law_3 12 rfl) rfl (by omega) ?_
    refine a_istore (L' := [vR 500, vR 0, vR 174, vI a, vI (t 6), vR 175, vI al, vI lv, vI sh, vI (hr : Int), vI co, vI hd, vI (k : Int), vI mt, vI ha, vI ((ha + v1) - v2)]) (dat d_Lw_law_3 13 rfl) (by decide) rfl rfl ?_
    refine a_iload (dat d_Lw_law_3 14 rfl) rfl ?_
    refine a_if_eq (tgt := 355) (dat d_Lw_law_3 15 rfl) (by decide) (fun c_343 => ?_) (fun c_343 => ?_)
    · exact j355 _ _ _ hS
    · refine a_iload (dat d_Lw_law_3 16 rfl) rfl ?_
      refine a_aload (dat d_Lw_law_3 17 rfl) rfl ?_
      refine a_iconst (dat d_Lw_law_3 18 rfl) (by decide) ?_
      refine a_iald (n := 180) (v := t 4) (dat d_Lw_law_3 19 rfl) hI (by omega) (by omega) (by exact hS.2.1 4 (by decide) (by decide)) ?_
      refine a_icmp_ne (tgt := 399) (dat d_Lw_law_3 20 rfl) (by decide) (fun c_352 => (by omega)) (fun c_352 => ?_)
      exact j355 _ _ _ hS
  refine a_iload (dat d_Lw_law_2 41 rfl) rfl ?_
  refine a_if_ne (tgt := 301) (dat d_Lw_law_2 42 rfl) (by decide) (fun c_285 => ?_) (fun c_285 => ?_)
  · refine a_aload_n (dat d_Lw_law_2 51 rfl) rfl rfl ?_
    refine a_iconst (dat d_Lw_law_2 52 rfl) (by decide) ?_
    refine a_iload (dat d_Lw_law_2 53 rfl) rfl ?_
    refine a_iconst (dat d_Lw_law_2 54 rfl) (by decide) ?_
    refine a_isub (v := (hr : Int) - 1) (dat d_Lw_law_2 55 rfl) rfl (by omega) ?_
    refine a_iload (dat d_Lw_law_2 56 rfl) rfl ?_
    refine a_iconst (dat d_Lw_law_2 57 rfl) (by decide) ?_
    refine a_inv hG (As := [vI 0, vI ((hr : Int) - 1), vI (k : Int), vI 1]) (dat d_Lw_law_2 58 rfl) rfl c_Sb_at l_Lw_118 (by decide) rv_0 rfl rfl (Nat.le_of_ble_eq_true rfl) ?_
    refine sp_Sb_at hS.1.1 (fun v1 σ3 h1 F1 => ⟨fun o ho => absurd ho List.not_mem_nil, ?_⟩)
    have h1 := an_at1 (by omega) hkp (hS.at0 h1)
    rw [show ((hr : Int) - 1).toNat + 1 = hr by omega] at h1
    have hS := hS.tr F1
    show Ax g y_Lw_law (lY p e s m below meth c b) (List.range NB ++ []) cc ss 313 [vR 500, vR 0, vR 174, vI a, vI (t 6), vR 175, vI al, vI lv, vI sh, vI (hr : Int), vI co, vI hd, vI (k : Int), vI mt, w14, w15] [vI v1] σ3
    first
    | exact j313 _ _ _ _ hS h1
    | (refine j313 _ _ _ _ hS ?_; rw [show hr = 0 by omega]; exact ((row_p R (by omega) (by omega)).1.2.2).symm)
  · refine a_aload (dat d_Lw_law_2 43 rfl) rfl ?_
    refine a_bipush (dat d_Lw_law_2 44 rfl) (by decide) (by decide) ?_
    refine a_iconst (dat d_Lw_law_2 45 rfl) (by decide) ?_
    refine a_iload (dat d_Lw_law_2 46 rfl) rfl ?_
    refine a_imul (v := 4 * (k : Int)) (dat d_Lw_law_2 47 rfl) rfl (by omega) ?_
    refine a_iadd (v := 12 + (4 * (k : Int))) (dat d_Lw_law_2 48 rfl) rfl (by omega) ?_
    refine a_iald (n := 180) (v := t (12 + 4 * (k : Int))) (dat d_Lw_law_2 49 rfl) hI (by omega) (by omega) (by exact hS.2.1 _ (by omega) (by omega)) ?_
    refine a_goto (tgt := 313) (dat d_Lw_law_2 50 rfl) (by decide) ?_
    first
    | exact j313 _ _ _ _ hS h1
    | (refine j313 _ _ _ _ hS ?_; rw [show hr = 0 by omega]; exact ((row_p R (by omega) (by omega)).1.2.2).symm)
/-- one of the people after the other -/
theorem lw_152 {al lv sh : Int} {hr : Nat} (hG : aG g (lY p e s m below meth c b)) (hT : TRg t) (hh : (hr : Int) < t 3) (hlv : Msk 8 lv (rst (cfg r) hr).2) (nx : ∀ (co hd : Int) (w12 w13 w14 w15 : MV) (σ : xS), LwS σ A t r im → co = tot (cameI (hev (cfg r) hr)) (t 6).toNat → hd = sumN (fun q => cntN (metB (hev (cfg r) hr) (q : Int)) 8) (t 6).toNat → Ax g y_Lw_law (lY p e s m below meth c b) (List.range NB ++ []) cc ss 407 [vR 500, vR 0, vR 174, vI a, vI (t 6), vR 175, vI al, vI lv, vI sh, vI (hr : Int), vI co, vI hd, w12, w13, w14, w15] [] σ) : ∀ (n k : Nat) (co hd : Int) (w13 w14 w15 : MV) (σ : xS), ((k + n : Nat) : Int) = t 6 → LwS σ A t r im → co = tot (cameI (hev (cfg r) hr)) k → hd = sumN (fun q => cntN (metB (hev (cfg r) hr) (q : Int)) 8) k → Ax g y_Lw_law (lY p e s m below meth c b) (List.range NB ++ []) cc ss 152 [vR 500, vR 0, vR 174, vI a, vI (t 6), vR 175, vI al, vI lv, vI sh, vI (hr : Int), vI co, vI hd, vI (k : Int), w13, w14, w15] [] σ := by
  intro n
  induction n with
  | zero =>
    intro k co hd w13 w14 w15 σ hk hS hco hhd
    refine a_iload (dat d_Lw_law_1 30 rfl) rfl ?_
    refine a_iload (dat d_Lw_law_1 31 rfl) rfl ?_
    refine a_icmp_ge (tgt := 407) (dat d_Lw_law_1 32 rfl) (by decide) (fun c_156 => ?_) (fun c_156 => (by omega))
    exact nx _ _ _ _ _ _ _ hS (by rw [show (t 6).toNat = k by omega]; exact hco) (by rw [show (t 6).toNat = k by omega]; exact hhd)
  | succ n ih =>
    intro k co hd w13 w14 w15 σ hk hS hco hhd
    have hC := cfg_ok hS.ok
    have R := hS.2.2.1.2
    have e3 : r 3 = t 3 := R.1.2.2.2.1
    have e6 : r 6 = t 6 := R.2.1.1
    have t6 := hT.1.2.2.2.2.2.2.1
    have hk3 : 0 ≤ (hr : Int) ∧ (hr : Int) < r 3 := by omega
    have hkp : 0 ≤ (k : Int) ∧ (k : Int) < r 6 := by omega
    have eh : (hr : Int).toNat = hr := Int.toNat_natCast hr
    have hl := (hmi_ok hC hr).2.2
    change (hev (cfg r) hr).length ≤ 28 at hl
    have hb1 := tot_came_bd hl (k + 1)
    have hb2 := sumN_cnt_bd (f := fun q => metB (hev (cfg r) hr) (q : Int)) (k + 1)
    refine a_iload (dat d_Lw_law_1 30 rfl) rfl ?_
    refine a_iload (dat d_Lw_law_1 31 rfl) rfl ?_
    refine a_icmp_ge (tgt := 407) (dat d_Lw_law_1 32 rfl) (by decide) (fun c_156 => (by omega)) (fun c_156 => ?_)
    refine a_iload (dat d_Lw_law_1 33 rfl) rfl ?_
    refine a_aload_n (dat d_Lw_law_1 34 rfl) rfl rfl ?_
    refine a_iconst (dat d_Lw_law_1 35 rfl) (by decide) ?_
    refine a_iload (dat d_Lw_law_1 36 rfl) rfl ?_
    refine a_iload (dat d_Lw_law_1 37 rfl) rfl ?_
    refine a_iconst (dat d_Lw_law_1 38 rfl) (by decide) ?_
    refine a_inv hG (As := [vI 0, vI (hr : Int), vI (k : Int), vI 4]) (dat d_Lw_law_1 39 rfl) rfl c_Sb_at l_Lw_118 (by decide) rv_0 rfl rfl (Nat.le_of_ble_eq_true rfl) ?_
    refine sp_Sb_at hS.1.1 (fun v1 σ1 h1 F1 => ⟨fun o ho => absurd ho List.not_mem_nil, ?_⟩)
    have h1 := an_at4 hk3 hkp (hS.at0 h1)
    rw [eh] at h1
    have hco2 : co + v1 = tot (cameI (hev (cfg r) hr)) (k + 1) := by rw [hco, h1]; rfl
    have hS := hS.tr F1
    show Ax g y_Lw_law (lY p e s m below meth c b) (List.range NB ++ []) cc ss 171 [vR 500, vR 0, vR 174, vI a, vI (t 6), vR 175, vI al, vI lv, vI sh, vI (hr : Int), vI co, vI hd, vI (k : Int), w13, w14, w15] [vI v1, vI co] σ1
    refine a_iadd (v := co + v1) (dat d_Lw_law_1 40 rfl) rfl (by rw [hco2]; omega) ?_
    refine a_istore (L' := [vR 500, vR 0, vR 174, vI a, vI (t 6), vR 175, vI al, vI lv, vI sh, vI (hr : Int), vI (co + v1), vI hd, vI (k : Int), w13, w14, w15]) (dat d_Lw_law_1 41 rfl) (by decide) rfl rfl ?_
    refine a_aload_n (dat d_Lw_law_1 42 rfl) rfl rfl ?_
    refine a_iconst (dat d_Lw_law_1 43 rfl) (by decide) ?_
    refine a_iload (dat d_Lw_law_1 44 rfl) rfl ?_
    refine a_iload (dat d_Lw_law_1 45 rfl) rfl ?_
    refine a_iconst (dat d_Lw_law_1 46 rfl) (by decide) ?_
    refine a_inv hG (As := [vI 0, vI (hr : Int), vI (k : Int), vI 3]) (dat d_Lw_law_1 47 rfl) rfl c_Sb_at l_Lw_118 (by decide) rv_0 rfl rfl (Nat.le_of_ble_eq_true rfl) ?_
    refine sp_Sb_at hS.1.1 (fun v2 σ2 h2 F2 => ⟨fun o ho => absurd ho List.not_mem_nil, ?_⟩)
    have h2 := an_at3 hk3 hkp (hS.at0 h2)
    rw [eh] at h2
    have hS := hS.tr F2
    show Ax g y_Lw_law (lY p e s m below meth c b) (List.range NB ++ []) cc ss 184 [vR 500, vR 0, vR 174, vI a, vI (t 6), vR 175, vI al, vI lv, vI sh, vI (hr : Int), vI (co + v1), vI hd, vI (k : Int), w13, w14, w15] [vI v2] σ2
    refine a_istore (L' := [vR 500, vR 0, vR 174, vI a, vI (t 6), vR 175, vI al, vI lv, vI sh, vI (hr : Int), vI (co + v1), vI hd, vI (k : Int), vI v2, w14, w15]) (dat d_Lw_law_1 48 rfl) (by decide) rfl rfl ?_
    refine a_iload (dat d_Lw_law_1 49 rfl) rfl ?_
    refine a_iload (dat d_Lw_law_1 50 rfl) rfl ?_
    refine a_invs hG (As := [vI v2]) (dat d_Lw_law_1 51 rfl) rfl c_In_bitCount l_Lw_121 (by decide) rfl rfl (Nat.le_of_ble_eq_true rfl) ?_
    refine sp_In_bitCount ⟨fun o ho => absurd ho List.not_mem_nil, ?_⟩
    have hhd2 : hd + bcnt v2 = sumN (fun q => cntN (metB (hev (cfg r) hr) (q : Int)) 8) (k + 1) := by rw [hhd, h2.bc]; rfl
    show Ax g y_Lw_law (lY p e s m below meth c b) (List.range NB ++ []) cc ss 193 [vR 500, vR 0, vR 174, vI a, vI (t 6), vR 175, vI al, vI lv, vI sh, vI (hr : Int), vI (co + v1), vI hd, vI (k : Int), vI v2, w14, w15] [vI (bcnt v2), vI hd] σ2
    refine a_iadd (v := hd + (bcnt v2)) (dat d_Lw_law_1 52 rfl) rfl (by rw [hhd2]; omega) ?_
    refine a_istore (L' := [vR 500, vR 0, vR 174, vI a, vI (t 6), vR 175, vI al, vI lv, vI sh, vI (hr : Int), vI (co + v1), vI (hd + (bcnt v2)), vI (k : Int), vI v2, w14, w15]) (dat d_Lw_law_1 53 rfl) (by decide) rfl rfl ?_
    refine a_iconst (dat d_Lw_law_1 54 rfl) (by decide) ?_
    refine a_istore (L' := [vR 500, vR 0, vR 174, vI a, vI (t 6), vR 175, vI al, vI lv, vI sh, vI (hr : Int), vI (co + v1), vI (hd + (bcnt v2)), vI (k : Int), vI v2, vI 0, w15]) (dat d_Lw_law_1 55 rfl) (by decide) rfl rfl ?_
    exact lw_199 (k := k) hG hT hh (by omega) hlv h2 (fun w14 w15 σ3 hS => lw_283 hG hS hT hh (by omega) (fun w14 w15 σ4 hS => ih (k + 1) _ _ _ _ _ _ (by omega) hS hco2 hhd2)) (t 6).toNat 0 _ (by omega) hS
/-- one hour after the other -/
theorem lw_hours (hG : aG g (lY p e s m below meth c b)) (hT : TRg t) (hA : A 0 = 1) (ha : -2147483648 ≤ a ∧ a < 2147483648) (hcs : cc + 3 ≤ 600000 ∧ ss + 540 ≤ 7302250) : ∀ (n hr : Nat) (al lv sh : Int) (w10 w11 w12 w13 w14 w15 : MV) (σ : xS), ((hr + n : Nat) : Int) = t 3 → LwS σ A t r im → al = brN (cfg r) hr → Msk 8 lv (rst (cfg r) hr).2 → sh = sumN (fun h => ((hev (cfg r) h).length : Int)) hr → Ax g y_Lw_law (lY p e s m below meth c b) (List.range NB ++ []) cc ss 134 [vR 500, vR 0, vR 174, vI a, vI (t 6), vR 175, vI al, vI lv, vI sh, vI (hr : Int), w10, w11, w12, w13, w14, w15] [] σ := by
  intro n
  have hI := aI_175 []
  induction n with
  | zero =>
    intro hr al lv sh w10 w11 w12 w13 w14 w15 σ hh hS hal hlv hsh
    have e3 : r 3 = t 3 := hS.2.2.1.2.1.2.2.2.1
    refine a_iload (dat d_Lw_law_1 19 rfl) rfl ?_
    refine a_aload (dat d_Lw_law_1 20 rfl) rfl ?_
    refine a_iconst (dat d_Lw_law_1 21 rfl) (by decide) ?_
    refine a_iald (n := 180) (v := t 3) (dat d_Lw_law_1 22 rfl) hI (by omega) (by omega) (by exact hS.2.1 3 (by decide) (by decide)) ?_
    refine a_icmp_ge (tgt := 519) (dat d_Lw_law_1 23 rfl) (by decide) (fun c_140 => ?_) (fun c_140 => (by omega))
    have eN : (r 3).toNat = hr := by omega
    exact lw_519 hG hS hT hA ha hcs (by rw [eN]; exact hal) (by rw [eN]; exact hlv) (by rw [eN]; exact hsh)
  | succ n ih =>
    intro hr al lv sh w10 w11 w12 w13 w14 w15 σ hh hS hal hlv hsh
    have hC := cfg_ok hS.ok
    have e6 : r 6 = t 6 := hS.2.2.1.2.2.1.1
    have t6 := hT.1.2.2.2.2.2.2.1
    refine a_iload (dat d_Lw_law_1 19 rfl) rfl ?_
    refine a_aload (dat d_Lw_law_1 20 rfl) rfl ?_
    refine a_iconst (dat d_Lw_law_1 21 rfl) (by decide) ?_
    refine a_iald (n := 180) (v := t 3) (dat d_Lw_law_1 22 rfl) hI (by omega) (by omega) (by exact hS.2.1 3 (by decide) (by decide)) ?_
    refine a_icmp_ge (tgt := 519) (dat d_Lw_law_1 23 rfl) (by decide) (fun c_140 => (by omega)) (fun c_140 => ?_)
    refine a_iconst (dat d_Lw_law_1 24 rfl) (by decide) ?_
    refine a_istore (L' := [vR 500, vR 0, vR 174, vI a, vI (t 6), vR 175, vI al, vI lv, vI sh, vI (hr : Int), vI 0, w11, w12, w13, w14, w15]) (dat d_Lw_law_1 25 rfl) (by decide) rfl rfl ?_
    refine a_iconst (dat d_Lw_law_1 26 rfl) (by decide) ?_
    refine a_istore (L' := [vR 500, vR 0, vR 174, vI a, vI (t 6), vR 175, vI al, vI lv, vI sh, vI (hr : Int), vI 0, vI 0, w12, w13, w14, w15]) (dat d_Lw_law_1 27 rfl) (by decide) rfl rfl ?_
    refine a_iconst (dat d_Lw_law_1 28 rfl) (by decide) ?_
    refine a_istore (L' := [vR 500, vR 0, vR 174, vI a, vI (t 6), vR 175, vI al, vI lv, vI sh, vI (hr : Int), vI 0, vI 0, vI 0, w13, w14, w15]) (dat d_Lw_law_1 29 rfl) (by decide) rfl rfl ?_
    exact lw_152 (hr := hr) hG hT (by omega) hlv (fun co hd w12 w13 w14 w15 σ1 hS hco hhd => lw_407 hG hS hT (by omega) hal hlv hsh (by rw [hco, ← e6]; exact came_ok hC hr) (by rw [hhd, ← e6]; exact hands_ok hC hr) (fun al2 lv2 sh2 σ2 hS hal hlv hsh => ih (hr + 1) _ _ _ _ _ _ _ _ _ _ (by omega) hS hal hlv hsh)) (t 6).toNat 0 _ _ _ _ _ _ (by omega) hS rfl rfl
end LAW3
