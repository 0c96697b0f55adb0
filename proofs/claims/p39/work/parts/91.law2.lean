/-! behind the last hour: what is told of the whole run -/
section LAW2
variable {p : Program} {e : Env} {s : State} {m : MethodId} {below : List Frame} {meth : Method} {c : Code} {b cc ss : Nat} {g : xG} {A t r : Int → Int} {im : Nat → Int → Int} {σ : xS} {a : Int}
theorem lw_519 {w10 w11 w12 w13 w14 w15 : MV} {al lv sh h9 : Int} (hG : aG g (lY p e s m below meth c b)) (hS : LwS σ A t r im) (hT : TRg t) (hA : A 0 = 1) (ha : -2147483648 ≤ a ∧ a < 2147483648) (hcs : cc + 3 ≤ 600000 ∧ ss + 540 ≤ 7302250) (hal : al = brN (cfg r) (r 3).toNat) (hlv : Msk 8 lv (rst (cfg r) (r 3).toNat).2) (hsh : sh = sumN (fun h => ((hev (cfg r) h).length : Int)) (r 3).toNat) : Ax g y_Lw_law (lY p e s m below meth c b) (List.range NB ++ []) cc ss 519 [vR 500, vR 0, vR 174, vI a, vI (t 6), vR 175, vI al, vI lv, vI sh, vI h9, w10, w11, w12, w13, w14, w15] [] σ := by
  have hC := cfg_ok hS.ok
  have R := hS.2.2.1.2
  have e6 : r 6 = t 6 := R.2.1.1
  have t3 := hT.1.2.2.2.1
  have t6 := hT.1.2.2.2.2.2.2.1
  have hI := aI_175 []
  have hbb : 0 ≤ bcnt lv ∧ bcnt lv ≤ 8 := by rw [hlv.bc]; exact cntN_bd _ 8
  refine a_iload (dat d_Lw_law_4 54 rfl) rfl ?_
  refine a_aload_n (dat d_Lw_law_4 55 rfl) rfl rfl ?_
  refine a_iconst (dat d_Lw_law_4 56 rfl) (by decide) ?_
  refine a_iconst (dat d_Lw_law_4 57 rfl) (by decide) ?_
  refine a_inv hG (As := [vI 0, vI 2]) (dat d_Lw_law_4 58 rfl) rfl c_Sb_run l_Lw_130 (by decide) rv_0 rfl rfl (Nat.le_of_ble_eq_true rfl) ?_
  refine sp_Sb_run hS.1.1 (fun v1 σ1 h1 F1 => ⟨fun o ho => absurd ho List.not_mem_nil, ?_⟩)
  have h1 : v1 = sh := (an_r2 (hS.at0 h1)).trans hsh.symm
  have hS := hS.tr F1
  show Ax g y_Lw_law (lY p e s m below meth c b) (List.range NB ++ []) cc ss 527 [vR 500, vR 0, vR 174, vI a, vI (t 6), vR 175, vI al, vI lv, vI sh, vI h9, w10, w11, w12, w13, w14, w15] [vI v1, vI sh] σ1
  refine a_icmp_ne (tgt := 589) (dat d_Lw_law_4 59 rfl) (by decide) (fun c_527 => (by omega)) (fun c_527 => ?_)
  refine a_aload_n (dat d_Lw_law_4 60 rfl) rfl rfl ?_
  refine a_iconst (dat d_Lw_law_4 61 rfl) (by decide) ?_
  refine a_iconst (dat d_Lw_law_5 0 rfl) (by decide) ?_
  refine a_inv hG (As := [vI 0, vI 4]) (dat d_Lw_law_5 1 rfl) rfl c_Sb_run l_Lw_130 (by decide) rv_0 rfl rfl (Nat.le_of_ble_eq_true rfl) ?_
  refine sp_Sb_run hS.1.1 (fun v2 σ2 h2 F2 => ⟨fun o ho => absurd ho List.not_mem_nil, ?_⟩)
  have h2 : v2 = al := (an_r4 (hS.at0 h2)).trans hal.symm
  have hS := hS.tr F2
  show Ax g y_Lw_law (lY p e s m below meth c b) (List.range NB ++ []) cc ss 536 [vR 500, vR 0, vR 174, vI a, vI (t 6), vR 175, vI al, vI lv, vI sh, vI h9, w10, w11, w12, w13, w14, w15] [vI v2] σ2
  refine a_iload (dat d_Lw_law_5 2 rfl) rfl ?_
  refine a_icmp_ne (tgt := 589) (dat d_Lw_law_5 3 rfl) (by decide) (fun c_538 => (by omega)) (fun c_538 => ?_)
  refine a_aload_n (dat d_Lw_law_5 4 rfl) rfl rfl ?_
  refine a_iconst (dat d_Lw_law_5 5 rfl) (by decide) ?_
  refine a_iconst (dat d_Lw_law_5 6 rfl) (by decide) ?_
  refine a_inv hG (As := [vI 0, vI 0]) (dat d_Lw_law_5 7 rfl) rfl c_Sb_run l_Lw_130 (by decide) rv_0 rfl rfl (Nat.le_of_ble_eq_true rfl) ?_
  refine sp_Sb_run hS.1.1 (fun v3 σ3 h3 F3 => ⟨fun o ho => absurd ho List.not_mem_nil, ?_⟩)
  have h3 : v3 = t 6 - bcnt lv := by rw [an_r0 (hS.at0 h3), hlv.bc, ← e6]; rfl
  have hS := hS.tr F3
  show Ax g y_Lw_law (lY p e s m below meth c b) (List.range NB ++ []) cc ss 547 [vR 500, vR 0, vR 174, vI a, vI (t 6), vR 175, vI al, vI lv, vI sh, vI h9, w10, w11, w12, w13, w14, w15] [vI v3] σ3
  refine a_iload (dat d_Lw_law_5 8 rfl) rfl ?_
  refine a_iload (dat d_Lw_law_5 9 rfl) rfl ?_
  refine a_invs hG (As := [vI lv]) (dat d_Lw_law_5 10 rfl) rfl c_In_bitCount l_Lw_121 (by decide) rfl rfl (Nat.le_of_ble_eq_true rfl) ?_
  refine sp_In_bitCount ⟨fun o ho => absurd ho List.not_mem_nil, ?_⟩
  show Ax g y_Lw_law (lY p e s m below meth c b) (List.range NB ++ []) cc ss 554 [vR 500, vR 0, vR 174, vI a, vI (t 6), vR 175, vI al, vI lv, vI sh, vI h9, w10, w11, w12, w13, w14, w15] [vI (bcnt lv), vI (t 6), vI v3] σ3
  refine a_isub (v := (t 6) - (bcnt lv)) (dat d_Lw_law_5 11 rfl) rfl (by omega) ?_
  refine a_icmp_ne (tgt := 589) (dat d_Lw_law_5 12 rfl) (by decide) (fun c_555 => (by omega)) (fun c_555 => ?_)
  refine a_aload_n (dat d_Lw_law_5 13 rfl) rfl rfl ?_
  refine a_iconst (dat d_Lw_law_5 14 rfl) (by decide) ?_
  refine a_bipush (dat d_Lw_law_5 15 rfl) (by decide) (by decide) ?_
  refine a_inv hG (As := [vI 0, vI 7]) (dat d_Lw_law_5 16 rfl) rfl c_Sb_run l_Lw_130 (by decide) rv_0 rfl rfl (Nat.le_of_ble_eq_true rfl) ?_
  refine sp_Sb_run hS.1.1 (fun v4 σ4 h4 F4 => ⟨fun o ho => absurd ho List.not_mem_nil, ?_⟩)
  have h4 : 1 ≤ v4 := by rw [an_r7 (hS.at0 h4)]; exact pts_1 _ (by omega)
  have hS := hS.tr F4
  show Ax g y_Lw_law (lY p e s m below meth c b) (List.range NB ++ []) cc ss 565 [vR 500, vR 0, vR 174, vI a, vI (t 6), vR 175, vI al, vI lv, vI sh, vI h9, w10, w11, w12, w13, w14, w15] [vI v4] σ4
  refine a_iconst (dat d_Lw_law_5 17 rfl) (by decide) ?_
  refine a_icmp_lt (tgt := 589) (dat d_Lw_law_5 18 rfl) (by decide) (fun c_566 => (by omega)) (fun c_566 => ?_)
  refine a_aload_n (dat d_Lw_law_5 19 rfl) rfl rfl ?_
  refine a_iconst (dat d_Lw_law_5 20 rfl) (by decide) ?_
  refine a_bipush (dat d_Lw_law_5 21 rfl) (by decide) (by decide) ?_
  refine a_inv hG (As := [vI 0, vI 7]) (dat d_Lw_law_5 22 rfl) rfl c_Sb_run l_Lw_130 (by decide) rv_0 rfl rfl (Nat.le_of_ble_eq_true rfl) ?_
  refine sp_Sb_run hS.1.1 (fun v5 σ5 h5 F5 => ⟨fun o ho => absurd ho List.not_mem_nil, ?_⟩)
  have h5 := an_r7 (hS.at0 h5)
  have hS := hS.tr F5
  show Ax g y_Lw_law (lY p e s m below meth c b) (List.range NB ++ []) cc ss 576 [vR 500, vR 0, vR 174, vI a, vI (t 6), vR 175, vI al, vI lv, vI sh, vI h9, w10, w11, w12, w13, w14, w15] [vI v5] σ5
  refine a_aload_n (dat d_Lw_law_5 23 rfl) rfl rfl ?_
  refine a_iconst (dat d_Lw_law_5 24 rfl) (by decide) ?_
  refine a_bipush (dat d_Lw_law_5 25 rfl) (by decide) (by decide) ?_
  refine a_inv hG (As := [vI 0, vI 6]) (dat d_Lw_law_5 26 rfl) rfl c_Sb_run l_Lw_130 (by decide) rv_0 rfl rfl (Nat.le_of_ble_eq_true rfl) ?_
  refine sp_Sb_run hS.1.1 (fun v6 σ6 h6 F6 => ⟨fun o ho => absurd ho List.not_mem_nil, ?_⟩)
  have h6 := an_r6 (hS.at0 h6)
  have hS := hS.tr F6
  have hpo : r 6 ≤ v5 + v6 := by rw [h5, h6]; exact parts_ok hC
  have hb5 : 0 ≤ v5 ∧ v5 ≤ 8 := by rw [h5]; have := pts_bd (cfg r) (r 6).toNat; omega
  have hb6 : 0 ≤ v6 ∧ v6 ≤ 64 := by rw [h6]; have h := sumN_cnt_bd (f := fun p q => metA (cfg r) (p : Int) q) (r 6).toNat; change 0 ≤ cpl2 (cfg r) (r 6).toNat ∧ cpl2 (cfg r) (r 6).toNat ≤ _ at h; omega
  show Ax g y_Lw_law (lY p e s m below meth c b) (List.range NB ++ []) cc ss 583 [vR 500, vR 0, vR 174, vI a, vI (t 6), vR 175, vI al, vI lv, vI sh, vI h9, w10, w11, w12, w13, w14, w15] [vI v6, vI v5] σ6
  refine a_iadd (v := v5 + v6) (dat d_Lw_law_5 27 rfl) rfl (by omega) ?_
  refine a_iload (dat d_Lw_law_5 28 rfl) rfl ?_
  refine a_icmp_ge (tgt := 591) (dat d_Lw_law_5 29 rfl) (by decide) (fun c_586 => ?_) (fun c_586 => (by omega))
  refine a_aload (dat d_Lw_law_5 32 rfl) rfl ?_
  refine a_iconst (dat d_Lw_law_5 33 rfl) (by decide) ?_
  refine a_iald (n := 180) (v := t 3) (dat d_Lw_law_5 34 rfl) hI (by omega) (by omega) (by exact hS.2.1 3 (by decide) (by decide)) ?_
  refine a_iconst (dat d_Lw_law_5 35 rfl) (by decide) ?_
  refine a_isub (v := (t 3) - 1) (dat d_Lw_law_5 36 rfl) rfl (by omega) ?_
  refine a_istore (L' := [vR 500, vR 0, vR 174, vI a, vI (t 6), vR 175, vI al, vI lv, vI sh, vI ((t 3) - 1), w10, w11, w12, w13, w14, w15]) (dat d_Lw_law_5 37 rfl) (by decide) rfl rfl ?_
  refine a_iconst (dat d_Lw_law_5 38 rfl) (by decide) ?_
  refine a_istore (L' := [vR 500, vR 0, vR 174, vI a, vI (t 6), vR 175, vI al, vI lv, vI sh, vI ((t 3) - 1), vI 0, w11, w12, w13, w14, w15]) (dat d_Lw_law_5 39 rfl) (by decide) rfl rfl ?_
  exact lw_people hG hT hA ha hcs (t 6).toNat 0 _ _ _ _ _ _ (by omega) hS
end LAW2
