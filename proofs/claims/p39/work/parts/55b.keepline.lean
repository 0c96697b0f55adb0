/-! the reader: a line kept -/
/-- what is kept of lines, by sort -/
def RwR (σ : xS) (s : Int) (r : Int → Int) : Prop := (s = 0 → RowT σ r) ∧ (s = 1 → BookR σ 133 r)
def RwOk (s : Int) (r : Int → Int) (gp gc : Int) : Prop := (s = 0 → RowOk r gp gc) ∧ (s = 1 → BookOk r)
theorem RwR.same {σ σ' : xS} {s : Int} {r : Int → Int} (h : RwR σ s r) (e : ∀ k : Nat, 124 ≤ k → k ≤ 136 → σ' k = σ k) : RwR σ' s r := ⟨fun z => (h.1 z).same (fun k q0 q1 => e k q0 (by omega)), fun z => (h.2 z).same (fun k q0 q1 => e k (by omega) (by omega))⟩
theorem sp_Re_keep_0 {g : xG} {K : Option MV → xS → Prop} {σ : xS} {v0 v1 v2 mn n m : Int} (e2 : σ 123 2 = 0) (a0 : σ 137 0 = v0) (a1 : σ 137 1 = v1) (k : K none (up (up σ 124 0 v0) 124 1 v1)) : Mt g y_Re_keepLine [vR 123, vI 0, vI m] σ K := by
  refine x_enter 0 rfl rfl rfl (fun Z => ?_)
  show Wx g y_Re_keepLine Z K 0 [vR 123, vI 0, vI m] [] σ
  refine x_aload_n (dat d_Re_keepLine 0 rfl) rfl rfl ?_
  refine x_geti (ji := 2) (v := 0) (dat d_Re_keepLine 1 rfl) rfl f_Re_53 (oi_mk (by decide +kernel)) (e2) ?_
  refine x_if_eq (tgt := 8) (dat d_Re_keepLine 2 rfl) (by decide) (fun c_4 => ?_) (fun h => absurd h (by decide))
  refine x_iload_n (dat d_Re_keepLine 4 rfl) rfl rfl ?_
  refine x_tableIn (tgt := 56) (dat d_Re_keepLine 5 rfl).1 0 rfl (by decide) (by decide) ?_
  refine x_aload_n (dat d_Re_keepLine 6 rfl) rfl rfl ?_
  refine x_getr (r := 124) (dat d_Re_keepLine 7 rfl) rfl f_Re_12 (or_mk (by decide +kernel)) ?_
  refine x_aload_n (dat d_Re_keepLine 8 rfl) rfl rfl ?_
  refine x_getr (r := 137) (dat d_Re_keepLine 9 rfl) rfl f_Re_25 (or_mk (by decide +kernel)) ?_
  refine x_iconst (dat d_Re_keepLine 10 rfl) (by decide) ?_
  refine x_iald (n := 13) (v := v0) (dat d_Re_keepLine 11 rfl) (ai_mk (by decide +kernel)) (by omega) (by omega) (a0) ?_
  refine x_puti (ji := 0) (x := (v0)) (dat d_Re_keepLine 12 rfl) rfl f_Re_47w (oi_mk (by decide +kernel)) (fun h => absurd h (by decide)) (by decide) ?_
  refine x_aload_n (dat d_Re_keepLine 13 rfl) rfl rfl ?_
  refine x_getr (r := 124) (dat d_Re_keepLine 14 rfl) rfl f_Re_12 (or_mk (by decide +kernel)) ?_
  refine x_aload_n (dat d_Re_keepLine 15 rfl) rfl rfl ?_
  refine x_getr (r := 137) (dat d_Re_keepLine 16 rfl) rfl f_Re_25 (or_mk (by decide +kernel)) ?_
  refine x_iconst (dat d_Re_keepLine 17 rfl) (by decide) ?_
  refine x_iald (n := 13) (v := v1) (dat d_Re_keepLine 18 rfl) (ai_mk (by decide +kernel)) (by omega) (by omega) ((up_nk (by decide)).trans a1) ?_
  refine x_puti (ji := 1) (x := (v1)) (dat d_Re_keepLine 19 rfl) rfl f_Re_50w (oi_mk (by decide +kernel)) (fun h => absurd h (by decide)) (by decide) ?_
  refine x_goto (tgt := 243) (dat d_Re_keepLine 20 rfl) (by decide) ?_
  refine x_ret (dat d_Re_keepLine 105 rfl) rfl ?_
  exact k
theorem sp_Re_keep_1 {g : xG} {K : Option MV → xS → Prop} {σ : xS} {v0 v1 v2 mn n m : Int} (e2 : σ 123 2 = 0) (a0 : σ 137 0 = v0) (k : K none (up σ 124 3 v0)) : Mt g y_Re_keepLine [vR 123, vI 1, vI m] σ K := by
  refine x_enter 0 rfl rfl rfl (fun Z => ?_)
  show Wx g y_Re_keepLine Z K 0 [vR 123, vI 1, vI m] [] σ
  refine x_aload_n (dat d_Re_keepLine 0 rfl) rfl rfl ?_
  refine x_geti (ji := 2) (v := 0) (dat d_Re_keepLine 1 rfl) rfl f_Re_53 (oi_mk (by decide +kernel)) (e2) ?_
  refine x_if_eq (tgt := 8) (dat d_Re_keepLine 2 rfl) (by decide) (fun c_4 => ?_) (fun h => absurd h (by decide))
  refine x_iload_n (dat d_Re_keepLine 4 rfl) rfl rfl ?_
  refine x_tableIn (tgt := 85) (dat d_Re_keepLine 5 rfl).1 1 rfl (by decide) (by decide) ?_
  refine x_aload_n (dat d_Re_keepLine 21 rfl) rfl rfl ?_
  refine x_getr (r := 124) (dat d_Re_keepLine 22 rfl) rfl f_Re_12 (or_mk (by decide +kernel)) ?_
  refine x_aload_n (dat d_Re_keepLine 23 rfl) rfl rfl ?_
  refine x_getr (r := 137) (dat d_Re_keepLine 24 rfl) rfl f_Re_25 (or_mk (by decide +kernel)) ?_
  refine x_iconst (dat d_Re_keepLine 25 rfl) (by decide) ?_
  refine x_iald (n := 13) (v := v0) (dat d_Re_keepLine 26 rfl) (ai_mk (by decide +kernel)) (by omega) (by omega) (a0) ?_
  refine x_puti (ji := 3) (x := (v0)) (dat d_Re_keepLine 27 rfl) rfl f_Re_193w (oi_mk (by decide +kernel)) (fun h => absurd h (by decide)) (by decide) ?_
  refine x_goto (tgt := 243) (dat d_Re_keepLine 28 rfl) (by decide) ?_
  refine x_ret (dat d_Re_keepLine 105 rfl) rfl ?_
  exact k
theorem sp_Re_keep_2 {g : xG} {K : Option MV → xS → Prop} {σ : xS} {v0 v1 v2 mn n m : Int} (e2 : σ 123 2 = 0) (a0 : σ 137 0 = v0) (a1 : σ 137 1 = v1) (k : K none (up (up σ 124 4 v0) 124 5 v1)) : Mt g y_Re_keepLine [vR 123, vI 2, vI m] σ K := by
  refine x_enter 0 rfl rfl rfl (fun Z => ?_)
  show Wx g y_Re_keepLine Z K 0 [vR 123, vI 2, vI m] [] σ
  refine x_aload_n (dat d_Re_keepLine 0 rfl) rfl rfl ?_
  refine x_geti (ji := 2) (v := 0) (dat d_Re_keepLine 1 rfl) rfl f_Re_53 (oi_mk (by decide +kernel)) (e2) ?_
  refine x_if_eq (tgt := 8) (dat d_Re_keepLine 2 rfl) (by decide) (fun c_4 => ?_) (fun h => absurd h (by decide))
  refine x_iload_n (dat d_Re_keepLine 4 rfl) rfl rfl ?_
  refine x_tableIn (tgt := 101) (dat d_Re_keepLine 5 rfl).1 2 rfl (by decide) (by decide) ?_
  refine x_aload_n (dat d_Re_keepLine 29 rfl) rfl rfl ?_
  refine x_getr (r := 124) (dat d_Re_keepLine 30 rfl) rfl f_Re_12 (or_mk (by decide +kernel)) ?_
  refine x_aload_n (dat d_Re_keepLine 31 rfl) rfl rfl ?_
  refine x_getr (r := 137) (dat d_Re_keepLine 32 rfl) rfl f_Re_25 (or_mk (by decide +kernel)) ?_
  refine x_iconst (dat d_Re_keepLine 33 rfl) (by decide) ?_
  refine x_iald (n := 13) (v := v0) (dat d_Re_keepLine 34 rfl) (ai_mk (by decide +kernel)) (by omega) (by omega) (a0) ?_
  refine x_puti (ji := 4) (x := (v0)) (dat d_Re_keepLine 35 rfl) rfl f_Re_195w (oi_mk (by decide +kernel)) (fun h => absurd h (by decide)) (by decide) ?_
  refine x_aload_n (dat d_Re_keepLine 36 rfl) rfl rfl ?_
  refine x_getr (r := 124) (dat d_Re_keepLine 37 rfl) rfl f_Re_12 (or_mk (by decide +kernel)) ?_
  refine x_aload_n (dat d_Re_keepLine 38 rfl) rfl rfl ?_
  refine x_getr (r := 137) (dat d_Re_keepLine 39 rfl) rfl f_Re_25 (or_mk (by decide +kernel)) ?_
  refine x_iconst (dat d_Re_keepLine 40 rfl) (by decide) ?_
  refine x_iald (n := 13) (v := v1) (dat d_Re_keepLine 41 rfl) (ai_mk (by decide +kernel)) (by omega) (by omega) ((up_nk (by decide)).trans a1) ?_
  refine x_puti (ji := 5) (x := (v1)) (dat d_Re_keepLine 42 rfl) rfl f_Re_198w (oi_mk (by decide +kernel)) (fun h => absurd h (by decide)) (by decide) ?_
  refine x_goto (tgt := 243) (dat d_Re_keepLine 43 rfl) (by decide) ?_
  refine x_ret (dat d_Re_keepLine 105 rfl) rfl ?_
  exact k
theorem sp_Re_keep_3 {g : xG} {K : Option MV → xS → Prop} {σ : xS} {v0 v1 v2 mn n m : Int} (e2 : σ 123 2 = 0) (a0 : σ 137 0 = v0) (a1 : σ 137 1 = v1) (e11 : σ 123 11 = mn) (e6 : σ 124 6 = n) (n0 : 0 ≤ n) (n1 : n < 8) (k : K none (up (up (up (up σ 125 n mn) 126 n v0) 127 n v1) 124 6 (n + 1))) : Mt g y_Re_keepLine [vR 123, vI 3, vI m] σ K := by
  refine x_enter 0 rfl rfl rfl (fun Z => ?_)
  show Wx g y_Re_keepLine Z K 0 [vR 123, vI 3, vI m] [] σ
  refine x_aload_n (dat d_Re_keepLine 0 rfl) rfl rfl ?_
  refine x_geti (ji := 2) (v := 0) (dat d_Re_keepLine 1 rfl) rfl f_Re_53 (oi_mk (by decide +kernel)) (e2) ?_
  refine x_if_eq (tgt := 8) (dat d_Re_keepLine 2 rfl) (by decide) (fun c_4 => ?_) (fun h => absurd h (by decide))
  refine x_iload_n (dat d_Re_keepLine 4 rfl) rfl rfl ?_
  refine x_tableIn (tgt := 130) (dat d_Re_keepLine 5 rfl).1 3 rfl (by decide) (by decide) ?_
  refine x_aload_n (dat d_Re_keepLine 44 rfl) rfl rfl ?_
  refine x_getr (r := 124) (dat d_Re_keepLine 45 rfl) rfl f_Re_12 (or_mk (by decide +kernel)) ?_
  refine x_aload_n (dat d_Re_keepLine 46 rfl) rfl rfl ?_
  refine x_geti (ji := 11) (v := mn) (dat d_Re_keepLine 47 rfl) rfl f_Re_127 (oi_mk (by decide +kernel)) (e11) ?_
  refine x_aload_n (dat d_Re_keepLine 48 rfl) rfl rfl ?_
  refine x_getr (r := 137) (dat d_Re_keepLine 49 rfl) rfl f_Re_25 (or_mk (by decide +kernel)) ?_
  refine x_iconst (dat d_Re_keepLine 50 rfl) (by decide) ?_
  refine x_iald (n := 13) (v := v0) (dat d_Re_keepLine 51 rfl) (ai_mk (by decide +kernel)) (by omega) (by omega) (a0) ?_
  refine x_aload_n (dat d_Re_keepLine 52 rfl) rfl rfl ?_
  refine x_getr (r := 137) (dat d_Re_keepLine 53 rfl) rfl f_Re_25 (or_mk (by decide +kernel)) ?_
  refine x_iconst (dat d_Re_keepLine 54 rfl) (by decide) ?_
  refine x_iald (n := 13) (v := v1) (dat d_Re_keepLine 55 rfl) (ai_mk (by decide +kernel)) (by omega) (by omega) (a1) ?_
  refine x_inv (As := [vI mn, vI v0, vI v1]) (dat d_Re_keepLine 56 rfl) rfl c_Tw_addPerson l_Re_201 (by decide) (rv_tw (by decide +kernel)) rfl rfl (Nat.le_of_ble_eq_true rfl) ?_
  refine sp_Tw_addPerson e6 n0 n1 ?_
  show Wx g y_Re_keepLine Z K 153 [vR 123, vI 3, vI m] [] (up (up (up (up σ 125 n mn) 126 n v0) 127 n v1) 124 6 (n + 1))
  refine x_goto (tgt := 243) (dat d_Re_keepLine 57 rfl) (by decide) ?_
  refine x_ret (dat d_Re_keepLine 105 rfl) rfl ?_
  exact k
theorem sp_Re_keep_5 {g : xG} {K : Option MV → xS → Prop} {σ : xS} {v0 v1 v2 mn n m : Int} (e2 : σ 123 2 = 0) (a0 : σ 137 0 = v0) (a1 : σ 137 1 = v1) (w0 : 0 ≤ v0) (w1 : v0 < 8) (k : K none (up σ 128 v0 v1)) : Mt g y_Re_keepLine [vR 123, vI 5, vI m] σ K := by
  refine x_enter 0 rfl rfl rfl (fun Z => ?_)
  show Wx g y_Re_keepLine Z K 0 [vR 123, vI 5, vI m] [] σ
  refine x_aload_n (dat d_Re_keepLine 0 rfl) rfl rfl ?_
  refine x_geti (ji := 2) (v := 0) (dat d_Re_keepLine 1 rfl) rfl f_Re_53 (oi_mk (by decide +kernel)) (e2) ?_
  refine x_if_eq (tgt := 8) (dat d_Re_keepLine 2 rfl) (by decide) (fun c_4 => ?_) (fun h => absurd h (by decide))
  refine x_iload_n (dat d_Re_keepLine 4 rfl) rfl rfl ?_
  refine x_tableIn (tgt := 171) (dat d_Re_keepLine 5 rfl).1 5 rfl (by decide) (by decide) ?_
  refine x_aload_n (dat d_Re_keepLine 65 rfl) rfl rfl ?_
  refine x_getr (r := 124) (dat d_Re_keepLine 66 rfl) rfl f_Re_12 (or_mk (by decide +kernel)) ?_
  refine x_aload_n (dat d_Re_keepLine 67 rfl) rfl rfl ?_
  refine x_getr (r := 137) (dat d_Re_keepLine 68 rfl) rfl f_Re_25 (or_mk (by decide +kernel)) ?_
  refine x_iconst (dat d_Re_keepLine 69 rfl) (by decide) ?_
  refine x_iald (n := 13) (v := v0) (dat d_Re_keepLine 70 rfl) (ai_mk (by decide +kernel)) (by omega) (by omega) (a0) ?_
  refine x_aload_n (dat d_Re_keepLine 71 rfl) rfl rfl ?_
  refine x_getr (r := 137) (dat d_Re_keepLine 72 rfl) rfl f_Re_25 (or_mk (by decide +kernel)) ?_
  refine x_iconst (dat d_Re_keepLine 73 rfl) (by decide) ?_
  refine x_iald (n := 13) (v := v1) (dat d_Re_keepLine 74 rfl) (ai_mk (by decide +kernel)) (by omega) (by omega) (a1) ?_
  refine x_inv (As := [vI v0, vI v1]) (dat d_Re_keepLine 75 rfl) rfl c_Tw_setExtra l_Re_209 (by decide) (rv_tw (by decide +kernel)) rfl rfl (Nat.le_of_ble_eq_true rfl) ?_
  refine sp_Tw_setExtra w0 w1 ?_
  show Wx g y_Re_keepLine Z K 190 [vR 123, vI 5, vI m] [] (up σ 128 v0 v1)
  refine x_goto (tgt := 243) (dat d_Re_keepLine 76 rfl) (by decide) ?_
  refine x_ret (dat d_Re_keepLine 105 rfl) rfl ?_
  exact k
theorem sp_Re_keep_6 {g : xG} {K : Option MV → xS → Prop} {σ : xS} {v0 v1 v2 mn n m : Int} (e2 : σ 123 2 = 0) (a0 : σ 137 0 = v0) (a1 : σ 137 1 = v1) (e7 : σ 124 7 = n) (n0 : 0 ≤ n) (n1 : n < 6) (k : K none (up (up (up σ 131 n v0) 132 n v1) 124 7 (n + 1))) : Mt g y_Re_keepLine [vR 123, vI 6, vI m] σ K := by
  refine x_enter 0 rfl rfl rfl (fun Z => ?_)
  show Wx g y_Re_keepLine Z K 0 [vR 123, vI 6, vI m] [] σ
  refine x_aload_n (dat d_Re_keepLine 0 rfl) rfl rfl ?_
  refine x_geti (ji := 2) (v := 0) (dat d_Re_keepLine 1 rfl) rfl f_Re_53 (oi_mk (by decide +kernel)) (e2) ?_
  refine x_if_eq (tgt := 8) (dat d_Re_keepLine 2 rfl) (by decide) (fun c_4 => ?_) (fun h => absurd h (by decide))
  refine x_iload_n (dat d_Re_keepLine 4 rfl) rfl rfl ?_
  refine x_tableIn (tgt := 193) (dat d_Re_keepLine 5 rfl).1 6 rfl (by decide) (by decide) ?_
  refine x_aload_n (dat d_Re_keepLine 77 rfl) rfl rfl ?_
  refine x_getr (r := 124) (dat d_Re_keepLine 78 rfl) rfl f_Re_12 (or_mk (by decide +kernel)) ?_
  refine x_aload_n (dat d_Re_keepLine 79 rfl) rfl rfl ?_
  refine x_getr (r := 137) (dat d_Re_keepLine 80 rfl) rfl f_Re_25 (or_mk (by decide +kernel)) ?_
  refine x_iconst (dat d_Re_keepLine 81 rfl) (by decide) ?_
  refine x_iald (n := 13) (v := v0) (dat d_Re_keepLine 82 rfl) (ai_mk (by decide +kernel)) (by omega) (by omega) (a0) ?_
  refine x_aload_n (dat d_Re_keepLine 83 rfl) rfl rfl ?_
  refine x_getr (r := 137) (dat d_Re_keepLine 84 rfl) rfl f_Re_25 (or_mk (by decide +kernel)) ?_
  refine x_iconst (dat d_Re_keepLine 85 rfl) (by decide) ?_
  refine x_iald (n := 13) (v := v1) (dat d_Re_keepLine 86 rfl) (ai_mk (by decide +kernel)) (by omega) (by omega) (a1) ?_
  refine x_inv (As := [vI v0, vI v1]) (dat d_Re_keepLine 87 rfl) rfl c_Tw_addQuarrel l_Re_212 (by decide) (rv_tw (by decide +kernel)) rfl rfl (Nat.le_of_ble_eq_true rfl) ?_
  refine sp_Tw_addQuarrel e7 n0 n1 ?_
  show Wx g y_Re_keepLine Z K 212 [vR 123, vI 6, vI m] [] (up (up (up σ 131 n v0) 132 n v1) 124 7 (n + 1))
  refine x_goto (tgt := 243) (dat d_Re_keepLine 88 rfl) (by decide) ?_
  refine x_ret (dat d_Re_keepLine 105 rfl) rfl ?_
  exact k
theorem sp_Re_keep_7 {g : xG} {K : Option MV → xS → Prop} {σ : xS} {v0 v1 v2 mn n m : Int} (e2 : σ 123 2 = 0) (a0 : σ 137 0 = v0) (a1 : σ 137 1 = v1) (a2 : σ 137 2 = v2) (e0 : σ 133 0 = n) (n0 : 0 ≤ n) (n1 : n < 8) (k : K none (up (up (up (up σ 134 n v0) 135 n v1) 136 n v2) 133 0 (n + 1))) : Mt g y_Re_keepLine [vR 123, vI 7, vI m] σ K := by
  refine x_enter 0 rfl rfl rfl (fun Z => ?_)
  show Wx g y_Re_keepLine Z K 0 [vR 123, vI 7, vI m] [] σ
  refine x_aload_n (dat d_Re_keepLine 0 rfl) rfl rfl ?_
  refine x_geti (ji := 2) (v := 0) (dat d_Re_keepLine 1 rfl) rfl f_Re_53 (oi_mk (by decide +kernel)) (e2) ?_
  refine x_if_eq (tgt := 8) (dat d_Re_keepLine 2 rfl) (by decide) (fun c_4 => ?_) (fun h => absurd h (by decide))
  refine x_iload_n (dat d_Re_keepLine 4 rfl) rfl rfl ?_
  refine x_tableIn (tgt := 215) (dat d_Re_keepLine 5 rfl).1 7 rfl (by decide) (by decide) ?_
  refine x_aload_n (dat d_Re_keepLine 89 rfl) rfl rfl ?_
  refine x_getr (r := 133) (dat d_Re_keepLine 90 rfl) rfl f_Re_21 (or_mk (by decide +kernel)) ?_
  refine x_aload_n (dat d_Re_keepLine 91 rfl) rfl rfl ?_
  refine x_getr (r := 137) (dat d_Re_keepLine 92 rfl) rfl f_Re_25 (or_mk (by decide +kernel)) ?_
  refine x_iconst (dat d_Re_keepLine 93 rfl) (by decide) ?_
  refine x_iald (n := 13) (v := v0) (dat d_Re_keepLine 94 rfl) (ai_mk (by decide +kernel)) (by omega) (by omega) (a0) ?_
  refine x_aload_n (dat d_Re_keepLine 95 rfl) rfl rfl ?_
  refine x_getr (r := 137) (dat d_Re_keepLine 96 rfl) rfl f_Re_25 (or_mk (by decide +kernel)) ?_
  refine x_iconst (dat d_Re_keepLine 97 rfl) (by decide) ?_
  refine x_iald (n := 13) (v := v1) (dat d_Re_keepLine 98 rfl) (ai_mk (by decide +kernel)) (by omega) (by omega) (a1) ?_
  refine x_aload_n (dat d_Re_keepLine 99 rfl) rfl rfl ?_
  refine x_getr (r := 137) (dat d_Re_keepLine 100 rfl) rfl f_Re_25 (or_mk (by decide +kernel)) ?_
  refine x_iconst (dat d_Re_keepLine 101 rfl) (by decide) ?_
  refine x_iald (n := 13) (v := v2) (dat d_Re_keepLine 102 rfl) (ai_mk (by decide +kernel)) (by omega) (by omega) (a2) ?_
  refine x_inv (As := [vI v0, vI v1, vI v2]) (dat d_Re_keepLine 103 rfl) rfl c_Bk_addNote l_Re_215 (by decide) (rv_bk (by decide +kernel)) rfl rfl (Nat.le_of_ble_eq_true rfl) ?_
  refine sp_Bk_addNote e0 n0 n1 ?_
  show Wx g y_Re_keepLine Z K 240 [vR 123, vI 7, vI m] [] (up (up (up (up σ 134 n v0) 135 n v1) 136 n v2) 133 0 (n + 1))
  refine x_goto (tgt := 243) (dat d_Re_keepLine 104 rfl) (by decide) ?_
  refine x_ret (dat d_Re_keepLine 105 rfl) rfl ?_
  exact k
theorem sp_Re_keep_4 {g : xG} {K : Option MV → xS → Prop} {σ : xS} {w : Int} {m : Nat} (e2 : σ 123 2 = 0) (e0 : σ 137 0 = w) (w0 : 0 ≤ w) (w1 : w < 8) (m0 : 1 ≤ m) (m1 : m ≤ 13) (k : ∀ σ' : xS, σ' 129 w = (m : Int) - 1 → (∀ p : Int, p ≠ w → σ' 129 p = σ 129 p) → (∀ j : Int, 0 ≤ j → j < (m : Int) - 1 → σ' 130 (12 * w + j) = σ 137 (j + 1)) → (∀ j : Int, (j < 12 * w ∨ 12 * w + 12 ≤ j) → σ' 130 j = σ 130 j) → (∀ o : Nat, o ≠ 129 → o ≠ 130 → σ' o = σ o) → K none σ') : Mt g y_Re_keepLine [vR 123, vI 4, vI (m : Int)] σ K := by
  refine x_enter 0 rfl rfl rfl (fun Z => ?_)
  show Wx g y_Re_keepLine Z K 0 [vR 123, vI 4, vI (m : Int)] [] σ
  refine x_aload_n (dat d_Re_keepLine 0 rfl) rfl rfl ?_
  refine x_geti (ji := 2) (v := 0) (dat d_Re_keepLine 1 rfl) rfl f_Re_53 (oi_mk (by decide +kernel)) (e2) ?_
  refine x_if_eq (tgt := 8) (dat d_Re_keepLine 2 rfl) (by decide) (fun c_4 => ?_) (fun h => absurd h (by decide))
  refine x_iload_n (dat d_Re_keepLine 4 rfl) rfl rfl ?_
  refine x_tableIn (tgt := 156) (dat d_Re_keepLine 5 rfl).1 4 rfl (by decide) (by decide) ?_
  refine x_aload_n (dat d_Re_keepLine 58 rfl) rfl rfl ?_
  refine x_getr (r := 124) (dat d_Re_keepLine 59 rfl) rfl f_Re_12 (or_mk (by decide +kernel)) ?_
  refine x_aload_n (dat d_Re_keepLine 60 rfl) rfl rfl ?_
  refine x_getr (r := 137) (dat d_Re_keepLine 61 rfl) rfl f_Re_25 (or_mk (by decide +kernel)) ?_
  refine x_iload_n (dat d_Re_keepLine 62 rfl) rfl rfl ?_
  refine x_inv (As := [vR 137, vI (m : Int)]) (dat d_Re_keepLine 63 rfl) rfl c_Tw_setErrand l_Re_205 (by decide) (rv_tw (by decide +kernel)) rfl rfl (Nat.le_of_ble_eq_true rfl) ?_
  refine sp_Tw_setErrand e0 w0 w1 m0 m1 (fun σ2 g1 g2 g3 g4 g5 => ?_)
  show Wx g y_Re_keepLine Z K 168 [vR 123, vI 4, vI (m : Int)] [] σ2
  refine x_goto (tgt := 243) (dat d_Re_keepLine 64 rfl) (by decide) ?_
  refine x_ret (dat d_Re_keepLine 105 rfl) rfl ?_
  exact k σ2 g1 g2 g3 g4 g5
theorem sp_Re_keepLine {g : xG} {K : Option MV → xS → Prop} {σ : xS} {l s f mn gp gc : Int} {m : Nat} {v : Nat → Int} {r : Int → Int} (hl : (s = 0 ∧ 0 ≤ l ∧ l ≤ 6) ∨ (s = 1 ∧ l = 7)) (e2 : σ 123 2 = f) (e11 : s = 0 → σ 123 11 = mn)
    (H : f = 0 → (1 ≤ m ∧ m ≤ 13) ∧ (∀ i : Nat, i < m → σ 137 i = v i) ∧ (l ≠ 1 → 2 ≤ m) ∧ (l = 7 → 3 ≤ m) ∧ RwR σ s r ∧ RwOk s r gp gc ∧ fulL l r = false ∧ (l = 4 ∨ l = 5 → 0 ≤ v 0 ∧ v 0 ≤ 7))
    (k0 : f = 0 → ∀ σ' : xS, RwR σ' s (rowL l mn v m r) → (∀ o : Nat, (o < 124 ∨ 136 < o) → σ' o = σ o) → K none σ') (k1 : f ≠ 0 → K none σ) : Mt g y_Re_keepLine [vR 123, vI l, vI (m : Int)] σ K := by
  by_cases hf : f = 0
  · subst hf
    obtain ⟨hm, hv, h2, h3, hR, hO, hfu, h45⟩ := H rfl
    have k := k0 rfl
    clear H k0 k1
    have a0 : σ 137 0 = v 0 := hv 0 (by omega)
    have a1 : 2 ≤ m → σ 137 1 = v 1 := fun w => hv 1 (by omega)
    have a2 : 3 ≤ m → σ 137 2 = v 2 := fun w => hv 2 (by omega)
    rcases hl with ⟨hs, l0, l6⟩ | ⟨hs, l7⟩
    · subst hs
      have hR2 := hR.1 rfl
      have hO2 := hO.1 rfl
      have e11' := e11 rfl
      have hb := hO2.1
      have hst : ∀ p : Int, 0 ≤ p → p < 8 → r (24 + 17 * p) ≤ 12 := fun p p0 p1 => (hO2.2.2.1 p p0 p1).2.1.2
      clear hR hO e11
      have hc : (((((l = 0 ∨ l = 1) ∨ l = 2) ∨ l = 3) ∨ l = 4) ∨ l = 5) ∨ l = 6 := by clear h2 h3 h45 a1 a2; omega
      rcases hc with (((((e | e) | e) | e) | e) | e) | e
      · subst e
        exact sp_Re_keep_0 (n := 0) (v2 := 0) (mn := 0) e2 a0 (a1 (h2 (by decide))) (k _ ⟨fun _ => (hR2.st (i := 0) (v := v 0) (by decide)).st (i := 1) (v := v 1) (by decide), fun w => absurd w (by decide)⟩ (fun o ho => by rw [up_ne (by omega), up_ne (by omega)]))
      · subst e
        exact sp_Re_keep_1 (n := 0) (v1 := 0) (v2 := 0) (mn := 0) e2 a0 (k _ ⟨fun _ => hR2.st (i := 3) (v := v 0) (by decide), fun w => absurd w (by decide)⟩ (fun o ho => by rw [up_ne (by omega)]))
      · subst e
        exact sp_Re_keep_2 (n := 0) (v2 := 0) (mn := 0) e2 a0 (a1 (h2 (by decide))) (k _ ⟨fun _ => (hR2.st (i := 4) (v := v 0) (by decide)).st (i := 5) (v := v 1) (by decide), fun w => absurd w (by decide)⟩ (fun o ho => by rw [up_ne (by omega), up_ne (by omega)]))
      · subst e
        have fu : r 6 < 8 := by
          by_cases z : 8 ≤ r 6
          · unfold fulL at hfu
            rw [decide_eq_true z] at hfu
            exact absurd hfu (by simp)
          · omega
        exact sp_Re_keep_3 (v2 := 0) e2 a0 (a1 (h2 (by decide))) e11' (hR2.1 6 (by decide) (by decide)) hb.2.2.2.2.2.2.1.1 fu (k _ ⟨fun _ => hR2.one hb.2.2.2.2.2.2.1.1 fu hb.2.2.2.2.2.2.2.2 hst, fun w => absurd w (by decide)⟩ (fun o ho => by rw [up_ne (by omega), up_ne (by omega), up_ne (by omega), up_ne (by omega)]))
      · subst e
        have hw := h45 (Or.inl rfl)
        refine sp_Re_keep_4 e2 a0 hw.1 (by omega) hm.1 hm.2 (fun σ2 g1 g2 g3 g4 g5 => ?_)
        refine k _ ⟨fun _ => ?_, fun w => absurd w (by decide)⟩ (fun o ho => g5 o (by omega) (by omega))
        have e := hR2.err (σ' := σ2) (w := v 0) (m := (m : Int) - 1) (v := fun j => v (j + 1).toNat) hw (by omega) hb.2.2.2.2.2.2.1.2 hb.2.2.2.2.2.2.2.2 hst g1 g2 (fun j j0 j1 => by
          rw [g3 j j0 j1]
          have := hv (j + 1).toNat (by omega)
          rw [Int.toNat_of_nonneg (by omega)] at this
          exact this) g4 g5
        have e2' : rowL 4 mn v m r = (fun x => if x = 24 + 17 * v 0 then (m : Int) - 1 else if 25 + 17 * v 0 ≤ x ∧ x < 25 + 17 * v 0 + ((m : Int) - 1) then (fun j : Int => v (j + 1).toNat) (x - (25 + 17 * v 0)) else r x) := by
          funext x
          show (if x = 24 + 17 * v 0 then (m : Int) - 1 else if 25 + 17 * v 0 ≤ x ∧ x < 25 + 17 * v 0 + ((m : Int) - 1) then v (x - (24 + 17 * v 0)).toNat else r x) = (if x = 24 + 17 * v 0 then (m : Int) - 1 else if 25 + 17 * v 0 ≤ x ∧ x < 25 + 17 * v 0 + ((m : Int) - 1) then v (x - (25 + 17 * v 0) + 1).toNat else r x)
          rw [show x - (24 + 17 * v 0) = x - (25 + 17 * v 0) + 1 by omega]
        rw [e2']
        exact e
      · subst e
        have hw := h45 (Or.inr rfl)
        exact sp_Re_keep_5 (n := 0) (v2 := 0) (mn := 0) e2 a0 (a1 (h2 (by decide))) hw.1 (by omega) (k _ ⟨fun _ => hR2.ext (w := v 0) (v := v 1) hw hb.2.2.2.2.2.2.1.2 hb.2.2.2.2.2.2.2.2 hst, fun w => absurd w (by decide)⟩ (fun o ho => by rw [up_ne (by omega)]))
      · subst e
        have fu : r 7 < 6 := by
          by_cases z : 6 ≤ r 7
          · unfold fulL at hfu
            rw [decide_eq_true z] at hfu
            exact absurd hfu (by simp)
          · omega
        exact sp_Re_keep_6 (v2 := 0) (mn := 0) e2 a0 (a1 (h2 (by decide))) (hR2.1 7 (by decide) (by decide)) hb.2.2.2.2.2.2.2.1 fu (k _ ⟨fun _ => hR2.qrl hb.2.2.2.2.2.2.2.1 fu hb.2.2.2.2.2.2.1.2, fun w => absurd w (by decide)⟩ (fun o ho => by rw [up_ne (by omega), up_ne (by omega), up_ne (by omega)]))
    · subst hs
      subst l7
      have hR2 := hR.2 rfl
      have hO2 := hO.2 rfl
      have fu : r 0 < 8 := by
        by_cases z : 8 ≤ r 0
        · unfold fulL at hfu
          rw [decide_eq_true z] at hfu
          exact absurd hfu (by simp)
        · omega
      exact sp_Re_keep_7 (mn := 0) e2 a0 (a1 (h2 (by decide))) (a2 (h3 rfl)) hR2.1 hO2.1.1 fu (k _ ⟨fun w => absurd w (by decide), fun _ => hR2.add hO2.1.1⟩ (fun o ho => by rw [up_ne (by omega), up_ne (by omega), up_ne (by omega), up_ne (by omega)]))
  · refine x_enter 0 rfl rfl rfl (fun Z => ?_)
    show Wx g y_Re_keepLine Z K 0 [vR 123, vI l, vI (m : Int)] [] σ
    refine x_aload_n (dat d_Re_keepLine 0 rfl) rfl rfl ?_
    refine x_geti (ji := 2) (v := f) (dat d_Re_keepLine 1 rfl) rfl f_Re_53 (oi_mk (by decide +kernel)) (e2) ?_
    refine x_if_eq (tgt := 8) (dat d_Re_keepLine 2 rfl) (by decide) (fun c_4 => (by omega)) (fun c_4 => ?_)
    refine x_ret (dat d_Re_keepLine 3 rfl) rfl ?_
    exact k1 hf
