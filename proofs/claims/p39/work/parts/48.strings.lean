/-! the JDK's own: a string's length and chars -/
section
variable {g : xG} {y : xM} {Z : xZ} {K : Option MV → xS → Prop} {pc pc' : Nat} {L S : List MV} {σ : xS}
theorem x_nret {v : Int} {ty : FieldType} (hd : xd y.2.1 pc .ireturn 1 pc') (hr : y.2.2.2.1 = some ty) (hn : narrow ty (.int (Int32.ofInt v)) = .int (Int32.ofInt v)) (k : K (some (vI v)) σ) : Wx g y Z K pc L [vI v] σ := by
  intro F hL hS hσ H locs ls hH hs hl
  exact W.zret (v := Int32.ofInt v) F.1 F.2.1 (ty := ty) (by rw [F.2.2.2.1, hr]) hn (fun t ht hW => ⟨⟨some (vI v), σ, rfl, fun u hu => by cases hu; exact xok_hd hS, k, by rw [ht]; exact hH, hσ⟩, hs.F ht⟩) hs.2.2 hd.1 F.2.2.2.2.1
theorem x_i2c {a v : Int} (hd : xd y.2.1 pc .i2c 1 pc') (he : ((Int32.ofInt a).toUInt32 % 65536).toInt32 = Int32.ofInt v) (hv : -2147483648 ≤ v ∧ v < 2147483648) (kk : Wx g y Z K pc' L (vI v :: S) σ) : Wx g y Z K pc L (vI a :: S) σ := by
  intro F hL hS hσ H locs ls hH hs hl
  have k := kk F hL (xok_cons (xok_tl hS) hv) hσ H locs ls hH hs hl
  rw [← hd.2] at k
  exact lv_i2c F.1 F.2.1 hd.1 (v := Int32.ofInt v) he k
theorem x_getF (hd : xd y.2.1 pc (.getstatic 1053) 3 pc') (ho : y.1.cls = "java/lang/String") (kn : Wx g y Z K pc' L (vN :: S) σ) (kr : Wx g y Z K pc' L (vR 399 :: S) σ) : Wx g y Z K pc L S σ := by
  intro F hL hS hσ H locs ls hH hs hl
  have k0 := kn F hL (xok_cons hS trivial) hσ H locs ls hH hs hl
  have k1 := kr F hL (xok_cons hS trivial) hσ H locs ls hH hs hl
  rw [← hd.2] at k0 k1
  rcases F.2.2.2.2.2.2.2.2.2.1.2.1.2.1 with hF | hF
  · exact va_gets F.1 F.2.1 (own := "java/lang/String") hF hs (by rw [← ho]; exact F.2.2.2.2.2.1) (F.2.2.2.2.2.2.1 _ (List.mem_cons_of_mem _ (gw_3 (i := 80) rfl rfl))) (fun _ h => h) hd.1 k0
  · exact va_gets F.1 F.2.1 (own := "java/lang/String") hF hs (by rw [← ho]; exact F.2.2.2.2.2.1) (F.2.2.2.2.2.2.1 _ (List.mem_cons_of_mem _ (gw_3 (i := 80) rfl rfl))) (fun _ h => h) hd.1 k1
end
abbrev y_Pc_checkIndex : xM := (⟨"jdk/internal/util/Preconditions", "checkIndex", "(IILjava/util/function/BiFunction;)I"⟩, prog_20_method_11_code, 3, (Option.some Jvm.ClassFile.FieldType.int), 0)
abbrev D_Pc_checkIndex : List (Nat × Instr × Nat × Nat) := [(0, .iload_n 0, 1, 1), (1, .ifCond .lt 8, 3, 4), (4, .iload_n 0, 1, 5), (5, .iload_n 1, 1, 6), (6, .if_icmp .lt 10, 3, 9), (16, .iload_n 0, 1, 17), (17, .ireturn, 1, 18)]
theorem d_Pc_checkIndex : D_Pc_checkIndex.all (dchk prog_20_method_11_code) = true := by decide +kernel
theorem c_Pc_checkIndex : CS y_Pc_checkIndex 3 := ⟨⟨(gw_1 (i := 14) rfl rfl), (gw_3 (i := 84) rfl rfl), by decide, by decide, by decide, by decide +kernel⟩, (gw_3 (i := 83) rfl rfl)⟩
theorem l_St_1059 : Cond.methodLink "java/lang/String" 1059 y_Pc_checkIndex.1 ∈ gw := (gw_3 (i := 82) rfl rfl)
theorem sp_Pc_checkIndex {g : xG} {K : Option MV → xS → Prop} {σ : xS} {a b : Int} {x : MV} (hx : isL x = false ∧ isU x = false) (h0 : 0 ≤ a) (h1 : a < b) (k : K (some (vI a)) σ) : Mt g y_Pc_checkIndex [vI a, vI b, x] σ K := by
  refine x_enter 0 rfl (by simp only [List.all_cons, List.all_nil, hx.1, hx.2]; rfl) rfl (fun Z => ?_)
  show Wx g y_Pc_checkIndex Z K 0 [vI a, vI b, x] [] σ
  refine x_iload_n (dat d_Pc_checkIndex 0 rfl) rfl rfl ?_
  refine x_if_lt (tgt := 9) (dat d_Pc_checkIndex 1 rfl) (by decide) (fun c_1 => (by omega)) (fun c_1 => ?_)
  refine x_iload_n (dat d_Pc_checkIndex 2 rfl) rfl rfl ?_
  refine x_iload_n (dat d_Pc_checkIndex 3 rfl) rfl rfl ?_
  refine x_icmp_lt (tgt := 16) (dat d_Pc_checkIndex 4 rfl) (by decide) (fun c_6 => ?_) (fun c_6 => (by omega))
  refine x_iload_n (dat d_Pc_checkIndex 5 rfl) rfl rfl ?_
  exact x_iret (dat d_Pc_checkIndex 6 rfl) rfl k
theorem sp_St_checkIndex {g : xG} {K : Option MV → xS → Prop} {σ : xS} {a b : Int} (h0 : 0 ≤ a) (h1 : a < b) (k : K none σ) : Mt g y_St_checkIndex [vI a, vI b] σ K := by
  refine x_enter 0 rfl rfl rfl (fun Z => ?_)
  show Wx g y_St_checkIndex Z K 0 [vI a, vI b] [] σ
  refine x_iload_n (dat d_St_checkIndex 0 rfl) rfl rfl ?_
  refine x_iload_n (dat d_St_checkIndex 1 rfl) rfl rfl ?_
  refine x_getF (dat d_St_checkIndex 2 rfl) rfl ?_ ?_
  · first
    | (refine x_invs (As := [vI a, vI b, vN]) (dat d_St_checkIndex 3 rfl) rfl c_Pc_checkIndex l_St_1059 (by decide) rfl rfl (Nat.le_of_ble_eq_true rfl) ?_
       refine sp_Pc_checkIndex ⟨rfl, rfl⟩ h0 h1 ?_)
    | (refine x_invs (As := [vI a, vI b, vR 399]) (dat d_St_checkIndex 3 rfl) rfl c_Pc_checkIndex l_St_1059 (by decide) rfl rfl (Nat.le_of_ble_eq_true rfl) ?_
       refine sp_Pc_checkIndex ⟨rfl, rfl⟩ h0 h1 ?_)
    show Wx g y_St_checkIndex Z K 8 [vI a, vI b] [vI a] σ
    refine x_pop (dat d_St_checkIndex 4 rfl) rfl ?_
    exact x_ret (dat d_St_checkIndex 5 rfl) rfl k
  · first
    | (refine x_invs (As := [vI a, vI b, vN]) (dat d_St_checkIndex 3 rfl) rfl c_Pc_checkIndex l_St_1059 (by decide) rfl rfl (Nat.le_of_ble_eq_true rfl) ?_
       refine sp_Pc_checkIndex ⟨rfl, rfl⟩ h0 h1 ?_)
    | (refine x_invs (As := [vI a, vI b, vR 399]) (dat d_St_checkIndex 3 rfl) rfl c_Pc_checkIndex l_St_1059 (by decide) rfl rfl (Nat.le_of_ble_eq_true rfl) ?_
       refine sp_Pc_checkIndex ⟨rfl, rfl⟩ h0 h1 ?_)
    show Wx g y_St_checkIndex Z K 8 [vI a, vI b] [vI a] σ
    refine x_pop (dat d_St_checkIndex 4 rfl) rfl ?_
    exact x_ret (dat d_St_checkIndex 5 rfl) rfl k
theorem srl_100 : ∀ {q : Nat}, q < 16 → srL.getD q 0 ≤ 100 := fun {q} h => (by decide +kernel : ∀ q, q < 16 → srL.getD q 0 ≤ 100) q h
theorem sr_pl : ∀ q : Nat, q < 16 → ∀ j : Nat, j < srL.getD q 0 → 97 ≤ srI q j ∧ srI q j ≤ 122 := by decide +kernel
theorem sr_in {q : Nat} {j : Int} (hq : q < 16) (h0 : 0 ≤ j) (h1 : j < (srL.getD q 0 : Nat)) : 97 ≤ srI q j ∧ srI q j ≤ 122 := by
  have := sr_pl q hq j.toNat (by omega)
  rwa [Int.toNat_of_nonneg h0] at this
theorem ch_pl : ∀ c : Nat, c < 128 → iand (c : Int) 255 = c ∧ ((Int32.ofInt (c : Int)).toUInt32 % 65536).toInt32 = Int32.ofInt (c : Int) ∧ narrow .char (.int (Int32.ofInt (c : Int))) = .int (Int32.ofInt (c : Int)) := by decide +kernel
theorem ch_in {c : Int} (h0 : 0 ≤ c) (h1 : c < 128) : iand c 255 = c ∧ ((Int32.ofInt c).toUInt32 % 65536).toInt32 = Int32.ofInt c ∧ narrow .char (.int (Int32.ofInt c)) = .int (Int32.ofInt c) := by
  have := ch_pl c.toNat (by omega)
  rwa [Int.toNat_of_nonneg h0] at this
theorem sp_La_charAt {g : xG} {K : Option MV → xS → Prop} {σ : xS} {q : Nat} {j : Int} (hq : q < 16) (h0 : 0 ≤ j) (h1 : j < (srL.getD q 0 : Nat)) (k : K (some (vI (srI q j))) σ) : Mt g y_La_charAt [vR (340 + q), vI j] σ K := by
  have hc := sr_in hq h0 h1
  have hx := ch_in (c := srI q j) (by omega) (by omega)
  refine x_enter 0 rfl rfl rfl (fun Z => ?_)
  show Wx g y_La_charAt Z K 0 [vR (340 + q), vI j] [] σ
  refine x_iload_n (dat d_La_charAt 0 rfl) rfl rfl ?_
  refine x_aload_n (dat d_La_charAt 1 rfl) rfl rfl ?_
  refine x_sblen (i := q) (n := srL.getD q 0) (dat d_La_charAt 2 rfl) (by omega) rfl (srl_100 (by omega)) ?_
  refine x_invs (As := [vI j, vI ((srL.getD q 0 : Nat) : Int)]) (dat d_La_charAt 3 rfl) rfl c_St_checkIndex l_La_9 (by decide) rfl rfl (Nat.le_of_ble_eq_true rfl) ?_
  refine sp_St_checkIndex h0 h1 ?_
  show Wx g y_La_charAt Z K 6 [vR (340 + q), vI j] [] σ
  refine x_aload_n (dat d_La_charAt 4 rfl) rfl rfl ?_
  refine x_iload_n (dat d_La_charAt 5 rfl) rfl rfl ?_
  refine x_sbld (i := q) (v := srI q j) (dat d_La_charAt 6 rfl) (by omega) (by omega) (by omega) rfl ?_
  refine x_sipush (dat d_La_charAt 7 rfl) (by decide) (by decide) ?_
  refine x_iand (v := srI q j) (dat d_La_charAt 8 rfl) (by exact hx.1) ?_
  refine x_i2c (v := srI q j) (dat d_La_charAt 9 rfl) (by exact hx.2.1) (by omega) ?_
  refine x_nret (dat d_La_charAt 10 rfl) rfl (by exact hx.2.2) ?_
  exact k
theorem sp_St_coder {g : xG} {K : Option MV → xS → Prop} {σ : xS} {q : Nat} (hq : q < 16) (k : K (some (vI 0)) σ) : Mt g y_St_coder [vR (310 + q)] σ K := by
  refine x_enter 0 rfl rfl rfl (fun Z => ?_)
  show Wx g y_St_coder Z K 0 [vR (310 + q)] [] σ
  refine x_getC (own := "java/lang/String") (dat d_St_coder 0 rfl) rfl (gw_3 (i := 64) rfl rfl) ?_
  refine x_if_eq (tgt := 13) (dat d_St_coder 1 rfl) (by decide) (fun h => absurd h (by decide)) (fun c_3 => ?_)
  refine x_aload_n (dat d_St_coder 2 rfl) rfl rfl ?_
  refine x_getSc (own := "java/lang/String") (i := q) (dat d_St_coder 3 rfl) rfl (by omega) (gw_5 (i := 190) rfl rfl) ?_
  refine x_goto (tgt := 14) (dat d_St_coder 4 rfl) (by decide) ?_
  refine x_nret (dat d_St_coder 6 rfl) rfl rfl ?_
  exact k
theorem sp_St_isLatin1 {g : xG} {K : Option MV → xS → Prop} {σ : xS} {q : Nat} (hq : q < 16) (k : K (some (vI 1)) σ) : Mt g y_St_isLatin1 [vR (310 + q)] σ K := by
  refine x_enter 0 rfl rfl rfl (fun Z => ?_)
  show Wx g y_St_isLatin1 Z K 0 [vR (310 + q)] [] σ
  refine x_getC (own := "java/lang/String") (dat d_St_isLatin1 0 rfl) rfl (gw_3 (i := 64) rfl rfl) ?_
  refine x_if_eq (tgt := 17) (dat d_St_isLatin1 1 rfl) (by decide) (fun h => absurd h (by decide)) (fun c_3 => ?_)
  refine x_aload_n (dat d_St_isLatin1 2 rfl) rfl rfl ?_
  refine x_getSc (own := "java/lang/String") (i := q) (dat d_St_isLatin1 3 rfl) rfl (by omega) (gw_5 (i := 190) rfl rfl) ?_
  refine x_if_ne (tgt := 17) (dat d_St_isLatin1 4 rfl) (by decide) (fun h => absurd h (by decide)) (fun c_10 => ?_)
  refine x_iconst (dat d_St_isLatin1 5 rfl) (by decide) ?_
  refine x_goto (tgt := 18) (dat d_St_isLatin1 6 rfl) (by decide) ?_
  refine x_zret (dat d_St_isLatin1 8 rfl) rfl (by decide) ?_
  exact k
theorem ishr_z {n : Int} (h0 : -2147483648 ≤ n) (h1 : n < 2147483648) : ishr n 0 = n := by
  unfold ishr
  rw [show (Int32.ofInt 0 &&& 31 : Int32) = 0 by decide, show Int32.ofInt n >>> (0 : Int32) = Int32.ofInt n by simp [← Int32.toBitVec_inj], i32 h0 h1]
theorem sp_St_length {g : xG} {K : Option MV → xS → Prop} {σ : xS} {q : Nat} (hq : q < 16) (k : K (some (vI ((srL.getD q 0 : Nat) : Int))) σ) : Mt g y_St_length [vR (310 + q)] σ K := by
  have := srl_100 hq
  refine x_enter 0 rfl rfl rfl (fun Z => ?_)
  show Wx g y_St_length Z K 0 [vR (310 + q)] [] σ
  refine x_aload_n (dat d_St_length 0 rfl) rfl rfl ?_
  refine x_getSv (own := "java/lang/String") (i := q) (dat d_St_length 1 rfl) rfl (by omega) (gw_5 (i := 189) rfl rfl) ?_
  refine x_sblen (i := q) (n := srL.getD q 0) (dat d_St_length 2 rfl) (by omega) rfl (srl_100 (by omega)) ?_
  refine x_aload_n (dat d_St_length 3 rfl) rfl rfl ?_
  refine x_inv (As := []) (dat d_St_length 4 rfl) rfl c_St_coder l_St_335 (by decide) (rv_str (by omega)) rfl rfl (Nat.le_of_ble_eq_true rfl) ?_
  refine sp_St_coder hq ?_
  show Wx g y_St_length Z K 9 [vR (310 + q)] [vI 0, vI ((srL.getD q 0 : Nat) : Int)] σ
  refine x_ishr (v := ((srL.getD q 0 : Nat) : Int)) (dat d_St_length 5 rfl) (by exact ishr_z (by omega) (by omega)) ?_
  refine x_iret (dat d_St_length 6 rfl) rfl ?_
  exact k
theorem sp_St_charAt {g : xG} {K : Option MV → xS → Prop} {σ : xS} {q : Nat} {j : Int} (hq : q < 16) (h0 : 0 ≤ j) (h1 : j < (srL.getD q 0 : Nat)) (k : K (some (vI (srI q j))) σ) : Mt g y_St_charAt [vR (310 + q), vI j] σ K := by
  have hc := sr_in hq h0 h1
  have hx := ch_in (c := srI q j) (by omega) (by omega)
  refine x_enter 0 rfl rfl rfl (fun Z => ?_)
  show Wx g y_St_charAt Z K 0 [vR (310 + q), vI j] [] σ
  refine x_aload_n (dat d_St_charAt 0 rfl) rfl rfl ?_
  refine x_inv (As := []) (dat d_St_charAt 1 rfl) rfl c_St_isLatin1 l_St_492 (by decide) (rv_str (by omega)) rfl rfl (Nat.le_of_ble_eq_true rfl) ?_
  refine sp_St_isLatin1 hq ?_
  show Wx g y_St_charAt Z K 4 [vR (310 + q), vI j] [vI 1] σ
  refine x_if_eq (tgt := 16) (dat d_St_charAt 2 rfl) (by decide) (fun h => absurd h (by decide)) (fun c_4 => ?_)
  refine x_aload_n (dat d_St_charAt 3 rfl) rfl rfl ?_
  refine x_getSv (own := "java/lang/String") (i := q) (dat d_St_charAt 4 rfl) rfl (by omega) (gw_5 (i := 189) rfl rfl) ?_
  refine x_iload_n (dat d_St_charAt 5 rfl) rfl rfl ?_
  refine x_invs (As := [vR (340 + q), vI j]) (dat d_St_charAt 6 rfl) rfl c_La_charAt l_St_495 (by decide) rfl rfl (Nat.le_of_ble_eq_true rfl) ?_
  refine sp_La_charAt hq h0 h1 ?_
  show Wx g y_St_charAt Z K 15 [vR (310 + q), vI j] [vI (srI q j)] σ
  refine x_nret (dat d_St_charAt 7 rfl) rfl (by exact hx.2.2) ?_
  exact k
