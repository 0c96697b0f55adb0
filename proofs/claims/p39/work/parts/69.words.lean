/-! words and numbers put -/
theorem wr_mod (x : Int) : (wr x - x) % 4294967296 = 0 := by
  unfold wr
  rw [Int32.toInt_ofInt, show Int32.size = 4294967296 from rfl, Int.bmod_def]
  split <;> omega
def wbN (w : Int) : Nat → List Int
  | 0 => []
  | j + 1 => (if w / 2 ^ (8 * j) = 0 then [] else [w / 2 ^ (8 * j) % 256]) ++ wbN w j
def wB (w : Int) : List Int := wbN w 8
theorem wbN_len (w : Int) : ∀ j : Nat, (wbN w j).length ≤ j
  | 0 => Nat.le_refl 0
  | j + 1 => by
    have := wbN_len w j
    simp only [wbN, List.length_append]
    split <;> simp only [List.length_nil, List.length_cons] <;> omega
theorem wB_len (w : Int) : (wB w).length ≤ 8 := wbN_len w 8
theorem sp_Lw_word {g : xG} {K : Option MV → xS → Prop} {σ : xS} {a : Int → Int} {im : Nat → Int → Int} {bs : List Int} {w : Int} (H : PtS σ a im bs) (hw : 0 ≤ w ∧ w < 9223372036854775808) (hn : bs.length + (wB w).length ≤ 600) (k : ∀ σ' : xS, PtS σ' a im (bs ++ wB w) → LwF σ' σ → K none σ') : Mt g y_Lw_word [vR 0, vR 174, vL w] σ K := by
  have lp : ∀ (Z : xZ) (j : Nat) (bs1 : List Int) (σ1 : xS), j ≤ 8 → PtS σ1 a im bs1 → LwF σ1 σ → bs1 ++ wbN w j = bs ++ wB w → Wx g y_Lw_word Z K 4 [vR 0, vR 174, vL w, vU, vI (8 * (j : Int) - 8)] [] σ1 := by
    intro Z j
    induction j with
    | zero =>
      intro bs1 σ1 hj H1 F1 e
      refine x_iload (dat d_Lw_word 2 rfl) rfl ?_
      refine x_if_lt (tgt := 38) (dat d_Lw_word 3 rfl) (by decide) (fun c_6 => ?_) (fun c_6 => (by omega))
      refine x_ret (dat d_Lw_word 21 rfl) rfl ?_
      exact k σ1 (by rw [← e]; simpa [wbN] using H1) F1
    | succ j ih =>
      intro bs1 σ1 hj H1 F1 e
      have hl : bs1.length + (wbN w (j + 1)).length ≤ 600 := by rw [← List.length_append, e, List.length_append]; exact hn
      have hp : (0 : Int) < 2 ^ (8 * j) := Int.pow_pos (by decide)
      have h0 : 0 ≤ w / 2 ^ (8 * j) := Int.ediv_nonneg hw.1 (by omega)
      rw [show 8 * ((j + 1 : Nat) : Int) - 8 = 8 * (j : Int) by omega]
      simp only [wbN] at e hl
      by_cases z : w / 2 ^ (8 * j) = 0
      · rw [if_pos z, List.nil_append] at e
        refine x_iload (dat d_Lw_word 2 rfl) rfl ?_
        refine x_if_lt (tgt := 38) (dat d_Lw_word 3 rfl) (by decide) (fun c_6 => (by omega)) (fun c_6 => ?_)
        refine x_lload_n (dat d_Lw_word 4 rfl) rfl rfl ?_
        refine x_iload (dat d_Lw_word 5 rfl) rfl ?_
        refine x_lshr (v := w / 2 ^ (8 * j)) (dat d_Lw_word 6 rfl) (by omega) (by rw [show (8 * (j : Int)).toNat = 8 * j by omega]) ?_
        refine x_lconst (v := 0) (dat d_Lw_word 7 rfl) rfl ?_
        refine x_lcmps (dat d_Lw_word 8 rfl) (fun r_14 e_14 l_14 b_14 => ?_)
        refine x_if_eq (tgt := 32) (dat d_Lw_word 9 rfl) (by decide) (fun c_15 => ?_) (fun c_15 => (by omega))
        refine x_iinc (v' := 8 * (j : Int) - 8) (L' := [vR 0, vR 174, vL w, vU, vI (8 * (j : Int) - 8)]) (dat d_Lw_word 19 rfl) rfl (by decide) rfl (by omega) (by omega) rfl ?_
        refine x_goto (tgt := 4) (dat d_Lw_word 20 rfl) (by decide) ?_
        exact ih bs1 σ1 (by omega) H1 F1 e
      · rw [if_neg z, ← List.append_assoc] at e
        rw [if_neg z] at hl
        have hx : iand (wr (w / 2 ^ (8 * j))) 255 = w / 2 ^ (8 * j) % 256 := by
          rw [ia_255]
          have := wr_mod (w / 2 ^ (8 * j))
          omega
        simp only [List.length_append, List.length_cons, List.length_nil] at hl
        refine x_iload (dat d_Lw_word 2 rfl) rfl ?_
        refine x_if_lt (tgt := 38) (dat d_Lw_word 3 rfl) (by decide) (fun c_6 => (by omega)) (fun c_6 => ?_)
        refine x_lload_n (dat d_Lw_word 4 rfl) rfl rfl ?_
        refine x_iload (dat d_Lw_word 5 rfl) rfl ?_
        refine x_lshr (v := w / 2 ^ (8 * j)) (dat d_Lw_word 6 rfl) (by omega) (by rw [show (8 * (j : Int)).toNat = 8 * j by omega]) ?_
        refine x_lconst (v := 0) (dat d_Lw_word 7 rfl) rfl ?_
        refine x_lcmps (dat d_Lw_word 8 rfl) (fun r_14 e_14 l_14 b_14 => ?_)
        refine x_if_eq (tgt := 32) (dat d_Lw_word 9 rfl) (by decide) (fun c_15 => (by omega)) (fun c_15 => ?_)
        refine x_aload_n (dat d_Lw_word 10 rfl) rfl rfl ?_
        refine x_aload_n (dat d_Lw_word 11 rfl) rfl rfl ?_
        refine x_lload_n (dat d_Lw_word 12 rfl) rfl rfl ?_
        refine x_iload (dat d_Lw_word 13 rfl) rfl ?_
        refine x_lshr (v := w / 2 ^ (8 * j)) (dat d_Lw_word 14 rfl) (by omega) (by rw [show (8 * (j : Int)).toNat = 8 * j by omega]) ?_
        refine x_l2i (v := wr (w / 2 ^ (8 * j))) (dat d_Lw_word 15 rfl) rfl ?_
        refine x_sipush (dat d_Lw_word 16 rfl) (by decide) (by decide) ?_
        refine x_iand (v := w / 2 ^ (8 * j) % 256) (dat d_Lw_word 17 rfl) (by exact hx) ?_
        refine x_invs (As := [vR 0, vR 174, vI (w / 2 ^ (8 * j) % 256)]) (dat d_Lw_word 18 rfl) rfl c_Lw_put l_Lw_13 (by decide) rfl rfl (Nat.le_of_ble_eq_true rfl) ?_
        refine sp_Lw_put H1 (by omega) (by omega) (fun σ2 H2 F2 => ?_)
        show Wx g y_Lw_word Z K 32 [vR 0, vR 174, vL w, vU, vI (8 * (j : Int))] [] σ2
        refine x_iinc (v' := 8 * (j : Int) - 8) (L' := [vR 0, vR 174, vL w, vU, vI (8 * (j : Int) - 8)]) (dat d_Lw_word 19 rfl) rfl (by decide) rfl (by omega) (by omega) rfl ?_
        refine x_goto (tgt := 4) (dat d_Lw_word 20 rfl) (by decide) ?_
        exact ih _ σ2 (by omega) H2 (F2.trans F1) e
  refine x_enterW 1 rfl rfl (fun Z => ?_)
  show Wx g y_Lw_word Z K 0 [vR 0, vR 174, vL w, vU, vU] [] σ
  refine x_bipush (dat d_Lw_word 0 rfl) (by decide) (by decide) ?_
  refine x_istore (L' := [vR 0, vR 174, vL w, vU, vI 56]) (dat d_Lw_word 1 rfl) (by decide) rfl rfl ?_
  exact lp Z 8 bs σ (by decide) H (LwF.rfl σ) rfl
def dgB (v : Int) : List Int := if v < 10 then [48 + v] else [48 + v / 10, 48 + v % 10]
def nB (v : Int) : List Int := dgB v ++ [32]
def mB (v : Int) : List Int := 32 :: nB v
theorem dgB_len (v : Int) : (dgB v).length ≤ 2 := by unfold dgB; split <;> simp
theorem nB_len (v : Int) : (nB v).length ≤ 3 := by
  have := dgB_len v
  unfold nB
  simp only [List.length_append, List.length_cons, List.length_nil]
  omega
theorem mB_len (v : Int) : (mB v).length ≤ 4 := by
  have := nB_len v
  unfold mB
  simp only [List.length_cons]
  omega
theorem sp_Lw_number {g : xG} {K : Option MV → xS → Prop} {σ : xS} {a : Int → Int} {im : Nat → Int → Int} {bs : List Int} {v : Int} (H : PtS σ a im bs) (hv : 0 ≤ v ∧ v < 100) (hn : bs.length + (nB v).length ≤ 600) (k : ∀ σ' : xS, PtS σ' a im (bs ++ nB v) → LwF σ' σ → K none σ') : Mt g y_Lw_number [vR 0, vR 174, vI v] σ K := by
  have e0 : ∀ (Z : xZ) (σ1 : xS), PtS σ1 a im (bs ++ dgB v) → LwF σ1 σ → Wx g y_Lw_number Z K 44 [vR 0, vR 174, vI v, vL v, vU, vL 0, vU] [] σ1 := fun Z σ1 H1 F1 => by
    unfold nB at hn
    simp only [List.length_append, List.length_cons, List.length_nil] at hn
    refine x_lload (dat d_Lw_number 27 rfl) rfl ?_
    refine x_lconst (v := 0) (dat d_Lw_number 28 rfl) rfl ?_
    refine x_lcmps (dat d_Lw_number 29 rfl) (fun r_47 e_47 l_47 b_47 => ?_)
    refine x_if_le (tgt := 80) (dat d_Lw_number 30 rfl) (by decide) (fun c_48 => ?_) (fun c_48 => (by omega))
    refine x_aload_n (dat d_Lw_number 47 rfl) rfl rfl ?_
    refine x_aload_n (dat d_Lw_number 48 rfl) rfl rfl ?_
    refine x_bipush (dat d_Lw_number 49 rfl) (by decide) (by decide) ?_
    refine x_invs (As := [vR 0, vR 174, vI 32]) (dat d_Lw_number 50 rfl) rfl c_Lw_put l_Lw_13 (by decide) rfl rfl (Nat.le_of_ble_eq_true rfl) ?_
    refine sp_Lw_put H1 (by decide) (by simp only [List.length_append]; omega) (fun σ2 H2 F2 => ?_)
    show Wx g y_Lw_number Z K 87 [vR 0, vR 174, vI v, vL v, vU, vL 0, vU] [] σ2
    refine x_ret (dat d_Lw_number 51 rfl) rfl ?_
    exact k σ2 (by unfold nB; rw [← List.append_assoc]; exact H2) (F2.trans F1)
  have e1 : ∀ (Z : xZ) (σ1 : xS) (bs1 : List Int), PtS σ1 a im bs1 → LwF σ1 σ → bs1.length < 600 → bs1 ++ [48 + v % 10] = bs ++ dgB v → Wx g y_Lw_number Z K 44 [vR 0, vR 174, vI v, vL v, vU, vL 1, vU] [] σ1 := fun Z σ1 bs1 H1 F1 hl e => by
    refine x_lload (dat d_Lw_number 27 rfl) rfl ?_
    refine x_lconst (v := 0) (dat d_Lw_number 28 rfl) rfl ?_
    refine x_lcmps (dat d_Lw_number 29 rfl) (fun r_47 e_47 l_47 b_47 => ?_)
    refine x_if_le (tgt := 80) (dat d_Lw_number 30 rfl) (by decide) (fun c_48 => (by omega)) (fun c_48 => ?_)
    refine x_aload_n (dat d_Lw_number 31 rfl) rfl rfl ?_
    refine x_aload_n (dat d_Lw_number 32 rfl) rfl rfl ?_
    refine x_ldc2 (own := "ShakenBreadLaw") (n := 48) (dat d_Lw_number 33 rfl) rfl (gw_4 (i := 223) rfl rfl) (by decide) ?_
    refine x_lload_n (dat d_Lw_number 34 rfl) rfl rfl ?_
    refine x_lload (dat d_Lw_number 35 rfl) rfl ?_
    refine x_ldiv (v := v) (dat d_Lw_number 36 rfl) (by omega) (by omega) ?_
    refine x_ldc2 (own := "ShakenBreadLaw") (n := 10) (dat d_Lw_number 37 rfl) rfl (gw_4 (i := 222) rfl rfl) (by decide) ?_
    refine x_lrem (v := v % 10) (dat d_Lw_number 38 rfl) (by omega) rfl ?_
    refine x_ladd (v := 48 + (v % 10)) (dat d_Lw_number 39 rfl) rfl (by omega) ?_
    refine x_l2i (v := 48 + v % 10) (dat d_Lw_number 40 rfl) (by exact wr_eq (by omega) (by omega)) ?_
    refine x_invs (As := [vR 0, vR 174, vI (48 + v % 10)]) (dat d_Lw_number 41 rfl) rfl c_Lw_put l_Lw_13 (by decide) rfl rfl (Nat.le_of_ble_eq_true rfl) ?_
    refine sp_Lw_put H1 (by omega) hl (fun σ2 H2 F2 => ?_)
    show Wx g y_Lw_number Z K 69 [vR 0, vR 174, vI v, vL v, vU, vL 1, vU] [] σ2
    refine x_lload (dat d_Lw_number 42 rfl) rfl ?_
    refine x_ldc2 (own := "ShakenBreadLaw") (n := 10) (dat d_Lw_number 43 rfl) rfl (gw_4 (i := 222) rfl rfl) (by decide) ?_
    refine x_ldiv (v := 0) (dat d_Lw_number 44 rfl) (by omega) (by decide) ?_
    refine x_lstore (L' := [vR 0, vR 174, vI v, vL v, vU, vL 0, vU]) (dat d_Lw_number 45 rfl) (by decide) rfl rfl ?_
    refine x_goto (tgt := 44) (dat d_Lw_number 46 rfl) (by decide) ?_
    exact e0 Z σ2 (by rw [← e]; exact H2) (F2.trans F1)
  have hl : bs.length + (dgB v).length < 600 := by
    unfold nB at hn
    simp only [List.length_append, List.length_cons, List.length_nil] at hn
    omega
  by_cases z : v < 10
  · have ed : dgB v = [48 + v] := if_pos z
    have ld : (dgB v).length = 1 := by rw [ed]; rfl
    refine x_enter 4 rfl rfl rfl (fun Z => ?_)
    show Wx g y_Lw_number Z K 0 [vR 0, vR 174, vI v, vU, vU, vU, vU] [] σ
    refine x_iload_n (dat d_Lw_number 0 rfl) rfl rfl ?_
    refine x_i2l (dat d_Lw_number 1 rfl) ?_
    refine x_lstore_n (L' := [vR 0, vR 174, vI v, vL v, vU, vU, vU]) (dat d_Lw_number 2 rfl) rfl (by decide) rfl rfl ?_
    refine x_lload_n (dat d_Lw_number 3 rfl) rfl rfl ?_
    refine x_lconst (v := 0) (dat d_Lw_number 4 rfl) rfl ?_
    refine x_lcmps (dat d_Lw_number 5 rfl) (fun r_5 e_5 l_5 b_5 => ?_)
    refine x_if_ge (tgt := 19) (dat d_Lw_number 6 rfl) (by decide) (fun c_6 => ?_) (fun c_6 => (by omega))
    refine x_lconst (v := 1) (dat d_Lw_number 14 rfl) rfl ?_
    refine x_lstore (L' := [vR 0, vR 174, vI v, vL v, vU, vL 1, vU]) (dat d_Lw_number 15 rfl) (by decide) rfl rfl ?_
    refine x_lload_n (dat d_Lw_number 16 rfl) rfl rfl ?_
    refine x_lload (dat d_Lw_number 17 rfl) rfl ?_
    refine x_ldiv (v := v) (dat d_Lw_number 18 rfl) (by omega) (by omega) ?_
    refine x_ldc2 (own := "ShakenBreadLaw") (n := 9) (dat d_Lw_number 19 rfl) rfl (gw_4 (i := 221) rfl rfl) (by decide) ?_
    refine x_lcmps (dat d_Lw_number 20 rfl) (fun r_29 e_29 l_29 b_29 => ?_)
    refine x_if_le (tgt := 44) (dat d_Lw_number 21 rfl) (by decide) (fun c_30 => ?_) (fun c_30 => (by omega))
    exact e1 Z σ bs H (LwF.rfl σ) (by omega) (by rw [ed, show v % 10 = v by omega])
  · have ed : dgB v = [48 + v / 10, 48 + v % 10] := if_neg z
    have ld : (dgB v).length = 2 := by rw [ed]; rfl
    have e2 : ∀ (Z : xZ), Wx g y_Lw_number Z K 22 [vR 0, vR 174, vI v, vL v, vU, vL 10, vU] [] σ := fun Z => by
      refine x_lload_n (dat d_Lw_number 16 rfl) rfl rfl ?_
      refine x_lload (dat d_Lw_number 17 rfl) rfl ?_
      refine x_ldiv (v := v / 10) (dat d_Lw_number 18 rfl) (by omega) rfl ?_
      refine x_ldc2 (own := "ShakenBreadLaw") (n := 9) (dat d_Lw_number 19 rfl) rfl (gw_4 (i := 221) rfl rfl) (by decide) ?_
      refine x_lcmps (dat d_Lw_number 20 rfl) (fun r_29 e_29 l_29 b_29 => ?_)
      refine x_if_le (tgt := 44) (dat d_Lw_number 21 rfl) (by decide) (fun c_30 => ?_) (fun c_30 => (by omega))
      refine x_lload (dat d_Lw_number 27 rfl) rfl ?_
      refine x_lconst (v := 0) (dat d_Lw_number 28 rfl) rfl ?_
      refine x_lcmps (dat d_Lw_number 29 rfl) (fun r_47 e_47 l_47 b_47 => ?_)
      refine x_if_le (tgt := 80) (dat d_Lw_number 30 rfl) (by decide) (fun c_48 => (by omega)) (fun c_48 => ?_)
      refine x_aload_n (dat d_Lw_number 31 rfl) rfl rfl ?_
      refine x_aload_n (dat d_Lw_number 32 rfl) rfl rfl ?_
      refine x_ldc2 (own := "ShakenBreadLaw") (n := 48) (dat d_Lw_number 33 rfl) rfl (gw_4 (i := 223) rfl rfl) (by decide) ?_
      refine x_lload_n (dat d_Lw_number 34 rfl) rfl rfl ?_
      refine x_lload (dat d_Lw_number 35 rfl) rfl ?_
      refine x_ldiv (v := v / 10) (dat d_Lw_number 36 rfl) (by omega) rfl ?_
      refine x_ldc2 (own := "ShakenBreadLaw") (n := 10) (dat d_Lw_number 37 rfl) rfl (gw_4 (i := 222) rfl rfl) (by decide) ?_
      refine x_lrem (v := v / 10) (dat d_Lw_number 38 rfl) (by omega) (by omega) ?_
      refine x_ladd (v := 48 + (v / 10)) (dat d_Lw_number 39 rfl) rfl (by omega) ?_
      refine x_l2i (v := 48 + v / 10) (dat d_Lw_number 40 rfl) (by exact wr_eq (by omega) (by omega)) ?_
      refine x_invs (As := [vR 0, vR 174, vI (48 + v / 10)]) (dat d_Lw_number 41 rfl) rfl c_Lw_put l_Lw_13 (by decide) rfl rfl (Nat.le_of_ble_eq_true rfl) ?_
      refine sp_Lw_put H (by omega) (by omega) (fun σ2 H2 F2 => ?_)
      show Wx g y_Lw_number Z K 69 [vR 0, vR 174, vI v, vL v, vU, vL 10, vU] [] σ2
      refine x_lload (dat d_Lw_number 42 rfl) rfl ?_
      refine x_ldc2 (own := "ShakenBreadLaw") (n := 10) (dat d_Lw_number 43 rfl) rfl (gw_4 (i := 222) rfl rfl) (by decide) ?_
      refine x_ldiv (v := 1) (dat d_Lw_number 44 rfl) (by omega) (by decide) ?_
      refine x_lstore (L' := [vR 0, vR 174, vI v, vL v, vU, vL 1, vU]) (dat d_Lw_number 45 rfl) (by decide) rfl rfl ?_
      refine x_goto (tgt := 44) (dat d_Lw_number 46 rfl) (by decide) ?_
      exact e1 Z σ2 _ H2 F2 (by simp only [List.length_append, List.length_cons, List.length_nil]; omega) (by rw [ed, List.append_assoc]; rfl)
    refine x_enter 4 rfl rfl rfl (fun Z => ?_)
    show Wx g y_Lw_number Z K 0 [vR 0, vR 174, vI v, vU, vU, vU, vU] [] σ
    refine x_iload_n (dat d_Lw_number 0 rfl) rfl rfl ?_
    refine x_i2l (dat d_Lw_number 1 rfl) ?_
    refine x_lstore_n (L' := [vR 0, vR 174, vI v, vL v, vU, vU, vU]) (dat d_Lw_number 2 rfl) rfl (by decide) rfl rfl ?_
    refine x_lload_n (dat d_Lw_number 3 rfl) rfl rfl ?_
    refine x_lconst (v := 0) (dat d_Lw_number 4 rfl) rfl ?_
    refine x_lcmps (dat d_Lw_number 5 rfl) (fun r_5 e_5 l_5 b_5 => ?_)
    refine x_if_ge (tgt := 19) (dat d_Lw_number 6 rfl) (by decide) (fun c_6 => ?_) (fun c_6 => (by omega))
    refine x_lconst (v := 1) (dat d_Lw_number 14 rfl) rfl ?_
    refine x_lstore (L' := [vR 0, vR 174, vI v, vL v, vU, vL 1, vU]) (dat d_Lw_number 15 rfl) (by decide) rfl rfl ?_
    refine x_lload_n (dat d_Lw_number 16 rfl) rfl rfl ?_
    refine x_lload (dat d_Lw_number 17 rfl) rfl ?_
    refine x_ldiv (v := v) (dat d_Lw_number 18 rfl) (by omega) (by omega) ?_
    refine x_ldc2 (own := "ShakenBreadLaw") (n := 9) (dat d_Lw_number 19 rfl) rfl (gw_4 (i := 221) rfl rfl) (by decide) ?_
    refine x_lcmps (dat d_Lw_number 20 rfl) (fun r_29 e_29 l_29 b_29 => ?_)
    refine x_if_le (tgt := 44) (dat d_Lw_number 21 rfl) (by decide) (fun c_30 => (by omega)) (fun c_30 => ?_)
    refine x_lload (dat d_Lw_number 22 rfl) rfl ?_
    refine x_ldc2 (own := "ShakenBreadLaw") (n := 10) (dat d_Lw_number 23 rfl) rfl (gw_4 (i := 222) rfl rfl) (by decide) ?_
    refine x_lmul (v := 10) (dat d_Lw_number 24 rfl) (by decide) (by omega) ?_
    refine x_lstore (L' := [vR 0, vR 174, vI v, vL v, vU, vL 10, vU]) (dat d_Lw_number 25 rfl) (by decide) rfl rfl ?_
    refine x_goto (tgt := 22) (dat d_Lw_number 26 rfl) (by decide) ?_
    exact e2 Z
theorem sp_Lw_more {g : xG} {K : Option MV → xS → Prop} {σ : xS} {a : Int → Int} {im : Nat → Int → Int} {bs : List Int} {v : Int} (H : PtS σ a im bs) (hv : 0 ≤ v ∧ v < 100) (hn : bs.length + (mB v).length ≤ 600) (k : ∀ σ' : xS, PtS σ' a im (bs ++ mB v) → LwF σ' σ → K none σ') : Mt g y_Lw_more [vR 0, vR 174, vI v] σ K := by
  unfold mB at hn
  simp only [List.length_cons] at hn
  refine x_enter 0 rfl rfl rfl (fun Z => ?_)
  show Wx g y_Lw_more Z K 0 [vR 0, vR 174, vI v] [] σ
  refine x_aload_n (dat d_Lw_more 0 rfl) rfl rfl ?_
  refine x_aload_n (dat d_Lw_more 1 rfl) rfl rfl ?_
  refine x_bipush (dat d_Lw_more 2 rfl) (by decide) (by decide) ?_
  refine x_invs (As := [vR 0, vR 174, vI 32]) (dat d_Lw_more 3 rfl) rfl c_Lw_put l_Lw_13 (by decide) rfl rfl (Nat.le_of_ble_eq_true rfl) ?_
  refine sp_Lw_put H (by decide) (by omega) (fun σ1 H1 F1 => ?_)
  show Wx g y_Lw_more Z K 7 [vR 0, vR 174, vI v] [] σ1
  refine x_aload_n (dat d_Lw_more 4 rfl) rfl rfl ?_
  refine x_aload_n (dat d_Lw_more 5 rfl) rfl rfl ?_
  refine x_iload_n (dat d_Lw_more 6 rfl) rfl rfl ?_
  refine x_invs (As := [vR 0, vR 174, vI v]) (dat d_Lw_more 7 rfl) rfl c_Lw_number l_Lw_29 (by decide) rfl rfl (Nat.le_of_ble_eq_true rfl) ?_
  refine sp_Lw_number H1 hv (by simp only [List.length_append, List.length_cons, List.length_nil]; omega) (fun σ2 H2 F2 => ?_)
  show Wx g y_Lw_more Z K 13 [vR 0, vR 174, vI v] [] σ2
  refine x_ret (dat d_Lw_more 8 rfl) rfl ?_
  exact k σ2 (by unfold mB; rw [List.append_assoc] at H2; exact H2) (F2.trans F1)
