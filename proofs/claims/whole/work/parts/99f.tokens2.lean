/-! the twin's reader: bytes, words, tokens */ -/
def RtM (σ : xS) (T : Int → Int) (n : Int) : Prop := σ 174 2 = n ∧ (0 ≤ n ∧ n ≤ 600) ∧ ∀ i : Int, 0 ≤ i → i < n → (0 ≤ T i ∧ T i ≤ 255) ∧ σ 175 (10 + i) = T i
def RdM (σ : xS) (T : Int → Int) (n q : Int) : Prop := (σ 174 4 = q ∧ σ 174 5 = tkK T n q ∧ σ 174 3 = tkN T n q) ∧ (tkK T n q = 1 → σ 174 6 = tkV T n q) ∧ (tkK T n q = 3 → σ 174 7 = wrd T n q) ∧ 0 ≤ q ∧ q ≤ n
def AvF (σ' σ : xS) : Prop := (∀ i : Int, (i < 3 ∨ 7 < i) → σ' 174 i = σ 174 i) ∧ ∀ o : Nat, o ≠ 174 → σ' o = σ o
theorem AvF.rfl (σ : xS) : AvF σ σ := ⟨fun _ _ => Eq.refl _, fun _ _ => Eq.refl _⟩
theorem AvF.put {σ σ' : xS} (F : AvF σ' σ) {i v : Int} (h0 : 3 ≤ i) (h1 : i ≤ 7) : AvF (up σ' 174 i v) σ := ⟨fun j hj => by rw [up_ni (by omega)]; exact F.1 j hj, fun o ho => by rw [up_ne ho]; exact F.2 o ho⟩
theorem AvF.trans {σ σ' σ'' : xS} (h : AvF σ' σ) (h2 : AvF σ'' σ') : AvF σ'' σ := ⟨fun i hi => by rw [h2.1 i hi]; exact h.1 i hi, fun o ho => by rw [h2.2 o ho]; exact h.2 o ho⟩
theorem RtM.same {σ σ' : xS} {T : Int → Int} {n : Int} (H : RtM σ T n) (F : AvF σ' σ) : RtM σ' T n := ⟨by rw [F.1 2 (by decide)]; exact H.1, H.2.1, by rw [F.2 175 (by decide)]; exact H.2.2⟩
/-- the byte there, -1 behind the end -/
def bt (T : Int → Int) (n p : Int) : Int := if p < n then T p else -1
section
variable {g : xG} {K : Option MV → xS → Prop} {σ σ0 : xS} {T : Int → Int} {n : Int}
theorem sp_Mo_byteAt {p : Int} (H : RtM σ T n) (p0 : 0 ≤ p) (p1 : p ≤ n) (k : K (some (vI (bt T n p))) σ) : Mt g y_Mo_byteAt [vR 174, vI p] σ K := by
  have e2 := H.1
  have b := H.2.1
  have kk : ∀ v : Int, v = bt T n p → K (some (vI v)) σ := fun v h => by rw [h]; exact k
  refine x_enter 0 rfl rfl rfl (fun Z => ?_)
  show Wx g y_Mo_byteAt Z K 0 [vR 174, vI p] [] σ
  refine x_iload_n (dat d_Mo_byteAt 0 rfl) rfl rfl ?_
  refine x_aload_n (dat d_Mo_byteAt 1 rfl) rfl rfl ?_
  refine x_geti (ji := 2) (v := n) (dat d_Mo_byteAt 2 rfl) rfl f_Mo_81 (oi_mk (by decide +kernel)) (e2) ?_
  refine x_icmp_ge (tgt := 20) (dat d_Mo_byteAt 3 rfl) (by decide) (fun c_5 => ?_) (fun c_5 => ?_)
  · refine x_iconst (dat d_Mo_byteAt 11 rfl) (by decide) ?_
    refine x_iret (dat d_Mo_byteAt 12 rfl) rfl ?_
    first
    | exact kk _ (by unfold bt; rw [if_pos (by omega)])
    | exact kk _ (by unfold bt; rw [if_neg (by omega)])
  · refine x_aload_n (dat d_Mo_byteAt 4 rfl) rfl rfl ?_
    refine x_getr (r := 175) (dat d_Mo_byteAt 5 rfl) rfl f_Mo_7 (or_mk (by decide +kernel)) ?_
    refine x_bipush (dat d_Mo_byteAt 6 rfl) (by decide) (by decide) ?_
    refine x_iload_n (dat d_Mo_byteAt 7 rfl) rfl rfl ?_
    refine x_iadd (v := 10 + p) (dat d_Mo_byteAt 8 rfl) rfl (by omega) ?_
    refine x_iald (n := 3888) (v := T p) (dat d_Mo_byteAt 9 rfl) (ai_mk (by decide +kernel)) (by omega) (by omega) (by exact (H.2.2 p p0 (by omega)).2) ?_
    refine x_goto (tgt := 21) (dat d_Mo_byteAt 10 rfl) (by decide) ?_
    refine x_iret (dat d_Mo_byteAt 12 rfl) rfl ?_
    first
    | exact kk _ (by unfold bt; rw [if_pos (by omega)])
    | exact kk _ (by unfold bt; rw [if_neg (by omega)])
theorem sp_Mo_isLetter {c : Int} (kt : cLt c = true → K (some (vI 1)) σ) (kf : ¬ cLt c = true → K (some (vI 0)) σ) : Mt g y_Mo_isLetter [vI c] σ K := by
  refine x_enter 0 rfl rfl rfl (fun Z => ?_)
  show Wx g y_Mo_isLetter Z K 0 [vI c] [] σ
  refine x_iload_n (dat d_Mo_isLetter 0 rfl) rfl rfl ?_
  refine x_bipush (dat d_Mo_isLetter 1 rfl) (by decide) (by decide) ?_
  refine x_icmp_lt (tgt := 16) (dat d_Mo_isLetter 2 rfl) (by decide) (fun c_3 => ?_) (fun c_3 => ?_)
  · refine x_iconst (dat d_Mo_isLetter 8 rfl) (by decide) ?_
    refine x_zret (dat d_Mo_isLetter 9 rfl) rfl (by decide) ?_
    first
    | exact kt (cLt_iff.mpr (by omega))
    | exact kf (fun w => by have := cLt_iff.mp w; omega)
  · refine x_iload_n (dat d_Mo_isLetter 3 rfl) rfl rfl ?_
    refine x_bipush (dat d_Mo_isLetter 4 rfl) (by decide) (by decide) ?_
    refine x_icmp_gt (tgt := 16) (dat d_Mo_isLetter 5 rfl) (by decide) (fun c_9 => ?_) (fun c_9 => ?_)
    · refine x_iconst (dat d_Mo_isLetter 8 rfl) (by decide) ?_
      refine x_zret (dat d_Mo_isLetter 9 rfl) rfl (by decide) ?_
      first
      | exact kt (cLt_iff.mpr (by omega))
      | exact kf (fun w => by have := cLt_iff.mp w; omega)
    · refine x_iconst (dat d_Mo_isLetter 6 rfl) (by decide) ?_
      refine x_goto (tgt := 17) (dat d_Mo_isLetter 7 rfl) (by decide) ?_
      refine x_zret (dat d_Mo_isLetter 9 rfl) rfl (by decide) ?_
      first
      | exact kt (cLt_iff.mpr (by omega))
      | exact kf (fun w => by have := cLt_iff.mp w; omega)
theorem sp_Mo_isDigit {c : Int} (kt : cDg c = true → K (some (vI 1)) σ) (kf : ¬ cDg c = true → K (some (vI 0)) σ) : Mt g y_Mo_isDigit [vI c] σ K := by
  refine x_enter 0 rfl rfl rfl (fun Z => ?_)
  show Wx g y_Mo_isDigit Z K 0 [vI c] [] σ
  refine x_iload_n (dat d_Mo_isDigit 0 rfl) rfl rfl ?_
  refine x_bipush (dat d_Mo_isDigit 1 rfl) (by decide) (by decide) ?_
  refine x_icmp_lt (tgt := 16) (dat d_Mo_isDigit 2 rfl) (by decide) (fun c_3 => ?_) (fun c_3 => ?_)
  · refine x_iconst (dat d_Mo_isDigit 8 rfl) (by decide) ?_
    refine x_zret (dat d_Mo_isDigit 9 rfl) rfl (by decide) ?_
    first
    | exact kt (cDg_iff.mpr (by omega))
    | exact kf (fun w => by have := cDg_iff.mp w; omega)
  · refine x_iload_n (dat d_Mo_isDigit 3 rfl) rfl rfl ?_
    refine x_bipush (dat d_Mo_isDigit 4 rfl) (by decide) (by decide) ?_
    refine x_icmp_gt (tgt := 16) (dat d_Mo_isDigit 5 rfl) (by decide) (fun c_9 => ?_) (fun c_9 => ?_)
    · refine x_iconst (dat d_Mo_isDigit 8 rfl) (by decide) ?_
      refine x_zret (dat d_Mo_isDigit 9 rfl) rfl (by decide) ?_
      first
      | exact kt (cDg_iff.mpr (by omega))
      | exact kf (fun w => by have := cDg_iff.mp w; omega)
    · refine x_iconst (dat d_Mo_isDigit 6 rfl) (by decide) ?_
      refine x_goto (tgt := 17) (dat d_Mo_isDigit 7 rfl) (by decide) ?_
      refine x_zret (dat d_Mo_isDigit 9 rfl) rfl (by decide) ?_
      first
      | exact kt (cDg_iff.mpr (by omega))
      | exact kf (fun w => by have := cDg_iff.mp w; omega)
theorem sp_Mo_four {c1 c2 c3 c4 v : Int} (h1 : 0 ≤ c1 ∧ c1 < 32) (h2 : 0 ≤ c2 ∧ c2 < 32) (h3 : 0 ≤ c3 ∧ c3 < 32) (h4 : 0 ≤ c4 ∧ c4 < 32) (e : ((c1 * 32 + c2) * 32 + c3) * 32 + c4 = v) (k : K (some (vL v)) σ) : Mt g y_Mo_four [vI c1, vI c2, vI c3, vI c4] σ K := by
  refine x_enter 0 rfl rfl rfl (fun Z => ?_)
  show Wx g y_Mo_four Z K 0 [vI c1, vI c2, vI c3, vI c4] [] σ
  refine x_iload_n (dat d_Mo_four 0 rfl) rfl rfl ?_
  refine x_bipush (dat d_Mo_four 1 rfl) (by decide) (by decide) ?_
  refine x_imul (v := c1 * 32) (dat d_Mo_four 2 rfl) rfl (by omega) ?_
  refine x_iload_n (dat d_Mo_four 3 rfl) rfl rfl ?_
  refine x_iadd (v := (c1 * 32) + c2) (dat d_Mo_four 4 rfl) rfl (by omega) ?_
  refine x_bipush (dat d_Mo_four 5 rfl) (by decide) (by decide) ?_
  refine x_imul (v := ((c1 * 32) + c2) * 32) (dat d_Mo_four 6 rfl) rfl (by omega) ?_
  refine x_iload_n (dat d_Mo_four 7 rfl) rfl rfl ?_
  refine x_iadd (v := (((c1 * 32) + c2) * 32) + c3) (dat d_Mo_four 8 rfl) rfl (by omega) ?_
  refine x_bipush (dat d_Mo_four 9 rfl) (by decide) (by decide) ?_
  refine x_imul (v := ((((c1 * 32) + c2) * 32) + c3) * 32) (dat d_Mo_four 10 rfl) rfl (by omega) ?_
  refine x_iload_n (dat d_Mo_four 11 rfl) rfl rfl ?_
  refine x_iadd (v := v) (dat d_Mo_four 12 rfl) (by exact e) (by omega) ?_
  refine x_i2l (dat d_Mo_four 13 rfl) ?_
  refine x_lret (dat d_Mo_four 14 rfl) rfl ?_
  exact k
theorem sp_Mo_eight {c1 c2 c3 c4 c5 c6 c7 c8 v : Int} (h1 : 0 ≤ c1 ∧ c1 < 32) (h2 : 0 ≤ c2 ∧ c2 < 32) (h3 : 0 ≤ c3 ∧ c3 < 32) (h4 : 0 ≤ c4 ∧ c4 < 32) (h5 : 0 ≤ c5 ∧ c5 < 32) (h6 : 0 ≤ c6 ∧ c6 < 32) (h7 : 0 ≤ c7 ∧ c7 < 32) (h8 : 0 ≤ c8 ∧ c8 < 32) (e : (((c1 * 32 + c2) * 32 + c3) * 32 + c4) * 1048576 + (((c5 * 32 + c6) * 32 + c7) * 32 + c8) = v) (k : K (some (vL v)) σ) : Mt g y_Mo_eight [vI c1, vI c2, vI c3, vI c4, vI c5, vI c6, vI c7, vI c8] σ K := by
  refine x_enter 0 rfl rfl rfl (fun Z => ?_)
  show Wx g y_Mo_eight Z K 0 [vI c1, vI c2, vI c3, vI c4, vI c5, vI c6, vI c7, vI c8] [] σ
  refine x_iload_n (dat d_Mo_eight 0 rfl) rfl rfl ?_
  refine x_iload_n (dat d_Mo_eight 1 rfl) rfl rfl ?_
  refine x_iload_n (dat d_Mo_eight 2 rfl) rfl rfl ?_
  refine x_iload_n (dat d_Mo_eight 3 rfl) rfl rfl ?_
  refine x_invs (As := [vI c1, vI c2, vI c3, vI c4]) (dat d_Mo_eight 4 rfl) rfl c_Mo_four l_Mo_85 (by decide) rfl rfl (Nat.le_of_ble_eq_true rfl) ?_
  refine sp_Mo_four h1 h2 h3 h4 rfl ?_
  show Wx g y_Mo_eight Z K 7 [vI c1, vI c2, vI c3, vI c4, vI c5, vI c6, vI c7, vI c8] [vL (((c1 * 32 + c2) * 32 + c3) * 32 + c4)] σ
  refine x_ldc2 (own := "ShakenBreadModel") (n := 1048576) (dat d_Mo_eight 5 rfl) rfl (gw_7 (i := 69) rfl rfl) (by decide) ?_
  refine x_lmul (v := (((c1 * 32 + c2) * 32 + c3) * 32 + c4) * 1048576) (dat d_Mo_eight 6 rfl) rfl (by omega) ?_
  refine x_iload (dat d_Mo_eight 7 rfl) rfl ?_
  refine x_iload (dat d_Mo_eight 8 rfl) rfl ?_
  refine x_iload (dat d_Mo_eight 9 rfl) rfl ?_
  refine x_iload (dat d_Mo_eight 10 rfl) rfl ?_
  refine x_invs (As := [vI c5, vI c6, vI c7, vI c8]) (dat d_Mo_eight 11 rfl) rfl c_Mo_four l_Mo_85 (by decide) rfl rfl (Nat.le_of_ble_eq_true rfl) ?_
  refine sp_Mo_four h5 h6 h7 h8 rfl ?_
  show Wx g y_Mo_eight Z K 22 [vI c1, vI c2, vI c3, vI c4, vI c5, vI c6, vI c7, vI c8] [vL (((c5 * 32 + c6) * 32 + c7) * 32 + c8), vL ((((c1 * 32 + c2) * 32 + c3) * 32 + c4) * 1048576)] σ
  refine x_ladd (v := v) (dat d_Mo_eight 12 rfl) (by exact e) (by omega) ?_
  refine x_lret (dat d_Mo_eight 13 rfl) rfl ?_
  exact k
theorem sp_Mo_wordOf {v : Int} (k : K (some (vI (wdK v))) σ) : Mt g y_Mo_wordOf [vL v] σ K := by
  have kk : ∀ w : Int, w = wdK v → K (some (vI w)) σ := fun w h => by rw [h]; exact k
  refine x_enterL 0 rfl rfl (fun Z => ?_)
  refine x_lload_n (dat d_Mo_wordOf 0 rfl) rfl rfl ?_
  refine x_bipush (dat d_Mo_wordOf 1 rfl) (by decide) (by decide) ?_
  refine x_bipush (dat d_Mo_wordOf 2 rfl) (by decide) (by decide) ?_
  refine x_bipush (dat d_Mo_wordOf 3 rfl) (by decide) (by decide) ?_
  refine x_iconst (dat d_Mo_wordOf 4 rfl) (by decide) ?_
  refine x_invs (As := [vI 19, vI 9, vI 26, vI 5]) (dat d_Mo_wordOf 5 rfl) rfl c_Mo_four l_Mo_85 (by decide) rfl rfl (Nat.le_of_ble_eq_true rfl) ?_
  refine sp_Mo_four (v := 632645) (by decide) (by decide) (by decide) (by decide) (by decide) ?_
  show Wx g y_Mo_wordOf Z K 11 [vL v, vU] [vL 632645, vL v] σ
  refine x_lcmp (dat d_Mo_wordOf 6 rfl) (fun r_11 e_11 b_11 => ?_)
  refine x_if_ne (tgt := 17) (dat d_Mo_wordOf 7 rfl) (by decide) (fun c_12 => ?_) (fun c_12 => ?_)
  · have u_11 : ¬ v = 632645 := fun h => by have := e_11.mpr h; omega
    clear e_11 b_11 c_12 r_11
    refine x_lload_n (dat d_Mo_wordOf 10 rfl) rfl rfl ?_
    refine x_iconst (dat d_Mo_wordOf 11 rfl) (by decide) ?_
    refine x_bipush (dat d_Mo_wordOf 12 rfl) (by decide) (by decide) ?_
    refine x_iconst (dat d_Mo_wordOf 13 rfl) (by decide) ?_
    refine x_bipush (dat d_Mo_wordOf 14 rfl) (by decide) (by decide) ?_
    refine x_invs (As := [vI 0, vI 12, vI 1, vI 23]) (dat d_Mo_wordOf 15 rfl) rfl c_Mo_four l_Mo_85 (by decide) rfl rfl (Nat.le_of_ble_eq_true rfl) ?_
    refine sp_Mo_four (v := 12343) (by decide) (by decide) (by decide) (by decide) (by decide) ?_
    show Wx g y_Mo_wordOf Z K 27 [vL v, vU] [vL 12343, vL v] σ
    refine x_lcmp (dat d_Mo_wordOf 16 rfl) (fun r_27 e_27 b_27 => ?_)
    refine x_if_ne (tgt := 33) (dat d_Mo_wordOf 17 rfl) (by decide) (fun c_28 => ?_) (fun c_28 => ?_)
    · have u_27 : ¬ v = 12343 := fun h => by have := e_27.mpr h; omega
      clear e_27 b_27 c_28 r_27
      refine x_lload_n (dat d_Mo_wordOf 20 rfl) rfl rfl ?_
      refine x_iconst (dat d_Mo_wordOf 21 rfl) (by decide) ?_
      refine x_iconst (dat d_Mo_wordOf 22 rfl) (by decide) ?_
      refine x_iconst (dat d_Mo_wordOf 23 rfl) (by decide) ?_
      refine x_bipush (dat d_Mo_wordOf 24 rfl) (by decide) (by decide) ?_
      refine x_bipush (dat d_Mo_wordOf 25 rfl) (by decide) (by decide) ?_
      refine x_bipush (dat d_Mo_wordOf 26 rfl) (by decide) (by decide) ?_
      refine x_bipush (dat d_Mo_wordOf 27 rfl) (by decide) (by decide) ?_
      refine x_bipush (dat d_Mo_wordOf 28 rfl) (by decide) (by decide) ?_
      refine x_invs (As := [vI 0, vI 0, vI 0, vI 8, vI 15, vI 21, vI 18, vI 19]) (dat d_Mo_wordOf 29 rfl) rfl c_Mo_eight l_Mo_91 (by decide) rfl rfl (Nat.le_of_ble_eq_true rfl) ?_
      refine sp_Mo_eight (v := 8902227) (by decide) (by decide) (by decide) (by decide) (by decide) (by decide) (by decide) (by decide) (by decide) ?_
      show Wx g y_Mo_wordOf Z K 50 [vL v, vU] [vL 8902227, vL v] σ
      refine x_lcmp (dat d_Mo_wordOf 30 rfl) (fun r_50 e_50 b_50 => ?_)
      refine x_if_ne (tgt := 56) (dat d_Mo_wordOf 31 rfl) (by decide) (fun c_51 => ?_) (fun c_51 => ?_)
      · have u_50 : ¬ v = 8902227 := fun h => by have := e_50.mpr h; omega
        clear e_50 b_50 c_51 r_50
        refine x_lload_n (dat d_Mo_wordOf 34 rfl) rfl rfl ?_
        refine x_iconst (dat d_Mo_wordOf 35 rfl) (by decide) ?_
        refine x_iconst (dat d_Mo_wordOf 36 rfl) (by decide) ?_
        refine x_iconst (dat d_Mo_wordOf 37 rfl) (by decide) ?_
        refine x_bipush (dat d_Mo_wordOf 38 rfl) (by decide) (by decide) ?_
        refine x_invs (As := [vI 0, vI 5, vI 1, vI 20]) (dat d_Mo_wordOf 39 rfl) rfl c_Mo_four l_Mo_85 (by decide) rfl rfl (Nat.le_of_ble_eq_true rfl) ?_
        refine sp_Mo_four (v := 5172) (by decide) (by decide) (by decide) (by decide) (by decide) ?_
        show Wx g y_Mo_wordOf Z K 65 [vL v, vU] [vL 5172, vL v] σ
        refine x_lcmp (dat d_Mo_wordOf 40 rfl) (fun r_65 e_65 b_65 => ?_)
        refine x_if_ne (tgt := 71) (dat d_Mo_wordOf 41 rfl) (by decide) (fun c_66 => ?_) (fun c_66 => ?_)
        · have u_65 : ¬ v = 5172 := fun h => by have := e_65.mpr h; omega
          clear e_65 b_65 c_66 r_65
          refine x_lload_n (dat d_Mo_wordOf 44 rfl) rfl rfl ?_
          refine x_iconst (dat d_Mo_wordOf 45 rfl) (by decide) ?_
          refine x_iconst (dat d_Mo_wordOf 46 rfl) (by decide) ?_
          refine x_iconst (dat d_Mo_wordOf 47 rfl) (by decide) ?_
          refine x_bipush (dat d_Mo_wordOf 48 rfl) (by decide) (by decide) ?_
          refine x_bipush (dat d_Mo_wordOf 49 rfl) (by decide) (by decide) ?_
          refine x_iconst (dat d_Mo_wordOf 50 rfl) (by decide) ?_
          refine x_bipush (dat d_Mo_wordOf 51 rfl) (by decide) (by decide) ?_
          refine x_bipush (dat d_Mo_wordOf 52 rfl) (by decide) (by decide) ?_
          refine x_invs (As := [vI 0, vI 0, vI 0, vI 16, vI 12, vI 1, vI 9, vI 14]) (dat d_Mo_wordOf 53 rfl) rfl c_Mo_eight l_Mo_91 (by decide) rfl rfl (Nat.le_of_ble_eq_true rfl) ?_
          refine sp_Mo_eight (v := 17171758) (by decide) (by decide) (by decide) (by decide) (by decide) (by decide) (by decide) (by decide) (by decide) ?_
          show Wx g y_Mo_wordOf Z K 87 [vL v, vU] [vL 17171758, vL v] σ
          refine x_lcmp (dat d_Mo_wordOf 54 rfl) (fun r_87 e_87 b_87 => ?_)
          refine x_if_ne (tgt := 93) (dat d_Mo_wordOf 55 rfl) (by decide) (fun c_88 => ?_) (fun c_88 => ?_)
          · have u_87 : ¬ v = 17171758 := fun h => by have := e_87.mpr h; omega
            clear e_87 b_87 c_88 r_87
            refine x_lload_n (dat d_Mo_wordOf 58 rfl) rfl rfl ?_
            refine x_iconst (dat d_Mo_wordOf 59 rfl) (by decide) ?_
            refine x_iconst (dat d_Mo_wordOf 60 rfl) (by decide) ?_
            refine x_bipush (dat d_Mo_wordOf 61 rfl) (by decide) (by decide) ?_
            refine x_bipush (dat d_Mo_wordOf 62 rfl) (by decide) (by decide) ?_
            refine x_bipush (dat d_Mo_wordOf 63 rfl) (by decide) (by decide) ?_
            refine x_bipush (dat d_Mo_wordOf 64 rfl) (by decide) (by decide) ?_
            refine x_bipush (dat d_Mo_wordOf 65 rfl) (by decide) (by decide) ?_
            refine x_iconst (dat d_Mo_wordOf 66 rfl) (by decide) ?_
            refine x_invs (As := [vI 0, vI 0, vI 16, vI 15, vI 12, vI 9, vI 20, vI 5]) (dat d_Mo_wordOf 67 rfl) rfl c_Mo_eight l_Mo_91 (by decide) rfl rfl (Nat.le_of_ble_eq_true rfl) ?_
            refine sp_Mo_eight (v := 553002629) (by decide) (by decide) (by decide) (by decide) (by decide) (by decide) (by decide) (by decide) (by decide) ?_
            show Wx g y_Mo_wordOf Z K 110 [vL v, vU] [vL 553002629, vL v] σ
            refine x_lcmp (dat d_Mo_wordOf 68 rfl) (fun r_110 e_110 b_110 => ?_)
            refine x_if_ne (tgt := 117) (dat d_Mo_wordOf 69 rfl) (by decide) (fun c_111 => ?_) (fun c_111 => ?_)
            · have u_110 : ¬ v = 553002629 := fun h => by have := e_110.mpr h; omega
              clear e_110 b_110 c_111 r_110
              refine x_lload_n (dat d_Mo_wordOf 72 rfl) rfl rfl ?_
              refine x_iconst (dat d_Mo_wordOf 73 rfl) (by decide) ?_
              refine x_bipush (dat d_Mo_wordOf 74 rfl) (by decide) (by decide) ?_
              refine x_bipush (dat d_Mo_wordOf 75 rfl) (by decide) (by decide) ?_
              refine x_bipush (dat d_Mo_wordOf 76 rfl) (by decide) (by decide) ?_
              refine x_invs (As := [vI 0, vI 19, vI 8, vI 25]) (dat d_Mo_wordOf 77 rfl) rfl c_Mo_four l_Mo_85 (by decide) rfl rfl (Nat.le_of_ble_eq_true rfl) ?_
              refine sp_Mo_four (v := 19737) (by decide) (by decide) (by decide) (by decide) (by decide) ?_
              show Wx g y_Mo_wordOf Z K 128 [vL v, vU] [vL 19737, vL v] σ
              refine x_lcmp (dat d_Mo_wordOf 78 rfl) (fun r_128 e_128 b_128 => ?_)
              refine x_if_ne (tgt := 135) (dat d_Mo_wordOf 79 rfl) (by decide) (fun c_129 => ?_) (fun c_129 => ?_)
              · have u_128 : ¬ v = 19737 := fun h => by have := e_128.mpr h; omega
                clear e_128 b_128 c_129 r_128
                refine x_lload_n (dat d_Mo_wordOf 82 rfl) rfl rfl ?_
                refine x_iconst (dat d_Mo_wordOf 83 rfl) (by decide) ?_
                refine x_iconst (dat d_Mo_wordOf 84 rfl) (by decide) ?_
                refine x_bipush (dat d_Mo_wordOf 85 rfl) (by decide) (by decide) ?_
                refine x_bipush (dat d_Mo_wordOf 86 rfl) (by decide) (by decide) ?_
                refine x_bipush (dat d_Mo_wordOf 87 rfl) (by decide) (by decide) ?_
                refine x_bipush (dat d_Mo_wordOf 88 rfl) (by decide) (by decide) ?_
                refine x_iconst (dat d_Mo_wordOf 89 rfl) (by decide) ?_
                refine x_iconst (dat d_Mo_wordOf 90 rfl) (by decide) ?_
                refine x_invs (As := [vI 0, vI 0, vI 7, vI 12, vI 15, vI 22, vI 5, vI 4]) (dat d_Mo_wordOf 91 rfl) rfl c_Mo_eight l_Mo_91 (by decide) rfl rfl (Nat.le_of_ble_eq_true rfl) ?_
                refine sp_Mo_eight (v := 247978148) (by decide) (by decide) (by decide) (by decide) (by decide) (by decide) (by decide) (by decide) (by decide) ?_
                show Wx g y_Mo_wordOf Z K 151 [vL v, vU] [vL 247978148, vL v] σ
                refine x_lcmp (dat d_Mo_wordOf 92 rfl) (fun r_151 e_151 b_151 => ?_)
                refine x_if_ne (tgt := 158) (dat d_Mo_wordOf 93 rfl) (by decide) (fun c_152 => ?_) (fun c_152 => ?_)
                · have u_151 : ¬ v = 247978148 := fun h => by have := e_151.mpr h; omega
                  clear e_151 b_151 c_152 r_151
                  refine x_lload_n (dat d_Mo_wordOf 96 rfl) rfl rfl ?_
                  refine x_iconst (dat d_Mo_wordOf 97 rfl) (by decide) ?_
                  refine x_iconst (dat d_Mo_wordOf 98 rfl) (by decide) ?_
                  refine x_iconst (dat d_Mo_wordOf 99 rfl) (by decide) ?_
                  refine x_bipush (dat d_Mo_wordOf 100 rfl) (by decide) (by decide) ?_
                  refine x_bipush (dat d_Mo_wordOf 101 rfl) (by decide) (by decide) ?_
                  refine x_iconst (dat d_Mo_wordOf 102 rfl) (by decide) ?_
                  refine x_bipush (dat d_Mo_wordOf 103 rfl) (by decide) (by decide) ?_
                  refine x_iconst (dat d_Mo_wordOf 104 rfl) (by decide) ?_
                  refine x_invs (As := [vI 0, vI 0, vI 5, vI 18, vI 18, vI 1, vI 14, vI 4]) (dat d_Mo_wordOf 105 rfl) rfl c_Mo_eight l_Mo_91 (by decide) rfl rfl (Nat.le_of_ble_eq_true rfl) ?_
                  refine sp_Mo_eight (v := 187237828) (by decide) (by decide) (by decide) (by decide) (by decide) (by decide) (by decide) (by decide) (by decide) ?_
                  show Wx g y_Mo_wordOf Z K 173 [vL v, vU] [vL 187237828, vL v] σ
                  refine x_lcmp (dat d_Mo_wordOf 106 rfl) (fun r_173 e_173 b_173 => ?_)
                  refine x_if_ne (tgt := 180) (dat d_Mo_wordOf 107 rfl) (by decide) (fun c_174 => ?_) (fun c_174 => ?_)
                  · have u_173 : ¬ v = 187237828 := fun h => by have := e_173.mpr h; omega
                    clear e_173 b_173 c_174 r_173
                    refine x_lload_n (dat d_Mo_wordOf 110 rfl) rfl rfl ?_
                    refine x_iconst (dat d_Mo_wordOf 111 rfl) (by decide) ?_
                    refine x_iconst (dat d_Mo_wordOf 112 rfl) (by decide) ?_
                    refine x_iconst (dat d_Mo_wordOf 113 rfl) (by decide) ?_
                    refine x_iconst (dat d_Mo_wordOf 114 rfl) (by decide) ?_
                    refine x_bipush (dat d_Mo_wordOf 115 rfl) (by decide) (by decide) ?_
                    refine x_bipush (dat d_Mo_wordOf 116 rfl) (by decide) (by decide) ?_
                    refine x_bipush (dat d_Mo_wordOf 117 rfl) (by decide) (by decide) ?_
                    refine x_iconst (dat d_Mo_wordOf 118 rfl) (by decide) ?_
                    refine x_invs (As := [vI 0, vI 0, vI 0, vI 5, vI 24, vI 20, vI 18, vI 1]) (dat d_Mo_wordOf 119 rfl) rfl c_Mo_eight l_Mo_91 (by decide) rfl rfl (Nat.le_of_ble_eq_true rfl) ?_
                    refine sp_Mo_eight (v := 6050369) (by decide) (by decide) (by decide) (by decide) (by decide) (by decide) (by decide) (by decide) (by decide) ?_
                    show Wx g y_Mo_wordOf Z K 195 [vL v, vU] [vL 6050369, vL v] σ
                    refine x_lcmp (dat d_Mo_wordOf 120 rfl) (fun r_195 e_195 b_195 => ?_)
                    refine x_if_ne (tgt := 202) (dat d_Mo_wordOf 121 rfl) (by decide) (fun c_196 => ?_) (fun c_196 => ?_)
                    · have u_195 : ¬ v = 6050369 := fun h => by have := e_195.mpr h; omega
                      clear e_195 b_195 c_196 r_195
                      refine x_lload_n (dat d_Mo_wordOf 124 rfl) rfl rfl ?_
                      refine x_iconst (dat d_Mo_wordOf 125 rfl) (by decide) ?_
                      refine x_bipush (dat d_Mo_wordOf 126 rfl) (by decide) (by decide) ?_
                      refine x_bipush (dat d_Mo_wordOf 127 rfl) (by decide) (by decide) ?_
                      refine x_iconst (dat d_Mo_wordOf 128 rfl) (by decide) ?_
                      refine x_bipush (dat d_Mo_wordOf 129 rfl) (by decide) (by decide) ?_
                      refine x_bipush (dat d_Mo_wordOf 130 rfl) (by decide) (by decide) ?_
                      refine x_iconst (dat d_Mo_wordOf 131 rfl) (by decide) ?_
                      refine x_bipush (dat d_Mo_wordOf 132 rfl) (by decide) (by decide) ?_
                      refine x_invs (As := [vI 0, vI 17, vI 21, vI 1, vI 18, vI 18, vI 5, vI 12]) (dat d_Mo_wordOf 133 rfl) rfl c_Mo_eight l_Mo_91 (by decide) rfl rfl (Nat.le_of_ble_eq_true rfl) ?_
                      refine sp_Mo_eight (v := 18959911084) (by decide) (by decide) (by decide) (by decide) (by decide) (by decide) (by decide) (by decide) (by decide) ?_
                      show Wx g y_Mo_wordOf Z K 219 [vL v, vU] [vL 18959911084, vL v] σ
                      refine x_lcmp (dat d_Mo_wordOf 134 rfl) (fun r_219 e_219 b_219 => ?_)
                      refine x_if_ne (tgt := 226) (dat d_Mo_wordOf 135 rfl) (by decide) (fun c_220 => ?_) (fun c_220 => ?_)
                      · have u_219 : ¬ v = 18959911084 := fun h => by have := e_219.mpr h; omega
                        clear e_219 b_219 c_220 r_219
                        refine x_lload_n (dat d_Mo_wordOf 138 rfl) rfl rfl ?_
                        refine x_bipush (dat d_Mo_wordOf 139 rfl) (by decide) (by decide) ?_
                        refine x_bipush (dat d_Mo_wordOf 140 rfl) (by decide) (by decide) ?_
                        refine x_bipush (dat d_Mo_wordOf 141 rfl) (by decide) (by decide) ?_
                        refine x_iconst (dat d_Mo_wordOf 142 rfl) (by decide) ?_
                        refine x_invs (As := [vI 13, vI 15, vI 18, vI 5]) (dat d_Mo_wordOf 143 rfl) rfl c_Mo_four l_Mo_85 (by decide) rfl rfl (Nat.le_of_ble_eq_true rfl) ?_
                        refine sp_Mo_four (v := 441925) (by decide) (by decide) (by decide) (by decide) (by decide) ?_
                        show Wx g y_Mo_wordOf Z K 237 [vL v, vU] [vL 441925, vL v] σ
                        refine x_lcmp (dat d_Mo_wordOf 144 rfl) (fun r_237 e_237 b_237 => ?_)
                        refine x_if_ne (tgt := 244) (dat d_Mo_wordOf 145 rfl) (by decide) (fun c_238 => ?_) (fun c_238 => ?_)
                        · have u_237 : ¬ v = 441925 := fun h => by have := e_237.mpr h; omega
                          clear e_237 b_237 c_238 r_237
                          refine x_lload_n (dat d_Mo_wordOf 148 rfl) rfl rfl ?_
                          refine x_iconst (dat d_Mo_wordOf 149 rfl) (by decide) ?_
                          refine x_iconst (dat d_Mo_wordOf 150 rfl) (by decide) ?_
                          refine x_iconst (dat d_Mo_wordOf 151 rfl) (by decide) ?_
                          refine x_bipush (dat d_Mo_wordOf 152 rfl) (by decide) (by decide) ?_
                          refine x_bipush (dat d_Mo_wordOf 153 rfl) (by decide) (by decide) ?_
                          refine x_bipush (dat d_Mo_wordOf 154 rfl) (by decide) (by decide) ?_
                          refine x_bipush (dat d_Mo_wordOf 155 rfl) (by decide) (by decide) ?_
                          refine x_bipush (dat d_Mo_wordOf 156 rfl) (by decide) (by decide) ?_
                          refine x_invs (As := [vI 0, vI 0, vI 0, vI 6, vI 9, vI 18, vI 19, vI 20]) (dat d_Mo_wordOf 157 rfl) rfl c_Mo_eight l_Mo_91 (by decide) rfl rfl (Nat.le_of_ble_eq_true rfl) ?_
                          refine sp_Mo_eight (v := 6605428) (by decide) (by decide) (by decide) (by decide) (by decide) (by decide) (by decide) (by decide) (by decide) ?_
                          show Wx g y_Mo_wordOf Z K 261 [vL v, vU] [vL 6605428, vL v] σ
                          refine x_lcmp (dat d_Mo_wordOf 158 rfl) (fun r_261 e_261 b_261 => ?_)
                          refine x_if_ne (tgt := 268) (dat d_Mo_wordOf 159 rfl) (by decide) (fun c_262 => ?_) (fun c_262 => ?_)
                          · have u_261 : ¬ v = 6605428 := fun h => by have := e_261.mpr h; omega
                            clear e_261 b_261 c_262 r_261
                            refine x_lload_n (dat d_Mo_wordOf 162 rfl) rfl rfl ?_
                            refine x_bipush (dat d_Mo_wordOf 163 rfl) (by decide) (by decide) ?_
                            refine x_iconst (dat d_Mo_wordOf 164 rfl) (by decide) ?_
                            refine x_bipush (dat d_Mo_wordOf 165 rfl) (by decide) (by decide) ?_
                            refine x_bipush (dat d_Mo_wordOf 166 rfl) (by decide) (by decide) ?_
                            refine x_invs (As := [vI 12, vI 5, vI 19, vI 19]) (dat d_Mo_wordOf 167 rfl) rfl c_Mo_four l_Mo_85 (by decide) rfl rfl (Nat.le_of_ble_eq_true rfl) ?_
                            refine sp_Mo_four (v := 398963) (by decide) (by decide) (by decide) (by decide) (by decide) ?_
                            show Wx g y_Mo_wordOf Z K 279 [vL v, vU] [vL 398963, vL v] σ
                            refine x_lcmp (dat d_Mo_wordOf 168 rfl) (fun r_279 e_279 b_279 => ?_)
                            refine x_if_ne (tgt := 286) (dat d_Mo_wordOf 169 rfl) (by decide) (fun c_280 => ?_) (fun c_280 => ?_)
                            · have u_279 : ¬ v = 398963 := fun h => by have := e_279.mpr h; omega
                              clear e_279 b_279 c_280 r_279
                              refine x_lload_n (dat d_Mo_wordOf 172 rfl) rfl rfl ?_
                              refine x_bipush (dat d_Mo_wordOf 173 rfl) (by decide) (by decide) ?_
                              refine x_iconst (dat d_Mo_wordOf 174 rfl) (by decide) ?_
                              refine x_bipush (dat d_Mo_wordOf 175 rfl) (by decide) (by decide) ?_
                              refine x_bipush (dat d_Mo_wordOf 176 rfl) (by decide) (by decide) ?_
                              refine x_invs (As := [vI 12, vI 1, vI 19, vI 20]) (dat d_Mo_wordOf 177 rfl) rfl c_Mo_four l_Mo_85 (by decide) rfl rfl (Nat.le_of_ble_eq_true rfl) ?_
                              refine sp_Mo_four (v := 394868) (by decide) (by decide) (by decide) (by decide) (by decide) ?_
                              show Wx g y_Mo_wordOf Z K 297 [vL v, vU] [vL 394868, vL v] σ
                              refine x_lcmp (dat d_Mo_wordOf 178 rfl) (fun r_297 e_297 b_297 => ?_)
                              refine x_if_ne (tgt := 304) (dat d_Mo_wordOf 179 rfl) (by decide) (fun c_298 => ?_) (fun c_298 => ?_)
                              · have u_297 : ¬ v = 394868 := fun h => by have := e_297.mpr h; omega
                                clear e_297 b_297 c_298 r_297
                                refine x_lload_n (dat d_Mo_wordOf 182 rfl) rfl rfl ?_
                                refine x_iconst (dat d_Mo_wordOf 183 rfl) (by decide) ?_
                                refine x_iconst (dat d_Mo_wordOf 184 rfl) (by decide) ?_
                                refine x_bipush (dat d_Mo_wordOf 185 rfl) (by decide) (by decide) ?_
                                refine x_bipush (dat d_Mo_wordOf 186 rfl) (by decide) (by decide) ?_
                                refine x_iconst (dat d_Mo_wordOf 187 rfl) (by decide) ?_
                                refine x_bipush (dat d_Mo_wordOf 188 rfl) (by decide) (by decide) ?_
                                refine x_iconst (dat d_Mo_wordOf 189 rfl) (by decide) ?_
                                refine x_bipush (dat d_Mo_wordOf 190 rfl) (by decide) (by decide) ?_
                                refine x_invs (As := [vI 0, vI 0, vI 16, vI 15, vI 3, vI 11, vI 5, vI 20]) (dat d_Mo_wordOf 191 rfl) rfl c_Mo_eight l_Mo_91 (by decide) rfl rfl (Nat.le_of_ble_eq_true rfl) ?_
                                refine sp_Mo_eight (v := 552709300) (by decide) (by decide) (by decide) (by decide) (by decide) (by decide) (by decide) (by decide) (by decide) ?_
                                show Wx g y_Mo_wordOf Z K 320 [vL v, vU] [vL 552709300, vL v] σ
                                refine x_lcmp (dat d_Mo_wordOf 192 rfl) (fun r_320 e_320 b_320 => ?_)
                                refine x_if_ne (tgt := 329) (dat d_Mo_wordOf 193 rfl) (by decide) (fun c_321 => ?_) (fun c_321 => ?_)
                                · have u_320 : ¬ v = 552709300 := fun h => by have := e_320.mpr h; omega
                                  clear e_320 b_320 c_321 r_320
                                  refine x_bipush (dat d_Mo_wordOf 196 rfl) (by decide) (by decide) ?_
                                  refine x_iret (dat d_Mo_wordOf 197 rfl) rfl ?_
                                  first
                                  | exact kk _ (by rw [uq]; decide)
                                  | exact kk _ (by unfold wdK; rw [if_neg u_11, if_neg u_27, if_neg u_50, if_neg u_65, if_neg u_87, if_neg u_110, if_neg u_128, if_neg u_151, if_neg u_173, if_neg u_195, if_neg u_219, if_neg u_237, if_neg u_261, if_neg u_279, if_neg u_297, if_neg u_320])
                                · have uq : v = 552709300 := e_320.mp (by omega)
                                  refine x_bipush (dat d_Mo_wordOf 194 rfl) (by decide) (by decide) ?_
                                  refine x_goto (tgt := 331) (dat d_Mo_wordOf 195 rfl) (by decide) ?_
                                  refine x_iret (dat d_Mo_wordOf 197 rfl) rfl ?_
                                  first
                                  | exact kk _ (by rw [uq]; decide)
                                  | exact kk _ (by unfold wdK; rw [if_neg u_11, if_neg u_27, if_neg u_50, if_neg u_65, if_neg u_87, if_neg u_110, if_neg u_128, if_neg u_151, if_neg u_173, if_neg u_195, if_neg u_219, if_neg u_237, if_neg u_261, if_neg u_279, if_neg u_297, if_neg u_320])
                              · have uq : v = 394868 := e_297.mp (by omega)
                                refine x_bipush (dat d_Mo_wordOf 180 rfl) (by decide) (by decide) ?_
                                refine x_iret (dat d_Mo_wordOf 181 rfl) rfl ?_
                                first
                                | exact kk _ (by rw [uq]; decide)
                                | exact kk _ (by unfold wdK; rw [if_neg u_11, if_neg u_27, if_neg u_50, if_neg u_65, if_neg u_87, if_neg u_110, if_neg u_128, if_neg u_151, if_neg u_173, if_neg u_195, if_neg u_219, if_neg u_237, if_neg u_261, if_neg u_279, if_neg u_297, if_neg u_320])
                            · have uq : v = 398963 := e_279.mp (by omega)
                              refine x_bipush (dat d_Mo_wordOf 170 rfl) (by decide) (by decide) ?_
                              refine x_iret (dat d_Mo_wordOf 171 rfl) rfl ?_
                              first
                              | exact kk _ (by rw [uq]; decide)
                              | exact kk _ (by unfold wdK; rw [if_neg u_11, if_neg u_27, if_neg u_50, if_neg u_65, if_neg u_87, if_neg u_110, if_neg u_128, if_neg u_151, if_neg u_173, if_neg u_195, if_neg u_219, if_neg u_237, if_neg u_261, if_neg u_279, if_neg u_297, if_neg u_320])
                          · have uq : v = 6605428 := e_261.mp (by omega)
                            refine x_bipush (dat d_Mo_wordOf 160 rfl) (by decide) (by decide) ?_
                            refine x_iret (dat d_Mo_wordOf 161 rfl) rfl ?_
                            first
                            | exact kk _ (by rw [uq]; decide)
                            | exact kk _ (by unfold wdK; rw [if_neg u_11, if_neg u_27, if_neg u_50, if_neg u_65, if_neg u_87, if_neg u_110, if_neg u_128, if_neg u_151, if_neg u_173, if_neg u_195, if_neg u_219, if_neg u_237, if_neg u_261, if_neg u_279, if_neg u_297, if_neg u_320])
                        · have uq : v = 441925 := e_237.mp (by omega)
                          refine x_bipush (dat d_Mo_wordOf 146 rfl) (by decide) (by decide) ?_
                          refine x_iret (dat d_Mo_wordOf 147 rfl) rfl ?_
                          first
                          | exact kk _ (by rw [uq]; decide)
                          | exact kk _ (by unfold wdK; rw [if_neg u_11, if_neg u_27, if_neg u_50, if_neg u_65, if_neg u_87, if_neg u_110, if_neg u_128, if_neg u_151, if_neg u_173, if_neg u_195, if_neg u_219, if_neg u_237, if_neg u_261, if_neg u_279, if_neg u_297, if_neg u_320])
                      · have uq : v = 18959911084 := e_219.mp (by omega)
                        refine x_bipush (dat d_Mo_wordOf 136 rfl) (by decide) (by decide) ?_
                        refine x_iret (dat d_Mo_wordOf 137 rfl) rfl ?_
                        first
                        | exact kk _ (by rw [uq]; decide)
                        | exact kk _ (by unfold wdK; rw [if_neg u_11, if_neg u_27, if_neg u_50, if_neg u_65, if_neg u_87, if_neg u_110, if_neg u_128, if_neg u_151, if_neg u_173, if_neg u_195, if_neg u_219, if_neg u_237, if_neg u_261, if_neg u_279, if_neg u_297, if_neg u_320])
                    · have uq : v = 6050369 := e_195.mp (by omega)
                      refine x_bipush (dat d_Mo_wordOf 122 rfl) (by decide) (by decide) ?_
                      refine x_iret (dat d_Mo_wordOf 123 rfl) rfl ?_
                      first
                      | exact kk _ (by rw [uq]; decide)
                      | exact kk _ (by unfold wdK; rw [if_neg u_11, if_neg u_27, if_neg u_50, if_neg u_65, if_neg u_87, if_neg u_110, if_neg u_128, if_neg u_151, if_neg u_173, if_neg u_195, if_neg u_219, if_neg u_237, if_neg u_261, if_neg u_279, if_neg u_297, if_neg u_320])
                  · have uq : v = 187237828 := e_173.mp (by omega)
                    refine x_bipush (dat d_Mo_wordOf 108 rfl) (by decide) (by decide) ?_
                    refine x_iret (dat d_Mo_wordOf 109 rfl) rfl ?_
                    first
                    | exact kk _ (by rw [uq]; decide)
                    | exact kk _ (by unfold wdK; rw [if_neg u_11, if_neg u_27, if_neg u_50, if_neg u_65, if_neg u_87, if_neg u_110, if_neg u_128, if_neg u_151, if_neg u_173, if_neg u_195, if_neg u_219, if_neg u_237, if_neg u_261, if_neg u_279, if_neg u_297, if_neg u_320])
                · have uq : v = 247978148 := e_151.mp (by omega)
                  refine x_bipush (dat d_Mo_wordOf 94 rfl) (by decide) (by decide) ?_
                  refine x_iret (dat d_Mo_wordOf 95 rfl) rfl ?_
                  first
                  | exact kk _ (by rw [uq]; decide)
                  | exact kk _ (by unfold wdK; rw [if_neg u_11, if_neg u_27, if_neg u_50, if_neg u_65, if_neg u_87, if_neg u_110, if_neg u_128, if_neg u_151, if_neg u_173, if_neg u_195, if_neg u_219, if_neg u_237, if_neg u_261, if_neg u_279, if_neg u_297, if_neg u_320])
              · have uq : v = 19737 := e_128.mp (by omega)
                refine x_bipush (dat d_Mo_wordOf 80 rfl) (by decide) (by decide) ?_
                refine x_iret (dat d_Mo_wordOf 81 rfl) rfl ?_
                first
                | exact kk _ (by rw [uq]; decide)
                | exact kk _ (by unfold wdK; rw [if_neg u_11, if_neg u_27, if_neg u_50, if_neg u_65, if_neg u_87, if_neg u_110, if_neg u_128, if_neg u_151, if_neg u_173, if_neg u_195, if_neg u_219, if_neg u_237, if_neg u_261, if_neg u_279, if_neg u_297, if_neg u_320])
            · have uq : v = 553002629 := e_110.mp (by omega)
              refine x_bipush (dat d_Mo_wordOf 70 rfl) (by decide) (by decide) ?_
              refine x_iret (dat d_Mo_wordOf 71 rfl) rfl ?_
              first
              | exact kk _ (by rw [uq]; decide)
              | exact kk _ (by unfold wdK; rw [if_neg u_11, if_neg u_27, if_neg u_50, if_neg u_65, if_neg u_87, if_neg u_110, if_neg u_128, if_neg u_151, if_neg u_173, if_neg u_195, if_neg u_219, if_neg u_237, if_neg u_261, if_neg u_279, if_neg u_297, if_neg u_320])
          · have uq : v = 17171758 := e_87.mp (by omega)
            refine x_iconst (dat d_Mo_wordOf 56 rfl) (by decide) ?_
            refine x_iret (dat d_Mo_wordOf 57 rfl) rfl ?_
            first
            | exact kk _ (by rw [uq]; decide)
            | exact kk _ (by unfold wdK; rw [if_neg u_11, if_neg u_27, if_neg u_50, if_neg u_65, if_neg u_87, if_neg u_110, if_neg u_128, if_neg u_151, if_neg u_173, if_neg u_195, if_neg u_219, if_neg u_237, if_neg u_261, if_neg u_279, if_neg u_297, if_neg u_320])
        · have uq : v = 5172 := e_65.mp (by omega)
          refine x_iconst (dat d_Mo_wordOf 42 rfl) (by decide) ?_
          refine x_iret (dat d_Mo_wordOf 43 rfl) rfl ?_
          first
          | exact kk _ (by rw [uq]; decide)
          | exact kk _ (by unfold wdK; rw [if_neg u_11, if_neg u_27, if_neg u_50, if_neg u_65, if_neg u_87, if_neg u_110, if_neg u_128, if_neg u_151, if_neg u_173, if_neg u_195, if_neg u_219, if_neg u_237, if_neg u_261, if_neg u_279, if_neg u_297, if_neg u_320])
      · have uq : v = 8902227 := e_50.mp (by omega)
        refine x_iconst (dat d_Mo_wordOf 32 rfl) (by decide) ?_
        refine x_iret (dat d_Mo_wordOf 33 rfl) rfl ?_
        first
        | exact kk _ (by rw [uq]; decide)
        | exact kk _ (by unfold wdK; rw [if_neg u_11, if_neg u_27, if_neg u_50, if_neg u_65, if_neg u_87, if_neg u_110, if_neg u_128, if_neg u_151, if_neg u_173, if_neg u_195, if_neg u_219, if_neg u_237, if_neg u_261, if_neg u_279, if_neg u_297, if_neg u_320])
    · have uq : v = 12343 := e_27.mp (by omega)
      refine x_iconst (dat d_Mo_wordOf 18 rfl) (by decide) ?_
      refine x_iret (dat d_Mo_wordOf 19 rfl) rfl ?_
      first
      | exact kk _ (by rw [uq]; decide)
      | exact kk _ (by unfold wdK; rw [if_neg u_11, if_neg u_27, if_neg u_50, if_neg u_65, if_neg u_87, if_neg u_110, if_neg u_128, if_neg u_151, if_neg u_173, if_neg u_195, if_neg u_219, if_neg u_237, if_neg u_261, if_neg u_279, if_neg u_297, if_neg u_320])
  · have uq : v = 632645 := e_11.mp (by omega)
    refine x_iconst (dat d_Mo_wordOf 8 rfl) (by decide) ?_
    refine x_iret (dat d_Mo_wordOf 9 rfl) rfl ?_
    first
    | exact kk _ (by rw [uq]; decide)
    | exact kk _ (by unfold wdK; rw [if_neg u_11, if_neg u_27, if_neg u_50, if_neg u_65, if_neg u_87, if_neg u_110, if_neg u_128, if_neg u_151, if_neg u_173, if_neg u_195, if_neg u_219, if_neg u_237, if_neg u_261, if_neg u_279, if_neg u_297, if_neg u_320])
theorem wdD_lt {d : Nat → Int} : ∀ k : Nat, (∀ j : Nat, j < k → 1 ≤ d j ∧ d j ≤ 26) → 0 ≤ wdD d k ∧ wdD d k < ((32 ^ k : Nat) : Int)
  | 0, _ => ⟨Int.le_refl 0, Int.zero_lt_one⟩
  | k + 1, h => by
    have h1 := wdD_lt k (fun j q => h j (by omega))
    have h2 := h k (by omega)
    have e : ((32 ^ (k + 1) : Nat) : Int) = ((32 ^ k : Nat) : Int) * 32 := by rw [Nat.pow_succ]; rfl
    simp only [wdD]
    omega
theorem p32 : ∀ k : Nat, k ≤ 8 → ((32 ^ k : Nat) : Int) ≤ 1099511627776 := by decide
theorem tk_end {q : Int} (h : n ≤ q) : tkK T n q = 0 ∧ tkN T n q = q := ⟨if_pos h, if_pos h⟩
theorem tk_let {q : Int} (h : q < n) (hl : cLt (T q) = true) : tkK T n q = (if wrd T n q = 99 then 4 else 3) ∧ tkN T n q = rn cLt T n q := by
  have := cLt_iff.mp hl
  have h0 : ¬ n ≤ q := by omega
  have h1 : ¬ T q = 59 := by omega
  refine ⟨?_, ?_⟩
  · unfold tkK
    rw [if_neg h0, if_neg h1, if_pos hl]
  · unfold tkN
    rw [if_neg h0, if_neg h1, if_pos hl]
theorem tk_dig {q : Int} (h : q < n) (hd : cDg (T q) = true) : tkK T n q = (if rn cDg T n q - q ≤ 2 then 1 else 4) ∧ tkN T n q = rn cDg T n q := by
  have h3 := cDg_iff.mp hd
  have h2 : ¬ cLt (T q) = true := fun w => by have := cLt_iff.mp w; omega
  have h0 : ¬ n ≤ q := by omega
  have h1 : ¬ T q = 59 := by omega
  refine ⟨?_, ?_⟩
  · unfold tkK
    rw [if_neg h0, if_neg h1, if_neg h2]
    exact ite_cg ⟨fun w => w.2, fun w => ⟨hd, w⟩⟩
  · unfold tkN
    rw [if_neg h0, if_neg h1, if_neg h2, if_pos hd]
theorem tk_oth {q : Int} (h : q < n) (hl : ¬ cLt (T q) = true) (hd : ¬ cDg (T q) = true) : tkK T n q = (if T q = 59 then 2 else 4) ∧ tkN T n q = q + 1 := by
  have h0 : ¬ n ≤ q := by omega
  refine ⟨?_, ?_⟩
  · unfold tkK
    rw [if_neg h0]
    by_cases z : T q = 59
    · rw [if_pos z, if_pos z]
    · rw [if_neg z, if_neg z, if_neg hl, if_neg (fun w => hd w.1)]
  · unfold tkN
    rw [if_neg h0, if_neg hl, if_neg hd]
    split <;> rfl
theorem bt_lt {p : Int} (h : p < n) : bt T n p = T p := if_pos h
theorem bt_ge {p : Int} (h : ¬ p < n) : bt T n p = -1 := if_neg h
theorem bt_bd {p : Int} (H : RtM σ T n) (p0 : 0 ≤ p) : -1 ≤ bt T n p ∧ bt T n p ≤ 255 := by
  unfold bt
  split
  · rename_i h
    have := (H.2.2 p p0 h).1
    omega
  · omega
/-- the letters of a word -/
theorem lp_Mo_lets {Z : xZ} {q c : Int} (q0 : 0 ≤ q) (k : ∀ (σ' : xS) (v : Int) (w3 : MV), (rn cLt T n q - q ≤ 8 → v = wdD (tdD T q) (rn cLt T n q - q).toNat) → RtM σ' T n → σ' 174 3 = rn cLt T n q → σ' 174 4 = q → AvF σ' σ0 → Wx g y_Mo_advance Z K 138 [vR 174, vI c, vL v, w3] [] σ') : ∀ (d j : Nat) (σ1 : xS) (v : Int) (w3 : MV), q + j + d = n → (∀ i : Nat, i < j → cLt (T (q + i)) = true) → rn cLt T n (q + j) = rn cLt T n q → (v = wdD (tdD T q) (if j < 8 then j else 8)) → RtM σ1 T n → σ1 174 3 = q + j → σ1 174 4 = q → AvF σ1 σ0 → Wx g y_Mo_advance Z K 77 [vR 174, vI c, vL v, w3] [] σ1 := by
  intro d
  induction d with
  | zero =>
    intro j σ1 v w3 hd hj hr hv H e3 e4 F
    have hn := H.2.1
    have hs : rn cLt T n (q + j) = q + j := rn_st (fun w => by have := w.1; omega)
    have hb : bt T n (q + j) = -1 := bt_ge (by omega)
    refine x_aload_n (dat d_Mo_advance 39 rfl) rfl rfl ?_
    refine x_aload_n (dat d_Mo_advance 40 rfl) rfl rfl ?_
    refine x_geti (ji := 3) (v := q + (j : Int)) (dat d_Mo_advance 41 rfl) rfl f_Mo_95 (oi_mk (by decide +kernel)) (e3) ?_
    refine x_inv (As := [vI (q + (j : Int))]) (dat d_Mo_advance 42 rfl) rfl c_Mo_byteAt l_Mo_98 (by decide) (rv_mo (by decide +kernel)) rfl rfl (Nat.le_of_ble_eq_true rfl) ?_
    refine sp_Mo_byteAt H (by omega) (by omega) ?_
    rw [hb]
    show Wx g y_Mo_advance Z K 85 [vR 174, vI c, vL v, w3] [vI (-1)] σ1
    refine x_invs (As := [vI (-1)]) (dat d_Mo_advance 43 rfl) rfl c_Mo_isLetter l_Mo_108 (by decide) rfl rfl (Nat.le_of_ble_eq_true rfl) ?_
    refine sp_Mo_isLetter (fun w => absurd w (by decide)) (fun _ => ?_)
    show Wx g y_Mo_advance Z K 88 [vR 174, vI c, vL v, w3] [vI 0] σ1
    refine x_if_eq (tgt := 138) (dat d_Mo_advance 44 rfl) (by decide) (fun c_88 => ?_) (fun h => absurd h (by decide))
    refine k σ1 v _ (fun w => ?_) H (by rw [e3, ← hr, hs]) e4 F
    rw [← hr, hs] at w ⊢
    rw [hv]
    congr 1
    split <;> omega
  | succ d ih =>
    intro j σ1 v w3 hd hj hr hv H e3 e4 F
    have hn := H.2.1
    have hb : bt T n (q + j) = T (q + j) := bt_lt (by omega)
    have tb := (H.2.2 (q + j) (by omega) (by omega)).1
    have vb := wdD_lt (d := tdD T q) (if j < 8 then j else 8) (fun i hi => by
      have := cLt_iff.mp (hj i (by split at hi <;> omega))
      unfold tdD
      omega)
    have pb := p32 (if j < 8 then j else 8) (by split <;> omega)
    rw [← hv] at vb
    by_cases hl : cLt (T (q + j)) = true
    · have hl2 := cLt_iff.mp hl
      have hg := rn_go (f := cLt) (T := T) (n := n) (p := q + j) (by omega) hl
      have e1 : q + ((j + 1 : Nat) : Int) = q + j + 1 := by omega
      have nx : ∀ (σ2 : xS) (v' : Int) (w3 : MV), v' = wdD (tdD T q) (if j + 1 < 8 then j + 1 else 8) → RtM σ2 T n → σ2 174 3 = q + (j : Int) + 1 → σ2 174 4 = q → AvF σ2 σ0 → Wx g y_Mo_advance Z K 77 [vR 174, vI c, vL v', w3] [] σ2 := fun σ2 v' w3 g1 g2 g3 g4 g5 => ih (j + 1) σ2 v' w3 (by omega) (fun i hi => by
        by_cases z : i = j
        · rw [z]; exact hl
        · exact hj i (by omega)) (by rw [e1, ← hg, hr]) g1 g2 (by rw [e1]; exact g3) g4 g5
      refine x_aload_n (dat d_Mo_advance 39 rfl) rfl rfl ?_
      refine x_aload_n (dat d_Mo_advance 40 rfl) rfl rfl ?_
      refine x_geti (ji := 3) (v := q + (j : Int)) (dat d_Mo_advance 41 rfl) rfl f_Mo_95 (oi_mk (by decide +kernel)) (e3) ?_
      refine x_inv (As := [vI (q + (j : Int))]) (dat d_Mo_advance 42 rfl) rfl c_Mo_byteAt l_Mo_98 (by decide) (rv_mo (by decide +kernel)) rfl rfl (Nat.le_of_ble_eq_true rfl) ?_
      refine sp_Mo_byteAt H (by omega) (by omega) ?_
      rw [hb]
      show Wx g y_Mo_advance Z K 85 [vR 174, vI c, vL v, w3] [vI (T (q + (j : Int)))] σ1
      refine x_invs (As := [vI (T (q + (j : Int)))]) (dat d_Mo_advance 43 rfl) rfl c_Mo_isLetter l_Mo_108 (by decide) rfl rfl (Nat.le_of_ble_eq_true rfl) ?_
      refine sp_Mo_isLetter (fun _ => ?_) (fun w => absurd hl w)
      show Wx g y_Mo_advance Z K 88 [vR 174, vI c, vL v, w3] [vI 1] σ1
      refine x_if_eq (tgt := 138) (dat d_Mo_advance 44 rfl) (by decide) (fun h => absurd h (by decide)) (fun c_88 => ?_)
      refine x_aload_n (dat d_Mo_advance 45 rfl) rfl rfl ?_
      refine x_geti (ji := 3) (v := q + (j : Int)) (dat d_Mo_advance 46 rfl) rfl f_Mo_95 (oi_mk (by decide +kernel)) (e3) ?_
      refine x_aload_n (dat d_Mo_advance 47 rfl) rfl rfl ?_
      refine x_geti (ji := 4) (v := q) (dat d_Mo_advance 48 rfl) rfl f_Mo_102 (oi_mk (by decide +kernel)) (e4) ?_
      refine x_isub (v := (j : Int)) (dat d_Mo_advance 49 rfl) (by omega) (by omega) ?_
      refine x_bipush (dat d_Mo_advance 50 rfl) (by decide) (by decide) ?_
      refine x_icmp_ge (tgt := 125) (dat d_Mo_advance 51 rfl) (by decide) (fun c_102 => ?_) (fun c_102 => ?_)
      · refine x_aload_n (dat d_Mo_advance 64 rfl) rfl rfl ?_
        refine x_dup (dat d_Mo_advance 65 rfl) rfl ?_
        refine x_geti (ji := 3) (v := q + (j : Int)) (dat d_Mo_advance 66 rfl) rfl f_Mo_95 (oi_mk (by decide +kernel)) (e3) ?_
        refine x_iconst (dat d_Mo_advance 67 rfl) (by decide) ?_
        refine x_iadd (v := (q + (j : Int)) + 1) (dat d_Mo_advance 68 rfl) rfl (by omega) ?_
        refine x_puti (ji := 3) (x := ((q + (j : Int)) + 1)) (dat d_Mo_advance 69 rfl) rfl f_Mo_95w (oi_mk (by decide +kernel)) (fun h => absurd h (by decide)) (by decide) ?_
        refine x_goto (tgt := 77) (dat d_Mo_advance 70 rfl) (by decide) ?_
        have F2 : AvF (up σ1 174 3 (q + (j : Int) + 1)) σ0 := F.put (by decide) (by decide)
        refine nx _ _ _ ?_ (H.same ((AvF.rfl σ1).put (by decide) (by decide))) up_s (by rw [up_ni (by decide)]; exact e4) F2
        first
        | (rw [hv, if_neg (by omega), if_neg (by omega)]; done)
        | (have jj : j < 8 := by omega
           rw [if_pos jj] at hv
           rw [show (if j + 1 < 8 then j + 1 else 8) = j + 1 by split <;> omega, hv]
           show _ = 32 * wdD (tdD T q) j + (T (q + (j : Int)) - 96)
           omega)
      · refine x_ldc2 (own := "ShakenBreadModel") (n := 32) (dat d_Mo_advance 52 rfl) rfl (gw_7 (i := 58) rfl rfl) (by decide) ?_
        refine x_lload_n (dat d_Mo_advance 53 rfl) rfl rfl ?_
        refine x_lmul (v := 32 * v) (dat d_Mo_advance 54 rfl) rfl (by omega) ?_
        refine x_aload_n (dat d_Mo_advance 55 rfl) rfl rfl ?_
        refine x_aload_n (dat d_Mo_advance 56 rfl) rfl rfl ?_
        refine x_geti (ji := 3) (v := q + (j : Int)) (dat d_Mo_advance 57 rfl) rfl f_Mo_95 (oi_mk (by decide +kernel)) (e3) ?_
        refine x_inv (As := [vI (q + (j : Int))]) (dat d_Mo_advance 58 rfl) rfl c_Mo_byteAt l_Mo_98 (by decide) (rv_mo (by decide +kernel)) rfl rfl (Nat.le_of_ble_eq_true rfl) ?_
        refine sp_Mo_byteAt H (by omega) (by omega) ?_
        rw [hb]
        show Wx g y_Mo_advance Z K 118 [vR 174, vI c, vL v, w3] [vI (T (q + (j : Int))), vL (32 * v)] σ1
        refine x_i2l (dat d_Mo_advance 59 rfl) ?_
        refine x_ladd (v := (32 * v) + (T (q + (j : Int)))) (dat d_Mo_advance 60 rfl) rfl (by omega) ?_
        refine x_ldc2 (own := "ShakenBreadModel") (n := 96) (dat d_Mo_advance 61 rfl) rfl (gw_7 (i := 59) rfl rfl) (by decide) ?_
        refine x_lsub (v := ((32 * v) + (T (q + (j : Int)))) - 96) (dat d_Mo_advance 62 rfl) rfl (by omega) ?_
        refine x_lstore_n (L' := [vR 174, vI c, vL (((32 * v) + (T (q + (j : Int)))) - 96), vU]) (dat d_Mo_advance 63 rfl) rfl (by decide) rfl rfl ?_
        refine x_aload_n (dat d_Mo_advance 64 rfl) rfl rfl ?_
        refine x_dup (dat d_Mo_advance 65 rfl) rfl ?_
        refine x_geti (ji := 3) (v := q + (j : Int)) (dat d_Mo_advance 66 rfl) rfl f_Mo_95 (oi_mk (by decide +kernel)) (e3) ?_
        refine x_iconst (dat d_Mo_advance 67 rfl) (by decide) ?_
        refine x_iadd (v := (q + (j : Int)) + 1) (dat d_Mo_advance 68 rfl) rfl (by omega) ?_
        refine x_puti (ji := 3) (x := ((q + (j : Int)) + 1)) (dat d_Mo_advance 69 rfl) rfl f_Mo_95w (oi_mk (by decide +kernel)) (fun h => absurd h (by decide)) (by decide) ?_
        refine x_goto (tgt := 77) (dat d_Mo_advance 70 rfl) (by decide) ?_
        have F2 : AvF (up σ1 174 3 (q + (j : Int) + 1)) σ0 := F.put (by decide) (by decide)
        refine nx _ _ _ ?_ (H.same ((AvF.rfl σ1).put (by decide) (by decide))) up_s (by rw [up_ni (by decide)]; exact e4) F2
        first
        | (rw [hv, if_neg (by omega), if_neg (by omega)]; done)
        | (have jj : j < 8 := by omega
           rw [if_pos jj] at hv
           rw [show (if j + 1 < 8 then j + 1 else 8) = j + 1 by split <;> omega, hv]
           show _ = 32 * wdD (tdD T q) j + (T (q + (j : Int)) - 96)
           omega)
    · have hs : rn cLt T n (q + j) = q + j := rn_st (fun w => hl w.2)
      refine x_aload_n (dat d_Mo_advance 39 rfl) rfl rfl ?_
      refine x_aload_n (dat d_Mo_advance 40 rfl) rfl rfl ?_
      refine x_geti (ji := 3) (v := q + (j : Int)) (dat d_Mo_advance 41 rfl) rfl f_Mo_95 (oi_mk (by decide +kernel)) (e3) ?_
      refine x_inv (As := [vI (q + (j : Int))]) (dat d_Mo_advance 42 rfl) rfl c_Mo_byteAt l_Mo_98 (by decide) (rv_mo (by decide +kernel)) rfl rfl (Nat.le_of_ble_eq_true rfl) ?_
      refine sp_Mo_byteAt H (by omega) (by omega) ?_
      rw [hb]
      show Wx g y_Mo_advance Z K 85 [vR 174, vI c, vL v, w3] [vI (T (q + (j : Int)))] σ1
      refine x_invs (As := [vI (T (q + (j : Int)))]) (dat d_Mo_advance 43 rfl) rfl c_Mo_isLetter l_Mo_108 (by decide) rfl rfl (Nat.le_of_ble_eq_true rfl) ?_
      refine sp_Mo_isLetter (fun w => absurd w hl) (fun _ => ?_)
      show Wx g y_Mo_advance Z K 88 [vR 174, vI c, vL v, w3] [vI 0] σ1
      refine x_if_eq (tgt := 138) (dat d_Mo_advance 44 rfl) (by decide) (fun c_88 => ?_) (fun h => absurd h (by decide))
      refine k σ1 v _ (fun w => ?_) H (by rw [e3, ← hr, hs]) e4 F
      rw [← hr, hs] at w ⊢
      rw [hv]
      congr 1
      split <;> omega
/-- the digits of a number -/
theorem lp_Mo_digs {Z : xZ} {q c : Int} {w2 w3 : MV} (q0 : 0 ≤ q) (k : ∀ σ' : xS, σ' 174 6 = numP T q (rn cDg T n q) → RtM σ' T n → σ' 174 3 = rn cDg T n q → σ' 174 4 = q → AvF σ' σ0 → Wx g y_Mo_advance Z K 261 [vR 174, vI c, w2, w3] [] σ') : ∀ (d j : Nat) (σ1 : xS), q + j + d = n → (∀ i : Nat, i < j → cDg (T (q + i)) = true) → rn cDg T n (q + j) = rn cDg T n q → σ1 174 6 = numP T q (q + j) → RtM σ1 T n → σ1 174 3 = q + j → σ1 174 4 = q → AvF σ1 σ0 → Wx g y_Mo_advance Z K 198 [vR 174, vI c, w2, w3] [] σ1 := by
  intro d
  induction d with
  | zero =>
    intro j σ1 hd hj hr e6 H e3 e4 F
    have hn := H.2.1
    have hs : rn cDg T n (q + j) = q + j := rn_st (fun w => by have := w.1; omega)
    have hb : bt T n (q + j) = -1 := bt_ge (by omega)
    refine x_aload_n (dat d_Mo_advance 100 rfl) rfl rfl ?_
    refine x_aload_n (dat d_Mo_advance 101 rfl) rfl rfl ?_
    refine x_geti (ji := 3) (v := q + (j : Int)) (dat d_Mo_advance 102 rfl) rfl f_Mo_95 (oi_mk (by decide +kernel)) (e3) ?_
    refine x_inv (As := [vI (q + (j : Int))]) (dat d_Mo_advance 103 rfl) rfl c_Mo_byteAt l_Mo_98 (by decide) (rv_mo (by decide +kernel)) rfl rfl (Nat.le_of_ble_eq_true rfl) ?_
    refine sp_Mo_byteAt H (by omega) (by omega) ?_
    rw [hb]
    show Wx g y_Mo_advance Z K 206 [vR 174, vI c, w2, w3] [vI (-1)] σ1
    refine x_invs (As := [vI (-1)]) (dat d_Mo_advance 104 rfl) rfl c_Mo_isDigit l_Mo_123 (by decide) rfl rfl (Nat.le_of_ble_eq_true rfl) ?_
    refine sp_Mo_isDigit (fun w => absurd w (by decide)) (fun _ => ?_)
    show Wx g y_Mo_advance Z K 209 [vR 174, vI c, w2, w3] [vI 0] σ1
    refine x_if_eq (tgt := 261) (dat d_Mo_advance 105 rfl) (by decide) (fun c_209 => ?_) (fun h => absurd h (by decide))
    exact k σ1 (by rw [e6, ← hr, hs]) H (by rw [e3, ← hr, hs]) e4 F
  | succ d ih =>
    intro j σ1 hd hj hr e6 H e3 e4 F
    have hn := H.2.1
    have hb : bt T n (q + j) = T (q + j) := bt_lt (by omega)
    by_cases hl : cDg (T (q + j)) = true
    · have hl2 := cDg_iff.mp hl
      have hg := rn_go (f := cDg) (T := T) (n := n) (p := q + j) (by omega) hl
      have e1 : q + ((j + 1 : Nat) : Int) = q + j + 1 := by omega
      have nb : 0 ≤ numP T q (q + j) ∧ numP T q (q + j) ≤ 99 := by
        unfold numP
        split
        · omega
        · split
          · have h0 := cDg_iff.mp (hj 0 (by omega))
            rw [show q + ((0 : Nat) : Int) = q by omega] at h0
            omega
          · have h0 := cDg_iff.mp (hj 0 (by omega))
            have h1 := cDg_iff.mp (hj 1 (by omega))
            rw [show q + ((0 : Nat) : Int) = q by omega] at h0
            rw [show q + ((1 : Nat) : Int) = q + 1 by omega] at h1
            omega
      have n2 : ¬ j < 2 → numP T q (q + j + 1) = numP T q (q + j) := fun z => by
        unfold numP
        rw [if_neg (by omega), if_neg (by omega), if_neg (by omega), if_neg (by omega)]
      have n1 : j < 2 → 10 * numP T q (q + j) + T (q + j) - 48 = numP T q (q + j + 1) := fun z => by
        unfold numP
        by_cases z0 : j = 0
        · rw [if_pos (by omega), if_neg (by omega), if_pos (by omega), z0, show q + ((0 : Nat) : Int) = q by omega]
          omega
        · rw [if_neg (by omega), if_pos (by omega), if_neg (by omega), if_neg (by omega), show (j : Int) = 1 by omega]
          omega
      have nx : ∀ σ2 : xS, σ2 174 6 = numP T q (q + j + 1) → RtM σ2 T n → σ2 174 3 = q + (j : Int) + 1 → σ2 174 4 = q → AvF σ2 σ0 → Wx g y_Mo_advance Z K 198 [vR 174, vI c, w2, w3] [] σ2 := fun σ2 g1 g2 g3 g4 g5 => ih (j + 1) σ2 (by omega) (fun i hi => by
        by_cases z : i = j
        · rw [z]; exact hl
        · exact hj i (by omega)) (by rw [e1, ← hg, hr]) (by rw [e1]; exact g1) g2 (by rw [e1]; exact g3) g4 g5
      clear ih
      refine x_aload_n (dat d_Mo_advance 100 rfl) rfl rfl ?_
      refine x_aload_n (dat d_Mo_advance 101 rfl) rfl rfl ?_
      refine x_geti (ji := 3) (v := q + (j : Int)) (dat d_Mo_advance 102 rfl) rfl f_Mo_95 (oi_mk (by decide +kernel)) (e3) ?_
      refine x_inv (As := [vI (q + (j : Int))]) (dat d_Mo_advance 103 rfl) rfl c_Mo_byteAt l_Mo_98 (by decide) (rv_mo (by decide +kernel)) rfl rfl (Nat.le_of_ble_eq_true rfl) ?_
      refine sp_Mo_byteAt H (by omega) (by omega) ?_
      rw [hb]
      show Wx g y_Mo_advance Z K 206 [vR 174, vI c, w2, w3] [vI (T (q + (j : Int)))] σ1
      refine x_invs (As := [vI (T (q + (j : Int)))]) (dat d_Mo_advance 104 rfl) rfl c_Mo_isDigit l_Mo_123 (by decide) rfl rfl (Nat.le_of_ble_eq_true rfl) ?_
      refine sp_Mo_isDigit (fun _ => ?_) (fun w => absurd hl w)
      show Wx g y_Mo_advance Z K 209 [vR 174, vI c, w2, w3] [vI 1] σ1
      refine x_if_eq (tgt := 261) (dat d_Mo_advance 105 rfl) (by decide) (fun h => absurd h (by decide)) (fun c_209 => ?_)
      refine x_aload_n (dat d_Mo_advance 106 rfl) rfl rfl ?_
      refine x_geti (ji := 3) (v := q + (j : Int)) (dat d_Mo_advance 107 rfl) rfl f_Mo_95 (oi_mk (by decide +kernel)) (e3) ?_
      refine x_aload_n (dat d_Mo_advance 108 rfl) rfl rfl ?_
      refine x_geti (ji := 4) (v := q) (dat d_Mo_advance 109 rfl) rfl f_Mo_102 (oi_mk (by decide +kernel)) (e4) ?_
      refine x_isub (v := (j : Int)) (dat d_Mo_advance 110 rfl) (by omega) (by omega) ?_
      refine x_iconst (dat d_Mo_advance 111 rfl) (by decide) ?_
      refine x_icmp_ge (tgt := 248) (dat d_Mo_advance 112 rfl) (by decide) (fun c_222 => ?_) (fun c_222 => ?_)
      · refine x_aload_n (dat d_Mo_advance 126 rfl) rfl rfl ?_
        refine x_dup (dat d_Mo_advance 127 rfl) rfl ?_
        refine x_geti (ji := 3) (v := q + (j : Int)) (dat d_Mo_advance 128 rfl) rfl f_Mo_95 (oi_mk (by decide +kernel)) (e3) ?_
        refine x_iconst (dat d_Mo_advance 129 rfl) (by decide) ?_
        refine x_iadd (v := (q + (j : Int)) + 1) (dat d_Mo_advance 130 rfl) rfl (by omega) ?_
        refine x_puti (ji := 3) (x := ((q + (j : Int)) + 1)) (dat d_Mo_advance 131 rfl) rfl f_Mo_95w (oi_mk (by decide +kernel)) (fun h => absurd h (by decide)) (by decide) ?_
        refine x_goto (tgt := 198) (dat d_Mo_advance 132 rfl) (by decide) ?_
        first
        | exact nx _ (by rw [up_ni (by decide), e6]; exact (n2 (by omega)).symm) (H.same ((AvF.rfl σ1).put (by decide) (by decide))) up_s (by rw [up_ni (by decide)]; exact e4) (F.put (by decide) (by decide))
        | exact nx _ (by rw [up_ni (by decide), up_s]) (H.same (((AvF.rfl σ1).put (by decide) (by decide)).put (by decide) (by decide))) up_s (by rw [up_ni (by decide), up_ni (by decide)]; exact e4) ((F.put (by decide) (by decide)).put (by decide) (by decide))
      · refine x_aload_n (dat d_Mo_advance 113 rfl) rfl rfl ?_
        refine x_bipush (dat d_Mo_advance 114 rfl) (by decide) (by decide) ?_
        refine x_aload_n (dat d_Mo_advance 115 rfl) rfl rfl ?_
        refine x_geti (ji := 6) (v := numP T q (q + (j : Int))) (dat d_Mo_advance 116 rfl) rfl f_Mo_126 (oi_mk (by decide +kernel)) (e6) ?_
        refine x_imul (v := 10 * (numP T q (q + (j : Int)))) (dat d_Mo_advance 117 rfl) rfl (by omega) ?_
        refine x_aload_n (dat d_Mo_advance 118 rfl) rfl rfl ?_
        refine x_aload_n (dat d_Mo_advance 119 rfl) rfl rfl ?_
        refine x_geti (ji := 3) (v := q + (j : Int)) (dat d_Mo_advance 120 rfl) rfl f_Mo_95 (oi_mk (by decide +kernel)) (e3) ?_
        refine x_inv (As := [vI (q + (j : Int))]) (dat d_Mo_advance 121 rfl) rfl c_Mo_byteAt l_Mo_98 (by decide) (rv_mo (by decide +kernel)) rfl rfl (Nat.le_of_ble_eq_true rfl) ?_
        refine sp_Mo_byteAt H (by omega) (by omega) ?_
        rw [hb]
        show Wx g y_Mo_advance Z K 241 [vR 174, vI c, w2, w3] [vI (T (q + (j : Int))), vI (10 * (numP T q (q + (j : Int)))), vR 174] σ1
        refine x_iadd (v := (10 * (numP T q (q + (j : Int)))) + (T (q + (j : Int)))) (dat d_Mo_advance 122 rfl) rfl (by omega) ?_
        refine x_bipush (dat d_Mo_advance 123 rfl) (by decide) (by decide) ?_
        refine x_isub (v := numP T q (q + (j : Int) + 1)) (dat d_Mo_advance 124 rfl) (by exact n1 (by omega)) (by have := n1 (by omega); omega) ?_
        refine x_puti (ji := 6) (x := (numP T q (q + (j : Int) + 1))) (dat d_Mo_advance 125 rfl) rfl f_Mo_126w (oi_mk (by decide +kernel)) (fun h => absurd h (by decide)) (by decide) ?_
        refine x_aload_n (dat d_Mo_advance 126 rfl) rfl rfl ?_
        refine x_dup (dat d_Mo_advance 127 rfl) rfl ?_
        refine x_geti (ji := 3) (v := q + (j : Int)) (dat d_Mo_advance 128 rfl) rfl f_Mo_95 (oi_mk (by decide +kernel)) ((up_ni (by decide)).trans e3) ?_
        refine x_iconst (dat d_Mo_advance 129 rfl) (by decide) ?_
        refine x_iadd (v := (q + (j : Int)) + 1) (dat d_Mo_advance 130 rfl) rfl (by omega) ?_
        refine x_puti (ji := 3) (x := ((q + (j : Int)) + 1)) (dat d_Mo_advance 131 rfl) rfl f_Mo_95w (oi_mk (by decide +kernel)) (fun h => absurd h (by decide)) (by decide) ?_
        refine x_goto (tgt := 198) (dat d_Mo_advance 132 rfl) (by decide) ?_
        first
        | exact nx _ (by rw [up_ni (by decide), e6]; exact (n2 (by omega)).symm) (H.same ((AvF.rfl σ1).put (by decide) (by decide))) up_s (by rw [up_ni (by decide)]; exact e4) (F.put (by decide) (by decide))
        | exact nx _ (by rw [up_ni (by decide), up_s]) (H.same (((AvF.rfl σ1).put (by decide) (by decide)).put (by decide) (by decide))) up_s (by rw [up_ni (by decide), up_ni (by decide)]; exact e4) ((F.put (by decide) (by decide)).put (by decide) (by decide))
    · have hs : rn cDg T n (q + j) = q + j := rn_st (fun w => hl w.2)
      refine x_aload_n (dat d_Mo_advance 100 rfl) rfl rfl ?_
      refine x_aload_n (dat d_Mo_advance 101 rfl) rfl rfl ?_
      refine x_geti (ji := 3) (v := q + (j : Int)) (dat d_Mo_advance 102 rfl) rfl f_Mo_95 (oi_mk (by decide +kernel)) (e3) ?_
      refine x_inv (As := [vI (q + (j : Int))]) (dat d_Mo_advance 103 rfl) rfl c_Mo_byteAt l_Mo_98 (by decide) (rv_mo (by decide +kernel)) rfl rfl (Nat.le_of_ble_eq_true rfl) ?_
      refine sp_Mo_byteAt H (by omega) (by omega) ?_
      rw [hb]
      show Wx g y_Mo_advance Z K 206 [vR 174, vI c, w2, w3] [vI (T (q + (j : Int)))] σ1
      refine x_invs (As := [vI (T (q + (j : Int)))]) (dat d_Mo_advance 104 rfl) rfl c_Mo_isDigit l_Mo_123 (by decide) rfl rfl (Nat.le_of_ble_eq_true rfl) ?_
      refine sp_Mo_isDigit (fun w => absurd w hl) (fun _ => ?_)
      show Wx g y_Mo_advance Z K 209 [vR 174, vI c, w2, w3] [vI 0] σ1
      refine x_if_eq (tgt := 261) (dat d_Mo_advance 105 rfl) (by decide) (fun c_209 => ?_) (fun h => absurd h (by decide))
      exact k σ1 (by rw [e6, ← hr, hs]) H (by rw [e3, ← hr, hs]) e4 F
/-- a token, its place known -/
theorem lm_Mo_tok {Z : xZ} {q : Int} {w1 w2 w3 : MV} (H : RtM σ T n) (q0 : 0 ≤ q) (q1 : q ≤ n) (e3 : σ 174 3 = q) (k : ∀ σ' : xS, RdM σ' T n q → AvF σ' σ → K none σ') : Wx g y_Mo_advance Z K 39 [vR 174, w1, w2, w3] [] σ := by
  have hn := H.2.1
  have bb := bt_bd (T := T) (p := q) H q0
  have F1 : AvF (up σ 174 4 q) σ := (AvF.rfl σ).put (by decide) (by decide)
  have H1 := H.same F1
  have f3 : up σ 174 4 q 174 3 = q := by rw [up_ni (by decide)]; exact e3
  have bq : q < n → bt T n q = T q := bt_lt
  have bn : ¬ q < n → bt T n q = -1 := bt_ge
  generalize hc : bt T n q = c at bb bq bn
  refine x_aload_n (dat d_Mo_advance 19 rfl) rfl rfl ?_
  refine x_aload_n (dat d_Mo_advance 20 rfl) rfl rfl ?_
  refine x_geti (ji := 3) (v := q) (dat d_Mo_advance 21 rfl) rfl f_Mo_95 (oi_mk (by decide +kernel)) (e3) ?_
  refine x_puti (ji := 4) (x := (q)) (dat d_Mo_advance 22 rfl) rfl f_Mo_102w (oi_mk (by decide +kernel)) (fun h => absurd h (by decide)) (by decide) ?_
  refine x_aload_n (dat d_Mo_advance 23 rfl) rfl rfl ?_
  refine x_aload_n (dat d_Mo_advance 24 rfl) rfl rfl ?_
  refine x_geti (ji := 3) (v := q) (dat d_Mo_advance 25 rfl) rfl f_Mo_95 (oi_mk (by decide +kernel)) ((up_ni (by decide)).trans e3) ?_
  refine x_inv (As := [vI q]) (dat d_Mo_advance 26 rfl) rfl c_Mo_byteAt l_Mo_98 (by decide) (rv_mo (by decide +kernel)) rfl rfl (Nat.le_of_ble_eq_true rfl) ?_
  refine sp_Mo_byteAt H1 q0 q1 ?_
  rw [hc]
  show Wx g y_Mo_advance Z K 55 [vR 174, w1, w2, w3] [vI c] (up σ 174 4 q)
  refine x_istore_n (L' := [vR 174, vI c, w2, w3]) (dat d_Mo_advance 27 rfl) rfl (by decide) rfl rfl ?_
  refine x_iload_n (dat d_Mo_advance 28 rfl) rfl rfl ?_
  refine x_if_ge (tgt := 68) (dat d_Mo_advance 29 rfl) (by decide) (fun c_57 => ?_) (fun c_57 => ?_)
  · refine x_iload_n (dat d_Mo_advance 34 rfl) rfl rfl ?_
    refine x_invs (As := [vI c]) (dat d_Mo_advance 35 rfl) rfl c_Mo_isLetter l_Mo_108 (by decide) rfl rfl (Nat.le_of_ble_eq_true rfl) ?_
    refine sp_Mo_isLetter (fun hl => ?_) (fun hl => ?_)
    · show Wx g y_Mo_advance Z K 72 [vR 174, vI c, w2, w3] [vI 1] (up σ 174 4 q)
      have hq : q < n := by
        by_cases z : q < n
        · exact z
        · have := bn z; omega
      have tq := tk_let (T := T) hq (by rw [← bq hq]; exact hl)
      refine x_if_eq (tgt := 186) (dat d_Mo_advance 36 rfl) (by decide) (fun h => absurd h (by decide)) (fun c_72 => ?_)
      refine x_lconst (v := 0) (dat d_Mo_advance 37 rfl) rfl ?_
      refine x_lstore_n (L' := [vR 174, vI c, vL 0, vU]) (dat d_Mo_advance 38 rfl) rfl (by decide) rfl rfl ?_
      refine lp_Mo_lets (σ0 := up σ 174 4 q) (T := T) (n := n) q0 (fun σ2 v w3 hv H2 g3 g4 F2 => ?_) (n - q).toNat 0 _ 0 _ (by omega) (fun i hi => by omega) (by rw [show q + ((0 : Nat) : Int) = q by omega]) rfl H1 (by rw [f3]; omega) up_s (AvF.rfl _)
      have rg := rn_ge (f := cLt) (T := T) (n := n) q
      have rl := rn_le (f := cLt) (T := T) (n := n) q1
      have wv : rn cLt T n q - q ≤ 8 → wdK v = wrd T n q := fun z => by
        unfold wrd
        rw [if_neg (by omega), hv z]
      have w9 : ¬ rn cLt T n q - q ≤ 8 → 99 = wrd T n q := fun z => by
        unfold wrd
        rw [if_pos (by omega)]
      have F3 := F1.trans F2
      generalize rn cLt T n q = R at tq g3 rg rl wv w9
      refine x_aload_n (dat d_Mo_advance 71 rfl) rfl rfl ?_
      refine x_aload_n (dat d_Mo_advance 72 rfl) rfl rfl ?_
      refine x_geti (ji := 3) (v := R) (dat d_Mo_advance 73 rfl) rfl f_Mo_95 (oi_mk (by decide +kernel)) (g3) ?_
      refine x_aload_n (dat d_Mo_advance 74 rfl) rfl rfl ?_
      refine x_geti (ji := 4) (v := q) (dat d_Mo_advance 75 rfl) rfl f_Mo_102 (oi_mk (by decide +kernel)) (g4) ?_
      refine x_isub (v := R - q) (dat d_Mo_advance 76 rfl) rfl (by omega) ?_
      refine x_bipush (dat d_Mo_advance 77 rfl) (by decide) (by decide) ?_
      refine x_icmp_le (tgt := 158) (dat d_Mo_advance 78 rfl) (by decide) (fun c_150 => ?_) (fun c_150 => ?_)
      · refine x_lload_n (dat d_Mo_advance 81 rfl) rfl rfl ?_
        refine x_invs (As := [vL v]) (dat d_Mo_advance 82 rfl) rfl c_Mo_wordOf l_Mo_116 (by decide) rfl rfl (Nat.le_of_ble_eq_true rfl) ?_
        refine sp_Mo_wordOf ?_
        rw [wv (by omega)]
        show Wx g y_Mo_advance Z K 162 [vR 174, vI c, vL v, w3] [vI (wrd T n q), vR 174] σ2
        refine x_puti (ji := 7) (x := (wrd T n q)) (dat d_Mo_advance 83 rfl) rfl f_Mo_120w (oi_mk (by decide +kernel)) (fun h => absurd h (by decide)) (by decide) ?_
        refine x_aload_n (dat d_Mo_advance 84 rfl) rfl rfl ?_
        refine x_aload_n (dat d_Mo_advance 85 rfl) rfl rfl ?_
        refine x_geti (ji := 7) (v := wrd T n q) (dat d_Mo_advance 86 rfl) rfl f_Mo_120 (oi_mk (by decide +kernel)) (up_s) ?_
        refine x_bipush (dat d_Mo_advance 87 rfl) (by decide) (by decide) ?_
        refine x_icmp_ne (tgt := 179) (dat d_Mo_advance 88 rfl) (by decide) (fun c_172 => ?_) (fun c_172 => ?_)
        · refine x_iconst (dat d_Mo_advance 91 rfl) (by decide) ?_
          refine x_puti (ji := 5) (x := (3)) (dat d_Mo_advance 92 rfl) rfl f_Mo_105w (oi_mk (by decide +kernel)) (fun h => absurd h (by decide)) (by decide) ?_
          refine x_goto (tgt := 311) (dat d_Mo_advance 93 rfl) (by decide) ?_
          refine x_ret (dat d_Mo_advance 160 rfl) rfl ?_
          refine k _ ⟨⟨?_, ?_, ?_⟩, fun z => ?_, fun z => ?_, q0, q1⟩ ((F3.put (by decide) (by decide)).put (by decide) (by decide))
          · rw [up_ni (by decide), up_ni (by decide)]; exact g4
          · rw [up_s, tq.1]
            first
            | (rw [if_pos (by first | omega | (rw [← w9 (by omega)]))]; done)
            | (rw [if_neg (by omega)]; done)
          · rw [up_ni (by decide), up_ni (by decide), g3, tq.2]
          · rw [tq.1] at z; split at z <;> omega
          · first
            | exact (up_ni (by decide)).trans up_s
            | exact ((up_ni (by decide)).trans up_s).trans (w9 (by omega))
        · refine x_iconst (dat d_Mo_advance 89 rfl) (by decide) ?_
          refine x_goto (tgt := 180) (dat d_Mo_advance 90 rfl) (by decide) ?_
          refine x_puti (ji := 5) (x := (4)) (dat d_Mo_advance 92 rfl) rfl f_Mo_105w (oi_mk (by decide +kernel)) (fun h => absurd h (by decide)) (by decide) ?_
          refine x_goto (tgt := 311) (dat d_Mo_advance 93 rfl) (by decide) ?_
          refine x_ret (dat d_Mo_advance 160 rfl) rfl ?_
          refine k _ ⟨⟨?_, ?_, ?_⟩, fun z => ?_, fun z => ?_, q0, q1⟩ ((F3.put (by decide) (by decide)).put (by decide) (by decide))
          · rw [up_ni (by decide), up_ni (by decide)]; exact g4
          · rw [up_s, tq.1]
            first
            | (rw [if_pos (by first | omega | (rw [← w9 (by omega)]))]; done)
            | (rw [if_neg (by omega)]; done)
          · rw [up_ni (by decide), up_ni (by decide), g3, tq.2]
          · rw [tq.1] at z; split at z <;> omega
          · first
            | exact (up_ni (by decide)).trans up_s
            | exact ((up_ni (by decide)).trans up_s).trans (w9 (by omega))
      · refine x_bipush (dat d_Mo_advance 79 rfl) (by decide) (by decide) ?_
        refine x_goto (tgt := 162) (dat d_Mo_advance 80 rfl) (by decide) ?_
        refine x_puti (ji := 7) (x := (99)) (dat d_Mo_advance 83 rfl) rfl f_Mo_120w (oi_mk (by decide +kernel)) (fun h => absurd h (by decide)) (by decide) ?_
        refine x_aload_n (dat d_Mo_advance 84 rfl) rfl rfl ?_
        refine x_aload_n (dat d_Mo_advance 85 rfl) rfl rfl ?_
        refine x_geti (ji := 7) (v := 99) (dat d_Mo_advance 86 rfl) rfl f_Mo_120 (oi_mk (by decide +kernel)) (up_s) ?_
        refine x_bipush (dat d_Mo_advance 87 rfl) (by decide) (by decide) ?_
        refine x_icmp_ne (tgt := 179) (dat d_Mo_advance 88 rfl) (by decide) (fun h => absurd h (by decide)) (fun c_172 => ?_)
        refine x_iconst (dat d_Mo_advance 89 rfl) (by decide) ?_
        refine x_goto (tgt := 180) (dat d_Mo_advance 90 rfl) (by decide) ?_
        refine x_puti (ji := 5) (x := (4)) (dat d_Mo_advance 92 rfl) rfl f_Mo_105w (oi_mk (by decide +kernel)) (fun h => absurd h (by decide)) (by decide) ?_
        refine x_goto (tgt := 311) (dat d_Mo_advance 93 rfl) (by decide) ?_
        refine x_ret (dat d_Mo_advance 160 rfl) rfl ?_
        refine k _ ⟨⟨?_, ?_, ?_⟩, fun z => ?_, fun z => ?_, q0, q1⟩ ((F3.put (by decide) (by decide)).put (by decide) (by decide))
        · rw [up_ni (by decide), up_ni (by decide)]; exact g4
        · rw [up_s, tq.1]
          first
          | (rw [if_pos (by first | omega | (rw [← w9 (by omega)]))]; done)
          | (rw [if_neg (by omega)]; done)
        · rw [up_ni (by decide), up_ni (by decide), g3, tq.2]
        · rw [tq.1] at z; split at z <;> omega
        · first
          | exact (up_ni (by decide)).trans up_s
          | exact ((up_ni (by decide)).trans up_s).trans (w9 (by omega))
    · show Wx g y_Mo_advance Z K 72 [vR 174, vI c, w2, w3] [vI 0] (up σ 174 4 q)
      refine x_if_eq (tgt := 186) (dat d_Mo_advance 36 rfl) (by decide) (fun c_72 => ?_) (fun h => absurd h (by decide))
      refine x_iload_n (dat d_Mo_advance 94 rfl) rfl rfl ?_
      refine x_invs (As := [vI c]) (dat d_Mo_advance 95 rfl) rfl c_Mo_isDigit l_Mo_123 (by decide) rfl rfl (Nat.le_of_ble_eq_true rfl) ?_
      refine sp_Mo_isDigit (fun hd => ?_) (fun hd => ?_)
      · show Wx g y_Mo_advance Z K 190 [vR 174, vI c, w2, w3] [vI 1] (up σ 174 4 q)
        have hq : q < n := by
          by_cases z : q < n
          · exact z
          · have := bn z; omega
        have cd : cDg (T q) = true := by rw [← bq hq]; exact hd
        have tq := tk_dig hq cd
        refine x_if_eq (tgt := 286) (dat d_Mo_advance 96 rfl) (by decide) (fun h => absurd h (by decide)) (fun c_190 => ?_)
        refine x_aload_n (dat d_Mo_advance 97 rfl) rfl rfl ?_
        refine x_iconst (dat d_Mo_advance 98 rfl) (by decide) ?_
        refine x_puti (ji := 6) (x := (0)) (dat d_Mo_advance 99 rfl) rfl f_Mo_126w (oi_mk (by decide +kernel)) (fun h => absurd h (by decide)) (by decide) ?_
        refine lp_Mo_digs (σ0 := up (up σ 174 4 q) 174 6 0) (T := T) (n := n) q0 (fun σ2 g6 H2 g3 g4 F2 => ?_) (n - q).toNat 0 _ (by omega) (fun i hi => by omega) (by rw [show q + ((0 : Nat) : Int) = q by omega]) (by rw [up_s]; unfold numP; rw [if_pos (by omega)]) (H1.same ((AvF.rfl _).put (by decide) (by decide))) (by rw [up_ni (by decide), f3]; omega) (by rw [up_ni (by decide), up_s]) (AvF.rfl _)
        have rg := rn_ge (f := cDg) (T := T) (n := n) q
        have rl := rn_le (f := cDg) (T := T) (n := n) q1
        have rgo := rn_go (f := cDg) (T := T) (n := n) (p := q) hq cd
        have rg1 := rn_ge (f := cDg) (T := T) (n := n) (q + 1)
        have nv : rn cDg T n q - q ≤ 2 → numP T q (rn cDg T n q) = tkV T n q := fun z => by
          unfold numP tkV
          rw [if_neg (by omega)]
          exact ite_cg ⟨fun y => by omega, fun y => by omega⟩
        have F3 := (F1.put (i := 6) (v := 0) (by decide) (by decide)).trans F2
        generalize rn cDg T n q = R at tq g3 g6 rg rl nv rgo
        refine x_aload_n (dat d_Mo_advance 133 rfl) rfl rfl ?_
        refine x_aload_n (dat d_Mo_advance 134 rfl) rfl rfl ?_
        refine x_geti (ji := 3) (v := R) (dat d_Mo_advance 135 rfl) rfl f_Mo_95 (oi_mk (by decide +kernel)) (g3) ?_
        refine x_aload_n (dat d_Mo_advance 136 rfl) rfl rfl ?_
        refine x_geti (ji := 4) (v := q) (dat d_Mo_advance 137 rfl) rfl f_Mo_102 (oi_mk (by decide +kernel)) (g4) ?_
        refine x_isub (v := R - q) (dat d_Mo_advance 138 rfl) rfl (by omega) ?_
        refine x_iconst (dat d_Mo_advance 139 rfl) (by decide) ?_
        refine x_icmp_le (tgt := 279) (dat d_Mo_advance 140 rfl) (by decide) (fun c_272 => ?_) (fun c_272 => ?_)
        · refine x_iconst (dat d_Mo_advance 143 rfl) (by decide) ?_
          refine x_puti (ji := 5) (x := (1)) (dat d_Mo_advance 144 rfl) rfl f_Mo_105w (oi_mk (by decide +kernel)) (fun h => absurd h (by decide)) (by decide) ?_
          refine x_goto (tgt := 311) (dat d_Mo_advance 145 rfl) (by decide) ?_
          refine x_ret (dat d_Mo_advance 160 rfl) rfl ?_
          refine k _ ⟨⟨?_, ?_, ?_⟩, fun z => ?_, fun z => ?_, q0, q1⟩ (F3.put (by decide) (by decide))
          · rw [up_ni (by decide)]; exact g4
          · rw [up_s, tq.1]
            first
            | (rw [if_pos (by omega)]; done)
            | (rw [if_neg (by omega)]; done)
          · rw [up_ni (by decide), g3, tq.2]
          · rw [up_ni (by decide), g6]
            rw [tq.1] at z
            exact nv (by split at z <;> omega)
          · rw [tq.1] at z; split at z <;> omega
        · refine x_iconst (dat d_Mo_advance 141 rfl) (by decide) ?_
          refine x_goto (tgt := 280) (dat d_Mo_advance 142 rfl) (by decide) ?_
          refine x_puti (ji := 5) (x := (4)) (dat d_Mo_advance 144 rfl) rfl f_Mo_105w (oi_mk (by decide +kernel)) (fun h => absurd h (by decide)) (by decide) ?_
          refine x_goto (tgt := 311) (dat d_Mo_advance 145 rfl) (by decide) ?_
          refine x_ret (dat d_Mo_advance 160 rfl) rfl ?_
          refine k _ ⟨⟨?_, ?_, ?_⟩, fun z => ?_, fun z => ?_, q0, q1⟩ (F3.put (by decide) (by decide))
          · rw [up_ni (by decide)]; exact g4
          · rw [up_s, tq.1]
            first
            | (rw [if_pos (by omega)]; done)
            | (rw [if_neg (by omega)]; done)
          · rw [up_ni (by decide), g3, tq.2]
          · rw [up_ni (by decide), g6]
            rw [tq.1] at z
            exact nv (by split at z <;> omega)
          · rw [tq.1] at z; split at z <;> omega
      · show Wx g y_Mo_advance Z K 190 [vR 174, vI c, w2, w3] [vI 0] (up σ 174 4 q)
        have hq : q < n := by
          by_cases z : q < n
          · exact z
          · have := bn z; omega
        have tq := tk_oth (T := T) (n := n) hq (by rw [← bq hq]; exact hl) (by rw [← bq hq]; exact hd)
        rw [← bq hq] at tq
        refine x_if_eq (tgt := 286) (dat d_Mo_advance 96 rfl) (by decide) (fun c_190 => ?_) (fun h => absurd h (by decide))
        refine x_aload_n (dat d_Mo_advance 146 rfl) rfl rfl ?_
        refine x_dup (dat d_Mo_advance 147 rfl) rfl ?_
        refine x_geti (ji := 3) (v := q) (dat d_Mo_advance 148 rfl) rfl f_Mo_95 (oi_mk (by decide +kernel)) ((up_ni (by decide)).trans e3) ?_
        refine x_iconst (dat d_Mo_advance 149 rfl) (by decide) ?_
        refine x_iadd (v := q + 1) (dat d_Mo_advance 150 rfl) rfl (by omega) ?_
        refine x_puti (ji := 3) (x := (q + 1)) (dat d_Mo_advance 151 rfl) rfl f_Mo_95w (oi_mk (by decide +kernel)) (fun h => absurd h (by decide)) (by decide) ?_
        refine x_aload_n (dat d_Mo_advance 152 rfl) rfl rfl ?_
        refine x_iload_n (dat d_Mo_advance 153 rfl) rfl rfl ?_
        refine x_bipush (dat d_Mo_advance 154 rfl) (by decide) (by decide) ?_
        refine x_icmp_ne (tgt := 307) (dat d_Mo_advance 155 rfl) (by decide) (fun c_300 => ?_) (fun c_300 => ?_)
        · refine x_iconst (dat d_Mo_advance 158 rfl) (by decide) ?_
          refine x_puti (ji := 5) (x := (4)) (dat d_Mo_advance 159 rfl) rfl f_Mo_105w (oi_mk (by decide +kernel)) (fun h => absurd h (by decide)) (by decide) ?_
          refine x_ret (dat d_Mo_advance 160 rfl) rfl ?_
          first
          | (have tq := tk_end (T := T) (n := n) (q := q) (by
               by_cases z : q < n
               · have := (H.2.2 q q0 z).1; have := bq z; omega
               · omega)
             exact k _ ⟨⟨by rw [up_ni (by decide), up_s], by rw [up_s, tq.1], by rw [up_ni (by decide), f3, tq.2]⟩, fun z => by rw [tq.1] at z; omega, fun z => by rw [tq.1] at z; omega, q0, q1⟩ (F1.put (by decide) (by decide)))
          | (refine k _ ⟨⟨?_, ?_, ?_⟩, fun z => ?_, fun z => ?_, q0, q1⟩ ((F1.put (by decide) (by decide)).put (by decide) (by decide))
             · rw [up_ni (by decide), up_ni (by decide), up_s]
             · rw [up_s, tq.1]
               first
               | (rw [if_pos (by omega)]; done)
               | (rw [if_neg (by omega)]; done)
             · rw [up_ni (by decide), up_s, tq.2]
             · rw [tq.1] at z; split at z <;> omega
             · rw [tq.1] at z; split at z <;> omega)
        · refine x_iconst (dat d_Mo_advance 156 rfl) (by decide) ?_
          refine x_goto (tgt := 308) (dat d_Mo_advance 157 rfl) (by decide) ?_
          refine x_puti (ji := 5) (x := (2)) (dat d_Mo_advance 159 rfl) rfl f_Mo_105w (oi_mk (by decide +kernel)) (fun h => absurd h (by decide)) (by decide) ?_
          refine x_ret (dat d_Mo_advance 160 rfl) rfl ?_
          first
          | (have tq := tk_end (T := T) (n := n) (q := q) (by
               by_cases z : q < n
               · have := (H.2.2 q q0 z).1; have := bq z; omega
               · omega)
             exact k _ ⟨⟨by rw [up_ni (by decide), up_s], by rw [up_s, tq.1], by rw [up_ni (by decide), f3, tq.2]⟩, fun z => by rw [tq.1] at z; omega, fun z => by rw [tq.1] at z; omega, q0, q1⟩ (F1.put (by decide) (by decide)))
          | (refine k _ ⟨⟨?_, ?_, ?_⟩, fun z => ?_, fun z => ?_, q0, q1⟩ ((F1.put (by decide) (by decide)).put (by decide) (by decide))
             · rw [up_ni (by decide), up_ni (by decide), up_s]
             · rw [up_s, tq.1]
               first
               | (rw [if_pos (by omega)]; done)
               | (rw [if_neg (by omega)]; done)
             · rw [up_ni (by decide), up_s, tq.2]
             · rw [tq.1] at z; split at z <;> omega
             · rw [tq.1] at z; split at z <;> omega)
  · refine x_aload_n (dat d_Mo_advance 30 rfl) rfl rfl ?_
    refine x_iconst (dat d_Mo_advance 31 rfl) (by decide) ?_
    refine x_puti (ji := 5) (x := (0)) (dat d_Mo_advance 32 rfl) rfl f_Mo_105w (oi_mk (by decide +kernel)) (fun h => absurd h (by decide)) (by decide) ?_
    refine x_goto (tgt := 311) (dat d_Mo_advance 33 rfl) (by decide) ?_
    refine x_ret (dat d_Mo_advance 160 rfl) rfl ?_
    first
    | (have tq := tk_end (T := T) (n := n) (q := q) (by
         by_cases z : q < n
         · have := (H.2.2 q q0 z).1; have := bq z; omega
         · omega)
       exact k _ ⟨⟨by rw [up_ni (by decide), up_s], by rw [up_s, tq.1], by rw [up_ni (by decide), f3, tq.2]⟩, fun z => by rw [tq.1] at z; omega, fun z => by rw [tq.1] at z; omega, q0, q1⟩ (F1.put (by decide) (by decide)))
    | (refine k _ ⟨⟨?_, ?_, ?_⟩, fun z => ?_, fun z => ?_, q0, q1⟩ ((F1.put (by decide) (by decide)).put (by decide) (by decide))
       · rw [up_ni (by decide), up_ni (by decide), up_s]
       · rw [up_s, tq.1]
         first
         | (rw [if_pos (by omega)]; done)
         | (rw [if_neg (by omega)]; done)
       · rw [up_ni (by decide), up_s, tq.2]
       · rw [tq.1] at z; split at z <;> omega
       · rw [tq.1] at z; split at z <;> omega)
theorem sp_Mo_advance {p : Int} (H : RtM σ T n) (p0 : 0 ≤ p) (p1 : p ≤ n) (e3 : σ 174 3 = p) (k : ∀ σ' : xS, RdM σ' T n (rn cBl T n p) → AvF σ' σ → K none σ') : Mt g y_Mo_advance [vR 174] σ K := by
  have hn := H.2.1
  have lp : ∀ (Z : xZ) (w1 w2 w3 : MV) (d : Nat) (p : Int) (σ1 : xS), 0 ≤ p → p + d = n → RtM σ1 T n → σ1 174 3 = p → AvF σ1 σ → (∀ σ' : xS, RdM σ' T n (rn cBl T n p) → AvF σ' σ → K none σ') → Wx g y_Mo_advance Z K 0 [vR 174, w1, w2, w3] [] σ1 := by
    intro Z w1 w2 w3 d
    induction d with
    | zero =>
      intro p σ1 p0 hd H1 e3 F k
      have hs : rn cBl T n p = p := rn_st (fun w => by have := w.1; omega)
      have hb : bt T n p = -1 := bt_ge (by omega)
      rw [hs] at k
      refine x_aload_n (dat d_Mo_advance 0 rfl) rfl rfl ?_
      refine x_aload_n (dat d_Mo_advance 1 rfl) rfl rfl ?_
      refine x_geti (ji := 3) (v := p) (dat d_Mo_advance 2 rfl) rfl f_Mo_95 (oi_mk (by decide +kernel)) (e3) ?_
      refine x_inv (As := [vI p]) (dat d_Mo_advance 3 rfl) rfl c_Mo_byteAt l_Mo_98 (by decide) (rv_mo (by decide +kernel)) rfl rfl (Nat.le_of_ble_eq_true rfl) ?_
      refine sp_Mo_byteAt H1 p0 (by omega) ?_
      rw [hb]
      show Wx g y_Mo_advance Z K 8 [vR 174, w1, w2, w3] [vI (-1)] σ1
      refine x_bipush (dat d_Mo_advance 4 rfl) (by decide) (by decide) ?_
      refine x_icmp_eq (tgt := 26) (dat d_Mo_advance 5 rfl) (by decide) (fun h => absurd h (by decide)) (fun c_10 => ?_)
      refine x_aload_n (dat d_Mo_advance 6 rfl) rfl rfl ?_
      refine x_aload_n (dat d_Mo_advance 7 rfl) rfl rfl ?_
      refine x_geti (ji := 3) (v := p) (dat d_Mo_advance 8 rfl) rfl f_Mo_95 (oi_mk (by decide +kernel)) (e3) ?_
      refine x_inv (As := [vI p]) (dat d_Mo_advance 9 rfl) rfl c_Mo_byteAt l_Mo_98 (by decide) (rv_mo (by decide +kernel)) rfl rfl (Nat.le_of_ble_eq_true rfl) ?_
      refine sp_Mo_byteAt H1 p0 (by omega) ?_
      rw [hb]
      show Wx g y_Mo_advance Z K 21 [vR 174, w1, w2, w3] [vI (-1)] σ1
      refine x_bipush (dat d_Mo_advance 10 rfl) (by decide) (by decide) ?_
      refine x_icmp_ne (tgt := 39) (dat d_Mo_advance 11 rfl) (by decide) (fun c_23 => ?_) (fun h => absurd h (by decide))
      exact lm_Mo_tok H1 p0 (by omega) e3 (fun σ' R F2 => k σ' R (F.trans F2))
    | succ d ih =>
      intro p σ1 p0 hd H1 e3 F k
      have hb : bt T n p = T p := bt_lt (by omega)
      have nb : ¬ cBl (T p) = true → rn cBl T n p = p := fun z => rn_st (fun w => z w.2)
      have go : cBl (T p) = true → rn cBl T n p = rn cBl T n (p + 1) := fun z => rn_go (by omega) z
      have bl := cBl_iff (c := T p)
      refine x_aload_n (dat d_Mo_advance 0 rfl) rfl rfl ?_
      refine x_aload_n (dat d_Mo_advance 1 rfl) rfl rfl ?_
      refine x_geti (ji := 3) (v := p) (dat d_Mo_advance 2 rfl) rfl f_Mo_95 (oi_mk (by decide +kernel)) (e3) ?_
      refine x_inv (As := [vI p]) (dat d_Mo_advance 3 rfl) rfl c_Mo_byteAt l_Mo_98 (by decide) (rv_mo (by decide +kernel)) rfl rfl (Nat.le_of_ble_eq_true rfl) ?_
      refine sp_Mo_byteAt H1 p0 (by omega) ?_
      rw [hb]
      show Wx g y_Mo_advance Z K 8 [vR 174, w1, w2, w3] [vI (T p)] σ1
      refine x_bipush (dat d_Mo_advance 4 rfl) (by decide) (by decide) ?_
      refine x_icmp_eq (tgt := 26) (dat d_Mo_advance 5 rfl) (by decide) (fun c_10 => ?_) (fun c_10 => ?_)
      · refine x_aload_n (dat d_Mo_advance 12 rfl) rfl rfl ?_
        refine x_dup (dat d_Mo_advance 13 rfl) rfl ?_
        refine x_geti (ji := 3) (v := p) (dat d_Mo_advance 14 rfl) rfl f_Mo_95 (oi_mk (by decide +kernel)) (e3) ?_
        refine x_iconst (dat d_Mo_advance 15 rfl) (by decide) ?_
        refine x_iadd (v := p + 1) (dat d_Mo_advance 16 rfl) rfl (by omega) ?_
        refine x_puti (ji := 3) (x := (p + 1)) (dat d_Mo_advance 17 rfl) rfl f_Mo_95w (oi_mk (by decide +kernel)) (fun h => absurd h (by decide)) (by decide) ?_
        refine x_goto (tgt := 0) (dat d_Mo_advance 18 rfl) (by decide) ?_
        rw [go (bl.mpr (by omega))] at k
        exact ih (p + 1) _ (by omega) (by omega) (H1.same ((AvF.rfl σ1).put (by decide) (by decide))) up_s (F.put (by decide) (by decide)) k
      · refine x_aload_n (dat d_Mo_advance 6 rfl) rfl rfl ?_
        refine x_aload_n (dat d_Mo_advance 7 rfl) rfl rfl ?_
        refine x_geti (ji := 3) (v := p) (dat d_Mo_advance 8 rfl) rfl f_Mo_95 (oi_mk (by decide +kernel)) (e3) ?_
        refine x_inv (As := [vI p]) (dat d_Mo_advance 9 rfl) rfl c_Mo_byteAt l_Mo_98 (by decide) (rv_mo (by decide +kernel)) rfl rfl (Nat.le_of_ble_eq_true rfl) ?_
        refine sp_Mo_byteAt H1 p0 (by omega) ?_
        rw [hb]
        show Wx g y_Mo_advance Z K 21 [vR 174, w1, w2, w3] [vI (T p)] σ1
        refine x_bipush (dat d_Mo_advance 10 rfl) (by decide) (by decide) ?_
        refine x_icmp_ne (tgt := 39) (dat d_Mo_advance 11 rfl) (by decide) (fun c_23 => ?_) (fun c_23 => ?_)
        · rw [nb (fun z => by have := bl.mp z; omega)] at k
          exact lm_Mo_tok H1 p0 (by omega) e3 (fun σ' R F2 => k σ' R (F.trans F2))
        · refine x_aload_n (dat d_Mo_advance 12 rfl) rfl rfl ?_
          refine x_dup (dat d_Mo_advance 13 rfl) rfl ?_
          refine x_geti (ji := 3) (v := p) (dat d_Mo_advance 14 rfl) rfl f_Mo_95 (oi_mk (by decide +kernel)) (e3) ?_
          refine x_iconst (dat d_Mo_advance 15 rfl) (by decide) ?_
          refine x_iadd (v := p + 1) (dat d_Mo_advance 16 rfl) rfl (by omega) ?_
          refine x_puti (ji := 3) (x := (p + 1)) (dat d_Mo_advance 17 rfl) rfl f_Mo_95w (oi_mk (by decide +kernel)) (fun h => absurd h (by decide)) (by decide) ?_
          refine x_goto (tgt := 0) (dat d_Mo_advance 18 rfl) (by decide) ?_
          rw [go (bl.mpr (by omega))] at k
          exact ih (p + 1) _ (by omega) (by omega) (H1.same ((AvF.rfl σ1).put (by decide) (by decide))) up_s (F.put (by decide) (by decide)) k
  refine x_enter 3 rfl rfl rfl (fun Z => ?_)
  show Wx g y_Mo_advance Z K 0 [vR 174, vU, vU, vU] [] σ
  exact lp Z _ _ _ (n - p).toNat p σ p0 (by omega) H e3 (AvF.rfl σ) k
end
