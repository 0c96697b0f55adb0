/-! the reader: one number, one line kept, one counted -/
def slT (l : Int) (j : Nat) : Nat := l.toNat * 3 + (if j < 2 then j else 2)
theorem st_bd : ∀ i : Nat, i < 24 → (0 ≤ (stV.getD 3 []).getD i 0 ∧ (stV.getD 3 []).getD i 0 ≤ 99) ∧ (0 ≤ (stV.getD 4 []).getD i 0 ∧ (stV.getD 4 []).getD i 0 ≤ 99) := by decide +kernel
theorem slT_lt {l : Int} {j : Nat} (l0 : 0 ≤ l) (l7 : l ≤ 7) : slT l j < 24 := by
  unfold slT
  split <;> omega
theorem blm_ff {fp : Int × Int} {b : Bool} {k a : Int} (h : b = false) : blm fp b k a = fp := by
  unfold blm
  rw [if_neg (fun w => by rw [h] at w; exact Bool.noConfusion w.2)]
theorem blm_n {fp : Int × Int} {b : Bool} {k a : Int} (h : fp.1 ≠ 0) : blm fp b k a = fp := if_neg (fun w => h w.1)
theorem blm_t {fp : Int × Int} {b : Bool} {k a : Int} (h : fp.1 = 0) (hb : b = true) : blm fp b k a = (k, a) := if_pos ⟨h, hb⟩
theorem imax_bd (a b : Int) : a ≤ imax a b ∧ b ≤ imax a b ∧ (imax a b = a ∨ imax a b = b) := by
  unfold imax
  split <;> omega
/-- what a number leaves as it is -/
def TkF (σ' σ : xS) (j : Nat) : Prop := (∀ i : Int, i ≠ 2 → i ≠ 3 → i ≠ 15 → i ≠ 16 → σ' 123 i = σ 123 i) ∧ (∀ i : Int, i ≠ (j : Int) → σ' 137 i = σ 137 i) ∧ ∀ o : Nat, o ≠ 123 → o ≠ 137 → σ' o = σ o
theorem TkF.up {σ' σ : xS} {j : Nat} {i v : Int} (h : TkF σ' σ j) (hi : i = 2 ∨ i = 3 ∨ i = 15 ∨ i = 16) : TkF (up σ' 123 i v) σ j := by
  obtain ⟨h1, h2, h3⟩ := h
  exact ⟨fun x a b c d => by rw [up_ni (by omega)]; exact h1 x a b c d, fun x hx => by rw [up_ne (by decide)]; exact h2 x hx, fun o a b => by rw [up_ne a]; exact h3 o a b⟩
theorem sp_Re_takeNumber {g : xG} {K : Option MV → xS → Prop} {σ : xS} {l v q gp gc : Int} {j : Nat} {fp : Int × Int} (l0 : 0 ≤ l) (l7 : l ≤ 7) (hj : j ≤ 600) (e10 : σ 123 10 = v) (v0 : 0 ≤ v) (v1 : v ≤ 99) (e9 : σ 123 9 = q) (e2 : σ 123 2 = fp.1) (e3 : σ 123 3 = fp.2) (e15 : σ 123 15 = gp) (e16 : σ 123 16 = gc)
    (k : ∀ σ' : xS, σ' 123 2 = (blm (blm fp (decide (v < loT l j) || decide (hiT l j < v) || (decide (l = 6) && decide (j = 1) && decide (v = σ 137 0))) 2 q) (decide (13 ≤ j)) 3 q).1 → σ' 123 3 = (blm (blm fp (decide (v < loT l j) || decide (hiT l j < v) || (decide (l = 6) && decide (j = 1) && decide (v = σ 137 0))) 2 q) (decide (13 ≤ j)) 3 q).2 → σ' 123 15 = (if l = 6 ∨ (j = 0 ∧ (l = 4 ∨ l = 5)) then imax gp v else gp) → σ' 123 16 = (if (j = 0 ∧ l = 3) ∨ (0 < j ∧ l = 4) then imax gc v else gc) → (j < 13 → σ' 137 j = v) → TkF σ' σ j → K none σ') : Mt g y_Re_takeNumber [vR 123, vI l, vI (j : Int)] σ K := by
  have hsl := slT_lt (j := j) l0 l7
  have hsb := st_bd _ hsl
  have hl3 : (stV.getD 3 []).length = 24 := by decide
  have hl4 : (stV.getD 4 []).length = 24 := by decide
  have elo : (stV.getD 3 []).getD (slT l j) 0 = loT l j := rfl
  have ehi : (stV.getD 4 []).getD (slT l j) 0 = hiT l j := rfl
  rw [elo, ehi] at hsb
  generalize hbd : (decide (v < loT l j) || decide (hiT l j < v) || (decide (l = 6) && decide (j = 1) && decide (v = σ 137 0))) = bd at k
  generalize hb1 : blm fp bd 2 q = b1 at k
  generalize hb2 : blm b1 (decide (13 ≤ j)) 3 q = b2 at k
  have sE : ∀ (Z : xZ) (w3 w4 : MV) (σ1 : xS), σ1 123 10 = v → σ1 123 16 = gc → σ1 123 2 = b2.1 → σ1 123 3 = b2.2 → σ1 123 15 = (if l = 6 ∨ (j = 0 ∧ (l = 4 ∨ l = 5)) then imax gp v else gp) → (j < 13 → σ1 137 j = v) → TkF σ1 σ j → Wx g y_Re_takeNumber Z K 137 [vR 123, vI l, vI (j : Int), w3, w4] [] σ1 := by
    intro Z w3 w4 σ1 f10 f16 f2 f3 f15 fj F
    have im := imax_bd gc v
    refine x_iload_n (dat d_Re_takeNumber 75 rfl) rfl rfl ?_
    refine x_if_ne (tgt := 146) (dat d_Re_takeNumber 76 rfl) (by decide) (fun c_138 => ?_) (fun c_138 => ?_)
    · refine x_iload_n (dat d_Re_takeNumber 80 rfl) rfl rfl ?_
      refine x_if_le (tgt := 170) (dat d_Re_takeNumber 81 rfl) (by decide) (fun c_147 => ?_) (fun c_147 => ?_)
      · refine x_ret (dat d_Re_takeNumber 92 rfl) rfl ?_
        first
        | exact k _ f2 f3 f15 (by rw [if_neg (by omega)]; exact f16) fj F
        | exact k _ (by rw [up_ni (by decide)]; exact f2) (by rw [up_ni (by decide)]; exact f3) (by rw [up_ni (by decide)]; exact f15) (by rw [if_pos (by omega), up_s]; unfold imax; split <;> omega) (fun w => by rw [up_ne (by decide)]; exact fj w) (F.up (by omega))
      · refine x_iload_n (dat d_Re_takeNumber 82 rfl) rfl rfl ?_
        refine x_iconst (dat d_Re_takeNumber 83 rfl) (by decide) ?_
        refine x_icmp_ne (tgt := 170) (dat d_Re_takeNumber 84 rfl) (by decide) (fun c_152 => ?_) (fun c_152 => ?_)
        · refine x_ret (dat d_Re_takeNumber 92 rfl) rfl ?_
          first
          | exact k _ f2 f3 f15 (by rw [if_neg (by omega)]; exact f16) fj F
          | exact k _ (by rw [up_ni (by decide)]; exact f2) (by rw [up_ni (by decide)]; exact f3) (by rw [up_ni (by decide)]; exact f15) (by rw [if_pos (by omega), up_s]; unfold imax; split <;> omega) (fun w => by rw [up_ne (by decide)]; exact fj w) (F.up (by omega))
        · refine x_aload_n (dat d_Re_takeNumber 85 rfl) rfl rfl ?_
          refine x_aload_n (dat d_Re_takeNumber 86 rfl) rfl rfl ?_
          refine x_geti (ji := 16) (v := gc) (dat d_Re_takeNumber 87 rfl) rfl f_Re_44 (oi_mk (by decide +kernel)) (f16) ?_
          refine x_aload_n (dat d_Re_takeNumber 88 rfl) rfl rfl ?_
          refine x_geti (ji := 10) (v := v) (dat d_Re_takeNumber 89 rfl) rfl f_Re_181 (oi_mk (by decide +kernel)) (f10) ?_
          refine x_mmax (own := "ShakenBread$Reader") (dat d_Re_takeNumber 90 rfl) rfl l_Re_190 (by decide) (Nat.le_of_ble_eq_true rfl) (fun m_164 h1_164 h2_164 h3_164 => ?_)
          refine x_puti (ji := 16) (x := (m_164)) (dat d_Re_takeNumber 91 rfl) rfl f_Re_44w (oi_mk (by decide +kernel)) (fun h => absurd h (by decide)) (by decide) ?_
          refine x_ret (dat d_Re_takeNumber 92 rfl) rfl ?_
          first
          | exact k _ f2 f3 f15 (by rw [if_neg (by omega)]; exact f16) fj F
          | exact k _ (by rw [up_ni (by decide)]; exact f2) (by rw [up_ni (by decide)]; exact f3) (by rw [up_ni (by decide)]; exact f15) (by rw [if_pos (by omega), up_s]; unfold imax; split <;> omega) (fun w => by rw [up_ne (by decide)]; exact fj w) (F.up (by omega))
    · refine x_iload_n (dat d_Re_takeNumber 77 rfl) rfl rfl ?_
      refine x_iconst (dat d_Re_takeNumber 78 rfl) (by decide) ?_
      refine x_icmp_eq (tgt := 155) (dat d_Re_takeNumber 79 rfl) (by decide) (fun c_143 => ?_) (fun c_143 => ?_)
      · refine x_aload_n (dat d_Re_takeNumber 85 rfl) rfl rfl ?_
        refine x_aload_n (dat d_Re_takeNumber 86 rfl) rfl rfl ?_
        refine x_geti (ji := 16) (v := gc) (dat d_Re_takeNumber 87 rfl) rfl f_Re_44 (oi_mk (by decide +kernel)) (f16) ?_
        refine x_aload_n (dat d_Re_takeNumber 88 rfl) rfl rfl ?_
        refine x_geti (ji := 10) (v := v) (dat d_Re_takeNumber 89 rfl) rfl f_Re_181 (oi_mk (by decide +kernel)) (f10) ?_
        refine x_mmax (own := "ShakenBread$Reader") (dat d_Re_takeNumber 90 rfl) rfl l_Re_190 (by decide) (Nat.le_of_ble_eq_true rfl) (fun m_164 h1_164 h2_164 h3_164 => ?_)
        refine x_puti (ji := 16) (x := (m_164)) (dat d_Re_takeNumber 91 rfl) rfl f_Re_44w (oi_mk (by decide +kernel)) (fun h => absurd h (by decide)) (by decide) ?_
        refine x_ret (dat d_Re_takeNumber 92 rfl) rfl ?_
        first
        | exact k _ f2 f3 f15 (by rw [if_neg (by omega)]; exact f16) fj F
        | exact k _ (by rw [up_ni (by decide)]; exact f2) (by rw [up_ni (by decide)]; exact f3) (by rw [up_ni (by decide)]; exact f15) (by rw [if_pos (by omega), up_s]; unfold imax; split <;> omega) (fun w => by rw [up_ne (by decide)]; exact fj w) (F.up (by omega))
      · refine x_iload_n (dat d_Re_takeNumber 80 rfl) rfl rfl ?_
        refine x_if_le (tgt := 170) (dat d_Re_takeNumber 81 rfl) (by decide) (fun c_147 => ?_) (fun c_147 => ?_)
        · refine x_ret (dat d_Re_takeNumber 92 rfl) rfl ?_
          first
          | exact k _ f2 f3 f15 (by rw [if_neg (by omega)]; exact f16) fj F
          | exact k _ (by rw [up_ni (by decide)]; exact f2) (by rw [up_ni (by decide)]; exact f3) (by rw [up_ni (by decide)]; exact f15) (by rw [if_pos (by omega), up_s]; unfold imax; split <;> omega) (fun w => by rw [up_ne (by decide)]; exact fj w) (F.up (by omega))
        · refine x_iload_n (dat d_Re_takeNumber 82 rfl) rfl rfl ?_
          refine x_iconst (dat d_Re_takeNumber 83 rfl) (by decide) ?_
          refine x_icmp_ne (tgt := 170) (dat d_Re_takeNumber 84 rfl) (by decide) (fun c_152 => ?_) (fun c_152 => ?_)
          · refine x_ret (dat d_Re_takeNumber 92 rfl) rfl ?_
            first
            | exact k _ f2 f3 f15 (by rw [if_neg (by omega)]; exact f16) fj F
            | exact k _ (by rw [up_ni (by decide)]; exact f2) (by rw [up_ni (by decide)]; exact f3) (by rw [up_ni (by decide)]; exact f15) (by rw [if_pos (by omega), up_s]; unfold imax; split <;> omega) (fun w => by rw [up_ne (by decide)]; exact fj w) (F.up (by omega))
          · refine x_aload_n (dat d_Re_takeNumber 85 rfl) rfl rfl ?_
            refine x_aload_n (dat d_Re_takeNumber 86 rfl) rfl rfl ?_
            refine x_geti (ji := 16) (v := gc) (dat d_Re_takeNumber 87 rfl) rfl f_Re_44 (oi_mk (by decide +kernel)) (f16) ?_
            refine x_aload_n (dat d_Re_takeNumber 88 rfl) rfl rfl ?_
            refine x_geti (ji := 10) (v := v) (dat d_Re_takeNumber 89 rfl) rfl f_Re_181 (oi_mk (by decide +kernel)) (f10) ?_
            refine x_mmax (own := "ShakenBread$Reader") (dat d_Re_takeNumber 90 rfl) rfl l_Re_190 (by decide) (Nat.le_of_ble_eq_true rfl) (fun m_164 h1_164 h2_164 h3_164 => ?_)
            refine x_puti (ji := 16) (x := (m_164)) (dat d_Re_takeNumber 91 rfl) rfl f_Re_44w (oi_mk (by decide +kernel)) (fun h => absurd h (by decide)) (by decide) ?_
            refine x_ret (dat d_Re_takeNumber 92 rfl) rfl ?_
            first
            | exact k _ f2 f3 f15 (by rw [if_neg (by omega)]; exact f16) fj F
            | exact k _ (by rw [up_ni (by decide)]; exact f2) (by rw [up_ni (by decide)]; exact f3) (by rw [up_ni (by decide)]; exact f15) (by rw [if_pos (by omega), up_s]; unfold imax; split <;> omega) (fun w => by rw [up_ne (by decide)]; exact fj w) (F.up (by omega))
  have sD : ∀ (Z : xZ) (w3 w4 : MV) (σ1 : xS), σ1 123 10 = v → σ1 123 16 = gc → σ1 123 15 = gp → σ1 123 2 = b2.1 → σ1 123 3 = b2.2 → (j < 13 → σ1 137 j = v) → TkF σ1 σ j → Wx g y_Re_takeNumber Z K 102 [vR 123, vI l, vI (j : Int), w3, w4] [] σ1 := by
    intro Z w3 w4 σ1 f10 f16 f15 f2 f3 fj F
    have im := imax_bd gp v
    refine x_iload_n (dat d_Re_takeNumber 57 rfl) rfl rfl ?_
    refine x_bipush (dat d_Re_takeNumber 58 rfl) (by decide) (by decide) ?_
    refine x_icmp_eq (tgt := 122) (dat d_Re_takeNumber 59 rfl) (by decide) (fun c_105 => ?_) (fun c_105 => ?_)
    · refine x_aload_n (dat d_Re_takeNumber 68 rfl) rfl rfl ?_
      refine x_aload_n (dat d_Re_takeNumber 69 rfl) rfl rfl ?_
      refine x_geti (ji := 15) (v := gp) (dat d_Re_takeNumber 70 rfl) rfl f_Re_37 (oi_mk (by decide +kernel)) (f15) ?_
      refine x_aload_n (dat d_Re_takeNumber 71 rfl) rfl rfl ?_
      refine x_geti (ji := 10) (v := v) (dat d_Re_takeNumber 72 rfl) rfl f_Re_181 (oi_mk (by decide +kernel)) (f10) ?_
      refine x_mmax (own := "ShakenBread$Reader") (dat d_Re_takeNumber 73 rfl) rfl l_Re_190 (by decide) (Nat.le_of_ble_eq_true rfl) (fun m_131 h1_131 h2_131 h3_131 => ?_)
      refine x_puti (ji := 15) (x := (m_131)) (dat d_Re_takeNumber 74 rfl) rfl f_Re_37w (oi_mk (by decide +kernel)) (fun h => absurd h (by decide)) (by decide) ?_
      first
      | exact sE Z w3 w4 _ f10 f16 f2 f3 (by rw [if_neg (by omega)]; exact f15) fj F
      | exact sE Z w3 w4 _ (by rw [up_ni (by decide)]; exact f10) (by rw [up_ni (by decide)]; exact f16) (by rw [up_ni (by decide)]; exact f2) (by rw [up_ni (by decide)]; exact f3) (by rw [if_pos (by omega), up_s]; unfold imax; split <;> omega) (fun w => by rw [up_ne (by decide)]; exact fj w) (F.up (by omega))
    · refine x_iload_n (dat d_Re_takeNumber 60 rfl) rfl rfl ?_
      refine x_if_ne (tgt := 137) (dat d_Re_takeNumber 61 rfl) (by decide) (fun c_109 => ?_) (fun c_109 => ?_)
      · first
        | exact sE Z w3 w4 _ f10 f16 f2 f3 (by rw [if_neg (by omega)]; exact f15) fj F
        | exact sE Z w3 w4 _ (by rw [up_ni (by decide)]; exact f10) (by rw [up_ni (by decide)]; exact f16) (by rw [up_ni (by decide)]; exact f2) (by rw [up_ni (by decide)]; exact f3) (by rw [if_pos (by omega), up_s]; unfold imax; split <;> omega) (fun w => by rw [up_ne (by decide)]; exact fj w) (F.up (by omega))
      · refine x_iload_n (dat d_Re_takeNumber 62 rfl) rfl rfl ?_
        refine x_iconst (dat d_Re_takeNumber 63 rfl) (by decide) ?_
        refine x_icmp_eq (tgt := 122) (dat d_Re_takeNumber 64 rfl) (by decide) (fun c_114 => ?_) (fun c_114 => ?_)
        · refine x_aload_n (dat d_Re_takeNumber 68 rfl) rfl rfl ?_
          refine x_aload_n (dat d_Re_takeNumber 69 rfl) rfl rfl ?_
          refine x_geti (ji := 15) (v := gp) (dat d_Re_takeNumber 70 rfl) rfl f_Re_37 (oi_mk (by decide +kernel)) (f15) ?_
          refine x_aload_n (dat d_Re_takeNumber 71 rfl) rfl rfl ?_
          refine x_geti (ji := 10) (v := v) (dat d_Re_takeNumber 72 rfl) rfl f_Re_181 (oi_mk (by decide +kernel)) (f10) ?_
          refine x_mmax (own := "ShakenBread$Reader") (dat d_Re_takeNumber 73 rfl) rfl l_Re_190 (by decide) (Nat.le_of_ble_eq_true rfl) (fun m_131 h1_131 h2_131 h3_131 => ?_)
          refine x_puti (ji := 15) (x := (m_131)) (dat d_Re_takeNumber 74 rfl) rfl f_Re_37w (oi_mk (by decide +kernel)) (fun h => absurd h (by decide)) (by decide) ?_
          first
          | exact sE Z w3 w4 _ f10 f16 f2 f3 (by rw [if_neg (by omega)]; exact f15) fj F
          | exact sE Z w3 w4 _ (by rw [up_ni (by decide)]; exact f10) (by rw [up_ni (by decide)]; exact f16) (by rw [up_ni (by decide)]; exact f2) (by rw [up_ni (by decide)]; exact f3) (by rw [if_pos (by omega), up_s]; unfold imax; split <;> omega) (fun w => by rw [up_ne (by decide)]; exact fj w) (F.up (by omega))
        · refine x_iload_n (dat d_Re_takeNumber 65 rfl) rfl rfl ?_
          refine x_iconst (dat d_Re_takeNumber 66 rfl) (by decide) ?_
          refine x_icmp_ne (tgt := 137) (dat d_Re_takeNumber 67 rfl) (by decide) (fun c_119 => ?_) (fun c_119 => ?_)
          · first
            | exact sE Z w3 w4 _ f10 f16 f2 f3 (by rw [if_neg (by omega)]; exact f15) fj F
            | exact sE Z w3 w4 _ (by rw [up_ni (by decide)]; exact f10) (by rw [up_ni (by decide)]; exact f16) (by rw [up_ni (by decide)]; exact f2) (by rw [up_ni (by decide)]; exact f3) (by rw [if_pos (by omega), up_s]; unfold imax; split <;> omega) (fun w => by rw [up_ne (by decide)]; exact fj w) (F.up (by omega))
          · refine x_aload_n (dat d_Re_takeNumber 68 rfl) rfl rfl ?_
            refine x_aload_n (dat d_Re_takeNumber 69 rfl) rfl rfl ?_
            refine x_geti (ji := 15) (v := gp) (dat d_Re_takeNumber 70 rfl) rfl f_Re_37 (oi_mk (by decide +kernel)) (f15) ?_
            refine x_aload_n (dat d_Re_takeNumber 71 rfl) rfl rfl ?_
            refine x_geti (ji := 10) (v := v) (dat d_Re_takeNumber 72 rfl) rfl f_Re_181 (oi_mk (by decide +kernel)) (f10) ?_
            refine x_mmax (own := "ShakenBread$Reader") (dat d_Re_takeNumber 73 rfl) rfl l_Re_190 (by decide) (Nat.le_of_ble_eq_true rfl) (fun m_131 h1_131 h2_131 h3_131 => ?_)
            refine x_puti (ji := 15) (x := (m_131)) (dat d_Re_takeNumber 74 rfl) rfl f_Re_37w (oi_mk (by decide +kernel)) (fun h => absurd h (by decide)) (by decide) ?_
            first
            | exact sE Z w3 w4 _ f10 f16 f2 f3 (by rw [if_neg (by omega)]; exact f15) fj F
            | exact sE Z w3 w4 _ (by rw [up_ni (by decide)]; exact f10) (by rw [up_ni (by decide)]; exact f16) (by rw [up_ni (by decide)]; exact f2) (by rw [up_ni (by decide)]; exact f3) (by rw [if_pos (by omega), up_s]; unfold imax; split <;> omega) (fun w => by rw [up_ne (by decide)]; exact fj w) (F.up (by omega))
  have sC : ∀ (Z : xZ) (w3 w4 : MV) (σ1 : xS), σ1 123 9 = q → σ1 123 10 = v → σ1 123 16 = gc → σ1 123 15 = gp → σ1 123 2 = b1.1 → σ1 123 3 = b1.2 → TkF σ1 σ j → Wx g y_Re_takeNumber Z K 75 [vR 123, vI l, vI (j : Int), w3, w4] [] σ1 := by
    intro Z w3 w4 σ1 f9 f10 f16 f15 f2 f3 F
    refine x_iload_n (dat d_Re_takeNumber 42 rfl) rfl rfl ?_
    refine x_aload_n (dat d_Re_takeNumber 43 rfl) rfl rfl ?_
    refine x_getr (r := 137) (dat d_Re_takeNumber 44 rfl) rfl f_Re_25 (or_mk (by decide +kernel)) ?_
    refine x_alen (n := 13) (t := 20) (dat d_Re_takeNumber 45 rfl) (ai_mk (by decide +kernel)) (by decide) ?_
    refine x_icmp_ge (tgt := 97) (dat d_Re_takeNumber 46 rfl) (by decide) (fun c_81 => ?_) (fun c_81 => ?_)
    · refine x_aload_n (dat d_Re_takeNumber 54 rfl) rfl rfl ?_
      refine x_iconst (dat d_Re_takeNumber 55 rfl) (by decide) ?_
      refine x_inv (As := [vI 3]) (dat d_Re_takeNumber 56 rfl) rfl c_Re_blame l_Re_160 (by decide) (rv_re (by decide +kernel)) rfl rfl (Nat.le_of_ble_eq_true rfl) ?_
      refine sp_Re_blame f9 f2 (fun z => ?_) (fun z => ?_)
      · show Wx g y_Re_takeNumber Z K 102 [vR 123, vI l, vI (j : Int), w3, w4] [] (up (up σ1 123 2 3) 123 3 q)
        first
        | (have hb : b2 = (3, q) := by rw [← hb2]; exact blm_t z (decide_eq_true (by omega))
           exact sD Z w3 w4 _ (by rw [up_ni (by decide), up_ni (by decide)]; exact f10) (by rw [up_ni (by decide), up_ni (by decide)]; exact f16) (by rw [up_ni (by decide), up_ni (by decide)]; exact f15) (by rw [up_ni (by decide), up_s, hb]) (by rw [up_s, hb]) (fun w => by omega) ((F.up (by decide)).up (by decide)))
        | (have hb : b2 = b1 := by rw [← hb2]; exact blm_n z
           exact sD Z w3 w4 _ f10 f16 f15 (by rw [hb]; exact f2) (by rw [hb]; exact f3) (fun w => by omega) F)
      · show Wx g y_Re_takeNumber Z K 102 [vR 123, vI l, vI (j : Int), w3, w4] [] σ1
        first
        | (have hb : b2 = (3, q) := by rw [← hb2]; exact blm_t z (decide_eq_true (by omega))
           exact sD Z w3 w4 _ (by rw [up_ni (by decide), up_ni (by decide)]; exact f10) (by rw [up_ni (by decide), up_ni (by decide)]; exact f16) (by rw [up_ni (by decide), up_ni (by decide)]; exact f15) (by rw [up_ni (by decide), up_s, hb]) (by rw [up_s, hb]) (fun w => by omega) ((F.up (by decide)).up (by decide)))
        | (have hb : b2 = b1 := by rw [← hb2]; exact blm_n z
           exact sD Z w3 w4 _ f10 f16 f15 (by rw [hb]; exact f2) (by rw [hb]; exact f3) (fun w => by omega) F)
    · refine x_aload_n (dat d_Re_takeNumber 47 rfl) rfl rfl ?_
      refine x_getr (r := 137) (dat d_Re_takeNumber 48 rfl) rfl f_Re_25 (or_mk (by decide +kernel)) ?_
      refine x_iload_n (dat d_Re_takeNumber 49 rfl) rfl rfl ?_
      refine x_aload_n (dat d_Re_takeNumber 50 rfl) rfl rfl ?_
      refine x_geti (ji := 10) (v := v) (dat d_Re_takeNumber 51 rfl) rfl f_Re_181 (oi_mk (by decide +kernel)) (f10) ?_
      refine x_iast (n := 13) (dat d_Re_takeNumber 52 rfl) (ai_mk (by decide +kernel)) (by omega) (by omega) ?_
      refine x_goto (tgt := 102) (dat d_Re_takeNumber 53 rfl) (by decide) ?_
      have hb : b2 = b1 := by rw [← hb2]; exact blm_ff (decide_eq_false (by omega))
      obtain ⟨F1, F2, F3⟩ := F
      exact sD Z w3 w4 _ (by rw [up_ne (by decide)]; exact f10) (by rw [up_ne (by decide)]; exact f16) (by rw [up_ne (by decide)]; exact f15) (by rw [up_ne (by decide), hb]; exact f2) (by rw [up_ne (by decide), hb]; exact f3) (fun _ => up_s) ⟨fun i a b c d => by rw [up_ne (by decide)]; exact F1 i a b c d, fun i hi => by rw [up_ni (Ne.symm hi)]; exact F2 i hi, fun o a b => by rw [up_ne b]; exact F3 o a b⟩
  have sB : ∀ (Z : xZ) (sm : Int), (sm = 0 ∨ sm = 1) → (sm = 1 ↔ l = 6 ∧ j = 1 ∧ v = σ 137 0) → Wx g y_Re_takeNumber Z K 41 [vR 123, vI l, vI (j : Int), vI ((slT l j : Nat) : Int), vI sm] [] σ := by
    intro Z sm hsm0 hsm
    have F0 : TkF σ σ j := ⟨fun _ _ _ _ _ => rfl, fun _ _ => rfl, fun _ _ _ => rfl⟩
    have hbt : (v < loT l j ∨ hiT l j < v ∨ sm = 1) → bd = true := fun w => by
      rw [← hbd]
      rcases w with w | w | w
      · rw [decide_eq_true w]; rfl
      · rw [decide_eq_true w, Bool.or_true, Bool.true_or]
      · obtain ⟨x1, x2, x3⟩ := hsm.mp w
        rw [decide_eq_true x1, decide_eq_true x2, decide_eq_true x3]
        simp
    have hbf : ¬ (v < loT l j) → ¬ (hiT l j < v) → ¬ sm = 1 → bd = false := fun w1 w2 w3 => by
      rw [← hbd, decide_eq_false w1, decide_eq_false w2]
      by_cases x1 : l = 6
      · by_cases x2 : j = 1
        · by_cases x3 : v = σ 137 0
          · exact absurd (hsm.mpr ⟨x1, x2, x3⟩) w3
          · rw [decide_eq_false x3]; simp
        · rw [decide_eq_false x2]; simp
      · rw [decide_eq_false x1]; simp
    refine x_aload_n (dat d_Re_takeNumber 25 rfl) rfl rfl ?_
    refine x_geti (ji := 10) (v := v) (dat d_Re_takeNumber 26 rfl) rfl f_Re_181 (oi_mk (by decide +kernel)) (e10) ?_
    refine x_gets (own := "ShakenBread$Reader") (q := 3) (dat d_Re_takeNumber 27 rfl) rfl (by decide) (gw_3 (i := 179) rfl rfl) ?_
    refine x_iload_n (dat d_Re_takeNumber 28 rfl) rfl rfl ?_
    refine x_stald (q := 3) (v := loT l j) (dat d_Re_takeNumber 29 rfl) (by decide) (by omega) (by rw [hl3]; omega) (by rw [Int.toNat_natCast]; exact elo) (by omega) ?_
    refine x_icmp_lt (tgt := 70) (dat d_Re_takeNumber 30 rfl) (by decide) (fun c_50 => ?_) (fun c_50 => ?_)
    · refine x_aload_n (dat d_Re_takeNumber 39 rfl) rfl rfl ?_
      refine x_iconst (dat d_Re_takeNumber 40 rfl) (by decide) ?_
      refine x_inv (As := [vI 2]) (dat d_Re_takeNumber 41 rfl) rfl c_Re_blame l_Re_160 (by decide) (rv_re (by decide +kernel)) rfl rfl (Nat.le_of_ble_eq_true rfl) ?_
      refine sp_Re_blame e9 e2 (fun z => ?_) (fun z => ?_)
      · show Wx g y_Re_takeNumber Z K 75 [vR 123, vI l, vI (j : Int), vI ((slT l j : Nat) : Int), vI sm] [] (up (up σ 123 2 2) 123 3 q)
        first
        | (have hb : b1 = (2, q) := by rw [← hb1]; exact blm_t z (hbt (by omega))
           exact sC Z _ _ _ (by rw [up_ni (by decide), up_ni (by decide)]; exact e9) (by rw [up_ni (by decide), up_ni (by decide)]; exact e10) (by rw [up_ni (by decide), up_ni (by decide)]; exact e16) (by rw [up_ni (by decide), up_ni (by decide)]; exact e15) (by rw [up_ni (by decide), up_s, hb]) (by rw [up_s, hb]) ((F0.up (by decide)).up (by decide)))
        | (have hb : b1 = fp := by rw [← hb1]; exact blm_n z
           exact sC Z _ _ _ e9 e10 e16 e15 (by rw [hb]; exact e2) (by rw [hb]; exact e3) F0)
        | (have hb : b1 = fp := by rw [← hb1]; exact blm_ff (hbf (by omega) (by omega) (by omega))
           exact sC Z _ _ _ e9 e10 e16 e15 (by rw [hb]; exact e2) (by rw [hb]; exact e3) F0)
      · show Wx g y_Re_takeNumber Z K 75 [vR 123, vI l, vI (j : Int), vI ((slT l j : Nat) : Int), vI sm] [] σ
        first
        | (have hb : b1 = (2, q) := by rw [← hb1]; exact blm_t z (hbt (by omega))
           exact sC Z _ _ _ (by rw [up_ni (by decide), up_ni (by decide)]; exact e9) (by rw [up_ni (by decide), up_ni (by decide)]; exact e10) (by rw [up_ni (by decide), up_ni (by decide)]; exact e16) (by rw [up_ni (by decide), up_ni (by decide)]; exact e15) (by rw [up_ni (by decide), up_s, hb]) (by rw [up_s, hb]) ((F0.up (by decide)).up (by decide)))
        | (have hb : b1 = fp := by rw [← hb1]; exact blm_n z
           exact sC Z _ _ _ e9 e10 e16 e15 (by rw [hb]; exact e2) (by rw [hb]; exact e3) F0)
        | (have hb : b1 = fp := by rw [← hb1]; exact blm_ff (hbf (by omega) (by omega) (by omega))
           exact sC Z _ _ _ e9 e10 e16 e15 (by rw [hb]; exact e2) (by rw [hb]; exact e3) F0)
    · refine x_aload_n (dat d_Re_takeNumber 31 rfl) rfl rfl ?_
      refine x_geti (ji := 10) (v := v) (dat d_Re_takeNumber 32 rfl) rfl f_Re_181 (oi_mk (by decide +kernel)) (e10) ?_
      refine x_gets (own := "ShakenBread$Reader") (q := 4) (dat d_Re_takeNumber 33 rfl) rfl (by decide) (gw_3 (i := 181) rfl rfl) ?_
      refine x_iload_n (dat d_Re_takeNumber 34 rfl) rfl rfl ?_
      refine x_stald (q := 4) (v := hiT l j) (dat d_Re_takeNumber 35 rfl) (by decide) (by omega) (by rw [hl4]; omega) (by rw [Int.toNat_natCast]; exact ehi) (by omega) ?_
      refine x_icmp_gt (tgt := 70) (dat d_Re_takeNumber 36 rfl) (by decide) (fun c_62 => ?_) (fun c_62 => ?_)
      · refine x_aload_n (dat d_Re_takeNumber 39 rfl) rfl rfl ?_
        refine x_iconst (dat d_Re_takeNumber 40 rfl) (by decide) ?_
        refine x_inv (As := [vI 2]) (dat d_Re_takeNumber 41 rfl) rfl c_Re_blame l_Re_160 (by decide) (rv_re (by decide +kernel)) rfl rfl (Nat.le_of_ble_eq_true rfl) ?_
        refine sp_Re_blame e9 e2 (fun z => ?_) (fun z => ?_)
        · show Wx g y_Re_takeNumber Z K 75 [vR 123, vI l, vI (j : Int), vI ((slT l j : Nat) : Int), vI sm] [] (up (up σ 123 2 2) 123 3 q)
          first
          | (have hb : b1 = (2, q) := by rw [← hb1]; exact blm_t z (hbt (by omega))
             exact sC Z _ _ _ (by rw [up_ni (by decide), up_ni (by decide)]; exact e9) (by rw [up_ni (by decide), up_ni (by decide)]; exact e10) (by rw [up_ni (by decide), up_ni (by decide)]; exact e16) (by rw [up_ni (by decide), up_ni (by decide)]; exact e15) (by rw [up_ni (by decide), up_s, hb]) (by rw [up_s, hb]) ((F0.up (by decide)).up (by decide)))
          | (have hb : b1 = fp := by rw [← hb1]; exact blm_n z
             exact sC Z _ _ _ e9 e10 e16 e15 (by rw [hb]; exact e2) (by rw [hb]; exact e3) F0)
          | (have hb : b1 = fp := by rw [← hb1]; exact blm_ff (hbf (by omega) (by omega) (by omega))
             exact sC Z _ _ _ e9 e10 e16 e15 (by rw [hb]; exact e2) (by rw [hb]; exact e3) F0)
        · show Wx g y_Re_takeNumber Z K 75 [vR 123, vI l, vI (j : Int), vI ((slT l j : Nat) : Int), vI sm] [] σ
          first
          | (have hb : b1 = (2, q) := by rw [← hb1]; exact blm_t z (hbt (by omega))
             exact sC Z _ _ _ (by rw [up_ni (by decide), up_ni (by decide)]; exact e9) (by rw [up_ni (by decide), up_ni (by decide)]; exact e10) (by rw [up_ni (by decide), up_ni (by decide)]; exact e16) (by rw [up_ni (by decide), up_ni (by decide)]; exact e15) (by rw [up_ni (by decide), up_s, hb]) (by rw [up_s, hb]) ((F0.up (by decide)).up (by decide)))
          | (have hb : b1 = fp := by rw [← hb1]; exact blm_n z
             exact sC Z _ _ _ e9 e10 e16 e15 (by rw [hb]; exact e2) (by rw [hb]; exact e3) F0)
          | (have hb : b1 = fp := by rw [← hb1]; exact blm_ff (hbf (by omega) (by omega) (by omega))
             exact sC Z _ _ _ e9 e10 e16 e15 (by rw [hb]; exact e2) (by rw [hb]; exact e3) F0)
      · refine x_iload (dat d_Re_takeNumber 37 rfl) rfl ?_
        refine x_if_eq (tgt := 75) (dat d_Re_takeNumber 38 rfl) (by decide) (fun c_67 => ?_) (fun c_67 => ?_)
        · first
          | (have hb : b1 = (2, q) := by rw [← hb1]; exact blm_t z (hbt (by omega))
             exact sC Z _ _ _ (by rw [up_ni (by decide), up_ni (by decide)]; exact e9) (by rw [up_ni (by decide), up_ni (by decide)]; exact e10) (by rw [up_ni (by decide), up_ni (by decide)]; exact e16) (by rw [up_ni (by decide), up_ni (by decide)]; exact e15) (by rw [up_ni (by decide), up_s, hb]) (by rw [up_s, hb]) ((F0.up (by decide)).up (by decide)))
          | (have hb : b1 = fp := by rw [← hb1]; exact blm_n z
             exact sC Z _ _ _ e9 e10 e16 e15 (by rw [hb]; exact e2) (by rw [hb]; exact e3) F0)
          | (have hb : b1 = fp := by rw [← hb1]; exact blm_ff (hbf (by omega) (by omega) (by omega))
             exact sC Z _ _ _ e9 e10 e16 e15 (by rw [hb]; exact e2) (by rw [hb]; exact e3) F0)
        · refine x_aload_n (dat d_Re_takeNumber 39 rfl) rfl rfl ?_
          refine x_iconst (dat d_Re_takeNumber 40 rfl) (by decide) ?_
          refine x_inv (As := [vI 2]) (dat d_Re_takeNumber 41 rfl) rfl c_Re_blame l_Re_160 (by decide) (rv_re (by decide +kernel)) rfl rfl (Nat.le_of_ble_eq_true rfl) ?_
          refine sp_Re_blame e9 e2 (fun z => ?_) (fun z => ?_)
          · show Wx g y_Re_takeNumber Z K 75 [vR 123, vI l, vI (j : Int), vI ((slT l j : Nat) : Int), vI sm] [] (up (up σ 123 2 2) 123 3 q)
            first
            | (have hb : b1 = (2, q) := by rw [← hb1]; exact blm_t z (hbt (by omega))
               exact sC Z _ _ _ (by rw [up_ni (by decide), up_ni (by decide)]; exact e9) (by rw [up_ni (by decide), up_ni (by decide)]; exact e10) (by rw [up_ni (by decide), up_ni (by decide)]; exact e16) (by rw [up_ni (by decide), up_ni (by decide)]; exact e15) (by rw [up_ni (by decide), up_s, hb]) (by rw [up_s, hb]) ((F0.up (by decide)).up (by decide)))
            | (have hb : b1 = fp := by rw [← hb1]; exact blm_n z
               exact sC Z _ _ _ e9 e10 e16 e15 (by rw [hb]; exact e2) (by rw [hb]; exact e3) F0)
            | (have hb : b1 = fp := by rw [← hb1]; exact blm_ff (hbf (by omega) (by omega) (by omega))
               exact sC Z _ _ _ e9 e10 e16 e15 (by rw [hb]; exact e2) (by rw [hb]; exact e3) F0)
          · show Wx g y_Re_takeNumber Z K 75 [vR 123, vI l, vI (j : Int), vI ((slT l j : Nat) : Int), vI sm] [] σ
            first
            | (have hb : b1 = (2, q) := by rw [← hb1]; exact blm_t z (hbt (by omega))
               exact sC Z _ _ _ (by rw [up_ni (by decide), up_ni (by decide)]; exact e9) (by rw [up_ni (by decide), up_ni (by decide)]; exact e10) (by rw [up_ni (by decide), up_ni (by decide)]; exact e16) (by rw [up_ni (by decide), up_ni (by decide)]; exact e15) (by rw [up_ni (by decide), up_s, hb]) (by rw [up_s, hb]) ((F0.up (by decide)).up (by decide)))
            | (have hb : b1 = fp := by rw [← hb1]; exact blm_n z
               exact sC Z _ _ _ e9 e10 e16 e15 (by rw [hb]; exact e2) (by rw [hb]; exact e3) F0)
            | (have hb : b1 = fp := by rw [← hb1]; exact blm_ff (hbf (by omega) (by omega) (by omega))
               exact sC Z _ _ _ e9 e10 e16 e15 (by rw [hb]; exact e2) (by rw [hb]; exact e3) F0)
  refine x_enter 2 rfl rfl rfl (fun Z => ?_)
  show Wx g y_Re_takeNumber Z K 0 [vR 123, vI l, vI (j : Int), vU, vU] [] σ
  refine x_iload_n (dat d_Re_takeNumber 0 rfl) rfl rfl ?_
  refine x_iconst (dat d_Re_takeNumber 1 rfl) (by decide) ?_
  refine x_imul (v := l * 3) (dat d_Re_takeNumber 2 rfl) rfl (by omega) ?_
  refine x_iload_n (dat d_Re_takeNumber 3 rfl) rfl rfl ?_
  refine x_iconst (dat d_Re_takeNumber 4 rfl) (by decide) ?_
  refine x_mmin (own := "ShakenBread$Reader") (dat d_Re_takeNumber 5 rfl) rfl l_Re_66 (by decide) (Nat.le_of_ble_eq_true rfl) (fun m_5 h1_5 h2_5 h3_5 => ?_)
  refine x_iadd (v := ((slT l j : Nat) : Int)) (dat d_Re_takeNumber 6 rfl) (by unfold slT; split <;> omega) (by omega) ?_
  refine x_istore_n (L' := [vR 123, vI l, vI (j : Int), vI ((slT l j : Nat) : Int), vU]) (dat d_Re_takeNumber 7 rfl) rfl (by decide) rfl rfl ?_
  refine x_iload_n (dat d_Re_takeNumber 8 rfl) rfl rfl ?_
  refine x_bipush (dat d_Re_takeNumber 9 rfl) (by decide) (by decide) ?_
  refine x_icmp_ne (tgt := 38) (dat d_Re_takeNumber 10 rfl) (by decide) (fun c_13 => ?_) (fun c_13 => ?_)
  · refine x_iconst (dat d_Re_takeNumber 23 rfl) (by decide) ?_
    refine x_istore (L' := [vR 123, vI l, vI (j : Int), vI ((slT l j : Nat) : Int), vI 0]) (dat d_Re_takeNumber 24 rfl) (by decide) rfl rfl ?_
    exact sB Z _ (by omega) (by omega)
  · refine x_iload_n (dat d_Re_takeNumber 11 rfl) rfl rfl ?_
    refine x_iconst (dat d_Re_takeNumber 12 rfl) (by decide) ?_
    refine x_icmp_ne (tgt := 38) (dat d_Re_takeNumber 13 rfl) (by decide) (fun c_18 => ?_) (fun c_18 => ?_)
    · refine x_iconst (dat d_Re_takeNumber 23 rfl) (by decide) ?_
      refine x_istore (L' := [vR 123, vI l, vI (j : Int), vI ((slT l j : Nat) : Int), vI 0]) (dat d_Re_takeNumber 24 rfl) (by decide) rfl rfl ?_
      exact sB Z _ (by omega) (by omega)
    · refine x_aload_n (dat d_Re_takeNumber 14 rfl) rfl rfl ?_
      refine x_geti (ji := 10) (v := v) (dat d_Re_takeNumber 15 rfl) rfl f_Re_181 (oi_mk (by decide +kernel)) (e10) ?_
      refine x_aload_n (dat d_Re_takeNumber 16 rfl) rfl rfl ?_
      refine x_getr (r := 137) (dat d_Re_takeNumber 17 rfl) rfl f_Re_25 (or_mk (by decide +kernel)) ?_
      refine x_iconst (dat d_Re_takeNumber 18 rfl) (by decide) ?_
      refine x_iald (n := 13) (v := σ 137 0) (dat d_Re_takeNumber 19 rfl) (ai_mk (by decide +kernel)) (by omega) (by omega) rfl ?_
      refine x_icmp_ne (tgt := 38) (dat d_Re_takeNumber 20 rfl) (by decide) (fun c_31 => ?_) (fun c_31 => ?_)
      · refine x_iconst (dat d_Re_takeNumber 23 rfl) (by decide) ?_
        refine x_istore (L' := [vR 123, vI l, vI (j : Int), vI ((slT l j : Nat) : Int), vI 0]) (dat d_Re_takeNumber 24 rfl) (by decide) rfl rfl ?_
        exact sB Z _ (by omega) (by omega)
      · refine x_iconst (dat d_Re_takeNumber 21 rfl) (by decide) ?_
        refine x_goto (tgt := 39) (dat d_Re_takeNumber 22 rfl) (by decide) ?_
        refine x_istore (L' := [vR 123, vI l, vI (j : Int), vI ((slT l j : Nat) : Int), vI 1]) (dat d_Re_takeNumber 24 rfl) (by decide) rfl rfl ?_
        exact sB Z _ (by omega) (by omega)
