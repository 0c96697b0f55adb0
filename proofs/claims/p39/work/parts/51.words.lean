/-! the reader's words, and what becomes of a fault -/
theorem sp_Re_isWord {g : xG} {K : Option MV → xS → Prop} {σ : xS} {T : Int → Int} {n q W : Int} {s : Nat} (H : RdT σ T n) (hs : s < 16) (hW : wdW.getD s 0 = W) (q0 : 0 ≤ q) (q1 : q ≤ n) (e9 : σ 123 9 = q) (e7 : σ 123 7 = rn cLt T n q) (kt : wrd T n q = W → K (some (vI 1)) σ) (kf : ¬ wrd T n q = W → K (some (vI 0)) σ) : Mt g y_Re_isWord [vR 123, vR (310 + s)] σ K := by
  subst hW
  have hn := H.1
  have hl := srl_100 hs
  have r0 := rn_ge (f := cLt) (T := T) (n := n) q
  have r1 := rn_le (f := cLt) (T := T) q1
  have ww := wrd_q (T := T) (n := n) (p := q) hs
  have lp : ∀ (Z : xZ) (d j : Nat), j + d = srL.getD s 0 → rn cLt T n q - q = (srL.getD s 0 : Nat) → (∀ i : Nat, i < j → T (q + i) = srI s i) → Wx g y_Re_isWord Z K 20 [vR 123, vR (310 + s), vI (j : Int)] [] σ := by
    intro Z d
    induction d with
    | zero =>
      intro j hd hL hin
      refine x_iload_n (dat d_Re_isWord 12 rfl) rfl rfl ?_
      refine x_aload_n (dat d_Re_isWord 13 rfl) rfl rfl ?_
      refine x_inv (As := []) (dat d_Re_isWord 14 rfl) rfl c_St_length l_Re_227 (by decide) (rv_str (by omega)) rfl rfl (Nat.le_of_ble_eq_true rfl) ?_
      refine sp_St_length hs ?_
      show Wx g y_Re_isWord Z K 25 [vR 123, vR (310 + s), vI (j : Int)] [vI ((srL.getD s 0 : Nat) : Int), vI (j : Int)] σ
      refine x_icmp_ge (tgt := 55) (dat d_Re_isWord 15 rfl) (by decide) (fun c_25 => ?_) (fun c_25 => (by omega))
      refine x_iconst (dat d_Re_isWord 31 rfl) (by decide) ?_
      refine x_zret (dat d_Re_isWord 32 rfl) rfl (by decide) ?_
      exact kt (ww.mp ⟨hL, fun i hi => hin i (by omega)⟩)
    | succ d ih =>
      intro j hd hL hin
      obtain ⟨b, eb, hT, hb⟩ := H.byte (i := q + j) (by omega) (by omega)
      have hc := sr_in (q := s) (j := (j : Int)) hs (by omega) (by omega)
      refine x_iload_n (dat d_Re_isWord 12 rfl) rfl rfl ?_
      refine x_aload_n (dat d_Re_isWord 13 rfl) rfl rfl ?_
      refine x_inv (As := []) (dat d_Re_isWord 14 rfl) rfl c_St_length l_Re_227 (by decide) (rv_str (by omega)) rfl rfl (Nat.le_of_ble_eq_true rfl) ?_
      refine sp_St_length hs ?_
      show Wx g y_Re_isWord Z K 25 [vR 123, vR (310 + s), vI (j : Int)] [vI ((srL.getD s 0 : Nat) : Int), vI (j : Int)] σ
      refine x_icmp_ge (tgt := 55) (dat d_Re_isWord 15 rfl) (by decide) (fun c_25 => (by omega)) (fun c_25 => ?_)
      refine x_aload_n (dat d_Re_isWord 16 rfl) rfl rfl ?_
      refine x_iload_n (dat d_Re_isWord 17 rfl) rfl rfl ?_
      refine x_inv (As := [vI (j : Int)]) (dat d_Re_isWord 18 rfl) rfl c_St_charAt l_Re_231 (by decide) (rv_str (by omega)) rfl rfl (Nat.le_of_ble_eq_true rfl) ?_
      refine sp_St_charAt hs (by omega) (by omega) ?_
      show Wx g y_Re_isWord Z K 33 [vR 123, vR (310 + s), vI (j : Int)] [vI (srI s (j : Int))] σ
      refine x_aload_n (dat d_Re_isWord 19 rfl) rfl rfl ?_
      refine x_getd (ji := 5) (r := 2) (dat d_Re_isWord 20 rfl) rfl f_Re_62 (by decide +kernel) (by exact H.2.1) ?_
      refine x_aload_n (dat d_Re_isWord 21 rfl) rfl rfl ?_
      refine x_geti (ji := 9) (v := q) (dat d_Re_isWord 22 rfl) rfl f_Re_114 (oi_mk (by decide +kernel)) (e9) ?_
      refine x_iload_n (dat d_Re_isWord 23 rfl) rfl rfl ?_
      refine x_iadd (v := q + (j : Int)) (dat d_Re_isWord 24 rfl) rfl (by omega) ?_
      refine x_bald (n := 600) (v := b) (dat d_Re_isWord 25 rfl) (ai_mk (by decide +kernel)) (by omega) (by omega) (eb) ?_
      refine x_icmp_eq (tgt := 49) (dat d_Re_isWord 26 rfl) (by decide) (fun c_44 => ?_) (fun c_44 => ?_)
      · refine x_iinc (v' := ((j + 1 : Nat) : Int)) (L' := [vR 123, vR (310 + s), vI ((j + 1 : Nat) : Int)]) (dat d_Re_isWord 29 rfl) rfl (by decide) rfl (by omega) (by omega) rfl ?_
        refine x_goto (tgt := 20) (dat d_Re_isWord 30 rfl) (by decide) ?_
        refine ih (j + 1) (by omega) hL (fun i hi => ?_)
        by_cases z : i = j
        · subst z; omega
        · exact hin i (by omega)
      · refine x_iconst (dat d_Re_isWord 27 rfl) (by decide) ?_
        refine x_zret (dat d_Re_isWord 28 rfl) rfl (by decide) ?_
        refine kf (fun w => ?_)
        have := (ww.mpr w).2 j (by omega)
        omega
  refine x_enter 1 rfl rfl rfl (fun Z => ?_)
  show Wx g y_Re_isWord Z K 0 [vR 123, vR (310 + s), vU] [] σ
  refine x_aload_n (dat d_Re_isWord 0 rfl) rfl rfl ?_
  refine x_inv (As := []) (dat d_Re_isWord 1 rfl) rfl c_St_length l_Re_227 (by decide) (rv_str (by omega)) rfl rfl (Nat.le_of_ble_eq_true rfl) ?_
  refine sp_St_length hs ?_
  show Wx g y_Re_isWord Z K 4 [vR 123, vR (310 + s), vU] [vI ((srL.getD s 0 : Nat) : Int)] σ
  refine x_aload_n (dat d_Re_isWord 2 rfl) rfl rfl ?_
  refine x_geti (ji := 7) (v := rn cLt T n q) (dat d_Re_isWord 3 rfl) rfl f_Re_72 (oi_mk (by decide +kernel)) (e7) ?_
  refine x_aload_n (dat d_Re_isWord 4 rfl) rfl rfl ?_
  refine x_geti (ji := 9) (v := q) (dat d_Re_isWord 5 rfl) rfl f_Re_114 (oi_mk (by decide +kernel)) (e9) ?_
  refine x_isub (v := (rn cLt T n q) - q) (dat d_Re_isWord 6 rfl) rfl (by omega) ?_
  refine x_icmp_eq (tgt := 18) (dat d_Re_isWord 7 rfl) (by decide) (fun c_13 => ?_) (fun c_13 => ?_)
  · refine x_iconst (dat d_Re_isWord 10 rfl) (by decide) ?_
    refine x_istore_n (L' := [vR 123, vR (310 + s), vI 0]) (dat d_Re_isWord 11 rfl) rfl (by decide) rfl rfl ?_
    exact lp Z (srL.getD s 0) 0 (by omega) (by omega) (fun i hi => absurd hi (Nat.not_lt_zero _))
  · refine x_iconst (dat d_Re_isWord 8 rfl) (by decide) ?_
    refine x_zret (dat d_Re_isWord 9 rfl) rfl (by decide) ?_
    refine kf (fun w => ?_)
    have := (ww.mpr w).1
    omega
theorem sp_Re_breakOff {g : xG} {K : Option MV → xS → Prop} {σ : xS} {q : Int} (e9 : σ 123 9 = q) (k : K (some (vI 0)) (up (up σ 123 2 1) 123 3 q)) : Mt g y_Re_breakOff [vR 123] σ K := by
  refine x_enter 0 rfl rfl rfl (fun Z => ?_)
  show Wx g y_Re_breakOff Z K 0 [vR 123] [] σ
  refine x_aload_n (dat d_Re_breakOff 0 rfl) rfl rfl ?_
  refine x_iconst (dat d_Re_breakOff 1 rfl) (by decide) ?_
  refine x_puti (ji := 2) (x := (1)) (dat d_Re_breakOff 2 rfl) rfl f_Re_53w (oi_mk (by decide +kernel)) (fun h => absurd h (by decide)) (by decide) ?_
  refine x_aload_n (dat d_Re_breakOff 3 rfl) rfl rfl ?_
  refine x_aload_n (dat d_Re_breakOff 4 rfl) rfl rfl ?_
  refine x_geti (ji := 9) (v := q) (dat d_Re_breakOff 5 rfl) rfl f_Re_114 (oi_mk (by decide +kernel)) ((up_ni (by decide)).trans e9) ?_
  refine x_puti (ji := 3) (x := (q)) (dat d_Re_breakOff 6 rfl) rfl f_Re_59w (oi_mk (by decide +kernel)) (fun h => absurd h (by decide)) (by decide) ?_
  refine x_iconst (dat d_Re_breakOff 7 rfl) (by decide) ?_
  refine x_zret (dat d_Re_breakOff 8 rfl) rfl (by decide) ?_
  exact k
theorem sp_Re_blame {g : xG} {K : Option MV → xS → Prop} {σ : xS} {q f v : Int} (e9 : σ 123 9 = q) (e2 : σ 123 2 = f) (k0 : f = 0 → K none (up (up σ 123 2 v) 123 3 q)) (k1 : f ≠ 0 → K none σ) : Mt g y_Re_blame [vR 123, vI v] σ K := by
  refine x_enter 0 rfl rfl rfl (fun Z => ?_)
  show Wx g y_Re_blame Z K 0 [vR 123, vI v] [] σ
  refine x_aload_n (dat d_Re_blame 0 rfl) rfl rfl ?_
  refine x_geti (ji := 2) (v := f) (dat d_Re_blame 1 rfl) rfl f_Re_53 (oi_mk (by decide +kernel)) (e2) ?_
  refine x_if_ne (tgt := 20) (dat d_Re_blame 2 rfl) (by decide) (fun c_4 => ?_) (fun c_4 => ?_)
  · refine x_ret (dat d_Re_blame 10 rfl) rfl ?_
    first
    | exact k0 (by omega)
    | exact k1 (by omega)
  · refine x_aload_n (dat d_Re_blame 3 rfl) rfl rfl ?_
    refine x_iload_n (dat d_Re_blame 4 rfl) rfl rfl ?_
    refine x_puti (ji := 2) (x := (v)) (dat d_Re_blame 5 rfl) rfl f_Re_53w (oi_mk (by decide +kernel)) (fun h => absurd h (by decide)) (by decide) ?_
    refine x_aload_n (dat d_Re_blame 6 rfl) rfl rfl ?_
    refine x_aload_n (dat d_Re_blame 7 rfl) rfl rfl ?_
    refine x_geti (ji := 9) (v := q) (dat d_Re_blame 8 rfl) rfl f_Re_114 (oi_mk (by decide +kernel)) ((up_ni (by decide)).trans e9) ?_
    refine x_puti (ji := 3) (x := (q)) (dat d_Re_blame 9 rfl) rfl f_Re_59w (oi_mk (by decide +kernel)) (fun h => absurd h (by decide)) (by decide) ?_
    refine x_ret (dat d_Re_blame 10 rfl) rfl ?_
    first
    | exact k0 (by omega)
    | exact k1 (by omega)
/-- a word's manner, law, line; none -/
def mnW (w : Int) : Int := if 5 ≤ w ∧ w ≤ 8 then w - 5 else -1
def lwW (w : Int) : Int := if 12 ≤ w ∧ w ≤ 15 then w - 12 else -1
def lnW (s w : Int) : Int := if s = 1 then (if w = 16 then 7 else -1) else if 5 ≤ w ∧ w ≤ 8 then 3 else if w = 1 then 0 else if w = 2 then 8 else if w = 3 then 1 else if w = 4 then 2 else if w = 9 then 4 else if w = 10 then 5 else if w = 11 then 6 else -1
theorem sp_Re_mannerOfWord {g : xG} {K : Option MV → xS → Prop} {σ : xS} {T : Int → Int} {n q : Int} (H : RdT σ T n) (q0 : 0 ≤ q) (q1 : q ≤ n) (e9 : σ 123 9 = q) (e7 : σ 123 7 = rn cLt T n q) (k : K (some (vI (mnW (wrd T n q)))) σ) : Mt g y_Re_mannerOfWord [vR 123] σ K := by
  have kk : ∀ v : Int, v = mnW (wrd T n q) → K (some (vI v)) σ := fun v h => by rw [h]; exact k
  refine x_enter 0 rfl rfl rfl (fun Z => ?_)
  show Wx g y_Re_mannerOfWord Z K 0 [vR 123] [] σ
  refine x_aload_n (dat d_Re_mannerOfWord 0 rfl) rfl rfl ?_
  refine x_ldcS (i := 1) (dat d_Re_mannerOfWord 1 rfl) rfl (by decide) ?_
  refine x_inv (As := [vR 311]) (dat d_Re_mannerOfWord 2 rfl) rfl c_Re_isWord l_Re_119 (by decide) (rv_re (by decide +kernel)) rfl rfl (Nat.le_of_ble_eq_true rfl) ?_
  refine sp_Re_isWord (s := 1) (W := 5) H (by decide) rfl q0 q1 e9 e7 (fun w_3 => ?_) (fun w_3 => ?_)
  · show Wx g y_Re_mannerOfWord Z K 6 [vR 123] [vI 1] σ
    refine x_if_eq (tgt := 11) (dat d_Re_mannerOfWord 3 rfl) (by decide) (fun h => absurd h (by decide)) (fun c_6 => ?_)
    refine x_iconst (dat d_Re_mannerOfWord 4 rfl) (by decide) ?_
    refine x_iret (dat d_Re_mannerOfWord 5 rfl) rfl ?_
    refine kk _ ?_
    unfold mnW
    split <;> omega
  · show Wx g y_Re_mannerOfWord Z K 6 [vR 123] [vI 0] σ
    refine x_if_eq (tgt := 11) (dat d_Re_mannerOfWord 3 rfl) (by decide) (fun c_6 => ?_) (fun h => absurd h (by decide))
    refine x_aload_n (dat d_Re_mannerOfWord 6 rfl) rfl rfl ?_
    refine x_ldcS (i := 2) (dat d_Re_mannerOfWord 7 rfl) rfl (by decide) ?_
    refine x_inv (As := [vR 312]) (dat d_Re_mannerOfWord 8 rfl) rfl c_Re_isWord l_Re_119 (by decide) (rv_re (by decide +kernel)) rfl rfl (Nat.le_of_ble_eq_true rfl) ?_
    refine sp_Re_isWord (s := 2) (W := 6) H (by decide) rfl q0 q1 e9 e7 (fun w_14 => ?_) (fun w_14 => ?_)
    · show Wx g y_Re_mannerOfWord Z K 17 [vR 123] [vI 1] σ
      refine x_if_eq (tgt := 22) (dat d_Re_mannerOfWord 9 rfl) (by decide) (fun h => absurd h (by decide)) (fun c_17 => ?_)
      refine x_iconst (dat d_Re_mannerOfWord 10 rfl) (by decide) ?_
      refine x_iret (dat d_Re_mannerOfWord 11 rfl) rfl ?_
      refine kk _ ?_
      unfold mnW
      split <;> omega
    · show Wx g y_Re_mannerOfWord Z K 17 [vR 123] [vI 0] σ
      refine x_if_eq (tgt := 22) (dat d_Re_mannerOfWord 9 rfl) (by decide) (fun c_17 => ?_) (fun h => absurd h (by decide))
      refine x_aload_n (dat d_Re_mannerOfWord 12 rfl) rfl rfl ?_
      refine x_ldcS (i := 3) (dat d_Re_mannerOfWord 13 rfl) rfl (by decide) ?_
      refine x_inv (As := [vR 313]) (dat d_Re_mannerOfWord 14 rfl) rfl c_Re_isWord l_Re_119 (by decide) (rv_re (by decide +kernel)) rfl rfl (Nat.le_of_ble_eq_true rfl) ?_
      refine sp_Re_isWord (s := 3) (W := 7) H (by decide) rfl q0 q1 e9 e7 (fun w_25 => ?_) (fun w_25 => ?_)
      · show Wx g y_Re_mannerOfWord Z K 28 [vR 123] [vI 1] σ
        refine x_if_eq (tgt := 33) (dat d_Re_mannerOfWord 15 rfl) (by decide) (fun h => absurd h (by decide)) (fun c_28 => ?_)
        refine x_iconst (dat d_Re_mannerOfWord 16 rfl) (by decide) ?_
        refine x_iret (dat d_Re_mannerOfWord 17 rfl) rfl ?_
        refine kk _ ?_
        unfold mnW
        split <;> omega
      · show Wx g y_Re_mannerOfWord Z K 28 [vR 123] [vI 0] σ
        refine x_if_eq (tgt := 33) (dat d_Re_mannerOfWord 15 rfl) (by decide) (fun c_28 => ?_) (fun h => absurd h (by decide))
        refine x_aload_n (dat d_Re_mannerOfWord 18 rfl) rfl rfl ?_
        refine x_ldcS (i := 4) (dat d_Re_mannerOfWord 19 rfl) rfl (by decide) ?_
        refine x_inv (As := [vR 314]) (dat d_Re_mannerOfWord 20 rfl) rfl c_Re_isWord l_Re_119 (by decide) (rv_re (by decide +kernel)) rfl rfl (Nat.le_of_ble_eq_true rfl) ?_
        refine sp_Re_isWord (s := 4) (W := 8) H (by decide) rfl q0 q1 e9 e7 (fun w_36 => ?_) (fun w_36 => ?_)
        · show Wx g y_Re_mannerOfWord Z K 39 [vR 123] [vI 1] σ
          refine x_if_eq (tgt := 46) (dat d_Re_mannerOfWord 21 rfl) (by decide) (fun h => absurd h (by decide)) (fun c_39 => ?_)
          refine x_iconst (dat d_Re_mannerOfWord 22 rfl) (by decide) ?_
          refine x_goto (tgt := 47) (dat d_Re_mannerOfWord 23 rfl) (by decide) ?_
          refine x_iret (dat d_Re_mannerOfWord 25 rfl) rfl ?_
          refine kk _ ?_
          unfold mnW
          split <;> omega
        · show Wx g y_Re_mannerOfWord Z K 39 [vR 123] [vI 0] σ
          refine x_if_eq (tgt := 46) (dat d_Re_mannerOfWord 21 rfl) (by decide) (fun c_39 => ?_) (fun h => absurd h (by decide))
          refine x_iconst (dat d_Re_mannerOfWord 24 rfl) (by decide) ?_
          refine x_iret (dat d_Re_mannerOfWord 25 rfl) rfl ?_
          refine kk _ ?_
          unfold mnW
          split <;> omega
theorem sp_Re_lawOfWord {g : xG} {K : Option MV → xS → Prop} {σ : xS} {T : Int → Int} {n q : Int} (H : RdT σ T n) (q0 : 0 ≤ q) (q1 : q ≤ n) (e9 : σ 123 9 = q) (e7 : σ 123 7 = rn cLt T n q) (k : K (some (vI (lwW (wrd T n q)))) σ) : Mt g y_Re_lawOfWord [vR 123] σ K := by
  have kk : ∀ v : Int, v = lwW (wrd T n q) → K (some (vI v)) σ := fun v h => by rw [h]; exact k
  refine x_enter 0 rfl rfl rfl (fun Z => ?_)
  show Wx g y_Re_lawOfWord Z K 0 [vR 123] [] σ
  refine x_aload_n (dat d_Re_lawOfWord 0 rfl) rfl rfl ?_
  refine x_ldcS (i := 12) (dat d_Re_lawOfWord 1 rfl) rfl (by decide) ?_
  refine x_inv (As := [vR 322]) (dat d_Re_lawOfWord 2 rfl) rfl c_Re_isWord l_Re_119 (by decide) (rv_re (by decide +kernel)) rfl rfl (Nat.le_of_ble_eq_true rfl) ?_
  refine sp_Re_isWord (s := 12) (W := 12) H (by decide) rfl q0 q1 e9 e7 (fun w_3 => ?_) (fun w_3 => ?_)
  · show Wx g y_Re_lawOfWord Z K 6 [vR 123] [vI 1] σ
    refine x_if_eq (tgt := 11) (dat d_Re_lawOfWord 3 rfl) (by decide) (fun h => absurd h (by decide)) (fun c_6 => ?_)
    refine x_iconst (dat d_Re_lawOfWord 4 rfl) (by decide) ?_
    refine x_iret (dat d_Re_lawOfWord 5 rfl) rfl ?_
    refine kk _ ?_
    unfold lwW
    split <;> omega
  · show Wx g y_Re_lawOfWord Z K 6 [vR 123] [vI 0] σ
    refine x_if_eq (tgt := 11) (dat d_Re_lawOfWord 3 rfl) (by decide) (fun c_6 => ?_) (fun h => absurd h (by decide))
    refine x_aload_n (dat d_Re_lawOfWord 6 rfl) rfl rfl ?_
    refine x_ldcS (i := 13) (dat d_Re_lawOfWord 7 rfl) rfl (by decide) ?_
    refine x_inv (As := [vR 323]) (dat d_Re_lawOfWord 8 rfl) rfl c_Re_isWord l_Re_119 (by decide) (rv_re (by decide +kernel)) rfl rfl (Nat.le_of_ble_eq_true rfl) ?_
    refine sp_Re_isWord (s := 13) (W := 13) H (by decide) rfl q0 q1 e9 e7 (fun w_14 => ?_) (fun w_14 => ?_)
    · show Wx g y_Re_lawOfWord Z K 17 [vR 123] [vI 1] σ
      refine x_if_eq (tgt := 22) (dat d_Re_lawOfWord 9 rfl) (by decide) (fun h => absurd h (by decide)) (fun c_17 => ?_)
      refine x_iconst (dat d_Re_lawOfWord 10 rfl) (by decide) ?_
      refine x_iret (dat d_Re_lawOfWord 11 rfl) rfl ?_
      refine kk _ ?_
      unfold lwW
      split <;> omega
    · show Wx g y_Re_lawOfWord Z K 17 [vR 123] [vI 0] σ
      refine x_if_eq (tgt := 22) (dat d_Re_lawOfWord 9 rfl) (by decide) (fun c_17 => ?_) (fun h => absurd h (by decide))
      refine x_aload_n (dat d_Re_lawOfWord 12 rfl) rfl rfl ?_
      refine x_ldcS (i := 14) (dat d_Re_lawOfWord 13 rfl) rfl (by decide) ?_
      refine x_inv (As := [vR 324]) (dat d_Re_lawOfWord 14 rfl) rfl c_Re_isWord l_Re_119 (by decide) (rv_re (by decide +kernel)) rfl rfl (Nat.le_of_ble_eq_true rfl) ?_
      refine sp_Re_isWord (s := 14) (W := 14) H (by decide) rfl q0 q1 e9 e7 (fun w_25 => ?_) (fun w_25 => ?_)
      · show Wx g y_Re_lawOfWord Z K 28 [vR 123] [vI 1] σ
        refine x_if_eq (tgt := 33) (dat d_Re_lawOfWord 15 rfl) (by decide) (fun h => absurd h (by decide)) (fun c_28 => ?_)
        refine x_iconst (dat d_Re_lawOfWord 16 rfl) (by decide) ?_
        refine x_iret (dat d_Re_lawOfWord 17 rfl) rfl ?_
        refine kk _ ?_
        unfold lwW
        split <;> omega
      · show Wx g y_Re_lawOfWord Z K 28 [vR 123] [vI 0] σ
        refine x_if_eq (tgt := 33) (dat d_Re_lawOfWord 15 rfl) (by decide) (fun c_28 => ?_) (fun h => absurd h (by decide))
        refine x_aload_n (dat d_Re_lawOfWord 18 rfl) rfl rfl ?_
        refine x_ldcS (i := 15) (dat d_Re_lawOfWord 19 rfl) rfl (by decide) ?_
        refine x_inv (As := [vR 325]) (dat d_Re_lawOfWord 20 rfl) rfl c_Re_isWord l_Re_119 (by decide) (rv_re (by decide +kernel)) rfl rfl (Nat.le_of_ble_eq_true rfl) ?_
        refine sp_Re_isWord (s := 15) (W := 15) H (by decide) rfl q0 q1 e9 e7 (fun w_36 => ?_) (fun w_36 => ?_)
        · show Wx g y_Re_lawOfWord Z K 39 [vR 123] [vI 1] σ
          refine x_if_eq (tgt := 46) (dat d_Re_lawOfWord 21 rfl) (by decide) (fun h => absurd h (by decide)) (fun c_39 => ?_)
          refine x_iconst (dat d_Re_lawOfWord 22 rfl) (by decide) ?_
          refine x_goto (tgt := 47) (dat d_Re_lawOfWord 23 rfl) (by decide) ?_
          refine x_iret (dat d_Re_lawOfWord 25 rfl) rfl ?_
          refine kk _ ?_
          unfold lwW
          split <;> omega
        · show Wx g y_Re_lawOfWord Z K 39 [vR 123] [vI 0] σ
          refine x_if_eq (tgt := 46) (dat d_Re_lawOfWord 21 rfl) (by decide) (fun c_39 => ?_) (fun h => absurd h (by decide))
          refine x_iconst (dat d_Re_lawOfWord 24 rfl) (by decide) ?_
          refine x_iret (dat d_Re_lawOfWord 25 rfl) rfl ?_
          refine kk _ ?_
          unfold lwW
          split <;> omega
theorem sp_Re_lineOfWord {g : xG} {K : Option MV → xS → Prop} {σ : xS} {T : Int → Int} {n q s : Int} (H : RdT σ T n) (q0 : 0 ≤ q) (q1 : q ≤ n) (e9 : σ 123 9 = q) (e7 : σ 123 7 = rn cLt T n q) (k : ∀ σ' : xS, (s ≠ 1 → σ' 123 11 = mnW (wrd T n q)) → (∀ i : Int, i ≠ 11 → σ' 123 i = σ 123 i) → (∀ o : Nat, o ≠ 123 → σ' o = σ o) → K (some (vI (lnW s (wrd T n q)))) σ') : Mt g y_Re_lineOfWord [vR 123, vI s] σ K := by
  have k1 : ∀ v : Int, s = 1 → v = lnW s (wrd T n q) → K (some (vI v)) σ := fun v h h2 => by rw [h2]; exact k σ (fun w => absurd h w) (fun _ _ => rfl) (fun _ _ => rfl)
  have k2 : ∀ v : Int, v = lnW s (wrd T n q) → K (some (vI v)) (up σ 123 11 (mnW (wrd T n q))) := fun v h2 => by rw [h2]; exact k _ (fun _ => up_s) (fun i hi => up_ni (Ne.symm hi)) (fun o ho => up_ne ho)
  have H2 : RdT (up σ 123 11 (mnW (wrd T n q))) T n := H.same (up_ni (by decide)) (up_ni (by decide)) (up_ne (by decide))
  have e92 : up σ 123 11 (mnW (wrd T n q)) 123 9 = q := by rw [up_ni (by decide)]; exact e9
  have e72 : up σ 123 11 (mnW (wrd T n q)) 123 7 = rn cLt T n q := by rw [up_ni (by decide)]; exact e7
  have mb : mnW (wrd T n q) = -1 ↔ ¬ (5 ≤ wrd T n q ∧ wrd T n q ≤ 8) := by unfold mnW; split <;> omega
  refine x_enter 0 rfl rfl rfl (fun Z => ?_)
  show Wx g y_Re_lineOfWord Z K 0 [vR 123, vI s] [] σ
  refine x_iload_n (dat d_Re_lineOfWord 0 rfl) rfl rfl ?_
  refine x_iconst (dat d_Re_lineOfWord 1 rfl) (by decide) ?_
  refine x_icmp_ne (tgt := 21) (dat d_Re_lineOfWord 2 rfl) (by decide) (fun c_2 => ?_) (fun c_2 => ?_)
  · refine x_aload_n (dat d_Re_lineOfWord 11 rfl) rfl rfl ?_
    refine x_aload_n (dat d_Re_lineOfWord 12 rfl) rfl rfl ?_
    refine x_inv (As := []) (dat d_Re_lineOfWord 13 rfl) rfl c_Re_mannerOfWord l_Re_123 (by decide) (rv_re (by decide +kernel)) rfl rfl (Nat.le_of_ble_eq_true rfl) ?_
    refine sp_Re_mannerOfWord H q0 q1 e9 e7 ?_
    show Wx g y_Re_lineOfWord Z K 26 [vR 123, vI s] [vI (mnW (wrd T n q)), vR 123] σ
    refine x_puti (ji := 11) (x := (mnW (wrd T n q))) (dat d_Re_lineOfWord 14 rfl) rfl f_Re_127w (oi_mk (by decide +kernel)) (fun h => absurd h (by decide)) (by decide) ?_
    refine x_aload_n (dat d_Re_lineOfWord 15 rfl) rfl rfl ?_
    refine x_geti (ji := 11) (v := mnW (wrd T n q)) (dat d_Re_lineOfWord 16 rfl) rfl f_Re_127 (oi_mk (by decide +kernel)) (up_s) ?_
    refine x_iconst (dat d_Re_lineOfWord 17 rfl) (by decide) ?_
    refine x_icmp_eq (tgt := 39) (dat d_Re_lineOfWord 18 rfl) (by decide) (fun c_34 => ?_) (fun c_34 => ?_)
    · refine x_aload_n (dat d_Re_lineOfWord 21 rfl) rfl rfl ?_
      refine x_ldcS (i := 5) (dat d_Re_lineOfWord 22 rfl) rfl (by decide) ?_
      refine x_inv (As := [vR 315]) (dat d_Re_lineOfWord 23 rfl) rfl c_Re_isWord l_Re_119 (by decide) (rv_re (by decide +kernel)) rfl rfl (Nat.le_of_ble_eq_true rfl) ?_
      refine sp_Re_isWord (s := 5) (W := 1) H2 (by decide) rfl q0 q1 e92 e72 (fun w_42 => ?_) (fun w_42 => ?_)
      · show Wx g y_Re_lineOfWord Z K 45 [vR 123, vI s] [vI 1] (up σ 123 11 (mnW (wrd T n q)))
        refine x_if_eq (tgt := 50) (dat d_Re_lineOfWord 24 rfl) (by decide) (fun h => absurd h (by decide)) (fun c_45 => ?_)
        refine x_iconst (dat d_Re_lineOfWord 25 rfl) (by decide) ?_
        refine x_iret (dat d_Re_lineOfWord 26 rfl) rfl ?_
        first
        | refine k2 _ ?_
        | refine k1 _ (by omega) ?_
        unfold lnW
        first
        | (rw [if_pos (by omega), if_pos (by omega)])
        | (rw [if_pos (by omega), if_neg (by omega)])
        | (rw [if_neg (by omega), if_pos (by omega)])
        | (rw [if_neg (by omega), if_neg (by omega)]
           repeat'
             split
             · omega
           omega)
      · show Wx g y_Re_lineOfWord Z K 45 [vR 123, vI s] [vI 0] (up σ 123 11 (mnW (wrd T n q)))
        refine x_if_eq (tgt := 50) (dat d_Re_lineOfWord 24 rfl) (by decide) (fun c_45 => ?_) (fun h => absurd h (by decide))
        refine x_aload_n (dat d_Re_lineOfWord 27 rfl) rfl rfl ?_
        refine x_ldcS (i := 6) (dat d_Re_lineOfWord 28 rfl) rfl (by decide) ?_
        refine x_inv (As := [vR 316]) (dat d_Re_lineOfWord 29 rfl) rfl c_Re_isWord l_Re_119 (by decide) (rv_re (by decide +kernel)) rfl rfl (Nat.le_of_ble_eq_true rfl) ?_
        refine sp_Re_isWord (s := 6) (W := 2) H2 (by decide) rfl q0 q1 e92 e72 (fun w_53 => ?_) (fun w_53 => ?_)
        · show Wx g y_Re_lineOfWord Z K 56 [vR 123, vI s] [vI 1] (up σ 123 11 (mnW (wrd T n q)))
          refine x_if_eq (tgt := 62) (dat d_Re_lineOfWord 30 rfl) (by decide) (fun h => absurd h (by decide)) (fun c_56 => ?_)
          refine x_bipush (dat d_Re_lineOfWord 31 rfl) (by decide) (by decide) ?_
          refine x_iret (dat d_Re_lineOfWord 32 rfl) rfl ?_
          first
          | refine k2 _ ?_
          | refine k1 _ (by omega) ?_
          unfold lnW
          first
          | (rw [if_pos (by omega), if_pos (by omega)])
          | (rw [if_pos (by omega), if_neg (by omega)])
          | (rw [if_neg (by omega), if_pos (by omega)])
          | (rw [if_neg (by omega), if_neg (by omega)]
             repeat'
               split
               · omega
             omega)
        · show Wx g y_Re_lineOfWord Z K 56 [vR 123, vI s] [vI 0] (up σ 123 11 (mnW (wrd T n q)))
          refine x_if_eq (tgt := 62) (dat d_Re_lineOfWord 30 rfl) (by decide) (fun c_56 => ?_) (fun h => absurd h (by decide))
          refine x_aload_n (dat d_Re_lineOfWord 33 rfl) rfl rfl ?_
          refine x_ldcS (i := 7) (dat d_Re_lineOfWord 34 rfl) rfl (by decide) ?_
          refine x_inv (As := [vR 317]) (dat d_Re_lineOfWord 35 rfl) rfl c_Re_isWord l_Re_119 (by decide) (rv_re (by decide +kernel)) rfl rfl (Nat.le_of_ble_eq_true rfl) ?_
          refine sp_Re_isWord (s := 7) (W := 3) H2 (by decide) rfl q0 q1 e92 e72 (fun w_65 => ?_) (fun w_65 => ?_)
          · show Wx g y_Re_lineOfWord Z K 68 [vR 123, vI s] [vI 1] (up σ 123 11 (mnW (wrd T n q)))
            refine x_if_eq (tgt := 73) (dat d_Re_lineOfWord 36 rfl) (by decide) (fun h => absurd h (by decide)) (fun c_68 => ?_)
            refine x_iconst (dat d_Re_lineOfWord 37 rfl) (by decide) ?_
            refine x_iret (dat d_Re_lineOfWord 38 rfl) rfl ?_
            first
            | refine k2 _ ?_
            | refine k1 _ (by omega) ?_
            unfold lnW
            first
            | (rw [if_pos (by omega), if_pos (by omega)])
            | (rw [if_pos (by omega), if_neg (by omega)])
            | (rw [if_neg (by omega), if_pos (by omega)])
            | (rw [if_neg (by omega), if_neg (by omega)]
               repeat'
                 split
                 · omega
               omega)
          · show Wx g y_Re_lineOfWord Z K 68 [vR 123, vI s] [vI 0] (up σ 123 11 (mnW (wrd T n q)))
            refine x_if_eq (tgt := 73) (dat d_Re_lineOfWord 36 rfl) (by decide) (fun c_68 => ?_) (fun h => absurd h (by decide))
            refine x_aload_n (dat d_Re_lineOfWord 39 rfl) rfl rfl ?_
            refine x_ldcS (i := 8) (dat d_Re_lineOfWord 40 rfl) rfl (by decide) ?_
            refine x_inv (As := [vR 318]) (dat d_Re_lineOfWord 41 rfl) rfl c_Re_isWord l_Re_119 (by decide) (rv_re (by decide +kernel)) rfl rfl (Nat.le_of_ble_eq_true rfl) ?_
            refine sp_Re_isWord (s := 8) (W := 4) H2 (by decide) rfl q0 q1 e92 e72 (fun w_76 => ?_) (fun w_76 => ?_)
            · show Wx g y_Re_lineOfWord Z K 79 [vR 123, vI s] [vI 1] (up σ 123 11 (mnW (wrd T n q)))
              refine x_if_eq (tgt := 84) (dat d_Re_lineOfWord 42 rfl) (by decide) (fun h => absurd h (by decide)) (fun c_79 => ?_)
              refine x_iconst (dat d_Re_lineOfWord 43 rfl) (by decide) ?_
              refine x_iret (dat d_Re_lineOfWord 44 rfl) rfl ?_
              first
              | refine k2 _ ?_
              | refine k1 _ (by omega) ?_
              unfold lnW
              first
              | (rw [if_pos (by omega), if_pos (by omega)])
              | (rw [if_pos (by omega), if_neg (by omega)])
              | (rw [if_neg (by omega), if_pos (by omega)])
              | (rw [if_neg (by omega), if_neg (by omega)]
                 repeat'
                   split
                   · omega
                 omega)
            · show Wx g y_Re_lineOfWord Z K 79 [vR 123, vI s] [vI 0] (up σ 123 11 (mnW (wrd T n q)))
              refine x_if_eq (tgt := 84) (dat d_Re_lineOfWord 42 rfl) (by decide) (fun c_79 => ?_) (fun h => absurd h (by decide))
              refine x_aload_n (dat d_Re_lineOfWord 45 rfl) rfl rfl ?_
              refine x_ldcS (i := 9) (dat d_Re_lineOfWord 46 rfl) rfl (by decide) ?_
              refine x_inv (As := [vR 319]) (dat d_Re_lineOfWord 47 rfl) rfl c_Re_isWord l_Re_119 (by decide) (rv_re (by decide +kernel)) rfl rfl (Nat.le_of_ble_eq_true rfl) ?_
              refine sp_Re_isWord (s := 9) (W := 9) H2 (by decide) rfl q0 q1 e92 e72 (fun w_87 => ?_) (fun w_87 => ?_)
              · show Wx g y_Re_lineOfWord Z K 90 [vR 123, vI s] [vI 1] (up σ 123 11 (mnW (wrd T n q)))
                refine x_if_eq (tgt := 95) (dat d_Re_lineOfWord 48 rfl) (by decide) (fun h => absurd h (by decide)) (fun c_90 => ?_)
                refine x_iconst (dat d_Re_lineOfWord 49 rfl) (by decide) ?_
                refine x_iret (dat d_Re_lineOfWord 50 rfl) rfl ?_
                first
                | refine k2 _ ?_
                | refine k1 _ (by omega) ?_
                unfold lnW
                first
                | (rw [if_pos (by omega), if_pos (by omega)])
                | (rw [if_pos (by omega), if_neg (by omega)])
                | (rw [if_neg (by omega), if_pos (by omega)])
                | (rw [if_neg (by omega), if_neg (by omega)]
                   repeat'
                     split
                     · omega
                   omega)
              · show Wx g y_Re_lineOfWord Z K 90 [vR 123, vI s] [vI 0] (up σ 123 11 (mnW (wrd T n q)))
                refine x_if_eq (tgt := 95) (dat d_Re_lineOfWord 48 rfl) (by decide) (fun c_90 => ?_) (fun h => absurd h (by decide))
                refine x_aload_n (dat d_Re_lineOfWord 51 rfl) rfl rfl ?_
                refine x_ldcS (i := 10) (dat d_Re_lineOfWord 52 rfl) rfl (by decide) ?_
                refine x_inv (As := [vR 320]) (dat d_Re_lineOfWord 53 rfl) rfl c_Re_isWord l_Re_119 (by decide) (rv_re (by decide +kernel)) rfl rfl (Nat.le_of_ble_eq_true rfl) ?_
                refine sp_Re_isWord (s := 10) (W := 10) H2 (by decide) rfl q0 q1 e92 e72 (fun w_98 => ?_) (fun w_98 => ?_)
                · show Wx g y_Re_lineOfWord Z K 101 [vR 123, vI s] [vI 1] (up σ 123 11 (mnW (wrd T n q)))
                  refine x_if_eq (tgt := 106) (dat d_Re_lineOfWord 54 rfl) (by decide) (fun h => absurd h (by decide)) (fun c_101 => ?_)
                  refine x_iconst (dat d_Re_lineOfWord 55 rfl) (by decide) ?_
                  refine x_iret (dat d_Re_lineOfWord 56 rfl) rfl ?_
                  first
                  | refine k2 _ ?_
                  | refine k1 _ (by omega) ?_
                  unfold lnW
                  first
                  | (rw [if_pos (by omega), if_pos (by omega)])
                  | (rw [if_pos (by omega), if_neg (by omega)])
                  | (rw [if_neg (by omega), if_pos (by omega)])
                  | (rw [if_neg (by omega), if_neg (by omega)]
                     repeat'
                       split
                       · omega
                     omega)
                · show Wx g y_Re_lineOfWord Z K 101 [vR 123, vI s] [vI 0] (up σ 123 11 (mnW (wrd T n q)))
                  refine x_if_eq (tgt := 106) (dat d_Re_lineOfWord 54 rfl) (by decide) (fun c_101 => ?_) (fun h => absurd h (by decide))
                  refine x_aload_n (dat d_Re_lineOfWord 57 rfl) rfl rfl ?_
                  refine x_ldcS (i := 11) (dat d_Re_lineOfWord 58 rfl) rfl (by decide) ?_
                  refine x_inv (As := [vR 321]) (dat d_Re_lineOfWord 59 rfl) rfl c_Re_isWord l_Re_119 (by decide) (rv_re (by decide +kernel)) rfl rfl (Nat.le_of_ble_eq_true rfl) ?_
                  refine sp_Re_isWord (s := 11) (W := 11) H2 (by decide) rfl q0 q1 e92 e72 (fun w_109 => ?_) (fun w_109 => ?_)
                  · show Wx g y_Re_lineOfWord Z K 112 [vR 123, vI s] [vI 1] (up σ 123 11 (mnW (wrd T n q)))
                    refine x_if_eq (tgt := 120) (dat d_Re_lineOfWord 60 rfl) (by decide) (fun h => absurd h (by decide)) (fun c_112 => ?_)
                    refine x_bipush (dat d_Re_lineOfWord 61 rfl) (by decide) (by decide) ?_
                    refine x_goto (tgt := 121) (dat d_Re_lineOfWord 62 rfl) (by decide) ?_
                    refine x_iret (dat d_Re_lineOfWord 64 rfl) rfl ?_
                    first
                    | refine k2 _ ?_
                    | refine k1 _ (by omega) ?_
                    unfold lnW
                    first
                    | (rw [if_pos (by omega), if_pos (by omega)])
                    | (rw [if_pos (by omega), if_neg (by omega)])
                    | (rw [if_neg (by omega), if_pos (by omega)])
                    | (rw [if_neg (by omega), if_neg (by omega)]
                       repeat'
                         split
                         · omega
                       omega)
                  · show Wx g y_Re_lineOfWord Z K 112 [vR 123, vI s] [vI 0] (up σ 123 11 (mnW (wrd T n q)))
                    refine x_if_eq (tgt := 120) (dat d_Re_lineOfWord 60 rfl) (by decide) (fun c_112 => ?_) (fun h => absurd h (by decide))
                    refine x_iconst (dat d_Re_lineOfWord 63 rfl) (by decide) ?_
                    refine x_iret (dat d_Re_lineOfWord 64 rfl) rfl ?_
                    first
                    | refine k2 _ ?_
                    | refine k1 _ (by omega) ?_
                    unfold lnW
                    first
                    | (rw [if_pos (by omega), if_pos (by omega)])
                    | (rw [if_pos (by omega), if_neg (by omega)])
                    | (rw [if_neg (by omega), if_pos (by omega)])
                    | (rw [if_neg (by omega), if_neg (by omega)]
                       repeat'
                         split
                         · omega
                       omega)
    · refine x_iconst (dat d_Re_lineOfWord 19 rfl) (by decide) ?_
      refine x_iret (dat d_Re_lineOfWord 20 rfl) rfl ?_
      first
      | refine k2 _ ?_
      | refine k1 _ (by omega) ?_
      unfold lnW
      first
      | (rw [if_pos (by omega), if_pos (by omega)])
      | (rw [if_pos (by omega), if_neg (by omega)])
      | (rw [if_neg (by omega), if_pos (by omega)])
      | (rw [if_neg (by omega), if_neg (by omega)]
         repeat'
           split
           · omega
         omega)
  · refine x_aload_n (dat d_Re_lineOfWord 3 rfl) rfl rfl ?_
    refine x_ldcS (i := 0) (dat d_Re_lineOfWord 4 rfl) rfl (by decide) ?_
    refine x_inv (As := [vR 310]) (dat d_Re_lineOfWord 5 rfl) rfl c_Re_isWord l_Re_119 (by decide) (rv_re (by decide +kernel)) rfl rfl (Nat.le_of_ble_eq_true rfl) ?_
    refine sp_Re_isWord (s := 0) (W := 16) H (by decide) rfl q0 q1 e9 e7 (fun w_8 => ?_) (fun w_8 => ?_)
    · show Wx g y_Re_lineOfWord Z K 11 [vR 123, vI s] [vI 1] σ
      refine x_if_eq (tgt := 19) (dat d_Re_lineOfWord 6 rfl) (by decide) (fun h => absurd h (by decide)) (fun c_11 => ?_)
      refine x_bipush (dat d_Re_lineOfWord 7 rfl) (by decide) (by decide) ?_
      refine x_goto (tgt := 20) (dat d_Re_lineOfWord 8 rfl) (by decide) ?_
      refine x_iret (dat d_Re_lineOfWord 10 rfl) rfl ?_
      first
      | refine k2 _ ?_
      | refine k1 _ (by omega) ?_
      unfold lnW
      first
      | (rw [if_pos (by omega), if_pos (by omega)])
      | (rw [if_pos (by omega), if_neg (by omega)])
      | (rw [if_neg (by omega), if_pos (by omega)])
      | (rw [if_neg (by omega), if_neg (by omega)]
         repeat'
           split
           · omega
         omega)
    · show Wx g y_Re_lineOfWord Z K 11 [vR 123, vI s] [vI 0] σ
      refine x_if_eq (tgt := 19) (dat d_Re_lineOfWord 6 rfl) (by decide) (fun c_11 => ?_) (fun h => absurd h (by decide))
      refine x_iconst (dat d_Re_lineOfWord 9 rfl) (by decide) ?_
      refine x_iret (dat d_Re_lineOfWord 10 rfl) rfl ?_
      first
      | refine k2 _ ?_
      | refine k1 _ (by omega) ?_
      unfold lnW
      first
      | (rw [if_pos (by omega), if_pos (by omega)])
      | (rw [if_pos (by omega), if_neg (by omega)])
      | (rw [if_neg (by omega), if_pos (by omega)])
      | (rw [if_neg (by omega), if_neg (by omega)]
         repeat'
           split
           · omega
         omega)
