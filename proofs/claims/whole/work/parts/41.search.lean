/-! worlds: the greatest part -/
def mxG (f : Nat → Int) : Nat → Int
  | 0 => 0
  | n + 1 => if mxG f n < f n then f n else mxG f n
theorem mxG_nn (f : Nat → Int) : ∀ n : Nat, 0 ≤ mxG f n
  | 0 => Int.le_refl 0
  | n + 1 => by
    have := mxG_nn f n
    simp only [mxG]
    split <;> omega
theorem sp_Wo_greatestPart {g : xG} {K : Option MV → xS → Prop} {σ : xS} {h p : Int} {hv : Int → Int → Int → Int} (h0 : 0 ≤ h) (h1 : h < 24) (p0 : 0 ≤ p) (p1 : p < 8) (H : HvR σ hv) (k : K (some (vI (mxG (fun b => hv h p b) 265))) σ) : Mt g y_Wo_greatestPart [vR 171, vI h, vI p] σ K := by
  have lp : ∀ (Z : xZ) (n b : Nat), b + n = 265 → Wx g y_Wo_greatestPart Z K 5 [vR 171, vI h, vI p, vI (mxG (fun b => hv h p b) b), vI (b : Int)] [] σ := by
    intro Z n
    induction n with
    | zero =>
      intro b hn
      have e : b = 265 := by omega
      subst e
      refine x_iload (dat d_Wo_greatestPart 4 rfl) rfl ?_
      refine x_sipush (dat d_Wo_greatestPart 5 rfl) (by decide) (by decide) ?_
      refine x_icmp_ge (tgt := 38) (dat d_Wo_greatestPart 6 rfl) (by decide) (fun c_10 => ?_) (fun c_10 => (by omega))
      refine x_iload_n (dat d_Wo_greatestPart 21 rfl) rfl rfl ?_
      refine x_iret (dat d_Wo_greatestPart 22 rfl) rfl ?_
      exact k
    | succ n ih =>
      intro b hn
      have e := H h p b h0 h1 p0 p1 (by omega) (by omega)
      have st : mxG (fun b => hv h p b) (b + 1) = if mxG (fun b => hv h p b) b < hv h p b then hv h p b else mxG (fun b => hv h p b) b := rfl
      have nx := ih (b + 1) (by omega)
      refine x_iload (dat d_Wo_greatestPart 4 rfl) rfl ?_
      refine x_sipush (dat d_Wo_greatestPart 5 rfl) (by decide) (by decide) ?_
      refine x_icmp_ge (tgt := 38) (dat d_Wo_greatestPart 6 rfl) (by decide) (fun c_10 => (by omega)) (fun c_10 => ?_)
      refine x_iload_n (dat d_Wo_greatestPart 7 rfl) rfl rfl ?_
      refine x_aload_n (dat d_Wo_greatestPart 8 rfl) rfl rfl ?_
      refine x_getr (r := 173) (dat d_Wo_greatestPart 9 rfl) rfl f_Wo_16 (or_mk (by decide +kernel)) ?_
      refine x_aload_n (dat d_Wo_greatestPart 10 rfl) rfl rfl ?_
      refine x_iload_n (dat d_Wo_greatestPart 11 rfl) rfl rfl ?_
      refine x_iload_n (dat d_Wo_greatestPart 12 rfl) rfl rfl ?_
      refine x_inv (As := [vI h, vI p]) (dat d_Wo_greatestPart 13 rfl) rfl c_Wo_placeOf l_Wo_110 (by decide) (rv_wo (by decide +kernel)) rfl rfl (Nat.le_of_ble_eq_true rfl) ?_
      refine sp_Wo_placeOf h0 h1 p0 p1 ?_
      show Wx g y_Wo_greatestPart Z K 24 [vR 171, vI h, vI p, vI (mxG (fun b => hv h p b) b), vI (b : Int)] [vI ((8 * h + p) * 265), vR 173, vI (mxG (fun b => hv h p b) b)] σ
      refine x_iload (dat d_Wo_greatestPart 14 rfl) rfl ?_
      refine x_iadd (v := ((8 * h + p) * 265) + (b : Int)) (dat d_Wo_greatestPart 15 rfl) rfl (by omega) ?_
      refine x_iald (n := 50880) (v := hv h p b) (dat d_Wo_greatestPart 16 rfl) (ai_mk (by decide +kernel)) (by omega) (by omega) (e) ?_
      refine x_mmax (own := "ShakenBread$Worlds") (dat d_Wo_greatestPart 17 rfl) rfl l_Wo_78 (by decide) (Nat.le_of_ble_eq_true rfl) (fun m_28 h1_28 h2_28 h3_28 => ?_)
      refine x_istore_n (L' := [vR 171, vI h, vI p, vI m_28, vI (b : Int)]) (dat d_Wo_greatestPart 18 rfl) rfl (by decide) rfl rfl ?_
      refine x_iinc (v' := ((b + 1 : Nat) : Int)) (L' := [vR 171, vI h, vI p, vI m_28, vI ((b + 1 : Nat) : Int)]) (dat d_Wo_greatestPart 19 rfl) rfl (by decide) rfl (by omega) (by omega) rfl ?_
      refine x_goto (tgt := 5) (dat d_Wo_greatestPart 20 rfl) (by decide) ?_
      have x1 : m_28 = mxG (fun b => hv h p b) (b + 1) := by rw [st]; split <;> omega
      rw [x1]
      exact nx
  refine x_enter 2 rfl rfl rfl (fun Z => ?_)
  show Wx g y_Wo_greatestPart Z K 0 [vR 171, vI h, vI p, vU, vU] [] σ
  refine x_iconst (dat d_Wo_greatestPart 0 rfl) (by decide) ?_
  refine x_istore_n (L' := [vR 171, vI h, vI p, vI 0, vU]) (dat d_Wo_greatestPart 1 rfl) rfl (by decide) rfl rfl ?_
  refine x_iconst (dat d_Wo_greatestPart 2 rfl) (by decide) ?_
  refine x_istore (L' := [vR 171, vI h, vI p, vI 0, vI 0]) (dat d_Wo_greatestPart 3 rfl) (by decide) rfl rfl ?_
  exact lp Z 265 0 (by omega)
