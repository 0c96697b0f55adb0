/-! worlds: what the counts tell -/
/-- in how many worlds one has so much -/
def HvR (σ : xS) (hv : Int → Int → Int → Int) : Prop := ∀ h p b : Int, 0 ≤ h → h < 24 → 0 ≤ p → p < 8 → 0 ≤ b → b < 265 → σ 173 ((8 * h + p) * 265 + b) = hv h p b
theorem sp_Wo_placeOf {g : xG} {K : Option MV → xS → Prop} {σ : xS} {h p : Int} (h0 : 0 ≤ h) (h1 : h < 24) (p0 : 0 ≤ p) (p1 : p < 8) (k : K (some (vI ((8 * h + p) * 265))) σ) : Mt g y_Wo_placeOf [vR 171, vI h, vI p] σ K := by
  refine x_enter 0 rfl rfl rfl (fun Z => ?_)
  show Wx g y_Wo_placeOf Z K 0 [vR 171, vI h, vI p] [] σ
  refine x_iload_n (dat d_Wo_placeOf 0 rfl) rfl rfl ?_
  refine x_bipush (dat d_Wo_placeOf 1 rfl) (by decide) (by decide) ?_
  refine x_imul (v := 8 * h) (dat d_Wo_placeOf 2 rfl) (by omega) (by omega) ?_
  refine x_iload_n (dat d_Wo_placeOf 3 rfl) rfl rfl ?_
  refine x_iadd (v := (8 * h) + p) (dat d_Wo_placeOf 4 rfl) rfl (by omega) ?_
  refine x_sipush (dat d_Wo_placeOf 5 rfl) (by decide) (by decide) ?_
  refine x_imul (v := ((8 * h) + p) * 265) (dat d_Wo_placeOf 6 rfl) rfl (by omega) ?_
  refine x_iret (dat d_Wo_placeOf 7 rfl) rfl ?_
  exact k
theorem sp_Wo_leastOf {g : xG} {K : Option MV → xS → Prop} {σ : xS} {h p : Int} {hv : Int → Int → Int → Int} (h0 : 0 ≤ h) (h1 : h < 24) (p0 : 0 ≤ p) (p1 : p < 8) (H : HvR σ hv) (k : ∀ v : Int, FirstH (fun b => 0 < hv h p b) 265 v → K (some (vI v)) σ) : Mt g y_Wo_leastOf [vR 171, vI h, vI p] σ K := by
  have lp : ∀ (Z : xZ) (n b : Nat), b + n = 265 → (∀ j : Nat, j < b → ¬ 0 < hv h p j) → Wx g y_Wo_leastOf Z K 2 [vR 171, vI h, vI p, vI (b : Int)] [] σ := by
    intro Z n
    induction n with
    | zero =>
      intro b hn Hf
      have e : b = 265 := by omega
      subst e
      refine x_iload_n (dat d_Wo_leastOf 2 rfl) rfl rfl ?_
      refine x_sipush (dat d_Wo_leastOf 3 rfl) (by decide) (by decide) ?_
      refine x_icmp_ge (tgt := 33) (dat d_Wo_leastOf 4 rfl) (by decide) (fun c_6 => ?_) (fun c_6 => (by omega))
      refine x_iconst (dat d_Wo_leastOf 19 rfl) (by decide) ?_
      refine x_iret (dat d_Wo_leastOf 20 rfl) rfl ?_
      exact k _ (Or.inl ⟨rfl, Hf⟩)
    | succ n ih =>
      intro b hn Hf
      have e := H h p b h0 h1 p0 p1 (by omega) (by omega)
      refine x_iload_n (dat d_Wo_leastOf 2 rfl) rfl rfl ?_
      refine x_sipush (dat d_Wo_leastOf 3 rfl) (by decide) (by decide) ?_
      refine x_icmp_ge (tgt := 33) (dat d_Wo_leastOf 4 rfl) (by decide) (fun c_6 => (by omega)) (fun c_6 => ?_)
      refine x_aload_n (dat d_Wo_leastOf 5 rfl) rfl rfl ?_
      refine x_getr (r := 173) (dat d_Wo_leastOf 6 rfl) rfl f_Wo_16 (or_mk (by decide +kernel)) ?_
      refine x_aload_n (dat d_Wo_leastOf 7 rfl) rfl rfl ?_
      refine x_iload_n (dat d_Wo_leastOf 8 rfl) rfl rfl ?_
      refine x_iload_n (dat d_Wo_leastOf 9 rfl) rfl rfl ?_
      refine x_inv (As := [vI h, vI p]) (dat d_Wo_leastOf 10 rfl) rfl c_Wo_placeOf l_Wo_110 (by decide) (rv_wo (by decide +kernel)) rfl rfl (Nat.le_of_ble_eq_true rfl) ?_
      refine sp_Wo_placeOf h0 h1 p0 p1 ?_
      show Wx g y_Wo_leastOf Z K 19 [vR 171, vI h, vI p, vI (b : Int)] [vI ((8 * h + p) * 265), vR 173] σ
      refine x_iload_n (dat d_Wo_leastOf 11 rfl) rfl rfl ?_
      refine x_iadd (v := ((8 * h + p) * 265) + (b : Int)) (dat d_Wo_leastOf 12 rfl) rfl (by omega) ?_
      refine x_iald (n := 50880) (v := hv h p b) (dat d_Wo_leastOf 13 rfl) (ai_mk (by decide +kernel)) (by omega) (by omega) (e) ?_
      refine x_if_le (tgt := 27) (dat d_Wo_leastOf 14 rfl) (by decide) (fun c_22 => ?_) (fun c_22 => ?_)
      · refine x_iinc (v' := ((b + 1 : Nat) : Int)) (L' := [vR 171, vI h, vI p, vI ((b + 1 : Nat) : Int)]) (dat d_Wo_leastOf 17 rfl) rfl (by decide) rfl (by omega) (by omega) rfl ?_
        refine x_goto (tgt := 2) (dat d_Wo_leastOf 18 rfl) (by decide) ?_
        refine ih (b + 1) (by omega) (fun j q => ?_)
        rcases Nat.lt_or_eq_of_le (Nat.le_of_lt_succ q) with q2 | q2
        · exact Hf j q2
        · subst q2
          omega
      · refine x_iload_n (dat d_Wo_leastOf 15 rfl) rfl rfl ?_
        refine x_iret (dat d_Wo_leastOf 16 rfl) rfl ?_
        exact k _ (Or.inr ⟨b, by omega, rfl, by omega, Hf⟩)
  refine x_enter 1 rfl rfl rfl (fun Z => ?_)
  show Wx g y_Wo_leastOf Z K 0 [vR 171, vI h, vI p, vU] [] σ
  refine x_iconst (dat d_Wo_leastOf 0 rfl) (by decide) ?_
  refine x_istore_n (L' := [vR 171, vI h, vI p, vI 0]) (dat d_Wo_leastOf 1 rfl) rfl (by decide) rfl rfl ?_
  exact lp Z 265 0 (by omega) (fun j q => absurd q (Nat.not_lt_zero _))
theorem sp_Wo_mostOf {g : xG} {K : Option MV → xS → Prop} {σ : xS} {h p : Int} {hv : Int → Int → Int → Int} (h0 : 0 ≤ h) (h1 : h < 24) (p0 : 0 ≤ p) (p1 : p < 8) (H : HvR σ hv) (k : ∀ v : Int, FirstH (fun b => 0 < hv h p (264 - (b : Int))) 265 v → K (some (vI (if v < 0 then -1 else 264 - v))) σ) : Mt g y_Wo_mostOf [vR 171, vI h, vI p] σ K := by
  have lp : ∀ (Z : xZ) (n b : Nat), b + n = 265 → (∀ j : Nat, j < b → ¬ 0 < hv h p (264 - (j : Int))) → Wx g y_Wo_mostOf Z K 4 [vR 171, vI h, vI p, vI (264 - (b : Int))] [] σ := by
    intro Z n
    induction n with
    | zero =>
      intro b hn Hf
      have e : b = 265 := by omega
      subst e
      refine x_iload_n (dat d_Wo_mostOf 2 rfl) rfl rfl ?_
      refine x_if_lt (tgt := 32) (dat d_Wo_mostOf 3 rfl) (by decide) (fun c_5 => ?_) (fun c_5 => (by omega))
      refine x_iconst (dat d_Wo_mostOf 18 rfl) (by decide) ?_
      refine x_iret (dat d_Wo_mostOf 19 rfl) rfl ?_
      exact k (-1) (Or.inl ⟨rfl, Hf⟩)
    | succ n ih =>
      intro b hn Hf
      have e := H h p (264 - (b : Int)) h0 h1 p0 p1 (by omega) (by omega)
      refine x_iload_n (dat d_Wo_mostOf 2 rfl) rfl rfl ?_
      refine x_if_lt (tgt := 32) (dat d_Wo_mostOf 3 rfl) (by decide) (fun c_5 => (by omega)) (fun c_5 => ?_)
      refine x_aload_n (dat d_Wo_mostOf 4 rfl) rfl rfl ?_
      refine x_getr (r := 173) (dat d_Wo_mostOf 5 rfl) rfl f_Wo_16 (or_mk (by decide +kernel)) ?_
      refine x_aload_n (dat d_Wo_mostOf 6 rfl) rfl rfl ?_
      refine x_iload_n (dat d_Wo_mostOf 7 rfl) rfl rfl ?_
      refine x_iload_n (dat d_Wo_mostOf 8 rfl) rfl rfl ?_
      refine x_inv (As := [vI h, vI p]) (dat d_Wo_mostOf 9 rfl) rfl c_Wo_placeOf l_Wo_110 (by decide) (rv_wo (by decide +kernel)) rfl rfl (Nat.le_of_ble_eq_true rfl) ?_
      refine sp_Wo_placeOf h0 h1 p0 p1 ?_
      show Wx g y_Wo_mostOf Z K 18 [vR 171, vI h, vI p, vI (264 - (b : Int))] [vI ((8 * h + p) * 265), vR 173] σ
      refine x_iload_n (dat d_Wo_mostOf 10 rfl) rfl rfl ?_
      refine x_iadd (v := ((8 * h + p) * 265) + (264 - (b : Int))) (dat d_Wo_mostOf 11 rfl) rfl (by omega) ?_
      refine x_iald (n := 50880) (v := hv h p (264 - (b : Int))) (dat d_Wo_mostOf 12 rfl) (ai_mk (by decide +kernel)) (by omega) (by omega) (e) ?_
      refine x_if_le (tgt := 26) (dat d_Wo_mostOf 13 rfl) (by decide) (fun c_21 => ?_) (fun c_21 => ?_)
      · refine x_iinc (v' := 264 - ((b + 1 : Nat) : Int)) (L' := [vR 171, vI h, vI p, vI (264 - ((b + 1 : Nat) : Int))]) (dat d_Wo_mostOf 16 rfl) rfl (by decide) rfl (by omega) (by omega) rfl ?_
        refine x_goto (tgt := 4) (dat d_Wo_mostOf 17 rfl) (by decide) ?_
        refine ih (b + 1) (by omega) (fun j q => ?_)
        rcases Nat.lt_or_eq_of_le (Nat.le_of_lt_succ q) with q2 | q2
        · exact Hf j q2
        · subst q2
          omega
      · refine x_iload_n (dat d_Wo_mostOf 14 rfl) rfl rfl ?_
        refine x_iret (dat d_Wo_mostOf 15 rfl) rfl ?_
        have := k (b : Int) (Or.inr ⟨b, by omega, rfl, by omega, Hf⟩)
        rw [if_neg (by omega)] at this
        exact this
  refine x_enter 1 rfl rfl rfl (fun Z => ?_)
  show Wx g y_Wo_mostOf Z K 0 [vR 171, vI h, vI p, vU] [] σ
  refine x_sipush (dat d_Wo_mostOf 0 rfl) (by decide) (by decide) ?_
  refine x_istore_n (L' := [vR 171, vI h, vI p, vI 264]) (dat d_Wo_mostOf 1 rfl) rfl (by decide) rfl rfl ?_
  exact lp Z 265 0 (by omega) (fun j q => absurd q (Nat.not_lt_zero _))
