/-! worlds: the greatest part -/
def mxG (f : Nat → Int) : Nat → Int
  | 0 => 0
  | n + 1 => if mxG f n < f n then f n else mxG f n
theorem mxG_nn (f : Nat → Int) : ∀ n : Nat, 0 ≤ mxG f n
  | 0 => Int.le_refl 0
  | n + 1 => by
    have := mxG_nn f n
    simp only [mxG]
    split <;> omega
theorem sp_Wo_greatestPart {g : xG} {K : Option MV → xS → Prop} {σ : xS} {h p : Int} {hv : Int → Int → Int → Int} (h0 : 0 ≤ h) (h1 : h < 24) (p0 : 0 ≤ p) (p1 : p < 8) (H : HvR σ hv) (k : K (some (vI (mxG (fun b => hv h p b) 265))) σ) : Mt g y_Wo_greatestPart [vR 171, vI h, vI p] σ K := by
  have lp : ∀ (Z : xZ) (n b : Nat), b + n = 265 → Wx g y_Wo_greatestPart Z K 5 [vR 171, vI h, vI p, vI (mxG (fun b => hv h p b) b), vI (b : Int)] [] σ := by
    intro Z n
    induction n with
    | zero =>
      intro b hn
      have e : b = 265 := by omega
      subst e
      refine x_iload (dat d_Wo_greatestPart 4 rfl) rfl ?_
      refine x_sipush (dat d_Wo_greatestPart 5 rfl) (by decide) (by decide) ?_
      refine x_icmp_ge (tgt := 38) (dat d_Wo_greatestPart 6 rfl) (by decide) (fun c_10 => ?_) (fun c_10 => (by omega))
      refine x_iload_n (dat d_Wo_greatestPart 21 rfl) rfl rfl ?_
      refine x_iret (dat d_Wo_greatestPart 22 rfl) rfl ?_
      exact k
    | succ n ih =>
      intro b hn
      have e := H h p b h0 h1 p0 p1 (by omega) (by omega)
      have st : mxG (fun b => hv h p b) (b + 1) = if mxG (fun b => hv h p b) b < hv h p b then hv h p b else mxG (fun b => hv h p b) b := rfl
      have nx := ih (b + 1) (by omega)
      refine x_iload (dat d_Wo_greatestPart 4 rfl) rfl ?_
      refine x_sipush (dat d_Wo_greatestPart 5 rfl) (by decide) (by decide) ?_
      refine x_icmp_ge (tgt := 38) (dat d_Wo_greatestPart 6 rfl) (by decide) (fun c_10 => (by omega)) (fun c_10 => ?_)
      refine x_iload_n (dat d_Wo_greatestPart 7 rfl) rfl rfl ?_
      refine x_aload_n (dat d_Wo_greatestPart 8 rfl) rfl rfl ?_
      refine x_getr (r := 173) (dat d_Wo_greatestPart 9 rfl) rfl f_Wo_16 (or_mk (by decide +kernel)) ?_
      refine x_aload_n (dat d_Wo_greatestPart 10 rfl) rfl rfl ?_
      refine x_iload_n (dat d_Wo_greatestPart 11 rfl) rfl rfl ?_
      refine x_iload_n (dat d_Wo_greatestPart 12 rfl) rfl rfl ?_
      refine x_inv (As := [vI h, vI p]) (dat d_Wo_greatestPart 13 rfl) rfl c_Wo_placeOf l_Wo_110 (by decide) (rv_wo (by decide +kernel)) rfl rfl (Nat.le_of_ble_eq_true rfl) ?_
      refine sp_Wo_placeOf h0 h1 p0 p1 ?_
      show Wx g y_Wo_greatestPart Z K 24 [vR 171, vI h, vI p, vI (mxG (fun b => hv h p b) b), vI (b : Int)] [vI ((8 * h + p) * 265), vR 173, vI (mxG (fun b => hv h p b) b)] σ
      refine x_iload (dat d_Wo_greatestPart 14 rfl) rfl ?_
      refine x_iadd (v := ((8 * h + p) * 265) + (b : Int)) (dat d_Wo_greatestPart 15 rfl) rfl (by omega) ?_
      refine x_iald (n := 50880) (v := hv h p b) (dat d_Wo_greatestPart 16 rfl) (ai_mk (by decide +kernel)) (by omega) (by omega) (e) ?_
      refine x_mmax (own := "ShakenBread$Worlds") (dat d_Wo_greatestPart 17 rfl) rfl l_Wo_78 (by decide) (Nat.le_of_ble_eq_true rfl) (fun m_28 h1_28 h2_28 h3_28 => ?_)
      refine x_istore_n (L' := [vR 171, vI h, vI p, vI m_28, vI (b : Int)]) (dat d_Wo_greatestPart 18 rfl) rfl (by decide) rfl rfl ?_
      refine x_iinc (v' := ((b + 1 : Nat) : Int)) (L' := [vR 171, vI h, vI p, vI m_28, vI ((b + 1 : Nat) : Int)]) (dat d_Wo_greatestPart 19 rfl) rfl (by decide) rfl (by omega) (by omega) rfl ?_
      refine x_goto (tgt := 5) (dat d_Wo_greatestPart 20 rfl) (by decide) ?_
      have x1 : m_28 = mxG (fun b => hv h p b) (b + 1) := by rw [st]; split <;> omega
      rw [x1]
      exact nx
  refine x_enter 2 rfl rfl rfl (fun Z => ?_)
  show Wx g y_Wo_greatestPart Z K 0 [vR 171, vI h, vI p, vU, vU] [] σ
  refine x_iconst (dat d_Wo_greatestPart 0 rfl) (by decide) ?_
  refine x_istore_n (L' := [vR 171, vI h, vI p, vI 0, vU]) (dat d_Wo_greatestPart 1 rfl) rfl (by decide) rfl rfl ?_
  refine x_iconst (dat d_Wo_greatestPart 2 rfl) (by decide) ?_
  refine x_istore (L' := [vR 171, vI h, vI p, vI 0, vI 0]) (dat d_Wo_greatestPart 3 rfl) (by decide) rfl rfl ?_
  exact lp Z 265 0 (by omega)
/-- the greatest part by place: i = hour * people + person -/
def gpF (hv : Int → Int → Int → Int) (P : Int) (i : Nat) : Int := mxG (fun b => hv ((i : Int) / P) ((i : Int) % P) b) 265
theorem sp_Wo_findSearch {g : xG} {K : Option MV → xS → Prop} {σ : xS} {o : Nat} {t : Int → Int} {hv : Int → Int → Int → Int} {P Hr : Nat} (ho : IsTw o) (hT : TownOk t) (hR : TownR σ o t) (hP : (P : Int) = t 6) (hHH : (Hr : Int) = t 3) (H : HvR σ hv) (k : ∀ (σ' : xS) (r : Int × Int), r = scanMin (gpF hv (t 6)) (Hr * P) → (r.1 = -1 → σ' 172 0 = -1 ∧ σ' 172 1 = -1 ∧ σ' 172 2 = -1) → (r.1 ≠ -1 → σ' 172 0 = r.1 / t 6 ∧ σ' 172 1 = r.1 % t 6 ∧ σ' 172 2 = r.2) → (∀ o : Nat, o ≠ 172 → σ' o = σ o) → K none σ') : Mt g y_Wo_findSearch [vR 171, vR o] σ K := by
  have h6 := hT.2.2.2.2.2.2.1
  have h3 := hT.2.2.2.1
  let S : xS → Nat → Prop := fun σ1 i => ((scanMin (gpF hv (t 6)) i).1 = -1 → σ1 172 0 = -1 ∧ σ1 172 1 = -1 ∧ σ1 172 2 = -1) ∧ ((scanMin (gpF hv (t 6)) i).1 ≠ -1 → σ1 172 0 = (scanMin (gpF hv (t 6)) i).1 / t 6 ∧ σ1 172 1 = (scanMin (gpF hv (t 6)) i).1 % t 6 ∧ σ1 172 2 = (scanMin (gpF hv (t 6)) i).2)
  have nn2 : ∀ i : Nat, 0 ≤ (scanMin (gpF hv (t 6)) i).2 := by
    intro i
    induction i with
    | zero => exact Int.le_refl 0
    | succ i ih =>
      simp only [scanMin]
      split
      · exact mxG_nn _ 265
      · exact ih
  have rF : ∀ σ1 : xS, (∀ o : Nat, o ≠ 172 → σ1 o = σ o) → TownR σ1 o t := fun σ1 F => hR.same (fun b _ _ => F b (by have := tw_cs ho; omega))
  have li : ∀ (Z : xZ) (h : Nat), h < Hr → (∀ (σ2 : xS) (w3 w4 : MV), S σ2 ((h + 1) * P) → (∀ o : Nat, o ≠ 172 → σ2 o = σ o) → Wx g y_Wo_findSearch Z K 23 [vR 171, vR o, vI ((h + 1 : Nat) : Int), w3, w4] [] σ2) → ∀ (n p : Nat) (σ1 : xS) (w4 : MV), p + n = P → S σ1 (h * P + p) → (∀ o : Nat, o ≠ 172 → σ1 o = σ o) → Wx g y_Wo_findSearch Z K 33 [vR 171, vR o, vI (h : Int), vI (p : Int), w4] [] σ1 := by
    intro Z h hh nxA n
    induction n with
    | zero =>
      intro p σ1 w4 hn HS F
      have e : p = P := by omega
      subst e
      have e0 : σ1 o 6 = (p : Int) := by rw [hP]; exact (rF σ1 F).1 6 (by decide) (by decide)
      rw [show h * p + p = (h + 1) * p by rw [Nat.succ_mul]] at HS
      refine x_iload_n (dat d_Wo_findSearch 23 rfl) rfl rfl ?_
      refine x_aload_n (dat d_Wo_findSearch 24 rfl) rfl rfl ?_
      refine x_geti (ji := 6) (v := (p : Int)) (dat d_Wo_findSearch 25 rfl) rfl f_Wo_37 (tw_oi_6 ho) (e0) ?_
      refine x_icmp_ge (tgt := 98) (dat d_Wo_findSearch 26 rfl) (by decide) (fun c_38 => ?_) (fun c_38 => (by omega))
      refine x_iinc (v' := ((h + 1 : Nat) : Int)) (L' := [vR 171, vR o, vI ((h + 1 : Nat) : Int), vI (p : Int), w4]) (dat d_Wo_findSearch 61 rfl) rfl (by decide) rfl (by omega) (by omega) rfl ?_
      refine x_goto (tgt := 23) (dat d_Wo_findSearch 62 rfl) (by decide) ?_
      exact nxA _ _ _ HS F
    | succ n ih =>
      intro p σ1 w4 hn HS F
      have e0 : σ1 o 6 = (P : Int) := by rw [hP]; exact (rF σ1 F).1 6 (by decide) (by decide)
      have dm := swp_dm (P := t 6) (a := (h : Int)) (b := (p : Int)) (by omega) (by omega) (by omega)
      have ec : ((h * P + p : Nat) : Int) = (h : Int) * t 6 + p := by rw [← hP]; simp
      have hf : gpF hv (t 6) (h * P + p) = mxG (fun b => hv h p b) 265 := by
        unfold gpF
        rw [ec, dm.1, dm.2]
      have hg := mxG_nn (fun b => hv h p b) 265
      have HR : HvR σ1 hv := fun h' p' b q0 q1 q2 q3 q4 q5 => by rw [F 173 (by decide)]; exact H h' p' b q0 q1 q2 q3 q4 q5
      have st : scanMin (gpF hv (t 6)) (h * P + (p + 1)) = if (scanMin (gpF hv (t 6)) (h * P + p)).1 = -1 ∨ gpF hv (t 6) (h * P + p) < (scanMin (gpF hv (t 6)) (h * P + p)).2 then (((h * P + p : Nat) : Int), gpF hv (t 6) (h * P + p)) else scanMin (gpF hv (t 6)) (h * P + p) := rfl
      have nx := fun σ' w' => ih (p + 1) σ' w' (by omega)
      obtain ⟨S0, S1⟩ := HS
      have n2 := nn2 (h * P + p)
      generalize scanMin (gpF hv (t 6)) (h * P + p) = q at S0 S1 st n2
      have S2 : (q.1 = -1 ∧ σ1 172 2 = -1) ∨ (q.1 ≠ -1 ∧ σ1 172 2 = q.2) := by
        by_cases w : q.1 = -1
        · exact Or.inl ⟨w, (S0 w).2.2⟩
        · exact Or.inr ⟨w, (S1 w).2.2⟩
      refine x_iload_n (dat d_Wo_findSearch 23 rfl) rfl rfl ?_
      refine x_aload_n (dat d_Wo_findSearch 24 rfl) rfl rfl ?_
      refine x_geti (ji := 6) (v := (P : Int)) (dat d_Wo_findSearch 25 rfl) rfl f_Wo_37 (tw_oi_6 ho) (e0) ?_
      refine x_icmp_ge (tgt := 98) (dat d_Wo_findSearch 26 rfl) (by decide) (fun c_38 => (by omega)) (fun c_38 => ?_)
      refine x_aload_n (dat d_Wo_findSearch 27 rfl) rfl rfl ?_
      refine x_iload_n (dat d_Wo_findSearch 28 rfl) rfl rfl ?_
      refine x_iload_n (dat d_Wo_findSearch 29 rfl) rfl rfl ?_
      refine x_inv (As := [vI (h : Int), vI (p : Int)]) (dat d_Wo_findSearch 30 rfl) rfl c_Wo_greatestPart l_Wo_114 (by decide) (rv_wo (by decide +kernel)) rfl rfl (Nat.le_of_ble_eq_true rfl) ?_
      refine sp_Wo_greatestPart (by omega) (by omega) (by omega) (by omega) HR ?_
      show Wx g y_Wo_findSearch Z K 47 [vR 171, vR o, vI (h : Int), vI (p : Int), w4] [vI (mxG (fun b => hv (h : Int) (p : Int) b) 265)] σ1
      refine x_istore (L' := [vR 171, vR o, vI (h : Int), vI (p : Int), vI (mxG (fun b => hv (h : Int) (p : Int) b) 265)]) (dat d_Wo_findSearch 31 rfl) (by decide) rfl rfl ?_
      refine x_aload_n (dat d_Wo_findSearch 32 rfl) rfl rfl ?_
      refine x_getr (r := 172) (dat d_Wo_findSearch 33 rfl) rfl f_Wo_9 (or_mk (by decide +kernel)) ?_
      refine x_iconst (dat d_Wo_findSearch 34 rfl) (by decide) ?_
      refine x_iald (n := 3) (v := σ1 172 2) (dat d_Wo_findSearch 35 rfl) (ai_mk (by decide +kernel)) (by omega) (by omega) rfl ?_
      refine x_iconst (dat d_Wo_findSearch 36 rfl) (by decide) ?_
      refine x_icmp_eq (tgt := 70) (dat d_Wo_findSearch 37 rfl) (by decide) (fun c_56 => ?_) (fun c_56 => ?_)
      · refine x_aload_n (dat d_Wo_findSearch 44 rfl) rfl rfl ?_
        refine x_getr (r := 172) (dat d_Wo_findSearch 45 rfl) rfl f_Wo_9 (or_mk (by decide +kernel)) ?_
        refine x_iconst (dat d_Wo_findSearch 46 rfl) (by decide) ?_
        refine x_iload_n (dat d_Wo_findSearch 47 rfl) rfl rfl ?_
        refine x_iast (n := 3) (dat d_Wo_findSearch 48 rfl) (ai_mk (by decide +kernel)) (by omega) (by omega) ?_
        refine x_aload_n (dat d_Wo_findSearch 49 rfl) rfl rfl ?_
        refine x_getr (r := 172) (dat d_Wo_findSearch 50 rfl) rfl f_Wo_9 (or_mk (by decide +kernel)) ?_
        refine x_iconst (dat d_Wo_findSearch 51 rfl) (by decide) ?_
        refine x_iload_n (dat d_Wo_findSearch 52 rfl) rfl rfl ?_
        refine x_iast (n := 3) (dat d_Wo_findSearch 53 rfl) (ai_mk (by decide +kernel)) (by omega) (by omega) ?_
        refine x_aload_n (dat d_Wo_findSearch 54 rfl) rfl rfl ?_
        refine x_getr (r := 172) (dat d_Wo_findSearch 55 rfl) rfl f_Wo_9 (or_mk (by decide +kernel)) ?_
        refine x_iconst (dat d_Wo_findSearch 56 rfl) (by decide) ?_
        refine x_iload (dat d_Wo_findSearch 57 rfl) rfl ?_
        refine x_iast (n := 3) (dat d_Wo_findSearch 58 rfl) (ai_mk (by decide +kernel)) (by omega) (by omega) ?_
        refine x_iinc (v' := ((p + 1 : Nat) : Int)) (L' := [vR 171, vR o, vI (h : Int), vI ((p + 1 : Nat) : Int), vI (mxG (fun b => hv (h : Int) (p : Int) b) 265)]) (dat d_Wo_findSearch 59 rfl) rfl (by decide) rfl (by omega) (by omega) rfl ?_
        refine x_goto (tgt := 33) (dat d_Wo_findSearch 60 rfl) (by decide) ?_
        first
        | (rw [hf, if_pos (by omega)] at st
           refine nx _ _ ⟨fun w => ?_, fun _ => ?_⟩ (fun b hb => by rw [up_ne hb, up_ne hb, up_ne hb]; exact F b hb)
           · rw [st] at w
             have w : ((h * P + p : Nat) : Int) = -1 := w
             omega
           · rw [st]
             show _ = ((h * P + p : Nat) : Int) / t 6 ∧ _ = ((h * P + p : Nat) : Int) % t 6 ∧ _
             rw [ec, dm.1, dm.2, up_ni (by decide), up_ni (by decide), up_s, up_ni (by decide), up_s, up_s]
             exact ⟨rfl, rfl, rfl⟩)
        | (rw [hf, if_neg (by omega)] at st
           refine nx _ _ ⟨fun w => ?_, fun w => ?_⟩ F
           · rw [st] at w
             exact S0 w
           · rw [st] at w ⊢
             exact S1 w)
      · refine x_iload (dat d_Wo_findSearch 38 rfl) rfl ?_
        refine x_aload_n (dat d_Wo_findSearch 39 rfl) rfl rfl ?_
        refine x_getr (r := 172) (dat d_Wo_findSearch 40 rfl) rfl f_Wo_9 (or_mk (by decide +kernel)) ?_
        refine x_iconst (dat d_Wo_findSearch 41 rfl) (by decide) ?_
        refine x_iald (n := 3) (v := σ1 172 2) (dat d_Wo_findSearch 42 rfl) (ai_mk (by decide +kernel)) (by omega) (by omega) rfl ?_
        refine x_icmp_ge (tgt := 92) (dat d_Wo_findSearch 43 rfl) (by decide) (fun c_67 => ?_) (fun c_67 => ?_)
        · refine x_iinc (v' := ((p + 1 : Nat) : Int)) (L' := [vR 171, vR o, vI (h : Int), vI ((p + 1 : Nat) : Int), vI (mxG (fun b => hv (h : Int) (p : Int) b) 265)]) (dat d_Wo_findSearch 59 rfl) rfl (by decide) rfl (by omega) (by omega) rfl ?_
          refine x_goto (tgt := 33) (dat d_Wo_findSearch 60 rfl) (by decide) ?_
          first
          | (rw [hf, if_pos (by omega)] at st
             refine nx _ _ ⟨fun w => ?_, fun _ => ?_⟩ (fun b hb => by rw [up_ne hb, up_ne hb, up_ne hb]; exact F b hb)
             · rw [st] at w
               have w : ((h * P + p : Nat) : Int) = -1 := w
               omega
             · rw [st]
               show _ = ((h * P + p : Nat) : Int) / t 6 ∧ _ = ((h * P + p : Nat) : Int) % t 6 ∧ _
               rw [ec, dm.1, dm.2, up_ni (by decide), up_ni (by decide), up_s, up_ni (by decide), up_s, up_s]
               exact ⟨rfl, rfl, rfl⟩)
          | (rw [hf, if_neg (by omega)] at st
             refine nx _ _ ⟨fun w => ?_, fun w => ?_⟩ F
             · rw [st] at w
               exact S0 w
             · rw [st] at w ⊢
               exact S1 w)
        · refine x_aload_n (dat d_Wo_findSearch 44 rfl) rfl rfl ?_
          refine x_getr (r := 172) (dat d_Wo_findSearch 45 rfl) rfl f_Wo_9 (or_mk (by decide +kernel)) ?_
          refine x_iconst (dat d_Wo_findSearch 46 rfl) (by decide) ?_
          refine x_iload_n (dat d_Wo_findSearch 47 rfl) rfl rfl ?_
          refine x_iast (n := 3) (dat d_Wo_findSearch 48 rfl) (ai_mk (by decide +kernel)) (by omega) (by omega) ?_
          refine x_aload_n (dat d_Wo_findSearch 49 rfl) rfl rfl ?_
          refine x_getr (r := 172) (dat d_Wo_findSearch 50 rfl) rfl f_Wo_9 (or_mk (by decide +kernel)) ?_
          refine x_iconst (dat d_Wo_findSearch 51 rfl) (by decide) ?_
          refine x_iload_n (dat d_Wo_findSearch 52 rfl) rfl rfl ?_
          refine x_iast (n := 3) (dat d_Wo_findSearch 53 rfl) (ai_mk (by decide +kernel)) (by omega) (by omega) ?_
          refine x_aload_n (dat d_Wo_findSearch 54 rfl) rfl rfl ?_
          refine x_getr (r := 172) (dat d_Wo_findSearch 55 rfl) rfl f_Wo_9 (or_mk (by decide +kernel)) ?_
          refine x_iconst (dat d_Wo_findSearch 56 rfl) (by decide) ?_
          refine x_iload (dat d_Wo_findSearch 57 rfl) rfl ?_
          refine x_iast (n := 3) (dat d_Wo_findSearch 58 rfl) (ai_mk (by decide +kernel)) (by omega) (by omega) ?_
          refine x_iinc (v' := ((p + 1 : Nat) : Int)) (L' := [vR 171, vR o, vI (h : Int), vI ((p + 1 : Nat) : Int), vI (mxG (fun b => hv (h : Int) (p : Int) b) 265)]) (dat d_Wo_findSearch 59 rfl) rfl (by decide) rfl (by omega) (by omega) rfl ?_
          refine x_goto (tgt := 33) (dat d_Wo_findSearch 60 rfl) (by decide) ?_
          first
          | (rw [hf, if_pos (by omega)] at st
             refine nx _ _ ⟨fun w => ?_, fun _ => ?_⟩ (fun b hb => by rw [up_ne hb, up_ne hb, up_ne hb]; exact F b hb)
             · rw [st] at w
               have w : ((h * P + p : Nat) : Int) = -1 := w
               omega
             · rw [st]
               show _ = ((h * P + p : Nat) : Int) / t 6 ∧ _ = ((h * P + p : Nat) : Int) % t 6 ∧ _
               rw [ec, dm.1, dm.2, up_ni (by decide), up_ni (by decide), up_s, up_ni (by decide), up_s, up_s]
               exact ⟨rfl, rfl, rfl⟩)
          | (rw [hf, if_neg (by omega)] at st
             refine nx _ _ ⟨fun w => ?_, fun w => ?_⟩ F
             · rw [st] at w
               exact S0 w
             · rw [st] at w ⊢
               exact S1 w)
  have lo : ∀ (Z : xZ) (n h : Nat) (σ1 : xS) (w3 w4 : MV), h + n = Hr → S σ1 (h * P) → (∀ o : Nat, o ≠ 172 → σ1 o = σ o) → Wx g y_Wo_findSearch Z K 23 [vR 171, vR o, vI (h : Int), w3, w4] [] σ1 := by
    intro Z n
    induction n with
    | zero =>
      intro h σ1 w3 w4 hn HS F
      have e : h = Hr := by omega
      subst e
      have e0 : σ1 o 3 = (h : Int) := by rw [hHH]; exact (rF σ1 F).1 3 (by decide) (by decide)
      refine x_iload_n (dat d_Wo_findSearch 17 rfl) rfl rfl ?_
      refine x_aload_n (dat d_Wo_findSearch 18 rfl) rfl rfl ?_
      refine x_geti (ji := 3) (v := (h : Int)) (dat d_Wo_findSearch 19 rfl) rfl f_Wo_113 (tw_oi_3 ho) (e0) ?_
      refine x_icmp_ge (tgt := 104) (dat d_Wo_findSearch 20 rfl) (by decide) (fun c_28 => ?_) (fun c_28 => (by omega))
      refine x_ret (dat d_Wo_findSearch 63 rfl) rfl ?_
      exact k σ1 _ rfl HS.1 HS.2 F
    | succ n ih =>
      intro h σ1 w3 w4 hn HS F
      have e0 : σ1 o 3 = (Hr : Int) := by rw [hHH]; exact (rF σ1 F).1 3 (by decide) (by decide)
      refine x_iload_n (dat d_Wo_findSearch 17 rfl) rfl rfl ?_
      refine x_aload_n (dat d_Wo_findSearch 18 rfl) rfl rfl ?_
      refine x_geti (ji := 3) (v := (Hr : Int)) (dat d_Wo_findSearch 19 rfl) rfl f_Wo_113 (tw_oi_3 ho) (e0) ?_
      refine x_icmp_ge (tgt := 104) (dat d_Wo_findSearch 20 rfl) (by decide) (fun c_28 => (by omega)) (fun c_28 => ?_)
      refine x_iconst (dat d_Wo_findSearch 21 rfl) (by decide) ?_
      refine x_istore_n (L' := [vR 171, vR o, vI (h : Int), vI 0, w4]) (dat d_Wo_findSearch 22 rfl) rfl (by decide) rfl rfl ?_
      exact li Z h (by omega) (fun σ2 w3' w4' q1 q2 => ih (h + 1) σ2 w3' w4' (by omega) q1 q2) P 0 σ1 _ (by omega) (by rw [Nat.add_zero]; exact HS) F
  refine x_enter 3 rfl rfl rfl (fun Z => ?_)
  show Wx g y_Wo_findSearch Z K 0 [vR 171, vR o, vU, vU, vU] [] σ
  refine x_aload_n (dat d_Wo_findSearch 0 rfl) rfl rfl ?_
  refine x_getr (r := 172) (dat d_Wo_findSearch 1 rfl) rfl f_Wo_9 (or_mk (by decide +kernel)) ?_
  refine x_iconst (dat d_Wo_findSearch 2 rfl) (by decide) ?_
  refine x_iconst (dat d_Wo_findSearch 3 rfl) (by decide) ?_
  refine x_iast (n := 3) (dat d_Wo_findSearch 4 rfl) (ai_mk (by decide +kernel)) (by omega) (by omega) ?_
  refine x_aload_n (dat d_Wo_findSearch 5 rfl) rfl rfl ?_
  refine x_getr (r := 172) (dat d_Wo_findSearch 6 rfl) rfl f_Wo_9 (or_mk (by decide +kernel)) ?_
  refine x_iconst (dat d_Wo_findSearch 7 rfl) (by decide) ?_
  refine x_iconst (dat d_Wo_findSearch 8 rfl) (by decide) ?_
  refine x_iast (n := 3) (dat d_Wo_findSearch 9 rfl) (ai_mk (by decide +kernel)) (by omega) (by omega) ?_
  refine x_aload_n (dat d_Wo_findSearch 10 rfl) rfl rfl ?_
  refine x_getr (r := 172) (dat d_Wo_findSearch 11 rfl) rfl f_Wo_9 (or_mk (by decide +kernel)) ?_
  refine x_iconst (dat d_Wo_findSearch 12 rfl) (by decide) ?_
  refine x_iconst (dat d_Wo_findSearch 13 rfl) (by decide) ?_
  refine x_iast (n := 3) (dat d_Wo_findSearch 14 rfl) (ai_mk (by decide +kernel)) (by omega) (by omega) ?_
  refine x_iconst (dat d_Wo_findSearch 15 rfl) (by decide) ?_
  refine x_istore_n (L' := [vR 171, vR o, vI 0, vU, vU]) (dat d_Wo_findSearch 16 rfl) rfl (by decide) rfl rfl ?_
  refine lo Z Hr 0 _ _ _ (by omega) ?_ (fun b hb => by rw [up_ne hb, up_ne hb, up_ne hb])
  rw [Nat.zero_mul]
  refine ⟨fun _ => ⟨?_, ?_, ?_⟩, fun w => absurd rfl w⟩
  · rw [up_ni (by decide), up_ni (by decide), up_s]
  · rw [up_ni (by decide), up_s]
  · rw [up_s]
