/-! worlds: all of them -/
def prN (t : Int → Int) : Nat → Int
  | 0 => 1
  | p + 1 => prN t p * (t (23 + 17 * (p : Int)) + 1)
def runT (t : Int → Int) : Int := prN t (t 6).toNat
theorem prN_bd {t : Int → Int} (hT : TownOk t) : ∀ p : Nat, (p : Int) ≤ t 6 → 1 ≤ prN t p ∧ prN t p ≤ ((4 ^ p : Nat) : Int)
  | 0, _ => ⟨Int.le_refl 1, Int.le_refl 1⟩
  | p + 1, h => by
    have h1 := prN_bd hT p (by omega)
    have h2 := (hT.2.2.2.2.2.2.2.2.1 (p : Int) (by omega) (by omega)).2.2.2.1
    simp only [prN]
    generalize t (23 + 17 * (p : Int)) = e at h2
    have e4 : ((4 ^ (p + 1) : Nat) : Int) = ((4 ^ p : Nat) : Int) * 4 := by rw [Nat.pow_succ]; omega
    rw [e4]
    generalize ((4 ^ p : Nat) : Int) = w at h1
    generalize prN t p = v at h1
    have h3 : v * (e + 1) ≤ v * 4 := Int.mul_le_mul_of_nonneg_left (by omega) (by omega)
    have h4 : v * 1 ≤ v * (e + 1) := Int.mul_le_mul_of_nonneg_left (by omega) (by omega)
    omega
theorem prN_b8 {t : Int → Int} (hT : TownOk t) {p : Nat} (h : (p : Int) ≤ t 6) : 1 ≤ prN t p ∧ prN t p ≤ 65536 := by
  have h1 := prN_bd hT p h
  have h6 := hT.2.2.2.2.2.2.1
  have h2 : 4 ^ p ≤ 4 ^ 8 := Nat.pow_le_pow_right (by decide) (by omega)
  have h3 : (4 : Nat) ^ 8 = 65536 := by decide
  omega
def isW (t b : Int → Int) (n : Nat) : Bool := soN (wC t n) b (b 0).toNat
def wct (t b : Int → Int) : Nat → Int
  | 0 => 0
  | n + 1 => wct t b n + (if isW t b n = true then 1 else 0)
def wHv (t b : Int → Int) : Nat → Int → Int → Int → Int
  | 0, _, _, _ => 0
  | n + 1, h, p, x => wHv t b n h p x + (if isW t b n = true then (if h < cS (wC t n) 1 ∧ p < cS (wC t n) 0 ∧ (rst (wC t n) (h.toNat + 1)).1 p = x then 1 else 0) else 0)
def wDo (t b : Int → Int) : Nat → Int → Bool
  | 0, q => decide (q < t 6)
  | n + 1, q => wDo t b n q && (!isW t b n || dedB (wC t n) q)
def wDa (t b : Int → Int) : Nat → Int → Bool
  | 0, _ => false
  | n + 1, q => wDa t b n q || (isW t b n && dedB (wC t n) q)
theorem wct_bd (t b : Int → Int) : ∀ n : Nat, 0 ≤ wct t b n ∧ wct t b n ≤ n
  | 0 => ⟨Int.le_refl 0, Int.le_refl 0⟩
  | n + 1 => by
    have := wct_bd t b n
    simp only [wct]
    split <;> omega
theorem wHv_bd (t b : Int → Int) : ∀ (n : Nat) (h p x : Int), 0 ≤ wHv t b n h p x ∧ wHv t b n h p x ≤ n
  | 0, _, _, _ => ⟨Int.le_refl 0, Int.le_refl 0⟩
  | n + 1, h, p, x => by
    have := wHv_bd t b n h p x
    simp only [wHv]
    split
    · split <;> omega
    · omega
theorem wC_264 {t : Int → Int} (hT : TownOk t) (m : Int) (n : Nat) (p : Int) (p0 : 0 ≤ p) (p1 : p < t 6) : (rst (wC t m) n).1 p ≤ 264 := by
  have hC := wC_ok hT m
  have h6 := hT.2.2.2.2.2.2.1
  have h1 := rst_ok hC n
  have h2 := (BdOk.le h1 (p := p) p0 p1).2
  have h3 := tot_33 (f := cSt (wC t m)) (cS (wC t m) 0).toNat (fun p q0 q1 => (hC.2.2.2.2.2.2.2.2.2.2.2.2 p q0 (by omega)).2)
  have h4 : loafed (wC t m) n = 0 := by
    unfold loafed
    show (if (-1 : Int) < n then (0 : Int) else 0) = 0
    split <;> rfl
  have h5 : cS (wC t m) 0 = t 6 := rfl
  rw [h5] at h3 h2
  omega
/-- what the worlds' object holds behind a look -/
def LookS (σ : xS) (t b : Int → Int) : Prop := σ 171 0 = runT t ∧ (runT t ≤ 1024 → σ 171 1 = wct t b (runT t).toNat ∧ Msk 8 (σ 171 2) (wDo t b (runT t).toNat) ∧ Msk 8 (σ 171 3) (wDa t b (runT t).toNat) ∧ HvR σ (wHv t b (runT t).toNat))
theorem LookS.same {σ σ' : xS} {t b : Int → Int} (h : LookS σ t b) (e1 : σ' 171 = σ 171) (e3 : σ' 173 = σ 173) : LookS σ' t b := by
  unfold LookS HvR at h ⊢
  rw [e1, e3]
  exact h
def LookF (σ' σ : xS) : Prop := ∀ o : Nat, (o < 138 ∨ 142 < o) → (o < 156 ∨ 168 < o) → o ≠ 171 → o ≠ 173 → σ' o = σ o
def LookI (t b : Int → Int) (σ0 σ : xS) (n : Nat) : Prop := (σ 171 0 = runT t ∧ σ 171 1 = wct t b n ∧ Msk 8 (σ 171 2) (wDo t b n) ∧ Msk 8 (σ 171 3) (wDa t b n) ∧ HvR σ (wHv t b n)) ∧ (∃ f : Int → Int, PlanR σ (mSt (cfg t) f)) ∧ LookF σ σ0
theorem sp_Wo_look {g : xG} {K : Option MV → xS → Prop} {σ : xS} {o ob : Nat} {t b : Int → Int} (ho : IsTw o) (hT : TownOk t) (hR : TownR σ o t) (hb : IsBk ob) (hB : BookOk b) (hBR : BookR σ ob b) (k : ∀ σ' : xS, LookS σ' t b → LookF σ' σ → K none σ') : Mt g y_Wo_look [vR 171, vR o, vR ob] σ K := by
  have h6 := hT.2.2.2.2.2.2.1
  have hu := ru_156
  have twc := tw_cs ho
  have bkc := bk_cs hb
  have lw : ∀ (Z : xZ), runT t ≤ 1024 → ∀ (d n : Nat) (σ1 : xS), (n : Int) + d = runT t → LookI t b σ σ1 n → Wx g y_Wo_look Z K 92 [vR 171, vR o, vR ob, vI (n : Int)] [] σ1 := by
    intro Z h24 d
    induction d with
    | zero =>
      intro n σ1 hn H
      obtain ⟨⟨e0, e1, e2, e3, e4⟩, hp, F⟩ := H
      have e : (runT t).toNat = n := by omega
      refine x_iload_n (dat d_Wo_look 52 rfl) rfl rfl ?_
      refine x_aload_n (dat d_Wo_look 53 rfl) rfl rfl ?_
      refine x_geti (ji := 0) (v := runT t) (dat d_Wo_look 54 rfl) rfl f_Wo_27 (oi_mk (by decide +kernel)) (e0) ?_
      refine x_icmp_ge (tgt := 137) (dat d_Wo_look 55 rfl) (by decide) (fun c_97 => ?_) (fun c_97 => (by omega))
      refine x_ret (dat d_Wo_look 75 rfl) rfl ?_
      exact k σ1 ⟨e0, fun _ => by rw [e]; exact ⟨e1, e2, e3, e4⟩⟩ F
    | succ d ih =>
      intro n σ1 hn H
      obtain ⟨⟨e0, e1, e2, e3, e4⟩, ⟨f, hp⟩, F⟩ := H
      have hC := wC_ok hT (n : Int)
      have wb := wct_bd t b n
      have hH := cH_eq hC
      refine x_iload_n (dat d_Wo_look 52 rfl) rfl rfl ?_
      refine x_aload_n (dat d_Wo_look 53 rfl) rfl rfl ?_
      refine x_geti (ji := 0) (v := runT t) (dat d_Wo_look 54 rfl) rfl f_Wo_27 (oi_mk (by decide +kernel)) (e0) ?_
      refine x_icmp_ge (tgt := 137) (dat d_Wo_look 55 rfl) (by decide) (fun c_97 => (by omega)) (fun c_97 => ?_)
      refine x_aload_n (dat d_Wo_look 56 rfl) rfl rfl ?_
      refine x_aload_n (dat d_Wo_look 57 rfl) rfl rfl ?_
      refine x_iload_n (dat d_Wo_look 58 rfl) rfl rfl ?_
      refine x_inv (As := [vR o, vI (n : Int)]) (dat d_Wo_look 59 rfl) rfl c_Wo_startWith l_Wo_61 (by decide) (rv_wo (by decide +kernel)) rfl rfl (Nat.le_of_ble_eq_true rfl) ?_
      refine sp_Wo_startWith ho hT (hR.same (fun q _ _ => F q (by omega) (by omega) (by omega) (by omega))) (by omega) (by omega) hp (fun σ2 hp2 F2 => ?_)
      show Wx g y_Wo_look Z K 106 [vR 171, vR o, vR ob, vI (n : Int)] [] σ2
      refine x_aload_n (dat d_Wo_look 60 rfl) rfl rfl ?_
      refine x_getr (r := 156) (dat d_Wo_look 61 rfl) rfl f_Wo_23 (or_mk (by decide +kernel)) ?_
      refine x_aload_n (dat d_Wo_look 62 rfl) rfl rfl ?_
      refine x_getr (r := 138) (dat d_Wo_look 63 rfl) rfl f_Wo_19 (or_mk (by decide +kernel)) ?_
      refine x_null (dat d_Wo_look 64 rfl) ?_
      refine x_iconst (dat d_Wo_look 65 rfl) (by decide) ?_
      refine x_inv (As := [vR 138, vN, vI 0]) (dat d_Wo_look 66 rfl) rfl c_Ru_go l_Wo_65 (by decide) (rv_ru (by decide +kernel)) rfl rfl (Nat.le_of_ble_eq_true rfl) ?_
      refine sp_Ru_go hu hC hp2 (fun σ3 R F3 => ?_)
      have q3 : ∀ x : Nat, x ≠ 139 → (x < 156 ∨ 168 < x) → σ3 x = σ1 x := fun x h1 h2 => by rw [F3 x h2, F2 x h1]
      have hp3 : PlanR σ3 (wC t n) := hp2.same (fun q _ _ => F3 q (by omega))
      have hB3 : BookR σ3 ob b := hBR.same (fun q _ _ => by rw [q3 q (by omega) (by omega), F q (by omega) (by omega) (by omega) (by omega)])
      show Wx g y_Wo_look Z K 119 [vR 171, vR o, vR ob, vI (n : Int)] [] σ3
      refine x_aload_n (dat d_Wo_look 67 rfl) rfl rfl ?_
      refine x_aload_n (dat d_Wo_look 68 rfl) rfl rfl ?_
      refine x_inv (As := [vR ob]) (dat d_Wo_look 69 rfl) rfl c_Wo_isSo l_Wo_71 (by decide) (rv_wo (by decide +kernel)) rfl rfl (Nat.le_of_ble_eq_true rfl) ?_
      refine sp_Wo_isSo hb hB hB3 hC hp3 R (fun so => ?_) (fun so => ?_)
      · show Wx g y_Wo_look Z K 124 [vR 171, vR o, vR ob, vI (n : Int)] [vI 1] σ3
        have so2 : isW t b n = _ := so
        refine x_if_eq (tgt := 131) (dat d_Wo_look 70 rfl) (by decide) (fun h => absurd h (by decide)) (fun c_124 => ?_)
        refine x_aload_n (dat d_Wo_look 71 rfl) rfl rfl ?_
        refine x_inv (As := []) (dat d_Wo_look 72 rfl) rfl c_Wo_addWorld l_Wo_75 (by decide) (rv_wo (by decide +kernel)) rfl rfl (Nat.le_of_ble_eq_true rfl) ?_
        refine sp_Wo_addWorld (C := wC t n) (hv := wHv t b n) (fd := wDo t b n) (fg := wDa t b n) hC hp3 R (fun m p q0 q1 => wC_264 hT _ m p q0 q1) (fun h p x q0 q1 q2 q3' q4 q5 => by rw [q3 173 (by omega) (by omega)]; exact e4 h p x q0 q1 q2 q3' q4 q5) (fun h p x => by have := wHv_bd t b n h p x; omega) (by rw [q3 171 (by omega) (by omega), e1]; omega) (by rw [q3 171 (by omega) (by omega)]; exact e2) (by rw [q3 171 (by omega) (by omega)]; exact e3) (fun σ4 A1 A2 A3 A4 A5 A6 => ?_)
        show Wx g y_Wo_look Z K 131 [vR 171, vR o, vR ob, vI (n : Int)] [] σ4
        refine x_iinc (v' := ((n + 1 : Nat) : Int)) (L' := [vR 171, vR o, vR ob, vI ((n + 1 : Nat) : Int)]) (dat d_Wo_look 73 rfl) rfl (by decide) rfl (by omega) (by omega) rfl ?_
        refine x_goto (tgt := 92) (dat d_Wo_look 74 rfl) (by decide) ?_
        first
        | (refine ih (n + 1) σ4 (by omega) ⟨⟨?_, ?_, ?_, ?_, ?_⟩, ⟨stW t n, hp3.same (fun q _ _ => A6 q (by omega) (by omega))⟩, fun q h1 h2 h3 h4 => by rw [A6 q h3 h4, q3 q (by omega) h2, F q h1 h2 h3 h4]⟩
           · rw [A2, q3 171 (by omega) (by omega), e0]
           · rw [A3, q3 171 (by omega) (by omega), e1]; simp only [wct, so2, if_true]
           · exact A4.congr (fun q _ _ => by simp only [wDo, so2, Bool.not_true, Bool.false_or])
           · exact A5.congr (fun q _ _ => by simp only [wDa, so2, Bool.true_and])
           · exact A1.congr (fun h p x q0 q1 => by simp only [wHv, so2, if_true]))
        | (refine ih (n + 1) σ3 (by omega) ⟨⟨?_, ?_, ?_, ?_, ?_⟩, ⟨stW t n, hp3⟩, fun q h1 h2 h3 h4 => by rw [q3 q (by omega) h2, F q h1 h2 h3 h4]⟩
           · rw [q3 171 (by omega) (by omega), e0]
           · rw [q3 171 (by omega) (by omega), e1]; simp [wct, so2]
           · rw [q3 171 (by omega) (by omega)]; exact e2.congr (fun q _ _ => by simp [wDo, so2])
           · rw [q3 171 (by omega) (by omega)]; exact e3.congr (fun q _ _ => by simp [wDa, so2])
           · intro h p x r0 r1 r2 r3 r4 r5
             rw [q3 173 (by omega) (by omega), e4 h p x r0 r1 r2 r3 r4 r5]; simp [wHv, so2])
      · show Wx g y_Wo_look Z K 124 [vR 171, vR o, vR ob, vI (n : Int)] [vI 0] σ3
        have so2 : isW t b n = _ := so
        refine x_if_eq (tgt := 131) (dat d_Wo_look 70 rfl) (by decide) (fun c_124 => ?_) (fun h => absurd h (by decide))
        refine x_iinc (v' := ((n + 1 : Nat) : Int)) (L' := [vR 171, vR o, vR ob, vI ((n + 1 : Nat) : Int)]) (dat d_Wo_look 73 rfl) rfl (by decide) rfl (by omega) (by omega) rfl ?_
        refine x_goto (tgt := 92) (dat d_Wo_look 74 rfl) (by decide) ?_
        first
        | (refine ih (n + 1) σ4 (by omega) ⟨⟨?_, ?_, ?_, ?_, ?_⟩, ⟨stW t n, hp3.same (fun q _ _ => A6 q (by omega) (by omega))⟩, fun q h1 h2 h3 h4 => by rw [A6 q h3 h4, q3 q (by omega) h2, F q h1 h2 h3 h4]⟩
           · rw [A2, q3 171 (by omega) (by omega), e0]
           · rw [A3, q3 171 (by omega) (by omega), e1]; simp only [wct, so2, if_true]
           · exact A4.congr (fun q _ _ => by simp only [wDo, so2, Bool.not_true, Bool.false_or])
           · exact A5.congr (fun q _ _ => by simp only [wDa, so2, Bool.true_and])
           · exact A1.congr (fun h p x q0 q1 => by simp only [wHv, so2, if_true]))
        | (refine ih (n + 1) σ3 (by omega) ⟨⟨?_, ?_, ?_, ?_, ?_⟩, ⟨stW t n, hp3⟩, fun q h1 h2 h3 h4 => by rw [q3 q (by omega) h2, F q h1 h2 h3 h4]⟩
           · rw [q3 171 (by omega) (by omega), e0]
           · rw [q3 171 (by omega) (by omega), e1]; simp [wct, so2]
           · rw [q3 171 (by omega) (by omega)]; exact e2.congr (fun q _ _ => by simp [wDo, so2])
           · rw [q3 171 (by omega) (by omega)]; exact e3.congr (fun q _ _ => by simp [wDa, so2])
           · intro h p x r0 r1 r2 r3 r4 r5
             rw [q3 173 (by omega) (by omega), e4 h p x r0 r1 r2 r3 r4 r5]; simp [wHv, so2])
  have lp : ∀ (Z : xZ) (d p : Nat) (σ1 : xS), (p : Int) + d = t 6 → σ1 171 0 = prN t p → σ1 171 1 = 0 → σ1 171 3 = 0 → (∀ o : Nat, o ≠ 171 → σ1 o = σ o) → Wx g y_Wo_look Z K 17 [vR 171, vR o, vR ob, vI (p : Int)] [] σ1 := by
    intro Z d
    induction d with
    | zero =>
      intro p σ1 hn e0 e1 e3 F
      have hR1 : TownR σ1 o t := hR.same (fun q _ _ => F q (by omega))
      have en : σ1 o 6 = t 6 := hR1.1 6 (by decide) (by decide)
      have eT : (t 6).toNat = p := by omega
      have er : σ1 171 0 = runT t := by rw [e0]; unfold runT; rw [eT]
      have pb := prN_b8 hT (p := (t 6).toNat) (by omega)
      refine x_iload_n (dat d_Wo_look 11 rfl) rfl rfl ?_
      refine x_aload_n (dat d_Wo_look 12 rfl) rfl rfl ?_
      refine x_geti (ji := 6) (v := t 6) (dat d_Wo_look 13 rfl) rfl f_Wo_37 (tw_oi_6 ho) (en) ?_
      refine x_icmp_ge (tgt := 48) (dat d_Wo_look 14 rfl) (by decide) (fun c_22 => ?_) (fun c_22 => (by omega))
      refine x_aload_n (dat d_Wo_look 28 rfl) rfl rfl ?_
      refine x_geti (ji := 0) (v := runT t) (dat d_Wo_look 29 rfl) rfl f_Wo_27 (oi_mk (by decide +kernel)) (er) ?_
      refine x_sipush (dat d_Wo_look 30 rfl) (by decide) (by decide) ?_
      refine x_icmp_le (tgt := 59) (dat d_Wo_look 31 rfl) (by decide) (fun c_55 => ?_) (fun c_55 => ?_)
      · refine x_aload_n (dat d_Wo_look 33 rfl) rfl rfl ?_
        refine x_getr (r := 138) (dat d_Wo_look 34 rfl) rfl f_Wo_19 (or_mk (by decide +kernel)) ?_
        refine x_aload_n (dat d_Wo_look 35 rfl) rfl rfl ?_
        refine x_inv (As := [vR o]) (dat d_Wo_look 36 rfl) rfl c_Pl_lay l_Wo_45 (by decide) (rv_pl (by decide +kernel)) rfl rfl (Nat.le_of_ble_eq_true rfl) ?_
        refine sp_Pl_lay ho hT hR1 (fun σ2 hp F2 => ?_)
        have em : σ2 138 0 = t 6 := hp.1
        show Wx g y_Wo_look Z K 67 [vR 171, vR o, vR ob, vI (p : Int)] [] σ2
        refine x_aload_n (dat d_Wo_look 37 rfl) rfl rfl ?_
        refine x_iconst (dat d_Wo_look 38 rfl) (by decide) ?_
        refine x_aload_n (dat d_Wo_look 39 rfl) rfl rfl ?_
        refine x_getr (r := 138) (dat d_Wo_look 40 rfl) rfl f_Wo_19 (or_mk (by decide +kernel)) ?_
        refine x_geti (ji := 0) (v := t 6) (dat d_Wo_look 41 rfl) rfl f_Wo_51 (oi_mk (by decide +kernel)) (em) ?_
        refine x_ishl (v := ishl 1 (t 6)) (dat d_Wo_look 42 rfl) rfl ?_
        refine x_iconst (dat d_Wo_look 43 rfl) (by decide) ?_
        refine x_isub (v := (ishl 1 (t 6)) - 1) (dat d_Wo_look 44 rfl) rfl (by have := ishl_bd (p := t 6) (n := 8) (by omega) (by omega) (by decide); omega) ?_
        refine x_puti (ji := 2) (x := ((ishl 1 (t 6)) - 1)) (dat d_Wo_look 45 rfl) rfl f_Wo_52w (oi_mk (by decide +kernel)) (fun h => absurd h (by decide)) (by decide) ?_
        refine x_aload_n (dat d_Wo_look 46 rfl) rfl rfl ?_
        refine x_getr (r := 173) (dat d_Wo_look 47 rfl) rfl f_Wo_16 (or_mk (by decide +kernel)) ?_
        refine x_iconst (dat d_Wo_look 48 rfl) (by decide) ?_
        refine x_invs (As := [vR 173, vI 0]) (dat d_Wo_look 49 rfl) rfl c_Ar_fill l_Wo_55 (by decide) rfl rfl (Nat.le_of_ble_eq_true rfl) ?_
        refine sp_Ar_fill (N := 50880) (ai_mk (by decide +kernel)) ?_
        show Wx g y_Wo_look Z K 90 [vR 171, vR o, vR ob, vI (p : Int)] [] (fil (up σ2 171 2 (ishl 1 (t 6) - 1)) 173 50880 0)
        refine x_iconst (dat d_Wo_look 50 rfl) (by decide) ?_
        refine x_istore_n (L' := [vR 171, vR o, vR ob, vI 0]) (dat d_Wo_look 51 rfl) rfl (by decide) rfl rfl ?_
        refine lw Z c_55 (runT t).toNat 0 _ (by unfold runT; omega) ⟨⟨?_, ?_, ?_, ?_, ?_⟩, ⟨cSt (cfg t), ?_⟩, ?_⟩
        · rw [fil_ne (by decide), up_ni (by decide), F2 171 (by decide), er]
        · rw [fil_ne (by decide), up_ni (by decide), F2 171 (by decide), e1]; rfl
        · rw [fil_ne (by decide), up_s]; exact Msk.full (by decide) (by omega) (by omega)
        · rw [fil_ne (by decide), up_ni (by decide), F2 171 (by decide), e3]; exact Msk.zero 8
        · intro h p' x r0 r1 r2 r3 r4 r5
          rw [fil_in (by omega) (by omega)]; rfl
        · exact PlanR.same (σ := σ2) hp (fun q h1 h2 => by rw [fil_ne (by omega), up_ne (by omega)])
        · intro q h1 h2 h3 h4
          rw [fil_ne h4, up_ne h3, F2 q (by omega), F q h3]
      · refine x_ret (dat d_Wo_look 32 rfl) rfl ?_
        refine k σ1 ⟨er, fun w => by omega⟩ (fun q h1 h2 h3 h4 => F q h3)
    | succ d ih =>
      intro p σ1 hn e0 e1 e3 F
      have hR1 : TownR σ1 o t := hR.same (fun q _ _ => F q (by omega))
      have en : σ1 o 6 = t 6 := hR1.1 6 (by decide) (by decide)
      have r := hR1.2.1 (p : Int) (by omega) (by omega)
      have e4 : σ1 (o + 4) (p : Int) = t (23 + 17 * (p : Int)) := r.2.2.2.1
      have tb4 := (hT.2.2.2.2.2.2.2.2.1 (p : Int) (by omega) (by omega)).2.2.2.1
      have pb := prN_b8 hT (p := p + 1) (by omega)
      refine x_iload_n (dat d_Wo_look 11 rfl) rfl rfl ?_
      refine x_aload_n (dat d_Wo_look 12 rfl) rfl rfl ?_
      refine x_geti (ji := 6) (v := t 6) (dat d_Wo_look 13 rfl) rfl f_Wo_37 (tw_oi_6 ho) (en) ?_
      refine x_icmp_ge (tgt := 48) (dat d_Wo_look 14 rfl) (by decide) (fun c_22 => (by omega)) (fun c_22 => ?_)
      refine x_aload_n (dat d_Wo_look 15 rfl) rfl rfl ?_
      refine x_dup (dat d_Wo_look 16 rfl) rfl ?_
      refine x_geti (ji := 0) (v := prN t p) (dat d_Wo_look 17 rfl) rfl f_Wo_27 (oi_mk (by decide +kernel)) (e0) ?_
      refine x_aload_n (dat d_Wo_look 18 rfl) rfl rfl ?_
      refine x_getr (r := o + 4) (dat d_Wo_look 19 rfl) rfl f_Wo_42 (tw_or_11 ho) ?_
      refine x_iload_n (dat d_Wo_look 20 rfl) rfl rfl ?_
      refine x_iald (n := 8) (v := t (23 + 17 * (p : Int))) (dat d_Wo_look 21 rfl) (tw_ai_4 ho) (by omega) (by omega) (e4) ?_
      refine x_iconst (dat d_Wo_look 22 rfl) (by decide) ?_
      refine x_iadd (v := (t (23 + 17 * (p : Int))) + 1) (dat d_Wo_look 23 rfl) rfl (by omega) ?_
      refine x_imul (v := prN t (p + 1)) (dat d_Wo_look 24 rfl) (by rfl) (by omega) ?_
      refine x_puti (ji := 0) (x := (prN t (p + 1))) (dat d_Wo_look 25 rfl) rfl f_Wo_27w (oi_mk (by decide +kernel)) (fun h => absurd h (by decide)) (by decide) ?_
      refine x_iinc (v' := ((p + 1 : Nat) : Int)) (L' := [vR 171, vR o, vR ob, vI ((p + 1 : Nat) : Int)]) (dat d_Wo_look 26 rfl) rfl (by decide) rfl (by omega) (by omega) rfl ?_
      refine x_goto (tgt := 17) (dat d_Wo_look 27 rfl) (by decide) ?_
      refine ih (p + 1) _ (by omega) up_s (by rw [up_ni (by decide), e1]) (by rw [up_ni (by decide), e3]) (fun q h => by rw [up_ne h, F q h])
  refine x_enter 1 rfl rfl rfl (fun Z => ?_)
  show Wx g y_Wo_look Z K 0 [vR 171, vR o, vR ob, vU] [] σ
  refine x_aload_n (dat d_Wo_look 0 rfl) rfl rfl ?_
  refine x_iconst (dat d_Wo_look 1 rfl) (by decide) ?_
  refine x_puti (ji := 0) (x := (1)) (dat d_Wo_look 2 rfl) rfl f_Wo_27w (oi_mk (by decide +kernel)) (fun h => absurd h (by decide)) (by decide) ?_
  refine x_aload_n (dat d_Wo_look 3 rfl) rfl rfl ?_
  refine x_iconst (dat d_Wo_look 4 rfl) (by decide) ?_
  refine x_puti (ji := 1) (x := (0)) (dat d_Wo_look 5 rfl) rfl f_Wo_31w (oi_mk (by decide +kernel)) (fun h => absurd h (by decide)) (by decide) ?_
  refine x_aload_n (dat d_Wo_look 6 rfl) rfl rfl ?_
  refine x_iconst (dat d_Wo_look 7 rfl) (by decide) ?_
  refine x_puti (ji := 3) (x := (0)) (dat d_Wo_look 8 rfl) rfl f_Wo_34w (oi_mk (by decide +kernel)) (fun h => absurd h (by decide)) (by decide) ?_
  refine x_iconst (dat d_Wo_look 9 rfl) (by decide) ?_
  refine x_istore_n (L' := [vR 171, vR o, vR ob, vI 0]) (dat d_Wo_look 10 rfl) rfl (by decide) rfl rfl ?_
  refine lp Z (t 6).toNat 0 _ (by omega) ?_ ?_ ?_ (fun q h => by rw [up_ne h, up_ne h, up_ne h])
  · rw [up_ni (by decide), up_ni (by decide), up_s]; rfl
  · rw [up_ni (by decide), up_s]
  · rw [up_s]
