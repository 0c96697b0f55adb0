/-! what is told: copies, what texts there are -/
def twn (a : Int → Int) (n : Int) : Int → Int := fun i => a (610 + 156 * n + i)
def bkn (a : Int → Int) (n : Int) : Int → Int := fun i => a (922 + 25 * n + i)
def TolR (σ : xS) (o : Nat) (a : Int → Int) : Prop := ((0 ≤ a 0 ∧ a 0 ≤ 2) ∧ (0 ≤ a 1 ∧ a 1 ≤ 2) ∧ (0 ≤ a 2 ∧ a 2 ≤ 600)) ∧ (σ o 3 = a 2 ∧ σ o 4 = a 3 ∧ σ o 5 = a 4 ∧ σ o 6 = a 0 ∧ σ o 7 = a 1) ∧
  (∀ i : Int, 0 ≤ i → i < a 2 → (0 ≤ a (10 + i) ∧ a (10 + i) ≤ 255) ∧ σ (o + 1) i = i2b (a (10 + i))) ∧
  (∀ k : Nat, (k : Int) < a 0 → TownOk (twn a k) ∧ TownR σ (o + 3 + 9 * k) (twn a k)) ∧ (∀ k : Nat, (k : Int) < a 1 → BookOk (bkn a k) ∧ BookR σ (o + 22 + 4 * k) (bkn a k))
theorem TolR.same {σ σ' : xS} {o : Nat} {a : Int → Int} (h : TolR σ o a) (e : ∀ k : Nat, o ≤ k → k ≤ o + 29 → σ' k = σ k) : TolR σ' o a := by
  obtain ⟨h1, h2, h3, h4, h5⟩ := h
  have b0 := h1.1
  have b1 := h1.2.1
  refine ⟨h1, ?_, ?_, fun k hk => ⟨(h4 k hk).1, (h4 k hk).2.same (fun j q0 q1 => e j (by omega) (by omega))⟩, fun k hk => ⟨(h5 k hk).1, (h5 k hk).2.same (fun j q0 q1 => e j (by omega) (by omega))⟩⟩
  · rw [e o (by omega) (by omega)]; exact h2
  · rw [e (o + 1) (by omega) (by omega)]; exact h3
theorem TownR.move {σ σ' : xS} {o o' : Nat} {t : Int → Int} (hT : TownOk t) (h : TownR σ o t) (e0 : ∀ i : Int, 0 ≤ i → i ≤ 7 → σ' o' i = σ o i) (e1 : ∀ (k : Nat) (i : Int), 1 ≤ k → k ≤ 5 → 0 ≤ i → i < 8 → σ' (o' + k) i = σ (o + k) i) (e6 : ∀ i : Int, 0 ≤ i → i < 96 → σ' (o' + 6) i = σ (o + 6) i) (e7 : ∀ (k : Nat) (i : Int), 7 ≤ k → k ≤ 8 → 0 ≤ i → i < 6 → σ' (o' + k) i = σ (o + k) i) : TownR σ' o' t := by
  obtain ⟨h1, h2, h3⟩ := h
  have t6 := hT.2.2.2.2.2.2.1
  have t7 := hT.2.2.2.2.2.2.2.1
  refine ⟨fun i q0 q1 => by rw [e0 i q0 q1]; exact h1 i q0 q1, fun p p0 p1 => ?_, fun q q0 q1 => ?_⟩
  · obtain ⟨g1, g2, g3, g4, g5, g6⟩ := h2 p p0 p1
    have tt := (hT.2.2.2.2.2.2.2.2.1 p p0 p1).2.2.2.2.1
    refine ⟨?_, ?_, ?_, ?_, ?_, fun i i0 i1 => ?_⟩
    · rw [e1 1 p (by decide) (by decide) p0 (by omega)]; exact g1
    · rw [e1 2 p (by decide) (by decide) p0 (by omega)]; exact g2
    · rw [e1 3 p (by decide) (by decide) p0 (by omega)]; exact g3
    · rw [e1 4 p (by decide) (by decide) p0 (by omega)]; exact g4
    · rw [e1 5 p (by decide) (by decide) p0 (by omega)]; exact g5
    · rw [e6 (12 * p + i) (by omega) (by omega)]; exact g6 i i0 i1
  · obtain ⟨g1, g2⟩ := h3 q q0 q1
    refine ⟨?_, ?_⟩
    · rw [e7 7 q (by decide) (by decide) q0 (by omega)]; exact g1
    · rw [e7 8 q (by decide) (by decide) q0 (by omega)]; exact g2
theorem BookR.move {σ σ' : xS} {o o' : Nat} {b : Int → Int} (hB : BookOk b) (h : BookR σ o b) (e0 : σ' o' 0 = σ o 0) (e1 : ∀ (k : Nat) (i : Int), 1 ≤ k → k ≤ 3 → 0 ≤ i → i < 8 → σ' (o' + k) i = σ (o + k) i) : BookR σ' o' b := by
  have b8 := hB.1
  refine ⟨by rw [e0]; exact h.1, fun k q0 q1 => ?_⟩
  rw [e1 1 k (by decide) (by decide) q0 (by omega), e1 2 k (by decide) (by decide) q0 (by omega), e1 3 k (by decide) (by decide) q0 (by omega)]
  exact h.2 k q0 q1
theorem TownOk.congr {t t' : Int → Int} (hT : TownOk t) (e : ∀ i : Int, 0 ≤ i → i < 156 → t' i = t i) : TownOk t' := by
  obtain ⟨a0, a1, a2, a3, a4, a5, a6, a7, a8, a9⟩ := hT
  unfold TownOk
  rw [e 0 (by decide) (by decide), e 1 (by decide) (by decide), e 2 (by decide) (by decide), e 3 (by decide) (by decide), e 4 (by decide) (by decide), e 5 (by decide) (by decide), e 6 (by decide) (by decide), e 7 (by decide) (by decide)]
  refine ⟨a0, a1, a2, a3, a4, a5, a6, a7, fun p p0 p1 => ?_, fun q q0 q1 => ?_⟩
  · have h := a8 p p0 p1
    have h4 := h.2.2.2.2.1
    rw [e (20 + 17 * p) (by omega) (by omega), e (21 + 17 * p) (by omega) (by omega), e (22 + 17 * p) (by omega) (by omega), e (23 + 17 * p) (by omega) (by omega), e (24 + 17 * p) (by omega) (by omega)]
    exact ⟨h.1, h.2.1, h.2.2.1, h.2.2.2.1, h4, fun i i0 i1 => by rw [e (25 + 17 * p + i) (by omega) (by omega)]; exact h.2.2.2.2.2 i i0 i1⟩
  · rw [e (8 + 2 * q) (by omega) (by omega), e (9 + 2 * q) (by omega) (by omega)]
    exact a9 q q0 q1
theorem TownR.congr {σ : xS} {o : Nat} {t t' : Int → Int} (hT : TownOk t) (h : TownR σ o t) (e : ∀ i : Int, 0 ≤ i → i < 156 → t' i = t i) : TownR σ o t' := by
  obtain ⟨a0, a1, a2, a3, a4, a5, a6, a7, a8, a9⟩ := hT
  unfold TownR
  rw [e 6 (by decide) (by decide), e 7 (by decide) (by decide)]
  refine ⟨fun i q0 q1 => by rw [e i q0 (by omega)]; exact h.1 i q0 q1, fun p p0 p1 => ?_, fun q q0 q1 => ?_⟩
  · have g := h.2.1 p p0 p1
    have h4 := (a8 p p0 p1).2.2.2.2.1
    rw [e (20 + 17 * p) (by omega) (by omega), e (21 + 17 * p) (by omega) (by omega), e (22 + 17 * p) (by omega) (by omega), e (23 + 17 * p) (by omega) (by omega), e (24 + 17 * p) (by omega) (by omega)]
    exact ⟨g.1, g.2.1, g.2.2.1, g.2.2.2.1, g.2.2.2.2.1, fun i i0 i1 => by rw [e (25 + 17 * p + i) (by omega) (by omega)]; exact g.2.2.2.2.2 i i0 i1⟩
  · rw [e (8 + 2 * q) (by omega) (by omega), e (9 + 2 * q) (by omega) (by omega)]
    exact h.2.2 q q0 q1
theorem BookOk.congr {b b' : Int → Int} (hB : BookOk b) (e : ∀ i : Int, 0 ≤ i → i < 25 → b' i = b i) : BookOk b' := by
  have h0 := hB.1
  unfold BookOk
  rw [e 0 (by decide) (by decide)]
  refine ⟨h0, fun k q0 q1 => ?_⟩
  rw [e (1 + 3 * k) (by omega) (by omega), e (2 + 3 * k) (by omega) (by omega), e (3 + 3 * k) (by omega) (by omega)]
  exact hB.2 k q0 q1
theorem BookR.congr {σ : xS} {o : Nat} {b b' : Int → Int} (hB : BookOk b) (h : BookR σ o b) (e : ∀ i : Int, 0 ≤ i → i < 25 → b' i = b i) : BookR σ o b' := by
  have h0 := hB.1
  unfold BookR
  rw [e 0 (by decide) (by decide)]
  refine ⟨h.1, fun k q0 q1 => ?_⟩
  rw [e (1 + 3 * k) (by omega) (by omega), e (2 + 3 * k) (by omega) (by omega), e (3 + 3 * k) (by omega) (by omega)]
  exact h.2 k q0 q1
theorem TolR.congr {σ : xS} {o : Nat} {a a' : Int → Int} (h : TolR σ o a) (e : ∀ i : Int, 0 ≤ i → i < 972 → a' i = a i) : TolR σ o a' := by
  obtain ⟨h1, h2, h3, h4, h5⟩ := h
  have b0 := h1.1
  have b1 := h1.2.1
  have b2 := h1.2.2
  have e0 := e 0 (by decide) (by decide)
  have e1 := e 1 (by decide) (by decide)
  have e2 := e 2 (by decide) (by decide)
  refine ⟨?_, ?_, ?_, fun k hk => ?_, fun k hk => ?_⟩
  · rw [e0, e1, e2]; exact h1
  · rw [e0, e1, e2, e 3 (by decide) (by decide), e 4 (by decide) (by decide)]; exact h2
  · intro i i0 i1
    rw [e (10 + i) (by omega) (by omega)]
    exact h3 i i0 (by omega)
  · obtain ⟨g1, g2⟩ := h4 k (by omega)
    exact ⟨TownOk.congr g1 (fun i q0 q1 => e _ (by omega) (by omega)), TownR.congr g1 g2 (fun i q0 q1 => e _ (by omega) (by omega))⟩
  · obtain ⟨g1, g2⟩ := h5 k (by omega)
    exact ⟨BookOk.congr g1 (fun i q0 q1 => e _ (by omega) (by omega)), BookR.congr g1 g2 (fun i q0 q1 => e _ (by omega) (by omega))⟩

theorem sp_Tw_copy {g : xG} {K : Option MV → xS → Prop} {σ : xS} {u e : Nat} (hu : IsTw u) (he : IsTw e) (hx : u + 8 < e ∨ e + 8 < u) (k : ∀ σ' : xS, (∀ t : Int → Int, TownOk t → TownR σ e t → TownR σ' u t) → (∀ o : Nat, (o < u ∨ u + 8 < o) → σ' o = σ o) → K none σ') : Mt g y_Tw_copy [vR u, vR e] σ K := by
  refine x_enter 0 rfl rfl rfl (fun Z => ?_)
  show Wx g y_Tw_copy Z K 0 [vR u, vR e] [] σ
  refine x_aload_n (dat d_Tw_copy 0 rfl) rfl rfl ?_
  refine x_aload_n (dat d_Tw_copy 1 rfl) rfl rfl ?_
  refine x_geti (ji := 0) (v := σ e 0) (dat d_Tw_copy 2 rfl) rfl f_Tw_36 (tw_oi_0 he) rfl ?_
  refine x_puti (ji := 0) (x := (σ e 0)) (dat d_Tw_copy 3 rfl) rfl f_Tw_36w (tw_oi_0 hu) (fun h => absurd h (by decide)) (by decide) ?_
  refine x_aload_n (dat d_Tw_copy 4 rfl) rfl rfl ?_
  refine x_aload_n (dat d_Tw_copy 5 rfl) rfl rfl ?_
  refine x_geti (ji := 1) (v := σ e 1) (dat d_Tw_copy 6 rfl) rfl f_Tw_40 (tw_oi_1 he) (up_nk (by have := tw_cs he; have := tw_cs hu; omega)) ?_
  refine x_puti (ji := 1) (x := (σ e 1)) (dat d_Tw_copy 7 rfl) rfl f_Tw_40w (tw_oi_1 hu) (fun h => absurd h (by decide)) (by decide) ?_
  refine x_aload_n (dat d_Tw_copy 8 rfl) rfl rfl ?_
  refine x_aload_n (dat d_Tw_copy 9 rfl) rfl rfl ?_
  refine x_geti (ji := 2) (v := σ e 2) (dat d_Tw_copy 10 rfl) rfl f_Tw_43 (tw_oi_2 he) ((up_nk (by have := tw_cs he; have := tw_cs hu; omega)).trans (up_nk (by have := tw_cs he; have := tw_cs hu; omega))) ?_
  refine x_puti (ji := 2) (x := (σ e 2)) (dat d_Tw_copy 11 rfl) rfl f_Tw_43w (tw_oi_2 hu) (fun h => absurd h (by decide)) (by decide) ?_
  refine x_aload_n (dat d_Tw_copy 12 rfl) rfl rfl ?_
  refine x_aload_n (dat d_Tw_copy 13 rfl) rfl rfl ?_
  refine x_geti (ji := 3) (v := σ e 3) (dat d_Tw_copy 14 rfl) rfl f_Tw_46 (tw_oi_3 he) ((up_nk (by have := tw_cs he; have := tw_cs hu; omega)).trans ((up_nk (by have := tw_cs he; have := tw_cs hu; omega)).trans (up_nk (by have := tw_cs he; have := tw_cs hu; omega)))) ?_
  refine x_puti (ji := 3) (x := (σ e 3)) (dat d_Tw_copy 15 rfl) rfl f_Tw_46w (tw_oi_3 hu) (fun h => absurd h (by decide)) (by decide) ?_
  refine x_aload_n (dat d_Tw_copy 16 rfl) rfl rfl ?_
  refine x_aload_n (dat d_Tw_copy 17 rfl) rfl rfl ?_
  refine x_geti (ji := 4) (v := σ e 4) (dat d_Tw_copy 18 rfl) rfl f_Tw_49 (tw_oi_4 he) ((up_nk (by have := tw_cs he; have := tw_cs hu; omega)).trans ((up_nk (by have := tw_cs he; have := tw_cs hu; omega)).trans ((up_nk (by have := tw_cs he; have := tw_cs hu; omega)).trans (up_nk (by have := tw_cs he; have := tw_cs hu; omega))))) ?_
  refine x_puti (ji := 4) (x := (σ e 4)) (dat d_Tw_copy 19 rfl) rfl f_Tw_49w (tw_oi_4 hu) (fun h => absurd h (by decide)) (by decide) ?_
  refine x_aload_n (dat d_Tw_copy 20 rfl) rfl rfl ?_
  refine x_aload_n (dat d_Tw_copy 21 rfl) rfl rfl ?_
  refine x_geti (ji := 5) (v := σ e 5) (dat d_Tw_copy 22 rfl) rfl f_Tw_52 (tw_oi_5 he) ((up_nk (by have := tw_cs he; have := tw_cs hu; omega)).trans ((up_nk (by have := tw_cs he; have := tw_cs hu; omega)).trans ((up_nk (by have := tw_cs he; have := tw_cs hu; omega)).trans ((up_nk (by have := tw_cs he; have := tw_cs hu; omega)).trans (up_nk (by have := tw_cs he; have := tw_cs hu; omega)))))) ?_
  refine x_puti (ji := 5) (x := (σ e 5)) (dat d_Tw_copy 23 rfl) rfl f_Tw_52w (tw_oi_5 hu) (fun h => absurd h (by decide)) (by decide) ?_
  refine x_aload_n (dat d_Tw_copy 24 rfl) rfl rfl ?_
  refine x_aload_n (dat d_Tw_copy 25 rfl) rfl rfl ?_
  refine x_geti (ji := 6) (v := σ e 6) (dat d_Tw_copy 26 rfl) rfl f_Tw_55 (tw_oi_6 he) ((up_nk (by have := tw_cs he; have := tw_cs hu; omega)).trans ((up_nk (by have := tw_cs he; have := tw_cs hu; omega)).trans ((up_nk (by have := tw_cs he; have := tw_cs hu; omega)).trans ((up_nk (by have := tw_cs he; have := tw_cs hu; omega)).trans ((up_nk (by have := tw_cs he; have := tw_cs hu; omega)).trans (up_nk (by have := tw_cs he; have := tw_cs hu; omega))))))) ?_
  refine x_puti (ji := 6) (x := (σ e 6)) (dat d_Tw_copy 27 rfl) rfl f_Tw_55w (tw_oi_6 hu) (fun h => absurd h (by decide)) (by decide) ?_
  refine x_aload_n (dat d_Tw_copy 28 rfl) rfl rfl ?_
  refine x_aload_n (dat d_Tw_copy 29 rfl) rfl rfl ?_
  refine x_geti (ji := 7) (v := σ e 7) (dat d_Tw_copy 30 rfl) rfl f_Tw_58 (tw_oi_7 he) ((up_nk (by have := tw_cs he; have := tw_cs hu; omega)).trans ((up_nk (by have := tw_cs he; have := tw_cs hu; omega)).trans ((up_nk (by have := tw_cs he; have := tw_cs hu; omega)).trans ((up_nk (by have := tw_cs he; have := tw_cs hu; omega)).trans ((up_nk (by have := tw_cs he; have := tw_cs hu; omega)).trans ((up_nk (by have := tw_cs he; have := tw_cs hu; omega)).trans (up_nk (by have := tw_cs he; have := tw_cs hu; omega)))))))) ?_
  refine x_puti (ji := 7) (x := (σ e 7)) (dat d_Tw_copy 31 rfl) rfl f_Tw_58w (tw_oi_7 hu) (fun h => absurd h (by decide)) (by decide) ?_
  refine x_aload_n (dat d_Tw_copy 32 rfl) rfl rfl ?_
  refine x_getr (r := e + 1) (dat d_Tw_copy 33 rfl) rfl f_Tw_9 (tw_or_8 he) ?_
  refine x_iconst (dat d_Tw_copy 34 rfl) (by decide) ?_
  refine x_aload_n (dat d_Tw_copy 35 rfl) rfl rfl ?_
  refine x_getr (r := u + 1) (dat d_Tw_copy 36 rfl) rfl f_Tw_9 (tw_or_8 hu) ?_
  refine x_iconst (dat d_Tw_copy 37 rfl) (by decide) ?_
  refine x_bipush (dat d_Tw_copy 38 rfl) (by decide) (by decide) ?_
  refine x_copy (own := "ShakenBread$Town") (t := 20) (na := 8) (nb := 8) (dat d_Tw_copy 39 rfl) rfl l_Tw_61 (by decide) (by decide) (tw_ai_1 he) (tw_ai_1 hu) (by omega) (by omega) (by omega) (by omega) (by omega) (Nat.le_of_ble_eq_true rfl) ?_
  refine x_aload_n (dat d_Tw_copy 40 rfl) rfl rfl ?_
  refine x_getr (r := e + 2) (dat d_Tw_copy 41 rfl) rfl f_Tw_15 (tw_or_9 he) ?_
  refine x_iconst (dat d_Tw_copy 42 rfl) (by decide) ?_
  refine x_aload_n (dat d_Tw_copy 43 rfl) rfl rfl ?_
  refine x_getr (r := u + 2) (dat d_Tw_copy 44 rfl) rfl f_Tw_15 (tw_or_9 hu) ?_
  refine x_iconst (dat d_Tw_copy 45 rfl) (by decide) ?_
  refine x_bipush (dat d_Tw_copy 46 rfl) (by decide) (by decide) ?_
  refine x_copy (own := "ShakenBread$Town") (t := 20) (na := 8) (nb := 8) (dat d_Tw_copy 47 rfl) rfl l_Tw_61 (by decide) (by decide) (tw_ai_2 he) (tw_ai_2 hu) (by omega) (by omega) (by omega) (by omega) (by omega) (Nat.le_of_ble_eq_true rfl) ?_
  refine x_aload_n (dat d_Tw_copy 48 rfl) rfl rfl ?_
  refine x_getr (r := e + 3) (dat d_Tw_copy 49 rfl) rfl f_Tw_18 (tw_or_10 he) ?_
  refine x_iconst (dat d_Tw_copy 50 rfl) (by decide) ?_
  refine x_aload_n (dat d_Tw_copy 51 rfl) rfl rfl ?_
  refine x_getr (r := u + 3) (dat d_Tw_copy 52 rfl) rfl f_Tw_18 (tw_or_10 hu) ?_
  refine x_iconst (dat d_Tw_copy 53 rfl) (by decide) ?_
  refine x_bipush (dat d_Tw_copy 54 rfl) (by decide) (by decide) ?_
  refine x_copy (own := "ShakenBread$Town") (t := 20) (na := 8) (nb := 8) (dat d_Tw_copy 55 rfl) rfl l_Tw_61 (by decide) (by decide) (tw_ai_3 he) (tw_ai_3 hu) (by omega) (by omega) (by omega) (by omega) (by omega) (Nat.le_of_ble_eq_true rfl) ?_
  refine x_aload_n (dat d_Tw_copy 56 rfl) rfl rfl ?_
  refine x_getr (r := e + 4) (dat d_Tw_copy 57 rfl) rfl f_Tw_21 (tw_or_11 he) ?_
  refine x_iconst (dat d_Tw_copy 58 rfl) (by decide) ?_
  refine x_aload_n (dat d_Tw_copy 59 rfl) rfl rfl ?_
  refine x_getr (r := u + 4) (dat d_Tw_copy 60 rfl) rfl f_Tw_21 (tw_or_11 hu) ?_
  refine x_iconst (dat d_Tw_copy 61 rfl) (by decide) ?_
  refine x_bipush (dat d_Tw_copy 62 rfl) (by decide) (by decide) ?_
  refine x_copy (own := "ShakenBread$Town") (t := 20) (na := 8) (nb := 8) (dat d_Tw_copy 63 rfl) rfl l_Tw_61 (by decide) (by decide) (tw_ai_4 he) (tw_ai_4 hu) (by omega) (by omega) (by omega) (by omega) (by omega) (Nat.le_of_ble_eq_true rfl) ?_
  refine x_aload_n (dat d_Tw_copy 64 rfl) rfl rfl ?_
  refine x_getr (r := e + 5) (dat d_Tw_copy 65 rfl) rfl f_Tw_24 (tw_or_12 he) ?_
  refine x_iconst (dat d_Tw_copy 66 rfl) (by decide) ?_
  refine x_aload_n (dat d_Tw_copy 67 rfl) rfl rfl ?_
  refine x_getr (r := u + 5) (dat d_Tw_copy 68 rfl) rfl f_Tw_24 (tw_or_12 hu) ?_
  refine x_iconst (dat d_Tw_copy 69 rfl) (by decide) ?_
  refine x_bipush (dat d_Tw_copy 70 rfl) (by decide) (by decide) ?_
  refine x_copy (own := "ShakenBread$Town") (t := 20) (na := 8) (nb := 8) (dat d_Tw_copy 71 rfl) rfl l_Tw_61 (by decide) (by decide) (tw_ai_5 he) (tw_ai_5 hu) (by omega) (by omega) (by omega) (by omega) (by omega) (Nat.le_of_ble_eq_true rfl) ?_
  refine x_aload_n (dat d_Tw_copy 72 rfl) rfl rfl ?_
  refine x_getr (r := e + 6) (dat d_Tw_copy 73 rfl) rfl f_Tw_27 (tw_or_13 he) ?_
  refine x_iconst (dat d_Tw_copy 74 rfl) (by decide) ?_
  refine x_aload_n (dat d_Tw_copy 75 rfl) rfl rfl ?_
  refine x_getr (r := u + 6) (dat d_Tw_copy 76 rfl) rfl f_Tw_27 (tw_or_13 hu) ?_
  refine x_iconst (dat d_Tw_copy 77 rfl) (by decide) ?_
  refine x_bipush (dat d_Tw_copy 78 rfl) (by decide) (by decide) ?_
  refine x_copy (own := "ShakenBread$Town") (t := 20) (na := 96) (nb := 96) (dat d_Tw_copy 79 rfl) rfl l_Tw_61 (by decide) (by decide) (tw_ai_6 he) (tw_ai_6 hu) (by omega) (by omega) (by omega) (by omega) (by omega) (Nat.le_of_ble_eq_true rfl) ?_
  refine x_aload_n (dat d_Tw_copy 80 rfl) rfl rfl ?_
  refine x_getr (r := e + 7) (dat d_Tw_copy 81 rfl) rfl f_Tw_30 (tw_or_14 he) ?_
  refine x_iconst (dat d_Tw_copy 82 rfl) (by decide) ?_
  refine x_aload_n (dat d_Tw_copy 83 rfl) rfl rfl ?_
  refine x_getr (r := u + 7) (dat d_Tw_copy 84 rfl) rfl f_Tw_30 (tw_or_14 hu) ?_
  refine x_iconst (dat d_Tw_copy 85 rfl) (by decide) ?_
  refine x_bipush (dat d_Tw_copy 86 rfl) (by decide) (by decide) ?_
  refine x_copy (own := "ShakenBread$Town") (t := 20) (na := 6) (nb := 6) (dat d_Tw_copy 87 rfl) rfl l_Tw_61 (by decide) (by decide) (tw_ai_7 he) (tw_ai_7 hu) (by omega) (by omega) (by omega) (by omega) (by omega) (Nat.le_of_ble_eq_true rfl) ?_
  refine x_aload_n (dat d_Tw_copy 88 rfl) rfl rfl ?_
  refine x_getr (r := e + 8) (dat d_Tw_copy 89 rfl) rfl f_Tw_33 (tw_or_15 he) ?_
  refine x_iconst (dat d_Tw_copy 90 rfl) (by decide) ?_
  refine x_aload_n (dat d_Tw_copy 91 rfl) rfl rfl ?_
  refine x_getr (r := u + 8) (dat d_Tw_copy 92 rfl) rfl f_Tw_33 (tw_or_15 hu) ?_
  refine x_iconst (dat d_Tw_copy 93 rfl) (by decide) ?_
  refine x_bipush (dat d_Tw_copy 94 rfl) (by decide) (by decide) ?_
  refine x_copy (own := "ShakenBread$Town") (t := 20) (na := 6) (nb := 6) (dat d_Tw_copy 95 rfl) rfl l_Tw_61 (by decide) (by decide) (tw_ai_8 he) (tw_ai_8 hu) (by omega) (by omega) (by omega) (by omega) (by omega) (Nat.le_of_ble_eq_true rfl) ?_
  refine x_ret (dat d_Tw_copy 96 rfl) rfl ?_
  refine k _ (fun t hT hR => hR.move hT (fun i i0 i1 => ?_) (fun j i j1 j2 i0 i1 => ?_) (fun i i0 i1 => ?_) (fun j i j1 j2 i0 i1 => ?_)) (fun o ho => ?_)
  · rw [cpy_ne (by omega), cpy_ne (by omega), cpy_ne (by omega), cpy_ne (by omega), cpy_ne (by omega), cpy_ne (by omega), cpy_ne (by omega), cpy_ne (by omega)]
    rcases (show (((((((i = 0 ∨ i = 1) ∨ i = 2) ∨ i = 3) ∨ i = 4) ∨ i = 5) ∨ i = 6) ∨ i = 7) by omega) with ((((((q | q) | q) | q) | q) | q) | q) | q
    · subst q; rw [up_ni (by decide), up_ni (by decide), up_ni (by decide), up_ni (by decide), up_ni (by decide), up_ni (by decide), up_ni (by decide), up_s]
    · subst q; rw [up_ni (by decide), up_ni (by decide), up_ni (by decide), up_ni (by decide), up_ni (by decide), up_ni (by decide), up_s]
    · subst q; rw [up_ni (by decide), up_ni (by decide), up_ni (by decide), up_ni (by decide), up_ni (by decide), up_s]
    · subst q; rw [up_ni (by decide), up_ni (by decide), up_ni (by decide), up_ni (by decide), up_s]
    · subst q; rw [up_ni (by decide), up_ni (by decide), up_ni (by decide), up_s]
    · subst q; rw [up_ni (by decide), up_ni (by decide), up_s]
    · subst q; rw [up_ni (by decide), up_s]
    · subst q; rw [up_s]
  · rcases (show ((((j = 1 ∨ j = 2) ∨ j = 3) ∨ j = 4) ∨ j = 5) by omega) with (((q | q) | q) | q) | q
    · subst q; rw [cpy_ne (show u + 1 ≠ u + 8 by omega), cpy_ne (show u + 1 ≠ u + 7 by omega), cpy_ne (show u + 1 ≠ u + 6 by omega), cpy_ne (show u + 1 ≠ u + 5 by omega), cpy_ne (show u + 1 ≠ u + 4 by omega), cpy_ne (show u + 1 ≠ u + 3 by omega), cpy_ne (show u + 1 ≠ u + 2 by omega), cpy_in (by omega) (by omega), up_ne (show e + 1 ≠ u by omega), up_ne (show e + 1 ≠ u by omega), up_ne (show e + 1 ≠ u by omega), up_ne (show e + 1 ≠ u by omega), up_ne (show e + 1 ≠ u by omega), up_ne (show e + 1 ≠ u by omega), up_ne (show e + 1 ≠ u by omega), up_ne (show e + 1 ≠ u by omega), show (0 : Int) + (i - 0) = i by omega]
    · subst q; rw [cpy_ne (show u + 2 ≠ u + 8 by omega), cpy_ne (show u + 2 ≠ u + 7 by omega), cpy_ne (show u + 2 ≠ u + 6 by omega), cpy_ne (show u + 2 ≠ u + 5 by omega), cpy_ne (show u + 2 ≠ u + 4 by omega), cpy_ne (show u + 2 ≠ u + 3 by omega), cpy_in (by omega) (by omega), cpy_ne (show e + 2 ≠ u + 1 by omega), up_ne (show e + 2 ≠ u by omega), up_ne (show e + 2 ≠ u by omega), up_ne (show e + 2 ≠ u by omega), up_ne (show e + 2 ≠ u by omega), up_ne (show e + 2 ≠ u by omega), up_ne (show e + 2 ≠ u by omega), up_ne (show e + 2 ≠ u by omega), up_ne (show e + 2 ≠ u by omega), show (0 : Int) + (i - 0) = i by omega]
    · subst q; rw [cpy_ne (show u + 3 ≠ u + 8 by omega), cpy_ne (show u + 3 ≠ u + 7 by omega), cpy_ne (show u + 3 ≠ u + 6 by omega), cpy_ne (show u + 3 ≠ u + 5 by omega), cpy_ne (show u + 3 ≠ u + 4 by omega), cpy_in (by omega) (by omega), cpy_ne (show e + 3 ≠ u + 2 by omega), cpy_ne (show e + 3 ≠ u + 1 by omega), up_ne (show e + 3 ≠ u by omega), up_ne (show e + 3 ≠ u by omega), up_ne (show e + 3 ≠ u by omega), up_ne (show e + 3 ≠ u by omega), up_ne (show e + 3 ≠ u by omega), up_ne (show e + 3 ≠ u by omega), up_ne (show e + 3 ≠ u by omega), up_ne (show e + 3 ≠ u by omega), show (0 : Int) + (i - 0) = i by omega]
    · subst q; rw [cpy_ne (show u + 4 ≠ u + 8 by omega), cpy_ne (show u + 4 ≠ u + 7 by omega), cpy_ne (show u + 4 ≠ u + 6 by omega), cpy_ne (show u + 4 ≠ u + 5 by omega), cpy_in (by omega) (by omega), cpy_ne (show e + 4 ≠ u + 3 by omega), cpy_ne (show e + 4 ≠ u + 2 by omega), cpy_ne (show e + 4 ≠ u + 1 by omega), up_ne (show e + 4 ≠ u by omega), up_ne (show e + 4 ≠ u by omega), up_ne (show e + 4 ≠ u by omega), up_ne (show e + 4 ≠ u by omega), up_ne (show e + 4 ≠ u by omega), up_ne (show e + 4 ≠ u by omega), up_ne (show e + 4 ≠ u by omega), up_ne (show e + 4 ≠ u by omega), show (0 : Int) + (i - 0) = i by omega]
    · subst q; rw [cpy_ne (show u + 5 ≠ u + 8 by omega), cpy_ne (show u + 5 ≠ u + 7 by omega), cpy_ne (show u + 5 ≠ u + 6 by omega), cpy_in (by omega) (by omega), cpy_ne (show e + 5 ≠ u + 4 by omega), cpy_ne (show e + 5 ≠ u + 3 by omega), cpy_ne (show e + 5 ≠ u + 2 by omega), cpy_ne (show e + 5 ≠ u + 1 by omega), up_ne (show e + 5 ≠ u by omega), up_ne (show e + 5 ≠ u by omega), up_ne (show e + 5 ≠ u by omega), up_ne (show e + 5 ≠ u by omega), up_ne (show e + 5 ≠ u by omega), up_ne (show e + 5 ≠ u by omega), up_ne (show e + 5 ≠ u by omega), up_ne (show e + 5 ≠ u by omega), show (0 : Int) + (i - 0) = i by omega]
  · rw [cpy_ne (show u + 6 ≠ u + 8 by omega), cpy_ne (show u + 6 ≠ u + 7 by omega), cpy_in (by omega) (by omega), cpy_ne (show e + 6 ≠ u + 5 by omega), cpy_ne (show e + 6 ≠ u + 4 by omega), cpy_ne (show e + 6 ≠ u + 3 by omega), cpy_ne (show e + 6 ≠ u + 2 by omega), cpy_ne (show e + 6 ≠ u + 1 by omega), up_ne (show e + 6 ≠ u by omega), up_ne (show e + 6 ≠ u by omega), up_ne (show e + 6 ≠ u by omega), up_ne (show e + 6 ≠ u by omega), up_ne (show e + 6 ≠ u by omega), up_ne (show e + 6 ≠ u by omega), up_ne (show e + 6 ≠ u by omega), up_ne (show e + 6 ≠ u by omega), show (0 : Int) + (i - 0) = i by omega]
  · rcases (show j = 7 ∨ j = 8 by omega) with q | q
    · subst q; rw [cpy_ne (show u + 7 ≠ u + 8 by omega), cpy_in (by omega) (by omega), cpy_ne (show e + 7 ≠ u + 6 by omega), cpy_ne (show e + 7 ≠ u + 5 by omega), cpy_ne (show e + 7 ≠ u + 4 by omega), cpy_ne (show e + 7 ≠ u + 3 by omega), cpy_ne (show e + 7 ≠ u + 2 by omega), cpy_ne (show e + 7 ≠ u + 1 by omega), up_ne (show e + 7 ≠ u by omega), up_ne (show e + 7 ≠ u by omega), up_ne (show e + 7 ≠ u by omega), up_ne (show e + 7 ≠ u by omega), up_ne (show e + 7 ≠ u by omega), up_ne (show e + 7 ≠ u by omega), up_ne (show e + 7 ≠ u by omega), up_ne (show e + 7 ≠ u by omega), show (0 : Int) + (i - 0) = i by omega]
    · subst q; rw [cpy_in (by omega) (by omega), cpy_ne (show e + 8 ≠ u + 7 by omega), cpy_ne (show e + 8 ≠ u + 6 by omega), cpy_ne (show e + 8 ≠ u + 5 by omega), cpy_ne (show e + 8 ≠ u + 4 by omega), cpy_ne (show e + 8 ≠ u + 3 by omega), cpy_ne (show e + 8 ≠ u + 2 by omega), cpy_ne (show e + 8 ≠ u + 1 by omega), up_ne (show e + 8 ≠ u by omega), up_ne (show e + 8 ≠ u by omega), up_ne (show e + 8 ≠ u by omega), up_ne (show e + 8 ≠ u by omega), up_ne (show e + 8 ≠ u by omega), up_ne (show e + 8 ≠ u by omega), up_ne (show e + 8 ≠ u by omega), up_ne (show e + 8 ≠ u by omega), show (0 : Int) + (i - 0) = i by omega]
  · rw [cpy_ne (by omega), cpy_ne (by omega), cpy_ne (by omega), cpy_ne (by omega), cpy_ne (by omega), cpy_ne (by omega), cpy_ne (by omega), cpy_ne (by omega), up_ne (by omega), up_ne (by omega), up_ne (by omega), up_ne (by omega), up_ne (by omega), up_ne (by omega), up_ne (by omega), up_ne (by omega)]
theorem sp_Bk_copy {g : xG} {K : Option MV → xS → Prop} {σ : xS} {u e : Nat} (hu : IsBk u) (he : IsBk e) (hx : u + 3 < e ∨ e + 3 < u) (k : ∀ σ' : xS, (∀ b : Int → Int, BookOk b → BookR σ e b → BookR σ' u b) → (∀ o : Nat, (o < u ∨ u + 3 < o) → σ' o = σ o) → K none σ') : Mt g y_Bk_copy [vR u, vR e] σ K := by
  refine x_enter 0 rfl rfl rfl (fun Z => ?_)
  show Wx g y_Bk_copy Z K 0 [vR u, vR e] [] σ
  refine x_aload_n (dat d_Bk_copy 0 rfl) rfl rfl ?_
  refine x_aload_n (dat d_Bk_copy 1 rfl) rfl rfl ?_
  refine x_geti (ji := 0) (v := σ e 0) (dat d_Bk_copy 2 rfl) rfl f_Bk_21 (bk_oi_0 he) rfl ?_
  refine x_puti (ji := 0) (x := (σ e 0)) (dat d_Bk_copy 3 rfl) rfl f_Bk_21w (bk_oi_0 hu) (fun h => absurd h (by decide)) (by decide) ?_
  refine x_aload_n (dat d_Bk_copy 4 rfl) rfl rfl ?_
  refine x_getr (r := e + 1) (dat d_Bk_copy 5 rfl) rfl f_Bk_9 (bk_or_1 he) ?_
  refine x_iconst (dat d_Bk_copy 6 rfl) (by decide) ?_
  refine x_aload_n (dat d_Bk_copy 7 rfl) rfl rfl ?_
  refine x_getr (r := u + 1) (dat d_Bk_copy 8 rfl) rfl f_Bk_9 (bk_or_1 hu) ?_
  refine x_iconst (dat d_Bk_copy 9 rfl) (by decide) ?_
  refine x_bipush (dat d_Bk_copy 10 rfl) (by decide) (by decide) ?_
  refine x_copy (own := "ShakenBread$Book") (t := 20) (na := 8) (nb := 8) (dat d_Bk_copy 11 rfl) rfl l_Bk_25 (by decide) (by decide) (bk_ai_1 he) (bk_ai_1 hu) (by omega) (by omega) (by omega) (by omega) (by omega) (Nat.le_of_ble_eq_true rfl) ?_
  refine x_aload_n (dat d_Bk_copy 12 rfl) rfl rfl ?_
  refine x_getr (r := e + 2) (dat d_Bk_copy 13 rfl) rfl f_Bk_15 (bk_or_2 he) ?_
  refine x_iconst (dat d_Bk_copy 14 rfl) (by decide) ?_
  refine x_aload_n (dat d_Bk_copy 15 rfl) rfl rfl ?_
  refine x_getr (r := u + 2) (dat d_Bk_copy 16 rfl) rfl f_Bk_15 (bk_or_2 hu) ?_
  refine x_iconst (dat d_Bk_copy 17 rfl) (by decide) ?_
  refine x_bipush (dat d_Bk_copy 18 rfl) (by decide) (by decide) ?_
  refine x_copy (own := "ShakenBread$Book") (t := 20) (na := 8) (nb := 8) (dat d_Bk_copy 19 rfl) rfl l_Bk_25 (by decide) (by decide) (bk_ai_2 he) (bk_ai_2 hu) (by omega) (by omega) (by omega) (by omega) (by omega) (Nat.le_of_ble_eq_true rfl) ?_
  refine x_aload_n (dat d_Bk_copy 20 rfl) rfl rfl ?_
  refine x_getr (r := e + 3) (dat d_Bk_copy 21 rfl) rfl f_Bk_18 (bk_or_3 he) ?_
  refine x_iconst (dat d_Bk_copy 22 rfl) (by decide) ?_
  refine x_aload_n (dat d_Bk_copy 23 rfl) rfl rfl ?_
  refine x_getr (r := u + 3) (dat d_Bk_copy 24 rfl) rfl f_Bk_18 (bk_or_3 hu) ?_
  refine x_iconst (dat d_Bk_copy 25 rfl) (by decide) ?_
  refine x_bipush (dat d_Bk_copy 26 rfl) (by decide) (by decide) ?_
  refine x_copy (own := "ShakenBread$Book") (t := 20) (na := 8) (nb := 8) (dat d_Bk_copy 27 rfl) rfl l_Bk_25 (by decide) (by decide) (bk_ai_3 he) (bk_ai_3 hu) (by omega) (by omega) (by omega) (by omega) (by omega) (Nat.le_of_ble_eq_true rfl) ?_
  refine x_ret (dat d_Bk_copy 28 rfl) rfl ?_
  refine k _ (fun b hB hR => hR.move hB ?_ (fun j i j1 j2 i0 i1 => ?_)) (fun o ho => ?_)
  · rw [cpy_ne (by omega), cpy_ne (by omega), cpy_ne (by omega), up_s]
  · rcases (show (j = 1 ∨ j = 2) ∨ j = 3 by omega) with (q | q) | q
    · subst q; rw [cpy_ne (show u + 1 ≠ u + 3 by omega), cpy_ne (show u + 1 ≠ u + 2 by omega), cpy_in (by omega) (by omega), up_ne (show e + 1 ≠ u by omega), show (0 : Int) + (i - 0) = i by omega]
    · subst q; rw [cpy_ne (show u + 2 ≠ u + 3 by omega), cpy_in (by omega) (by omega), cpy_ne (show e + 2 ≠ u + 1 by omega), up_ne (show e + 2 ≠ u by omega), show (0 : Int) + (i - 0) = i by omega]
    · subst q; rw [cpy_in (by omega) (by omega), cpy_ne (show e + 3 ≠ u + 2 by omega), cpy_ne (show e + 3 ≠ u + 1 by omega), up_ne (show e + 3 ≠ u by omega), show (0 : Int) + (i - 0) = i by omega]
  · rw [cpy_ne (by omega), cpy_ne (by omega), cpy_ne (by omega), up_ne (by omega)]
theorem sp_To_townAt {g : xG} {K : Option MV → xS → Prop} {σ : xS} {a : Int → Int} {n : Int} (H : TolR σ 1 a) (kn : ¬ (0 ≤ n ∧ n < a 0) → K (some vN) σ) (ks : ∀ q : Nat, 0 ≤ n → n < a 0 → IsTw q → q < 30 → TownOk (twn a n) → TownR σ q (twn a n) → K (some (vR q)) σ) : Mt g y_To_townAt [vR 1, vI n] σ K := by
  have b0 := H.1.1
  have b1 := H.1.2.1
  have e0 : σ 1 6 = a 0 := H.2.1.2.2.2.1
  refine x_enter 0 rfl rfl rfl (fun Z => ?_)
  show Wx g y_To_townAt Z K 0 [vR 1, vI n] [] σ
  refine x_iload_n (dat d_To_townAt 0 rfl) rfl rfl ?_
  refine x_if_lt (tgt := 17) (dat d_To_townAt 1 rfl) (by decide) (fun c_1 => ?_) (fun c_1 => ?_)
  · refine x_null (dat d_To_townAt 9 rfl) ?_
    refine x_goto (tgt := 27) (dat d_To_townAt 10 rfl) (by decide) ?_
    refine x_aretN (dat d_To_townAt 15 rfl) rfl ?_
    first
    | exact ks 4 (by decide) (by omega) (by simp [IsTw, L_Tw]) (by decide) (H.2.2.2.1 0 (by omega)).1 (H.2.2.2.1 0 (by omega)).2
    | exact ks 13 (by decide) (by omega) (by simp [IsTw, L_Tw]) (by decide) (H.2.2.2.1 1 (by omega)).1 (H.2.2.2.1 1 (by omega)).2
    | exact kn (by omega)
  · refine x_iload_n (dat d_To_townAt 2 rfl) rfl rfl ?_
    refine x_aload_n (dat d_To_townAt 3 rfl) rfl rfl ?_
    refine x_geti (ji := 6) (v := a 0) (dat d_To_townAt 4 rfl) rfl f_To_39 (oi_mk (by decide +kernel)) (e0) ?_
    refine x_icmp_ge (tgt := 17) (dat d_To_townAt 5 rfl) (by decide) (fun c_9 => ?_) (fun c_9 => ?_)
    · refine x_null (dat d_To_townAt 9 rfl) ?_
      refine x_goto (tgt := 27) (dat d_To_townAt 10 rfl) (by decide) ?_
      refine x_aretN (dat d_To_townAt 15 rfl) rfl ?_
      first
      | exact ks 4 (by decide) (by omega) (by simp [IsTw, L_Tw]) (by decide) (H.2.2.2.1 0 (by omega)).1 (H.2.2.2.1 0 (by omega)).2
      | exact ks 13 (by decide) (by omega) (by simp [IsTw, L_Tw]) (by decide) (H.2.2.2.1 1 (by omega)).1 (H.2.2.2.1 1 (by omega)).2
      | exact kn (by omega)
    · refine x_iload_n (dat d_To_townAt 6 rfl) rfl rfl ?_
      refine x_iconst (dat d_To_townAt 7 rfl) (by decide) ?_
      refine x_icmp_lt (tgt := 21) (dat d_To_townAt 8 rfl) (by decide) (fun c_14 => ?_) (fun c_14 => (by omega))
      refine x_aload_n (dat d_To_townAt 11 rfl) rfl rfl ?_
      refine x_getr (r := 3) (dat d_To_townAt 12 rfl) rfl f_To_18 (or_mk (by decide +kernel)) ?_
      refine x_iload_n (dat d_To_townAt 13 rfl) rfl rfl ?_
      rcases (show n = 0 ∨ n = 1 by omega) with e | e
      · subst e
        refine x_aald (r := 4) (t := 23) (dat d_To_townAt 14 rfl) (by decide +kernel) (by decide) (by decide) (by decide +kernel) (by decide +kernel) ?_
        refine x_aret (dat d_To_townAt 15 rfl) rfl ?_
        first
        | exact ks 4 (by decide) (by omega) (by simp [IsTw, L_Tw]) (by decide) (H.2.2.2.1 0 (by omega)).1 (H.2.2.2.1 0 (by omega)).2
        | exact ks 13 (by decide) (by omega) (by simp [IsTw, L_Tw]) (by decide) (H.2.2.2.1 1 (by omega)).1 (H.2.2.2.1 1 (by omega)).2
        | exact kn (by omega)
      · subst e
        refine x_aald (r := 13) (t := 23) (dat d_To_townAt 14 rfl) (by decide +kernel) (by decide) (by decide) (by decide +kernel) (by decide +kernel) ?_
        refine x_aret (dat d_To_townAt 15 rfl) rfl ?_
        first
        | exact ks 4 (by decide) (by omega) (by simp [IsTw, L_Tw]) (by decide) (H.2.2.2.1 0 (by omega)).1 (H.2.2.2.1 0 (by omega)).2
        | exact ks 13 (by decide) (by omega) (by simp [IsTw, L_Tw]) (by decide) (H.2.2.2.1 1 (by omega)).1 (H.2.2.2.1 1 (by omega)).2
        | exact kn (by omega)
theorem sp_To_bookAt {g : xG} {K : Option MV → xS → Prop} {σ : xS} {a : Int → Int} {n : Int} (H : TolR σ 1 a) (kn : ¬ (0 ≤ n ∧ n < a 1) → K (some vN) σ) (ks : ∀ q : Nat, 0 ≤ n → n < a 1 → IsBk q → q < 30 → BookOk (bkn a n) → BookR σ q (bkn a n) → K (some (vR q)) σ) : Mt g y_To_bookAt [vR 1, vI n] σ K := by
  have b0 := H.1.1
  have b1 := H.1.2.1
  have e0 : σ 1 7 = a 1 := H.2.1.2.2.2.2
  refine x_enter 0 rfl rfl rfl (fun Z => ?_)
  show Wx g y_To_bookAt Z K 0 [vR 1, vI n] [] σ
  refine x_iload_n (dat d_To_bookAt 0 rfl) rfl rfl ?_
  refine x_if_lt (tgt := 17) (dat d_To_bookAt 1 rfl) (by decide) (fun c_1 => ?_) (fun c_1 => ?_)
  · refine x_null (dat d_To_bookAt 9 rfl) ?_
    refine x_goto (tgt := 27) (dat d_To_bookAt 10 rfl) (by decide) ?_
    refine x_aretN (dat d_To_bookAt 15 rfl) rfl ?_
    first
    | exact ks 23 (by decide) (by omega) (by simp [IsBk, L_Bk]) (by decide) (H.2.2.2.2 0 (by omega)).1 (H.2.2.2.2 0 (by omega)).2
    | exact ks 27 (by decide) (by omega) (by simp [IsBk, L_Bk]) (by decide) (H.2.2.2.2 1 (by omega)).1 (H.2.2.2.2 1 (by omega)).2
    | exact kn (by omega)
  · refine x_iload_n (dat d_To_bookAt 2 rfl) rfl rfl ?_
    refine x_aload_n (dat d_To_bookAt 3 rfl) rfl rfl ?_
    refine x_geti (ji := 7) (v := a 1) (dat d_To_bookAt 4 rfl) rfl f_To_42 (oi_mk (by decide +kernel)) (e0) ?_
    refine x_icmp_ge (tgt := 17) (dat d_To_bookAt 5 rfl) (by decide) (fun c_9 => ?_) (fun c_9 => ?_)
    · refine x_null (dat d_To_bookAt 9 rfl) ?_
      refine x_goto (tgt := 27) (dat d_To_bookAt 10 rfl) (by decide) ?_
      refine x_aretN (dat d_To_bookAt 15 rfl) rfl ?_
      first
      | exact ks 23 (by decide) (by omega) (by simp [IsBk, L_Bk]) (by decide) (H.2.2.2.2 0 (by omega)).1 (H.2.2.2.2 0 (by omega)).2
      | exact ks 27 (by decide) (by omega) (by simp [IsBk, L_Bk]) (by decide) (H.2.2.2.2 1 (by omega)).1 (H.2.2.2.2 1 (by omega)).2
      | exact kn (by omega)
    · refine x_iload_n (dat d_To_bookAt 6 rfl) rfl rfl ?_
      refine x_iconst (dat d_To_bookAt 7 rfl) (by decide) ?_
      refine x_icmp_lt (tgt := 21) (dat d_To_bookAt 8 rfl) (by decide) (fun c_14 => ?_) (fun c_14 => (by omega))
      refine x_aload_n (dat d_To_bookAt 11 rfl) rfl rfl ?_
      refine x_getr (r := 22) (dat d_To_bookAt 12 rfl) rfl f_To_25 (or_mk (by decide +kernel)) ?_
      refine x_iload_n (dat d_To_bookAt 13 rfl) rfl rfl ?_
      rcases (show n = 0 ∨ n = 1 by omega) with e | e
      · subst e
        refine x_aald (r := 23) (t := 24) (dat d_To_bookAt 14 rfl) (by decide +kernel) (by decide) (by decide) (by decide +kernel) (by decide +kernel) ?_
        refine x_aret (dat d_To_bookAt 15 rfl) rfl ?_
        first
        | exact ks 23 (by decide) (by omega) (by simp [IsBk, L_Bk]) (by decide) (H.2.2.2.2 0 (by omega)).1 (H.2.2.2.2 0 (by omega)).2
        | exact ks 27 (by decide) (by omega) (by simp [IsBk, L_Bk]) (by decide) (H.2.2.2.2 1 (by omega)).1 (H.2.2.2.2 1 (by omega)).2
        | exact kn (by omega)
      · subst e
        refine x_aald (r := 27) (t := 24) (dat d_To_bookAt 14 rfl) (by decide +kernel) (by decide) (by decide) (by decide +kernel) (by decide +kernel) ?_
        refine x_aret (dat d_To_bookAt 15 rfl) rfl ?_
        first
        | exact ks 23 (by decide) (by omega) (by simp [IsBk, L_Bk]) (by decide) (H.2.2.2.2 0 (by omega)).1 (H.2.2.2.2 0 (by omega)).2
        | exact ks 27 (by decide) (by omega) (by simp [IsBk, L_Bk]) (by decide) (H.2.2.2.2 1 (by omega)).1 (H.2.2.2.2 1 (by omega)).2
        | exact kn (by omega)
/-- the number a text will have, none -/
def nfT (a : Int → Int) (s n : Int) : Int := if s < 0 ∨ 2 ≤ s then -1 else if n = -1 then (if a s < 2 then a s else -1) else if 0 ≤ n ∧ n < a s then n else -1
theorem sp_To_numberFor {g : xG} {K : Option MV → xS → Prop} {σ : xS} {a : Int → Int} {s n : Int} (H : TolR σ 1 a) (k : K (some (vI (nfT a s n))) σ) : Mt g y_To_numberFor [vR 1, vI s, vI n] σ K := by
  have b0 := H.1.1
  have b1 := H.1.2.1
  have e0 : σ 1 6 = a 0 := H.2.1.2.2.2.1
  have e1 : σ 1 7 = a 1 := H.2.1.2.2.2.2
  have nf : ∀ v : Int, v = nfT a s n → K (some (vI v)) σ := fun v h => by rw [h]; exact k
  refine x_enter 1 rfl rfl rfl (fun Z => ?_)
  show Wx g y_To_numberFor Z K 0 [vR 1, vI s, vI n, vU] [] σ
  refine x_iload_n (dat d_To_numberFor 0 rfl) rfl rfl ?_
  refine x_if_lt (tgt := 9) (dat d_To_numberFor 1 rfl) (by decide) (fun c_1 => ?_) (fun c_1 => ?_)
  · refine x_iconst (dat d_To_numberFor 5 rfl) (by decide) ?_
    refine x_iret (dat d_To_numberFor 6 rfl) rfl ?_
    refine nf _ ?_
    unfold nfT
    first
    | (rw [if_pos (by omega)])
    | (have s0 : s = 0 := by omega
       subst s0
       rw [if_neg (by omega)]
       first
       | (rw [if_pos (by omega), if_pos (by omega)])
       | (rw [if_pos (by omega), if_neg (by omega)])
       | (rw [if_neg (by omega), if_pos (by omega)])
       | (rw [if_neg (by omega), if_neg (by omega)]))
    | (have s1 : s = 1 := by omega
       subst s1
       rw [if_neg (by omega)]
       first
       | (rw [if_pos (by omega), if_pos (by omega)])
       | (rw [if_pos (by omega), if_neg (by omega)])
       | (rw [if_neg (by omega), if_pos (by omega)])
       | (rw [if_neg (by omega), if_neg (by omega)]))
  · refine x_iload_n (dat d_To_numberFor 2 rfl) rfl rfl ?_
    refine x_iconst (dat d_To_numberFor 3 rfl) (by decide) ?_
    refine x_icmp_lt (tgt := 11) (dat d_To_numberFor 4 rfl) (by decide) (fun c_6 => ?_) (fun c_6 => ?_)
    · refine x_iload_n (dat d_To_numberFor 7 rfl) rfl rfl ?_
      refine x_if_ne (tgt := 22) (dat d_To_numberFor 8 rfl) (by decide) (fun c_12 => ?_) (fun c_12 => ?_)
      · refine x_aload_n (dat d_To_numberFor 12 rfl) rfl rfl ?_
        refine x_geti (ji := 7) (v := a 1) (dat d_To_numberFor 13 rfl) rfl f_To_42 (oi_mk (by decide +kernel)) (e1) ?_
        refine x_istore_n (L' := [vR 1, vI s, vI n, vI (a 1)]) (dat d_To_numberFor 14 rfl) rfl (by decide) rfl rfl ?_
        refine x_iload_n (dat d_To_numberFor 15 rfl) rfl rfl ?_
        refine x_iconst (dat d_To_numberFor 16 rfl) (by decide) ?_
        refine x_icmp_ne (tgt := 43) (dat d_To_numberFor 17 rfl) (by decide) (fun c_29 => ?_) (fun c_29 => ?_)
        · refine x_iload_n (dat d_To_numberFor 25 rfl) rfl rfl ?_
          refine x_if_lt (tgt := 56) (dat d_To_numberFor 26 rfl) (by decide) (fun c_44 => ?_) (fun c_44 => ?_)
          · refine x_iconst (dat d_To_numberFor 32 rfl) (by decide) ?_
            refine x_iret (dat d_To_numberFor 33 rfl) rfl ?_
            refine nf _ ?_
            unfold nfT
            first
            | (rw [if_pos (by omega)])
            | (have s0 : s = 0 := by omega
               subst s0
               rw [if_neg (by omega)]
               first
               | (rw [if_pos (by omega), if_pos (by omega)])
               | (rw [if_pos (by omega), if_neg (by omega)])
               | (rw [if_neg (by omega), if_pos (by omega)])
               | (rw [if_neg (by omega), if_neg (by omega)]))
            | (have s1 : s = 1 := by omega
               subst s1
               rw [if_neg (by omega)]
               first
               | (rw [if_pos (by omega), if_pos (by omega)])
               | (rw [if_pos (by omega), if_neg (by omega)])
               | (rw [if_neg (by omega), if_pos (by omega)])
               | (rw [if_neg (by omega), if_neg (by omega)]))
          · refine x_iload_n (dat d_To_numberFor 27 rfl) rfl rfl ?_
            refine x_iload_n (dat d_To_numberFor 28 rfl) rfl rfl ?_
            refine x_icmp_ge (tgt := 56) (dat d_To_numberFor 29 rfl) (by decide) (fun c_49 => ?_) (fun c_49 => ?_)
            · refine x_iconst (dat d_To_numberFor 32 rfl) (by decide) ?_
              refine x_iret (dat d_To_numberFor 33 rfl) rfl ?_
              refine nf _ ?_
              unfold nfT
              first
              | (rw [if_pos (by omega)])
              | (have s0 : s = 0 := by omega
                 subst s0
                 rw [if_neg (by omega)]
                 first
                 | (rw [if_pos (by omega), if_pos (by omega)])
                 | (rw [if_pos (by omega), if_neg (by omega)])
                 | (rw [if_neg (by omega), if_pos (by omega)])
                 | (rw [if_neg (by omega), if_neg (by omega)]))
              | (have s1 : s = 1 := by omega
                 subst s1
                 rw [if_neg (by omega)]
                 first
                 | (rw [if_pos (by omega), if_pos (by omega)])
                 | (rw [if_pos (by omega), if_neg (by omega)])
                 | (rw [if_neg (by omega), if_pos (by omega)])
                 | (rw [if_neg (by omega), if_neg (by omega)]))
            · refine x_iload_n (dat d_To_numberFor 30 rfl) rfl rfl ?_
              refine x_goto (tgt := 57) (dat d_To_numberFor 31 rfl) (by decide) ?_
              refine x_iret (dat d_To_numberFor 33 rfl) rfl ?_
              refine nf _ ?_
              unfold nfT
              first
              | (rw [if_pos (by omega)])
              | (have s0 : s = 0 := by omega
                 subst s0
                 rw [if_neg (by omega)]
                 first
                 | (rw [if_pos (by omega), if_pos (by omega)])
                 | (rw [if_pos (by omega), if_neg (by omega)])
                 | (rw [if_neg (by omega), if_pos (by omega)])
                 | (rw [if_neg (by omega), if_neg (by omega)]))
              | (have s1 : s = 1 := by omega
                 subst s1
                 rw [if_neg (by omega)]
                 first
                 | (rw [if_pos (by omega), if_pos (by omega)])
                 | (rw [if_pos (by omega), if_neg (by omega)])
                 | (rw [if_neg (by omega), if_pos (by omega)])
                 | (rw [if_neg (by omega), if_neg (by omega)]))
        · refine x_iload_n (dat d_To_numberFor 18 rfl) rfl rfl ?_
          refine x_iconst (dat d_To_numberFor 19 rfl) (by decide) ?_
          refine x_icmp_ge (tgt := 41) (dat d_To_numberFor 20 rfl) (by decide) (fun c_34 => ?_) (fun c_34 => ?_)
          · refine x_iconst (dat d_To_numberFor 23 rfl) (by decide) ?_
            refine x_iret (dat d_To_numberFor 24 rfl) rfl ?_
            refine nf _ ?_
            unfold nfT
            first
            | (rw [if_pos (by omega)])
            | (have s0 : s = 0 := by omega
               subst s0
               rw [if_neg (by omega)]
               first
               | (rw [if_pos (by omega), if_pos (by omega)])
               | (rw [if_pos (by omega), if_neg (by omega)])
               | (rw [if_neg (by omega), if_pos (by omega)])
               | (rw [if_neg (by omega), if_neg (by omega)]))
            | (have s1 : s = 1 := by omega
               subst s1
               rw [if_neg (by omega)]
               first
               | (rw [if_pos (by omega), if_pos (by omega)])
               | (rw [if_pos (by omega), if_neg (by omega)])
               | (rw [if_neg (by omega), if_pos (by omega)])
               | (rw [if_neg (by omega), if_neg (by omega)]))
          · refine x_iload_n (dat d_To_numberFor 21 rfl) rfl rfl ?_
            refine x_goto (tgt := 42) (dat d_To_numberFor 22 rfl) (by decide) ?_
            refine x_iret (dat d_To_numberFor 24 rfl) rfl ?_
            refine nf _ ?_
            unfold nfT
            first
            | (rw [if_pos (by omega)])
            | (have s0 : s = 0 := by omega
               subst s0
               rw [if_neg (by omega)]
               first
               | (rw [if_pos (by omega), if_pos (by omega)])
               | (rw [if_pos (by omega), if_neg (by omega)])
               | (rw [if_neg (by omega), if_pos (by omega)])
               | (rw [if_neg (by omega), if_neg (by omega)]))
            | (have s1 : s = 1 := by omega
               subst s1
               rw [if_neg (by omega)]
               first
               | (rw [if_pos (by omega), if_pos (by omega)])
               | (rw [if_pos (by omega), if_neg (by omega)])
               | (rw [if_neg (by omega), if_pos (by omega)])
               | (rw [if_neg (by omega), if_neg (by omega)]))
      · refine x_aload_n (dat d_To_numberFor 9 rfl) rfl rfl ?_
        refine x_geti (ji := 6) (v := a 0) (dat d_To_numberFor 10 rfl) rfl f_To_39 (oi_mk (by decide +kernel)) (e0) ?_
        refine x_goto (tgt := 26) (dat d_To_numberFor 11 rfl) (by decide) ?_
        refine x_istore_n (L' := [vR 1, vI s, vI n, vI (a 0)]) (dat d_To_numberFor 14 rfl) rfl (by decide) rfl rfl ?_
        refine x_iload_n (dat d_To_numberFor 15 rfl) rfl rfl ?_
        refine x_iconst (dat d_To_numberFor 16 rfl) (by decide) ?_
        refine x_icmp_ne (tgt := 43) (dat d_To_numberFor 17 rfl) (by decide) (fun c_29 => ?_) (fun c_29 => ?_)
        · refine x_iload_n (dat d_To_numberFor 25 rfl) rfl rfl ?_
          refine x_if_lt (tgt := 56) (dat d_To_numberFor 26 rfl) (by decide) (fun c_44 => ?_) (fun c_44 => ?_)
          · refine x_iconst (dat d_To_numberFor 32 rfl) (by decide) ?_
            refine x_iret (dat d_To_numberFor 33 rfl) rfl ?_
            refine nf _ ?_
            unfold nfT
            first
            | (rw [if_pos (by omega)])
            | (have s0 : s = 0 := by omega
               subst s0
               rw [if_neg (by omega)]
               first
               | (rw [if_pos (by omega), if_pos (by omega)])
               | (rw [if_pos (by omega), if_neg (by omega)])
               | (rw [if_neg (by omega), if_pos (by omega)])
               | (rw [if_neg (by omega), if_neg (by omega)]))
            | (have s1 : s = 1 := by omega
               subst s1
               rw [if_neg (by omega)]
               first
               | (rw [if_pos (by omega), if_pos (by omega)])
               | (rw [if_pos (by omega), if_neg (by omega)])
               | (rw [if_neg (by omega), if_pos (by omega)])
               | (rw [if_neg (by omega), if_neg (by omega)]))
          · refine x_iload_n (dat d_To_numberFor 27 rfl) rfl rfl ?_
            refine x_iload_n (dat d_To_numberFor 28 rfl) rfl rfl ?_
            refine x_icmp_ge (tgt := 56) (dat d_To_numberFor 29 rfl) (by decide) (fun c_49 => ?_) (fun c_49 => ?_)
            · refine x_iconst (dat d_To_numberFor 32 rfl) (by decide) ?_
              refine x_iret (dat d_To_numberFor 33 rfl) rfl ?_
              refine nf _ ?_
              unfold nfT
              first
              | (rw [if_pos (by omega)])
              | (have s0 : s = 0 := by omega
                 subst s0
                 rw [if_neg (by omega)]
                 first
                 | (rw [if_pos (by omega), if_pos (by omega)])
                 | (rw [if_pos (by omega), if_neg (by omega)])
                 | (rw [if_neg (by omega), if_pos (by omega)])
                 | (rw [if_neg (by omega), if_neg (by omega)]))
              | (have s1 : s = 1 := by omega
                 subst s1
                 rw [if_neg (by omega)]
                 first
                 | (rw [if_pos (by omega), if_pos (by omega)])
                 | (rw [if_pos (by omega), if_neg (by omega)])
                 | (rw [if_neg (by omega), if_pos (by omega)])
                 | (rw [if_neg (by omega), if_neg (by omega)]))
            · refine x_iload_n (dat d_To_numberFor 30 rfl) rfl rfl ?_
              refine x_goto (tgt := 57) (dat d_To_numberFor 31 rfl) (by decide) ?_
              refine x_iret (dat d_To_numberFor 33 rfl) rfl ?_
              refine nf _ ?_
              unfold nfT
              first
              | (rw [if_pos (by omega)])
              | (have s0 : s = 0 := by omega
                 subst s0
                 rw [if_neg (by omega)]
                 first
                 | (rw [if_pos (by omega), if_pos (by omega)])
                 | (rw [if_pos (by omega), if_neg (by omega)])
                 | (rw [if_neg (by omega), if_pos (by omega)])
                 | (rw [if_neg (by omega), if_neg (by omega)]))
              | (have s1 : s = 1 := by omega
                 subst s1
                 rw [if_neg (by omega)]
                 first
                 | (rw [if_pos (by omega), if_pos (by omega)])
                 | (rw [if_pos (by omega), if_neg (by omega)])
                 | (rw [if_neg (by omega), if_pos (by omega)])
                 | (rw [if_neg (by omega), if_neg (by omega)]))
        · refine x_iload_n (dat d_To_numberFor 18 rfl) rfl rfl ?_
          refine x_iconst (dat d_To_numberFor 19 rfl) (by decide) ?_
          refine x_icmp_ge (tgt := 41) (dat d_To_numberFor 20 rfl) (by decide) (fun c_34 => ?_) (fun c_34 => ?_)
          · refine x_iconst (dat d_To_numberFor 23 rfl) (by decide) ?_
            refine x_iret (dat d_To_numberFor 24 rfl) rfl ?_
            refine nf _ ?_
            unfold nfT
            first
            | (rw [if_pos (by omega)])
            | (have s0 : s = 0 := by omega
               subst s0
               rw [if_neg (by omega)]
               first
               | (rw [if_pos (by omega), if_pos (by omega)])
               | (rw [if_pos (by omega), if_neg (by omega)])
               | (rw [if_neg (by omega), if_pos (by omega)])
               | (rw [if_neg (by omega), if_neg (by omega)]))
            | (have s1 : s = 1 := by omega
               subst s1
               rw [if_neg (by omega)]
               first
               | (rw [if_pos (by omega), if_pos (by omega)])
               | (rw [if_pos (by omega), if_neg (by omega)])
               | (rw [if_neg (by omega), if_pos (by omega)])
               | (rw [if_neg (by omega), if_neg (by omega)]))
          · refine x_iload_n (dat d_To_numberFor 21 rfl) rfl rfl ?_
            refine x_goto (tgt := 42) (dat d_To_numberFor 22 rfl) (by decide) ?_
            refine x_iret (dat d_To_numberFor 24 rfl) rfl ?_
            refine nf _ ?_
            unfold nfT
            first
            | (rw [if_pos (by omega)])
            | (have s0 : s = 0 := by omega
               subst s0
               rw [if_neg (by omega)]
               first
               | (rw [if_pos (by omega), if_pos (by omega)])
               | (rw [if_pos (by omega), if_neg (by omega)])
               | (rw [if_neg (by omega), if_pos (by omega)])
               | (rw [if_neg (by omega), if_neg (by omega)]))
            | (have s1 : s = 1 := by omega
               subst s1
               rw [if_neg (by omega)]
               first
               | (rw [if_pos (by omega), if_pos (by omega)])
               | (rw [if_pos (by omega), if_neg (by omega)])
               | (rw [if_neg (by omega), if_pos (by omega)])
               | (rw [if_neg (by omega), if_neg (by omega)]))
    · refine x_iconst (dat d_To_numberFor 5 rfl) (by decide) ?_
      refine x_iret (dat d_To_numberFor 6 rfl) rfl ?_
      refine nf _ ?_
      unfold nfT
      first
      | (rw [if_pos (by omega)])
      | (have s0 : s = 0 := by omega
         subst s0
         rw [if_neg (by omega)]
         first
         | (rw [if_pos (by omega), if_pos (by omega)])
         | (rw [if_pos (by omega), if_neg (by omega)])
         | (rw [if_neg (by omega), if_pos (by omega)])
         | (rw [if_neg (by omega), if_neg (by omega)]))
      | (have s1 : s = 1 := by omega
         subst s1
         rw [if_neg (by omega)]
         first
         | (rw [if_pos (by omega), if_pos (by omega)])
         | (rw [if_pos (by omega), if_neg (by omega)])
         | (rw [if_neg (by omega), if_pos (by omega)])
         | (rw [if_neg (by omega), if_neg (by omega)]))
theorem sp_To_closeText {g : xG} {K : Option MV → xS → Prop} {σ : xS} {f p : Int} (k : K none (up (up (up σ 1 3 0) 1 4 f) 1 5 p)) : Mt g y_To_closeText [vR 1, vI f, vI p] σ K := by
  refine x_enter 0 rfl rfl rfl (fun Z => ?_)
  show Wx g y_To_closeText Z K 0 [vR 1, vI f, vI p] [] σ
  refine x_aload_n (dat d_To_closeText 0 rfl) rfl rfl ?_
  refine x_iconst (dat d_To_closeText 1 rfl) (by decide) ?_
  refine x_puti (ji := 3) (x := (0)) (dat d_To_closeText 2 rfl) rfl f_To_33w (oi_mk (by decide +kernel)) (fun h => absurd h (by decide)) (by decide) ?_
  refine x_aload_n (dat d_To_closeText 3 rfl) rfl rfl ?_
  refine x_iload_n (dat d_To_closeText 4 rfl) rfl rfl ?_
  refine x_puti (ji := 4) (x := (f)) (dat d_To_closeText 5 rfl) rfl f_To_36w (oi_mk (by decide +kernel)) (fun h => absurd h (by decide)) (by decide) ?_
  refine x_aload_n (dat d_To_closeText 6 rfl) rfl rfl ?_
  refine x_iload_n (dat d_To_closeText 7 rfl) rfl rfl ?_
  refine x_puti (ji := 5) (x := (p)) (dat d_To_closeText 8 rfl) rfl f_To_29w (oi_mk (by decide +kernel)) (fun h => absurd h (by decide)) (by decide) ?_
  refine x_ret (dat d_To_closeText 9 rfl) rfl ?_
  exact k
theorem i2b_bd (x : Int) : -128 ≤ i2b x ∧ i2b x < 128 := by
  unfold i2b
  have h1 := Int8.le_toInt (Int32.ofInt x).toInt8
  have h2 := Int8.toInt_lt (Int32.ofInt x).toInt8
  rw [Int8.toInt_toInt32]
  omega
theorem sp_To_write {g : xG} {K : Option MV → xS → Prop} {σ : xS} {x n : Int} (hn : σ 1 3 = n) (n0 : 0 ≤ n) (n1 : n + 4 ≤ 600) (k : ∀ σ' : xS, σ' 1 3 = n + 4 → (σ' 2 n = i2b (ishr x 24) ∧ σ' 2 (n + 1) = i2b (ishr x 16) ∧ σ' 2 (n + 2) = i2b (ishr x 8) ∧ σ' 2 (n + 3) = i2b (ishr x 0)) → (∀ i : Int, i < n → σ' 2 i = σ 2 i) → (∀ i : Int, i ≠ 3 → σ' 1 i = σ 1 i) → (∀ o : Nat, o ≠ 1 → o ≠ 2 → σ' o = σ o) → K none σ') : Mt g y_To_write [vR 1, vI x] σ K := by
  have bz := i2b_bd
  refine x_enter 1 rfl rfl rfl (fun Z => ?_)
  show Wx g y_To_write Z K 0 [vR 1, vI x, vU] [] σ
  refine x_bipush (dat d_To_write 0 rfl) (by decide) (by decide) ?_
  refine x_istore_n (L' := [vR 1, vI x, vI 24]) (dat d_To_write 1 rfl) rfl (by decide) rfl rfl ?_
  refine x_iload_n (dat d_To_write 2 rfl) rfl rfl ?_
  refine x_if_lt (tgt := 46) (dat d_To_write 3 rfl) (by decide) (fun h => absurd h (by decide)) (fun c_4 => ?_)
  refine x_aload_n (dat d_To_write 4 rfl) rfl rfl ?_
  refine x_geti (ji := 3) (v := n) (dat d_To_write 5 rfl) rfl f_To_33 (oi_mk (by decide +kernel)) (hn) ?_
  refine x_sipush (dat d_To_write 6 rfl) (by decide) (by decide) ?_
  refine x_icmp_ge (tgt := 40) (dat d_To_write 7 rfl) (by decide) (fun c_14 => (by omega)) (fun c_14 => ?_)
  refine x_aload_n (dat d_To_write 8 rfl) rfl rfl ?_
  refine x_getr (r := 2) (dat d_To_write 9 rfl) rfl f_To_9 (or_mk (by decide +kernel)) ?_
  refine x_aload_n (dat d_To_write 10 rfl) rfl rfl ?_
  refine x_geti (ji := 3) (v := n) (dat d_To_write 11 rfl) rfl f_To_33 (oi_mk (by decide +kernel)) (hn) ?_
  refine x_iload_n (dat d_To_write 12 rfl) rfl rfl ?_
  refine x_iload_n (dat d_To_write 13 rfl) rfl rfl ?_
  refine x_ishr (v := ishr x 24) (dat d_To_write 14 rfl) rfl ?_
  refine x_i2b (v := i2b (ishr x 24)) (dat d_To_write 15 rfl) rfl ?_
  refine x_bast (n := 600) (dat d_To_write 16 rfl) (ai_mk (by decide +kernel)) (by omega) (by omega) (by have := bz (ishr x 24); have := bz (ishr x 16); have := bz (ishr x 8); have := bz (ishr x 0); omega) ?_
  refine x_aload_n (dat d_To_write 17 rfl) rfl rfl ?_
  refine x_dup (dat d_To_write 18 rfl) rfl ?_
  refine x_geti (ji := 3) (v := n) (dat d_To_write 19 rfl) rfl f_To_33 (oi_mk (by decide +kernel)) ((up_nk (by decide)).trans hn) ?_
  refine x_iconst (dat d_To_write 20 rfl) (by decide) ?_
  refine x_iadd (v := n + 1) (dat d_To_write 21 rfl) rfl (by omega) ?_
  refine x_puti (ji := 3) (x := (n + 1)) (dat d_To_write 22 rfl) rfl f_To_33w (oi_mk (by decide +kernel)) (fun h => absurd h (by decide)) (by decide) ?_
  refine x_iinc (v' := 16) (L' := [vR 1, vI x, vI 16]) (dat d_To_write 23 rfl) rfl (by decide) rfl (by decide) (by omega) rfl ?_
  refine x_goto (tgt := 3) (dat d_To_write 24 rfl) (by decide) ?_
  refine x_iload_n (dat d_To_write 2 rfl) rfl rfl ?_
  refine x_if_lt (tgt := 46) (dat d_To_write 3 rfl) (by decide) (fun h => absurd h (by decide)) (fun c_4 => ?_)
  refine x_aload_n (dat d_To_write 4 rfl) rfl rfl ?_
  refine x_geti (ji := 3) (v := n + 1) (dat d_To_write 5 rfl) rfl f_To_33 (oi_mk (by decide +kernel)) (up_s) ?_
  refine x_sipush (dat d_To_write 6 rfl) (by decide) (by decide) ?_
  refine x_icmp_ge (tgt := 40) (dat d_To_write 7 rfl) (by decide) (fun c_14 => (by omega)) (fun c_14 => ?_)
  refine x_aload_n (dat d_To_write 8 rfl) rfl rfl ?_
  refine x_getr (r := 2) (dat d_To_write 9 rfl) rfl f_To_9 (or_mk (by decide +kernel)) ?_
  refine x_aload_n (dat d_To_write 10 rfl) rfl rfl ?_
  refine x_geti (ji := 3) (v := n + 1) (dat d_To_write 11 rfl) rfl f_To_33 (oi_mk (by decide +kernel)) (up_s) ?_
  refine x_iload_n (dat d_To_write 12 rfl) rfl rfl ?_
  refine x_iload_n (dat d_To_write 13 rfl) rfl rfl ?_
  refine x_ishr (v := ishr x 16) (dat d_To_write 14 rfl) rfl ?_
  refine x_i2b (v := i2b (ishr x 16)) (dat d_To_write 15 rfl) rfl ?_
  refine x_bast (n := 600) (dat d_To_write 16 rfl) (ai_mk (by decide +kernel)) (by omega) (by omega) (by have := bz (ishr x 24); have := bz (ishr x 16); have := bz (ishr x 8); have := bz (ishr x 0); omega) ?_
  refine x_aload_n (dat d_To_write 17 rfl) rfl rfl ?_
  refine x_dup (dat d_To_write 18 rfl) rfl ?_
  refine x_geti (ji := 3) (v := n + 1) (dat d_To_write 19 rfl) rfl f_To_33 (oi_mk (by decide +kernel)) ((up_nk (by decide)).trans up_s) ?_
  refine x_iconst (dat d_To_write 20 rfl) (by decide) ?_
  refine x_iadd (v := (n + 1) + 1) (dat d_To_write 21 rfl) rfl (by omega) ?_
  refine x_puti (ji := 3) (x := ((n + 1) + 1)) (dat d_To_write 22 rfl) rfl f_To_33w (oi_mk (by decide +kernel)) (fun h => absurd h (by decide)) (by decide) ?_
  refine x_iinc (v' := 8) (L' := [vR 1, vI x, vI 8]) (dat d_To_write 23 rfl) rfl (by decide) rfl (by decide) (by omega) rfl ?_
  refine x_goto (tgt := 3) (dat d_To_write 24 rfl) (by decide) ?_
  refine x_iload_n (dat d_To_write 2 rfl) rfl rfl ?_
  refine x_if_lt (tgt := 46) (dat d_To_write 3 rfl) (by decide) (fun h => absurd h (by decide)) (fun c_4 => ?_)
  refine x_aload_n (dat d_To_write 4 rfl) rfl rfl ?_
  refine x_geti (ji := 3) (v := (n + 1) + 1) (dat d_To_write 5 rfl) rfl f_To_33 (oi_mk (by decide +kernel)) (up_s) ?_
  refine x_sipush (dat d_To_write 6 rfl) (by decide) (by decide) ?_
  refine x_icmp_ge (tgt := 40) (dat d_To_write 7 rfl) (by decide) (fun c_14 => (by omega)) (fun c_14 => ?_)
  refine x_aload_n (dat d_To_write 8 rfl) rfl rfl ?_
  refine x_getr (r := 2) (dat d_To_write 9 rfl) rfl f_To_9 (or_mk (by decide +kernel)) ?_
  refine x_aload_n (dat d_To_write 10 rfl) rfl rfl ?_
  refine x_geti (ji := 3) (v := (n + 1) + 1) (dat d_To_write 11 rfl) rfl f_To_33 (oi_mk (by decide +kernel)) (up_s) ?_
  refine x_iload_n (dat d_To_write 12 rfl) rfl rfl ?_
  refine x_iload_n (dat d_To_write 13 rfl) rfl rfl ?_
  refine x_ishr (v := ishr x 8) (dat d_To_write 14 rfl) rfl ?_
  refine x_i2b (v := i2b (ishr x 8)) (dat d_To_write 15 rfl) rfl ?_
  refine x_bast (n := 600) (dat d_To_write 16 rfl) (ai_mk (by decide +kernel)) (by omega) (by omega) (by have := bz (ishr x 24); have := bz (ishr x 16); have := bz (ishr x 8); have := bz (ishr x 0); omega) ?_
  refine x_aload_n (dat d_To_write 17 rfl) rfl rfl ?_
  refine x_dup (dat d_To_write 18 rfl) rfl ?_
  refine x_geti (ji := 3) (v := (n + 1) + 1) (dat d_To_write 19 rfl) rfl f_To_33 (oi_mk (by decide +kernel)) ((up_nk (by decide)).trans up_s) ?_
  refine x_iconst (dat d_To_write 20 rfl) (by decide) ?_
  refine x_iadd (v := ((n + 1) + 1) + 1) (dat d_To_write 21 rfl) rfl (by omega) ?_
  refine x_puti (ji := 3) (x := (((n + 1) + 1) + 1)) (dat d_To_write 22 rfl) rfl f_To_33w (oi_mk (by decide +kernel)) (fun h => absurd h (by decide)) (by decide) ?_
  refine x_iinc (v' := 0) (L' := [vR 1, vI x, vI 0]) (dat d_To_write 23 rfl) rfl (by decide) rfl (by decide) (by omega) rfl ?_
  refine x_goto (tgt := 3) (dat d_To_write 24 rfl) (by decide) ?_
  refine x_iload_n (dat d_To_write 2 rfl) rfl rfl ?_
  refine x_if_lt (tgt := 46) (dat d_To_write 3 rfl) (by decide) (fun h => absurd h (by decide)) (fun c_4 => ?_)
  refine x_aload_n (dat d_To_write 4 rfl) rfl rfl ?_
  refine x_geti (ji := 3) (v := ((n + 1) + 1) + 1) (dat d_To_write 5 rfl) rfl f_To_33 (oi_mk (by decide +kernel)) (up_s) ?_
  refine x_sipush (dat d_To_write 6 rfl) (by decide) (by decide) ?_
  refine x_icmp_ge (tgt := 40) (dat d_To_write 7 rfl) (by decide) (fun c_14 => (by omega)) (fun c_14 => ?_)
  refine x_aload_n (dat d_To_write 8 rfl) rfl rfl ?_
  refine x_getr (r := 2) (dat d_To_write 9 rfl) rfl f_To_9 (or_mk (by decide +kernel)) ?_
  refine x_aload_n (dat d_To_write 10 rfl) rfl rfl ?_
  refine x_geti (ji := 3) (v := ((n + 1) + 1) + 1) (dat d_To_write 11 rfl) rfl f_To_33 (oi_mk (by decide +kernel)) (up_s) ?_
  refine x_iload_n (dat d_To_write 12 rfl) rfl rfl ?_
  refine x_iload_n (dat d_To_write 13 rfl) rfl rfl ?_
  refine x_ishr (v := ishr x 0) (dat d_To_write 14 rfl) rfl ?_
  refine x_i2b (v := i2b (ishr x 0)) (dat d_To_write 15 rfl) rfl ?_
  refine x_bast (n := 600) (dat d_To_write 16 rfl) (ai_mk (by decide +kernel)) (by omega) (by omega) (by have := bz (ishr x 24); have := bz (ishr x 16); have := bz (ishr x 8); have := bz (ishr x 0); omega) ?_
  refine x_aload_n (dat d_To_write 17 rfl) rfl rfl ?_
  refine x_dup (dat d_To_write 18 rfl) rfl ?_
  refine x_geti (ji := 3) (v := ((n + 1) + 1) + 1) (dat d_To_write 19 rfl) rfl f_To_33 (oi_mk (by decide +kernel)) ((up_nk (by decide)).trans up_s) ?_
  refine x_iconst (dat d_To_write 20 rfl) (by decide) ?_
  refine x_iadd (v := (((n + 1) + 1) + 1) + 1) (dat d_To_write 21 rfl) rfl (by omega) ?_
  refine x_puti (ji := 3) (x := ((((n + 1) + 1) + 1) + 1)) (dat d_To_write 22 rfl) rfl f_To_33w (oi_mk (by decide +kernel)) (fun h => absurd h (by decide)) (by decide) ?_
  refine x_iinc (v' := (-8)) (L' := [vR 1, vI x, vI (-8)]) (dat d_To_write 23 rfl) rfl (by decide) rfl (by decide) (by omega) rfl ?_
  refine x_goto (tgt := 3) (dat d_To_write 24 rfl) (by decide) ?_
  refine x_iload_n (dat d_To_write 2 rfl) rfl rfl ?_
  refine x_if_lt (tgt := 46) (dat d_To_write 3 rfl) (by decide) (fun c_4 => ?_) (fun h => absurd h (by decide))
  refine x_ret (dat d_To_write 25 rfl) rfl ?_
  have q1 : n + 1 + 1 = n + 2 := by omega
  have q2 : n + 1 + 1 + 1 = n + 3 := by omega
  refine k _ ?_ ⟨?_, ?_, ?_, ?_⟩ (fun i hi => ?_) (fun i hi => ?_) (fun o h1 h2 => ?_)
  · rw [up_s]; omega
  · rw [up_nk (by decide), up_ni (by omega), up_nk (by decide), up_ni (by omega), up_nk (by decide), up_ni (by omega), up_nk (by decide), up_s]
  · rw [up_nk (by decide), up_ni (by omega), up_nk (by decide), up_ni (by omega), up_nk (by decide), up_s]
  · rw [up_nk (by decide), up_ni (by omega), up_nk (by decide), q1, up_s]
  · rw [up_nk (by decide), q2, up_s]
  · rw [up_nk (by decide), up_ni (by omega), up_nk (by decide), up_ni (by omega), up_nk (by decide), up_ni (by omega), up_nk (by decide), up_ni (by omega)]
  · rw [up_ni (Ne.symm hi), up_nk (by decide), up_ni (Ne.symm hi), up_nk (by decide), up_ni (Ne.symm hi), up_nk (by decide), up_ni (Ne.symm hi), up_nk (by decide)]
  · rw [up_ne h1, up_ne h2, up_ne h1, up_ne h2, up_ne h1, up_ne h2, up_ne h1, up_ne h2]
