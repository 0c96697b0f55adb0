/-! the twin's answers: text, feed, image, again */ -/
theorem MoA.ok {σ : xS} {a : Int → Int} (A : MoA σ a) : AOk a := A.2
theorem AOk.of {a a' : Int → Int} (h : AOk a) (e0 : a' 0 = a 0) (e1 : a' 1 = a 1) (e2 : 0 ≤ a' 2 ∧ a' 2 ≤ 600) (e : ∀ i : Int, 610 ≤ i → a' i = a i) : AOk a' := by
  obtain ⟨⟨h0, h1, -⟩, h2, h3⟩ := h
  refine ⟨⟨by rw [e0]; exact h0, by rw [e1]; exact h1, e2⟩, fun m m0 m1 => ?_, fun m m0 m1 => ?_⟩
  · rw [e0] at m1
    rw [tw_eq (a := a) (n := m) (fun i i0 i1 => e _ (by omega))]
    exact h2 m m0 m1
  · rw [e1] at m1
    rw [bk_eq (a := a) (n := m) (fun i i0 i1 => e _ (by omega))]
    exact h3 m m0 m1
section
variable {g : xG} {K : Option MV → xS → Prop} {σ : xS} {a : Int → Int} {n s : Int}
theorem sp_Mo_text (A : MoA σ a) (hT : ∀ i : Int, 0 ≤ i → i < a 2 → 0 ≤ a (10 + i) ∧ a (10 + i) ≤ 255) (hO : AOk (textA a s n)) (k : ∀ σ' : xS, MoA σ' (textA a s n) → TxF σ' σ → K (some (vI (textR a s n))) σ') : Mt g y_Mo_text [vR 174, vI s, vI n] σ K := by
  have h0 := A.ok
  have b0 := h0.1.1
  have b1 := h0.1.2.1
  have b2 := h0.1.2.2
  have e2 : σ 175 2 = a 2 := A.1 2 (by decide) (by decide)
  obtain ⟨σ1, hσ⟩ : ∃ σ1 : xS, σ1 = up (up (up (up σ 174 2 (a 2)) 175 2 0) 175 3 0) 175 4 (-1) := ⟨_, rfl⟩
  have c5 : ∀ j : Int, σ1 175 j = if j = 4 then -1 else if j = 3 then 0 else if j = 2 then 0 else σ 175 j := fun j => by
    rw [hσ]
    by_cases z4 : j = 4
    · rw [if_pos z4, z4, up_s]
    · rw [if_neg z4, up_ni (Ne.symm z4)]
      by_cases z3 : j = 3
      · rw [if_pos z3, z3, up_s]
      · rw [if_neg z3, up_ni (Ne.symm z3)]
        by_cases z2 : j = 2
        · rw [if_pos z2, z2, up_s]
        · rw [if_neg z2, up_ni (Ne.symm z2), up_ne (by decide)]
  have c4 : ∀ j : Int, j ≠ 2 → σ1 174 j = σ 174 j := fun j hj => by rw [hσ, up_ne (by decide), up_ne (by decide), up_ne (by decide), up_ni (Ne.symm hj)]
  have c42 : σ1 174 2 = a 2 := by rw [hσ, up_ne (by decide), up_ne (by decide), up_ne (by decide), up_s]
  have co : ∀ o : Nat, o ≠ 174 → o ≠ 175 → σ1 o = σ o := fun o o1 o2 => by rw [hσ, up_ne o2, up_ne o2, up_ne o2, up_ne o1]
  have all : ∀ j : Int, 0 ≤ j → j < 972 → σ1 175 j = st3 a 0 0 (-1) j := fun j j0 j1 => by
    rw [c5 j, A.1 j j0 j1]
    unfold st3
    by_cases z2 : j = 2
    · rw [if_neg (by omega), if_neg (by omega), if_pos z2, if_pos z2]
    · by_cases z3 : j = 3
      · rw [if_neg (by omega), if_pos z3, if_neg z2, if_pos z3]
      · by_cases z4 : j = 4
        · rw [if_pos z4, if_neg z2, if_neg z3, if_pos z4]
        · rw [if_neg z4, if_neg z3, if_neg z2, if_neg z2, if_neg z3, if_neg z4]
  have F1 : TxF σ1 σ := ⟨fun o ho => co o (by omega) (by omega), fun j hj => by rw [c5 j, if_neg (by omega), if_neg (by omega), if_neg (by omega)]⟩
  have O1 : AOk (st3 a 0 0 (-1)) := h0.of rfl rfl ⟨Int.le_refl 0, (by decide : (0 : Int) ≤ 600)⟩ (fun i hi => by unfold st3; rw [if_neg (by omega), if_neg (by omega), if_neg (by omega)])
  have A1 : MoA σ1 (st3 a 0 0 (-1)) := ⟨all, O1⟩
  have aS : (s = 0 ∨ s = 1) → st3 a 0 0 (-1) s = a s := fun h => by
    unfold st3
    rw [if_neg (by omega), if_neg (by omega), if_neg (by omega)]
  have eS : (s = 0 ∨ s = 1) → σ1 175 s = a s := fun h => by rw [all s (by omega) (by omega), aS h]
  have no : nfT a s n = -1 → K (some (vI (-2))) σ1 := fun z => by
    have tA : textA a s n = st3 a 0 0 (-1) := if_pos z
    have tR : textR a s n = -2 := if_pos z
    have := k σ1
    rw [tA, tR] at this
    exact this A1 F1
  have nfo : ¬ (s = 0 ∨ s = 1) → nfT a s n = -1 := fun h => by unfold nfT; rw [if_pos (by omega)]
  have nf1 : (s = 0 ∨ s = 1) → n = -1 → ¬ a s < 2 → nfT a s n = -1 := fun h h2 h3 => by unfold nfT; rw [if_neg (by omega), if_pos h2, if_neg h3]
  have nf2 : (s = 0 ∨ s = 1) → n ≠ -1 → ¬ (0 ≤ n ∧ n < a s) → nfT a s n = -1 := fun h h2 h3 => by unfold nfT; rw [if_neg (by omega), if_neg h2, if_neg h3]
  have nf3 : (s = 0 ∨ s = 1) → n = -1 → a s < 2 → nfT a s n ≠ -1 := fun h h2 h3 => by
    have : 0 ≤ a s := by rcases h with z | z <;> rw [z] <;> omega
    unfold nfT
    rw [if_neg (by omega), if_pos h2, if_pos h3]
    omega
  have nf4 : (s = 0 ∨ s = 1) → n ≠ -1 → (0 ≤ n ∧ n < a s) → nfT a s n ≠ -1 := fun h h2 h3 => by unfold nfT; rw [if_neg (by omega), if_neg h2, if_pos h3]; exact h2
  -- what is read
  have rd : (s = 0 ∨ s = 1) → nfT a s n ≠ -1 → ∀ (Z : xZ) (w3 w4 : MV), Wx g y_Mo_text Z K 70 [vR 174, vI s, vI n, w3, w4] [] σ1 := by
    intro hs hnf Z w3 w4
    obtain ⟨T, hTe⟩ : ∃ T : Int → Int, T = fun i => a (10 + i) := ⟨_, rfl⟩
    obtain ⟨N, hN⟩ : ∃ N : Int, N = a 2 := ⟨_, rfl⟩
    rw [← hN] at c42 b2 hT
    have RT : ∀ σ2 : xS, σ2 174 2 = N → σ2 175 = σ1 175 → RtM σ2 T N := fun σ2 f1 f2 => ⟨f1, b2, fun i i0 i1 => ⟨by rw [hTe]; exact hT i i0 i1, by rw [f2, c5, if_neg (by omega), if_neg (by omega), if_neg (by omega), A.1 _ (by omega) (by omega), hTe]⟩⟩
    -- the lines
    have ln : ∀ σ4 : xS, σ4 175 = σ1 175 → (∀ o : Nat, o ≠ 174 → o ≠ 177 → σ4 o = σ1 o) → σ4 174 2 = N → σ4 174 3 = 0 → σ4 174 8 = 0 → σ4 174 9 = -1 → σ4 174 10 = -1 → RwE σ4 (row0 s) → ∀ w3 w4 : MV, Wx g y_Mo_text Z K 153 [vR 174, vI s, vI n, w3, w4] [] σ4 := by
      intro σ4 f5 fo f2 f3 f8 f9 f10 fr w3 w4
      have R4 := RT σ4 f2 f5
      refine x_aload_n (dat d_Mo_text 94 rfl) rfl rfl ?_
      refine x_inv (As := []) (dat d_Mo_text 95 rfl) rfl c_Mo_advance l_Mo_144 (by decide) (rv_mo (by decide +kernel)) rfl rfl (Nat.le_of_ble_eq_true rfl) ?_
      refine sp_Mo_advance R4 (by decide) b2.1 f3 (fun σ5 D5 F5 => ?_)
      show Wx g y_Mo_text Z K 157 [vR 174, vI s, vI n, w3, w4] [] σ5
      have qb := rn_ge (f := cBl) (T := T) (n := N) 0
      have ql := rn_le (f := cBl) (T := T) (n := N) b2.1
      refine lp_Mo_lines (σ := σ5) (T := T) (n := N) hs (fun σ6 E F6 => ?_) 601 σ5 (begP T N s) (by show N < rn cBl T N 0 + ((601 : Nat) : Int); omega) rfl ⟨⟨⟨R4.same F5, qb, ql⟩, fun _ => ⟨D5, by rw [F5.1 8 (by decide)]; exact f8, ?_, ?_⟩, fun z => Bool.noConfusion z⟩, fun z => absurd rfl z, ?_, fun _ => ⟨⟨by rw [F5.1 9 (by decide)]; exact f9, by rw [F5.1 10 (by decide)]; exact f10⟩, RwE.same fr (F5.2 177 (by decide))⟩⟩ (LnF.rfl σ5)
      · refine lm_Mo_read (σ := σ) (s := s) hTe hN h0 hs hnf hO E (fun j j0 j1 a3 a4 => ?_) ⟨fun o ho => ?_, fun j hj => ?_⟩ k
        · rw [F6.2.1 j a3 a4, F5.2 175 (by decide), f5]; exact all j j0 j1
        · rw [F6.2.2 o (by omega) (by omega) (by omega), F5.2 o (by omega), fo o (by omega) (by omega)]; exact F1.1 o ho
        · rw [F6.2.1 j (by omega) (by omega), F5.2 175 (by decide), f5]; exact F1.2 j hj
      · rw [F5.2 175 (by decide), f5, c5, if_neg (by decide), if_pos rfl]; rfl
      · rw [F5.2 175 (by decide), f5, c5, if_pos rfl]; rfl
      · have r := fun i i0 i1 => RwE.same fr (F5.2 177 (by decide)) i i0 i1
        refine ⟨fun z => ?_, fun z => ?_⟩
        · rw [r 0 (by decide) (by decide), r 1 (by decide) (by decide), r 6 (by decide) (by decide), r 7 (by decide) (by decide), z]; decide
        · rw [r 0 (by decide) (by decide), z]; decide
    refine x_aload_n (dat d_Mo_text 43 rfl) rfl rfl ?_
    refine x_iconst (dat d_Mo_text 44 rfl) (by decide) ?_
    refine x_puti (ji := 3) (x := (0)) (dat d_Mo_text 45 rfl) rfl f_Mo_95w (oi_mk (by decide +kernel)) (fun h => absurd h (by decide)) (by decide) ?_
    refine x_aload_n (dat d_Mo_text 46 rfl) rfl rfl ?_
    refine x_iconst (dat d_Mo_text 47 rfl) (by decide) ?_
    refine x_puti (ji := 8) (x := (0)) (dat d_Mo_text 48 rfl) rfl f_Mo_129w (oi_mk (by decide +kernel)) (fun _ => by decide) (by decide) ?_
    refine x_aload_n (dat d_Mo_text 49 rfl) rfl rfl ?_
    refine x_iconst (dat d_Mo_text 50 rfl) (by decide) ?_
    refine x_puti (ji := 9) (x := ((-1))) (dat d_Mo_text 51 rfl) rfl f_Mo_151w (oi_mk (by decide +kernel)) (fun h => absurd h (by decide)) (by decide) ?_
    refine x_aload_n (dat d_Mo_text 52 rfl) rfl rfl ?_
    refine x_iconst (dat d_Mo_text 53 rfl) (by decide) ?_
    refine x_puti (ji := 10) (x := ((-1))) (dat d_Mo_text 54 rfl) rfl f_Mo_154w (oi_mk (by decide +kernel)) (fun h => absurd h (by decide)) (by decide) ?_
    refine x_iconst (dat d_Mo_text 55 rfl) (by decide) ?_
    refine x_istore_n (L' := [vR 174, vI s, vI n, vI 0, w4]) (dat d_Mo_text 56 rfl) rfl (by decide) rfl rfl ?_
    refine lp_Mo_rzero (σ := (up (up (up (up σ1 174 3 0) 174 8 0) 174 9 (-1)) 174 10 (-1))) (fun σ3 Z3 F3 => ?_) 190 0 _ (by omega) (fun j j0 j1 => by omega) (fun _ _ => rfl)
    have g4 : ∀ i : Int, σ3 174 i = up (up (up (up σ1 174 3 0) 174 8 0) 174 9 (-1)) 174 10 (-1) 174 i := fun i => by rw [F3 174 (by decide)]
    have g5 : σ3 175 = σ1 175 := by rw [F3 175 (by decide), up_ne (by decide), up_ne (by decide), up_ne (by decide), up_ne (by decide)]
    have go : ∀ o : Nat, o ≠ 174 → o ≠ 177 → σ3 o = σ1 o := fun o o1 o2 => by rw [F3 o o2, up_ne o1, up_ne o1, up_ne o1, up_ne o1]
    have v2 : σ3 174 2 = N := by rw [g4, up_ni (by decide), up_ni (by decide), up_ni (by decide), up_ni (by decide)]; exact c42
    have v3 : σ3 174 3 = 0 := by rw [g4, up_ni (by decide), up_ni (by decide), up_ni (by decide), up_s]
    have v8 : σ3 174 8 = 0 := by rw [g4, up_ni (by decide), up_ni (by decide), up_s]
    have v9 : σ3 174 9 = -1 := by rw [g4, up_ni (by decide), up_s]
    have v10 : σ3 174 10 = -1 := by rw [g4, up_s]
    have zr : RwE σ3 (fun _ => 0) := fun i i0 i1 => Z3 i i0 i1
    rcases hs with z | z
    · subst z
      refine x_iload_n (dat d_Mo_text 67 rfl) rfl rfl ?_
      refine x_if_ne (tgt := 153) (dat d_Mo_text 68 rfl) (by decide) (fun h => absurd h (by decide)) (fun c_113 => ?_)
      refine x_aload_n (dat d_Mo_text 69 rfl) rfl rfl ?_
      refine x_getr (r := 177) (dat d_Mo_text 70 rfl) rfl f_Mo_17 (or_mk (by decide +kernel)) ?_
      refine x_iconst (dat d_Mo_text 71 rfl) (by decide) ?_
      refine x_iconst (dat d_Mo_text 72 rfl) (by decide) ?_
      refine x_iast (n := 190) (dat d_Mo_text 73 rfl) (ai_mk (by decide +kernel)) (by omega) (by omega) ?_
      refine x_aload_n (dat d_Mo_text 74 rfl) rfl rfl ?_
      refine x_getr (r := 177) (dat d_Mo_text 75 rfl) rfl f_Mo_17 (or_mk (by decide +kernel)) ?_
      refine x_iconst (dat d_Mo_text 76 rfl) (by decide) ?_
      refine x_iconst (dat d_Mo_text 77 rfl) (by decide) ?_
      refine x_iast (n := 190) (dat d_Mo_text 78 rfl) (ai_mk (by decide +kernel)) (by omega) (by omega) ?_
      refine x_aload_n (dat d_Mo_text 79 rfl) rfl rfl ?_
      refine x_getr (r := 177) (dat d_Mo_text 80 rfl) rfl f_Mo_17 (or_mk (by decide +kernel)) ?_
      refine x_iconst (dat d_Mo_text 81 rfl) (by decide) ?_
      refine x_bipush (dat d_Mo_text 82 rfl) (by decide) (by decide) ?_
      refine x_iast (n := 190) (dat d_Mo_text 83 rfl) (ai_mk (by decide +kernel)) (by omega) (by omega) ?_
      refine x_aload_n (dat d_Mo_text 84 rfl) rfl rfl ?_
      refine x_getr (r := 177) (dat d_Mo_text 85 rfl) rfl f_Mo_17 (or_mk (by decide +kernel)) ?_
      refine x_iconst (dat d_Mo_text 86 rfl) (by decide) ?_
      refine x_iconst (dat d_Mo_text 87 rfl) (by decide) ?_
      refine x_iast (n := 190) (dat d_Mo_text 88 rfl) (ai_mk (by decide +kernel)) (by omega) (by omega) ?_
      refine x_aload_n (dat d_Mo_text 89 rfl) rfl rfl ?_
      refine x_getr (r := 177) (dat d_Mo_text 90 rfl) rfl f_Mo_17 (or_mk (by decide +kernel)) ?_
      refine x_iconst (dat d_Mo_text 91 rfl) (by decide) ?_
      refine x_bipush (dat d_Mo_text 92 rfl) (by decide) (by decide) ?_
      refine x_iast (n := 190) (dat d_Mo_text 93 rfl) (ai_mk (by decide +kernel)) (by omega) (by omega) ?_
      have p : ∀ o : Nat, o ≠ 177 → (up (up (up (up (up σ3 177 0 3) 177 1 3) 177 3 12) 177 4 1) 177 5 6) o = σ3 o := fun o ho => by rw [up_ne ho, up_ne ho, up_ne ho, up_ne ho, up_ne ho]
      refine ln _ (by rw [p 175 (by decide)]; exact g5) (fun o o1 o2 => by rw [p o o2]; exact go o o1 o2) (by rw [p 174 (by decide)]; exact v2) (by rw [p 174 (by decide)]; exact v3) (by rw [p 174 (by decide)]; exact v8) (by rw [p 174 (by decide)]; exact v9) (by rw [p 174 (by decide)]; exact v10) (fun i i0 i1 => ?_) _ _
      rw [(((((zr.st 0 3).st 1 3).st 3 12).st 4 1).st 5 6) i i0 i1]
      unfold st1 row0
      rw [if_pos (show (0 : Int) = 0 from rfl)]
      repeat' split
      all_goals first | rfl | omega
    · subst z
      refine x_iload_n (dat d_Mo_text 67 rfl) rfl rfl ?_
      refine x_if_ne (tgt := 153) (dat d_Mo_text 68 rfl) (by decide) (fun c_113 => ?_) (fun h => absurd h (by decide))
      refine ln σ3 g5 go v2 v3 v8 v9 v10 (fun i i0 i1 => ?_) _ _
      rw [Z3 i i0 i1]
      rfl
  refine x_enter 2 rfl rfl rfl (fun Z => ?_)
  show Wx g y_Mo_text Z K 0 [vR 174, vI s, vI n, vU, vU] [] σ
  refine x_aload_n (dat d_Mo_text 0 rfl) rfl rfl ?_
  refine x_aload_n (dat d_Mo_text 1 rfl) rfl rfl ?_
  refine x_getr (r := 175) (dat d_Mo_text 2 rfl) rfl f_Mo_7 (or_mk (by decide +kernel)) ?_
  refine x_iconst (dat d_Mo_text 3 rfl) (by decide) ?_
  refine x_iald (n := 3888) (v := a 2) (dat d_Mo_text 4 rfl) (ai_mk (by decide +kernel)) (by omega) (by omega) (by exact e2) ?_
  refine x_puti (ji := 2) (x := (a 2)) (dat d_Mo_text 5 rfl) rfl f_Mo_81w (oi_mk (by decide +kernel)) (fun h => absurd h (by decide)) (by decide) ?_
  refine x_aload_n (dat d_Mo_text 6 rfl) rfl rfl ?_
  refine x_getr (r := 175) (dat d_Mo_text 7 rfl) rfl f_Mo_7 (or_mk (by decide +kernel)) ?_
  refine x_iconst (dat d_Mo_text 8 rfl) (by decide) ?_
  refine x_iconst (dat d_Mo_text 9 rfl) (by decide) ?_
  refine x_iast (n := 3888) (dat d_Mo_text 10 rfl) (ai_mk (by decide +kernel)) (by omega) (by omega) ?_
  refine x_aload_n (dat d_Mo_text 11 rfl) rfl rfl ?_
  refine x_getr (r := 175) (dat d_Mo_text 12 rfl) rfl f_Mo_7 (or_mk (by decide +kernel)) ?_
  refine x_iconst (dat d_Mo_text 13 rfl) (by decide) ?_
  refine x_iconst (dat d_Mo_text 14 rfl) (by decide) ?_
  refine x_iast (n := 3888) (dat d_Mo_text 15 rfl) (ai_mk (by decide +kernel)) (by omega) (by omega) ?_
  refine x_aload_n (dat d_Mo_text 16 rfl) rfl rfl ?_
  refine x_getr (r := 175) (dat d_Mo_text 17 rfl) rfl f_Mo_7 (or_mk (by decide +kernel)) ?_
  refine x_iconst (dat d_Mo_text 18 rfl) (by decide) ?_
  refine x_iconst (dat d_Mo_text 19 rfl) (by decide) ?_
  refine x_iast (n := 3888) (dat d_Mo_text 20 rfl) (ai_mk (by decide +kernel)) (by omega) (by omega) ?_
  refine x_eq (σ' := σ1) (by exact hσ.symm) ?_
  refine x_iload_n (dat d_Mo_text 21 rfl) rfl rfl ?_
  refine x_iconst (dat d_Mo_text 22 rfl) (by decide) ?_
  refine x_iconst (dat d_Mo_text 23 rfl) (by decide) ?_
  refine x_invs (As := [vI s, vI 0, vI 1]) (dat d_Mo_text 24 rfl) rfl c_Mo_isIn l_Mo_136 (by decide) rfl rfl (Nat.le_of_ble_eq_true rfl) ?_
  refine sp_Mo_isIn (fun x1 x2 => ?_) (fun x1 => ?_)
  · show Wx g y_Mo_text Z K 37 [vR 174, vI s, vI n, vU, vU] [vI 1] σ1
    refine x_if_eq (tgt := 67) (dat d_Mo_text 25 rfl) (by decide) (fun h => absurd h (by decide)) (fun c_37 => ?_)
    refine x_iload_n (dat d_Mo_text 26 rfl) rfl rfl ?_
    refine x_iconst (dat d_Mo_text 27 rfl) (by decide) ?_
    refine x_icmp_ne (tgt := 58) (dat d_Mo_text 28 rfl) (by decide) (fun c_42 => ?_) (fun c_42 => ?_)
    · refine x_aload_n (dat d_Mo_text 36 rfl) rfl rfl ?_
      refine x_iload_n (dat d_Mo_text 37 rfl) rfl rfl ?_
      refine x_iload_n (dat d_Mo_text 38 rfl) rfl rfl ?_
      refine x_inv (As := [vI s, vI n]) (dat d_Mo_text 39 rfl) rfl c_Mo_isOf l_Mo_180 (by decide) (rv_mo (by decide +kernel)) rfl rfl (Nat.le_of_ble_eq_true rfl) ?_
      refine sp_Mo_isOf A1 (by omega) (fun y1 y2 => ?_) (fun y1 => ?_)
      · show Wx g y_Mo_text Z K 64 [vR 174, vI s, vI n, vU, vU] [vI 1] σ1
        rw [aS (by omega)] at y2
        refine x_if_ne (tgt := 70) (dat d_Mo_text 40 rfl) (by decide) (fun c_64 => ?_) (fun h => absurd h (by decide))
        first
        | exact rd (by omega) (nf3 (by omega) (by omega) (by omega)) Z _ _
        | exact rd (by omega) (nf4 (by omega) (by omega) (by omega)) Z _ _
      · show Wx g y_Mo_text Z K 64 [vR 174, vI s, vI n, vU, vU] [vI 0] σ1
        rw [aS (by omega)] at y1
        refine x_if_ne (tgt := 70) (dat d_Mo_text 40 rfl) (by decide) (fun h => absurd h (by decide)) (fun c_64 => ?_)
        refine x_bipush (dat d_Mo_text 41 rfl) (by decide) (by decide) ?_
        refine x_iret (dat d_Mo_text 42 rfl) rfl ?_
        first
        | exact no (nfo (by omega))
        | exact no (nf1 (by omega) (by omega) (by omega))
        | exact no (nf2 (by omega) (by omega) (by omega))
    · refine x_aload_n (dat d_Mo_text 29 rfl) rfl rfl ?_
      refine x_getr (r := 175) (dat d_Mo_text 30 rfl) rfl f_Mo_7 (or_mk (by decide +kernel)) ?_
      refine x_iload_n (dat d_Mo_text 31 rfl) rfl rfl ?_
      refine x_iald (n := 3888) (v := a s) (dat d_Mo_text 32 rfl) (ai_mk (by decide +kernel)) (by omega) (by omega) (by exact eS (by omega)) ?_
      refine x_iconst (dat d_Mo_text 33 rfl) (by decide) ?_
      refine x_icmp_lt (tgt := 70) (dat d_Mo_text 34 rfl) (by decide) (fun c_52 => ?_) (fun c_52 => ?_)
      · first
        | exact rd (by omega) (nf3 (by omega) (by omega) (by omega)) Z _ _
        | exact rd (by omega) (nf4 (by omega) (by omega) (by omega)) Z _ _
      · refine x_goto (tgt := 67) (dat d_Mo_text 35 rfl) (by decide) ?_
        refine x_bipush (dat d_Mo_text 41 rfl) (by decide) (by decide) ?_
        refine x_iret (dat d_Mo_text 42 rfl) rfl ?_
        first
        | exact no (nfo (by omega))
        | exact no (nf1 (by omega) (by omega) (by omega))
        | exact no (nf2 (by omega) (by omega) (by omega))
  · show Wx g y_Mo_text Z K 37 [vR 174, vI s, vI n, vU, vU] [vI 0] σ1
    refine x_if_eq (tgt := 67) (dat d_Mo_text 25 rfl) (by decide) (fun c_37 => ?_) (fun h => absurd h (by decide))
    refine x_bipush (dat d_Mo_text 41 rfl) (by decide) (by decide) ?_
    refine x_iret (dat d_Mo_text 42 rfl) rfl ?_
    first
    | exact no (nfo (by omega))
    | exact no (nf1 (by omega) (by omega) (by omega))
    | exact no (nf2 (by omega) (by omega) (by omega))
theorem sp_Mo_feed {x0 x1 x2 x3 x4 : Int} (A : MoA σ a) (kn : 600 < a 2 + 20 → K (some (vI (-1))) σ) (k : a 2 + 20 ≤ 600 → ∀ σ' : xS, MoA σ' (feedA a x0 x1 x2 x3 x4) → TxF σ' σ → K (some (vI (a 2 + 20))) σ') : Mt g y_Mo_feed [vR 174, vI x0, vI x1, vI x2, vI x3, vI x4] σ K := by
  have b2 := A.ok.1.2.2
  have e2 : σ 175 2 = a 2 := A.1 2 (by decide) (by decide)
  have lp : ∀ (Z : xZ), a 2 + 20 ≤ 600 → ∀ (d i : Nat) (σ1 : xS) (w7 : MV), i + d = 20 → σ1 175 2 = a 2 + i → (∀ j : Int, j ≠ 2 → σ1 175 j = if 10 + a 2 ≤ j ∧ j < 10 + a 2 + (i : Int) then fbA x0 x1 x2 x3 x4 (j - (10 + a 2)) else σ 175 j) → (∀ o : Nat, o ≠ 175 → σ1 o = σ o) → Wx g y_Mo_feed Z K 20 [vR 174, vI x0, vI x1, vI x2, vI x3, vI x4, vI (i : Int), w7] [] σ1 := by
    intro Z h6 d
    induction d with
    | zero =>
      intro i σ1 w7 hd e hj F
      have ei : (i : Int) = 20 := by omega
      rw [ei] at e hj
      refine x_iload (dat d_Mo_feed 12 rfl) rfl ?_
      refine x_bipush (dat d_Mo_feed 13 rfl) (by decide) (by decide) ?_
      refine x_icmp_ge (tgt := 122) (dat d_Mo_feed 14 rfl) (by decide) (fun c_24 => ?_) (fun c_24 => (by omega))
      refine x_aload_n (dat d_Mo_feed 67 rfl) rfl rfl ?_
      refine x_getr (r := 175) (dat d_Mo_feed 68 rfl) rfl f_Mo_7 (or_mk (by decide +kernel)) ?_
      refine x_iconst (dat d_Mo_feed 69 rfl) (by decide) ?_
      refine x_iald (n := 3888) (v := a 2 + 20) (dat d_Mo_feed 70 rfl) (ai_mk (by decide +kernel)) (by omega) (by omega) (e) ?_
      refine x_iret (dat d_Mo_feed 71 rfl) rfl ?_
      refine k h6 σ1 ⟨fun j j0 j1 => ?_, A.ok.of (by unfold feedA; rw [if_neg (by decide), if_neg (by omega)]) (by unfold feedA; rw [if_neg (by decide), if_neg (by omega)]) ⟨by show 0 ≤ a 2 + 20; omega, by show a 2 + 20 ≤ 600; exact h6⟩ (fun j hj2 => ?_)⟩ ⟨fun o ho => F o (by omega), fun j hj2 => ?_⟩
      · unfold feedA
        by_cases z : j = 2
        · rw [if_pos z, z, e]
        · rw [if_neg z, hj j z, A.1 j j0 j1]
          exact (ite_cg ⟨fun y => by omega, fun y => by omega⟩)
      · unfold feedA
        rw [if_neg (by omega), if_neg (by omega)]
      · rw [hj j (by omega), if_neg (by omega)]
    | succ d ih =>
      intro i σ1 w7 hd e hj F
      have nx : ∀ (v : Int) (w7 : MV), v = fbA x0 x1 x2 x3 x4 (i : Int) → Wx g y_Mo_feed Z K 20 [vR 174, vI x0, vI x1, vI x2, vI x3, vI x4, vI ((i + 1 : Nat) : Int), w7] [] (up (up σ1 175 (10 + (a 2 + (i : Int))) v) 175 2 (a 2 + (i : Int) + 1)) := fun v w7 hv => by
        refine ih (i + 1) _ w7 (by omega) (by rw [up_s]; omega) (fun j j2 => ?_) (fun o ho => by rw [up_ne ho, up_ne ho]; exact F o ho)
        rw [up_ni (Ne.symm j2)]
        by_cases z : j = 10 + (a 2 + (i : Int))
        · rw [z, up_s, if_pos (by omega), hv]
          congr 1
          omega
        · rw [up_ni (Ne.symm z), hj j j2]
          exact ite_cg ⟨fun y => by omega, fun y => by omega⟩
      refine x_iload (dat d_Mo_feed 12 rfl) rfl ?_
      refine x_bipush (dat d_Mo_feed 13 rfl) (by decide) (by decide) ?_
      refine x_icmp_ge (tgt := 122) (dat d_Mo_feed 14 rfl) (by decide) (fun c_24 => (by omega)) (fun c_24 => ?_)
      refine x_iload (dat d_Mo_feed 15 rfl) rfl ?_
      refine x_iconst (dat d_Mo_feed 16 rfl) (by decide) ?_
      refine x_icmp_ge (tgt := 37) (dat d_Mo_feed 17 rfl) (by decide) (fun c_30 => ?_) (fun c_30 => ?_)
      · refine x_iload (dat d_Mo_feed 20 rfl) rfl ?_
        refine x_bipush (dat d_Mo_feed 21 rfl) (by decide) (by decide) ?_
        refine x_icmp_ge (tgt := 48) (dat d_Mo_feed 22 rfl) (by decide) (fun c_41 => ?_) (fun c_41 => ?_)
        · refine x_iload (dat d_Mo_feed 25 rfl) rfl ?_
          refine x_bipush (dat d_Mo_feed 26 rfl) (by decide) (by decide) ?_
          refine x_icmp_ge (tgt := 59) (dat d_Mo_feed 27 rfl) (by decide) (fun c_52 => ?_) (fun c_52 => ?_)
          · refine x_iload (dat d_Mo_feed 30 rfl) rfl ?_
            refine x_bipush (dat d_Mo_feed 31 rfl) (by decide) (by decide) ?_
            refine x_icmp_ge (tgt := 71) (dat d_Mo_feed 32 rfl) (by decide) (fun c_63 => ?_) (fun c_63 => ?_)
            · refine x_iload (dat d_Mo_feed 35 rfl) rfl ?_
              refine x_istore (L' := [vR 174, vI x0, vI x1, vI x2, vI x3, vI x4, vI (i : Int), vI x4]) (dat d_Mo_feed 36 rfl) (by decide) rfl rfl ?_
              refine x_aload_n (dat d_Mo_feed 37 rfl) rfl rfl ?_
              refine x_getr (r := 175) (dat d_Mo_feed 38 rfl) rfl f_Mo_7 (or_mk (by decide +kernel)) ?_
              refine x_bipush (dat d_Mo_feed 39 rfl) (by decide) (by decide) ?_
              refine x_aload_n (dat d_Mo_feed 40 rfl) rfl rfl ?_
              refine x_getr (r := 175) (dat d_Mo_feed 41 rfl) rfl f_Mo_7 (or_mk (by decide +kernel)) ?_
              refine x_iconst (dat d_Mo_feed 42 rfl) (by decide) ?_
              refine x_iald (n := 3888) (v := a 2 + (i : Int)) (dat d_Mo_feed 43 rfl) (ai_mk (by decide +kernel)) (by omega) (by omega) (e) ?_
              refine x_iadd (v := 10 + (a 2 + (i : Int))) (dat d_Mo_feed 44 rfl) rfl (by omega) ?_
              refine x_iload (dat d_Mo_feed 45 rfl) rfl ?_
              refine x_bipush (dat d_Mo_feed 46 rfl) (by decide) (by decide) ?_
              refine x_bipush (dat d_Mo_feed 47 rfl) (by decide) (by decide) ?_
              refine x_iload (dat d_Mo_feed 48 rfl) rfl ?_
              refine x_iconst (dat d_Mo_feed 49 rfl) (by decide) ?_
              refine x_irem (v := (i : Int) % 4) (dat d_Mo_feed 50 rfl) (by omega) rfl ?_
              refine x_imul (v := 8 * ((i : Int) % 4)) (dat d_Mo_feed 51 rfl) rfl (by omega) ?_
              refine x_isub (v := 24 - (8 * ((i : Int) % 4))) (dat d_Mo_feed 52 rfl) rfl (by omega) ?_
              refine x_ishr (v := ishr x4 (24 - (8 * ((i : Int) % 4)))) (dat d_Mo_feed 53 rfl) rfl ?_
              refine x_sipush (dat d_Mo_feed 54 rfl) (by decide) (by decide) ?_
              refine x_iand (v := iand (ishr x4 (24 - (8 * ((i : Int) % 4)))) 255) (dat d_Mo_feed 55 rfl) rfl ?_
              refine x_iast (n := 3888) (dat d_Mo_feed 56 rfl) (ai_mk (by decide +kernel)) (by omega) (by omega) ?_
              refine x_aload_n (dat d_Mo_feed 57 rfl) rfl rfl ?_
              refine x_getr (r := 175) (dat d_Mo_feed 58 rfl) rfl f_Mo_7 (or_mk (by decide +kernel)) ?_
              refine x_iconst (dat d_Mo_feed 59 rfl) (by decide) ?_
              refine x_dup2 (dat d_Mo_feed 60 rfl) rfl rfl ?_
              refine x_iald (n := 3888) (v := a 2 + (i : Int)) (dat d_Mo_feed 61 rfl) (ai_mk (by decide +kernel)) (by omega) (by omega) ((up_ni (by omega)).trans e) ?_
              refine x_iconst (dat d_Mo_feed 62 rfl) (by decide) ?_
              refine x_iadd (v := (a 2 + (i : Int)) + 1) (dat d_Mo_feed 63 rfl) rfl (by omega) ?_
              refine x_iast (n := 3888) (dat d_Mo_feed 64 rfl) (ai_mk (by decide +kernel)) (by omega) (by omega) ?_
              refine x_iinc (v' := ((i + 1 : Nat) : Int)) (L' := [vR 174, vI x0, vI x1, vI x2, vI x3, vI x4, vI ((i + 1 : Nat) : Int), vI x4]) (dat d_Mo_feed 65 rfl) rfl (by decide) rfl (by omega) (by omega) rfl ?_
              have ei : (i : Int) + 1 = ((i + 1 : Nat) : Int) := by omega
              refine x_goto (tgt := 20) (dat d_Mo_feed 66 rfl) (by decide) ?_
              refine nx _ _ ?_
              unfold fbA fbX
              first
              | rw [if_pos (by omega)]
              | rw [if_neg (by omega), if_pos (by omega)]
              | rw [if_neg (by omega), if_neg (by omega), if_pos (by omega)]
              | rw [if_neg (by omega), if_neg (by omega), if_neg (by omega), if_pos (by omega)]
              | rw [if_neg (by omega), if_neg (by omega), if_neg (by omega), if_neg (by omega)]
            · refine x_iload (dat d_Mo_feed 33 rfl) rfl ?_
              refine x_goto (tgt := 73) (dat d_Mo_feed 34 rfl) (by decide) ?_
              refine x_istore (L' := [vR 174, vI x0, vI x1, vI x2, vI x3, vI x4, vI (i : Int), vI x3]) (dat d_Mo_feed 36 rfl) (by decide) rfl rfl ?_
              refine x_aload_n (dat d_Mo_feed 37 rfl) rfl rfl ?_
              refine x_getr (r := 175) (dat d_Mo_feed 38 rfl) rfl f_Mo_7 (or_mk (by decide +kernel)) ?_
              refine x_bipush (dat d_Mo_feed 39 rfl) (by decide) (by decide) ?_
              refine x_aload_n (dat d_Mo_feed 40 rfl) rfl rfl ?_
              refine x_getr (r := 175) (dat d_Mo_feed 41 rfl) rfl f_Mo_7 (or_mk (by decide +kernel)) ?_
              refine x_iconst (dat d_Mo_feed 42 rfl) (by decide) ?_
              refine x_iald (n := 3888) (v := a 2 + (i : Int)) (dat d_Mo_feed 43 rfl) (ai_mk (by decide +kernel)) (by omega) (by omega) (e) ?_
              refine x_iadd (v := 10 + (a 2 + (i : Int))) (dat d_Mo_feed 44 rfl) rfl (by omega) ?_
              refine x_iload (dat d_Mo_feed 45 rfl) rfl ?_
              refine x_bipush (dat d_Mo_feed 46 rfl) (by decide) (by decide) ?_
              refine x_bipush (dat d_Mo_feed 47 rfl) (by decide) (by decide) ?_
              refine x_iload (dat d_Mo_feed 48 rfl) rfl ?_
              refine x_iconst (dat d_Mo_feed 49 rfl) (by decide) ?_
              refine x_irem (v := (i : Int) % 4) (dat d_Mo_feed 50 rfl) (by omega) rfl ?_
              refine x_imul (v := 8 * ((i : Int) % 4)) (dat d_Mo_feed 51 rfl) rfl (by omega) ?_
              refine x_isub (v := 24 - (8 * ((i : Int) % 4))) (dat d_Mo_feed 52 rfl) rfl (by omega) ?_
              refine x_ishr (v := ishr x3 (24 - (8 * ((i : Int) % 4)))) (dat d_Mo_feed 53 rfl) rfl ?_
              refine x_sipush (dat d_Mo_feed 54 rfl) (by decide) (by decide) ?_
              refine x_iand (v := iand (ishr x3 (24 - (8 * ((i : Int) % 4)))) 255) (dat d_Mo_feed 55 rfl) rfl ?_
              refine x_iast (n := 3888) (dat d_Mo_feed 56 rfl) (ai_mk (by decide +kernel)) (by omega) (by omega) ?_
              refine x_aload_n (dat d_Mo_feed 57 rfl) rfl rfl ?_
              refine x_getr (r := 175) (dat d_Mo_feed 58 rfl) rfl f_Mo_7 (or_mk (by decide +kernel)) ?_
              refine x_iconst (dat d_Mo_feed 59 rfl) (by decide) ?_
              refine x_dup2 (dat d_Mo_feed 60 rfl) rfl rfl ?_
              refine x_iald (n := 3888) (v := a 2 + (i : Int)) (dat d_Mo_feed 61 rfl) (ai_mk (by decide +kernel)) (by omega) (by omega) ((up_ni (by omega)).trans e) ?_
              refine x_iconst (dat d_Mo_feed 62 rfl) (by decide) ?_
              refine x_iadd (v := (a 2 + (i : Int)) + 1) (dat d_Mo_feed 63 rfl) rfl (by omega) ?_
              refine x_iast (n := 3888) (dat d_Mo_feed 64 rfl) (ai_mk (by decide +kernel)) (by omega) (by omega) ?_
              refine x_iinc (v' := ((i + 1 : Nat) : Int)) (L' := [vR 174, vI x0, vI x1, vI x2, vI x3, vI x4, vI ((i + 1 : Nat) : Int), vI x3]) (dat d_Mo_feed 65 rfl) rfl (by decide) rfl (by omega) (by omega) rfl ?_
              have ei : (i : Int) + 1 = ((i + 1 : Nat) : Int) := by omega
              refine x_goto (tgt := 20) (dat d_Mo_feed 66 rfl) (by decide) ?_
              refine nx _ _ ?_
              unfold fbA fbX
              first
              | rw [if_pos (by omega)]
              | rw [if_neg (by omega), if_pos (by omega)]
              | rw [if_neg (by omega), if_neg (by omega), if_pos (by omega)]
              | rw [if_neg (by omega), if_neg (by omega), if_neg (by omega), if_pos (by omega)]
              | rw [if_neg (by omega), if_neg (by omega), if_neg (by omega), if_neg (by omega)]
          · refine x_iload_n (dat d_Mo_feed 28 rfl) rfl rfl ?_
            refine x_goto (tgt := 73) (dat d_Mo_feed 29 rfl) (by decide) ?_
            refine x_istore (L' := [vR 174, vI x0, vI x1, vI x2, vI x3, vI x4, vI (i : Int), vI x2]) (dat d_Mo_feed 36 rfl) (by decide) rfl rfl ?_
            refine x_aload_n (dat d_Mo_feed 37 rfl) rfl rfl ?_
            refine x_getr (r := 175) (dat d_Mo_feed 38 rfl) rfl f_Mo_7 (or_mk (by decide +kernel)) ?_
            refine x_bipush (dat d_Mo_feed 39 rfl) (by decide) (by decide) ?_
            refine x_aload_n (dat d_Mo_feed 40 rfl) rfl rfl ?_
            refine x_getr (r := 175) (dat d_Mo_feed 41 rfl) rfl f_Mo_7 (or_mk (by decide +kernel)) ?_
            refine x_iconst (dat d_Mo_feed 42 rfl) (by decide) ?_
            refine x_iald (n := 3888) (v := a 2 + (i : Int)) (dat d_Mo_feed 43 rfl) (ai_mk (by decide +kernel)) (by omega) (by omega) (e) ?_
            refine x_iadd (v := 10 + (a 2 + (i : Int))) (dat d_Mo_feed 44 rfl) rfl (by omega) ?_
            refine x_iload (dat d_Mo_feed 45 rfl) rfl ?_
            refine x_bipush (dat d_Mo_feed 46 rfl) (by decide) (by decide) ?_
            refine x_bipush (dat d_Mo_feed 47 rfl) (by decide) (by decide) ?_
            refine x_iload (dat d_Mo_feed 48 rfl) rfl ?_
            refine x_iconst (dat d_Mo_feed 49 rfl) (by decide) ?_
            refine x_irem (v := (i : Int) % 4) (dat d_Mo_feed 50 rfl) (by omega) rfl ?_
            refine x_imul (v := 8 * ((i : Int) % 4)) (dat d_Mo_feed 51 rfl) rfl (by omega) ?_
            refine x_isub (v := 24 - (8 * ((i : Int) % 4))) (dat d_Mo_feed 52 rfl) rfl (by omega) ?_
            refine x_ishr (v := ishr x2 (24 - (8 * ((i : Int) % 4)))) (dat d_Mo_feed 53 rfl) rfl ?_
            refine x_sipush (dat d_Mo_feed 54 rfl) (by decide) (by decide) ?_
            refine x_iand (v := iand (ishr x2 (24 - (8 * ((i : Int) % 4)))) 255) (dat d_Mo_feed 55 rfl) rfl ?_
            refine x_iast (n := 3888) (dat d_Mo_feed 56 rfl) (ai_mk (by decide +kernel)) (by omega) (by omega) ?_
            refine x_aload_n (dat d_Mo_feed 57 rfl) rfl rfl ?_
            refine x_getr (r := 175) (dat d_Mo_feed 58 rfl) rfl f_Mo_7 (or_mk (by decide +kernel)) ?_
            refine x_iconst (dat d_Mo_feed 59 rfl) (by decide) ?_
            refine x_dup2 (dat d_Mo_feed 60 rfl) rfl rfl ?_
            refine x_iald (n := 3888) (v := a 2 + (i : Int)) (dat d_Mo_feed 61 rfl) (ai_mk (by decide +kernel)) (by omega) (by omega) ((up_ni (by omega)).trans e) ?_
            refine x_iconst (dat d_Mo_feed 62 rfl) (by decide) ?_
            refine x_iadd (v := (a 2 + (i : Int)) + 1) (dat d_Mo_feed 63 rfl) rfl (by omega) ?_
            refine x_iast (n := 3888) (dat d_Mo_feed 64 rfl) (ai_mk (by decide +kernel)) (by omega) (by omega) ?_
            refine x_iinc (v' := ((i + 1 : Nat) : Int)) (L' := [vR 174, vI x0, vI x1, vI x2, vI x3, vI x4, vI ((i + 1 : Nat) : Int), vI x2]) (dat d_Mo_feed 65 rfl) rfl (by decide) rfl (by omega) (by omega) rfl ?_
            have ei : (i : Int) + 1 = ((i + 1 : Nat) : Int) := by omega
            refine x_goto (tgt := 20) (dat d_Mo_feed 66 rfl) (by decide) ?_
            refine nx _ _ ?_
            unfold fbA fbX
            first
            | rw [if_pos (by omega)]
            | rw [if_neg (by omega), if_pos (by omega)]
            | rw [if_neg (by omega), if_neg (by omega), if_pos (by omega)]
            | rw [if_neg (by omega), if_neg (by omega), if_neg (by omega), if_pos (by omega)]
            | rw [if_neg (by omega), if_neg (by omega), if_neg (by omega), if_neg (by omega)]
        · refine x_iload_n (dat d_Mo_feed 23 rfl) rfl rfl ?_
          refine x_goto (tgt := 73) (dat d_Mo_feed 24 rfl) (by decide) ?_
          refine x_istore (L' := [vR 174, vI x0, vI x1, vI x2, vI x3, vI x4, vI (i : Int), vI x1]) (dat d_Mo_feed 36 rfl) (by decide) rfl rfl ?_
          refine x_aload_n (dat d_Mo_feed 37 rfl) rfl rfl ?_
          refine x_getr (r := 175) (dat d_Mo_feed 38 rfl) rfl f_Mo_7 (or_mk (by decide +kernel)) ?_
          refine x_bipush (dat d_Mo_feed 39 rfl) (by decide) (by decide) ?_
          refine x_aload_n (dat d_Mo_feed 40 rfl) rfl rfl ?_
          refine x_getr (r := 175) (dat d_Mo_feed 41 rfl) rfl f_Mo_7 (or_mk (by decide +kernel)) ?_
          refine x_iconst (dat d_Mo_feed 42 rfl) (by decide) ?_
          refine x_iald (n := 3888) (v := a 2 + (i : Int)) (dat d_Mo_feed 43 rfl) (ai_mk (by decide +kernel)) (by omega) (by omega) (e) ?_
          refine x_iadd (v := 10 + (a 2 + (i : Int))) (dat d_Mo_feed 44 rfl) rfl (by omega) ?_
          refine x_iload (dat d_Mo_feed 45 rfl) rfl ?_
          refine x_bipush (dat d_Mo_feed 46 rfl) (by decide) (by decide) ?_
          refine x_bipush (dat d_Mo_feed 47 rfl) (by decide) (by decide) ?_
          refine x_iload (dat d_Mo_feed 48 rfl) rfl ?_
          refine x_iconst (dat d_Mo_feed 49 rfl) (by decide) ?_
          refine x_irem (v := (i : Int) % 4) (dat d_Mo_feed 50 rfl) (by omega) rfl ?_
          refine x_imul (v := 8 * ((i : Int) % 4)) (dat d_Mo_feed 51 rfl) rfl (by omega) ?_
          refine x_isub (v := 24 - (8 * ((i : Int) % 4))) (dat d_Mo_feed 52 rfl) rfl (by omega) ?_
          refine x_ishr (v := ishr x1 (24 - (8 * ((i : Int) % 4)))) (dat d_Mo_feed 53 rfl) rfl ?_
          refine x_sipush (dat d_Mo_feed 54 rfl) (by decide) (by decide) ?_
          refine x_iand (v := iand (ishr x1 (24 - (8 * ((i : Int) % 4)))) 255) (dat d_Mo_feed 55 rfl) rfl ?_
          refine x_iast (n := 3888) (dat d_Mo_feed 56 rfl) (ai_mk (by decide +kernel)) (by omega) (by omega) ?_
          refine x_aload_n (dat d_Mo_feed 57 rfl) rfl rfl ?_
          refine x_getr (r := 175) (dat d_Mo_feed 58 rfl) rfl f_Mo_7 (or_mk (by decide +kernel)) ?_
          refine x_iconst (dat d_Mo_feed 59 rfl) (by decide) ?_
          refine x_dup2 (dat d_Mo_feed 60 rfl) rfl rfl ?_
          refine x_iald (n := 3888) (v := a 2 + (i : Int)) (dat d_Mo_feed 61 rfl) (ai_mk (by decide +kernel)) (by omega) (by omega) ((up_ni (by omega)).trans e) ?_
          refine x_iconst (dat d_Mo_feed 62 rfl) (by decide) ?_
          refine x_iadd (v := (a 2 + (i : Int)) + 1) (dat d_Mo_feed 63 rfl) rfl (by omega) ?_
          refine x_iast (n := 3888) (dat d_Mo_feed 64 rfl) (ai_mk (by decide +kernel)) (by omega) (by omega) ?_
          refine x_iinc (v' := ((i + 1 : Nat) : Int)) (L' := [vR 174, vI x0, vI x1, vI x2, vI x3, vI x4, vI ((i + 1 : Nat) : Int), vI x1]) (dat d_Mo_feed 65 rfl) rfl (by decide) rfl (by omega) (by omega) rfl ?_
          have ei : (i : Int) + 1 = ((i + 1 : Nat) : Int) := by omega
          refine x_goto (tgt := 20) (dat d_Mo_feed 66 rfl) (by decide) ?_
          refine nx _ _ ?_
          unfold fbA fbX
          first
          | rw [if_pos (by omega)]
          | rw [if_neg (by omega), if_pos (by omega)]
          | rw [if_neg (by omega), if_neg (by omega), if_pos (by omega)]
          | rw [if_neg (by omega), if_neg (by omega), if_neg (by omega), if_pos (by omega)]
          | rw [if_neg (by omega), if_neg (by omega), if_neg (by omega), if_neg (by omega)]
      · refine x_iload_n (dat d_Mo_feed 18 rfl) rfl rfl ?_
        refine x_goto (tgt := 73) (dat d_Mo_feed 19 rfl) (by decide) ?_
        refine x_istore (L' := [vR 174, vI x0, vI x1, vI x2, vI x3, vI x4, vI (i : Int), vI x0]) (dat d_Mo_feed 36 rfl) (by decide) rfl rfl ?_
        refine x_aload_n (dat d_Mo_feed 37 rfl) rfl rfl ?_
        refine x_getr (r := 175) (dat d_Mo_feed 38 rfl) rfl f_Mo_7 (or_mk (by decide +kernel)) ?_
        refine x_bipush (dat d_Mo_feed 39 rfl) (by decide) (by decide) ?_
        refine x_aload_n (dat d_Mo_feed 40 rfl) rfl rfl ?_
        refine x_getr (r := 175) (dat d_Mo_feed 41 rfl) rfl f_Mo_7 (or_mk (by decide +kernel)) ?_
        refine x_iconst (dat d_Mo_feed 42 rfl) (by decide) ?_
        refine x_iald (n := 3888) (v := a 2 + (i : Int)) (dat d_Mo_feed 43 rfl) (ai_mk (by decide +kernel)) (by omega) (by omega) (e) ?_
        refine x_iadd (v := 10 + (a 2 + (i : Int))) (dat d_Mo_feed 44 rfl) rfl (by omega) ?_
        refine x_iload (dat d_Mo_feed 45 rfl) rfl ?_
        refine x_bipush (dat d_Mo_feed 46 rfl) (by decide) (by decide) ?_
        refine x_bipush (dat d_Mo_feed 47 rfl) (by decide) (by decide) ?_
        refine x_iload (dat d_Mo_feed 48 rfl) rfl ?_
        refine x_iconst (dat d_Mo_feed 49 rfl) (by decide) ?_
        refine x_irem (v := (i : Int) % 4) (dat d_Mo_feed 50 rfl) (by omega) rfl ?_
        refine x_imul (v := 8 * ((i : Int) % 4)) (dat d_Mo_feed 51 rfl) rfl (by omega) ?_
        refine x_isub (v := 24 - (8 * ((i : Int) % 4))) (dat d_Mo_feed 52 rfl) rfl (by omega) ?_
        refine x_ishr (v := ishr x0 (24 - (8 * ((i : Int) % 4)))) (dat d_Mo_feed 53 rfl) rfl ?_
        refine x_sipush (dat d_Mo_feed 54 rfl) (by decide) (by decide) ?_
        refine x_iand (v := iand (ishr x0 (24 - (8 * ((i : Int) % 4)))) 255) (dat d_Mo_feed 55 rfl) rfl ?_
        refine x_iast (n := 3888) (dat d_Mo_feed 56 rfl) (ai_mk (by decide +kernel)) (by omega) (by omega) ?_
        refine x_aload_n (dat d_Mo_feed 57 rfl) rfl rfl ?_
        refine x_getr (r := 175) (dat d_Mo_feed 58 rfl) rfl f_Mo_7 (or_mk (by decide +kernel)) ?_
        refine x_iconst (dat d_Mo_feed 59 rfl) (by decide) ?_
        refine x_dup2 (dat d_Mo_feed 60 rfl) rfl rfl ?_
        refine x_iald (n := 3888) (v := a 2 + (i : Int)) (dat d_Mo_feed 61 rfl) (ai_mk (by decide +kernel)) (by omega) (by omega) ((up_ni (by omega)).trans e) ?_
        refine x_iconst (dat d_Mo_feed 62 rfl) (by decide) ?_
        refine x_iadd (v := (a 2 + (i : Int)) + 1) (dat d_Mo_feed 63 rfl) rfl (by omega) ?_
        refine x_iast (n := 3888) (dat d_Mo_feed 64 rfl) (ai_mk (by decide +kernel)) (by omega) (by omega) ?_
        refine x_iinc (v' := ((i + 1 : Nat) : Int)) (L' := [vR 174, vI x0, vI x1, vI x2, vI x3, vI x4, vI ((i + 1 : Nat) : Int), vI x0]) (dat d_Mo_feed 65 rfl) rfl (by decide) rfl (by omega) (by omega) rfl ?_
        have ei : (i : Int) + 1 = ((i + 1 : Nat) : Int) := by omega
        refine x_goto (tgt := 20) (dat d_Mo_feed 66 rfl) (by decide) ?_
        refine nx _ _ ?_
        unfold fbA fbX
        first
        | rw [if_pos (by omega)]
        | rw [if_neg (by omega), if_pos (by omega)]
        | rw [if_neg (by omega), if_neg (by omega), if_pos (by omega)]
        | rw [if_neg (by omega), if_neg (by omega), if_neg (by omega), if_pos (by omega)]
        | rw [if_neg (by omega), if_neg (by omega), if_neg (by omega), if_neg (by omega)]
  refine x_enter 2 rfl rfl rfl (fun Z => ?_)
  show Wx g y_Mo_feed Z K 0 [vR 174, vI x0, vI x1, vI x2, vI x3, vI x4, vU, vU] [] σ
  refine x_aload_n (dat d_Mo_feed 0 rfl) rfl rfl ?_
  refine x_getr (r := 175) (dat d_Mo_feed 1 rfl) rfl f_Mo_7 (or_mk (by decide +kernel)) ?_
  refine x_iconst (dat d_Mo_feed 2 rfl) (by decide) ?_
  refine x_iald (n := 3888) (v := a 2) (dat d_Mo_feed 3 rfl) (ai_mk (by decide +kernel)) (by omega) (by omega) (e2) ?_
  refine x_bipush (dat d_Mo_feed 4 rfl) (by decide) (by decide) ?_
  refine x_iadd (v := (a 2) + 20) (dat d_Mo_feed 5 rfl) rfl (by omega) ?_
  refine x_sipush (dat d_Mo_feed 6 rfl) (by decide) (by decide) ?_
  refine x_icmp_le (tgt := 17) (dat d_Mo_feed 7 rfl) (by decide) (fun c_12 => ?_) (fun c_12 => ?_)
  · refine x_iconst (dat d_Mo_feed 10 rfl) (by decide) ?_
    refine x_istore (L' := [vR 174, vI x0, vI x1, vI x2, vI x3, vI x4, vI 0, vU]) (dat d_Mo_feed 11 rfl) (by decide) rfl rfl ?_
    exact lp Z (by omega) 20 0 σ _ (by omega) (by rw [e2]; omega) (fun j _ => by rw [if_neg (by omega)]) (fun _ _ => rfl)
  · refine x_iconst (dat d_Mo_feed 8 rfl) (by decide) ?_
    refine x_iret (dat d_Mo_feed 9 rfl) rfl ?_
    exact kn (by omega)
theorem sp_Mo_image (A : MoA σ a) (kn : ¬ (0 ≤ n ∧ n < 3) → K (some (vI 0)) σ) (k : 0 ≤ n → n < 3 → ∀ σ' : xS, (∀ j : Int, σ' 176 j = if j = n then 1 else σ 176 j) → (∀ j : Int, σ' 175 j = if 972 * (n + 1) ≤ j ∧ j < 972 * (n + 1) + 972 then a (j - 972 * (n + 1)) else σ 175 j) → (∀ o : Nat, o ≠ 175 → o ≠ 176 → σ' o = σ o) → K (some (vI 1)) σ') : Mt g y_Mo_image [vR 174, vI n] σ K := by
  have lp : ∀ (Z : xZ), 0 ≤ n → n < 3 → ∀ (d i : Nat) (σ1 : xS), i + d = 972 → (∀ j : Int, σ1 176 j = if j = n then 1 else σ 176 j) → (∀ j : Int, σ1 175 j = if 972 * (n + 1) ≤ j ∧ j < 972 * (n + 1) + (i : Int) then a (j - 972 * (n + 1)) else σ 175 j) → (∀ o : Nat, o ≠ 175 → o ≠ 176 → σ1 o = σ o) → Wx g y_Mo_image Z K 20 [vR 174, vI n, vI (i : Int)] [] σ1 := by
    intro Z n0 n1 d
    induction d with
    | zero =>
      intro i σ1 hd h6 h5 F
      have ei : (i : Int) = 972 := by omega
      rw [ei] at h5
      refine x_iload_n (dat d_Mo_image 14 rfl) rfl rfl ?_
      refine x_sipush (dat d_Mo_image 15 rfl) (by decide) (by decide) ?_
      refine x_icmp_ge (tgt := 53) (dat d_Mo_image 16 rfl) (by decide) (fun c_24 => ?_) (fun c_24 => (by omega))
      refine x_iconst (dat d_Mo_image 33 rfl) (by decide) ?_
      refine x_zret (dat d_Mo_image 34 rfl) rfl (by decide) ?_
      exact k n0 n1 σ1 h6 h5 F
    | succ d ih =>
      intro i σ1 hd h6 h5 F
      have ea : σ1 175 (i : Int) = a (i : Int) := by rw [h5, if_neg (by omega)]; exact A.1 _ (by omega) (by omega)
      refine x_iload_n (dat d_Mo_image 14 rfl) rfl rfl ?_
      refine x_sipush (dat d_Mo_image 15 rfl) (by decide) (by decide) ?_
      refine x_icmp_ge (tgt := 53) (dat d_Mo_image 16 rfl) (by decide) (fun c_24 => (by omega)) (fun c_24 => ?_)
      refine x_aload_n (dat d_Mo_image 17 rfl) rfl rfl ?_
      refine x_getr (r := 175) (dat d_Mo_image 18 rfl) rfl f_Mo_7 (or_mk (by decide +kernel)) ?_
      refine x_sipush (dat d_Mo_image 19 rfl) (by decide) (by decide) ?_
      refine x_iload_n (dat d_Mo_image 20 rfl) rfl rfl ?_
      refine x_iconst (dat d_Mo_image 21 rfl) (by decide) ?_
      refine x_iadd (v := n + 1) (dat d_Mo_image 22 rfl) rfl (by omega) ?_
      refine x_imul (v := 972 * (n + 1)) (dat d_Mo_image 23 rfl) (by omega) (by omega) ?_
      refine x_iload_n (dat d_Mo_image 24 rfl) rfl rfl ?_
      refine x_iadd (v := (972 * (n + 1)) + (i : Int)) (dat d_Mo_image 25 rfl) rfl (by omega) ?_
      refine x_aload_n (dat d_Mo_image 26 rfl) rfl rfl ?_
      refine x_getr (r := 175) (dat d_Mo_image 27 rfl) rfl f_Mo_7 (or_mk (by decide +kernel)) ?_
      refine x_iload_n (dat d_Mo_image 28 rfl) rfl rfl ?_
      refine x_iald (n := 3888) (v := a (i : Int)) (dat d_Mo_image 29 rfl) (ai_mk (by decide +kernel)) (by omega) (by omega) (by exact ea) ?_
      refine x_iast (n := 3888) (dat d_Mo_image 30 rfl) (ai_mk (by decide +kernel)) (by omega) (by omega) ?_
      refine x_iinc (v' := ((i + 1 : Nat) : Int)) (L' := [vR 174, vI n, vI ((i + 1 : Nat) : Int)]) (dat d_Mo_image 31 rfl) rfl (by decide) rfl (by omega) (by omega) rfl ?_
      refine x_goto (tgt := 20) (dat d_Mo_image 32 rfl) (by decide) ?_
      refine ih (i + 1) _ (by omega) (fun j => by rw [up_ne (by decide)]; exact h6 j) (fun j => ?_) (fun o o1 o2 => by rw [up_ne o1]; exact F o o1 o2)
      by_cases z : j = 972 * (n + 1) + (i : Int)
      · rw [z, up_s, if_pos (by omega)]
        congr 1
        omega
      · rw [up_ni (Ne.symm z), h5 j]
        exact ite_cg ⟨fun y => by omega, fun y => by omega⟩
  refine x_enter 1 rfl rfl rfl (fun Z => ?_)
  show Wx g y_Mo_image Z K 0 [vR 174, vI n, vU] [] σ
  refine x_iload_n (dat d_Mo_image 0 rfl) rfl rfl ?_
  refine x_iconst (dat d_Mo_image 1 rfl) (by decide) ?_
  refine x_iconst (dat d_Mo_image 2 rfl) (by decide) ?_
  refine x_invs (As := [vI n, vI 0, vI 2]) (dat d_Mo_image 3 rfl) rfl c_Mo_isIn l_Mo_136 (by decide) rfl rfl (Nat.le_of_ble_eq_true rfl) ?_
  refine sp_Mo_isIn (fun x1 x2 => ?_) (fun x1 => ?_)
  · show Wx g y_Mo_image Z K 6 [vR 174, vI n, vU] [vI 1] σ
    refine x_if_ne (tgt := 11) (dat d_Mo_image 4 rfl) (by decide) (fun c_6 => ?_) (fun h => absurd h (by decide))
    refine x_aload_n (dat d_Mo_image 7 rfl) rfl rfl ?_
    refine x_getr (r := 176) (dat d_Mo_image 8 rfl) rfl f_Mo_13 (or_mk (by decide +kernel)) ?_
    refine x_iload_n (dat d_Mo_image 9 rfl) rfl rfl ?_
    refine x_iconst (dat d_Mo_image 10 rfl) (by decide) ?_
    refine x_zast (n := 3) (dat d_Mo_image 11 rfl) (ai_mk (by decide +kernel)) (by omega) (by omega) (by omega) ?_
    refine x_iconst (dat d_Mo_image 12 rfl) (by decide) ?_
    refine x_istore_n (L' := [vR 174, vI n, vI 0]) (dat d_Mo_image 13 rfl) rfl (by decide) rfl rfl ?_
    refine lp Z x1 (by omega) 972 0 _ (by omega) (fun j => ?_) (fun j => by rw [up_ne (by decide), if_neg (by omega)]) (fun o _ o2 => by rw [up_ne o2])
    by_cases z : j = n
    · rw [if_pos z, z, up_s]
    · rw [if_neg z, up_ni (Ne.symm z)]
  · show Wx g y_Mo_image Z K 6 [vR 174, vI n, vU] [vI 0] σ
    refine x_if_ne (tgt := 11) (dat d_Mo_image 4 rfl) (by decide) (fun h => absurd h (by decide)) (fun c_6 => ?_)
    refine x_iconst (dat d_Mo_image 5 rfl) (by decide) ?_
    refine x_zret (dat d_Mo_image 6 rfl) rfl (by decide) ?_
    exact kn (by omega)
theorem sp_Mo_again (kn : ¬ (0 ≤ n ∧ n < 3 ∧ σ 176 n ≠ 0) → K (some (vI 0)) σ) (k : 0 ≤ n → n < 3 → σ 176 n ≠ 0 → ∀ σ' : xS, (∀ j : Int, σ' 175 j = if 0 ≤ j ∧ j < 972 then σ 175 (972 * (n + 1) + j) else σ 175 j) → (∀ o : Nat, o ≠ 175 → σ' o = σ o) → K (some (vI 1)) σ') : Mt g y_Mo_again [vR 174, vI n] σ K := by
  have lp : ∀ (Z : xZ), 0 ≤ n → n < 3 → σ 176 n ≠ 0 → ∀ (d i : Nat) (σ1 : xS), i + d = 972 → (∀ j : Int, σ1 175 j = if 0 ≤ j ∧ j < (i : Int) then σ 175 (972 * (n + 1) + j) else σ 175 j) → (∀ o : Nat, o ≠ 175 → σ1 o = σ o) → Wx g y_Mo_again Z K 22 [vR 174, vI n, vI (i : Int)] [] σ1 := by
    intro Z n0 n1 n2 d
    induction d with
    | zero =>
      intro i σ1 hd h5 F
      have ei : (i : Int) = 972 := by omega
      rw [ei] at h5
      refine x_iload_n (dat d_Mo_again 14 rfl) rfl rfl ?_
      refine x_sipush (dat d_Mo_again 15 rfl) (by decide) (by decide) ?_
      refine x_icmp_ge (tgt := 55) (dat d_Mo_again 16 rfl) (by decide) (fun c_26 => ?_) (fun c_26 => (by omega))
      refine x_iconst (dat d_Mo_again 33 rfl) (by decide) ?_
      refine x_zret (dat d_Mo_again 34 rfl) rfl (by decide) ?_
      exact k n0 n1 n2 σ1 h5 F
    | succ d ih =>
      intro i σ1 hd h5 F
      have ea : σ1 175 (972 * (n + 1) + (i : Int)) = σ 175 (972 * (n + 1) + (i : Int)) := by rw [h5, if_neg (by omega)]
      refine x_iload_n (dat d_Mo_again 14 rfl) rfl rfl ?_
      refine x_sipush (dat d_Mo_again 15 rfl) (by decide) (by decide) ?_
      refine x_icmp_ge (tgt := 55) (dat d_Mo_again 16 rfl) (by decide) (fun c_26 => (by omega)) (fun c_26 => ?_)
      refine x_aload_n (dat d_Mo_again 17 rfl) rfl rfl ?_
      refine x_getr (r := 175) (dat d_Mo_again 18 rfl) rfl f_Mo_7 (or_mk (by decide +kernel)) ?_
      refine x_iload_n (dat d_Mo_again 19 rfl) rfl rfl ?_
      refine x_aload_n (dat d_Mo_again 20 rfl) rfl rfl ?_
      refine x_getr (r := 175) (dat d_Mo_again 21 rfl) rfl f_Mo_7 (or_mk (by decide +kernel)) ?_
      refine x_sipush (dat d_Mo_again 22 rfl) (by decide) (by decide) ?_
      refine x_iload_n (dat d_Mo_again 23 rfl) rfl rfl ?_
      refine x_iconst (dat d_Mo_again 24 rfl) (by decide) ?_
      refine x_iadd (v := n + 1) (dat d_Mo_again 25 rfl) rfl (by omega) ?_
      refine x_imul (v := 972 * (n + 1)) (dat d_Mo_again 26 rfl) (by omega) (by omega) ?_
      refine x_iload_n (dat d_Mo_again 27 rfl) rfl rfl ?_
      refine x_iadd (v := (972 * (n + 1)) + (i : Int)) (dat d_Mo_again 28 rfl) rfl (by omega) ?_
      refine x_iald (n := 3888) (v := σ 175 (972 * (n + 1) + (i : Int))) (dat d_Mo_again 29 rfl) (ai_mk (by decide +kernel)) (by omega) (by omega) (by exact ea) ?_
      refine x_iast (n := 3888) (dat d_Mo_again 30 rfl) (ai_mk (by decide +kernel)) (by omega) (by omega) ?_
      refine x_iinc (v' := ((i + 1 : Nat) : Int)) (L' := [vR 174, vI n, vI ((i + 1 : Nat) : Int)]) (dat d_Mo_again 31 rfl) rfl (by decide) rfl (by omega) (by omega) rfl ?_
      refine x_goto (tgt := 22) (dat d_Mo_again 32 rfl) (by decide) ?_
      refine ih (i + 1) _ (by omega) (fun j => ?_) (fun o o1 => by rw [up_ne o1]; exact F o o1)
      by_cases z : j = (i : Int)
      · rw [z, up_s, if_pos (by omega)]
      · rw [up_ni (Ne.symm z), h5 j]
        exact ite_cg ⟨fun y => by omega, fun y => by omega⟩
  refine x_enter 1 rfl rfl rfl (fun Z => ?_)
  show Wx g y_Mo_again Z K 0 [vR 174, vI n, vU] [] σ
  refine x_iload_n (dat d_Mo_again 0 rfl) rfl rfl ?_
  refine x_iconst (dat d_Mo_again 1 rfl) (by decide) ?_
  refine x_iconst (dat d_Mo_again 2 rfl) (by decide) ?_
  refine x_invs (As := [vI n, vI 0, vI 2]) (dat d_Mo_again 3 rfl) rfl c_Mo_isIn l_Mo_136 (by decide) rfl rfl (Nat.le_of_ble_eq_true rfl) ?_
  refine sp_Mo_isIn (fun x1 x2 => ?_) (fun x1 => ?_)
  · show Wx g y_Mo_again Z K 6 [vR 174, vI n, vU] [vI 1] σ
    refine x_if_eq (tgt := 18) (dat d_Mo_again 4 rfl) (by decide) (fun h => absurd h (by decide)) (fun c_6 => ?_)
    refine x_aload_n (dat d_Mo_again 5 rfl) rfl rfl ?_
    refine x_getr (r := 176) (dat d_Mo_again 6 rfl) rfl f_Mo_13 (or_mk (by decide +kernel)) ?_
    refine x_iload_n (dat d_Mo_again 7 rfl) rfl rfl ?_
    refine x_zald (n := 3) (v := σ 176 n) (dat d_Mo_again 8 rfl) (ai_mk (by decide +kernel)) (by omega) (by omega) rfl ?_
    refine x_if_ne (tgt := 20) (dat d_Mo_again 9 rfl) (by decide) (fun c_15 => ?_) (fun c_15 => ?_)
    · refine x_iconst (dat d_Mo_again 12 rfl) (by decide) ?_
      refine x_istore_n (L' := [vR 174, vI n, vI 0]) (dat d_Mo_again 13 rfl) rfl (by decide) rfl rfl ?_
      exact lp Z x1 (by omega) (by omega) 972 0 σ (by omega) (fun j => by rw [if_neg (by omega)]) (fun _ _ => rfl)
    · refine x_iconst (dat d_Mo_again 10 rfl) (by decide) ?_
      refine x_zret (dat d_Mo_again 11 rfl) rfl (by decide) ?_
      exact kn (by omega)
  · show Wx g y_Mo_again Z K 6 [vR 174, vI n, vU] [vI 0] σ
    refine x_if_eq (tgt := 18) (dat d_Mo_again 4 rfl) (by decide) (fun c_6 => ?_) (fun h => absurd h (by decide))
    refine x_iconst (dat d_Mo_again 10 rfl) (by decide) ?_
    refine x_zret (dat d_Mo_again 11 rfl) rfl (by decide) ?_
    exact kn (by omega)
end
