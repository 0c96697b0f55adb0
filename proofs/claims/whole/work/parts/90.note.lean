/-! the twin's answers: a note of a book */ -/
theorem sp_Mo_note {g : xG} {K : Option MV → xS → Prop} {σ : xS} {a : Int → Int} {n j w : Int} (A : MoA σ a) (k : ∀ (r : Int) (σ' : xS), (¬ (0 ≤ n ∧ n < a 1) → r = -2) → (0 ≤ n → n < a 1 → r = noteA (bk a n) j w) → MoA σ' a → MoF σ' σ → K (some (vI r)) σ') : Mt g y_Mo_note [vR 174, vI n, vI j, vI w] σ K := by
  have k0 : ¬ (0 ≤ n ∧ n < a 1) → K (some (vI (-2))) σ := fun z => k _ σ (fun _ => rfl) (fun z1 z2 => absurd ⟨z1, z2⟩ z) A (MoF.rfl σ)
  have k1 : ∀ r : Int, r = noteA (bk a n) j w → 0 ≤ n → n < a 1 → K (some (vI r)) σ := fun r e n0 n1 => k r σ (fun z => absurd ⟨n0, n1⟩ z) (fun _ _ => e) A (MoF.rfl σ)
  have hb := A.2.1.2.1
  have c1 : (j = -1 ∧ w = 0) → noteA (bk a n) j w = bk a n 0 := fun z => by unfold noteA; rw [if_pos z]
  have c2 : ¬ (j = -1 ∧ w = 0) → ¬ (0 ≤ j ∧ j < bk a n 0) → noteA (bk a n) j w = -2 := fun z z2 => by unfold noteA; rw [if_neg z, if_pos z2]
  have c3 : (0 ≤ j ∧ j < bk a n 0) → (0 ≤ w ∧ w ≤ 2) → noteA (bk a n) j w = bk a n (1 + 3 * j + w) := fun z z2 => by unfold noteA; rw [if_neg (by omega), if_neg (fun y => y z), if_pos z2]
  have c4 : (0 ≤ j ∧ j < bk a n 0) → ¬ (0 ≤ w ∧ w ≤ 2) → noteA (bk a n) j w = -2 := fun z z2 => by unfold noteA; rw [if_neg (by omega), if_neg (fun y => y z), if_neg z2]
  refine x_enter 1 rfl rfl rfl (fun Z => ?_)
  show Wx g y_Mo_note Z K 0 [vR 174, vI n, vI j, vI w, vU] [] σ
  refine x_aload_n (dat d_Mo_note 0 rfl) rfl rfl ?_
  refine x_iconst (dat d_Mo_note 1 rfl) (by decide) ?_
  refine x_iload_n (dat d_Mo_note 2 rfl) rfl rfl ?_
  refine x_inv (As := [vI 1, vI n]) (dat d_Mo_note 3 rfl) rfl c_Mo_isOf l_Mo_180 (by decide) (rv_mo (by decide +kernel)) rfl rfl (Nat.le_of_ble_eq_true rfl) ?_
  refine sp_Mo_isOf A (Or.inr rfl) (fun n0 n1 => ?_) (fun n01 => ?_)
  · show Wx g y_Mo_note Z K 6 [vR 174, vI n, vI j, vI w, vU] [vI 1] σ
    refine x_if_ne (tgt := 12) (dat d_Mo_note 4 rfl) (by decide) (fun c_6 => ?_) (fun h => absurd h (by decide))
    refine x_iconst (dat d_Mo_note 7 rfl) (by decide) ?_
    refine x_iload_n (dat d_Mo_note 8 rfl) rfl rfl ?_
    refine x_invs (As := [vI 1, vI n]) (dat d_Mo_note 9 rfl) rfl c_Mo_placeOf l_Mo_190 (by decide) rfl rfl (Nat.le_of_ble_eq_true rfl) ?_
    refine sp_Mo_placeOf n0 (by omega) (Or.inr ⟨rfl, rfl⟩) ?_
    have hB := A.2.2.2 n n0 n1
    have b0 := hB.1
    have e0 : σ 175 (922 + 25 * n) = bk a n 0 := by rw [A.1 _ (by omega) (by omega), bk_at (by decide) (by decide)]; congr 1; omega
    show Wx g y_Mo_note Z K 17 [vR 174, vI n, vI j, vI w, vU] [vI (922 + 25 * n)] σ
    refine x_istore (L' := [vR 174, vI n, vI j, vI w, vI (922 + 25 * n)]) (dat d_Mo_note 10 rfl) (by decide) rfl rfl ?_
    refine x_iload_n (dat d_Mo_note 11 rfl) rfl rfl ?_
    refine x_iconst (dat d_Mo_note 12 rfl) (by decide) ?_
    refine x_icmp_ne (tgt := 41) (dat d_Mo_note 13 rfl) (by decide) (fun c_21 => ?_) (fun c_21 => ?_)
    · refine x_iload_n (dat d_Mo_note 23 rfl) rfl rfl ?_
      refine x_iconst (dat d_Mo_note 24 rfl) (by decide) ?_
      refine x_aload_n (dat d_Mo_note 25 rfl) rfl rfl ?_
      refine x_getr (r := 175) (dat d_Mo_note 26 rfl) rfl f_Mo_7 (or_mk (by decide +kernel)) ?_
      refine x_iload (dat d_Mo_note 27 rfl) rfl ?_
      refine x_iald (n := 3888) (v := bk a n 0) (dat d_Mo_note 28 rfl) (ai_mk (by decide +kernel)) (by omega) (by omega) (by exact e0) ?_
      refine x_iconst (dat d_Mo_note 29 rfl) (by decide) ?_
      refine x_isub (v := (bk a n 0) - 1) (dat d_Mo_note 30 rfl) rfl (by omega) ?_
      refine x_invs (As := [vI j, vI 0, vI ((bk a n 0) - 1)]) (dat d_Mo_note 31 rfl) rfl c_Mo_isIn l_Mo_136 (by decide) rfl rfl (Nat.le_of_ble_eq_true rfl) ?_
      refine sp_Mo_isIn (fun y1 y2 => ?_) (fun y1 => ?_)
      · show Wx g y_Mo_note Z K 55 [vR 174, vI n, vI j, vI w, vI (922 + 25 * n)] [vI 1] σ
        refine x_if_eq (tgt := 85) (dat d_Mo_note 32 rfl) (by decide) (fun h => absurd h (by decide)) (fun c_55 => ?_)
        refine x_iload_n (dat d_Mo_note 33 rfl) rfl rfl ?_
        refine x_iconst (dat d_Mo_note 34 rfl) (by decide) ?_
        refine x_iconst (dat d_Mo_note 35 rfl) (by decide) ?_
        refine x_invs (As := [vI w, vI 0, vI 2]) (dat d_Mo_note 36 rfl) rfl c_Mo_isIn l_Mo_136 (by decide) rfl rfl (Nat.le_of_ble_eq_true rfl) ?_
        refine sp_Mo_isIn (fun x1 x2 => ?_) (fun x1 => ?_)
        · show Wx g y_Mo_note Z K 64 [vR 174, vI n, vI j, vI w, vI (922 + 25 * n)] [vI 1] σ
          refine x_if_eq (tgt := 85) (dat d_Mo_note 37 rfl) (by decide) (fun h => absurd h (by decide)) (fun c_64 => ?_)
          refine x_aload_n (dat d_Mo_note 38 rfl) rfl rfl ?_
          refine x_getr (r := 175) (dat d_Mo_note 39 rfl) rfl f_Mo_7 (or_mk (by decide +kernel)) ?_
          refine x_iload (dat d_Mo_note 40 rfl) rfl ?_
          refine x_iconst (dat d_Mo_note 41 rfl) (by decide) ?_
          refine x_iadd (v := (922 + 25 * n) + 1) (dat d_Mo_note 42 rfl) rfl (by omega) ?_
          refine x_iconst (dat d_Mo_note 43 rfl) (by decide) ?_
          refine x_iload_n (dat d_Mo_note 44 rfl) rfl rfl ?_
          refine x_imul (v := 3 * j) (dat d_Mo_note 45 rfl) (by omega) (by omega) ?_
          refine x_iadd (v := ((922 + 25 * n) + 1) + (3 * j)) (dat d_Mo_note 46 rfl) rfl (by omega) ?_
          refine x_iload_n (dat d_Mo_note 47 rfl) rfl rfl ?_
          refine x_iadd (v := 922 + 25 * n + (1 + 3 * j + w)) (dat d_Mo_note 48 rfl) (by omega) (by omega) ?_
          refine x_iald (n := 3888) (v := bk a n (1 + 3 * j + w)) (dat d_Mo_note 49 rfl) (ai_mk (by decide +kernel)) (by omega) (by omega) (by rw [A.1 _ (by omega) (by omega), bk_at (by omega) (by omega)]) ?_
          refine x_goto (tgt := 87) (dat d_Mo_note 50 rfl) (by decide) ?_
          refine x_iret (dat d_Mo_note 52 rfl) rfl ?_
          first
          | exact k0 n01
          | exact k1 _ (c1 (by omega)).symm n0 n1
          | exact k1 _ (c2 (by omega) (by omega)).symm n0 n1
          | exact k1 _ (c3 (by omega) (by omega)).symm n0 n1
          | exact k1 _ (c4 (by omega) (by omega)).symm n0 n1
        · show Wx g y_Mo_note Z K 64 [vR 174, vI n, vI j, vI w, vI (922 + 25 * n)] [vI 0] σ
          refine x_if_eq (tgt := 85) (dat d_Mo_note 37 rfl) (by decide) (fun c_64 => ?_) (fun h => absurd h (by decide))
          refine x_bipush (dat d_Mo_note 51 rfl) (by decide) (by decide) ?_
          refine x_iret (dat d_Mo_note 52 rfl) rfl ?_
          first
          | exact k0 n01
          | exact k1 _ (c1 (by omega)).symm n0 n1
          | exact k1 _ (c2 (by omega) (by omega)).symm n0 n1
          | exact k1 _ (c3 (by omega) (by omega)).symm n0 n1
          | exact k1 _ (c4 (by omega) (by omega)).symm n0 n1
      · show Wx g y_Mo_note Z K 55 [vR 174, vI n, vI j, vI w, vI (922 + 25 * n)] [vI 0] σ
        refine x_if_eq (tgt := 85) (dat d_Mo_note 32 rfl) (by decide) (fun c_55 => ?_) (fun h => absurd h (by decide))
        refine x_bipush (dat d_Mo_note 51 rfl) (by decide) (by decide) ?_
        refine x_iret (dat d_Mo_note 52 rfl) rfl ?_
        first
        | exact k0 n01
        | exact k1 _ (c1 (by omega)).symm n0 n1
        | exact k1 _ (c2 (by omega) (by omega)).symm n0 n1
        | exact k1 _ (c3 (by omega) (by omega)).symm n0 n1
        | exact k1 _ (c4 (by omega) (by omega)).symm n0 n1
    · refine x_iload_n (dat d_Mo_note 14 rfl) rfl rfl ?_
      refine x_if_ne (tgt := 38) (dat d_Mo_note 15 rfl) (by decide) (fun c_25 => ?_) (fun c_25 => ?_)
      · refine x_bipush (dat d_Mo_note 21 rfl) (by decide) (by decide) ?_
        refine x_iret (dat d_Mo_note 22 rfl) rfl ?_
        first
        | exact k0 n01
        | exact k1 _ (c1 (by omega)).symm n0 n1
        | exact k1 _ (c2 (by omega) (by omega)).symm n0 n1
        | exact k1 _ (c3 (by omega) (by omega)).symm n0 n1
        | exact k1 _ (c4 (by omega) (by omega)).symm n0 n1
      · refine x_aload_n (dat d_Mo_note 16 rfl) rfl rfl ?_
        refine x_getr (r := 175) (dat d_Mo_note 17 rfl) rfl f_Mo_7 (or_mk (by decide +kernel)) ?_
        refine x_iload (dat d_Mo_note 18 rfl) rfl ?_
        refine x_iald (n := 3888) (v := bk a n 0) (dat d_Mo_note 19 rfl) (ai_mk (by decide +kernel)) (by omega) (by omega) (by exact e0) ?_
        refine x_goto (tgt := 40) (dat d_Mo_note 20 rfl) (by decide) ?_
        refine x_iret (dat d_Mo_note 22 rfl) rfl ?_
        first
        | exact k0 n01
        | exact k1 _ (c1 (by omega)).symm n0 n1
        | exact k1 _ (c2 (by omega) (by omega)).symm n0 n1
        | exact k1 _ (c3 (by omega) (by omega)).symm n0 n1
        | exact k1 _ (c4 (by omega) (by omega)).symm n0 n1
  · show Wx g y_Mo_note Z K 6 [vR 174, vI n, vI j, vI w, vU] [vI 0] σ
    refine x_if_ne (tgt := 12) (dat d_Mo_note 4 rfl) (by decide) (fun h => absurd h (by decide)) (fun c_6 => ?_)
    refine x_bipush (dat d_Mo_note 5 rfl) (by decide) (by decide) ?_
    refine x_iret (dat d_Mo_note 6 rfl) rfl ?_
    first
    | exact k0 n01
    | exact k1 _ (c1 (by omega)).symm n0 n1
    | exact k1 _ (c2 (by omega) (by omega)).symm n0 n1
    | exact k1 _ (c3 (by omega) (by omega)).symm n0 n1
    | exact k1 _ (c4 (by omega) (by omega)).symm n0 n1
