/-! the twin's answers: what is told; a run as it is -/
section
variable {g : xG} {K : Option MV → xS → Prop} {σ : xS} {t : Int → Int} {t0 : Int} {a : Int → Int} {n : Int} {C : Cf}
theorem sp_Mo_town {w : Int} (A : MoA σ a) (k : ∀ (r : Int) (σ' : xS), atT a n (-1) (fun t r => r = townA t w) r → MoA σ' a → MoF σ' σ → K (some (vI r)) σ') : Mt g y_Mo_town [vR 174, vI n, vI w] σ K := by
  have k0 : ¬ (0 ≤ n ∧ n < a 0) → K (some (vI (-1))) σ := fun z => k _ σ ⟨fun _ => rfl, fun z1 z2 => absurd ⟨z1, z2⟩ z⟩ A (MoF.rfl σ)
  have k1 : ∀ (r : Int) (σ' : xS), r = townA (tw a n) w → 0 ≤ n → n < a 0 → MoA σ' a → MoF σ' σ → K (some (vI r)) σ' := fun r σ' e n0 n1 A1 F1 => k r σ' ⟨fun z => absurd ⟨n0, n1⟩ z, fun _ _ => e⟩ A1 F1
  have c1 : (0 ≤ w ∧ w ≤ 7) → townA (tw a n) w = tw a n w := fun z => by unfold townA; rw [if_pos z]
  have c2 : ¬ (0 ≤ w ∧ w ≤ 7) → (10 ≤ w ∧ w < 10 + tw a n 7) → townA (tw a n) w = tw a n (8 + 2 * (w - 10)) := fun z z2 => by unfold townA; rw [if_neg z, if_pos z2]
  have c3 : ¬ (0 ≤ w ∧ w ≤ 7) → ¬ (10 ≤ w ∧ w < 10 + tw a n 7) → (20 ≤ w ∧ w < 20 + tw a n 7) → townA (tw a n) w = tw a n (9 + 2 * (w - 20)) := fun z z2 z3 => by unfold townA; rw [if_neg z, if_neg z2, if_pos z3]
  have c4 : ¬ (0 ≤ w ∧ w ≤ 7) → ¬ (10 ≤ w ∧ w < 10 + tw a n 7) → ¬ (20 ≤ w ∧ w < 20 + tw a n 7) → townA (tw a n) w = -1 := fun z z2 z3 => by unfold townA; rw [if_neg z, if_neg z2, if_neg z3]
  refine x_enter 0 rfl rfl rfl (fun Z => ?_)
  show Wx g y_Mo_town Z K 0 [vR 174, vI n, vI w] [] σ
  refine x_aload_n (dat d_Mo_town 0 rfl) rfl rfl ?_
  refine x_iload_n (dat d_Mo_town 1 rfl) rfl rfl ?_
  refine x_inv (As := [vI n]) (dat d_Mo_town 2 rfl) rfl c_Mo_isTown l_Mo_205 (by decide) (rv_mo (by decide +kernel)) rfl rfl (Nat.le_of_ble_eq_true rfl) ?_
  refine sp_Mo_isTown A (fun σ1 t0 n0 n1 H P Z1 A1 F => ?_) (fun n01 => ?_)
  · show Wx g y_Mo_town Z K 5 [vR 174, vI n, vI w] [vI 1] σ1
    refine x_if_ne (tgt := 10) (dat d_Mo_town 3 rfl) (by decide) (fun c_5 => ?_) (fun h => absurd h (by decide))
    refine x_iload_n (dat d_Mo_town 6 rfl) rfl rfl ?_
    refine x_iconst (dat d_Mo_town 7 rfl) (by decide) ?_
    refine x_bipush (dat d_Mo_town 8 rfl) (by decide) (by decide) ?_
    refine x_invs (As := [vI w, vI 0, vI 7]) (dat d_Mo_town 9 rfl) rfl c_Mo_isIn l_Mo_136 (by decide) rfl rfl (Nat.le_of_ble_eq_true rfl) ?_
    refine sp_Mo_isIn (fun x1 x2 => ?_) (fun x1 => ?_)
    · show Wx g y_Mo_town Z K 17 [vR 174, vI n, vI w] [vI 1] σ1
      refine x_if_eq (tgt := 26) (dat d_Mo_town 10 rfl) (by decide) (fun h => absurd h (by decide)) (fun c_17 => ?_)
      refine x_aload_n (dat d_Mo_town 11 rfl) rfl rfl ?_
      refine x_iload_n (dat d_Mo_town 12 rfl) rfl rfl ?_
      refine x_inv (As := [vI w]) (dat d_Mo_town 13 rfl) rfl c_Mo_of l_Mo_199 (by decide) (rv_mo (by decide +kernel)) rfl rfl (Nat.le_of_ble_eq_true rfl) ?_
      refine sp_Mo_of H.1.1 (by omega) (by omega) ?_
      show Wx g y_Mo_town Z K 25 [vR 174, vI n, vI w] [vI (tw a n w)] σ1
      refine x_iret (dat d_Mo_town 14 rfl) rfl ?_
      first
      | exact k0 n01
      | exact k1 _ _ (c1 ⟨x1, x2⟩).symm n0 n1 A1 F
      | exact k1 _ _ (c2 x1 ⟨y1, by omega⟩).symm n0 n1 A1 F
      | exact k1 _ _ (c3 x1 (fun w => y1 (by omega)) ⟨z1, by omega⟩).symm n0 n1 A1 F
      | exact k1 _ _ (c4 x1 (fun w => y1 (by omega)) (fun w => z1 (by omega))).symm n0 n1 A1 F
    · show Wx g y_Mo_town Z K 17 [vR 174, vI n, vI w] [vI 0] σ1
      refine x_if_eq (tgt := 26) (dat d_Mo_town 10 rfl) (by decide) (fun c_17 => ?_) (fun h => absurd h (by decide))
      refine x_iload_n (dat d_Mo_town 15 rfl) rfl rfl ?_
      refine x_bipush (dat d_Mo_town 16 rfl) (by decide) (by decide) ?_
      refine x_bipush (dat d_Mo_town 17 rfl) (by decide) (by decide) ?_
      refine x_aload_n (dat d_Mo_town 18 rfl) rfl rfl ?_
      refine x_bipush (dat d_Mo_town 19 rfl) (by decide) (by decide) ?_
      refine x_inv (As := [vI 7]) (dat d_Mo_town 20 rfl) rfl c_Mo_of l_Mo_199 (by decide) (rv_mo (by decide +kernel)) rfl rfl (Nat.le_of_ble_eq_true rfl) ?_
      refine sp_Mo_of H.1.1 (by decide) (by decide) ?_
      have t7 := H.1.2.2.2.2.2.2.2.2.1
      show Wx g y_Mo_town Z K 37 [vR 174, vI n, vI w] [vI (tw a n 7), vI 9, vI 10, vI w] σ1
      refine x_iadd (v := 9 + (tw a n 7)) (dat d_Mo_town 21 rfl) rfl (by omega) ?_
      refine x_invs (As := [vI w, vI 10, vI (9 + (tw a n 7))]) (dat d_Mo_town 22 rfl) rfl c_Mo_isIn l_Mo_136 (by decide) rfl rfl (Nat.le_of_ble_eq_true rfl) ?_
      refine sp_Mo_isIn (fun y1 y2 => ?_) (fun y1 => ?_)
      · show Wx g y_Mo_town Z K 41 [vR 174, vI n, vI w] [vI 1] σ1
        refine x_if_eq (tgt := 58) (dat d_Mo_town 23 rfl) (by decide) (fun h => absurd h (by decide)) (fun c_41 => ?_)
        refine x_aload_n (dat d_Mo_town 24 rfl) rfl rfl ?_
        refine x_bipush (dat d_Mo_town 25 rfl) (by decide) (by decide) ?_
        refine x_iconst (dat d_Mo_town 26 rfl) (by decide) ?_
        refine x_iload_n (dat d_Mo_town 27 rfl) rfl rfl ?_
        refine x_bipush (dat d_Mo_town 28 rfl) (by decide) (by decide) ?_
        refine x_isub (v := w - 10) (dat d_Mo_town 29 rfl) rfl (by omega) ?_
        refine x_imul (v := 2 * (w - 10)) (dat d_Mo_town 30 rfl) (by omega) (by omega) ?_
        refine x_iadd (v := 8 + (2 * (w - 10))) (dat d_Mo_town 31 rfl) rfl (by omega) ?_
        refine x_inv (As := [vI (8 + (2 * (w - 10)))]) (dat d_Mo_town 32 rfl) rfl c_Mo_of l_Mo_199 (by decide) (rv_mo (by decide +kernel)) rfl rfl (Nat.le_of_ble_eq_true rfl) ?_
        refine sp_Mo_of H.1.1 (by omega) (by omega) ?_
        show Wx g y_Mo_town Z K 57 [vR 174, vI n, vI w] [vI (tw a n (8 + 2 * (w - 10)))] σ1
        refine x_iret (dat d_Mo_town 33 rfl) rfl ?_
        first
        | exact k0 n01
        | exact k1 _ _ (c1 ⟨x1, x2⟩).symm n0 n1 A1 F
        | exact k1 _ _ (c2 x1 ⟨y1, by omega⟩).symm n0 n1 A1 F
        | exact k1 _ _ (c3 x1 (fun w => y1 (by omega)) ⟨z1, by omega⟩).symm n0 n1 A1 F
        | exact k1 _ _ (c4 x1 (fun w => y1 (by omega)) (fun w => z1 (by omega))).symm n0 n1 A1 F
      · show Wx g y_Mo_town Z K 41 [vR 174, vI n, vI w] [vI 0] σ1
        refine x_if_eq (tgt := 58) (dat d_Mo_town 23 rfl) (by decide) (fun c_41 => ?_) (fun h => absurd h (by decide))
        refine x_iload_n (dat d_Mo_town 34 rfl) rfl rfl ?_
        refine x_bipush (dat d_Mo_town 35 rfl) (by decide) (by decide) ?_
        refine x_bipush (dat d_Mo_town 36 rfl) (by decide) (by decide) ?_
        refine x_aload_n (dat d_Mo_town 37 rfl) rfl rfl ?_
        refine x_bipush (dat d_Mo_town 38 rfl) (by decide) (by decide) ?_
        refine x_inv (As := [vI 7]) (dat d_Mo_town 39 rfl) rfl c_Mo_of l_Mo_199 (by decide) (rv_mo (by decide +kernel)) rfl rfl (Nat.le_of_ble_eq_true rfl) ?_
        refine sp_Mo_of H.1.1 (by decide) (by decide) ?_
        show Wx g y_Mo_town Z K 69 [vR 174, vI n, vI w] [vI (tw a n 7), vI 19, vI 20, vI w] σ1
        refine x_iadd (v := 19 + (tw a n 7)) (dat d_Mo_town 40 rfl) rfl (by omega) ?_
        refine x_invs (As := [vI w, vI 20, vI (19 + (tw a n 7))]) (dat d_Mo_town 41 rfl) rfl c_Mo_isIn l_Mo_136 (by decide) rfl rfl (Nat.le_of_ble_eq_true rfl) ?_
        refine sp_Mo_isIn (fun z1 z2 => ?_) (fun z1 => ?_)
        · show Wx g y_Mo_town Z K 73 [vR 174, vI n, vI w] [vI 1] σ1
          refine x_if_eq (tgt := 92) (dat d_Mo_town 42 rfl) (by decide) (fun h => absurd h (by decide)) (fun c_73 => ?_)
          refine x_aload_n (dat d_Mo_town 43 rfl) rfl rfl ?_
          refine x_bipush (dat d_Mo_town 44 rfl) (by decide) (by decide) ?_
          refine x_iconst (dat d_Mo_town 45 rfl) (by decide) ?_
          refine x_iload_n (dat d_Mo_town 46 rfl) rfl rfl ?_
          refine x_bipush (dat d_Mo_town 47 rfl) (by decide) (by decide) ?_
          refine x_isub (v := w - 20) (dat d_Mo_town 48 rfl) rfl (by omega) ?_
          refine x_imul (v := 2 * (w - 20)) (dat d_Mo_town 49 rfl) (by omega) (by omega) ?_
          refine x_iadd (v := 9 + (2 * (w - 20))) (dat d_Mo_town 50 rfl) rfl (by omega) ?_
          refine x_inv (As := [vI (9 + (2 * (w - 20)))]) (dat d_Mo_town 51 rfl) rfl c_Mo_of l_Mo_199 (by decide) (rv_mo (by decide +kernel)) rfl rfl (Nat.le_of_ble_eq_true rfl) ?_
          refine sp_Mo_of H.1.1 (by omega) (by omega) ?_
          show Wx g y_Mo_town Z K 89 [vR 174, vI n, vI w] [vI (tw a n (9 + 2 * (w - 20)))] σ1
          refine x_goto (tgt := 93) (dat d_Mo_town 52 rfl) (by decide) ?_
          refine x_iret (dat d_Mo_town 54 rfl) rfl ?_
          first
          | exact k0 n01
          | exact k1 _ _ (c1 ⟨x1, x2⟩).symm n0 n1 A1 F
          | exact k1 _ _ (c2 x1 ⟨y1, by omega⟩).symm n0 n1 A1 F
          | exact k1 _ _ (c3 x1 (fun w => y1 (by omega)) ⟨z1, by omega⟩).symm n0 n1 A1 F
          | exact k1 _ _ (c4 x1 (fun w => y1 (by omega)) (fun w => z1 (by omega))).symm n0 n1 A1 F
        · show Wx g y_Mo_town Z K 73 [vR 174, vI n, vI w] [vI 0] σ1
          refine x_if_eq (tgt := 92) (dat d_Mo_town 42 rfl) (by decide) (fun c_73 => ?_) (fun h => absurd h (by decide))
          refine x_iconst (dat d_Mo_town 53 rfl) (by decide) ?_
          refine x_iret (dat d_Mo_town 54 rfl) rfl ?_
          first
          | exact k0 n01
          | exact k1 _ _ (c1 ⟨x1, x2⟩).symm n0 n1 A1 F
          | exact k1 _ _ (c2 x1 ⟨y1, by omega⟩).symm n0 n1 A1 F
          | exact k1 _ _ (c3 x1 (fun w => y1 (by omega)) ⟨z1, by omega⟩).symm n0 n1 A1 F
          | exact k1 _ _ (c4 x1 (fun w => y1 (by omega)) (fun w => z1 (by omega))).symm n0 n1 A1 F
  · show Wx g y_Mo_town Z K 5 [vR 174, vI n, vI w] [vI 0] σ
    refine x_if_ne (tgt := 10) (dat d_Mo_town 3 rfl) (by decide) (fun h => absurd h (by decide)) (fun c_5 => ?_)
    refine x_iconst (dat d_Mo_town 4 rfl) (by decide) ?_
    refine x_iret (dat d_Mo_town 5 rfl) rfl ?_
    first
    | exact k0 n01
    | exact k1 _ _ (c1 ⟨x1, x2⟩).symm n0 n1 A1 F
    | exact k1 _ _ (c2 x1 ⟨y1, by omega⟩).symm n0 n1 A1 F
    | exact k1 _ _ (c3 x1 (fun w => y1 (by omega)) ⟨z1, by omega⟩).symm n0 n1 A1 F
    | exact k1 _ _ (c4 x1 (fun w => y1 (by omega)) (fun w => z1 (by omega))).symm n0 n1 A1 F
theorem sp_Mo_person {p w : Int} (A : MoA σ a) (k : ∀ (r : Int) (σ' : xS), atT a n (-1) (fun t r => r = personA t p w) r → MoA σ' a → MoF σ' σ → K (some (vI r)) σ') : Mt g y_Mo_person [vR 174, vI n, vI p, vI w] σ K := by
  have k0 : ¬ (0 ≤ n ∧ n < a 0) → K (some (vI (-1))) σ := fun z => k _ σ ⟨fun _ => rfl, fun z1 z2 => absurd ⟨z1, z2⟩ z⟩ A (MoF.rfl σ)
  have k1 : ∀ (r : Int) (σ' : xS), r = personA (tw a n) p w → 0 ≤ n → n < a 0 → MoA σ' a → MoF σ' σ → K (some (vI r)) σ' := fun r σ' e n0 n1 A1 F1 => k r σ' ⟨fun z => absurd ⟨n0, n1⟩ z, fun _ _ => e⟩ A1 F1
  have e4 : tw a n (20 + 17 * p + 4) = tw a n (24 + 17 * p) := by congr 1; omega
  have c0 : ¬ (0 ≤ p ∧ p < tw a n 6) → personA (tw a n) p w = -1 := fun z => by unfold personA; rw [if_pos z]
  have c1 : (0 ≤ p ∧ p < tw a n 6) → (0 ≤ w ∧ w ≤ 4) → personA (tw a n) p w = tw a n (20 + 17 * p + w) := fun y z => by unfold personA; rw [if_neg (fun q => q y), if_pos z]
  have c2 : (0 ≤ p ∧ p < tw a n 6) → ¬ (0 ≤ w ∧ w ≤ 4) → (10 ≤ w ∧ w < 10 + tw a n (24 + 17 * p)) → personA (tw a n) p w = tw a n (20 + 17 * p + (5 + w - 10)) := fun y z z2 => by unfold personA; rw [if_neg (fun q => q y), if_neg z, if_pos z2]; congr 1; omega
  have c3 : (0 ≤ p ∧ p < tw a n 6) → ¬ (0 ≤ w ∧ w ≤ 4) → ¬ (10 ≤ w ∧ w < 10 + tw a n (24 + 17 * p)) → personA (tw a n) p w = -1 := fun y z z2 => by unfold personA; rw [if_neg (fun q => q y), if_neg z, if_neg z2]
  refine x_enter 0 rfl rfl rfl (fun Z => ?_)
  show Wx g y_Mo_person Z K 0 [vR 174, vI n, vI p, vI w] [] σ
  refine x_aload_n (dat d_Mo_person 0 rfl) rfl rfl ?_
  refine x_iload_n (dat d_Mo_person 1 rfl) rfl rfl ?_
  refine x_inv (As := [vI n]) (dat d_Mo_person 2 rfl) rfl c_Mo_isTown l_Mo_205 (by decide) (rv_mo (by decide +kernel)) rfl rfl (Nat.le_of_ble_eq_true rfl) ?_
  refine sp_Mo_isTown A (fun σ1 t0 n0 n1 H P Z1 A1 F => ?_) (fun n01 => ?_)
  · show Wx g y_Mo_person Z K 5 [vR 174, vI n, vI p, vI w] [vI 1] σ1
    refine x_if_eq (tgt := 16) (dat d_Mo_person 3 rfl) (by decide) (fun h => absurd h (by decide)) (fun c_5 => ?_)
    refine x_aload_n (dat d_Mo_person 4 rfl) rfl rfl ?_
    refine x_iload_n (dat d_Mo_person 5 rfl) rfl rfl ?_
    refine x_inv (As := [vI p]) (dat d_Mo_person 6 rfl) rfl c_Mo_isPerson l_Mo_208 (by decide) (rv_mo (by decide +kernel)) rfl rfl (Nat.le_of_ble_eq_true rfl) ?_
    refine sp_Mo_isPerson H.1.1 H.1.2 (fun p0 p1 => ?_) (fun p01 => ?_)
    · show Wx g y_Mo_person Z K 13 [vR 174, vI n, vI p, vI w] [vI 1] σ1
      refine x_if_ne (tgt := 18) (dat d_Mo_person 7 rfl) (by decide) (fun c_13 => ?_) (fun h => absurd h (by decide))
      refine x_iload_n (dat d_Mo_person 10 rfl) rfl rfl ?_
      refine x_iconst (dat d_Mo_person 11 rfl) (by decide) ?_
      refine x_iconst (dat d_Mo_person 12 rfl) (by decide) ?_
      refine x_invs (As := [vI w, vI 0, vI 4]) (dat d_Mo_person 13 rfl) rfl c_Mo_isIn l_Mo_136 (by decide) rfl rfl (Nat.le_of_ble_eq_true rfl) ?_
      refine sp_Mo_isIn (fun x1 x2 => ?_) (fun x1 => ?_)
      · show Wx g y_Mo_person Z K 24 [vR 174, vI n, vI p, vI w] [vI 1] σ1
        refine x_if_eq (tgt := 34) (dat d_Mo_person 14 rfl) (by decide) (fun h => absurd h (by decide)) (fun c_24 => ?_)
        refine x_aload_n (dat d_Mo_person 15 rfl) rfl rfl ?_
        refine x_iload_n (dat d_Mo_person 16 rfl) rfl rfl ?_
        refine x_iload_n (dat d_Mo_person 17 rfl) rfl rfl ?_
        refine x_inv (As := [vI p, vI w]) (dat d_Mo_person 18 rfl) rfl c_Mo_personOf l_Mo_211 (by decide) (rv_mo (by decide +kernel)) rfl rfl (Nat.le_of_ble_eq_true rfl) ?_
        refine sp_Mo_personOf H.1.1 p0 (by have := H.1.2.2.2.2.2.2.2.1; omega) x1 (by omega) ?_
        show Wx g y_Mo_person Z K 33 [vR 174, vI n, vI p, vI w] [vI (tw a n (20 + 17 * p + w))] σ1
        refine x_iret (dat d_Mo_person 19 rfl) rfl ?_
        first
        | exact k0 n01
        | exact k1 _ _ (c0 p01).symm n0 n1 A1 F
        | exact k1 _ _ (c1 ⟨p0, p1⟩ ⟨x1, x2⟩).symm n0 n1 A1 F
        | exact k1 _ _ (c2 ⟨p0, p1⟩ x1 ⟨y1, by omega⟩).symm n0 n1 A1 F
        | exact k1 _ _ (c3 ⟨p0, p1⟩ x1 (fun w => y1 (by omega))).symm n0 n1 A1 F
      · show Wx g y_Mo_person Z K 24 [vR 174, vI n, vI p, vI w] [vI 0] σ1
        refine x_if_eq (tgt := 34) (dat d_Mo_person 14 rfl) (by decide) (fun c_24 => ?_) (fun h => absurd h (by decide))
        refine x_iload_n (dat d_Mo_person 20 rfl) rfl rfl ?_
        refine x_bipush (dat d_Mo_person 21 rfl) (by decide) (by decide) ?_
        refine x_bipush (dat d_Mo_person 22 rfl) (by decide) (by decide) ?_
        refine x_aload_n (dat d_Mo_person 23 rfl) rfl rfl ?_
        refine x_iload_n (dat d_Mo_person 24 rfl) rfl rfl ?_
        refine x_iconst (dat d_Mo_person 25 rfl) (by decide) ?_
        refine x_inv (As := [vI p, vI 4]) (dat d_Mo_person 26 rfl) rfl c_Mo_personOf l_Mo_211 (by decide) (rv_mo (by decide +kernel)) rfl rfl (Nat.le_of_ble_eq_true rfl) ?_
        refine sp_Mo_personOf H.1.1 p0 (by have := H.1.2.2.2.2.2.2.2.1; omega) (by decide) (by decide) ?_
        have t24 := (H.1.2.2.2.2.2.2.2.2.2.1 p p0 p1).2.2.2.2.1
        rw [e4]
        show Wx g y_Mo_person Z K 45 [vR 174, vI n, vI p, vI w] [vI (tw a n (24 + 17 * p)), vI 9, vI 10, vI w] σ1
        refine x_iadd (v := 9 + (tw a n (24 + 17 * p))) (dat d_Mo_person 27 rfl) rfl (by omega) ?_
        refine x_invs (As := [vI w, vI 10, vI (9 + (tw a n (24 + 17 * p)))]) (dat d_Mo_person 28 rfl) rfl c_Mo_isIn l_Mo_136 (by decide) rfl rfl (Nat.le_of_ble_eq_true rfl) ?_
        refine sp_Mo_isIn (fun y1 y2 => ?_) (fun y1 => ?_)
        · show Wx g y_Mo_person Z K 49 [vR 174, vI n, vI p, vI w] [vI 1] σ1
          refine x_if_eq (tgt := 66) (dat d_Mo_person 29 rfl) (by decide) (fun h => absurd h (by decide)) (fun c_49 => ?_)
          refine x_aload_n (dat d_Mo_person 30 rfl) rfl rfl ?_
          refine x_iload_n (dat d_Mo_person 31 rfl) rfl rfl ?_
          refine x_iconst (dat d_Mo_person 32 rfl) (by decide) ?_
          refine x_iload_n (dat d_Mo_person 33 rfl) rfl rfl ?_
          refine x_iadd (v := 5 + w) (dat d_Mo_person 34 rfl) rfl (by omega) ?_
          refine x_bipush (dat d_Mo_person 35 rfl) (by decide) (by decide) ?_
          refine x_isub (v := (5 + w) - 10) (dat d_Mo_person 36 rfl) rfl (by omega) ?_
          refine x_inv (As := [vI p, vI ((5 + w) - 10)]) (dat d_Mo_person 37 rfl) rfl c_Mo_personOf l_Mo_211 (by decide) (rv_mo (by decide +kernel)) rfl rfl (Nat.le_of_ble_eq_true rfl) ?_
          refine sp_Mo_personOf H.1.1 p0 (by have := H.1.2.2.2.2.2.2.2.1; omega) (by omega) (by omega) ?_
          show Wx g y_Mo_person Z K 63 [vR 174, vI n, vI p, vI w] [vI (tw a n (20 + 17 * p + (5 + w - 10)))] σ1
          refine x_goto (tgt := 67) (dat d_Mo_person 38 rfl) (by decide) ?_
          refine x_iret (dat d_Mo_person 40 rfl) rfl ?_
          first
          | exact k0 n01
          | exact k1 _ _ (c0 p01).symm n0 n1 A1 F
          | exact k1 _ _ (c1 ⟨p0, p1⟩ ⟨x1, x2⟩).symm n0 n1 A1 F
          | exact k1 _ _ (c2 ⟨p0, p1⟩ x1 ⟨y1, by omega⟩).symm n0 n1 A1 F
          | exact k1 _ _ (c3 ⟨p0, p1⟩ x1 (fun w => y1 (by omega))).symm n0 n1 A1 F
        · show Wx g y_Mo_person Z K 49 [vR 174, vI n, vI p, vI w] [vI 0] σ1
          refine x_if_eq (tgt := 66) (dat d_Mo_person 29 rfl) (by decide) (fun c_49 => ?_) (fun h => absurd h (by decide))
          refine x_iconst (dat d_Mo_person 39 rfl) (by decide) ?_
          refine x_iret (dat d_Mo_person 40 rfl) rfl ?_
          first
          | exact k0 n01
          | exact k1 _ _ (c0 p01).symm n0 n1 A1 F
          | exact k1 _ _ (c1 ⟨p0, p1⟩ ⟨x1, x2⟩).symm n0 n1 A1 F
          | exact k1 _ _ (c2 ⟨p0, p1⟩ x1 ⟨y1, by omega⟩).symm n0 n1 A1 F
          | exact k1 _ _ (c3 ⟨p0, p1⟩ x1 (fun w => y1 (by omega))).symm n0 n1 A1 F
    · show Wx g y_Mo_person Z K 13 [vR 174, vI n, vI p, vI w] [vI 0] σ1
      refine x_if_ne (tgt := 18) (dat d_Mo_person 7 rfl) (by decide) (fun h => absurd h (by decide)) (fun c_13 => ?_)
      refine x_iconst (dat d_Mo_person 8 rfl) (by decide) ?_
      refine x_iret (dat d_Mo_person 9 rfl) rfl ?_
      first
      | exact k0 n01
      | exact k1 _ _ (c0 p01).symm n0 n1 A1 F
      | exact k1 _ _ (c1 ⟨p0, p1⟩ ⟨x1, x2⟩).symm n0 n1 A1 F
      | exact k1 _ _ (c2 ⟨p0, p1⟩ x1 ⟨y1, by omega⟩).symm n0 n1 A1 F
      | exact k1 _ _ (c3 ⟨p0, p1⟩ x1 (fun w => y1 (by omega))).symm n0 n1 A1 F
  · show Wx g y_Mo_person Z K 5 [vR 174, vI n, vI p, vI w] [vI 0] σ
    refine x_if_eq (tgt := 16) (dat d_Mo_person 3 rfl) (by decide) (fun c_5 => ?_) (fun h => absurd h (by decide))
    refine x_iconst (dat d_Mo_person 8 rfl) (by decide) ?_
    refine x_iret (dat d_Mo_person 9 rfl) rfl ?_
    first
    | exact k0 n01
    | exact k1 _ _ (c0 p01).symm n0 n1 A1 F
    | exact k1 _ _ (c1 ⟨p0, p1⟩ ⟨x1, x2⟩).symm n0 n1 A1 F
    | exact k1 _ _ (c2 ⟨p0, p1⟩ x1 ⟨y1, by omega⟩).symm n0 n1 A1 F
    | exact k1 _ _ (c3 ⟨p0, p1⟩ x1 (fun w => y1 (by omega))).symm n0 n1 A1 F
/-- a run of a town with no paint, fever, news -/
def Tw1 (σ σ' : xS) (C : Cf) : Prop := TwR σ σ' C (fun _ => false) (σ 174 40, fun _ => false) (fun _ => false) false (σ 174 41) (cH C)
theorem sp_Mo_runs1 (H : MoC σ t t0 C) (h6 : σ 174 36 = 0) (h7 : σ 174 37 = 0) (h2 : σ 174 52 = 0) (h9 : σ 174 39 = 0) (hlf : cS C 6 = -1 ∨ (0 ≤ cS C 5 ∧ cS C 5 < t 6)) (k : ∀ σ' : xS, Tw1 σ σ' C → K none σ') : Mt g y_Mo_runs [vR 174] σ K :=
  sp_Mo_runs H (by rw [h6]; exact Msk.zero 8) ⟨by rw [h7]; exact Msk.zero 8, rfl⟩ (by rw [h2]; exact Msk.zero 8) hlf (by rw [h9]; rfl) rfl k
theorem sp_Mo_runsP (H : MoC σ t t0 (cfg t)) (P : Pln (σ 174) t) (k : ∀ σ' : xS, Tw1 σ σ' (cfg t) → K none σ') : Mt g y_Mo_runs [vR 174] σ K :=
  sp_Mo_runs1 H P.2.2.1.1 P.2.2.2.1 P.2.2.1.2 P.2.2.2.2 (Or.inl rfl) k
theorem sp_Mo_starved (H : MoC σ t t0 C) (h6 : σ 174 36 = 0) (h7 : σ 174 37 = 0) (h2 : σ 174 52 = 0) (h9 : σ 174 39 = 0) (hlf : cS C 6 = -1 ∨ (0 ≤ cS C 5 ∧ cS C 5 < t 6)) (k : ∀ σ' : xS, Tw1 σ σ' C → K (some (vI (stv C))) σ') : Mt g y_Mo_starved [vR 174] σ K := by
  have t6 := H.1.2.2.2.2.2.2.2.1
  have eP := H.P.1
  refine x_enter 0 rfl rfl rfl (fun Z => ?_)
  show Wx g y_Mo_starved Z K 0 [vR 174] [] σ
  refine x_aload_n (dat d_Mo_starved 0 rfl) rfl rfl ?_
  refine x_inv (As := []) (dat d_Mo_starved 1 rfl) rfl c_Mo_runs l_Mo_336 (by decide) (rv_mo (by decide +kernel)) rfl rfl (Nat.le_of_ble_eq_true rfl) ?_
  refine sp_Mo_runs1 H h6 h7 h2 h9 hlf (fun σ1 R => ?_)
  have ab := alN_bd C (cH C)
  have es : stv C = cS C 0 - alN C (cH C) := rfl
  show Wx g y_Mo_starved Z K 4 [vR 174] [] σ1
  refine x_aload_n (dat d_Mo_starved 2 rfl) rfl rfl ?_
  refine x_inv (As := []) (dat d_Mo_starved 3 rfl) rfl c_Mo_people l_Mo_202 (by decide) (rv_mo (by decide +kernel)) rfl rfl (Nat.le_of_ble_eq_true rfl) ?_
  refine sp_Mo_people (H.same R.2.2.2).1.1 ?_
  show Wx g y_Mo_starved Z K 8 [vR 174] [vI (t 6)] σ1
  refine x_aload_n (dat d_Mo_starved 4 rfl) rfl rfl ?_
  refine x_geti (ji := 35) (v := σ1 174 35) (dat d_Mo_starved 5 rfl) rfl f_Mo_286 (oi_mk (by decide +kernel)) rfl ?_
  refine x_invs (As := [vI (σ1 174 35)]) (dat d_Mo_starved 6 rfl) rfl c_Mo_bits l_Mo_339 (by decide) rfl rfl (Nat.le_of_ble_eq_true rfl) ?_
  refine sp_Mo_bits R.1.1.1 ?_
  show Wx g y_Mo_starved Z K 15 [vR 174] [vI (alN C (cH C)), vI (t 6)] σ1
  refine x_isub (v := stv C) (dat d_Mo_starved 7 rfl) (by omega) (by omega) ?_
  refine x_iret (dat d_Mo_starved 8 rfl) rfl ?_
  exact k σ1 R
/-- an hour's numbers, from a run -/
theorem Tw1.at {σ' : xS} (R : Tw1 σ σ' C) {h p : Int} (hC : CfOk C) (h0 : 0 ≤ h) (h1 : h < cS C 1) (p0 : 0 ≤ p) (p1 : p < cS C 0) : (σ' 181 (8 * h + p) = (rst C (h.toNat + 1)).1 p ∧ σ' 182 (8 * h + p) = if (rst C (h.toNat + 1)).2 p = true then 1 else 0) ∧ Msk 8 (σ' 183 (8 * h + p)) (metB (hev C h.toNat) p) ∧ σ' 184 (8 * h + p) = cameI (hev C h.toNat) p := by
  have th : ((h.toNat : Nat) : Int) = h := by omega
  have hH := cH_eq hC
  have a1 := (R.2.1 h.toNat (by omega)).1 p p0 p1
  have b1 := (R.2.2.1 h.toNat (by omega)).1 p p0 p1
  rw [th] at a1 b1
  exact ⟨b1, a1⟩
theorem Tw1.hr {σ' : xS} (R : Tw1 σ σ' C) {h : Int} (hC : CfOk C) (h0 : 0 ≤ h) (h1 : h < cS C 1) : σ' 185 h = (hev C h.toNat).length ∧ σ' 186 h = goneI (hev C h.toNat) ∧ σ' 187 h = eatN C h.toNat := by
  have th : ((h.toNat : Nat) : Int) = h := by omega
  have hH := cH_eq hC
  have a1 := (R.2.1 h.toNat (by omega)).2
  rw [th] at a1
  exact a1
theorem sp_Mo_at {h p w : Int} (A : MoA σ a) (k : ∀ (r : Int) (σ' : xS), atT a n (-1000) (fun t r => atA t h p w r) r → MoA σ' a → MoF σ' σ → K (some (vI r)) σ') : Mt g y_Mo_at [vR 174, vI n, vI h, vI p, vI w] σ K := by
  have k0 : ¬ (0 ≤ n ∧ n < a 0) → K (some (vI (-1000))) σ := fun z => k _ σ ⟨fun _ => rfl, fun z1 z2 => absurd ⟨z1, z2⟩ z⟩ A (MoF.rfl σ)
  have k1 : ∀ (r : Int) (σ' : xS), atA (tw a n) h p w r → 0 ≤ n → n < a 0 → MoA σ' a → MoF σ' σ → K (some (vI r)) σ' := fun r σ' e n0 n1 A1 F1 => k r σ' ⟨fun z => absurd ⟨n0, n1⟩ z, fun _ _ => e⟩ A1 F1
  have c0 : ¬ ((0 ≤ h ∧ h < tw a n 3) ∧ (0 ≤ p ∧ p < tw a n 6)) → atA (tw a n) h p w (-1000) := fun z => by unfold atA; rw [if_pos z]
  have c5 : ¬ (0 ≤ w ∧ w ≤ 4) → atA (tw a n) h p w (-1000) := fun z => by
    unfold atA
    split
    · rfl
    · rw [if_neg (by omega), if_neg (by omega), if_neg (by omega), if_neg (by omega), if_neg (by omega)]
  refine x_enter 1 rfl rfl rfl (fun Z => ?_)
  show Wx g y_Mo_at Z K 0 [vR 174, vI n, vI h, vI p, vI w, vU] [] σ
  refine x_aload_n (dat d_Mo_at 0 rfl) rfl rfl ?_
  refine x_iload_n (dat d_Mo_at 1 rfl) rfl rfl ?_
  refine x_inv (As := [vI n]) (dat d_Mo_at 2 rfl) rfl c_Mo_isTown l_Mo_205 (by decide) (rv_mo (by decide +kernel)) rfl rfl (Nat.le_of_ble_eq_true rfl) ?_
  refine sp_Mo_isTown A (fun σ1 t0 n0 n1 H P Z1 A1 F => ?_) (fun n01 => ?_)
  · show Wx g y_Mo_at Z K 5 [vR 174, vI n, vI h, vI p, vI w, vU] [vI 1] σ1
    refine x_if_eq (tgt := 34) (dat d_Mo_at 3 rfl) (by decide) (fun h => absurd h (by decide)) (fun c_5 => ?_)
    refine x_aload_n (dat d_Mo_at 4 rfl) rfl rfl ?_
    refine x_iload_n (dat d_Mo_at 5 rfl) rfl rfl ?_
    refine x_inv (As := [vI h]) (dat d_Mo_at 6 rfl) rfl c_Mo_isHour l_Mo_342 (by decide) (rv_mo (by decide +kernel)) rfl rfl (Nat.le_of_ble_eq_true rfl) ?_
    refine sp_Mo_isHour H.1.1 H.1.2 (fun h0 h1 => ?_) (fun h01 => ?_)
    · show Wx g y_Mo_at Z K 13 [vR 174, vI n, vI h, vI p, vI w, vU] [vI 1] σ1
      refine x_if_eq (tgt := 34) (dat d_Mo_at 7 rfl) (by decide) (fun h => absurd h (by decide)) (fun c_13 => ?_)
      refine x_aload_n (dat d_Mo_at 8 rfl) rfl rfl ?_
      refine x_iload_n (dat d_Mo_at 9 rfl) rfl rfl ?_
      refine x_inv (As := [vI p]) (dat d_Mo_at 10 rfl) rfl c_Mo_isPerson l_Mo_208 (by decide) (rv_mo (by decide +kernel)) rfl rfl (Nat.le_of_ble_eq_true rfl) ?_
      refine sp_Mo_isPerson H.1.1 H.1.2 (fun p0 p1 => ?_) (fun p01 => ?_)
      · show Wx g y_Mo_at Z K 21 [vR 174, vI n, vI h, vI p, vI w, vU] [vI 1] σ1
        refine x_if_eq (tgt := 34) (dat d_Mo_at 11 rfl) (by decide) (fun h => absurd h (by decide)) (fun c_21 => ?_)
        refine x_iload (dat d_Mo_at 12 rfl) rfl ?_
        refine x_iconst (dat d_Mo_at 13 rfl) (by decide) ?_
        refine x_iconst (dat d_Mo_at 14 rfl) (by decide) ?_
        refine x_invs (As := [vI w, vI 0, vI 4]) (dat d_Mo_at 15 rfl) rfl c_Mo_isIn l_Mo_136 (by decide) rfl rfl (Nat.le_of_ble_eq_true rfl) ?_
        refine sp_Mo_isIn (fun x1 x2 => ?_) (fun x1 => ?_)
        · show Wx g y_Mo_at Z K 31 [vR 174, vI n, vI h, vI p, vI w, vU] [vI 1] σ1
          refine x_if_ne (tgt := 38) (dat d_Mo_at 16 rfl) (by decide) (fun c_31 => ?_) (fun h => absurd h (by decide))
          refine x_aload_n (dat d_Mo_at 19 rfl) rfl rfl ?_
          refine x_inv (As := []) (dat d_Mo_at 20 rfl) rfl c_Mo_runs l_Mo_336 (by decide) (rv_mo (by decide +kernel)) rfl rfl (Nat.le_of_ble_eq_true rfl) ?_
          refine sp_Mo_runsP H P (fun σ2 R => ?_)
          have hC := H.2.1.2
          have t6 := H.1.2.2.2.2.2.2.2.1
          have t3 := H.1.2.2.2.2.1
          obtain ⟨⟨r1, r2⟩, r3, r4⟩ := R.at hC h0 h1 p0 p1
          have M2 := H.same R.2.2.2
          have F2 := F.trans R.2.2.2.mo
          have A2 := A.same F2
          have neg : ¬ ¬ ((0 ≤ h ∧ h < tw a n 3) ∧ (0 ≤ p ∧ p < tw a n 6)) := fun z => z ⟨⟨h0, h1⟩, p0, p1⟩
          have ec : cellM (σ2 174) (σ2 178) (tw a n) p h = cellT (tw a n) p h := by
            have q : cWh (cfg (tw a n)) h p = cellT (tw a n) p h := rfl
            rw [M2.2.1.1] at q
            have q2 : cWh (mC (σ2 174) (σ2 179) (σ2 178) (tw a n)) h p = cellM (σ2 174) (σ2 178) (tw a n) p h := if_pos ⟨h0, Or.inl p0⟩
            rw [← q2]
            exact q
          show Wx g y_Mo_at Z K 42 [vR 174, vI n, vI h, vI p, vI w, vU] [] σ2
          refine x_bipush (dat d_Mo_at 21 rfl) (by decide) (by decide) ?_
          refine x_iload_n (dat d_Mo_at 22 rfl) rfl rfl ?_
          refine x_imul (v := 8 * h) (dat d_Mo_at 23 rfl) (by omega) (by omega) ?_
          refine x_iload_n (dat d_Mo_at 24 rfl) rfl rfl ?_
          refine x_iadd (v := 8 * h + p) (dat d_Mo_at 25 rfl) (by omega) (by omega) ?_
          refine x_istore (L' := [vR 174, vI n, vI h, vI p, vI w, vI (8 * h + p)]) (dat d_Mo_at 26 rfl) (by decide) rfl rfl ?_
          refine x_iload (dat d_Mo_at 27 rfl) rfl ?_
          refine x_if_ne (tgt := 64) (dat d_Mo_at 28 rfl) (by decide) (fun c_52 => ?_) (fun c_52 => ?_)
          · refine x_iload (dat d_Mo_at 34 rfl) rfl ?_
            refine x_iconst (dat d_Mo_at 35 rfl) (by decide) ?_
            refine x_icmp_ne (tgt := 80) (dat d_Mo_at 36 rfl) (by decide) (fun c_67 => ?_) (fun c_67 => ?_)
            · refine x_iload (dat d_Mo_at 42 rfl) rfl ?_
              refine x_iconst (dat d_Mo_at 43 rfl) (by decide) ?_
              refine x_icmp_ne (tgt := 96) (dat d_Mo_at 44 rfl) (by decide) (fun c_83 => ?_) (fun c_83 => ?_)
              · refine x_iload (dat d_Mo_at 50 rfl) rfl ?_
                refine x_iconst (dat d_Mo_at 51 rfl) (by decide) ?_
                refine x_icmp_ne (tgt := 112) (dat d_Mo_at 52 rfl) (by decide) (fun c_99 => ?_) (fun c_99 => ?_)
                · refine x_aload_n (dat d_Mo_at 58 rfl) rfl rfl ?_
                  refine x_getr (r := 184) (dat d_Mo_at 59 rfl) rfl f_Mo_38 (or_mk (by decide +kernel)) ?_
                  refine x_iload (dat d_Mo_at 60 rfl) rfl ?_
                  refine x_iald (n := 192) (v := σ2 184 (8 * h + p)) (dat d_Mo_at 61 rfl) (ai_mk (by decide +kernel)) (by omega) (by omega) rfl ?_
                  refine x_iret (dat d_Mo_at 62 rfl) rfl ?_
                  first
                  | exact k0 n01
                  | exact k1 _ _ (c0 (fun w => h01 w.1)) n0 n1 A1 F
                  | exact k1 _ _ (c0 (fun w => p01 w.2)) n0 n1 A1 F
                  | exact k1 _ _ (c5 x1) n0 n1 A1 F
                  | (refine k1 _ _ ?_ n0 n1 A2 F2
                     unfold atA
                     rw [if_neg neg]
                     first
                     | (rw [if_pos (by omega)]; exact ec)
                     | (rw [if_neg (by omega), if_pos (by omega)]; exact r1)
                     | (rw [if_neg (by omega), if_neg (by omega), if_pos (by omega)]; exact r2)
                     | (rw [if_neg (by omega), if_neg (by omega), if_neg (by omega), if_pos (by omega)]; exact r3)
                     | (rw [if_neg (by omega), if_neg (by omega), if_neg (by omega), if_neg (by omega), if_pos (by omega)]; exact r4))
                · refine x_aload_n (dat d_Mo_at 53 rfl) rfl rfl ?_
                  refine x_getr (r := 183) (dat d_Mo_at 54 rfl) rfl f_Mo_35 (or_mk (by decide +kernel)) ?_
                  refine x_iload (dat d_Mo_at 55 rfl) rfl ?_
                  refine x_iald (n := 192) (v := σ2 183 (8 * h + p)) (dat d_Mo_at 56 rfl) (ai_mk (by decide +kernel)) (by omega) (by omega) rfl ?_
                  refine x_goto (tgt := 119) (dat d_Mo_at 57 rfl) (by decide) ?_
                  refine x_iret (dat d_Mo_at 62 rfl) rfl ?_
                  first
                  | exact k0 n01
                  | exact k1 _ _ (c0 (fun w => h01 w.1)) n0 n1 A1 F
                  | exact k1 _ _ (c0 (fun w => p01 w.2)) n0 n1 A1 F
                  | exact k1 _ _ (c5 x1) n0 n1 A1 F
                  | (refine k1 _ _ ?_ n0 n1 A2 F2
                     unfold atA
                     rw [if_neg neg]
                     first
                     | (rw [if_pos (by omega)]; exact ec)
                     | (rw [if_neg (by omega), if_pos (by omega)]; exact r1)
                     | (rw [if_neg (by omega), if_neg (by omega), if_pos (by omega)]; exact r2)
                     | (rw [if_neg (by omega), if_neg (by omega), if_neg (by omega), if_pos (by omega)]; exact r3)
                     | (rw [if_neg (by omega), if_neg (by omega), if_neg (by omega), if_neg (by omega), if_pos (by omega)]; exact r4))
              · refine x_aload_n (dat d_Mo_at 45 rfl) rfl rfl ?_
                refine x_getr (r := 182) (dat d_Mo_at 46 rfl) rfl f_Mo_32 (or_mk (by decide +kernel)) ?_
                refine x_iload (dat d_Mo_at 47 rfl) rfl ?_
                refine x_iald (n := 192) (v := σ2 182 (8 * h + p)) (dat d_Mo_at 48 rfl) (ai_mk (by decide +kernel)) (by omega) (by omega) rfl ?_
                refine x_goto (tgt := 119) (dat d_Mo_at 49 rfl) (by decide) ?_
                refine x_iret (dat d_Mo_at 62 rfl) rfl ?_
                first
                | exact k0 n01
                | exact k1 _ _ (c0 (fun w => h01 w.1)) n0 n1 A1 F
                | exact k1 _ _ (c0 (fun w => p01 w.2)) n0 n1 A1 F
                | exact k1 _ _ (c5 x1) n0 n1 A1 F
                | (refine k1 _ _ ?_ n0 n1 A2 F2
                   unfold atA
                   rw [if_neg neg]
                   first
                   | (rw [if_pos (by omega)]; exact ec)
                   | (rw [if_neg (by omega), if_pos (by omega)]; exact r1)
                   | (rw [if_neg (by omega), if_neg (by omega), if_pos (by omega)]; exact r2)
                   | (rw [if_neg (by omega), if_neg (by omega), if_neg (by omega), if_pos (by omega)]; exact r3)
                   | (rw [if_neg (by omega), if_neg (by omega), if_neg (by omega), if_neg (by omega), if_pos (by omega)]; exact r4))
            · refine x_aload_n (dat d_Mo_at 37 rfl) rfl rfl ?_
              refine x_getr (r := 181) (dat d_Mo_at 38 rfl) rfl f_Mo_29 (or_mk (by decide +kernel)) ?_
              refine x_iload (dat d_Mo_at 39 rfl) rfl ?_
              refine x_iald (n := 192) (v := σ2 181 (8 * h + p)) (dat d_Mo_at 40 rfl) (ai_mk (by decide +kernel)) (by omega) (by omega) rfl ?_
              refine x_goto (tgt := 119) (dat d_Mo_at 41 rfl) (by decide) ?_
              refine x_iret (dat d_Mo_at 62 rfl) rfl ?_
              first
              | exact k0 n01
              | exact k1 _ _ (c0 (fun w => h01 w.1)) n0 n1 A1 F
              | exact k1 _ _ (c0 (fun w => p01 w.2)) n0 n1 A1 F
              | exact k1 _ _ (c5 x1) n0 n1 A1 F
              | (refine k1 _ _ ?_ n0 n1 A2 F2
                 unfold atA
                 rw [if_neg neg]
                 first
                 | (rw [if_pos (by omega)]; exact ec)
                 | (rw [if_neg (by omega), if_pos (by omega)]; exact r1)
                 | (rw [if_neg (by omega), if_neg (by omega), if_pos (by omega)]; exact r2)
                 | (rw [if_neg (by omega), if_neg (by omega), if_neg (by omega), if_pos (by omega)]; exact r3)
                 | (rw [if_neg (by omega), if_neg (by omega), if_neg (by omega), if_neg (by omega), if_pos (by omega)]; exact r4))
          · refine x_aload_n (dat d_Mo_at 29 rfl) rfl rfl ?_
            refine x_iload_n (dat d_Mo_at 30 rfl) rfl rfl ?_
            refine x_iload_n (dat d_Mo_at 31 rfl) rfl rfl ?_
            refine x_inv (As := [vI p, vI h]) (dat d_Mo_at 32 rfl) rfl c_Mo_cellOf l_Mo_289 (by decide) (rv_mo (by decide +kernel)) rfl rfl (Nat.le_of_ble_eq_true rfl) ?_
            refine sp_Mo_cellOf M2.1.1 M2.1.2 M2.2.2.1 p0 p1 h0 (by omega) ?_
            show Wx g y_Mo_at Z K 61 [vR 174, vI n, vI h, vI p, vI w, vI (8 * h + p)] [vI (cellM (σ2 174) (σ2 178) (tw a n) p h)] σ2
            refine x_goto (tgt := 119) (dat d_Mo_at 33 rfl) (by decide) ?_
            refine x_iret (dat d_Mo_at 62 rfl) rfl ?_
            first
            | exact k0 n01
            | exact k1 _ _ (c0 (fun w => h01 w.1)) n0 n1 A1 F
            | exact k1 _ _ (c0 (fun w => p01 w.2)) n0 n1 A1 F
            | exact k1 _ _ (c5 x1) n0 n1 A1 F
            | (refine k1 _ _ ?_ n0 n1 A2 F2
               unfold atA
               rw [if_neg neg]
               first
               | (rw [if_pos (by omega)]; exact ec)
               | (rw [if_neg (by omega), if_pos (by omega)]; exact r1)
               | (rw [if_neg (by omega), if_neg (by omega), if_pos (by omega)]; exact r2)
               | (rw [if_neg (by omega), if_neg (by omega), if_neg (by omega), if_pos (by omega)]; exact r3)
               | (rw [if_neg (by omega), if_neg (by omega), if_neg (by omega), if_neg (by omega), if_pos (by omega)]; exact r4))
        · show Wx g y_Mo_at Z K 31 [vR 174, vI n, vI h, vI p, vI w, vU] [vI 0] σ1
          refine x_if_ne (tgt := 38) (dat d_Mo_at 16 rfl) (by decide) (fun h => absurd h (by decide)) (fun c_31 => ?_)
          refine x_sipush (dat d_Mo_at 17 rfl) (by decide) (by decide) ?_
          refine x_iret (dat d_Mo_at 18 rfl) rfl ?_
          first
          | exact k0 n01
          | exact k1 _ _ (c0 (fun w => h01 w.1)) n0 n1 A1 F
          | exact k1 _ _ (c0 (fun w => p01 w.2)) n0 n1 A1 F
          | exact k1 _ _ (c5 x1) n0 n1 A1 F
          | (refine k1 _ _ ?_ n0 n1 A2 F2
             unfold atA
             rw [if_neg neg]
             first
             | (rw [if_pos (by omega)]; exact ec)
             | (rw [if_neg (by omega), if_pos (by omega)]; exact r1)
             | (rw [if_neg (by omega), if_neg (by omega), if_pos (by omega)]; exact r2)
             | (rw [if_neg (by omega), if_neg (by omega), if_neg (by omega), if_pos (by omega)]; exact r3)
             | (rw [if_neg (by omega), if_neg (by omega), if_neg (by omega), if_neg (by omega), if_pos (by omega)]; exact r4))
      · show Wx g y_Mo_at Z K 21 [vR 174, vI n, vI h, vI p, vI w, vU] [vI 0] σ1
        refine x_if_eq (tgt := 34) (dat d_Mo_at 11 rfl) (by decide) (fun c_21 => ?_) (fun h => absurd h (by decide))
        refine x_sipush (dat d_Mo_at 17 rfl) (by decide) (by decide) ?_
        refine x_iret (dat d_Mo_at 18 rfl) rfl ?_
        first
        | exact k0 n01
        | exact k1 _ _ (c0 (fun w => h01 w.1)) n0 n1 A1 F
        | exact k1 _ _ (c0 (fun w => p01 w.2)) n0 n1 A1 F
        | exact k1 _ _ (c5 x1) n0 n1 A1 F
        | (refine k1 _ _ ?_ n0 n1 A2 F2
           unfold atA
           rw [if_neg neg]
           first
           | (rw [if_pos (by omega)]; exact ec)
           | (rw [if_neg (by omega), if_pos (by omega)]; exact r1)
           | (rw [if_neg (by omega), if_neg (by omega), if_pos (by omega)]; exact r2)
           | (rw [if_neg (by omega), if_neg (by omega), if_neg (by omega), if_pos (by omega)]; exact r3)
           | (rw [if_neg (by omega), if_neg (by omega), if_neg (by omega), if_neg (by omega), if_pos (by omega)]; exact r4))
    · show Wx g y_Mo_at Z K 13 [vR 174, vI n, vI h, vI p, vI w, vU] [vI 0] σ1
      refine x_if_eq (tgt := 34) (dat d_Mo_at 7 rfl) (by decide) (fun c_13 => ?_) (fun h => absurd h (by decide))
      refine x_sipush (dat d_Mo_at 17 rfl) (by decide) (by decide) ?_
      refine x_iret (dat d_Mo_at 18 rfl) rfl ?_
      first
      | exact k0 n01
      | exact k1 _ _ (c0 (fun w => h01 w.1)) n0 n1 A1 F
      | exact k1 _ _ (c0 (fun w => p01 w.2)) n0 n1 A1 F
      | exact k1 _ _ (c5 x1) n0 n1 A1 F
      | (refine k1 _ _ ?_ n0 n1 A2 F2
         unfold atA
         rw [if_neg neg]
         first
         | (rw [if_pos (by omega)]; exact ec)
         | (rw [if_neg (by omega), if_pos (by omega)]; exact r1)
         | (rw [if_neg (by omega), if_neg (by omega), if_pos (by omega)]; exact r2)
         | (rw [if_neg (by omega), if_neg (by omega), if_neg (by omega), if_pos (by omega)]; exact r3)
         | (rw [if_neg (by omega), if_neg (by omega), if_neg (by omega), if_neg (by omega), if_pos (by omega)]; exact r4))
  · show Wx g y_Mo_at Z K 5 [vR 174, vI n, vI h, vI p, vI w, vU] [vI 0] σ
    refine x_if_eq (tgt := 34) (dat d_Mo_at 3 rfl) (by decide) (fun c_5 => ?_) (fun h => absurd h (by decide))
    refine x_sipush (dat d_Mo_at 17 rfl) (by decide) (by decide) ?_
    refine x_iret (dat d_Mo_at 18 rfl) rfl ?_
    first
    | exact k0 n01
    | exact k1 _ _ (c0 (fun w => h01 w.1)) n0 n1 A1 F
    | exact k1 _ _ (c0 (fun w => p01 w.2)) n0 n1 A1 F
    | exact k1 _ _ (c5 x1) n0 n1 A1 F
    | (refine k1 _ _ ?_ n0 n1 A2 F2
       unfold atA
       rw [if_neg neg]
       first
       | (rw [if_pos (by omega)]; exact ec)
       | (rw [if_neg (by omega), if_pos (by omega)]; exact r1)
       | (rw [if_neg (by omega), if_neg (by omega), if_pos (by omega)]; exact r2)
       | (rw [if_neg (by omega), if_neg (by omega), if_neg (by omega), if_pos (by omega)]; exact r3)
       | (rw [if_neg (by omega), if_neg (by omega), if_neg (by omega), if_neg (by omega), if_pos (by omega)]; exact r4))
end
