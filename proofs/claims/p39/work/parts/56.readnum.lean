/-! the reader: lines counted, a law's line, a line of numbers -/
theorem fewT_bd : ∀ l : Nat, l < 8 → (1 ≤ fewT l ∧ fewT l ≤ 3) ∧ (1 ≤ mostT l ∧ mostT l ≤ 600) ∧ (l ≠ 1 → 2 ≤ fewT l) ∧ (l = 7 → 3 ≤ fewT l) ∧ (l ≠ 4 → mostT l = fewT l) ∧ (l = 4 → mostT l = 600) := by decide +kernel
theorem fewT_b {l : Int} (l0 : 0 ≤ l) (l7 : l ≤ 7) : (1 ≤ fewT l ∧ fewT l ≤ 3) ∧ (1 ≤ mostT l ∧ mostT l ≤ 600) ∧ (l ≠ 1 → 2 ≤ fewT l) ∧ (l = 7 → 3 ≤ fewT l) ∧ (l ≠ 4 → mostT l = fewT l) ∧ (l = 4 → mostT l = 600) := by
  have h := fewT_bd l.toNat (by omega)
  rw [Int.toNat_of_nonneg l0] at h
  refine ⟨h.1, h.2.1, fun w => h.2.2.1 (by omega), fun w => h.2.2.2.1 (by omega), fun w => h.2.2.2.2.1 (by omega), fun w => h.2.2.2.2.2 (by omega)⟩
theorem sp_Re_countLine {g : xG} {K : Option MV → xS → Prop} {σ : xS} {l q tp tq tn : Int} {fp : Int × Int} (e9 : σ 123 9 = q) (e2 : σ 123 2 = fp.1) (e3 : σ 123 3 = fp.2) (e12 : σ 123 12 = tp) (e13 : σ 123 13 = tq) (e14 : σ 123 14 = tn) (b12 : 0 ≤ tp ∧ tp ≤ 1000) (b13 : 0 ≤ tq ∧ tq ≤ 1000) (b14 : 0 ≤ tn ∧ tn ≤ 1000)
    (k : ∀ (σ' : xS) (tp' tq' tn' : Int), tp' = tp + (if l = 3 then 1 else 0) → tq' = tq + (if l = 6 then 1 else 0) → tn' = tn + (if l = 7 then 1 else 0) → σ' 123 12 = tp' → σ' 123 13 = tq' → σ' 123 14 = tn' → (∀ b : Bool, (b = true ↔ (8 < tp' ∨ 6 < tq') ∨ 8 < tn') → σ' 123 2 = (blm fp b 3 q).1 ∧ σ' 123 3 = (blm fp b 3 q).2) → (∀ i : Int, i ≠ 2 → i ≠ 3 → i ≠ 12 → i ≠ 13 → i ≠ 14 → σ' 123 i = σ 123 i) → (∀ o : Nat, o ≠ 123 → σ' o = σ o) → K none σ') : Mt g y_Re_countLine [vR 123, vI l] σ K := by
  have st : ∀ (Z : xZ) (σ1 : xS) (tp' tq' tn' : Int), tp' = tp + (if l = 3 then 1 else 0) → tq' = tq + (if l = 6 then 1 else 0) → tn' = tn + (if l = 7 then 1 else 0) → σ1 123 12 = tp' → σ1 123 13 = tq' → σ1 123 14 = tn' → σ1 123 9 = q → σ1 123 2 = fp.1 → σ1 123 3 = fp.2 → (∀ i : Int, i ≠ 2 → i ≠ 3 → i ≠ 12 → i ≠ 13 → i ≠ 14 → σ1 123 i = σ 123 i) → (∀ o : Nat, o ≠ 123 → σ1 o = σ o) → Wx g y_Re_countLine Z K 53 [vR 123, vI l] [] σ1 := by
    intro Z σ1 tp' tq' tn' x1 x2 x3 f12 f13 f14 f9 f2 f3 F1 F2
    refine x_aload_n (dat d_Re_countLine 29 rfl) rfl rfl ?_
    refine x_geti (ji := 12) (v := tp') (dat d_Re_countLine 30 rfl) rfl f_Re_75 (oi_mk (by decide +kernel)) (f12) ?_
    refine x_bipush (dat d_Re_countLine 31 rfl) (by decide) (by decide) ?_
    refine x_icmp_gt (tgt := 80) (dat d_Re_countLine 32 rfl) (by decide) (fun c_59 => ?_) (fun c_59 => ?_)
    · refine x_aload_n (dat d_Re_countLine 41 rfl) rfl rfl ?_
      refine x_iconst (dat d_Re_countLine 42 rfl) (by decide) ?_
      refine x_inv (As := [vI 3]) (dat d_Re_countLine 43 rfl) rfl c_Re_blame l_Re_160 (by decide) (rv_re (by decide +kernel)) rfl rfl (Nat.le_of_ble_eq_true rfl) ?_
      refine sp_Re_blame f9 f2 (fun z => ?_) (fun z => ?_)
      · show Wx g y_Re_countLine Z K 85 [vR 123, vI l] [] (up (up σ1 123 2 3) 123 3 q)
        refine x_ret (dat d_Re_countLine 44 rfl) rfl ?_
        first
        | (refine k _ tp' tq' tn' x1 x2 x3 (by rw [up_ni (by decide), up_ni (by decide)]; exact f12) (by rw [up_ni (by decide), up_ni (by decide)]; exact f13) (by rw [up_ni (by decide), up_ni (by decide)]; exact f14) (fun b hb => ?_) (fun i i0 i1 i2 i3 i4 => by rw [up_ni (Ne.symm i1), up_ni (Ne.symm i0)]; exact F1 i i0 i1 i2 i3 i4) (fun o ho => by rw [up_ne ho, up_ne ho]; exact F2 o ho)
           rw [blm_t z (hb.mpr (by omega)), up_ni (by decide), up_s, up_s]
           exact ⟨rfl, rfl⟩)
        | (refine k _ tp' tq' tn' x1 x2 x3 f12 f13 f14 (fun b hb => ?_) F1 F2
           first
           | (rw [blm_n z]
              exact ⟨f2, f3⟩)
           | (rw [blm_ff (by cases b with
                | false => rfl
                | true => have := hb.mp rfl; omega)]
              exact ⟨f2, f3⟩))
      · show Wx g y_Re_countLine Z K 85 [vR 123, vI l] [] σ1
        refine x_ret (dat d_Re_countLine 44 rfl) rfl ?_
        first
        | (refine k _ tp' tq' tn' x1 x2 x3 (by rw [up_ni (by decide), up_ni (by decide)]; exact f12) (by rw [up_ni (by decide), up_ni (by decide)]; exact f13) (by rw [up_ni (by decide), up_ni (by decide)]; exact f14) (fun b hb => ?_) (fun i i0 i1 i2 i3 i4 => by rw [up_ni (Ne.symm i1), up_ni (Ne.symm i0)]; exact F1 i i0 i1 i2 i3 i4) (fun o ho => by rw [up_ne ho, up_ne ho]; exact F2 o ho)
           rw [blm_t z (hb.mpr (by omega)), up_ni (by decide), up_s, up_s]
           exact ⟨rfl, rfl⟩)
        | (refine k _ tp' tq' tn' x1 x2 x3 f12 f13 f14 (fun b hb => ?_) F1 F2
           first
           | (rw [blm_n z]
              exact ⟨f2, f3⟩)
           | (rw [blm_ff (by cases b with
                | false => rfl
                | true => have := hb.mp rfl; omega)]
              exact ⟨f2, f3⟩))
    · refine x_aload_n (dat d_Re_countLine 33 rfl) rfl rfl ?_
      refine x_geti (ji := 13) (v := tq') (dat d_Re_countLine 34 rfl) rfl f_Re_78 (oi_mk (by decide +kernel)) (f13) ?_
      refine x_bipush (dat d_Re_countLine 35 rfl) (by decide) (by decide) ?_
      refine x_icmp_gt (tgt := 80) (dat d_Re_countLine 36 rfl) (by decide) (fun c_68 => ?_) (fun c_68 => ?_)
      · refine x_aload_n (dat d_Re_countLine 41 rfl) rfl rfl ?_
        refine x_iconst (dat d_Re_countLine 42 rfl) (by decide) ?_
        refine x_inv (As := [vI 3]) (dat d_Re_countLine 43 rfl) rfl c_Re_blame l_Re_160 (by decide) (rv_re (by decide +kernel)) rfl rfl (Nat.le_of_ble_eq_true rfl) ?_
        refine sp_Re_blame f9 f2 (fun z => ?_) (fun z => ?_)
        · show Wx g y_Re_countLine Z K 85 [vR 123, vI l] [] (up (up σ1 123 2 3) 123 3 q)
          refine x_ret (dat d_Re_countLine 44 rfl) rfl ?_
          first
          | (refine k _ tp' tq' tn' x1 x2 x3 (by rw [up_ni (by decide), up_ni (by decide)]; exact f12) (by rw [up_ni (by decide), up_ni (by decide)]; exact f13) (by rw [up_ni (by decide), up_ni (by decide)]; exact f14) (fun b hb => ?_) (fun i i0 i1 i2 i3 i4 => by rw [up_ni (Ne.symm i1), up_ni (Ne.symm i0)]; exact F1 i i0 i1 i2 i3 i4) (fun o ho => by rw [up_ne ho, up_ne ho]; exact F2 o ho)
             rw [blm_t z (hb.mpr (by omega)), up_ni (by decide), up_s, up_s]
             exact ⟨rfl, rfl⟩)
          | (refine k _ tp' tq' tn' x1 x2 x3 f12 f13 f14 (fun b hb => ?_) F1 F2
             first
             | (rw [blm_n z]
                exact ⟨f2, f3⟩)
             | (rw [blm_ff (by cases b with
                  | false => rfl
                  | true => have := hb.mp rfl; omega)]
                exact ⟨f2, f3⟩))
        · show Wx g y_Re_countLine Z K 85 [vR 123, vI l] [] σ1
          refine x_ret (dat d_Re_countLine 44 rfl) rfl ?_
          first
          | (refine k _ tp' tq' tn' x1 x2 x3 (by rw [up_ni (by decide), up_ni (by decide)]; exact f12) (by rw [up_ni (by decide), up_ni (by decide)]; exact f13) (by rw [up_ni (by decide), up_ni (by decide)]; exact f14) (fun b hb => ?_) (fun i i0 i1 i2 i3 i4 => by rw [up_ni (Ne.symm i1), up_ni (Ne.symm i0)]; exact F1 i i0 i1 i2 i3 i4) (fun o ho => by rw [up_ne ho, up_ne ho]; exact F2 o ho)
             rw [blm_t z (hb.mpr (by omega)), up_ni (by decide), up_s, up_s]
             exact ⟨rfl, rfl⟩)
          | (refine k _ tp' tq' tn' x1 x2 x3 f12 f13 f14 (fun b hb => ?_) F1 F2
             first
             | (rw [blm_n z]
                exact ⟨f2, f3⟩)
             | (rw [blm_ff (by cases b with
                  | false => rfl
                  | true => have := hb.mp rfl; omega)]
                exact ⟨f2, f3⟩))
      · refine x_aload_n (dat d_Re_countLine 37 rfl) rfl rfl ?_
        refine x_geti (ji := 14) (v := tn') (dat d_Re_countLine 38 rfl) rfl f_Re_81 (oi_mk (by decide +kernel)) (f14) ?_
        refine x_bipush (dat d_Re_countLine 39 rfl) (by decide) (by decide) ?_
        refine x_icmp_le (tgt := 85) (dat d_Re_countLine 40 rfl) (by decide) (fun c_77 => ?_) (fun c_77 => ?_)
        · refine x_ret (dat d_Re_countLine 44 rfl) rfl ?_
          first
          | (refine k _ tp' tq' tn' x1 x2 x3 (by rw [up_ni (by decide), up_ni (by decide)]; exact f12) (by rw [up_ni (by decide), up_ni (by decide)]; exact f13) (by rw [up_ni (by decide), up_ni (by decide)]; exact f14) (fun b hb => ?_) (fun i i0 i1 i2 i3 i4 => by rw [up_ni (Ne.symm i1), up_ni (Ne.symm i0)]; exact F1 i i0 i1 i2 i3 i4) (fun o ho => by rw [up_ne ho, up_ne ho]; exact F2 o ho)
             rw [blm_t z (hb.mpr (by omega)), up_ni (by decide), up_s, up_s]
             exact ⟨rfl, rfl⟩)
          | (refine k _ tp' tq' tn' x1 x2 x3 f12 f13 f14 (fun b hb => ?_) F1 F2
             first
             | (rw [blm_n z]
                exact ⟨f2, f3⟩)
             | (rw [blm_ff (by cases b with
                  | false => rfl
                  | true => have := hb.mp rfl; omega)]
                exact ⟨f2, f3⟩))
        · refine x_aload_n (dat d_Re_countLine 41 rfl) rfl rfl ?_
          refine x_iconst (dat d_Re_countLine 42 rfl) (by decide) ?_
          refine x_inv (As := [vI 3]) (dat d_Re_countLine 43 rfl) rfl c_Re_blame l_Re_160 (by decide) (rv_re (by decide +kernel)) rfl rfl (Nat.le_of_ble_eq_true rfl) ?_
          refine sp_Re_blame f9 f2 (fun z => ?_) (fun z => ?_)
          · show Wx g y_Re_countLine Z K 85 [vR 123, vI l] [] (up (up σ1 123 2 3) 123 3 q)
            refine x_ret (dat d_Re_countLine 44 rfl) rfl ?_
            first
            | (refine k _ tp' tq' tn' x1 x2 x3 (by rw [up_ni (by decide), up_ni (by decide)]; exact f12) (by rw [up_ni (by decide), up_ni (by decide)]; exact f13) (by rw [up_ni (by decide), up_ni (by decide)]; exact f14) (fun b hb => ?_) (fun i i0 i1 i2 i3 i4 => by rw [up_ni (Ne.symm i1), up_ni (Ne.symm i0)]; exact F1 i i0 i1 i2 i3 i4) (fun o ho => by rw [up_ne ho, up_ne ho]; exact F2 o ho)
               rw [blm_t z (hb.mpr (by omega)), up_ni (by decide), up_s, up_s]
               exact ⟨rfl, rfl⟩)
            | (refine k _ tp' tq' tn' x1 x2 x3 f12 f13 f14 (fun b hb => ?_) F1 F2
               first
               | (rw [blm_n z]
                  exact ⟨f2, f3⟩)
               | (rw [blm_ff (by cases b with
                    | false => rfl
                    | true => have := hb.mp rfl; omega)]
                  exact ⟨f2, f3⟩))
          · show Wx g y_Re_countLine Z K 85 [vR 123, vI l] [] σ1
            refine x_ret (dat d_Re_countLine 44 rfl) rfl ?_
            first
            | (refine k _ tp' tq' tn' x1 x2 x3 (by rw [up_ni (by decide), up_ni (by decide)]; exact f12) (by rw [up_ni (by decide), up_ni (by decide)]; exact f13) (by rw [up_ni (by decide), up_ni (by decide)]; exact f14) (fun b hb => ?_) (fun i i0 i1 i2 i3 i4 => by rw [up_ni (Ne.symm i1), up_ni (Ne.symm i0)]; exact F1 i i0 i1 i2 i3 i4) (fun o ho => by rw [up_ne ho, up_ne ho]; exact F2 o ho)
               rw [blm_t z (hb.mpr (by omega)), up_ni (by decide), up_s, up_s]
               exact ⟨rfl, rfl⟩)
            | (refine k _ tp' tq' tn' x1 x2 x3 f12 f13 f14 (fun b hb => ?_) F1 F2
               first
               | (rw [blm_n z]
                  exact ⟨f2, f3⟩)
               | (rw [blm_ff (by cases b with
                    | false => rfl
                    | true => have := hb.mp rfl; omega)]
                  exact ⟨f2, f3⟩))
  have hF : ∀ i v : Int, (i = 12 ∨ i = 13 ∨ i = 14) → (∀ j : Int, j ≠ 2 → j ≠ 3 → j ≠ 12 → j ≠ 13 → j ≠ 14 → up σ 123 i v 123 j = σ 123 j) := fun i v hi j a b c d e => up_ni (by omega)
  refine x_enter 0 rfl rfl rfl (fun Z => ?_)
  show Wx g y_Re_countLine Z K 0 [vR 123, vI l] [] σ
  refine x_iload_n (dat d_Re_countLine 0 rfl) rfl rfl ?_
  refine x_iconst (dat d_Re_countLine 1 rfl) (by decide) ?_
  refine x_icmp_ne (tgt := 18) (dat d_Re_countLine 2 rfl) (by decide) (fun c_2 => ?_) (fun c_2 => ?_)
  · refine x_iload_n (dat d_Re_countLine 10 rfl) rfl rfl ?_
    refine x_bipush (dat d_Re_countLine 11 rfl) (by decide) (by decide) ?_
    refine x_icmp_ne (tgt := 37) (dat d_Re_countLine 12 rfl) (by decide) (fun c_21 => ?_) (fun c_21 => ?_)
    · refine x_iload_n (dat d_Re_countLine 20 rfl) rfl rfl ?_
      refine x_bipush (dat d_Re_countLine 21 rfl) (by decide) (by decide) ?_
      refine x_icmp_ne (tgt := 53) (dat d_Re_countLine 22 rfl) (by decide) (fun c_40 => ?_) (fun c_40 => ?_)
      · first
        | exact st Z _ (tp + 1) tq tn (by rw [if_pos (by omega)]) (by rw [if_neg (by omega)]; omega) (by rw [if_neg (by omega)]; omega) (by rw [up_s]) (by rw [up_ni (by decide)]; exact e13) (by rw [up_ni (by decide)]; exact e14) (by rw [up_ni (by decide)]; exact e9) (by rw [up_ni (by decide)]; exact e2) (by rw [up_ni (by decide)]; exact e3) (hF _ _ (by omega)) (fun o ho => up_ne ho)
        | exact st Z _ tp (tq + 1) tn (by rw [if_neg (by omega)]; omega) (by rw [if_pos (by omega)]) (by rw [if_neg (by omega)]; omega) (by rw [up_ni (by decide)]; exact e12) (by rw [up_s]) (by rw [up_ni (by decide)]; exact e14) (by rw [up_ni (by decide)]; exact e9) (by rw [up_ni (by decide)]; exact e2) (by rw [up_ni (by decide)]; exact e3) (hF _ _ (by omega)) (fun o ho => up_ne ho)
        | exact st Z _ tp tq (tn + 1) (by rw [if_neg (by omega)]; omega) (by rw [if_neg (by omega)]; omega) (by rw [if_pos (by omega)]) (by rw [up_ni (by decide)]; exact e12) (by rw [up_ni (by decide)]; exact e13) (by rw [up_s]) (by rw [up_ni (by decide)]; exact e9) (by rw [up_ni (by decide)]; exact e2) (by rw [up_ni (by decide)]; exact e3) (hF _ _ (by omega)) (fun o ho => up_ne ho)
        | exact st Z _ tp tq tn (by rw [if_neg (by omega)]; omega) (by rw [if_neg (by omega)]; omega) (by rw [if_neg (by omega)]; omega) e12 e13 e14 e9 e2 e3 (fun _ _ _ _ _ _ => rfl) (fun _ _ => rfl)
      · refine x_aload_n (dat d_Re_countLine 23 rfl) rfl rfl ?_
        refine x_dup (dat d_Re_countLine 24 rfl) rfl ?_
        refine x_geti (ji := 14) (v := tn) (dat d_Re_countLine 25 rfl) rfl f_Re_81 (oi_mk (by decide +kernel)) (e14) ?_
        refine x_iconst (dat d_Re_countLine 26 rfl) (by decide) ?_
        refine x_iadd (v := tn + 1) (dat d_Re_countLine 27 rfl) rfl (by omega) ?_
        refine x_puti (ji := 14) (x := (tn + 1)) (dat d_Re_countLine 28 rfl) rfl f_Re_81w (oi_mk (by decide +kernel)) (fun h => absurd h (by decide)) (by decide) ?_
        first
        | exact st Z _ (tp + 1) tq tn (by rw [if_pos (by omega)]) (by rw [if_neg (by omega)]; omega) (by rw [if_neg (by omega)]; omega) (by rw [up_s]) (by rw [up_ni (by decide)]; exact e13) (by rw [up_ni (by decide)]; exact e14) (by rw [up_ni (by decide)]; exact e9) (by rw [up_ni (by decide)]; exact e2) (by rw [up_ni (by decide)]; exact e3) (hF _ _ (by omega)) (fun o ho => up_ne ho)
        | exact st Z _ tp (tq + 1) tn (by rw [if_neg (by omega)]; omega) (by rw [if_pos (by omega)]) (by rw [if_neg (by omega)]; omega) (by rw [up_ni (by decide)]; exact e12) (by rw [up_s]) (by rw [up_ni (by decide)]; exact e14) (by rw [up_ni (by decide)]; exact e9) (by rw [up_ni (by decide)]; exact e2) (by rw [up_ni (by decide)]; exact e3) (hF _ _ (by omega)) (fun o ho => up_ne ho)
        | exact st Z _ tp tq (tn + 1) (by rw [if_neg (by omega)]; omega) (by rw [if_neg (by omega)]; omega) (by rw [if_pos (by omega)]) (by rw [up_ni (by decide)]; exact e12) (by rw [up_ni (by decide)]; exact e13) (by rw [up_s]) (by rw [up_ni (by decide)]; exact e9) (by rw [up_ni (by decide)]; exact e2) (by rw [up_ni (by decide)]; exact e3) (hF _ _ (by omega)) (fun o ho => up_ne ho)
        | exact st Z _ tp tq tn (by rw [if_neg (by omega)]; omega) (by rw [if_neg (by omega)]; omega) (by rw [if_neg (by omega)]; omega) e12 e13 e14 e9 e2 e3 (fun _ _ _ _ _ _ => rfl) (fun _ _ => rfl)
    · refine x_aload_n (dat d_Re_countLine 13 rfl) rfl rfl ?_
      refine x_dup (dat d_Re_countLine 14 rfl) rfl ?_
      refine x_geti (ji := 13) (v := tq) (dat d_Re_countLine 15 rfl) rfl f_Re_78 (oi_mk (by decide +kernel)) (e13) ?_
      refine x_iconst (dat d_Re_countLine 16 rfl) (by decide) ?_
      refine x_iadd (v := tq + 1) (dat d_Re_countLine 17 rfl) rfl (by omega) ?_
      refine x_puti (ji := 13) (x := (tq + 1)) (dat d_Re_countLine 18 rfl) rfl f_Re_78w (oi_mk (by decide +kernel)) (fun h => absurd h (by decide)) (by decide) ?_
      refine x_goto (tgt := 53) (dat d_Re_countLine 19 rfl) (by decide) ?_
      first
      | exact st Z _ (tp + 1) tq tn (by rw [if_pos (by omega)]) (by rw [if_neg (by omega)]; omega) (by rw [if_neg (by omega)]; omega) (by rw [up_s]) (by rw [up_ni (by decide)]; exact e13) (by rw [up_ni (by decide)]; exact e14) (by rw [up_ni (by decide)]; exact e9) (by rw [up_ni (by decide)]; exact e2) (by rw [up_ni (by decide)]; exact e3) (hF _ _ (by omega)) (fun o ho => up_ne ho)
      | exact st Z _ tp (tq + 1) tn (by rw [if_neg (by omega)]; omega) (by rw [if_pos (by omega)]) (by rw [if_neg (by omega)]; omega) (by rw [up_ni (by decide)]; exact e12) (by rw [up_s]) (by rw [up_ni (by decide)]; exact e14) (by rw [up_ni (by decide)]; exact e9) (by rw [up_ni (by decide)]; exact e2) (by rw [up_ni (by decide)]; exact e3) (hF _ _ (by omega)) (fun o ho => up_ne ho)
      | exact st Z _ tp tq (tn + 1) (by rw [if_neg (by omega)]; omega) (by rw [if_neg (by omega)]; omega) (by rw [if_pos (by omega)]) (by rw [up_ni (by decide)]; exact e12) (by rw [up_ni (by decide)]; exact e13) (by rw [up_s]) (by rw [up_ni (by decide)]; exact e9) (by rw [up_ni (by decide)]; exact e2) (by rw [up_ni (by decide)]; exact e3) (hF _ _ (by omega)) (fun o ho => up_ne ho)
      | exact st Z _ tp tq tn (by rw [if_neg (by omega)]; omega) (by rw [if_neg (by omega)]; omega) (by rw [if_neg (by omega)]; omega) e12 e13 e14 e9 e2 e3 (fun _ _ _ _ _ _ => rfl) (fun _ _ => rfl)
  · refine x_aload_n (dat d_Re_countLine 3 rfl) rfl rfl ?_
    refine x_dup (dat d_Re_countLine 4 rfl) rfl ?_
    refine x_geti (ji := 12) (v := tp) (dat d_Re_countLine 5 rfl) rfl f_Re_75 (oi_mk (by decide +kernel)) (e12) ?_
    refine x_iconst (dat d_Re_countLine 6 rfl) (by decide) ?_
    refine x_iadd (v := tp + 1) (dat d_Re_countLine 7 rfl) rfl (by omega) ?_
    refine x_puti (ji := 12) (x := (tp + 1)) (dat d_Re_countLine 8 rfl) rfl f_Re_75w (oi_mk (by decide +kernel)) (fun h => absurd h (by decide)) (by decide) ?_
    refine x_goto (tgt := 53) (dat d_Re_countLine 9 rfl) (by decide) ?_
    first
    | exact st Z _ (tp + 1) tq tn (by rw [if_pos (by omega)]) (by rw [if_neg (by omega)]; omega) (by rw [if_neg (by omega)]; omega) (by rw [up_s]) (by rw [up_ni (by decide)]; exact e13) (by rw [up_ni (by decide)]; exact e14) (by rw [up_ni (by decide)]; exact e9) (by rw [up_ni (by decide)]; exact e2) (by rw [up_ni (by decide)]; exact e3) (hF _ _ (by omega)) (fun o ho => up_ne ho)
    | exact st Z _ tp (tq + 1) tn (by rw [if_neg (by omega)]; omega) (by rw [if_pos (by omega)]) (by rw [if_neg (by omega)]; omega) (by rw [up_ni (by decide)]; exact e12) (by rw [up_s]) (by rw [up_ni (by decide)]; exact e14) (by rw [up_ni (by decide)]; exact e9) (by rw [up_ni (by decide)]; exact e2) (by rw [up_ni (by decide)]; exact e3) (hF _ _ (by omega)) (fun o ho => up_ne ho)
    | exact st Z _ tp tq (tn + 1) (by rw [if_neg (by omega)]; omega) (by rw [if_neg (by omega)]; omega) (by rw [if_pos (by omega)]) (by rw [up_ni (by decide)]; exact e12) (by rw [up_ni (by decide)]; exact e13) (by rw [up_s]) (by rw [up_ni (by decide)]; exact e9) (by rw [up_ni (by decide)]; exact e2) (by rw [up_ni (by decide)]; exact e3) (hF _ _ (by omega)) (fun o ho => up_ne ho)
    | exact st Z _ tp tq tn (by rw [if_neg (by omega)]; omega) (by rw [if_neg (by omega)]; omega) (by rw [if_neg (by omega)]; omega) e12 e13 e14 e9 e2 e3 (fun _ _ _ _ _ _ => rfl) (fun _ _ => rfl)
theorem tkN_w {T : Int → Int} {n q : Int} (h : tkC T n q = 1) : tkN T n q = rn cLt T n q ∧ q < n := by
  unfold tkC at h
  unfold tkN
  by_cases h1 : n ≤ q
  · rw [if_pos h1] at h; exact absurd h (by decide)
  · rw [if_neg h1] at h ⊢
    by_cases h2 : T q = 59
    · rw [if_pos h2] at h; exact absurd h (by decide)
    · rw [if_neg h2] at h ⊢
      by_cases h3 : cLt (T q) = true
      · rw [if_pos h3]
        exact ⟨rfl, by omega⟩
      · rw [if_neg h3] at h
        split at h
        · exact absurd h (by decide)
        · exact absurd h (by decide)
/-- a law's line: behind its word -/
theorem sp_Re_readLaw {g : xG} {K : Option MV → xS → Prop} {σ : xS} {T : Int → Int} {n p q1 : Int} (H : RdT σ T n) (p0 : 0 ≤ p) (p1 : p ≤ n) (e7 : σ 123 7 = p) (hq : rn cBl T n p = q1)
    (k1 : (tkK T n q1 = 3 ∧ lwW (wrd T n q1) ≠ -1) → tkK T n (nxt T n q1) = 2 → ∀ σ' : xS, σ' 123 7 = tkN T n (nxt T n q1) → σ' 124 2 = lwW (wrd T n q1) → (∀ i : Int, i ≠ 2 → σ' 124 i = σ 124 i) → (∀ i : Int, (i < 7 ∨ 10 < i) → σ' 123 i = σ 123 i) → (∀ o : Nat, o ≠ 123 → o ≠ 124 → σ' o = σ o) → K (some (vI 1)) σ')
    (k0 : ∀ (x : Int) (σ' : xS), (¬ (tkK T n q1 = 3 ∧ lwW (wrd T n q1) ≠ -1) → x = q1) → (tkK T n q1 = 3 ∧ lwW (wrd T n q1) ≠ -1 → tkK T n (nxt T n q1) ≠ 2 ∧ x = nxt T n q1) → σ' 123 2 = 1 → σ' 123 3 = x → (∀ i : Int, (i < 7 ∨ 10 < i) → i ≠ 2 → i ≠ 3 → σ' 123 i = σ 123 i) → (∀ o : Nat, o ≠ 123 → σ' o = σ o) → K (some (vI 0)) σ') : Mt g y_Re_readLaw [vR 123] σ K := by
  have hn := H.1
  have qge := rn_ge (f := cBl) (T := T) (n := n) p
  have qle := rn_le (f := cBl) (T := T) (n := n) p1
  rw [hq] at qge qle
  have ck := tkC_K T n q1
  have ck2 := (tkC_K T n (nxt T n q1)).2.2.1
  have tge := rn_ge (f := cBl) (T := T) (n := n) (tkN T n q1)
  have tle := tkN_le (T := T) (n := n) (q := q1) qle
  have wb := wrd_bd T n q1
  have lw99 : wrd T n q1 = 99 → lwW (wrd T n q1) = -1 := fun w => by rw [w]; rfl
  have k3 : tkC T n q1 = 1 → lwW (wrd T n q1) ≠ -1 → tkK T n q1 = 3 := fun w1 w2 => by
    rw [ck.2.2.2.1 w1, if_neg (fun w => w2 (lw99 w))]
  have ck5 := ck.2.2.2.2
  have tn0 : tkC T n q1 = 1 → 0 ≤ tkN T n q1 := fun w => by
    have := (tkN_w w).1
    have := rn_ge (f := cLt) (T := T) (n := n) q1
    omega
  clear ck
  refine x_enter 1 rfl rfl rfl (fun Z => ?_)
  show Wx g y_Re_readLaw Z K 0 [vR 123, vU] [] σ
  refine x_aload_n (dat d_Re_readLaw 0 rfl) rfl rfl ?_
  refine x_inv (As := []) (dat d_Re_readLaw 1 rfl) rfl c_Re_readToken l_Re_90 (by decide) (rv_re (by decide +kernel)) rfl rfl (Nat.le_of_ble_eq_true rfl) ?_
  refine sp_Re_readToken H p0 p1 e7 (fun σ1 R1 F1 => ?_)
  rw [hq] at R1
  obtain ⟨r9, r8, r7, r10⟩ := R1
  have H1 := F1.tape H
  show Wx g y_Re_readLaw Z K 4 [vR 123, vU] [] σ1
  refine x_aload_n (dat d_Re_readLaw 2 rfl) rfl rfl ?_
  refine x_geti (ji := 8) (v := tkC T n q1) (dat d_Re_readLaw 3 rfl) rfl f_Re_93 (oi_mk (by decide +kernel)) (r8) ?_
  refine x_iconst (dat d_Re_readLaw 4 rfl) (by decide) ?_
  refine x_icmp_ne (tgt := 19) (dat d_Re_readLaw 5 rfl) (by decide) (fun c_9 => ?_) (fun c_9 => ?_)
  · refine x_iconst (dat d_Re_readLaw 9 rfl) (by decide) ?_
    refine x_istore_n (L' := [vR 123, vI (-1)]) (dat d_Re_readLaw 10 rfl) rfl (by decide) rfl rfl ?_
    refine x_iload_n (dat d_Re_readLaw 11 rfl) rfl rfl ?_
    refine x_iconst (dat d_Re_readLaw 12 rfl) (by decide) ?_
    refine x_icmp_ne (tgt := 31) (dat d_Re_readLaw 13 rfl) (by decide) (fun h => absurd h (by decide)) (fun c_23 => ?_)
    refine x_aload_n (dat d_Re_readLaw 14 rfl) rfl rfl ?_
    refine x_inv (As := []) (dat d_Re_readLaw 15 rfl) rfl c_Re_breakOff l_Re_100 (by decide) (rv_re (by decide +kernel)) rfl rfl (Nat.le_of_ble_eq_true rfl) ?_
    refine sp_Re_breakOff r9 ?_
    show Wx g y_Re_readLaw Z K 30 [vR 123, vI (-1)] [vI 0] (up (up σ1 123 2 1) 123 3 q1)
    refine x_zret (dat d_Re_readLaw 16 rfl) rfl (by decide) ?_
    first
    | exact k0 q1 _ (fun _ => rfl) (fun w => absurd (by omega) w.2) (by rw [up_ni (by decide), up_s]) (by rw [up_s]) (fun i a b c => by rw [up_ni (Ne.symm c), up_ni (Ne.symm b)]; exact F1.1 i a) (fun o ho => by rw [up_ne ho, up_ne ho]; exact F1.2 o ho)
    | exact k0 q1 _ (fun _ => rfl) (fun w => absurd (ck5 w.1) (by omega)) (by rw [up_ni (by decide), up_s]) (by rw [up_s]) (fun i a b c => by rw [up_ni (Ne.symm c), up_ni (Ne.symm b)]; exact F1.1 i a) (fun o ho => by rw [up_ne ho, up_ne ho]; exact F1.2 o ho)
  · refine x_aload_n (dat d_Re_readLaw 6 rfl) rfl rfl ?_
    refine x_inv (As := []) (dat d_Re_readLaw 7 rfl) rfl c_Re_lawOfWord l_Re_163 (by decide) (rv_re (by decide +kernel)) rfl rfl (Nat.le_of_ble_eq_true rfl) ?_
    refine sp_Re_lawOfWord H1 (by omega) qle r9 (by rw [r7 (by omega), (tkN_w (by omega)).1]) ?_
    show Wx g y_Re_readLaw Z K 16 [vR 123, vU] [vI (lwW (wrd T n q1))] σ1
    refine x_goto (tgt := 20) (dat d_Re_readLaw 8 rfl) (by decide) ?_
    refine x_istore_n (L' := [vR 123, vI (lwW (wrd T n q1))]) (dat d_Re_readLaw 10 rfl) rfl (by decide) rfl rfl ?_
    refine x_iload_n (dat d_Re_readLaw 11 rfl) rfl rfl ?_
    refine x_iconst (dat d_Re_readLaw 12 rfl) (by decide) ?_
    refine x_icmp_ne (tgt := 31) (dat d_Re_readLaw 13 rfl) (by decide) (fun c_23 => ?_) (fun c_23 => ?_)
    · refine x_aload_n (dat d_Re_readLaw 17 rfl) rfl rfl ?_
      refine x_inv (As := []) (dat d_Re_readLaw 18 rfl) rfl c_Re_readToken l_Re_90 (by decide) (rv_re (by decide +kernel)) rfl rfl (Nat.le_of_ble_eq_true rfl) ?_
      refine sp_Re_readToken H1 (tn0 (by omega)) tle (r7 (by omega)) (fun σ2 R2 F2 => ?_)
      obtain ⟨s9, s8, s7, s10⟩ := R2
      have s9 : σ2 123 9 = nxt T n q1 := s9
      have s8 : σ2 123 8 = tkC T n (nxt T n q1) := s8
      have s7 : tkC T n (nxt T n q1) ≠ 4 → σ2 123 7 = tkN T n (nxt T n q1) := s7
      have hh := k3 (by omega) (by omega)
      show Wx g y_Re_readLaw Z K 35 [vR 123, vI (lwW (wrd T n q1))] [] σ2
      refine x_aload_n (dat d_Re_readLaw 19 rfl) rfl rfl ?_
      refine x_geti (ji := 8) (v := tkC T n (nxt T n q1)) (dat d_Re_readLaw 20 rfl) rfl f_Re_93 (oi_mk (by decide +kernel)) (s8) ?_
      refine x_iconst (dat d_Re_readLaw 21 rfl) (by decide) ?_
      refine x_icmp_eq (tgt := 48) (dat d_Re_readLaw 22 rfl) (by decide) (fun c_40 => ?_) (fun c_40 => ?_)
      · refine x_aload_n (dat d_Re_readLaw 26 rfl) rfl rfl ?_
        refine x_getr (r := 124) (dat d_Re_readLaw 27 rfl) rfl f_Re_12 (or_mk (by decide +kernel)) ?_
        refine x_iload_n (dat d_Re_readLaw 28 rfl) rfl rfl ?_
        refine x_puti (ji := 2) (x := (lwW (wrd T n q1))) (dat d_Re_readLaw 29 rfl) rfl f_Re_166w (oi_mk (by decide +kernel)) (fun h => absurd h (by decide)) (by decide) ?_
        refine x_iconst (dat d_Re_readLaw 30 rfl) (by decide) ?_
        refine x_zret (dat d_Re_readLaw 31 rfl) rfl (by decide) ?_
        exact k1 ⟨hh, by omega⟩ (ck2.mp (by omega)) _ (by rw [up_ne (by decide)]; exact s7 (by omega)) up_s (fun i hi => by rw [up_ni (Ne.symm hi), F2.2 124 (by decide), F1.2 124 (by decide)]) (fun i a => by rw [up_ne (by decide)]; exact (F2.1 i a).trans (F1.1 i a)) (fun o a b => by rw [up_ne b]; exact (F2.2 o a).trans (F1.2 o a))
      · refine x_aload_n (dat d_Re_readLaw 23 rfl) rfl rfl ?_
        refine x_inv (As := []) (dat d_Re_readLaw 24 rfl) rfl c_Re_breakOff l_Re_100 (by decide) (rv_re (by decide +kernel)) rfl rfl (Nat.le_of_ble_eq_true rfl) ?_
        refine sp_Re_breakOff s9 ?_
        show Wx g y_Re_readLaw Z K 47 [vR 123, vI (lwW (wrd T n q1))] [vI 0] (up (up σ2 123 2 1) 123 3 (nxt T n q1))
        refine x_zret (dat d_Re_readLaw 25 rfl) rfl (by decide) ?_
        exact k0 (nxt T n q1) _ (fun w => absurd ⟨hh, by omega⟩ w) (fun _ => ⟨fun w => absurd (ck2.mpr w) (by omega), rfl⟩) (by rw [up_ni (by decide), up_s]) (by rw [up_s]) (fun i a b c => by rw [up_ni (Ne.symm c), up_ni (Ne.symm b)]; exact (F2.1 i a).trans (F1.1 i a)) (fun o ho => by rw [up_ne ho, up_ne ho]; exact (F2.2 o ho).trans (F1.2 o ho))
    · refine x_aload_n (dat d_Re_readLaw 14 rfl) rfl rfl ?_
      refine x_inv (As := []) (dat d_Re_readLaw 15 rfl) rfl c_Re_breakOff l_Re_100 (by decide) (rv_re (by decide +kernel)) rfl rfl (Nat.le_of_ble_eq_true rfl) ?_
      refine sp_Re_breakOff r9 ?_
      show Wx g y_Re_readLaw Z K 30 [vR 123, vI (lwW (wrd T n q1))] [vI 0] (up (up σ1 123 2 1) 123 3 q1)
      refine x_zret (dat d_Re_readLaw 16 rfl) rfl (by decide) ?_
      first
      | exact k0 q1 _ (fun _ => rfl) (fun w => absurd (by omega) w.2) (by rw [up_ni (by decide), up_s]) (by rw [up_s]) (fun i a b c => by rw [up_ni (Ne.symm c), up_ni (Ne.symm b)]; exact F1.1 i a) (fun o ho => by rw [up_ne ho, up_ne ho]; exact F1.2 o ho)
      | exact k0 q1 _ (fun _ => rfl) (fun w => absurd (ck5 w.1) (by omega)) (by rw [up_ni (by decide), up_s]) (by rw [up_s]) (fun i a b c => by rw [up_ni (Ne.symm c), up_ni (Ne.symm b)]; exact F1.1 i a) (fun o ho => by rw [up_ne ho, up_ne ho]; exact F1.2 o ho)
/-- what a line of numbers leaves as it is -/
def RnF (σ' σ : xS) : Prop := (∀ i : Int, i ≠ 2 → i ≠ 3 → (i < 7 ∨ 10 < i) → i ≠ 15 → i ≠ 16 → σ' 123 i = σ 123 i) ∧ ∀ o : Nat, o ≠ 123 → o ≠ 137 → σ' o = σ o
theorem sp_Re_readNumbers {g : xG} {K : Option MV → xS → Prop} {σ : xS} {T : Int → Int} {n p q1 l s mn gp gc : Int} {fp : Int × Int} {r : Int → Int} (hl : (s = 0 ∧ 0 ≤ l ∧ l ≤ 6) ∨ (s = 1 ∧ l = 7)) (H : RdT σ T n) (p0 : 0 ≤ p) (p1 : p ≤ n) (e7 : σ 123 7 = p) (hq : rn cBl T n p = q1) (e2 : σ 123 2 = fp.1) (e3 : σ 123 3 = fp.2) (e15 : σ 123 15 = gp) (e16 : σ 123 16 = gc) (e11 : s = 0 → σ 123 11 = mn)
    (C : fp.1 = 0 → RwR σ s r ∧ RwOk s r gp gc ∧ fulL l r = false)
    (k1 : ∀ e : Nat, e = nrun T n (mostT l).toNat q1 → (tkK T n (qit T n q1 e) = 2 ∧ fewT l ≤ (e : Nat)) → ∀ σ' : xS, σ' 123 7 = tkN T n (qit T n q1 e) → σ' 123 2 = (fpN T n l q1 fp e).1 → σ' 123 3 = (fpN T n l q1 fp e).2 → σ' 123 15 = gpN T n l q1 gp e → σ' 123 16 = gcN T n l q1 gc e → ((fpN T n l q1 fp e).1 = 0 → RwR σ' s (rowL l mn (fun j => tkV T n (qit T n q1 j)) e r)) → (∀ i : Int, i ≠ 2 → i ≠ 3 → (i < 7 ∨ 10 < i) → i ≠ 15 → i ≠ 16 → σ' 123 i = σ 123 i) → (∀ o : Nat, (o < 123 ∨ 137 < o) → σ' o = σ o) → K (some (vI 1)) σ')
    (k0 : ∀ e : Nat, e = nrun T n (mostT l).toNat q1 → ¬ (tkK T n (qit T n q1 e) = 2 ∧ fewT l ≤ (e : Nat)) → ∀ σ' : xS, σ' 123 2 = 1 → σ' 123 3 = qit T n q1 e → (∀ i : Int, i ≠ 2 → i ≠ 3 → (i < 7 ∨ 10 < i) → i ≠ 15 → i ≠ 16 → σ' 123 i = σ 123 i) → (∀ o : Nat, (o < 123 ∨ 137 < o) → σ' o = σ o) → K (some (vI 0)) σ') : Mt g y_Re_readNumbers [vR 123, vI l] σ K := by
  have hn := H.1
  have qge := rn_ge (f := cBl) (T := T) (n := n) p
  have qle := rn_le (f := cBl) (T := T) (n := n) p1
  rw [hq] at qge qle
  have l07 : 0 ≤ l ∧ l ≤ 7 := by omega
  have fb := fewT_b l07.1 l07.2
  have f1 := fb.1
  have f2 := fb.2.1
  have hl1 : (stV.getD 1 []).length = 8 := by decide
  have hl2 : (stV.getD 2 []).length = 8 := by decide
  have lp : ∀ (Z : xZ) (d i : Nat) (σ1 : xS) (pi : Int), (i : Int) + d = mostT l → (∀ j : Nat, j < i → tkK T n (qit T n q1 j) = 1) → σ1 123 7 = pi → rn cBl T n pi = qit T n q1 i → 0 ≤ pi → pi ≤ n → σ1 123 2 = (fpN T n l q1 fp i).1 → σ1 123 3 = (fpN T n l q1 fp i).2 → σ1 123 15 = gpN T n l q1 gp i → σ1 123 16 = gcN T n l q1 gc i → (∀ j : Nat, j < i → j < 13 → σ1 137 j = tkV T n (qit T n q1 j)) → RnF σ1 σ → Wx g y_Re_readNumbers Z K 2 [vR 123, vI l, vI (i : Int)] [] σ1 := by
    intro Z d
    induction d with
    | zero =>
      intro i σ1 pi hd hin x7 hqi pi0 pi1 x2 x3 x15 x16 xn F
      have H1 : RdT σ1 T n := H.same (F.1 5 (by decide) (by decide) (by decide) (by decide) (by decide)) (F.1 6 (by decide) (by decide) (by decide) (by decide) (by decide)) (F.2 2 (by decide) (by decide))
      have qiin := qit_ge T n q1 i
      have qile := qit_le (T := T) (n := n) (q := q1) qle i
      have ck := tkC_K T n (qit T n q1 i)
      have ck2 := ck.2.1
      have ck3 := ck.2.2.1
      clear ck
      refine x_iload_n (dat d_Re_readNumbers 2 rfl) rfl rfl ?_
      refine x_gets (own := "ShakenBread$Reader") (q := 2) (dat d_Re_readNumbers 3 rfl) rfl (by decide) (gw_3 (i := 147) rfl rfl) ?_
      refine x_iload_n (dat d_Re_readNumbers 4 rfl) rfl rfl ?_
      refine x_stald (q := 2) (v := mostT l) (dat d_Re_readNumbers 5 rfl) (by decide) (by omega) (by rw [hl2]; omega) (by rfl) (by omega) ?_
      refine x_icmp_gt (tgt := 74) (dat d_Re_readNumbers 6 rfl) (by decide) (fun c_8 => (by omega)) (fun c_8 => ?_)
      refine x_aload_n (dat d_Re_readNumbers 7 rfl) rfl rfl ?_
      refine x_inv (As := []) (dat d_Re_readNumbers 8 rfl) rfl c_Re_readToken l_Re_90 (by decide) (rv_re (by decide +kernel)) rfl rfl (Nat.le_of_ble_eq_true rfl) ?_
      refine sp_Re_readToken H1 pi0 pi1 x7 (fun σ2 R F2 => ?_)
      rw [hqi] at R
      obtain ⟨s9, s8, s7, s10⟩ := R
      have G : RnF σ2 σ := ⟨fun x a b c d e => (F2.1 x c).trans (F.1 x a b c d e), fun o a b => (F2.2 o a).trans (F.2 o a b)⟩
      have y2 : σ2 123 2 = (fpN T n l q1 fp i).1 := by rw [F2.1 2 (by decide)]; exact x2
      have y3 : σ2 123 3 = (fpN T n l q1 fp i).2 := by rw [F2.1 3 (by decide)]; exact x3
      have y15 : σ2 123 15 = gpN T n l q1 gp i := by rw [F2.1 15 (by decide)]; exact x15
      have y16 : σ2 123 16 = gcN T n l q1 gc i := by rw [F2.1 16 (by decide)]; exact x16
      show Wx g y_Re_readNumbers Z K 15 [vR 123, vI l, vI (i : Int)] [] σ2
      refine x_aload_n (dat d_Re_readNumbers 9 rfl) rfl rfl ?_
      refine x_geti (ji := 8) (v := tkC T n (qit T n q1 i)) (dat d_Re_readNumbers 10 rfl) rfl f_Re_93 (oi_mk (by decide +kernel)) (s8) ?_
      refine x_iconst (dat d_Re_readNumbers 11 rfl) (by decide) ?_
      refine x_icmp_ne (tgt := 40) (dat d_Re_readNumbers 12 rfl) (by decide) (fun c_20 => ?_) (fun c_20 => ?_)
      · refine x_aload_n (dat d_Re_readNumbers 24 rfl) rfl rfl ?_
        refine x_geti (ji := 8) (v := tkC T n (qit T n q1 i)) (dat d_Re_readNumbers 25 rfl) rfl f_Re_93 (oi_mk (by decide +kernel)) (s8) ?_
        refine x_iconst (dat d_Re_readNumbers 26 rfl) (by decide) ?_
        refine x_icmp_ne (tgt := 57) (dat d_Re_readNumbers 27 rfl) (by decide) (fun c_45 => ?_) (fun c_45 => ?_)
        · refine x_aload_n (dat d_Re_readNumbers 33 rfl) rfl rfl ?_
          refine x_inv (As := []) (dat d_Re_readNumbers 34 rfl) rfl c_Re_breakOff l_Re_100 (by decide) (rv_re (by decide +kernel)) rfl rfl (Nat.le_of_ble_eq_true rfl) ?_
          refine sp_Re_breakOff s9 ?_
          show Wx g y_Re_readNumbers Z K 61 [vR 123, vI l, vI (i : Int)] [vI 0] (up (up σ2 123 2 1) 123 3 (qit T n q1 i))
          refine x_zret (dat d_Re_readNumbers 35 rfl) rfl (by decide) ?_
          refine k0 i (nrun_is (by omega) hin ?_).symm (fun w => ?_) _ (by rw [up_ni (by decide), up_s]) (by rw [up_s]) (fun x a b c d e => by rw [up_ni (Ne.symm b), up_ni (Ne.symm a)]; exact G.1 x a b c d e) (fun o ho => by rw [up_ne (by omega), up_ne (by omega)]; exact G.2 o (by omega) (by omega))
          · first
            | exact Or.inr (fun w => absurd (ck2.mpr w) (by omega))
            | exact Or.inl (by omega)
          · have := ck3.mpr w.1
            have := w.2
            omega
        · refine x_iload_n (dat d_Re_readNumbers 28 rfl) rfl rfl ?_
          refine x_gets (own := "ShakenBread$Reader") (q := 2) (dat d_Re_readNumbers 29 rfl) rfl (by decide) (gw_3 (i := 147) rfl rfl) ?_
          refine x_iload_n (dat d_Re_readNumbers 30 rfl) rfl rfl ?_
          refine x_stald (q := 2) (v := mostT l) (dat d_Re_readNumbers 31 rfl) (by decide) (by omega) (by rw [hl2]; omega) (by rfl) (by omega) ?_
          refine x_icmp_ne (tgt := 62) (dat d_Re_readNumbers 32 rfl) (by decide) (fun c_54 => (by omega)) (fun c_54 => ?_)
          refine x_aload_n (dat d_Re_readNumbers 33 rfl) rfl rfl ?_
          refine x_inv (As := []) (dat d_Re_readNumbers 34 rfl) rfl c_Re_breakOff l_Re_100 (by decide) (rv_re (by decide +kernel)) rfl rfl (Nat.le_of_ble_eq_true rfl) ?_
          refine sp_Re_breakOff s9 ?_
          show Wx g y_Re_readNumbers Z K 61 [vR 123, vI l, vI (i : Int)] [vI 0] (up (up σ2 123 2 1) 123 3 (qit T n q1 i))
          refine x_zret (dat d_Re_readNumbers 35 rfl) rfl (by decide) ?_
          refine k0 i (nrun_is (by omega) hin ?_).symm (fun w => ?_) _ (by rw [up_ni (by decide), up_s]) (by rw [up_s]) (fun x a b c d e => by rw [up_ni (Ne.symm b), up_ni (Ne.symm a)]; exact G.1 x a b c d e) (fun o ho => by rw [up_ne (by omega), up_ne (by omega)]; exact G.2 o (by omega) (by omega))
          · first
            | exact Or.inr (fun w => absurd (ck2.mpr w) (by omega))
            | exact Or.inl (by omega)
          · have := ck3.mpr w.1
            have := w.2
            omega
      · refine x_iload_n (dat d_Re_readNumbers 13 rfl) rfl rfl ?_
        refine x_gets (own := "ShakenBread$Reader") (q := 1) (dat d_Re_readNumbers 14 rfl) rfl (by decide) (gw_3 (i := 149) rfl rfl) ?_
        refine x_iload_n (dat d_Re_readNumbers 15 rfl) rfl rfl ?_
        refine x_stald (q := 1) (v := fewT l) (dat d_Re_readNumbers 16 rfl) (by decide) (by omega) (by rw [hl1]; omega) (by rfl) (by omega) ?_
        refine x_icmp_lt (tgt := 40) (dat d_Re_readNumbers 17 rfl) (by decide) (fun c_29 => ?_) (fun c_29 => ?_)
        · refine x_aload_n (dat d_Re_readNumbers 24 rfl) rfl rfl ?_
          refine x_geti (ji := 8) (v := tkC T n (qit T n q1 i)) (dat d_Re_readNumbers 25 rfl) rfl f_Re_93 (oi_mk (by decide +kernel)) (s8) ?_
          refine x_iconst (dat d_Re_readNumbers 26 rfl) (by decide) ?_
          refine x_icmp_ne (tgt := 57) (dat d_Re_readNumbers 27 rfl) (by decide) (fun c_45 => ?_) (fun c_45 => ?_)
          · refine x_aload_n (dat d_Re_readNumbers 33 rfl) rfl rfl ?_
            refine x_inv (As := []) (dat d_Re_readNumbers 34 rfl) rfl c_Re_breakOff l_Re_100 (by decide) (rv_re (by decide +kernel)) rfl rfl (Nat.le_of_ble_eq_true rfl) ?_
            refine sp_Re_breakOff s9 ?_
            show Wx g y_Re_readNumbers Z K 61 [vR 123, vI l, vI (i : Int)] [vI 0] (up (up σ2 123 2 1) 123 3 (qit T n q1 i))
            refine x_zret (dat d_Re_readNumbers 35 rfl) rfl (by decide) ?_
            refine k0 i (nrun_is (by omega) hin ?_).symm (fun w => ?_) _ (by rw [up_ni (by decide), up_s]) (by rw [up_s]) (fun x a b c d e => by rw [up_ni (Ne.symm b), up_ni (Ne.symm a)]; exact G.1 x a b c d e) (fun o ho => by rw [up_ne (by omega), up_ne (by omega)]; exact G.2 o (by omega) (by omega))
            · first
              | exact Or.inr (fun w => absurd (ck2.mpr w) (by omega))
              | exact Or.inl (by omega)
            · have := ck3.mpr w.1
              have := w.2
              omega
          · refine x_iload_n (dat d_Re_readNumbers 28 rfl) rfl rfl ?_
            refine x_gets (own := "ShakenBread$Reader") (q := 2) (dat d_Re_readNumbers 29 rfl) rfl (by decide) (gw_3 (i := 147) rfl rfl) ?_
            refine x_iload_n (dat d_Re_readNumbers 30 rfl) rfl rfl ?_
            refine x_stald (q := 2) (v := mostT l) (dat d_Re_readNumbers 31 rfl) (by decide) (by omega) (by rw [hl2]; omega) (by rfl) (by omega) ?_
            refine x_icmp_ne (tgt := 62) (dat d_Re_readNumbers 32 rfl) (by decide) (fun c_54 => (by omega)) (fun c_54 => ?_)
            refine x_aload_n (dat d_Re_readNumbers 33 rfl) rfl rfl ?_
            refine x_inv (As := []) (dat d_Re_readNumbers 34 rfl) rfl c_Re_breakOff l_Re_100 (by decide) (rv_re (by decide +kernel)) rfl rfl (Nat.le_of_ble_eq_true rfl) ?_
            refine sp_Re_breakOff s9 ?_
            show Wx g y_Re_readNumbers Z K 61 [vR 123, vI l, vI (i : Int)] [vI 0] (up (up σ2 123 2 1) 123 3 (qit T n q1 i))
            refine x_zret (dat d_Re_readNumbers 35 rfl) rfl (by decide) ?_
            refine k0 i (nrun_is (by omega) hin ?_).symm (fun w => ?_) _ (by rw [up_ni (by decide), up_s]) (by rw [up_s]) (fun x a b c d e => by rw [up_ni (Ne.symm b), up_ni (Ne.symm a)]; exact G.1 x a b c d e) (fun o ho => by rw [up_ne (by omega), up_ne (by omega)]; exact G.2 o (by omega) (by omega))
            · first
              | exact Or.inr (fun w => absurd (ck2.mpr w) (by omega))
              | exact Or.inl (by omega)
            · have := ck3.mpr w.1
              have := w.2
              omega
        · refine x_aload_n (dat d_Re_readNumbers 18 rfl) rfl rfl ?_
          refine x_iload_n (dat d_Re_readNumbers 19 rfl) rfl rfl ?_
          refine x_iload_n (dat d_Re_readNumbers 20 rfl) rfl rfl ?_
          refine x_inv (As := [vI l, vI (i : Int)]) (dat d_Re_readNumbers 21 rfl) rfl c_Re_keepLine l_Re_174 (by decide) (rv_re (by decide +kernel)) rfl rfl (Nat.le_of_ble_eq_true rfl) ?_
          refine sp_Re_keepLine (s := s) (mn := mn) (gp := gp) (gc := gc) (v := fun j => tkV T n (qit T n q1 j)) (r := r) hl y2 (fun w => by rw [G.1 11 (by decide) (by decide) (by decide) (by decide) (by decide)]; exact e11 w) (fun z => ?_) (fun z σ3 A B => ?_) (fun z => ?_)
          · obtain ⟨g1, g2, g3⟩ := fpN_ok i z
            obtain ⟨c1, c2, c3⟩ := C g1
            have i13 : i ≤ 13 := by
              by_cases w : i ≤ 13
              · exact w
              · have := (g3 13 (by omega)).2
                omega
            refine ⟨⟨by omega, i13⟩, fun j hj => ?_, fun w => by have := fb.2.2.1 w; omega, fun w => by have := fb.2.2.2.1 w; omega, c1.same (fun x a b => G.2 x (by omega) (by omega)), c2, c3, fun w => ?_⟩
            · rw [F2.2 137 (by decide)]
              exact xn j hj (by omega)
            · have b0 := badN_0 (g3 0 (by omega)).1
              rcases w with w | w
              · subst w; exact ⟨b0.1, b0.2.1⟩
              · subst w; exact ⟨b0.1, b0.2.1⟩
          · show Wx g y_Re_readNumbers Z K 38 [vR 123, vI l, vI (i : Int)] [] σ3
            refine x_iconst (dat d_Re_readNumbers 22 rfl) (by decide) ?_
            refine x_zret (dat d_Re_readNumbers 23 rfl) rfl (by decide) ?_
            first
            | exact k1 i (nrun_is (by omega) hin (Or.inr (fun w => absurd (ck2.mpr w) (by omega)))).symm ⟨ck3.mp (by omega), by omega⟩ σ3 (by rw [B 123 (by decide)]; exact s7 (by omega)) (by rw [B 123 (by decide)]; exact y2) (by rw [B 123 (by decide)]; exact y3) (by rw [B 123 (by decide)]; exact y15) (by rw [B 123 (by decide)]; exact y16) (fun _ => A) (fun x a b c d e => by rw [B 123 (by decide)]; exact G.1 x a b c d e) (fun o ho => by rw [B o (by omega)]; exact G.2 o (by omega) (by omega))
            | exact k1 i (nrun_is (by omega) hin (Or.inr (fun w => absurd (ck2.mpr w) (by omega)))).symm ⟨ck3.mp (by omega), by omega⟩ σ2 (s7 (by omega)) y2 y3 y15 y16 (fun w => absurd w z) G.1 (fun o ho => G.2 o (by omega) (by omega))
          · show Wx g y_Re_readNumbers Z K 38 [vR 123, vI l, vI (i : Int)] [] σ2
            refine x_iconst (dat d_Re_readNumbers 22 rfl) (by decide) ?_
            refine x_zret (dat d_Re_readNumbers 23 rfl) rfl (by decide) ?_
            first
            | exact k1 i (nrun_is (by omega) hin (Or.inr (fun w => absurd (ck2.mpr w) (by omega)))).symm ⟨ck3.mp (by omega), by omega⟩ σ3 (by rw [B 123 (by decide)]; exact s7 (by omega)) (by rw [B 123 (by decide)]; exact y2) (by rw [B 123 (by decide)]; exact y3) (by rw [B 123 (by decide)]; exact y15) (by rw [B 123 (by decide)]; exact y16) (fun _ => A) (fun x a b c d e => by rw [B 123 (by decide)]; exact G.1 x a b c d e) (fun o ho => by rw [B o (by omega)]; exact G.2 o (by omega) (by omega))
            | exact k1 i (nrun_is (by omega) hin (Or.inr (fun w => absurd (ck2.mpr w) (by omega)))).symm ⟨ck3.mp (by omega), by omega⟩ σ2 (s7 (by omega)) y2 y3 y15 y16 (fun w => absurd w z) G.1 (fun o ho => G.2 o (by omega) (by omega))
    | succ d ih =>
      intro i σ1 pi hd hin x7 hqi pi0 pi1 x2 x3 x15 x16 xn F
      have H1 : RdT σ1 T n := H.same (F.1 5 (by decide) (by decide) (by decide) (by decide) (by decide)) (F.1 6 (by decide) (by decide) (by decide) (by decide) (by decide)) (F.2 2 (by decide) (by decide))
      have qiin := qit_ge T n q1 i
      have qile := qit_le (T := T) (n := n) (q := q1) qle i
      have ck := tkC_K T n (qit T n q1 i)
      have ck2 := ck.2.1
      have ck3 := ck.2.2.1
      clear ck
      refine x_iload_n (dat d_Re_readNumbers 2 rfl) rfl rfl ?_
      refine x_gets (own := "ShakenBread$Reader") (q := 2) (dat d_Re_readNumbers 3 rfl) rfl (by decide) (gw_3 (i := 147) rfl rfl) ?_
      refine x_iload_n (dat d_Re_readNumbers 4 rfl) rfl rfl ?_
      refine x_stald (q := 2) (v := mostT l) (dat d_Re_readNumbers 5 rfl) (by decide) (by omega) (by rw [hl2]; omega) (by rfl) (by omega) ?_
      refine x_icmp_gt (tgt := 74) (dat d_Re_readNumbers 6 rfl) (by decide) (fun c_8 => (by omega)) (fun c_8 => ?_)
      refine x_aload_n (dat d_Re_readNumbers 7 rfl) rfl rfl ?_
      refine x_inv (As := []) (dat d_Re_readNumbers 8 rfl) rfl c_Re_readToken l_Re_90 (by decide) (rv_re (by decide +kernel)) rfl rfl (Nat.le_of_ble_eq_true rfl) ?_
      refine sp_Re_readToken H1 pi0 pi1 x7 (fun σ2 R F2 => ?_)
      rw [hqi] at R
      obtain ⟨s9, s8, s7, s10⟩ := R
      have G : RnF σ2 σ := ⟨fun x a b c d e => (F2.1 x c).trans (F.1 x a b c d e), fun o a b => (F2.2 o a).trans (F.2 o a b)⟩
      have y2 : σ2 123 2 = (fpN T n l q1 fp i).1 := by rw [F2.1 2 (by decide)]; exact x2
      have y3 : σ2 123 3 = (fpN T n l q1 fp i).2 := by rw [F2.1 3 (by decide)]; exact x3
      have y15 : σ2 123 15 = gpN T n l q1 gp i := by rw [F2.1 15 (by decide)]; exact x15
      have y16 : σ2 123 16 = gcN T n l q1 gc i := by rw [F2.1 16 (by decide)]; exact x16
      show Wx g y_Re_readNumbers Z K 15 [vR 123, vI l, vI (i : Int)] [] σ2
      refine x_aload_n (dat d_Re_readNumbers 9 rfl) rfl rfl ?_
      refine x_geti (ji := 8) (v := tkC T n (qit T n q1 i)) (dat d_Re_readNumbers 10 rfl) rfl f_Re_93 (oi_mk (by decide +kernel)) (s8) ?_
      refine x_iconst (dat d_Re_readNumbers 11 rfl) (by decide) ?_
      refine x_icmp_ne (tgt := 40) (dat d_Re_readNumbers 12 rfl) (by decide) (fun c_20 => ?_) (fun c_20 => ?_)
      · refine x_aload_n (dat d_Re_readNumbers 24 rfl) rfl rfl ?_
        refine x_geti (ji := 8) (v := tkC T n (qit T n q1 i)) (dat d_Re_readNumbers 25 rfl) rfl f_Re_93 (oi_mk (by decide +kernel)) (s8) ?_
        refine x_iconst (dat d_Re_readNumbers 26 rfl) (by decide) ?_
        refine x_icmp_ne (tgt := 57) (dat d_Re_readNumbers 27 rfl) (by decide) (fun c_45 => ?_) (fun c_45 => ?_)
        · refine x_aload_n (dat d_Re_readNumbers 33 rfl) rfl rfl ?_
          refine x_inv (As := []) (dat d_Re_readNumbers 34 rfl) rfl c_Re_breakOff l_Re_100 (by decide) (rv_re (by decide +kernel)) rfl rfl (Nat.le_of_ble_eq_true rfl) ?_
          refine sp_Re_breakOff s9 ?_
          show Wx g y_Re_readNumbers Z K 61 [vR 123, vI l, vI (i : Int)] [vI 0] (up (up σ2 123 2 1) 123 3 (qit T n q1 i))
          refine x_zret (dat d_Re_readNumbers 35 rfl) rfl (by decide) ?_
          refine k0 i (nrun_is (by omega) hin ?_).symm (fun w => ?_) _ (by rw [up_ni (by decide), up_s]) (by rw [up_s]) (fun x a b c d e => by rw [up_ni (Ne.symm b), up_ni (Ne.symm a)]; exact G.1 x a b c d e) (fun o ho => by rw [up_ne (by omega), up_ne (by omega)]; exact G.2 o (by omega) (by omega))
          · first
            | exact Or.inr (fun w => absurd (ck2.mpr w) (by omega))
            | exact Or.inl (by omega)
          · have := ck3.mpr w.1
            have := w.2
            omega
        · refine x_iload_n (dat d_Re_readNumbers 28 rfl) rfl rfl ?_
          refine x_gets (own := "ShakenBread$Reader") (q := 2) (dat d_Re_readNumbers 29 rfl) rfl (by decide) (gw_3 (i := 147) rfl rfl) ?_
          refine x_iload_n (dat d_Re_readNumbers 30 rfl) rfl rfl ?_
          refine x_stald (q := 2) (v := mostT l) (dat d_Re_readNumbers 31 rfl) (by decide) (by omega) (by rw [hl2]; omega) (by rfl) (by omega) ?_
          refine x_icmp_ne (tgt := 62) (dat d_Re_readNumbers 32 rfl) (by decide) (fun c_54 => ?_) (fun c_54 => ?_)
          · refine x_aload_n (dat d_Re_readNumbers 36 rfl) rfl rfl ?_
            refine x_iload_n (dat d_Re_readNumbers 37 rfl) rfl rfl ?_
            refine x_iload_n (dat d_Re_readNumbers 38 rfl) rfl rfl ?_
            refine x_inv (As := [vI l, vI (i : Int)]) (dat d_Re_readNumbers 39 rfl) rfl c_Re_takeNumber l_Re_178 (by decide) (rv_re (by decide +kernel)) rfl rfl (Nat.le_of_ble_eq_true rfl) ?_
            refine sp_Re_takeNumber (j := i) (v := tkV T n (qit T n q1 i)) (q := qit T n q1 i) (gp := gpN T n l q1 gp i) (gc := gcN T n l q1 gc i) (fp := fpN T n l q1 fp i) l07.1 l07.2 (by omega) (s10 (by omega)) (tkV_bd (ck2.mp (by omega))).1 (tkV_bd (ck2.mp (by omega))).2 s9 y2 y3 y15 y16 (fun σ3 t2 t3 t15 t16 tj TF => ?_)
            have eb : (decide (tkV T n (qit T n q1 i) < loT l i) || decide (hiT l i < tkV T n (qit T n q1 i)) || (decide (l = 6) && decide (i = 1) && decide (tkV T n (qit T n q1 i) = σ2 137 0))) = badN T n l q1 i := by
              unfold badN
              by_cases w : i = 1
              · subst w
                have w0 : σ2 137 0 = tkV T n q1 := by rw [F2.2 137 (by decide)]; exact xn 0 (by decide) (by decide)
                rw [w0]
              · rw [decide_eq_false w, Bool.and_false, Bool.false_and, Bool.false_and]
            rw [eb] at t2 t3
            have kk1 := ck2.mp (show tkC T n (qit T n q1 i) = 2 by omega)
            have gt := tkN_gt (T := T) (n := n) (q := qit T n q1 i) (by rw [kk1]; decide)
            have le := tkN_le (T := T) (n := n) (q := qit T n q1 i) qile
            show Wx g y_Re_readNumbers Z K 68 [vR 123, vI l, vI (i : Int)] [] σ3
            refine x_iinc (v' := ((i + 1 : Nat) : Int)) (L' := [vR 123, vI l, vI ((i + 1 : Nat) : Int)]) (dat d_Re_readNumbers 40 rfl) rfl (by decide) rfl (by omega) (by omega) rfl ?_
            refine x_goto (tgt := 2) (dat d_Re_readNumbers 41 rfl) (by decide) ?_
            refine ih (i + 1) σ3 (tkN T n (qit T n q1 i)) (by omega) (fun j hj => ?_) ?_ rfl (by omega) le t2 t3 t15 t16 (fun j hj h13 => ?_) ⟨fun x a b c d e => ?_, fun o a b => ?_⟩
            · by_cases w : j = i
              · subst w; exact kk1
              · exact hin j (by omega)
            · rw [TF.1 7 (by decide) (by decide) (by decide) (by decide)]; exact s7 (by omega)
            · by_cases w : j = i
              · subst w; exact tj h13
              · rw [TF.2.1 (j : Int) (by omega), F2.2 137 (by decide)]; exact xn j (by omega) h13
            · rw [TF.1 x a b d e]; exact G.1 x a b c d e
            · rw [TF.2.2 o a b]; exact G.2 o a b
          · refine x_aload_n (dat d_Re_readNumbers 33 rfl) rfl rfl ?_
            refine x_inv (As := []) (dat d_Re_readNumbers 34 rfl) rfl c_Re_breakOff l_Re_100 (by decide) (rv_re (by decide +kernel)) rfl rfl (Nat.le_of_ble_eq_true rfl) ?_
            refine sp_Re_breakOff s9 ?_
            show Wx g y_Re_readNumbers Z K 61 [vR 123, vI l, vI (i : Int)] [vI 0] (up (up σ2 123 2 1) 123 3 (qit T n q1 i))
            refine x_zret (dat d_Re_readNumbers 35 rfl) rfl (by decide) ?_
            refine k0 i (nrun_is (by omega) hin ?_).symm (fun w => ?_) _ (by rw [up_ni (by decide), up_s]) (by rw [up_s]) (fun x a b c d e => by rw [up_ni (Ne.symm b), up_ni (Ne.symm a)]; exact G.1 x a b c d e) (fun o ho => by rw [up_ne (by omega), up_ne (by omega)]; exact G.2 o (by omega) (by omega))
            · first
              | exact Or.inr (fun w => absurd (ck2.mpr w) (by omega))
              | exact Or.inl (by omega)
            · have := ck3.mpr w.1
              have := w.2
              omega
      · refine x_iload_n (dat d_Re_readNumbers 13 rfl) rfl rfl ?_
        refine x_gets (own := "ShakenBread$Reader") (q := 1) (dat d_Re_readNumbers 14 rfl) rfl (by decide) (gw_3 (i := 149) rfl rfl) ?_
        refine x_iload_n (dat d_Re_readNumbers 15 rfl) rfl rfl ?_
        refine x_stald (q := 1) (v := fewT l) (dat d_Re_readNumbers 16 rfl) (by decide) (by omega) (by rw [hl1]; omega) (by rfl) (by omega) ?_
        refine x_icmp_lt (tgt := 40) (dat d_Re_readNumbers 17 rfl) (by decide) (fun c_29 => ?_) (fun c_29 => ?_)
        · refine x_aload_n (dat d_Re_readNumbers 24 rfl) rfl rfl ?_
          refine x_geti (ji := 8) (v := tkC T n (qit T n q1 i)) (dat d_Re_readNumbers 25 rfl) rfl f_Re_93 (oi_mk (by decide +kernel)) (s8) ?_
          refine x_iconst (dat d_Re_readNumbers 26 rfl) (by decide) ?_
          refine x_icmp_ne (tgt := 57) (dat d_Re_readNumbers 27 rfl) (by decide) (fun c_45 => ?_) (fun c_45 => ?_)
          · refine x_aload_n (dat d_Re_readNumbers 33 rfl) rfl rfl ?_
            refine x_inv (As := []) (dat d_Re_readNumbers 34 rfl) rfl c_Re_breakOff l_Re_100 (by decide) (rv_re (by decide +kernel)) rfl rfl (Nat.le_of_ble_eq_true rfl) ?_
            refine sp_Re_breakOff s9 ?_
            show Wx g y_Re_readNumbers Z K 61 [vR 123, vI l, vI (i : Int)] [vI 0] (up (up σ2 123 2 1) 123 3 (qit T n q1 i))
            refine x_zret (dat d_Re_readNumbers 35 rfl) rfl (by decide) ?_
            refine k0 i (nrun_is (by omega) hin ?_).symm (fun w => ?_) _ (by rw [up_ni (by decide), up_s]) (by rw [up_s]) (fun x a b c d e => by rw [up_ni (Ne.symm b), up_ni (Ne.symm a)]; exact G.1 x a b c d e) (fun o ho => by rw [up_ne (by omega), up_ne (by omega)]; exact G.2 o (by omega) (by omega))
            · first
              | exact Or.inr (fun w => absurd (ck2.mpr w) (by omega))
              | exact Or.inl (by omega)
            · have := ck3.mpr w.1
              have := w.2
              omega
          · refine x_iload_n (dat d_Re_readNumbers 28 rfl) rfl rfl ?_
            refine x_gets (own := "ShakenBread$Reader") (q := 2) (dat d_Re_readNumbers 29 rfl) rfl (by decide) (gw_3 (i := 147) rfl rfl) ?_
            refine x_iload_n (dat d_Re_readNumbers 30 rfl) rfl rfl ?_
            refine x_stald (q := 2) (v := mostT l) (dat d_Re_readNumbers 31 rfl) (by decide) (by omega) (by rw [hl2]; omega) (by rfl) (by omega) ?_
            refine x_icmp_ne (tgt := 62) (dat d_Re_readNumbers 32 rfl) (by decide) (fun c_54 => ?_) (fun c_54 => ?_)
            · refine x_aload_n (dat d_Re_readNumbers 36 rfl) rfl rfl ?_
              refine x_iload_n (dat d_Re_readNumbers 37 rfl) rfl rfl ?_
              refine x_iload_n (dat d_Re_readNumbers 38 rfl) rfl rfl ?_
              refine x_inv (As := [vI l, vI (i : Int)]) (dat d_Re_readNumbers 39 rfl) rfl c_Re_takeNumber l_Re_178 (by decide) (rv_re (by decide +kernel)) rfl rfl (Nat.le_of_ble_eq_true rfl) ?_
              refine sp_Re_takeNumber (j := i) (v := tkV T n (qit T n q1 i)) (q := qit T n q1 i) (gp := gpN T n l q1 gp i) (gc := gcN T n l q1 gc i) (fp := fpN T n l q1 fp i) l07.1 l07.2 (by omega) (s10 (by omega)) (tkV_bd (ck2.mp (by omega))).1 (tkV_bd (ck2.mp (by omega))).2 s9 y2 y3 y15 y16 (fun σ3 t2 t3 t15 t16 tj TF => ?_)
              have eb : (decide (tkV T n (qit T n q1 i) < loT l i) || decide (hiT l i < tkV T n (qit T n q1 i)) || (decide (l = 6) && decide (i = 1) && decide (tkV T n (qit T n q1 i) = σ2 137 0))) = badN T n l q1 i := by
                unfold badN
                by_cases w : i = 1
                · subst w
                  have w0 : σ2 137 0 = tkV T n q1 := by rw [F2.2 137 (by decide)]; exact xn 0 (by decide) (by decide)
                  rw [w0]
                · rw [decide_eq_false w, Bool.and_false, Bool.false_and, Bool.false_and]
              rw [eb] at t2 t3
              have kk1 := ck2.mp (show tkC T n (qit T n q1 i) = 2 by omega)
              have gt := tkN_gt (T := T) (n := n) (q := qit T n q1 i) (by rw [kk1]; decide)
              have le := tkN_le (T := T) (n := n) (q := qit T n q1 i) qile
              show Wx g y_Re_readNumbers Z K 68 [vR 123, vI l, vI (i : Int)] [] σ3
              refine x_iinc (v' := ((i + 1 : Nat) : Int)) (L' := [vR 123, vI l, vI ((i + 1 : Nat) : Int)]) (dat d_Re_readNumbers 40 rfl) rfl (by decide) rfl (by omega) (by omega) rfl ?_
              refine x_goto (tgt := 2) (dat d_Re_readNumbers 41 rfl) (by decide) ?_
              refine ih (i + 1) σ3 (tkN T n (qit T n q1 i)) (by omega) (fun j hj => ?_) ?_ rfl (by omega) le t2 t3 t15 t16 (fun j hj h13 => ?_) ⟨fun x a b c d e => ?_, fun o a b => ?_⟩
              · by_cases w : j = i
                · subst w; exact kk1
                · exact hin j (by omega)
              · rw [TF.1 7 (by decide) (by decide) (by decide) (by decide)]; exact s7 (by omega)
              · by_cases w : j = i
                · subst w; exact tj h13
                · rw [TF.2.1 (j : Int) (by omega), F2.2 137 (by decide)]; exact xn j (by omega) h13
              · rw [TF.1 x a b d e]; exact G.1 x a b c d e
              · rw [TF.2.2 o a b]; exact G.2 o a b
            · refine x_aload_n (dat d_Re_readNumbers 33 rfl) rfl rfl ?_
              refine x_inv (As := []) (dat d_Re_readNumbers 34 rfl) rfl c_Re_breakOff l_Re_100 (by decide) (rv_re (by decide +kernel)) rfl rfl (Nat.le_of_ble_eq_true rfl) ?_
              refine sp_Re_breakOff s9 ?_
              show Wx g y_Re_readNumbers Z K 61 [vR 123, vI l, vI (i : Int)] [vI 0] (up (up σ2 123 2 1) 123 3 (qit T n q1 i))
              refine x_zret (dat d_Re_readNumbers 35 rfl) rfl (by decide) ?_
              refine k0 i (nrun_is (by omega) hin ?_).symm (fun w => ?_) _ (by rw [up_ni (by decide), up_s]) (by rw [up_s]) (fun x a b c d e => by rw [up_ni (Ne.symm b), up_ni (Ne.symm a)]; exact G.1 x a b c d e) (fun o ho => by rw [up_ne (by omega), up_ne (by omega)]; exact G.2 o (by omega) (by omega))
              · first
                | exact Or.inr (fun w => absurd (ck2.mpr w) (by omega))
                | exact Or.inl (by omega)
              · have := ck3.mpr w.1
                have := w.2
                omega
        · refine x_aload_n (dat d_Re_readNumbers 18 rfl) rfl rfl ?_
          refine x_iload_n (dat d_Re_readNumbers 19 rfl) rfl rfl ?_
          refine x_iload_n (dat d_Re_readNumbers 20 rfl) rfl rfl ?_
          refine x_inv (As := [vI l, vI (i : Int)]) (dat d_Re_readNumbers 21 rfl) rfl c_Re_keepLine l_Re_174 (by decide) (rv_re (by decide +kernel)) rfl rfl (Nat.le_of_ble_eq_true rfl) ?_
          refine sp_Re_keepLine (s := s) (mn := mn) (gp := gp) (gc := gc) (v := fun j => tkV T n (qit T n q1 j)) (r := r) hl y2 (fun w => by rw [G.1 11 (by decide) (by decide) (by decide) (by decide) (by decide)]; exact e11 w) (fun z => ?_) (fun z σ3 A B => ?_) (fun z => ?_)
          · obtain ⟨g1, g2, g3⟩ := fpN_ok i z
            obtain ⟨c1, c2, c3⟩ := C g1
            have i13 : i ≤ 13 := by
              by_cases w : i ≤ 13
              · exact w
              · have := (g3 13 (by omega)).2
                omega
            refine ⟨⟨by omega, i13⟩, fun j hj => ?_, fun w => by have := fb.2.2.1 w; omega, fun w => by have := fb.2.2.2.1 w; omega, c1.same (fun x a b => G.2 x (by omega) (by omega)), c2, c3, fun w => ?_⟩
            · rw [F2.2 137 (by decide)]
              exact xn j hj (by omega)
            · have b0 := badN_0 (g3 0 (by omega)).1
              rcases w with w | w
              · subst w; exact ⟨b0.1, b0.2.1⟩
              · subst w; exact ⟨b0.1, b0.2.1⟩
          · show Wx g y_Re_readNumbers Z K 38 [vR 123, vI l, vI (i : Int)] [] σ3
            refine x_iconst (dat d_Re_readNumbers 22 rfl) (by decide) ?_
            refine x_zret (dat d_Re_readNumbers 23 rfl) rfl (by decide) ?_
            first
            | exact k1 i (nrun_is (by omega) hin (Or.inr (fun w => absurd (ck2.mpr w) (by omega)))).symm ⟨ck3.mp (by omega), by omega⟩ σ3 (by rw [B 123 (by decide)]; exact s7 (by omega)) (by rw [B 123 (by decide)]; exact y2) (by rw [B 123 (by decide)]; exact y3) (by rw [B 123 (by decide)]; exact y15) (by rw [B 123 (by decide)]; exact y16) (fun _ => A) (fun x a b c d e => by rw [B 123 (by decide)]; exact G.1 x a b c d e) (fun o ho => by rw [B o (by omega)]; exact G.2 o (by omega) (by omega))
            | exact k1 i (nrun_is (by omega) hin (Or.inr (fun w => absurd (ck2.mpr w) (by omega)))).symm ⟨ck3.mp (by omega), by omega⟩ σ2 (s7 (by omega)) y2 y3 y15 y16 (fun w => absurd w z) G.1 (fun o ho => G.2 o (by omega) (by omega))
          · show Wx g y_Re_readNumbers Z K 38 [vR 123, vI l, vI (i : Int)] [] σ2
            refine x_iconst (dat d_Re_readNumbers 22 rfl) (by decide) ?_
            refine x_zret (dat d_Re_readNumbers 23 rfl) rfl (by decide) ?_
            first
            | exact k1 i (nrun_is (by omega) hin (Or.inr (fun w => absurd (ck2.mpr w) (by omega)))).symm ⟨ck3.mp (by omega), by omega⟩ σ3 (by rw [B 123 (by decide)]; exact s7 (by omega)) (by rw [B 123 (by decide)]; exact y2) (by rw [B 123 (by decide)]; exact y3) (by rw [B 123 (by decide)]; exact y15) (by rw [B 123 (by decide)]; exact y16) (fun _ => A) (fun x a b c d e => by rw [B 123 (by decide)]; exact G.1 x a b c d e) (fun o ho => by rw [B o (by omega)]; exact G.2 o (by omega) (by omega))
            | exact k1 i (nrun_is (by omega) hin (Or.inr (fun w => absurd (ck2.mpr w) (by omega)))).symm ⟨ck3.mp (by omega), by omega⟩ σ2 (s7 (by omega)) y2 y3 y15 y16 (fun w => absurd w z) G.1 (fun o ho => G.2 o (by omega) (by omega))
  refine x_enter 1 rfl rfl rfl (fun Z => ?_)
  show Wx g y_Re_readNumbers Z K 0 [vR 123, vI l, vU] [] σ
  refine x_iconst (dat d_Re_readNumbers 0 rfl) (by decide) ?_
  refine x_istore_n (L' := [vR 123, vI l, vI 0]) (dat d_Re_readNumbers 1 rfl) rfl (by decide) rfl rfl ?_
  exact lp Z (mostT l).toNat 0 σ p (by omega) (fun j hj => absurd hj (Nat.not_lt_zero _)) e7 hq p0 p1 e2 e3 e15 e16 (fun j hj => absurd hj (Nat.not_lt_zero _)) ⟨fun _ _ _ _ _ _ => rfl, fun _ _ _ => rfl⟩
