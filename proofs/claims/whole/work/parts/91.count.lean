/-! the twin's answers: counts, faults */ -/
theorem sp_Mo_count {g : xG} {K : Option MV → xS → Prop} {σ : xS} {a : Int → Int} {s : Int} (A : MoA σ a) (k : K (some (vI (if s = 0 ∨ s = 1 then a s else -2))) σ) : Mt g y_Mo_count [vR 174, vI s] σ K := by
  have e : (s = 0 ∨ s = 1) → σ 175 s = a s := fun w => A.1 s (by omega) (by omega)
  refine x_enter 0 rfl rfl rfl (fun Z => ?_)
  show Wx g y_Mo_count Z K 0 [vR 174, vI s] [] σ
  refine x_iload_n (dat d_Mo_count 0 rfl) rfl rfl ?_
  refine x_iconst (dat d_Mo_count 1 rfl) (by decide) ?_
  refine x_iconst (dat d_Mo_count 2 rfl) (by decide) ?_
  refine x_invs (As := [vI s, vI 0, vI 1]) (dat d_Mo_count 3 rfl) rfl c_Mo_isIn l_Mo_136 (by decide) rfl rfl (Nat.le_of_ble_eq_true rfl) ?_
  refine sp_Mo_isIn (fun x1 x2 => ?_) (fun x1 => ?_)
  · show Wx g y_Mo_count Z K 6 [vR 174, vI s] [vI 1] σ
    refine x_if_eq (tgt := 18) (dat d_Mo_count 4 rfl) (by decide) (fun h => absurd h (by decide)) (fun c_6 => ?_)
    refine x_aload_n (dat d_Mo_count 5 rfl) rfl rfl ?_
    refine x_getr (r := 175) (dat d_Mo_count 6 rfl) rfl f_Mo_7 (or_mk (by decide +kernel)) ?_
    refine x_iload_n (dat d_Mo_count 7 rfl) rfl rfl ?_
    refine x_iald (n := 3888) (v := a s) (dat d_Mo_count 8 rfl) (ai_mk (by decide +kernel)) (by omega) (by omega) (by exact e (by omega)) ?_
    refine x_goto (tgt := 20) (dat d_Mo_count 9 rfl) (by decide) ?_
    refine x_iret (dat d_Mo_count 11 rfl) rfl ?_
    first
    | (rw [if_pos (by omega)] at k; exact k)
    | (rw [if_neg (by omega)] at k; exact k)
  · show Wx g y_Mo_count Z K 6 [vR 174, vI s] [vI 0] σ
    refine x_if_eq (tgt := 18) (dat d_Mo_count 4 rfl) (by decide) (fun c_6 => ?_) (fun h => absurd h (by decide))
    refine x_bipush (dat d_Mo_count 10 rfl) (by decide) (by decide) ?_
    refine x_iret (dat d_Mo_count 11 rfl) rfl ?_
    first
    | (rw [if_pos (by omega)] at k; exact k)
    | (rw [if_neg (by omega)] at k; exact k)
theorem sp_Mo_fault {g : xG} {K : Option MV → xS → Prop} {σ : xS} {a : Int → Int} {w : Int} (A : MoA σ a) (k : K (some (vI (if w = 0 then a 3 else if w = 1 then a 4 else -1))) σ) : Mt g y_Mo_fault [vR 174, vI w] σ K := by
  have e3 : σ 175 3 = a 3 := A.1 3 (by decide) (by decide)
  have e4 : σ 175 4 = a 4 := A.1 4 (by decide) (by decide)
  refine x_enter 0 rfl rfl rfl (fun Z => ?_)
  show Wx g y_Mo_fault Z K 0 [vR 174, vI w] [] σ
  refine x_iload_n (dat d_Mo_fault 0 rfl) rfl rfl ?_
  refine x_if_ne (tgt := 13) (dat d_Mo_fault 1 rfl) (by decide) (fun c_1 => ?_) (fun c_1 => ?_)
  · refine x_iload_n (dat d_Mo_fault 7 rfl) rfl rfl ?_
    refine x_iconst (dat d_Mo_fault 8 rfl) (by decide) ?_
    refine x_icmp_ne (tgt := 27) (dat d_Mo_fault 9 rfl) (by decide) (fun c_15 => ?_) (fun c_15 => ?_)
    · refine x_iconst (dat d_Mo_fault 15 rfl) (by decide) ?_
      refine x_iret (dat d_Mo_fault 16 rfl) rfl ?_
      first
      | (rw [if_pos (by omega)] at k; exact k)
      | (rw [if_neg (by omega), if_pos (by omega)] at k; exact k)
      | (rw [if_neg (by omega), if_neg (by omega)] at k; exact k)
    · refine x_aload_n (dat d_Mo_fault 10 rfl) rfl rfl ?_
      refine x_getr (r := 175) (dat d_Mo_fault 11 rfl) rfl f_Mo_7 (or_mk (by decide +kernel)) ?_
      refine x_iconst (dat d_Mo_fault 12 rfl) (by decide) ?_
      refine x_iald (n := 3888) (v := a 4) (dat d_Mo_fault 13 rfl) (ai_mk (by decide +kernel)) (by omega) (by omega) (by exact e4) ?_
      refine x_goto (tgt := 28) (dat d_Mo_fault 14 rfl) (by decide) ?_
      refine x_iret (dat d_Mo_fault 16 rfl) rfl ?_
      first
      | (rw [if_pos (by omega)] at k; exact k)
      | (rw [if_neg (by omega), if_pos (by omega)] at k; exact k)
      | (rw [if_neg (by omega), if_neg (by omega)] at k; exact k)
  · refine x_aload_n (dat d_Mo_fault 2 rfl) rfl rfl ?_
    refine x_getr (r := 175) (dat d_Mo_fault 3 rfl) rfl f_Mo_7 (or_mk (by decide +kernel)) ?_
    refine x_iconst (dat d_Mo_fault 4 rfl) (by decide) ?_
    refine x_iald (n := 3888) (v := a 3) (dat d_Mo_fault 5 rfl) (ai_mk (by decide +kernel)) (by omega) (by omega) (by exact e3) ?_
    refine x_goto (tgt := 28) (dat d_Mo_fault 6 rfl) (by decide) ?_
    refine x_iret (dat d_Mo_fault 16 rfl) rfl ?_
    first
    | (rw [if_pos (by omega)] at k; exact k)
    | (rw [if_neg (by omega), if_pos (by omega)] at k; exact k)
    | (rw [if_neg (by omega), if_neg (by omega)] at k; exact k)
