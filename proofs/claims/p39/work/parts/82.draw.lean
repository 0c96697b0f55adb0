/-! a cell of the script, or a number in its place; a drawn town; a copy -/
abbrev y_Lw_law : xM := (⟨"ShakenBreadLaw", "law", "([I)Z"⟩, code, 16, ret, 13)
theorem okS_0 : okS (fun _ _ => 0) := fun k i => show okv k i 0 from ⟨⟨by decide, by decide⟩, fun _ => ⟨by decide, by decide⟩, fun _ => Or.inl rfl, fun _ _ => by decide⟩
def clB (g : xG) (B N : Nat) (xs : Nat → Int32) (U : State) : Prop := xK g U ∧ va_X (g.2.1 500) N xs U U.heap ∧ g.2.1 500 < U.heap.size ∧ B ≤ U.heap.size
def clQ : Array Value → State → Outcome → State → Prop := fun _ st oc t => (∃ v : Int, (-2147483648 ≤ v ∧ v < 2147483648) ∧ oc = .returned (some (.int (Int32.ofInt v)))) ∧ va_F (nA st) st t
theorem clB_blind {g : xG} {B N : Nat} {xs : Nat → Int32} {av : List Value} : FrameBlind (va_Pc av (clB g B N xs)) := fun a U gf mk q => by
  obtain ⟨q0, hK, hX, hb, hB⟩ := q
  exact ⟨q0, xK_moved (u := U) (U := U.calling gf mk a) (Vm.Alike.refl U.vm) hK, va_X.moved (u := U) (U := U.calling gf mk a) (Vm.Alike.refl U.vm) hX, hb, hB⟩
theorem sp_cellOf {g : xG} {B N : Nat} {xs : Nat → Int32} {k : Int} (hN : N ≤ 260) (hk : 0 ≤ k ∧ k ≤ 100) : Met g.1 y_Lw_cellOf.1 (xWs y_Lw_cellOf) (cRm y_Lw_cellOf.2.2.2.2 0 0) (va_Pc ([vR 500, vI k].map (cv g)) (clB g B N xs)) clQ 0 0 (bA B) := by
  refine a_enter 0 (fun U => nA U) [] (fun _ _ => 0) rfl rfl rfl (fun v hv => ?_) okS_0 (fun U hU => ⟨hU.1, (fun i q h => by cases h), (fun i j p q h => by cases h), (fun k h => by cases h), fun q h => h⟩) (fun Z hB => ?_)
  · rcases List.mem_cons.mp hv with rfl | hv
    · trivial
    · rw [List.mem_singleton.mp hv]
      exact ⟨by omega, by omega⟩
  obtain ⟨Y, hY⟩ : ∃ Y : aY, Y = (Z, cRm y_Lw_cellOf.2.2.2.2 0 0, nA Z.2.2.1, MQ Z.2.2.2.2.2.1 clQ Z.2.2.2.2.1 Z.2.2.1 0 0 (bA B)) := ⟨_, rfl⟩
  rw [← hY]
  have hX : aX g Y N xs := by
    rw [hY]
    exact ⟨hN, hB.2.1, hB.2.2.1, Nat.not_le.mpr hB.2.2.1⟩
  have hfr : ∀ q, Y.2.2.1 q → bA B q := fun q hq => by
    rw [hY] at hq
    exact Nat.le_trans hB.2.2.2 hq
  have fin : ∀ t : State, ∀ v : Int, (-2147483648 ≤ v ∧ v < 2147483648) → va_F Y.2.2.1 Y.1.2.2.1 t → clQ Y.1.2.2.2.2.1 Y.1.2.2.1 (.returned (some (.int (Int32.ofInt v)))) t := fun t v hv hF => ⟨⟨v, hv, rfl⟩, by rw [hY] at hF ⊢; exact hF⟩
  refine a_iload_n (dat d_Lw_cellOf 0 rfl) rfl rfl ?_
  refine a_aload_n (dat d_Lw_cellOf 1 rfl) rfl rfl ?_
  refine a_slen hX (dat d_Lw_cellOf 2 rfl) ?_
  refine a_icmp_ge (tgt := 12) (dat d_Lw_cellOf 3 rfl) (by decide) (fun c_3 => ?_) (fun c_3 => ?_)
  · refine a_ldc (own := "ShakenBreadLaw") (n := 185783) (dat d_Lw_cellOf 8 rfl) rfl (gw_5 (i := 4) rfl rfl) (by decide) ?_
    refine a_iload_n (dat d_Lw_cellOf 9 rfl) rfl rfl ?_
    refine a_iconst (dat d_Lw_cellOf 10 rfl) (by decide) ?_
    refine a_iadd (v := k + 3) (dat d_Lw_cellOf 11 rfl) rfl (by omega) ?_
    refine a_imul (v := 185783 * (k + 3)) (dat d_Lw_cellOf 12 rfl) rfl (by omega) ?_
    exact a_iret (dat d_Lw_cellOf 13 rfl) rfl (by rw [hY]) hfr (fun t hv _ hF => fin t _ hv hF)
  · refine a_aload_n (dat d_Lw_cellOf 4 rfl) rfl rfl ?_
    refine a_iload_n (dat d_Lw_cellOf 5 rfl) rfl rfl ?_
    refine a_sld hX (dat d_Lw_cellOf 6 rfl) (by omega) (by omega) ?_
    refine a_goto (tgt := 18) (dat d_Lw_cellOf 7 rfl) (by decide) ?_
    exact a_iret (dat d_Lw_cellOf 13 rfl) rfl (by rw [hY]) hfr (fun t hv _ hF => fin t _ hv hF)
