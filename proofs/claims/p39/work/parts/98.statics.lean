/-! what stands at the start: static arrays -/
def nwL : List Cond := flatC (Jvm.Cond.and given_1 narrow_1)
def stT (i : Nat) : Term := .static (stC.getD i "") (stN.getD i "") "[I"
set_option maxRecDepth 100000 in
theorem st_w1 : ∀ i, i < 5 → Cond.laysStatic (stC.getD i "") (stN.getD i "") "[I" ∈ lw_tbl ∧ Cond.initialized (stC.getD i "") ∈ lw_tbl ∧ (stV.getD i []).length ≤ 100 := by decide +kernel
set_option maxRecDepth 100000 in
theorem st_w2 : ∀ i, i < 5 → Cond.arrayOf (stT i) .int ∈ nwL ∧ Cond.eq (.length (stT i)) (.int (Int32.ofNat (stV.getD i []).length)) ∈ nwL ∧ ∀ j, j < (stV.getD i []).length → Cond.eq (.elem (stT i) (.int (Int32.ofNat j))) (.int (Int32.ofInt ((stV.getD i []).getD j 0))) ∈ nwL := by decide +kernel
theorem st_arr {args : Array Value} {s : State} {A : Nat → Prop} (hts : ∀ w ∈ lw_tbl, w.before args s = true) (hnw : ∀ w ∈ nwL, w.before args s = true) (hA : ∀ a : Nat, a < s.heap.size → ¬ A a) (i : Nat) (hi : i < 5) : ∃ t : Nat, va_Z (stC.getD i "") (stN.getD i "") "[I" (.ref t) A s s.heap ∧ va_T .int t ((stV.getD i []).length) (fun j => .int (Int32.ofInt ((stV.getD i []).getD j 0))) A s s.heap := by
  obtain ⟨a1, a2, a3⟩ := st_w1 i hi
  obtain ⟨c1, c2, c3⟩ := st_w2 i hi
  obtain ⟨t, h1, h2⟩ := va_Tof (tm := stT i) (ty := .int) (N := (stV.getD i []).length) (f := fun j => .int (Int32.ofInt ((stV.getD i []).getD j 0))) (by omega) (hnw _ c1) (va_eqt (hnw _ c2)) (fun j hj => va_eqt (hnw _ (c3 j hj))) hA
  exact ⟨t, va_Zref (hts _ a1) (hts _ a2) h1 hA, h2⟩
/-! the law's rows of words -/
def lgT (i : Nat) : Term := .static "ShakenBreadLaw" (lgN.getD i "") "[J"
set_option maxRecDepth 100000 in
theorem lg_w1 : ∀ i, i < 2 → Cond.laysStatic "ShakenBreadLaw" (lgN.getD i "") "[J" ∈ lw_tbl ∧ Cond.initialized "ShakenBreadLaw" ∈ lw_tbl ∧ (lgV.getD i []).length ≤ 100 := by decide +kernel
set_option maxRecDepth 100000 in
theorem lg_w2 : ∀ i, i < 2 → Cond.arrayOf (lgT i) .long ∈ nwL ∧ Cond.eq (.length (lgT i)) (.int (Int32.ofNat (lgV.getD i []).length)) ∈ nwL ∧ ∀ j, j < (lgV.getD i []).length → Cond.eq (.elem (lgT i) (.int (Int32.ofNat j))) (.long (Int64.ofInt ((lgV.getD i []).getD j 0))) ∈ nwL := by decide +kernel
theorem lg_arr {args : Array Value} {s : State} {A : Nat → Prop} (hts : ∀ w ∈ lw_tbl, w.before args s = true) (hnw : ∀ w ∈ nwL, w.before args s = true) (hA : ∀ a : Nat, a < s.heap.size → ¬ A a) (i : Nat) (hi : i < 2) : ∃ t : Nat, va_Z "ShakenBreadLaw" (lgN.getD i "") "[J" (.ref t) A s s.heap ∧ va_T .long t ((lgV.getD i []).length) (fun j => .long (Int64.ofInt ((lgV.getD i []).getD j 0))) A s s.heap := by
  obtain ⟨a1, a2, a3⟩ := lg_w1 i hi
  obtain ⟨c1, c2, c3⟩ := lg_w2 i hi
  obtain ⟨t, h1, h2⟩ := va_Tof (tm := lgT i) (ty := .long) (N := (lgV.getD i []).length) (f := fun j => .long (Int64.ofInt ((lgV.getD i []).getD j 0))) (by omega) (hnw _ c1) (va_eqt (hnw _ c2)) (fun j hj => va_eqtl (hnw _ (c3 j hj))) hA
  exact ⟨t, va_Zref (hts _ a1) (hts _ a2) h1 hA, h2⟩
