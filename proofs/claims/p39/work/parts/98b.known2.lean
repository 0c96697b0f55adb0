/-! all that stands at the law's entry -/
theorem cz_prim {args : Array Value} {s : State} {ty : FieldType} (h : (Cond.arrayClass ty).before args s = true) (hp : ty = .int ∨ ty = .byte ∨ ty = .boolean) : ∃ q : ClassId, ArrOfT s q ty ∧ va_RA s q ty := by
  obtain ⟨q, k, comp, h1, h2, h3⟩ := Cond.arrayClass_spec h
  refine ⟨q, fun n z => ⟨(fun k' h' => by cases h'), k, h2, comp, h3⟩, ?_⟩
  rcases hp with rfl | rfl | rfl
  · exact h1
  · exact h1
  · exact h1
theorem cz_obj {args : Array Value} {s : State} {C : String} (h : (Cond.arrayOver (.object C)).before args s = true) : ∃ q : ClassId, ArrOfT s q (.object C) ∧ va_RA s q (.object C) := by
  obtain ⟨comp, q, k, h1, h2, h3, h4, h5⟩ := Cond.arrayOver_spec h
  exact ⟨q, fun n z => ⟨(fun k' h' => by cases h'), k, h3, comp, h4⟩, k, comp, h3, h4, h1, h5⟩
def caZ (L : List ClassId) : Nat → ClassId := fun k => L.getD (k - 20) 0
def stZ (t adK adV : Nat → Nat) (f b : Nat) : Nat → Nat := fun k => if k < 310 then t (k - 300) else if k < 340 then adK (k - 310) else if k < 360 then adV (k - 340) else if k = 500 then b else f
theorem start_k {args : Array Value} {s : State} (l : Launch) (hts : ∀ w ∈ lw_tbl, w.before args s = true) : ∃ (D : va_G) (ca : Nat → ClassId), ∀ st : Nat → Nat, xK (gZ l s.heap.size st D ca) s := by
  obtain ⟨f, hf⟩ := Classical.axiomOfChoice (kc_known hts)
  obtain ⟨q0, a0⟩ := cz_prim (hts (.arrayClass .int) (by decide +kernel)) (Or.inl rfl)
  obtain ⟨q1, a1⟩ := cz_prim (hts (.arrayClass .byte) (by decide +kernel)) (Or.inr (Or.inl rfl))
  obtain ⟨q2, a2⟩ := cz_prim (hts (.arrayClass .boolean) (by decide +kernel)) (Or.inr (Or.inr rfl))
  obtain ⟨q3, a3⟩ := cz_obj (hts (.arrayOver (.object "ShakenBread$Town")) (by decide +kernel))
  obtain ⟨q4, a4⟩ := cz_obj (hts (.arrayOver (.object "ShakenBread$Book")) (by decide +kernel))
  obtain ⟨q5, a5⟩ := cz_obj (hts (.arrayOver (.object "ShakenBread$Told")) (by decide +kernel))
  refine ⟨(fun k => (f k).1, fun k => (f k).2), caZ [q0, q1, q2, q3, q4, q5], fun st => ⟨fun k q hq => hf k q hq, fun k q hq => ?_⟩⟩
  have hk : k < 6 := (List.getElem?_eq_some_iff.mp hq).1
  rcases (show k = 0 ∨ k = 1 ∨ k = 2 ∨ k = 3 ∨ k = 4 ∨ k = 5 by omega) with rfl | rfl | rfl | rfl | rfl | rfl
  · cases hq; exact a0
  · cases hq; exact a1
  · cases hq; exact a2
  · cases hq; exact a3
  · cases hq; exact a4
  · cases hq; exact a5
theorem start_o {args : Array Value} {s : State} (hts : ∀ w ∈ lw_tbl, w.before args s = true) : aO s := by
  refine ⟨⟨va_AO.of (hts (.arrayOver (.object "ShakenBread$Town")) (by decide +kernel)), va_AO.of (hts (.arrayOver (.object "ShakenBread$Book")) (by decide +kernel)), va_AO.of (hts (.arrayOver (.object "ShakenBread$Told")) (by decide +kernel))⟩, fun q hq => va_Nw.of rfl (hts _ ?_)⟩
  have h : ∀ q ∈ nsL, Cond.methodLinkNest q.1 q.2.1 q.2.2 "ShakenBread" ∈ lw_tbl := by decide +kernel
  exact h q hq
theorem vkS_congr {N : Nat} {len : List Nat} {byt : List (List Int32)} {aK aK' aV aV' : Nat → Nat} {A : Nat → Prop} {U : State} {H : Heap} (h : vk_S N len byt aK aV A U H) (e : ∀ i, i < N → aK' i = aK i) (e' : ∀ i, i < N → aV' i = aV i) : vk_S N len byt aK' aV' A U H :=
  ⟨fun i hi => by rw [e i hi, e' i hi]; exact h.1 i hi, fun i j hi hj z => h.2 i j hi hj (by rw [← e i hi, ← e j hj]; exact z)⟩
theorem start_ro {args : Array Value} {s : State} (l : Launch) (b : Nat) (hts : ∀ w ∈ lw_tbl, w.before args s = true) (hnw : ∀ w ∈ nwL, w.before args s = true) : ∃ st : Nat → Nat, st 500 = b ∧ ∀ (D : va_G) (ca : Nat → ClassId), xROA (cA s.heap.size) (gZ l s.heap.size st D ca) s s.heap ∧ xNs (gZ l s.heap.size st D ca) s := by
  have hA : ∀ q : Nat, q < s.heap.size → ¬ cA s.heap.size q := fun q h => Nat.not_le.mpr h
  obtain ⟨adK, adV, k1, k2⟩ := sr_all (A := cA s.heap.size) hts hnw hA
  obtain ⟨t, ht, hlg⟩ : ∃ t : Nat → Nat, (∀ i, i < 5 → va_Z (stC.getD i "") (stN.getD i "") "[I" (.ref (t i)) (cA s.heap.size) s s.heap ∧ va_T .int (t i) ((stV.getD i []).length) (fun j => .int (Int32.ofInt ((stV.getD i []).getD j 0))) (cA s.heap.size) s s.heap) ∧ ∀ i, i < 2 → va_Z "ShakenBreadLaw" (lgN.getD i "") "[J" (.ref (t (5 + i))) (cA s.heap.size) s s.heap ∧ va_T .long (t (5 + i)) ((lgV.getD i []).length) (fun j => .long (Int64.ofInt ((lgV.getD i []).getD j 0))) (cA s.heap.size) s s.heap := by
    have h0 : ∀ i : Nat, ∃ t : Nat, (i < 5 → va_Z (stC.getD i "") (stN.getD i "") "[I" (.ref t) (cA s.heap.size) s s.heap ∧ va_T .int t ((stV.getD i []).length) (fun j => .int (Int32.ofInt ((stV.getD i []).getD j 0))) (cA s.heap.size) s s.heap) ∧ ∀ j, j < 2 → i = 5 + j → va_Z "ShakenBreadLaw" (lgN.getD j "") "[J" (.ref t) (cA s.heap.size) s s.heap ∧ va_T .long t ((lgV.getD j []).length) (fun x => .long (Int64.ofInt ((lgV.getD j []).getD x 0))) (cA s.heap.size) s s.heap := by
      intro i
      by_cases hi : i < 5
      · obtain ⟨t, h⟩ := st_arr hts hnw hA i hi
        exact ⟨t, fun _ => h, fun j hj e => absurd hi (by omega)⟩
      · by_cases hj : i - 5 < 2
        · obtain ⟨t, h⟩ := lg_arr hts hnw hA (i - 5) hj
          exact ⟨t, fun z => absurd z hi, fun j hj2 e => by rw [show j = i - 5 by omega]; exact h⟩
        · exact ⟨0, fun h => absurd h hi, fun j hj2 e => absurd hj2 (by omega)⟩
    obtain ⟨t, h⟩ := Classical.axiomOfChoice h0
    exact ⟨t, fun i hi => (h i).1 hi, fun i hi => (h (5 + i)).2 i hi rfl⟩
  have hcs := va_Zof (A := cA s.heap.size) (hts (.laysStatic "java/lang/String" "COMPACT_STRINGS" "Z") (by decide +kernel)) (hts (.initialized "java/lang/String") (by decide +kernel)) (va_eqi (hnw (.eq (.static "java/lang/String" "COMPACT_STRINGS" "Z") (.int 1)) (by decide +kernel))) hA
  have hfm := va_Zqof (A := cA s.heap.size) (hts (.laysStatic "jdk/internal/util/Preconditions" "SIOOBE_FORMATTER" "Ljava/util/function/BiFunction;") (by decide +kernel)) (hts (.initialized "jdk/internal/util/Preconditions") (by decide +kernel)) (hnw (.isRef (.static "jdk/internal/util/Preconditions" "SIOOBE_FORMATTER" "Ljava/util/function/BiFunction;")) (by decide +kernel)) hA
  obtain ⟨f, hf⟩ : ∃ f : Nat, va_Z "jdk/internal/util/Preconditions" "SIOOBE_FORMATTER" "Ljava/util/function/BiFunction;" .null (cA s.heap.size) s s.heap ∨ va_Z "jdk/internal/util/Preconditions" "SIOOBE_FORMATTER" "Ljava/util/function/BiFunction;" (.ref f) (cA s.heap.size) s s.heap := by
    rcases hfm with h | ⟨f, h⟩
    · exact ⟨0, Or.inl h⟩
    · exact ⟨f, Or.inr h⟩
  refine ⟨stZ t adK adV f b, rfl, fun D ca => ?_⟩
  have e1 : ∀ i, i < 7 → (gZ l s.heap.size (stZ t adK adV f b) D ca).2.1 (300 + i) = t i := fun i hi => by
    rw [gZ_st (by omega)]
    unfold stZ
    rw [if_pos (by omega), Nat.add_sub_cancel_left]
  have e2 : ∀ i, i < 16 → (gZ l s.heap.size (stZ t adK adV f b) D ca).2.1 (310 + i) = adK i := fun i hi => by
    rw [gZ_st (by omega)]
    unfold stZ
    rw [if_neg (by omega), if_pos (by omega), Nat.add_sub_cancel_left]
  have e3 : ∀ i, i < 16 → (gZ l s.heap.size (stZ t adK adV f b) D ca).2.1 (340 + i) = adV i := fun i hi => by
    rw [gZ_st (by omega)]
    unfold stZ
    rw [if_neg (by omega), if_neg (by omega), if_pos (by omega), Nat.add_sub_cancel_left]
  have e4 : (gZ l s.heap.size (stZ t adK adV f b) D ca).2.1 399 = f := rfl
  refine ⟨⟨fun i hi => ?_, ⟨hcs, ?_, fun i hi => ?_⟩, vkS_congr k1 e2 e3⟩, fun i hi => ?_⟩
  · rw [e1 i (by omega)]
    exact ht i hi
  · unfold xFmA
    rw [e4]
    exact hf
  · have e5 := e1 (5 + i) (by omega)
    rw [show 300 + (5 + i) = 305 + i by omega] at e5
    rw [e5]
    exact hlg i hi
  · rw [e2 i hi]
    exact k2 i hi
