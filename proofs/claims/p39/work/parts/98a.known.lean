/-! what stands at the start: strings, classes, arrays' classes -/
def srM (i : Nat) : Term := .string "ShakenBread$Reader" (srK.getD i 0)
def srF (i : Nat) : Term := .field (srM i) "java/lang/String" "value" "[B"
set_option maxRecDepth 100000 in
theorem sr_w1 : ∀ i, i < 16 → Cond.exactly (srM i) "java/lang/String" ∈ nwL ∧ Cond.eq (.field (srM i) "java/lang/String" "coder" "B") (.int 0) ∈ nwL ∧ Cond.arrayOf (srF i) .byte ∈ nwL ∧ Cond.eq (.length (srF i)) (.int (Int32.ofNat (srL.getD i 0))) ∈ nwL ∧ srL.getD i 0 < 2 ^ 31 := by decide +kernel
set_option maxRecDepth 100000 in
theorem sr_w2 : ∀ i, i < 16 → ∀ j, j < srL.getD i 0 → Cond.eq (.elem (srF i) (.int (Int32.ofNat j))) (.int ((srB.getD i []).getD j 0)) ∈ nwL := by decide +kernel
def isPr : Cond → Option (Nat × Nat)
  | .not (.eq (.string x k) (.string y l)) => if x = "ShakenBread$Reader" ∧ y = "ShakenBread$Reader" then some (k, l) else none
  | _ => none
theorem isPr_of {w : Cond} {k l : Nat} (h : isPr w = some (k, l)) : w = Cond.not (Cond.eq (.string "ShakenBread$Reader" k) (.string "ShakenBread$Reader" l)) := by
  unfold isPr at h
  split at h
  · split at h
    · rename_i z
      cases h
      rw [z.1, z.2]
    · cases h
  · cases h
def prL : List (Nat × Nat) := [(117, 144), (117, 146), (144, 146), (117, 148), (144, 148), (146, 148), (117, 150), (144, 150), (146, 150), (148, 150), (117, 130), (144, 130), (146, 130), (148, 130), (150, 130), (117, 132), (144, 132), (146, 132), (148, 132), (150, 132), (130, 132), (117, 134), (144, 134), (146, 134), (148, 134), (150, 134), (130, 134), (132, 134), (117, 136), (144, 136), (146, 136), (148, 136), (150, 136), (130, 136), (132, 136), (134, 136), (117, 138), (144, 138), (146, 138), (148, 138), (150, 138), (130, 138), (132, 138), (134, 138), (136, 138), (117, 140), (144, 140), (146, 140), (148, 140), (150, 140), (130, 140), (132, 140), (134, 140), (136, 140), (138, 140), (117, 142), (144, 142), (146, 142), (148, 142), (150, 142), (130, 142), (132, 142), (134, 142), (136, 142), (138, 142), (140, 142), (117, 152), (144, 152), (146, 152), (148, 152), (150, 152), (130, 152), (132, 152), (134, 152), (136, 152), (138, 152), (140, 152), (142, 152), (117, 154), (144, 154), (146, 154), (148, 154), (150, 154), (130, 154), (132, 154), (134, 154), (136, 154), (138, 154), (140, 154), (142, 154), (152, 154), (117, 156), (144, 156), (146, 156), (148, 156), (150, 156), (130, 156), (132, 156), (134, 156), (136, 156), (138, 156), (140, 156), (142, 156), (152, 156), (154, 156), (117, 158), (144, 158), (146, 158), (148, 158), (150, 158), (130, 158), (132, 158), (134, 158), (136, 158), (138, 158), (140, 158), (142, 158), (152, 158), (154, 158), (156, 158)]
set_option maxRecDepth 100000 in
theorem sr_np : nwL.filterMap isPr = prL := by decide +kernel
theorem sr_np2 : ∀ j, j < 16 → ∀ i, i < j → (srK.getD i 0, srK.getD j 0) ∈ prL := by decide +kernel
theorem sr_lt {i j : Nat} (hi : i < 16) (hj : j < 16) (h : i < j) : Cond.not (Cond.eq (srM i) (srM j)) ∈ nwL := by
  have h1 := sr_np2 j hj i h
  rw [← sr_np] at h1
  obtain ⟨w, hw, hp⟩ := List.mem_filterMap.mp h1
  rw [isPr_of hp] at hw
  exact hw
theorem sr_w3 : ∀ i, i < 16 → ∀ j, j < 16 → i ≠ j → Cond.not (Cond.eq (srM i) (srM j)) ∈ nwL ∨ Cond.not (Cond.eq (srM j) (srM i)) ∈ nwL := by
  intro i hi j hj h
  rcases Nat.lt_or_gt_of_ne h with h | h
  · exact Or.inl (sr_lt hi hj h)
  · exact Or.inr (sr_lt hj hi h)
set_option maxRecDepth 100000 in
theorem sr_w4 : ∀ i, i < 16 → Cond.stringRef "ShakenBread$Reader" (srK.getD i 0) (srT.getD i "") ∈ lw_tbl := by decide +kernel
theorem sr_all {args : Array Value} {s : State} {A : Nat → Prop} (hts : ∀ w ∈ lw_tbl, w.before args s = true) (hnw : ∀ w ∈ nwL, w.before args s = true) (hA : ∀ a : Nat, a < s.heap.size → ¬ A a) : ∃ adK adV : Nat → Nat, vk_S 16 srL srB adK adV A s s.heap ∧ ∀ i, i < 16 → vk_R "ShakenBread$Reader" (srK.getD i 0) (srT.getD i "") (adK i) s := by
  obtain ⟨adK, adV, h1, h2⟩ := vk_Sof (N := 16) (tm := srM) (len := srL) (byt := srB) (fun i hi => (sr_w1 i hi).2.2.2.2) (fun i hi => hnw _ (sr_w1 i hi).1) (fun i hi => hnw _ (sr_w1 i hi).2.1) (fun i hi => hnw _ (sr_w1 i hi).2.2.1) (fun i hi => hnw _ (sr_w1 i hi).2.2.2.1) (fun i hi j hj => hnw _ (sr_w2 i hi j hj)) (fun i j hi hj hij => (sr_w3 i hi j hj hij).imp (fun h => hnw _ h) (fun h => hnw _ h)) hA
  exact ⟨adK, adV, h1, fun i hi => vk_R.of (hts _ (sr_w4 i hi)) (h2 i hi)⟩
set_option maxRecDepth 100000 in
theorem kc_w : ∀ k, k < 10 → Cond.instantiable (classes.getD k (RX0, TX0, 4)).1 (classes.getD k (RX0, TX0, 4)).2.2 ∈ lw_tbl := by decide +kernel
theorem kc_known {args : Array Value} {s : State} (hts : ∀ w ∈ lw_tbl, w.before args s = true) : ∀ k : Nat, ∃ p : ClassId × (Nat → Nat), ∀ q : vw_C, classes[k]? = some q → u_Kn s q.1 q.2.1 q.2.2 p.1 p.2 := by
  have inn : ∀ {w : Cond}, w ∈ gw → w ∈ lw_tbl := fun h => (List.mem_filter.mp h).1
  intro k
  by_cases hk : k < 10
  · have hi := hts _ (kc_w k hk)
    have hu : ∀ q : vw_C, classes[k]? = some q → (∀ w ∈ u_ws q.1 q.2.1 q.2.2, w ∈ lw_tbl) ∧ classes.getD k (RX0, TX0, 4) = q := by
      intro q hq
      refine ⟨?_, by rw [List.getD_eq_getElem?_getD, hq]; rfl⟩
      rcases (show k = 0 ∨ k = 1 ∨ k = 2 ∨ k = 3 ∨ k = 4 ∨ k = 5 ∨ k = 6 ∨ k = 7 ∨ k = 8 ∨ k = 9 by omega) with rfl | rfl | rfl | rfl | rfl | rfl | rfl | rfl | rfl | rfl
      · cases hq; exact fun w h => inn (uX0 w h)
      · cases hq; exact fun w h => inn (uX1 w h)
      · cases hq; exact fun w h => inn (uX2 w h)
      · cases hq; exact fun w h => inn (uX3 w h)
      · cases hq; exact fun w h => inn (uX4 w h)
      · cases hq; exact fun w h => inn (uX5 w h)
      · cases hq; exact fun w h => inn (uX6 w h)
      · cases hq; exact fun w h => inn (uX7 w h)
      · cases hq; exact fun w h => inn (uX8 w h)
      · cases hq; exact fun w h => inn (uX9 w h)
    obtain ⟨q, hq⟩ : ∃ q, classes[k]? = some q := ⟨_, List.getElem?_eq_getElem (show k < classes.length from hk)⟩
    obtain ⟨u1, u2⟩ := hu q hq
    rw [u2] at hi
    obtain ⟨cC, iS, h⟩ := u_known (n := q.2.2) hts u1 hi
    exact ⟨(cC, iS), fun q' hq' => by rw [hq] at hq'; cases hq'; exact h⟩
  · exact ⟨(0, fun _ => 0), fun q hq => absurd (List.getElem?_eq_some_iff.mp hq).1 hk⟩
