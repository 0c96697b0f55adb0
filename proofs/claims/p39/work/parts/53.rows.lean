/-! what a row of a text may hold, line by line -/
def RowOk (r : Int → Int) (gp gc : Int) : Prop := ((2 ≤ r 0 ∧ r 0 ≤ 6) ∧ (2 ≤ r 1 ∧ r 1 ≤ 6) ∧ (0 ≤ r 2 ∧ r 2 ≤ 3) ∧ (1 ≤ r 3 ∧ r 3 ≤ 24) ∧ (0 ≤ r 4 ∧ r 4 ≤ 9) ∧ (1 ≤ r 5 ∧ r 5 ≤ 24) ∧ (0 ≤ r 6 ∧ r 6 ≤ 8) ∧ (0 ≤ r 7 ∧ r 7 ≤ 6)) ∧
  (∀ p : Int, 0 ≤ p → p < r 6 → (0 ≤ r (20 + 17 * p) ∧ r (20 + 17 * p) ≤ 3) ∧ (0 ≤ r (21 + 17 * p) ∧ r (21 + 17 * p) ≤ gc) ∧ (0 ≤ r (22 + 17 * p) ∧ r (22 + 17 * p) ≤ 30)) ∧
  (∀ p : Int, 0 ≤ p → p < 8 → (0 ≤ r (23 + 17 * p) ∧ r (23 + 17 * p) ≤ 3) ∧ (0 ≤ r (24 + 17 * p) ∧ r (24 + 17 * p) ≤ 12) ∧ ∀ i : Int, 0 ≤ i → i < r (24 + 17 * p) → 0 ≤ r (25 + 17 * p + i) ∧ r (25 + 17 * p + i) ≤ gc) ∧
  (∀ q : Int, 0 ≤ q → q < r 7 → (0 ≤ r (8 + 2 * q) ∧ r (8 + 2 * q) ≤ gp) ∧ (0 ≤ r (9 + 2 * q) ∧ r (9 + 2 * q) ≤ gp) ∧ r (8 + 2 * q) ≠ r (9 + 2 * q))
theorem RowOk.town {r : Int → Int} {gp gc : Int} (h : RowOk r gp gc) (h1 : gp < r 6) (h2 : gc < r 0 * r 1) : TownOk r := by
  obtain ⟨⟨a0, a1, a2, a3, a4, a5, a6, a7⟩, b1, b2, b3⟩ := h
  refine ⟨a0, a1, a2, a3, a4, a5, a6, a7, fun p p0 p1 => ?_, fun q q0 q1 => ?_⟩
  · obtain ⟨c1, c2, c3⟩ := b1 p p0 p1
    obtain ⟨d1, d2, d3⟩ := b2 p p0 (by omega)
    exact ⟨c1, ⟨c2.1, by omega⟩, c3, d1, d2, fun i i0 i1 => ⟨(d3 i i0 i1).1, by have := (d3 i i0 i1).2; omega⟩⟩
  · obtain ⟨c1, c2, c3⟩ := b3 q q0 q1
    exact ⟨⟨c1.1, by omega⟩, ⟨c2.1, by omega⟩, c3⟩
theorem RowOk.mono {r : Int → Int} {gp gc gp' gc' : Int} (h : RowOk r gp gc) (h1 : gp ≤ gp') (h2 : gc ≤ gc') : RowOk r gp' gc' := by
  obtain ⟨a, b1, b2, b3⟩ := h
  refine ⟨a, fun p p0 p1 => ?_, fun p p0 p1 => ?_, fun q q0 q1 => ?_⟩
  · obtain ⟨c1, c2, c3⟩ := b1 p p0 p1
    exact ⟨c1, ⟨c2.1, by omega⟩, c3⟩
  · obtain ⟨d1, d2, d3⟩ := b2 p p0 p1
    exact ⟨d1, d2, fun i i0 i1 => ⟨(d3 i i0 i1).1, by have := (d3 i i0 i1).2; omega⟩⟩
  · obtain ⟨c1, c2, c3⟩ := b3 q q0 q1
    exact ⟨⟨c1.1, by omega⟩, ⟨c2.1, by omega⟩, c3⟩
theorem st1_s {r : Int → Int} {i v : Int} : st1 r i v i = v := by unfold st1; rw [if_pos rfl]
theorem st1_n {r : Int → Int} {i v x : Int} (h : x ≠ i) : st1 r i v x = r x := by unfold st1; rw [if_neg h]
/-- one of the first eight changed, within its bounds -/
theorem RowOk.st {r : Int → Int} {gp gc i v : Int} (h : RowOk r gp gc) (hi : 0 ≤ i ∧ i ≤ 5) (h0 : (i = 0 ∨ i = 1) → 2 ≤ v ∧ v ≤ 6) (h2 : i = 2 → 0 ≤ v ∧ v ≤ 3) (h3 : (i = 3 ∨ i = 5) → 1 ≤ v ∧ v ≤ 24) (h4 : i = 4 → 0 ≤ v ∧ v ≤ 9) : RowOk (st1 r i v) gp gc := by
  obtain ⟨⟨a0, a1, a2, a3, a4, a5, a6, a7⟩, b1, b2, b3⟩ := h
  have e6 : st1 r i v 6 = r 6 := st1_n (by omega)
  have e7 : st1 r i v 7 = r 7 := st1_n (by omega)
  have eb : ∀ x : Int, 6 ≤ x → st1 r i v x = r x := fun x hx => st1_n (by omega)
  refine ⟨⟨?_, ?_, ?_, ?_, ?_, ?_, ?_, ?_⟩, fun p p0 p1 => ?_, fun p p0 p1 => ?_, fun q q0 q1 => ?_⟩
  · by_cases z : (0 : Int) = i
    · subst z; rw [st1_s]; exact h0 (Or.inl rfl)
    · rw [st1_n z]; exact a0
  · by_cases z : (1 : Int) = i
    · subst z; rw [st1_s]; exact h0 (Or.inr rfl)
    · rw [st1_n z]; exact a1
  · by_cases z : (2 : Int) = i
    · subst z; rw [st1_s]; exact h2 rfl
    · rw [st1_n z]; exact a2
  · by_cases z : (3 : Int) = i
    · subst z; rw [st1_s]; exact h3 (Or.inl rfl)
    · rw [st1_n z]; exact a3
  · by_cases z : (4 : Int) = i
    · subst z; rw [st1_s]; exact h4 rfl
    · rw [st1_n z]; exact a4
  · by_cases z : (5 : Int) = i
    · subst z; rw [st1_s]; exact h3 (Or.inr rfl)
    · rw [st1_n z]; exact a5
  · rw [e6]; exact a6
  · rw [e7]; exact a7
  · rw [e6] at p1
    rw [eb _ (by omega), eb _ (by omega), eb _ (by omega)]
    exact b1 p p0 p1
  · rw [eb (23 + 17 * p) (by omega), eb (24 + 17 * p) (by omega)]
    obtain ⟨c1, c2, c3⟩ := b2 p p0 p1
    exact ⟨c1, c2, fun j j0 j1 => by rw [eb (25 + 17 * p + j) (by omega)]; exact c3 j j0 j1⟩
  · rw [e7] at q1
    rw [eb _ (by omega), eb _ (by omega)]
    exact b3 q q0 q1
theorem RowOk.one {r : Int → Int} {gp gc m c b : Int} (h : RowOk r gp gc) (h8 : r 6 < 8) (hm : 0 ≤ m ∧ m ≤ 3) (hc : 0 ≤ c ∧ c ≤ gc) (hb : 0 ≤ b ∧ b ≤ 30) : RowOk (st1 (st1 (st1 (st1 r (20 + 17 * r 6) m) (21 + 17 * r 6) c) (22 + 17 * r 6) b) 6 (r 6 + 1)) gp gc := by
  obtain ⟨⟨a0, a1, a2, a3, a4, a5, a6, a7⟩, b1, b2, b3⟩ := h
  have ea : ∀ x : Int, x ≠ 20 + 17 * r 6 → x ≠ 21 + 17 * r 6 → x ≠ 22 + 17 * r 6 → x ≠ 6 → st1 (st1 (st1 (st1 r (20 + 17 * r 6) m) (21 + 17 * r 6) c) (22 + 17 * r 6) b) 6 (r 6 + 1) x = r x := fun x x0 x1 x2 x3 => by
    rw [st1_n x3, st1_n x2, st1_n x1, st1_n x0]
  have e6 : st1 (st1 (st1 (st1 r (20 + 17 * r 6) m) (21 + 17 * r 6) c) (22 + 17 * r 6) b) 6 (r 6 + 1) 6 = r 6 + 1 := st1_s
  refine ⟨⟨?_, ?_, ?_, ?_, ?_, ?_, ?_, ?_⟩, fun p p0 p1 => ?_, fun p p0 p1 => ?_, fun q q0 q1 => ?_⟩
  · rw [ea 0 (by omega) (by omega) (by omega) (by omega)]; exact a0
  · rw [ea 1 (by omega) (by omega) (by omega) (by omega)]; exact a1
  · rw [ea 2 (by omega) (by omega) (by omega) (by omega)]; exact a2
  · rw [ea 3 (by omega) (by omega) (by omega) (by omega)]; exact a3
  · rw [ea 4 (by omega) (by omega) (by omega) (by omega)]; exact a4
  · rw [ea 5 (by omega) (by omega) (by omega) (by omega)]; exact a5
  · rw [e6]; omega
  · rw [ea 7 (by omega) (by omega) (by omega) (by omega)]; exact a7
  · rw [e6] at p1
    by_cases z : p = r 6
    · subst z
      rw [st1_n (show (20 + 17 * r 6 : Int) ≠ 6 by omega), st1_n (show (20 + 17 * r 6 : Int) ≠ 22 + 17 * r 6 by omega), st1_n (show (20 + 17 * r 6 : Int) ≠ 21 + 17 * r 6 by omega), st1_s,
        st1_n (show (21 + 17 * r 6 : Int) ≠ 6 by omega), st1_n (show (21 + 17 * r 6 : Int) ≠ 22 + 17 * r 6 by omega), st1_s, st1_n (show (22 + 17 * r 6 : Int) ≠ 6 by omega), st1_s]
      exact ⟨hm, hc, hb⟩
    · rw [ea (20 + 17 * p) (by omega) (by omega) (by omega) (by omega), ea (21 + 17 * p) (by omega) (by omega) (by omega) (by omega), ea (22 + 17 * p) (by omega) (by omega) (by omega) (by omega)]
      exact b1 p p0 (by omega)
  · rw [ea (23 + 17 * p) (by omega) (by omega) (by omega) (by omega), ea (24 + 17 * p) (by omega) (by omega) (by omega) (by omega)]
    obtain ⟨c1, c2, c3⟩ := b2 p p0 p1
    exact ⟨c1, c2, fun j j0 j1 => by rw [ea (25 + 17 * p + j) (by omega) (by omega) (by omega) (by omega)]; exact c3 j j0 j1⟩
  · rw [ea 7 (by omega) (by omega) (by omega) (by omega)] at q1
    rw [ea (8 + 2 * q) (by omega) (by omega) (by omega) (by omega), ea (9 + 2 * q) (by omega) (by omega) (by omega) (by omega)]
    exact b3 q q0 q1
theorem RowOk.err {r : Int → Int} {gp gc w m : Int} {v : Int → Int} (h : RowOk r gp gc) (hw : 0 ≤ w ∧ w ≤ 7) (hm : 0 ≤ m ∧ m ≤ 12) (hv : ∀ j : Int, 0 ≤ j → j < m → 0 ≤ v j ∧ v j ≤ gc) : RowOk (fun x => if x = 24 + 17 * w then m else if 25 + 17 * w ≤ x ∧ x < 25 + 17 * w + m then v (x - (25 + 17 * w)) else r x) gp gc := by
  obtain ⟨⟨a0, a1, a2, a3, a4, a5, a6, a7⟩, b1, b2, b3⟩ := h
  have ea : ∀ x : Int, x ≠ 24 + 17 * w → (x < 25 + 17 * w ∨ 25 + 17 * w + m ≤ x) → (fun x => if x = 24 + 17 * w then m else if 25 + 17 * w ≤ x ∧ x < 25 + 17 * w + m then v (x - (25 + 17 * w)) else r x) x = r x := fun x x0 x1 => by
    show (if x = 24 + 17 * w then m else if 25 + 17 * w ≤ x ∧ x < 25 + 17 * w + m then v (x - (25 + 17 * w)) else r x) = r x
    rw [if_neg x0, if_neg (by omega)]
  have e4 : (fun x => if x = 24 + 17 * w then m else if 25 + 17 * w ≤ x ∧ x < 25 + 17 * w + m then v (x - (25 + 17 * w)) else r x) (24 + 17 * w) = m := if_pos rfl
  have e5 : ∀ j : Int, 0 ≤ j → j < m → (fun x => if x = 24 + 17 * w then m else if 25 + 17 * w ≤ x ∧ x < 25 + 17 * w + m then v (x - (25 + 17 * w)) else r x) (25 + 17 * w + j) = v j := fun j j0 j1 => by
    show (if 25 + 17 * w + j = 24 + 17 * w then m else if 25 + 17 * w ≤ 25 + 17 * w + j ∧ 25 + 17 * w + j < 25 + 17 * w + m then v (25 + 17 * w + j - (25 + 17 * w)) else r (25 + 17 * w + j)) = v j
    rw [if_neg (by omega), if_pos (by omega)]
    congr 1
    omega
  generalize (fun x => if x = 24 + 17 * w then m else if 25 + 17 * w ≤ x ∧ x < 25 + 17 * w + m then v (x - (25 + 17 * w)) else r x) = r2 at ea e4 e5 ⊢
  have e6 := ea 6 (by omega) (by omega)
  have e7 := ea 7 (by omega) (by omega)
  refine ⟨⟨?_, ?_, ?_, ?_, ?_, ?_, ?_, ?_⟩, fun p p0 p1 => ?_, fun p p0 p1 => ?_, fun q q0 q1 => ?_⟩
  · rw [ea 0 (by omega) (by omega)]; exact a0
  · rw [ea 1 (by omega) (by omega)]; exact a1
  · rw [ea 2 (by omega) (by omega)]; exact a2
  · rw [ea 3 (by omega) (by omega)]; exact a3
  · rw [ea 4 (by omega) (by omega)]; exact a4
  · rw [ea 5 (by omega) (by omega)]; exact a5
  · rw [e6]; exact a6
  · rw [e7]; exact a7
  · rw [e6] at p1
    rw [ea (20 + 17 * p) (by omega) (by omega), ea (21 + 17 * p) (by omega) (by omega), ea (22 + 17 * p) (by omega) (by omega)]
    exact b1 p p0 p1
  · obtain ⟨c1, c2, c3⟩ := b2 p p0 p1
    rw [ea (23 + 17 * p) (by omega) (by omega)]
    by_cases z : p = w
    · subst z
      rw [e4]
      exact ⟨c1, hm, fun j j0 j1 => by rw [e5 j j0 j1]; exact hv j j0 j1⟩
    · rw [ea (24 + 17 * p) (by omega) (by omega)]
      exact ⟨c1, c2, fun j j0 j1 => by rw [ea (25 + 17 * p + j) (by omega) (by omega)]; exact c3 j j0 j1⟩
  · rw [e7] at q1
    rw [ea (8 + 2 * q) (by omega) (by omega), ea (9 + 2 * q) (by omega) (by omega)]
    exact b3 q q0 q1
theorem RowOk.ext {r : Int → Int} {gp gc w v : Int} (h : RowOk r gp gc) (hw : 0 ≤ w ∧ w ≤ 7) (hv : 0 ≤ v ∧ v ≤ 3) : RowOk (st1 r (23 + 17 * w) v) gp gc := by
  obtain ⟨⟨a0, a1, a2, a3, a4, a5, a6, a7⟩, b1, b2, b3⟩ := h
  have ea : ∀ x : Int, x ≠ 23 + 17 * w → st1 r (23 + 17 * w) v x = r x := fun x hx => st1_n hx
  refine ⟨⟨?_, ?_, ?_, ?_, ?_, ?_, ?_, ?_⟩, fun p p0 p1 => ?_, fun p p0 p1 => ?_, fun q q0 q1 => ?_⟩
  · rw [ea 0 (by omega)]; exact a0
  · rw [ea 1 (by omega)]; exact a1
  · rw [ea 2 (by omega)]; exact a2
  · rw [ea 3 (by omega)]; exact a3
  · rw [ea 4 (by omega)]; exact a4
  · rw [ea 5 (by omega)]; exact a5
  · rw [ea 6 (by omega)]; exact a6
  · rw [ea 7 (by omega)]; exact a7
  · rw [ea 6 (by omega)] at p1
    rw [ea (20 + 17 * p) (by omega), ea (21 + 17 * p) (by omega), ea (22 + 17 * p) (by omega)]
    exact b1 p p0 p1
  · obtain ⟨c1, c2, c3⟩ := b2 p p0 p1
    rw [ea (24 + 17 * p) (by omega)]
    refine ⟨?_, c2, fun j j0 j1 => ?_⟩
    · by_cases z : p = w
      · subst z; rw [st1_s]; exact hv
      · rw [ea (23 + 17 * p) (by omega)]; exact c1
    · rw [ea (25 + 17 * p + j) (by omega)]; exact c3 j j0 j1
  · rw [ea 7 (by omega)] at q1
    rw [ea (8 + 2 * q) (by omega), ea (9 + 2 * q) (by omega)]
    exact b3 q q0 q1
theorem RowOk.qrl {r : Int → Int} {gp gc a b : Int} (h : RowOk r gp gc) (h6 : r 7 < 6) (ha : 0 ≤ a ∧ a ≤ gp) (hb : 0 ≤ b ∧ b ≤ gp) (hab : a ≠ b) : RowOk (st1 (st1 (st1 r (8 + 2 * r 7) a) (9 + 2 * r 7) b) 7 (r 7 + 1)) gp gc := by
  obtain ⟨⟨a0, a1, a2, a3, a4, a5, a6, a7⟩, b1, b2, b3⟩ := h
  have ea : ∀ x : Int, x ≠ 8 + 2 * r 7 → x ≠ 9 + 2 * r 7 → x ≠ 7 → st1 (st1 (st1 r (8 + 2 * r 7) a) (9 + 2 * r 7) b) 7 (r 7 + 1) x = r x := fun x x0 x1 x2 => by
    rw [st1_n x2, st1_n x1, st1_n x0]
  have e7 : st1 (st1 (st1 r (8 + 2 * r 7) a) (9 + 2 * r 7) b) 7 (r 7 + 1) 7 = r 7 + 1 := st1_s
  refine ⟨⟨?_, ?_, ?_, ?_, ?_, ?_, ?_, ?_⟩, fun p p0 p1 => ?_, fun p p0 p1 => ?_, fun q q0 q1 => ?_⟩
  · rw [ea 0 (by omega) (by omega) (by omega)]; exact a0
  · rw [ea 1 (by omega) (by omega) (by omega)]; exact a1
  · rw [ea 2 (by omega) (by omega) (by omega)]; exact a2
  · rw [ea 3 (by omega) (by omega) (by omega)]; exact a3
  · rw [ea 4 (by omega) (by omega) (by omega)]; exact a4
  · rw [ea 5 (by omega) (by omega) (by omega)]; exact a5
  · rw [ea 6 (by omega) (by omega) (by omega)]; exact a6
  · rw [e7]; omega
  · rw [ea 6 (by omega) (by omega) (by omega)] at p1
    rw [ea (20 + 17 * p) (by omega) (by omega) (by omega), ea (21 + 17 * p) (by omega) (by omega) (by omega), ea (22 + 17 * p) (by omega) (by omega) (by omega)]
    exact b1 p p0 p1
  · obtain ⟨c1, c2, c3⟩ := b2 p p0 p1
    rw [ea (23 + 17 * p) (by omega) (by omega) (by omega), ea (24 + 17 * p) (by omega) (by omega) (by omega)]
    exact ⟨c1, c2, fun j j0 j1 => by rw [ea (25 + 17 * p + j) (by omega) (by omega) (by omega)]; exact c3 j j0 j1⟩
  · rw [e7] at q1
    by_cases z : q = r 7
    · subst z
      rw [st1_n (show (8 + 2 * r 7 : Int) ≠ 7 by omega), st1_n (show (8 + 2 * r 7 : Int) ≠ 9 + 2 * r 7 by omega), st1_s, st1_n (show (9 + 2 * r 7 : Int) ≠ 7 by omega), st1_s]
      exact ⟨ha, hb, hab⟩
    · rw [ea (8 + 2 * q) (by omega) (by omega) (by omega), ea (9 + 2 * q) (by omega) (by omega) (by omega)]
      exact b3 q q0 (by omega)
theorem BookOk.add {r : Int → Int} {a b c : Int} (h : BookOk r) (h8 : r 0 < 8) (ha : 0 ≤ a ∧ a ≤ 7) (hb : 0 ≤ b ∧ b ≤ 23) (hc : 0 ≤ c ∧ c ≤ 99) : BookOk (st1 (st1 (st1 (st1 r (1 + 3 * r 0) a) (2 + 3 * r 0) b) (3 + 3 * r 0) c) 0 (r 0 + 1)) := by
  have h0 := h.1
  have e0 : st1 (st1 (st1 (st1 r (1 + 3 * r 0) a) (2 + 3 * r 0) b) (3 + 3 * r 0) c) 0 (r 0 + 1) 0 = r 0 + 1 := st1_s
  have ea : ∀ x : Int, x ≠ 1 + 3 * r 0 → x ≠ 2 + 3 * r 0 → x ≠ 3 + 3 * r 0 → x ≠ 0 → st1 (st1 (st1 (st1 r (1 + 3 * r 0) a) (2 + 3 * r 0) b) (3 + 3 * r 0) c) 0 (r 0 + 1) x = r x := fun x x0 x1 x2 x3 => by
    rw [st1_n x3, st1_n x2, st1_n x1, st1_n x0]
  refine ⟨by rw [e0]; omega, fun k k0 k1 => ?_⟩
  rw [e0] at k1
  by_cases z : k = r 0
  · subst z
    rw [st1_n (show (1 + 3 * r 0 : Int) ≠ 0 by omega), st1_n (show (1 + 3 * r 0 : Int) ≠ 3 + 3 * r 0 by omega), st1_n (show (1 + 3 * r 0 : Int) ≠ 2 + 3 * r 0 by omega), st1_s,
      st1_n (show (2 + 3 * r 0 : Int) ≠ 0 by omega), st1_n (show (2 + 3 * r 0 : Int) ≠ 3 + 3 * r 0 by omega), st1_s, st1_n (show (3 + 3 * r 0 : Int) ≠ 0 by omega), st1_s]
    exact ⟨ha, hb, hc⟩
  · rw [ea (1 + 3 * k) (by omega) (by omega) (by omega) (by omega), ea (2 + 3 * k) (by omega) (by omega) (by omega) (by omega), ea (3 + 3 * k) (by omega) (by omega) (by omega) (by omega)]
    exact h.2 k k0 (by omega)
