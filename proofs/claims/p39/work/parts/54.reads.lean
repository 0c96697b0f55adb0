/-! the reader's town and book, line by line -/
def RowT (σ : xS) (r : Int → Int) : Prop := (∀ i : Int, 0 ≤ i → i ≤ 7 → σ 124 i = r i) ∧
  (∀ p : Int, 0 ≤ p → p < r 6 → σ 125 p = r (20 + 17 * p) ∧ σ 126 p = r (21 + 17 * p) ∧ σ 127 p = r (22 + 17 * p)) ∧
  (∀ p : Int, 0 ≤ p → p < 8 → σ 128 p = r (23 + 17 * p) ∧ σ 129 p = r (24 + 17 * p) ∧ ∀ i : Int, 0 ≤ i → i < r (24 + 17 * p) → σ 130 (12 * p + i) = r (25 + 17 * p + i)) ∧
  (∀ q : Int, 0 ≤ q → q < r 7 → σ 131 q = r (8 + 2 * q) ∧ σ 132 q = r (9 + 2 * q))
theorem RowT.same {σ σ' : xS} {r : Int → Int} (h : RowT σ r) (e : ∀ k : Nat, 124 ≤ k → k ≤ 132 → σ' k = σ k) : RowT σ' r := by
  unfold RowT at h ⊢
  rw [e 124 (by decide) (by decide), e 125 (by decide) (by decide), e 126 (by decide) (by decide), e 127 (by decide) (by decide), e 128 (by decide) (by decide), e 129 (by decide) (by decide), e 130 (by decide) (by decide), e 131 (by decide) (by decide), e 132 (by decide) (by decide)]
  exact h
theorem RowT.town {σ : xS} {r : Int → Int} (h : RowT σ r) (h6 : r 6 ≤ 8) : TownR σ 124 r :=
  ⟨h.1, fun p p0 p1 => ⟨(h.2.1 p p0 p1).1, (h.2.1 p p0 p1).2.1, (h.2.1 p p0 p1).2.2, (h.2.2.1 p p0 (by omega)).1, (h.2.2.1 p p0 (by omega)).2.1, (h.2.2.1 p p0 (by omega)).2.2⟩, h.2.2.2⟩
/-- one of the town's numbers -/
theorem RowT.st {σ : xS} {r : Int → Int} {i v : Int} (h : RowT σ r) (hi : 0 ≤ i ∧ i ≤ 5) : RowT (up σ 124 i v) (st1 r i v) := by
  obtain ⟨h1, h2, h3, h4⟩ := h
  have ea : ∀ x : Int, 6 ≤ x → st1 r i v x = r x := fun x hx => st1_n (by omega)
  refine ⟨fun j j0 j1 => ?_, fun p p0 p1 => ?_, fun p p0 p1 => ?_, fun q q0 q1 => ?_⟩
  · by_cases z : j = i
    · subst z; rw [up_s, st1_s]
    · rw [up_ni (Ne.symm z), st1_n z]; exact h1 j j0 j1
  · rw [ea 6 (by decide)] at p1
    rw [up_ne (by decide), up_ne (by decide), up_ne (by decide), ea _ (by omega), ea _ (by omega), ea _ (by omega)]
    exact h2 p p0 p1
  · rw [up_ne (by decide), up_ne (by decide), up_ne (by decide), ea _ (by omega), ea (24 + 17 * p) (by omega)]
    obtain ⟨g1, g2, g3⟩ := h3 p p0 p1
    exact ⟨g1, g2, fun j j0 j1 => by rw [ea _ (by omega)]; exact g3 j j0 j1⟩
  · rw [ea 7 (by decide)] at q1
    rw [up_ne (by decide), up_ne (by decide), ea _ (by omega), ea _ (by omega)]
    exact h4 q q0 q1
theorem RowT.one {σ : xS} {r : Int → Int} {m c b : Int} (h : RowT σ r) (h0 : 0 ≤ r 6) (h8 : r 6 < 8) (h7 : r 7 ≤ 6) (hs : ∀ p : Int, 0 ≤ p → p < 8 → r (24 + 17 * p) ≤ 12) : RowT (up (up (up (up σ 125 (r 6) m) 126 (r 6) c) 127 (r 6) b) 124 6 (r 6 + 1)) (st1 (st1 (st1 (st1 r (20 + 17 * r 6) m) (21 + 17 * r 6) c) (22 + 17 * r 6) b) 6 (r 6 + 1)) := by
  obtain ⟨h1, h2, h3, h4⟩ := h
  have ea : ∀ x : Int, x ≠ 20 + 17 * r 6 → x ≠ 21 + 17 * r 6 → x ≠ 22 + 17 * r 6 → x ≠ 6 → st1 (st1 (st1 (st1 r (20 + 17 * r 6) m) (21 + 17 * r 6) c) (22 + 17 * r 6) b) 6 (r 6 + 1) x = r x := fun x x0 x1 x2 x3 => by
    rw [st1_n x3, st1_n x2, st1_n x1, st1_n x0]
  have e6 : st1 (st1 (st1 (st1 r (20 + 17 * r 6) m) (21 + 17 * r 6) c) (22 + 17 * r 6) b) 6 (r 6 + 1) 6 = r 6 + 1 := st1_s
  refine ⟨fun j j0 j1 => ?_, fun p p0 p1 => ?_, fun p p0 p1 => ?_, fun q q0 q1 => ?_⟩
  · by_cases z : j = 6
    · subst z; rw [up_s, st1_s]
    · rw [up_ni (Ne.symm z), up_ne (by decide), up_ne (by decide), up_ne (by decide), ea j (by omega) (by omega) (by omega) z]; exact h1 j j0 j1
  · rw [e6] at p1
    by_cases z : p = r 6
    · subst z
      rw [st1_n (show (20 + 17 * r 6 : Int) ≠ 6 by omega), st1_n (show (20 + 17 * r 6 : Int) ≠ 22 + 17 * r 6 by omega), st1_n (show (20 + 17 * r 6 : Int) ≠ 21 + 17 * r 6 by omega), st1_s,
        st1_n (show (21 + 17 * r 6 : Int) ≠ 6 by omega), st1_n (show (21 + 17 * r 6 : Int) ≠ 22 + 17 * r 6 by omega), st1_s, st1_n (show (22 + 17 * r 6 : Int) ≠ 6 by omega), st1_s]
      refine ⟨?_, ?_, ?_⟩
      · rw [up_nk (by decide), up_nk (by decide), up_nk (by decide), up_s]
      · rw [up_nk (by decide), up_nk (by decide), up_s]
      · rw [up_nk (by decide), up_s]
    · rw [ea (20 + 17 * p) (by omega) (by omega) (by omega) (by omega), ea (21 + 17 * p) (by omega) (by omega) (by omega) (by omega), ea (22 + 17 * p) (by omega) (by omega) (by omega) (by omega)]
      rw [up_nk (by decide), up_nk (by decide), up_nk (by decide), up_ni (Ne.symm z), up_nk (by decide), up_nk (by decide), up_ni (Ne.symm z), up_nk (by decide), up_nk (by decide), up_ni (Ne.symm z), up_nk (by decide), up_nk (by decide)]
      exact h2 p p0 (by omega)
  · obtain ⟨g1, g2, g3⟩ := h3 p p0 p1
    have hs1 := hs p p0 p1
    rw [ea (23 + 17 * p) (by omega) (by omega) (by omega) (by omega), ea (24 + 17 * p) (by omega) (by omega) (by omega) (by omega)]
    rw [up_ne (by decide), up_ne (by decide), up_ne (by decide), up_ne (by decide), up_ne (by decide), up_ne (by decide), up_ne (by decide), up_ne (by decide), up_ne (by decide), up_ne (by decide), up_ne (by decide), up_ne (by decide)]
    refine ⟨g1, g2, fun j j0 j1 => ?_⟩
    rw [ea (25 + 17 * p + j) (by omega) (by omega) (by omega) (by omega)]
    exact g3 j j0 j1
  · rw [ea 7 (by omega) (by omega) (by omega) (by omega)] at q1
    rw [up_ne (by decide), up_ne (by decide), up_ne (by decide), up_ne (by decide), up_ne (by decide), up_ne (by decide), up_ne (by decide), up_ne (by decide), ea (8 + 2 * q) (by omega) (by omega) (by omega) (by omega), ea (9 + 2 * q) (by omega) (by omega) (by omega) (by omega)]
    exact h4 q q0 q1
theorem RowT.ext {σ : xS} {r : Int → Int} {w v : Int} (h : RowT σ r) (hw : 0 ≤ w ∧ w ≤ 7) (h6 : r 6 ≤ 8) (h7 : r 7 ≤ 6) (hs : ∀ p : Int, 0 ≤ p → p < 8 → r (24 + 17 * p) ≤ 12) : RowT (up σ 128 w v) (st1 r (23 + 17 * w) v) := by
  obtain ⟨h1, h2, h3, h4⟩ := h
  have ea : ∀ x : Int, x ≠ 23 + 17 * w → st1 r (23 + 17 * w) v x = r x := fun x hx => st1_n hx
  refine ⟨fun j j0 j1 => ?_, fun p p0 p1 => ?_, fun p p0 p1 => ?_, fun q q0 q1 => ?_⟩
  · rw [up_ne (by decide), ea j (by omega)]; exact h1 j j0 j1
  · rw [ea 6 (by omega)] at p1
    rw [up_ne (by decide), up_ne (by decide), up_ne (by decide), ea _ (by omega), ea _ (by omega), ea _ (by omega)]
    exact h2 p p0 p1
  · obtain ⟨g1, g2, g3⟩ := h3 p p0 p1
    have hs1 := hs p p0 p1
    rw [ea (24 + 17 * p) (by omega), up_ne (show (129 : Nat) ≠ 128 by decide)]
    refine ⟨?_, g2, fun j j0 j1 => by rw [up_ne (by decide), ea _ (by omega)]; exact g3 j j0 j1⟩
    by_cases z : p = w
    · subst z; rw [up_s, st1_s]
    · rw [up_ni (Ne.symm z), ea _ (by omega)]; exact g1
  · rw [ea 7 (by omega)] at q1
    rw [up_ne (by decide), up_ne (by decide), ea _ (by omega), ea _ (by omega)]
    exact h4 q q0 q1
theorem RowT.qrl {σ : xS} {r : Int → Int} {a b : Int} (h : RowT σ r) (h0 : 0 ≤ r 7) (h6 : r 7 < 6) (h8 : r 6 ≤ 8) : RowT (up (up (up σ 131 (r 7) a) 132 (r 7) b) 124 7 (r 7 + 1)) (st1 (st1 (st1 r (8 + 2 * r 7) a) (9 + 2 * r 7) b) 7 (r 7 + 1)) := by
  obtain ⟨h1, h2, h3, h4⟩ := h
  have ea : ∀ x : Int, x ≠ 8 + 2 * r 7 → x ≠ 9 + 2 * r 7 → x ≠ 7 → st1 (st1 (st1 r (8 + 2 * r 7) a) (9 + 2 * r 7) b) 7 (r 7 + 1) x = r x := fun x x0 x1 x2 => by
    rw [st1_n x2, st1_n x1, st1_n x0]
  have e7 : st1 (st1 (st1 r (8 + 2 * r 7) a) (9 + 2 * r 7) b) 7 (r 7 + 1) 7 = r 7 + 1 := st1_s
  refine ⟨fun j j0 j1 => ?_, fun p p0 p1 => ?_, fun p p0 p1 => ?_, fun q q0 q1 => ?_⟩
  · by_cases z : j = 7
    · subst z; rw [up_s, st1_s]
    · rw [up_ni (Ne.symm z), up_ne (by decide), up_ne (by decide), ea j (by omega) (by omega) z]; exact h1 j j0 j1
  · rw [ea 6 (by omega) (by omega) (by omega)] at p1
    rw [up_ne (by decide), up_ne (by decide), up_ne (by decide), up_ne (by decide), up_ne (by decide), up_ne (by decide), up_ne (by decide), up_ne (by decide), up_ne (by decide), ea (20 + 17 * p) (by omega) (by omega) (by omega), ea (21 + 17 * p) (by omega) (by omega) (by omega), ea (22 + 17 * p) (by omega) (by omega) (by omega)]
    exact h2 p p0 p1
  · obtain ⟨g1, g2, g3⟩ := h3 p p0 p1
    rw [ea (23 + 17 * p) (by omega) (by omega) (by omega), ea (24 + 17 * p) (by omega) (by omega) (by omega)]
    rw [up_ne (by decide), up_ne (by decide), up_ne (by decide), up_ne (by decide), up_ne (by decide), up_ne (by decide), up_ne (by decide), up_ne (by decide), up_ne (by decide)]
    refine ⟨g1, g2, fun j j0 j1 => ?_⟩
    rw [ea (25 + 17 * p + j) (by omega) (by omega) (by omega)]
    exact g3 j j0 j1
  · rw [e7] at q1
    by_cases z : q = r 7
    · subst z
      rw [st1_n (show (8 + 2 * r 7 : Int) ≠ 7 by omega), st1_n (show (8 + 2 * r 7 : Int) ≠ 9 + 2 * r 7 by omega), st1_s, st1_n (show (9 + 2 * r 7 : Int) ≠ 7 by omega), st1_s]
      exact ⟨by rw [up_nk (by decide), up_nk (by decide), up_s], by rw [up_nk (by decide), up_s]⟩
    · rw [ea (8 + 2 * q) (by omega) (by omega) (by omega), ea (9 + 2 * q) (by omega) (by omega) (by omega)]
      rw [up_nk (by decide), up_nk (by decide), up_ni (Ne.symm z), up_nk (by decide), up_ni (Ne.symm z), up_nk (by decide)]
      exact h4 q q0 (by omega)
/-- an errand's cells -/
theorem RowT.err {σ σ' : xS} {r : Int → Int} {w m : Int} {v : Int → Int} (h : RowT σ r) (hw : 0 ≤ w ∧ w ≤ 7) (hm : 0 ≤ m ∧ m ≤ 12) (h6 : r 6 ≤ 8) (h7 : r 7 ≤ 6) (hs : ∀ p : Int, 0 ≤ p → p < 8 → r (24 + 17 * p) ≤ 12)
    (e1 : σ' 129 w = m) (e2 : ∀ p : Int, p ≠ w → σ' 129 p = σ 129 p) (e3 : ∀ j : Int, 0 ≤ j → j < m → σ' 130 (12 * w + j) = v j) (e4 : ∀ j : Int, (j < 12 * w ∨ 12 * w + 12 ≤ j) → σ' 130 j = σ 130 j) (e5 : ∀ o : Nat, o ≠ 129 → o ≠ 130 → σ' o = σ o) :
    RowT σ' (fun x => if x = 24 + 17 * w then m else if 25 + 17 * w ≤ x ∧ x < 25 + 17 * w + m then v (x - (25 + 17 * w)) else r x) := by
  obtain ⟨h1, h2, h3, h4⟩ := h
  have ea : ∀ x : Int, x ≠ 24 + 17 * w → (x < 25 + 17 * w ∨ 25 + 17 * w + m ≤ x) → (fun x => if x = 24 + 17 * w then m else if 25 + 17 * w ≤ x ∧ x < 25 + 17 * w + m then v (x - (25 + 17 * w)) else r x) x = r x := fun x x0 x1 => by
    show (if x = 24 + 17 * w then m else if 25 + 17 * w ≤ x ∧ x < 25 + 17 * w + m then v (x - (25 + 17 * w)) else r x) = r x
    rw [if_neg x0, if_neg (by omega)]
  have f4 : (fun x => if x = 24 + 17 * w then m else if 25 + 17 * w ≤ x ∧ x < 25 + 17 * w + m then v (x - (25 + 17 * w)) else r x) (24 + 17 * w) = m := if_pos rfl
  have f5 : ∀ j : Int, 0 ≤ j → j < m → (fun x => if x = 24 + 17 * w then m else if 25 + 17 * w ≤ x ∧ x < 25 + 17 * w + m then v (x - (25 + 17 * w)) else r x) (25 + 17 * w + j) = v j := fun j j0 j1 => by
    show (if 25 + 17 * w + j = 24 + 17 * w then m else if 25 + 17 * w ≤ 25 + 17 * w + j ∧ 25 + 17 * w + j < 25 + 17 * w + m then v (25 + 17 * w + j - (25 + 17 * w)) else r (25 + 17 * w + j)) = v j
    rw [if_neg (by omega), if_pos (by omega)]
    congr 1
    omega
  generalize (fun x => if x = 24 + 17 * w then m else if 25 + 17 * w ≤ x ∧ x < 25 + 17 * w + m then v (x - (25 + 17 * w)) else r x) = r2 at ea f4 f5 ⊢
  refine ⟨fun j j0 j1 => ?_, fun p p0 p1 => ?_, fun p p0 p1 => ?_, fun q q0 q1 => ?_⟩
  · rw [e5 124 (by decide) (by decide), ea j (by omega) (by omega)]; exact h1 j j0 j1
  · rw [ea 6 (by omega) (by omega)] at p1
    rw [e5 125 (by decide) (by decide), e5 126 (by decide) (by decide), e5 127 (by decide) (by decide), ea (20 + 17 * p) (by omega) (by omega), ea (21 + 17 * p) (by omega) (by omega), ea (22 + 17 * p) (by omega) (by omega)]
    exact h2 p p0 p1
  · obtain ⟨g1, g2, g3⟩ := h3 p p0 p1
    have hs1 := hs p p0 p1
    rw [e5 128 (by decide) (by decide), ea (23 + 17 * p) (by omega) (by omega)]
    by_cases z : p = w
    · subst z
      rw [e1, f4]
      exact ⟨g1, rfl, fun j j0 j1 => by rw [e3 j j0 j1, f5 j j0 j1]⟩
    · rw [e2 p z, ea (24 + 17 * p) (by omega) (by omega)]
      refine ⟨g1, g2, fun j j0 j1 => ?_⟩
      rw [e4 _ (by omega), ea (25 + 17 * p + j) (by omega) (by omega)]
      exact g3 j j0 j1
  · rw [ea 7 (by omega) (by omega)] at q1
    rw [e5 131 (by decide) (by decide), e5 132 (by decide) (by decide), ea (8 + 2 * q) (by omega) (by omega), ea (9 + 2 * q) (by omega) (by omega)]
    exact h4 q q0 q1
/-- a note more -/
theorem BookR.add {σ : xS} {r : Int → Int} {a b c : Int} (h : BookR σ 133 r) (h0 : 0 ≤ r 0) : BookR (up (up (up (up σ 134 (r 0) a) 135 (r 0) b) 136 (r 0) c) 133 0 (r 0 + 1)) 133 (st1 (st1 (st1 (st1 r (1 + 3 * r 0) a) (2 + 3 * r 0) b) (3 + 3 * r 0) c) 0 (r 0 + 1)) := by
  have e0 : st1 (st1 (st1 (st1 r (1 + 3 * r 0) a) (2 + 3 * r 0) b) (3 + 3 * r 0) c) 0 (r 0 + 1) 0 = r 0 + 1 := st1_s
  have ea : ∀ x : Int, x ≠ 1 + 3 * r 0 → x ≠ 2 + 3 * r 0 → x ≠ 3 + 3 * r 0 → x ≠ 0 → st1 (st1 (st1 (st1 r (1 + 3 * r 0) a) (2 + 3 * r 0) b) (3 + 3 * r 0) c) 0 (r 0 + 1) x = r x := fun x x0 x1 x2 x3 => by
    rw [st1_n x3, st1_n x2, st1_n x1, st1_n x0]
  refine ⟨by rw [e0, up_s], fun k k0 k1 => ?_⟩
  rw [e0] at k1
  show up (up (up (up σ 134 (r 0) a) 135 (r 0) b) 136 (r 0) c) 133 0 (r 0 + 1) 134 k = _ ∧ up (up (up (up σ 134 (r 0) a) 135 (r 0) b) 136 (r 0) c) 133 0 (r 0 + 1) 135 k = _ ∧ up (up (up (up σ 134 (r 0) a) 135 (r 0) b) 136 (r 0) c) 133 0 (r 0 + 1) 136 k = _
  by_cases z : k = r 0
  · subst z
    rw [st1_n (show (1 + 3 * r 0 : Int) ≠ 0 by omega), st1_n (show (1 + 3 * r 0 : Int) ≠ 3 + 3 * r 0 by omega), st1_n (show (1 + 3 * r 0 : Int) ≠ 2 + 3 * r 0 by omega), st1_s,
      st1_n (show (2 + 3 * r 0 : Int) ≠ 0 by omega), st1_n (show (2 + 3 * r 0 : Int) ≠ 3 + 3 * r 0 by omega), st1_s, st1_n (show (3 + 3 * r 0 : Int) ≠ 0 by omega), st1_s]
    refine ⟨?_, ?_, ?_⟩
    · rw [up_nk (by decide), up_nk (by decide), up_nk (by decide), up_s]
    · rw [up_nk (by decide), up_nk (by decide), up_s]
    · rw [up_nk (by decide), up_s]
  · rw [ea (1 + 3 * k) (by omega) (by omega) (by omega) (by omega), ea (2 + 3 * k) (by omega) (by omega) (by omega) (by omega), ea (3 + 3 * k) (by omega) (by omega) (by omega) (by omega)]
    rw [up_nk (by decide), up_nk (by decide), up_nk (by decide), up_ni (Ne.symm z), up_nk (by decide), up_nk (by decide), up_ni (Ne.symm z), up_nk (by decide), up_nk (by decide), up_ni (Ne.symm z), up_nk (by decide), up_nk (by decide)]
    exact h.2 k k0 (by omega)
theorem sp_Tw_addPerson {g : xG} {K : Option MV → xS → Prop} {σ : xS} {n m c b : Int} (e6 : σ 124 6 = n) (n0 : 0 ≤ n) (n1 : n < 8) (k : K none (up (up (up (up σ 125 n m) 126 n c) 127 n b) 124 6 (n + 1))) : Mt g y_Tw_addPerson [vR 124, vI m, vI c, vI b] σ K := by
  refine x_enter 0 rfl rfl rfl (fun Z => ?_)
  show Wx g y_Tw_addPerson Z K 0 [vR 124, vI m, vI c, vI b] [] σ
  refine x_aload_n (dat d_Tw_addPerson 0 rfl) rfl rfl ?_
  refine x_geti (ji := 6) (v := n) (dat d_Tw_addPerson 1 rfl) rfl f_Tw_55 (oi_mk (by decide +kernel)) (e6) ?_
  refine x_bipush (dat d_Tw_addPerson 2 rfl) (by decide) (by decide) ?_
  refine x_icmp_ge (tgt := 49) (dat d_Tw_addPerson 3 rfl) (by decide) (fun c_6 => (by omega)) (fun c_6 => ?_)
  refine x_aload_n (dat d_Tw_addPerson 4 rfl) rfl rfl ?_
  refine x_getr (r := 125) (dat d_Tw_addPerson 5 rfl) rfl f_Tw_9 (or_mk (by decide +kernel)) ?_
  refine x_aload_n (dat d_Tw_addPerson 6 rfl) rfl rfl ?_
  refine x_geti (ji := 6) (v := n) (dat d_Tw_addPerson 7 rfl) rfl f_Tw_55 (oi_mk (by decide +kernel)) (e6) ?_
  refine x_iload_n (dat d_Tw_addPerson 8 rfl) rfl rfl ?_
  refine x_iast (n := 8) (dat d_Tw_addPerson 9 rfl) (ai_mk (by decide +kernel)) (by omega) (by omega) ?_
  refine x_aload_n (dat d_Tw_addPerson 10 rfl) rfl rfl ?_
  refine x_getr (r := 126) (dat d_Tw_addPerson 11 rfl) rfl f_Tw_15 (or_mk (by decide +kernel)) ?_
  refine x_aload_n (dat d_Tw_addPerson 12 rfl) rfl rfl ?_
  refine x_geti (ji := 6) (v := n) (dat d_Tw_addPerson 13 rfl) rfl f_Tw_55 (oi_mk (by decide +kernel)) ((up_nk (by decide)).trans e6) ?_
  refine x_iload_n (dat d_Tw_addPerson 14 rfl) rfl rfl ?_
  refine x_iast (n := 8) (dat d_Tw_addPerson 15 rfl) (ai_mk (by decide +kernel)) (by omega) (by omega) ?_
  refine x_aload_n (dat d_Tw_addPerson 16 rfl) rfl rfl ?_
  refine x_getr (r := 127) (dat d_Tw_addPerson 17 rfl) rfl f_Tw_18 (or_mk (by decide +kernel)) ?_
  refine x_aload_n (dat d_Tw_addPerson 18 rfl) rfl rfl ?_
  refine x_geti (ji := 6) (v := n) (dat d_Tw_addPerson 19 rfl) rfl f_Tw_55 (oi_mk (by decide +kernel)) ((up_nk (by decide)).trans ((up_nk (by decide)).trans e6)) ?_
  refine x_iload_n (dat d_Tw_addPerson 20 rfl) rfl rfl ?_
  refine x_iast (n := 8) (dat d_Tw_addPerson 21 rfl) (ai_mk (by decide +kernel)) (by omega) (by omega) ?_
  refine x_aload_n (dat d_Tw_addPerson 22 rfl) rfl rfl ?_
  refine x_dup (dat d_Tw_addPerson 23 rfl) rfl ?_
  refine x_geti (ji := 6) (v := n) (dat d_Tw_addPerson 24 rfl) rfl f_Tw_55 (oi_mk (by decide +kernel)) ((up_nk (by decide)).trans ((up_nk (by decide)).trans ((up_nk (by decide)).trans e6))) ?_
  refine x_iconst (dat d_Tw_addPerson 25 rfl) (by decide) ?_
  refine x_iadd (v := n + 1) (dat d_Tw_addPerson 26 rfl) rfl (by omega) ?_
  refine x_puti (ji := 6) (x := (n + 1)) (dat d_Tw_addPerson 27 rfl) rfl f_Tw_55w (oi_mk (by decide +kernel)) (fun h => absurd h (by decide)) (by decide) ?_
  refine x_ret (dat d_Tw_addPerson 28 rfl) rfl ?_
  exact k
theorem sp_Tw_addQuarrel {g : xG} {K : Option MV → xS → Prop} {σ : xS} {n a b : Int} (e7 : σ 124 7 = n) (n0 : 0 ≤ n) (n1 : n < 6) (k : K none (up (up (up σ 131 n a) 132 n b) 124 7 (n + 1))) : Mt g y_Tw_addQuarrel [vR 124, vI a, vI b] σ K := by
  refine x_enter 0 rfl rfl rfl (fun Z => ?_)
  show Wx g y_Tw_addQuarrel Z K 0 [vR 124, vI a, vI b] [] σ
  refine x_aload_n (dat d_Tw_addQuarrel 0 rfl) rfl rfl ?_
  refine x_geti (ji := 7) (v := n) (dat d_Tw_addQuarrel 1 rfl) rfl f_Tw_58 (oi_mk (by decide +kernel)) (e7) ?_
  refine x_bipush (dat d_Tw_addQuarrel 2 rfl) (by decide) (by decide) ?_
  refine x_icmp_ge (tgt := 39) (dat d_Tw_addQuarrel 3 rfl) (by decide) (fun c_6 => (by omega)) (fun c_6 => ?_)
  refine x_aload_n (dat d_Tw_addQuarrel 4 rfl) rfl rfl ?_
  refine x_getr (r := 131) (dat d_Tw_addQuarrel 5 rfl) rfl f_Tw_30 (or_mk (by decide +kernel)) ?_
  refine x_aload_n (dat d_Tw_addQuarrel 6 rfl) rfl rfl ?_
  refine x_geti (ji := 7) (v := n) (dat d_Tw_addQuarrel 7 rfl) rfl f_Tw_58 (oi_mk (by decide +kernel)) (e7) ?_
  refine x_iload_n (dat d_Tw_addQuarrel 8 rfl) rfl rfl ?_
  refine x_iast (n := 6) (dat d_Tw_addQuarrel 9 rfl) (ai_mk (by decide +kernel)) (by omega) (by omega) ?_
  refine x_aload_n (dat d_Tw_addQuarrel 10 rfl) rfl rfl ?_
  refine x_getr (r := 132) (dat d_Tw_addQuarrel 11 rfl) rfl f_Tw_33 (or_mk (by decide +kernel)) ?_
  refine x_aload_n (dat d_Tw_addQuarrel 12 rfl) rfl rfl ?_
  refine x_geti (ji := 7) (v := n) (dat d_Tw_addQuarrel 13 rfl) rfl f_Tw_58 (oi_mk (by decide +kernel)) ((up_nk (by decide)).trans e7) ?_
  refine x_iload_n (dat d_Tw_addQuarrel 14 rfl) rfl rfl ?_
  refine x_iast (n := 6) (dat d_Tw_addQuarrel 15 rfl) (ai_mk (by decide +kernel)) (by omega) (by omega) ?_
  refine x_aload_n (dat d_Tw_addQuarrel 16 rfl) rfl rfl ?_
  refine x_dup (dat d_Tw_addQuarrel 17 rfl) rfl ?_
  refine x_geti (ji := 7) (v := n) (dat d_Tw_addQuarrel 18 rfl) rfl f_Tw_58 (oi_mk (by decide +kernel)) ((up_nk (by decide)).trans ((up_nk (by decide)).trans e7)) ?_
  refine x_iconst (dat d_Tw_addQuarrel 19 rfl) (by decide) ?_
  refine x_iadd (v := n + 1) (dat d_Tw_addQuarrel 20 rfl) rfl (by omega) ?_
  refine x_puti (ji := 7) (x := (n + 1)) (dat d_Tw_addQuarrel 21 rfl) rfl f_Tw_58w (oi_mk (by decide +kernel)) (fun h => absurd h (by decide)) (by decide) ?_
  refine x_ret (dat d_Tw_addQuarrel 22 rfl) rfl ?_
  exact k
theorem sp_Bk_addNote {g : xG} {K : Option MV → xS → Prop} {σ : xS} {n a b c : Int} (e0 : σ 133 0 = n) (n0 : 0 ≤ n) (n1 : n < 8) (k : K none (up (up (up (up σ 134 n a) 135 n b) 136 n c) 133 0 (n + 1))) : Mt g y_Bk_addNote [vR 133, vI a, vI b, vI c] σ K := by
  refine x_enter 0 rfl rfl rfl (fun Z => ?_)
  show Wx g y_Bk_addNote Z K 0 [vR 133, vI a, vI b, vI c] [] σ
  refine x_aload_n (dat d_Bk_addNote 0 rfl) rfl rfl ?_
  refine x_geti (ji := 0) (v := n) (dat d_Bk_addNote 1 rfl) rfl f_Bk_21 (oi_mk (by decide +kernel)) (e0) ?_
  refine x_bipush (dat d_Bk_addNote 2 rfl) (by decide) (by decide) ?_
  refine x_icmp_ge (tgt := 49) (dat d_Bk_addNote 3 rfl) (by decide) (fun c_6 => (by omega)) (fun c_6 => ?_)
  refine x_aload_n (dat d_Bk_addNote 4 rfl) rfl rfl ?_
  refine x_getr (r := 134) (dat d_Bk_addNote 5 rfl) rfl f_Bk_9 (or_mk (by decide +kernel)) ?_
  refine x_aload_n (dat d_Bk_addNote 6 rfl) rfl rfl ?_
  refine x_geti (ji := 0) (v := n) (dat d_Bk_addNote 7 rfl) rfl f_Bk_21 (oi_mk (by decide +kernel)) (e0) ?_
  refine x_iload_n (dat d_Bk_addNote 8 rfl) rfl rfl ?_
  refine x_iast (n := 8) (dat d_Bk_addNote 9 rfl) (ai_mk (by decide +kernel)) (by omega) (by omega) ?_
  refine x_aload_n (dat d_Bk_addNote 10 rfl) rfl rfl ?_
  refine x_getr (r := 135) (dat d_Bk_addNote 11 rfl) rfl f_Bk_15 (or_mk (by decide +kernel)) ?_
  refine x_aload_n (dat d_Bk_addNote 12 rfl) rfl rfl ?_
  refine x_geti (ji := 0) (v := n) (dat d_Bk_addNote 13 rfl) rfl f_Bk_21 (oi_mk (by decide +kernel)) ((up_nk (by decide)).trans e0) ?_
  refine x_iload_n (dat d_Bk_addNote 14 rfl) rfl rfl ?_
  refine x_iast (n := 8) (dat d_Bk_addNote 15 rfl) (ai_mk (by decide +kernel)) (by omega) (by omega) ?_
  refine x_aload_n (dat d_Bk_addNote 16 rfl) rfl rfl ?_
  refine x_getr (r := 136) (dat d_Bk_addNote 17 rfl) rfl f_Bk_18 (or_mk (by decide +kernel)) ?_
  refine x_aload_n (dat d_Bk_addNote 18 rfl) rfl rfl ?_
  refine x_geti (ji := 0) (v := n) (dat d_Bk_addNote 19 rfl) rfl f_Bk_21 (oi_mk (by decide +kernel)) ((up_nk (by decide)).trans ((up_nk (by decide)).trans e0)) ?_
  refine x_iload_n (dat d_Bk_addNote 20 rfl) rfl rfl ?_
  refine x_iast (n := 8) (dat d_Bk_addNote 21 rfl) (ai_mk (by decide +kernel)) (by omega) (by omega) ?_
  refine x_aload_n (dat d_Bk_addNote 22 rfl) rfl rfl ?_
  refine x_dup (dat d_Bk_addNote 23 rfl) rfl ?_
  refine x_geti (ji := 0) (v := n) (dat d_Bk_addNote 24 rfl) rfl f_Bk_21 (oi_mk (by decide +kernel)) ((up_nk (by decide)).trans ((up_nk (by decide)).trans ((up_nk (by decide)).trans e0))) ?_
  refine x_iconst (dat d_Bk_addNote 25 rfl) (by decide) ?_
  refine x_iadd (v := n + 1) (dat d_Bk_addNote 26 rfl) rfl (by omega) ?_
  refine x_puti (ji := 0) (x := (n + 1)) (dat d_Bk_addNote 27 rfl) rfl f_Bk_21w (oi_mk (by decide +kernel)) (fun h => absurd h (by decide)) (by decide) ?_
  refine x_ret (dat d_Bk_addNote 28 rfl) rfl ?_
  exact k
theorem sp_Tw_setExtra {g : xG} {K : Option MV → xS → Prop} {σ : xS} {w v : Int} (w0 : 0 ≤ w) (w1 : w < 8) (k : K none (up σ 128 w v)) : Mt g y_Tw_setExtra [vR 124, vI w, vI v] σ K := by
  refine x_enter 0 rfl rfl rfl (fun Z => ?_)
  show Wx g y_Tw_setExtra Z K 0 [vR 124, vI w, vI v] [] σ
  refine x_iload_n (dat d_Tw_setExtra 0 rfl) rfl rfl ?_
  refine x_if_lt (tgt := 17) (dat d_Tw_setExtra 1 rfl) (by decide) (fun c_1 => (by omega)) (fun c_1 => ?_)
  refine x_iload_n (dat d_Tw_setExtra 2 rfl) rfl rfl ?_
  refine x_bipush (dat d_Tw_setExtra 3 rfl) (by decide) (by decide) ?_
  refine x_icmp_ge (tgt := 17) (dat d_Tw_setExtra 4 rfl) (by decide) (fun c_7 => (by omega)) (fun c_7 => ?_)
  refine x_aload_n (dat d_Tw_setExtra 5 rfl) rfl rfl ?_
  refine x_getr (r := 128) (dat d_Tw_setExtra 6 rfl) rfl f_Tw_21 (or_mk (by decide +kernel)) ?_
  refine x_iload_n (dat d_Tw_setExtra 7 rfl) rfl rfl ?_
  refine x_iload_n (dat d_Tw_setExtra 8 rfl) rfl rfl ?_
  refine x_iast (n := 8) (dat d_Tw_setExtra 9 rfl) (ai_mk (by decide +kernel)) (by omega) (by omega) ?_
  refine x_ret (dat d_Tw_setExtra 10 rfl) rfl ?_
  exact k
theorem sp_Tw_setErrand {g : xG} {K : Option MV → xS → Prop} {σ : xS} {w : Int} {m : Nat} (e0 : σ 137 0 = w) (w0 : 0 ≤ w) (w1 : w < 8) (m0 : 1 ≤ m) (m1 : m ≤ 13) (k : ∀ σ' : xS, σ' 129 w = (m : Int) - 1 → (∀ p : Int, p ≠ w → σ' 129 p = σ 129 p) → (∀ j : Int, 0 ≤ j → j < (m : Int) - 1 → σ' 130 (12 * w + j) = σ 137 (j + 1)) → (∀ j : Int, (j < 12 * w ∨ 12 * w + 12 ≤ j) → σ' 130 j = σ 130 j) → (∀ o : Nat, o ≠ 129 → o ≠ 130 → σ' o = σ o) → K none σ') : Mt g y_Tw_setErrand [vR 124, vR 137, vI (m : Int)] σ K := by
  have lp : ∀ (Z : xZ) (d i : Nat) (σ1 : xS), i + d = m → 1 ≤ i → σ1 129 w = (i : Int) - 1 → (∀ p : Int, p ≠ w → σ1 129 p = σ 129 p) → (∀ j : Int, 0 ≤ j → j < (i : Int) - 1 → σ1 130 (12 * w + j) = σ 137 (j + 1)) → (∀ j : Int, (j < 12 * w ∨ 12 * w + 12 ≤ j) → σ1 130 j = σ 130 j) → (∀ o : Nat, o ≠ 129 → o ≠ 130 → σ1 o = σ o) → Wx g y_Tw_setErrand Z K 25 [vR 124, vR 137, vI (m : Int), vI w, vI (i : Int)] [] σ1 := by
    intro Z d
    induction d with
    | zero =>
      intro i σ1 hd i1 f1 f2 f3 f4 f5
      have e : i = m := by omega
      subst e
      refine x_iload (dat d_Tw_setErrand 17 rfl) rfl ?_
      refine x_iload_n (dat d_Tw_setErrand 18 rfl) rfl rfl ?_
      refine x_icmp_ge (tgt := 77) (dat d_Tw_setErrand 19 rfl) (by decide) (fun c_28 => ?_) (fun c_28 => (by omega))
      refine x_ret (dat d_Tw_setErrand 47 rfl) rfl ?_
      exact k σ1 f1 f2 f3 f4 f5
    | succ d ih =>
      intro i σ1 hd i1 f1 f2 f3 f4 f5
      have ev : σ1 137 (i : Int) = σ 137 (i : Int) := by rw [f5 137 (by decide) (by decide)]
      refine x_iload (dat d_Tw_setErrand 17 rfl) rfl ?_
      refine x_iload_n (dat d_Tw_setErrand 18 rfl) rfl rfl ?_
      refine x_icmp_ge (tgt := 77) (dat d_Tw_setErrand 19 rfl) (by decide) (fun c_28 => (by omega)) (fun c_28 => ?_)
      refine x_iload (dat d_Tw_setErrand 20 rfl) rfl ?_
      refine x_aload_n (dat d_Tw_setErrand 21 rfl) rfl rfl ?_
      refine x_alen (n := 13) (t := 20) (dat d_Tw_setErrand 22 rfl) (ai_mk (by decide +kernel)) (by decide) ?_
      refine x_icmp_ge (tgt := 77) (dat d_Tw_setErrand 23 rfl) (by decide) (fun c_35 => (by omega)) (fun c_35 => ?_)
      refine x_iload (dat d_Tw_setErrand 24 rfl) rfl ?_
      refine x_bipush (dat d_Tw_setErrand 25 rfl) (by decide) (by decide) ?_
      refine x_icmp_gt (tgt := 77) (dat d_Tw_setErrand 26 rfl) (by decide) (fun c_42 => (by omega)) (fun c_42 => ?_)
      refine x_aload_n (dat d_Tw_setErrand 27 rfl) rfl rfl ?_
      refine x_getr (r := 130) (dat d_Tw_setErrand 28 rfl) rfl f_Tw_27 (or_mk (by decide +kernel)) ?_
      refine x_iload_n (dat d_Tw_setErrand 29 rfl) rfl rfl ?_
      refine x_bipush (dat d_Tw_setErrand 30 rfl) (by decide) (by decide) ?_
      refine x_imul (v := 12 * w) (dat d_Tw_setErrand 31 rfl) (by omega) (by omega) ?_
      refine x_iload (dat d_Tw_setErrand 32 rfl) rfl ?_
      refine x_iadd (v := (12 * w) + (i : Int)) (dat d_Tw_setErrand 33 rfl) rfl (by omega) ?_
      refine x_iconst (dat d_Tw_setErrand 34 rfl) (by decide) ?_
      refine x_isub (v := ((12 * w) + (i : Int)) - 1) (dat d_Tw_setErrand 35 rfl) rfl (by omega) ?_
      refine x_aload_n (dat d_Tw_setErrand 36 rfl) rfl rfl ?_
      refine x_iload (dat d_Tw_setErrand 37 rfl) rfl ?_
      refine x_iald (n := 13) (v := σ 137 (i : Int)) (dat d_Tw_setErrand 38 rfl) (ai_mk (by decide +kernel)) (by omega) (by omega) (ev) ?_
      refine x_iast (n := 96) (dat d_Tw_setErrand 39 rfl) (ai_mk (by decide +kernel)) (by omega) (by omega) ?_
      refine x_aload_n (dat d_Tw_setErrand 40 rfl) rfl rfl ?_
      refine x_getr (r := 129) (dat d_Tw_setErrand 41 rfl) rfl f_Tw_24 (or_mk (by decide +kernel)) ?_
      refine x_iload_n (dat d_Tw_setErrand 42 rfl) rfl rfl ?_
      refine x_iload (dat d_Tw_setErrand 43 rfl) rfl ?_
      refine x_iast (n := 8) (dat d_Tw_setErrand 44 rfl) (ai_mk (by decide +kernel)) (by omega) (by omega) ?_
      refine x_iinc (v' := ((i + 1 : Nat) : Int)) (L' := [vR 124, vR 137, vI (m : Int), vI w, vI ((i + 1 : Nat) : Int)]) (dat d_Tw_setErrand 45 rfl) rfl (by decide) rfl (by omega) (by omega) rfl ?_
      refine x_goto (tgt := 25) (dat d_Tw_setErrand 46 rfl) (by decide) ?_
      refine ih (i + 1) _ (by omega) (by omega) ?_ ?_ ?_ ?_ ?_
      · rw [up_s]; omega
      · intro p hp; rw [up_ni (Ne.symm hp), up_ne (by decide)]; exact f2 p hp
      · intro j j0 j1
        rw [up_ne (by decide)]
        by_cases z : j = (i : Int) - 1
        · rw [show 12 * w + j = 12 * w + (i : Int) - 1 by omega, up_s, show j + 1 = (i : Int) by omega]
        · rw [up_ni (by omega)]; exact f3 j j0 (by omega)
      · intro j hj; rw [up_ne (by decide), up_ni (by omega)]; exact f4 j hj
      · intro o h1 h2; rw [up_ne h1, up_ne h2]; exact f5 o h1 h2
  refine x_enter 2 rfl rfl rfl (fun Z => ?_)
  show Wx g y_Tw_setErrand Z K 0 [vR 124, vR 137, vI (m : Int), vU, vU] [] σ
  refine x_aload_n (dat d_Tw_setErrand 0 rfl) rfl rfl ?_
  refine x_iconst (dat d_Tw_setErrand 1 rfl) (by decide) ?_
  refine x_iald (n := 13) (v := w) (dat d_Tw_setErrand 2 rfl) (ai_mk (by decide +kernel)) (by omega) (by omega) (e0) ?_
  refine x_istore_n (L' := [vR 124, vR 137, vI (m : Int), vI w, vU]) (dat d_Tw_setErrand 3 rfl) rfl (by decide) rfl rfl ?_
  refine x_iload_n (dat d_Tw_setErrand 4 rfl) rfl rfl ?_
  refine x_if_lt (tgt := 14) (dat d_Tw_setErrand 5 rfl) (by decide) (fun c_5 => (by omega)) (fun c_5 => ?_)
  refine x_iload_n (dat d_Tw_setErrand 6 rfl) rfl rfl ?_
  refine x_bipush (dat d_Tw_setErrand 7 rfl) (by decide) (by decide) ?_
  refine x_icmp_lt (tgt := 15) (dat d_Tw_setErrand 8 rfl) (by decide) (fun c_11 => ?_) (fun c_11 => (by omega))
  refine x_aload_n (dat d_Tw_setErrand 10 rfl) rfl rfl ?_
  refine x_getr (r := 129) (dat d_Tw_setErrand 11 rfl) rfl f_Tw_24 (or_mk (by decide +kernel)) ?_
  refine x_iload_n (dat d_Tw_setErrand 12 rfl) rfl rfl ?_
  refine x_iconst (dat d_Tw_setErrand 13 rfl) (by decide) ?_
  refine x_iast (n := 8) (dat d_Tw_setErrand 14 rfl) (ai_mk (by decide +kernel)) (by omega) (by omega) ?_
  refine x_iconst (dat d_Tw_setErrand 15 rfl) (by decide) ?_
  refine x_istore (L' := [vR 124, vR 137, vI (m : Int), vI w, vI 1]) (dat d_Tw_setErrand 16 rfl) (by decide) rfl rfl ?_
  exact lp Z (m - 1) 1 _ (by omega) (by omega) (by rw [up_s]; omega) (fun p hp => up_ni (Ne.symm hp)) (fun j j0 j1 => by omega) (fun j hj => by rw [up_ne (by decide)]) (fun o h1 h2 => up_ne h1)
