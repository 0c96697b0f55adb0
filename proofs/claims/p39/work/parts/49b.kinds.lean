/-! a token's kind and place -/
/-- a token's kind: 0 the end, 1 a number, 2 the stop, 3 a word, 4 none -/
def tkK (T : Int → Int) (n q : Int) : Int := if n ≤ q then 0 else if T q = 59 then 2 else if cLt (T q) = true then (if wrd T n q = 99 then 4 else 3) else if cDg (T q) = true ∧ rn cDg T n q - q ≤ 2 then 1 else 4
/-- the class's kinds: 0 the end, 1 a row of letters, 2 a number, 3 the stop, 4 none -/
def tkC (T : Int → Int) (n q : Int) : Int := if n ≤ q then 0 else if T q = 59 then 3 else if cLt (T q) = true then 1 else if cDg (T q) = true ∧ rn cDg T n q - q ≤ 2 then 2 else 4
/-- the place behind a token -/
def tkN (T : Int → Int) (n q : Int) : Int := if n ≤ q then q else if T q = 59 then q + 1 else if cLt (T q) = true then rn cLt T n q else if cDg (T q) = true then rn cDg T n q else q + 1
def tkV (T : Int → Int) (n q : Int) : Int := if rn cDg T n q - q = 1 then T q - 48 else 10 * (T q - 48) + (T (q + 1) - 48)
/-- where the next token starts -/
def nxt (T : Int → Int) (n q : Int) : Int := rn cBl T n (tkN T n q)
theorem tkC_K (T : Int → Int) (n q : Int) : (tkC T n q = 0 ↔ tkK T n q = 0) ∧ (tkC T n q = 2 ↔ tkK T n q = 1) ∧ (tkC T n q = 3 ↔ tkK T n q = 2) ∧ (tkC T n q = 1 → tkK T n q = if wrd T n q = 99 then 4 else 3) ∧ (tkK T n q = 3 → tkC T n q = 1) := by
  unfold tkC tkK
  by_cases h1 : n ≤ q
  · simp only [if_pos h1]
    refine ⟨by decide, by decide, by decide, fun w => absurd w (by decide), fun w => absurd w (by decide)⟩
  · simp only [if_neg h1]
    by_cases h2 : T q = 59
    · simp only [if_pos h2]
      refine ⟨by decide, by decide, by decide, fun w => absurd w (by decide), fun w => absurd w (by decide)⟩
    · simp only [if_neg h2]
      by_cases h3 : cLt (T q) = true
      · simp only [if_pos h3]
        by_cases h4 : wrd T n q = 99
        · simp only [if_pos h4]; decide
        · simp only [if_neg h4]; decide
      · simp only [if_neg h3]
        by_cases h4 : cDg (T q) = true ∧ rn cDg T n q - q ≤ 2
        · simp only [if_pos h4]
          refine ⟨by decide, by decide, by decide, fun w => absurd w (by decide), fun w => absurd w (by decide)⟩
        · simp only [if_neg h4]
          refine ⟨by decide, by decide, by decide, fun w => absurd w (by decide), fun w => absurd w (by decide)⟩
theorem tkK_bd (T : Int → Int) (n q : Int) : 0 ≤ tkK T n q ∧ tkK T n q ≤ 4 := by
  unfold tkK
  repeat' split
  all_goals decide
theorem tkN_gt {T : Int → Int} {n q : Int} (h : tkK T n q ≠ 0) : q < tkN T n q ∧ q < n := by
  unfold tkK at h
  unfold tkN
  by_cases h1 : n ≤ q
  · rw [if_pos h1] at h
    exact absurd rfl h
  · rw [if_neg h1]
    refine ⟨?_, by omega⟩
    split
    · omega
    · split
      · rename_i w
        rw [rn_go (by omega) w]
        have := rn_ge (f := cLt) (T := T) (n := n) (q + 1)
        omega
      · split
        · rename_i w
          rw [rn_go (by omega) w]
          have := rn_ge (f := cDg) (T := T) (n := n) (q + 1)
          omega
        · omega
theorem tkN_le {T : Int → Int} {n q : Int} (h : q ≤ n) : tkN T n q ≤ n := by
  unfold tkN
  split
  · omega
  · split
    · omega
    · split
      · exact rn_le h
      · split
        · exact rn_le h
        · omega
theorem nxt_gt {T : Int → Int} {n q : Int} (h : tkK T n q ≠ 0) : q < nxt T n q := by
  have h1 := (tkN_gt h).1
  have h2 := rn_ge (f := cBl) (T := T) (n := n) (tkN T n q)
  unfold nxt
  omega
theorem nxt_le {T : Int → Int} {n q : Int} (h : q ≤ n) : nxt T n q ≤ n := rn_le (tkN_le h)
theorem tkV_bd {T : Int → Int} {n q : Int} (h : tkK T n q = 1) : 0 ≤ tkV T n q ∧ tkV T n q ≤ 99 := by
  unfold tkK at h
  by_cases h1 : n ≤ q
  · rw [if_pos h1] at h; exact absurd h (by decide)
  · rw [if_neg h1] at h
    by_cases h2 : T q = 59
    · rw [if_pos h2] at h; exact absurd h (by decide)
    · rw [if_neg h2] at h
      by_cases h3 : cLt (T q) = true
      · rw [if_pos h3] at h; split at h <;> exact absurd h (by decide)
      · rw [if_neg h3] at h
        by_cases h4 : cDg (T q) = true ∧ rn cDg T n q - q ≤ 2
        · have h5 := cDg_iff.mp h4.1
          have h6 : rn cDg T n q = rn cDg T n (q + 1) := rn_go (by omega) h4.1
          have h7 := rn_ge (f := cDg) (T := T) (n := n) (q + 1)
          unfold tkV
          split
          · omega
          · have h8 := cDg_iff.mp (rn_in (f := cDg) (T := T) (n := n) (p := q) (i := q + 1) (by omega) (by omega))
            omega
        · rw [if_neg h4] at h; exact absurd h (by decide)
