/-- the cell behind so many steps of a walk; -1 out of the town -/
def wlk (t : Int → Int) (n m : Int) (c0 : Int) : Nat → Int
  | 0 => c0
  | k + 1 => if wlk t n m c0 k = -1 then -1 else stepT t (wlk t n m c0 k) (n / ((5 ^ (m - 1 - (k : Int)).toNat : Nat) : Int) % 5)
theorem stepT_in {t : Int → Int} (hT : TownOk t) {c s : Int} (c0 : 0 ≤ c) (c1 : c < t 0 * t 1) : stepT t c s = -1 ∨ (0 ≤ stepT t c s ∧ stepT t c s < t 0 * t 1) := by
  have hw := hT.1
  have hh := hT.2.1
  unfold stepT
  split
  · omega
  · split
    · split <;> omega
    · split
      · split
        · omega
        · right
          rename_i h1 h2 h3 h4
          refine ⟨by omega, ?_⟩
          have e1 := Int.mul_ediv_add_emod c (t 0)
          have e2 := Int.emod_lt_of_pos c (show 0 < t 0 by omega)
          have e3 := Int.emod_nonneg c (show t 0 ≠ 0 by omega)
          have e4 : c / t 0 < t 1 := Int.ediv_lt_of_lt_mul (by omega) (by rw [Int.mul_comm]; exact c1)
          have e5 : t 0 * (c / t 0) ≤ t 0 * (t 1 - 1) := Int.mul_le_mul_of_nonneg_left (by omega) (by omega)
          rw [Int.mul_sub] at e5
          omega
      · split
        · split <;> omega
        · split
          · omega
          · right
            rename_i h1 h2 h3 h4 h5
            have e3 := Int.emod_nonneg c (show t 0 ≠ 0 by omega)
            have : c ≠ 0 := fun w => h5 (by rw [w]; exact Int.zero_emod _)
            omega
theorem wlk_in {t : Int → Int} (hT : TownOk t) (n m : Int) {c0 : Int} (q0 : 0 ≤ c0) (q1 : c0 < t 0 * t 1) : ∀ k : Nat, wlk t n m c0 k = -1 ∨ (0 ≤ wlk t n m c0 k ∧ wlk t n m c0 k < t 0 * t 1)
  | 0 => Or.inr ⟨q0, q1⟩
  | k + 1 => by
    have h := wlk_in hT n m q0 q1 k
    simp only [wlk]
    split
    · exact Or.inl rfl
    · rcases h with h | h
      · contradiction
      · exact stepT_in hT h.1 h.2
theorem wlk_stop {t : Int → Int} {n m c0 : Int} {k : Nat} (h : wlk t n m c0 k = -1) : ∀ d : Nat, wlk t n m c0 (k + d) = -1
  | 0 => h
  | d + 1 => by
    show (if wlk t n m c0 (k + d) = -1 then -1 else _) = -1
    rw [if_pos (wlk_stop h d)]
/-- where a walk begins -/
def wlk0 (t : Int → Int) (p h : Int) : Int := if h = 0 then t (21 + 17 * p) else cellT t p (h - 1)
/-- the setting of a walk -/
def walC (t : Int → Int) (p : Int) (h : Nat) (m n : Int) : Cf := mWh (cfg t) (fun h2 p2 => if p2 = p ∧ (h : Int) ≤ h2 ∧ h2 < h + m then wlk t n m (wlk0 t p h) (h2 - h + 1).toNat else cellT t p2 h2)
/-- nothing else is otherwise -/
def WkF (t : Int → Int) (p : Int) (h : Nat) (m : Int) (f : Int → Int → Int) : Prop := ∀ h2 p2 : Int, ¬ (p2 = p ∧ (h : Int) ≤ h2 ∧ h2 < h + m) → f h2 p2 = cellT t p2 h2
theorem cellT_in {t : Int → Int} (hT : TownOk t) {p h : Int} (p0 : 0 ≤ p) (p1 : p < t 6) (h0 : 0 ≤ h) : 0 ≤ cellT t p h ∧ cellT t p h < t 0 * t 1 := by
  have hp := hT.2.2.2.2.2.2.2.2.1 p p0 p1
  unfold cellT
  split
  · exact hp.2.1
  · have := hp.2.2.2.2.2 (if h < t (24 + 17 * p) then h else t (24 + 17 * p) - 1) (by have := hp.2.2.2.2.1; split <;> omega) (by have := hp.2.2.2.2.1; split <;> omega)
    exact this
theorem wlk0_in {t : Int → Int} (hT : TownOk t) {p : Int} (p0 : 0 ≤ p) (p1 : p < t 6) (h : Nat) : 0 ≤ wlk0 t p h ∧ wlk0 t p h < t 0 * t 1 := by
  unfold wlk0
  split
  · exact (hT.2.2.2.2.2.2.2.2.1 p p0 p1).2.1
  · exact cellT_in hT p0 p1 (by omega)
