/-! searches: the swap, the miser, gloves at rest -/
/-- the first place of the least, if it is less than all before -/
def ordN (f : Nat → Int) (s0 : Int) : Nat → Int × Int
  | 0 => (-1, s0)
  | n + 1 => if f n < (ordN f s0 n).2 then ((n : Int), f n) else ordN f s0 n
theorem ordN_in (f : Nat → Int) (s0 : Int) : ∀ n : Nat, ((ordN f s0 n).1 = -1 ∨ (0 ≤ (ordN f s0 n).1 ∧ (ordN f s0 n).1 < n)) ∧ (ordN f s0 n).2 ≤ s0
  | 0 => ⟨Or.inl rfl, Int.le_refl _⟩
  | n + 1 => by
    have := ordN_in f s0 n
    simp only [ordN]
    split
    · simp; omega
    · omega
theorem ordN_skip {f : Nat → Int} {s0 : Int} (h0 : s0 ≤ 8) (i : Nat) : ∀ d : Nat, (∀ j : Nat, i ≤ j → j < i + d → (ordN f s0 i).2 ≤ f j) → ordN f s0 (i + d) = ordN f s0 i
  | 0, _ => rfl
  | d + 1, h => by
    have h1 := ordN_skip (f := f) h0 i d (fun j q0 q1 => h j q0 (by omega))
    show (if f (i + d) < (ordN f s0 (i + d)).2 then _ else ordN f s0 (i + d)) = _
    rw [h1, if_neg (by have := h (i + d) (by omega) (by omega); omega)]
def swpC (t : Int → Int) (a b : Int) : Cf := mWh (cfg t) (whSwap (cfg t) a b)
def swpF (t : Int → Int) (c : Nat) : Int := if (c : Int) / t 6 < (c : Int) % t 6 then stv (swpC t ((c : Int) / t 6) ((c : Int) % t 6)) else 9
theorem whSwap_2 (C : Cf) (a b : Int) : whSwap (mWh C (whSwap C a b)) a b = cWh C := by
  funext h p
  show (if p = a then whSwap C a b h b else if p = b then whSwap C a b h a else whSwap C a b h p) = cWh C h p
  unfold whSwap
  by_cases q1 : p = a
  · rw [if_pos q1]
    by_cases q2 : b = a
    · rw [if_pos q2, q1, q2]
    · rw [if_neg q2, if_pos rfl, q1]
  · rw [if_neg q1]
    by_cases q2 : p = b
    · rw [if_pos q2, if_pos rfl, q2]
    · rw [if_neg q2, if_neg q1, if_neg q2]
theorem swp_dm {P a b : Int} (a0 : 0 ≤ a) (b0 : 0 ≤ b) (b1 : b < P) : (a * P + b) / P = a ∧ (a * P + b) % P = b := by
  have e : a * P + b = b + P * a := by rw [Int.mul_comm]; omega
  rw [e]
  constructor
  · rw [Int.add_mul_ediv_left _ _ (by omega), Int.ediv_eq_zero_of_lt b0 b1]
    omega
  · rw [Int.add_mul_emod_self_left]
    exact Int.emod_eq_of_lt b0 b1
