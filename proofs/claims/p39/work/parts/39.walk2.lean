/-! searches: the best walk -/
/-- the first place of the most -/
def mxN (f : Nat → Int) : Nat → Int × Int
  | 0 => (-1, -1)
  | n + 1 => if (mxN f n).2 < f n then ((n : Int), f n) else mxN f n
theorem mxN_in (f : Nat → Int) : ∀ n : Nat, -1 ≤ (mxN f n).1 ∧ (mxN f n).1 < n ∧ -1 ≤ (mxN f n).2
  | 0 => ⟨(by decide : (-1 : Int) ≤ -1), (by decide : (-1 : Int) < 0), (by decide : (-1 : Int) ≤ -1)⟩
  | n + 1 => by
    have := mxN_in f n
    simp only [mxN]
    split
    · simp; omega
    · omega
def wkF (t : Int → Int) (p : Int) (h m : Nat) (n : Nat) : Int := if wlk t n m (wlk0 t p h) m = -1 then -1 else brE (walC t p h m n) p
