/-! the first world, and that all holds of it -/
def sZ : xS := fun k i => if (k = 0 ∧ (i = 9 ∨ i = 10)) ∨ ((k = 1 ∨ k = 31 ∨ k = 61 ∨ k = 91) ∧ i = 5) ∨ (k = 123 ∧ i = 5) then -1 else 0
def aZ : Int → Int := fun i => if i = 4 then -1 else 0
theorem sZ_0 {k : Nat} {i : Int} (h : ¬ ((k = 0 ∧ (i = 9 ∨ i = 10)) ∨ ((k = 1 ∨ k = 31 ∨ k = 61 ∨ k = 91) ∧ i = 5) ∨ (k = 123 ∧ i = 5))) : sZ k i = 0 := if_neg h
theorem sZ_ok : okS sZ := by
  intro k i
  by_cases h : (k = 0 ∧ (i = 9 ∨ i = 10)) ∨ ((k = 1 ∨ k = 31 ∨ k = 61 ∨ k = 91) ∧ i = 5) ∨ (k = 123 ∧ i = 5)
  · have e : sZ k i = -1 := if_pos h
    rw [e]
    refine ⟨⟨by decide, by decide⟩, fun _ => ⟨by decide, by decide⟩, fun q => ?_, fun _ _ => by decide⟩
    exfalso
    have hk : k = 0 ∨ k = 1 ∨ k = 31 ∨ k = 61 ∨ k = 91 ∨ k = 123 := by omega
    rcases hk with rfl | rfl | rfl | rfl | rfl | rfl <;> (rcases q with q | ⟨q, _⟩ <;> exact absurd q (by decide))
  · rw [sZ_0 h]
    exact ⟨⟨by decide, by decide⟩, fun _ => ⟨by decide, by decide⟩, fun _ => Or.inl rfl, fun _ _ => by decide⟩
theorem ws_Z : WS sZ aZ (fun _ _ => 0) := by
  have a0 : aZ 0 = 0 := rfl
  have a1 : aZ 1 = 0 := rfl
  have a2 : aZ 2 = 0 := rfl
  have k0 : ∀ k : Nat, k < 3 → sZ 122 k = 0 := fun k _ => sZ_0 (by omega)
  refine ⟨⟨⟨⟨by rw [a0]; decide, by rw [a1]; decide, by rw [a2]; decide⟩, ⟨by decide, by decide, by decide, by decide, by decide⟩, fun i i0 i1 => ?_, fun k hk => ?_, fun k hk => ?_⟩, Or.inl (by decide), fun k hk => ⟨Or.inl (k0 k hk), fun w => ?_⟩⟩, ⟨by decide, by decide⟩, rfl⟩
  · rw [a2] at i1; omega
  · rw [a0] at hk; omega
  · rw [a1] at hk; omega
  · rw [k0 k hk] at w; exact absurd w (by decide)
/-- an object's place in the order of making -/
def plc (k : Nat) : Nat := if 31 ≤ k ∧ k ≤ 120 then k + 1 else if k = 121 then 31 else k
theorem plc_inj {i j : Nat} (h : plc i = plc j) : i = j := by
  unfold plc at h
  repeat' split at h
  all_goals omega
