/-! a text's lines, as both sides read them -/
def qit (T : Int → Int) (n q : Int) : Nat → Int
  | 0 => q
  | j + 1 => nxt T n (qit T n q j)
theorem qit_S (T : Int → Int) (n q : Int) : ∀ j : Nat, qit T n q (j + 1) = qit T n (nxt T n q) j
  | 0 => rfl
  | j + 1 => by
    show nxt T n (qit T n q (j + 1)) = nxt T n (qit T n (nxt T n q) j)
    rw [qit_S T n q j]
theorem qit_le {T : Int → Int} {n q : Int} (h : q ≤ n) : ∀ j : Nat, qit T n q j ≤ n
  | 0 => h
  | j + 1 => nxt_le (qit_le h j)
theorem nxt_ge (T : Int → Int) (n q : Int) : q ≤ nxt T n q := by
  by_cases h : tkK T n q = 0
  · have h2 := rn_ge (f := cBl) (T := T) (n := n) (tkN T n q)
    unfold nxt
    have h3 : n ≤ q := by
      unfold tkK at h
      by_cases z : n ≤ q
      · exact z
      · rw [if_neg z] at h
        exfalso
        revert h
        repeat' split
        all_goals decide
    have h4 : tkN T n q = q := by unfold tkN; rw [if_pos h3]
    omega
  · have := nxt_gt h
    omega
theorem qit_ge (T : Int → Int) (n q : Int) : ∀ j : Nat, q ≤ qit T n q j
  | 0 => Int.le_refl q
  | j + 1 => by
    have h1 := qit_ge T n q j
    have h2 := nxt_ge T n (qit T n q j)
    simp only [qit]
    omega
theorem qit_j {T : Int → Int} {n q : Int} : ∀ j : Nat, (∀ i : Nat, i < j → tkK T n (qit T n q i) = 1) → q + j ≤ qit T n q j
  | 0, _ => by simp [qit]
  | j + 1, h => by
    have h1 := qit_j j (fun i hi => h i (by omega))
    have h2 := nxt_gt (T := T) (n := n) (q := qit T n q j) (by rw [h j (by omega)]; decide)
    simp only [qit]
    omega
/-- how many numbers come, at most so many -/
def nrun (T : Int → Int) (n : Int) : Nat → Int → Nat
  | 0, _ => 0
  | M + 1, q => if tkK T n q = 1 then nrun T n M (nxt T n q) + 1 else 0
theorem nrun_le (T : Int → Int) (n : Int) : ∀ (M : Nat) (q : Int), nrun T n M q ≤ M
  | 0, _ => Nat.le_refl 0
  | M + 1, q => by
    have := nrun_le T n M (nxt T n q)
    simp only [nrun]
    split <;> omega
theorem nrun_in (T : Int → Int) (n : Int) : ∀ (M : Nat) (q : Int) (i : Nat), i < nrun T n M q → tkK T n (qit T n q i) = 1
  | 0, q, i, h => absurd h (Nat.not_lt_zero _)
  | M + 1, q, i, h => by
    simp only [nrun] at h
    by_cases z : tkK T n q = 1
    · rw [if_pos z] at h
      match i with
      | 0 => exact z
      | i + 1 =>
        rw [qit_S]
        exact nrun_in T n M _ i (by omega)
    · rw [if_neg z] at h
      exact absurd h (Nat.not_lt_zero _)
theorem nrun_end (T : Int → Int) (n : Int) : ∀ (M : Nat) (q : Int), nrun T n M q < M → tkK T n (qit T n q (nrun T n M q)) ≠ 1
  | 0, q, h => absurd h (Nat.not_lt_zero _)
  | M + 1, q, h => by
    simp only [nrun] at h ⊢
    by_cases z : tkK T n q = 1
    · rw [if_pos z] at h ⊢
      rw [qit_S]
      exact nrun_end T n M _ (by omega)
    · rw [if_neg z]
      exact z
/-- the run is told by what it is -/
theorem nrun_is {T : Int → Int} {n q : Int} {M e : Nat} (he : e ≤ M) (hi : ∀ i : Nat, i < e → tkK T n (qit T n q i) = 1) (hx : e = M ∨ tkK T n (qit T n q e) ≠ 1) : nrun T n M q = e := by
  rcases Nat.lt_trichotomy (nrun T n M q) e with h | h | h
  · exact absurd (hi _ h) (nrun_end T n M q (by omega))
  · exact h
  · rcases hx with hx | hx
    · have := nrun_le T n M q
      omega
    · exact absurd (nrun_in T n M q e h) hx
def fewT (l : Int) : Int := (stV.getD 1 []).getD l.toNat 0
def mostT (l : Int) : Int := (stV.getD 2 []).getD l.toNat 0
def loT (l : Int) (j : Nat) : Int := (stV.getD 3 []).getD (l.toNat * 3 + (if j < 2 then j else 2)) 0
def hiT (l : Int) (j : Nat) : Int := (stV.getD 4 []).getD (l.toNat * 3 + (if j < 2 then j else 2)) 0
/-- the first fault stays -/
def blm (fp : Int × Int) (b : Bool) (k at_ : Int) : Int × Int := if fp.1 = 0 ∧ b = true then (k, at_) else fp
def badN (T : Int → Int) (n l q1 : Int) (j : Nat) : Bool := decide (tkV T n (qit T n q1 j) < loT l j) || decide (hiT l j < tkV T n (qit T n q1 j)) || (decide (l = 6) && decide (j = 1) && decide (tkV T n (qit T n q1 1) = tkV T n q1))
def fpN (T : Int → Int) (n l q1 : Int) (fp : Int × Int) : Nat → Int × Int
  | 0 => fp
  | j + 1 => blm (blm (fpN T n l q1 fp j) (badN T n l q1 j) 2 (qit T n q1 j)) (decide (13 ≤ j)) 3 (qit T n q1 j)
def imax (a b : Int) : Int := if a < b then b else a
def gpN (T : Int → Int) (n l q1 gp : Int) : Nat → Int
  | 0 => gp
  | j + 1 => if l = 6 ∨ (j = 0 ∧ (l = 4 ∨ l = 5)) then imax (gpN T n l q1 gp j) (tkV T n (qit T n q1 j)) else gpN T n l q1 gp j
def gcN (T : Int → Int) (n l q1 gc : Int) : Nat → Int
  | 0 => gc
  | j + 1 => if (j = 0 ∧ l = 3) ∨ (0 < j ∧ l = 4) then imax (gcN T n l q1 gc j) (tkV T n (qit T n q1 j)) else gcN T n l q1 gc j
def st1 (r : Int → Int) (i v : Int) : Int → Int := fun x => if x = i then v else r x
/-- what a line makes of the row: its manner (or law), its numbers, how many -/
def rowL (l mn : Int) (v : Nat → Int) (m : Nat) (r : Int → Int) : Int → Int :=
  if l = 0 then st1 (st1 r 0 (v 0)) 1 (v 1) else if l = 1 then st1 r 3 (v 0) else if l = 2 then st1 (st1 r 4 (v 0)) 5 (v 1)
  else if l = 3 then st1 (st1 (st1 (st1 r (20 + 17 * r 6) mn) (21 + 17 * r 6) (v 0)) (22 + 17 * r 6) (v 1)) 6 (r 6 + 1)
  else if l = 4 then (fun x => if x = 24 + 17 * v 0 then (m : Int) - 1 else if 25 + 17 * v 0 ≤ x ∧ x < 25 + 17 * v 0 + ((m : Int) - 1) then v (x - (24 + 17 * v 0)).toNat else r x)
  else if l = 5 then st1 r (23 + 17 * v 0) (v 1)
  else if l = 6 then st1 (st1 (st1 r (8 + 2 * r 7) (v 0)) (9 + 2 * r 7) (v 1)) 7 (r 7 + 1)
  else if l = 7 then st1 (st1 (st1 (st1 r (1 + 3 * r 0) (v 0)) (2 + 3 * r 0) (v 1)) (3 + 3 * r 0) (v 2)) 0 (r 0 + 1)
  else st1 r 2 mn
/-- a further one that would be too many -/
def fulL (l : Int) (r : Int → Int) : Bool := (decide (l = 3) && decide (8 ≤ r 6)) || (decide (l = 6) && decide (6 ≤ r 7)) || (decide (l = 7) && decide (8 ≤ r 0))
/-- place, fault and its place, the highest one and cell told, the row -/
abbrev Ps : Type := Int × (Int × Int) × Int × Int × (Int → Int)
def lnK (T : Int → Int) (n s q : Int) : Int := if tkK T n q = 3 then lnW s (wrd T n q) else -1
def brkP (P : Ps) (q : Int) : Bool × Ps := (false, (q, (1, q), P.2.2))
def stpP (T : Int → Int) (n s : Int) (P : Ps) : Bool × Ps :=
  if tkK T n P.1 = 0 then (false, P)
  else if lnK T n s P.1 = -1 then brkP P P.1
  else if lnK T n s P.1 = 8 then
    (if tkK T n (nxt T n P.1) = 3 ∧ lwW (wrd T n (nxt T n P.1)) ≠ -1 then
      (if tkK T n (nxt T n (nxt T n P.1)) = 2 then (true, (nxt T n (nxt T n (nxt T n P.1)), P.2.1, P.2.2.1, P.2.2.2.1, rowL 8 (lwW (wrd T n (nxt T n P.1))) (fun _ => 0) 0 P.2.2.2.2))
       else brkP P (nxt T n (nxt T n P.1)))
     else brkP P (nxt T n P.1))
  else
    (if tkK T n (qit T n (nxt T n P.1) (nrun T n (mostT (lnK T n s P.1)).toNat (nxt T n P.1))) = 2 ∧ fewT (lnK T n s P.1) ≤ (nrun T n (mostT (lnK T n s P.1)).toNat (nxt T n P.1) : Nat) then
      (true, (nxt T n (qit T n (nxt T n P.1) (nrun T n (mostT (lnK T n s P.1)).toNat (nxt T n P.1))),
        fpN T n (lnK T n s P.1) (nxt T n P.1) (blm P.2.1 (fulL (lnK T n s P.1) P.2.2.2.2) 3 P.1) (nrun T n (mostT (lnK T n s P.1)).toNat (nxt T n P.1)),
        gpN T n (lnK T n s P.1) (nxt T n P.1) P.2.2.1 (nrun T n (mostT (lnK T n s P.1)).toNat (nxt T n P.1)),
        gcN T n (lnK T n s P.1) (nxt T n P.1) P.2.2.2.1 (nrun T n (mostT (lnK T n s P.1)).toNat (nxt T n P.1)),
        rowL (lnK T n s P.1) (mnW (wrd T n P.1)) (fun j => tkV T n (qit T n (nxt T n P.1) j)) (nrun T n (mostT (lnK T n s P.1)).toNat (nxt T n P.1)) P.2.2.2.2))
     else brkP P (qit T n (nxt T n P.1) (nrun T n (mostT (lnK T n s P.1)).toNat (nxt T n P.1))))
def runP (T : Int → Int) (n s : Int) : Nat → Ps → Ps
  | 0, P => P
  | d + 1, P => if (stpP T n s P).1 = true then runP T n s d (stpP T n s P).2 else (stpP T n s P).2
def row0 (s : Int) : Int → Int := fun i => if s = 0 then (if i = 0 ∨ i = 1 then 3 else if i = 3 then 12 else if i = 4 then 1 else if i = 5 then 6 else 0) else 0
def begP (T : Int → Int) (n s : Int) : Ps := (rn cBl T n 0, (0, -1), -1, -1, row0 s)
def endP (T : Int → Int) (n s : Int) : Ps := runP T n s 601 (begP T n s)
/-- a text's fault and its place -/
def fltP (T : Int → Int) (n s : Int) : Int × Int :=
  if (endP T n s).2.1.1 ≠ 0 then (endP T n s).2.1
  else if s = 0 ∧ ((endP T n s).2.2.2.2 6 ≤ (endP T n s).2.2.1 ∨ (endP T n s).2.2.2.2 0 * (endP T n s).2.2.2.2 1 ≤ (endP T n s).2.2.2.1) then (4, n) else (endP T n s).2.1
theorem fpN_0 {T : Int → Int} {n l q1 : Int} {fp : Int × Int} (h : fp.1 ≠ 0) : ∀ j : Nat, fpN T n l q1 fp j = fp
  | 0 => rfl
  | j + 1 => by
    simp only [fpN]
    rw [fpN_0 h j]
    have hb : ∀ (b : Bool) (k a : Int), blm fp b k a = fp := fun b k a => if_neg (fun w => h w.1)
    rw [hb, hb]
theorem blm_0 {fp : Int × Int} {b : Bool} {k at_ : Int} (hk : k ≠ 0) (h : (blm fp b k at_).1 = 0) : fp.1 = 0 ∧ b = false ∧ blm fp b k at_ = fp := by
  unfold blm at h ⊢
  by_cases z : fp.1 = 0 ∧ b = true
  · rw [if_pos z] at h
    exact absurd h hk
  · rw [if_neg z] at h ⊢
    refine ⟨h, ?_, rfl⟩
    cases b with
    | false => rfl
    | true => exact absurd ⟨h, rfl⟩ z
/-- without a fault all numbers can be -/
theorem fpN_ok {T : Int → Int} {n l q1 : Int} {fp : Int × Int} : ∀ j : Nat, (fpN T n l q1 fp j).1 = 0 → fp.1 = 0 ∧ fpN T n l q1 fp j = fp ∧ ∀ i : Nat, i < j → badN T n l q1 i = false ∧ i < 13
  | 0, h => ⟨h, rfl, fun i hi => absurd hi (Nat.not_lt_zero _)⟩
  | j + 1, h => by
    simp only [fpN] at h ⊢
    obtain ⟨h1, h2, h3⟩ := blm_0 (by decide) h
    obtain ⟨h4, h5, h6⟩ := blm_0 (by decide) h1
    obtain ⟨g1, g2, g3⟩ := fpN_ok j h4
    refine ⟨g1, by rw [h3, h6, g2], fun i hi => ?_⟩
    by_cases z : i = j
    · subst z
      have := of_decide_eq_false h2
      exact ⟨h5, by omega⟩
    · exact g3 i (by omega)
theorem badN_0 {T : Int → Int} {n l q1 : Int} {j : Nat} (h : badN T n l q1 j = false) : loT l j ≤ tkV T n (qit T n q1 j) ∧ tkV T n (qit T n q1 j) ≤ hiT l j ∧ (l = 6 → j = 1 → tkV T n (qit T n q1 1) ≠ tkV T n q1) := by
  unfold badN at h
  simp only [Bool.or_eq_false_iff, Bool.and_eq_false_iff, decide_eq_false_iff_not] at h
  obtain ⟨⟨h1, h2⟩, h3⟩ := h
  refine ⟨by omega, by omega, fun a b => ?_⟩
  rcases h3 with (h3 | h3) | h3
  · exact absurd a h3
  · exact absurd b h3
  · exact h3
