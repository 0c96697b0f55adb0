/-! a line keeps the row as it may be -/
theorem gpN_ge {T : Int → Int} {n l q1 gp : Int} : ∀ e : Nat, gp ≤ gpN T n l q1 gp e ∧ ∀ j : Nat, j < e → (l = 6 ∨ (j = 0 ∧ (l = 4 ∨ l = 5))) → tkV T n (qit T n q1 j) ≤ gpN T n l q1 gp e
  | 0 => ⟨Int.le_refl gp, fun j hj => absurd hj (Nat.not_lt_zero _)⟩
  | e + 1 => by
    obtain ⟨h1, h2⟩ := gpN_ge (T := T) (n := n) (l := l) (q1 := q1) (gp := gp) e
    have im := imax_bd (gpN T n l q1 gp e) (tkV T n (qit T n q1 e))
    simp only [gpN]
    by_cases z : l = 6 ∨ (e = 0 ∧ (l = 4 ∨ l = 5))
    · rw [if_pos z]
      refine ⟨by omega, fun j hj hc => ?_⟩
      by_cases w : j = e
      · subst w; omega
      · have := h2 j (by omega) hc
        omega
    · rw [if_neg z]
      refine ⟨h1, fun j hj hc => ?_⟩
      by_cases w : j = e
      · subst w; exact absurd hc z
      · exact h2 j (by omega) hc
theorem gcN_ge {T : Int → Int} {n l q1 gc : Int} : ∀ e : Nat, gc ≤ gcN T n l q1 gc e ∧ ∀ j : Nat, j < e → ((j = 0 ∧ l = 3) ∨ (0 < j ∧ l = 4)) → tkV T n (qit T n q1 j) ≤ gcN T n l q1 gc e
  | 0 => ⟨Int.le_refl gc, fun j hj => absurd hj (Nat.not_lt_zero _)⟩
  | e + 1 => by
    obtain ⟨h1, h2⟩ := gcN_ge (T := T) (n := n) (l := l) (q1 := q1) (gc := gc) e
    have im := imax_bd (gcN T n l q1 gc e) (tkV T n (qit T n q1 e))
    simp only [gcN]
    by_cases z : (e = 0 ∧ l = 3) ∨ (0 < e ∧ l = 4)
    · rw [if_pos z]
      refine ⟨by omega, fun j hj hc => ?_⟩
      by_cases w : j = e
      · subst w; omega
      · have := h2 j (by omega) hc
        omega
    · rw [if_neg z]
      refine ⟨h1, fun j hj hc => ?_⟩
      by_cases w : j = e
      · subst w; exact absurd hc z
      · exact h2 j (by omega) hc
theorem lo_hi : ∀ l : Nat, l < 8 → ∀ j : Nat, j < 3 → loT l j = (stV.getD 3 []).getD (l * 3 + j) 0 ∧ hiT l j = (stV.getD 4 []).getD (l * 3 + j) 0 := by decide +kernel
theorem ful_f {l : Int} {r : Int → Int} (h : fulL l r = false) : (l = 3 → r 6 < 8) ∧ (l = 6 → r 7 < 6) ∧ (l = 7 → r 0 < 8) := by
  unfold fulL at h
  simp only [Bool.or_eq_false_iff, Bool.and_eq_false_iff, decide_eq_false_iff_not] at h
  omega
theorem rwL_ok {T : Int → Int} {n s l mn q1 gp gc : Int} {e : Nat} {fp : Int × Int} {r : Int → Int} (hl : (s = 0 ∧ 0 ≤ l ∧ l ≤ 6) ∨ (s = 1 ∧ l = 7)) (hO : RwOk s r gp gc) (hfu : fulL l r = false) (he : fewT l ≤ (e : Nat)) (hm : l = 3 → 0 ≤ mn ∧ mn ≤ 3) (hf : (fpN T n l q1 fp e).1 = 0) (he2 : (e : Int) ≤ mostT l) :
    RwOk s (rowL l mn (fun j => tkV T n (qit T n q1 j)) e r) (gpN T n l q1 gp e) (gcN T n l q1 gc e) := by
  obtain ⟨-, -, g3⟩ := fpN_ok e hf
  have gpm := (gpN_ge (T := T) (n := n) (l := l) (q1 := q1) (gp := gp) e).1
  have gpv := (gpN_ge (T := T) (n := n) (l := l) (q1 := q1) (gp := gp) e).2
  have gcm := (gcN_ge (T := T) (n := n) (l := l) (q1 := q1) (gc := gc) e).1
  have gcv := (gcN_ge (T := T) (n := n) (l := l) (q1 := q1) (gc := gc) e).2
  have ff := ful_f hfu
  have vv : ∀ j : Nat, j < e → loT l j ≤ tkV T n (qit T n q1 j) ∧ tkV T n (qit T n q1 j) ≤ hiT l j ∧ (l = 6 → j = 1 → tkV T n (qit T n q1 1) ≠ tkV T n q1) := fun j hj => badN_0 (g3 j hj).1
  have e13 : e ≤ 13 := by
    by_cases w : e ≤ 13
    · exact w
    · have := (g3 13 (by omega)).2
      omega
  rcases hl with ⟨hs, l0, l6⟩ | ⟨hs, l7⟩
  · subst hs
    refine ⟨fun _ => ?_, fun w => absurd w (by decide)⟩
    have h := (hO.1 rfl).mono gpm gcm
    have hc : (((((l = 0 ∨ l = 1) ∨ l = 2) ∨ l = 3) ∨ l = 4) ∨ l = 5) ∨ l = 6 := by clear ff hm; omega
    rcases hc with (((((z | z) | z) | z) | z) | z) | z
    · subst z
      have he : 2 ≤ (e : Int) := he
      have v0 := vv 0 (by omega)
      have v1 := vv 1 (by omega)
      have b0 : loT 0 0 = 2 ∧ hiT 0 0 = 6 := by decide
      have b1 : loT 0 1 = 2 ∧ hiT 0 1 = 6 := by decide
      exact (h.st (i := 0) (v := tkV T n (qit T n q1 0)) (by decide) (fun _ => by omega) (fun w => absurd w (by decide)) (fun w => absurd w (by decide)) (fun w => absurd w (by decide))).st (i := 1) (v := tkV T n (qit T n q1 1)) (by decide) (fun _ => by omega) (fun w => absurd w (by decide)) (fun w => absurd w (by decide)) (fun w => absurd w (by decide))
    · subst z
      have he : 1 ≤ (e : Int) := he
      have v0 := vv 0 (by omega)
      have b0 : loT 1 0 = 1 ∧ hiT 1 0 = 24 := by decide
      exact h.st (i := 3) (v := tkV T n (qit T n q1 0)) (by decide) (fun w => absurd w (by decide)) (fun w => absurd w (by decide)) (fun _ => by omega) (fun w => absurd w (by decide))
    · subst z
      have he : 2 ≤ (e : Int) := he
      have v0 := vv 0 (by omega)
      have v1 := vv 1 (by omega)
      have b0 : loT 2 0 = 0 ∧ hiT 2 0 = 9 := by decide
      have b1 : loT 2 1 = 1 ∧ hiT 2 1 = 24 := by decide
      exact (h.st (i := 4) (v := tkV T n (qit T n q1 0)) (by decide) (fun w => absurd w (by decide)) (fun w => absurd w (by decide)) (fun w => absurd w (by decide)) (fun _ => by omega)).st (i := 5) (v := tkV T n (qit T n q1 1)) (by decide) (fun w => absurd w (by decide)) (fun w => absurd w (by decide)) (fun _ => by omega) (fun w => absurd w (by decide))
    · subst z
      have he : 2 ≤ (e : Int) := he
      have v0 := vv 0 (by omega)
      have v1 := vv 1 (by omega)
      have b0 : loT 3 0 = 0 ∧ hiT 3 0 = 35 := by decide
      have b1 : loT 3 1 = 0 ∧ hiT 3 1 = 30 := by decide
      have c0 := gcv 0 (by omega) (Or.inl ⟨rfl, rfl⟩)
      exact h.one (c := tkV T n (qit T n q1 0)) (b := tkV T n (qit T n q1 1)) (ff.1 rfl) (hm rfl) (by omega) (by omega)
    · subst z
      have he : 2 ≤ (e : Int) := he
      have v0 := vv 0 (by omega)
      have b0 : loT 4 0 = 0 ∧ hiT 4 0 = 7 := by decide
      have b1 : ∀ j : Nat, 1 ≤ j → loT 4 j = 0 ∧ hiT 4 j = 35 := fun j hj => by
        have bb : (loT 4 1 = 0 ∧ hiT 4 1 = 35) ∧ loT 4 2 = 0 ∧ hiT 4 2 = 35 := by decide
        by_cases w : j = 1
        · subst w; exact bb.1
        · have e1 : loT 4 j = loT 4 2 := by unfold loT; rw [if_neg (by omega), if_neg (by decide)]
          have e2 : hiT 4 j = hiT 4 2 := by unfold hiT; rw [if_neg (by omega), if_neg (by decide)]
          rw [e1, e2]
          exact bb.2
      have hh := h.err (w := tkV T n (qit T n q1 0)) (m := (e : Int) - 1) (v := fun j => tkV T n (qit T n q1 (j + 1).toNat)) (by omega) (by omega) (fun j j0 j1 => by
        have x := vv (j + 1).toNat (by omega)
        have y := b1 (j + 1).toNat (by omega)
        have z := gcv (j + 1).toNat (by omega) (Or.inr ⟨by omega, rfl⟩)
        exact ⟨by omega, z⟩)
      have e2' : rowL 4 mn (fun j => tkV T n (qit T n q1 j)) e r = (fun x => if x = 24 + 17 * tkV T n (qit T n q1 0) then (e : Int) - 1 else if 25 + 17 * tkV T n (qit T n q1 0) ≤ x ∧ x < 25 + 17 * tkV T n (qit T n q1 0) + ((e : Int) - 1) then (fun j : Int => tkV T n (qit T n q1 (j + 1).toNat)) (x - (25 + 17 * tkV T n (qit T n q1 0))) else r x) := by
        funext x
        show (if x = 24 + 17 * tkV T n (qit T n q1 0) then (e : Int) - 1 else if 25 + 17 * tkV T n (qit T n q1 0) ≤ x ∧ x < 25 + 17 * tkV T n (qit T n q1 0) + ((e : Int) - 1) then tkV T n (qit T n q1 (x - (24 + 17 * tkV T n (qit T n q1 0))).toNat) else r x) = (if x = 24 + 17 * tkV T n (qit T n q1 0) then (e : Int) - 1 else if 25 + 17 * tkV T n (qit T n q1 0) ≤ x ∧ x < 25 + 17 * tkV T n (qit T n q1 0) + ((e : Int) - 1) then tkV T n (qit T n q1 (x - (25 + 17 * tkV T n (qit T n q1 0)) + 1).toNat) else r x)
        rw [show x - (24 + 17 * tkV T n (qit T n q1 0)) = x - (25 + 17 * tkV T n (qit T n q1 0)) + 1 by omega]
      rw [e2']
      exact hh
    · subst z
      have he : 2 ≤ (e : Int) := he
      have v0 := vv 0 (by omega)
      have v1 := vv 1 (by omega)
      have b0 : loT 5 0 = 0 ∧ hiT 5 0 = 7 := by decide
      have b1 : loT 5 1 = 0 ∧ hiT 5 1 = 3 := by decide
      exact h.ext (w := tkV T n (qit T n q1 0)) (v := tkV T n (qit T n q1 1)) (by omega) (by omega)
    · subst z
      have he : 2 ≤ (e : Int) := he
      have v0 := vv 0 (by omega)
      have v1 := vv 1 (by omega)
      have b0 : loT 6 0 = 0 ∧ hiT 6 0 = 7 := by decide
      have b1 : loT 6 1 = 0 ∧ hiT 6 1 = 7 := by decide
      have c0 := gpv 0 (by omega) (Or.inl rfl)
      have c1 := gpv 1 (by omega) (Or.inl rfl)
      have hne := v1.2.2 rfl rfl
      exact h.qrl (a := tkV T n (qit T n q1 0)) (b := tkV T n (qit T n q1 1)) (ff.2.1 rfl) (by omega) (by omega) (fun w => hne w.symm)
  · subst hs
    subst l7
    refine ⟨fun w => absurd w (by decide), fun _ => ?_⟩
    have he : 3 ≤ (e : Int) := he
    have v0 := vv 0 (by omega)
    have v1 := vv 1 (by omega)
    have v2 := vv 2 (by omega)
    have b0 : loT 7 0 = 0 ∧ hiT 7 0 = 7 := by decide
    have b1 : loT 7 1 = 0 ∧ hiT 7 1 = 23 := by decide
    have b2 : loT 7 2 = 0 ∧ hiT 7 2 = 99 := by decide
    exact (hO.2 rfl).add (a := tkV T n (qit T n q1 0)) (b := tkV T n (qit T n q1 1)) (c := tkV T n (qit T n q1 2)) (ff.2.2 rfl) (by omega) (by omega) (by omega)
/-- how many there are behind a line -/
theorem rowL_cnt {s l mn : Int} {v : Nat → Int} {m : Nat} {r : Int → Int} {gp gc : Int} (hl : (s = 0 ∧ 0 ≤ l ∧ l ≤ 6) ∨ (s = 1 ∧ l = 7)) (hO : RwOk s r gp gc) (hm : l = 4 → 0 ≤ v 0) (h5 : l = 5 → 0 ≤ v 0) :
    (s = 0 → rowL l mn v m r 6 = r 6 + (if l = 3 then 1 else 0) ∧ rowL l mn v m r 7 = r 7 + (if l = 6 then 1 else 0)) ∧ (s = 1 → rowL l mn v m r 0 = r 0 + 1) := by
  rcases hl with ⟨hs, l0, l6⟩ | ⟨hs, l7⟩
  · subst hs
    refine ⟨fun _ => ?_, fun w => absurd w (by decide)⟩
    have h := (hO.1 rfl).1
    have hc : (((((l = 0 ∨ l = 1) ∨ l = 2) ∨ l = 3) ∨ l = 4) ∨ l = 5) ∨ l = 6 := by clear hm h5; omega
    rcases hc with (((((z | z) | z) | z) | z) | z) | z
    · subst z
      refine ⟨?_, ?_⟩
      · show st1 (st1 r 0 (v 0)) 1 (v 1) 6 = r 6 + 0
        rw [st1_n (by decide), st1_n (by decide)]; omega
      · show st1 (st1 r 0 (v 0)) 1 (v 1) 7 = r 7 + 0
        rw [st1_n (by decide), st1_n (by decide)]; omega
    · subst z
      refine ⟨?_, ?_⟩
      · show st1 r 3 (v 0) 6 = r 6 + 0
        rw [st1_n (by decide)]; omega
      · show st1 r 3 (v 0) 7 = r 7 + 0
        rw [st1_n (by decide)]; omega
    · subst z
      refine ⟨?_, ?_⟩
      · show st1 (st1 r 4 (v 0)) 5 (v 1) 6 = r 6 + 0
        rw [st1_n (by decide), st1_n (by decide)]; omega
      · show st1 (st1 r 4 (v 0)) 5 (v 1) 7 = r 7 + 0
        rw [st1_n (by decide), st1_n (by decide)]; omega
    · subst z
      refine ⟨?_, ?_⟩
      · show st1 (st1 (st1 (st1 r (20 + 17 * r 6) mn) (21 + 17 * r 6) (v 0)) (22 + 17 * r 6) (v 1)) 6 (r 6 + 1) 6 = r 6 + 1
        rw [st1_s]
      · show st1 (st1 (st1 (st1 r (20 + 17 * r 6) mn) (21 + 17 * r 6) (v 0)) (22 + 17 * r 6) (v 1)) 6 (r 6 + 1) 7 = r 7 + 0
        rw [st1_n (by decide), st1_n (by omega), st1_n (by omega), st1_n (by omega)]; omega
    · subst z
      have w0 := hm rfl
      refine ⟨?_, ?_⟩
      · show (if (6 : Int) = 24 + 17 * v 0 then (m : Int) - 1 else if 25 + 17 * v 0 ≤ (6 : Int) ∧ (6 : Int) < 25 + 17 * v 0 + ((m : Int) - 1) then v (6 - (24 + 17 * v 0)).toNat else r 6) = r 6 + 0
        rw [if_neg (by omega), if_neg (by omega)]; omega
      · show (if (7 : Int) = 24 + 17 * v 0 then (m : Int) - 1 else if 25 + 17 * v 0 ≤ (7 : Int) ∧ (7 : Int) < 25 + 17 * v 0 + ((m : Int) - 1) then v (7 - (24 + 17 * v 0)).toNat else r 7) = r 7 + 0
        rw [if_neg (by omega), if_neg (by omega)]; omega
    · subst z
      have w0 := h5 rfl
      refine ⟨?_, ?_⟩
      · show st1 r (23 + 17 * v 0) (v 1) 6 = r 6 + 0
        rw [st1_n (by omega)]; omega
      · show st1 r (23 + 17 * v 0) (v 1) 7 = r 7 + 0
        rw [st1_n (by omega)]; omega
    · subst z
      refine ⟨?_, ?_⟩
      · show st1 (st1 (st1 r (8 + 2 * r 7) (v 0)) (9 + 2 * r 7) (v 1)) 7 (r 7 + 1) 6 = r 6 + 0
        rw [st1_n (by decide), st1_n (by omega), st1_n (by omega)]; omega
      · show st1 (st1 (st1 r (8 + 2 * r 7) (v 0)) (9 + 2 * r 7) (v 1)) 7 (r 7 + 1) 7 = r 7 + 1
        rw [st1_s]
  · subst hs
    subst l7
    refine ⟨fun w => absurd w (by decide), fun _ => ?_⟩
    show st1 (st1 (st1 (st1 r (1 + 3 * r 0) (v 0)) (2 + 3 * r 0) (v 1)) (3 + 3 * r 0) (v 2)) 0 (r 0 + 1) 0 = r 0 + 1
    rw [st1_s]
theorem lnW_in {s w : Int} (hs : s = 0 ∨ s = 1) : lnW s w = -1 ∨ ((s = 0 ∧ 0 ≤ lnW s w ∧ lnW s w ≤ 6) ∨ (s = 1 ∧ lnW s w = 7)) ∨ (s = 0 ∧ lnW s w = 8) := by
  unfold lnW
  rcases hs with h | h
  · subst h
    rw [if_neg (by decide)]
    repeat'
      split
      · omega
    omega
  · subst h
    rw [if_pos rfl]
    split <;> omega
theorem lnW_99 (s : Int) : lnW s 99 = -1 := by
  unfold lnW
  split
  · rfl
  · rfl
theorem lnK_w {T : Int → Int} {n s q : Int} (h : tkC T n q = 1) : lnK T n s q = lnW s (wrd T n q) := by
  have ck := (tkC_K T n q).2.2.2.1 h
  unfold lnK
  by_cases z : wrd T n q = 99
  · rw [if_pos z] at ck
    rw [if_neg (by omega), z, lnW_99]
  · rw [if_neg z] at ck
    rw [if_pos ck]
theorem lnK_n {T : Int → Int} {n s q : Int} (h : tkC T n q ≠ 1) : lnK T n s q = -1 := by
  unfold lnK
  rw [if_neg (fun w => h ((tkC_K T n q).2.2.2.2 w))]
theorem mnW_in {s w : Int} (h : lnW s w = 3) : 0 ≤ mnW w ∧ mnW w ≤ 3 := by
  have h5 : 5 ≤ w ∧ w ≤ 8 := by
    unfold lnW at h
    revert h
    repeat'
      split
      · intro h
        omega
    intro h
    omega
  unfold mnW
  rw [if_pos h5]
  omega
