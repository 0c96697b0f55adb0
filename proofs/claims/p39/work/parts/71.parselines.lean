/-! lines that are put so, read -/
section LN
variable {T : Int → Int} {n : Int}
theorem fpN_st {l q1 : Int} {vs : List Int} (hv : ∀ i : Nat, i < vs.length → tkV T n (qit T n q1 i) = vs.getD i 0) (rng : ∀ j : Nat, j < vs.length → loT l j ≤ vs.getD j 0 ∧ vs.getD j 0 ≤ hiT l j) (q6 : l = 6 → vs.getD 1 0 ≠ vs.getD 0 0) (l13 : vs.length ≤ 13) : ∀ j : Nat, j ≤ vs.length → fpN T n l q1 (0, -1) j = (0, -1)
  | 0, _ => rfl
  | j + 1, hj => by
    have ih := fpN_st hv rng q6 l13 j (by omega)
    have hb : badN T n l q1 j = false := by
      unfold badN
      rw [hv j (by omega), decide_eq_false (by have := rng j (by omega); omega), decide_eq_false (by have := rng j (by omega); omega), Bool.false_or, Bool.false_or]
      by_cases z : l = 6 ∧ j = 1
      · have e0 : tkV T n q1 = vs.getD 0 0 := hv 0 (by omega)
        have e1 := hv 1 (by omega)
        rw [e0, e1, decide_eq_false (q6 z.1), Bool.and_false]
      · by_cases y : l = 6
        · rw [decide_eq_false (show ¬ j = 1 from fun h => z ⟨y, h⟩), Bool.and_false, Bool.false_and]
        · rw [decide_eq_false y, Bool.false_and, Bool.false_and]
    simp only [fpN]
    rw [ih, hb]
    have e : ∀ (k at_ : Int), blm (0, -1) false k at_ = (0, -1) := fun k at_ => if_neg (fun h => Bool.noConfusion h.2)
    rw [e, decide_eq_false (by omega), e]
theorem gpN_lt {l q1 gp G : Int} {m : Nat} (hg : gp < G) (h6 : l = 6 → ∀ i : Nat, i < m → tkV T n (qit T n q1 i) < G) (h4 : l = 4 ∨ l = 5 → 0 < m → tkV T n (qit T n q1 0) < G) : ∀ j : Nat, j ≤ m → gpN T n l q1 gp j < G
  | 0, _ => hg
  | j + 1, hj => by
    have ih := gpN_lt hg h6 h4 j (by omega)
    simp only [gpN]
    split
    · rename_i w
      have hv : tkV T n (qit T n q1 j) < G := by
        rcases w with w | ⟨w, w2⟩
        · exact h6 w j (by omega)
        · subst w; exact h4 w2 (by omega)
      unfold imax
      split <;> omega
    · exact ih
theorem gcN_lt {l q1 gc C : Int} {m : Nat} (hg : gc < C) (h3 : l = 3 → 0 < m → tkV T n (qit T n q1 0) < C) (h4 : l = 4 → ∀ i : Nat, 0 < i → i < m → tkV T n (qit T n q1 i) < C) : ∀ j : Nat, j ≤ m → gcN T n l q1 gc j < C
  | 0, _ => hg
  | j + 1, hj => by
    have ih := gcN_lt hg h3 h4 j (by omega)
    simp only [gcN]
    split
    · rename_i w
      have hv : tkV T n (qit T n q1 j) < C := by
        rcases w with ⟨w, w2⟩ | ⟨w, w2⟩
        · subst w; exact h3 w2 (by omega)
        · exact h4 w2 j w (by omega)
      unfold imax
      split <;> omega
    · exact ih
/-- a row of what stands so far: no fault, the highest one below G, the highest cell below C -/
def PsT (T : Int → Int) (n G C : Int) (P : Ps) (l : List Int) (R : (Int → Int) → Prop) : Prop := Tx T n P.1 l ∧ P.2.1 = (0, -1) ∧ P.2.2.1 < G ∧ P.2.2.2.1 < C ∧ R P.2.2.2.2
theorem lnNm {G C l k : Int} {P : Ps} {ws vs rest : List Int} {R : (Int → Int) → Prop} (hP : PsT T n G C P (ws ++ 32 :: nmB vs (59 :: rest)) R) (hw : ∀ c ∈ ws, cLt c = true) (h0 : 0 < ws.length) (hk : wrdL ws = k) (k9 : k ≠ 99) (hl : lnW 0 k = l) (l0 : 0 ≤ l ∧ l ≤ 6) (v0 : 0 < vs.length) (hv : ∀ v ∈ vs, 0 ≤ v ∧ v < 100) (few : fewT l ≤ (vs.length : Nat)) (most : vs.length ≤ (mostT l).toNat) (l13 : vs.length ≤ 13) (rng : ∀ j : Nat, j < vs.length → loT l j ≤ vs.getD j 0 ∧ vs.getD j 0 ≤ hiT l j) (q6 : l = 6 → vs.getD 1 0 ≠ vs.getD 0 0)
    (full : ∀ r, R r → fulL l r = false) (hr : Hd cBl rest) (g6 : l = 6 → ∀ i : Nat, i < vs.length → vs.getD i 0 < G) (g4 : l = 4 ∨ l = 5 → vs.getD 0 0 < G) (c3 : l = 3 → vs.getD 0 0 < C) (c4 : l = 4 → ∀ i : Nat, 0 < i → i < vs.length → vs.getD i 0 < C) {R' : (Int → Int) → Prop} (hR : ∀ r, R r → R' (rowL l (mnW k) (fun j => vs.getD j 0) vs.length r)) :
    ∃ P', stpP T n 0 P = (true, P') ∧ PsT T n G C P' rest R' := by
  obtain ⟨h, hf, hg, hc, hr0⟩ := hP
  cases vs with
  | nil => exact absurd v0 (Nat.lt_irrefl 0)
  | cons v vs =>
    obtain ⟨w1, w2, w3⟩ := nxW hw h0 (nmB_hd (hv v List.mem_cons_self)) h
    obtain ⟨n1, n2, n3⟩ := nrL (v :: vs) (mostT l).toNat (nxt T n P.1) most hv w3
    rw [hk, if_neg k9] at w2
    have eK : lnK T n 0 P.1 = l := by
      unfold lnK
      rw [if_pos w2, w1, hk, hl]
    obtain ⟨s1, s2⟩ := nxS hr n3
    refine ⟨_, stp_num1 (l := l) (e := (v :: vs).length) (by rw [w2]; decide) eK (by omega) (by omega) n1.symm ⟨s1, few⟩, s2, ?_, ?_, ?_, ?_⟩
    · show fpN T n l (nxt T n P.1) (blm P.2.1 (fulL l P.2.2.2.2) 3 P.1) (v :: vs).length = _
      rw [full _ hr0, hf, show blm (0, -1) false 3 P.1 = (0, -1) from if_neg (fun h => Bool.noConfusion h.2)]
      exact fpN_st n2 rng q6 l13 _ (Nat.le_refl _)
    · exact gpN_lt hg (fun z i hi => by rw [n2 i hi]; exact g6 z i hi) (fun z hm => by rw [n2 0 hm]; exact g4 z) _ (Nat.le_refl _)
    · exact gcN_lt hc (fun z hm => by rw [n2 0 hm]; exact c3 z) (fun z i i0 hi => by rw [n2 i hi]; exact c4 z i i0 hi) _ (Nat.le_refl _)
    · show R' (rowL l (mnW (wrd T n P.1)) (fun j => tkV T n (qit T n (nxt T n P.1) j)) (v :: vs).length P.2.2.2.2)
      rw [w1, hk, rowL_cg few l0 n2]
      exact hR _ hr0
theorem lnLaw {G C k : Int} {P : Ps} {ws rest : List Int} {R : (Int → Int) → Prop} (hP : PsT T n G C P ([108, 97, 119] ++ 32 :: (ws ++ 59 :: rest)) R) (hw : ∀ c ∈ ws, cLt c = true) (h0 : 0 < ws.length) (hk : wrdL ws = k) (k9 : k ≠ 99) (hl : lwW k ≠ -1) (hr : Hd cBl rest) (hb : Hd cBl (ws ++ 59 :: rest)) {R' : (Int → Int) → Prop} (hR : ∀ r, R r → R' (st1 r 2 (lwW k))) :
    ∃ P', stpP T n 0 P = (true, P') ∧ PsT T n G C P' rest R' := by
  obtain ⟨h, hf, hg, hc, hr0⟩ := hP
  obtain ⟨w1, w2, w3⟩ := nxW (ws := [108, 97, 119]) (by decide) (by decide) hb h
  obtain ⟨x1, x2, x3⟩ := nxW0 hw h0 w3
  obtain ⟨s1, s2⟩ := nxS hr x3
  have e2 : wrdL [108, 97, 119] = 2 := by decide +kernel
  rw [e2] at w1 w2
  rw [if_neg (by decide)] at w2
  rw [hk, if_neg k9] at x2
  have eK : lnK T n 0 P.1 = 8 := by
    unfold lnK
    rw [if_pos w2, w1]
    decide
  refine ⟨_, stp_law1 (by rw [w2]; decide) eK ⟨x2, by rw [x1, hk]; exact hl⟩ s1, s2, hf, hg, hc, ?_⟩
  show R' (rowL 8 (lwW (wrd T n (nxt T n P.1))) (fun _ => 0) 0 P.2.2.2.2)
  rw [x1, hk]
  exact hR _ hr0
/-- some lines on: from what stands ahead of l to what stands ahead of l' -/
def Gos (T : Int → Int) (n G C : Int) (m : Nat) (l : List Int) (R : (Int → Int) → Prop) (l' : List Int) (R' : (Int → Int) → Prop) : Prop := ∀ P : Ps, PsT T n G C P l R → ∃ P', (∀ d : Nat, runP T n 0 (d + m) P = runP T n 0 d P') ∧ PsT T n G C P' l' R'
theorem Gos.one {G C : Int} {l l' : List Int} {R R' : (Int → Int) → Prop} (h : ∀ P : Ps, PsT T n G C P l R → ∃ P', stpP T n 0 P = (true, P') ∧ PsT T n G C P' l' R') : Gos T n G C 1 l R l' R' := fun P hP => by
  obtain ⟨P', e, hP'⟩ := h P hP
  refine ⟨P', fun d => ?_, hP'⟩
  show runP T n 0 (d + 1) P = _
  simp only [runP]
  rw [e, if_pos rfl]
theorem Gos.none {G C : Int} {l : List Int} {R R' : (Int → Int) → Prop} (h : ∀ r, R r → R' r) : Gos T n G C 0 l R l R' := fun P hP => ⟨P, fun d => rfl, hP.1, hP.2.1, hP.2.2.1, hP.2.2.2.1, h _ hP.2.2.2.2⟩
theorem Gos.tr {G C : Int} {m1 m2 : Nat} {l l1 l2 : List Int} {R R1 R2 : (Int → Int) → Prop} (h1 : Gos T n G C m1 l R l1 R1) (h2 : Gos T n G C m2 l1 R1 l2 R2) : Gos T n G C (m1 + m2) l R l2 R2 := fun P hP => by
  obtain ⟨P1, e1, hP1⟩ := h1 P hP
  obtain ⟨P2, e2, hP2⟩ := h2 P1 hP1
  refine ⟨P2, fun d => ?_, hP2⟩
  rw [show d + (m1 + m2) = (d + m2) + m1 by omega, e1, e2]
end LN
theorem hd_w {ws tl : List Int} (hw : ∀ c ∈ ws, cLt c = true) (h0 : 0 < ws.length) : Hd cBl (ws ++ tl) := fun c l e => by
  cases ws with
  | nil => exact absurd h0 (Nat.lt_irrefl 0)
  | cons x ws =>
    simp only [List.cons_append, List.cons.injEq] at e
    have h1 := cLt_iff.mp (hw x List.mem_cons_self)
    rw [e.1] at h1
    cases hb : cBl c with
    | false => rfl
    | true =>
      have := cBl_iff.mp hb
      omega
