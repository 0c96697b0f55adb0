/-! a town as a text: the row of numbers, its bytes, what the reader makes of them -/
/-- a row that can be told -/
def TRg (t : Int → Int) : Prop :=
  ((2 ≤ t 0 ∧ t 0 ≤ 6) ∧ (2 ≤ t 1 ∧ t 1 ≤ 6) ∧ (0 ≤ t 2 ∧ t 2 ≤ 3) ∧ (1 ≤ t 3 ∧ t 3 ≤ 24) ∧ (0 ≤ t 4 ∧ t 4 ≤ 9) ∧ (1 ≤ t 5 ∧ t 5 ≤ 24) ∧ (1 ≤ t 6 ∧ t 6 ≤ 8) ∧ (0 ≤ t 7 ∧ t 7 ≤ 3)) ∧
  (∀ p : Nat, (p : Int) < t 6 → (0 ≤ t (10 + 4 * p) ∧ t (10 + 4 * p) ≤ 3) ∧ (0 ≤ t (11 + 4 * p) ∧ t (11 + 4 * p) ≤ 2) ∧ (0 ≤ t (12 + 4 * p) ∧ t (12 + 4 * p) ≤ 30) ∧ (0 ≤ t (13 + 4 * p) ∧ t (13 + 4 * p) ≤ 3) ∧ (0 ≤ t (50 + p) ∧ t (50 + p) ≤ 3) ∧ ∀ k : Nat, (k : Int) < t (50 + p) → 0 ≤ t (60 + 12 * p + k) ∧ t (60 + 12 * p + k) ≤ 2) ∧
  (∀ k : Nat, (k : Int) < t 7 → (0 ≤ t (160 + 2 * k) ∧ t (160 + 2 * k) < t 6) ∧ (0 ≤ t (161 + 2 * k) ∧ t (161 + 2 * k) < t 6) ∧ t (161 + 2 * k) ≠ t (160 + 2 * k))
def lawW (m : Nat) : List Int := wB ((lgV.getD 0 []).getD m 0)
def manW (m : Nat) : List Int := wB ((lgV.getD 1 []).getD m 0)
theorem law_ok : ∀ m : Nat, m < 4 → (∀ c ∈ lawW m, cLt c = true) ∧ 0 < (lawW m).length ∧ wrdL (lawW m) = 12 + m := by decide +kernel
theorem man_ok : ∀ m : Nat, m < 4 → (∀ c ∈ manW m, cLt c = true) ∧ 0 < (manW m).length ∧ wrdL (manW m) = 5 + m := by decide +kernel
def cellL (t : Int → Int) (p : Nat) : List Int := (List.range (t (50 + p)).toNat).map (fun k => t (60 + 12 * p + (k : Nat)))
def errX (t : Int → Int) (p : Nat) (tl : List Int) : List Int := if 0 < t (50 + p) then [101, 114, 114, 97, 110, 100] ++ 32 :: nmB ((p : Int) :: cellL t p) (59 :: tl) else tl
def extX (t : Int → Int) (p : Nat) (tl : List Int) : List Int := if 0 < t (13 + 4 * p) then [101, 120, 116, 114, 97] ++ 32 :: nmB [(p : Int), t (13 + 4 * p)] (59 :: tl) else tl
def perX (t : Int → Int) (p : Nat) (tl : List Int) : List Int := manW (t (10 + 4 * p)).toNat ++ 32 :: nmB [t (11 + 4 * p), t (12 + 4 * p)] (59 :: errX t p (extX t p tl))
def psX (t : Int → Int) : Nat → Nat → List Int → List Int
  | 0, _, tl => tl
  | m + 1, p, tl => perX t p (psX t m (p + 1) tl)
def quX (t : Int → Int) (k : Nat) (tl : List Int) : List Int := [113, 117, 97, 114, 114, 101, 108] ++ 32 :: nmB [t (160 + 2 * k), t (161 + 2 * k)] (59 :: tl)
def qsX (t : Int → Int) : Nat → Nat → List Int → List Int
  | 0, _, tl => tl
  | m + 1, k, tl => quX t k (qsX t m (k + 1) tl)
def hdX (t : Int → Int) (tl : List Int) : List Int := [115, 105, 122, 101] ++ 32 :: nmB [t 0, t 1] (59 :: ([108, 97, 119] ++ 32 :: (lawW (t 2).toNat ++ 59 :: ([104, 111, 117, 114, 115] ++ 32 :: nmB [t 3] (59 :: ([101, 97, 116] ++ 32 :: nmB [t 4, t 5] (59 :: tl)))))))
def twX (t : Int → Int) : List Int := hdX t (psX t (t 6).toNat 0 (qsX t (t 7).toNat 0 []))
/-! the rows ahead of each line -/
def PerR (t : Int → Int) (i : Nat) (r : Int → Int) : Prop := (r (20 + 17 * i) = t (10 + 4 * i) ∧ r (21 + 17 * i) = t (11 + 4 * i) ∧ r (22 + 17 * i) = t (12 + 4 * i)) ∧ r (23 + 17 * i) = t (13 + 4 * i) ∧ r (24 + 17 * i) = t (50 + i) ∧ ∀ k : Nat, (k : Int) < t (50 + i) → r (25 + 17 * i + k) = t (60 + 12 * i + k)
def RwH (t r : Int → Int) : Prop := r 0 = t 0 ∧ r 1 = t 1 ∧ r 2 = t 2 ∧ r 3 = t 3 ∧ r 4 = t 4 ∧ r 5 = t 5
def RwP (t : Int → Int) (p : Nat) (r : Int → Int) : Prop := RwH t r ∧ (r 6 = p ∧ r 7 = 0) ∧ (∀ i : Nat, i < p → PerR t i r) ∧ ∀ i : Nat, p ≤ i → i < 8 → r (23 + 17 * i) = 0 ∧ r (24 + 17 * i) = 0
def RwM (t : Int → Int) (p : Nat) (r : Int → Int) : Prop := RwH t r ∧ (r 6 = p + 1 ∧ r 7 = 0) ∧ (∀ i : Nat, i < p → PerR t i r) ∧ (∀ i : Nat, p ≤ i → i < 8 → r (23 + 17 * i) = 0) ∧ (∀ i : Nat, p + 1 ≤ i → i < 8 → r (24 + 17 * i) = 0) ∧ (r (20 + 17 * p) = t (10 + 4 * p) ∧ r (21 + 17 * p) = t (11 + 4 * p) ∧ r (22 + 17 * p) = t (12 + 4 * p))
def RwQ (t : Int → Int) (k : Nat) (r : Int → Int) : Prop := RwH t r ∧ (r 6 = t 6 ∧ r 7 = k) ∧ (∀ i : Nat, (i : Int) < t 6 → PerR t i r) ∧ ∀ i : Nat, i < k → r (8 + 2 * i) = t (160 + 2 * i) ∧ r (9 + 2 * i) = t (161 + 2 * i)
theorem lim0 : (loT 0 0 = 2 ∧ hiT 0 0 = 6) ∧ (loT 0 1 = 2 ∧ hiT 0 1 = 6) ∧ fewT 0 = 2 ∧ (mostT 0).toNat = 2 := by decide +kernel
theorem lim1 : (loT 1 0 = 1 ∧ hiT 1 0 = 24) ∧ fewT 1 = 1 ∧ (mostT 1).toNat = 1 := by decide +kernel
theorem lim2 : (loT 2 0 = 0 ∧ hiT 2 0 = 9) ∧ (loT 2 1 = 1 ∧ hiT 2 1 = 24) ∧ fewT 2 = 2 ∧ (mostT 2).toNat = 2 := by decide +kernel
theorem lim3 : (loT 3 0 = 0 ∧ hiT 3 0 = 35) ∧ (loT 3 1 = 0 ∧ hiT 3 1 = 30) ∧ fewT 3 = 2 ∧ (mostT 3).toNat = 2 := by decide +kernel
theorem lim4 : (loT 4 0 = 0 ∧ hiT 4 0 = 7) ∧ fewT 4 = 2 ∧ (mostT 4).toNat = 600 := by decide +kernel
theorem lim4s : ∀ j : Nat, 0 < j → loT 4 j = 0 ∧ hiT 4 j = 35 := fun j hj => by
  have h : ∀ j : Nat, j < 3 → 0 < j → loT 4 j = 0 ∧ hiT 4 j = 35 := by decide +kernel
  by_cases z : j < 3
  · exact h j z hj
  · have e2 := h 2 (by decide) (by decide)
    unfold loT hiT at e2 ⊢
    rw [if_neg (by omega)]
    rw [if_neg (by omega)] at e2
    exact e2
theorem lim5 : (loT 5 0 = 0 ∧ hiT 5 0 = 7) ∧ (loT 5 1 = 0 ∧ hiT 5 1 = 3) ∧ fewT 5 = 2 ∧ (mostT 5).toNat = 2 := by decide +kernel
theorem lim6 : (loT 6 0 = 0 ∧ hiT 6 0 = 7) ∧ (loT 6 1 = 0 ∧ hiT 6 1 = 7) ∧ fewT 6 = 2 ∧ (mostT 6).toNat = 2 := by decide +kernel
theorem rng1 {l x : Int} (h0 : loT l 0 ≤ x ∧ x ≤ hiT l 0) : ∀ j : Nat, j < [x].length → loT l j ≤ [x].getD j 0 ∧ [x].getD j 0 ≤ hiT l j := fun j hj => by
  have : j = 0 := by simp only [List.length_cons, List.length_nil] at hj; omega
  subst this
  exact h0
theorem rng2 {l x z : Int} (h0 : loT l 0 ≤ x ∧ x ≤ hiT l 0) (h1 : loT l 1 ≤ z ∧ z ≤ hiT l 1) : ∀ j : Nat, j < [x, z].length → loT l j ≤ [x, z].getD j 0 ∧ [x, z].getD j 0 ≤ hiT l j := fun j hj => by
  simp only [List.length_cons, List.length_nil] at hj
  rcases j with _ | _ | j
  · exact h0
  · exact h1
  · omega
theorem mem1 {x : Int} {Q : Int → Prop} (h : Q x) : ∀ v ∈ [x], Q v := fun v hv => by rw [List.mem_singleton.mp hv]; exact h
theorem mem2 {x z : Int} {Q : Int → Prop} (h : Q x) (h1 : Q z) : ∀ v ∈ [x, z], Q v := fun v hv => by
  rcases List.mem_cons.mp hv with rfl | hv
  · exact h
  · rw [List.mem_singleton.mp hv]; exact h1
section TWX
variable {T : Int → Int} {n : Int} {t : Int → Int}
/-- nobody yet -/
def Rw0 (r : Int → Int) : Prop := (r 6 = 0 ∧ r 7 = 0) ∧ ∀ i : Nat, i < 8 → r (23 + 17 * i) = 0 ∧ r (24 + 17 * i) = 0
theorem goH {G C : Int} {tl : List Int} (hT : TRg t) (hb : Hd cBl tl) : Gos T n G C 4 (hdX t tl) Rw0 tl (RwP t 0) := by
  obtain ⟨⟨t0, t1, t2, t3, t4, t5, t6, t7⟩, -, -⟩ := hT
  have full : ∀ l : Int, l ≠ 3 → l ≠ 6 → ∀ r : Int → Int, r 6 = 0 ∧ r 7 = 0 → fulL l r = false ∨ l = 7 := fun l h3 h6 r hr => by
    by_cases z : l = 7
    · exact Or.inr z
    · left
      unfold fulL
      rw [decide_eq_false h3, decide_eq_false h6, decide_eq_false z]
      rfl
  obtain ⟨l1, l2, l3⟩ := law_ok (t 2).toNat (by omega)
  have g1 := Gos.one (T := T) (n := n) (G := G) (C := C) (fun P hP => lnNm (l := 0) (k := 1) (R := Rw0) (R' := fun r => Rw0 r ∧ r 0 = t 0 ∧ r 1 = t 1) (ws := [115, 105, 122, 101]) (vs := [t 0, t 1]) (rest := [108, 97, 119] ++ 32 :: (lawW (t 2).toNat ++ 59 :: ([104, 111, 117, 114, 115] ++ 32 :: nmB [t 3] (59 :: ([101, 97, 116] ++ 32 :: nmB [t 4, t 5] (59 :: tl)))))) hP (by decide) (by decide) (by decide +kernel) (by decide) (by decide) (by decide) (by simp) (mem2 (by omega) (by omega)) (by rw [lim0.2.2.1]; exact Int.le_refl _) (by rw [lim0.2.2.2]; exact Nat.le_refl _) (by simp) (rng2 (by rw [lim0.1.1, lim0.1.2]; exact t0) (by rw [lim0.2.1.1, lim0.2.1.2]; exact t1)) (fun h => absurd h (by decide)) (fun r hr => (full 0 (by decide) (by decide) r hr.1).resolve_right (by decide)) (hd_w (by decide) (by decide)) (fun h => absurd h (by decide)) (fun h => by omega) (fun h => absurd h (by decide)) (fun h => absurd h (by decide)) (fun r hr => by
    have e : ∀ x : Int, 2 ≤ x → rowL 0 (mnW 1) (fun j => [t 0, t 1].getD j 0) [t 0, t 1].length r x = r x := fun x hx => by
      show st1 (st1 r 0 (t 0)) 1 (t 1) x = _
      rw [st1_n (by omega), st1_n (by omega)]
    refine ⟨⟨⟨by rw [e 6 (by decide)]; exact hr.1.1, by rw [e 7 (by decide)]; exact hr.1.2⟩, fun i hi => by rw [e _ (by omega), e _ (by omega)]; exact hr.2 i hi⟩, ?_, ?_⟩
    · show st1 (st1 r 0 (t 0)) 1 (t 1) 0 = _
      rw [st1_n (by decide), st1_s]
    · show st1 (st1 r 0 (t 0)) 1 (t 1) 1 = _
      rw [st1_s]))
  have g2 := Gos.one (T := T) (n := n) (G := G) (C := C) (fun P hP => lnLaw (k := 12 + (t 2).toNat) (R := fun r => Rw0 r ∧ r 0 = t 0 ∧ r 1 = t 1) (R' := fun r => Rw0 r ∧ r 0 = t 0 ∧ r 1 = t 1 ∧ r 2 = t 2) (ws := lawW (t 2).toNat) (rest := [104, 111, 117, 114, 115] ++ 32 :: nmB [t 3] (59 :: ([101, 97, 116] ++ 32 :: nmB [t 4, t 5] (59 :: tl)))) hP l1 l2 l3 (by omega) (by unfold lwW; rw [if_pos (by omega)]; omega) (hd_w (by decide) (by decide)) (hd_w l1 l2) (fun r hr => by
    have e : ∀ x : Int, x ≠ 2 → st1 r 2 (lwW (12 + (t 2).toNat)) x = r x := fun x hx => st1_n hx
    refine ⟨⟨⟨by rw [e 6 (by decide)]; exact hr.1.1.1, by rw [e 7 (by decide)]; exact hr.1.1.2⟩, fun i hi => by rw [e _ (by omega), e _ (by omega)]; exact hr.1.2 i hi⟩, by rw [e 0 (by decide)]; exact hr.2.1, by rw [e 1 (by decide)]; exact hr.2.2, ?_⟩
    rw [st1_s]
    unfold lwW
    rw [if_pos (by omega)]
    omega))
  have g3 := Gos.one (T := T) (n := n) (G := G) (C := C) (fun P hP => lnNm (l := 1) (k := 3) (R := fun r => Rw0 r ∧ r 0 = t 0 ∧ r 1 = t 1 ∧ r 2 = t 2) (R' := fun r => Rw0 r ∧ r 0 = t 0 ∧ r 1 = t 1 ∧ r 2 = t 2 ∧ r 3 = t 3) (ws := [104, 111, 117, 114, 115]) (vs := [t 3]) (rest := [101, 97, 116] ++ 32 :: nmB [t 4, t 5] (59 :: tl)) hP (by decide) (by decide) (by decide +kernel) (by decide) (by decide) (by decide) (by simp) (mem1 (by omega)) (by rw [lim1.2.1]; exact Int.le_refl _) (by rw [lim1.2.2]; exact Nat.le_refl _) (by simp) (rng1 (by rw [lim1.1.1, lim1.1.2]; exact t3)) (fun h => absurd h (by decide)) (fun r hr => (full 1 (by decide) (by decide) r hr.1.1).resolve_right (by decide)) (hd_w (by decide) (by decide)) (fun h => absurd h (by decide)) (fun h => by omega) (fun h => absurd h (by decide)) (fun h => absurd h (by decide)) (fun r hr => by
    have e : ∀ x : Int, x ≠ 3 → rowL 1 (mnW 3) (fun j => [t 3].getD j 0) [t 3].length r x = r x := fun x hx => by
      show st1 r 3 (t 3) x = _
      rw [st1_n hx]
    refine ⟨⟨⟨by rw [e 6 (by decide)]; exact hr.1.1.1, by rw [e 7 (by decide)]; exact hr.1.1.2⟩, fun i hi => by rw [e _ (by omega), e _ (by omega)]; exact hr.1.2 i hi⟩, by rw [e 0 (by decide)]; exact hr.2.1, by rw [e 1 (by decide)]; exact hr.2.2.1, by rw [e 2 (by decide)]; exact hr.2.2.2, ?_⟩
    show st1 r 3 (t 3) 3 = _
    rw [st1_s]))
  have g4 := Gos.one (T := T) (n := n) (G := G) (C := C) (fun P hP => lnNm (l := 2) (k := 4) (R := fun r => Rw0 r ∧ r 0 = t 0 ∧ r 1 = t 1 ∧ r 2 = t 2 ∧ r 3 = t 3) (R' := RwP t 0) (ws := [101, 97, 116]) (vs := [t 4, t 5]) (rest := tl) hP (by decide) (by decide) (by decide +kernel) (by decide) (by decide) (by decide) (by simp) (mem2 (by omega) (by omega)) (by rw [lim2.2.2.1]; exact Int.le_refl _) (by rw [lim2.2.2.2]; exact Nat.le_refl _) (by simp) (rng2 (by rw [lim2.1.1, lim2.1.2]; exact t4) (by rw [lim2.2.1.1, lim2.2.1.2]; exact t5)) (fun h => absurd h (by decide)) (fun r hr => (full 2 (by decide) (by decide) r hr.1.1).resolve_right (by decide)) hb (fun h => absurd h (by decide)) (fun h => by omega) (fun h => absurd h (by decide)) (fun h => absurd h (by decide)) (fun r hr => by
    have e : ∀ x : Int, x ≠ 4 → x ≠ 5 → rowL 2 (mnW 4) (fun j => [t 4, t 5].getD j 0) [t 4, t 5].length r x = r x := fun x h4 h5 => by
      show st1 (st1 r 4 (t 4)) 5 (t 5) x = _
      rw [st1_n h5, st1_n h4]
    refine ⟨⟨by rw [e 0 (by decide) (by decide)]; exact hr.2.1, by rw [e 1 (by decide) (by decide)]; exact hr.2.2.1, by rw [e 2 (by decide) (by decide)]; exact hr.2.2.2.1, by rw [e 3 (by decide) (by decide)]; exact hr.2.2.2.2, ?_, ?_⟩, ⟨by rw [e 6 (by decide) (by decide)]; exact hr.1.1.1, by rw [e 7 (by decide) (by decide)]; exact hr.1.1.2⟩, fun i hi => absurd hi (Nat.not_lt_zero i), fun i _ hi => by rw [e _ (by omega) (by omega), e _ (by omega) (by omega)]; exact hr.1.2 i hi⟩
    · show st1 (st1 r 4 (t 4)) 5 (t 5) 4 = _
      rw [st1_n (by decide), st1_s]
    · show st1 (st1 r 4 (t 4)) 5 (t 5) 5 = _
      rw [st1_s]))
  exact ((g1.tr g2).tr g3).tr g4
end TWX
