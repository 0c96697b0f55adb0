/-! the twin: two shake hands -/
/-- events ahead of the couple a, b -/
def EvLt (evs : List Ev) (a b : Int) : Prop := ∀ e ∈ evs, e.1 < e.2.1 ∧ (e.1 < a ∨ (e.1 = a ∧ e.2.1 < b))
theorem EvLt.no {evs : List Ev} {a b : Int} (h : EvLt evs a b) (ab : a < b) : metB evs a b = false ∧ metB evs b a = false := by
  have key : ∀ l : List Ev, EvLt l a b → metB l a b = false ∧ metB l b a = false := by
    intro l
    induction l with
    | nil => intro _; exact ⟨rfl, rfl⟩
    | cons e l ih =>
      intro hl
      have h1 := hl e List.mem_cons_self
      have h2 := ih (fun e he => hl e (List.mem_cons_of_mem _ he))
      have e1 : hitE e a b = false := by
        unfold hitE
        by_cases z : e.1 = a
        · rw [decide_eq_true z, decide_eq_false (show ¬ e.2.1 = b by omega), decide_eq_false (show ¬ e.1 = b by omega)]; rfl
        · by_cases w : e.1 = b
          · rw [decide_eq_false z, decide_eq_true w, decide_eq_false (show ¬ e.2.1 = a by omega)]; rfl
          · rw [decide_eq_false z, decide_eq_false w]; rfl
      have e2 : hitE e b a = false := by
        unfold hitE
        by_cases z : e.1 = a
        · rw [decide_eq_true z, decide_eq_false (show ¬ e.2.1 = b by omega), decide_eq_false (show ¬ e.1 = b by omega)]; rfl
        · by_cases w : e.1 = b
          · rw [decide_eq_false z, decide_eq_true w, decide_eq_false (show ¬ e.2.1 = a by omega)]; rfl
          · rw [decide_eq_false z, decide_eq_false w]; rfl
      refine ⟨?_, ?_⟩
      · show (hitE e a b || metB l a b) = false
        rw [e1, h2.1]; rfl
      · show (hitE e b a || metB l b a) = false
        rw [e2, h2.2]; rfl
  exact key evs h
theorem cnt_add {f : Int → Bool} {q : Int} (hf : f q = false) : ∀ n : Nat, 0 ≤ q → q < n → cntN (fun p => f p || decide (p = q)) n = cntN f n + 1
  | 0, h0, h1 => by omega
  | n + 1, h0, h1 => by
    show cntN (fun p => f p || decide (p = q)) n + (if (f n || decide ((n : Int) = q)) = true then 1 else 0) = cntN f n + (if f n = true then 1 else 0) + 1
    by_cases z : q = n
    · subst z
      rw [cntN_congr (f := fun p => f p || decide (p = (n : Int))) (g := f) n (fun p p0 p1 => by show (f p || decide (p = (n : Int))) = f p; rw [decide_eq_false (by omega), Bool.or_false]), hf]
      rw [decide_eq_true rfl, Bool.or_true, if_pos rfl, if_neg (by decide)]
      omega
    · rw [cnt_add hf n h0 (by omega), decide_eq_false (Ne.symm z), Bool.or_false]
      omega
/-- the twin within an hour: hands and their masks as of evt, what went as of evs -/
def MhX (σ0 σ : xS) (P : Int) (h : Int) (hd : Int → Int) (bd : Int → Int) (evs evt cum : List Ev) (pt : Int → Bool) (il : Int × (Int → Bool)) (nw : Int → Bool) : Prop :=
  ((σ 185 h = evt.length ∧ σ 186 h = goneI evs) ∧ Msk 8 (σ 174 36) pt ∧ (Msk 8 (σ 174 37) il.2 ∧ σ 174 40 = il.1) ∧ Msk 8 (σ 174 52) nw) ∧
  (∀ p : Int, 0 ≤ p → p < P → (σ 180 p = bd p ∧ σ 192 p = hd p + cntN (metB evt p) 8) ∧ Msk 8 (σ 194 p) (metB (evt ++ cum) p) ∧ Msk 8 (σ 183 (8 * h + p)) (metB evt p) ∧ σ 184 (8 * h + p) = cameI evs p) ∧
  ((∀ i : Int, i ≠ 36 → i ≠ 37 → i ≠ 40 → i ≠ 52 → σ 174 i = σ0 174 i) ∧ (∀ j : Int, (j < 8 * h ∨ 8 * h + 8 ≤ j) → σ 183 j = σ0 183 j ∧ σ 184 j = σ0 184 j) ∧ (∀ j : Int, j ≠ h → σ 185 j = σ0 185 j ∧ σ 186 j = σ0 186 j) ∧ ∀ o : Nat, o ≠ 174 → o ≠ 180 → o ≠ 183 → o ≠ 184 → o ≠ 185 → o ≠ 186 → o ≠ 192 → o ≠ 194 → σ o = σ0 o)
/-- counting one hand more for both -/
theorem met_cnt {evs : List Ev} {a b x : Int} (h : EvLt evs a b) (a0 : 0 ≤ a) (ab : a < b) (b8 : b < 8) (p : Int) : cntN (metB ((a, b, x) :: evs) p) 8 = cntN (metB evs p) 8 + (if p = a ∨ p = b then 1 else 0) := by
  have hn := h.no ab
  by_cases z : p = a
  · subst z
    rw [if_pos (Or.inl rfl), ← cnt_add (f := metB evs p) hn.1 8 (by omega) b8]
    refine cntN_congr 8 (fun q q0 q1 => ?_)
    rw [metB_cons]
    unfold hitE
    show ((decide (p = p) && decide (b = q)) || (decide (p = q) && decide (b = p)) || metB evs p q) = (metB evs p q || decide (q = b))
    rw [decide_eq_true rfl, decide_eq_false (show ¬ b = p by omega), Bool.and_false, Bool.true_and, Bool.or_false, Bool.or_comm]
    congr 1
    exact decide_eq_decide.mpr ⟨Eq.symm, Eq.symm⟩
  · by_cases w : p = b
    · subst w
      rw [if_pos (Or.inr rfl), ← cnt_add (f := metB evs p) hn.2 8 a0 (by omega)]
      refine cntN_congr 8 (fun q q0 q1 => ?_)
      rw [metB_cons]
      unfold hitE
      show ((decide (a = p) && decide (p = q)) || (decide (a = q) && decide (p = p)) || metB evs p q) = (metB evs p q || decide (q = a))
      rw [decide_eq_true (Eq.refl p), decide_eq_false (show ¬ a = p by omega), Bool.and_true, Bool.false_and, Bool.false_or, Bool.or_comm]
      congr 1
      exact decide_eq_decide.mpr ⟨Eq.symm, Eq.symm⟩
    · rw [if_neg (by omega), Int.add_zero]
      refine cntN_congr 8 (fun q q0 q1 => ?_)
      rw [metB_cons]
      unfold hitE
      show ((decide (a = p) && decide (b = q)) || (decide (a = q) && decide (b = p)) || metB evs p q) = metB evs p q
      rw [decide_eq_false (Ne.symm z), decide_eq_false (Ne.symm w), Bool.false_and, Bool.and_false, Bool.or_false, Bool.false_or]
/-- a couple's bit in its mask -/
theorem met_msk {evs : List Ev} {a b x m p : Int} (hm : Msk 8 m (metB evs p)) (a0 : 0 ≤ a) (ab : a < b) (b8 : b < 8) : (p = a → Msk 8 (ior m (ishl 1 b)) (metB ((a, b, x) :: evs) p)) ∧ (p = b → Msk 8 (ior m (ishl 1 a)) (metB ((a, b, x) :: evs) p)) ∧ (p ≠ a → p ≠ b → Msk 8 m (metB ((a, b, x) :: evs) p)) := by
  refine ⟨fun z => ?_, fun z => ?_, fun z w => ?_⟩
  · subst z
    refine (hm.orone (q := b) (by omega) b8).congr (fun q q0 q1 => ?_)
    rw [metB_cons]
    unfold hitE
    show (metB evs p q || decide (q = b)) = ((decide (p = p) && decide (b = q)) || (decide (p = q) && decide (b = p)) || metB evs p q)
    rw [decide_eq_true (Eq.refl p), decide_eq_false (show ¬ b = p by omega), Bool.and_false, Bool.true_and, Bool.or_false, Bool.or_comm]
    congr 1
    exact decide_eq_decide.mpr ⟨Eq.symm, Eq.symm⟩
  · subst z
    refine (hm.orone (q := a) a0 (by omega)).congr (fun q q0 q1 => ?_)
    rw [metB_cons]
    unfold hitE
    show (metB evs p q || decide (q = a)) = ((decide (a = p) && decide (p = q)) || (decide (a = q) && decide (p = p)) || metB evs p q)
    rw [decide_eq_true (Eq.refl p), decide_eq_false (show ¬ a = p by omega), Bool.and_true, Bool.false_and, Bool.false_or, Bool.or_comm]
    congr 1
    exact decide_eq_decide.mpr ⟨Eq.symm, Eq.symm⟩
  · refine hm.congr (fun q q0 q1 => ?_)
    rw [metB_cons]
    unfold hitE
    show metB evs p q = ((decide (a = p) && decide (b = q)) || (decide (a = q) && decide (b = p)) || metB evs p q)
    rw [decide_eq_false (Ne.symm z), decide_eq_false (Ne.symm w), Bool.false_and, Bool.and_false, Bool.or_false, Bool.false_or]
