/-! fevers, news, lots: who is reached -/
theorem rch_c (gl : Int → Bool) (fr : Int) (e : Ev) (l : List Ev) : rch gl fr (e :: l) = rchE gl e (rch gl fr l) := rfl
theorem rchE_up (gl : Int → Bool) (e : Ev) (hv : Int → Bool) {q : Int} (h : hv q = true) : rchE gl e hv q = true := by
  unfold rchE
  split
  · show (hv q || _) = true
    rw [h, Bool.true_or]
  · exact h
theorem rch_app (gl : Int → Bool) (fr : Int) (l : List Ev) {q : Int} (h : rch gl fr l q = true) : ∀ l2 : List Ev, rch gl fr (l2 ++ l) q = true
  | [] => h
  | e :: l2 => rchE_up gl e _ (rch_app gl fr l h l2)
theorem rch_lgs {C : Cf} {gl : Int → Bool} {fr q : Int} {n : Nat} (h : rch gl fr (lgs C 0 n) q = true) : ∀ d : Nat, rch gl fr (lgs C 0 (n + d)) q = true
  | 0 => h
  | d + 1 => by
    rw [show n + (d + 1) = n + d + 1 by omega, lgs_0s]
    exact rch_app gl fr _ (rch_lgs h d) _
theorem rchE_no {gl : Int → Bool} {e : Ev} {hv hv' : Int → Bool} (hs : ∀ q : Int, hv q = true → hv' q = true) {q : Int} (h : rchE gl e hv q = true) : rchE (fun _ => false) e hv' q = true := by
  unfold rchE at h ⊢
  split at h
  · rename_i w
    rw [if_pos ⟨rfl, rfl, w.2.2.imp (hs _) (hs _)⟩]
    show (hv' q || _) = true
    rcases Bool.or_eq_true _ _ ▸ h with h1 | h1
    · rw [hs q h1, Bool.true_or]
    · rw [h1, Bool.or_true]
  · have h2 := hs q h
    split
    · show (hv' q || _) = true
      rw [h2, Bool.true_or]
    · exact h2
theorem rch_no {gl : Int → Bool} {fr : Int} : ∀ (l : List Ev) {q : Int}, rch gl fr l q = true → rch (fun _ => false) fr l q = true
  | [], q, h => h
  | e :: l, q, h => by
    rw [rch_c] at h ⊢
    exact rchE_no (fun q hq => rch_no l hq) h
/-- who is reached, and didn't begin, shook hands -/
theorem rch_hand {gl : Int → Bool} {fr : Int} : ∀ (l : List Ev) {q : Int}, q ≠ fr → rch gl fr l q = true → ∃ e ∈ l, e.1 = q ∨ e.2.1 = q
  | [], q, hq, h => absurd (of_decide_eq_true h) hq
  | e :: l, q, hq, h => by
    rw [rch_c] at h
    unfold rchE at h
    split at h
    · rcases Bool.or_eq_true _ _ ▸ h with h1 | h1
      · obtain ⟨e', m, hh⟩ := rch_hand l hq h1
        exact ⟨e', List.mem_cons_of_mem _ m, hh⟩
      · refine ⟨e, List.mem_cons_self, ?_⟩
        rcases Bool.or_eq_true _ _ ▸ h1 with h2 | h2
        · left; exact (of_decide_eq_true h2).symm
        · right; exact (of_decide_eq_true h2).symm
    · obtain ⟨e', m, hh⟩ := rch_hand l hq h
      exact ⟨e', List.mem_cons_of_mem _ m, hh⟩
theorem lgs_in {C : Cf} : ∀ (n : Nat) {e : Ev}, e ∈ lgs C 0 n → ∃ h : Nat, h < n ∧ e ∈ hev C h
  | 0, e, h => absurd h List.not_mem_nil
  | n + 1, e, h => by
    rw [lgs_0s] at h
    rcases List.mem_append.mp h with h | h
    · exact ⟨n, by omega, h⟩
    · obtain ⟨m, h1, h2⟩ := lgs_in n h
      exact ⟨m, by omega, h2⟩
theorem cntN_pos {f : Int → Bool} {q : Int} (q0 : 0 ≤ q) (hf : f q = true) : ∀ n : Nat, q < n → 1 ≤ cntN f n
  | 0, h => by omega
  | n + 1, h => by
    simp only [cntN]
    have := cntN_bd f n
    by_cases z : q = n
    · rw [if_pos (by rw [← z]; exact hf)]; omega
    · have := cntN_pos q0 hf n (by omega)
      split <;> omega
theorem sumN_pos {f : Nat → Int} (h0 : ∀ i : Nat, 0 ≤ f i) : ∀ (n : Nat) {i : Nat}, i < n → f i ≤ sumN f n ∧ 0 ≤ sumN f n
  | 0, i, h => absurd h (Nat.not_lt_zero i)
  | n + 1, i, h => by
    simp only [sumN]
    have hn := h0 n
    have hs : 0 ≤ sumN f n := by
      cases n with
      | zero => exact Int.le_refl 0
      | succ m => exact (sumN_pos h0 (m + 1) (i := 0) (by omega)).2
    by_cases z : i = n
    · subst z; omega
    · have := (sumN_pos h0 n (i := i) (by omega)).1
      omega
/-- who is ill, and wasn't at first, shook a hand -/
theorem ill_shook {C : Cf} (hC : CfOk C) {gl : Int → Bool} {fr q : Int} {N : Nat} (hq : q ≠ fr) (h : rch gl fr (lgs C 0 N) q = true) : 1 ≤ sumN (shN C q) N := by
  obtain ⟨e, he, hh⟩ := rch_hand _ hq h
  obtain ⟨m, hm, hem⟩ := lgs_in N he
  have ho := (hmi_ok hC m).2.1 e hem
  unfold EvOk at ho
  have h8 := hC.2.1
  have h1 : 1 ≤ shN C q m := by
    unfold shN
    rcases hh with hh | hh
    · refine cntN_pos (q := e.2.1) (by omega) ?_ 8 (by omega)
      exact List.any_eq_true.mpr ⟨e, hem, by unfold hitE; simp [hh]⟩
    · refine cntN_pos (q := e.1) (by omega) ?_ 8 (by omega)
      exact List.any_eq_true.mpr ⟨e, hem, by unfold hitE; simp [hh]⟩
  have h2 := (sumN_pos (f := shN C q) (fun i => (cntN_bd _ 8).1) N hm).1
  omega
/-- a first hour, and what holds at the end -/
theorem first_end {bad : Nat → Prop} {N : Nat} {v : Int} (h : FirstH bad N v) (hm : ∀ n m : Nat, n ≤ m → m < N → bad n → bad m) (N0 : 0 < N) : 0 ≤ v ↔ bad (N - 1) := by
  rcases h with ⟨h1, h2⟩ | ⟨n, h1, h2, h3, -⟩
  · exact ⟨fun w => by omega, fun w => absurd w (h2 (N - 1) (by omega))⟩
  · exact ⟨fun _ => hm n (N - 1) (by omega) (by omega) h3, fun _ => by omega⟩
theorem first_le {bad bad' : Nat → Prop} {N : Nat} {v w : Int} (hv : FirstH bad N v) (hw : FirstH bad' N w) (h : ∀ n : Nat, bad n → bad' n) (v0 : 0 ≤ v) : 0 ≤ w ∧ w ≤ v := by
  rcases hv with ⟨h1, -⟩ | ⟨n, h1, h2, h3, -⟩
  · omega
  · rcases hw with ⟨g1, g2⟩ | ⟨m, g1, g2, g3, g4⟩
    · exact absurd (h n h3) (g2 n h1)
    · refine ⟨by omega, ?_⟩
      by_cases z : n < m
      · exact absurd (h n h3) (g4 n z)
      · omega
theorem lot_c (gl : Int → Bool) (kc fr x0 : Int) (e : Ev) (l : List Ev) : lot gl kc fr x0 (e :: l) = lotE gl kc e (lot gl kc fr x0 l) := rfl
theorem drw_9 (x : Int) : drw x < 10 := by
  unfold drw
  have := iushr_16 x
  omega
theorem lot_10 {gl : Int → Bool} {fr x0 : Int} : ∀ l : List Ev, (lot gl 10 fr x0 l).2 = rch gl fr l
  | [] => rfl
  | e :: l => by
    have ih := lot_10 (gl := gl) (fr := fr) (x0 := x0) l
    rw [lot_c, rch_c]
    unfold lotE rchE
    rw [← ih]
    generalize lot gl 10 fr x0 l = s
    by_cases z : gl e.1 = false ∧ gl e.2.1 = false ∧ s.2 e.1 ≠ s.2 e.2.1
    · rw [if_pos z]
      show (if drw (nxt1 s.1) < 10 then _ else _) = _
      have ho : s.2 e.1 = true ∨ s.2 e.2.1 = true := by
        cases h1 : s.2 e.1 with
        | true => exact Or.inl rfl
        | false =>
          cases h2 : s.2 e.2.1 with
          | true => exact Or.inr rfl
          | false => rw [h1, h2] at z; exact absurd rfl z.2.2
      rw [if_pos (drw_9 _), if_pos ⟨z.1, z.2.1, ho⟩]
    · rw [if_neg z]
      by_cases y : gl e.1 = false ∧ gl e.2.1 = false ∧ (s.2 e.1 = true ∨ s.2 e.2.1 = true)
      · rw [if_pos y]
        funext q
        show s.2 q = (s.2 q || (decide (q = e.1) || decide (q = e.2.1)))
        have hb : s.2 e.1 = true ∧ s.2 e.2.1 = true := by
          have hz : s.2 e.1 = s.2 e.2.1 := by
            cases h1 : s.2 e.1 with
            | true =>
              cases h2 : s.2 e.2.1 with
              | true => rfl
              | false => exact absurd ⟨y.1, y.2.1, by rw [h1, h2]; decide⟩ z
            | false =>
              cases h2 : s.2 e.2.1 with
              | true => exact absurd ⟨y.1, y.2.1, by rw [h1, h2]; decide⟩ z
              | false => rfl
          rcases y.2.2 with h | h
          · exact ⟨h, by rw [← hz]; exact h⟩
          · exact ⟨by rw [hz]; exact h, h⟩
        by_cases x1 : q = e.1
        · rw [x1, hb.1, Bool.true_or]
        · by_cases x2 : q = e.2.1
          · rw [x2, hb.2, Bool.true_or]
          · rw [decide_eq_false x1, decide_eq_false x2, Bool.or_false, Bool.or_false]
      · rw [if_neg y]
theorem lot_sub {gl : Int → Bool} {kc fr x0 : Int} : ∀ (l : List Ev) {q : Int}, (lot gl kc fr x0 l).2 q = true → rch gl fr l q = true
  | [], q, h => h
  | e :: l, q, h => by
    have ih := fun {q : Int} => lot_sub (gl := gl) (kc := kc) (fr := fr) (x0 := x0) l (q := q)
    rw [lot_c] at h
    rw [rch_c]
    generalize lot gl kc fr x0 l = s at h ih
    unfold lotE at h
    by_cases z : gl e.1 = false ∧ gl e.2.1 = false ∧ s.2 e.1 ≠ s.2 e.2.1
    · rw [if_pos z] at h
      have h1 : (if drw (nxt1 s.1) < kc then (fun p => s.2 p || (decide (p = e.1) || decide (p = e.2.1))) else s.2) q = true := h
      split at h1
      · have ho : rch gl fr l e.1 = true ∨ rch gl fr l e.2.1 = true := by
          cases h3 : s.2 e.1 with
          | true => exact Or.inl (ih h3)
          | false =>
            cases h4 : s.2 e.2.1 with
            | true => exact Or.inr (ih h4)
            | false => rw [h3, h4] at z; exact absurd rfl z.2.2
        unfold rchE
        rw [if_pos ⟨z.1, z.2.1, ho⟩]
        show (rch gl fr l q || (decide (q = e.1) || decide (q = e.2.1))) = true
        rcases Bool.or_eq_true _ _ ▸ h1 with h2 | h2
        · rw [ih h2, Bool.true_or]
        · rw [h2, Bool.or_true]
      · exact rchE_up gl e _ (ih h1)
    · rw [if_neg z] at h
      exact rchE_up gl e _ (ih h)
/-- a painted ounce is where bread is -/
theorem pnt_br {C : Cf} {s0 : Int → Bool} {n : Nat} {q : Int} (h : pnt C s0 (n + 1) q = true) : 1 ≤ (rst C (n + 1)).1 q := by
  have h1 : (_ && !decide ((rst C (n + 1)).1 q < 1)) = true := h
  have h2 := (Bool.and_eq_true _ _ ▸ h1).2
  have h3 : decide ((rst C (n + 1)).1 q < 1) = false := by simpa using h2
  have := of_decide_eq_false h3
  omega
theorem amx_ge (f : Nat → Int) : ∀ (n m : Nat), m ≤ n → f m ≤ f (amx f n)
  | 0, m, h => by
    have : m = 0 := by omega
    subst this
    exact Int.le_refl _
  | n + 1, m, h => by
    have ih := amx_ge f n
    simp only [amx]
    by_cases z : f (amx f n) < f (n + 1)
    · rw [if_pos z]
      by_cases y : m = n + 1
      · subst y; exact Int.le_refl _
      · have := ih m (by omega)
        omega
    · rw [if_neg z]
      by_cases y : m = n + 1
      · subst y; omega
      · exact ih m (by omega)
/-! the best of what was tried -/
theorem bcnt_nn {n : Nat} (h : n < 256) : 0 ≤ bcnt n := by
  rw [bcnt_8 n h]
  exact (cntN_bd _ 8).1
theorem fewB_no {ok : Nat → Bool} : ∀ n : Nat, fewB ok n = -1 → ∀ i : Nat, i < n → ok i = false
  | 0, _, i, h => absurd h (Nat.not_lt_zero i)
  | n + 1, h, i, hi => by
    simp only [fewB] at h
    have h2 : fewB ok n = -1 ∧ ok n = false := by
      split at h
      · omega
      · rename_i w
        refine ⟨h, ?_⟩
        cases z : ok n with
        | false => rfl
        | true => exact absurd ⟨Or.inl h, z⟩ w
    by_cases y : i = n
    · subst y; exact h2.2
    · exact fewB_no n h2.1 i (by omega)
theorem fewB_yes {ok : Nat → Bool} : ∀ n : Nat, fewB ok n ≠ -1 → ok (fewB ok n).toNat = true
  | 0, h => absurd rfl h
  | n + 1, h => by
    simp only [fewB] at h ⊢
    split
    · rename_i w
      rw [Int.toNat_natCast]
      exact w.2
    · rename_i w
      rw [if_neg w] at h
      exact fewB_yes n h
theorem fewB_0 {ok : Nat → Bool} (h : ok 0 = true) : ∀ n : Nat, n < 257 → 1 ≤ n → fewB ok n = 0
  | 0, _, h0 => absurd h0 (by decide)
  | 1, _, _ => by
    simp only [fewB]
    rw [if_pos ⟨Or.inl trivial, h⟩]
    rfl
  | n + 2, hn, _ => by
    have ih := fewB_0 h (n + 1) (by omega) (by omega)
    have h1 := bcnt_nn (n := n + 1) (by omega)
    show (if (fewB ok (n + 1) = -1 ∨ bcnt ((n + 1 : Nat) : Int) < bcnt (fewB ok (n + 1))) ∧ ok (n + 1) = true then ((n + 1 : Nat) : Int) else fewB ok (n + 1)) = 0
    rw [ih, if_neg]
    intro w
    rcases w.1 with w | w
    · omega
    · have e0 : bcnt 0 = 0 := by decide +kernel
      rw [e0] at w
      omega
theorem scanMin_le (f : Nat → Int) : ∀ (n : Nat) {i : Nat}, i < n → (scanMin f n).1 ≠ -1 ∧ (scanMin f n).2 ≤ f i
  | 0, i, h => absurd h (Nat.not_lt_zero i)
  | n + 1, i, h => by
    have hin := scanMin_in f n
    simp only [scanMin]
    split
    · rename_i w
      refine ⟨by show (n : Int) ≠ -1; omega, ?_⟩
      show f n ≤ f i
      by_cases z : i = n
      · subst z; exact Int.le_refl _
      · have := scanMin_le f n (i := i) (by omega)
        rcases w with w | w
        · exact absurd w this.1
        · omega
    · rename_i w
      by_cases z : i = n
      · subst z
        refine ⟨fun q => w (Or.inl q), ?_⟩
        by_cases y : f i < (scanMin f i).2
        · exact absurd (Or.inr y) w
        · omega
      · exact scanMin_le f n (by omega)
theorem scanTop_0 (f : Nat → Int) : ∀ n : Nat, 0 ≤ (scanTop f n).2
  | 0 => Int.le_refl 0
  | n + 1 => by
    have := scanTop_0 f n
    simp only [scanTop]
    split
    · show 0 ≤ f n
      omega
    · exact this
theorem ordN_lt (f : Nat → Int) (s0 : Int) : ∀ n : Nat, (ordN f s0 n).2 ≤ s0 ∧ ((ordN f s0 n).1 ≠ -1 → (ordN f s0 n).2 < s0)
  | 0 => ⟨Int.le_refl _, fun h => absurd rfl h⟩
  | n + 1 => by
    have := ordN_lt f s0 n
    simp only [ordN]
    split
    · exact ⟨by show f n ≤ s0; omega, fun _ => by show f n < s0; omega⟩
    · exact this
