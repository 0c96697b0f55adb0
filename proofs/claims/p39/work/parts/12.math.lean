/-! A RUN, as the document has it, over whole numbers: what both sides are held to -/
abbrev Ev : Type := Int × Int × Int
abbrev Cf : Type := (Int → Int) × (Int → Bool) × (Int → Int → Bool) × (Int → Int → Bool) × (Int → Int → Int) × (Int → Int)
/-- numbers: 0 people, 1 hours, 2 law, 3 need, 4 every, 5 the loaf's one, 6 its hour, 7 its ounces -/
def cS (C : Cf) : Int → Int := C.1
def cGl (C : Cf) : Int → Bool := C.2.1
def cGr (C : Cf) : Int → Int → Bool := C.2.2.1
def cOp (C : Cf) : Int → Int → Bool := C.2.2.2.1
def cWh (C : Cf) : Int → Int → Int := C.2.2.2.2.1
def cSt (C : Cf) : Int → Int := C.2.2.2.2.2
/-- who gives by the law, empty hands and gloves not looked at -/
def gv0 (C : Cf) (bd : Int → Int) (a b : Int) : Int :=
  if cS C 2 = 0 ∨ cS C 2 = 2 then (if bd a = bd b then -1 else if decide (bd b < bd a) = decide (cS C 2 = 0) then a else b)
  else if cGr C a b = decide (cS C 2 = 1) then a else b
def gvr (C : Cf) (bd : Int → Int) (a b : Int) : Int :=
  if gv0 C bd a b = -1 then -1 else if bd (gv0 C bd a b) < 1 then -1 else if cGl C (gv0 C bd a b) = true then -1 else gv0 C bd a b
def mvb (bd : Int → Int) (a b x : Int) : Int → Int := if x = -1 then bd else fun p => if p = x then bd p - 1 else if p = a + b - x then bd p + 1 else bd p
def shk (C : Cf) (h : Int) (al : Int → Bool) (a b : Int) : Bool := al a && al b && cOp C a b && decide (cWh C h a = cWh C h b)
abbrev Hs : Type := (Int → Int) × List Ev
def stp (C : Cf) (h : Int) (al : Int → Bool) (a b : Int) (s : Hs) : Hs := if shk C h al a b = true then (mvb s.1 a b (gvr C s.1 a b), (a, b, gvr C s.1 a b) :: s.2) else s
def inn (f : Int → Hs → Hs) : Nat → Int → Hs → Hs
  | 0, _, s => s
  | n + 1, b, s => inn f n (b + 1) (f b s)
def outr (C : Cf) (h : Int) (al : Int → Bool) : Nat → Int → Hs → Hs
  | 0, _, s => s
  | n + 1, a, s => outr C h al n (a + 1) (inn (stp C h al a) (cS C 0 - (a + 1)).toNat (a + 1) s)
def hsh (C : Cf) (h : Int) (al : Int → Bool) (bd : Int → Int) : Hs := outr C h al (cS C 0).toNat 0 (bd, [])
def eats (C : Cf) (h : Int) : Bool := decide ((h + 1) % cS C 4 = 0)
def eatB (C : Cf) (bd : Int → Int) (al : Int → Bool) : Int → Int := fun p => if al p = true ∧ cS C 3 ≤ bd p then bd p - cS C 3 else bd p
def eatA (C : Cf) (bd : Int → Int) (al : Int → Bool) : Int → Bool := fun p => al p && decide (cS C 3 ≤ bd p)
def lof (C : Cf) (h : Int) (bd : Int → Int) : Int → Int := if h = cS C 6 ∧ 0 ≤ cS C 5 ∧ cS C 5 < cS C 0 then (fun p => if p = cS C 5 then bd p + cS C 7 else bd p) else bd
abbrev Rs : Type := (Int → Int) × (Int → Bool)
def hst (C : Cf) (h : Int) (s : Rs) : Rs :=
  (if eats C h = true then eatB C (hsh C h s.2 (lof C h s.1)).1 s.2 else (hsh C h s.2 (lof C h s.1)).1,
   if eats C h = true then eatA C (hsh C h s.2 (lof C h s.1)).1 s.2 else s.2)
/-- bread and who lives ahead of hour n -/
def rst (C : Cf) : Nat → Rs
  | 0 => (cSt C, fun p => decide (0 ≤ p ∧ p < cS C 0))
  | n + 1 => hst C n (rst C n)
/-- bread and hands of hour n, ahead of the meal -/
def hmi (C : Cf) (n : Nat) : Hs := hsh C n (rst C n).2 (lof C n (rst C n).1)
def hev (C : Cf) (n : Nat) : List Ev := (hmi C n).2
/-- all hands from hour f on, the latest first -/
def lgs (C : Cf) (f : Nat) : Nat → List Ev
  | 0 => []
  | n + 1 => if n < f then [] else hev C n ++ lgs C f n
def hitE (e : Ev) (p q : Int) : Bool := (decide (e.1 = p) && decide (e.2.1 = q)) || (decide (e.1 = q) && decide (e.2.1 = p))
def metB (evs : List Ev) (p q : Int) : Bool := evs.any (fun e => hitE e p q)
def cmE (e : Ev) (p : Int) : Int := if e.2.2 = -1 then 0 else if p = e.2.2 then -1 else if p = e.1 + e.2.1 - e.2.2 then 1 else 0
def cameI (evs : List Ev) (p : Int) : Int := evs.foldr (fun e n => cmE e p + n) 0
def goneI (evs : List Ev) : Int := evs.foldr (fun e n => (if e.2.2 = -1 then 0 else 1) + n) 0
def EvOk (P : Int) (e : Ev) : Prop := 0 ≤ e.1 ∧ e.1 < e.2.1 ∧ e.2.1 < P ∧ (e.2.2 = -1 ∨ e.2.2 = e.1 ∨ e.2.2 = e.2.1)
def EvsOk (P : Int) (l : List Ev) : Prop := ∀ e ∈ l, EvOk P e
/-- all bread -/
def tot (bd : Int → Int) : Nat → Int
  | 0 => 0
  | n + 1 => tot bd n + bd n
theorem gv0_in (C : Cf) (bd : Int → Int) (a b : Int) : gv0 C bd a b = -1 ∨ gv0 C bd a b = a ∨ gv0 C bd a b = b := by
  unfold gv0
  split
  · split
    · exact Or.inl rfl
    · split
      · exact Or.inr (Or.inl rfl)
      · exact Or.inr (Or.inr rfl)
  · split
    · exact Or.inr (Or.inl rfl)
    · exact Or.inr (Or.inr rfl)
theorem gvr_in (C : Cf) (bd : Int → Int) (a b : Int) : gvr C bd a b = -1 ∨ ((gvr C bd a b = a ∨ gvr C bd a b = b) ∧ 1 ≤ bd (gvr C bd a b) ∧ gvr C bd a b ≠ -1) := by
  unfold gvr
  rcases gv0_in C bd a b with h | h
  · rw [if_pos h]; exact Or.inl rfl
  · by_cases h1 : gv0 C bd a b = -1
    · rw [if_pos h1]; exact Or.inl rfl
    · rw [if_neg h1]
      by_cases h2 : bd (gv0 C bd a b) < 1
      · rw [if_pos h2]; exact Or.inl rfl
      · rw [if_neg h2]
        by_cases h3 : cGl C (gv0 C bd a b) = true
        · rw [if_pos h3]; exact Or.inl rfl
        · rw [if_neg h3]; exact Or.inr ⟨h, by omega, h1⟩
theorem tot_congr {f g : Int → Int} : ∀ n : Nat, (∀ p : Int, 0 ≤ p → p < n → f p = g p) → tot f n = tot g n
  | 0, _ => rfl
  | n + 1, h => by
    simp only [tot]
    rw [tot_congr n (fun p h0 h1 => h p h0 (by omega)), h n (by omega) (by omega)]
theorem tot_up {f : Int → Int} {x d : Int} : ∀ n : Nat, 0 ≤ x → x < n → tot (fun p => if p = x then f p + d else f p) n = tot f n + d
  | 0, h0, h1 => by omega
  | n + 1, h0, h1 => by
    simp only [tot]
    by_cases h : x = n
    · rw [if_pos h.symm, tot_congr (g := f) n (fun p h2 h3 => by rw [if_neg (by omega)])]
      omega
    · rw [if_neg (Ne.symm h), tot_up n h0 (by omega)]
      omega
theorem tot_le {f : Int → Int} : ∀ n : Nat, (∀ p : Int, 0 ≤ p → p < n → 0 ≤ f p) → 0 ≤ tot f n ∧ ∀ p : Int, 0 ≤ p → p < n → f p ≤ tot f n
  | 0, _ => ⟨by simp [tot], fun p h0 h1 => by omega⟩
  | n + 1, h => by
    obtain ⟨h2, h3⟩ := tot_le n (fun p h0 h1 => h p h0 (by omega))
    have h4 := h n (by omega) (by omega)
    refine ⟨by simp only [tot]; omega, fun p h0 h1 => ?_⟩
    simp only [tot]
    by_cases h5 : p = n
    · subst h5; omega
    · have := h3 p h0 (by omega); omega
theorem tot_mono {f g : Int → Int} : ∀ n : Nat, (∀ p : Int, 0 ≤ p → p < n → f p ≤ g p) → tot f n ≤ tot g n
  | 0, _ => by simp [tot]
  | n + 1, h => by
    simp only [tot]
    have := tot_mono n (fun p h0 h1 => h p h0 (by omega))
    have := h n (by omega) (by omega)
    omega
theorem mvb_tot {bd : Int → Int} {a b x : Int} {n : Nat} (ha : 0 ≤ a) (hab : a < b) (hb : b < n) (hx : x = -1 ∨ x = a ∨ x = b) : tot (mvb bd a b x) n = tot bd n := by
  unfold mvb
  by_cases h : x = -1
  · rw [if_pos h]
  · rw [if_neg h]
    have e : (fun p => if p = x then bd p - 1 else if p = a + b - x then bd p + 1 else bd p) = (fun p => if p = a + b - x then (fun p => if p = x then bd p + (-1) else bd p) p + 1 else (fun p => if p = x then bd p + (-1) else bd p) p) := by
      funext p
      by_cases h1 : p = x
      · rw [if_pos h1, if_neg (by omega)]
        show _ = (if p = x then bd p + (-1) else bd p)
        rw [if_pos h1]
        omega
      · rw [if_neg h1]
        by_cases h2 : p = a + b - x
        · rw [if_pos h2, if_pos h2]
          show _ = (if p = x then bd p + (-1) else bd p) + 1
          rw [if_neg h1]
        · rw [if_neg h2, if_neg h2]
          show _ = (if p = x then bd p + (-1) else bd p)
          rw [if_neg h1]
    rw [e, tot_up n (by omega) (by omega), tot_up n (by omega) (by omega)]
    omega
/-- what holds of bread all the time -/
def BdOk (P : Int) (T : Int) (bd : Int → Int) : Prop := (∀ p : Int, 0 ≤ p → p < P → 0 ≤ bd p) ∧ tot bd P.toNat ≤ T
theorem BdOk.le {P T : Int} {bd : Int → Int} (h : BdOk P T bd) {p : Int} (h0 : 0 ≤ p) (h1 : p < P) : 0 ≤ bd p ∧ bd p ≤ T := by
  have h2 := (tot_le (f := bd) P.toNat (fun p h0 h1 => h.1 p h0 (by omega))).2 p h0 (by omega)
  have := h.2
  exact ⟨h.1 p h0 h1, by omega⟩
theorem BdOk.mv {P T : Int} {bd : Int → Int} {C : Cf} {a b : Int} (h : BdOk P T bd) (ha : 0 ≤ a) (hab : a < b) (hb : b < P) : BdOk P T (mvb bd a b (gvr C bd a b)) := by
  have hin := gvr_in C bd a b
  refine ⟨fun p h0 h1 => ?_, ?_⟩
  · have h2 := h.1 p h0 h1
    unfold mvb
    split
    · exact h2
    · rename_i hx
      rcases hin with h3 | ⟨h3, h4, -⟩
      · exact absurd h3 hx
      · show 0 ≤ (if p = gvr C bd a b then bd p - 1 else if p = a + b - gvr C bd a b then bd p + 1 else bd p)
        split
        · rename_i h5
          rw [← h5] at h4
          omega
        · split <;> omega
  · rw [mvb_tot ha hab (by omega) (by rcases hin with h3 | ⟨h3, -⟩ <;> omega)]
    exact h.2
theorem stp_ok {C : Cf} {h : Int} {al : Int → Bool} {a b T : Int} {s : Hs} (hb : BdOk (cS C 0) T s.1) (he : EvsOk (cS C 0) s.2) (h0 : 0 ≤ a) (h1 : a < b) (h2 : b < cS C 0) :
    BdOk (cS C 0) T (stp C h al a b s).1 ∧ EvsOk (cS C 0) (stp C h al a b s).2 ∧ (stp C h al a b s).2.length ≤ s.2.length + 1 := by
  unfold stp
  split
  · refine ⟨hb.mv h0 h1 h2, fun e hm => ?_, by simp⟩
    rcases List.mem_cons.mp hm with rfl | hm
    · refine ⟨h0, h1, h2, ?_⟩
      rcases gvr_in C s.1 a b with h3 | ⟨h3 | h3, -⟩
      · exact Or.inl h3
      · exact Or.inr (Or.inl h3)
      · exact Or.inr (Or.inr h3)
    · exact he e hm
  · exact ⟨hb, he, by omega⟩
theorem inn_ok {C : Cf} {h : Int} {al : Int → Bool} {a T : Int} (h0 : 0 ≤ a) : ∀ (n : Nat) (b : Int) (s : Hs), a < b → b + n ≤ cS C 0 → BdOk (cS C 0) T s.1 → EvsOk (cS C 0) s.2 →
    BdOk (cS C 0) T (inn (stp C h al a) n b s).1 ∧ EvsOk (cS C 0) (inn (stp C h al a) n b s).2 ∧ (inn (stp C h al a) n b s).2.length ≤ s.2.length + n
  | 0, b, s, h1, h2, hb, he => ⟨hb, he, by simp [inn]⟩
  | n + 1, b, s, h1, h2, hb, he => by
    obtain ⟨g1, g2, g3⟩ := stp_ok (h := h) (al := al) hb he h0 h1 (by omega)
    obtain ⟨k1, k2, k3⟩ := inn_ok h0 n (b + 1) _ (by omega) (by omega) g1 g2
    exact ⟨k1, k2, by simp only [inn]; omega⟩
/-- how many couples have a first one below n, of eight -/
def pbN : Nat → Nat
  | 0 => 0
  | n + 1 => pbN n + (7 - n)
theorem pbN_8 : ∀ n : Nat, n ≤ 8 → pbN n ≤ 28 := by decide
theorem outr_ok {C : Cf} {h : Int} {al : Int → Bool} {T : Int} (hP : cS C 0 ≤ 8) : ∀ (n k : Nat) (s : Hs), (k : Int) + n = cS C 0 → BdOk (cS C 0) T s.1 → EvsOk (cS C 0) s.2 → s.2.length ≤ pbN k →
    BdOk (cS C 0) T (outr C h al n k s).1 ∧ EvsOk (cS C 0) (outr C h al n k s).2 ∧ (outr C h al n k s).2.length ≤ pbN (k + n)
  | 0, k, s, h1, hb, he, hl => ⟨hb, he, hl⟩
  | n + 1, k, s, h1, hb, he, hl => by
    obtain ⟨g1, g2, g3⟩ := inn_ok (h := h) (al := al) (a := (k : Int)) (by omega) (cS C 0 - (k + 1)).toNat (k + 1) s (by omega) (by omega) hb he
    have hl2 : (inn (stp C h al k) (cS C 0 - (k + 1)).toNat (k + 1) s).2.length ≤ pbN (k + 1) := by
      simp only [pbN]
      omega
    have := outr_ok (h := h) (al := al) hP n (k + 1) _ (by omega) g1 g2 hl2
    simp only [outr]
    rw [show (k : Int) + 1 = ((k + 1 : Nat) : Int) by omega]
    rw [show (k : Int) + 1 = ((k + 1 : Nat) : Int) by omega] at this
    rw [show k + (n + 1) = k + 1 + n by omega]
    exact this
/-- a config that can be -/
def CfOk (C : Cf) : Prop := 0 ≤ cS C 0 ∧ cS C 0 ≤ 8 ∧ 1 ≤ cS C 1 ∧ cS C 1 ≤ 24 ∧ 0 ≤ cS C 3 ∧ cS C 3 ≤ 9 ∧ 1 ≤ cS C 4 ∧ cS C 4 ≤ 24 ∧ 0 ≤ cS C 2 ∧ cS C 2 ≤ 3 ∧ 0 ≤ cS C 7 ∧ cS C 7 ≤ 30 ∧ ∀ p : Int, 0 ≤ p → p < cS C 0 → 0 ≤ cSt C p ∧ cSt C p ≤ 33
def loafed (C : Cf) (n : Nat) : Int := if cS C 6 < n then cS C 7 else 0
theorem hsh_ok {C : Cf} {h : Int} {al : Int → Bool} {T : Int} {bd : Int → Int} (h0 : 0 ≤ cS C 0) (hP : cS C 0 ≤ 8) (hb : BdOk (cS C 0) T bd) : BdOk (cS C 0) T (hsh C h al bd).1 ∧ EvsOk (cS C 0) (hsh C h al bd).2 ∧ (hsh C h al bd).2.length ≤ 28 := by
  obtain ⟨g1, g2, g3⟩ := outr_ok (h := h) (al := al) hP (cS C 0).toNat 0 (bd, []) (by omega) hb (fun e he => by cases he) (by simp)
  refine ⟨g1, g2, Nat.le_trans g3 (pbN_8 _ (by omega))⟩
theorem lof_ok {C : Cf} {h T : Int} {bd : Int → Int} (h7 : 0 ≤ cS C 7) (hb : BdOk (cS C 0) T bd) : BdOk (cS C 0) (T + (if h = cS C 6 then cS C 7 else 0)) (lof C h bd) := by
  unfold lof
  by_cases h1 : h = cS C 6
  · by_cases h2 : 0 ≤ cS C 5 ∧ cS C 5 < cS C 0
    · rw [if_pos (show h = cS C 6 ∧ 0 ≤ cS C 5 ∧ cS C 5 < cS C 0 from ⟨h1, h2⟩), if_pos h1]
      refine ⟨fun p h0 h3 => ?_, ?_⟩
      · have := hb.1 p h0 h3
        show 0 ≤ (if p = cS C 5 then bd p + cS C 7 else bd p)
        split <;> omega
      · rw [tot_up _ h2.1 (by omega)]
        have := hb.2
        omega
    · rw [if_neg (show ¬ (h = cS C 6 ∧ 0 ≤ cS C 5 ∧ cS C 5 < cS C 0) from fun q => h2 q.2), if_pos h1]
      exact ⟨hb.1, by have := hb.2; omega⟩
  · rw [if_neg (show ¬ (h = cS C 6 ∧ 0 ≤ cS C 5 ∧ cS C 5 < cS C 0) from fun q => h1 q.1), if_neg h1]
    exact ⟨hb.1, by have := hb.2; omega⟩
theorem eatB_ok {C : Cf} {T : Int} {bd : Int → Int} {al : Int → Bool} (h3 : 0 ≤ cS C 3) (hb : BdOk (cS C 0) T bd) : BdOk (cS C 0) T (eatB C bd al) := by
  refine ⟨fun p h0 h1 => ?_, ?_⟩
  · have := hb.1 p h0 h1
    unfold eatB
    split <;> omega
  · refine Int.le_trans (tot_mono _ (fun p h0 h1 => ?_)) hb.2
    unfold eatB
    split <;> omega
theorem rst_ok {C : Cf} (hC : CfOk C) : ∀ n : Nat, BdOk (cS C 0) (tot (cSt C) (cS C 0).toNat + loafed C n) (rst C n).1
  | 0 => by
    refine ⟨fun p h0 h1 => (hC.2.2.2.2.2.2.2.2.2.2.2.2 p h0 h1).1, ?_⟩
    unfold loafed
    simp only [rst]
    have := hC.2.2.2.2.2.2.2.2.2.2.1
    split <;> omega
  | n + 1 => by
    have h1 := rst_ok hC n
    have h7 : 0 ≤ cS C 7 := hC.2.2.2.2.2.2.2.2.2.2.1
    have h2 := lof_ok (h := (n : Int)) h7 h1
    have h3 := (hsh_ok (h := (n : Int)) (al := (rst C n).2) hC.1 hC.2.1 h2).1
    have h4 : tot (cSt C) (cS C 0).toNat + loafed C n + (if (n : Int) = cS C 6 then cS C 7 else 0) ≤ tot (cSt C) (cS C 0).toNat + loafed C (n + 1) := by
      unfold loafed
      split <;> split <;> split <;> omega
    have h5 : BdOk (cS C 0) (tot (cSt C) (cS C 0).toNat + loafed C (n + 1)) (hsh C n (rst C n).2 (lof C n (rst C n).1)).1 := ⟨h3.1, Int.le_trans h3.2 h4⟩
    show BdOk (cS C 0) _ (hst C n (rst C n)).1
    unfold hst
    by_cases he : eats C n = true
    · simp only [he, if_true]
      exact eatB_ok (by have := hC.2.2.2.2.1; omega) h5
    · simp only [he, if_false]
      exact h5
theorem hmi_ok {C : Cf} (hC : CfOk C) (n : Nat) : BdOk (cS C 0) (tot (cSt C) (cS C 0).toNat + loafed C (n + 1)) (hmi C n).1 ∧ EvsOk (cS C 0) (hev C n) ∧ (hev C n).length ≤ 28 := by
  have h1 := rst_ok hC n
  have h7 : 0 ≤ cS C 7 := hC.2.2.2.2.2.2.2.2.2.2.1
  have h2 := lof_ok (h := (n : Int)) h7 h1
  obtain ⟨h3, h5, h6⟩ := hsh_ok (h := (n : Int)) (al := (rst C n).2) hC.1 hC.2.1 h2
  have h4 : tot (cSt C) (cS C 0).toNat + loafed C n + (if (n : Int) = cS C 6 then cS C 7 else 0) ≤ tot (cSt C) (cS C 0).toNat + loafed C (n + 1) := by
    unfold loafed
    split <;> split <;> split <;> omega
  exact ⟨⟨h3.1, Int.le_trans h3.2 h4⟩, h5, h6⟩
theorem tot_33 {f : Int → Int} : ∀ n : Nat, (∀ p : Int, 0 ≤ p → p < n → f p ≤ 33) → tot f n ≤ 33 * n
  | 0, _ => by simp [tot]
  | n + 1, h => by
    simp only [tot]
    have := tot_33 n (fun p h0 h1 => h p h0 (by omega))
    have := h n (by omega) (by omega)
    omega
theorem CfOk.tt {C : Cf} (hC : CfOk C) (n : Nat) : tot (cSt C) (cS C 0).toNat + loafed C n ≤ 294 := by
  have h1 := tot_33 (f := cSt C) (cS C 0).toNat (fun p h0 h1 => (hC.2.2.2.2.2.2.2.2.2.2.2.2 p h0 (by omega)).2)
  have h2 : loafed C n ≤ 30 := by
    unfold loafed
    have := hC.2.2.2.2.2.2.2.2.2.2.2.1
    split <;> omega
  have := hC.2.1
  omega
/-- who lives is one of the people -/
theorem rst_al {C : Cf} : ∀ (n : Nat) (p : Int), (rst C n).2 p = true → 0 ≤ p ∧ p < cS C 0
  | 0, p, h => by simpa [rst] using h
  | n + 1, p, h => by
    simp only [rst, hst] at h
    by_cases he : eats C n = true
    · simp only [he, if_true, eatA, Bool.and_eq_true] at h
      exact rst_al n p h.1
    · simp only [he, if_false] at h
      exact rst_al n p h
theorem lgs_ok {C : Cf} (hC : CfOk C) (f : Nat) : ∀ n : Nat, EvsOk (cS C 0) (lgs C f n) ∧ (lgs C f n).length ≤ 28 * n
  | 0 => ⟨(fun e he => by cases he), by simp [lgs]⟩
  | n + 1 => by
    obtain ⟨h1, h2⟩ := lgs_ok hC f n
    obtain ⟨-, h3, h4⟩ := hmi_ok hC n
    simp only [lgs]
    split
    · exact ⟨(fun e he => by cases he), by simp⟩
    · refine ⟨fun e he => ?_, by rw [List.length_append]; omega⟩
      rcases List.mem_append.mp he with h | h
      · exact h3 e h
      · exact h1 e h
