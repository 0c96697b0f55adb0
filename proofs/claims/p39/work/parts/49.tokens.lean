/-! a tape's tokens -/
def cBl (c : Int) : Bool := decide (c = 10) || decide (c = 32)
def cLt (c : Int) : Bool := decide (97 ≤ c) && decide (c ≤ 122)
def cDg (c : Int) : Bool := decide (48 ≤ c) && decide (c ≤ 57)
theorem cBl_iff {c : Int} : cBl c = true ↔ (c = 10 ∨ c = 32) := by simp [cBl]
theorem cLt_iff {c : Int} : cLt c = true ↔ (97 ≤ c ∧ c ≤ 122) := by simp [cLt]
theorem cDg_iff {c : Int} : cDg c = true ↔ (48 ≤ c ∧ c ≤ 57) := by simp [cDg]
def advN (f : Int → Bool) (T : Int → Int) (n : Int) : Nat → Int → Int
  | 0, p => p
  | d + 1, p => if p < n ∧ f (T p) = true then advN f T n d (p + 1) else p
/-- the first place from p on where f does not hold -/
def rn (f : Int → Bool) (T : Int → Int) (n p : Int) : Int := advN f T n (n - p).toNat p
theorem rn_go {f : Int → Bool} {T : Int → Int} {n p : Int} (h : p < n) (hf : f (T p) = true) : rn f T n p = rn f T n (p + 1) := by
  unfold rn
  rw [show (n - p).toNat = (n - (p + 1)).toNat + 1 by omega]
  simp only [advN]
  rw [if_pos ⟨h, hf⟩]
theorem rn_st {f : Int → Bool} {T : Int → Int} {n p : Int} (h : ¬ (p < n ∧ f (T p) = true)) : rn f T n p = p := by
  unfold rn
  cases (n - p).toNat with
  | zero => rfl
  | succ d =>
    simp only [advN]
    rw [if_neg h]
theorem advN_ge {f : Int → Bool} {T : Int → Int} {n : Int} : ∀ (d : Nat) (p : Int), p ≤ advN f T n d p
  | 0, p => Int.le_refl p
  | d + 1, p => by
    simp only [advN]
    have := advN_ge (f := f) (T := T) (n := n) d (p + 1)
    split <;> omega
theorem rn_ge {f : Int → Bool} {T : Int → Int} {n : Int} (p : Int) : p ≤ rn f T n p := advN_ge _ p
theorem advN_le {f : Int → Bool} {T : Int → Int} {n : Int} : ∀ (d : Nat) (p : Int), p ≤ n → advN f T n d p ≤ n
  | 0, p, h => h
  | d + 1, p, h => by
    simp only [advN]
    split
    · rename_i w
      exact advN_le d (p + 1) (by omega)
    · exact h
theorem rn_le {f : Int → Bool} {T : Int → Int} {n p : Int} (h : p ≤ n) : rn f T n p ≤ n := advN_le _ p h
theorem advN_in {f : Int → Bool} {T : Int → Int} {n : Int} : ∀ (d : Nat) (p i : Int), p ≤ i → i < advN f T n d p → f (T i) = true
  | 0, p, i, h, h1 => by
    simp only [advN] at h1
    omega
  | d + 1, p, i, h, h1 => by
    simp only [advN] at h1
    split at h1
    · rename_i w
      by_cases e : i = p
      · rw [e]; exact w.2
      · exact advN_in d (p + 1) i (by omega) h1
    · omega
theorem rn_in {f : Int → Bool} {T : Int → Int} {n p i : Int} (h : p ≤ i) (h1 : i < rn f T n p) : f (T i) = true := advN_in _ p i h h1
theorem advN_end {f : Int → Bool} {T : Int → Int} {n : Int} : ∀ (d : Nat) (p : Int), n ≤ p + d → advN f T n d p < n → f (T (advN f T n d p)) = false
  | 0, p, h, h1 => by
    simp only [advN] at h1
    omega
  | d + 1, p, h, h1 => by
    simp only [advN] at h1 ⊢
    split at h1
    · rename_i w
      rw [if_pos w]
      exact advN_end d (p + 1) (by omega) h1
    · rename_i w
      rw [if_neg w]
      cases hc : f (T p) with
      | false => rfl
      | true => exact absurd ⟨h1, hc⟩ w
theorem rn_end {f : Int → Bool} {T : Int → Int} {n p : Int} (h1 : rn f T n p < n) : f (T (rn f T n p)) = false := advN_end _ p (by omega) h1
theorem rn_id {f : Int → Bool} {T : Int → Int} {n p : Int} : rn f T n (rn f T n p) = rn f T n p := rn_st (fun w => by have := rn_end (f := f) (T := T) (n := n) (p := p) w.1; rw [this] at w; exact Bool.noConfusion w.2)
/-- letters' codes in base 32 -/
def wdD (d : Nat → Int) : Nat → Int
  | 0 => 0
  | k + 1 => 32 * wdD d k + d k
theorem wdD_nn {d : Nat → Int} : ∀ k : Nat, (∀ j : Nat, j < k → 1 ≤ d j ∧ d j ≤ 26) → 0 ≤ wdD d k
  | 0, _ => Int.le_refl 0
  | k + 1, h => by
    have h1 := wdD_nn k (fun j q => h j (by omega))
    have h2 := h k (by omega)
    simp only [wdD]
    omega
theorem wdD_inj {d e : Nat → Int} : ∀ k m : Nat, (∀ j : Nat, j < k → 1 ≤ d j ∧ d j ≤ 26) → (∀ j : Nat, j < m → 1 ≤ e j ∧ e j ≤ 26) → wdD d k = wdD e m → k = m ∧ ∀ j : Nat, j < k → d j = e j
  | 0, 0, _, _, _ => ⟨rfl, fun j q => absurd q (Nat.not_lt_zero _)⟩
  | 0, m + 1, _, h2, h => by
    have h3 := wdD_nn m (fun j q => h2 j (by omega))
    have h4 := h2 m (by omega)
    simp only [wdD] at h
    omega
  | k + 1, 0, h1, _, h => by
    have h3 := wdD_nn k (fun j q => h1 j (by omega))
    have h4 := h1 k (by omega)
    simp only [wdD] at h
    omega
  | k + 1, m + 1, h1, h2, h => by
    have h3 := h1 k (by omega)
    have h4 := h2 m (by omega)
    simp only [wdD] at h
    obtain ⟨g1, g2⟩ := wdD_inj k m (fun j q => h1 j (by omega)) (fun j q => h2 j (by omega)) (by omega)
    subst g1
    refine ⟨rfl, fun j q => ?_⟩
    by_cases e1 : j = k
    · subst e1; omega
    · exact g2 j (by omega)
theorem wdD_congr {d e : Nat → Int} : ∀ k : Nat, (∀ j : Nat, j < k → d j = e j) → wdD d k = wdD e k
  | 0, _ => rfl
  | k + 1, h => by
    simp only [wdD]
    rw [wdD_congr k (fun j q => h j (by omega)), h k (by omega)]
def srD (q : Nat) (j : Nat) : Int := srI q j - 96
def srV (q : Nat) : Int := wdD (srD q) (srL.getD q 0)
/-- which word it is: 1 size 2 law 3 hours 4 eat 5 .. 8 manners 9 errand 10 extra 11 quarrel 12 .. 15 laws 16 pocket 99 none -/
def wdK (v : Int) : Int := if v = 632645 then 1 else if v = 12343 then 2 else if v = 8902227 then 3 else if v = 5172 then 4 else if v = 17171758 then 5 else if v = 553002629 then 6 else if v = 19737 then 7 else if v = 247978148 then 8 else if v = 187237828 then 9 else if v = 6050369 then 10 else if v = 18959911084 then 11 else if v = 441925 then 12 else if v = 6605428 then 13 else if v = 398963 then 14 else if v = 394868 then 15 else if v = 552709300 then 16 else 99
def wdW : List Int := [16, 5, 6, 7, 8, 1, 2, 3, 4, 9, 10, 11, 12, 13, 14, 15]
theorem wdK_0 {v : Int} : wdK v = 16 ↔ v = 552709300 := by
  unfold wdK
  constructor
  · intro h
    repeat'
      split at h
      · omega
    omega
  · intro h
    subst h
    decide
theorem srV_0 : srV 0 = 552709300 := by decide +kernel
theorem wdK_1 {v : Int} : wdK v = 5 ↔ v = 17171758 := by
  unfold wdK
  constructor
  · intro h
    repeat'
      split at h
      · omega
    omega
  · intro h
    subst h
    decide
theorem srV_1 : srV 1 = 17171758 := by decide +kernel
theorem wdK_2 {v : Int} : wdK v = 6 ↔ v = 553002629 := by
  unfold wdK
  constructor
  · intro h
    repeat'
      split at h
      · omega
    omega
  · intro h
    subst h
    decide
theorem srV_2 : srV 2 = 553002629 := by decide +kernel
theorem wdK_3 {v : Int} : wdK v = 7 ↔ v = 19737 := by
  unfold wdK
  constructor
  · intro h
    repeat'
      split at h
      · omega
    omega
  · intro h
    subst h
    decide
theorem srV_3 : srV 3 = 19737 := by decide +kernel
theorem wdK_4 {v : Int} : wdK v = 8 ↔ v = 247978148 := by
  unfold wdK
  constructor
  · intro h
    repeat'
      split at h
      · omega
    omega
  · intro h
    subst h
    decide
theorem srV_4 : srV 4 = 247978148 := by decide +kernel
theorem wdK_5 {v : Int} : wdK v = 1 ↔ v = 632645 := by
  unfold wdK
  constructor
  · intro h
    repeat'
      split at h
      · omega
    omega
  · intro h
    subst h
    decide
theorem srV_5 : srV 5 = 632645 := by decide +kernel
theorem wdK_6 {v : Int} : wdK v = 2 ↔ v = 12343 := by
  unfold wdK
  constructor
  · intro h
    repeat'
      split at h
      · omega
    omega
  · intro h
    subst h
    decide
theorem srV_6 : srV 6 = 12343 := by decide +kernel
theorem wdK_7 {v : Int} : wdK v = 3 ↔ v = 8902227 := by
  unfold wdK
  constructor
  · intro h
    repeat'
      split at h
      · omega
    omega
  · intro h
    subst h
    decide
theorem srV_7 : srV 7 = 8902227 := by decide +kernel
theorem wdK_8 {v : Int} : wdK v = 4 ↔ v = 5172 := by
  unfold wdK
  constructor
  · intro h
    repeat'
      split at h
      · omega
    omega
  · intro h
    subst h
    decide
theorem srV_8 : srV 8 = 5172 := by decide +kernel
theorem wdK_9 {v : Int} : wdK v = 9 ↔ v = 187237828 := by
  unfold wdK
  constructor
  · intro h
    repeat'
      split at h
      · omega
    omega
  · intro h
    subst h
    decide
theorem srV_9 : srV 9 = 187237828 := by decide +kernel
theorem wdK_10 {v : Int} : wdK v = 10 ↔ v = 6050369 := by
  unfold wdK
  constructor
  · intro h
    repeat'
      split at h
      · omega
    omega
  · intro h
    subst h
    decide
theorem srV_10 : srV 10 = 6050369 := by decide +kernel
theorem wdK_11 {v : Int} : wdK v = 11 ↔ v = 18959911084 := by
  unfold wdK
  constructor
  · intro h
    repeat'
      split at h
      · omega
    omega
  · intro h
    subst h
    decide
theorem srV_11 : srV 11 = 18959911084 := by decide +kernel
theorem wdK_12 {v : Int} : wdK v = 12 ↔ v = 441925 := by
  unfold wdK
  constructor
  · intro h
    repeat'
      split at h
      · omega
    omega
  · intro h
    subst h
    decide
theorem srV_12 : srV 12 = 441925 := by decide +kernel
theorem wdK_13 {v : Int} : wdK v = 13 ↔ v = 6605428 := by
  unfold wdK
  constructor
  · intro h
    repeat'
      split at h
      · omega
    omega
  · intro h
    subst h
    decide
theorem srV_13 : srV 13 = 6605428 := by decide +kernel
theorem wdK_14 {v : Int} : wdK v = 14 ↔ v = 398963 := by
  unfold wdK
  constructor
  · intro h
    repeat'
      split at h
      · omega
    omega
  · intro h
    subst h
    decide
theorem srV_14 : srV 14 = 398963 := by decide +kernel
theorem wdK_15 {v : Int} : wdK v = 15 ↔ v = 394868 := by
  unfold wdK
  constructor
  · intro h
    repeat'
      split at h
      · omega
    omega
  · intro h
    subst h
    decide
theorem srV_15 : srV 15 = 394868 := by decide +kernel
theorem wdK_q {q : Nat} (hq : q < 16) {v : Int} : wdK v = wdW.getD q 0 ↔ v = srV q := by
  match q, hq with
  | 0, _ => rw [srV_0]; exact wdK_0
  | 1, _ => rw [srV_1]; exact wdK_1
  | 2, _ => rw [srV_2]; exact wdK_2
  | 3, _ => rw [srV_3]; exact wdK_3
  | 4, _ => rw [srV_4]; exact wdK_4
  | 5, _ => rw [srV_5]; exact wdK_5
  | 6, _ => rw [srV_6]; exact wdK_6
  | 7, _ => rw [srV_7]; exact wdK_7
  | 8, _ => rw [srV_8]; exact wdK_8
  | 9, _ => rw [srV_9]; exact wdK_9
  | 10, _ => rw [srV_10]; exact wdK_10
  | 11, _ => rw [srV_11]; exact wdK_11
  | 12, _ => rw [srV_12]; exact wdK_12
  | 13, _ => rw [srV_13]; exact wdK_13
  | 14, _ => rw [srV_14]; exact wdK_14
  | 15, _ => rw [srV_15]; exact wdK_15
  | q + 16, h => omega
theorem wdK_bd (v : Int) : (1 ≤ wdK v ∧ wdK v ≤ 16) ∨ wdK v = 99 := by
  unfold wdK
  repeat'
    split
    · omega
  omega
def tdD (T : Int → Int) (p : Int) (j : Nat) : Int := T (p + j) - 96
def wrd (T : Int → Int) (n p : Int) : Int := if 8 < rn cLt T n p - p then 99 else wdK (wdD (tdD T p) (rn cLt T n p - p).toNat)
/-- a word is told by its letters -/
theorem wrd_q {T : Int → Int} {n p : Int} {q : Nat} (hq : q < 16) : ((rn cLt T n p - p = (srL.getD q 0 : Nat)) ∧ ∀ j : Nat, j < srL.getD q 0 → T (p + j) = srI q j) ↔ wrd T n p = wdW.getD q 0 := by
  have hl : ∀ q : Nat, q < 16 → srL.getD q 0 ≤ 7 := by decide +kernel
  have h7 := hl q hq
  have hw : ∀ q : Nat, q < 16 → wdW.getD q 0 ≤ 16 := by decide +kernel
  have h16 := hw q hq
  have hg := rn_ge (f := cLt) (T := T) (n := n) p
  constructor
  · rintro ⟨h1, h2⟩
    unfold wrd
    rw [if_neg (by omega), wdK_q hq, h1, Int.toNat_natCast]
    exact wdD_congr _ (fun j hj => by unfold tdD srD; rw [h2 j hj])
  · intro h
    unfold wrd at h
    by_cases h8 : 8 < rn cLt T n p - p
    · rw [if_pos h8] at h
      omega
    · rw [if_neg h8, wdK_q hq] at h
      obtain ⟨g1, g2⟩ := wdD_inj _ _ (fun j hj => by
        have := cLt_iff.mp (rn_in (f := cLt) (T := T) (n := n) (p := p) (i := p + j) (by omega) (by omega))
        unfold tdD
        omega) (fun j hj => by
        have := sr_pl q hq j hj
        unfold srD
        omega) h
      refine ⟨by omega, fun j hj => ?_⟩
      have := g2 j (by omega)
      unfold tdD srD at this
      omega
theorem wrd_bd (T : Int → Int) (n p : Int) : (1 ≤ wrd T n p ∧ wrd T n p ≤ 16) ∨ wrd T n p = 99 := by
  unfold wrd
  split
  · exact Or.inr rfl
  · exact wdK_bd _
