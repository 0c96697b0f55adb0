/-! couples and parts -/
theorem metB_app (l l2 : List Ev) (p q : Int) : metB (l ++ l2) p q = (metB l p q || metB l2 p q) := by
  unfold metB
  rw [List.any_append]
theorem hitE_in {P : Int} {e : Ev} (h : EvOk P e) {p q : Int} (hh : hitE e p q = true) : (0 ≤ p ∧ p < P) ∧ 0 ≤ q ∧ q < P := by
  obtain ⟨a1, a2, a3, -⟩ := h
  unfold hitE at hh
  simp only [Bool.or_eq_true, Bool.and_eq_true, decide_eq_true_eq] at hh
  omega
theorem metB_in {P : Int} {l : List Ev} (h : EvsOk P l) {p q : Int} (hh : metB l p q = true) : (0 ≤ p ∧ p < P) ∧ 0 ≤ q ∧ q < P := by
  unfold metB at hh
  obtain ⟨e, he, h2⟩ := List.any_eq_true.mp hh
  exact hitE_in (h e he) h2
/-- whom one has met in all -/
def metA (C : Cf) (p q : Int) : Bool := metB (lgs C 0 (cH C)) p q
theorem metA_in {C : Cf} (hC : CfOk C) {p q : Int} (h : metA C p q = true) : (0 ≤ p ∧ p < cS C 0) ∧ 0 ≤ q ∧ q < cS C 0 := metB_in (lgs_ok hC 0 (cH C)).1 h
theorem lgs_0s (C : Cf) (n : Nat) : lgs C 0 (n + 1) = hev C n ++ lgs C 0 n := by
  simp only [lgs]
  rw [if_neg (Nat.not_lt_zero _)]
theorem sp_Ru_metEver {g : xG} {K : Option MV → xS → Prop} {σ : xS} {u : Nat} {C : Cf} {p : Int} (hu : IsRu u) (hC : CfOk C) (R : RunS σ u C 0 (cH C)) (p0 : 0 ≤ p) (p1 : p < cS C 0) (k : ∀ m : Int, Msk 8 m (metA C p) → K (some (vI m)) σ) : Mt g y_Ru_metEver [vR u, vI p] σ K := by
  have hH := cH_eq hC
  have h8 := hC.2.1
  have e1 : σ u 1 = (cH C : Int) := by rw [R.1.2.1]; omega
  have lp : ∀ (Z : xZ) (n h : Nat) (m : Int), h + n = cH C → Msk 8 m (metB (lgs C 0 h) p) → Wx g y_Ru_metEver Z K 4 [vR u, vI p, vI m, vI (h : Int)] [] σ := by
    intro Z n
    induction n with
    | zero =>
      intro h m hn H
      have e : h = cH C := by omega
      subst e
      refine x_iload_n (dat d_Ru_metEver 4 rfl) rfl rfl ?_
      refine x_aload_n (dat d_Ru_metEver 5 rfl) rfl rfl ?_
      refine x_geti (ji := 1) (v := (cH C : Int)) (dat d_Ru_metEver 6 rfl) rfl f_Ru_50 (ru_oi_1 hu) (e1) ?_
      refine x_icmp_ge (tgt := 32) (dat d_Ru_metEver 7 rfl) (by decide) (fun c_9 => ?_) (fun c_9 => (by omega))
      refine x_iload_n (dat d_Ru_metEver 21 rfl) rfl rfl ?_
      refine x_iret (dat d_Ru_metEver 22 rfl) rfl ?_
      exact k _ H
    | succ n ih =>
      intro h m hn H
      have es := (R.hour (h := h) (by omega) (by omega)).2.2.1 p p0 p1
      refine x_iload_n (dat d_Ru_metEver 4 rfl) rfl rfl ?_
      refine x_aload_n (dat d_Ru_metEver 5 rfl) rfl rfl ?_
      refine x_geti (ji := 1) (v := (cH C : Int)) (dat d_Ru_metEver 6 rfl) rfl f_Ru_50 (ru_oi_1 hu) (e1) ?_
      refine x_icmp_ge (tgt := 32) (dat d_Ru_metEver 7 rfl) (by decide) (fun c_9 => (by omega)) (fun c_9 => ?_)
      refine x_iload_n (dat d_Ru_metEver 8 rfl) rfl rfl ?_
      refine x_aload_n (dat d_Ru_metEver 9 rfl) rfl rfl ?_
      refine x_getr (r := u + 7) (dat d_Ru_metEver 10 rfl) rfl f_Ru_22 (ru_or_6 hu) ?_
      refine x_iload_n (dat d_Ru_metEver 11 rfl) rfl rfl ?_
      refine x_bipush (dat d_Ru_metEver 12 rfl) (by decide) (by decide) ?_
      refine x_imul (v := 8 * (h : Int)) (dat d_Ru_metEver 13 rfl) (by omega) (by omega) ?_
      refine x_iload_n (dat d_Ru_metEver 14 rfl) rfl rfl ?_
      refine x_iadd (v := (8 * (h : Int)) + p) (dat d_Ru_metEver 15 rfl) rfl (by omega) ?_
      refine x_iald (n := 192) (v := σ (u + 7) ((8 * (h : Int)) + p)) (dat d_Ru_metEver 16 rfl) (ru_ai_7 hu) (by omega) (by omega) rfl ?_
      refine x_ior (v := ior m (σ (u + 7) ((8 * (h : Int)) + p))) (dat d_Ru_metEver 17 rfl) rfl ?_
      refine x_istore_n (L' := [vR u, vI p, vI (ior m (σ (u + 7) ((8 * (h : Int)) + p))), vI (h : Int)]) (dat d_Ru_metEver 18 rfl) rfl (by decide) rfl rfl ?_
      refine x_iinc (v' := ((h + 1 : Nat) : Int)) (L' := [vR u, vI p, vI (ior m (σ (u + 7) ((8 * (h : Int)) + p))), vI ((h + 1 : Nat) : Int)]) (dat d_Ru_metEver 19 rfl) rfl (by decide) rfl (by omega) (by omega) rfl ?_
      refine x_goto (tgt := 4) (dat d_Ru_metEver 20 rfl) (by decide) ?_
      refine ih (h + 1) _ (by omega) ((H.lor (by decide) es).congr (fun q _ _ => ?_))
      rw [lgs_0s, metB_app, Bool.or_comm]
  refine x_enter 2 rfl rfl rfl (fun Z => ?_)
  show Wx g y_Ru_metEver Z K 0 [vR u, vI p, vU, vU] [] σ
  refine x_iconst (dat d_Ru_metEver 0 rfl) (by decide) ?_
  refine x_istore_n (L' := [vR u, vI p, vI 0, vU]) (dat d_Ru_metEver 1 rfl) rfl (by decide) rfl rfl ?_
  refine x_iconst (dat d_Ru_metEver 2 rfl) (by decide) ?_
  refine x_istore_n (L' := [vR u, vI p, vI 0, vI 0]) (dat d_Ru_metEver 3 rfl) rfl (by decide) rfl rfl ?_
  exact lp Z (cH C) 0 0 (by omega) ((Msk.zero 8).congr (fun q _ _ => rfl))
/-- how many couples, twice -/
def cpl2 (C : Cf) (n : Nat) : Int := sumN (fun p => cntN (metA C p) 8) n
theorem sp_Ru_couples {g : xG} {K : Option MV → xS → Prop} {σ : xS} {u : Nat} {C : Cf} (hu : IsRu u) (hC : CfOk C) (R : RunS σ u C 0 (cH C)) (k : K (some (vI (cpl2 C (cS C 0).toNat / 2))) σ) : Mt g y_Ru_couples [vR u] σ K := by
  have hH := cH_eq hC
  have h8 := hC.2.1
  have hP := hC.1
  have e0 : σ u 0 = cS C 0 := R.1.1
  have bd : ∀ n : Nat, 0 ≤ cpl2 C n ∧ cpl2 C n ≤ (8 * n : Nat) := fun n => sumN_bd (B := 8) n (fun i _ => cntN_bd _ 8)
  have lp : ∀ (Z : xZ) (n p : Nat), (p : Int) + n = cS C 0 → Wx g y_Ru_couples Z K 4 [vR u, vI (cpl2 C p), vI (p : Int)] [] σ := by
    intro Z n
    induction n with
    | zero =>
      intro p hn
      have e : (cS C 0).toNat = p := by omega
      rw [e] at k
      have hb := bd p
      have ed : (cpl2 C p).tdiv 2 = cpl2 C p / 2 := Int.tdiv_eq_ediv_of_nonneg hb.1
      refine x_iload_n (dat d_Ru_couples 4 rfl) rfl rfl ?_
      refine x_aload_n (dat d_Ru_couples 5 rfl) rfl rfl ?_
      refine x_geti (ji := 0) (v := cS C 0) (dat d_Ru_couples 6 rfl) rfl f_Ru_46 (ru_oi_0 hu) (e0) ?_
      refine x_icmp_ge (tgt := 29) (dat d_Ru_couples 7 rfl) (by decide) (fun c_9 => ?_) (fun c_9 => (by omega))
      refine x_iload_n (dat d_Ru_couples 17 rfl) rfl rfl ?_
      refine x_iconst (dat d_Ru_couples 18 rfl) (by decide) ?_
      refine x_idiv (v := cpl2 C p / 2) (dat d_Ru_couples 19 rfl) (by omega) (by omega) ?_
      refine x_iret (dat d_Ru_couples 20 rfl) rfl ?_
      exact k
    | succ n ih =>
      intro p hn
      have hb := bd p
      have hb2 := cntN_bd (metA C p) 8
      refine x_iload_n (dat d_Ru_couples 4 rfl) rfl rfl ?_
      refine x_aload_n (dat d_Ru_couples 5 rfl) rfl rfl ?_
      refine x_geti (ji := 0) (v := cS C 0) (dat d_Ru_couples 6 rfl) rfl f_Ru_46 (ru_oi_0 hu) (e0) ?_
      refine x_icmp_ge (tgt := 29) (dat d_Ru_couples 7 rfl) (by decide) (fun c_9 => (by omega)) (fun c_9 => ?_)
      refine x_iload_n (dat d_Ru_couples 8 rfl) rfl rfl ?_
      refine x_aload_n (dat d_Ru_couples 9 rfl) rfl rfl ?_
      refine x_iload_n (dat d_Ru_couples 10 rfl) rfl rfl ?_
      refine x_inv (As := [vI (p : Int)]) (dat d_Ru_couples 11 rfl) rfl c_Ru_metEver l_Ru_133 (by decide) (rv_ru (ru_k hu)) rfl rfl (Nat.le_of_ble_eq_true rfl) ?_
      refine sp_Ru_metEver hu hC R (by omega) (by omega) (fun m hm => ?_)
      show Wx g y_Ru_couples Z K 18 [vR u, vI (cpl2 C p), vI (p : Int)] [vI m, vI (cpl2 C p)] σ
      refine x_invs (As := [vI m]) (dat d_Ru_couples 12 rfl) rfl c_In_bitCount l_Ru_116 (by decide) rfl rfl (Nat.le_of_ble_eq_true rfl) ?_
      refine sp_In_bitCount ?_
      rw [hm.bc]
      show Wx g y_Ru_couples Z K 21 [vR u, vI (cpl2 C p), vI (p : Int)] [vI (cntN (metA C p) 8), vI (cpl2 C p)] σ
      refine x_iadd (v := cpl2 C (p + 1)) (dat d_Ru_couples 13 rfl) (by rfl) (by have := bd (p + 1); omega) ?_
      refine x_istore_n (L' := [vR u, vI (cpl2 C (p + 1)), vI (p : Int)]) (dat d_Ru_couples 14 rfl) rfl (by decide) rfl rfl ?_
      refine x_iinc (v' := ((p + 1 : Nat) : Int)) (L' := [vR u, vI (cpl2 C (p + 1)), vI ((p + 1 : Nat) : Int)]) (dat d_Ru_couples 15 rfl) rfl (by decide) rfl (by omega) (by omega) rfl ?_
      refine x_goto (tgt := 4) (dat d_Ru_couples 16 rfl) (by decide) ?_
      exact ih (p + 1) (by omega)
  refine x_enter 2 rfl rfl rfl (fun Z => ?_)
  show Wx g y_Ru_couples Z K 0 [vR u, vU, vU] [] σ
  refine x_iconst (dat d_Ru_couples 0 rfl) (by decide) ?_
  refine x_istore_n (L' := [vR u, vI 0, vU]) (dat d_Ru_couples 1 rfl) rfl (by decide) rfl rfl ?_
  refine x_iconst (dat d_Ru_couples 2 rfl) (by decide) ?_
  refine x_istore_n (L' := [vR u, vI 0, vI 0]) (dat d_Ru_couples 3 rfl) rfl (by decide) rfl rfl ?_
  exact lp Z (cS C 0).toNat 0 (by omega)
/-- all that some are joined to, in a sweep -/
def swp (M : Int → Int → Bool) (s : Int → Bool) : Nat → Int → Bool
  | 0 => s
  | k + 1 => fun q => swp M s k q || (swp M s k k && M k q)
def swpN (M : Int → Int → Bool) (P : Nat) (s : Int → Bool) : Nat → Int → Bool
  | 0 => s
  | r + 1 => swp M (swpN M P s r) P
theorem swp_mono (M : Int → Int → Bool) (s : Int → Bool) : ∀ (k : Nat) (q : Int), s q = true → swp M s k q = true
  | 0, _, h => h
  | k + 1, q, h => by
    simp only [swp, swp_mono M s k q h, Bool.true_or]
theorem swp_in {M : Int → Int → Bool} {s : Int → Bool} {P : Nat} (hM : ∀ p q : Int, M p q = true → 0 ≤ q ∧ q < P) (hs : ∀ q : Int, s q = true → 0 ≤ q ∧ q < P) : ∀ (k : Nat) (q : Int), swp M s k q = true → 0 ≤ q ∧ q < P
  | 0, q, h => hs q h
  | k + 1, q, h => by
    simp only [swp, Bool.or_eq_true, Bool.and_eq_true] at h
    rcases h with h | h
    · exact swp_in hM hs k q h
    · exact hM _ _ h.2
theorem swpN_in {M : Int → Int → Bool} {s : Int → Bool} {P : Nat} (hM : ∀ p q : Int, M p q = true → 0 ≤ q ∧ q < P) (hs : ∀ q : Int, s q = true → 0 ≤ q ∧ q < P) : ∀ (r : Nat) (q : Int), swpN M P s r q = true → 0 ≤ q ∧ q < P
  | 0, q, h => hs q h
  | r + 1, q, h => swp_in hM (swpN_in hM hs r) P q h
theorem swpN_mono (M : Int → Int → Bool) (P : Nat) (s : Int → Bool) : ∀ (r : Nat) (q : Int), s q = true → swpN M P s r q = true
  | 0, _, h => h
  | r + 1, q, h => swp_mono M _ P q (swpN_mono M P s r q h)
/-- nothing more is joined -/
def clo (M : Int → Int → Bool) (P : Nat) (s : Int → Bool) : Prop := ∀ p q : Int, 0 ≤ p → p < P → s p = true → M p q = true → s q = true
theorem swp_sub {M : Int → Int → Bool} {P : Nat} {s t : Int → Bool} (hc : clo M P t) (hs : ∀ q : Int, s q = true → t q = true) : ∀ (k : Nat), k ≤ P → ∀ q : Int, swp M s k q = true → t q = true
  | 0, _, q, h => hs q h
  | k + 1, hk, q, h => by
    simp only [swp, Bool.or_eq_true, Bool.and_eq_true] at h
    rcases h with h | h
    · exact swp_sub hc hs k (by omega) q h
    · exact hc _ _ (by omega) (by omega) (swp_sub hc hs k (by omega) _ h.1) h.2
theorem swpN_sub {M : Int → Int → Bool} {P : Nat} {s t : Int → Bool} (hc : clo M P t) (hs : ∀ q : Int, s q = true → t q = true) : ∀ (r : Nat) (q : Int), swpN M P s r q = true → t q = true
  | 0, q, h => hs q h
  | r + 1, q, h => swp_sub hc (swpN_sub hc hs r) P (Nat.le_refl P) q h
theorem swp_k (M : Int → Int → Bool) (s : Int → Bool) (q : Int) : ∀ (d k : Nat), swp M s k q = true → swp M s (k + d) q = true
  | 0, _, h => h
  | d + 1, k, h => by
    have := swp_k M s q d k h
    show (swp M s (k + d) q || _) = true
    rw [this, Bool.true_or]
theorem swp_clo {M : Int → Int → Bool} {P : Nat} {s : Int → Bool} (h : ∀ q : Int, swp M s P q = true → s q = true) : clo M P s := by
  intro p q p0 p1 hp hq
  have e : ((p.toNat : Nat) : Int) = p := Int.toNat_of_nonneg p0
  refine h q ?_
  have h1 : swp M s (p.toNat + 1) q = true := by
    simp only [swp]
    rw [e, swp_mono M s p.toNat p hp, hq]
    simp
  have := swp_k M s q (P - (p.toNat + 1)) (p.toNat + 1) h1
  rwa [show p.toNat + 1 + (P - (p.toNat + 1)) = P by omega] at this
theorem cntN_mono {f f' : Int → Bool} : ∀ n : Nat, (∀ p : Int, f p = true → f' p = true) → cntN f n ≤ cntN f' n
  | 0, _ => Int.le_refl 0
  | n + 1, h => by
    have h1 := cntN_mono n h
    have h2 := h n
    simp only [cntN]
    cases e : f n
    · rw [if_neg (by decide)]; split <;> omega
    · rw [h2 e]; simp; omega
theorem cntN_lt {f f' : Int → Bool} : ∀ n : Nat, (∀ p : Int, f p = true → f' p = true) → ∀ q : Int, 0 ≤ q → q < n → f q = false → f' q = true → cntN f n + 1 ≤ cntN f' n
  | 0, _, q, q0, q1, _, _ => by omega
  | n + 1, h, q, q0, q1, e, e2 => by
    simp only [cntN]
    by_cases hq : q = n
    · subst hq
      have := cntN_mono n h
      rw [e, e2]; simp; omega
    · have := cntN_lt n h q q0 (by omega) e e2
      have h2 := h n
      cases e3 : f n
      · rw [if_neg (by decide)]; split <;> omega
      · rw [h2 e3]; simp; omega
/-- after as many sweeps as there are people nothing more is joined -/
theorem swpN_fix {M : Int → Int → Bool} {s : Int → Bool} {P : Nat} (hM : ∀ p q : Int, M p q = true → 0 ≤ q ∧ q < P) (hs : ∀ q : Int, s q = true → 0 ≤ q ∧ q < P) {q0 : Int} (hq : s q0 = true) : ∀ r : Nat, clo M P (swpN M P s r) ∨ (r : Int) + 1 ≤ cntN (swpN M P s r) P
  | 0 => by
    refine Or.inr ?_
    have h1 := cntN_lt (f := fun _ => false) (f' := s) P (fun _ h => by cases h) q0 (hs q0 hq).1 (hs q0 hq).2 rfl hq
    have h2 := (cntN_bd (fun _ => false) P).1
    show ((0 : Nat) : Int) + 1 ≤ cntN s P
    omega
  | r + 1 => by
    rcases swpN_fix hM hs hq r with h | h
    · left
      have e : swpN M P s (r + 1) = swpN M P s r := by
        funext q
        cases e : swpN M P s r q
        · cases e2 : swpN M P s (r + 1) q
          · rfl
          · rw [swp_sub h (fun _ w => w) P (Nat.le_refl P) q e2] at e
            cases e
        · exact swp_mono M _ P q e
      rw [e]
      exact h
    · by_cases hx : ∀ q : Int, swp M (swpN M P s r) P q = true → swpN M P s r q = true
      · left
        have e : swpN M P s (r + 1) = swpN M P s r := by
          funext q
          cases e : swpN M P s r q
          · cases e2 : swpN M P s (r + 1) q
            · rfl
            · rw [hx q e2] at e
              cases e
          · exact swp_mono M _ P q e
        rw [e]
        exact swp_clo hx
      · right
        have : ∃ q : Int, swp M (swpN M P s r) P q = true ∧ ¬ swpN M P s r q = true := by
          refine Classical.byContradiction fun w => hx (fun q h1 => Classical.byContradiction fun h2 => w ⟨q, h1, h2⟩)
        obtain ⟨q, h1, h2⟩ := this
        have h3 := swpN_in hM hs (r + 1) q h1
        have := cntN_lt (f := swpN M P s r) (f' := swpN M P s (r + 1)) P (fun p w => swp_mono M _ P p w) q h3.1 h3.2 (by simpa using h2) h1
        omega
theorem swpN_clo {M : Int → Int → Bool} {s : Int → Bool} {P : Nat} (hM : ∀ p q : Int, M p q = true → 0 ≤ q ∧ q < P) (hs : ∀ q : Int, s q = true → 0 ≤ q ∧ q < P) {q0 : Int} (hq : s q0 = true) {r : Nat} (hr : P ≤ r) : clo M P (swpN M P s r) := by
  rcases swpN_fix hM hs hq r with h | h
  · exact h
  · have := (cntN_bd (swpN M P s r) P).2
    omega
theorem swpN_eq {M : Int → Int → Bool} {s : Int → Bool} {P : Nat} (hM : ∀ p q : Int, M p q = true → 0 ≤ q ∧ q < P) (hs : ∀ q : Int, s q = true → 0 ≤ q ∧ q < P) {q0 : Int} (hq : s q0 = true) {r r2 : Nat} (hr : P ≤ r) (hr2 : P ≤ r2) (q : Int) : swpN M P s r q = swpN M P s r2 q := by
  have h1 := swpN_sub (swpN_clo hM hs hq hr) (swpN_mono M P s r) r2 q
  have h2 := swpN_sub (swpN_clo hM hs hq hr2) (swpN_mono M P s r2) r q
  cases e1 : swpN M P s r q
  · cases e2 : swpN M P s r2 q
    · rfl
    · rw [h1 e2] at e1; cases e1
  · rw [h2 e1]
/-- all that one is joined to -/
def joi (C : Cf) (p : Int) : Int → Bool := swpN (metA C) (cS C 0).toNat (fun q => decide (q = p)) 8
theorem joi_any {C : Cf} (hC : CfOk C) {p : Int} (p0 : 0 ≤ p) (p1 : p < cS C 0) {r : Nat} (hr : (cS C 0).toNat ≤ r) (q : Int) : swpN (metA C) (cS C 0).toNat (fun q => decide (q = p)) r q = joi C p q := by
  have h8 := hC.2.1
  refine swpN_eq (q0 := p) (fun a b h => ?_) (fun b h => ?_) (by simp) hr (by omega) q
  · have := (metA_in hC h).2; omega
  · have : b = p := by simpa using h
    omega
theorem joi_in {C : Cf} (hC : CfOk C) {p : Int} (p0 : 0 ≤ p) (p1 : p < cS C 0) {q : Int} (h : joi C p q = true) : 0 ≤ q ∧ q < cS C 0 := by
  have := swpN_in (P := (cS C 0).toNat) (fun a b h => by have := (metA_in hC h).2; omega) (fun b h => by cases (of_decide_eq_true h : b = p); omega) 8 q h
  omega
theorem joi_self (C : Cf) (p : Int) : joi C p p = true := swpN_mono _ _ _ 8 p (by simp)
theorem joi_trans {C : Cf} (hC : CfOk C) {p q r : Int} (p0 : 0 ≤ p) (p1 : p < cS C 0) (h1 : joi C p q = true) (h2 : joi C q r = true) : joi C p r = true := by
  have h8 := hC.2.1
  have hc : clo (metA C) (cS C 0).toNat (joi C p) := swpN_clo (q0 := p) (fun a b h => by have := (metA_in hC h).2; omega) (fun b h => by cases (of_decide_eq_true h : b = p); omega) (by simp) (by omega)
  exact swpN_sub hc (fun b h => (of_decide_eq_true h : b = q) ▸ h1) 8 r h2
/-- how many parts the town falls into: who is counted in, and how many parts -/
def pts (C : Cf) : Nat → (Int → Bool) × Int
  | 0 => (fun _ => false, 0)
  | p + 1 => if (pts C p).1 p = true then pts C p else (fun q => (pts C p).1 q || joi C p q, (pts C p).2 + 1)
theorem pts_bd (C : Cf) : ∀ p : Nat, 0 ≤ (pts C p).2 ∧ (pts C p).2 ≤ p
  | 0 => by simp [pts]
  | p + 1 => by
    have := pts_bd C p
    simp only [pts]
    split <;> simp <;> omega
theorem pts_src (C : Cf) : ∀ (p : Nat) (q : Int), (pts C p).1 q = true → ∃ a : Nat, a < p ∧ joi C a q = true ∧ ∀ r : Int, joi C a r = true → (pts C p).1 r = true
  | 0, q, h => by simp [pts] at h
  | p + 1, q, h => by
    by_cases e : (pts C p).1 p = true
    · have e2 : pts C (p + 1) = pts C p := by simp only [pts]; rw [if_pos e]
      rw [e2] at h ⊢
      obtain ⟨b, h1, h2, h3⟩ := pts_src C p q h
      exact ⟨b, by omega, h2, h3⟩
    · have e2 : pts C (p + 1) = (fun q => (pts C p).1 q || joi C p q, (pts C p).2 + 1) := by simp only [pts]; rw [if_neg e]
      rw [e2] at h ⊢
      simp only [Bool.or_eq_true] at h ⊢
      rcases h with h | h
      · obtain ⟨b, h1, h2, h3⟩ := pts_src C p q h
        exact ⟨b, by omega, h2, fun r hr => Or.inl (h3 r hr)⟩
      · exact ⟨p, by omega, h, fun r hr => Or.inr hr⟩
/-- whoever is counted in brings nobody new -/
theorem pts_or {C : Cf} (hC : CfOk C) {p : Nat} (p1 : (p : Int) < cS C 0) (q : Int) : (pts C (p + 1)).1 q = ((pts C p).1 q || joi C p q) := by
  by_cases e : (pts C p).1 p = true
  · have e2 : pts C (p + 1) = pts C p := by simp only [pts]; rw [if_pos e]
    rw [e2]
    obtain ⟨b, h1, h2, h3⟩ := pts_src C p p e
    cases e3 : joi C p q
    · rw [Bool.or_false]
    · rw [h3 q (joi_trans hC (by omega) (by omega) h2 e3)]
      rfl
  · simp only [pts]
    rw [if_neg e]
theorem sp_Ru_joinedTo {g : xG} {K : Option MV → xS → Prop} {σ : xS} {u : Nat} {C : Cf} {p : Int} (hu : IsRu u) (hC : CfOk C) (R : RunS σ u C 0 (cH C)) (p0 : 0 ≤ p) (p1 : p < cS C 0) (k : ∀ m : Int, Msk 8 m (joi C p) → K (some (vI m)) σ) : Mt g y_Ru_joinedTo [vR u, vI p] σ K := by
  have hH := cH_eq hC
  have h8 := hC.2.1
  have e0 : σ u 0 = cS C 0 := R.1.1
  have li : ∀ (Z : xZ) (rd : Nat) (s : Int → Bool), (∀ (m : Int) (w4 : MV), Msk 8 m (swp (metA C) s (cS C 0).toNat) → Wx g y_Ru_joinedTo Z K 6 [vR u, vI p, vI m, vI ((rd + 1 : Nat) : Int), w4] [] σ) → (rd : Int) < cS C 0 → ∀ (n q : Nat) (m : Int), (q : Int) + n = cS C 0 → Msk 8 m (swp (metA C) s q) → Wx g y_Ru_joinedTo Z K 17 [vR u, vI p, vI m, vI (rd : Int), vI (q : Int)] [] σ := by
    intro Z rd s H hrd n
    induction n with
    | zero =>
      intro q m hn Hm
      have e : (cS C 0).toNat = q := by omega
      rw [e] at H
      refine x_iload (dat d_Ru_joinedTo 12 rfl) rfl ?_
      refine x_aload_n (dat d_Ru_joinedTo 13 rfl) rfl rfl ?_
      refine x_geti (ji := 0) (v := cS C 0) (dat d_Ru_joinedTo 14 rfl) rfl f_Ru_46 (ru_oi_0 hu) (e0) ?_
      refine x_icmp_ge (tgt := 50) (dat d_Ru_joinedTo 15 rfl) (by decide) (fun c_23 => ?_) (fun c_23 => (by omega))
      refine x_iinc (v' := ((rd + 1 : Nat) : Int)) (L' := [vR u, vI p, vI m, vI ((rd + 1 : Nat) : Int), vI (q : Int)]) (dat d_Ru_joinedTo 30 rfl) rfl (by decide) rfl (by omega) (by omega) rfl ?_
      refine x_goto (tgt := 6) (dat d_Ru_joinedTo 31 rfl) (by decide) ?_
      exact H m _ Hm
    | succ n ih =>
      intro q m hn Hm
      have bt := Hm.get (by decide) (p := (q : Int)) (by omega) (by omega)
      cases hw : swp (metA C) s q q
      · rw [hw] at bt
        refine x_iload (dat d_Ru_joinedTo 12 rfl) rfl ?_
        refine x_aload_n (dat d_Ru_joinedTo 13 rfl) rfl rfl ?_
        refine x_geti (ji := 0) (v := cS C 0) (dat d_Ru_joinedTo 14 rfl) rfl f_Ru_46 (ru_oi_0 hu) (e0) ?_
        refine x_icmp_ge (tgt := 50) (dat d_Ru_joinedTo 15 rfl) (by decide) (fun c_23 => (by omega)) (fun c_23 => ?_)
        refine x_iload_n (dat d_Ru_joinedTo 16 rfl) rfl rfl ?_
        refine x_iload (dat d_Ru_joinedTo 17 rfl) rfl ?_
        refine x_ishr (v := ishr m (q : Int)) (dat d_Ru_joinedTo 18 rfl) rfl ?_
        refine x_iconst (dat d_Ru_joinedTo 19 rfl) (by decide) ?_
        refine x_iand (v := 0) (dat d_Ru_joinedTo 20 rfl) (by rw [bt]; rfl) ?_
        refine x_if_eq (tgt := 44) (dat d_Ru_joinedTo 21 rfl) (by decide) (fun c_32 => ?_) (fun h => absurd h (by decide))
        refine x_iinc (v' := ((q + 1 : Nat) : Int)) (L' := [vR u, vI p, vI m, vI (rd : Int), vI ((q + 1 : Nat) : Int)]) (dat d_Ru_joinedTo 28 rfl) rfl (by decide) rfl (by omega) (by omega) rfl ?_
        refine x_goto (tgt := 17) (dat d_Ru_joinedTo 29 rfl) (by decide) ?_
        refine ih (q + 1) m (by omega) (Hm.congr (fun r _ _ => ?_))
        simp only [swp]
        rw [hw, Bool.false_and, Bool.or_false]
      · rw [hw] at bt
        refine x_iload (dat d_Ru_joinedTo 12 rfl) rfl ?_
        refine x_aload_n (dat d_Ru_joinedTo 13 rfl) rfl rfl ?_
        refine x_geti (ji := 0) (v := cS C 0) (dat d_Ru_joinedTo 14 rfl) rfl f_Ru_46 (ru_oi_0 hu) (e0) ?_
        refine x_icmp_ge (tgt := 50) (dat d_Ru_joinedTo 15 rfl) (by decide) (fun c_23 => (by omega)) (fun c_23 => ?_)
        refine x_iload_n (dat d_Ru_joinedTo 16 rfl) rfl rfl ?_
        refine x_iload (dat d_Ru_joinedTo 17 rfl) rfl ?_
        refine x_ishr (v := ishr m (q : Int)) (dat d_Ru_joinedTo 18 rfl) rfl ?_
        refine x_iconst (dat d_Ru_joinedTo 19 rfl) (by decide) ?_
        refine x_iand (v := 1) (dat d_Ru_joinedTo 20 rfl) (by rw [bt]; rfl) ?_
        refine x_if_eq (tgt := 44) (dat d_Ru_joinedTo 21 rfl) (by decide) (fun h => absurd h (by decide)) (fun c_32 => ?_)
        refine x_iload_n (dat d_Ru_joinedTo 22 rfl) rfl rfl ?_
        refine x_aload_n (dat d_Ru_joinedTo 23 rfl) rfl rfl ?_
        refine x_iload (dat d_Ru_joinedTo 24 rfl) rfl ?_
        refine x_inv (As := [vI (q : Int)]) (dat d_Ru_joinedTo 25 rfl) rfl c_Ru_metEver l_Ru_133 (by decide) (rv_ru (ru_k hu)) rfl rfl (Nat.le_of_ble_eq_true rfl) ?_
        refine sp_Ru_metEver hu hC R (by omega) (by omega) (fun m2 hm2 => ?_)
        show Wx g y_Ru_joinedTo Z K 42 [vR u, vI p, vI m, vI (rd : Int), vI (q : Int)] [vI m2, vI m] σ
        refine x_ior (v := ior m m2) (dat d_Ru_joinedTo 26 rfl) rfl ?_
        refine x_istore_n (L' := [vR u, vI p, vI (ior m m2), vI (rd : Int), vI (q : Int)]) (dat d_Ru_joinedTo 27 rfl) rfl (by decide) rfl rfl ?_
        refine x_iinc (v' := ((q + 1 : Nat) : Int)) (L' := [vR u, vI p, vI (ior m m2), vI (rd : Int), vI ((q + 1 : Nat) : Int)]) (dat d_Ru_joinedTo 28 rfl) rfl (by decide) rfl (by omega) (by omega) rfl ?_
        refine x_goto (tgt := 17) (dat d_Ru_joinedTo 29 rfl) (by decide) ?_
        refine ih (q + 1) _ (by omega) ((Hm.lor (by decide) hm2).congr (fun r _ _ => ?_))
        simp only [swp]
        rw [hw, Bool.true_and]
  have lo : ∀ (Z : xZ) (n rd : Nat) (m : Int) (w4 : MV), (rd : Int) + n = cS C 0 → Msk 8 m (swpN (metA C) (cS C 0).toNat (fun q => decide (q = p)) rd) → Wx g y_Ru_joinedTo Z K 6 [vR u, vI p, vI m, vI (rd : Int), w4] [] σ := by
    intro Z n
    induction n with
    | zero =>
      intro rd m w4 hn Hm
      refine x_iload_n (dat d_Ru_joinedTo 6 rfl) rfl rfl ?_
      refine x_aload_n (dat d_Ru_joinedTo 7 rfl) rfl rfl ?_
      refine x_geti (ji := 0) (v := cS C 0) (dat d_Ru_joinedTo 8 rfl) rfl f_Ru_46 (ru_oi_0 hu) (e0) ?_
      refine x_icmp_ge (tgt := 56) (dat d_Ru_joinedTo 9 rfl) (by decide) (fun c_11 => ?_) (fun c_11 => (by omega))
      refine x_iload_n (dat d_Ru_joinedTo 32 rfl) rfl rfl ?_
      refine x_iret (dat d_Ru_joinedTo 33 rfl) rfl ?_
      exact k _ (Hm.congr (fun q _ _ => joi_any hC p0 p1 (by omega) q))
    | succ n ih =>
      intro rd m w4 hn Hm
      refine x_iload_n (dat d_Ru_joinedTo 6 rfl) rfl rfl ?_
      refine x_aload_n (dat d_Ru_joinedTo 7 rfl) rfl rfl ?_
      refine x_geti (ji := 0) (v := cS C 0) (dat d_Ru_joinedTo 8 rfl) rfl f_Ru_46 (ru_oi_0 hu) (e0) ?_
      refine x_icmp_ge (tgt := 56) (dat d_Ru_joinedTo 9 rfl) (by decide) (fun c_11 => (by omega)) (fun c_11 => ?_)
      refine x_iconst (dat d_Ru_joinedTo 10 rfl) (by decide) ?_
      refine x_istore (L' := [vR u, vI p, vI m, vI (rd : Int), vI 0]) (dat d_Ru_joinedTo 11 rfl) (by decide) rfl rfl ?_
      exact li Z rd (swpN (metA C) (cS C 0).toNat (fun q => decide (q = p)) rd) (fun m' w4' hm' => ih (rd + 1) m' w4' (by omega) hm') (by omega) (cS C 0).toNat 0 m (by omega) Hm
  refine x_enter 3 rfl rfl rfl (fun Z => ?_)
  show Wx g y_Ru_joinedTo Z K 0 [vR u, vI p, vU, vU, vU] [] σ
  refine x_iconst (dat d_Ru_joinedTo 0 rfl) (by decide) ?_
  refine x_iload_n (dat d_Ru_joinedTo 1 rfl) rfl rfl ?_
  refine x_ishl (v := ishl 1 p) (dat d_Ru_joinedTo 2 rfl) rfl ?_
  refine x_istore_n (L' := [vR u, vI p, vI (ishl 1 p), vU, vU]) (dat d_Ru_joinedTo 3 rfl) rfl (by decide) rfl rfl ?_
  refine x_iconst (dat d_Ru_joinedTo 4 rfl) (by decide) ?_
  refine x_istore_n (L' := [vR u, vI p, vI (ishl 1 p), vI 0, vU]) (dat d_Ru_joinedTo 5 rfl) rfl (by decide) rfl rfl ?_
  exact lo Z (cS C 0).toNat 0 _ _ (by omega) (Msk.one (n := 8) (by decide) p0 (by omega))
theorem sp_Ru_parts {g : xG} {K : Option MV → xS → Prop} {σ : xS} {u : Nat} {C : Cf} (hu : IsRu u) (hC : CfOk C) (R : RunS σ u C 0 (cH C)) (k : K (some (vI (pts C (cS C 0).toNat).2)) σ) : Mt g y_Ru_parts [vR u] σ K := by
  have hH := cH_eq hC
  have h8 := hC.2.1
  have hP := hC.1
  have e0 : σ u 0 = cS C 0 := R.1.1
  have hsh : 1 ≤ ishl 1 (cS C 0) ∧ ishl 1 (cS C 0) ≤ 256 := ishl_bd (n := 8) hP (by omega) (by decide)
  have fl := Msk.full (n := 8) (by decide) hP (by omega)
  have lp : ∀ (Z : xZ) (n p : Nat) (m : Int), (p : Int) + n = cS C 0 → Msk 8 m (fun q => decide (q < cS C 0) && !(pts C p).1 q) → Wx g y_Ru_parts Z K 13 [vR u, vI m, vI (pts C p).2, vI (p : Int)] [] σ := by
    intro Z n
    induction n with
    | zero =>
      intro p m hn Hm
      have e : (cS C 0).toNat = p := by omega
      rw [e] at k
      refine x_iload_n (dat d_Ru_parts 11 rfl) rfl rfl ?_
      refine x_aload_n (dat d_Ru_parts 12 rfl) rfl rfl ?_
      refine x_geti (ji := 0) (v := cS C 0) (dat d_Ru_parts 13 rfl) rfl f_Ru_46 (ru_oi_0 hu) (e0) ?_
      refine x_icmp_ge (tgt := 48) (dat d_Ru_parts 14 rfl) (by decide) (fun c_18 => ?_) (fun c_18 => (by omega))
      refine x_iload_n (dat d_Ru_parts 32 rfl) rfl rfl ?_
      refine x_iret (dat d_Ru_parts 33 rfl) rfl ?_
      exact k
    | succ n ih =>
      intro p m hn Hm
      have bt := Hm.get (by decide) (p := (p : Int)) (by omega) (by omega)
      have pb := pts_bd C p
      have hlt : decide ((p : Int) < cS C 0) = true := decide_eq_true (by omega)
      cases hw : (pts C p).1 p
      · have bt : iand (ishr m p) 1 = 1 := by rw [bt, hlt, hw]; rfl
        have e2 : pts C (p + 1) = (fun q => (pts C p).1 q || joi C p q, (pts C p).2 + 1) := by simp only [pts]; rw [if_neg (by rw [hw]; decide)]
        refine x_iload_n (dat d_Ru_parts 11 rfl) rfl rfl ?_
        refine x_aload_n (dat d_Ru_parts 12 rfl) rfl rfl ?_
        refine x_geti (ji := 0) (v := cS C 0) (dat d_Ru_parts 13 rfl) rfl f_Ru_46 (ru_oi_0 hu) (e0) ?_
        refine x_icmp_ge (tgt := 48) (dat d_Ru_parts 14 rfl) (by decide) (fun c_18 => (by omega)) (fun c_18 => ?_)
        refine x_iload_n (dat d_Ru_parts 15 rfl) rfl rfl ?_
        refine x_iload_n (dat d_Ru_parts 16 rfl) rfl rfl ?_
        refine x_ishr (v := ishr m (p : Int)) (dat d_Ru_parts 17 rfl) rfl ?_
        refine x_iconst (dat d_Ru_parts 18 rfl) (by decide) ?_
        refine x_iand (v := 1) (dat d_Ru_parts 19 rfl) (by rw [bt]) ?_
        refine x_if_eq (tgt := 42) (dat d_Ru_parts 20 rfl) (by decide) (fun h => absurd h (by decide)) (fun c_26 => ?_)
        refine x_iload_n (dat d_Ru_parts 21 rfl) rfl rfl ?_
        refine x_aload_n (dat d_Ru_parts 22 rfl) rfl rfl ?_
        refine x_iload_n (dat d_Ru_parts 23 rfl) rfl rfl ?_
        refine x_inv (As := [vI (p : Int)]) (dat d_Ru_parts 24 rfl) rfl c_Ru_joinedTo l_Ru_136 (by decide) (rv_ru (ru_k hu)) rfl rfl (Nat.le_of_ble_eq_true rfl) ?_
        refine sp_Ru_joinedTo hu hC R (by omega) (by omega) (fun m2 hm2 => ?_)
        show Wx g y_Ru_parts Z K 35 [vR u, vI m, vI ((pts C p).2), vI (p : Int)] [vI m2, vI m] σ
        refine x_iconst (dat d_Ru_parts 25 rfl) (by decide) ?_
        refine x_ixor (v := ixor m2 (-1)) (dat d_Ru_parts 26 rfl) rfl ?_
        refine x_iand (v := iand m (ixor m2 (-1))) (dat d_Ru_parts 27 rfl) rfl ?_
        refine x_istore_n (L' := [vR u, vI (iand m (ixor m2 (-1))), vI ((pts C p).2), vI (p : Int)]) (dat d_Ru_parts 28 rfl) rfl (by decide) rfl rfl ?_
        refine x_iinc (v' := ((pts C p).2) + 1) (L' := [vR u, vI (iand m (ixor m2 (-1))), vI (((pts C p).2) + 1), vI (p : Int)]) (dat d_Ru_parts 29 rfl) rfl (by decide) rfl rfl (by omega) rfl ?_
        refine x_iinc (v' := ((p + 1 : Nat) : Int)) (L' := [vR u, vI (iand m (ixor m2 (-1))), vI (((pts C p).2) + 1), vI ((p + 1 : Nat) : Int)]) (dat d_Ru_parts 30 rfl) rfl (by decide) rfl (by omega) (by omega) rfl ?_
        refine x_goto (tgt := 13) (dat d_Ru_parts 31 rfl) (by decide) ?_
        have := ih (p + 1) (iand m (ixor m2 (-1))) (by omega) ((Hm.andn (by decide) hm2).congr (fun r _ _ => by rw [e2]; simp only [Bool.not_or, Bool.and_assoc]))
        rw [e2] at this
        exact this
      · have bt : iand (ishr m p) 1 = 0 := by rw [bt, hlt, hw]; rfl
        have e2 : pts C (p + 1) = pts C p := by simp only [pts]; rw [if_pos hw]
        refine x_iload_n (dat d_Ru_parts 11 rfl) rfl rfl ?_
        refine x_aload_n (dat d_Ru_parts 12 rfl) rfl rfl ?_
        refine x_geti (ji := 0) (v := cS C 0) (dat d_Ru_parts 13 rfl) rfl f_Ru_46 (ru_oi_0 hu) (e0) ?_
        refine x_icmp_ge (tgt := 48) (dat d_Ru_parts 14 rfl) (by decide) (fun c_18 => (by omega)) (fun c_18 => ?_)
        refine x_iload_n (dat d_Ru_parts 15 rfl) rfl rfl ?_
        refine x_iload_n (dat d_Ru_parts 16 rfl) rfl rfl ?_
        refine x_ishr (v := ishr m (p : Int)) (dat d_Ru_parts 17 rfl) rfl ?_
        refine x_iconst (dat d_Ru_parts 18 rfl) (by decide) ?_
        refine x_iand (v := 0) (dat d_Ru_parts 19 rfl) (by rw [bt]) ?_
        refine x_if_eq (tgt := 42) (dat d_Ru_parts 20 rfl) (by decide) (fun c_26 => ?_) (fun h => absurd h (by decide))
        refine x_iinc (v' := ((p + 1 : Nat) : Int)) (L' := [vR u, vI m, vI ((pts C p).2), vI ((p + 1 : Nat) : Int)]) (dat d_Ru_parts 30 rfl) rfl (by decide) rfl (by omega) (by omega) rfl ?_
        refine x_goto (tgt := 13) (dat d_Ru_parts 31 rfl) (by decide) ?_
        have := ih (p + 1) m (by omega) (by rw [e2]; exact Hm)
        rw [e2] at this
        exact this
  refine x_enter 3 rfl rfl rfl (fun Z => ?_)
  show Wx g y_Ru_parts Z K 0 [vR u, vU, vU, vU] [] σ
  refine x_iconst (dat d_Ru_parts 0 rfl) (by decide) ?_
  refine x_aload_n (dat d_Ru_parts 1 rfl) rfl rfl ?_
  refine x_geti (ji := 0) (v := cS C 0) (dat d_Ru_parts 2 rfl) rfl f_Ru_46 (ru_oi_0 hu) (e0) ?_
  refine x_ishl (v := ishl 1 (cS C 0)) (dat d_Ru_parts 3 rfl) rfl ?_
  refine x_iconst (dat d_Ru_parts 4 rfl) (by decide) ?_
  refine x_isub (v := (ishl 1 (cS C 0)) - 1) (dat d_Ru_parts 5 rfl) rfl (by omega) ?_
  refine x_istore_n (L' := [vR u, vI ((ishl 1 (cS C 0)) - 1), vU, vU]) (dat d_Ru_parts 6 rfl) rfl (by decide) rfl rfl ?_
  refine x_iconst (dat d_Ru_parts 7 rfl) (by decide) ?_
  refine x_istore_n (L' := [vR u, vI ((ishl 1 (cS C 0)) - 1), vI 0, vU]) (dat d_Ru_parts 8 rfl) rfl (by decide) rfl rfl ?_
  refine x_iconst (dat d_Ru_parts 9 rfl) (by decide) ?_
  refine x_istore_n (L' := [vR u, vI ((ishl 1 (cS C 0)) - 1), vI 0, vI 0]) (dat d_Ru_parts 10 rfl) rfl (by decide) rfl rfl ?_
  exact lp Z (cS C 0).toNat 0 _ (by omega) (fl.congr (fun q _ _ => by simp [pts]))
