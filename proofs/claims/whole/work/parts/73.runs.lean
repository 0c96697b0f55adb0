/-! the twin: a run -/
def twQ (C : Cf) (s0 : Int → Bool) (n : Nat) (w : Int → Bool) : Int → Bool := (pev (hev C n) (lof C n (rst C n).1, w)).2
/-- its paint ahead of hour n -/
def twP (C : Cf) (s0 : Int → Bool) : Nat → Int → Bool
  | 0 => s0
  | n + 1 => fun q => if eats C n = true then twQ C s0 n (twP C s0 n) q && !(fedB C (hmi C n).1 (rst C n).2 q && decide ((hmi C n).1 q - cS C 3 = 0)) else twQ C s0 n (twP C s0 n) q
/-- and behind its hands -/
def twM (C : Cf) (s0 : Int → Bool) (n : Nat) : Int → Bool := twQ C s0 n (twP C s0 n)
def bitT (C : Cf) (s0 : Int → Bool) (h : Nat) : Prop := eats C h = true ∧ (0 < cS C 3 ∧ anyN (fun q => fedB C (hmi C h).1 (rst C h).2 q && twM C s0 h q) (cS C 0).toNat = true)
def ilT (C : Cf) (dr : Bool) (kc : Int) (i0 : Int × (Int → Bool)) (n : Nat) : Int × (Int → Bool) := (lgs C 0 n).foldr (ilE dr (cGl C) kc) i0
def nwT (C : Cf) (n0 : Int → Bool) (n : Nat) : Int → Bool := (lgs C 0 n).foldr (rchE (fun _ => false)) n0
theorem ilT_s (C : Cf) (dr : Bool) (kc : Int) (i0 : Int × (Int → Bool)) (n : Nat) : ilT C dr kc i0 (n + 1) = (hev C n).foldr (ilE dr (cGl C) kc) (ilT C dr kc i0 n) := by unfold ilT; rw [lgs_0s, List.foldr_append]
theorem nwT_s (C : Cf) (n0 : Int → Bool) (n : Nat) : nwT C n0 (n + 1) = (hev C n).foldr (rchE (fun _ => false)) (nwT C n0 n) := by unfold nwT; rw [lgs_0s, List.foldr_append]
/-- what it holds of now, n hours gone -/
def TwN (σ : xS) (C : Cf) (s0 : Int → Bool) (i0 : Int × (Int → Bool)) (n0 : Int → Bool) (dr : Bool) (kc : Int) (n : Nat) : Prop :=
  (Msk 8 (σ 174 35) (rst C n).2 ∧ Msk 8 (σ 174 36) (twP C s0 n) ∧ (Msk 8 (σ 174 37) (ilT C dr kc i0 n).2 ∧ σ 174 40 = (ilT C dr kc i0 n).1) ∧ Msk 8 (σ 174 52) (nwT C n0 n) ∧ FirstH (bitT C s0) n (σ 174 38)) ∧
  ∀ p : Int, 0 ≤ p → p < cS C 0 → σ 180 p = (rst C n).1 p ∧ σ 192 p = sumN (shN C p) n ∧ σ 193 p = sumN (eatP C p) n ∧ FirstH (fun h => (rst C (h + 1)).2 p = false) n (σ 191 p) ∧ Msk 8 (σ 194 p) (metB (lgs C 0 n) p)
/-- what it holds of an hour: of its hands and its meal -/
def TwA (σ : xS) (C : Cf) (h : Nat) : Prop := (∀ p : Int, 0 ≤ p → p < cS C 0 → Msk 8 (σ 183 (8 * h + p)) (metB (hev C h) p) ∧ σ 184 (8 * h + p) = cameI (hev C h) p) ∧ σ 185 h = (hev C h).length ∧ σ 186 h = goneI (hev C h) ∧ σ 187 h = eatN C h
/-- and of how it ends -/
def TwB (σ : xS) (C : Cf) (s0 : Int → Bool) (i0 : Int × (Int → Bool)) (n0 : Int → Bool) (dr : Bool) (kc : Int) (h : Nat) : Prop := (∀ p : Int, 0 ≤ p → p < cS C 0 → σ 181 (8 * h + p) = (rst C (h + 1)).1 p ∧ σ 182 (8 * h + p) = if (rst C (h + 1)).2 p = true then 1 else 0) ∧ Msk 8 (σ 188 h) (twP C s0 (h + 1)) ∧ Msk 8 (σ 189 h) (ilT C dr kc i0 (h + 1)).2 ∧ Msk 8 (σ 190 h) (nwT C n0 (h + 1))
def TwR (σ0 σ : xS) (C : Cf) (s0 : Int → Bool) (i0 : Int × (Int → Bool)) (n0 : Int → Bool) (dr : Bool) (kc : Int) (n : Nat) : Prop :=
  TwN σ C s0 i0 n0 dr kc n ∧ (∀ h : Nat, h < n → TwA σ C h) ∧ (∀ h : Nat, h < n → TwB σ C s0 i0 n0 dr kc h) ∧ MvF σ σ0
theorem TwA.same {σ σ' : xS} {C : Cf} {h n : Nat} (H : TwA σ C h) (hn : h < n) (hP : cS C 0 ≤ 8) (e3 : ∀ j : Int, j < 8 * n → σ' 183 j = σ 183 j ∧ σ' 184 j = σ 184 j) (e5 : ∀ j : Int, j < n → σ' 185 j = σ 185 j ∧ σ' 186 j = σ 186 j ∧ σ' 187 j = σ 187 j) : TwA σ' C h := by
  obtain ⟨h1, h2, h3, h4⟩ := H
  have := e5 h (by omega)
  exact ⟨fun p p0 p1 => by rw [(e3 _ (by omega)).1, (e3 _ (by omega)).2]; exact h1 p p0 p1, by rw [this.1]; exact h2, by rw [this.2.1]; exact h3, by rw [this.2.2]; exact h4⟩
theorem TwB.same {σ σ' : xS} {C : Cf} {s0 : Int → Bool} {i0 : Int × (Int → Bool)} {n0 : Int → Bool} {dr : Bool} {kc : Int} {h n : Nat} (H : TwB σ C s0 i0 n0 dr kc h) (hn : h < n) (hP : cS C 0 ≤ 8) (e1 : ∀ j : Int, j < 8 * n → σ' 181 j = σ 181 j ∧ σ' 182 j = σ 182 j) (e8 : ∀ j : Int, j < n → σ' 188 j = σ 188 j ∧ σ' 189 j = σ 189 j ∧ σ' 190 j = σ 190 j) : TwB σ' C s0 i0 n0 dr kc h := by
  obtain ⟨h1, h2, h3, h4⟩ := H
  have := e8 h (by omega)
  exact ⟨fun p p0 p1 => by rw [(e1 _ (by omega)).1, (e1 _ (by omega)).2]; exact h1 p p0 p1, by rw [this.1]; exact h2, by rw [this.2.1]; exact h3, by rw [this.2.2]; exact h4⟩
theorem FirstH.yes {bad : Nat → Prop} {n : Nat} {v : Int} (h : FirstH bad n v) (hv : v = -1) (hb : bad n) : FirstH bad (n + 1) n := by
  rcases h with ⟨-, h2⟩ | ⟨m, m1, m2, -⟩
  · exact Or.inr ⟨n, by omega, rfl, hb, fun q hq => h2 q hq⟩
  · exfalso; omega
theorem FirstH.no {bad : Nat → Prop} {n : Nat} {v : Int} (h : FirstH bad n v) (hb : v = -1 → ¬ bad n) : FirstH bad (n + 1) v := by
  rcases h with ⟨h1, h2⟩ | ⟨m, m1, m2, m3⟩
  · refine Or.inl ⟨h1, fun q hq => ?_⟩
    by_cases z : q = n
    · subst z; exact hb h1
    · exact h2 q (by omega)
  · exact Or.inr ⟨m, by omega, m2, m3⟩
theorem rst_dn {C : Cf} {p : Int} : ∀ (n m : Nat), m ≤ n → (rst C n).2 p = true → (rst C m).2 p = true
  | 0, m, hm, h => by
    have : m = 0 := by omega
    subst this; exact h
  | n + 1, m, hm, h => by
    by_cases z : m = n + 1
    · subst z; exact h
    · refine rst_dn n m (by omega) ?_
      have e : rst C (n + 1) = hst C n (rst C n) := rfl
      rw [e] at h
      unfold hst at h
      by_cases he : eats C n = true
      · rw [if_pos he, if_pos he] at h
        unfold eatA at h
        simp only [Bool.and_eq_true] at h
        exact h.1
      · rw [if_neg he, if_neg he] at h
        exact h
theorem cntN_z : ∀ n : Nat, cntN (fun _ => false) n = 0
  | 0 => rfl
  | n + 1 => by
    show cntN (fun _ => false) n + (if false = true then 1 else 0) = 0
    rw [cntN_z n, if_neg (by decide)]; rfl
theorem cntN_to {f : Int → Bool} {m : Nat} (hf : ∀ p : Int, m ≤ p → f p = false) : ∀ n : Nat, m ≤ n → cntN f n = cntN f m
  | 0, h => by
    have : m = 0 := by omega
    subst this; rfl
  | n + 1, h => by
    by_cases z : m = n + 1
    · subst z; rfl
    · show cntN f n + (if f n = true then 1 else 0) = cntN f m
      rw [cntN_to hf n (by omega), hf n (by omega), if_neg (by decide), Int.add_zero]
section
variable {g : xG} {K : Option MV → xS → Prop} {σ : xS} {t : Int → Int} {t0 : Int} {C : Cf} {s0 n0 : Int → Bool} {i0 : Int × (Int → Bool)} {dr : Bool} {kc : Int} {n : Nat}
def ZrM (σ0 σ : xS) (h i : Int) : Prop := (∀ q : Int, 0 ≤ q → q < i → σ 183 (8 * h + q) = 0 ∧ σ 184 (8 * h + q) = 0) ∧ (∀ j : Int, j < 8 * h → σ 183 j = σ0 183 j ∧ σ 184 j = σ0 184 j) ∧ (∀ o : Nat, o ≠ 183 → o ≠ 184 → σ o = σ0 o)
theorem lp_Mo_zero {Z : xZ} {σ0 : xS} {w3 : MV} (hn : n < 24)
    (k : ∀ σ' : xS, ZrM σ0 σ' n 8 → Wx g y_Mo_runs Z K 74 [vR 174, vI (n : Int), vI 8, w3] [] σ') : ∀ (d : Nat) (i : Int) (σ1 : xS), 0 ≤ i → i + d = 8 → ZrM σ0 σ1 n i → Wx g y_Mo_runs Z K 38 [vR 174, vI (n : Int), vI i, w3] [] σ1 := by
  intro d
  induction d with
  | zero =>
    intro i σ1 q0 q1 H
    have e : i = 8 := by omega
    subst e
    refine x_iload_n (dat d_Mo_runs 26 rfl) rfl rfl ?_
    refine x_bipush (dat d_Mo_runs 27 rfl) (by decide) (by decide) ?_
    refine x_icmp_ge (tgt := 74) (dat d_Mo_runs 28 rfl) (by decide) (fun c_41 => ?_) (fun h => absurd h (by decide))
    exact k _ H
  | succ d ih =>
    intro i σ1 q0 q1 H
    refine x_iload_n (dat d_Mo_runs 26 rfl) rfl rfl ?_
    refine x_bipush (dat d_Mo_runs 27 rfl) (by decide) (by decide) ?_
    refine x_icmp_ge (tgt := 74) (dat d_Mo_runs 28 rfl) (by decide) (fun c_41 => (by omega)) (fun c_41 => ?_)
    refine x_aload_n (dat d_Mo_runs 29 rfl) rfl rfl ?_
    refine x_getr (r := 183) (dat d_Mo_runs 30 rfl) rfl f_Mo_35 (or_mk (by decide +kernel)) ?_
    refine x_bipush (dat d_Mo_runs 31 rfl) (by decide) (by decide) ?_
    refine x_iload_n (dat d_Mo_runs 32 rfl) rfl rfl ?_
    refine x_imul (v := 8 * (n : Int)) (dat d_Mo_runs 33 rfl) (by omega) (by omega) ?_
    refine x_iload_n (dat d_Mo_runs 34 rfl) rfl rfl ?_
    refine x_iadd (v := (8 * (n : Int)) + i) (dat d_Mo_runs 35 rfl) rfl (by omega) ?_
    refine x_iconst (dat d_Mo_runs 36 rfl) (by decide) ?_
    refine x_iast (n := 192) (dat d_Mo_runs 37 rfl) (ai_mk (by decide +kernel)) (by omega) (by omega) ?_
    refine x_aload_n (dat d_Mo_runs 38 rfl) rfl rfl ?_
    refine x_getr (r := 184) (dat d_Mo_runs 39 rfl) rfl f_Mo_38 (or_mk (by decide +kernel)) ?_
    refine x_bipush (dat d_Mo_runs 40 rfl) (by decide) (by decide) ?_
    refine x_iload_n (dat d_Mo_runs 41 rfl) rfl rfl ?_
    refine x_imul (v := 8 * (n : Int)) (dat d_Mo_runs 42 rfl) (by omega) (by omega) ?_
    refine x_iload_n (dat d_Mo_runs 43 rfl) rfl rfl ?_
    refine x_iadd (v := (8 * (n : Int)) + i) (dat d_Mo_runs 44 rfl) rfl (by omega) ?_
    refine x_iconst (dat d_Mo_runs 45 rfl) (by decide) ?_
    refine x_iast (n := 192) (dat d_Mo_runs 46 rfl) (ai_mk (by decide +kernel)) (by omega) (by omega) ?_
    refine x_iinc (v' := i + 1) (L' := [vR 174, vI (n : Int), vI (i + 1), w3]) (dat d_Mo_runs 47 rfl) rfl (by decide) rfl rfl (by omega) rfl ?_
    refine x_goto (tgt := 38) (dat d_Mo_runs 48 rfl) (by decide) ?_
    refine ih (i + 1) _ (by omega) (by omega) ⟨fun q r0 r1 => ?_, fun j r0 => ⟨?_, ?_⟩, fun o r0 r1 => by rw [up_ne r1, up_ne r0]; exact H.2.2 o r0 r1⟩
    · by_cases e : q = i
      · subst e
        exact ⟨by rw [up_nk (by omega), up_s], by rw [up_s]⟩
      · rw [up_nk (by omega), up_ni (by omega), up_ni (by omega), up_nk (by omega)]
        exact H.1 q r0 (by omega)
    · rw [up_nk (by omega), up_ni (by omega)]
      exact (H.2.1 j r0).1
    · rw [up_ni (by omega), up_nk (by omega)]
      exact (H.2.1 j r0).2
def CpM (σ0 σ : xS) (al : Int → Bool) (h i : Int) : Prop := (∀ q : Int, 0 ≤ q → q < i → σ 181 (8 * h + q) = σ0 180 q ∧ σ 182 (8 * h + q) = if al q = true then 1 else 0) ∧ (∀ j : Int, j < 8 * h → σ 181 j = σ0 181 j ∧ σ 182 j = σ0 182 j) ∧ (∀ o : Nat, o ≠ 181 → o ≠ 182 → σ o = σ0 o)
theorem lp_Mo_cpy {Z : xZ} {σ0 : xS} {w3 : MV} {al : Int → Bool} (hn : n < 24) (H0 : MoC σ0 t t0 C) (hal : Msk 8 (σ0 174 35) al) (hb : ∀ p : Int, 0 ≤ p → p < t 6 → 0 ≤ σ0 180 p ∧ σ0 180 p ≤ 1000)
    (k : ∀ σ' : xS, CpM σ0 σ' al n (t 6) → Wx g y_Mo_runs Z K 217 [vR 174, vI (n : Int), vI (t 6), w3] [] σ') : ∀ (d : Nat) (i : Int) (σ1 : xS), 0 ≤ i → i + d = t 6 → CpM σ0 σ1 al n i → Wx g y_Mo_runs Z K 167 [vR 174, vI (n : Int), vI i, w3] [] σ1 := by
  have h6 := H0.1.2.2.2.2.2.2.2.1
  intro d
  induction d with
  | zero =>
    intro i σ1 q0 q1 H
    have e : i = t 6 := by omega
    subst e
    have M1 : MoT σ1 t t0 := H0.1.1.same (by rw [H.2.2 174 (by decide) (by decide)]) (H.2.2 175 (by decide) (by decide))
    refine x_iload_n (dat d_Mo_runs 104 rfl) rfl rfl ?_
    refine x_aload_n (dat d_Mo_runs 105 rfl) rfl rfl ?_
    refine x_inv (As := []) (dat d_Mo_runs 106 rfl) rfl c_Mo_people l_Mo_202 (by decide) (rv_mo (by decide +kernel)) rfl rfl (Nat.le_of_ble_eq_true rfl) ?_
    refine sp_Mo_people M1 ?_
    show Wx g y_Mo_runs Z K 172 [vR 174, vI (n : Int), vI (t 6), w3] [vI (t 6), vI (t 6)] σ1
    refine x_icmp_ge (tgt := 217) (dat d_Mo_runs 107 rfl) (by decide) (fun c_172 => ?_) (fun c_172 => (by omega))
    exact k _ H
  | succ d ih =>
    intro i σ1 q0 q1 H
    have M1 : MoT σ1 t t0 := H0.1.1.same (by rw [H.2.2 174 (by decide) (by decide)]) (H.2.2 175 (by decide) (by decide))
    have e8 : σ1 180 i = σ0 180 i := by rw [H.2.2 180 (by decide) (by decide)]
    have eg : iand (ishr (σ1 174 35) i) 1 = if al i = true then 1 else 0 := by rw [H.2.2 174 (by decide) (by decide)]; exact hal.get (by decide) q0 (show i < (8 : Nat) by omega)
    have bi := hb i q0 (by omega)
    obtain ⟨y, hy⟩ : ∃ y : Int, y = (if al i = true then 1 else 0) := ⟨_, rfl⟩
    rw [← hy] at eg
    have hy1 : 0 ≤ y ∧ y ≤ 1 := by rw [hy]; split <;> omega
    refine x_iload_n (dat d_Mo_runs 104 rfl) rfl rfl ?_
    refine x_aload_n (dat d_Mo_runs 105 rfl) rfl rfl ?_
    refine x_inv (As := []) (dat d_Mo_runs 106 rfl) rfl c_Mo_people l_Mo_202 (by decide) (rv_mo (by decide +kernel)) rfl rfl (Nat.le_of_ble_eq_true rfl) ?_
    refine sp_Mo_people M1 ?_
    show Wx g y_Mo_runs Z K 172 [vR 174, vI (n : Int), vI i, w3] [vI (t 6), vI i] σ1
    refine x_icmp_ge (tgt := 217) (dat d_Mo_runs 107 rfl) (by decide) (fun c_172 => (by omega)) (fun c_172 => ?_)
    refine x_aload_n (dat d_Mo_runs 108 rfl) rfl rfl ?_
    refine x_getr (r := 181) (dat d_Mo_runs 109 rfl) rfl f_Mo_29 (or_mk (by decide +kernel)) ?_
    refine x_bipush (dat d_Mo_runs 110 rfl) (by decide) (by decide) ?_
    refine x_iload_n (dat d_Mo_runs 111 rfl) rfl rfl ?_
    refine x_imul (v := 8 * (n : Int)) (dat d_Mo_runs 112 rfl) (by omega) (by omega) ?_
    refine x_iload_n (dat d_Mo_runs 113 rfl) rfl rfl ?_
    refine x_iadd (v := (8 * (n : Int)) + i) (dat d_Mo_runs 114 rfl) rfl (by omega) ?_
    refine x_aload_n (dat d_Mo_runs 115 rfl) rfl rfl ?_
    refine x_getr (r := 180) (dat d_Mo_runs 116 rfl) rfl f_Mo_26 (or_mk (by decide +kernel)) ?_
    refine x_iload_n (dat d_Mo_runs 117 rfl) rfl rfl ?_
    refine x_iald (n := 8) (v := σ0 180 i) (dat d_Mo_runs 118 rfl) (ai_mk (by decide +kernel)) (by omega) (by omega) (e8) ?_
    refine x_iast (n := 192) (dat d_Mo_runs 119 rfl) (ai_mk (by decide +kernel)) (by omega) (by omega) ?_
    refine x_aload_n (dat d_Mo_runs 120 rfl) rfl rfl ?_
    refine x_getr (r := 182) (dat d_Mo_runs 121 rfl) rfl f_Mo_32 (or_mk (by decide +kernel)) ?_
    refine x_bipush (dat d_Mo_runs 122 rfl) (by decide) (by decide) ?_
    refine x_iload_n (dat d_Mo_runs 123 rfl) rfl rfl ?_
    refine x_imul (v := 8 * (n : Int)) (dat d_Mo_runs 124 rfl) (by omega) (by omega) ?_
    refine x_iload_n (dat d_Mo_runs 125 rfl) rfl rfl ?_
    refine x_iadd (v := (8 * (n : Int)) + i) (dat d_Mo_runs 126 rfl) rfl (by omega) ?_
    refine x_aload_n (dat d_Mo_runs 127 rfl) rfl rfl ?_
    refine x_geti (ji := 35) (v := σ1 174 35) (dat d_Mo_runs 128 rfl) rfl f_Mo_286 (oi_mk (by decide +kernel)) (up_nk (by decide)) ?_
    refine x_iload_n (dat d_Mo_runs 129 rfl) rfl rfl ?_
    refine x_ishr (v := ishr (σ1 174 35) i) (dat d_Mo_runs 130 rfl) rfl ?_
    refine x_iconst (dat d_Mo_runs 131 rfl) (by decide) ?_
    refine x_iand (v := y) (dat d_Mo_runs 132 rfl) (by exact eg) ?_
    refine x_iast (n := 192) (dat d_Mo_runs 133 rfl) (ai_mk (by decide +kernel)) (by omega) (by omega) ?_
    refine x_iinc (v' := i + 1) (L' := [vR 174, vI (n : Int), vI (i + 1), w3]) (dat d_Mo_runs 134 rfl) rfl (by decide) rfl rfl (by omega) rfl ?_
    refine x_goto (tgt := 167) (dat d_Mo_runs 135 rfl) (by decide) ?_
    refine ih (i + 1) _ (by omega) (by omega) ⟨fun q r0 r1 => ?_, fun j r0 => ⟨?_, ?_⟩, fun o r0 r1 => by rw [up_ne r1, up_ne r0]; exact H.2.2 o r0 r1⟩
    · by_cases e : q = i
      · subst e
        exact ⟨by rw [up_nk (by omega), up_s], by rw [up_s]; exact hy⟩
      · rw [up_nk (by omega), up_ni (by omega), up_ni (by omega), up_nk (by omega)]
        exact H.1 q r0 (by omega)
    · rw [up_nk (by omega), up_ni (by omega)]
      exact (H.2.1 j r0).1
    · rw [up_ni (by omega), up_nk (by omega)]
      exact (H.2.1 j r0).2
/-- the hour's end -/
theorem lm_Mo_end {Z : xZ} {w2 w3 : MV} {σ4 : xS} (H0 : MoC σ t t0 C) (hn : (n : Int) < t 3) (N : TwN σ4 C s0 i0 n0 dr kc (n + 1)) (A : ∀ h : Nat, h < n + 1 → TwA σ4 C h) (B : ∀ h : Nat, h < n → TwB σ4 C s0 i0 n0 dr kc h) (F : MvF σ4 σ)
    (k : ∀ (σ' : xS) (w2 w3 : MV), TwR σ σ' C s0 i0 n0 dr kc (n + 1) → Wx g y_Mo_runs Z K 6 [vR 174, vI ((n + 1 : Nat) : Int), w2, w3] [] σ') : Wx g y_Mo_runs Z K 165 [vR 174, vI (n : Int), w2, w3] [] σ4 := by
  have M4 := H0.same F
  have hC := H0.2.1.2
  have eP := H0.P.1
  have e3 := H0.P.2.1
  have hH := hC.2.2.2.1
  have h6 := H0.1.2.2.2.2.2.2.2.1
  have hbo := rst_ok hC (n + 1)
  have htt := hC.tt (n + 1)
  have hbb : ∀ p : Int, 0 ≤ p → p < t 6 → 0 ≤ σ4 180 p ∧ σ4 180 p ≤ 1000 := fun p p0 p1 => by
    rw [(N.2 p p0 (by omega)).1]
    have := hbo.le p0 (by omega)
    omega
  have nx : ∀ (σ5 : xS), CpM σ4 σ5 (rst C (n + 1)).2 n (t 6) → Wx g y_Mo_runs Z K 217 [vR 174, vI (n : Int), vI (t 6), w3] [] σ5 := by
    intro σ5 P
    obtain ⟨P1, P2, P3⟩ := P
    have d1 : ∀ i : Int, σ5 174 i = σ4 174 i := fun i => by rw [P3 174 (by decide) (by decide)]
    refine x_aload_n (dat d_Mo_runs 136 rfl) rfl rfl ?_
    refine x_getr (r := 188) (dat d_Mo_runs 137 rfl) rfl f_Mo_50 (or_mk (by decide +kernel)) ?_
    refine x_iload_n (dat d_Mo_runs 138 rfl) rfl rfl ?_
    refine x_aload_n (dat d_Mo_runs 139 rfl) rfl rfl ?_
    refine x_geti (ji := 36) (v := σ5 174 36) (dat d_Mo_runs 140 rfl) rfl f_Mo_247 (oi_mk (by decide +kernel)) rfl ?_
    refine x_iast (n := 24) (dat d_Mo_runs 141 rfl) (ai_mk (by decide +kernel)) (by omega) (by omega) ?_
    refine x_aload_n (dat d_Mo_runs 142 rfl) rfl rfl ?_
    refine x_getr (r := 189) (dat d_Mo_runs 143 rfl) rfl f_Mo_53 (or_mk (by decide +kernel)) ?_
    refine x_iload_n (dat d_Mo_runs 144 rfl) rfl rfl ?_
    refine x_aload_n (dat d_Mo_runs 145 rfl) rfl rfl ?_
    refine x_geti (ji := 37) (v := σ5 174 37) (dat d_Mo_runs 146 rfl) rfl f_Mo_253 (oi_mk (by decide +kernel)) (up_nk (by decide)) ?_
    refine x_iast (n := 24) (dat d_Mo_runs 147 rfl) (ai_mk (by decide +kernel)) (by omega) (by omega) ?_
    refine x_aload_n (dat d_Mo_runs 148 rfl) rfl rfl ?_
    refine x_getr (r := 190) (dat d_Mo_runs 149 rfl) rfl f_Mo_56 (or_mk (by decide +kernel)) ?_
    refine x_iload_n (dat d_Mo_runs 150 rfl) rfl rfl ?_
    refine x_aload_n (dat d_Mo_runs 151 rfl) rfl rfl ?_
    refine x_geti (ji := 52) (v := σ5 174 52) (dat d_Mo_runs 152 rfl) rfl f_Mo_250 (oi_mk (by decide +kernel)) ((up_nk (by decide)).trans (up_nk (by decide))) ?_
    refine x_iast (n := 24) (dat d_Mo_runs 153 rfl) (ai_mk (by decide +kernel)) (by omega) (by omega) ?_
    refine x_iinc (v' := ((n + 1 : Nat) : Int)) (L' := [vR 174, vI ((n + 1 : Nat) : Int), vI (t 6), w3]) (dat d_Mo_runs 154 rfl) rfl (by decide) rfl (by omega) (by omega) rfl ?_
    refine x_goto (tgt := 6) (dat d_Mo_runs 155 rfl) (by decide) ?_
    have fo : ∀ o : Nat, o ≠ 181 → o ≠ 182 → o ≠ 188 → o ≠ 189 → o ≠ 190 → (up (up (up σ5 188 (n : Int) (σ5 174 36)) 189 (n : Int) (σ5 174 37)) 190 (n : Int) (σ5 174 52)) o = σ4 o := fun o o1 o2 o3 o4 o5 => by rw [up_ne o5, up_ne o4, up_ne o3]; exact P3 o o1 o2
    have f8 : ∀ j : Int, j ≠ n → (up (up (up σ5 188 (n : Int) (σ5 174 36)) 189 (n : Int) (σ5 174 37)) 190 (n : Int) (σ5 174 52)) 188 j = σ4 188 j ∧ (up (up (up σ5 188 (n : Int) (σ5 174 36)) 189 (n : Int) (σ5 174 37)) 190 (n : Int) (σ5 174 52)) 189 j = σ4 189 j ∧ (up (up (up σ5 188 (n : Int) (σ5 174 36)) 189 (n : Int) (σ5 174 37)) 190 (n : Int) (σ5 174 52)) 190 j = σ4 190 j := fun j hj => ⟨by rw [up_ne (by decide), up_ne (by decide), up_ni (Ne.symm hj), P3 188 (by decide) (by decide)], by rw [up_ne (by decide), up_ni (Ne.symm hj), up_ne (by decide), P3 189 (by decide) (by decide)], by rw [up_ni (Ne.symm hj), up_ne (by decide), up_ne (by decide), P3 190 (by decide) (by decide)]⟩
    have f1 : ∀ j : Int, (up (up (up σ5 188 (n : Int) (σ5 174 36)) 189 (n : Int) (σ5 174 37)) 190 (n : Int) (σ5 174 52)) 181 j = σ5 181 j ∧ (up (up (up σ5 188 (n : Int) (σ5 174 36)) 189 (n : Int) (σ5 174 37)) 190 (n : Int) (σ5 174 52)) 182 j = σ5 182 j := fun j => ⟨by rw [up_ne (by decide), up_ne (by decide), up_ne (by decide)], by rw [up_ne (by decide), up_ne (by decide), up_ne (by decide)]⟩
    have g8 : (up (up (up σ5 188 (n : Int) (σ5 174 36)) 189 (n : Int) (σ5 174 37)) 190 (n : Int) (σ5 174 52)) 188 n = σ4 174 36 ∧ (up (up (up σ5 188 (n : Int) (σ5 174 36)) 189 (n : Int) (σ5 174 37)) 190 (n : Int) (σ5 174 52)) 189 n = σ4 174 37 ∧ (up (up (up σ5 188 (n : Int) (σ5 174 36)) 189 (n : Int) (σ5 174 37)) 190 (n : Int) (σ5 174 52)) 190 n = σ4 174 52 := ⟨by rw [up_ne (by decide), up_ne (by decide), up_s, d1], by rw [up_ne (by decide), up_s]; first | rw [d1] | rw [up_ne (by decide), d1], by rw [up_s]; first | rw [d1] | rw [up_ne (by decide), d1] | rw [up_ne (by decide), up_ne (by decide), d1]⟩
    generalize (up (up (up σ5 188 (n : Int) (σ5 174 36)) 189 (n : Int) (σ5 174 37)) 190 (n : Int) (σ5 174 52)) = σ6 at fo f8 f1 g8
    refine k σ6 _ _ ⟨?_, fun h hh => ?_, fun h hh => ?_, ?_⟩
    · unfold TwN at N ⊢
      rw [fo 174 (by decide) (by decide) (by decide) (by decide) (by decide), fo 180 (by decide) (by decide) (by decide) (by decide) (by decide), fo 191 (by decide) (by decide) (by decide) (by decide) (by decide), fo 192 (by decide) (by decide) (by decide) (by decide) (by decide), fo 193 (by decide) (by decide) (by decide) (by decide) (by decide), fo 194 (by decide) (by decide) (by decide) (by decide) (by decide)]
      exact N
    · have := A h hh
      unfold TwA at this ⊢
      rw [fo 183 (by decide) (by decide) (by decide) (by decide) (by decide), fo 184 (by decide) (by decide) (by decide) (by decide) (by decide), fo 185 (by decide) (by decide) (by decide) (by decide) (by decide), fo 186 (by decide) (by decide) (by decide) (by decide) (by decide), fo 187 (by decide) (by decide) (by decide) (by decide) (by decide)]
      exact this
    · by_cases z : h = n
      · subst z
        refine ⟨fun p p0 p1 => ⟨?_, ?_⟩, ?_, ?_, ?_⟩
        · rw [(f1 _).1, (P1 p p0 (by omega)).1]; exact (N.2 p p0 p1).1
        · rw [(f1 _).2, (P1 p p0 (by omega)).2]
        · rw [g8.1]; exact N.1.2.1
        · rw [g8.2.1]; exact N.1.2.2.1.1
        · rw [g8.2.2]; exact N.1.2.2.2.1
      · exact (B h (by omega)).same (n := n) (by omega) (by omega) (fun j hj => by rw [(f1 j).1, (f1 j).2]; exact P2 j hj) (fun j hj => f8 j (by omega))
    · exact ⟨fun i i1 i2 i3 i4 i5 i6 => by rw [fo 174 (by decide) (by decide) (by decide) (by decide) (by decide)]; exact F.1 i i1 i2 i3 i4 i5 i6, fun o ho => by rw [fo o (by omega) (by omega) (by omega) (by omega) (by omega)]; exact F.2 o ho⟩
  refine x_iconst (dat d_Mo_runs 102 rfl) (by decide) ?_
  refine x_istore_n (L' := [vR 174, vI (n : Int), vI 0, w3]) (dat d_Mo_runs 103 rfl) rfl (by decide) rfl rfl ?_
  exact lp_Mo_cpy (by omega) M4 N.1.1 hbb nx (t 6).toNat 0 σ4 (by omega) (by omega) ⟨fun q q0 q1 => by omega, fun _ _ => ⟨rfl, rfl⟩, fun _ _ _ => rfl⟩
end
