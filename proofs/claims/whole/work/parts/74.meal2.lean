/-! the twin: an hour's meal, an hour, all hours -/
theorem starv_iff {C : Cf} {p : Int} {n : Nat} {v : Int} (h : FirstH (fun h => (rst C (h + 1)).2 p = false) n v) (p0 : 0 ≤ p) (p1 : p < cS C 0) : v = -1 ↔ (rst C n).2 p = true := by
  rcases h with ⟨h1, h2⟩ | ⟨m, m1, m2, m3, -⟩
  · refine ⟨fun _ => ?_, fun _ => h1⟩
    cases n with
    | zero => exact decide_eq_true ⟨p0, p1⟩
    | succ n =>
      have := h2 n (by omega)
      simpa using this
  · refine ⟨fun w => by exfalso; omega, fun w => ?_⟩
    have := rst_dn n (m + 1) (by omega) w
    rw [m3] at this
    exact Bool.noConfusion this
section
variable {g : xG} {K : Option MV → xS → Prop} {σ : xS} {t : Int → Int} {t0 : Int} {C : Cf} {s0 n0 : Int → Bool} {i0 : Int × (Int → Bool)} {dr : Bool} {kc : Int} {n : Nat}
theorem lm_Mo_meal {Z : xZ} {w2 w3 : MV} {σ1 σ2 σ3 : xS} (H0 : MoC σ t t0 C) (hn : (n : Int) < t 3) (R : TwR σ σ1 C s0 i0 n0 dr kc n) (B1 : ∀ i : Int, σ2 174 i = σ1 174 i) (B2 : ∀ o : Nat, o ≠ 180 → o ≠ 183 → o ≠ 184 → o ≠ 185 → o ≠ 186 → o ≠ 187 → σ2 o = σ1 o) (B3 : ∀ j : Int, j < 8 * n → σ2 183 j = σ1 183 j ∧ σ2 184 j = σ1 184 j) (B4 : ∀ j : Int, j ≠ n → σ2 185 j = σ1 185 j ∧ σ2 186 j = σ1 186 j ∧ σ2 187 j = σ1 187 j) (B5 : σ2 187 n = 0)
    (H : TwH σ2 σ3 (t 6) n (fun p => sumN (shN C p) n) (lof C n (rst C n).1) (twP C s0 n) (ilT C dr kc i0 n) (nwT C n0 n) dr (cGl C) kc (lgs C 0 n) (hmi C n))
    (k : ∀ (σ' : xS) (w2 w3 : MV), TwR σ σ' C s0 i0 n0 dr kc (n + 1) → Wx g y_Mo_runs Z K 6 [vR 174, vI ((n + 1 : Nat) : Int), w2, w3] [] σ') : Wx g y_Mo_runs Z K 149 [vR 174, vI (n : Int), w2, w3] [] σ3 := by
  have h6 := H0.1.2.2.2.2.2.2.2.1
  have hC := H0.2.1.2
  have eP := H0.P.1
  have e3 := H0.P.2.1
  have hH := hC.2.2.2.1
  have n0' := hC.2.2.2.2.1
  have n9 := hC.2.2.2.2.2.1
  have h4 := hC.2.2.2.2.2.2.1
  have h42 := hC.2.2.2.2.2.2.2.1
  obtain ⟨⟨⟨N35, N36, N37, N52, N38⟩, Np⟩, A, B, F⟩ := R
  obtain ⟨⟨⟨h85, h86⟩, h36, ⟨h37, h40⟩, h52⟩, hp, hf1, hf2, hf3, hf4⟩ := H.1
  have F3 : MvF σ3 σ := ⟨fun i i1 i2 i3 i4 i5 i6 => by rw [hf1 i i2 i3 i5 i6, B1]; exact F.1 i i1 i2 i3 i4 i5 i6, fun o ho => by rw [hf4 o (by omega) (by omega) (by omega) (by omega) (by omega) (by omega) (by omega) (by omega), B2 o (by omega) (by omega) (by omega) (by omega) (by omega) (by omega)]; exact F.2 o ho⟩
  have M3 := H0.same F3
  have e31 : σ3 174 31 = cS C 4 := M3.P.2.2.2.2.1.symm
  have t35 : Msk 8 (σ3 174 35) (rst C n).2 := by rw [hf1 35 (by decide) (by decide) (by decide) (by decide), B1]; exact N35
  have t38 : σ3 174 38 = σ1 174 38 := by rw [hf1 38 (by decide) (by decide) (by decide) (by decide), B1]
  have t87 : σ3 187 = σ2 187 := hf4 187 (by decide) (by decide) (by decide) (by decide) (by decide) (by decide) (by decide) (by decide)
  have t91 : σ3 191 = σ1 191 := by rw [hf4 191 (by decide) (by decide) (by decide) (by decide) (by decide) (by decide) (by decide) (by decide), B2 191 (by decide) (by decide) (by decide) (by decide) (by decide) (by decide)]
  have t93 : σ3 193 = σ1 193 := by rw [hf4 193 (by decide) (by decide) (by decide) (by decide) (by decide) (by decide) (by decide) (by decide), B2 193 (by decide) (by decide) (by decide) (by decide) (by decide) (by decide)]
  obtain ⟨hm1, hm2, hm3⟩ := hmi_ok hC n
  have htt := hC.tt (n + 1)
  have fin : ∀ σ4 : xS, Msk 8 (σ4 174 35) (rst C (n + 1)).2 → Msk 8 (σ4 174 36) (twP C s0 (n + 1)) → FirstH (bitT C s0) (n + 1) (σ4 174 38) → (∀ p : Int, 0 ≤ p → p < t 6 → σ4 180 p = (rst C (n + 1)).1 p ∧ σ4 193 p = sumN (eatP C p) (n + 1) ∧ FirstH (fun h => (rst C (h + 1)).2 p = false) (n + 1) (σ4 191 p)) → σ4 187 n = eatN C n → (∀ i : Int, i ≠ 35 → i ≠ 36 → i ≠ 38 → σ4 174 i = σ3 174 i) → (∀ j : Int, j ≠ n → σ4 187 j = σ3 187 j) → (∀ o : Nat, o ≠ 174 → o ≠ 180 → o ≠ 187 → o ≠ 191 → o ≠ 193 → σ4 o = σ3 o) → Wx g y_Mo_runs Z K 165 [vR 174, vI (n : Int), w2, w3] [] σ4 := by
    intro σ4 G35 G36 G38 Gp G87 Gi Gj Go
    refine lm_Mo_end H0 hn ⟨⟨G35, G36, ⟨?_, ?_⟩, ?_, G38⟩, fun p p0 p1 => ⟨?_, ?_, ?_, ?_, ?_⟩⟩ (fun h hh => ?_) (fun h hh => ?_) ⟨fun i i1 i2 i3 i4 i5 i6 => ?_, fun o ho => ?_⟩ k
    · rw [Gi 37 (by decide) (by decide) (by decide), ilT_s]; exact h37
    · rw [Gi 40 (by decide) (by decide) (by decide), ilT_s]; exact h40
    · rw [Gi 52 (by decide) (by decide) (by decide), nwT_s]; exact h52
    · exact (Gp p p0 (by omega)).1
    · rw [Go 192 (by decide) (by decide) (by decide) (by decide) (by decide), (hp p p0 (by omega)).1.2]; rfl
    · exact (Gp p p0 (by omega)).2.1
    · exact (Gp p p0 (by omega)).2.2
    · rw [Go 194 (by decide) (by decide) (by decide) (by decide) (by decide), lgs_0s]; exact (hp p p0 (by omega)).2.1
    · by_cases z : h = n
      · subst z
        refine ⟨fun p p0 p1 => ⟨?_, ?_⟩, ?_, ?_, G87⟩
        · rw [Go 183 (by decide) (by decide) (by decide) (by decide) (by decide)]; exact (hp p p0 (by omega)).2.2.1
        · rw [Go 184 (by decide) (by decide) (by decide) (by decide) (by decide)]; exact (hp p p0 (by omega)).2.2.2
        · rw [Go 185 (by decide) (by decide) (by decide) (by decide) (by decide)]; exact h85
        · rw [Go 186 (by decide) (by decide) (by decide) (by decide) (by decide)]; exact h86
      · refine (A h (by omega)).same (n := n) (by omega) (by omega) (fun j hj => ?_) (fun j hj => ?_)
        · rw [Go 183 (by decide) (by decide) (by decide) (by decide) (by decide), Go 184 (by decide) (by decide) (by decide) (by decide) (by decide), (hf2 j (Or.inl hj)).1, (hf2 j (Or.inl hj)).2]; exact B3 j hj
        · rw [Go 185 (by decide) (by decide) (by decide) (by decide) (by decide), Go 186 (by decide) (by decide) (by decide) (by decide) (by decide), Gj j (by omega), (hf3 j (by omega)).1, (hf3 j (by omega)).2, t87]; exact B4 j (by omega)
    · refine (B h (by omega)).same (n := n) (by omega) (by omega) (fun j hj => ?_) (fun j hj => ?_)
      · have q : ∀ o : Nat, o = 181 ∨ o = 182 → σ4 o = σ1 o := fun o ho => by rw [Go o (by omega) (by omega) (by omega) (by omega) (by omega), hf4 o (by omega) (by omega) (by omega) (by omega) (by omega) (by omega) (by omega) (by omega), B2 o (by omega) (by omega) (by omega) (by omega) (by omega) (by omega)]
        exact ⟨by rw [q 181 (by decide)], by rw [q 182 (by decide)]⟩
      · have q : ∀ o : Nat, o = 188 ∨ o = 189 ∨ o = 190 → σ4 o = σ1 o := fun o ho => by rw [Go o (by omega) (by omega) (by omega) (by omega) (by omega), hf4 o (by omega) (by omega) (by omega) (by omega) (by omega) (by omega) (by omega) (by omega), B2 o (by omega) (by omega) (by omega) (by omega) (by omega) (by omega)]
        exact ⟨by rw [q 188 (by decide)], by rw [q 189 (by decide)], by rw [q 190 (by decide)]⟩
    · rw [Gi i i1 i2 i4]; exact F3.1 i i1 i2 i3 i4 i5 i6
    · rw [Go o (by omega) (by omega) (by omega) (by omega) (by omega)]; exact F3.2 o ho
  have er : rst C (n + 1) = hst C n (rst C n) := rfl
  have eP2 : (t 6).toNat = (cS C 0).toNat := by rw [eP]
  have no_ : (¬ eats C n = true) → Wx g y_Mo_runs Z K 165 [vR 174, vI (n : Int), w2, w3] [] σ3 := by
    intro he
    have er2 : rst C (n + 1) = ((hmi C n).1, (rst C n).2) := by
      rw [er]
      unfold hst
      rw [if_neg he, if_neg he]
      rfl
    refine fin σ3 (by rw [er2]; exact t35) (h36.congr (fun q q0 q1 => ?_)) (by rw [t38]; exact N38.no (fun _ w => he w.1)) (fun p p0 p1 => ⟨?_, ?_, ?_⟩) ?_ (fun _ _ _ _ => rfl) (fun _ _ => rfl) (fun _ _ _ _ _ _ => rfl)
    · show _ = (if eats C n = true then _ else _)
      rw [if_neg he]
      rfl
    · rw [er2]; exact (hp p p0 p1).1.1
    · rw [t93, (Np p p0 (by omega)).2.2.1]
      show _ = sumN (eatP C p) n + eatP C p n
      unfold eatP
      rw [if_neg (fun w => he w.1)]
      omega
    · rw [t91]
      have q := (Np p p0 (by omega)).2.2.2.1
      refine q.no (fun w => ?_)
      have := (starv_iff q p0 (by omega)).mp w
      rw [er2, this]
      decide
    · rw [t87, B5]
      unfold eatN
      rw [if_neg he]
  have yes_ : (eats C n = true) → ∀ σ4 : xS, EaS σ3 σ4 C (t 6) n (hmi C n).1 (rst C n).2 (twM C s0 n) (σ3 174 38) (t 6).toNat → Wx g y_Mo_runs Z K 165 [vR 174, vI (n : Int), w2, w3] [] σ4 := by
    intro he σ4 E
    obtain ⟨⟨E35, E36, E38⟩, Ep, E87, Ei, Ej, Eo⟩ := E
    have er2 : rst C (n + 1) = (eatB C (hmi C n).1 (rst C n).2, eatA C (hmi C n).1 (rst C n).2) := by
      rw [er]
      unfold hst
      rw [if_pos he, if_pos he]
      rfl
    have alz : ∀ q : Int, t 6 ≤ q → (rst C n).2 q = false := fun q hq => by
      cases hc : (rst C n).2 q with
      | false => rfl
      | true => have := rst_al n q hc; exfalso; omega
    have fdz : ∀ q : Int, t 6 ≤ q → fedB C (hmi C n).1 (rst C n).2 q = false := fun q hq => by unfold fedB; rw [alz q hq]; rfl
    have r2 : ∀ q : Int, (rst C (n + 1)).2 q = fedB C (hmi C n).1 (rst C n).2 q := fun q => by rw [er2]; rfl
    refine fin σ4 (E35.congr (fun q q0 q1 => ?_)) (E36.congr (fun q q0 q1 => ?_)) ?_ (fun p p0 p1 => ⟨?_, ?_, ?_⟩) ?_ Ei Ej Eo
    · rw [r2]
      by_cases z : q < ((t 6).toNat : Int)
      · rw [if_pos z]
      · rw [if_neg z, alz q (by omega), fdz q (by omega)]
    · show _ = (if eats C n = true then _ else _)
      rw [if_pos he]
      show _ = (twM C s0 n q && !(fedB C (hmi C n).1 (rst C n).2 q && decide ((hmi C n).1 q - cS C 3 = 0)))
      by_cases z : q < ((t 6).toNat : Int)
      · rw [if_pos z]
      · rw [if_neg z, fdz q (by omega)]; simp
    · rw [E38, t38]
      by_cases z : σ1 174 38 = -1 ∧ (0 < cS C 3 ∧ anyN (fun q => fedB C (hmi C n).1 (rst C n).2 q && twM C s0 n q) (t 6).toNat = true)
      · rw [if_pos z]; exact N38.yes z.1 ⟨he, by rw [← eP2]; exact z.2⟩
      · rw [if_neg z]; exact N38.no (fun w y => z ⟨w, by rw [eP2]; exact y.2⟩)
    · rw [(Ep p p0 p1).1, if_pos (by omega), er2]
    · rw [(Ep p p0 p1).2.2, t93, (Np p p0 (by omega)).2.2.1]
      show _ = sumN (eatP C p) n + eatP C p n
      unfold eatP
      rw [r2]
      by_cases z : fedB C (hmi C n).1 (rst C n).2 p = true
      · rw [if_pos ⟨by omega, z⟩, if_pos ⟨he, z⟩]
      · rw [if_neg (fun w => z w.2), if_neg (fun w => z w.2)]
    · rw [(Ep p p0 p1).2.1, t91]
      have q := (Np p p0 (by omega)).2.2.2.1
      have qi := starv_iff q p0 (by omega)
      by_cases z : p < ((t 6).toNat : Int) ∧ (rst C n).2 p = true ∧ fedB C (hmi C n).1 (rst C n).2 p = false
      · rw [if_pos z]
        exact q.yes (qi.mpr z.2.1) (by rw [r2]; exact z.2.2)
      · rw [if_neg z]
        refine q.no (fun w y => z ⟨by omega, qi.mp w, ?_⟩)
        rw [← r2]
        exact y
    · rw [E87]
      unfold eatN alN
      rw [if_pos he, cntN_to (f := (rst C (n + 1)).2) (m := (t 6).toNat) (fun p hp => by rw [r2]; exact fdz p (by omega)) 8 (by omega), cntN_congr (f := (rst C (n + 1)).2) (g := fedB C (hmi C n).1 (rst C n).2) _ (fun p _ _ => r2 p)]
  have hbd : ∀ p : Int, 0 ≤ p → p < t 6 → σ3 180 p = (hmi C n).1 p ∧ 0 ≤ (hmi C n).1 p ∧ (hmi C n).1 p ≤ 1000 := fun p p0 p1 => by
    have := hm1.le p0 (by omega)
    exact ⟨(hp p p0 p1).1.1, by omega, by omega⟩
  have hme : ∀ p : Int, 0 ≤ p → p < t 6 → 0 ≤ σ3 193 p ∧ σ3 193 p ≤ 1000 := fun p p0 p1 => by
    rw [t93, (Np p p0 (by omega)).2.2.1]
    have := sumN_bd (f := eatP C p) (B := 9) n (fun i hi => by unfold eatP; split <;> omega)
    omega
  refine x_iload_n (dat d_Mo_runs 92 rfl) rfl rfl ?_
  refine x_iconst (dat d_Mo_runs 93 rfl) (by decide) ?_
  refine x_iadd (v := (n : Int) + 1) (dat d_Mo_runs 94 rfl) rfl (by omega) ?_
  refine x_aload_n (dat d_Mo_runs 95 rfl) rfl rfl ?_
  refine x_geti (ji := 31) (v := cS C 4) (dat d_Mo_runs 96 rfl) rfl f_Mo_241 (oi_mk (by decide +kernel)) (e31) ?_
  refine x_irem (v := ((n : Int) + 1) % (cS C 4)) (dat d_Mo_runs 97 rfl) (by omega) rfl ?_
  refine x_if_ne (tgt := 165) (dat d_Mo_runs 98 rfl) (by decide) (fun c_157 => ?_) (fun c_157 => ?_)
  · first
    | exact yes_ (decide_eq_true c_157) σ4 E
    | exact no_ (fun w => c_157 (of_decide_eq_true w))
  · refine x_aload_n (dat d_Mo_runs 99 rfl) rfl rfl ?_
    refine x_iload_n (dat d_Mo_runs 100 rfl) rfl rfl ?_
    refine x_inv (As := [vI (n : Int)]) (dat d_Mo_runs 101 rfl) rfl c_Mo_eats l_Mo_333 (by decide) (rv_mo (by decide +kernel)) rfl rfl (Nat.le_of_ble_eq_true rfl) ?_
    refine sp_Mo_eats M3 (bd := (hmi C n).1) (al := (rst C n).2) (pt := twM C s0 n) (bt := σ3 174 38) (by omega) (by omega) t35 h36 rfl hbd hme (by rw [t87]; exact B5) (fun σ4 E => ?_)
    show Wx g y_Mo_runs Z K 165 [vR 174, vI (n : Int), w2, w3] [] σ4
    first
    | exact yes_ (decide_eq_true c_157) σ4 E
    | exact no_ (fun w => c_157 (of_decide_eq_true w))
end
