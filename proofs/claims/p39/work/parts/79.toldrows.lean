/-! gloves, peace, aid told to the town; hunger; worlds without notes -/
theorem qrT_cg {t t' : Int → Int} {lo x y : Int} : ∀ n : Nat, (∀ i : Nat, i < n → t' (160 + 2 * i) = t (160 + 2 * i) ∧ t' (161 + 2 * i) = t (161 + 2 * i)) → qrT t' lo x y n = qrT t lo x y n
  | 0, _ => rfl
  | n + 1, h => by
    simp only [qrT]
    rw [qrT_cg n (fun i hi => h i (by omega)), (h n (by omega)).1, (h n (by omega)).2]
theorem tb_0 (p : Int) : tb 0 p = false := by unfold tb; simp
def thG (t : Int → Int) (g : Int) : Int → Int := fun i => if (10 ≤ i ∧ i < 10 + 4 * t 6 ∧ (i - 10) % 4 = 0) ∧ 0 < g ∧ tb g ((i - 10) / 4) = true ∧ t i = 0 then 3 else t i
theorem thG_o {t : Int → Int} {g i : Int} (h : ¬ (10 ≤ i ∧ i < 10 + 4 * t 6 ∧ (i - 10) % 4 = 0)) : thG t g i = t i := if_neg (fun w => h w.1)
theorem thG_m {t : Int → Int} {g p : Int} (p0 : 0 ≤ p) (p1 : p < t 6) : thG t g (10 + 4 * p) = if 0 < g ∧ tb g p = true ∧ t (10 + 4 * p) = 0 then 3 else t (10 + 4 * p) := by
  unfold thG
  rw [show (10 + 4 * p - 10) / 4 = p by omega]
  by_cases z : 0 < g ∧ tb g p = true ∧ t (10 + 4 * p) = 0
  · rw [if_pos z, if_pos ⟨by omega, z⟩]
  · rw [if_neg z, if_neg (fun w => z w.2)]
theorem thG_rg {t : Int → Int} {g : Int} (hT : TRg t) : TRg (thG t g) := by
  obtain ⟨⟨t0, t1, t2, t3, t4, t5, t6, t7⟩, hP, hQ⟩ := hT
  have e : ∀ i : Int, ¬ (10 ≤ i ∧ i < 42 ∧ (i - 10) % 4 = 0) → thG t g i = t i := fun i h => thG_o (by omega)
  refine ⟨?_, fun p hp => ?_, fun k hk => ?_⟩
  · rw [e 0 (by omega), e 1 (by omega), e 2 (by omega), e 3 (by omega), e 4 (by omega), e 5 (by omega), e 6 (by omega), e 7 (by omega)]
    exact ⟨t0, t1, t2, t3, t4, t5, t6, t7⟩
  · rw [e 6 (by omega)] at hp
    have h := hP p hp
    rw [e (11 + 4 * p) (by omega), e (12 + 4 * p) (by omega), e (13 + 4 * p) (by omega), e (50 + p) (by omega), thG_m (by omega) hp]
    refine ⟨?_, h.2.1, h.2.2.1, h.2.2.2.1, h.2.2.2.2.1, fun k hk => by rw [e (60 + 12 * p + k) (by omega)]; exact h.2.2.2.2.2 k hk⟩
    split
    · omega
    · exact h.1
  · rw [e 7 (by omega)] at hk
    rw [e 6 (by omega), e (160 + 2 * k) (by omega), e (161 + 2 * k) (by omega)]
    exact hQ k hk
section TOLD
variable {t r r1 : Int → Int}
/-- the gloves of the fewest, told: nobody starves -/
theorem gl_told {g : Int} (hT : TRg t) (R : RwQ t (t 7).toNat r) (R1 : RwQ (thG t g) (thG t g 7).toNat r1) (hC : CfOk (cfg r)) (g0 : 0 ≤ g) (hp : 0 < g → ∀ p : Int, 0 ≤ p → p < t 6 → tb g p = true → t (10 + 4 * p) = 0 ∨ t (10 + 4 * p) = 3) (h : glF r g.toNat = true) : stv (cfg r1) = 0 := by
  have hT1 := thG_rg (g := g) hT
  have h6 := hT.1.2.2.2.2.2.2.1
  have h7 := hT.1.2.2.2.2.2.2.2
  have e : ∀ i : Int, ¬ (10 ≤ i ∧ i < 42 ∧ (i - 10) % 4 = 0) → thG t g i = t i := fun i h => thG_o (by omega)
  have hs : stv (mGl (cfg r) (fun p => cGl (cfg r) p || tb g.toNat p)) = 0 := of_decide_eq_true h
  rw [show ((g.toNat : Nat) : Int) = g by omega] at hs
  have em : ∀ p : Int, 0 ≤ p → p < t 6 → (thG t g (10 + 4 * p) = 3 ∧ t (10 + 4 * p) = 0 ∧ tb g p = true) ∨ (thG t g (10 + 4 * p) = t (10 + 4 * p) ∧ (t (10 + 4 * p) = 3 ∨ tb g p = false)) := fun p p0 p1 => by
    rw [thG_m p0 p1]
    by_cases z : 0 < g ∧ tb g p = true ∧ t (10 + 4 * p) = 0
    · rw [if_pos z]
      exact Or.inl ⟨rfl, z.2.2, z.2.1⟩
    · rw [if_neg z]
      refine Or.inr ⟨rfl, ?_⟩
      cases y : tb g p with
      | false => exact Or.inr rfl
      | true =>
        by_cases x : 0 < g
        · rcases hp x p p0 p1 y with w | w
          · exact absurd ⟨x, y, w⟩ z
          · exact Or.inl w
        · rw [show g = 0 by omega, tb_0] at y
          exact Bool.noConfusion y
  have A : Cg (mGl (cfg r) (fun p => cGl (cfg r) p || tb g p)) (cfg r1) := by
    refine row_cg hT hT1 R R1 (fun i hi => e i (by omega)) (fun p p0 p1 h h0 => ?_) (fun p p0 p1 => ?_) rfl rfl rfl (fun p p0 p1 => ?_) (fun p p0 p1 => ?_) (fun x y x0 hxy y1 => ?_)
    · have h50 := (hT.2.1 p.toNat (by omega)).2.2.2.2.1
      rw [show ((p.toNat : Nat) : Int) = p by omega] at h50
      unfold cellQ
      rw [e (50 + p) (by omega), e (11 + 4 * p) (by omega)]
      by_cases z : t (50 + p) = 0
      · rw [if_pos z, if_pos z]
      · rw [if_neg z, if_neg z]
        exact e _ (by split <;> omega)
    · rcases em p p0 p1 with ⟨w1, w2, -⟩ | ⟨w1, -⟩
      · rw [w1, w2]; decide
      · rw [w1]
    · show _ = (decide (mnT r p = 3) || tb g p)
      rw [(row_p R p0 p1).1.1]
      rcases em p p0 p1 with ⟨w1, w2, w3⟩ | ⟨w1, w2⟩
      · rw [w1, w3, Bool.or_true]; rfl
      · rw [w1]
        rcases w2 with w | w
        · rw [w]; rfl
        · rw [w, Bool.or_false]
    · show _ = r (22 + 17 * p)
      rw [(row_p R p0 p1).1.2.2]
      exact e _ (by omega)
    · show _ = opT r 0 x y
      rw [row_op hT R x0 (by omega) (by omega) y1, e 7 (by omega), qrT_cg (t' := thG t g) (t := t) (t 7).toNat (fun i hi => ⟨e _ (by omega), e _ (by omega)⟩)]
      have e2 : ∀ p : Int, 0 ≤ p → p < t 6 → decide (thG t g (10 + 4 * p) = 2) = decide (t (10 + 4 * p) = 2) := fun p p0 p1 => by
        rcases em p p0 p1 with ⟨w1, w2, -⟩ | ⟨w1, -⟩
        · rw [w1, w2]; decide
        · rw [w1]
      rw [e2 x x0 (by omega), e2 y (by omega) y1]
  rw [stv_cg A hC.1]
  exact hs
/-- gloves 0: nobody starves as it is -/
theorem gl_0 (r : Int → Int) : glF r 0 = decide (stv (cfg r) = 0) := by
  unfold glF
  have : (fun p => cGl (cfg r) p || tb ((0 : Nat) : Int) p) = cGl (cfg r) := by
    funext p
    show (cGl (cfg r) p || tb 0 p) = _
    rw [tb_0, Bool.or_false]
  rw [this]
  rfl
/-- quarrels that are left, one by one -/
def pN (t : Int → Int) (g : Int) : Nat → Int → Int
  | 0 => st1 t 7 0
  | k + 1 => if g < 0 ∨ tb g k = false then st1 (st1 (st1 (pN t g k) (160 + 2 * pN t g k 7) (t (160 + 2 * k))) (161 + 2 * pN t g k 7) (t (161 + 2 * k))) 7 (pN t g k 7 + 1) else pN t g k
theorem pN_ok {g : Int} : ∀ k : Nat, (0 ≤ pN t g k 7 ∧ pN t g k 7 ≤ k) ∧ (∀ i : Int, i ≠ 7 → i < 160 → pN t g k i = t i) ∧ ∀ j : Nat, (j : Int) < pN t g k 7 → ∃ i : Nat, i < k ∧ pN t g k (160 + 2 * j) = t (160 + 2 * i) ∧ pN t g k (161 + 2 * j) = t (161 + 2 * i)
  | 0 => by
    have e : pN t g 0 7 = 0 := st1_s
    refine ⟨by rw [e]; omega, fun i h7 _ => st1_n h7, fun j hj => by rw [e] at hj; omega⟩
  | k + 1 => by
    obtain ⟨h1, h2, h3⟩ := pN_ok (g := g) k
    simp only [pN]
    by_cases z : g < 0 ∨ tb g k = false
    · rw [if_pos z]
      generalize hc : pN t g k 7 = c at *
      refine ⟨by rw [st1_s]; omega, fun i h7 hi => ?_, fun j hj => ?_⟩
      · rw [st1_n h7, st1_n (by omega), st1_n (by omega)]
        exact h2 i h7 hi
      · rw [st1_s] at hj
        by_cases y : (j : Int) = c
        · refine ⟨k, by omega, ?_, ?_⟩
          · rw [y, st1_n (by omega), st1_n (by omega), st1_s]
          · rw [y, st1_n (by omega), st1_s]
        · obtain ⟨i, i1, i2, i3⟩ := h3 j (by omega)
          refine ⟨i, by omega, ?_, ?_⟩
          · rw [st1_n (by omega), st1_n (by omega), st1_n (by omega)]
            exact i2
          · rw [st1_n (by omega), st1_n (by omega), st1_n (by omega)]
            exact i3
    · rw [if_neg z]
      exact ⟨⟨h1.1, by omega⟩, h2, fun j hj => by obtain ⟨i, i1, i2, i3⟩ := h3 j hj; exact ⟨i, by omega, i2, i3⟩⟩
theorem pN_rg {g : Int} (hT : TRg t) : TRg (pN t g (t 7).toNat) := by
  obtain ⟨⟨t0, t1, t2, t3, t4, t5, t6, t7⟩, hP, hQ⟩ := hT
  obtain ⟨h1, h2, h3⟩ := pN_ok (t := t) (g := g) (t 7).toNat
  refine ⟨?_, fun p hp => ?_, fun k hk => ?_⟩
  · rw [h2 0 (by decide) (by decide), h2 1 (by decide) (by decide), h2 2 (by decide) (by decide), h2 3 (by decide) (by decide), h2 4 (by decide) (by decide), h2 5 (by decide) (by decide), h2 6 (by decide) (by decide)]
    exact ⟨t0, t1, t2, t3, t4, t5, t6, by omega⟩
  · rw [h2 6 (by decide) (by decide)] at hp
    have h := hP p hp
    rw [h2 (10 + 4 * p) (by omega) (by omega), h2 (11 + 4 * p) (by omega) (by omega), h2 (12 + 4 * p) (by omega) (by omega), h2 (13 + 4 * p) (by omega) (by omega), h2 (50 + p) (by omega) (by omega)]
    exact ⟨h.1, h.2.1, h.2.2.1, h.2.2.2.1, h.2.2.2.2.1, fun k hk => by rw [h2 (60 + 12 * p + k) (by omega) (by omega)]; exact h.2.2.2.2.2 k hk⟩
  · obtain ⟨i, i1, i2, i3⟩ := h3 k hk
    rw [h2 6 (by decide) (by decide), i2, i3]
    exact hQ i (by omega)
theorem pN_qr {g x y : Int} (g0 : 0 ≤ g) : ∀ k : Nat, qrT (pN t g k) 0 x y (pN t g k 7).toNat = qrT t g x y k
  | 0 => by
    have e : pN t g 0 7 = 0 := st1_s
    rw [e]
    rfl
  | k + 1 => by
    have ih := pN_qr (x := x) (y := y) g0 k
    obtain ⟨h1, h2, h3⟩ := pN_ok (t := t) (g := g) k
    simp only [pN, qrT]
    by_cases z : g < 0 ∨ tb g k = false
    · have z1 : tb g k = false := z.resolve_left (by omega)
      rw [if_pos z, z1, Bool.not_false, Bool.true_and]
      generalize hc : pN t g k 7 = c at *
      rw [st1_s, show (c + 1).toNat = c.toNat + 1 by omega]
      simp only [qrT]
      rw [tb_0, Bool.not_false, Bool.true_and, show ((c.toNat : Nat) : Int) = c by omega]
      rw [qrT_cg (t' := st1 (st1 (st1 (pN t g k) (160 + 2 * c) (t (160 + 2 * k))) (161 + 2 * c) (t (161 + 2 * k))) 7 (c + 1)) (t := pN t g k) c.toNat (fun i hi => ⟨by rw [st1_n (by omega), st1_n (by omega), st1_n (by omega)], by rw [st1_n (by omega), st1_n (by omega), st1_n (by omega)]⟩), ih]
      rw [show st1 (st1 (st1 (pN t g k) (160 + 2 * c) (t (160 + 2 * k))) (161 + 2 * c) (t (161 + 2 * k))) 7 (c + 1) (160 + 2 * c) = t (160 + 2 * k) by rw [st1_n (by omega), st1_n (by omega), st1_s]]
      rw [show st1 (st1 (st1 (pN t g k) (160 + 2 * c) (t (160 + 2 * k))) (161 + 2 * c) (t (161 + 2 * k))) 7 (c + 1) (161 + 2 * c) = t (161 + 2 * k) by rw [st1_n (by omega), st1_s]]
    · have z1 : tb g k = true := by
        cases w : tb g k with
        | true => rfl
        | false => exact absurd (Or.inr w) z
      rw [if_neg z, z1, Bool.not_true, Bool.false_and, Bool.or_false]
      exact ih
/-- the peace of the fewest, told: one part -/
theorem pe_told {g : Int} (hT : TRg t) (R : RwQ t (t 7).toNat r) (R1 : RwQ (pN t g (t 7).toNat) (pN t g (t 7).toNat 7).toNat r1) (hC : CfOk (cfg r)) (g0 : 0 ≤ g) (h : qrF r g.toNat = true) : (pts (cfg r1) (t 6).toNat).2 = 1 := by
  have hT1 := pN_rg (g := g) hT
  have h6 := hT.1.2.2.2.2.2.2.1
  have h7 := hT.1.2.2.2.2.2.2.2
  obtain ⟨h1, h2, h3⟩ := pN_ok (t := t) (g := g) (t 7).toNat
  have hs : (pts (mOp (cfg r) (opT r g.toNat)) (r 6).toNat).2 ≤ 1 := of_decide_eq_true h
  rw [show ((g.toNat : Nat) : Int) = g by omega, R.2.1.1] at hs
  have A : Cg (mOp (cfg r) (opT r g)) (cfg r1) := by
    refine row_cg hT hT1 R R1 (fun i hi => h2 i (by omega) (by omega)) (fun p p0 p1 h h0 => ?_) (fun p p0 p1 => by rw [h2 _ (by omega) (by omega)]) rfl rfl rfl (fun p p0 p1 => ?_) (fun p p0 p1 => ?_) (fun x y x0 hxy y1 => ?_)
    · have h50 := (hT.2.1 p.toNat (by omega)).2.2.2.2.1
      rw [show ((p.toNat : Nat) : Int) = p by omega] at h50
      unfold cellQ
      rw [h2 (50 + p) (by omega) (by omega), h2 (11 + 4 * p) (by omega) (by omega)]
      by_cases z : t (50 + p) = 0
      · rw [if_pos z, if_pos z]
      · rw [if_neg z, if_neg z]
        exact h2 _ (by split <;> omega) (by split <;> omega)
    · show _ = decide (mnT r p = 3)
      rw [(row_p R p0 p1).1.1, h2 _ (by omega) (by omega)]
    · show _ = r (22 + 17 * p)
      rw [(row_p R p0 p1).1.2.2]
      exact h2 _ (by omega) (by omega)
    · show _ = opT r g x y
      rw [row_op hT R x0 (by omega) (by omega) y1, pN_qr g0, h2 (10 + 4 * x) (by omega) (by omega), h2 (10 + 4 * y) (by omega) (by omega)]
  have e := pts_cg A hC.1 (t 6).toNat
  have h1 := pts_1 (C := cfg r1) (t 6).toNat (by omega)
  rw [← e] at hs
  omega
/-- a loaf ahead of the first hour is bread at first -/
def stA (C : Cf) (p m : Int) : Cf := mSt C (fun q => if q = p then cSt C q + m else cSt C q)
theorem hsh_lf (C : Cf) (p m : Int) (h : Int) (al : Int → Bool) (bd : Int → Int) (P0 : 0 ≤ cS C 0) : hsh (mLoaf C p 0 m) h al bd = hsh (stA C p m) h al bd := by
  have e0 : cS (mLoaf C p 0 m) 0 = cS (stA C p m) 0 := rfl
  unfold hsh
  rw [e0]
  refine outr_congr (C := stA C p m) (C' := mLoaf C p 0 m) e0 (fun x y s _ _ _ => ?_) _ 0 _ (Int.le_refl 0) (by show (0 : Int) + ((cS C 0).toNat : Int) ≤ cS C 0; omega)
  unfold stp
  rw [gvr_congr (C := stA C p m) (C' := mLoaf C p 0 m) rfl rfl rfl]
  rfl
theorem rst_lf {C : Cf} (P0 : 0 ≤ cS C 0) (h6 : cS C 6 = -1) {p m : Int} (p0 : 0 ≤ p) (p1 : p < cS C 0) : ∀ n : Nat, rst (mLoaf C p 0 m) (n + 1) = rst (stA C p m) (n + 1)
  | 0 => by
    have e1 : lof (mLoaf C p 0 m) ((0 : Nat) : Int) (cSt C) = cSt (stA C p m) := if_pos (show ((0 : Nat) : Int) = 0 ∧ 0 ≤ p ∧ p < cS C 0 from ⟨rfl, p0, p1⟩)
    have e2 : lof (stA C p m) ((0 : Nat) : Int) (cSt (stA C p m)) = cSt (stA C p m) := lof_no (C := stA C p m) h6 (by omega) _
    show hst (mLoaf C p 0 m) ((0 : Nat) : Int) (cSt C, fun q => decide (0 ≤ q ∧ q < cS C 0)) = hst (stA C p m) ((0 : Nat) : Int) (cSt (stA C p m), fun q => decide (0 ≤ q ∧ q < cS C 0))
    unfold hst
    show (if eats (mLoaf C p 0 m) ((0 : Nat) : Int) = true then eatB (mLoaf C p 0 m) (hsh (mLoaf C p 0 m) ((0 : Nat) : Int) _ (lof (mLoaf C p 0 m) ((0 : Nat) : Int) (cSt C))).1 _ else _, _) = (if eats (stA C p m) ((0 : Nat) : Int) = true then eatB (stA C p m) (hsh (stA C p m) ((0 : Nat) : Int) _ (lof (stA C p m) ((0 : Nat) : Int) (cSt (stA C p m)))).1 _ else _, _)
    rw [e1, e2, hsh_lf C p m _ _ _ P0]
    rfl
  | n + 1 => by
    have ih := rst_lf (m := m) P0 h6 p0 p1 n
    show hst (mLoaf C p 0 m) ((n + 1 : Nat) : Int) (rst (mLoaf C p 0 m) (n + 1)) = hst (stA C p m) ((n + 1 : Nat) : Int) (rst (stA C p m) (n + 1))
    rw [ih]
    generalize rst (stA C p m) (n + 1) = s
    have e1 : lof (mLoaf C p 0 m) ((n + 1 : Nat) : Int) s.1 = s.1 := if_neg (fun w => by
      have w1 : ((n + 1 : Nat) : Int) = 0 := w.1
      omega)
    have e2 : lof (stA C p m) ((n + 1 : Nat) : Int) s.1 = s.1 := lof_no (C := stA C p m) h6 (by omega) _
    unfold hst
    rw [e1, e2, hsh_lf C p m _ _ _ P0]
    rfl
theorem stv_lf {C : Cf} (hC : CfOk C) (h6 : cS C 6 = -1) {p m : Int} (p0 : 0 ≤ p) (p1 : p < cS C 0) : stv (mLoaf C p 0 m) = stv (stA C p m) := by
  have h1 := (cH_eq hC).2.1
  have e : cH (mLoaf C p 0 m) = cH C := rfl
  have e2 : cH (stA C p m) = cH C := rfl
  unfold stv alN
  rw [e, e2, show cH C = cH C - 1 + 1 by omega, rst_lf hC.1 h6 p0 p1]
  rfl
theorem ad_told {p m v : Int} (hT : TRg t) (p0 : 0 ≤ p) (p1 : p < t 6) (hv : 0 ≤ v ∧ v ≤ 30) (R : RwQ t (t 7).toNat r) (R1 : RwQ (st1 t (12 + 4 * p) v) (st1 t (12 + 4 * p) v 7).toNat r1) (hC : CfOk (cfg r)) (hm : v = t (12 + 4 * p) + m) (h : stv (mLoaf (cfg r) p 0 m) = 0) : stv (cfg r1) = 0 := by
  have h6 := hT.1.2.2.2.2.2.2.1
  have h7 := hT.1.2.2.2.2.2.2.2
  have e : ∀ i : Int, i ≠ 12 + 4 * p → st1 t (12 + 4 * p) v i = t i := fun i hi => st1_n hi
  have hT1 : TRg (st1 t (12 + 4 * p) v) := by
    obtain ⟨⟨t0, t1, t2, t3, t4, t5, t6, t7⟩, hP, hQ⟩ := hT
    refine ⟨?_, fun q hq => ?_, fun k hk => ?_⟩
    · rw [e 0 (by omega), e 1 (by omega), e 2 (by omega), e 3 (by omega), e 4 (by omega), e 5 (by omega), e 6 (by omega), e 7 (by omega)]
      exact ⟨t0, t1, t2, t3, t4, t5, t6, t7⟩
    · rw [e 6 (by omega)] at hq
      have h := hP q hq
      rw [e (10 + 4 * q) (by omega), e (11 + 4 * q) (by omega), e (13 + 4 * q) (by omega), e (50 + q) (by omega)]
      refine ⟨h.1, h.2.1, ?_, h.2.2.2.1, h.2.2.2.2.1, fun k hk => by rw [e (60 + 12 * q + k) (by omega)]; exact h.2.2.2.2.2 k hk⟩
      by_cases z : (q : Int) = p
      · rw [z, st1_s]; exact hv
      · rw [e _ (by omega)]; exact h.2.2.1
    · rw [e 7 (by omega)] at hk
      rw [e 6 (by omega), e (160 + 2 * k) (by omega), e (161 + 2 * k) (by omega)]
      exact hQ k hk
  have A : Cg (stA (cfg r) p m) (cfg r1) := by
    refine row_cg hT hT1 R R1 (fun i hi => e i (by omega)) (fun q q0 q1 h h0 => ?_) (fun q q0 q1 => by rw [e _ (by omega)]) rfl rfl rfl (fun q q0 q1 => ?_) (fun q q0 q1 => ?_) (fun x y x0 hxy y1 => ?_)
    · have h50 := (hT.2.1 q.toNat (by omega)).2.2.2.2.1
      rw [show ((q.toNat : Nat) : Int) = q by omega] at h50
      unfold cellQ
      rw [e (50 + q) (by omega), e (11 + 4 * q) (by omega)]
      by_cases z : t (50 + q) = 0
      · rw [if_pos z, if_pos z]
      · rw [if_neg z, if_neg z]
        exact e _ (by split <;> omega)
    · show _ = decide (mnT r q = 3)
      rw [(row_p R q0 q1).1.1, e _ (by omega)]
    · show _ = (if q = p then r (22 + 17 * q) + m else r (22 + 17 * q))
      rw [(row_p R q0 q1).1.2.2]
      by_cases z : q = p
      · rw [if_pos z, z, st1_s]; exact hm
      · rw [if_neg z]; exact e _ (by omega)
    · show _ = opT r 0 x y
      rw [row_op hT R x0 (by omega) (by omega) y1, e (10 + 4 * x) (by omega), e (10 + 4 * y) (by omega), e 7 (by omega), qrT_cg (t' := st1 t (12 + 4 * p) v) (t := t) (t 7).toNat (fun i hi => ⟨e _ (by omega), e _ (by omega)⟩)]
  rw [stv_cg A hC.1, ← stv_lf hC (by rw [row_cS R]; rfl) p0 (by rw [row_P R]; exact p1)]
  exact h
end TOLD
/-- who needs nothing doesn't starve -/
theorem stv_n0 {C : Cf} (hC : CfOk C) (h3 : cS C 3 = 0) : stv C = 0 := by
  have key : ∀ (n : Nat) (p : Int), 0 ≤ p → p < cS C 0 → (rst C n).2 p = true := fun n => by
    induction n with
    | zero => exact fun p p0 p1 => decide_eq_true ⟨p0, p1⟩
    | succ n ih =>
      intro p p0 p1
      show (if eats C n = true then eatA C (hmi C n).1 (rst C n).2 else (rst C n).2) p = true
      split
      · unfold eatA
        rw [ih p p0 p1, Bool.true_and, h3]
        exact decide_eq_true ((hmi_ok hC n).1.1 p p0 p1)
      · exact ih p p0 p1
  have e : ∀ (f : Int → Bool) (n : Nat), (∀ p : Int, 0 ≤ p → p < n → f p = true) → cntN f n = n := fun f n => by
    induction n with
    | zero => intro _; rfl
    | succ n ih =>
      intro h
      simp only [cntN]
      rw [ih (fun p p0 p1 => h p p0 (by omega)), if_pos (h n (by omega) (by omega))]
      omega
  unfold stv alN
  rw [cntN_8 hC.2.1 hC.1 (fun p hp => (rst_al _ p hp).2), e _ _ (fun p p0 p1 => key _ p p0 (by have := hC.1; omega))]
  have := hC.1
  omega
/-! worlds, of a book without notes -/
theorem isW_all {r b : Int → Int} (h : b 0 = 0) (n : Nat) : isW r b n = true := by
  unfold isW
  rw [h]
  rfl
theorem wct_all {r b : Int → Int} (h : b 0 = 0) : ∀ n : Nat, wct r b n = n
  | 0 => rfl
  | n + 1 => by
    simp only [wct]
    rw [wct_all h n, if_pos (isW_all h n)]
    omega
theorem wC_0 (r : Int → Int) : wC r 0 = cfg r := by
  have e : ∀ n : Nat, restT r 0 n = 0 := fun n => by
    induction n with
    | zero => rfl
    | succ n ih =>
      simp only [restT]
      rw [ih]
      exact Int.zero_ediv _
  have : stW r 0 = cSt (cfg r) := by
    funext p
    unfold stW
    rw [e, Int.zero_emod, Int.add_zero]
    rfl
  unfold wC
  rw [this]
  rfl
theorem wHv_1 {r b : Int → Int} (h : b 0 = 0) {hh p : Int} (h1 : hh < r 3) (p1 : p < r 6) : ∀ n : Nat, 1 ≤ n → 1 ≤ wHv r b n hh p ((rst (cfg r) (hh.toNat + 1)).1 p)
  | 0, h0 => absurd h0 (by decide)
  | 1, _ => by
    show 1 ≤ 0 + (if isW r b 0 = true then (if hh < cS (wC r ((0 : Nat) : Int)) 1 ∧ p < cS (wC r ((0 : Nat) : Int)) 0 ∧ (rst (wC r ((0 : Nat) : Int)) (hh.toNat + 1)).1 p = (rst (cfg r) (hh.toNat + 1)).1 p then (1 : Int) else 0) else 0)
    have e : wC r ((0 : Nat) : Int) = cfg r := wC_0 r
    rw [if_pos (isW_all h 0), e, if_pos ⟨h1, p1, rfl⟩]
    omega
  | n + 2, _ => by
    have ih := wHv_1 h h1 p1 (n + 1) (by omega)
    show 1 ≤ wHv r b (n + 1) hh p _ + (if isW r b (n + 1) = true then (if _ then (1 : Int) else 0) else 0)
    split
    · split <;> omega
    · omega
theorem wDo_Da {r b : Int → Int} (h : b 0 = 0) {q : Int} : ∀ n : Nat, 1 ≤ n → wDo r b n q = true → wDa r b n q = true
  | 0, h0, _ => absurd h0 (by decide)
  | 1, _, hd => by
    have hd1 : (wDo r b 0 q && (!isW r b 0 || dedB (wC r ((0 : Nat) : Int)) q)) = true := hd
    rw [isW_all h 0, Bool.not_true, Bool.false_or] at hd1
    show (wDa r b 0 q || (isW r b 0 && dedB (wC r ((0 : Nat) : Int)) q)) = true
    have hd2 := Bool.and_eq_true_iff.mp hd1
    rw [isW_all h 0, Bool.true_and, hd2.2, Bool.or_true]
  | n + 2, _, hd => by
    have hd1 : (wDo r b (n + 1) q && (!isW r b (n + 1) || dedB (wC r ((n + 1 : Nat) : Int)) q)) = true := hd
    have ih := wDo_Da h (n + 1) (by omega) (Bool.and_eq_true_iff.mp hd1).1
    show (wDa r b (n + 1) q || _) = true
    rw [ih, Bool.true_or]
theorem mxG_ub {f : Nat → Int} {B : Int} (B0 : 0 ≤ B) (h : ∀ i : Nat, f i ≤ B) : ∀ n : Nat, mxG f n ≤ B
  | 0 => B0
  | n + 1 => by
    have := mxG_ub B0 h n
    have := h n
    simp only [mxG]
    split <;> omega
theorem scanMin_ub {f : Nat → Int} {B : Int} (B0 : 0 ≤ B) (h : ∀ i : Nat, f i ≤ B) : ∀ n : Nat, (scanMin f n).2 ≤ B
  | 0 => B0
  | n + 1 => by
    simp only [scanMin]
    split
    · exact h n
    · exact scanMin_ub B0 h n
