/-! two settings alike for all who are there: the same run -/
def Cg (C C' : Cf) : Prop := (∀ i : Int, i ≤ 4 → cS C' i = cS C i) ∧ (cS C 6 = -1 ∧ cS C' 6 = -1) ∧ ∀ p : Int, 0 ≤ p → p < cS C 0 → (cGl C' p = cGl C p ∧ cSt C' p = cSt C p) ∧ (∀ h : Nat, cWh C' h p = cWh C h p) ∧ ∀ q : Int, p < q → q < cS C 0 → cGr C' p q = cGr C p q ∧ cOp C' p q = cOp C p q
def Eqv (P : Int) (s s' : Hs) : Prop := (∀ p : Int, 0 ≤ p → p < P → s'.1 p = s.1 p) ∧ s'.2 = s.2
section CG
variable {C C' : Cf}
theorem stp_cg (A : Cg C C') {h : Nat} {al : Int → Bool} {x y : Int} {s s' : Hs} (h0 : 0 ≤ x) (h1 : x < y) (h2 : y < cS C 0) (E : Eqv (cS C 0) s s') : Eqv (cS C 0) (stp C h al x y s) (stp C' h al x y s') := by
  obtain ⟨a0, -, aP⟩ := A
  obtain ⟨⟨gx, -⟩, wx, rx⟩ := aP x h0 (by omega)
  obtain ⟨⟨gy, -⟩, wy, -⟩ := aP y (by omega) h2
  obtain ⟨er, eo⟩ := rx y h1 h2
  obtain ⟨E1, E2⟩ := E
  have ex := E1 x h0 (by omega)
  have ey := E1 y (by omega) h2
  have es : shk C' h al x y = shk C h al x y := by
    unfold shk
    rw [eo, wx h, wy h]
  have e0 : gv0 C' s'.1 x y = gv0 C s.1 x y := by
    unfold gv0
    rw [a0 2 (by decide), ex, ey, er]
  have eg : gvr C' s'.1 x y = gvr C s.1 x y := by
    unfold gvr
    rw [e0]
    rcases gv0_in C s.1 x y with z | z | z
    · rw [if_pos z, if_pos z]
    · rw [z, ex, gx]
    · rw [z, ey, gy]
  unfold stp
  rw [es]
  by_cases z : shk C h al x y = true
  · rw [if_pos z, if_pos z, eg]
    refine ⟨fun p p0 p1 => ?_, ?_⟩
    · show mvb s'.1 x y _ p = mvb s.1 x y _ p
      rw [mvb_cm, mvb_cm, E1 p p0 p1]
    · show _ :: s'.2 = _ :: s.2
      rw [E2]
  · rw [if_neg z, if_neg z]
    exact ⟨E1, E2⟩
theorem inn_cg (A : Cg C C') {h : Nat} {al : Int → Bool} {x : Int} (h0 : 0 ≤ x) : ∀ (n : Nat) (y : Int) (s s' : Hs), x < y → y + n ≤ cS C 0 → Eqv (cS C 0) s s' → Eqv (cS C 0) (inn (stp C h al x) n y s) (inn (stp C' h al x) n y s')
  | 0, y, s, s', _, _, E => E
  | n + 1, y, s, s', h1, h2, E => inn_cg A h0 n (y + 1) _ _ (by omega) (by omega) (stp_cg A h0 h1 (by omega) E)
theorem outr_cg (A : Cg C C') {h : Nat} {al : Int → Bool} : ∀ (n : Nat) (x : Int) (s s' : Hs), 0 ≤ x → x + n = cS C 0 → Eqv (cS C 0) s s' → Eqv (cS C 0) (outr C h al n x s) (outr C' h al n x s')
  | 0, x, s, s', _, _, E => E
  | n + 1, x, s, s', h0, hn, E => by
    simp only [outr]
    rw [A.1 0 (by decide)]
    exact outr_cg A n (x + 1) _ _ (by omega) (by omega) (inn_cg A h0 _ (x + 1) s s' (by omega) (by omega) E)
theorem hsh_cg (A : Cg C C') (P0 : 0 ≤ cS C 0) {h : Nat} {al : Int → Bool} {bd bd' : Int → Int} (e : ∀ p : Int, 0 ≤ p → p < cS C 0 → bd' p = bd p) : Eqv (cS C 0) (hsh C h al bd) (hsh C' h al bd') := by
  unfold hsh
  rw [A.1 0 (by decide)]
  exact outr_cg A _ 0 _ _ (Int.le_refl 0) (by omega) ⟨e, rfl⟩
theorem rst_cg (A : Cg C C') (P0 : 0 ≤ cS C 0) : ∀ n : Nat, (∀ p : Int, 0 ≤ p → p < cS C 0 → (rst C' n).1 p = (rst C n).1 p) ∧ (rst C' n).2 = (rst C n).2
  | 0 => ⟨fun p p0 p1 => (A.2.2 p p0 p1).1.2, by simp only [rst]; rw [A.1 0 (by decide)]⟩
  | n + 1 => by
    obtain ⟨h1, h2⟩ := rst_cg A P0 n
    have E := hsh_cg A P0 (h := n) (al := (rst C n).2) h1
    have ee : eats C' n = eats C n := by unfold eats; rw [A.1 4 (by decide)]
    have e3 := A.1 3 (by decide)
    rw [hst_1 A.2.1.1, hst_1 A.2.1.2, hmi_no A.2.1.1, hmi_no A.2.1.2, ee, h2]
    by_cases z : eats C n = true
    · rw [if_pos z, if_pos z, if_pos z, if_pos z]
      refine ⟨fun p p0 p1 => ?_, ?_⟩
      · show eatB C' (hsh C' n (rst C n).2 (rst C' n).1).1 (rst C n).2 p = eatB C (hsh C n (rst C n).2 (rst C n).1).1 (rst C n).2 p
        unfold eatB
        rw [e3, E.1 p p0 p1]
      · show eatA C' (hsh C' n (rst C n).2 (rst C' n).1).1 (rst C n).2 = eatA C (hsh C n (rst C n).2 (rst C n).1).1 (rst C n).2
        funext p
        unfold eatA
        cases w : (rst C n).2 p with
        | false => rfl
        | true =>
          obtain ⟨p0, p1⟩ := rst_al n p w
          rw [e3, E.1 p p0 p1]
    · rw [if_neg z, if_neg z, if_neg z, if_neg z]
      exact ⟨E.1, rfl⟩
theorem hev_cg (A : Cg C C') (P0 : 0 ≤ cS C 0) (n : Nat) : hev C' n = hev C n := by
  obtain ⟨h1, h2⟩ := rst_cg A P0 n
  unfold hev
  rw [hmi_no A.2.1.1, hmi_no A.2.1.2, h2]
  exact (hsh_cg A P0 h1).2
theorem cH_cg (A : Cg C C') : cH C' = cH C := by unfold cH; rw [A.1 1 (by decide)]
theorem stv_cg (A : Cg C C') (P0 : 0 ≤ cS C 0) : stv C' = stv C := by
  unfold stv alN
  rw [A.1 0 (by decide), cH_cg A, (rst_cg A P0 _).2]
theorem lgs_cg (A : Cg C C') (P0 : 0 ≤ cS C 0) : ∀ n : Nat, lgs C' 0 n = lgs C 0 n
  | 0 => rfl
  | n + 1 => by rw [lgs_0s, lgs_0s, hev_cg A P0, lgs_cg A P0 n]
theorem metA_cg (A : Cg C C') (P0 : 0 ≤ cS C 0) : metA C' = metA C := by
  funext p q
  unfold metA
  rw [cH_cg A, lgs_cg A P0]
theorem pts_cg (A : Cg C C') (P0 : 0 ≤ cS C 0) : ∀ n : Nat, pts C' n = pts C n
  | 0 => rfl
  | n + 1 => by
    have ej : joi C' = joi C := by
      funext p q
      unfold joi
      rw [metA_cg A P0, A.1 0 (by decide)]
    simp only [pts]
    rw [pts_cg A P0 n, ej]
end CG
/-! a row's settings, by the numbers that told it -/
def cellQ (t : Int → Int) (p h : Int) : Int := if t (50 + p) = 0 then t (11 + 4 * p) else t (60 + 12 * p + (if h < t (50 + p) then h else t (50 + p) - 1))
def qrT (t : Int → Int) (lo x y : Int) : Nat → Bool
  | 0 => false
  | n + 1 => qrT t lo x y n || (!tb lo n && ((decide (t (160 + 2 * n) = x) && decide (t (161 + 2 * n) = y)) || (decide (t (160 + 2 * n) = y) && decide (t (161 + 2 * n) = x))))
section ROW
variable {t r : Int → Int}
theorem row_p (R : RwQ t (t 7).toNat r) {p : Int} (p0 : 0 ≤ p) (p1 : p < t 6) : (mnT r p = t (10 + 4 * p) ∧ r (21 + 17 * p) = t (11 + 4 * p) ∧ r (22 + 17 * p) = t (12 + 4 * p)) ∧ r (23 + 17 * p) = t (13 + 4 * p) ∧ r (24 + 17 * p) = t (50 + p) ∧ ∀ k : Int, 0 ≤ k → k < t (50 + p) → r (25 + 17 * p + k) = t (60 + 12 * p + k) := by
  have h := R.2.2.1 p.toNat (by omega)
  unfold PerR at h
  rw [show ((p.toNat : Nat) : Int) = p by omega] at h
  refine ⟨h.1, h.2.1, h.2.2.1, fun k k0 k1 => ?_⟩
  have := h.2.2.2 k.toNat (by omega)
  rw [show ((k.toNat : Nat) : Int) = k by omega] at this
  exact this
theorem row_wh (hT : TRg t) (R : RwQ t (t 7).toNat r) {p : Int} (p0 : 0 ≤ p) (p1 : p < t 6) {h : Int} (h0 : 0 ≤ h) : cellT r p h = cellQ t p h := by
  obtain ⟨⟨h1, h2, h3⟩, h4, h5, h6⟩ := row_p R p0 p1
  have hp := (hT.2.1 p.toNat (by omega)).2.2.2.2.1
  rw [show ((p.toNat : Nat) : Int) = p by omega] at hp
  unfold cellT cellQ
  rw [h5, h2]
  by_cases z : t (50 + p) = 0
  · rw [if_pos z, if_pos z]
  · rw [if_neg z, if_neg z]
    split
    · exact h6 _ h0 (by omega)
    · exact h6 _ (by omega) (by omega)
theorem row_qr (R : RwQ t (t 7).toNat r) (lo x y : Int) : ∀ n : Nat, n ≤ (t 7).toNat → qrN r lo x y n = qrT t lo x y n
  | 0, _ => rfl
  | n + 1, h => by
    obtain ⟨e1, e2⟩ := R.2.2.2 n (by omega)
    simp only [qrN, qrT]
    rw [row_qr R lo x y n (by omega), e1, e2]
theorem row_op (hT : TRg t) (R : RwQ t (t 7).toNat r) {lo x y : Int} (x0 : 0 ≤ x) (x1 : x < t 6) (y0 : 0 ≤ y) (y1 : y < t 6) : opT r lo x y = (!(decide (t (10 + 4 * x) = 2) && decide (t (10 + 4 * y) = 2)) && !qrT t lo x y (t 7).toNat) := by
  have e7 : (r 7).toNat = (t 7).toNat := by rw [R.2.1.2]; omega
  unfold opT
  rw [(row_p R x0 x1).1.1, (row_p R y0 y1).1.1, e7, row_qr R lo x y _ (Nat.le_refl _)]
theorem row_cS (R : RwQ t (t 7).toNat r) (i : Int) : cS (cfg r) i = if i = 0 then t 6 else if i = 1 then t 3 else if i = 2 then t 2 else if i = 3 then t 4 else if i = 4 then t 5 else if i = 7 then 0 else -1 := by
  obtain ⟨⟨-, -, h2, h3, h4, h5⟩, ⟨h6, -⟩, -⟩ := R
  show (if i = 0 then r 6 else if i = 1 then r 3 else if i = 2 then r 2 else if i = 3 then r 4 else if i = 4 then r 5 else if i = 7 then 0 else -1) = _
  rw [h2, h3, h4, h5, h6]
theorem row_P (R : RwQ t (t 7).toNat r) : cS (cfg r) 0 = t 6 := R.2.1.1
/-- a row that tells the same but for gloves, quarrels, bread at first -/
theorem row_cg {t1 r1 : Int → Int} {C : Cf} (hT : TRg t) (hT1 : TRg t1) (R : RwQ t (t 7).toNat r) (R1 : RwQ t1 (t1 7).toNat r1) (e : ∀ i : Int, i ≤ 6 → t1 i = t i) (ew : ∀ p : Int, 0 ≤ p → p < t 6 → ∀ h : Int, 0 ≤ h → cellQ t1 p h = cellQ t p h) (er : ∀ p : Int, 0 ≤ p → p < t 6 → rkT (t1 (10 + 4 * p)) = rkT (t (10 + 4 * p)))
    (c1 : C.1 = (cfg r).1) (c3 : C.2.2.1 = (cfg r).2.2.1) (c5 : C.2.2.2.2.1 = (cfg r).2.2.2.2.1) (hg : ∀ p : Int, 0 ≤ p → p < t 6 → decide (t1 (10 + 4 * p) = 3) = cGl C p) (hs : ∀ p : Int, 0 ≤ p → p < t 6 → t1 (12 + 4 * p) = cSt C p) (ho : ∀ x y : Int, 0 ≤ x → x < y → y < t 6 → (!(decide (t1 (10 + 4 * x) = 2) && decide (t1 (10 + 4 * y) = 2)) && !qrT t1 0 x y (t1 7).toNat) = cOp C x y) : Cg C (cfg r1) := by
  have eC : ∀ i : Int, cS C i = cS (cfg r) i := fun i => by unfold cS; rw [c1]
  have eP : cS C 0 = t 6 := by rw [eC, row_P R]
  have e6 := e 6 (by decide)
  refine ⟨fun i hi => ?_, ⟨by rw [eC, row_cS R]; rfl, by rw [row_cS R1]; rfl⟩, fun p p0 p1 => ?_⟩
  · rw [eC, row_cS R, row_cS R1, e6, e 3 (by decide), e 2 (by decide), e 4 (by decide), e 5 (by decide)]
  · rw [eP] at p1 ⊢
    obtain ⟨⟨h1, -, h3⟩, -⟩ := row_p R1 p0 (by omega)
    obtain ⟨⟨g1, -, -⟩, -⟩ := row_p R p0 (by omega)
    refine ⟨⟨?_, ?_⟩, fun h => ?_, fun q hq q1 => ⟨?_, ?_⟩⟩
    · show decide (mnT r1 p = 3) = _
      rw [h1]
      exact hg p p0 p1
    · show r1 (22 + 17 * p) = _
      rw [h3]
      exact hs p p0 p1
    · show cellT r1 p h = cWh C h p
      unfold cWh
      rw [c5]
      show _ = cellT r p h
      rw [row_wh hT1 R1 p0 (by omega) (by omega), row_wh hT R p0 (by omega) (by omega)]
      exact ew p p0 p1 h (by omega)
    · show decide (rkT (mnT r1 q) ≤ rkT (mnT r1 p)) = cGr C p q
      unfold cGr
      rw [c3]
      show _ = decide (rkT (mnT r q) ≤ rkT (mnT r p))
      rw [h1, (row_p R1 (p := q) (by omega) (by omega)).1.1, g1, (row_p R (p := q) (by omega) (by omega)).1.1, er p p0 p1, er q (by omega) q1]
    · show opT r1 0 p q = _
      rw [row_op hT1 R1 p0 (by omega) (by omega) (by omega)]
      exact ho p q p0 hq q1
end ROW
