/-! settings alike where there are people: the same run -/
def EqP (P : Int) (f g : Int → Int) : Prop := ∀ p : Int, 0 ≤ p → p < P → f p = g p
def Sim (C C' : Cf) : Prop := ((∀ i : Int, cS C' i = cS C i) ∧ EqP (cS C 0) (cSt C') (cSt C)) ∧ (∀ p : Int, 0 ≤ p → p < cS C 0 → cGl C' p = cGl C p) ∧ cGr C' = cGr C ∧ cOp C' = cOp C ∧ cWh C' = cWh C
section
variable {C C' : Cf}
theorem gvr_sim (S : Sim C C') {bd bd' : Int → Int} {x y : Int} (x0 : 0 ≤ x) (xy : x < y) (y1 : y < cS C 0) (e : EqP (cS C 0) bd' bd) : gvr C' bd' x y = gvr C bd x y := by
  have ea := e x x0 (by omega)
  have eb := e y (by omega) y1
  have e0 : gv0 C' bd' x y = gv0 C bd x y := by
    unfold gv0
    rw [S.1.1 2, ea, eb, S.2.2.1]
  unfold gvr
  rw [e0]
  rcases gv0_in C bd x y with z | z | z
  · rw [if_pos z, if_pos z]
  · rw [z, ea, S.2.1 x x0 (by omega)]
  · rw [z, eb, S.2.1 y (by omega) y1]
theorem stp_sim (S : Sim C C') {h : Int} {al : Int → Bool} {x y : Int} {s s' : Hs} (x0 : 0 ≤ x) (xy : x < y) (y1 : y < cS C 0) (e : EqP (cS C 0) s'.1 s.1) (e2 : s'.2 = s.2) : EqP (cS C 0) (stp C' h al x y s').1 (stp C h al x y s).1 ∧ (stp C' h al x y s').2 = (stp C h al x y s).2 := by
  have es : shk C' h al x y = shk C h al x y := by
    unfold shk
    rw [S.2.2.2.1, S.2.2.2.2]
  have eg := gvr_sim S x0 xy y1 e
  unfold stp
  rw [es]
  by_cases z : shk C h al x y = true
  · rw [if_pos z, if_pos z]
    refine ⟨fun p p0 p1 => ?_, ?_⟩
    · show mvb s'.1 x y (gvr C' s'.1 x y) p = mvb s.1 x y (gvr C s.1 x y) p
      rw [eg]
      unfold mvb
      by_cases w : gvr C s.1 x y = -1
      · rw [if_pos w, if_pos w]; exact e p p0 p1
      · rw [if_neg w, if_neg w]
        show (if p = gvr C s.1 x y then s'.1 p - 1 else if p = x + y - gvr C s.1 x y then s'.1 p + 1 else s'.1 p) = (if p = gvr C s.1 x y then s.1 p - 1 else if p = x + y - gvr C s.1 x y then s.1 p + 1 else s.1 p)
        rw [e p p0 p1]
    · show (x, y, gvr C' s'.1 x y) :: s'.2 = (x, y, gvr C s.1 x y) :: s.2
      rw [eg, e2]
  · rw [if_neg z, if_neg z]
    exact ⟨e, e2⟩
theorem inn_sim (S : Sim C C') {h : Int} {al : Int → Bool} {x : Int} (x0 : 0 ≤ x) : ∀ (n : Nat) (y : Int) (s s' : Hs), x < y → y + n ≤ cS C 0 → EqP (cS C 0) s'.1 s.1 → s'.2 = s.2 → EqP (cS C 0) (inn (stp C' h al x) n y s').1 (inn (stp C h al x) n y s).1 ∧ (inn (stp C' h al x) n y s').2 = (inn (stp C h al x) n y s).2
  | 0, y, s, s', h1, h2, e, e2 => ⟨e, e2⟩
  | n + 1, y, s, s', h1, h2, e, e2 => by
    obtain ⟨g1, g2⟩ := stp_sim S (h := h) (al := al) x0 h1 (by omega) e e2
    exact inn_sim S x0 n (y + 1) _ _ (by omega) (by omega) g1 g2
theorem outr_sim (S : Sim C C') {h : Int} {al : Int → Bool} : ∀ (n k : Nat) (s s' : Hs), (k : Int) + n = cS C 0 → EqP (cS C 0) s'.1 s.1 → s'.2 = s.2 → EqP (cS C 0) (outr C' h al n k s').1 (outr C h al n k s).1 ∧ (outr C' h al n k s').2 = (outr C h al n k s).2
  | 0, k, s, s', h1, e, e2 => ⟨e, e2⟩
  | n + 1, k, s, s', h1, e, e2 => by
    obtain ⟨g1, g2⟩ := inn_sim S (h := h) (al := al) (x := (k : Int)) (by omega) (cS C 0 - (k + 1)).toNat (k + 1) s s' (by omega) (by omega) e e2
    have := outr_sim S (h := h) (al := al) n (k + 1) _ _ (by omega) g1 g2
    simp only [outr]
    rw [S.1.1 0, show (k : Int) + 1 = ((k + 1 : Nat) : Int) by omega]
    rw [show (k : Int) + 1 = ((k + 1 : Nat) : Int) by omega] at this
    exact this
theorem hsh_sim (S : Sim C C') (h0 : 0 ≤ cS C 0) {h : Int} {al : Int → Bool} {bd bd' : Int → Int} (e : EqP (cS C 0) bd' bd) : EqP (cS C 0) (hsh C' h al bd').1 (hsh C h al bd).1 ∧ (hsh C' h al bd').2 = (hsh C h al bd).2 := by
  unfold hsh
  rw [S.1.1 0]
  exact outr_sim S (h := h) (al := al) (cS C 0).toNat 0 (bd, []) (bd', []) (by omega) e rfl
theorem lof_sim (S : Sim C C') {h : Int} {bd bd' : Int → Int} (e : EqP (cS C 0) bd' bd) : EqP (cS C 0) (lof C' h bd') (lof C h bd) := by
  intro p p0 p1
  unfold lof
  rw [S.1.1 6, S.1.1 5, S.1.1 0, S.1.1 7]
  by_cases z : h = cS C 6 ∧ 0 ≤ cS C 5 ∧ cS C 5 < cS C 0
  · rw [if_pos z, if_pos z]
    show (if p = cS C 5 then bd' p + cS C 7 else bd' p) = (if p = cS C 5 then bd p + cS C 7 else bd p)
    rw [e p p0 p1]
  · rw [if_neg z, if_neg z]
    exact e p p0 p1
theorem rst_sim (S : Sim C C') (h0 : 0 ≤ cS C 0) : ∀ n : Nat, EqP (cS C 0) (rst C' n).1 (rst C n).1 ∧ (rst C' n).2 = (rst C n).2
  | 0 => ⟨S.1.2, by
      funext p
      show decide (0 ≤ p ∧ p < cS C' 0) = decide (0 ≤ p ∧ p < cS C 0)
      rw [S.1.1 0]⟩
  | n + 1 => by
    obtain ⟨e1, e2⟩ := rst_sim S h0 n
    have g := hsh_sim S h0 (h := (n : Int)) (al := (rst C n).2) (lof_sim S (h := (n : Int)) e1)
    have ee : eats C' n = eats C n := by unfold eats; rw [S.1.1 4]
    show EqP (cS C 0) (hst C' n (rst C' n)).1 (hst C n (rst C n)).1 ∧ (hst C' n (rst C' n)).2 = (hst C n (rst C n)).2
    unfold hst
    rw [ee, e2]
    by_cases z : eats C n = true
    · rw [if_pos z, if_pos z, if_pos z, if_pos z]
      generalize (hsh C' n (rst C n).2 (lof C' n (rst C' n).1)).1 = X' at g ⊢
      generalize (hsh C n (rst C n).2 (lof C n (rst C n).1)).1 = X at g ⊢
      refine ⟨fun p p0 p1 => ?_, funext fun p => ?_⟩
      · show (if (rst C n).2 p = true ∧ cS C' 3 ≤ X' p then X' p - cS C' 3 else X' p) = (if (rst C n).2 p = true ∧ cS C 3 ≤ X p then X p - cS C 3 else X p)
        rw [S.1.1 3, g.1 p p0 p1]
      · show ((rst C n).2 p && decide (cS C' 3 ≤ X' p)) = ((rst C n).2 p && decide (cS C 3 ≤ X p))
        rw [S.1.1 3]
        cases hp : (rst C n).2 p with
        | false => rfl
        | true =>
          have := rst_al n p hp
          rw [g.1 p this.1 this.2]
    · rw [if_neg z, if_neg z, if_neg z, if_neg z]
      exact ⟨g.1, rfl⟩
theorem hev_sim (S : Sim C C') (h0 : 0 ≤ cS C 0) (n : Nat) : hev C' n = hev C n := by
  obtain ⟨e1, e2⟩ := rst_sim S h0 n
  show (hsh C' n (rst C' n).2 (lof C' n (rst C' n).1)).2 = (hsh C n (rst C n).2 (lof C n (rst C n).1)).2
  rw [e2]
  exact (hsh_sim S h0 (lof_sim S e1)).2
theorem brE_sim (S : Sim C C') (h0 : 0 ≤ cS C 0) {p : Int} (p0 : 0 ≤ p) (p1 : p < cS C 0) : brE C' p = brE C p := by
  unfold brE cH
  rw [S.1.1 1]
  exact (rst_sim S h0 _).1 p p0 p1
end
section
variable {g : xG} {K : Option MV → xS → Prop} {σ σ0 : xS} {t : Int → Int} {t0 : Int} {a : Int → Int} {n : Int} {C : Cf}
theorem sp_Mo_endOf {p : Int} (M : MoC σ t t0 C) (R : Tw1 σ0 σ C) (p0 : 0 ≤ p) (p1 : p < t 6) (k : K (some (vI (brE C p))) σ) : Mt g y_Mo_endOf [vR 174, vI p] σ K := by
  have t3 := M.1.2.2.2.2.1
  have t6 := M.1.2.2.2.2.2.2.2.1
  have eP := M.P.1
  have e3 := M.P.2.1
  have r := (R.at M.2.1.2 (h := t 3 - 1) (by omega) (by omega) p0 (by omega)).1.1
  have eh : (t 3 - 1).toNat + 1 = cH C := by unfold cH; omega
  rw [eh] at r
  refine x_enter 0 rfl rfl rfl (fun Z => ?_)
  show Wx g y_Mo_endOf Z K 0 [vR 174, vI p] [] σ
  refine x_aload_n (dat d_Mo_endOf 0 rfl) rfl rfl ?_
  refine x_getr (r := 181) (dat d_Mo_endOf 1 rfl) rfl f_Mo_29 (or_mk (by decide +kernel)) ?_
  refine x_bipush (dat d_Mo_endOf 2 rfl) (by decide) (by decide) ?_
  refine x_aload_n (dat d_Mo_endOf 3 rfl) rfl rfl ?_
  refine x_iconst (dat d_Mo_endOf 4 rfl) (by decide) ?_
  refine x_inv (As := [vI 3]) (dat d_Mo_endOf 5 rfl) rfl c_Mo_of l_Mo_199 (by decide) (rv_mo (by decide +kernel)) rfl rfl (Nat.le_of_ble_eq_true rfl) ?_
  refine sp_Mo_of M.1.1 (by decide) (by decide) ?_
  show Wx g y_Mo_endOf Z K 11 [vR 174, vI p] [vI (t 3), vI 8, vR 181] σ
  refine x_iconst (dat d_Mo_endOf 6 rfl) (by decide) ?_
  refine x_isub (v := (t 3) - 1) (dat d_Mo_endOf 7 rfl) rfl (by omega) ?_
  refine x_imul (v := 8 * (t 3 - 1)) (dat d_Mo_endOf 8 rfl) (by omega) (by omega) ?_
  refine x_iload_n (dat d_Mo_endOf 9 rfl) rfl rfl ?_
  refine x_iadd (v := (8 * (t 3 - 1)) + p) (dat d_Mo_endOf 10 rfl) rfl (by omega) ?_
  refine x_iald (n := 192) (v := brE C p) (dat d_Mo_endOf 11 rfl) (ai_mk (by decide +kernel)) (by omega) (by omega) (by exact r) ?_
  refine x_iret (dat d_Mo_endOf 12 rfl) rfl ?_
  exact k
theorem sp_Mo_spread (M : MoC σ t t0 C) (R : Tw1 σ0 σ C) (h1 : 1 ≤ t 6) (k : K (some (vI (spn C))) σ) : Mt g y_Mo_spread [vR 174] σ K := by
  have t6 := M.1.2.2.2.2.2.2.2.1
  have eP := M.P.1
  have hC := M.2.1.2
  have hb : ∀ p : Int, 0 ≤ p → p < cS C 0 → 0 ≤ brE C p ∧ brE C p ≤ 294 := fun p p0 p1 => rst_bd hC (cH C) p0 p1
  have lp : ∀ (Z : xZ) (d i : Nat), (i : Int) + 1 + d = t 6 → Wx g y_Mo_spread Z K 14 [vR 174, vI (mxE (brE C) i), vI (mnE (brE C) i), vI ((i + 1 : Nat) : Int)] [] σ := by
    intro Z d
    induction d with
    | zero =>
      intro i hd
      have e : (cS C 0).toNat - 1 = i := by omega
      have bd := mE_bd (f := brE C) (B := 294) i (fun p p0 p1 => hb p p0 (by omega))
      have k2 : K (some (vI (mxE (brE C) i - mnE (brE C) i))) σ := by unfold spn at k; rw [e] at k; exact k
      refine x_iload_n (dat d_Mo_spread 10 rfl) rfl rfl ?_
      refine x_aload_n (dat d_Mo_spread 11 rfl) rfl rfl ?_
      refine x_inv (As := []) (dat d_Mo_spread 12 rfl) rfl c_Mo_people l_Mo_202 (by decide) (rv_mo (by decide +kernel)) rfl rfl (Nat.le_of_ble_eq_true rfl) ?_
      refine sp_Mo_people M.1.1 ?_
      show Wx g y_Mo_spread Z K 19 [vR 174, vI (mxE (brE C) i), vI (mnE (brE C) i), vI ((i + 1 : Nat) : Int)] [vI (t 6), vI ((i + 1 : Nat) : Int)] σ
      refine x_icmp_ge (tgt := 66) (dat d_Mo_spread 13 rfl) (by decide) (fun c_19 => ?_) (fun c_19 => (by omega))
      refine x_iload_n (dat d_Mo_spread 38 rfl) rfl rfl ?_
      refine x_iload_n (dat d_Mo_spread 39 rfl) rfl rfl ?_
      refine x_isub (v := (mxE (brE C) i) - (mnE (brE C) i)) (dat d_Mo_spread 40 rfl) rfl (by omega) ?_
      refine x_iret (dat d_Mo_spread 41 rfl) rfl ?_
      exact k2
    | succ d ih =>
      intro i hd
      have s1 : mxE (brE C) (i + 1) = if mxE (brE C) i < brE C ((i + 1 : Nat) : Int) then brE C ((i + 1 : Nat) : Int) else mxE (brE C) i := rfl
      have s2 : mnE (brE C) (i + 1) = if brE C ((i + 1 : Nat) : Int) < mnE (brE C) i then brE C ((i + 1 : Nat) : Int) else mnE (brE C) i := rfl
      have nx : ∀ x y : Int, mxE (brE C) (i + 1) = x → mnE (brE C) (i + 1) = y → Wx g y_Mo_spread Z K 14 [vR 174, vI x, vI y, vI ((i + 1 + 1 : Nat) : Int)] [] σ := fun x y e1 e2 => by
        rw [← e1, ← e2]
        exact ih (i + 1) (by omega)
      generalize mxE (brE C) i = x at s1
      generalize mnE (brE C) i = y at s2
      refine x_iload_n (dat d_Mo_spread 10 rfl) rfl rfl ?_
      refine x_aload_n (dat d_Mo_spread 11 rfl) rfl rfl ?_
      refine x_inv (As := []) (dat d_Mo_spread 12 rfl) rfl c_Mo_people l_Mo_202 (by decide) (rv_mo (by decide +kernel)) rfl rfl (Nat.le_of_ble_eq_true rfl) ?_
      refine sp_Mo_people M.1.1 ?_
      show Wx g y_Mo_spread Z K 19 [vR 174, vI x, vI y, vI ((i + 1 : Nat) : Int)] [vI (t 6), vI ((i + 1 : Nat) : Int)] σ
      refine x_icmp_ge (tgt := 66) (dat d_Mo_spread 13 rfl) (by decide) (fun c_19 => (by omega)) (fun c_19 => ?_)
      refine x_aload_n (dat d_Mo_spread 14 rfl) rfl rfl ?_
      refine x_iload_n (dat d_Mo_spread 15 rfl) rfl rfl ?_
      refine x_inv (As := [vI ((i + 1 : Nat) : Int)]) (dat d_Mo_spread 16 rfl) rfl c_Mo_endOf l_Mo_382 (by decide) (rv_mo (by decide +kernel)) rfl rfl (Nat.le_of_ble_eq_true rfl) ?_
      refine sp_Mo_endOf M R (by omega) (by omega) ?_
      show Wx g y_Mo_spread Z K 27 [vR 174, vI x, vI y, vI ((i + 1 : Nat) : Int)] [vI (brE C ((i + 1 : Nat) : Int))] σ
      refine x_iload_n (dat d_Mo_spread 17 rfl) rfl rfl ?_
      refine x_icmp_le (tgt := 39) (dat d_Mo_spread 18 rfl) (by decide) (fun c_28 => ?_) (fun c_28 => ?_)
      · refine x_iload_n (dat d_Mo_spread 23 rfl) rfl rfl ?_
        refine x_istore_n (L' := [vR 174, vI x, vI y, vI ((i + 1 : Nat) : Int)]) (dat d_Mo_spread 24 rfl) rfl (by decide) rfl rfl ?_
        refine x_aload_n (dat d_Mo_spread 25 rfl) rfl rfl ?_
        refine x_iload_n (dat d_Mo_spread 26 rfl) rfl rfl ?_
        refine x_inv (As := [vI ((i + 1 : Nat) : Int)]) (dat d_Mo_spread 27 rfl) rfl c_Mo_endOf l_Mo_382 (by decide) (rv_mo (by decide +kernel)) rfl rfl (Nat.le_of_ble_eq_true rfl) ?_
        refine sp_Mo_endOf M R (by omega) (by omega) ?_
        show Wx g y_Mo_spread Z K 46 [vR 174, vI x, vI y, vI ((i + 1 : Nat) : Int)] [vI (brE C ((i + 1 : Nat) : Int))] σ
        refine x_iload_n (dat d_Mo_spread 28 rfl) rfl rfl ?_
        refine x_icmp_ge (tgt := 58) (dat d_Mo_spread 29 rfl) (by decide) (fun c_47 => ?_) (fun c_47 => ?_)
        · refine x_iload_n (dat d_Mo_spread 34 rfl) rfl rfl ?_
          refine x_istore_n (L' := [vR 174, vI x, vI y, vI ((i + 1 : Nat) : Int)]) (dat d_Mo_spread 35 rfl) rfl (by decide) rfl rfl ?_
          refine x_iinc (v' := ((i + 1 + 1 : Nat) : Int)) (L' := [vR 174, vI x, vI y, vI ((i + 1 + 1 : Nat) : Int)]) (dat d_Mo_spread 36 rfl) rfl (by decide) rfl (by omega) (by omega) rfl ?_
          refine x_goto (tgt := 14) (dat d_Mo_spread 37 rfl) (by decide) ?_
          refine nx _ _ ?_ ?_
          · rw [s1]
            first
            | rw [if_pos (by omega)]
            | rw [if_neg (by omega)]
          · rw [s2]
            first
            | rw [if_pos (by omega)]
            | rw [if_neg (by omega)]
        · refine x_aload_n (dat d_Mo_spread 30 rfl) rfl rfl ?_
          refine x_iload_n (dat d_Mo_spread 31 rfl) rfl rfl ?_
          refine x_inv (As := [vI ((i + 1 : Nat) : Int)]) (dat d_Mo_spread 32 rfl) rfl c_Mo_endOf l_Mo_382 (by decide) (rv_mo (by decide +kernel)) rfl rfl (Nat.le_of_ble_eq_true rfl) ?_
          refine sp_Mo_endOf M R (by omega) (by omega) ?_
          show Wx g y_Mo_spread Z K 55 [vR 174, vI x, vI y, vI ((i + 1 : Nat) : Int)] [vI (brE C ((i + 1 : Nat) : Int))] σ
          refine x_goto (tgt := 59) (dat d_Mo_spread 33 rfl) (by decide) ?_
          refine x_istore_n (L' := [vR 174, vI x, vI (brE C ((i + 1 : Nat) : Int)), vI ((i + 1 : Nat) : Int)]) (dat d_Mo_spread 35 rfl) rfl (by decide) rfl rfl ?_
          refine x_iinc (v' := ((i + 1 + 1 : Nat) : Int)) (L' := [vR 174, vI x, vI (brE C ((i + 1 : Nat) : Int)), vI ((i + 1 + 1 : Nat) : Int)]) (dat d_Mo_spread 36 rfl) rfl (by decide) rfl (by omega) (by omega) rfl ?_
          refine x_goto (tgt := 14) (dat d_Mo_spread 37 rfl) (by decide) ?_
          refine nx _ _ ?_ ?_
          · rw [s1]
            first
            | rw [if_pos (by omega)]
            | rw [if_neg (by omega)]
          · rw [s2]
            first
            | rw [if_pos (by omega)]
            | rw [if_neg (by omega)]
      · refine x_aload_n (dat d_Mo_spread 19 rfl) rfl rfl ?_
        refine x_iload_n (dat d_Mo_spread 20 rfl) rfl rfl ?_
        refine x_inv (As := [vI ((i + 1 : Nat) : Int)]) (dat d_Mo_spread 21 rfl) rfl c_Mo_endOf l_Mo_382 (by decide) (rv_mo (by decide +kernel)) rfl rfl (Nat.le_of_ble_eq_true rfl) ?_
        refine sp_Mo_endOf M R (by omega) (by omega) ?_
        show Wx g y_Mo_spread Z K 36 [vR 174, vI x, vI y, vI ((i + 1 : Nat) : Int)] [vI (brE C ((i + 1 : Nat) : Int))] σ
        refine x_goto (tgt := 40) (dat d_Mo_spread 22 rfl) (by decide) ?_
        refine x_istore_n (L' := [vR 174, vI (brE C ((i + 1 : Nat) : Int)), vI y, vI ((i + 1 : Nat) : Int)]) (dat d_Mo_spread 24 rfl) rfl (by decide) rfl rfl ?_
        refine x_aload_n (dat d_Mo_spread 25 rfl) rfl rfl ?_
        refine x_iload_n (dat d_Mo_spread 26 rfl) rfl rfl ?_
        refine x_inv (As := [vI ((i + 1 : Nat) : Int)]) (dat d_Mo_spread 27 rfl) rfl c_Mo_endOf l_Mo_382 (by decide) (rv_mo (by decide +kernel)) rfl rfl (Nat.le_of_ble_eq_true rfl) ?_
        refine sp_Mo_endOf M R (by omega) (by omega) ?_
        show Wx g y_Mo_spread Z K 46 [vR 174, vI (brE C ((i + 1 : Nat) : Int)), vI y, vI ((i + 1 : Nat) : Int)] [vI (brE C ((i + 1 : Nat) : Int))] σ
        refine x_iload_n (dat d_Mo_spread 28 rfl) rfl rfl ?_
        refine x_icmp_ge (tgt := 58) (dat d_Mo_spread 29 rfl) (by decide) (fun c_47 => ?_) (fun c_47 => ?_)
        · refine x_iload_n (dat d_Mo_spread 34 rfl) rfl rfl ?_
          refine x_istore_n (L' := [vR 174, vI (brE C ((i + 1 : Nat) : Int)), vI y, vI ((i + 1 : Nat) : Int)]) (dat d_Mo_spread 35 rfl) rfl (by decide) rfl rfl ?_
          refine x_iinc (v' := ((i + 1 + 1 : Nat) : Int)) (L' := [vR 174, vI (brE C ((i + 1 : Nat) : Int)), vI y, vI ((i + 1 + 1 : Nat) : Int)]) (dat d_Mo_spread 36 rfl) rfl (by decide) rfl (by omega) (by omega) rfl ?_
          refine x_goto (tgt := 14) (dat d_Mo_spread 37 rfl) (by decide) ?_
          refine nx _ _ ?_ ?_
          · rw [s1]
            first
            | rw [if_pos (by omega)]
            | rw [if_neg (by omega)]
          · rw [s2]
            first
            | rw [if_pos (by omega)]
            | rw [if_neg (by omega)]
        · refine x_aload_n (dat d_Mo_spread 30 rfl) rfl rfl ?_
          refine x_iload_n (dat d_Mo_spread 31 rfl) rfl rfl ?_
          refine x_inv (As := [vI ((i + 1 : Nat) : Int)]) (dat d_Mo_spread 32 rfl) rfl c_Mo_endOf l_Mo_382 (by decide) (rv_mo (by decide +kernel)) rfl rfl (Nat.le_of_ble_eq_true rfl) ?_
          refine sp_Mo_endOf M R (by omega) (by omega) ?_
          show Wx g y_Mo_spread Z K 55 [vR 174, vI (brE C ((i + 1 : Nat) : Int)), vI y, vI ((i + 1 : Nat) : Int)] [vI (brE C ((i + 1 : Nat) : Int))] σ
          refine x_goto (tgt := 59) (dat d_Mo_spread 33 rfl) (by decide) ?_
          refine x_istore_n (L' := [vR 174, vI (brE C ((i + 1 : Nat) : Int)), vI (brE C ((i + 1 : Nat) : Int)), vI ((i + 1 : Nat) : Int)]) (dat d_Mo_spread 35 rfl) rfl (by decide) rfl rfl ?_
          refine x_iinc (v' := ((i + 1 + 1 : Nat) : Int)) (L' := [vR 174, vI (brE C ((i + 1 : Nat) : Int)), vI (brE C ((i + 1 : Nat) : Int)), vI ((i + 1 + 1 : Nat) : Int)]) (dat d_Mo_spread 36 rfl) rfl (by decide) rfl (by omega) (by omega) rfl ?_
          refine x_goto (tgt := 14) (dat d_Mo_spread 37 rfl) (by decide) ?_
          refine nx _ _ ?_ ?_
          · rw [s1]
            first
            | rw [if_pos (by omega)]
            | rw [if_neg (by omega)]
          · rw [s2]
            first
            | rw [if_pos (by omega)]
            | rw [if_neg (by omega)]
  refine x_enter 3 rfl rfl rfl (fun Z => ?_)
  show Wx g y_Mo_spread Z K 0 [vR 174, vU, vU, vU] [] σ
  refine x_aload_n (dat d_Mo_spread 0 rfl) rfl rfl ?_
  refine x_iconst (dat d_Mo_spread 1 rfl) (by decide) ?_
  refine x_inv (As := [vI 0]) (dat d_Mo_spread 2 rfl) rfl c_Mo_endOf l_Mo_382 (by decide) (rv_mo (by decide +kernel)) rfl rfl (Nat.le_of_ble_eq_true rfl) ?_
  refine sp_Mo_endOf M R (by omega) (by omega) ?_
  show Wx g y_Mo_spread Z K 5 [vR 174, vU, vU, vU] [vI (brE C 0)] σ
  refine x_istore_n (L' := [vR 174, vI (brE C 0), vU, vU]) (dat d_Mo_spread 3 rfl) rfl (by decide) rfl rfl ?_
  refine x_aload_n (dat d_Mo_spread 4 rfl) rfl rfl ?_
  refine x_iconst (dat d_Mo_spread 5 rfl) (by decide) ?_
  refine x_inv (As := [vI 0]) (dat d_Mo_spread 6 rfl) rfl c_Mo_endOf l_Mo_382 (by decide) (rv_mo (by decide +kernel)) rfl rfl (Nat.le_of_ble_eq_true rfl) ?_
  refine sp_Mo_endOf M R (by omega) (by omega) ?_
  show Wx g y_Mo_spread Z K 11 [vR 174, vI (brE C 0), vU, vU] [vI (brE C 0)] σ
  refine x_istore_n (L' := [vR 174, vI (brE C 0), vI (brE C 0), vU]) (dat d_Mo_spread 7 rfl) rfl (by decide) rfl rfl ?_
  refine x_iconst (dat d_Mo_spread 8 rfl) (by decide) ?_
  refine x_istore_n (L' := [vR 174, vI (brE C 0), vI (brE C 0), vI 1]) (dat d_Mo_spread 9 rfl) rfl (by decide) rfl rfl ?_
  exact lp Z (t 6 - 1).toNat 0 (by omega)
theorem lp_Mo_rich {Z : xZ} {l : Int} (h1 : 1 ≤ t 6) (k : ∀ σ' : xS, MoF σ' σ0 → K (some (vI (scanMin (evF t) 4).1)) σ') : ∀ (d i : Nat) (σ1 : xS) (b v : Int) (w6 : MV), i + d = 4 → scanMin (evF t) i = (b, v) → KnX σ1 t t0 [15] → MoF σ1 σ0 → Wx g y_Mo_richest Z K 67 [vR 174, vI n, vI l, vI b, vI v, vI (i : Int), w6] [] σ1 := by
  intro d
  induction d with
  | zero =>
    intro i σ1 b v w6 hd hb H F
    have e : i = 4 := by omega
    rw [e] at hb
    rw [hb] at k
    refine x_iload (dat d_Mo_richest 41 rfl) rfl ?_
    refine x_iconst (dat d_Mo_richest 42 rfl) (by decide) ?_
    refine x_icmp_ge (tgt := 116) (dat d_Mo_richest 43 rfl) (by decide) (fun c_70 => ?_) (fun c_70 => (by omega))
    refine x_iload_n (dat d_Mo_richest 64 rfl) rfl rfl ?_
    refine x_iret (dat d_Mo_richest 65 rfl) rfl ?_
    exact k σ1 F
  | succ d ih =>
    intro i σ1 b v w6 hd hb H F
    have fi := scanMin_b hb
    have st := scanMin_s hb
    have H2 : KnX (up σ1 174 15 (i : Int)) t t0 [15] := H.put (by decide)
    have F2 : MoF (up σ1 174 15 (i : Int)) σ0 := F.put (by decide)
    have M2 := kn_law H2 (l := (i : Int)) (by omega) (by omega) up_s
    obtain ⟨u, hu⟩ : ∃ u : Int, u = evF t i := ⟨_, rfl⟩
    rw [← hu] at st
    have hu2 : spn (mS (cfg t) 2 (i : Int)) = u := hu.symm
    have nx : ∀ (σ2 : xS) (b' v' : Int) (w6 : MV), scanMin (evF t) (i + 1) = (b', v') → KnX σ2 t t0 [15] → MoF σ2 σ0 → Wx g y_Mo_richest Z K 67 [vR 174, vI n, vI l, vI b', vI v', vI ((i + 1 : Nat) : Int), w6] [] σ2 := fun σ2 b' v' w6 e H3 F3 => ih (i + 1) σ2 b' v' w6 (by omega) e H3 F3
    refine x_iload (dat d_Mo_richest 41 rfl) rfl ?_
    refine x_iconst (dat d_Mo_richest 42 rfl) (by decide) ?_
    refine x_icmp_ge (tgt := 116) (dat d_Mo_richest 43 rfl) (by decide) (fun c_70 => (by omega)) (fun c_70 => ?_)
    refine x_aload_n (dat d_Mo_richest 44 rfl) rfl rfl ?_
    refine x_iload (dat d_Mo_richest 45 rfl) rfl ?_
    refine x_puti (ji := 15) (x := (i : Int)) (dat d_Mo_richest 46 rfl) rfl f_Mo_220w (oi_mk (by decide +kernel)) (fun h => absurd h (by decide)) (by decide) ?_
    refine x_aload_n (dat d_Mo_richest 47 rfl) rfl rfl ?_
    refine x_inv (As := []) (dat d_Mo_richest 48 rfl) rfl c_Mo_runs l_Mo_336 (by decide) (rv_mo (by decide +kernel)) rfl rfl (Nat.le_of_ble_eq_true rfl) ?_
    refine sp_Kn_runs H2 M2 (Or.inl rfl) (fun σ2 R M3 H3 W3 => ?_)
    show Wx g y_Mo_richest Z K 83 [vR 174, vI n, vI l, vI b, vI v, vI (i : Int), w6] [] σ2
    refine x_aload_n (dat d_Mo_richest 49 rfl) rfl rfl ?_
    refine x_inv (As := []) (dat d_Mo_richest 50 rfl) rfl c_Mo_spread l_Mo_419 (by decide) (rv_mo (by decide +kernel)) rfl rfl (Nat.le_of_ble_eq_true rfl) ?_
    refine sp_Mo_spread M3 R h1 ?_
    rw [hu2]
    show Wx g y_Mo_richest Z K 87 [vR 174, vI n, vI l, vI b, vI v, vI (i : Int), w6] [vI u] σ2
    refine x_istore (L' := [vR 174, vI n, vI l, vI b, vI v, vI (i : Int), vI u]) (dat d_Mo_richest 51 rfl) (by decide) rfl rfl ?_
    refine x_iload_n (dat d_Mo_richest 52 rfl) rfl rfl ?_
    refine x_if_lt (tgt := 103) (dat d_Mo_richest 53 rfl) (by decide) (fun c_90 => ?_) (fun c_90 => ?_)
    · refine x_iload (dat d_Mo_richest 58 rfl) rfl ?_
      refine x_istore_n (L' := [vR 174, vI n, vI l, vI (i : Int), vI v, vI (i : Int), vI u]) (dat d_Mo_richest 59 rfl) rfl (by decide) rfl rfl ?_
      refine x_iload (dat d_Mo_richest 60 rfl) rfl ?_
      refine x_istore (L' := [vR 174, vI n, vI l, vI (i : Int), vI u, vI (i : Int), vI u]) (dat d_Mo_richest 61 rfl) (by decide) rfl rfl ?_
      refine x_iinc (v' := ((i + 1 : Nat) : Int)) (L' := [vR 174, vI n, vI l, vI (i : Int), vI u, vI ((i + 1 : Nat) : Int), vI u]) (dat d_Mo_richest 62 rfl) rfl (by decide) rfl (by omega) (by omega) rfl ?_
      refine x_goto (tgt := 67) (dat d_Mo_richest 63 rfl) (by decide) ?_
      first
      | exact nx _ _ _ _ (by rw [st, if_pos (by omega)]) H3 (F2.trans W3.mo)
      | exact nx _ _ _ _ (by rw [st, if_neg (by omega)]) H3 (F2.trans W3.mo)
    · refine x_iload (dat d_Mo_richest 54 rfl) rfl ?_
      refine x_iload (dat d_Mo_richest 55 rfl) rfl ?_
      refine x_icmp_lt (tgt := 103) (dat d_Mo_richest 56 rfl) (by decide) (fun c_97 => ?_) (fun c_97 => ?_)
      · refine x_iload (dat d_Mo_richest 58 rfl) rfl ?_
        refine x_istore_n (L' := [vR 174, vI n, vI l, vI (i : Int), vI v, vI (i : Int), vI u]) (dat d_Mo_richest 59 rfl) rfl (by decide) rfl rfl ?_
        refine x_iload (dat d_Mo_richest 60 rfl) rfl ?_
        refine x_istore (L' := [vR 174, vI n, vI l, vI (i : Int), vI u, vI (i : Int), vI u]) (dat d_Mo_richest 61 rfl) (by decide) rfl rfl ?_
        refine x_iinc (v' := ((i + 1 : Nat) : Int)) (L' := [vR 174, vI n, vI l, vI (i : Int), vI u, vI ((i + 1 : Nat) : Int), vI u]) (dat d_Mo_richest 62 rfl) rfl (by decide) rfl (by omega) (by omega) rfl ?_
        refine x_goto (tgt := 67) (dat d_Mo_richest 63 rfl) (by decide) ?_
        first
        | exact nx _ _ _ _ (by rw [st, if_pos (by omega)]) H3 (F2.trans W3.mo)
        | exact nx _ _ _ _ (by rw [st, if_neg (by omega)]) H3 (F2.trans W3.mo)
      · refine x_goto (tgt := 110) (dat d_Mo_richest 57 rfl) (by decide) ?_
        refine x_iinc (v' := ((i + 1 : Nat) : Int)) (L' := [vR 174, vI n, vI l, vI b, vI v, vI ((i + 1 : Nat) : Int), vI u]) (dat d_Mo_richest 62 rfl) rfl (by decide) rfl (by omega) (by omega) rfl ?_
        refine x_goto (tgt := 67) (dat d_Mo_richest 63 rfl) (by decide) ?_
        first
        | exact nx _ _ _ _ (by rw [st, if_pos (by omega)]) H3 (F2.trans W3.mo)
        | exact nx _ _ _ _ (by rw [st, if_neg (by omega)]) H3 (F2.trans W3.mo)
theorem sp_Mo_richest {l : Int} (A : MoA σ a) (k : ∀ (r : Int) (σ' : xS), atT a n (-1) (fun t r => rchA t l r) r → MoA σ' a → MoF σ' σ → K (some (vI r)) σ') : Mt g y_Mo_richest [vR 174, vI n, vI l] σ K := by
  have c0 : 0 ≤ n → n < a 0 → ¬ (1 ≤ tw a n 6 ∧ (-1 ≤ l ∧ l ≤ 3)) → rchA (tw a n) l (-1) := fun _ _ z => by unfold rchA; rw [if_pos z]
  refine x_enter 4 rfl rfl rfl (fun Z => ?_)
  show Wx g y_Mo_richest Z K 0 [vR 174, vI n, vI l, vU, vU, vU, vU] [] σ
  refine x_aload_n (dat d_Mo_richest 0 rfl) rfl rfl ?_
  refine x_iload_n (dat d_Mo_richest 1 rfl) rfl rfl ?_
  refine x_inv (As := [vI n]) (dat d_Mo_richest 2 rfl) rfl c_Mo_isTown l_Mo_205 (by decide) (rv_mo (by decide +kernel)) rfl rfl (Nat.le_of_ble_eq_true rfl) ?_
  refine sp_Mo_isTown A (fun σ1 t0 n0 n1 H P Z1 A1 F => ?_) (fun n01 => ?_)
  · show Wx g y_Mo_richest Z K 5 [vR 174, vI n, vI l, vU, vU, vU, vU] [vI 1] σ1
    refine x_if_eq (tgt := 24) (dat d_Mo_richest 3 rfl) (by decide) (fun h => absurd h (by decide)) (fun c_5 => ?_)
    refine x_aload_n (dat d_Mo_richest 4 rfl) rfl rfl ?_
    refine x_inv (As := []) (dat d_Mo_richest 5 rfl) rfl c_Mo_people l_Mo_202 (by decide) (rv_mo (by decide +kernel)) rfl rfl (Nat.le_of_ble_eq_true rfl) ?_
    refine sp_Mo_people H.1.1 ?_
    have t6 := H.1.2.2.2.2.2.2.2.1
    have t3 := H.1.2.2.2.2.1
    show Wx g y_Mo_richest Z K 12 [vR 174, vI n, vI l, vU, vU, vU, vU] [vI (tw a n 6)] σ1
    refine x_if_eq (tgt := 24) (dat d_Mo_richest 6 rfl) (by decide) (fun c_12 => ?_) (fun c_12 => ?_)
    · refine x_iconst (dat d_Mo_richest 12 rfl) (by decide) ?_
      refine x_iret (dat d_Mo_richest 13 rfl) rfl ?_
      first
      | exact k _ σ ⟨fun _ => rfl, fun z1 z2 => absurd ⟨z1, z2⟩ n01⟩ A (MoF.rfl σ)
      | exact k _ σ1 ⟨fun _ => rfl, fun _ _ => c0 n0 n1 (by omega)⟩ A1 F
    · refine x_iload_n (dat d_Mo_richest 7 rfl) rfl rfl ?_
      refine x_iconst (dat d_Mo_richest 8 rfl) (by decide) ?_
      refine x_iconst (dat d_Mo_richest 9 rfl) (by decide) ?_
      refine x_invs (As := [vI l, vI (-1), vI 3]) (dat d_Mo_richest 10 rfl) rfl c_Mo_isIn l_Mo_136 (by decide) rfl rfl (Nat.le_of_ble_eq_true rfl) ?_
      refine sp_Mo_isIn (fun x1 x2 => ?_) (fun x1 => ?_)
      · show Wx g y_Mo_richest Z K 21 [vR 174, vI n, vI l, vU, vU, vU, vU] [vI 1] σ1
        refine x_if_ne (tgt := 26) (dat d_Mo_richest 11 rfl) (by decide) (fun c_21 => ?_) (fun h => absurd h (by decide))
        refine x_iload_n (dat d_Mo_richest 14 rfl) rfl rfl ?_
        refine x_if_lt (tgt := 59) (dat d_Mo_richest 15 rfl) (by decide) (fun c_27 => ?_) (fun c_27 => ?_)
        · refine x_iconst (dat d_Mo_richest 35 rfl) (by decide) ?_
          refine x_istore_n (L' := [vR 174, vI n, vI l, vI (-1), vU, vU, vU]) (dat d_Mo_richest 36 rfl) rfl (by decide) rfl rfl ?_
          refine x_iconst (dat d_Mo_richest 37 rfl) (by decide) ?_
          refine x_istore (L' := [vR 174, vI n, vI l, vI (-1), vI 0, vU, vU]) (dat d_Mo_richest 38 rfl) (by decide) rfl rfl ?_
          refine x_iconst (dat d_Mo_richest 39 rfl) (by decide) ?_
          refine x_istore (L' := [vR 174, vI n, vI l, vI (-1), vI 0, vI 0, vU]) (dat d_Mo_richest 40 rfl) (by decide) rfl rfl ?_
          refine lp_Mo_rich (σ0 := σ) (t := tw a n) (t0 := t0) (by omega) (fun σ' F2 => ?_) 4 0 σ1 (-1) 0 _ (by omega) rfl (KnX.pln H P Z1 _) F
          refine k _ σ' ⟨fun z => absurd ⟨n0, n1⟩ z, fun _ _ => ?_⟩ (A.same F2) F2
          show rchA (tw a n) l _
          unfold rchA
          rw [if_neg (show ¬ ¬ (1 ≤ tw a n 6 ∧ (-1 ≤ l ∧ l ≤ 3)) by omega), if_pos (by omega)]
        · refine x_aload_n (dat d_Mo_richest 16 rfl) rfl rfl ?_
          refine x_iload_n (dat d_Mo_richest 17 rfl) rfl rfl ?_
          refine x_puti (ji := 15) (x := (l)) (dat d_Mo_richest 18 rfl) rfl f_Mo_220w (oi_mk (by decide +kernel)) (fun h => absurd h (by decide)) (by decide) ?_
          refine x_aload_n (dat d_Mo_richest 19 rfl) rfl rfl ?_
          refine x_inv (As := []) (dat d_Mo_richest 20 rfl) rfl c_Mo_runs l_Mo_336 (by decide) (rv_mo (by decide +kernel)) rfl rfl (Nat.le_of_ble_eq_true rfl) ?_
          refine sp_Kn_runs ((KnX.pln H P Z1 [15]).put (i := 15) (v := l) (by decide)) (kn_law ((KnX.pln H P Z1 [15]).put (i := 15) (v := l) (by decide)) (l := l) (by omega) (by omega) up_s) (Or.inl rfl) (fun σ2 R M2 H2 W2 => ?_)
          have F2 : MoF σ2 σ := (F.put (by decide)).trans W2.mo
          have hf : Msk 8 (ishl 1 (tw a n 6) - 1) (fun q => decide (q < cS (mS (cfg (tw a n)) 2 l) 0)) := Msk.full (n := 8) (by decide) (by omega) (by omega)
          have hl2 : 0 ≤ ishl 1 (tw a n 6) - 1 ∧ ishl 1 (tw a n 6) - 1 < 256 := ⟨hf.1, hf.2.1⟩
          have eh : (tw a n 3 - 1).toNat + 1 = cH (mS (cfg (tw a n)) 2 l) := by show (tw a n 3 - 1).toNat + 1 = (tw a n 3).toNat; omega
          show Wx g y_Mo_richest Z K 39 [vR 174, vI n, vI l, vU, vU, vU, vU] [] σ2
          refine x_aload_n (dat d_Mo_richest 21 rfl) rfl rfl ?_
          refine x_iconst (dat d_Mo_richest 22 rfl) (by decide) ?_
          refine x_aload_n (dat d_Mo_richest 23 rfl) rfl rfl ?_
          refine x_inv (As := []) (dat d_Mo_richest 24 rfl) rfl c_Mo_people l_Mo_202 (by decide) (rv_mo (by decide +kernel)) rfl rfl (Nat.le_of_ble_eq_true rfl) ?_
          refine sp_Mo_people M2.1.1 ?_
          show Wx g y_Mo_richest Z K 45 [vR 174, vI n, vI l, vU, vU, vU, vU] [vI (tw a n 6), vI 1, vR 174] σ2
          refine x_ishl (v := ishl 1 (tw a n 6)) (dat d_Mo_richest 25 rfl) rfl ?_
          refine x_iconst (dat d_Mo_richest 26 rfl) (by decide) ?_
          refine x_isub (v := (ishl 1 (tw a n 6)) - 1) (dat d_Mo_richest 27 rfl) rfl (by omega) ?_
          refine x_aload_n (dat d_Mo_richest 28 rfl) rfl rfl ?_
          refine x_iconst (dat d_Mo_richest 29 rfl) (by decide) ?_
          refine x_inv (As := [vI 3]) (dat d_Mo_richest 30 rfl) rfl c_Mo_of l_Mo_199 (by decide) (rv_mo (by decide +kernel)) rfl rfl (Nat.le_of_ble_eq_true rfl) ?_
          refine sp_Mo_of M2.1.1 (by decide) (by decide) ?_
          show Wx g y_Mo_richest Z K 53 [vR 174, vI n, vI l, vU, vU, vU, vU] [vI (tw a n 3), vI ((ishl 1 (tw a n 6)) - 1), vR 174] σ2
          refine x_iconst (dat d_Mo_richest 31 rfl) (by decide) ?_
          refine x_isub (v := (tw a n 3) - 1) (dat d_Mo_richest 32 rfl) rfl (by omega) ?_
          refine x_inv (As := [vI ((ishl 1 (tw a n 6)) - 1), vI ((tw a n 3) - 1)]) (dat d_Mo_richest 33 rfl) rfl c_Mo_richestOf l_Mo_361 (by decide) (rv_mo (by decide +kernel)) rfl rfl (Nat.le_of_ble_eq_true rfl) ?_
          refine sp_Mo_richestOf M2 R hf (by omega) (by omega) ?_
          rw [eh]
          show Wx g y_Mo_richest Z K 58 [vR 174, vI n, vI l, vU, vU, vU, vU] [vI (rchT (mS (cfg (tw a n)) 2 l))] σ2
          refine x_iret (dat d_Mo_richest 34 rfl) rfl ?_
          refine k _ σ2 ⟨fun z => absurd ⟨n0, n1⟩ z, fun _ _ => ?_⟩ (A.same F2) F2
          show rchA (tw a n) l _
          unfold rchA
          rw [if_neg (show ¬ ¬ (1 ≤ tw a n 6 ∧ (-1 ≤ l ∧ l ≤ 3)) by omega), if_neg (by omega)]
      · show Wx g y_Mo_richest Z K 21 [vR 174, vI n, vI l, vU, vU, vU, vU] [vI 0] σ1
        refine x_if_ne (tgt := 26) (dat d_Mo_richest 11 rfl) (by decide) (fun h => absurd h (by decide)) (fun c_21 => ?_)
        refine x_iconst (dat d_Mo_richest 12 rfl) (by decide) ?_
        refine x_iret (dat d_Mo_richest 13 rfl) rfl ?_
        first
        | exact k _ σ ⟨fun _ => rfl, fun z1 z2 => absurd ⟨z1, z2⟩ n01⟩ A (MoF.rfl σ)
        | exact k _ σ1 ⟨fun _ => rfl, fun _ _ => c0 n0 n1 (by omega)⟩ A1 F
  · show Wx g y_Mo_richest Z K 5 [vR 174, vI n, vI l, vU, vU, vU, vU] [vI 0] σ
    refine x_if_eq (tgt := 24) (dat d_Mo_richest 3 rfl) (by decide) (fun c_5 => ?_) (fun h => absurd h (by decide))
    refine x_iconst (dat d_Mo_richest 12 rfl) (by decide) ?_
    refine x_iret (dat d_Mo_richest 13 rfl) rfl ?_
    first
    | exact k _ σ ⟨fun _ => rfl, fun z1 z2 => absurd ⟨z1, z2⟩ n01⟩ A (MoF.rfl σ)
    | exact k _ σ1 ⟨fun _ => rfl, fun _ _ => c0 n0 n1 (by omega)⟩ A1 F
end
