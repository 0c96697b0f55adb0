/-! the twin's answers: a run's sums */ -/
theorem FirstH.min {b1 b2 : Nat → Prop} {N : Nat} {v s : Int} (hv : FirstH b1 N v) (hs : FirstH b2 N s) : FirstH (fun h => b1 h ∨ b2 h) N (if 0 ≤ s ∧ (v < 0 ∨ s < v) then s else v) := by
  rcases hs with ⟨s1, s2⟩ | ⟨k, k1, k2, k3, k4⟩
  · rw [if_neg (by omega)]
    exact hv.congr (fun h hh => ⟨Or.inl, fun w => w.elim id (fun y => absurd y (s2 h hh))⟩)
  · rcases hv with ⟨v1, v2⟩ | ⟨j, j1, j2, j3, j4⟩
    · rw [if_pos (by omega)]
      exact Or.inr ⟨k, k1, k2, Or.inr k3, fun h hh w => w.elim (fun y => v2 h (by omega) y) (fun y => k4 h hh y)⟩
    · by_cases z : s < v
      · rw [if_pos (by omega)]
        exact Or.inr ⟨k, k1, k2, Or.inr k3, fun h hh w => w.elim (fun y => j4 h (by omega) y) (fun y => k4 h hh y)⟩
      · rw [if_neg (by omega)]
        exact Or.inr ⟨j, j1, j2, Or.inl j3, fun h hh w => w.elim (fun y => j4 h hh y) (fun y => k4 h (by omega) y)⟩
section
variable {g : xG} {K : Option MV → xS → Prop} {σ σ0 : xS} {t : Int → Int} {t0 : Int} {a : Int → Int} {n h : Int} {C : Cf}
theorem Tw1.p {σ' : xS} (R : Tw1 σ σ' C) {p : Int} (p0 : 0 ≤ p) (p1 : p < cS C 0) : σ' 192 p = sumN (shN C p) (cH C) ∧ σ' 193 p = sumN (eatP C p) (cH C) ∧ FirstH (fun h => (rst C (h + 1)).2 p = false) (cH C) (σ' 191 p) ∧ Msk 8 (σ' 194 p) (metA C p) := ⟨(R.1.2 p p0 p1).2.1, (R.1.2 p p0 p1).2.2.1, (R.1.2 p p0 p1).2.2.2.1, (R.1.2 p p0 p1).2.2.2.2⟩
theorem sp_Mo_firstStarved (M : MoC σ t t0 C) (R : Tw1 σ0 σ C) (k : ∀ v : Int, FirstH (fun h => ∃ p : Int, 0 ≤ p ∧ p < t 6 ∧ (rst C (h + 1)).2 p = false) (cH C) v → K (some (vI v)) σ) : Mt g y_Mo_firstStarved [vR 174] σ K := by
  have t6 := M.1.2.2.2.2.2.2.2.1
  have eP := M.P.1
  have hH := cH_eq M.2.1.2
  have lp : ∀ (Z : xZ) (d i : Nat) (v : Int), i + d = (t 6).toNat → FirstH (fun h => ∃ p : Int, 0 ≤ p ∧ p < (i : Int) ∧ (rst C (h + 1)).2 p = false) (cH C) v → Wx g y_Mo_firstStarved Z K 4 [vR 174, vI v, vI (i : Int)] [] σ := by
    intro Z d
    induction d with
    | zero =>
      intro i v hd hv
      have e : (i : Int) = t 6 := by omega
      refine x_iload_n (dat d_Mo_firstStarved 4 rfl) rfl rfl ?_
      refine x_aload_n (dat d_Mo_firstStarved 5 rfl) rfl rfl ?_
      refine x_inv (As := []) (dat d_Mo_firstStarved 6 rfl) rfl c_Mo_people l_Mo_202 (by decide) (rv_mo (by decide +kernel)) rfl rfl (Nat.le_of_ble_eq_true rfl) ?_
      refine sp_Mo_people M.1.1 ?_
      show Wx g y_Mo_firstStarved Z K 9 [vR 174, vI v, vI (i : Int)] [vI (t 6), vI (i : Int)] σ
      refine x_icmp_ge (tgt := 52) (dat d_Mo_firstStarved 7 rfl) (by decide) (fun c_9 => ?_) (fun c_9 => (by omega))
      refine x_iload_n (dat d_Mo_firstStarved 30 rfl) rfl rfl ?_
      refine x_iret (dat d_Mo_firstStarved 31 rfl) rfl ?_
      rw [e] at hv
      exact k v hv
    | succ d ih =>
      intro i v hd hv
      have ri := (R.p (show (0 : Int) ≤ (i : Int) by omega) (by omega)).2.2.1
      obtain ⟨s, hs⟩ : ∃ s : Int, s = σ 191 (i : Int) := ⟨_, rfl⟩
      rw [← hs] at ri
      have nx : ∀ v2 : Int, v2 = (if 0 ≤ s ∧ (v < 0 ∨ s < v) then s else v) → FirstH (fun h => ∃ p : Int, 0 ≤ p ∧ p < ((i + 1 : Nat) : Int) ∧ (rst C (h + 1)).2 p = false) (cH C) v2 := fun v2 e => by
        rw [e]
        refine (hv.min ri).congr (fun h hh => ⟨fun w => ?_, fun w => ?_⟩)
        · rcases w with ⟨p, p0, p1, p2⟩ | w
          · exact ⟨p, p0, by omega, p2⟩
          · exact ⟨(i : Int), by omega, by omega, w⟩
        · obtain ⟨p, p0, p1, p2⟩ := w
          by_cases z : p = (i : Int)
          · rw [z] at p2; exact Or.inr p2
          · exact Or.inl ⟨p, p0, by omega, p2⟩
      refine x_iload_n (dat d_Mo_firstStarved 4 rfl) rfl rfl ?_
      refine x_aload_n (dat d_Mo_firstStarved 5 rfl) rfl rfl ?_
      refine x_inv (As := []) (dat d_Mo_firstStarved 6 rfl) rfl c_Mo_people l_Mo_202 (by decide) (rv_mo (by decide +kernel)) rfl rfl (Nat.le_of_ble_eq_true rfl) ?_
      refine sp_Mo_people M.1.1 ?_
      show Wx g y_Mo_firstStarved Z K 9 [vR 174, vI v, vI (i : Int)] [vI (t 6), vI (i : Int)] σ
      refine x_icmp_ge (tgt := 52) (dat d_Mo_firstStarved 7 rfl) (by decide) (fun c_9 => (by omega)) (fun c_9 => ?_)
      refine x_aload_n (dat d_Mo_firstStarved 8 rfl) rfl rfl ?_
      refine x_getr (r := 191) (dat d_Mo_firstStarved 9 rfl) rfl f_Mo_59 (or_mk (by decide +kernel)) ?_
      refine x_iload_n (dat d_Mo_firstStarved 10 rfl) rfl rfl ?_
      refine x_iald (n := 8) (v := s) (dat d_Mo_firstStarved 11 rfl) (ai_mk (by decide +kernel)) (by omega) (by omega) (hs.symm) ?_
      refine x_if_lt (tgt := 44) (dat d_Mo_firstStarved 12 rfl) (by decide) (fun c_18 => ?_) (fun c_18 => ?_)
      · refine x_iload_n (dat d_Mo_firstStarved 26 rfl) rfl rfl ?_
        refine x_istore_n (L' := [vR 174, vI v, vI (i : Int)]) (dat d_Mo_firstStarved 27 rfl) rfl (by decide) rfl rfl ?_
        refine x_iinc (v' := ((i + 1 : Nat) : Int)) (L' := [vR 174, vI v, vI ((i + 1 : Nat) : Int)]) (dat d_Mo_firstStarved 28 rfl) rfl (by decide) rfl (by omega) (by omega) rfl ?_
        refine x_goto (tgt := 4) (dat d_Mo_firstStarved 29 rfl) (by decide) ?_
        first
        | exact ih (i + 1) s (by omega) (nx s (by rw [if_pos (by omega)]))
        | exact ih (i + 1) v (by omega) (nx v (by rw [if_neg (by omega)]))
      · refine x_iload_n (dat d_Mo_firstStarved 13 rfl) rfl rfl ?_
        refine x_if_lt (tgt := 35) (dat d_Mo_firstStarved 14 rfl) (by decide) (fun c_22 => ?_) (fun c_22 => ?_)
        · refine x_aload_n (dat d_Mo_firstStarved 21 rfl) rfl rfl ?_
          refine x_getr (r := 191) (dat d_Mo_firstStarved 22 rfl) rfl f_Mo_59 (or_mk (by decide +kernel)) ?_
          refine x_iload_n (dat d_Mo_firstStarved 23 rfl) rfl rfl ?_
          refine x_iald (n := 8) (v := s) (dat d_Mo_firstStarved 24 rfl) (ai_mk (by decide +kernel)) (by omega) (by omega) (hs.symm) ?_
          refine x_goto (tgt := 45) (dat d_Mo_firstStarved 25 rfl) (by decide) ?_
          refine x_istore_n (L' := [vR 174, vI s, vI (i : Int)]) (dat d_Mo_firstStarved 27 rfl) rfl (by decide) rfl rfl ?_
          refine x_iinc (v' := ((i + 1 : Nat) : Int)) (L' := [vR 174, vI s, vI ((i + 1 : Nat) : Int)]) (dat d_Mo_firstStarved 28 rfl) rfl (by decide) rfl (by omega) (by omega) rfl ?_
          refine x_goto (tgt := 4) (dat d_Mo_firstStarved 29 rfl) (by decide) ?_
          first
          | exact ih (i + 1) s (by omega) (nx s (by rw [if_pos (by omega)]))
          | exact ih (i + 1) v (by omega) (nx v (by rw [if_neg (by omega)]))
        · refine x_aload_n (dat d_Mo_firstStarved 15 rfl) rfl rfl ?_
          refine x_getr (r := 191) (dat d_Mo_firstStarved 16 rfl) rfl f_Mo_59 (or_mk (by decide +kernel)) ?_
          refine x_iload_n (dat d_Mo_firstStarved 17 rfl) rfl rfl ?_
          refine x_iald (n := 8) (v := s) (dat d_Mo_firstStarved 18 rfl) (ai_mk (by decide +kernel)) (by omega) (by omega) (hs.symm) ?_
          refine x_iload_n (dat d_Mo_firstStarved 19 rfl) rfl rfl ?_
          refine x_icmp_ge (tgt := 44) (dat d_Mo_firstStarved 20 rfl) (by decide) (fun c_32 => ?_) (fun c_32 => ?_)
          · refine x_iload_n (dat d_Mo_firstStarved 26 rfl) rfl rfl ?_
            refine x_istore_n (L' := [vR 174, vI v, vI (i : Int)]) (dat d_Mo_firstStarved 27 rfl) rfl (by decide) rfl rfl ?_
            refine x_iinc (v' := ((i + 1 : Nat) : Int)) (L' := [vR 174, vI v, vI ((i + 1 : Nat) : Int)]) (dat d_Mo_firstStarved 28 rfl) rfl (by decide) rfl (by omega) (by omega) rfl ?_
            refine x_goto (tgt := 4) (dat d_Mo_firstStarved 29 rfl) (by decide) ?_
            first
            | exact ih (i + 1) s (by omega) (nx s (by rw [if_pos (by omega)]))
            | exact ih (i + 1) v (by omega) (nx v (by rw [if_neg (by omega)]))
          · refine x_aload_n (dat d_Mo_firstStarved 21 rfl) rfl rfl ?_
            refine x_getr (r := 191) (dat d_Mo_firstStarved 22 rfl) rfl f_Mo_59 (or_mk (by decide +kernel)) ?_
            refine x_iload_n (dat d_Mo_firstStarved 23 rfl) rfl rfl ?_
            refine x_iald (n := 8) (v := s) (dat d_Mo_firstStarved 24 rfl) (ai_mk (by decide +kernel)) (by omega) (by omega) (hs.symm) ?_
            refine x_goto (tgt := 45) (dat d_Mo_firstStarved 25 rfl) (by decide) ?_
            refine x_istore_n (L' := [vR 174, vI s, vI (i : Int)]) (dat d_Mo_firstStarved 27 rfl) rfl (by decide) rfl rfl ?_
            refine x_iinc (v' := ((i + 1 : Nat) : Int)) (L' := [vR 174, vI s, vI ((i + 1 : Nat) : Int)]) (dat d_Mo_firstStarved 28 rfl) rfl (by decide) rfl (by omega) (by omega) rfl ?_
            refine x_goto (tgt := 4) (dat d_Mo_firstStarved 29 rfl) (by decide) ?_
            first
            | exact ih (i + 1) s (by omega) (nx s (by rw [if_pos (by omega)]))
            | exact ih (i + 1) v (by omega) (nx v (by rw [if_neg (by omega)]))
  refine x_enter 2 rfl rfl rfl (fun Z => ?_)
  show Wx g y_Mo_firstStarved Z K 0 [vR 174, vU, vU] [] σ
  refine x_iconst (dat d_Mo_firstStarved 0 rfl) (by decide) ?_
  refine x_istore_n (L' := [vR 174, vI (-1), vU]) (dat d_Mo_firstStarved 1 rfl) rfl (by decide) rfl rfl ?_
  refine x_iconst (dat d_Mo_firstStarved 2 rfl) (by decide) ?_
  refine x_istore_n (L' := [vR 174, vI (-1), vI 0]) (dat d_Mo_firstStarved 3 rfl) rfl (by decide) rfl rfl ?_
  exact lp Z (t 6).toNat 0 (-1) (by omega) (Or.inl ⟨rfl, fun h hh w => by obtain ⟨p, p0, p1, p2⟩ := w; omega⟩)
theorem sp_Mo_sumOf5 (M : MoC σ t t0 C) (R : Tw1 σ0 σ C) (k : K (some (vI (sumN (fun h => ((hev C h).length : Int)) (cH C)))) σ) : Mt g y_Mo_sumOf [vR 174, vR 185] σ K := by
  have t3 := M.1.2.2.2.2.1
  have hC := M.2.1.2
  have e3 := M.P.2.1
  have hH := cH_eq hC
  have bd : ∀ i : Nat, 0 ≤ sumN (fun h => ((hev C h).length : Int)) i ∧ sumN (fun h => ((hev C h).length : Int)) i ≤ (28 * i : Nat) := fun i => sumN_bd i (fun j _ => by have := (hmi_ok hC j).2.2; show 0 ≤ ((hev C j).length : Int) ∧ ((hev C j).length : Int) ≤ (28 : Nat); omega)
  have lp : ∀ (Z : xZ) (d i : Nat), i + d = cH C → Wx g y_Mo_sumOf Z K 4 [vR 174, vR 185, vI (sumN (fun h => ((hev C h).length : Int)) i), vI (i : Int)] [] σ := by
    intro Z d
    induction d with
    | zero =>
      intro i hd
      have e : i = cH C := by omega
      refine x_iload_n (dat d_Mo_sumOf 4 rfl) rfl rfl ?_
      refine x_aload_n (dat d_Mo_sumOf 5 rfl) rfl rfl ?_
      refine x_iconst (dat d_Mo_sumOf 6 rfl) (by decide) ?_
      refine x_inv (As := [vI 3]) (dat d_Mo_sumOf 7 rfl) rfl c_Mo_of l_Mo_199 (by decide) (rv_mo (by decide +kernel)) rfl rfl (Nat.le_of_ble_eq_true rfl) ?_
      refine sp_Mo_of M.1.1 (by decide) (by decide) ?_
      show Wx g y_Mo_sumOf Z K 10 [vR 174, vR 185, vI (sumN (fun h => ((hev C h).length : Int)) i), vI (i : Int)] [vI (t 3), vI (i : Int)] σ
      refine x_icmp_ge (tgt := 25) (dat d_Mo_sumOf 8 rfl) (by decide) (fun c_10 => ?_) (fun c_10 => (by omega))
      refine x_iload_n (dat d_Mo_sumOf 17 rfl) rfl rfl ?_
      refine x_iret (dat d_Mo_sumOf 18 rfl) rfl ?_
      rw [e]
      exact k
    | succ d ih =>
      intro i hd
      have ri := (R.hr hC (show (0 : Int) ≤ (i : Int) by omega) (by omega)).1
      have b1 := bd i
      have b2 := (hmi_ok hC i).2.2
      have et : sumN (fun h => ((hev C h).length : Int)) (i + 1) = sumN (fun h => ((hev C h).length : Int)) i + ((hev C i).length : Int) := rfl
      rw [show ((i : Int)).toNat = i by omega] at ri
      refine x_iload_n (dat d_Mo_sumOf 4 rfl) rfl rfl ?_
      refine x_aload_n (dat d_Mo_sumOf 5 rfl) rfl rfl ?_
      refine x_iconst (dat d_Mo_sumOf 6 rfl) (by decide) ?_
      refine x_inv (As := [vI 3]) (dat d_Mo_sumOf 7 rfl) rfl c_Mo_of l_Mo_199 (by decide) (rv_mo (by decide +kernel)) rfl rfl (Nat.le_of_ble_eq_true rfl) ?_
      refine sp_Mo_of M.1.1 (by decide) (by decide) ?_
      show Wx g y_Mo_sumOf Z K 10 [vR 174, vR 185, vI (sumN (fun h => ((hev C h).length : Int)) i), vI (i : Int)] [vI (t 3), vI (i : Int)] σ
      refine x_icmp_ge (tgt := 25) (dat d_Mo_sumOf 8 rfl) (by decide) (fun c_10 => (by omega)) (fun c_10 => ?_)
      refine x_iload_n (dat d_Mo_sumOf 9 rfl) rfl rfl ?_
      refine x_aload_n (dat d_Mo_sumOf 10 rfl) rfl rfl ?_
      refine x_iload_n (dat d_Mo_sumOf 11 rfl) rfl rfl ?_
      refine x_iald (n := 24) (v := ((hev C i).length : Int)) (dat d_Mo_sumOf 12 rfl) (ai_mk (by decide +kernel)) (by omega) (by omega) (ri) ?_
      refine x_iadd (v := sumN (fun h => ((hev C h).length : Int)) (i + 1)) (dat d_Mo_sumOf 13 rfl) (by omega) (by omega) ?_
      refine x_istore_n (L' := [vR 174, vR 185, vI (sumN (fun h => ((hev C h).length : Int)) (i + 1)), vI (i : Int)]) (dat d_Mo_sumOf 14 rfl) rfl (by decide) rfl rfl ?_
      refine x_iinc (v' := ((i + 1 : Nat) : Int)) (L' := [vR 174, vR 185, vI (sumN (fun h => ((hev C h).length : Int)) (i + 1)), vI ((i + 1 : Nat) : Int)]) (dat d_Mo_sumOf 15 rfl) rfl (by decide) rfl (by omega) (by omega) rfl ?_
      refine x_goto (tgt := 4) (dat d_Mo_sumOf 16 rfl) (by decide) ?_
      exact ih (i + 1) (by omega)
  refine x_enter 2 rfl rfl rfl (fun Z => ?_)
  show Wx g y_Mo_sumOf Z K 0 [vR 174, vR 185, vU, vU] [] σ
  refine x_iconst (dat d_Mo_sumOf 0 rfl) (by decide) ?_
  refine x_istore_n (L' := [vR 174, vR 185, vI 0, vU]) (dat d_Mo_sumOf 1 rfl) rfl (by decide) rfl rfl ?_
  refine x_iconst (dat d_Mo_sumOf 2 rfl) (by decide) ?_
  refine x_istore_n (L' := [vR 174, vR 185, vI 0, vI 0]) (dat d_Mo_sumOf 3 rfl) rfl (by decide) rfl rfl ?_
  exact lp Z (cH C) 0 (by omega)
theorem sp_Mo_sumOf7 (M : MoC σ t t0 C) (R : Tw1 σ0 σ C) (k : K (some (vI (sumN (eatN C) (cH C)))) σ) : Mt g y_Mo_sumOf [vR 174, vR 187] σ K := by
  have t3 := M.1.2.2.2.2.1
  have hC := M.2.1.2
  have e3 := M.P.2.1
  have hH := cH_eq hC
  have n0 := hC.2.2.2.2.1
  have n9 := hC.2.2.2.2.2.1
  have eb : ∀ j : Nat, 0 ≤ eatN C j ∧ eatN C j ≤ (72 : Nat) := fun j => by
    unfold eatN
    have ab := alN_bd C (j + 1)
    split
    · have a1 : cS C 3 * alN C (j + 1) ≤ cS C 3 * 8 := Int.mul_le_mul_of_nonneg_left (by omega) n0
      have a2 : 0 ≤ cS C 3 * alN C (j + 1) := Int.mul_nonneg n0 ab.1
      omega
    · omega
  have bd : ∀ i : Nat, 0 ≤ sumN (eatN C) i ∧ sumN (eatN C) i ≤ (72 * i : Nat) := fun i => sumN_bd i (fun j _ => eb j)
  have lp : ∀ (Z : xZ) (d i : Nat), i + d = cH C → Wx g y_Mo_sumOf Z K 4 [vR 174, vR 187, vI (sumN (eatN C) i), vI (i : Int)] [] σ := by
    intro Z d
    induction d with
    | zero =>
      intro i hd
      have e : i = cH C := by omega
      refine x_iload_n (dat d_Mo_sumOf 4 rfl) rfl rfl ?_
      refine x_aload_n (dat d_Mo_sumOf 5 rfl) rfl rfl ?_
      refine x_iconst (dat d_Mo_sumOf 6 rfl) (by decide) ?_
      refine x_inv (As := [vI 3]) (dat d_Mo_sumOf 7 rfl) rfl c_Mo_of l_Mo_199 (by decide) (rv_mo (by decide +kernel)) rfl rfl (Nat.le_of_ble_eq_true rfl) ?_
      refine sp_Mo_of M.1.1 (by decide) (by decide) ?_
      show Wx g y_Mo_sumOf Z K 10 [vR 174, vR 187, vI (sumN (eatN C) i), vI (i : Int)] [vI (t 3), vI (i : Int)] σ
      refine x_icmp_ge (tgt := 25) (dat d_Mo_sumOf 8 rfl) (by decide) (fun c_10 => ?_) (fun c_10 => (by omega))
      refine x_iload_n (dat d_Mo_sumOf 17 rfl) rfl rfl ?_
      refine x_iret (dat d_Mo_sumOf 18 rfl) rfl ?_
      rw [e]
      exact k
    | succ d ih =>
      intro i hd
      have ri := (R.hr hC (show (0 : Int) ≤ (i : Int) by omega) (by omega)).2.2
      have b1 := bd i
      have b2 := eb i
      have et : sumN (eatN C) (i + 1) = sumN (eatN C) i + eatN C i := rfl
      rw [show ((i : Int)).toNat = i by omega] at ri
      refine x_iload_n (dat d_Mo_sumOf 4 rfl) rfl rfl ?_
      refine x_aload_n (dat d_Mo_sumOf 5 rfl) rfl rfl ?_
      refine x_iconst (dat d_Mo_sumOf 6 rfl) (by decide) ?_
      refine x_inv (As := [vI 3]) (dat d_Mo_sumOf 7 rfl) rfl c_Mo_of l_Mo_199 (by decide) (rv_mo (by decide +kernel)) rfl rfl (Nat.le_of_ble_eq_true rfl) ?_
      refine sp_Mo_of M.1.1 (by decide) (by decide) ?_
      show Wx g y_Mo_sumOf Z K 10 [vR 174, vR 187, vI (sumN (eatN C) i), vI (i : Int)] [vI (t 3), vI (i : Int)] σ
      refine x_icmp_ge (tgt := 25) (dat d_Mo_sumOf 8 rfl) (by decide) (fun c_10 => (by omega)) (fun c_10 => ?_)
      refine x_iload_n (dat d_Mo_sumOf 9 rfl) rfl rfl ?_
      refine x_aload_n (dat d_Mo_sumOf 10 rfl) rfl rfl ?_
      refine x_iload_n (dat d_Mo_sumOf 11 rfl) rfl rfl ?_
      refine x_iald (n := 24) (v := eatN C i) (dat d_Mo_sumOf 12 rfl) (ai_mk (by decide +kernel)) (by omega) (by omega) (ri) ?_
      refine x_iadd (v := sumN (eatN C) (i + 1)) (dat d_Mo_sumOf 13 rfl) (by omega) (by omega) ?_
      refine x_istore_n (L' := [vR 174, vR 187, vI (sumN (eatN C) (i + 1)), vI (i : Int)]) (dat d_Mo_sumOf 14 rfl) rfl (by decide) rfl rfl ?_
      refine x_iinc (v' := ((i + 1 : Nat) : Int)) (L' := [vR 174, vR 187, vI (sumN (eatN C) (i + 1)), vI ((i + 1 : Nat) : Int)]) (dat d_Mo_sumOf 15 rfl) rfl (by decide) rfl (by omega) (by omega) rfl ?_
      refine x_goto (tgt := 4) (dat d_Mo_sumOf 16 rfl) (by decide) ?_
      exact ih (i + 1) (by omega)
  refine x_enter 2 rfl rfl rfl (fun Z => ?_)
  show Wx g y_Mo_sumOf Z K 0 [vR 174, vR 187, vU, vU] [] σ
  refine x_iconst (dat d_Mo_sumOf 0 rfl) (by decide) ?_
  refine x_istore_n (L' := [vR 174, vR 187, vI 0, vU]) (dat d_Mo_sumOf 1 rfl) rfl (by decide) rfl rfl ?_
  refine x_iconst (dat d_Mo_sumOf 2 rfl) (by decide) ?_
  refine x_istore_n (L' := [vR 174, vR 187, vI 0, vI 0]) (dat d_Mo_sumOf 3 rfl) rfl (by decide) rfl rfl ?_
  exact lp Z (cH C) 0 (by omega)
theorem sp_Mo_couples (M : MoC σ t t0 C) (R : Tw1 σ0 σ C) (k : K (some (vI (cpl2 C (t 6).toNat / 2))) σ) : Mt g y_Mo_couples [vR 174] σ K := by
  have t6 := M.1.2.2.2.2.2.2.2.1
  have eP := M.P.1
  have bd : ∀ i : Nat, 0 ≤ cpl2 C i ∧ cpl2 C i ≤ (8 * i : Nat) := fun i => sumN_bd (B := 8) i (fun j _ => cntN_bd _ 8)
  have lp : ∀ (Z : xZ) (d i : Nat), i + d = (t 6).toNat → Wx g y_Mo_couples Z K 4 [vR 174, vI (cpl2 C i), vI (i : Int)] [] σ := by
    intro Z d
    induction d with
    | zero =>
      intro i hd
      have e : i = (t 6).toNat := by omega
      have b1 := bd i
      refine x_iload_n (dat d_Mo_couples 4 rfl) rfl rfl ?_
      refine x_aload_n (dat d_Mo_couples 5 rfl) rfl rfl ?_
      refine x_inv (As := []) (dat d_Mo_couples 6 rfl) rfl c_Mo_people l_Mo_202 (by decide) (rv_mo (by decide +kernel)) rfl rfl (Nat.le_of_ble_eq_true rfl) ?_
      refine sp_Mo_people M.1.1 ?_
      show Wx g y_Mo_couples Z K 9 [vR 174, vI (cpl2 C i), vI (i : Int)] [vI (t 6), vI (i : Int)] σ
      refine x_icmp_ge (tgt := 30) (dat d_Mo_couples 7 rfl) (by decide) (fun c_9 => ?_) (fun c_9 => (by omega))
      refine x_iload_n (dat d_Mo_couples 18 rfl) rfl rfl ?_
      refine x_iconst (dat d_Mo_couples 19 rfl) (by decide) ?_
      refine x_idiv (v := (cpl2 C i) / 2) (dat d_Mo_couples 20 rfl) (by omega) rfl ?_
      refine x_iret (dat d_Mo_couples 21 rfl) rfl ?_
      rw [e]
      exact k
    | succ d ih =>
      intro i hd
      have ri := (R.p (show (0 : Int) ≤ (i : Int) by omega) (by omega)).2.2.2
      have b1 := bd i
      have b2 := cntN_bd (metA C i) 8
      have et : cpl2 C (i + 1) = cpl2 C i + cntN (metA C i) 8 := rfl
      refine x_iload_n (dat d_Mo_couples 4 rfl) rfl rfl ?_
      refine x_aload_n (dat d_Mo_couples 5 rfl) rfl rfl ?_
      refine x_inv (As := []) (dat d_Mo_couples 6 rfl) rfl c_Mo_people l_Mo_202 (by decide) (rv_mo (by decide +kernel)) rfl rfl (Nat.le_of_ble_eq_true rfl) ?_
      refine sp_Mo_people M.1.1 ?_
      show Wx g y_Mo_couples Z K 9 [vR 174, vI (cpl2 C i), vI (i : Int)] [vI (t 6), vI (i : Int)] σ
      refine x_icmp_ge (tgt := 30) (dat d_Mo_couples 7 rfl) (by decide) (fun c_9 => (by omega)) (fun c_9 => ?_)
      refine x_iload_n (dat d_Mo_couples 8 rfl) rfl rfl ?_
      refine x_aload_n (dat d_Mo_couples 9 rfl) rfl rfl ?_
      refine x_getr (r := 194) (dat d_Mo_couples 10 rfl) rfl f_Mo_68 (or_mk (by decide +kernel)) ?_
      refine x_iload_n (dat d_Mo_couples 11 rfl) rfl rfl ?_
      refine x_iald (n := 8) (v := σ 194 (i : Int)) (dat d_Mo_couples 12 rfl) (ai_mk (by decide +kernel)) (by omega) (by omega) rfl ?_
      refine x_invs (As := [vI (σ 194 (i : Int))]) (dat d_Mo_couples 13 rfl) rfl c_Mo_bits l_Mo_339 (by decide) rfl rfl (Nat.le_of_ble_eq_true rfl) ?_
      refine sp_Mo_bits ri ?_
      show Wx g y_Mo_couples Z K 22 [vR 174, vI (cpl2 C i), vI (i : Int)] [vI (cntN (metA C i) 8), vI (cpl2 C i)] σ
      refine x_iadd (v := cpl2 C (i + 1)) (dat d_Mo_couples 14 rfl) (by omega) (by omega) ?_
      refine x_istore_n (L' := [vR 174, vI (cpl2 C (i + 1)), vI (i : Int)]) (dat d_Mo_couples 15 rfl) rfl (by decide) rfl rfl ?_
      refine x_iinc (v' := ((i + 1 : Nat) : Int)) (L' := [vR 174, vI (cpl2 C (i + 1)), vI ((i + 1 : Nat) : Int)]) (dat d_Mo_couples 16 rfl) rfl (by decide) rfl (by omega) (by omega) rfl ?_
      refine x_goto (tgt := 4) (dat d_Mo_couples 17 rfl) (by decide) ?_
      exact ih (i + 1) (by omega)
  refine x_enter 2 rfl rfl rfl (fun Z => ?_)
  show Wx g y_Mo_couples Z K 0 [vR 174, vU, vU] [] σ
  refine x_iconst (dat d_Mo_couples 0 rfl) (by decide) ?_
  refine x_istore_n (L' := [vR 174, vI 0, vU]) (dat d_Mo_couples 1 rfl) rfl (by decide) rfl rfl ?_
  refine x_iconst (dat d_Mo_couples 2 rfl) (by decide) ?_
  refine x_istore_n (L' := [vR 174, vI 0, vI 0]) (dat d_Mo_couples 3 rfl) rfl (by decide) rfl rfl ?_
  exact lp Z (t 6).toNat 0 (by omega)
theorem sp_Mo_richestOf {m : Int} {who : Int → Bool} (M : MoC σ t t0 C) (R : Tw1 σ0 σ C) (hm : Msk 8 m who) (h0 : 0 ≤ h) (h1 : h < t 3) (k : K (some (vI (rcs who (rst C (h.toNat + 1)).1 (t 6).toNat))) σ) : Mt g y_Mo_richestOf [vR 174, vI m, vI h] σ K := by
  have t6 := M.1.2.2.2.2.2.2.2.1
  have hC := M.2.1.2
  have hH := hC.2.2.2.1
  have eP := M.P.1
  have e3 := M.P.2.1
  have lp : ∀ (Z : xZ) (d i : Nat), i + d = (t 6).toNat → Wx g y_Mo_richestOf Z K 5 [vR 174, vI m, vI h, vI (rcs who (rst C (h.toNat + 1)).1 i), vI (i : Int)] [] σ := by
    intro Z d
    induction d with
    | zero =>
      intro i hd
      have e : i = (t 6).toNat := by omega
      refine x_iload (dat d_Mo_richestOf 4 rfl) rfl ?_
      refine x_aload_n (dat d_Mo_richestOf 5 rfl) rfl rfl ?_
      refine x_inv (As := []) (dat d_Mo_richestOf 6 rfl) rfl c_Mo_people l_Mo_202 (by decide) (rv_mo (by decide +kernel)) rfl rfl (Nat.le_of_ble_eq_true rfl) ?_
      refine sp_Mo_people M.1.1 ?_
      show Wx g y_Mo_richestOf Z K 11 [vR 174, vI m, vI h, vI (rcs who (rst C (h.toNat + 1)).1 i), vI (i : Int)] [vI (t 6), vI (i : Int)] σ
      refine x_icmp_ge (tgt := 67) (dat d_Mo_richestOf 7 rfl) (by decide) (fun c_11 => ?_) (fun c_11 => (by omega))
      refine x_iload_n (dat d_Mo_richestOf 40 rfl) rfl rfl ?_
      refine x_iret (dat d_Mo_richestOf 41 rfl) rfl ?_
      rw [e]
      exact k
    | succ d ih =>
      intro i hd
      have ri := (R.at hC h0 (by omega) (show (0 : Int) ≤ (i : Int) by omega) (by omega)).1.1
      have rin := rcs_in who (rst C (h.toNat + 1)).1 i
      have gi := hm.get (by decide) (show (0 : Int) ≤ (i : Int) by omega) (show (i : Int) < (8 : Nat) by omega)
      obtain ⟨y, hy⟩ : ∃ y : Int, y = (if who (i : Int) = true then 1 else 0) := ⟨_, rfl⟩
      rw [← hy] at gi
      have y01 : (y = 1 ∧ who (i : Int) = true) ∨ (y = 0 ∧ ¬ who (i : Int) = true) := by rw [hy]; split <;> simp_all
      have rb : rcs who (rst C (h.toNat + 1)).1 i ≠ -1 → σ 181 (8 * h + rcs who (rst C (h.toNat + 1)).1 i) = (rst C (h.toNat + 1)).1 (rcs who (rst C (h.toNat + 1)).1 i) := fun w => (R.at hC h0 (by omega) (show 0 ≤ rcs who (rst C (h.toNat + 1)).1 i by omega) (by omega)).1.1
      have es : rcs who (rst C (h.toNat + 1)).1 (i + 1) = (if who (i : Int) = true ∧ (rcs who (rst C (h.toNat + 1)).1 i = -1 ∨ (rst C (h.toNat + 1)).1 (rcs who (rst C (h.toNat + 1)).1 i) < (rst C (h.toNat + 1)).1 (i : Int)) then (i : Int) else rcs who (rst C (h.toNat + 1)).1 i) := rfl
      obtain ⟨b, hb⟩ : ∃ b : Int, b = rcs who (rst C (h.toNat + 1)).1 i := ⟨_, rfl⟩
      rw [← hb] at rin rb es
      rw [← hb]
      obtain ⟨bb, hbb⟩ : ∃ b2 : Int, b2 = σ 181 (8 * h + b) := ⟨_, rfl⟩
      rw [← hbb] at rb
      have nx : ∀ v : Int, v = (if who (i : Int) = true ∧ (b = -1 ∨ (rst C (h.toNat + 1)).1 b < (rst C (h.toNat + 1)).1 (i : Int)) then (i : Int) else b) → Wx g y_Mo_richestOf Z K 5 [vR 174, vI m, vI h, vI v, vI ((i + 1 : Nat) : Int)] [] σ := fun v hv => by
        rw [hv, ← es]
        exact ih (i + 1) (by omega)
      refine x_iload (dat d_Mo_richestOf 4 rfl) rfl ?_
      refine x_aload_n (dat d_Mo_richestOf 5 rfl) rfl rfl ?_
      refine x_inv (As := []) (dat d_Mo_richestOf 6 rfl) rfl c_Mo_people l_Mo_202 (by decide) (rv_mo (by decide +kernel)) rfl rfl (Nat.le_of_ble_eq_true rfl) ?_
      refine sp_Mo_people M.1.1 ?_
      show Wx g y_Mo_richestOf Z K 11 [vR 174, vI m, vI h, vI b, vI (i : Int)] [vI (t 6), vI (i : Int)] σ
      refine x_icmp_ge (tgt := 67) (dat d_Mo_richestOf 7 rfl) (by decide) (fun c_11 => (by omega)) (fun c_11 => ?_)
      refine x_iload_n (dat d_Mo_richestOf 8 rfl) rfl rfl ?_
      refine x_iload (dat d_Mo_richestOf 9 rfl) rfl ?_
      refine x_ishr (v := ishr m (i : Int)) (dat d_Mo_richestOf 10 rfl) rfl ?_
      refine x_iconst (dat d_Mo_richestOf 11 rfl) (by decide) ?_
      refine x_iand (v := y) (dat d_Mo_richestOf 12 rfl) (by exact gi) ?_
      refine x_iconst (dat d_Mo_richestOf 13 rfl) (by decide) ?_
      refine x_icmp_ne (tgt := 59) (dat d_Mo_richestOf 14 rfl) (by decide) (fun c_21 => ?_) (fun c_21 => ?_)
      · refine x_iload_n (dat d_Mo_richestOf 36 rfl) rfl rfl ?_
        refine x_istore_n (L' := [vR 174, vI m, vI h, vI b, vI (i : Int)]) (dat d_Mo_richestOf 37 rfl) rfl (by decide) rfl rfl ?_
        refine x_iinc (v' := ((i + 1 : Nat) : Int)) (L' := [vR 174, vI m, vI h, vI b, vI ((i + 1 : Nat) : Int)]) (dat d_Mo_richestOf 38 rfl) rfl (by decide) rfl (by omega) (by omega) rfl ?_
        refine x_goto (tgt := 5) (dat d_Mo_richestOf 39 rfl) (by decide) ?_
        first
        | exact nx _ (by rw [if_neg (fun w => by rcases y01 with z | z; exact absurd z.1 (by omega); exact z.2 w.1)])
        | exact nx _ (by rw [if_pos ⟨by rcases y01 with z | z; exact z.2; exact absurd z.1 (by omega), by omega⟩])
        | exact nx _ (by rw [if_neg (fun w => by have := w.2; omega)])
      · refine x_iload_n (dat d_Mo_richestOf 15 rfl) rfl rfl ?_
        refine x_if_lt (tgt := 54) (dat d_Mo_richestOf 16 rfl) (by decide) (fun c_25 => ?_) (fun c_25 => ?_)
        · refine x_iload (dat d_Mo_richestOf 34 rfl) rfl ?_
          refine x_goto (tgt := 60) (dat d_Mo_richestOf 35 rfl) (by decide) ?_
          refine x_istore_n (L' := [vR 174, vI m, vI h, vI (i : Int), vI (i : Int)]) (dat d_Mo_richestOf 37 rfl) rfl (by decide) rfl rfl ?_
          refine x_iinc (v' := ((i + 1 : Nat) : Int)) (L' := [vR 174, vI m, vI h, vI (i : Int), vI ((i + 1 : Nat) : Int)]) (dat d_Mo_richestOf 38 rfl) rfl (by decide) rfl (by omega) (by omega) rfl ?_
          refine x_goto (tgt := 5) (dat d_Mo_richestOf 39 rfl) (by decide) ?_
          first
          | exact nx _ (by rw [if_neg (fun w => by rcases y01 with z | z; exact absurd z.1 (by omega); exact z.2 w.1)])
          | exact nx _ (by rw [if_pos ⟨by rcases y01 with z | z; exact z.2; exact absurd z.1 (by omega), by omega⟩])
          | exact nx _ (by rw [if_neg (fun w => by have := w.2; omega)])
        · refine x_aload_n (dat d_Mo_richestOf 17 rfl) rfl rfl ?_
          refine x_getr (r := 181) (dat d_Mo_richestOf 18 rfl) rfl f_Mo_29 (or_mk (by decide +kernel)) ?_
          refine x_bipush (dat d_Mo_richestOf 19 rfl) (by decide) (by decide) ?_
          refine x_iload_n (dat d_Mo_richestOf 20 rfl) rfl rfl ?_
          refine x_imul (v := 8 * h) (dat d_Mo_richestOf 21 rfl) (by omega) (by omega) ?_
          refine x_iload (dat d_Mo_richestOf 22 rfl) rfl ?_
          refine x_iadd (v := (8 * h) + (i : Int)) (dat d_Mo_richestOf 23 rfl) rfl (by omega) ?_
          refine x_iald (n := 192) (v := (rst C (h.toNat + 1)).1 (i : Int)) (dat d_Mo_richestOf 24 rfl) (ai_mk (by decide +kernel)) (by omega) (by omega) (ri) ?_
          refine x_aload_n (dat d_Mo_richestOf 25 rfl) rfl rfl ?_
          refine x_getr (r := 181) (dat d_Mo_richestOf 26 rfl) rfl f_Mo_29 (or_mk (by decide +kernel)) ?_
          refine x_bipush (dat d_Mo_richestOf 27 rfl) (by decide) (by decide) ?_
          refine x_iload_n (dat d_Mo_richestOf 28 rfl) rfl rfl ?_
          refine x_imul (v := 8 * h) (dat d_Mo_richestOf 29 rfl) (by omega) (by omega) ?_
          refine x_iload_n (dat d_Mo_richestOf 30 rfl) rfl rfl ?_
          refine x_iadd (v := (8 * h) + b) (dat d_Mo_richestOf 31 rfl) rfl (by omega) ?_
          refine x_iald (n := 192) (v := bb) (dat d_Mo_richestOf 32 rfl) (ai_mk (by decide +kernel)) (by omega) (by omega) (hbb.symm) ?_
          refine x_icmp_le (tgt := 59) (dat d_Mo_richestOf 33 rfl) (by decide) (fun c_51 => ?_) (fun c_51 => ?_)
          · refine x_iload_n (dat d_Mo_richestOf 36 rfl) rfl rfl ?_
            refine x_istore_n (L' := [vR 174, vI m, vI h, vI b, vI (i : Int)]) (dat d_Mo_richestOf 37 rfl) rfl (by decide) rfl rfl ?_
            refine x_iinc (v' := ((i + 1 : Nat) : Int)) (L' := [vR 174, vI m, vI h, vI b, vI ((i + 1 : Nat) : Int)]) (dat d_Mo_richestOf 38 rfl) rfl (by decide) rfl (by omega) (by omega) rfl ?_
            refine x_goto (tgt := 5) (dat d_Mo_richestOf 39 rfl) (by decide) ?_
            first
            | exact nx _ (by rw [if_neg (fun w => by rcases y01 with z | z; exact absurd z.1 (by omega); exact z.2 w.1)])
            | exact nx _ (by rw [if_pos ⟨by rcases y01 with z | z; exact z.2; exact absurd z.1 (by omega), by omega⟩])
            | exact nx _ (by rw [if_neg (fun w => by have := w.2; omega)])
          · refine x_iload (dat d_Mo_richestOf 34 rfl) rfl ?_
            refine x_goto (tgt := 60) (dat d_Mo_richestOf 35 rfl) (by decide) ?_
            refine x_istore_n (L' := [vR 174, vI m, vI h, vI (i : Int), vI (i : Int)]) (dat d_Mo_richestOf 37 rfl) rfl (by decide) rfl rfl ?_
            refine x_iinc (v' := ((i + 1 : Nat) : Int)) (L' := [vR 174, vI m, vI h, vI (i : Int), vI ((i + 1 : Nat) : Int)]) (dat d_Mo_richestOf 38 rfl) rfl (by decide) rfl (by omega) (by omega) rfl ?_
            refine x_goto (tgt := 5) (dat d_Mo_richestOf 39 rfl) (by decide) ?_
            first
            | exact nx _ (by rw [if_neg (fun w => by rcases y01 with z | z; exact absurd z.1 (by omega); exact z.2 w.1)])
            | exact nx _ (by rw [if_pos ⟨by rcases y01 with z | z; exact z.2; exact absurd z.1 (by omega), by omega⟩])
            | exact nx _ (by rw [if_neg (fun w => by have := w.2; omega)])
  refine x_enter 2 rfl rfl rfl (fun Z => ?_)
  show Wx g y_Mo_richestOf Z K 0 [vR 174, vI m, vI h, vU, vU] [] σ
  refine x_iconst (dat d_Mo_richestOf 0 rfl) (by decide) ?_
  refine x_istore_n (L' := [vR 174, vI m, vI h, vI (-1), vU]) (dat d_Mo_richestOf 1 rfl) rfl (by decide) rfl rfl ?_
  refine x_iconst (dat d_Mo_richestOf 2 rfl) (by decide) ?_
  refine x_istore (L' := [vR 174, vI m, vI h, vI (-1), vI 0]) (dat d_Mo_richestOf 3 rfl) (by decide) rfl rfl ?_
  exact lp Z (t 6).toNat 0 (by omega)
theorem sp_Mo_partOf {p : Int} (M : MoC σ t t0 C) (R : Tw1 σ0 σ C) (p0 : 0 ≤ p) (p1 : p < t 6) (k : ∀ m : Int, Msk 8 m (joi C p) → K (some (vI m)) σ) : Mt g y_Mo_partOf [vR 174, vI p] σ K := by
  have t6 := M.1.2.2.2.2.2.2.2.1
  have eP := M.P.1
  have inn_ : ∀ (Z : xZ) (r : Int) (s : Int → Bool), (∀ m : Int, Msk 8 m (swp (metA C) s (t 6).toNat) → Wx g y_Mo_partOf Z K 54 [vR 174, vI p, vI m, vI r, vI (t 6)] [] σ) → ∀ (d i : Nat) (m : Int), i + d = (t 6).toNat → Msk 8 m (swp (metA C) s i) → Wx g y_Mo_partOf Z K 15 [vR 174, vI p, vI m, vI r, vI (i : Int)] [] σ := by
    intro Z r s kk d
    induction d with
    | zero =>
      intro i m hd hm
      have e : i = (t 6).toNat := by omega
      have e2 : (i : Int) = t 6 := by omega
      rw [e2]
      refine x_iload (dat d_Mo_partOf 11 rfl) rfl ?_
      refine x_aload_n (dat d_Mo_partOf 12 rfl) rfl rfl ?_
      refine x_inv (As := []) (dat d_Mo_partOf 13 rfl) rfl c_Mo_people l_Mo_202 (by decide) (rv_mo (by decide +kernel)) rfl rfl (Nat.le_of_ble_eq_true rfl) ?_
      refine sp_Mo_people M.1.1 ?_
      show Wx g y_Mo_partOf Z K 21 [vR 174, vI p, vI m, vI r, vI (t 6)] [vI (t 6), vI (t 6)] σ
      refine x_icmp_ge (tgt := 54) (dat d_Mo_partOf 14 rfl) (by decide) (fun c_21 => ?_) (fun c_21 => (by omega))
      exact kk m (by rw [← e]; exact hm)
    | succ d ih =>
      intro i m hd hm
      have ri := (R.p (show (0 : Int) ≤ (i : Int) by omega) (by omega)).2.2.2
      have gi := hm.get (by decide) (show (0 : Int) ≤ (i : Int) by omega) (show (i : Int) < (8 : Nat) by omega)
      obtain ⟨y, hy⟩ : ∃ y : Int, y = (if swp (metA C) s i (i : Int) = true then 1 else 0) := ⟨_, rfl⟩
      rw [← hy] at gi
      have y01 : (y = 1 ∧ swp (metA C) s i (i : Int) = true) ∨ (y = 0 ∧ swp (metA C) s i (i : Int) = false) := by rw [hy]; split <;> simp_all
      refine x_iload (dat d_Mo_partOf 11 rfl) rfl ?_
      refine x_aload_n (dat d_Mo_partOf 12 rfl) rfl rfl ?_
      refine x_inv (As := []) (dat d_Mo_partOf 13 rfl) rfl c_Mo_people l_Mo_202 (by decide) (rv_mo (by decide +kernel)) rfl rfl (Nat.le_of_ble_eq_true rfl) ?_
      refine sp_Mo_people M.1.1 ?_
      show Wx g y_Mo_partOf Z K 21 [vR 174, vI p, vI m, vI r, vI (i : Int)] [vI (t 6), vI (i : Int)] σ
      refine x_icmp_ge (tgt := 54) (dat d_Mo_partOf 14 rfl) (by decide) (fun c_21 => (by omega)) (fun c_21 => ?_)
      refine x_iload_n (dat d_Mo_partOf 15 rfl) rfl rfl ?_
      refine x_iload_n (dat d_Mo_partOf 16 rfl) rfl rfl ?_
      refine x_iload (dat d_Mo_partOf 17 rfl) rfl ?_
      refine x_ishr (v := ishr m (i : Int)) (dat d_Mo_partOf 18 rfl) rfl ?_
      refine x_iconst (dat d_Mo_partOf 19 rfl) (by decide) ?_
      refine x_iand (v := y) (dat d_Mo_partOf 20 rfl) (by exact gi) ?_
      refine x_iconst (dat d_Mo_partOf 21 rfl) (by decide) ?_
      refine x_icmp_ne (tgt := 45) (dat d_Mo_partOf 22 rfl) (by decide) (fun c_32 => ?_) (fun c_32 => ?_)
      · refine x_iconst (dat d_Mo_partOf 28 rfl) (by decide) ?_
        refine x_ior (v := ior m 0) (dat d_Mo_partOf 29 rfl) rfl ?_
        refine x_istore_n (L' := [vR 174, vI p, vI (ior m 0), vI r, vI (i : Int)]) (dat d_Mo_partOf 30 rfl) rfl (by decide) rfl rfl ?_
        refine x_iinc (v' := ((i + 1 : Nat) : Int)) (L' := [vR 174, vI p, vI (ior m 0), vI r, vI ((i + 1 : Nat) : Int)]) (dat d_Mo_partOf 31 rfl) rfl (by decide) rfl (by omega) (by omega) rfl ?_
        refine x_goto (tgt := 15) (dat d_Mo_partOf 32 rfl) (by decide) ?_
        first
        | (have z : swp (metA C) s i (i : Int) = true := by rcases y01 with z | z; exact z.2; exact absurd z.1 (by omega)
           refine ih (i + 1) _ (by omega) ((hm.lor (by decide) ri).congr (fun q q0 q1 => ?_))
           show (swp (metA C) s i q || metA C i q) = (swp (metA C) s i q || (swp (metA C) s i i && metA C i q))
           rw [z, Bool.true_and])
        | (have z : swp (metA C) s i (i : Int) = false := by rcases y01 with z | z; exact absurd z.1 (by omega); exact z.2
           refine ih (i + 1) _ (by omega) ?_
           rw [hm.or0]
           refine hm.congr (fun q q0 q1 => ?_)
           show swp (metA C) s i q = (swp (metA C) s i q || (swp (metA C) s i i && metA C i q))
           rw [z, Bool.false_and, Bool.or_false])
      · refine x_aload_n (dat d_Mo_partOf 23 rfl) rfl rfl ?_
        refine x_getr (r := 194) (dat d_Mo_partOf 24 rfl) rfl f_Mo_68 (or_mk (by decide +kernel)) ?_
        refine x_iload (dat d_Mo_partOf 25 rfl) rfl ?_
        refine x_iald (n := 8) (v := σ 194 (i : Int)) (dat d_Mo_partOf 26 rfl) (ai_mk (by decide +kernel)) (by omega) (by omega) rfl ?_
        refine x_goto (tgt := 46) (dat d_Mo_partOf 27 rfl) (by decide) ?_
        refine x_ior (v := ior m (σ 194 (i : Int))) (dat d_Mo_partOf 29 rfl) rfl ?_
        refine x_istore_n (L' := [vR 174, vI p, vI (ior m (σ 194 (i : Int))), vI r, vI (i : Int)]) (dat d_Mo_partOf 30 rfl) rfl (by decide) rfl rfl ?_
        refine x_iinc (v' := ((i + 1 : Nat) : Int)) (L' := [vR 174, vI p, vI (ior m (σ 194 (i : Int))), vI r, vI ((i + 1 : Nat) : Int)]) (dat d_Mo_partOf 31 rfl) rfl (by decide) rfl (by omega) (by omega) rfl ?_
        refine x_goto (tgt := 15) (dat d_Mo_partOf 32 rfl) (by decide) ?_
        first
        | (have z : swp (metA C) s i (i : Int) = true := by rcases y01 with z | z; exact z.2; exact absurd z.1 (by omega)
           refine ih (i + 1) _ (by omega) ((hm.lor (by decide) ri).congr (fun q q0 q1 => ?_))
           show (swp (metA C) s i q || metA C i q) = (swp (metA C) s i q || (swp (metA C) s i i && metA C i q))
           rw [z, Bool.true_and])
        | (have z : swp (metA C) s i (i : Int) = false := by rcases y01 with z | z; exact absurd z.1 (by omega); exact z.2
           refine ih (i + 1) _ (by omega) ?_
           rw [hm.or0]
           refine hm.congr (fun q q0 q1 => ?_)
           show swp (metA C) s i q = (swp (metA C) s i q || (swp (metA C) s i i && metA C i q))
           rw [z, Bool.false_and, Bool.or_false])
  have lp : ∀ (Z : xZ) (d r : Nat) (m : Int) (w4 : MV), r + d = 8 → Msk 8 m (swpN (metA C) (cS C 0).toNat (fun q => decide (q = p)) r) → Wx g y_Mo_partOf Z K 6 [vR 174, vI p, vI m, vI (r : Int), w4] [] σ := by
    intro Z d
    induction d with
    | zero =>
      intro r m w4 hd hm
      have e : r = 8 := by omega
      subst e
      refine x_iload_n (dat d_Mo_partOf 6 rfl) rfl rfl ?_
      refine x_bipush (dat d_Mo_partOf 7 rfl) (by decide) (by decide) ?_
      refine x_icmp_ge (tgt := 60) (dat d_Mo_partOf 8 rfl) (by decide) (fun c_9 => ?_) (fun c_9 => (by omega))
      refine x_iload_n (dat d_Mo_partOf 35 rfl) rfl rfl ?_
      refine x_iret (dat d_Mo_partOf 36 rfl) rfl ?_
      exact k m hm
    | succ d ih =>
      intro r m w4 hd hm
      refine x_iload_n (dat d_Mo_partOf 6 rfl) rfl rfl ?_
      refine x_bipush (dat d_Mo_partOf 7 rfl) (by decide) (by decide) ?_
      refine x_icmp_ge (tgt := 60) (dat d_Mo_partOf 8 rfl) (by decide) (fun c_9 => (by omega)) (fun c_9 => ?_)
      refine x_iconst (dat d_Mo_partOf 9 rfl) (by decide) ?_
      refine x_istore (L' := [vR 174, vI p, vI m, vI (r : Int), vI 0]) (dat d_Mo_partOf 10 rfl) (by decide) rfl rfl ?_
      refine inn_ Z (r : Int) (swpN (metA C) (cS C 0).toNat (fun q => decide (q = p)) r) (fun m2 hm2 => ?_) (t 6).toNat 0 m (by omega) hm
      refine x_iinc (v' := ((r + 1 : Nat) : Int)) (L' := [vR 174, vI p, vI m2, vI ((r + 1 : Nat) : Int), vI (t 6)]) (dat d_Mo_partOf 33 rfl) rfl (by decide) rfl (by omega) (by omega) rfl ?_
      refine x_goto (tgt := 6) (dat d_Mo_partOf 34 rfl) (by decide) ?_
      exact ih (r + 1) m2 _ (by omega) (by rw [← eP] at hm2; exact hm2)
  refine x_enter 3 rfl rfl rfl (fun Z => ?_)
  show Wx g y_Mo_partOf Z K 0 [vR 174, vI p, vU, vU, vU] [] σ
  refine x_iconst (dat d_Mo_partOf 0 rfl) (by decide) ?_
  refine x_iload_n (dat d_Mo_partOf 1 rfl) rfl rfl ?_
  refine x_ishl (v := ishl 1 p) (dat d_Mo_partOf 2 rfl) rfl ?_
  refine x_istore_n (L' := [vR 174, vI p, vI (ishl 1 p), vU, vU]) (dat d_Mo_partOf 3 rfl) rfl (by decide) rfl rfl ?_
  refine x_iconst (dat d_Mo_partOf 4 rfl) (by decide) ?_
  refine x_istore_n (L' := [vR 174, vI p, vI (ishl 1 p), vI 0, vU]) (dat d_Mo_partOf 5 rfl) rfl (by decide) rfl rfl ?_
  exact lp Z 8 0 _ _ (by omega) (Msk.one (n := 8) (by decide) p0 (by omega))
end
