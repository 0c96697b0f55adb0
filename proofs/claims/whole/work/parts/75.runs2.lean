/-! the twin: all hours -/
section
variable {g : xG} {K : Option MV → xS → Prop} {σ : xS} {t : Int → Int} {t0 : Int} {C : Cf} {s0 n0 : Int → Bool} {i0 : Int × (Int → Bool)} {dr : Bool} {kc : Int} {n : Nat}
theorem lm_Mo_hour {Z : xZ} {w3 : MV} {σ1 σ2 : xS} (H0 : MoC σ t t0 C) (hn : (n : Int) < t 3) (R : TwR σ σ1 C s0 i0 n0 dr kc n) (hlf : cS C 6 = -1 ∨ (0 ≤ cS C 5 ∧ cS C 5 < t 6)) (hdr : σ 174 39 = if dr = true then 1 else 0) (hkc : σ 174 41 = kc) (B1 : ∀ o : Nat, o ≠ 183 → o ≠ 184 → o ≠ 185 → o ≠ 186 → o ≠ 187 → σ2 o = σ1 o) (B3 : ∀ j : Int, j < 8 * n → σ2 183 j = σ1 183 j ∧ σ2 184 j = σ1 184 j) (B4 : ∀ j : Int, j ≠ n → σ2 185 j = σ1 185 j ∧ σ2 186 j = σ1 186 j ∧ σ2 187 j = σ1 187 j) (B5 : σ2 185 n = 0 ∧ σ2 186 n = 0 ∧ σ2 187 n = 0) (B6 : ∀ q : Int, 0 ≤ q → q < 8 → σ2 183 (8 * n + q) = 0 ∧ σ2 184 (8 * n + q) = 0)
    (k : ∀ (σ' : xS) (w2 w3 : MV), TwR σ σ' C s0 i0 n0 dr kc (n + 1) → Wx g y_Mo_runs Z K 6 [vR 174, vI ((n + 1 : Nat) : Int), w2, w3] [] σ') : Wx g y_Mo_runs Z K 74 [vR 174, vI (n : Int), vI 8, w3] [] σ2 := by
  have h6 := H0.1.2.2.2.2.2.2.2.1
  have hC := H0.2.1.2
  have eP := H0.P.1
  have e3 := H0.P.2.1
  have hH := hC.2.2.2.1
  have g7 := hC.2.2.2.2.2.2.2.2.2.2.1
  have g70 := hC.2.2.2.2.2.2.2.2.2.2.2.1
  have R' := R
  obtain ⟨⟨⟨N35, N36, N37, N52, N38⟩, Np⟩, A, B, F⟩ := R
  have hbo := rst_ok hC n
  have htt := hC.tt n
  have hlo := lof_ok (h := (n : Int)) g7 hbo
  have hT : tot (cSt C) (cS C 0).toNat + loafed C n + (if (n : Int) = cS C 6 then cS C 7 else 0) ≤ 1000 := by split <;> omega
  have c174 : σ2 174 = σ1 174 := B1 174 (by decide) (by decide) (by decide) (by decide) (by decide)
  have fs : ∀ i : Int, i ≠ 35 → i ≠ 36 → i ≠ 37 → i ≠ 38 → i ≠ 40 → i ≠ 52 → σ2 174 i = σ 174 i := fun i i1 i2 i3 i4 i5 i6 => by rw [c174]; exact F.1 i i1 i2 i3 i4 i5 i6
  have e24 : σ2 174 24 = cS C 6 := by rw [fs 24 (by decide) (by decide) (by decide) (by decide) (by decide) (by decide)]; exact H0.P.2.2.2.2.2.2.1.symm
  have e25 : cS C 6 ≠ -1 → σ2 174 25 = cS C 5 := fun w => by rw [fs 25 (by decide) (by decide) (by decide) (by decide) (by decide) (by decide), H0.P.2.2.2.2.2.1, if_neg (by rw [← H0.P.2.2.2.2.2.2.1]; exact w)]
  have e26 : cS C 6 ≠ -1 → σ2 174 26 = cS C 7 := fun w => by rw [fs 26 (by decide) (by decide) (by decide) (by decide) (by decide) (by decide), H0.P.2.2.2.2.2.2.2, if_neg (by rw [← H0.P.2.2.2.2.2.2.1]; exact w)]
  have c180 : ∀ p : Int, 0 ≤ p → p < t 6 → σ2 180 p = (rst C n).1 p := fun p p0 p1 => by rw [B1 180 (by decide) (by decide) (by decide) (by decide) (by decide)]; exact (Np p p0 (by omega)).1
  have go : ∀ (w3 : MV) (σ5 : xS), (∀ p : Int, 0 ≤ p → p < t 6 → σ5 180 p = lof C n (rst C n).1 p) → (∀ o : Nat, o ≠ 180 → σ5 o = σ2 o) → Wx g y_Mo_runs Z K 100 [vR 174, vI (n : Int), vI 0, w3] [] σ5 := by
    intro w3 σ5 D1 D2
    have d174 : ∀ i : Int, σ5 174 i = σ1 174 i := fun i => by rw [D2 174 (by decide), c174]
    have M5 : MoC σ5 t t0 C := H0.same ⟨fun i i1 i2 i3 i4 i5 i6 => by rw [d174]; exact F.1 i i1 i2 i3 i4 i5 i6, fun o ho => by rw [D2 o (by omega), B1 o (by omega) (by omega) (by omega) (by omega) (by omega)]; exact F.2 o ho⟩
    have D3 : ∀ o : Nat, o ≠ 180 → o ≠ 183 → o ≠ 184 → o ≠ 185 → o ≠ 186 → o ≠ 187 → σ5 o = σ1 o := fun o o1 o2 o3 o4 o5 o6 => by rw [D2 o o1]; exact B1 o o2 o3 o4 o5 o6
    have hd : ∀ p : Int, 0 ≤ p → p < t 6 → 0 ≤ sumN (shN C p) n ∧ sumN (shN C p) n ≤ 1000 := fun p p0 p1 => by
      have := sumN_bd (f := shN C p) (B := 8) n (fun i hi => by have := cntN_bd (metB (hev C i) p) 8; unfold shN; omega)
      omega
    have H5 : TwH σ5 σ5 (t 6) n (fun p => sumN (shN C p) n) (lof C n (rst C n).1) (twP C s0 n) (ilT C dr kc i0 n) (nwT C n0 n) dr (cGl C) kc (lgs C 0 n) (lof C n (rst C n).1, []) := by
      refine ⟨⟨⟨⟨?_, ?_⟩, ?_, ⟨?_, ?_⟩, ?_⟩, fun p p0 p1 => ⟨⟨D1 p p0 p1, ?_⟩, ?_, ?_, ?_⟩, fun _ _ _ _ _ => rfl, fun _ _ => ⟨rfl, rfl⟩, fun _ _ => ⟨rfl, rfl⟩, fun _ _ _ _ _ _ _ _ _ => rfl⟩, rfl⟩
      · rw [D2 185 (by decide)]; exact B5.1
      · rw [D2 186 (by decide)]; exact B5.2.1
      · rw [d174]; exact N36
      · rw [d174]; exact N37.1
      · rw [d174]; exact N37.2
      · rw [d174]; exact N52
      · rw [D3 192 (by decide) (by decide) (by decide) (by decide) (by decide) (by decide), (Np p p0 (by omega)).2.1]
        show sumN (shN C p) n = sumN (shN C p) n + cntN (metB [] p) 8
        rw [show metB [] p = fun _ => false from rfl, cntN_z, Int.add_zero]
      · rw [D3 194 (by decide) (by decide) (by decide) (by decide) (by decide) (by decide)]; exact (Np p p0 (by omega)).2.2.2.2
      · rw [D2 183 (by decide), (B6 p p0 (by omega)).1]; exact (Msk.zero 8).congr (fun _ _ _ => rfl)
      · rw [D2 184 (by decide), (B6 p p0 (by omega)).2]; rfl
    refine lp_Mo_out M5 (by omega) (by omega) hT (by rw [d174]; exact N35) hd (by rw [d174, F.1 39 (by decide) (by decide) (by decide) (by decide) (by decide) (by decide)]; exact hdr) (by rw [d174, F.1 41 (by decide) (by decide) (by decide) (by decide) (by decide) (by decide)]; exact hkc) (cS C 0).toNat 0 σ5 (lof C n (rst C n).1, []) w3 (by omega) H5 hlo (fun e he => by cases he) (fun e he => by cases he) (by simp) (fun σ6 w2 w3 H6 => ?_)
    exact lm_Mo_meal H0 hn R' d174 D3 (fun j hj => by rw [D2 183 (by decide), D2 184 (by decide)]; exact B3 j hj) (fun j hj => by rw [D2 185 (by decide), D2 186 (by decide), D2 187 (by decide)]; exact B4 j hj) (by rw [D2 187 (by decide)]; exact B5.2.2) H6 k
  by_cases hl1 : (n : Int) = cS C 6
  · have hl2 : 0 ≤ cS C 5 ∧ cS C 5 < t 6 := by omega
    have el := c180 (cS C 5) hl2.1 hl2.2
    have e25' := e25 (by omega)
    have e26' := e26 (by omega)
    have hle := hbo.le hl2.1 (show cS C 5 < cS C 0 by omega)
    refine x_iload_n (dat d_Mo_runs 49 rfl) rfl rfl ?_
    refine x_aload_n (dat d_Mo_runs 50 rfl) rfl rfl ?_
    refine x_geti (ji := 24) (v := cS C 6) (dat d_Mo_runs 51 rfl) rfl f_Mo_232 (oi_mk (by decide +kernel)) (e24) ?_
    refine x_icmp_ne (tgt := 98) (dat d_Mo_runs 52 rfl) (by decide) (fun c_79 => (by omega)) (fun c_79 => ?_)
    refine x_aload_n (dat d_Mo_runs 53 rfl) rfl rfl ?_
    refine x_getr (r := 180) (dat d_Mo_runs 54 rfl) rfl f_Mo_26 (or_mk (by decide +kernel)) ?_
    refine x_aload_n (dat d_Mo_runs 55 rfl) rfl rfl ?_
    refine x_geti (ji := 25) (v := cS C 5) (dat d_Mo_runs 56 rfl) rfl f_Mo_320 (oi_mk (by decide +kernel)) (e25') ?_
    refine x_dup2 (dat d_Mo_runs 57 rfl) rfl rfl ?_
    refine x_iald (n := 8) (v := (rst C n).1 (cS C 5)) (dat d_Mo_runs 58 rfl) (ai_mk (by decide +kernel)) (by omega) (by omega) (el) ?_
    refine x_aload_n (dat d_Mo_runs 59 rfl) rfl rfl ?_
    refine x_geti (ji := 26) (v := cS C 7) (dat d_Mo_runs 60 rfl) rfl f_Mo_323 (oi_mk (by decide +kernel)) (e26') ?_
    refine x_iadd (v := ((rst C n).1 (cS C 5)) + (cS C 7)) (dat d_Mo_runs 61 rfl) rfl (by omega) ?_
    refine x_iast (n := 8) (dat d_Mo_runs 62 rfl) (ai_mk (by decide +kernel)) (by omega) (by omega) ?_
    refine x_iconst (dat d_Mo_runs 63 rfl) (by decide) ?_
    refine x_istore_n (L' := [vR 174, vI (n : Int), vI 0, w3]) (dat d_Mo_runs 64 rfl) rfl (by decide) rfl rfl ?_
    refine go _ _ (fun p p0 p1 => ?_) (fun o ho => up_ne ho)
    unfold lof
    rw [if_pos ⟨hl1, by omega, by omega⟩]
    by_cases z : p = cS C 5
    · rw [if_pos z, z, up_s]
    · rw [if_neg z, up_ni (Ne.symm z)]; exact c180 p p0 p1
  · refine x_iload_n (dat d_Mo_runs 49 rfl) rfl rfl ?_
    refine x_aload_n (dat d_Mo_runs 50 rfl) rfl rfl ?_
    refine x_geti (ji := 24) (v := cS C 6) (dat d_Mo_runs 51 rfl) rfl f_Mo_232 (oi_mk (by decide +kernel)) (e24) ?_
    refine x_icmp_ne (tgt := 98) (dat d_Mo_runs 52 rfl) (by decide) (fun c_79 => ?_) (fun c_79 => (by omega))
    refine x_iconst (dat d_Mo_runs 63 rfl) (by decide) ?_
    refine x_istore_n (L' := [vR 174, vI (n : Int), vI 0, w3]) (dat d_Mo_runs 64 rfl) rfl (by decide) rfl rfl ?_
    refine go _ _ (fun p p0 p1 => ?_) (fun o ho => rfl)
    unfold lof
    rw [if_neg (fun w => hl1 w.1)]
    exact c180 p p0 p1
theorem sp_Mo_runs (H0 : MoC σ t t0 C) (hpt : Msk 8 (σ 174 36) s0) (hil : Msk 8 (σ 174 37) i0.2 ∧ σ 174 40 = i0.1) (hnw : Msk 8 (σ 174 52) n0) (hlf : cS C 6 = -1 ∨ (0 ≤ cS C 5 ∧ cS C 5 < t 6)) (hdr : σ 174 39 = if dr = true then 1 else 0) (hkc : σ 174 41 = kc)
    (k : ∀ σ' : xS, TwR σ σ' C s0 i0 n0 dr kc (cH C) → K none σ') : Mt g y_Mo_runs [vR 174] σ K := by
  have h6 := H0.1.2.2.2.2.2.2.2.1
  have hC := H0.2.1.2
  have e3 := H0.P.2.1
  have hH := cH_eq hC
  have lp : ∀ (Z : xZ) (d n : Nat) (σ1 : xS) (w2 w3 : MV), n + d = cH C → TwR σ σ1 C s0 i0 n0 dr kc n → Wx g y_Mo_runs Z K 6 [vR 174, vI (n : Int), w2, w3] [] σ1 := by
    intro Z d
    induction d with
    | zero =>
      intro n σ1 w2 w3 hd R
      have M1 := (H0.same R.2.2.2).1.1
      have e : n = cH C := by omega
      refine x_iload_n (dat d_Mo_runs 4 rfl) rfl rfl ?_
      refine x_aload_n (dat d_Mo_runs 5 rfl) rfl rfl ?_
      refine x_iconst (dat d_Mo_runs 6 rfl) (by decide) ?_
      refine x_inv (As := [vI 3]) (dat d_Mo_runs 7 rfl) rfl c_Mo_of l_Mo_199 (by decide) (rv_mo (by decide +kernel)) rfl rfl (Nat.le_of_ble_eq_true rfl) ?_
      refine sp_Mo_of M1 (by decide) (by decide) ?_
      show Wx g y_Mo_runs Z K 12 [vR 174, vI (n : Int), w2, w3] [vI (t 3), vI (n : Int)] σ1
      refine x_icmp_ge (tgt := 253) (dat d_Mo_runs 8 rfl) (by decide) (fun c_12 => ?_) (fun c_12 => (by omega))
      refine x_ret (dat d_Mo_runs 156 rfl) rfl ?_
      exact k σ1 (by rw [← e]; exact R)
    | succ d ih =>
      intro n σ1 w2 w3 hd R
      have M1 := (H0.same R.2.2.2).1.1
      refine x_iload_n (dat d_Mo_runs 4 rfl) rfl rfl ?_
      refine x_aload_n (dat d_Mo_runs 5 rfl) rfl rfl ?_
      refine x_iconst (dat d_Mo_runs 6 rfl) (by decide) ?_
      refine x_inv (As := [vI 3]) (dat d_Mo_runs 7 rfl) rfl c_Mo_of l_Mo_199 (by decide) (rv_mo (by decide +kernel)) rfl rfl (Nat.le_of_ble_eq_true rfl) ?_
      refine sp_Mo_of M1 (by decide) (by decide) ?_
      show Wx g y_Mo_runs Z K 12 [vR 174, vI (n : Int), w2, w3] [vI (t 3), vI (n : Int)] σ1
      refine x_icmp_ge (tgt := 253) (dat d_Mo_runs 8 rfl) (by decide) (fun c_12 => (by omega)) (fun c_12 => ?_)
      refine x_aload_n (dat d_Mo_runs 9 rfl) rfl rfl ?_
      refine x_getr (r := 185) (dat d_Mo_runs 10 rfl) rfl f_Mo_41 (or_mk (by decide +kernel)) ?_
      refine x_iload_n (dat d_Mo_runs 11 rfl) rfl rfl ?_
      refine x_iconst (dat d_Mo_runs 12 rfl) (by decide) ?_
      refine x_iast (n := 24) (dat d_Mo_runs 13 rfl) (ai_mk (by decide +kernel)) (by omega) (by omega) ?_
      refine x_aload_n (dat d_Mo_runs 14 rfl) rfl rfl ?_
      refine x_getr (r := 186) (dat d_Mo_runs 15 rfl) rfl f_Mo_44 (or_mk (by decide +kernel)) ?_
      refine x_iload_n (dat d_Mo_runs 16 rfl) rfl rfl ?_
      refine x_iconst (dat d_Mo_runs 17 rfl) (by decide) ?_
      refine x_iast (n := 24) (dat d_Mo_runs 18 rfl) (ai_mk (by decide +kernel)) (by omega) (by omega) ?_
      refine x_aload_n (dat d_Mo_runs 19 rfl) rfl rfl ?_
      refine x_getr (r := 187) (dat d_Mo_runs 20 rfl) rfl f_Mo_47 (or_mk (by decide +kernel)) ?_
      refine x_iload_n (dat d_Mo_runs 21 rfl) rfl rfl ?_
      refine x_iconst (dat d_Mo_runs 22 rfl) (by decide) ?_
      refine x_iast (n := 24) (dat d_Mo_runs 23 rfl) (ai_mk (by decide +kernel)) (by omega) (by omega) ?_
      refine x_iconst (dat d_Mo_runs 24 rfl) (by decide) ?_
      refine x_istore_n (L' := [vR 174, vI (n : Int), vI 0, w3]) (dat d_Mo_runs 25 rfl) rfl (by decide) rfl rfl ?_
      refine lp_Mo_zero (σ0 := (up (up (up σ1 185 (n : Int) 0) 186 (n : Int) 0) 187 (n : Int) 0)) (by omega) (fun σ2 W => ?_) 8 0 _ (by omega) (by omega) ⟨fun q q0 q1 => by omega, fun _ _ => ⟨rfl, rfl⟩, fun _ _ _ => rfl⟩
      refine lm_Mo_hour H0 (by omega) R hlf hdr hkc (fun o o1 o2 o3 o4 o5 => by rw [W.2.2 o o1 o2, up_ne o5, up_ne o4, up_ne o3]) (fun j hj => ?_) (fun j hj => ?_) ⟨?_, ?_, ?_⟩ W.1 (fun σ3 w2 w3 R3 => ih (n + 1) σ3 w2 w3 (by omega) R3)
      · rw [(W.2.1 j hj).1, (W.2.1 j hj).2, up_ne (by decide), up_ne (by decide), up_ne (by decide), up_ne (by decide), up_ne (by decide), up_ne (by decide)]; exact ⟨rfl, rfl⟩
      · rw [W.2.2 185 (by decide) (by decide), W.2.2 186 (by decide) (by decide), W.2.2 187 (by decide) (by decide)]
        exact ⟨by rw [up_ne (by decide), up_ne (by decide), up_ni (Ne.symm hj)], by rw [up_ne (by decide), up_ni (Ne.symm hj), up_ne (by decide)], by rw [up_ni (Ne.symm hj), up_ne (by decide), up_ne (by decide)]⟩
      · rw [W.2.2 185 (by decide) (by decide), up_ne (by decide), up_ne (by decide), up_s]
      · rw [W.2.2 186 (by decide) (by decide), up_ne (by decide), up_s]
      · rw [W.2.2 187 (by decide) (by decide), up_s]
  refine x_enter 3 rfl rfl rfl (fun Z => ?_)
  show Wx g y_Mo_runs Z K 0 [vR 174, vU, vU, vU] [] σ
  refine x_aload_n (dat d_Mo_runs 0 rfl) rfl rfl ?_
  refine x_inv (As := []) (dat d_Mo_runs 1 rfl) rfl c_Mo_begins l_Mo_317 (by decide) (rv_mo (by decide +kernel)) rfl rfl (Nat.le_of_ble_eq_true rfl) ?_
  refine sp_Mo_begins H0 (fun σ1 D1 D2 D3 D4 D5 => ?_)
  show Wx g y_Mo_runs Z K 4 [vR 174, vU, vU, vU] [] σ1
  refine x_iconst (dat d_Mo_runs 2 rfl) (by decide) ?_
  refine x_istore_n (L' := [vR 174, vI 0, vU, vU]) (dat d_Mo_runs 3 rfl) rfl (by decide) rfl rfl ?_
  refine lp Z (cH C) 0 σ1 _ _ (by omega) ⟨⟨⟨D1, ?_, ⟨?_, ?_⟩, ?_, ?_⟩, fun p p0 p1 => ⟨?_, ?_, ?_, ?_, ?_⟩⟩, fun h hh => by omega, fun h hh => by omega, fun i i1 i2 i3 i4 i5 i6 => D4 i i1 i4, fun o ho => D5 o (by omega) (by omega) (by omega) (by omega) (by omega) (by omega)⟩
  · rw [D4 36 (by decide) (by decide)]; exact hpt
  · rw [D4 37 (by decide) (by decide)]; exact hil.1
  · rw [D4 40 (by decide) (by decide)]; exact hil.2
  · rw [D4 52 (by decide) (by decide)]; exact hnw
  · rw [D2]; exact Or.inl ⟨rfl, fun h hh => by omega⟩
  · exact (D3 p p0 (by have := H0.P.1; omega)).1
  · rw [(D3 p p0 (by have := H0.P.1; omega)).2.2.1]; rfl
  · rw [(D3 p p0 (by have := H0.P.1; omega)).2.2.2.1]; rfl
  · rw [(D3 p p0 (by have := H0.P.1; omega)).2.1]; exact Or.inl ⟨rfl, fun h hh => by omega⟩
  · rw [(D3 p p0 (by have := H0.P.1; omega)).2.2.2.2]; exact (Msk.zero 8).congr (fun _ _ _ => rfl)
end
