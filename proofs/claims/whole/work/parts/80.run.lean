/-! the twin's answers: a run, a fate */ -/
section
variable {g : xG} {K : Option MV → xS → Prop} {σ σ0 : xS} {t : Int → Int} {t0 : Int} {a : Int → Int} {n h : Int} {C : Cf}
theorem sp_Mo_parts (M : MoC σ t t0 C) (R : Tw1 σ0 σ C) (k : K (some (vI (pts C (t 6).toNat).2)) σ) : Mt g y_Mo_parts [vR 174] σ K := by
  have t6 := M.1.2.2.2.2.2.2.2.1
  have eP := M.P.1
  have hC := M.2.1.2
  have lp : ∀ (Z : xZ) (d i : Nat) (m : Int), i + d = (t 6).toNat → Msk 8 m (pts C i).1 → Wx g y_Mo_parts Z K 6 [vR 174, vI m, vI (pts C i).2, vI (i : Int)] [] σ := by
    intro Z d
    induction d with
    | zero =>
      intro i m hd hm
      have e : i = (t 6).toNat := by omega
      refine x_iload_n (dat d_Mo_parts 6 rfl) rfl rfl ?_
      refine x_aload_n (dat d_Mo_parts 7 rfl) rfl rfl ?_
      refine x_inv (As := []) (dat d_Mo_parts 8 rfl) rfl c_Mo_people l_Mo_202 (by decide) (rv_mo (by decide +kernel)) rfl rfl (Nat.le_of_ble_eq_true rfl) ?_
      refine sp_Mo_people M.1.1 ?_
      show Wx g y_Mo_parts Z K 11 [vR 174, vI m, vI ((pts C i).2), vI (i : Int)] [vI (t 6), vI (i : Int)] σ
      refine x_icmp_ge (tgt := 44) (dat d_Mo_parts 9 rfl) (by decide) (fun c_11 => ?_) (fun c_11 => (by omega))
      refine x_iload_n (dat d_Mo_parts 30 rfl) rfl rfl ?_
      refine x_iret (dat d_Mo_parts 31 rfl) rfl ?_
      rw [e]
      exact k
    | succ d ih =>
      intro i m hd hm
      have b1 := pts_bd C i
      have gi := hm.get (by decide) (show (0 : Int) ≤ (i : Int) by omega) (show (i : Int) < (8 : Nat) by omega)
      obtain ⟨y, hy⟩ : ∃ y : Int, y = (if (pts C i).1 (i : Int) = true then 1 else 0) := ⟨_, rfl⟩
      rw [← hy] at gi
      have y01 : (y = 1 ∧ (pts C i).1 (i : Int) = true) ∨ (y = 0 ∧ ¬ (pts C i).1 (i : Int) = true) := by rw [hy]; split <;> simp_all
      have es : pts C (i + 1) = if (pts C i).1 (i : Int) = true then pts C i else (fun q => (pts C i).1 q || joi C i q, (pts C i).2 + 1) := rfl
      have ec : (pts C (i + 1)).2 = (pts C i).2 + (1 - y) := by
        rw [es]
        rcases y01 with z | z
        · rw [if_pos z.2, z.1]; omega
        · rw [if_neg z.2, z.1]; show (pts C i).2 + 1 = (pts C i).2 + (1 - 0); omega
      have yb : y = 0 ∨ y = 1 := by rcases y01 with z | z; exact Or.inr z.1; exact Or.inl z.1
      have nx : ∀ (m2 v : Int), Msk 8 m2 (joi C i) → v = (pts C (i + 1)).2 → Wx g y_Mo_parts Z K 6 [vR 174, vI (ior m m2), vI v, vI ((i + 1 : Nat) : Int)] [] σ := fun m2 v hm2 hv => by
        rw [hv]
        exact ih (i + 1) _ (by omega) ((hm.lor (by decide) hm2).congr (fun q q0 q1 => (pts_or hC (p := i) (by omega) q).symm))
      clear y01 hy es
      refine x_iload_n (dat d_Mo_parts 6 rfl) rfl rfl ?_
      refine x_aload_n (dat d_Mo_parts 7 rfl) rfl rfl ?_
      refine x_inv (As := []) (dat d_Mo_parts 8 rfl) rfl c_Mo_people l_Mo_202 (by decide) (rv_mo (by decide +kernel)) rfl rfl (Nat.le_of_ble_eq_true rfl) ?_
      refine sp_Mo_people M.1.1 ?_
      show Wx g y_Mo_parts Z K 11 [vR 174, vI m, vI ((pts C i).2), vI (i : Int)] [vI (t 6), vI (i : Int)] σ
      refine x_icmp_ge (tgt := 44) (dat d_Mo_parts 9 rfl) (by decide) (fun c_11 => (by omega)) (fun c_11 => ?_)
      refine x_iload_n (dat d_Mo_parts 10 rfl) rfl rfl ?_
      refine x_iload_n (dat d_Mo_parts 11 rfl) rfl rfl ?_
      refine x_iload_n (dat d_Mo_parts 12 rfl) rfl rfl ?_
      refine x_ishr (v := ishr m (i : Int)) (dat d_Mo_parts 13 rfl) rfl ?_
      refine x_iconst (dat d_Mo_parts 14 rfl) (by decide) ?_
      refine x_iand (v := y) (dat d_Mo_parts 15 rfl) (by exact gi) ?_
      refine x_if_ne (tgt := 27) (dat d_Mo_parts 16 rfl) (by decide) (fun c_20 => ?_) (fun c_20 => ?_)
      · refine x_iconst (dat d_Mo_parts 19 rfl) (by decide) ?_
        refine x_iadd (v := ((pts C i).2) + 0) (dat d_Mo_parts 20 rfl) rfl (by omega) ?_
        refine x_istore_n (L' := [vR 174, vI m, vI (((pts C i).2) + 0), vI (i : Int)]) (dat d_Mo_parts 21 rfl) rfl (by decide) rfl rfl ?_
        refine x_iload_n (dat d_Mo_parts 22 rfl) rfl rfl ?_
        refine x_aload_n (dat d_Mo_parts 23 rfl) rfl rfl ?_
        refine x_iload_n (dat d_Mo_parts 24 rfl) rfl rfl ?_
        refine x_inv (As := [vI (i : Int)]) (dat d_Mo_parts 25 rfl) rfl c_Mo_partOf l_Mo_351 (by decide) (rv_mo (by decide +kernel)) rfl rfl (Nat.le_of_ble_eq_true rfl) ?_
        refine sp_Mo_partOf M R (by omega) (by omega) (fun m2 hm2 => ?_)
        show Wx g y_Mo_parts Z K 36 [vR 174, vI m, vI (((pts C i).2) + 0), vI (i : Int)] [vI m2, vI m] σ
        refine x_ior (v := ior m m2) (dat d_Mo_parts 26 rfl) rfl ?_
        refine x_istore_n (L' := [vR 174, vI (ior m m2), vI (((pts C i).2) + 0), vI (i : Int)]) (dat d_Mo_parts 27 rfl) rfl (by decide) rfl rfl ?_
        refine x_iinc (v' := ((i + 1 : Nat) : Int)) (L' := [vR 174, vI (ior m m2), vI (((pts C i).2) + 0), vI ((i + 1 : Nat) : Int)]) (dat d_Mo_parts 28 rfl) rfl (by decide) rfl (by omega) (by omega) rfl ?_
        refine x_goto (tgt := 6) (dat d_Mo_parts 29 rfl) (by decide) ?_
        exact nx m2 _ hm2 (by omega)
      · refine x_iconst (dat d_Mo_parts 17 rfl) (by decide) ?_
        refine x_goto (tgt := 28) (dat d_Mo_parts 18 rfl) (by decide) ?_
        refine x_iadd (v := ((pts C i).2) + 1) (dat d_Mo_parts 20 rfl) rfl (by omega) ?_
        refine x_istore_n (L' := [vR 174, vI m, vI (((pts C i).2) + 1), vI (i : Int)]) (dat d_Mo_parts 21 rfl) rfl (by decide) rfl rfl ?_
        refine x_iload_n (dat d_Mo_parts 22 rfl) rfl rfl ?_
        refine x_aload_n (dat d_Mo_parts 23 rfl) rfl rfl ?_
        refine x_iload_n (dat d_Mo_parts 24 rfl) rfl rfl ?_
        refine x_inv (As := [vI (i : Int)]) (dat d_Mo_parts 25 rfl) rfl c_Mo_partOf l_Mo_351 (by decide) (rv_mo (by decide +kernel)) rfl rfl (Nat.le_of_ble_eq_true rfl) ?_
        refine sp_Mo_partOf M R (by omega) (by omega) (fun m2 hm2 => ?_)
        show Wx g y_Mo_parts Z K 36 [vR 174, vI m, vI (((pts C i).2) + 1), vI (i : Int)] [vI m2, vI m] σ
        refine x_ior (v := ior m m2) (dat d_Mo_parts 26 rfl) rfl ?_
        refine x_istore_n (L' := [vR 174, vI (ior m m2), vI (((pts C i).2) + 1), vI (i : Int)]) (dat d_Mo_parts 27 rfl) rfl (by decide) rfl rfl ?_
        refine x_iinc (v' := ((i + 1 : Nat) : Int)) (L' := [vR 174, vI (ior m m2), vI (((pts C i).2) + 1), vI ((i + 1 : Nat) : Int)]) (dat d_Mo_parts 28 rfl) rfl (by decide) rfl (by omega) (by omega) rfl ?_
        refine x_goto (tgt := 6) (dat d_Mo_parts 29 rfl) (by decide) ?_
        exact nx m2 _ hm2 (by omega)
  refine x_enter 3 rfl rfl rfl (fun Z => ?_)
  show Wx g y_Mo_parts Z K 0 [vR 174, vU, vU, vU] [] σ
  refine x_iconst (dat d_Mo_parts 0 rfl) (by decide) ?_
  refine x_istore_n (L' := [vR 174, vI 0, vU, vU]) (dat d_Mo_parts 1 rfl) rfl (by decide) rfl rfl ?_
  refine x_iconst (dat d_Mo_parts 2 rfl) (by decide) ?_
  refine x_istore_n (L' := [vR 174, vI 0, vI 0, vU]) (dat d_Mo_parts 3 rfl) rfl (by decide) rfl rfl ?_
  refine x_iconst (dat d_Mo_parts 4 rfl) (by decide) ?_
  refine x_istore_n (L' := [vR 174, vI 0, vI 0, vI 0]) (dat d_Mo_parts 5 rfl) rfl (by decide) rfl rfl ?_
  exact lp Z (t 6).toNat 0 0 (by omega) ((Msk.zero 8).congr (fun _ _ _ => rfl))
theorem sp_Mo_run {w : Int} (A : MoA σ a) (k : ∀ (r : Int) (σ' : xS), atT a n (-2) (fun t r => runA t w r) r → MoA σ' a → MoF σ' σ → K (some (vI r)) σ') : Mt g y_Mo_run [vR 174, vI n, vI w] σ K := by
  have k0 : ¬ (0 ≤ n ∧ n < a 0) → K (some (vI (-2))) σ := fun z => k _ σ ⟨fun _ => rfl, fun z1 z2 => absurd ⟨z1, z2⟩ z⟩ A (MoF.rfl σ)
  have k1 : ∀ (r : Int) (σ' : xS), runA (tw a n) w r → 0 ≤ n → n < a 0 → MoA σ' a → MoF σ' σ → K (some (vI r)) σ' := fun r σ' e n0 n1 A1 F1 => k r σ' ⟨fun z => absurd ⟨n0, n1⟩ z, fun _ _ => e⟩ A1 F1
  have c0 : ¬ (0 ≤ w ∧ w ≤ 7) → runA (tw a n) w (-2) := fun z => by
    unfold runA
    rw [if_neg (by omega), if_neg (by omega), if_neg (by omega), if_neg (by omega), if_neg (by omega), if_neg (by omega), if_neg (by omega), if_neg (by omega)]
  refine x_enter 0 rfl rfl rfl (fun Z => ?_)
  show Wx g y_Mo_run Z K 0 [vR 174, vI n, vI w] [] σ
  refine x_aload_n (dat d_Mo_run 0 rfl) rfl rfl ?_
  refine x_iload_n (dat d_Mo_run 1 rfl) rfl rfl ?_
  refine x_inv (As := [vI n]) (dat d_Mo_run 2 rfl) rfl c_Mo_isTown l_Mo_205 (by decide) (rv_mo (by decide +kernel)) rfl rfl (Nat.le_of_ble_eq_true rfl) ?_
  refine sp_Mo_isTown A (fun σ1 t0 n0 n1 H P Z1 A1 F => ?_) (fun n01 => ?_)
  · show Wx g y_Mo_run Z K 5 [vR 174, vI n, vI w] [vI 1] σ1
    refine x_if_eq (tgt := 18) (dat d_Mo_run 3 rfl) (by decide) (fun h => absurd h (by decide)) (fun c_5 => ?_)
    refine x_iload_n (dat d_Mo_run 4 rfl) rfl rfl ?_
    refine x_iconst (dat d_Mo_run 5 rfl) (by decide) ?_
    refine x_bipush (dat d_Mo_run 6 rfl) (by decide) (by decide) ?_
    refine x_invs (As := [vI w, vI 0, vI 7]) (dat d_Mo_run 7 rfl) rfl c_Mo_isIn l_Mo_136 (by decide) rfl rfl (Nat.le_of_ble_eq_true rfl) ?_
    refine sp_Mo_isIn (fun x1 x2 => ?_) (fun x1 => ?_)
    · show Wx g y_Mo_run Z K 15 [vR 174, vI n, vI w] [vI 1] σ1
      refine x_if_ne (tgt := 21) (dat d_Mo_run 8 rfl) (by decide) (fun c_15 => ?_) (fun h => absurd h (by decide))
      refine x_aload_n (dat d_Mo_run 11 rfl) rfl rfl ?_
      refine x_inv (As := []) (dat d_Mo_run 12 rfl) rfl c_Mo_runs l_Mo_336 (by decide) (rv_mo (by decide +kernel)) rfl rfl (Nat.le_of_ble_eq_true rfl) ?_
      refine sp_Mo_runsP H P (fun σ2 R => ?_)
      have hC := H.2.1.2
      have hH := cH_eq hC
      have t3 := H.1.2.2.2.2.1
      have t6 := H.1.2.2.2.2.2.2.2.1
      have e3 : cS (cfg (tw a n)) 1 = tw a n 3 := rfl
      have eP : cS (cfg (tw a n)) 0 = tw a n 6 := rfl
      have M2 := H.same R.2.2.2
      have F2 := F.trans R.2.2.2.mo
      have A2 := A.same F2
      have ab := alN_bd (cfg (tw a n)) (cH (cfg (tw a n)))
      have es : stv (cfg (tw a n)) = cS (cfg (tw a n)) 0 - alN (cfg (tw a n)) (cH (cfg (tw a n))) := rfl
      have hf : Msk 8 (ishl 1 (tw a n 6) - 1) (fun q => decide (q < cS (cfg (tw a n)) 0)) := Msk.full (n := 8) (p := tw a n 6) (by decide) (by omega) (by omega)
      have hf2 : 0 ≤ ishl 1 (tw a n 6) - 1 ∧ ishl 1 (tw a n 6) - 1 < 256 := ⟨hf.1, hf.2.1⟩
      have eh : (tw a n 3 - 1).toNat + 1 = cH (cfg (tw a n)) := by omega
      show Wx g y_Mo_run Z K 25 [vR 174, vI n, vI w] [] σ2
      refine x_iload_n (dat d_Mo_run 13 rfl) rfl rfl ?_
      by_cases c_26 : w < 0 ∨ 6 < w
      · refine x_tableOut (tgt := 141) (dat d_Mo_run 14 rfl).1 c_26 (by decide) ?_
        refine x_aload_n (dat d_Mo_run 60 rfl) rfl rfl ?_
        refine x_inv (As := []) (dat d_Mo_run 61 rfl) rfl c_Mo_parts l_Mo_367 (by decide) (rv_mo (by decide +kernel)) rfl rfl (Nat.le_of_ble_eq_true rfl) ?_
        refine sp_Mo_parts M2 R ?_
        show Wx g y_Mo_run Z K 145 [vR 174, vI n, vI w] [vI ((pts (cfg (tw a n)) (tw a n 6).toNat).2)] σ2
        refine x_iret (dat d_Mo_run 62 rfl) rfl ?_
        first
        | exact k0 n01
        | exact k1 _ _ (c0 x1) n0 n1 A1 F
        | (refine k1 _ _ ?_ n0 n1 A2 F2
           unfold runA
           first
           | (rw [if_pos (by omega)])
           | (rw [if_neg (by omega), if_pos (by omega)]; exact hv)
           | (rw [if_neg (by omega), if_neg (by omega), if_pos (by omega)]; rfl)
           | (rw [if_neg (by omega), if_neg (by omega), if_neg (by omega), if_pos (by omega)]; rfl)
           | (rw [if_neg (by omega), if_neg (by omega), if_neg (by omega), if_neg (by omega), if_pos (by omega)]; rfl)
           | (rw [if_neg (by omega), if_neg (by omega), if_neg (by omega), if_neg (by omega), if_neg (by omega), if_pos (by omega)]; rfl)
           | (rw [if_neg (by omega), if_neg (by omega), if_neg (by omega), if_neg (by omega), if_neg (by omega), if_neg (by omega), if_pos (by omega)])
           | (rw [if_neg (by omega), if_neg (by omega), if_neg (by omega), if_neg (by omega), if_neg (by omega), if_neg (by omega), if_neg (by omega), if_pos (by omega)]))
      · have e_26 : w = 0 ∨ w = 1 ∨ w = 2 ∨ w = 3 ∨ w = 4 ∨ w = 5 ∨ w = 6 := by omega
        rcases e_26 with e_26 | e_26 | e_26 | e_26 | e_26 | e_26 | e_26
        · refine x_tableIn (tgt := 68) (dat d_Mo_run 14 rfl).1 0 rfl (by omega) (by decide) ?_
          refine x_aload_n (dat d_Mo_run 15 rfl) rfl rfl ?_
          refine x_inv (As := []) (dat d_Mo_run 16 rfl) rfl c_Mo_people l_Mo_202 (by decide) (rv_mo (by decide +kernel)) rfl rfl (Nat.le_of_ble_eq_true rfl) ?_
          refine sp_Mo_people M2.1.1 ?_
          show Wx g y_Mo_run Z K 72 [vR 174, vI n, vI w] [vI (tw a n 6)] σ2
          refine x_aload_n (dat d_Mo_run 17 rfl) rfl rfl ?_
          refine x_geti (ji := 35) (v := σ2 174 35) (dat d_Mo_run 18 rfl) rfl f_Mo_286 (oi_mk (by decide +kernel)) rfl ?_
          refine x_invs (As := [vI (σ2 174 35)]) (dat d_Mo_run 19 rfl) rfl c_Mo_bits l_Mo_339 (by decide) rfl rfl (Nat.le_of_ble_eq_true rfl) ?_
          refine sp_Mo_bits R.1.1.1 ?_
          show Wx g y_Mo_run Z K 79 [vR 174, vI n, vI w] [vI (alN (cfg (tw a n)) (cH (cfg (tw a n)))), vI (tw a n 6)] σ2
          refine x_isub (v := stv (cfg (tw a n))) (dat d_Mo_run 20 rfl) (by omega) (by omega) ?_
          refine x_iret (dat d_Mo_run 21 rfl) rfl ?_
          first
          | exact k0 n01
          | exact k1 _ _ (c0 x1) n0 n1 A1 F
          | (refine k1 _ _ ?_ n0 n1 A2 F2
             unfold runA
             first
             | (rw [if_pos (by omega)])
             | (rw [if_neg (by omega), if_pos (by omega)]; exact hv)
             | (rw [if_neg (by omega), if_neg (by omega), if_pos (by omega)]; rfl)
             | (rw [if_neg (by omega), if_neg (by omega), if_neg (by omega), if_pos (by omega)]; rfl)
             | (rw [if_neg (by omega), if_neg (by omega), if_neg (by omega), if_neg (by omega), if_pos (by omega)]; rfl)
             | (rw [if_neg (by omega), if_neg (by omega), if_neg (by omega), if_neg (by omega), if_neg (by omega), if_pos (by omega)]; rfl)
             | (rw [if_neg (by omega), if_neg (by omega), if_neg (by omega), if_neg (by omega), if_neg (by omega), if_neg (by omega), if_pos (by omega)])
             | (rw [if_neg (by omega), if_neg (by omega), if_neg (by omega), if_neg (by omega), if_neg (by omega), if_neg (by omega), if_neg (by omega), if_pos (by omega)]))
        · refine x_tableIn (tgt := 81) (dat d_Mo_run 14 rfl).1 1 rfl (by omega) (by decide) ?_
          refine x_aload_n (dat d_Mo_run 22 rfl) rfl rfl ?_
          refine x_inv (As := []) (dat d_Mo_run 23 rfl) rfl c_Mo_firstStarved l_Mo_354 (by decide) (rv_mo (by decide +kernel)) rfl rfl (Nat.le_of_ble_eq_true rfl) ?_
          refine sp_Mo_firstStarved M2 R (fun v hv => ?_)
          show Wx g y_Mo_run Z K 85 [vR 174, vI n, vI w] [vI v] σ2
          refine x_iret (dat d_Mo_run 24 rfl) rfl ?_
          first
          | exact k0 n01
          | exact k1 _ _ (c0 x1) n0 n1 A1 F
          | (refine k1 _ _ ?_ n0 n1 A2 F2
             unfold runA
             first
             | (rw [if_pos (by omega)])
             | (rw [if_neg (by omega), if_pos (by omega)]; exact hv)
             | (rw [if_neg (by omega), if_neg (by omega), if_pos (by omega)]; rfl)
             | (rw [if_neg (by omega), if_neg (by omega), if_neg (by omega), if_pos (by omega)]; rfl)
             | (rw [if_neg (by omega), if_neg (by omega), if_neg (by omega), if_neg (by omega), if_pos (by omega)]; rfl)
             | (rw [if_neg (by omega), if_neg (by omega), if_neg (by omega), if_neg (by omega), if_neg (by omega), if_pos (by omega)]; rfl)
             | (rw [if_neg (by omega), if_neg (by omega), if_neg (by omega), if_neg (by omega), if_neg (by omega), if_neg (by omega), if_pos (by omega)])
             | (rw [if_neg (by omega), if_neg (by omega), if_neg (by omega), if_neg (by omega), if_neg (by omega), if_neg (by omega), if_neg (by omega), if_pos (by omega)]))
        · refine x_tableIn (tgt := 86) (dat d_Mo_run 14 rfl).1 2 rfl (by omega) (by decide) ?_
          refine x_aload_n (dat d_Mo_run 25 rfl) rfl rfl ?_
          refine x_aload_n (dat d_Mo_run 26 rfl) rfl rfl ?_
          refine x_getr (r := 185) (dat d_Mo_run 27 rfl) rfl f_Mo_41 (or_mk (by decide +kernel)) ?_
          refine x_inv (As := [vR 185]) (dat d_Mo_run 28 rfl) rfl c_Mo_sumOf l_Mo_357 (by decide) (rv_mo (by decide +kernel)) rfl rfl (Nat.le_of_ble_eq_true rfl) ?_
          refine sp_Mo_sumOf5 M2 R ?_
          show Wx g y_Mo_run Z K 94 [vR 174, vI n, vI w] [vI (sumN (fun h => ((hev (cfg (tw a n)) h).length : Int)) (cH (cfg (tw a n))))] σ2
          refine x_iret (dat d_Mo_run 29 rfl) rfl ?_
          first
          | exact k0 n01
          | exact k1 _ _ (c0 x1) n0 n1 A1 F
          | (refine k1 _ _ ?_ n0 n1 A2 F2
             unfold runA
             first
             | (rw [if_pos (by omega)])
             | (rw [if_neg (by omega), if_pos (by omega)]; exact hv)
             | (rw [if_neg (by omega), if_neg (by omega), if_pos (by omega)]; rfl)
             | (rw [if_neg (by omega), if_neg (by omega), if_neg (by omega), if_pos (by omega)]; rfl)
             | (rw [if_neg (by omega), if_neg (by omega), if_neg (by omega), if_neg (by omega), if_pos (by omega)]; rfl)
             | (rw [if_neg (by omega), if_neg (by omega), if_neg (by omega), if_neg (by omega), if_neg (by omega), if_pos (by omega)]; rfl)
             | (rw [if_neg (by omega), if_neg (by omega), if_neg (by omega), if_neg (by omega), if_neg (by omega), if_neg (by omega), if_pos (by omega)])
             | (rw [if_neg (by omega), if_neg (by omega), if_neg (by omega), if_neg (by omega), if_neg (by omega), if_neg (by omega), if_neg (by omega), if_pos (by omega)]))
        · refine x_tableIn (tgt := 95) (dat d_Mo_run 14 rfl).1 3 rfl (by omega) (by decide) ?_
          refine x_aload_n (dat d_Mo_run 30 rfl) rfl rfl ?_
          refine x_aload_n (dat d_Mo_run 31 rfl) rfl rfl ?_
          refine x_getr (r := 187) (dat d_Mo_run 32 rfl) rfl f_Mo_47 (or_mk (by decide +kernel)) ?_
          refine x_inv (As := [vR 187]) (dat d_Mo_run 33 rfl) rfl c_Mo_sumOf l_Mo_357 (by decide) (rv_mo (by decide +kernel)) rfl rfl (Nat.le_of_ble_eq_true rfl) ?_
          refine sp_Mo_sumOf7 M2 R ?_
          show Wx g y_Mo_run Z K 103 [vR 174, vI n, vI w] [vI (sumN (eatN (cfg (tw a n))) (cH (cfg (tw a n))))] σ2
          refine x_iret (dat d_Mo_run 34 rfl) rfl ?_
          first
          | exact k0 n01
          | exact k1 _ _ (c0 x1) n0 n1 A1 F
          | (refine k1 _ _ ?_ n0 n1 A2 F2
             unfold runA
             first
             | (rw [if_pos (by omega)])
             | (rw [if_neg (by omega), if_pos (by omega)]; exact hv)
             | (rw [if_neg (by omega), if_neg (by omega), if_pos (by omega)]; rfl)
             | (rw [if_neg (by omega), if_neg (by omega), if_neg (by omega), if_pos (by omega)]; rfl)
             | (rw [if_neg (by omega), if_neg (by omega), if_neg (by omega), if_neg (by omega), if_pos (by omega)]; rfl)
             | (rw [if_neg (by omega), if_neg (by omega), if_neg (by omega), if_neg (by omega), if_neg (by omega), if_pos (by omega)]; rfl)
             | (rw [if_neg (by omega), if_neg (by omega), if_neg (by omega), if_neg (by omega), if_neg (by omega), if_neg (by omega), if_pos (by omega)])
             | (rw [if_neg (by omega), if_neg (by omega), if_neg (by omega), if_neg (by omega), if_neg (by omega), if_neg (by omega), if_neg (by omega), if_pos (by omega)]))
        · refine x_tableIn (tgt := 104) (dat d_Mo_run 14 rfl).1 4 rfl (by omega) (by decide) ?_
          refine x_aload_n (dat d_Mo_run 35 rfl) rfl rfl ?_
          refine x_aload_n (dat d_Mo_run 36 rfl) rfl rfl ?_
          refine x_iconst (dat d_Mo_run 37 rfl) (by decide) ?_
          refine x_inv (As := [vI 3]) (dat d_Mo_run 38 rfl) rfl c_Mo_of l_Mo_199 (by decide) (rv_mo (by decide +kernel)) rfl rfl (Nat.le_of_ble_eq_true rfl) ?_
          refine sp_Mo_of M2.1.1 (by decide) (by decide) ?_
          show Wx g y_Mo_run Z K 110 [vR 174, vI n, vI w] [vI (tw a n 3), vR 174] σ2
          refine x_iconst (dat d_Mo_run 39 rfl) (by decide) ?_
          refine x_isub (v := (tw a n 3) - 1) (dat d_Mo_run 40 rfl) rfl (by omega) ?_
          refine x_inv (As := [vI ((tw a n 3) - 1)]) (dat d_Mo_run 41 rfl) rfl c_Mo_breadOf l_Mo_348 (by decide) (rv_mo (by decide +kernel)) rfl rfl (Nat.le_of_ble_eq_true rfl) ?_
          refine sp_Mo_breadOf M2 R (by omega) (by omega) ?_
          rw [eh]
          show Wx g y_Mo_run Z K 115 [vR 174, vI n, vI w] [vI (brN (cfg (tw a n)) (cH (cfg (tw a n))))] σ2
          refine x_iret (dat d_Mo_run 42 rfl) rfl ?_
          first
          | exact k0 n01
          | exact k1 _ _ (c0 x1) n0 n1 A1 F
          | (refine k1 _ _ ?_ n0 n1 A2 F2
             unfold runA
             first
             | (rw [if_pos (by omega)])
             | (rw [if_neg (by omega), if_pos (by omega)]; exact hv)
             | (rw [if_neg (by omega), if_neg (by omega), if_pos (by omega)]; rfl)
             | (rw [if_neg (by omega), if_neg (by omega), if_neg (by omega), if_pos (by omega)]; rfl)
             | (rw [if_neg (by omega), if_neg (by omega), if_neg (by omega), if_neg (by omega), if_pos (by omega)]; rfl)
             | (rw [if_neg (by omega), if_neg (by omega), if_neg (by omega), if_neg (by omega), if_neg (by omega), if_pos (by omega)]; rfl)
             | (rw [if_neg (by omega), if_neg (by omega), if_neg (by omega), if_neg (by omega), if_neg (by omega), if_neg (by omega), if_pos (by omega)])
             | (rw [if_neg (by omega), if_neg (by omega), if_neg (by omega), if_neg (by omega), if_neg (by omega), if_neg (by omega), if_neg (by omega), if_pos (by omega)]))
        · refine x_tableIn (tgt := 116) (dat d_Mo_run 14 rfl).1 5 rfl (by omega) (by decide) ?_
          refine x_aload_n (dat d_Mo_run 43 rfl) rfl rfl ?_
          refine x_iconst (dat d_Mo_run 44 rfl) (by decide) ?_
          refine x_aload_n (dat d_Mo_run 45 rfl) rfl rfl ?_
          refine x_inv (As := []) (dat d_Mo_run 46 rfl) rfl c_Mo_people l_Mo_202 (by decide) (rv_mo (by decide +kernel)) rfl rfl (Nat.le_of_ble_eq_true rfl) ?_
          refine sp_Mo_people M2.1.1 ?_
          show Wx g y_Mo_run Z K 122 [vR 174, vI n, vI w] [vI (tw a n 6), vI 1, vR 174] σ2
          refine x_ishl (v := ishl 1 (tw a n 6)) (dat d_Mo_run 47 rfl) rfl ?_
          refine x_iconst (dat d_Mo_run 48 rfl) (by decide) ?_
          refine x_isub (v := (ishl 1 (tw a n 6)) - 1) (dat d_Mo_run 49 rfl) rfl (by omega) ?_
          refine x_aload_n (dat d_Mo_run 50 rfl) rfl rfl ?_
          refine x_iconst (dat d_Mo_run 51 rfl) (by decide) ?_
          refine x_inv (As := [vI 3]) (dat d_Mo_run 52 rfl) rfl c_Mo_of l_Mo_199 (by decide) (rv_mo (by decide +kernel)) rfl rfl (Nat.le_of_ble_eq_true rfl) ?_
          refine sp_Mo_of M2.1.1 (by decide) (by decide) ?_
          show Wx g y_Mo_run Z K 130 [vR 174, vI n, vI w] [vI (tw a n 3), vI ((ishl 1 (tw a n 6)) - 1), vR 174] σ2
          refine x_iconst (dat d_Mo_run 53 rfl) (by decide) ?_
          refine x_isub (v := (tw a n 3) - 1) (dat d_Mo_run 54 rfl) rfl (by omega) ?_
          refine x_inv (As := [vI ((ishl 1 (tw a n 6)) - 1), vI ((tw a n 3) - 1)]) (dat d_Mo_run 55 rfl) rfl c_Mo_richestOf l_Mo_361 (by decide) (rv_mo (by decide +kernel)) rfl rfl (Nat.le_of_ble_eq_true rfl) ?_
          refine sp_Mo_richestOf M2 R hf (by omega) (by omega) ?_
          rw [eh]
          show Wx g y_Mo_run Z K 135 [vR 174, vI n, vI w] [vI (rcs (fun q => decide (q < cS (cfg (tw a n)) 0)) (rst (cfg (tw a n)) (cH (cfg (tw a n)))).1 (tw a n 6).toNat)] σ2
          refine x_iret (dat d_Mo_run 56 rfl) rfl ?_
          first
          | exact k0 n01
          | exact k1 _ _ (c0 x1) n0 n1 A1 F
          | (refine k1 _ _ ?_ n0 n1 A2 F2
             unfold runA
             first
             | (rw [if_pos (by omega)])
             | (rw [if_neg (by omega), if_pos (by omega)]; exact hv)
             | (rw [if_neg (by omega), if_neg (by omega), if_pos (by omega)]; rfl)
             | (rw [if_neg (by omega), if_neg (by omega), if_neg (by omega), if_pos (by omega)]; rfl)
             | (rw [if_neg (by omega), if_neg (by omega), if_neg (by omega), if_neg (by omega), if_pos (by omega)]; rfl)
             | (rw [if_neg (by omega), if_neg (by omega), if_neg (by omega), if_neg (by omega), if_neg (by omega), if_pos (by omega)]; rfl)
             | (rw [if_neg (by omega), if_neg (by omega), if_neg (by omega), if_neg (by omega), if_neg (by omega), if_neg (by omega), if_pos (by omega)])
             | (rw [if_neg (by omega), if_neg (by omega), if_neg (by omega), if_neg (by omega), if_neg (by omega), if_neg (by omega), if_neg (by omega), if_pos (by omega)]))
        · refine x_tableIn (tgt := 136) (dat d_Mo_run 14 rfl).1 6 rfl (by omega) (by decide) ?_
          refine x_aload_n (dat d_Mo_run 57 rfl) rfl rfl ?_
          refine x_inv (As := []) (dat d_Mo_run 58 rfl) rfl c_Mo_couples l_Mo_364 (by decide) (rv_mo (by decide +kernel)) rfl rfl (Nat.le_of_ble_eq_true rfl) ?_
          refine sp_Mo_couples M2 R ?_
          show Wx g y_Mo_run Z K 140 [vR 174, vI n, vI w] [vI (cpl2 (cfg (tw a n)) (tw a n 6).toNat / 2)] σ2
          refine x_iret (dat d_Mo_run 59 rfl) rfl ?_
          first
          | exact k0 n01
          | exact k1 _ _ (c0 x1) n0 n1 A1 F
          | (refine k1 _ _ ?_ n0 n1 A2 F2
             unfold runA
             first
             | (rw [if_pos (by omega)])
             | (rw [if_neg (by omega), if_pos (by omega)]; exact hv)
             | (rw [if_neg (by omega), if_neg (by omega), if_pos (by omega)]; rfl)
             | (rw [if_neg (by omega), if_neg (by omega), if_neg (by omega), if_pos (by omega)]; rfl)
             | (rw [if_neg (by omega), if_neg (by omega), if_neg (by omega), if_neg (by omega), if_pos (by omega)]; rfl)
             | (rw [if_neg (by omega), if_neg (by omega), if_neg (by omega), if_neg (by omega), if_neg (by omega), if_pos (by omega)]; rfl)
             | (rw [if_neg (by omega), if_neg (by omega), if_neg (by omega), if_neg (by omega), if_neg (by omega), if_neg (by omega), if_pos (by omega)])
             | (rw [if_neg (by omega), if_neg (by omega), if_neg (by omega), if_neg (by omega), if_neg (by omega), if_neg (by omega), if_neg (by omega), if_pos (by omega)]))
    · show Wx g y_Mo_run Z K 15 [vR 174, vI n, vI w] [vI 0] σ1
      refine x_if_ne (tgt := 21) (dat d_Mo_run 8 rfl) (by decide) (fun h => absurd h (by decide)) (fun c_15 => ?_)
      refine x_bipush (dat d_Mo_run 9 rfl) (by decide) (by decide) ?_
      refine x_iret (dat d_Mo_run 10 rfl) rfl ?_
      first
      | exact k0 n01
      | exact k1 _ _ (c0 x1) n0 n1 A1 F
      | (refine k1 _ _ ?_ n0 n1 A2 F2
         unfold runA
         first
         | (rw [if_pos (by omega)])
         | (rw [if_neg (by omega), if_pos (by omega)]; exact hv)
         | (rw [if_neg (by omega), if_neg (by omega), if_pos (by omega)]; rfl)
         | (rw [if_neg (by omega), if_neg (by omega), if_neg (by omega), if_pos (by omega)]; rfl)
         | (rw [if_neg (by omega), if_neg (by omega), if_neg (by omega), if_neg (by omega), if_pos (by omega)]; rfl)
         | (rw [if_neg (by omega), if_neg (by omega), if_neg (by omega), if_neg (by omega), if_neg (by omega), if_pos (by omega)]; rfl)
         | (rw [if_neg (by omega), if_neg (by omega), if_neg (by omega), if_neg (by omega), if_neg (by omega), if_neg (by omega), if_pos (by omega)])
         | (rw [if_neg (by omega), if_neg (by omega), if_neg (by omega), if_neg (by omega), if_neg (by omega), if_neg (by omega), if_neg (by omega), if_pos (by omega)]))
  · show Wx g y_Mo_run Z K 5 [vR 174, vI n, vI w] [vI 0] σ
    refine x_if_eq (tgt := 18) (dat d_Mo_run 3 rfl) (by decide) (fun c_5 => ?_) (fun h => absurd h (by decide))
    refine x_bipush (dat d_Mo_run 9 rfl) (by decide) (by decide) ?_
    refine x_iret (dat d_Mo_run 10 rfl) rfl ?_
    first
    | exact k0 n01
    | exact k1 _ _ (c0 x1) n0 n1 A1 F
    | (refine k1 _ _ ?_ n0 n1 A2 F2
       unfold runA
       first
       | (rw [if_pos (by omega)])
       | (rw [if_neg (by omega), if_pos (by omega)]; exact hv)
       | (rw [if_neg (by omega), if_neg (by omega), if_pos (by omega)]; rfl)
       | (rw [if_neg (by omega), if_neg (by omega), if_neg (by omega), if_pos (by omega)]; rfl)
       | (rw [if_neg (by omega), if_neg (by omega), if_neg (by omega), if_neg (by omega), if_pos (by omega)]; rfl)
       | (rw [if_neg (by omega), if_neg (by omega), if_neg (by omega), if_neg (by omega), if_neg (by omega), if_pos (by omega)]; rfl)
       | (rw [if_neg (by omega), if_neg (by omega), if_neg (by omega), if_neg (by omega), if_neg (by omega), if_neg (by omega), if_pos (by omega)])
       | (rw [if_neg (by omega), if_neg (by omega), if_neg (by omega), if_neg (by omega), if_neg (by omega), if_neg (by omega), if_neg (by omega), if_pos (by omega)]))
end
