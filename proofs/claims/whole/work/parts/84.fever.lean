/-! the twin's answers: fever, one who stays in */ -/
section
variable {g : xG} {K : Option MV → xS → Prop} {σ σ0 : xS} {t : Int → Int} {t0 : Int} {a : Int → Int} {n : Int} {C : Cf}
theorem ilT_0 (C : Cf) (kc x0 p : Int) (m : Nat) : (ilT C false kc (x0, fun q => decide (q = p)) m).2 = rch (cGl C) p (lgs C 0 m) := by
  unfold ilT rch
  rw [foldr_il]
theorem sp_Mo_fever {p h o : Int} (A : MoA σ a) (k : ∀ (r : Int) (σ' : xS), atT a n (-2) (fun t r => fevA t p h o r) r → MoA σ' a → MoF σ' σ → K (some (vI r)) σ') : Mt g y_Mo_fever [vR 174, vI n, vI p, vI h, vI o] σ K := by
  have k0 : ¬ (0 ≤ n ∧ n < a 0) → K (some (vI (-2))) σ := fun z => k _ σ ⟨fun _ => rfl, fun z1 z2 => absurd ⟨z1, z2⟩ z⟩ A (MoF.rfl σ)
  have k1 : ∀ (r : Int) (σ' : xS), fevA (tw a n) p h o r → 0 ≤ n → n < a 0 → MoA σ' a → MoF σ' σ → K (some (vI r)) σ' := fun r σ' e n0 n1 A1 F1 => k r σ' ⟨fun z => absurd ⟨n0, n1⟩ z, fun _ _ => e⟩ A1 F1
  have c0 : (¬ (0 ≤ p ∧ p < tw a n 6) ∨ o = p ∨ (o = -1 ∧ ¬ (0 ≤ h ∧ h < tw a n 3)) ∨ (o ≠ -1 ∧ ¬ (0 ≤ o ∧ o < tw a n 6))) → fevA (tw a n) p h o (-2) := fun z => by unfold fevA; rw [if_pos z]
  have lp : ∀ (Z : xZ) (σ1 σ2 : xS) (t0 x0 kc : Int), MoC σ2 (tw a n) t0 (cfg (tw a n)) → TwR σ1 σ2 (cfg (tw a n)) (fun _ => false) (x0, fun q => decide (q = p)) (fun _ => false) false kc (cH (cfg (tw a n))) → (0 ≤ o ∧ o < 8) → (∀ r : Int, FirstH (fun i => rch (cGl (cfg (tw a n))) p (lgs (cfg (tw a n)) 0 (i + 1)) o = true) (tw a n 3).toNat r → K (some (vI r)) σ2) → ∀ (d i : Nat), i + d = (tw a n 3).toNat → (∀ j : Nat, j < i → ¬ rch (cGl (cfg (tw a n))) p (lgs (cfg (tw a n)) 0 (j + 1)) o = true) → Wx g y_Mo_fever Z K 78 [vR 174, vI n, vI p, vI h, vI o, vI (i : Int)] [] σ2 := by
    intro Z σ1 σ2 t0 x0 kc M R ho kk d
    have t3 := M.1.2.2.2.2.1
    induction d with
    | zero =>
      intro i hd hj
      refine x_iload (dat d_Mo_fever 42 rfl) rfl ?_
      refine x_aload_n (dat d_Mo_fever 43 rfl) rfl rfl ?_
      refine x_iconst (dat d_Mo_fever 44 rfl) (by decide) ?_
      refine x_inv (As := [vI 3]) (dat d_Mo_fever 45 rfl) rfl c_Mo_of l_Mo_199 (by decide) (rv_mo (by decide +kernel)) rfl rfl (Nat.le_of_ble_eq_true rfl) ?_
      refine sp_Mo_of M.1.1 (by decide) (by decide) ?_
      show Wx g y_Mo_fever Z K 85 [vR 174, vI n, vI p, vI h, vI o, vI (i : Int)] [vI (tw a n 3), vI (i : Int)] σ2
      refine x_icmp_ge (tgt := 113) (dat d_Mo_fever 46 rfl) (by decide) (fun c_85 => ?_) (fun c_85 => (by omega))
      refine x_iconst (dat d_Mo_fever 61 rfl) (by decide) ?_
      refine x_iret (dat d_Mo_fever 62 rfl) rfl ?_
      exact kk _ (Or.inl ⟨rfl, fun j hj2 => hj j (by omega)⟩)
    | succ d ih =>
      intro i hd hj
      have bi := (R.2.2.1 i (by show i < (tw a n 3).toNat; omega)).2.2.1
      have gi := bi.get (by decide) ho.1 (show o < (8 : Nat) by omega)
      rw [ilT_0] at gi
      obtain ⟨y, hy⟩ : ∃ y : Int, y = (if rch (cGl (cfg (tw a n))) p (lgs (cfg (tw a n)) 0 (i + 1)) o = true then 1 else 0) := ⟨_, rfl⟩
      rw [← hy] at gi
      have y01 : (y = 1 ∧ rch (cGl (cfg (tw a n))) p (lgs (cfg (tw a n)) 0 (i + 1)) o = true) ∨ (y = 0 ∧ ¬ rch (cGl (cfg (tw a n))) p (lgs (cfg (tw a n)) 0 (i + 1)) o = true) := by rw [hy]; split <;> simp_all
      refine x_iload (dat d_Mo_fever 42 rfl) rfl ?_
      refine x_aload_n (dat d_Mo_fever 43 rfl) rfl rfl ?_
      refine x_iconst (dat d_Mo_fever 44 rfl) (by decide) ?_
      refine x_inv (As := [vI 3]) (dat d_Mo_fever 45 rfl) rfl c_Mo_of l_Mo_199 (by decide) (rv_mo (by decide +kernel)) rfl rfl (Nat.le_of_ble_eq_true rfl) ?_
      refine sp_Mo_of M.1.1 (by decide) (by decide) ?_
      show Wx g y_Mo_fever Z K 85 [vR 174, vI n, vI p, vI h, vI o, vI (i : Int)] [vI (tw a n 3), vI (i : Int)] σ2
      refine x_icmp_ge (tgt := 113) (dat d_Mo_fever 46 rfl) (by decide) (fun c_85 => (by omega)) (fun c_85 => ?_)
      refine x_aload_n (dat d_Mo_fever 47 rfl) rfl rfl ?_
      refine x_getr (r := 189) (dat d_Mo_fever 48 rfl) rfl f_Mo_53 (or_mk (by decide +kernel)) ?_
      refine x_iload (dat d_Mo_fever 49 rfl) rfl ?_
      refine x_iald (n := 24) (v := σ2 189 (i : Int)) (dat d_Mo_fever 50 rfl) (ai_mk (by decide +kernel)) (by omega) (by omega) rfl ?_
      refine x_iload (dat d_Mo_fever 51 rfl) rfl ?_
      refine x_ishr (v := ishr (σ2 189 (i : Int)) o) (dat d_Mo_fever 52 rfl) rfl ?_
      refine x_iconst (dat d_Mo_fever 53 rfl) (by decide) ?_
      refine x_iand (v := y) (dat d_Mo_fever 54 rfl) (by exact gi) ?_
      refine x_iconst (dat d_Mo_fever 55 rfl) (by decide) ?_
      refine x_icmp_ne (tgt := 107) (dat d_Mo_fever 56 rfl) (by decide) (fun c_101 => ?_) (fun c_101 => ?_)
      · refine x_iinc (v' := ((i + 1 : Nat) : Int)) (L' := [vR 174, vI n, vI p, vI h, vI o, vI ((i + 1 : Nat) : Int)]) (dat d_Mo_fever 59 rfl) rfl (by decide) rfl (by omega) (by omega) rfl ?_
        refine x_goto (tgt := 78) (dat d_Mo_fever 60 rfl) (by decide) ?_
        have nb : ¬ rch (cGl (cfg (tw a n))) p (lgs (cfg (tw a n)) 0 (i + 1)) o = true := by rcases y01 with z | z; exact absurd z.1 (by omega); exact z.2
        refine ih (i + 1) (by omega) (fun j hj2 => ?_)
        by_cases z : j = i
        · rw [z]; exact nb
        · exact hj j (by omega)
      · refine x_iload (dat d_Mo_fever 57 rfl) rfl ?_
        refine x_iret (dat d_Mo_fever 58 rfl) rfl ?_
        have yb : rch (cGl (cfg (tw a n))) p (lgs (cfg (tw a n)) 0 (i + 1)) o = true := by rcases y01 with z | z; exact z.2; exact absurd z.1 (by omega)
        exact kk _ (Or.inr ⟨i, by omega, rfl, yb, hj⟩)
  refine x_enter 1 rfl rfl rfl (fun Z => ?_)
  show Wx g y_Mo_fever Z K 0 [vR 174, vI n, vI p, vI h, vI o, vU] [] σ
  refine x_aload_n (dat d_Mo_fever 0 rfl) rfl rfl ?_
  refine x_iload_n (dat d_Mo_fever 1 rfl) rfl rfl ?_
  refine x_inv (As := [vI n]) (dat d_Mo_fever 2 rfl) rfl c_Mo_isTown l_Mo_205 (by decide) (rv_mo (by decide +kernel)) rfl rfl (Nat.le_of_ble_eq_true rfl) ?_
  refine sp_Mo_isTown A (fun σ1 t0 n0 n1 H P Z1 A1 F => ?_) (fun n01 => ?_)
  · show Wx g y_Mo_fever Z K 5 [vR 174, vI n, vI p, vI h, vI o, vU] [vI 1] σ1
    refine x_if_eq (tgt := 48) (dat d_Mo_fever 3 rfl) (by decide) (fun h => absurd h (by decide)) (fun c_5 => ?_)
    refine x_aload_n (dat d_Mo_fever 4 rfl) rfl rfl ?_
    refine x_iload_n (dat d_Mo_fever 5 rfl) rfl rfl ?_
    refine x_inv (As := [vI p]) (dat d_Mo_fever 6 rfl) rfl c_Mo_isPerson l_Mo_208 (by decide) (rv_mo (by decide +kernel)) rfl rfl (Nat.le_of_ble_eq_true rfl) ?_
    refine sp_Mo_isPerson H.1.1 H.1.2 (fun p0 p1 => ?_) (fun p01 => ?_)
    · show Wx g y_Mo_fever Z K 13 [vR 174, vI n, vI p, vI h, vI o, vU] [vI 1] σ1
      refine x_if_eq (tgt := 48) (dat d_Mo_fever 7 rfl) (by decide) (fun h => absurd h (by decide)) (fun c_13 => ?_)
      refine x_iload (dat d_Mo_fever 8 rfl) rfl ?_
      refine x_iload_n (dat d_Mo_fever 9 rfl) rfl rfl ?_
      refine x_icmp_eq (tgt := 48) (dat d_Mo_fever 10 rfl) (by decide) (fun c_19 => ?_) (fun c_19 => ?_)
      · refine x_bipush (dat d_Mo_fever 23 rfl) (by decide) (by decide) ?_
        refine x_iret (dat d_Mo_fever 24 rfl) rfl ?_
        first
        | exact k0 n01
        | exact k1 _ _ (c0 (Or.inl p01)) n0 n1 A1 F
        | exact k1 _ _ (c0 (Or.inr (Or.inl (by omega)))) n0 n1 A1 F
        | exact k1 _ _ (c0 (Or.inr (Or.inr (Or.inl ⟨by omega, h01⟩)))) n0 n1 A1 F
        | exact k1 _ _ (c0 (Or.inr (Or.inr (Or.inr ⟨by omega, o01⟩)))) n0 n1 A1 F
        | (refine k1 _ _ ?_ n0 n1 A2 F2
           unfold fevA
           rw [if_neg (by omega), if_pos (by omega)]
           have th : ((h.toNat : Nat) : Int) = h := by omega
           have bi := (R.2.2.1 h.toNat (by show h.toNat < (tw a n 3).toNat; omega)).2.2.1
           rw [th, ilT_0] at bi
           exact bi)
      · refine x_iload (dat d_Mo_fever 11 rfl) rfl ?_
        refine x_iconst (dat d_Mo_fever 12 rfl) (by decide) ?_
        refine x_icmp_ne (tgt := 39) (dat d_Mo_fever 13 rfl) (by decide) (fun c_25 => ?_) (fun c_25 => ?_)
        · refine x_aload_n (dat d_Mo_fever 19 rfl) rfl rfl ?_
          refine x_iload (dat d_Mo_fever 20 rfl) rfl ?_
          refine x_inv (As := [vI o]) (dat d_Mo_fever 21 rfl) rfl c_Mo_isPerson l_Mo_208 (by decide) (rv_mo (by decide +kernel)) rfl rfl (Nat.le_of_ble_eq_true rfl) ?_
          refine sp_Mo_isPerson H.1.1 H.1.2 (fun o0 o1 => ?_) (fun o01 => ?_)
          · show Wx g y_Mo_fever Z K 45 [vR 174, vI n, vI p, vI h, vI o, vU] [vI 1] σ1
            refine x_if_ne (tgt := 51) (dat d_Mo_fever 22 rfl) (by decide) (fun c_45 => ?_) (fun h => absurd h (by decide))
            refine x_aload_n (dat d_Mo_fever 25 rfl) rfl rfl ?_
            refine x_iconst (dat d_Mo_fever 26 rfl) (by decide) ?_
            refine x_iload_n (dat d_Mo_fever 27 rfl) rfl rfl ?_
            refine x_ishl (v := ishl 1 p) (dat d_Mo_fever 28 rfl) rfl ?_
            refine x_puti (ji := 37) (x := (ishl 1 p)) (dat d_Mo_fever 29 rfl) rfl f_Mo_253w (oi_mk (by decide +kernel)) (fun h => absurd h (by decide)) (by decide) ?_
            refine x_aload_n (dat d_Mo_fever 30 rfl) rfl rfl ?_
            refine x_inv (As := []) (dat d_Mo_fever 31 rfl) rfl c_Mo_runs l_Mo_336 (by decide) (rv_mo (by decide +kernel)) rfl rfl (Nat.le_of_ble_eq_true rfl) ?_
            refine sp_Mo_runs (C := cfg (tw a n)) (t := tw a n) (t0 := t0) (s0 := fun _ => false) (n0 := fun _ => false) (i0 := (σ1 174 40, fun q => decide (q = p))) (dr := false) (kc := σ1 174 41) (H.put (by decide)) ?_ ⟨?_, ?_⟩ ?_ (Or.inl rfl) ?_ ?_ (fun σ2 R => ?_)
            · rw [up_ni (by decide), P.2.2.1.1]; exact Msk.zero 8
            · rw [up_s]; exact Msk.one (n := 8) (by decide) p0 (by have := H.1.2.2.2.2.2.2.2.1; omega)
            · rw [up_ni (by decide)]
            · rw [up_ni (by decide), P.2.2.1.2]; exact Msk.zero 8
            · rw [up_ni (by decide), P.2.2.2.2]; rfl
            · rw [up_ni (by decide)]
            have F2 := (F.put (i := 37) (v := ishl 1 p) (by decide)).trans R.2.2.2.mo
            have A2 := A.same F2
            have M2 := (H.put (i := 37) (v := ishl 1 p) (by decide)).same R.2.2.2
            have t6 := H.1.2.2.2.2.2.2.2.1
            have t3 := H.1.2.2.2.2.1
            show Wx g y_Mo_fever Z K 62 [vR 174, vI n, vI p, vI h, vI o, vU] [] σ2
            refine x_iload (dat d_Mo_fever 32 rfl) rfl ?_
            refine x_iconst (dat d_Mo_fever 33 rfl) (by decide) ?_
            refine x_icmp_ne (tgt := 75) (dat d_Mo_fever 34 rfl) (by decide) (fun c_65 => ?_) (fun c_65 => ?_)
            · refine x_iconst (dat d_Mo_fever 40 rfl) (by decide) ?_
              refine x_istore (L' := [vR 174, vI n, vI p, vI h, vI o, vI 0]) (dat d_Mo_fever 41 rfl) (by decide) rfl rfl ?_
              refine lp Z _ σ2 t0 _ _ M2 R (by omega) (fun r hr => ?_) (tw a n 3).toNat 0 (by omega) (fun j hj => by omega)
              refine k1 _ _ ?_ n0 n1 A2 F2
              unfold fevA
              rw [if_neg (by omega), if_neg (by omega)]
              exact hr
            · refine x_aload_n (dat d_Mo_fever 35 rfl) rfl rfl ?_
              refine x_getr (r := 189) (dat d_Mo_fever 36 rfl) rfl f_Mo_53 (or_mk (by decide +kernel)) ?_
              refine x_iload_n (dat d_Mo_fever 37 rfl) rfl rfl ?_
              refine x_iald (n := 24) (v := σ2 189 h) (dat d_Mo_fever 38 rfl) (ai_mk (by decide +kernel)) (by omega) (by omega) rfl ?_
              refine x_iret (dat d_Mo_fever 39 rfl) rfl ?_
              first
              | exact k0 n01
              | exact k1 _ _ (c0 (Or.inl p01)) n0 n1 A1 F
              | exact k1 _ _ (c0 (Or.inr (Or.inl (by omega)))) n0 n1 A1 F
              | exact k1 _ _ (c0 (Or.inr (Or.inr (Or.inl ⟨by omega, h01⟩)))) n0 n1 A1 F
              | exact k1 _ _ (c0 (Or.inr (Or.inr (Or.inr ⟨by omega, o01⟩)))) n0 n1 A1 F
              | (refine k1 _ _ ?_ n0 n1 A2 F2
                 unfold fevA
                 rw [if_neg (by omega), if_pos (by omega)]
                 have th : ((h.toNat : Nat) : Int) = h := by omega
                 have bi := (R.2.2.1 h.toNat (by show h.toNat < (tw a n 3).toNat; omega)).2.2.1
                 rw [th, ilT_0] at bi
                 exact bi)
          · show Wx g y_Mo_fever Z K 45 [vR 174, vI n, vI p, vI h, vI o, vU] [vI 0] σ1
            refine x_if_ne (tgt := 51) (dat d_Mo_fever 22 rfl) (by decide) (fun h => absurd h (by decide)) (fun c_45 => ?_)
            refine x_bipush (dat d_Mo_fever 23 rfl) (by decide) (by decide) ?_
            refine x_iret (dat d_Mo_fever 24 rfl) rfl ?_
            first
            | exact k0 n01
            | exact k1 _ _ (c0 (Or.inl p01)) n0 n1 A1 F
            | exact k1 _ _ (c0 (Or.inr (Or.inl (by omega)))) n0 n1 A1 F
            | exact k1 _ _ (c0 (Or.inr (Or.inr (Or.inl ⟨by omega, h01⟩)))) n0 n1 A1 F
            | exact k1 _ _ (c0 (Or.inr (Or.inr (Or.inr ⟨by omega, o01⟩)))) n0 n1 A1 F
            | (refine k1 _ _ ?_ n0 n1 A2 F2
               unfold fevA
               rw [if_neg (by omega), if_pos (by omega)]
               have th : ((h.toNat : Nat) : Int) = h := by omega
               have bi := (R.2.2.1 h.toNat (by show h.toNat < (tw a n 3).toNat; omega)).2.2.1
               rw [th, ilT_0] at bi
               exact bi)
        · refine x_aload_n (dat d_Mo_fever 14 rfl) rfl rfl ?_
          refine x_iload_n (dat d_Mo_fever 15 rfl) rfl rfl ?_
          refine x_inv (As := [vI h]) (dat d_Mo_fever 16 rfl) rfl c_Mo_isHour l_Mo_342 (by decide) (rv_mo (by decide +kernel)) rfl rfl (Nat.le_of_ble_eq_true rfl) ?_
          refine sp_Mo_isHour H.1.1 H.1.2 (fun h0 h1 => ?_) (fun h01 => ?_)
          · show Wx g y_Mo_fever Z K 33 [vR 174, vI n, vI p, vI h, vI o, vU] [vI 1] σ1
            refine x_if_ne (tgt := 51) (dat d_Mo_fever 17 rfl) (by decide) (fun c_33 => ?_) (fun h => absurd h (by decide))
            refine x_aload_n (dat d_Mo_fever 25 rfl) rfl rfl ?_
            refine x_iconst (dat d_Mo_fever 26 rfl) (by decide) ?_
            refine x_iload_n (dat d_Mo_fever 27 rfl) rfl rfl ?_
            refine x_ishl (v := ishl 1 p) (dat d_Mo_fever 28 rfl) rfl ?_
            refine x_puti (ji := 37) (x := (ishl 1 p)) (dat d_Mo_fever 29 rfl) rfl f_Mo_253w (oi_mk (by decide +kernel)) (fun h => absurd h (by decide)) (by decide) ?_
            refine x_aload_n (dat d_Mo_fever 30 rfl) rfl rfl ?_
            refine x_inv (As := []) (dat d_Mo_fever 31 rfl) rfl c_Mo_runs l_Mo_336 (by decide) (rv_mo (by decide +kernel)) rfl rfl (Nat.le_of_ble_eq_true rfl) ?_
            refine sp_Mo_runs (C := cfg (tw a n)) (t := tw a n) (t0 := t0) (s0 := fun _ => false) (n0 := fun _ => false) (i0 := (σ1 174 40, fun q => decide (q = p))) (dr := false) (kc := σ1 174 41) (H.put (by decide)) ?_ ⟨?_, ?_⟩ ?_ (Or.inl rfl) ?_ ?_ (fun σ2 R => ?_)
            · rw [up_ni (by decide), P.2.2.1.1]; exact Msk.zero 8
            · rw [up_s]; exact Msk.one (n := 8) (by decide) p0 (by have := H.1.2.2.2.2.2.2.2.1; omega)
            · rw [up_ni (by decide)]
            · rw [up_ni (by decide), P.2.2.1.2]; exact Msk.zero 8
            · rw [up_ni (by decide), P.2.2.2.2]; rfl
            · rw [up_ni (by decide)]
            have F2 := (F.put (i := 37) (v := ishl 1 p) (by decide)).trans R.2.2.2.mo
            have A2 := A.same F2
            have M2 := (H.put (i := 37) (v := ishl 1 p) (by decide)).same R.2.2.2
            have t6 := H.1.2.2.2.2.2.2.2.1
            have t3 := H.1.2.2.2.2.1
            show Wx g y_Mo_fever Z K 62 [vR 174, vI n, vI p, vI h, vI o, vU] [] σ2
            refine x_iload (dat d_Mo_fever 32 rfl) rfl ?_
            refine x_iconst (dat d_Mo_fever 33 rfl) (by decide) ?_
            refine x_icmp_ne (tgt := 75) (dat d_Mo_fever 34 rfl) (by decide) (fun c_65 => ?_) (fun c_65 => ?_)
            · refine x_iconst (dat d_Mo_fever 40 rfl) (by decide) ?_
              refine x_istore (L' := [vR 174, vI n, vI p, vI h, vI o, vI 0]) (dat d_Mo_fever 41 rfl) (by decide) rfl rfl ?_
              refine lp Z _ σ2 t0 _ _ M2 R (by omega) (fun r hr => ?_) (tw a n 3).toNat 0 (by omega) (fun j hj => by omega)
              refine k1 _ _ ?_ n0 n1 A2 F2
              unfold fevA
              rw [if_neg (by omega), if_neg (by omega)]
              exact hr
            · refine x_aload_n (dat d_Mo_fever 35 rfl) rfl rfl ?_
              refine x_getr (r := 189) (dat d_Mo_fever 36 rfl) rfl f_Mo_53 (or_mk (by decide +kernel)) ?_
              refine x_iload_n (dat d_Mo_fever 37 rfl) rfl rfl ?_
              refine x_iald (n := 24) (v := σ2 189 h) (dat d_Mo_fever 38 rfl) (ai_mk (by decide +kernel)) (by omega) (by omega) rfl ?_
              refine x_iret (dat d_Mo_fever 39 rfl) rfl ?_
              first
              | exact k0 n01
              | exact k1 _ _ (c0 (Or.inl p01)) n0 n1 A1 F
              | exact k1 _ _ (c0 (Or.inr (Or.inl (by omega)))) n0 n1 A1 F
              | exact k1 _ _ (c0 (Or.inr (Or.inr (Or.inl ⟨by omega, h01⟩)))) n0 n1 A1 F
              | exact k1 _ _ (c0 (Or.inr (Or.inr (Or.inr ⟨by omega, o01⟩)))) n0 n1 A1 F
              | (refine k1 _ _ ?_ n0 n1 A2 F2
                 unfold fevA
                 rw [if_neg (by omega), if_pos (by omega)]
                 have th : ((h.toNat : Nat) : Int) = h := by omega
                 have bi := (R.2.2.1 h.toNat (by show h.toNat < (tw a n 3).toNat; omega)).2.2.1
                 rw [th, ilT_0] at bi
                 exact bi)
          · show Wx g y_Mo_fever Z K 33 [vR 174, vI n, vI p, vI h, vI o, vU] [vI 0] σ1
            refine x_if_ne (tgt := 51) (dat d_Mo_fever 17 rfl) (by decide) (fun h => absurd h (by decide)) (fun c_33 => ?_)
            refine x_goto (tgt := 48) (dat d_Mo_fever 18 rfl) (by decide) ?_
            refine x_bipush (dat d_Mo_fever 23 rfl) (by decide) (by decide) ?_
            refine x_iret (dat d_Mo_fever 24 rfl) rfl ?_
            first
            | exact k0 n01
            | exact k1 _ _ (c0 (Or.inl p01)) n0 n1 A1 F
            | exact k1 _ _ (c0 (Or.inr (Or.inl (by omega)))) n0 n1 A1 F
            | exact k1 _ _ (c0 (Or.inr (Or.inr (Or.inl ⟨by omega, h01⟩)))) n0 n1 A1 F
            | exact k1 _ _ (c0 (Or.inr (Or.inr (Or.inr ⟨by omega, o01⟩)))) n0 n1 A1 F
            | (refine k1 _ _ ?_ n0 n1 A2 F2
               unfold fevA
               rw [if_neg (by omega), if_pos (by omega)]
               have th : ((h.toNat : Nat) : Int) = h := by omega
               have bi := (R.2.2.1 h.toNat (by show h.toNat < (tw a n 3).toNat; omega)).2.2.1
               rw [th, ilT_0] at bi
               exact bi)
    · show Wx g y_Mo_fever Z K 13 [vR 174, vI n, vI p, vI h, vI o, vU] [vI 0] σ1
      refine x_if_eq (tgt := 48) (dat d_Mo_fever 7 rfl) (by decide) (fun c_13 => ?_) (fun h => absurd h (by decide))
      refine x_bipush (dat d_Mo_fever 23 rfl) (by decide) (by decide) ?_
      refine x_iret (dat d_Mo_fever 24 rfl) rfl ?_
      first
      | exact k0 n01
      | exact k1 _ _ (c0 (Or.inl p01)) n0 n1 A1 F
      | exact k1 _ _ (c0 (Or.inr (Or.inl (by omega)))) n0 n1 A1 F
      | exact k1 _ _ (c0 (Or.inr (Or.inr (Or.inl ⟨by omega, h01⟩)))) n0 n1 A1 F
      | exact k1 _ _ (c0 (Or.inr (Or.inr (Or.inr ⟨by omega, o01⟩)))) n0 n1 A1 F
      | (refine k1 _ _ ?_ n0 n1 A2 F2
         unfold fevA
         rw [if_neg (by omega), if_pos (by omega)]
         have th : ((h.toNat : Nat) : Int) = h := by omega
         have bi := (R.2.2.1 h.toNat (by show h.toNat < (tw a n 3).toNat; omega)).2.2.1
         rw [th, ilT_0] at bi
         exact bi)
  · show Wx g y_Mo_fever Z K 5 [vR 174, vI n, vI p, vI h, vI o, vU] [vI 0] σ
    refine x_if_eq (tgt := 48) (dat d_Mo_fever 3 rfl) (by decide) (fun c_5 => ?_) (fun h => absurd h (by decide))
    refine x_bipush (dat d_Mo_fever 23 rfl) (by decide) (by decide) ?_
    refine x_iret (dat d_Mo_fever 24 rfl) rfl ?_
    first
    | exact k0 n01
    | exact k1 _ _ (c0 (Or.inl p01)) n0 n1 A1 F
    | exact k1 _ _ (c0 (Or.inr (Or.inl (by omega)))) n0 n1 A1 F
    | exact k1 _ _ (c0 (Or.inr (Or.inr (Or.inl ⟨by omega, h01⟩)))) n0 n1 A1 F
    | exact k1 _ _ (c0 (Or.inr (Or.inr (Or.inr ⟨by omega, o01⟩)))) n0 n1 A1 F
    | (refine k1 _ _ ?_ n0 n1 A2 F2
       unfold fevA
       rw [if_neg (by omega), if_pos (by omega)]
       have th : ((h.toNat : Nat) : Int) = h := by omega
       have bi := (R.2.2.1 h.toNat (by show h.toNat < (tw a n 3).toNat; omega)).2.2.1
       rw [th, ilT_0] at bi
       exact bi)
theorem sp_Mo_stays {p w : Int} (A : MoA σ a) (k : ∀ (r : Int) (σ' : xS), atT a n (-1) (fun t r => styA t p w r) r → MoA σ' a → MoF σ' σ → K (some (vI r)) σ') : Mt g y_Mo_stays [vR 174, vI n, vI p, vI w] σ K := by
  have k0 : ¬ (0 ≤ n ∧ n < a 0) → K (some (vI (-1))) σ := fun z => k _ σ ⟨fun _ => rfl, fun z1 z2 => absurd ⟨z1, z2⟩ z⟩ A (MoF.rfl σ)
  have k1 : ∀ (r : Int) (σ' : xS), styA (tw a n) p w r → 0 ≤ n → n < a 0 → MoA σ' a → MoF σ' σ → K (some (vI r)) σ' := fun r σ' e n0 n1 A1 F1 => k r σ' ⟨fun z => absurd ⟨n0, n1⟩ z, fun _ _ => e⟩ A1 F1
  have c0 : ¬ ((0 ≤ p ∧ p < tw a n 6) ∧ (w = 0 ∨ 10 ≤ w ∧ w < 10 + tw a n 6)) → styA (tw a n) p w (-1) := fun z => by unfold styA; rw [if_pos z]
  refine x_enter 0 rfl rfl rfl (fun Z => ?_)
  show Wx g y_Mo_stays Z K 0 [vR 174, vI n, vI p, vI w] [] σ
  refine x_aload_n (dat d_Mo_stays 0 rfl) rfl rfl ?_
  refine x_iload_n (dat d_Mo_stays 1 rfl) rfl rfl ?_
  refine x_inv (As := [vI n]) (dat d_Mo_stays 2 rfl) rfl c_Mo_isTown l_Mo_205 (by decide) (rv_mo (by decide +kernel)) rfl rfl (Nat.le_of_ble_eq_true rfl) ?_
  refine sp_Mo_isTown A (fun σ1 t0 n0 n1 H P Z1 A1 F => ?_) (fun n01 => ?_)
  · show Wx g y_Mo_stays Z K 5 [vR 174, vI n, vI p, vI w] [vI 1] σ1
    refine x_if_eq (tgt := 36) (dat d_Mo_stays 3 rfl) (by decide) (fun h => absurd h (by decide)) (fun c_5 => ?_)
    refine x_aload_n (dat d_Mo_stays 4 rfl) rfl rfl ?_
    refine x_iload_n (dat d_Mo_stays 5 rfl) rfl rfl ?_
    refine x_inv (As := [vI p]) (dat d_Mo_stays 6 rfl) rfl c_Mo_isPerson l_Mo_208 (by decide) (rv_mo (by decide +kernel)) rfl rfl (Nat.le_of_ble_eq_true rfl) ?_
    refine sp_Mo_isPerson H.1.1 H.1.2 (fun p0 p1 => ?_) (fun p01 => ?_)
    · show Wx g y_Mo_stays Z K 13 [vR 174, vI n, vI p, vI w] [vI 1] σ1
      refine x_if_eq (tgt := 36) (dat d_Mo_stays 7 rfl) (by decide) (fun h => absurd h (by decide)) (fun c_13 => ?_)
      refine x_iload_n (dat d_Mo_stays 8 rfl) rfl rfl ?_
      refine x_if_eq (tgt := 38) (dat d_Mo_stays 9 rfl) (by decide) (fun c_17 => ?_) (fun c_17 => ?_)
      · refine x_aload_n (dat d_Mo_stays 20 rfl) rfl rfl ?_
        refine x_iload_n (dat d_Mo_stays 21 rfl) rfl rfl ?_
        refine x_puti (ji := 14) (x := (p)) (dat d_Mo_stays 22 rfl) rfl f_Mo_217w (oi_mk (by decide +kernel)) (fun h => absurd h (by decide)) (by decide) ?_
        refine x_iload_n (dat d_Mo_stays 23 rfl) rfl rfl ?_
        refine x_if_ne (tgt := 52) (dat d_Mo_stays 24 rfl) (by decide) (fun c_44 => ?_) (fun c_44 => ?_)
        · refine x_aload_n (dat d_Mo_stays 28 rfl) rfl rfl ?_
          refine x_iconst (dat d_Mo_stays 29 rfl) (by decide) ?_
          refine x_iload_n (dat d_Mo_stays 30 rfl) rfl rfl ?_
          refine x_bipush (dat d_Mo_stays 31 rfl) (by decide) (by decide) ?_
          refine x_isub (v := w - 10) (dat d_Mo_stays 32 rfl) rfl (by omega) ?_
          refine x_ishl (v := ishl 1 (w - 10)) (dat d_Mo_stays 33 rfl) rfl ?_
          refine x_puti (ji := 37) (x := (ishl 1 (w - 10))) (dat d_Mo_stays 34 rfl) rfl f_Mo_253w (oi_mk (by decide +kernel)) (fun h => absurd h (by decide)) (by decide) ?_
          refine x_aload_n (dat d_Mo_stays 35 rfl) rfl rfl ?_
          refine x_inv (As := []) (dat d_Mo_stays 36 rfl) rfl c_Mo_runs l_Mo_336 (by decide) (rv_mo (by decide +kernel)) rfl rfl (Nat.le_of_ble_eq_true rfl) ?_
          refine sp_Mo_runs (C := styC (tw a n) p) (t := tw a n) (t0 := t0) (s0 := fun _ => false) (n0 := fun _ => false) (i0 := (σ1 174 40, fun q => decide (q = w - 10))) (dr := false) (kc := σ1 174 41) ((k_stay H P Z1 p0).put (by decide)) ?_ ⟨?_, ?_⟩ ?_ (Or.inl rfl) ?_ ?_ (fun σ2 R => ?_)
          · rw [up_ni (by decide), up_ni (by decide), P.2.2.1.1]; exact Msk.zero 8
          · rw [up_s]; exact Msk.one (n := 8) (by decide) (by omega) (by omega)
          · rw [up_ni (by decide), up_ni (by decide)]
          · rw [up_ni (by decide), up_ni (by decide), P.2.2.1.2]; exact Msk.zero 8
          · rw [up_ni (by decide), up_ni (by decide), P.2.2.2.2]; rfl
          · rw [up_ni (by decide), up_ni (by decide)]
          have F2 := ((F.put (i := 14) (v := p) (by decide)).put (i := 37) (v := ishl 1 (w - 10)) (by decide)).trans R.2.2.2.mo
          have A2 := A.same F2
          have b7 := R.1.1.2.2.1.1
          rw [ilT_0] at b7
          show Wx g y_Mo_stays Z K 66 [vR 174, vI n, vI p, vI w] [] σ2
          refine x_aload_n (dat d_Mo_stays 37 rfl) rfl rfl ?_
          refine x_geti (ji := 37) (v := σ2 174 37) (dat d_Mo_stays 38 rfl) rfl f_Mo_253 (oi_mk (by decide +kernel)) rfl ?_
          refine x_invs (As := [vI (σ2 174 37)]) (dat d_Mo_stays 39 rfl) rfl c_Mo_bits l_Mo_339 (by decide) rfl rfl (Nat.le_of_ble_eq_true rfl) ?_
          refine sp_Mo_bits b7 ?_
          show Wx g y_Mo_stays Z K 73 [vR 174, vI n, vI p, vI w] [vI (cntN (rch (cGl (styC (tw a n) p)) (w - 10) (lgs (styC (tw a n) p) 0 (cH (styC (tw a n) p)))) 8)] σ2
          refine x_iret (dat d_Mo_stays 40 rfl) rfl ?_
          first
          | exact k0 n01
          | exact k1 _ _ (c0 (fun w => p01 w.1)) n0 n1 A1 F
          | exact k1 _ _ (c0 (fun w => x1 (by omega))) n0 n1 A1 F
          | (exfalso; omega)
          | (refine k1 _ _ ?_ n0 n1 A2 F2
             unfold styA
             first
             | (rw [if_neg (fun z => z ⟨⟨p0, p1⟩, Or.inl (by omega)⟩), if_pos (by omega)])
             | (rw [if_neg (fun z => z ⟨⟨p0, p1⟩, Or.inr (by omega)⟩), if_neg (by omega)]; rfl))
        · refine x_aload_n (dat d_Mo_stays 25 rfl) rfl rfl ?_
          refine x_inv (As := []) (dat d_Mo_stays 26 rfl) rfl c_Mo_starved l_Mo_370 (by decide) (rv_mo (by decide +kernel)) rfl rfl (Nat.le_of_ble_eq_true rfl) ?_
          refine sp_Mo_starved (k_stay H P Z1 p0) (by rw [up_ni (by decide)]; exact P.2.2.1.1) (by rw [up_ni (by decide)]; exact P.2.2.2.1) (by rw [up_ni (by decide)]; exact P.2.2.1.2) (by rw [up_ni (by decide)]; exact P.2.2.2.2) (Or.inl rfl) (fun σ2 R => ?_)
          have F2 := (F.put (i := 14) (v := p) (by decide)).trans R.2.2.2.mo
          have A2 := A.same F2
          show Wx g y_Mo_stays Z K 51 [vR 174, vI n, vI p, vI w] [vI (stv (styC (tw a n) p))] σ2
          refine x_iret (dat d_Mo_stays 27 rfl) rfl ?_
          first
          | exact k0 n01
          | exact k1 _ _ (c0 (fun w => p01 w.1)) n0 n1 A1 F
          | exact k1 _ _ (c0 (fun w => x1 (by omega))) n0 n1 A1 F
          | (exfalso; omega)
          | (refine k1 _ _ ?_ n0 n1 A2 F2
             unfold styA
             first
             | (rw [if_neg (fun z => z ⟨⟨p0, p1⟩, Or.inl (by omega)⟩), if_pos (by omega)])
             | (rw [if_neg (fun z => z ⟨⟨p0, p1⟩, Or.inr (by omega)⟩), if_neg (by omega)]; rfl))
      · refine x_iload_n (dat d_Mo_stays 10 rfl) rfl rfl ?_
        refine x_bipush (dat d_Mo_stays 11 rfl) (by decide) (by decide) ?_
        refine x_bipush (dat d_Mo_stays 12 rfl) (by decide) (by decide) ?_
        refine x_aload_n (dat d_Mo_stays 13 rfl) rfl rfl ?_
        refine x_inv (As := []) (dat d_Mo_stays 14 rfl) rfl c_Mo_people l_Mo_202 (by decide) (rv_mo (by decide +kernel)) rfl rfl (Nat.le_of_ble_eq_true rfl) ?_
        refine sp_Mo_people H.1.1 ?_
        have t6 := H.1.2.2.2.2.2.2.2.1
        show Wx g y_Mo_stays Z K 29 [vR 174, vI n, vI p, vI w] [vI (tw a n 6), vI 9, vI 10, vI w] σ1
        refine x_iadd (v := 9 + (tw a n 6)) (dat d_Mo_stays 15 rfl) rfl (by omega) ?_
        refine x_invs (As := [vI w, vI 10, vI (9 + (tw a n 6))]) (dat d_Mo_stays 16 rfl) rfl c_Mo_isIn l_Mo_136 (by decide) rfl rfl (Nat.le_of_ble_eq_true rfl) ?_
        refine sp_Mo_isIn (fun x1 x2 => ?_) (fun x1 => ?_)
        · show Wx g y_Mo_stays Z K 33 [vR 174, vI n, vI p, vI w] [vI 1] σ1
          refine x_if_ne (tgt := 38) (dat d_Mo_stays 17 rfl) (by decide) (fun c_33 => ?_) (fun h => absurd h (by decide))
          refine x_aload_n (dat d_Mo_stays 20 rfl) rfl rfl ?_
          refine x_iload_n (dat d_Mo_stays 21 rfl) rfl rfl ?_
          refine x_puti (ji := 14) (x := (p)) (dat d_Mo_stays 22 rfl) rfl f_Mo_217w (oi_mk (by decide +kernel)) (fun h => absurd h (by decide)) (by decide) ?_
          refine x_iload_n (dat d_Mo_stays 23 rfl) rfl rfl ?_
          refine x_if_ne (tgt := 52) (dat d_Mo_stays 24 rfl) (by decide) (fun c_44 => ?_) (fun c_44 => ?_)
          · refine x_aload_n (dat d_Mo_stays 28 rfl) rfl rfl ?_
            refine x_iconst (dat d_Mo_stays 29 rfl) (by decide) ?_
            refine x_iload_n (dat d_Mo_stays 30 rfl) rfl rfl ?_
            refine x_bipush (dat d_Mo_stays 31 rfl) (by decide) (by decide) ?_
            refine x_isub (v := w - 10) (dat d_Mo_stays 32 rfl) rfl (by omega) ?_
            refine x_ishl (v := ishl 1 (w - 10)) (dat d_Mo_stays 33 rfl) rfl ?_
            refine x_puti (ji := 37) (x := (ishl 1 (w - 10))) (dat d_Mo_stays 34 rfl) rfl f_Mo_253w (oi_mk (by decide +kernel)) (fun h => absurd h (by decide)) (by decide) ?_
            refine x_aload_n (dat d_Mo_stays 35 rfl) rfl rfl ?_
            refine x_inv (As := []) (dat d_Mo_stays 36 rfl) rfl c_Mo_runs l_Mo_336 (by decide) (rv_mo (by decide +kernel)) rfl rfl (Nat.le_of_ble_eq_true rfl) ?_
            refine sp_Mo_runs (C := styC (tw a n) p) (t := tw a n) (t0 := t0) (s0 := fun _ => false) (n0 := fun _ => false) (i0 := (σ1 174 40, fun q => decide (q = w - 10))) (dr := false) (kc := σ1 174 41) ((k_stay H P Z1 p0).put (by decide)) ?_ ⟨?_, ?_⟩ ?_ (Or.inl rfl) ?_ ?_ (fun σ2 R => ?_)
            · rw [up_ni (by decide), up_ni (by decide), P.2.2.1.1]; exact Msk.zero 8
            · rw [up_s]; exact Msk.one (n := 8) (by decide) (by omega) (by omega)
            · rw [up_ni (by decide), up_ni (by decide)]
            · rw [up_ni (by decide), up_ni (by decide), P.2.2.1.2]; exact Msk.zero 8
            · rw [up_ni (by decide), up_ni (by decide), P.2.2.2.2]; rfl
            · rw [up_ni (by decide), up_ni (by decide)]
            have F2 := ((F.put (i := 14) (v := p) (by decide)).put (i := 37) (v := ishl 1 (w - 10)) (by decide)).trans R.2.2.2.mo
            have A2 := A.same F2
            have b7 := R.1.1.2.2.1.1
            rw [ilT_0] at b7
            show Wx g y_Mo_stays Z K 66 [vR 174, vI n, vI p, vI w] [] σ2
            refine x_aload_n (dat d_Mo_stays 37 rfl) rfl rfl ?_
            refine x_geti (ji := 37) (v := σ2 174 37) (dat d_Mo_stays 38 rfl) rfl f_Mo_253 (oi_mk (by decide +kernel)) rfl ?_
            refine x_invs (As := [vI (σ2 174 37)]) (dat d_Mo_stays 39 rfl) rfl c_Mo_bits l_Mo_339 (by decide) rfl rfl (Nat.le_of_ble_eq_true rfl) ?_
            refine sp_Mo_bits b7 ?_
            show Wx g y_Mo_stays Z K 73 [vR 174, vI n, vI p, vI w] [vI (cntN (rch (cGl (styC (tw a n) p)) (w - 10) (lgs (styC (tw a n) p) 0 (cH (styC (tw a n) p)))) 8)] σ2
            refine x_iret (dat d_Mo_stays 40 rfl) rfl ?_
            first
            | exact k0 n01
            | exact k1 _ _ (c0 (fun w => p01 w.1)) n0 n1 A1 F
            | exact k1 _ _ (c0 (fun w => x1 (by omega))) n0 n1 A1 F
            | (exfalso; omega)
            | (refine k1 _ _ ?_ n0 n1 A2 F2
               unfold styA
               first
               | (rw [if_neg (fun z => z ⟨⟨p0, p1⟩, Or.inl (by omega)⟩), if_pos (by omega)])
               | (rw [if_neg (fun z => z ⟨⟨p0, p1⟩, Or.inr (by omega)⟩), if_neg (by omega)]; rfl))
          · refine x_aload_n (dat d_Mo_stays 25 rfl) rfl rfl ?_
            refine x_inv (As := []) (dat d_Mo_stays 26 rfl) rfl c_Mo_starved l_Mo_370 (by decide) (rv_mo (by decide +kernel)) rfl rfl (Nat.le_of_ble_eq_true rfl) ?_
            refine sp_Mo_starved (k_stay H P Z1 p0) (by rw [up_ni (by decide)]; exact P.2.2.1.1) (by rw [up_ni (by decide)]; exact P.2.2.2.1) (by rw [up_ni (by decide)]; exact P.2.2.1.2) (by rw [up_ni (by decide)]; exact P.2.2.2.2) (Or.inl rfl) (fun σ2 R => ?_)
            have F2 := (F.put (i := 14) (v := p) (by decide)).trans R.2.2.2.mo
            have A2 := A.same F2
            show Wx g y_Mo_stays Z K 51 [vR 174, vI n, vI p, vI w] [vI (stv (styC (tw a n) p))] σ2
            refine x_iret (dat d_Mo_stays 27 rfl) rfl ?_
            first
            | exact k0 n01
            | exact k1 _ _ (c0 (fun w => p01 w.1)) n0 n1 A1 F
            | exact k1 _ _ (c0 (fun w => x1 (by omega))) n0 n1 A1 F
            | (exfalso; omega)
            | (refine k1 _ _ ?_ n0 n1 A2 F2
               unfold styA
               first
               | (rw [if_neg (fun z => z ⟨⟨p0, p1⟩, Or.inl (by omega)⟩), if_pos (by omega)])
               | (rw [if_neg (fun z => z ⟨⟨p0, p1⟩, Or.inr (by omega)⟩), if_neg (by omega)]; rfl))
        · show Wx g y_Mo_stays Z K 33 [vR 174, vI n, vI p, vI w] [vI 0] σ1
          refine x_if_ne (tgt := 38) (dat d_Mo_stays 17 rfl) (by decide) (fun h => absurd h (by decide)) (fun c_33 => ?_)
          refine x_iconst (dat d_Mo_stays 18 rfl) (by decide) ?_
          refine x_iret (dat d_Mo_stays 19 rfl) rfl ?_
          first
          | exact k0 n01
          | exact k1 _ _ (c0 (fun w => p01 w.1)) n0 n1 A1 F
          | exact k1 _ _ (c0 (fun w => x1 (by omega))) n0 n1 A1 F
          | (exfalso; omega)
          | (refine k1 _ _ ?_ n0 n1 A2 F2
             unfold styA
             first
             | (rw [if_neg (fun z => z ⟨⟨p0, p1⟩, Or.inl (by omega)⟩), if_pos (by omega)])
             | (rw [if_neg (fun z => z ⟨⟨p0, p1⟩, Or.inr (by omega)⟩), if_neg (by omega)]; rfl))
    · show Wx g y_Mo_stays Z K 13 [vR 174, vI n, vI p, vI w] [vI 0] σ1
      refine x_if_eq (tgt := 36) (dat d_Mo_stays 7 rfl) (by decide) (fun c_13 => ?_) (fun h => absurd h (by decide))
      refine x_iconst (dat d_Mo_stays 18 rfl) (by decide) ?_
      refine x_iret (dat d_Mo_stays 19 rfl) rfl ?_
      first
      | exact k0 n01
      | exact k1 _ _ (c0 (fun w => p01 w.1)) n0 n1 A1 F
      | exact k1 _ _ (c0 (fun w => x1 (by omega))) n0 n1 A1 F
      | (exfalso; omega)
      | (refine k1 _ _ ?_ n0 n1 A2 F2
         unfold styA
         first
         | (rw [if_neg (fun z => z ⟨⟨p0, p1⟩, Or.inl (by omega)⟩), if_pos (by omega)])
         | (rw [if_neg (fun z => z ⟨⟨p0, p1⟩, Or.inr (by omega)⟩), if_neg (by omega)]; rfl))
  · show Wx g y_Mo_stays Z K 5 [vR 174, vI n, vI p, vI w] [vI 0] σ
    refine x_if_eq (tgt := 36) (dat d_Mo_stays 3 rfl) (by decide) (fun c_5 => ?_) (fun h => absurd h (by decide))
    refine x_iconst (dat d_Mo_stays 18 rfl) (by decide) ?_
    refine x_iret (dat d_Mo_stays 19 rfl) rfl ?_
    first
    | exact k0 n01
    | exact k1 _ _ (c0 (fun w => p01 w.1)) n0 n1 A1 F
    | exact k1 _ _ (c0 (fun w => x1 (by omega))) n0 n1 A1 F
    | (exfalso; omega)
    | (refine k1 _ _ ?_ n0 n1 A2 F2
       unfold styA
       first
       | (rw [if_neg (fun z => z ⟨⟨p0, p1⟩, Or.inl (by omega)⟩), if_pos (by omega)])
       | (rw [if_neg (fun z => z ⟨⟨p0, p1⟩, Or.inr (by omega)⟩), if_neg (by omega)]; rfl))
end
