/-! the twin's answers: fewest gloves, fewest quarrels */ -/
section
variable {g : xG} {K : Option MV → xS → Prop} {σ σ0 : xS} {t : Int → Int} {t0 : Int} {a : Int → Int} {n : Int}
theorem lp_Mo_gloves {Z : xZ} {N : Nat} (hN : ishl 1 (t 6) = (N : Int)) (hN8 : N ≤ 256) (k : ∀ σ' : xS, MoF σ' σ0 → K (some (vI (fewB (glF t) N))) σ') : ∀ (d i : Nat) (σ1 : xS) (b : Int), i + d = N → fewB (glF t) i = b → KnX σ1 t t0 [13] → MoF σ1 σ0 → Wx g y_Mo_gloves Z K 14 [vR 174, vI n, vI b, vI (i : Int)] [] σ1 := by
  intro d
  induction d with
  | zero =>
    intro i σ1 b hd hb H F
    have e : i = N := by omega
    refine x_iload_n (dat d_Mo_gloves 10 rfl) rfl rfl ?_
    refine x_iconst (dat d_Mo_gloves 11 rfl) (by decide) ?_
    refine x_aload_n (dat d_Mo_gloves 12 rfl) rfl rfl ?_
    refine x_inv (As := []) (dat d_Mo_gloves 13 rfl) rfl c_Mo_people l_Mo_202 (by decide) (rv_mo (by decide +kernel)) rfl rfl (Nat.le_of_ble_eq_true rfl) ?_
    refine sp_Mo_people H.1.1 ?_
    show Wx g y_Mo_gloves Z K 20 [vR 174, vI n, vI b, vI (i : Int)] [vI (t 6), vI 1, vI (i : Int)] σ1
    refine x_ishl (v := (N : Int)) (dat d_Mo_gloves 14 rfl) (by exact hN) ?_
    refine x_icmp_ge (tgt := 59) (dat d_Mo_gloves 15 rfl) (by decide) (fun c_21 => ?_) (fun c_21 => (by omega))
    refine x_iload_n (dat d_Mo_gloves 33 rfl) rfl rfl ?_
    refine x_iret (dat d_Mo_gloves 34 rfl) rfl ?_
    rw [← hb, e]
    exact k _ F
  | succ d ih =>
    intro i σ1 b hd hb H F
    have fi := fewB_in (glF t) i
    rw [hb] at fi
    have H2 : KnX (up σ1 174 13 (i : Int)) t t0 [13] := H.put (by decide)
    have F2 : MoF (up σ1 174 13 (i : Int)) σ0 := F.put (by decide)
    have M2 := kn_glv H2 (m := (i : Int)) (by omega) (by omega) up_s
    have st : fewB (glF t) (i + 1) = if (fewB (glF t) i = -1 ∨ bcnt i < bcnt (fewB (glF t) i)) ∧ glF t i = true then (i : Int) else fewB (glF t) i := rfl
    obtain ⟨v, hv⟩ : ∃ v : Int, v = stv (mGl (cfg t) (fun p => cGl (cfg t) p || tb (i : Int) p)) := ⟨_, rfl⟩
    have gi : glF t i = true ↔ v = 0 := by
      unfold glF
      rw [← hv]
      exact decide_eq_true_iff
    have st : fewB (glF t) (i + 1) = if (b = -1 ∨ bcnt i < bcnt b) ∧ v = 0 then (i : Int) else b := by rw [st, hb]; exact ite_cg (and_congr Iff.rfl gi)
    have nx : ∀ (σ2 : xS) (b' : Int), fewB (glF t) (i + 1) = b' → KnX σ2 t t0 [13] → MoF σ2 σ0 → Wx g y_Mo_gloves Z K 14 [vR 174, vI n, vI b', vI ((i + 1 : Nat) : Int)] [] σ2 := fun σ2 b' e H3 F3 => ih (i + 1) σ2 b' (by omega) e H3 F3
    clear gi M2
    have M2 := kn_glv H2 (m := (i : Int)) (by omega) (by omega) up_s
    refine x_iload_n (dat d_Mo_gloves 10 rfl) rfl rfl ?_
    refine x_iconst (dat d_Mo_gloves 11 rfl) (by decide) ?_
    refine x_aload_n (dat d_Mo_gloves 12 rfl) rfl rfl ?_
    refine x_inv (As := []) (dat d_Mo_gloves 13 rfl) rfl c_Mo_people l_Mo_202 (by decide) (rv_mo (by decide +kernel)) rfl rfl (Nat.le_of_ble_eq_true rfl) ?_
    refine sp_Mo_people H.1.1 ?_
    show Wx g y_Mo_gloves Z K 20 [vR 174, vI n, vI b, vI (i : Int)] [vI (t 6), vI 1, vI (i : Int)] σ1
    refine x_ishl (v := (N : Int)) (dat d_Mo_gloves 14 rfl) (by exact hN) ?_
    refine x_icmp_ge (tgt := 59) (dat d_Mo_gloves 15 rfl) (by decide) (fun c_21 => (by omega)) (fun c_21 => ?_)
    refine x_aload_n (dat d_Mo_gloves 16 rfl) rfl rfl ?_
    refine x_iload_n (dat d_Mo_gloves 17 rfl) rfl rfl ?_
    refine x_puti (ji := 13) (x := (i : Int)) (dat d_Mo_gloves 18 rfl) rfl f_Mo_214w (oi_mk (by decide +kernel)) (fun h => absurd h (by decide)) (by decide) ?_
    refine x_iload_n (dat d_Mo_gloves 19 rfl) rfl rfl ?_
    refine x_if_lt (tgt := 44) (dat d_Mo_gloves 20 rfl) (by decide) (fun c_30 => ?_) (fun c_30 => ?_)
    · refine x_aload_n (dat d_Mo_gloves 26 rfl) rfl rfl ?_
      refine x_inv (As := []) (dat d_Mo_gloves 27 rfl) rfl c_Mo_starved l_Mo_370 (by decide) (rv_mo (by decide +kernel)) rfl rfl (Nat.le_of_ble_eq_true rfl) ?_
      refine sp_Kn_starved H2 M2 (Or.inl rfl) (fun σ2 R M3 H3 W3 => ?_)
      rw [← hv]
      show Wx g y_Mo_gloves Z K 48 [vR 174, vI n, vI b, vI (i : Int)] [vI v] σ2
      refine x_if_ne (tgt := 53) (dat d_Mo_gloves 28 rfl) (by decide) (fun c_48 => ?_) (fun c_48 => ?_)
      · refine x_iinc (v' := ((i + 1 : Nat) : Int)) (L' := [vR 174, vI n, vI b, vI ((i + 1 : Nat) : Int)]) (dat d_Mo_gloves 31 rfl) rfl (by decide) rfl (by omega) (by omega) rfl ?_
        refine x_goto (tgt := 14) (dat d_Mo_gloves 32 rfl) (by decide) ?_
        first
        | exact nx _ _ (by rw [st, if_pos (by omega)]) H3 (F2.trans W3.mo)
        | exact nx _ _ (by rw [st, if_neg (by omega)]) H3 (F2.trans W3.mo)
        | exact nx _ _ (by rw [st, if_neg (by omega)]) H2 F2
      · refine x_iload_n (dat d_Mo_gloves 29 rfl) rfl rfl ?_
        refine x_istore_n (L' := [vR 174, vI n, vI (i : Int), vI (i : Int)]) (dat d_Mo_gloves 30 rfl) rfl (by decide) rfl rfl ?_
        refine x_iinc (v' := ((i + 1 : Nat) : Int)) (L' := [vR 174, vI n, vI (i : Int), vI ((i + 1 : Nat) : Int)]) (dat d_Mo_gloves 31 rfl) rfl (by decide) rfl (by omega) (by omega) rfl ?_
        refine x_goto (tgt := 14) (dat d_Mo_gloves 32 rfl) (by decide) ?_
        first
        | exact nx _ _ (by rw [st, if_pos (by omega)]) H3 (F2.trans W3.mo)
        | exact nx _ _ (by rw [st, if_neg (by omega)]) H3 (F2.trans W3.mo)
        | exact nx _ _ (by rw [st, if_neg (by omega)]) H2 F2
    · refine x_iload_n (dat d_Mo_gloves 21 rfl) rfl rfl ?_
      refine x_invs (As := [vI (i : Int)]) (dat d_Mo_gloves 22 rfl) rfl c_Mo_bits l_Mo_339 (by decide) rfl rfl (Nat.le_of_ble_eq_true rfl) ?_
      refine sp_Mo_bits (msk_self (n := 8) (by omega) (by omega)) ?_
      rw [← (msk_self (n := 8) (m := (i : Int)) (by omega) (by omega)).bc]
      show Wx g y_Mo_gloves Z K 37 [vR 174, vI n, vI b, vI (i : Int)] [vI (bcnt i)] (up σ1 174 13 (i : Int))
      refine x_iload_n (dat d_Mo_gloves 23 rfl) rfl rfl ?_
      refine x_invs (As := [vI b]) (dat d_Mo_gloves 24 rfl) rfl c_Mo_bits l_Mo_339 (by decide) rfl rfl (Nat.le_of_ble_eq_true rfl) ?_
      refine sp_Mo_bits (msk_self (n := 8) (by omega) (by omega)) ?_
      rw [← (msk_self (n := 8) (m := b) (by omega) (by omega)).bc]
      show Wx g y_Mo_gloves Z K 41 [vR 174, vI n, vI b, vI (i : Int)] [vI (bcnt b), vI (bcnt i)] (up σ1 174 13 (i : Int))
      refine x_icmp_ge (tgt := 53) (dat d_Mo_gloves 25 rfl) (by decide) (fun c_41 => ?_) (fun c_41 => ?_)
      · refine x_iinc (v' := ((i + 1 : Nat) : Int)) (L' := [vR 174, vI n, vI b, vI ((i + 1 : Nat) : Int)]) (dat d_Mo_gloves 31 rfl) rfl (by decide) rfl (by omega) (by omega) rfl ?_
        refine x_goto (tgt := 14) (dat d_Mo_gloves 32 rfl) (by decide) ?_
        first
        | exact nx _ _ (by rw [st, if_pos (by omega)]) H3 (F2.trans W3.mo)
        | exact nx _ _ (by rw [st, if_neg (by omega)]) H3 (F2.trans W3.mo)
        | exact nx _ _ (by rw [st, if_neg (by omega)]) H2 F2
      · refine x_aload_n (dat d_Mo_gloves 26 rfl) rfl rfl ?_
        refine x_inv (As := []) (dat d_Mo_gloves 27 rfl) rfl c_Mo_starved l_Mo_370 (by decide) (rv_mo (by decide +kernel)) rfl rfl (Nat.le_of_ble_eq_true rfl) ?_
        refine sp_Kn_starved H2 M2 (Or.inl rfl) (fun σ2 R M3 H3 W3 => ?_)
        rw [← hv]
        show Wx g y_Mo_gloves Z K 48 [vR 174, vI n, vI b, vI (i : Int)] [vI v] σ2
        refine x_if_ne (tgt := 53) (dat d_Mo_gloves 28 rfl) (by decide) (fun c_48 => ?_) (fun c_48 => ?_)
        · refine x_iinc (v' := ((i + 1 : Nat) : Int)) (L' := [vR 174, vI n, vI b, vI ((i + 1 : Nat) : Int)]) (dat d_Mo_gloves 31 rfl) rfl (by decide) rfl (by omega) (by omega) rfl ?_
          refine x_goto (tgt := 14) (dat d_Mo_gloves 32 rfl) (by decide) ?_
          first
          | exact nx _ _ (by rw [st, if_pos (by omega)]) H3 (F2.trans W3.mo)
          | exact nx _ _ (by rw [st, if_neg (by omega)]) H3 (F2.trans W3.mo)
          | exact nx _ _ (by rw [st, if_neg (by omega)]) H2 F2
        · refine x_iload_n (dat d_Mo_gloves 29 rfl) rfl rfl ?_
          refine x_istore_n (L' := [vR 174, vI n, vI (i : Int), vI (i : Int)]) (dat d_Mo_gloves 30 rfl) rfl (by decide) rfl rfl ?_
          refine x_iinc (v' := ((i + 1 : Nat) : Int)) (L' := [vR 174, vI n, vI (i : Int), vI ((i + 1 : Nat) : Int)]) (dat d_Mo_gloves 31 rfl) rfl (by decide) rfl (by omega) (by omega) rfl ?_
          refine x_goto (tgt := 14) (dat d_Mo_gloves 32 rfl) (by decide) ?_
          first
          | exact nx _ _ (by rw [st, if_pos (by omega)]) H3 (F2.trans W3.mo)
          | exact nx _ _ (by rw [st, if_neg (by omega)]) H3 (F2.trans W3.mo)
          | exact nx _ _ (by rw [st, if_neg (by omega)]) H2 F2
theorem sp_Mo_gloves (A : MoA σ a) (k : ∀ (r : Int) (σ' : xS), atT a n (-1) (fun t r => glvA t r) r → MoA σ' a → MoF σ' σ → K (some (vI r)) σ') : Mt g y_Mo_gloves [vR 174, vI n] σ K := by
  refine x_enter 2 rfl rfl rfl (fun Z => ?_)
  show Wx g y_Mo_gloves Z K 0 [vR 174, vI n, vU, vU] [] σ
  refine x_aload_n (dat d_Mo_gloves 0 rfl) rfl rfl ?_
  refine x_iload_n (dat d_Mo_gloves 1 rfl) rfl rfl ?_
  refine x_inv (As := [vI n]) (dat d_Mo_gloves 2 rfl) rfl c_Mo_isTown l_Mo_205 (by decide) (rv_mo (by decide +kernel)) rfl rfl (Nat.le_of_ble_eq_true rfl) ?_
  refine sp_Mo_isTown A (fun σ1 t0 n0 n1 H P Z1 A1 F => ?_) (fun n01 => ?_)
  · show Wx g y_Mo_gloves Z K 5 [vR 174, vI n, vU, vU] [vI 1] σ1
    refine x_if_ne (tgt := 10) (dat d_Mo_gloves 3 rfl) (by decide) (fun c_5 => ?_) (fun h => absurd h (by decide))
    refine x_iconst (dat d_Mo_gloves 6 rfl) (by decide) ?_
    refine x_istore_n (L' := [vR 174, vI n, vI (-1), vU]) (dat d_Mo_gloves 7 rfl) rfl (by decide) rfl rfl ?_
    refine x_iconst (dat d_Mo_gloves 8 rfl) (by decide) ?_
    refine x_istore_n (L' := [vR 174, vI n, vI (-1), vI 0]) (dat d_Mo_gloves 9 rfl) rfl (by decide) rfl rfl ?_
    have h6 := H.1.2.2.2.2.2.2.2.1
    have N8 : 2 ^ (tw a n 6).toNat ≤ 2 ^ 8 := Nat.pow_le_pow_right (by decide) (by omega)
    refine lp_Mo_gloves (σ0 := σ) (t := tw a n) (t0 := t0) (N := 2 ^ (tw a n 6).toNat) (ishl_1 h6.1 (by omega)) (Nat.le_trans N8 (by decide)) (fun σ' F2 => ?_) (2 ^ (tw a n 6).toNat) 0 σ1 (-1) (by omega) rfl (KnX.pln H P Z1 _) F
    exact k _ σ' ⟨fun z => absurd ⟨n0, n1⟩ z, fun _ _ => rfl⟩ (A.same F2) F2
  · show Wx g y_Mo_gloves Z K 5 [vR 174, vI n, vU, vU] [vI 0] σ
    refine x_if_ne (tgt := 10) (dat d_Mo_gloves 3 rfl) (by decide) (fun h => absurd h (by decide)) (fun c_5 => ?_)
    refine x_iconst (dat d_Mo_gloves 4 rfl) (by decide) ?_
    refine x_iret (dat d_Mo_gloves 5 rfl) rfl ?_
    exact k _ σ ⟨fun _ => rfl, fun z1 z2 => absurd ⟨z1, z2⟩ n01⟩ A (MoF.rfl σ)
theorem lp_Mo_peace {Z : xZ} {N : Nat} (hN : ishl 1 (t 7) = (N : Int)) (hN8 : N ≤ 64) (k : ∀ σ' : xS, MoF σ' σ0 → K (some (vI (fewB (qrF t) N))) σ') : ∀ (d i : Nat) (σ1 : xS) (b : Int), i + d = N → fewB (qrF t) i = b → KnX σ1 t t0 [16] → MoF σ1 σ0 → Wx g y_Mo_peace Z K 14 [vR 174, vI n, vI b, vI (i : Int)] [] σ1 := by
  intro d
  induction d with
  | zero =>
    intro i σ1 b hd hb H F
    have e : i = N := by omega
    refine x_iload_n (dat d_Mo_peace 10 rfl) rfl rfl ?_
    refine x_iconst (dat d_Mo_peace 11 rfl) (by decide) ?_
    refine x_aload_n (dat d_Mo_peace 12 rfl) rfl rfl ?_
    refine x_bipush (dat d_Mo_peace 13 rfl) (by decide) (by decide) ?_
    refine x_inv (As := [vI 7]) (dat d_Mo_peace 14 rfl) rfl c_Mo_of l_Mo_199 (by decide) (rv_mo (by decide +kernel)) rfl rfl (Nat.le_of_ble_eq_true rfl) ?_
    refine sp_Mo_of H.1.1 (by decide) (by decide) ?_
    show Wx g y_Mo_peace Z K 22 [vR 174, vI n, vI b, vI (i : Int)] [vI (t 7), vI 1, vI (i : Int)] σ1
    refine x_ishl (v := (N : Int)) (dat d_Mo_peace 15 rfl) (by exact hN) ?_
    refine x_icmp_ge (tgt := 66) (dat d_Mo_peace 16 rfl) (by decide) (fun c_23 => ?_) (fun c_23 => (by omega))
    refine x_iload_n (dat d_Mo_peace 37 rfl) rfl rfl ?_
    refine x_iret (dat d_Mo_peace 38 rfl) rfl ?_
    rw [← hb, e]
    exact k _ F
  | succ d ih =>
    intro i σ1 b hd hb H F
    have fi := fewB_in (qrF t) i
    rw [hb] at fi
    have H2 : KnX (up σ1 174 16 (i : Int)) t t0 [16] := H.put (by decide)
    have F2 : MoF (up σ1 174 16 (i : Int)) σ0 := F.put (by decide)
    have st : fewB (qrF t) (i + 1) = if (fewB (qrF t) i = -1 ∨ bcnt i < bcnt (fewB (qrF t) i)) ∧ qrF t i = true then (i : Int) else fewB (qrF t) i := rfl
    obtain ⟨v, hv⟩ : ∃ v : Int, v = (pts (mOp (cfg t) (opT t (i : Int))) (t 6).toNat).2 := ⟨_, rfl⟩
    have gi : qrF t i = true ↔ v ≤ 1 := by
      unfold qrF
      rw [← hv]
      exact decide_eq_true_iff
    have st : fewB (qrF t) (i + 1) = if (b = -1 ∨ bcnt i < bcnt b) ∧ v ≤ 1 then (i : Int) else b := by rw [st, hb]; exact ite_cg (and_congr Iff.rfl gi)
    have nx : ∀ (σ2 : xS) (b' : Int), fewB (qrF t) (i + 1) = b' → KnX σ2 t t0 [16] → MoF σ2 σ0 → Wx g y_Mo_peace Z K 14 [vR 174, vI n, vI b', vI ((i + 1 : Nat) : Int)] [] σ2 := fun σ2 b' e H3 F3 => ih (i + 1) σ2 b' (by omega) e H3 F3
    clear gi
    have M2 := kn_pea H2 (m := (i : Int)) (by omega) (by omega) up_s
    refine x_iload_n (dat d_Mo_peace 10 rfl) rfl rfl ?_
    refine x_iconst (dat d_Mo_peace 11 rfl) (by decide) ?_
    refine x_aload_n (dat d_Mo_peace 12 rfl) rfl rfl ?_
    refine x_bipush (dat d_Mo_peace 13 rfl) (by decide) (by decide) ?_
    refine x_inv (As := [vI 7]) (dat d_Mo_peace 14 rfl) rfl c_Mo_of l_Mo_199 (by decide) (rv_mo (by decide +kernel)) rfl rfl (Nat.le_of_ble_eq_true rfl) ?_
    refine sp_Mo_of H.1.1 (by decide) (by decide) ?_
    show Wx g y_Mo_peace Z K 22 [vR 174, vI n, vI b, vI (i : Int)] [vI (t 7), vI 1, vI (i : Int)] σ1
    refine x_ishl (v := (N : Int)) (dat d_Mo_peace 15 rfl) (by exact hN) ?_
    refine x_icmp_ge (tgt := 66) (dat d_Mo_peace 16 rfl) (by decide) (fun c_23 => (by omega)) (fun c_23 => ?_)
    refine x_aload_n (dat d_Mo_peace 17 rfl) rfl rfl ?_
    refine x_iload_n (dat d_Mo_peace 18 rfl) rfl rfl ?_
    refine x_puti (ji := 16) (x := (i : Int)) (dat d_Mo_peace 19 rfl) rfl f_Mo_223w (oi_mk (by decide +kernel)) (fun h => absurd h (by decide)) (by decide) ?_
    refine x_aload_n (dat d_Mo_peace 20 rfl) rfl rfl ?_
    refine x_inv (As := []) (dat d_Mo_peace 21 rfl) rfl c_Mo_runs l_Mo_336 (by decide) (rv_mo (by decide +kernel)) rfl rfl (Nat.le_of_ble_eq_true rfl) ?_
    refine sp_Kn_runs H2 M2 (Or.inl rfl) (fun σ2 R M3 H3 W3 => ?_)
    show Wx g y_Mo_peace Z K 35 [vR 174, vI n, vI b, vI (i : Int)] [] σ2
    refine x_iload_n (dat d_Mo_peace 22 rfl) rfl rfl ?_
    refine x_if_lt (tgt := 50) (dat d_Mo_peace 23 rfl) (by decide) (fun c_36 => ?_) (fun c_36 => ?_)
    · refine x_aload_n (dat d_Mo_peace 29 rfl) rfl rfl ?_
      refine x_inv (As := []) (dat d_Mo_peace 30 rfl) rfl c_Mo_parts l_Mo_367 (by decide) (rv_mo (by decide +kernel)) rfl rfl (Nat.le_of_ble_eq_true rfl) ?_
      refine sp_Mo_parts M3 R ?_
      rw [← hv]
      show Wx g y_Mo_peace Z K 54 [vR 174, vI n, vI b, vI (i : Int)] [vI v] σ2
      refine x_iconst (dat d_Mo_peace 31 rfl) (by decide) ?_
      refine x_icmp_ge (tgt := 60) (dat d_Mo_peace 32 rfl) (by decide) (fun c_55 => ?_) (fun c_55 => ?_)
      · refine x_iinc (v' := ((i + 1 : Nat) : Int)) (L' := [vR 174, vI n, vI b, vI ((i + 1 : Nat) : Int)]) (dat d_Mo_peace 35 rfl) rfl (by decide) rfl (by omega) (by omega) rfl ?_
        refine x_goto (tgt := 14) (dat d_Mo_peace 36 rfl) (by decide) ?_
        first
        | exact nx _ _ (by rw [st, if_pos (by omega)]) H3 (F2.trans W3.mo)
        | exact nx _ _ (by rw [st, if_neg (by omega)]) H3 (F2.trans W3.mo)
      · refine x_iload_n (dat d_Mo_peace 33 rfl) rfl rfl ?_
        refine x_istore_n (L' := [vR 174, vI n, vI (i : Int), vI (i : Int)]) (dat d_Mo_peace 34 rfl) rfl (by decide) rfl rfl ?_
        refine x_iinc (v' := ((i + 1 : Nat) : Int)) (L' := [vR 174, vI n, vI (i : Int), vI ((i + 1 : Nat) : Int)]) (dat d_Mo_peace 35 rfl) rfl (by decide) rfl (by omega) (by omega) rfl ?_
        refine x_goto (tgt := 14) (dat d_Mo_peace 36 rfl) (by decide) ?_
        first
        | exact nx _ _ (by rw [st, if_pos (by omega)]) H3 (F2.trans W3.mo)
        | exact nx _ _ (by rw [st, if_neg (by omega)]) H3 (F2.trans W3.mo)
    · refine x_iload_n (dat d_Mo_peace 24 rfl) rfl rfl ?_
      refine x_invs (As := [vI (i : Int)]) (dat d_Mo_peace 25 rfl) rfl c_Mo_bits l_Mo_339 (by decide) rfl rfl (Nat.le_of_ble_eq_true rfl) ?_
      refine sp_Mo_bits (msk_self (n := 8) (by omega) (by omega)) ?_
      rw [← (msk_self (n := 8) (m := (i : Int)) (by omega) (by omega)).bc]
      show Wx g y_Mo_peace Z K 43 [vR 174, vI n, vI b, vI (i : Int)] [vI (bcnt i)] σ2
      refine x_iload_n (dat d_Mo_peace 26 rfl) rfl rfl ?_
      refine x_invs (As := [vI b]) (dat d_Mo_peace 27 rfl) rfl c_Mo_bits l_Mo_339 (by decide) rfl rfl (Nat.le_of_ble_eq_true rfl) ?_
      refine sp_Mo_bits (msk_self (n := 8) (by omega) (by omega)) ?_
      rw [← (msk_self (n := 8) (m := b) (by omega) (by omega)).bc]
      show Wx g y_Mo_peace Z K 47 [vR 174, vI n, vI b, vI (i : Int)] [vI (bcnt b), vI (bcnt i)] σ2
      refine x_icmp_ge (tgt := 60) (dat d_Mo_peace 28 rfl) (by decide) (fun c_47 => ?_) (fun c_47 => ?_)
      · refine x_iinc (v' := ((i + 1 : Nat) : Int)) (L' := [vR 174, vI n, vI b, vI ((i + 1 : Nat) : Int)]) (dat d_Mo_peace 35 rfl) rfl (by decide) rfl (by omega) (by omega) rfl ?_
        refine x_goto (tgt := 14) (dat d_Mo_peace 36 rfl) (by decide) ?_
        first
        | exact nx _ _ (by rw [st, if_pos (by omega)]) H3 (F2.trans W3.mo)
        | exact nx _ _ (by rw [st, if_neg (by omega)]) H3 (F2.trans W3.mo)
      · refine x_aload_n (dat d_Mo_peace 29 rfl) rfl rfl ?_
        refine x_inv (As := []) (dat d_Mo_peace 30 rfl) rfl c_Mo_parts l_Mo_367 (by decide) (rv_mo (by decide +kernel)) rfl rfl (Nat.le_of_ble_eq_true rfl) ?_
        refine sp_Mo_parts M3 R ?_
        rw [← hv]
        show Wx g y_Mo_peace Z K 54 [vR 174, vI n, vI b, vI (i : Int)] [vI v] σ2
        refine x_iconst (dat d_Mo_peace 31 rfl) (by decide) ?_
        refine x_icmp_ge (tgt := 60) (dat d_Mo_peace 32 rfl) (by decide) (fun c_55 => ?_) (fun c_55 => ?_)
        · refine x_iinc (v' := ((i + 1 : Nat) : Int)) (L' := [vR 174, vI n, vI b, vI ((i + 1 : Nat) : Int)]) (dat d_Mo_peace 35 rfl) rfl (by decide) rfl (by omega) (by omega) rfl ?_
          refine x_goto (tgt := 14) (dat d_Mo_peace 36 rfl) (by decide) ?_
          first
          | exact nx _ _ (by rw [st, if_pos (by omega)]) H3 (F2.trans W3.mo)
          | exact nx _ _ (by rw [st, if_neg (by omega)]) H3 (F2.trans W3.mo)
        · refine x_iload_n (dat d_Mo_peace 33 rfl) rfl rfl ?_
          refine x_istore_n (L' := [vR 174, vI n, vI (i : Int), vI (i : Int)]) (dat d_Mo_peace 34 rfl) rfl (by decide) rfl rfl ?_
          refine x_iinc (v' := ((i + 1 : Nat) : Int)) (L' := [vR 174, vI n, vI (i : Int), vI ((i + 1 : Nat) : Int)]) (dat d_Mo_peace 35 rfl) rfl (by decide) rfl (by omega) (by omega) rfl ?_
          refine x_goto (tgt := 14) (dat d_Mo_peace 36 rfl) (by decide) ?_
          first
          | exact nx _ _ (by rw [st, if_pos (by omega)]) H3 (F2.trans W3.mo)
          | exact nx _ _ (by rw [st, if_neg (by omega)]) H3 (F2.trans W3.mo)
theorem sp_Mo_peace (A : MoA σ a) (k : ∀ (r : Int) (σ' : xS), atT a n (-1) (fun t r => peaA t r) r → MoA σ' a → MoF σ' σ → K (some (vI r)) σ') : Mt g y_Mo_peace [vR 174, vI n] σ K := by
  refine x_enter 2 rfl rfl rfl (fun Z => ?_)
  show Wx g y_Mo_peace Z K 0 [vR 174, vI n, vU, vU] [] σ
  refine x_aload_n (dat d_Mo_peace 0 rfl) rfl rfl ?_
  refine x_iload_n (dat d_Mo_peace 1 rfl) rfl rfl ?_
  refine x_inv (As := [vI n]) (dat d_Mo_peace 2 rfl) rfl c_Mo_isTown l_Mo_205 (by decide) (rv_mo (by decide +kernel)) rfl rfl (Nat.le_of_ble_eq_true rfl) ?_
  refine sp_Mo_isTown A (fun σ1 t0 n0 n1 H P Z1 A1 F => ?_) (fun n01 => ?_)
  · show Wx g y_Mo_peace Z K 5 [vR 174, vI n, vU, vU] [vI 1] σ1
    refine x_if_ne (tgt := 10) (dat d_Mo_peace 3 rfl) (by decide) (fun c_5 => ?_) (fun h => absurd h (by decide))
    refine x_iconst (dat d_Mo_peace 6 rfl) (by decide) ?_
    refine x_istore_n (L' := [vR 174, vI n, vI (-1), vU]) (dat d_Mo_peace 7 rfl) rfl (by decide) rfl rfl ?_
    refine x_iconst (dat d_Mo_peace 8 rfl) (by decide) ?_
    refine x_istore_n (L' := [vR 174, vI n, vI (-1), vI 0]) (dat d_Mo_peace 9 rfl) rfl (by decide) rfl rfl ?_
    have h7 := H.1.2.2.2.2.2.2.2.2.1
    have N8 : 2 ^ (tw a n 7).toNat ≤ 2 ^ 6 := Nat.pow_le_pow_right (by decide) (by omega)
    refine lp_Mo_peace (σ0 := σ) (t := tw a n) (t0 := t0) (N := 2 ^ (tw a n 7).toNat) (ishl_1 h7.1 (by omega)) (Nat.le_trans N8 (by decide)) (fun σ' F2 => ?_) (2 ^ (tw a n 7).toNat) 0 σ1 (-1) (by omega) rfl (KnX.pln H P Z1 _) F
    exact k _ σ' ⟨fun z => absurd ⟨n0, n1⟩ z, fun _ _ => rfl⟩ (A.same F2) F2
  · show Wx g y_Mo_peace Z K 5 [vR 174, vI n, vU, vU] [vI 0] σ
    refine x_if_ne (tgt := 10) (dat d_Mo_peace 3 rfl) (by decide) (fun h => absurd h (by decide)) (fun c_5 => ?_)
    refine x_iconst (dat d_Mo_peace 4 rfl) (by decide) ?_
    refine x_iret (dat d_Mo_peace 5 rfl) rfl ?_
    exact k _ σ ⟨fun _ => rfl, fun z1 z2 => absurd ⟨z1, z2⟩ n01⟩ A (MoF.rfl σ)
end
