/-! the twin's answers: the law that feeds most, the best hour for a wedding */ -/
section
variable {g : xG} {K : Option MV → xS → Prop} {σ σ0 : xS} {t : Int → Int} {t0 : Int} {a : Int → Int} {n : Int}
theorem scanMin_s {f : Nat → Int} {i : Nat} {b l : Int} (h : scanMin f i = (b, l)) : scanMin f (i + 1) = if b = -1 ∨ f i < l then ((i : Int), f i) else (b, l) := by
  show (if (scanMin f i).1 = -1 ∨ f i < (scanMin f i).2 then ((i : Int), f i) else scanMin f i) = _
  rw [h]
theorem scanMin_b {f : Nat → Int} {i : Nat} {b l : Int} (h : scanMin f i = (b, l)) : (i = 0 ∧ b = -1) ∨ (1 ≤ i ∧ 0 ≤ b ∧ b < i) := by
  have := scanMin_in f i
  rw [h] at this
  exact this
theorem lp_Mo_feeds {Z : xZ} {s : Int} (k : ∀ (r : Int) (σ' : xS), fdsA t s r → MoF σ' σ0 → K (some (vI r)) σ') : ∀ (d i : Nat) (σ1 : xS) (b l : Int) (w6 : MV), i + d = 4 → scanMin (lawF t) i = (b, l) → KnX σ1 t t0 [15] → MoF σ1 σ0 → Wx g y_Mo_feeds Z K 18 [vR 174, vI n, vI s, vI b, vI l, vI (i : Int), w6] [] σ1 := by
  intro d
  induction d with
  | zero =>
    intro i σ1 b l w6 hd hb H F
    have e : i = 4 := by omega
    rw [e] at hb
    have kk : ∀ r : Int, (r = if s = 0 then b else l) → K (some (vI r)) σ1 := fun r hr => k r σ1 (by unfold fdsA; rw [hb]; exact hr) F
    refine x_iload (dat d_Mo_feeds 12 rfl) rfl ?_
    refine x_iconst (dat d_Mo_feeds 13 rfl) (by decide) ?_
    refine x_icmp_ge (tgt := 63) (dat d_Mo_feeds 14 rfl) (by decide) (fun c_21 => ?_) (fun c_21 => (by omega))
    refine x_iload_n (dat d_Mo_feeds 33 rfl) rfl rfl ?_
    refine x_if_eq (tgt := 72) (dat d_Mo_feeds 34 rfl) (by decide) (fun c_64 => ?_) (fun c_64 => ?_)
    · refine x_iload_n (dat d_Mo_feeds 37 rfl) rfl rfl ?_
      refine x_iret (dat d_Mo_feeds 38 rfl) rfl ?_
      first
      | exact kk _ (by rw [if_pos (by omega)])
      | exact kk _ (by rw [if_neg (by omega)])
    · refine x_iload (dat d_Mo_feeds 35 rfl) rfl ?_
      refine x_goto (tgt := 73) (dat d_Mo_feeds 36 rfl) (by decide) ?_
      refine x_iret (dat d_Mo_feeds 38 rfl) rfl ?_
      first
      | exact kk _ (by rw [if_pos (by omega)])
      | exact kk _ (by rw [if_neg (by omega)])
  | succ d ih =>
    intro i σ1 b l w6 hd hb H F
    have fi := scanMin_b hb
    have st := scanMin_s hb
    have H2 : KnX (up σ1 174 15 (i : Int)) t t0 [15] := H.put (by decide)
    have F2 : MoF (up σ1 174 15 (i : Int)) σ0 := F.put (by decide)
    have M2 := kn_law H2 (l := (i : Int)) (by omega) (by omega) up_s
    obtain ⟨v, hv⟩ : ∃ v : Int, v = lawF t i := ⟨_, rfl⟩
    rw [← hv] at st
    have hv2 : stv (mS (cfg t) 2 (i : Int)) = v := hv.symm
    have nx : ∀ (σ2 : xS) (b' l' : Int) (w6 : MV), scanMin (lawF t) (i + 1) = (b', l') → KnX σ2 t t0 [15] → MoF σ2 σ0 → Wx g y_Mo_feeds Z K 18 [vR 174, vI n, vI s, vI b', vI l', vI ((i + 1 : Nat) : Int), w6] [] σ2 := fun σ2 b' l' w6 e H3 F3 => ih (i + 1) σ2 b' l' w6 (by omega) e H3 F3
    refine x_iload (dat d_Mo_feeds 12 rfl) rfl ?_
    refine x_iconst (dat d_Mo_feeds 13 rfl) (by decide) ?_
    refine x_icmp_ge (tgt := 63) (dat d_Mo_feeds 14 rfl) (by decide) (fun c_21 => (by omega)) (fun c_21 => ?_)
    refine x_aload_n (dat d_Mo_feeds 15 rfl) rfl rfl ?_
    refine x_iload (dat d_Mo_feeds 16 rfl) rfl ?_
    refine x_puti (ji := 15) (x := (i : Int)) (dat d_Mo_feeds 17 rfl) rfl f_Mo_220w (oi_mk (by decide +kernel)) (fun h => absurd h (by decide)) (by decide) ?_
    refine x_aload_n (dat d_Mo_feeds 18 rfl) rfl rfl ?_
    refine x_inv (As := []) (dat d_Mo_feeds 19 rfl) rfl c_Mo_starved l_Mo_370 (by decide) (rv_mo (by decide +kernel)) rfl rfl (Nat.le_of_ble_eq_true rfl) ?_
    refine sp_Kn_starved H2 M2 (Or.inl rfl) (fun σ2 R M3 H3 W3 => ?_)
    rw [hv2]
    show Wx g y_Mo_feeds Z K 34 [vR 174, vI n, vI s, vI b, vI l, vI (i : Int), w6] [vI v] σ2
    refine x_istore (L' := [vR 174, vI n, vI s, vI b, vI l, vI (i : Int), vI v]) (dat d_Mo_feeds 20 rfl) (by decide) rfl rfl ?_
    refine x_iload_n (dat d_Mo_feeds 21 rfl) rfl rfl ?_
    refine x_if_lt (tgt := 50) (dat d_Mo_feeds 22 rfl) (by decide) (fun c_37 => ?_) (fun c_37 => ?_)
    · refine x_iload (dat d_Mo_feeds 27 rfl) rfl ?_
      refine x_istore_n (L' := [vR 174, vI n, vI s, vI (i : Int), vI l, vI (i : Int), vI v]) (dat d_Mo_feeds 28 rfl) rfl (by decide) rfl rfl ?_
      refine x_iload (dat d_Mo_feeds 29 rfl) rfl ?_
      refine x_istore (L' := [vR 174, vI n, vI s, vI (i : Int), vI v, vI (i : Int), vI v]) (dat d_Mo_feeds 30 rfl) (by decide) rfl rfl ?_
      refine x_iinc (v' := ((i + 1 : Nat) : Int)) (L' := [vR 174, vI n, vI s, vI (i : Int), vI v, vI ((i + 1 : Nat) : Int), vI v]) (dat d_Mo_feeds 31 rfl) rfl (by decide) rfl (by omega) (by omega) rfl ?_
      refine x_goto (tgt := 18) (dat d_Mo_feeds 32 rfl) (by decide) ?_
      first
      | exact nx _ _ _ _ (by rw [st, if_pos (by omega)]) H3 (F2.trans W3.mo)
      | exact nx _ _ _ _ (by rw [st, if_neg (by omega)]) H3 (F2.trans W3.mo)
    · refine x_iload (dat d_Mo_feeds 23 rfl) rfl ?_
      refine x_iload (dat d_Mo_feeds 24 rfl) rfl ?_
      refine x_icmp_lt (tgt := 50) (dat d_Mo_feeds 25 rfl) (by decide) (fun c_44 => ?_) (fun c_44 => ?_)
      · refine x_iload (dat d_Mo_feeds 27 rfl) rfl ?_
        refine x_istore_n (L' := [vR 174, vI n, vI s, vI (i : Int), vI l, vI (i : Int), vI v]) (dat d_Mo_feeds 28 rfl) rfl (by decide) rfl rfl ?_
        refine x_iload (dat d_Mo_feeds 29 rfl) rfl ?_
        refine x_istore (L' := [vR 174, vI n, vI s, vI (i : Int), vI v, vI (i : Int), vI v]) (dat d_Mo_feeds 30 rfl) (by decide) rfl rfl ?_
        refine x_iinc (v' := ((i + 1 : Nat) : Int)) (L' := [vR 174, vI n, vI s, vI (i : Int), vI v, vI ((i + 1 : Nat) : Int), vI v]) (dat d_Mo_feeds 31 rfl) rfl (by decide) rfl (by omega) (by omega) rfl ?_
        refine x_goto (tgt := 18) (dat d_Mo_feeds 32 rfl) (by decide) ?_
        first
        | exact nx _ _ _ _ (by rw [st, if_pos (by omega)]) H3 (F2.trans W3.mo)
        | exact nx _ _ _ _ (by rw [st, if_neg (by omega)]) H3 (F2.trans W3.mo)
      · refine x_goto (tgt := 57) (dat d_Mo_feeds 26 rfl) (by decide) ?_
        refine x_iinc (v' := ((i + 1 : Nat) : Int)) (L' := [vR 174, vI n, vI s, vI b, vI l, vI ((i + 1 : Nat) : Int), vI v]) (dat d_Mo_feeds 31 rfl) rfl (by decide) rfl (by omega) (by omega) rfl ?_
        refine x_goto (tgt := 18) (dat d_Mo_feeds 32 rfl) (by decide) ?_
        first
        | exact nx _ _ _ _ (by rw [st, if_pos (by omega)]) H3 (F2.trans W3.mo)
        | exact nx _ _ _ _ (by rw [st, if_neg (by omega)]) H3 (F2.trans W3.mo)
theorem sp_Mo_feeds {s : Int} (A : MoA σ a) (k : ∀ (r : Int) (σ' : xS), atT a n (-1) (fun t r => fdsA t s r) r → MoA σ' a → MoF σ' σ → K (some (vI r)) σ') : Mt g y_Mo_feeds [vR 174, vI n, vI s] σ K := by
  refine x_enter 4 rfl rfl rfl (fun Z => ?_)
  show Wx g y_Mo_feeds Z K 0 [vR 174, vI n, vI s, vU, vU, vU, vU] [] σ
  refine x_aload_n (dat d_Mo_feeds 0 rfl) rfl rfl ?_
  refine x_iload_n (dat d_Mo_feeds 1 rfl) rfl rfl ?_
  refine x_inv (As := [vI n]) (dat d_Mo_feeds 2 rfl) rfl c_Mo_isTown l_Mo_205 (by decide) (rv_mo (by decide +kernel)) rfl rfl (Nat.le_of_ble_eq_true rfl) ?_
  refine sp_Mo_isTown A (fun σ1 t0 n0 n1 H P Z1 A1 F => ?_) (fun n01 => ?_)
  · show Wx g y_Mo_feeds Z K 5 [vR 174, vI n, vI s, vU, vU, vU, vU] [vI 1] σ1
    refine x_if_ne (tgt := 10) (dat d_Mo_feeds 3 rfl) (by decide) (fun c_5 => ?_) (fun h => absurd h (by decide))
    refine x_iconst (dat d_Mo_feeds 6 rfl) (by decide) ?_
    refine x_istore_n (L' := [vR 174, vI n, vI s, vI (-1), vU, vU, vU]) (dat d_Mo_feeds 7 rfl) rfl (by decide) rfl rfl ?_
    refine x_iconst (dat d_Mo_feeds 8 rfl) (by decide) ?_
    refine x_istore (L' := [vR 174, vI n, vI s, vI (-1), vI 0, vU, vU]) (dat d_Mo_feeds 9 rfl) (by decide) rfl rfl ?_
    refine x_iconst (dat d_Mo_feeds 10 rfl) (by decide) ?_
    refine x_istore (L' := [vR 174, vI n, vI s, vI (-1), vI 0, vI 0, vU]) (dat d_Mo_feeds 11 rfl) (by decide) rfl rfl ?_
    refine lp_Mo_feeds (σ0 := σ) (t := tw a n) (t0 := t0) (fun r σ' hr F2 => ?_) 4 0 σ1 (-1) 0 _ (by omega) rfl (KnX.pln H P Z1 _) F
    exact k _ σ' ⟨fun z => absurd ⟨n0, n1⟩ z, fun _ _ => hr⟩ (A.same F2) F2
  · show Wx g y_Mo_feeds Z K 5 [vR 174, vI n, vI s, vU, vU, vU, vU] [vI 0] σ
    refine x_if_ne (tgt := 10) (dat d_Mo_feeds 3 rfl) (by decide) (fun h => absurd h (by decide)) (fun c_5 => ?_)
    refine x_iconst (dat d_Mo_feeds 4 rfl) (by decide) ?_
    refine x_iret (dat d_Mo_feeds 5 rfl) rfl ?_
    exact k _ σ ⟨fun _ => rfl, fun z1 z2 => absurd ⟨z1, z2⟩ n01⟩ A (MoF.rfl σ)
theorem lp_Mo_wed {Z : xZ} {s : Int} (k : ∀ (r : Int) (σ' : xS), wddA t s r → MoF σ' σ0 → K (some (vI r)) σ') : ∀ (d i : Nat) (σ1 : xS) (b l : Int) (w6 : MV), i + d = (t 3).toNat → scanMin (wedF t) i = (b, l) → KnX σ1 t t0 [27] → σ1 174 28 = 0 → MoF σ1 σ0 → Wx g y_Mo_wed Z K 23 [vR 174, vI n, vI s, vI b, vI l, vI (i : Int), w6] [] σ1 := by
  intro d
  induction d with
  | zero =>
    intro i σ1 b l w6 hd hb H e28 F
    have t3 := H.1.2.2.2.2.1
    have e : i = (t 3).toNat := by omega
    rw [e] at hb
    have kk : ∀ r : Int, (r = if s = 0 then b else l) → K (some (vI r)) σ1 := fun r hr => k r σ1 (by unfold wddA; rw [hb]; exact hr) F
    refine x_iload (dat d_Mo_wed 15 rfl) rfl ?_
    refine x_aload_n (dat d_Mo_wed 16 rfl) rfl rfl ?_
    refine x_iconst (dat d_Mo_wed 17 rfl) (by decide) ?_
    refine x_inv (As := [vI 3]) (dat d_Mo_wed 18 rfl) rfl c_Mo_of l_Mo_199 (by decide) (rv_mo (by decide +kernel)) rfl rfl (Nat.le_of_ble_eq_true rfl) ?_
    refine sp_Mo_of H.1.1 (by decide) (by decide) ?_
    show Wx g y_Mo_wed Z K 30 [vR 174, vI n, vI s, vI b, vI l, vI (i : Int), w6] [vI (t 3), vI (i : Int)] σ1
    refine x_icmp_ge (tgt := 72) (dat d_Mo_wed 19 rfl) (by decide) (fun c_30 => ?_) (fun c_30 => (by omega))
    refine x_iload_n (dat d_Mo_wed 38 rfl) rfl rfl ?_
    refine x_if_eq (tgt := 81) (dat d_Mo_wed 39 rfl) (by decide) (fun c_73 => ?_) (fun c_73 => ?_)
    · refine x_iload_n (dat d_Mo_wed 42 rfl) rfl rfl ?_
      refine x_iret (dat d_Mo_wed 43 rfl) rfl ?_
      first
      | exact kk _ (by rw [if_pos (by omega)])
      | exact kk _ (by rw [if_neg (by omega)])
    · refine x_iload (dat d_Mo_wed 40 rfl) rfl ?_
      refine x_goto (tgt := 82) (dat d_Mo_wed 41 rfl) (by decide) ?_
      refine x_iret (dat d_Mo_wed 43 rfl) rfl ?_
      first
      | exact kk _ (by rw [if_pos (by omega)])
      | exact kk _ (by rw [if_neg (by omega)])
  | succ d ih =>
    intro i σ1 b l w6 hd hb H e28 F
    have t3 := H.1.2.2.2.2.1
    have fi := scanMin_b hb
    have st := scanMin_s hb
    have H2 : KnX (up σ1 174 27 (i : Int)) t t0 [27] := H.put (by decide)
    have F2 : MoF (up σ1 174 27 (i : Int)) σ0 := F.put (by decide)
    have e2 : up σ1 174 27 (i : Int) 174 28 = 0 := by rw [up_ni (by decide)]; exact e28
    have M2 := kn_wed H2 (h := (i : Int)) (c := 0) (by omega) up_s e2
    obtain ⟨v, hv⟩ : ∃ v : Int, v = wedF t i := ⟨_, rfl⟩
    rw [← hv] at st
    have hv2 : stv (wedC t (i : Int) 0) = v := hv.symm
    have nx : ∀ (σ2 : xS) (b' l' : Int) (w6 : MV), scanMin (wedF t) (i + 1) = (b', l') → KnX σ2 t t0 [27] → σ2 174 28 = 0 → MoF σ2 σ0 → Wx g y_Mo_wed Z K 23 [vR 174, vI n, vI s, vI b', vI l', vI ((i + 1 : Nat) : Int), w6] [] σ2 := fun σ2 b' l' w6 e H3 e3 F3 => ih (i + 1) σ2 b' l' w6 (by omega) e H3 e3 F3
    refine x_iload (dat d_Mo_wed 15 rfl) rfl ?_
    refine x_aload_n (dat d_Mo_wed 16 rfl) rfl rfl ?_
    refine x_iconst (dat d_Mo_wed 17 rfl) (by decide) ?_
    refine x_inv (As := [vI 3]) (dat d_Mo_wed 18 rfl) rfl c_Mo_of l_Mo_199 (by decide) (rv_mo (by decide +kernel)) rfl rfl (Nat.le_of_ble_eq_true rfl) ?_
    refine sp_Mo_of H.1.1 (by decide) (by decide) ?_
    show Wx g y_Mo_wed Z K 30 [vR 174, vI n, vI s, vI b, vI l, vI (i : Int), w6] [vI (t 3), vI (i : Int)] σ1
    refine x_icmp_ge (tgt := 72) (dat d_Mo_wed 19 rfl) (by decide) (fun c_30 => (by omega)) (fun c_30 => ?_)
    refine x_aload_n (dat d_Mo_wed 20 rfl) rfl rfl ?_
    refine x_iload (dat d_Mo_wed 21 rfl) rfl ?_
    refine x_puti (ji := 27) (x := (i : Int)) (dat d_Mo_wed 22 rfl) rfl f_Mo_235w (oi_mk (by decide +kernel)) (fun h => absurd h (by decide)) (by decide) ?_
    refine x_aload_n (dat d_Mo_wed 23 rfl) rfl rfl ?_
    refine x_inv (As := []) (dat d_Mo_wed 24 rfl) rfl c_Mo_starved l_Mo_370 (by decide) (rv_mo (by decide +kernel)) rfl rfl (Nat.le_of_ble_eq_true rfl) ?_
    refine sp_Kn_starved H2 M2 (Or.inl rfl) (fun σ2 R M3 H3 W3 => ?_)
    rw [hv2]
    have e3 : σ2 174 28 = 0 := by rw [W3.at (by decide)]; exact e2
    show Wx g y_Mo_wed Z K 43 [vR 174, vI n, vI s, vI b, vI l, vI (i : Int), w6] [vI v] σ2
    refine x_istore (L' := [vR 174, vI n, vI s, vI b, vI l, vI (i : Int), vI v]) (dat d_Mo_wed 25 rfl) (by decide) rfl rfl ?_
    refine x_iload_n (dat d_Mo_wed 26 rfl) rfl rfl ?_
    refine x_if_lt (tgt := 59) (dat d_Mo_wed 27 rfl) (by decide) (fun c_46 => ?_) (fun c_46 => ?_)
    · refine x_iload (dat d_Mo_wed 32 rfl) rfl ?_
      refine x_istore_n (L' := [vR 174, vI n, vI s, vI (i : Int), vI l, vI (i : Int), vI v]) (dat d_Mo_wed 33 rfl) rfl (by decide) rfl rfl ?_
      refine x_iload (dat d_Mo_wed 34 rfl) rfl ?_
      refine x_istore (L' := [vR 174, vI n, vI s, vI (i : Int), vI v, vI (i : Int), vI v]) (dat d_Mo_wed 35 rfl) (by decide) rfl rfl ?_
      refine x_iinc (v' := ((i + 1 : Nat) : Int)) (L' := [vR 174, vI n, vI s, vI (i : Int), vI v, vI ((i + 1 : Nat) : Int), vI v]) (dat d_Mo_wed 36 rfl) rfl (by decide) rfl (by omega) (by omega) rfl ?_
      refine x_goto (tgt := 23) (dat d_Mo_wed 37 rfl) (by decide) ?_
      first
      | exact nx _ _ _ _ (by rw [st, if_pos (by omega)]) H3 e3 (F2.trans W3.mo)
      | exact nx _ _ _ _ (by rw [st, if_neg (by omega)]) H3 e3 (F2.trans W3.mo)
    · refine x_iload (dat d_Mo_wed 28 rfl) rfl ?_
      refine x_iload (dat d_Mo_wed 29 rfl) rfl ?_
      refine x_icmp_lt (tgt := 59) (dat d_Mo_wed 30 rfl) (by decide) (fun c_53 => ?_) (fun c_53 => ?_)
      · refine x_iload (dat d_Mo_wed 32 rfl) rfl ?_
        refine x_istore_n (L' := [vR 174, vI n, vI s, vI (i : Int), vI l, vI (i : Int), vI v]) (dat d_Mo_wed 33 rfl) rfl (by decide) rfl rfl ?_
        refine x_iload (dat d_Mo_wed 34 rfl) rfl ?_
        refine x_istore (L' := [vR 174, vI n, vI s, vI (i : Int), vI v, vI (i : Int), vI v]) (dat d_Mo_wed 35 rfl) (by decide) rfl rfl ?_
        refine x_iinc (v' := ((i + 1 : Nat) : Int)) (L' := [vR 174, vI n, vI s, vI (i : Int), vI v, vI ((i + 1 : Nat) : Int), vI v]) (dat d_Mo_wed 36 rfl) rfl (by decide) rfl (by omega) (by omega) rfl ?_
        refine x_goto (tgt := 23) (dat d_Mo_wed 37 rfl) (by decide) ?_
        first
        | exact nx _ _ _ _ (by rw [st, if_pos (by omega)]) H3 e3 (F2.trans W3.mo)
        | exact nx _ _ _ _ (by rw [st, if_neg (by omega)]) H3 e3 (F2.trans W3.mo)
      · refine x_goto (tgt := 66) (dat d_Mo_wed 31 rfl) (by decide) ?_
        refine x_iinc (v' := ((i + 1 : Nat) : Int)) (L' := [vR 174, vI n, vI s, vI b, vI l, vI ((i + 1 : Nat) : Int), vI v]) (dat d_Mo_wed 36 rfl) rfl (by decide) rfl (by omega) (by omega) rfl ?_
        refine x_goto (tgt := 23) (dat d_Mo_wed 37 rfl) (by decide) ?_
        first
        | exact nx _ _ _ _ (by rw [st, if_pos (by omega)]) H3 e3 (F2.trans W3.mo)
        | exact nx _ _ _ _ (by rw [st, if_neg (by omega)]) H3 e3 (F2.trans W3.mo)
theorem sp_Mo_wed {s : Int} (A : MoA σ a) (k : ∀ (r : Int) (σ' : xS), atT a n (-1) (fun t r => wddA t s r) r → MoA σ' a → MoF σ' σ → K (some (vI r)) σ') : Mt g y_Mo_wed [vR 174, vI n, vI s] σ K := by
  refine x_enter 4 rfl rfl rfl (fun Z => ?_)
  show Wx g y_Mo_wed Z K 0 [vR 174, vI n, vI s, vU, vU, vU, vU] [] σ
  refine x_aload_n (dat d_Mo_wed 0 rfl) rfl rfl ?_
  refine x_iload_n (dat d_Mo_wed 1 rfl) rfl rfl ?_
  refine x_inv (As := [vI n]) (dat d_Mo_wed 2 rfl) rfl c_Mo_isTown l_Mo_205 (by decide) (rv_mo (by decide +kernel)) rfl rfl (Nat.le_of_ble_eq_true rfl) ?_
  refine sp_Mo_isTown A (fun σ1 t0 n0 n1 H P Z1 A1 F => ?_) (fun n01 => ?_)
  · show Wx g y_Mo_wed Z K 5 [vR 174, vI n, vI s, vU, vU, vU, vU] [vI 1] σ1
    refine x_if_ne (tgt := 10) (dat d_Mo_wed 3 rfl) (by decide) (fun c_5 => ?_) (fun h => absurd h (by decide))
    refine x_iconst (dat d_Mo_wed 6 rfl) (by decide) ?_
    refine x_istore_n (L' := [vR 174, vI n, vI s, vI (-1), vU, vU, vU]) (dat d_Mo_wed 7 rfl) rfl (by decide) rfl rfl ?_
    refine x_iconst (dat d_Mo_wed 8 rfl) (by decide) ?_
    refine x_istore (L' := [vR 174, vI n, vI s, vI (-1), vI 0, vU, vU]) (dat d_Mo_wed 9 rfl) (by decide) rfl rfl ?_
    refine x_aload_n (dat d_Mo_wed 10 rfl) rfl rfl ?_
    refine x_iconst (dat d_Mo_wed 11 rfl) (by decide) ?_
    refine x_puti (ji := 28) (x := (0)) (dat d_Mo_wed 12 rfl) rfl f_Mo_265w (oi_mk (by decide +kernel)) (fun h => absurd h (by decide)) (by decide) ?_
    refine x_iconst (dat d_Mo_wed 13 rfl) (by decide) ?_
    refine x_istore (L' := [vR 174, vI n, vI s, vI (-1), vI 0, vI 0, vU]) (dat d_Mo_wed 14 rfl) (by decide) rfl rfl ?_
    refine lp_Mo_wed (σ0 := σ) (t := tw a n) (t0 := t0) (fun r σ' hr F2 => ?_) (tw a n 3).toNat 0 _ (-1) 0 _ (by omega) rfl ((KnX.pln H P Z1 _).put (by decide)) up_s (F.put (by decide))
    exact k _ σ' ⟨fun z => absurd ⟨n0, n1⟩ z, fun _ _ => hr⟩ (A.same F2) F2
  · show Wx g y_Mo_wed Z K 5 [vR 174, vI n, vI s, vU, vU, vU, vU] [vI 0] σ
    refine x_if_ne (tgt := 10) (dat d_Mo_wed 3 rfl) (by decide) (fun h => absurd h (by decide)) (fun c_5 => ?_)
    refine x_iconst (dat d_Mo_wed 4 rfl) (by decide) ?_
    refine x_iret (dat d_Mo_wed 5 rfl) rfl ?_
    exact k _ σ ⟨fun _ => rfl, fun z1 z2 => absurd ⟨z1, z2⟩ n01⟩ A (MoF.rfl σ)
end
