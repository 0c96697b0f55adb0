/-! the twin's answers: aid, hunger, tunnel */ -/
section
variable {g : xG} {K : Option MV → xS → Prop} {σ σ0 : xS} {t : Int → Int} {t0 : Int} {a : Int → Int} {n : Int} {C : Cf}
theorem lp_Mo_aid {Z : xZ} {p : Int} (p0 : 0 ≤ p) (p1 : p < t 6) (k : ∀ (r : Int) (σ' : xS), FirstH (fun n => stv (mLoaf (cfg t) p 0 n) = 0) 31 r → MoF σ' σ0 → K (some (vI r)) σ') : ∀ (d i : Nat) (σ1 : xS), i + d = 31 → (∀ j : Nat, j < i → ¬ stv (mLoaf (cfg t) p 0 j) = 0) → KnX σ1 t t0 [24] → σ1 174 24 = 0 → σ1 174 25 = p → σ1 174 26 = (i : Int) → MoF σ1 σ0 → Wx g y_Mo_aid Z K 33 [vR 174, vI n, vI p] [] σ1 := by
  intro d
  induction d with
  | zero =>
    intro i σ1 hd hj H e1 e2 e3 F
    refine x_aload_n (dat d_Mo_aid 19 rfl) rfl rfl ?_
    refine x_geti (ji := 26) (v := (i : Int)) (dat d_Mo_aid 20 rfl) rfl f_Mo_323 (oi_mk (by decide +kernel)) (e3) ?_
    refine x_bipush (dat d_Mo_aid 21 rfl) (by decide) (by decide) ?_
    refine x_icmp_gt (tgt := 67) (dat d_Mo_aid 22 rfl) (by decide) (fun c_39 => ?_) (fun c_39 => (by omega))
    refine x_iconst (dat d_Mo_aid 36 rfl) (by decide) ?_
    refine x_iret (dat d_Mo_aid 37 rfl) rfl ?_
    exact k _ σ1 (Or.inl ⟨rfl, fun j hj2 => hj j (by omega)⟩) F
  | succ d ih =>
    intro i σ1 hd hj H e1 e2 e3 F
    have M := kn_loaf H (p := p) (h := 0) (m := (i : Int)) (by decide) (by omega) (by omega) e1 e2 e3
    obtain ⟨v, hv⟩ : ∃ v : Int, v = stv (mLoaf (cfg t) p 0 (i : Int)) := ⟨_, rfl⟩
    refine x_aload_n (dat d_Mo_aid 19 rfl) rfl rfl ?_
    refine x_geti (ji := 26) (v := (i : Int)) (dat d_Mo_aid 20 rfl) rfl f_Mo_323 (oi_mk (by decide +kernel)) (e3) ?_
    refine x_bipush (dat d_Mo_aid 21 rfl) (by decide) (by decide) ?_
    refine x_icmp_gt (tgt := 67) (dat d_Mo_aid 22 rfl) (by decide) (fun c_39 => (by omega)) (fun c_39 => ?_)
    refine x_aload_n (dat d_Mo_aid 23 rfl) rfl rfl ?_
    refine x_inv (As := []) (dat d_Mo_aid 24 rfl) rfl c_Mo_starved l_Mo_370 (by decide) (rv_mo (by decide +kernel)) rfl rfl (Nat.le_of_ble_eq_true rfl) ?_
    refine sp_Kn_starved H M (Or.inr ⟨p0, p1⟩) (fun σ2 R M2 H2 W2 => ?_)
    rw [← hv]
    have f3 : σ2 174 26 = (i : Int) := by rw [W2.at (by decide)]; exact e3
    show Wx g y_Mo_aid Z K 46 [vR 174, vI n, vI p] [vI v] σ2
    refine x_if_ne (tgt := 54) (dat d_Mo_aid 25 rfl) (by decide) (fun c_46 => ?_) (fun c_46 => ?_)
    · refine x_aload_n (dat d_Mo_aid 29 rfl) rfl rfl ?_
      refine x_dup (dat d_Mo_aid 30 rfl) rfl ?_
      refine x_geti (ji := 26) (v := (i : Int)) (dat d_Mo_aid 31 rfl) rfl f_Mo_323 (oi_mk (by decide +kernel)) (f3) ?_
      refine x_iconst (dat d_Mo_aid 32 rfl) (by decide) ?_
      refine x_iadd (v := ((i + 1 : Nat) : Int)) (dat d_Mo_aid 33 rfl) (by omega) (by omega) ?_
      refine x_puti (ji := 26) (x := (((i + 1 : Nat) : Int))) (dat d_Mo_aid 34 rfl) rfl f_Mo_323w (oi_mk (by decide +kernel)) (fun h => absurd h (by decide)) (by decide) ?_
      refine x_goto (tgt := 33) (dat d_Mo_aid 35 rfl) (by decide) ?_
      refine ih (i + 1) _ (by omega) (fun j hj2 => ?_) (H2.put (by decide)) ?_ ?_ up_s ((F.trans W2.mo).put (by decide))
      · by_cases z : j = i
        · rw [z, ← hv]; omega
        · exact hj j (by omega)
      · rw [up_ni (by decide), W2.at (by decide)]; exact e1
      · rw [up_ni (by decide), W2.at (by decide)]; exact e2
    · refine x_aload_n (dat d_Mo_aid 26 rfl) rfl rfl ?_
      refine x_geti (ji := 26) (v := (i : Int)) (dat d_Mo_aid 27 rfl) rfl f_Mo_323 (oi_mk (by decide +kernel)) (f3) ?_
      refine x_iret (dat d_Mo_aid 28 rfl) rfl ?_
      exact k _ σ2 (Or.inr ⟨i, by omega, rfl, hv.symm.trans (show v = 0 by omega), hj⟩) (F.trans W2.mo)
theorem sp_Mo_aid {p : Int} (A : MoA σ a) (k : ∀ (r : Int) (σ' : xS), atT a n (-1) (fun t r => aidA t p r) r → MoA σ' a → MoF σ' σ → K (some (vI r)) σ') : Mt g y_Mo_aid [vR 174, vI n, vI p] σ K := by
  refine x_enter 0 rfl rfl rfl (fun Z => ?_)
  show Wx g y_Mo_aid Z K 0 [vR 174, vI n, vI p] [] σ
  refine x_aload_n (dat d_Mo_aid 0 rfl) rfl rfl ?_
  refine x_iload_n (dat d_Mo_aid 1 rfl) rfl rfl ?_
  refine x_inv (As := [vI n]) (dat d_Mo_aid 2 rfl) rfl c_Mo_isTown l_Mo_205 (by decide) (rv_mo (by decide +kernel)) rfl rfl (Nat.le_of_ble_eq_true rfl) ?_
  refine sp_Mo_isTown A (fun σ1 t0 n0 n1 H P Z1 A1 F => ?_) (fun n01 => ?_)
  · show Wx g y_Mo_aid Z K 5 [vR 174, vI n, vI p] [vI 1] σ1
    refine x_if_eq (tgt := 16) (dat d_Mo_aid 3 rfl) (by decide) (fun h => absurd h (by decide)) (fun c_5 => ?_)
    refine x_aload_n (dat d_Mo_aid 4 rfl) rfl rfl ?_
    refine x_iload_n (dat d_Mo_aid 5 rfl) rfl rfl ?_
    refine x_inv (As := [vI p]) (dat d_Mo_aid 6 rfl) rfl c_Mo_isPerson l_Mo_208 (by decide) (rv_mo (by decide +kernel)) rfl rfl (Nat.le_of_ble_eq_true rfl) ?_
    refine sp_Mo_isPerson H.1.1 H.1.2 (fun p0 p1 => ?_) (fun p01 => ?_)
    · show Wx g y_Mo_aid Z K 13 [vR 174, vI n, vI p] [vI 1] σ1
      refine x_if_ne (tgt := 18) (dat d_Mo_aid 7 rfl) (by decide) (fun c_13 => ?_) (fun h => absurd h (by decide))
      refine x_aload_n (dat d_Mo_aid 10 rfl) rfl rfl ?_
      refine x_iload_n (dat d_Mo_aid 11 rfl) rfl rfl ?_
      refine x_puti (ji := 25) (x := (p)) (dat d_Mo_aid 12 rfl) rfl f_Mo_320w (oi_mk (by decide +kernel)) (fun h => absurd h (by decide)) (by decide) ?_
      refine x_aload_n (dat d_Mo_aid 13 rfl) rfl rfl ?_
      refine x_iconst (dat d_Mo_aid 14 rfl) (by decide) ?_
      refine x_puti (ji := 24) (x := (0)) (dat d_Mo_aid 15 rfl) rfl f_Mo_232w (oi_mk (by decide +kernel)) (fun h => absurd h (by decide)) (by decide) ?_
      refine x_aload_n (dat d_Mo_aid 16 rfl) rfl rfl ?_
      refine x_iconst (dat d_Mo_aid 17 rfl) (by decide) ?_
      refine x_puti (ji := 26) (x := (0)) (dat d_Mo_aid 18 rfl) rfl f_Mo_323w (oi_mk (by decide +kernel)) (fun h => absurd h (by decide)) (by decide) ?_
      refine lp_Mo_aid (σ0 := σ) (t := tw a n) (t0 := t0) p0 p1 (fun r σ' hr F2 => ?_) 31 0 _ (by omega) (fun j hj => by omega) ((((KnX.pln H P Z1 _).put (by decide)).put (by decide)).put (by decide)) (by rw [up_ni (by decide), up_s]) (by rw [up_ni (by decide), up_ni (by decide), up_s]) up_s (((F.put (by decide)).put (by decide)).put (by decide))
      refine k _ σ' ⟨fun z => absurd ⟨n0, n1⟩ z, fun _ _ => ?_⟩ (A.same F2) F2
      show aidA (tw a n) p r
      unfold aidA
      rw [if_neg (show ¬ ¬ (0 ≤ p ∧ p < tw a n 6) from fun z => z ⟨p0, p1⟩)]
      exact hr
    · show Wx g y_Mo_aid Z K 13 [vR 174, vI n, vI p] [vI 0] σ1
      refine x_if_ne (tgt := 18) (dat d_Mo_aid 7 rfl) (by decide) (fun h => absurd h (by decide)) (fun c_13 => ?_)
      refine x_iconst (dat d_Mo_aid 8 rfl) (by decide) ?_
      refine x_iret (dat d_Mo_aid 9 rfl) rfl ?_
      first
      | exact k _ σ ⟨fun _ => rfl, fun z1 z2 => absurd ⟨z1, z2⟩ n01⟩ A (MoF.rfl σ)
      | exact k _ σ1 ⟨fun _ => rfl, fun _ _ => by show aidA (tw a n) p (-1); unfold aidA; rw [if_pos p01]⟩ A1 F
  · show Wx g y_Mo_aid Z K 5 [vR 174, vI n, vI p] [vI 0] σ
    refine x_if_eq (tgt := 16) (dat d_Mo_aid 3 rfl) (by decide) (fun c_5 => ?_) (fun h => absurd h (by decide))
    refine x_iconst (dat d_Mo_aid 8 rfl) (by decide) ?_
    refine x_iret (dat d_Mo_aid 9 rfl) rfl ?_
    first
    | exact k _ σ ⟨fun _ => rfl, fun z1 z2 => absurd ⟨z1, z2⟩ n01⟩ A (MoF.rfl σ)
    | exact k _ σ1 ⟨fun _ => rfl, fun _ _ => by show aidA (tw a n) p (-1); unfold aidA; rw [if_pos p01]⟩ A1 F
theorem lp_Mo_ev {Z : xZ} {s : Int} (k : ∀ (r : Int) (σ' : xS), FirstH (fun n => stv (mS (cfg t) 4 ((n : Int) + 1)) = 0) 24 r → MoF σ' σ0 → K (some (vI (if r < 0 then -1 else r + 1))) σ') : ∀ (d i : Nat) (σ1 : xS), i + d = 24 → (∀ j : Nat, j < i → ¬ stv (mS (cfg t) 4 ((j : Int) + 1)) = 0) → KnX σ1 t t0 [31] → σ1 174 31 = (i : Int) + 1 → MoF σ1 σ0 → Wx g y_Mo_hunger Z K 19 [vR 174, vI n, vI s] [] σ1 := by
  intro d
  induction d with
  | zero =>
    intro i σ1 hd hj H e1 F
    refine x_aload_n (dat d_Mo_hunger 11 rfl) rfl rfl ?_
    refine x_geti (ji := 31) (v := (i : Int) + 1) (dat d_Mo_hunger 12 rfl) rfl f_Mo_241 (oi_mk (by decide +kernel)) (e1) ?_
    refine x_bipush (dat d_Mo_hunger 13 rfl) (by decide) (by decide) ?_
    refine x_icmp_gt (tgt := 53) (dat d_Mo_hunger 14 rfl) (by decide) (fun c_25 => ?_) (fun c_25 => (by omega))
    refine x_iconst (dat d_Mo_hunger 28 rfl) (by decide) ?_
    refine x_iret (dat d_Mo_hunger 29 rfl) rfl ?_
    exact k (-1) σ1 (Or.inl ⟨rfl, fun j hj2 => hj j (by omega)⟩) F
  | succ d ih =>
    intro i σ1 hd hj H e1 F
    have M := kn_ev H (m := (i : Int) + 1) (by omega) (by omega) e1
    obtain ⟨v, hv⟩ : ∃ v : Int, v = stv (mS (cfg t) 4 ((i : Int) + 1)) := ⟨_, rfl⟩
    have kk : v = 0 → ∀ σ2 : xS, MoF σ2 σ0 → K (some (vI ((i : Int) + 1))) σ2 := fun z σ2 F2 => by
      have := k (i : Int) σ2 (Or.inr ⟨i, by omega, rfl, hv.symm.trans z, hj⟩) F2
      rw [if_neg (by omega)] at this
      exact this
    refine x_aload_n (dat d_Mo_hunger 11 rfl) rfl rfl ?_
    refine x_geti (ji := 31) (v := (i : Int) + 1) (dat d_Mo_hunger 12 rfl) rfl f_Mo_241 (oi_mk (by decide +kernel)) (e1) ?_
    refine x_bipush (dat d_Mo_hunger 13 rfl) (by decide) (by decide) ?_
    refine x_icmp_gt (tgt := 53) (dat d_Mo_hunger 14 rfl) (by decide) (fun c_25 => (by omega)) (fun c_25 => ?_)
    refine x_aload_n (dat d_Mo_hunger 15 rfl) rfl rfl ?_
    refine x_inv (As := []) (dat d_Mo_hunger 16 rfl) rfl c_Mo_starved l_Mo_370 (by decide) (rv_mo (by decide +kernel)) rfl rfl (Nat.le_of_ble_eq_true rfl) ?_
    refine sp_Kn_starved H M (Or.inl rfl) (fun σ2 R M2 H2 W2 => ?_)
    rw [← hv]
    have f3 : σ2 174 31 = (i : Int) + 1 := by rw [W2.at (by decide)]; exact e1
    show Wx g y_Mo_hunger Z K 32 [vR 174, vI n, vI s] [vI v] σ2
    refine x_if_ne (tgt := 40) (dat d_Mo_hunger 17 rfl) (by decide) (fun c_32 => ?_) (fun c_32 => ?_)
    · refine x_aload_n (dat d_Mo_hunger 21 rfl) rfl rfl ?_
      refine x_dup (dat d_Mo_hunger 22 rfl) rfl ?_
      refine x_geti (ji := 31) (v := (i : Int) + 1) (dat d_Mo_hunger 23 rfl) rfl f_Mo_241 (oi_mk (by decide +kernel)) (f3) ?_
      refine x_iconst (dat d_Mo_hunger 24 rfl) (by decide) ?_
      refine x_iadd (v := ((i + 1 : Nat) : Int) + 1) (dat d_Mo_hunger 25 rfl) (by omega) (by omega) ?_
      refine x_puti (ji := 31) (x := (((i + 1 : Nat) : Int) + 1)) (dat d_Mo_hunger 26 rfl) rfl f_Mo_241w (oi_mk (by decide +kernel)) (fun h => absurd h (by decide)) (by decide) ?_
      refine x_goto (tgt := 19) (dat d_Mo_hunger 27 rfl) (by decide) ?_
      refine ih (i + 1) _ (by omega) (fun j hj2 => ?_) (H2.put (by decide)) up_s ((F.trans W2.mo).put (by decide))
      by_cases z : j = i
      · rw [z, ← hv]; omega
      · exact hj j (by omega)
    · refine x_aload_n (dat d_Mo_hunger 18 rfl) rfl rfl ?_
      refine x_geti (ji := 31) (v := (i : Int) + 1) (dat d_Mo_hunger 19 rfl) rfl f_Mo_241 (oi_mk (by decide +kernel)) (f3) ?_
      refine x_iret (dat d_Mo_hunger 20 rfl) rfl ?_
      exact kk (by omega) σ2 (F.trans W2.mo)
theorem lp_Mo_nd {Z : xZ} {s : Int} (k : ∀ (r : Int) (σ' : xS), FirstH (fun n => stv (mS (cfg t) 3 (9 - (n : Int))) = 0) 10 r → MoF σ' σ0 → K (some (vI (if r < 0 then -1 else 9 - r))) σ') : ∀ (d i : Nat) (σ1 : xS), i + d = 10 → (∀ j : Nat, j < i → ¬ stv (mS (cfg t) 3 (9 - (j : Int))) = 0) → KnX σ1 t t0 [30] → σ1 174 30 = 9 - (i : Int) → MoF σ1 σ0 → Wx g y_Mo_hunger Z K 61 [vR 174, vI n, vI s] [] σ1 := by
  intro d
  induction d with
  | zero =>
    intro i σ1 hd hj H e1 F
    refine x_aload_n (dat d_Mo_hunger 33 rfl) rfl rfl ?_
    refine x_geti (ji := 30) (v := 9 - (i : Int)) (dat d_Mo_hunger 34 rfl) rfl f_Mo_238 (oi_mk (by decide +kernel)) (e1) ?_
    refine x_if_lt (tgt := 93) (dat d_Mo_hunger 35 rfl) (by decide) (fun c_65 => ?_) (fun c_65 => (by omega))
    refine x_iconst (dat d_Mo_hunger 49 rfl) (by decide) ?_
    refine x_iret (dat d_Mo_hunger 50 rfl) rfl ?_
    exact k (-1) σ1 (Or.inl ⟨rfl, fun j hj2 => hj j (by omega)⟩) F
  | succ d ih =>
    intro i σ1 hd hj H e1 F
    have M := kn_need H (m := 9 - (i : Int)) (by omega) (by omega) e1
    obtain ⟨v, hv⟩ : ∃ v : Int, v = stv (mS (cfg t) 3 (9 - (i : Int))) := ⟨_, rfl⟩
    have kk : v = 0 → ∀ σ2 : xS, MoF σ2 σ0 → K (some (vI (9 - (i : Int)))) σ2 := fun z σ2 F2 => by
      have := k (i : Int) σ2 (Or.inr ⟨i, by omega, rfl, hv.symm.trans z, hj⟩) F2
      rw [if_neg (by omega)] at this
      exact this
    refine x_aload_n (dat d_Mo_hunger 33 rfl) rfl rfl ?_
    refine x_geti (ji := 30) (v := 9 - (i : Int)) (dat d_Mo_hunger 34 rfl) rfl f_Mo_238 (oi_mk (by decide +kernel)) (e1) ?_
    refine x_if_lt (tgt := 93) (dat d_Mo_hunger 35 rfl) (by decide) (fun c_65 => (by omega)) (fun c_65 => ?_)
    refine x_aload_n (dat d_Mo_hunger 36 rfl) rfl rfl ?_
    refine x_inv (As := []) (dat d_Mo_hunger 37 rfl) rfl c_Mo_starved l_Mo_370 (by decide) (rv_mo (by decide +kernel)) rfl rfl (Nat.le_of_ble_eq_true rfl) ?_
    refine sp_Kn_starved H M (Or.inl rfl) (fun σ2 R M2 H2 W2 => ?_)
    rw [← hv]
    have f3 : σ2 174 30 = 9 - (i : Int) := by rw [W2.at (by decide)]; exact e1
    show Wx g y_Mo_hunger Z K 72 [vR 174, vI n, vI s] [vI v] σ2
    refine x_if_ne (tgt := 80) (dat d_Mo_hunger 38 rfl) (by decide) (fun c_72 => ?_) (fun c_72 => ?_)
    · refine x_aload_n (dat d_Mo_hunger 42 rfl) rfl rfl ?_
      refine x_dup (dat d_Mo_hunger 43 rfl) rfl ?_
      refine x_geti (ji := 30) (v := 9 - (i : Int)) (dat d_Mo_hunger 44 rfl) rfl f_Mo_238 (oi_mk (by decide +kernel)) (f3) ?_
      refine x_iconst (dat d_Mo_hunger 45 rfl) (by decide) ?_
      refine x_isub (v := 9 - ((i + 1 : Nat) : Int)) (dat d_Mo_hunger 46 rfl) (by omega) (by omega) ?_
      refine x_puti (ji := 30) (x := (9 - ((i + 1 : Nat) : Int))) (dat d_Mo_hunger 47 rfl) rfl f_Mo_238w (oi_mk (by decide +kernel)) (fun h => absurd h (by decide)) (by decide) ?_
      refine x_goto (tgt := 61) (dat d_Mo_hunger 48 rfl) (by decide) ?_
      refine ih (i + 1) _ (by omega) (fun j hj2 => ?_) (H2.put (by decide)) up_s ((F.trans W2.mo).put (by decide))
      by_cases z : j = i
      · rw [z, ← hv]; omega
      · exact hj j (by omega)
    · refine x_aload_n (dat d_Mo_hunger 39 rfl) rfl rfl ?_
      refine x_geti (ji := 30) (v := 9 - (i : Int)) (dat d_Mo_hunger 40 rfl) rfl f_Mo_238 (oi_mk (by decide +kernel)) (f3) ?_
      refine x_iret (dat d_Mo_hunger 41 rfl) rfl ?_
      exact kk (by omega) σ2 (F.trans W2.mo)
theorem sp_Mo_hunger {s : Int} (A : MoA σ a) (k : ∀ (r : Int) (σ' : xS), atT a n (-1) (fun t r => hngA t s r) r → MoA σ' a → MoF σ' σ → K (some (vI r)) σ') : Mt g y_Mo_hunger [vR 174, vI n, vI s] σ K := by
  refine x_enter 0 rfl rfl rfl (fun Z => ?_)
  show Wx g y_Mo_hunger Z K 0 [vR 174, vI n, vI s] [] σ
  refine x_aload_n (dat d_Mo_hunger 0 rfl) rfl rfl ?_
  refine x_iload_n (dat d_Mo_hunger 1 rfl) rfl rfl ?_
  refine x_inv (As := [vI n]) (dat d_Mo_hunger 2 rfl) rfl c_Mo_isTown l_Mo_205 (by decide) (rv_mo (by decide +kernel)) rfl rfl (Nat.le_of_ble_eq_true rfl) ?_
  refine sp_Mo_isTown A (fun σ1 t0 n0 n1 H P Z1 A1 F => ?_) (fun n01 => ?_)
  · show Wx g y_Mo_hunger Z K 5 [vR 174, vI n, vI s] [vI 1] σ1
    refine x_if_ne (tgt := 10) (dat d_Mo_hunger 3 rfl) (by decide) (fun c_5 => ?_) (fun h => absurd h (by decide))
    refine x_iload_n (dat d_Mo_hunger 6 rfl) rfl rfl ?_
    refine x_if_eq (tgt := 55) (dat d_Mo_hunger 7 rfl) (by decide) (fun c_11 => ?_) (fun c_11 => ?_)
    · refine x_aload_n (dat d_Mo_hunger 30 rfl) rfl rfl ?_
      refine x_bipush (dat d_Mo_hunger 31 rfl) (by decide) (by decide) ?_
      refine x_puti (ji := 30) (x := (9)) (dat d_Mo_hunger 32 rfl) rfl f_Mo_238w (oi_mk (by decide +kernel)) (fun h => absurd h (by decide)) (by decide) ?_
      refine lp_Mo_nd (σ0 := σ) (t := tw a n) (t0 := t0) (fun r σ' hr F2 => ?_) 10 0 _ (by omega) (fun j hj => by omega) ((KnX.pln H P Z1 _).put (by decide)) up_s (F.put (by decide))
      refine k _ σ' ⟨fun z => absurd ⟨n0, n1⟩ z, fun _ _ => ?_⟩ (A.same F2) F2
      show hngA (tw a n) s _
      unfold hngA
      rw [if_pos (by omega)]
      exact ⟨r, hr, rfl⟩
    · refine x_aload_n (dat d_Mo_hunger 8 rfl) rfl rfl ?_
      refine x_iconst (dat d_Mo_hunger 9 rfl) (by decide) ?_
      refine x_puti (ji := 31) (x := (1)) (dat d_Mo_hunger 10 rfl) rfl f_Mo_241w (oi_mk (by decide +kernel)) (fun h => absurd h (by decide)) (by decide) ?_
      refine lp_Mo_ev (σ0 := σ) (t := tw a n) (t0 := t0) (fun r σ' hr F2 => ?_) 24 0 _ (by omega) (fun j hj => by omega) ((KnX.pln H P Z1 _).put (by decide)) up_s (F.put (by decide))
      refine k _ σ' ⟨fun z => absurd ⟨n0, n1⟩ z, fun _ _ => ?_⟩ (A.same F2) F2
      show hngA (tw a n) s _
      unfold hngA
      rw [if_neg (by omega)]
      exact ⟨r, hr, rfl⟩
  · show Wx g y_Mo_hunger Z K 5 [vR 174, vI n, vI s] [vI 0] σ
    refine x_if_ne (tgt := 10) (dat d_Mo_hunger 3 rfl) (by decide) (fun h => absurd h (by decide)) (fun c_5 => ?_)
    refine x_iconst (dat d_Mo_hunger 4 rfl) (by decide) ?_
    refine x_iret (dat d_Mo_hunger 5 rfl) rfl ?_
    exact k _ σ ⟨fun _ => rfl, fun z1 z2 => absurd ⟨z1, z2⟩ n01⟩ A (MoF.rfl σ)
theorem scanMax_s {f : Nat → Int} {i : Nat} {b l : Int} (h : scanMax f i = (b, l)) : scanMax f (i + 1) = if b = -1 ∨ l < f i then ((i : Int), f i) else (b, l) := by
  show (if (scanMax f i).1 = -1 ∨ (scanMax f i).2 < f i then ((i : Int), f i) else scanMax f i) = _
  rw [h]
theorem scanMax_b {f : Nat → Int} {i : Nat} {b l : Int} (h : scanMax f i = (b, l)) : (i = 0 ∧ b = -1) ∨ (1 ≤ i ∧ 0 ≤ b ∧ b < i) := by
  have := scanMax_in f i
  rw [h] at this
  exact this
theorem lp_Mo_tunnel {Z : xZ} {h m s : Int} {hn : Nat} (hh : (hn : Int) = h) (m0 : 0 ≤ m) (m1 : m ≤ 30) (k : ∀ (r : Int) (σ' : xS), (r = if s = 0 then (scanMax (tunF t hn m) (t 6).toNat).1 else (scanMax (tunF t hn m) (t 6).toNat).2) → MoF σ' σ0 → K (some (vI r)) σ') : ∀ (d i : Nat) (σ1 : xS) (b l : Int) (w9 : MV), i + d = (t 6).toNat → scanMax (tunF t hn m) i = (b, l) → KnX σ1 t t0 [24] → σ1 174 24 = h → σ1 174 26 = m → MoF σ1 σ0 → Wx g y_Mo_tunnel Z K 71 [vR 174, vI n, vI h, vI m, vI s, vI (stv (cfg t)), vI b, vI l, vI (i : Int), w9] [] σ1 := by
  intro d
  induction d with
  | zero =>
    intro i σ1 b l w9 hd hb H e1 e2 F
    have t6 := H.1.2.2.2.2.2.2.2.1
    have e : i = (t 6).toNat := by omega
    rw [e] at hb
    rw [hb] at k
    dsimp only at k
    refine x_iload (dat d_Mo_tunnel 37 rfl) rfl ?_
    refine x_aload_n (dat d_Mo_tunnel 38 rfl) rfl rfl ?_
    refine x_inv (As := []) (dat d_Mo_tunnel 39 rfl) rfl c_Mo_people l_Mo_202 (by decide) (rv_mo (by decide +kernel)) rfl rfl (Nat.le_of_ble_eq_true rfl) ?_
    refine sp_Mo_people H.1.1 ?_
    show Wx g y_Mo_tunnel Z K 77 [vR 174, vI n, vI h, vI m, vI s, vI (stv (cfg t)), vI b, vI l, vI (i : Int), w9] [vI (t 6), vI (i : Int)] σ1
    refine x_icmp_ge (tgt := 124) (dat d_Mo_tunnel 40 rfl) (by decide) (fun c_77 => ?_) (fun c_77 => (by omega))
    refine x_iload (dat d_Mo_tunnel 61 rfl) rfl ?_
    refine x_if_eq (tgt := 134) (dat d_Mo_tunnel 62 rfl) (by decide) (fun c_126 => ?_) (fun c_126 => ?_)
    · refine x_iload (dat d_Mo_tunnel 65 rfl) rfl ?_
      refine x_iret (dat d_Mo_tunnel 66 rfl) rfl ?_
      first
      | exact k _ σ1 (by rw [if_pos (by omega)]) F
      | exact k _ σ1 (by rw [if_neg (by omega)]) F
    · refine x_iload (dat d_Mo_tunnel 63 rfl) rfl ?_
      refine x_goto (tgt := 136) (dat d_Mo_tunnel 64 rfl) (by decide) ?_
      refine x_iret (dat d_Mo_tunnel 66 rfl) rfl ?_
      first
      | exact k _ σ1 (by rw [if_pos (by omega)]) F
      | exact k _ σ1 (by rw [if_neg (by omega)]) F
  | succ d ih =>
    intro i σ1 b l w9 hd hb H e1 e2 F
    have t6 := H.1.2.2.2.2.2.2.2.1
    have fi := scanMax_b hb
    have st := scanMax_s hb
    have H2 : KnX (up σ1 174 25 (i : Int)) t t0 [24] := H.put (by decide)
    have F2 : MoF (up σ1 174 25 (i : Int)) σ0 := F.put (by decide)
    have M2 := kn_loaf H2 (p := (i : Int)) (h := h) (m := m) (by omega) m0 m1 (by rw [up_ni (by decide)]; exact e1) up_s (by rw [up_ni (by decide)]; exact e2)
    have sb1 := stv_bd (cfg_ok H.1.2)
    have sb2 := stv_bd M2.2.1.2
    obtain ⟨u, hu⟩ : ∃ u : Int, u = stv (mLoaf (cfg t) (i : Int) h m) := ⟨_, rfl⟩
    have eu : tunF t hn m i = stv (cfg t) - u := by unfold tunF; rw [hh, hu]
    rw [eu] at st
    rw [← hu] at sb2
    generalize hq : stv (cfg t) = q at st sb1
    have nx : ∀ (σ2 : xS) (b' l' : Int) (w9 : MV), scanMax (tunF t hn m) (i + 1) = (b', l') → KnX σ2 t t0 [24] → σ2 174 24 = h → σ2 174 26 = m → MoF σ2 σ0 → Wx g y_Mo_tunnel Z K 71 [vR 174, vI n, vI h, vI m, vI s, vI q, vI b', vI l', vI ((i + 1 : Nat) : Int), w9] [] σ2 := fun σ2 b' l' w9 e H3 e3 e4 F3 => by rw [← hq]; exact ih (i + 1) σ2 b' l' w9 (by omega) e H3 e3 e4 F3
    refine x_iload (dat d_Mo_tunnel 37 rfl) rfl ?_
    refine x_aload_n (dat d_Mo_tunnel 38 rfl) rfl rfl ?_
    refine x_inv (As := []) (dat d_Mo_tunnel 39 rfl) rfl c_Mo_people l_Mo_202 (by decide) (rv_mo (by decide +kernel)) rfl rfl (Nat.le_of_ble_eq_true rfl) ?_
    refine sp_Mo_people H.1.1 ?_
    show Wx g y_Mo_tunnel Z K 77 [vR 174, vI n, vI h, vI m, vI s, vI q, vI b, vI l, vI (i : Int), w9] [vI (t 6), vI (i : Int)] σ1
    refine x_icmp_ge (tgt := 124) (dat d_Mo_tunnel 40 rfl) (by decide) (fun c_77 => (by omega)) (fun c_77 => ?_)
    refine x_aload_n (dat d_Mo_tunnel 41 rfl) rfl rfl ?_
    refine x_iload (dat d_Mo_tunnel 42 rfl) rfl ?_
    refine x_puti (ji := 25) (x := (i : Int)) (dat d_Mo_tunnel 43 rfl) rfl f_Mo_320w (oi_mk (by decide +kernel)) (fun h => absurd h (by decide)) (by decide) ?_
    refine x_iload (dat d_Mo_tunnel 44 rfl) rfl ?_
    refine x_aload_n (dat d_Mo_tunnel 45 rfl) rfl rfl ?_
    refine x_inv (As := []) (dat d_Mo_tunnel 46 rfl) rfl c_Mo_starved l_Mo_370 (by decide) (rv_mo (by decide +kernel)) rfl rfl (Nat.le_of_ble_eq_true rfl) ?_
    refine sp_Kn_starved H2 M2 (Or.inr ⟨by show 0 ≤ (i : Int); omega, by show (i : Int) < t 6; omega⟩) (fun σ2 R M3 H3 W3 => ?_)
    rw [← hu]
    have e3 : σ2 174 24 = h := by rw [W3.at (by decide), up_ni (by decide)]; exact e1
    have e4 : σ2 174 26 = m := by rw [W3.at (by decide), up_ni (by decide)]; exact e2
    show Wx g y_Mo_tunnel Z K 92 [vR 174, vI n, vI h, vI m, vI s, vI q, vI b, vI l, vI (i : Int), w9] [vI u, vI q] σ2
    refine x_isub (v := q - u) (dat d_Mo_tunnel 47 rfl) rfl (by omega) ?_
    refine x_istore (L' := [vR 174, vI n, vI h, vI m, vI s, vI q, vI b, vI l, vI (i : Int), vI (q - u)]) (dat d_Mo_tunnel 48 rfl) (by decide) rfl rfl ?_
    refine x_iload (dat d_Mo_tunnel 49 rfl) rfl ?_
    refine x_if_lt (tgt := 110) (dat d_Mo_tunnel 50 rfl) (by decide) (fun c_97 => ?_) (fun c_97 => ?_)
    · refine x_iload (dat d_Mo_tunnel 55 rfl) rfl ?_
      refine x_istore (L' := [vR 174, vI n, vI h, vI m, vI s, vI q, vI (i : Int), vI l, vI (i : Int), vI (q - u)]) (dat d_Mo_tunnel 56 rfl) (by decide) rfl rfl ?_
      refine x_iload (dat d_Mo_tunnel 57 rfl) rfl ?_
      refine x_istore (L' := [vR 174, vI n, vI h, vI m, vI s, vI q, vI (i : Int), vI (q - u), vI (i : Int), vI (q - u)]) (dat d_Mo_tunnel 58 rfl) (by decide) rfl rfl ?_
      refine x_iinc (v' := ((i + 1 : Nat) : Int)) (L' := [vR 174, vI n, vI h, vI m, vI s, vI q, vI (i : Int), vI (q - u), vI ((i + 1 : Nat) : Int), vI (q - u)]) (dat d_Mo_tunnel 59 rfl) rfl (by decide) rfl (by omega) (by omega) rfl ?_
      refine x_goto (tgt := 71) (dat d_Mo_tunnel 60 rfl) (by decide) ?_
      first
      | exact nx _ _ _ _ (by rw [st, if_pos (by omega)]) H3 e3 e4 (F2.trans W3.mo)
      | exact nx _ _ _ _ (by rw [st, if_neg (by omega)]) H3 e3 e4 (F2.trans W3.mo)
    · refine x_iload (dat d_Mo_tunnel 51 rfl) rfl ?_
      refine x_iload (dat d_Mo_tunnel 52 rfl) rfl ?_
      refine x_icmp_gt (tgt := 110) (dat d_Mo_tunnel 53 rfl) (by decide) (fun c_104 => ?_) (fun c_104 => ?_)
      · refine x_iload (dat d_Mo_tunnel 55 rfl) rfl ?_
        refine x_istore (L' := [vR 174, vI n, vI h, vI m, vI s, vI q, vI (i : Int), vI l, vI (i : Int), vI (q - u)]) (dat d_Mo_tunnel 56 rfl) (by decide) rfl rfl ?_
        refine x_iload (dat d_Mo_tunnel 57 rfl) rfl ?_
        refine x_istore (L' := [vR 174, vI n, vI h, vI m, vI s, vI q, vI (i : Int), vI (q - u), vI (i : Int), vI (q - u)]) (dat d_Mo_tunnel 58 rfl) (by decide) rfl rfl ?_
        refine x_iinc (v' := ((i + 1 : Nat) : Int)) (L' := [vR 174, vI n, vI h, vI m, vI s, vI q, vI (i : Int), vI (q - u), vI ((i + 1 : Nat) : Int), vI (q - u)]) (dat d_Mo_tunnel 59 rfl) rfl (by decide) rfl (by omega) (by omega) rfl ?_
        refine x_goto (tgt := 71) (dat d_Mo_tunnel 60 rfl) (by decide) ?_
        first
        | exact nx _ _ _ _ (by rw [st, if_pos (by omega)]) H3 e3 e4 (F2.trans W3.mo)
        | exact nx _ _ _ _ (by rw [st, if_neg (by omega)]) H3 e3 e4 (F2.trans W3.mo)
      · refine x_goto (tgt := 118) (dat d_Mo_tunnel 54 rfl) (by decide) ?_
        refine x_iinc (v' := ((i + 1 : Nat) : Int)) (L' := [vR 174, vI n, vI h, vI m, vI s, vI q, vI b, vI l, vI ((i + 1 : Nat) : Int), vI (q - u)]) (dat d_Mo_tunnel 59 rfl) rfl (by decide) rfl (by omega) (by omega) rfl ?_
        refine x_goto (tgt := 71) (dat d_Mo_tunnel 60 rfl) (by decide) ?_
        first
        | exact nx _ _ _ _ (by rw [st, if_pos (by omega)]) H3 e3 e4 (F2.trans W3.mo)
        | exact nx _ _ _ _ (by rw [st, if_neg (by omega)]) H3 e3 e4 (F2.trans W3.mo)
theorem sp_Mo_tunnel {h m s : Int} (A : MoA σ a) (k : ∀ (r : Int) (σ' : xS), atT a n (if s = 0 then -1 else -1000) (fun t r => tunA t h m s r) r → MoA σ' a → MoF σ' σ → K (some (vI r)) σ') : Mt g y_Mo_tunnel [vR 174, vI n, vI h, vI m, vI s] σ K := by
  have k0 : ¬ (0 ≤ n ∧ n < a 0) → ∀ r : Int, (r = if s = 0 then -1 else -1000) → K (some (vI r)) σ := fun z r hr => k r σ ⟨fun _ => hr, fun z1 z2 => absurd ⟨z1, z2⟩ z⟩ A (MoF.rfl σ)
  have k1 : 0 ≤ n → n < a 0 → ¬ ((1 ≤ tw a n 6 ∧ (0 ≤ h ∧ h < tw a n 3)) ∧ (1 ≤ m ∧ m ≤ 30)) → ∀ (r : Int) (σ' : xS), (r = if s = 0 then -1 else -1000) → MoA σ' a → MoF σ' σ → K (some (vI r)) σ' := fun n0 n1 z r σ' hr A1 F1 => k r σ' ⟨fun z => absurd ⟨n0, n1⟩ z, fun _ _ => by show tunA (tw a n) h m s r; unfold tunA; rw [if_pos z]; exact hr⟩ A1 F1
  refine x_enter 5 rfl rfl rfl (fun Z => ?_)
  show Wx g y_Mo_tunnel Z K 0 [vR 174, vI n, vI h, vI m, vI s, vU, vU, vU, vU, vU] [] σ
  refine x_aload_n (dat d_Mo_tunnel 0 rfl) rfl rfl ?_
  refine x_iload_n (dat d_Mo_tunnel 1 rfl) rfl rfl ?_
  refine x_inv (As := [vI n]) (dat d_Mo_tunnel 2 rfl) rfl c_Mo_isTown l_Mo_205 (by decide) (rv_mo (by decide +kernel)) rfl rfl (Nat.le_of_ble_eq_true rfl) ?_
  refine sp_Mo_isTown A (fun σ1 t0 n0 n1 H P Z1 A1 F => ?_) (fun n01 => ?_)
  · show Wx g y_Mo_tunnel Z K 5 [vR 174, vI n, vI h, vI m, vI s, vU, vU, vU, vU, vU] [vI 1] σ1
    refine x_if_eq (tgt := 33) (dat d_Mo_tunnel 3 rfl) (by decide) (fun h => absurd h (by decide)) (fun c_5 => ?_)
    refine x_aload_n (dat d_Mo_tunnel 4 rfl) rfl rfl ?_
    refine x_iload_n (dat d_Mo_tunnel 5 rfl) rfl rfl ?_
    refine x_inv (As := [vI h]) (dat d_Mo_tunnel 6 rfl) rfl c_Mo_isHour l_Mo_342 (by decide) (rv_mo (by decide +kernel)) rfl rfl (Nat.le_of_ble_eq_true rfl) ?_
    refine sp_Mo_isHour H.1.1 H.1.2 (fun h0 h1 => ?_) (fun h01 => ?_)
    · show Wx g y_Mo_tunnel Z K 13 [vR 174, vI n, vI h, vI m, vI s, vU, vU, vU, vU, vU] [vI 1] σ1
      refine x_if_eq (tgt := 33) (dat d_Mo_tunnel 7 rfl) (by decide) (fun h => absurd h (by decide)) (fun c_13 => ?_)
      refine x_iload_n (dat d_Mo_tunnel 8 rfl) rfl rfl ?_
      refine x_iconst (dat d_Mo_tunnel 9 rfl) (by decide) ?_
      refine x_bipush (dat d_Mo_tunnel 10 rfl) (by decide) (by decide) ?_
      refine x_invs (As := [vI m, vI 1, vI 30]) (dat d_Mo_tunnel 11 rfl) rfl c_Mo_isIn l_Mo_136 (by decide) rfl rfl (Nat.le_of_ble_eq_true rfl) ?_
      refine sp_Mo_isIn (fun x1 x2 => ?_) (fun x1 => ?_)
      · show Wx g y_Mo_tunnel Z K 23 [vR 174, vI n, vI h, vI m, vI s, vU, vU, vU, vU, vU] [vI 1] σ1
        refine x_if_eq (tgt := 33) (dat d_Mo_tunnel 12 rfl) (by decide) (fun h => absurd h (by decide)) (fun c_23 => ?_)
        refine x_aload_n (dat d_Mo_tunnel 13 rfl) rfl rfl ?_
        refine x_inv (As := []) (dat d_Mo_tunnel 14 rfl) rfl c_Mo_people l_Mo_202 (by decide) (rv_mo (by decide +kernel)) rfl rfl (Nat.le_of_ble_eq_true rfl) ?_
        refine sp_Mo_people H.1.1 ?_
        have t6 := H.1.2.2.2.2.2.2.2.1
        show Wx g y_Mo_tunnel Z K 30 [vR 174, vI n, vI h, vI m, vI s, vU, vU, vU, vU, vU] [vI (tw a n 6)] σ1
        refine x_if_ne (tgt := 46) (dat d_Mo_tunnel 15 rfl) (by decide) (fun c_30 => ?_) (fun c_30 => ?_)
        · refine x_aload_n (dat d_Mo_tunnel 22 rfl) rfl rfl ?_
          refine x_inv (As := []) (dat d_Mo_tunnel 23 rfl) rfl c_Mo_starved l_Mo_370 (by decide) (rv_mo (by decide +kernel)) rfl rfl (Nat.le_of_ble_eq_true rfl) ?_
          refine sp_Kn_starved (KnX.pln H P Z1 [24]) H (Or.inl rfl) (fun σ2 R M2 H2 W2 => ?_)
          show Wx g y_Mo_tunnel Z K 50 [vR 174, vI n, vI h, vI m, vI s, vU, vU, vU, vU, vU] [vI (stv (cfg (tw a n)))] σ2
          refine x_istore (L' := [vR 174, vI n, vI h, vI m, vI s, vI (stv (cfg (tw a n))), vU, vU, vU, vU]) (dat d_Mo_tunnel 24 rfl) (by decide) rfl rfl ?_
          refine x_iconst (dat d_Mo_tunnel 25 rfl) (by decide) ?_
          refine x_istore (L' := [vR 174, vI n, vI h, vI m, vI s, vI (stv (cfg (tw a n))), vI (-1), vU, vU, vU]) (dat d_Mo_tunnel 26 rfl) (by decide) rfl rfl ?_
          refine x_iconst (dat d_Mo_tunnel 27 rfl) (by decide) ?_
          refine x_istore (L' := [vR 174, vI n, vI h, vI m, vI s, vI (stv (cfg (tw a n))), vI (-1), vI 0, vU, vU]) (dat d_Mo_tunnel 28 rfl) (by decide) rfl rfl ?_
          refine x_aload_n (dat d_Mo_tunnel 29 rfl) rfl rfl ?_
          refine x_iload_n (dat d_Mo_tunnel 30 rfl) rfl rfl ?_
          refine x_puti (ji := 24) (x := (h)) (dat d_Mo_tunnel 31 rfl) rfl f_Mo_232w (oi_mk (by decide +kernel)) (fun h => absurd h (by decide)) (by decide) ?_
          refine x_aload_n (dat d_Mo_tunnel 32 rfl) rfl rfl ?_
          refine x_iload_n (dat d_Mo_tunnel 33 rfl) rfl rfl ?_
          refine x_puti (ji := 26) (x := (m)) (dat d_Mo_tunnel 34 rfl) rfl f_Mo_323w (oi_mk (by decide +kernel)) (fun h => absurd h (by decide)) (by decide) ?_
          refine x_iconst (dat d_Mo_tunnel 35 rfl) (by decide) ?_
          refine x_istore (L' := [vR 174, vI n, vI h, vI m, vI s, vI (stv (cfg (tw a n))), vI (-1), vI 0, vI 0, vU]) (dat d_Mo_tunnel 36 rfl) (by decide) rfl rfl ?_
          refine lp_Mo_tunnel (σ0 := σ) (t := tw a n) (t0 := t0) (hn := h.toNat) (by omega) (by omega) x2 (fun r σ' hr F2 => ?_) (tw a n 6).toNat 0 _ (-1) 0 _ (by omega) rfl ((H2.put (by decide)).put (by decide)) (by rw [up_ni (by decide), up_s]) up_s (((F.trans W2.mo).put (by decide)).put (by decide))
          refine k _ σ' ⟨fun z => absurd ⟨n0, n1⟩ z, fun _ _ => ?_⟩ (A.same F2) F2
          show tunA (tw a n) h m s r
          unfold tunA
          rw [if_neg (show ¬ ¬ ((1 ≤ tw a n 6 ∧ (0 ≤ h ∧ h < tw a n 3)) ∧ (1 ≤ m ∧ m ≤ 30)) by omega)]
          by_cases z : s = 0
          · rw [if_pos z] at hr ⊢; exact hr
          · rw [if_neg z] at hr ⊢; exact hr
        · refine x_iload (dat d_Mo_tunnel 16 rfl) rfl ?_
          refine x_if_eq (tgt := 44) (dat d_Mo_tunnel 17 rfl) (by decide) (fun c_35 => ?_) (fun c_35 => ?_)
          · refine x_iconst (dat d_Mo_tunnel 20 rfl) (by decide) ?_
            refine x_iret (dat d_Mo_tunnel 21 rfl) rfl ?_
            first
            | exact k0 n01 _ (by rw [if_pos (by omega)])
            | exact k0 n01 _ (by rw [if_neg (by omega)])
            | exact k1 n0 n1 (fun z => by omega) _ _ (by rw [if_pos (by omega)]) A1 F
            | exact k1 n0 n1 (fun z => by omega) _ _ (by rw [if_neg (by omega)]) A1 F
          · refine x_sipush (dat d_Mo_tunnel 18 rfl) (by decide) (by decide) ?_
            refine x_goto (tgt := 45) (dat d_Mo_tunnel 19 rfl) (by decide) ?_
            refine x_iret (dat d_Mo_tunnel 21 rfl) rfl ?_
            first
            | exact k0 n01 _ (by rw [if_pos (by omega)])
            | exact k0 n01 _ (by rw [if_neg (by omega)])
            | exact k1 n0 n1 (fun z => by omega) _ _ (by rw [if_pos (by omega)]) A1 F
            | exact k1 n0 n1 (fun z => by omega) _ _ (by rw [if_neg (by omega)]) A1 F
      · show Wx g y_Mo_tunnel Z K 23 [vR 174, vI n, vI h, vI m, vI s, vU, vU, vU, vU, vU] [vI 0] σ1
        refine x_if_eq (tgt := 33) (dat d_Mo_tunnel 12 rfl) (by decide) (fun c_23 => ?_) (fun h => absurd h (by decide))
        refine x_iload (dat d_Mo_tunnel 16 rfl) rfl ?_
        refine x_if_eq (tgt := 44) (dat d_Mo_tunnel 17 rfl) (by decide) (fun c_35 => ?_) (fun c_35 => ?_)
        · refine x_iconst (dat d_Mo_tunnel 20 rfl) (by decide) ?_
          refine x_iret (dat d_Mo_tunnel 21 rfl) rfl ?_
          first
          | exact k0 n01 _ (by rw [if_pos (by omega)])
          | exact k0 n01 _ (by rw [if_neg (by omega)])
          | exact k1 n0 n1 (fun z => by omega) _ _ (by rw [if_pos (by omega)]) A1 F
          | exact k1 n0 n1 (fun z => by omega) _ _ (by rw [if_neg (by omega)]) A1 F
        · refine x_sipush (dat d_Mo_tunnel 18 rfl) (by decide) (by decide) ?_
          refine x_goto (tgt := 45) (dat d_Mo_tunnel 19 rfl) (by decide) ?_
          refine x_iret (dat d_Mo_tunnel 21 rfl) rfl ?_
          first
          | exact k0 n01 _ (by rw [if_pos (by omega)])
          | exact k0 n01 _ (by rw [if_neg (by omega)])
          | exact k1 n0 n1 (fun z => by omega) _ _ (by rw [if_pos (by omega)]) A1 F
          | exact k1 n0 n1 (fun z => by omega) _ _ (by rw [if_neg (by omega)]) A1 F
    · show Wx g y_Mo_tunnel Z K 13 [vR 174, vI n, vI h, vI m, vI s, vU, vU, vU, vU, vU] [vI 0] σ1
      refine x_if_eq (tgt := 33) (dat d_Mo_tunnel 7 rfl) (by decide) (fun c_13 => ?_) (fun h => absurd h (by decide))
      refine x_iload (dat d_Mo_tunnel 16 rfl) rfl ?_
      refine x_if_eq (tgt := 44) (dat d_Mo_tunnel 17 rfl) (by decide) (fun c_35 => ?_) (fun c_35 => ?_)
      · refine x_iconst (dat d_Mo_tunnel 20 rfl) (by decide) ?_
        refine x_iret (dat d_Mo_tunnel 21 rfl) rfl ?_
        first
        | exact k0 n01 _ (by rw [if_pos (by omega)])
        | exact k0 n01 _ (by rw [if_neg (by omega)])
        | exact k1 n0 n1 (fun z => by omega) _ _ (by rw [if_pos (by omega)]) A1 F
        | exact k1 n0 n1 (fun z => by omega) _ _ (by rw [if_neg (by omega)]) A1 F
      · refine x_sipush (dat d_Mo_tunnel 18 rfl) (by decide) (by decide) ?_
        refine x_goto (tgt := 45) (dat d_Mo_tunnel 19 rfl) (by decide) ?_
        refine x_iret (dat d_Mo_tunnel 21 rfl) rfl ?_
        first
        | exact k0 n01 _ (by rw [if_pos (by omega)])
        | exact k0 n01 _ (by rw [if_neg (by omega)])
        | exact k1 n0 n1 (fun z => by omega) _ _ (by rw [if_pos (by omega)]) A1 F
        | exact k1 n0 n1 (fun z => by omega) _ _ (by rw [if_neg (by omega)]) A1 F
  · show Wx g y_Mo_tunnel Z K 5 [vR 174, vI n, vI h, vI m, vI s, vU, vU, vU, vU, vU] [vI 0] σ
    refine x_if_eq (tgt := 33) (dat d_Mo_tunnel 3 rfl) (by decide) (fun c_5 => ?_) (fun h => absurd h (by decide))
    refine x_iload (dat d_Mo_tunnel 16 rfl) rfl ?_
    refine x_if_eq (tgt := 44) (dat d_Mo_tunnel 17 rfl) (by decide) (fun c_35 => ?_) (fun c_35 => ?_)
    · refine x_iconst (dat d_Mo_tunnel 20 rfl) (by decide) ?_
      refine x_iret (dat d_Mo_tunnel 21 rfl) rfl ?_
      first
      | exact k0 n01 _ (by rw [if_pos (by omega)])
      | exact k0 n01 _ (by rw [if_neg (by omega)])
      | exact k1 n0 n1 (fun z => by omega) _ _ (by rw [if_pos (by omega)]) A1 F
      | exact k1 n0 n1 (fun z => by omega) _ _ (by rw [if_neg (by omega)]) A1 F
    · refine x_sipush (dat d_Mo_tunnel 18 rfl) (by decide) (by decide) ?_
      refine x_goto (tgt := 45) (dat d_Mo_tunnel 19 rfl) (by decide) ?_
      refine x_iret (dat d_Mo_tunnel 21 rfl) rfl ?_
      first
      | exact k0 n01 _ (by rw [if_pos (by omega)])
      | exact k0 n01 _ (by rw [if_neg (by omega)])
      | exact k1 n0 n1 (fun z => by omega) _ _ (by rw [if_pos (by omega)]) A1 F
      | exact k1 n0 n1 (fun z => by omega) _ _ (by rw [if_neg (by omega)]) A1 F
end
