/-! the twin's answers: all worlds */ -/
section
variable {g : xG} {K : Option MV → xS → Prop} {σ σ' σ0 : xS} {t b : Int → Int} {t0 : Int} {a : Int → Int} {n : Int} {C : Cf}
theorem kn_more {c : Int} (H : KnX σ t t0 [179]) (hm : ∀ p : Int, 0 ≤ p → p < t 6 → σ 179 p = restT t c p.toNat % (t (23 + 17 * p) + 1)) : MoC σ t t0 (mSt (cfg t) (fun p => t (22 + 17 * p) + if 0 ≤ p ∧ p < 8 then σ 179 p else 0)) ∧ Sim (wC t c) (mSt (cfg t) (fun p => t (22 + 17 * p) + if 0 ≤ p ∧ p < 8 then σ 179 p else 0)) := by
  have t6 := H.1.2.2.2.2.2.2.2.1
  have es : ∀ p : Int, 0 ≤ p → p < t 6 → t (22 + 17 * p) + (if 0 ≤ p ∧ p < 8 then σ 179 p else 0) = stW t c p := fun p p0 p1 => by
    unfold stW
    rw [if_pos ⟨p0, by omega⟩, hm p p0 p1]
  have S : Sim (wC t c) (mSt (cfg t) (fun p => t (22 + 17 * p) + if 0 ≤ p ∧ p < 8 then σ 179 p else 0)) := ⟨⟨fun _ => rfl, fun p p0 p1 => es p p0 p1⟩, fun _ _ _ => rfl, rfl, rfl, rfl⟩
  have hC : CfOk (mSt (cfg t) (fun p => t (22 + 17 * p) + if 0 ≤ p ∧ p < 8 then σ 179 p else 0)) := by
    obtain ⟨g0, g1, g2, g3, g4, g5, g6, g7, g8, g9, g10, g11, g12⟩ := wC_ok H.1.2 c
    refine ⟨g0, g1, g2, g3, g4, g5, g6, g7, g8, g9, g10, g11, fun p p0 p1 => ?_⟩
    have := g12 p p0 p1
    show 0 ≤ t (22 + 17 * p) + (if 0 ≤ p ∧ p < 8 then σ 179 p else 0) ∧ t (22 + 17 * p) + (if 0 ≤ p ∧ p < 8 then σ 179 p else 0) ≤ 33
    rw [es p p0 p1]
    exact this
  exact ⟨⟨H.1, ⟨mC_mk (mC_N (H.s15 (by decide)) (H.s30 (by decide)) (H.s31 (by decide)) (H.s24 (by decide))) (mC_G (H.s13 (by decide))) rfl (mC_O (H.s14 (by decide)) (H.s16 (by decide))) (mC_W (H.s17 (by decide)) (H.s20 (by decide)) (H.s27 (by decide)) (H.s32 (by decide))) rfl, hC⟩, ⟨Or.inl (H.s20 (by decide)), Or.inl (H.s32 (by decide))⟩, by rw [H.s13 (by decide)]; decide, by rw [H.s16 (by decide)]; decide⟩, S⟩
theorem sp_Mo_runsOf (M : MoT σ t t0) (hT : TownOk t) (k : K (some (vI (runT t))) σ) : Mt g y_Mo_runsOf [vR 174] σ K := by
  have t6 := hT.2.2.2.2.2.2.1
  have lp : ∀ (Z : xZ) (d i : Nat), i + d = (t 6).toNat → Wx g y_Mo_runsOf Z K 4 [vR 174, vI (prN t i), vI (i : Int)] [] σ := by
    intro Z d
    induction d with
    | zero =>
      intro i hd
      have e : (t 6).toNat = i := by omega
      unfold runT at k
      rw [e] at k
      refine x_iload_n (dat d_Mo_runsOf 4 rfl) rfl rfl ?_
      refine x_aload_n (dat d_Mo_runsOf 5 rfl) rfl rfl ?_
      refine x_inv (As := []) (dat d_Mo_runsOf 6 rfl) rfl c_Mo_people l_Mo_202 (by decide) (rv_mo (by decide +kernel)) rfl rfl (Nat.le_of_ble_eq_true rfl) ?_
      refine sp_Mo_people M ?_
      show Wx g y_Mo_runsOf Z K 9 [vR 174, vI (prN t i), vI (i : Int)] [vI (t 6), vI (i : Int)] σ
      refine x_icmp_ge (tgt := 29) (dat d_Mo_runsOf 7 rfl) (by decide) (fun c_9 => ?_) (fun c_9 => (by omega))
      refine x_iload_n (dat d_Mo_runsOf 19 rfl) rfl rfl ?_
      refine x_iret (dat d_Mo_runsOf 20 rfl) rfl ?_
      exact k
    | succ d ih =>
      intro i hd
      have b8 := prN_b8 hT (p := i + 1) (by omega)
      have ex := (hT.2.2.2.2.2.2.2.2.1 (i : Int) (by omega) (by omega)).2.2.2.1
      have e3 : t (20 + 17 * (i : Int) + 3) = t (23 + 17 * (i : Int)) := by congr 1; omega
      refine x_iload_n (dat d_Mo_runsOf 4 rfl) rfl rfl ?_
      refine x_aload_n (dat d_Mo_runsOf 5 rfl) rfl rfl ?_
      refine x_inv (As := []) (dat d_Mo_runsOf 6 rfl) rfl c_Mo_people l_Mo_202 (by decide) (rv_mo (by decide +kernel)) rfl rfl (Nat.le_of_ble_eq_true rfl) ?_
      refine sp_Mo_people M ?_
      show Wx g y_Mo_runsOf Z K 9 [vR 174, vI (prN t i), vI (i : Int)] [vI (t 6), vI (i : Int)] σ
      refine x_icmp_ge (tgt := 29) (dat d_Mo_runsOf 7 rfl) (by decide) (fun c_9 => (by omega)) (fun c_9 => ?_)
      refine x_iload_n (dat d_Mo_runsOf 8 rfl) rfl rfl ?_
      refine x_aload_n (dat d_Mo_runsOf 9 rfl) rfl rfl ?_
      refine x_iload_n (dat d_Mo_runsOf 10 rfl) rfl rfl ?_
      refine x_iconst (dat d_Mo_runsOf 11 rfl) (by decide) ?_
      refine x_inv (As := [vI (i : Int), vI 3]) (dat d_Mo_runsOf 12 rfl) rfl c_Mo_personOf l_Mo_211 (by decide) (rv_mo (by decide +kernel)) rfl rfl (Nat.le_of_ble_eq_true rfl) ?_
      refine sp_Mo_personOf M (by omega) (by omega) (by decide) (by decide) ?_
      rw [e3]
      show Wx g y_Mo_runsOf Z K 19 [vR 174, vI (prN t i), vI (i : Int)] [vI (t (23 + 17 * (i : Int))), vI (prN t i)] σ
      refine x_iconst (dat d_Mo_runsOf 13 rfl) (by decide) ?_
      refine x_iadd (v := (t (23 + 17 * (i : Int))) + 1) (dat d_Mo_runsOf 14 rfl) rfl (by omega) ?_
      refine x_imul (v := prN t (i + 1)) (dat d_Mo_runsOf 15 rfl) (by rfl) (by omega) ?_
      refine x_istore_n (L' := [vR 174, vI (prN t (i + 1)), vI (i : Int)]) (dat d_Mo_runsOf 16 rfl) rfl (by decide) rfl rfl ?_
      refine x_iinc (v' := ((i + 1 : Nat) : Int)) (L' := [vR 174, vI (prN t (i + 1)), vI ((i + 1 : Nat) : Int)]) (dat d_Mo_runsOf 17 rfl) rfl (by decide) rfl (by omega) (by omega) rfl ?_
      refine x_goto (tgt := 4) (dat d_Mo_runsOf 18 rfl) (by decide) ?_
      exact ih (i + 1) (by omega)
  refine x_enter 2 rfl rfl rfl (fun Z => ?_)
  show Wx g y_Mo_runsOf Z K 0 [vR 174, vU, vU] [] σ
  refine x_iconst (dat d_Mo_runsOf 0 rfl) (by decide) ?_
  refine x_istore_n (L' := [vR 174, vI 1, vU]) (dat d_Mo_runsOf 1 rfl) rfl (by decide) rfl rfl ?_
  refine x_iconst (dat d_Mo_runsOf 2 rfl) (by decide) ?_
  refine x_istore_n (L' := [vR 174, vI 1, vI 0]) (dat d_Mo_runsOf 3 rfl) rfl (by decide) rfl rfl ?_
  exact lp Z (t 6).toNat 0 (by omega)
/-- the run of a number, as the twin holds it -/
def TkW (σ : xS) (t : Int → Int) (c : Int) : Prop := (∀ h p : Int, 0 ≤ h → h < t 3 → 0 ≤ p → p < t 6 → σ 181 (8 * h + p) = (rst (wC t c) (h.toNat + 1)).1 p) ∧ Msk 8 (σ 174 35) (rst (wC t c) (cH (wC t c))).2
theorem sp_Mo_takesUp {c : Int} (H : KnX σ t t0 [179]) (c0 : 0 ≤ c) (c1 : c < 2147483648) (k : ∀ σ' : xS, KnX σ' t t0 [179] → TkW σ' t c → (∀ i : Int, 52 < i → σ' 174 i = σ 174 i) → (∀ o : Nat, 194 < o → σ' o = σ o) → MoF σ' σ → K none σ') : Mt g y_Mo_takesUp [vR 174, vI c] σ K := by
  have hT := H.1.2
  have t6 := hT.2.2.2.2.2.2.1
  have lp : ∀ (Z : xZ) (d i : Nat) (σ1 : xS), i + d = (t 6).toNat → (∀ p : Int, 0 ≤ p → p < i → σ1 179 p = restT t c p.toNat % (t (23 + 17 * p) + 1)) → (∀ o : Nat, o ≠ 179 → σ1 o = σ o) → Wx g y_Mo_takesUp Z K 4 [vR 174, vI c, vI (restT t c i), vI (i : Int)] [] σ1 := by
    intro Z d
    induction d with
    | zero =>
      intro i σ1 hd hp F
      have M1 : MoT σ1 t t0 := H.1.1.same (by rw [F 174 (by decide)]) (F 175 (by decide))
      have H1 : KnX σ1 t t0 [179] := ⟨⟨M1, hT⟩, by rw [F 174 (by decide)]; exact H.2.1, by rw [F 174 (by decide)]; exact H.2.2.1, fun z => absurd (show (179 : Int) ∈ [179] by decide) z⟩
      obtain ⟨M2, S⟩ := kn_more H1 (c := c) (fun p p0 p1 => hp p p0 (by omega))
      generalize mSt (cfg t) (fun p => t (22 + 17 * p) + if 0 ≤ p ∧ p < 8 then σ1 179 p else 0) = C at M2 S
      refine x_iload_n (dat d_Mo_takesUp 4 rfl) rfl rfl ?_
      refine x_aload_n (dat d_Mo_takesUp 5 rfl) rfl rfl ?_
      refine x_inv (As := []) (dat d_Mo_takesUp 6 rfl) rfl c_Mo_people l_Mo_202 (by decide) (rv_mo (by decide +kernel)) rfl rfl (Nat.le_of_ble_eq_true rfl) ?_
      refine sp_Mo_people M1 ?_
      show Wx g y_Mo_takesUp Z K 9 [vR 174, vI c, vI (restT t c i), vI (i : Int)] [vI (t 6), vI (i : Int)] σ1
      refine x_icmp_ge (tgt := 45) (dat d_Mo_takesUp 7 rfl) (by decide) (fun c_9 => ?_) (fun c_9 => (by omega))
      refine x_aload_n (dat d_Mo_takesUp 31 rfl) rfl rfl ?_
      refine x_inv (As := []) (dat d_Mo_takesUp 32 rfl) rfl c_Mo_runs l_Mo_336 (by decide) (rv_mo (by decide +kernel)) rfl rfl (Nat.le_of_ble_eq_true rfl) ?_
      refine sp_Kn_runs H1 M2 (Or.inl (by rw [S.1.1 6]; rfl)) (fun σ2 R M3 H3 W3 => ?_)
      have eh : cH C = cH (wC t c) := by unfold cH; rw [S.1.1 1]
      have rs := rst_sim S (show 0 ≤ t 6 by omega)
      have tk : TkW σ2 t c := by
        refine ⟨fun h p h0 h1 p0 p1 => ?_, ?_⟩
        · rw [(R.at M3.2.1.2 h0 (by rw [S.1.1 1]; exact h1) p0 (by rw [S.1.1 0]; exact p1)).1.1]
          exact (rs _).1 p p0 p1
        · have := R.1.1.1
          rw [eh, (rs _).2] at this
          exact this
      show Wx g y_Mo_takesUp Z K 49 [vR 174, vI c, vI (restT t c i), vI (i : Int)] [] σ2
      refine x_ret (dat d_Mo_takesUp 33 rfl) rfl ?_
      refine k σ2 H3 tk (fun i hi => ?_) (fun o ho => ?_) ⟨fun i hi => ?_, fun o ho => ?_⟩
      · rw [W3.at (by omega), F 174 (by decide)]
      · rw [W3.2 o (by omega), F o (by omega)]
      · rw [W3.at (by omega), F 174 (by decide)]
      · rw [W3.2 o (by omega), F o (by omega)]
    | succ d ih =>
      intro i σ1 hd hp F
      have M1 : MoT σ1 t t0 := H.1.1.same (by rw [F 174 (by decide)]) (F 175 (by decide))
      have ex := (hT.2.2.2.2.2.2.2.2.1 (i : Int) (by omega) (by omega)).2.2.2.1
      have e3 : t (20 + 17 * (i : Int) + 3) = t (23 + 17 * (i : Int)) := by congr 1; omega
      have rn := restT_nn hT c0 i (by omega)
      refine x_iload_n (dat d_Mo_takesUp 4 rfl) rfl rfl ?_
      refine x_aload_n (dat d_Mo_takesUp 5 rfl) rfl rfl ?_
      refine x_inv (As := []) (dat d_Mo_takesUp 6 rfl) rfl c_Mo_people l_Mo_202 (by decide) (rv_mo (by decide +kernel)) rfl rfl (Nat.le_of_ble_eq_true rfl) ?_
      refine sp_Mo_people M1 ?_
      show Wx g y_Mo_takesUp Z K 9 [vR 174, vI c, vI (restT t c i), vI (i : Int)] [vI (t 6), vI (i : Int)] σ1
      refine x_icmp_ge (tgt := 45) (dat d_Mo_takesUp 7 rfl) (by decide) (fun c_9 => (by omega)) (fun c_9 => ?_)
      refine x_aload_n (dat d_Mo_takesUp 8 rfl) rfl rfl ?_
      refine x_getr (r := 179) (dat d_Mo_takesUp 9 rfl) rfl f_Mo_23 (or_mk (by decide +kernel)) ?_
      refine x_iload_n (dat d_Mo_takesUp 10 rfl) rfl rfl ?_
      refine x_iload_n (dat d_Mo_takesUp 11 rfl) rfl rfl ?_
      refine x_aload_n (dat d_Mo_takesUp 12 rfl) rfl rfl ?_
      refine x_iload_n (dat d_Mo_takesUp 13 rfl) rfl rfl ?_
      refine x_iconst (dat d_Mo_takesUp 14 rfl) (by decide) ?_
      refine x_inv (As := [vI (i : Int), vI 3]) (dat d_Mo_takesUp 15 rfl) rfl c_Mo_personOf l_Mo_211 (by decide) (rv_mo (by decide +kernel)) rfl rfl (Nat.le_of_ble_eq_true rfl) ?_
      refine sp_Mo_personOf M1 (by omega) (by omega) (by decide) (by decide) ?_
      rw [e3]
      show Wx g y_Mo_takesUp Z K 24 [vR 174, vI c, vI (restT t c i), vI (i : Int)] [vI (t (23 + 17 * (i : Int))), vI (restT t c i), vI (i : Int), vR 179] σ1
      refine x_iconst (dat d_Mo_takesUp 16 rfl) (by decide) ?_
      refine x_iadd (v := (t (23 + 17 * (i : Int))) + 1) (dat d_Mo_takesUp 17 rfl) rfl (by omega) ?_
      refine x_irem (v := (restT t c i) % ((t (23 + 17 * (i : Int))) + 1)) (dat d_Mo_takesUp 18 rfl) (by omega) rfl ?_
      refine x_iast (n := 8) (dat d_Mo_takesUp 19 rfl) (ai_mk (by decide +kernel)) (by omega) (by omega) ?_
      refine x_iload_n (dat d_Mo_takesUp 20 rfl) rfl rfl ?_
      refine x_aload_n (dat d_Mo_takesUp 21 rfl) rfl rfl ?_
      refine x_iload_n (dat d_Mo_takesUp 22 rfl) rfl rfl ?_
      refine x_iconst (dat d_Mo_takesUp 23 rfl) (by decide) ?_
      refine x_inv (As := [vI (i : Int), vI 3]) (dat d_Mo_takesUp 24 rfl) rfl c_Mo_personOf l_Mo_211 (by decide) (rv_mo (by decide +kernel)) rfl rfl (Nat.le_of_ble_eq_true rfl) ?_
      refine sp_Mo_personOf (M1.same rfl (up_ne (by decide))) (by omega) (by omega) (by decide) (by decide) ?_
      rw [e3]
      show Wx g y_Mo_takesUp Z K 35 [vR 174, vI c, vI (restT t c i), vI (i : Int)] [vI (t (23 + 17 * (i : Int))), vI (restT t c i)] (up σ1 179 (i : Int) ((restT t c i) % ((t (23 + 17 * (i : Int))) + 1)))
      refine x_iconst (dat d_Mo_takesUp 25 rfl) (by decide) ?_
      refine x_iadd (v := (t (23 + 17 * (i : Int))) + 1) (dat d_Mo_takesUp 26 rfl) rfl (by omega) ?_
      refine x_idiv (v := restT t c (i + 1)) (dat d_Mo_takesUp 27 rfl) (by omega) (by rfl) ?_
      refine x_istore_n (L' := [vR 174, vI c, vI (restT t c (i + 1)), vI (i : Int)]) (dat d_Mo_takesUp 28 rfl) rfl (by decide) rfl rfl ?_
      refine x_iinc (v' := ((i + 1 : Nat) : Int)) (L' := [vR 174, vI c, vI (restT t c (i + 1)), vI ((i + 1 : Nat) : Int)]) (dat d_Mo_takesUp 29 rfl) rfl (by decide) rfl (by omega) (by omega) rfl ?_
      refine x_goto (tgt := 4) (dat d_Mo_takesUp 30 rfl) (by decide) ?_
      refine ih (i + 1) _ (by omega) (fun p p0 p1 => ?_) (fun o ho => by rw [up_ne ho]; exact F o ho)
      by_cases z : p = (i : Int)
      · rw [z, up_s, show ((i : Int)).toNat = i by omega]
      · rw [up_ni (Ne.symm z)]; exact hp p p0 (by omega)
  refine x_enter 2 rfl rfl rfl (fun Z => ?_)
  show Wx g y_Mo_takesUp Z K 0 [vR 174, vI c, vU, vU] [] σ
  refine x_iload_n (dat d_Mo_takesUp 0 rfl) rfl rfl ?_
  refine x_istore_n (L' := [vR 174, vI c, vI c, vU]) (dat d_Mo_takesUp 1 rfl) rfl (by decide) rfl rfl ?_
  refine x_iconst (dat d_Mo_takesUp 2 rfl) (by decide) ?_
  refine x_istore_n (L' := [vR 174, vI c, vI c, vI 0]) (dat d_Mo_takesUp 3 rfl) rfl (by decide) rfl rfl ?_
  exact lp Z (t 6).toNat 0 σ (by omega) (fun p p0 p1 => by omega) (fun _ _ => rfl)
/-- where a book lies in the twin -/
def BkX (σ : xS) (b0 : Int) (b : Int → Int) : Prop := (σ 174 59 = b0 ∧ (922 ≤ b0 ∧ b0 ≤ 947)) ∧ (∀ j : Int, 0 ≤ j → j < 25 → σ 175 (b0 + j) = b j) ∧ BookOk b
theorem BkX.same {b0 : Int} (B : BkX σ b0 b) (e : σ' 174 59 = σ 174 59) (e5 : σ' 175 = σ 175) : BkX σ' b0 b := ⟨⟨by rw [e]; exact B.1.1, B.1.2⟩, by rw [e5]; exact B.2.1, B.2.2⟩
theorem sp_Mo_isWorld {b0 : Int} {c : Nat} (H : KnX σ t t0 [179]) (B : BkX σ b0 b) (T : TkW σ t c) (kt : isW t b c = true → K (some (vI 1)) σ) (kf : ¬ isW t b c = true → K (some (vI 0)) σ) : Mt g y_Mo_isWorld [vR 174] σ K := by
  have hT := H.1.2
  have t6 := hT.2.2.2.2.2.2.1
  have t3 := hT.2.2.2.1
  obtain ⟨⟨e59, bb⟩, eb, hB, hBk⟩ := B
  have g0 : σ 175 (b0 + 0) = b 0 := eb 0 (by decide) (by decide)
  have g0' : σ 175 b0 = b 0 := by rw [← g0, Int.add_zero]
  have lp : ∀ (Z : xZ) (d i : Nat) (w3 w4 : MV) (x : Int), i + d = (b 0).toNat → (x = if soN (wC t c) b i = true then 1 else 0) → Wx g y_Mo_isWorld Z K 4 [vR 174, vI x, vI (i : Int), w3, w4] [] σ := by
    intro Z d
    induction d with
    | zero =>
      intro i w3 w4 x hd hx
      have e : i = (b 0).toNat := by omega
      rw [e] at hx
      have i1 : isW t b c = soN (wC t c) b (b 0).toNat := rfl
      rw [← i1] at hx
      refine x_iload_n (dat d_Mo_isWorld 4 rfl) rfl rfl ?_
      refine x_aload_n (dat d_Mo_isWorld 5 rfl) rfl rfl ?_
      refine x_getr (r := 175) (dat d_Mo_isWorld 6 rfl) rfl f_Mo_7 (or_mk (by decide +kernel)) ?_
      refine x_aload_n (dat d_Mo_isWorld 7 rfl) rfl rfl ?_
      refine x_geti (ji := 59) (v := b0) (dat d_Mo_isWorld 8 rfl) rfl f_Mo_388 (oi_mk (by decide +kernel)) (e59) ?_
      refine x_iald (n := 3888) (v := b 0) (dat d_Mo_isWorld 9 rfl) (ai_mk (by decide +kernel)) (by omega) (by omega) (g0') ?_
      refine x_icmp_ge (tgt := 113) (dat d_Mo_isWorld 10 rfl) (by decide) (fun c_14 => ?_) (fun c_14 => (by omega))
      refine x_iload_n (dat d_Mo_isWorld 71 rfl) rfl rfl ?_
      refine x_zret (dat d_Mo_isWorld 72 rfl) rfl (by rw [hx]; split <;> simp) ?_
      by_cases z : isW t b c = true
      · rw [if_pos z] at hx; rw [hx]; exact kt z
      · rw [if_neg z] at hx; rw [hx]; exact kf z
    | succ d ih =>
      intro i w3 w4 x hd hx
      have hk := hBk (i : Int) (by omega) (by omega)
      have q1 : σ 175 (b0 + 1 + 3 * (i : Int)) = b (1 + 3 * (i : Int)) := by rw [← eb _ (by omega) (by omega)]; congr 1; omega
      have q2 : σ 175 (b0 + 2 + 3 * (i : Int)) = b (2 + 3 * (i : Int)) := by rw [← eb _ (by omega) (by omega)]; congr 1; omega
      have q3 : σ 175 (b0 + 3 + 3 * (i : Int)) = b (3 + 3 * (i : Int)) := by rw [← eb _ (by omega) (by omega)]; congr 1; omega
      have st : soN (wC t c) b (i + 1) = (soN (wC t c) b i && (decide (b (1 + 3 * (i : Int)) < cS (wC t c) 0) && decide (b (2 + 3 * (i : Int)) < cS (wC t c) 1) && decide ((rst (wC t c) ((b (2 + 3 * (i : Int))).toNat + 1)).1 (b (1 + 3 * (i : Int))) = b (3 + 3 * (i : Int))))) := rfl
      have c0 : cS (wC t c) 0 = t 6 := rfl
      have c1 : cS (wC t c) 1 = t 3 := rfl
      rw [c0, c1] at st
      have tk := T.1 (b (2 + 3 * (i : Int))) (b (1 + 3 * (i : Int))) hk.2.1.1
      generalize b (1 + 3 * (i : Int)) = p at hk q1 st tk
      generalize b (2 + 3 * (i : Int)) = h at hk q2 st tk
      generalize b (3 + 3 * (i : Int)) = v at hk q3 st tk
      have stop : x = 0 → Wx g y_Mo_isWorld Z K 113 [vR 174, vI x, vI (i : Int), w3, w4] [] σ := fun z => by
        have sf : soN (wC t c) b i = false := by
          by_cases y : soN (wC t c) b i = true
          · rw [if_pos y] at hx; omega
          · simpa using y
        have wf : ¬ isW t b c = true := fun y => by
          have := soN_f sf ((b 0).toNat - i)
          rw [show i + ((b 0).toNat - i) = (b 0).toNat by omega] at this
          have y2 : soN (wC t c) b (b 0).toNat = true := y
          rw [this] at y2
          exact Bool.noConfusion y2
        rw [z]
        refine x_iload_n (dat d_Mo_isWorld 71 rfl) rfl rfl ?_
        refine x_zret (dat d_Mo_isWorld 72 rfl) rfl (by decide) ?_
        exact kf wf
      have sx : x ≠ 0 → soN (wC t c) b i = true := fun z => by
        by_cases y : soN (wC t c) b i = true
        · exact y
        · rw [if_neg y] at hx; omega
      have nx : ∀ (x' : Int) (w3 w4 : MV), (x' = if soN (wC t c) b (i + 1) = true then 1 else 0) → Wx g y_Mo_isWorld Z K 4 [vR 174, vI x', vI ((i + 1 : Nat) : Int), w3, w4] [] σ := fun x' w3 w4 e => ih (i + 1) w3 w4 x' (by omega) e
      clear ih hx
      refine x_iload_n (dat d_Mo_isWorld 4 rfl) rfl rfl ?_
      refine x_aload_n (dat d_Mo_isWorld 5 rfl) rfl rfl ?_
      refine x_getr (r := 175) (dat d_Mo_isWorld 6 rfl) rfl f_Mo_7 (or_mk (by decide +kernel)) ?_
      refine x_aload_n (dat d_Mo_isWorld 7 rfl) rfl rfl ?_
      refine x_geti (ji := 59) (v := b0) (dat d_Mo_isWorld 8 rfl) rfl f_Mo_388 (oi_mk (by decide +kernel)) (e59) ?_
      refine x_iald (n := 3888) (v := b 0) (dat d_Mo_isWorld 9 rfl) (ai_mk (by decide +kernel)) (by omega) (by omega) (g0') ?_
      refine x_icmp_ge (tgt := 113) (dat d_Mo_isWorld 10 rfl) (by decide) (fun c_14 => (by omega)) (fun c_14 => ?_)
      refine x_iload_n (dat d_Mo_isWorld 11 rfl) rfl rfl ?_
      refine x_if_eq (tgt := 113) (dat d_Mo_isWorld 12 rfl) (by decide) (fun c_18 => ?_) (fun c_18 => ?_)
      · exact stop (by omega)
      · refine x_aload_n (dat d_Mo_isWorld 13 rfl) rfl rfl ?_
        refine x_getr (r := 175) (dat d_Mo_isWorld 14 rfl) rfl f_Mo_7 (or_mk (by decide +kernel)) ?_
        refine x_aload_n (dat d_Mo_isWorld 15 rfl) rfl rfl ?_
        refine x_geti (ji := 59) (v := b0) (dat d_Mo_isWorld 16 rfl) rfl f_Mo_388 (oi_mk (by decide +kernel)) (e59) ?_
        refine x_iconst (dat d_Mo_isWorld 17 rfl) (by decide) ?_
        refine x_iadd (v := b0 + 1) (dat d_Mo_isWorld 18 rfl) rfl (by omega) ?_
        refine x_iconst (dat d_Mo_isWorld 19 rfl) (by decide) ?_
        refine x_iload_n (dat d_Mo_isWorld 20 rfl) rfl rfl ?_
        refine x_imul (v := 3 * (i : Int)) (dat d_Mo_isWorld 21 rfl) (by omega) (by omega) ?_
        refine x_iadd (v := (b0 + 1) + (3 * (i : Int))) (dat d_Mo_isWorld 22 rfl) rfl (by omega) ?_
        refine x_iald (n := 3888) (v := p) (dat d_Mo_isWorld 23 rfl) (ai_mk (by decide +kernel)) (by omega) (by omega) (by exact q1) ?_
        refine x_istore_n (L' := [vR 174, vI x, vI (i : Int), vI p, w4]) (dat d_Mo_isWorld 24 rfl) rfl (by decide) rfl rfl ?_
        refine x_aload_n (dat d_Mo_isWorld 25 rfl) rfl rfl ?_
        refine x_getr (r := 175) (dat d_Mo_isWorld 26 rfl) rfl f_Mo_7 (or_mk (by decide +kernel)) ?_
        refine x_aload_n (dat d_Mo_isWorld 27 rfl) rfl rfl ?_
        refine x_geti (ji := 59) (v := b0) (dat d_Mo_isWorld 28 rfl) rfl f_Mo_388 (oi_mk (by decide +kernel)) (e59) ?_
        refine x_iconst (dat d_Mo_isWorld 29 rfl) (by decide) ?_
        refine x_iadd (v := b0 + 2) (dat d_Mo_isWorld 30 rfl) rfl (by omega) ?_
        refine x_iconst (dat d_Mo_isWorld 31 rfl) (by decide) ?_
        refine x_iload_n (dat d_Mo_isWorld 32 rfl) rfl rfl ?_
        refine x_imul (v := 3 * (i : Int)) (dat d_Mo_isWorld 33 rfl) (by omega) (by omega) ?_
        refine x_iadd (v := (b0 + 2) + (3 * (i : Int))) (dat d_Mo_isWorld 34 rfl) rfl (by omega) ?_
        refine x_iald (n := 3888) (v := h) (dat d_Mo_isWorld 35 rfl) (ai_mk (by decide +kernel)) (by omega) (by omega) (by exact q2) ?_
        refine x_istore (L' := [vR 174, vI x, vI (i : Int), vI p, vI h]) (dat d_Mo_isWorld 36 rfl) (by decide) rfl rfl ?_
        refine x_aload_n (dat d_Mo_isWorld 37 rfl) rfl rfl ?_
        refine x_iload_n (dat d_Mo_isWorld 38 rfl) rfl rfl ?_
        refine x_inv (As := [vI p]) (dat d_Mo_isWorld 39 rfl) rfl c_Mo_isPerson l_Mo_208 (by decide) (rv_mo (by decide +kernel)) rfl rfl (Nat.le_of_ble_eq_true rfl) ?_
        refine sp_Mo_isPerson H.1.1 hT (fun p0 p1 => ?_) (fun p01 => ?_)
        · show Wx g y_Mo_isWorld Z K 59 [vR 174, vI x, vI (i : Int), vI p, vI h] [vI 1] σ
          refine x_if_eq (tgt := 105) (dat d_Mo_isWorld 40 rfl) (by decide) (fun h => absurd h (by decide)) (fun c_59 => ?_)
          refine x_aload_n (dat d_Mo_isWorld 41 rfl) rfl rfl ?_
          refine x_iload (dat d_Mo_isWorld 42 rfl) rfl ?_
          refine x_inv (As := [vI h]) (dat d_Mo_isWorld 43 rfl) rfl c_Mo_isHour l_Mo_342 (by decide) (rv_mo (by decide +kernel)) rfl rfl (Nat.le_of_ble_eq_true rfl) ?_
          refine sp_Mo_isHour H.1.1 hT (fun h0 h1 => ?_) (fun h01 => ?_)
          · show Wx g y_Mo_isWorld Z K 68 [vR 174, vI x, vI (i : Int), vI p, vI h] [vI 1] σ
            have tk := tk h1 p0 p1
            refine x_if_eq (tgt := 105) (dat d_Mo_isWorld 44 rfl) (by decide) (fun h => absurd h (by decide)) (fun c_68 => ?_)
            refine x_aload_n (dat d_Mo_isWorld 45 rfl) rfl rfl ?_
            refine x_getr (r := 181) (dat d_Mo_isWorld 46 rfl) rfl f_Mo_29 (or_mk (by decide +kernel)) ?_
            refine x_bipush (dat d_Mo_isWorld 47 rfl) (by decide) (by decide) ?_
            refine x_iload (dat d_Mo_isWorld 48 rfl) rfl ?_
            refine x_imul (v := 8 * h) (dat d_Mo_isWorld 49 rfl) rfl (by omega) ?_
            refine x_iload_n (dat d_Mo_isWorld 50 rfl) rfl rfl ?_
            refine x_iadd (v := (8 * h) + p) (dat d_Mo_isWorld 51 rfl) rfl (by omega) ?_
            refine x_iald (n := 192) (v := (rst (wC t c) (h.toNat + 1)).1 p) (dat d_Mo_isWorld 52 rfl) (ai_mk (by decide +kernel)) (by omega) (by omega) (by exact tk) ?_
            refine x_aload_n (dat d_Mo_isWorld 53 rfl) rfl rfl ?_
            refine x_getr (r := 175) (dat d_Mo_isWorld 54 rfl) rfl f_Mo_7 (or_mk (by decide +kernel)) ?_
            refine x_aload_n (dat d_Mo_isWorld 55 rfl) rfl rfl ?_
            refine x_geti (ji := 59) (v := b0) (dat d_Mo_isWorld 56 rfl) rfl f_Mo_388 (oi_mk (by decide +kernel)) (e59) ?_
            refine x_iconst (dat d_Mo_isWorld 57 rfl) (by decide) ?_
            refine x_iadd (v := b0 + 3) (dat d_Mo_isWorld 58 rfl) rfl (by omega) ?_
            refine x_iconst (dat d_Mo_isWorld 59 rfl) (by decide) ?_
            refine x_iload_n (dat d_Mo_isWorld 60 rfl) rfl rfl ?_
            refine x_imul (v := 3 * (i : Int)) (dat d_Mo_isWorld 61 rfl) (by omega) (by omega) ?_
            refine x_iadd (v := (b0 + 3) + (3 * (i : Int))) (dat d_Mo_isWorld 62 rfl) rfl (by omega) ?_
            refine x_iald (n := 3888) (v := v) (dat d_Mo_isWorld 63 rfl) (ai_mk (by decide +kernel)) (by omega) (by omega) (by exact q3) ?_
            refine x_icmp_ne (tgt := 105) (dat d_Mo_isWorld 64 rfl) (by decide) (fun c_98 => ?_) (fun c_98 => ?_)
            · refine x_iconst (dat d_Mo_isWorld 67 rfl) (by decide) ?_
              refine x_istore_n (L' := [vR 174, vI 0, vI (i : Int), vI p, vI h]) (dat d_Mo_isWorld 68 rfl) rfl (by decide) rfl rfl ?_
              refine x_iinc (v' := ((i + 1 : Nat) : Int)) (L' := [vR 174, vI 0, vI ((i + 1 : Nat) : Int), vI p, vI h]) (dat d_Mo_isWorld 69 rfl) rfl (by decide) rfl (by omega) (by omega) rfl ?_
              refine x_goto (tgt := 4) (dat d_Mo_isWorld 70 rfl) (by decide) ?_
              refine nx _ _ _ ?_
              rw [st, sx (by omega), Bool.true_and]
              first
              | (exfalso; omega)
              | (rw [decide_eq_false (show ¬ p < t 6 by omega), Bool.false_and, Bool.false_and, if_neg (by decide)]; done)
              | (rw [decide_eq_false (show ¬ h < t 3 by omega), Bool.and_false, Bool.false_and, if_neg (by decide)]; done)
              | (rw [decide_eq_true (show p < t 6 by omega), decide_eq_true (show h < t 3 by omega), decide_eq_true (show (rst (wC t c) (h.toNat + 1)).1 p = v by omega)]; rfl)
              | (rw [decide_eq_false (show ¬ (rst (wC t c) (h.toNat + 1)).1 p = v by omega), Bool.and_false, if_neg (by decide)]; done)
            · refine x_iconst (dat d_Mo_isWorld 65 rfl) (by decide) ?_
              refine x_goto (tgt := 106) (dat d_Mo_isWorld 66 rfl) (by decide) ?_
              refine x_istore_n (L' := [vR 174, vI 1, vI (i : Int), vI p, vI h]) (dat d_Mo_isWorld 68 rfl) rfl (by decide) rfl rfl ?_
              refine x_iinc (v' := ((i + 1 : Nat) : Int)) (L' := [vR 174, vI 1, vI ((i + 1 : Nat) : Int), vI p, vI h]) (dat d_Mo_isWorld 69 rfl) rfl (by decide) rfl (by omega) (by omega) rfl ?_
              refine x_goto (tgt := 4) (dat d_Mo_isWorld 70 rfl) (by decide) ?_
              refine nx _ _ _ ?_
              rw [st, sx (by omega), Bool.true_and]
              first
              | (exfalso; omega)
              | (rw [decide_eq_false (show ¬ p < t 6 by omega), Bool.false_and, Bool.false_and, if_neg (by decide)]; done)
              | (rw [decide_eq_false (show ¬ h < t 3 by omega), Bool.and_false, Bool.false_and, if_neg (by decide)]; done)
              | (rw [decide_eq_true (show p < t 6 by omega), decide_eq_true (show h < t 3 by omega), decide_eq_true (show (rst (wC t c) (h.toNat + 1)).1 p = v by omega)]; rfl)
              | (rw [decide_eq_false (show ¬ (rst (wC t c) (h.toNat + 1)).1 p = v by omega), Bool.and_false, if_neg (by decide)]; done)
          · show Wx g y_Mo_isWorld Z K 68 [vR 174, vI x, vI (i : Int), vI p, vI h] [vI 0] σ
            refine x_if_eq (tgt := 105) (dat d_Mo_isWorld 44 rfl) (by decide) (fun c_68 => ?_) (fun h => absurd h (by decide))
            refine x_iconst (dat d_Mo_isWorld 67 rfl) (by decide) ?_
            refine x_istore_n (L' := [vR 174, vI 0, vI (i : Int), vI p, vI h]) (dat d_Mo_isWorld 68 rfl) rfl (by decide) rfl rfl ?_
            refine x_iinc (v' := ((i + 1 : Nat) : Int)) (L' := [vR 174, vI 0, vI ((i + 1 : Nat) : Int), vI p, vI h]) (dat d_Mo_isWorld 69 rfl) rfl (by decide) rfl (by omega) (by omega) rfl ?_
            refine x_goto (tgt := 4) (dat d_Mo_isWorld 70 rfl) (by decide) ?_
            refine nx _ _ _ ?_
            rw [st, sx (by omega), Bool.true_and]
            first
            | (exfalso; omega)
            | (rw [decide_eq_false (show ¬ p < t 6 by omega), Bool.false_and, Bool.false_and, if_neg (by decide)]; done)
            | (rw [decide_eq_false (show ¬ h < t 3 by omega), Bool.and_false, Bool.false_and, if_neg (by decide)]; done)
            | (rw [decide_eq_true (show p < t 6 by omega), decide_eq_true (show h < t 3 by omega), decide_eq_true (show (rst (wC t c) (h.toNat + 1)).1 p = v by omega)]; rfl)
            | (rw [decide_eq_false (show ¬ (rst (wC t c) (h.toNat + 1)).1 p = v by omega), Bool.and_false, if_neg (by decide)]; done)
        · show Wx g y_Mo_isWorld Z K 59 [vR 174, vI x, vI (i : Int), vI p, vI h] [vI 0] σ
          refine x_if_eq (tgt := 105) (dat d_Mo_isWorld 40 rfl) (by decide) (fun c_59 => ?_) (fun h => absurd h (by decide))
          refine x_iconst (dat d_Mo_isWorld 67 rfl) (by decide) ?_
          refine x_istore_n (L' := [vR 174, vI 0, vI (i : Int), vI p, vI h]) (dat d_Mo_isWorld 68 rfl) rfl (by decide) rfl rfl ?_
          refine x_iinc (v' := ((i + 1 : Nat) : Int)) (L' := [vR 174, vI 0, vI ((i + 1 : Nat) : Int), vI p, vI h]) (dat d_Mo_isWorld 69 rfl) rfl (by decide) rfl (by omega) (by omega) rfl ?_
          refine x_goto (tgt := 4) (dat d_Mo_isWorld 70 rfl) (by decide) ?_
          refine nx _ _ _ ?_
          rw [st, sx (by omega), Bool.true_and]
          first
          | (exfalso; omega)
          | (rw [decide_eq_false (show ¬ p < t 6 by omega), Bool.false_and, Bool.false_and, if_neg (by decide)]; done)
          | (rw [decide_eq_false (show ¬ h < t 3 by omega), Bool.and_false, Bool.false_and, if_neg (by decide)]; done)
          | (rw [decide_eq_true (show p < t 6 by omega), decide_eq_true (show h < t 3 by omega), decide_eq_true (show (rst (wC t c) (h.toNat + 1)).1 p = v by omega)]; rfl)
          | (rw [decide_eq_false (show ¬ (rst (wC t c) (h.toNat + 1)).1 p = v by omega), Bool.and_false, if_neg (by decide)]; done)
  refine x_enter 4 rfl rfl rfl (fun Z => ?_)
  show Wx g y_Mo_isWorld Z K 0 [vR 174, vU, vU, vU, vU] [] σ
  refine x_iconst (dat d_Mo_isWorld 0 rfl) (by decide) ?_
  refine x_istore_n (L' := [vR 174, vI 1, vU, vU, vU]) (dat d_Mo_isWorld 1 rfl) rfl (by decide) rfl rfl ?_
  refine x_iconst (dat d_Mo_isWorld 2 rfl) (by decide) ?_
  refine x_istore_n (L' := [vR 174, vI 1, vI 0, vU, vU]) (dat d_Mo_isWorld 3 rfl) rfl (by decide) rfl rfl ?_
  exact lp Z (b 0).toNat 0 _ _ 1 (by omega) rfl
theorem sp_Mo_areWorlds {m : Int} (A : MoA σ a) (kt : ∀ (σ' : xS) (t0 : Int), (0 ≤ n ∧ n < a 0) → (0 ≤ m ∧ m < a 1) → runT (tw a n) ≤ 1024 → KnX σ' (tw a n) t0 [179] → BkX σ' (922 + 25 * m) (bk a m) → σ' 174 60 = runT (tw a n) → MoA σ' a → MoF σ' σ → K (some (vI 1)) σ') (kf : ∀ σ' : xS, (¬ ((0 ≤ n ∧ n < a 0) ∧ (0 ≤ m ∧ m < a 1)) ∨ ((0 ≤ n ∧ n < a 0) ∧ (0 ≤ m ∧ m < a 1)) ∧ ¬ runT (tw a n) ≤ 1024) → MoA σ' a → MoF σ' σ → K (some (vI 0)) σ') : Mt g y_Mo_areWorlds [vR 174, vI n, vI m] σ K := by
  refine x_enter 0 rfl rfl rfl (fun Z => ?_)
  show Wx g y_Mo_areWorlds Z K 0 [vR 174, vI n, vI m] [] σ
  refine x_aload_n (dat d_Mo_areWorlds 0 rfl) rfl rfl ?_
  refine x_iload_n (dat d_Mo_areWorlds 1 rfl) rfl rfl ?_
  refine x_inv (As := [vI n]) (dat d_Mo_areWorlds 2 rfl) rfl c_Mo_isTown l_Mo_205 (by decide) (rv_mo (by decide +kernel)) rfl rfl (Nat.le_of_ble_eq_true rfl) ?_
  refine sp_Mo_isTown A (fun σ1 t0 n0 n1 H P Z1 A1 F => ?_) (fun n01 => ?_)
  · show Wx g y_Mo_areWorlds Z K 5 [vR 174, vI n, vI m] [vI 1] σ1
    refine x_if_eq (tgt := 27) (dat d_Mo_areWorlds 3 rfl) (by decide) (fun h => absurd h (by decide)) (fun c_5 => ?_)
    refine x_aload_n (dat d_Mo_areWorlds 4 rfl) rfl rfl ?_
    refine x_iconst (dat d_Mo_areWorlds 5 rfl) (by decide) ?_
    refine x_iload_n (dat d_Mo_areWorlds 6 rfl) rfl rfl ?_
    refine x_inv (As := [vI 1, vI m]) (dat d_Mo_areWorlds 7 rfl) rfl c_Mo_isOf l_Mo_180 (by decide) (rv_mo (by decide +kernel)) rfl rfl (Nat.le_of_ble_eq_true rfl) ?_
    refine sp_Mo_isOf A1 (Or.inr rfl) (fun m0 m1 => ?_) (fun m01 => ?_)
    · show Wx g y_Mo_areWorlds Z K 14 [vR 174, vI n, vI m] [vI 1] σ1
      refine x_if_eq (tgt := 27) (dat d_Mo_areWorlds 8 rfl) (by decide) (fun h => absurd h (by decide)) (fun c_14 => ?_)
      refine x_aload_n (dat d_Mo_areWorlds 9 rfl) rfl rfl ?_
      refine x_inv (As := []) (dat d_Mo_areWorlds 10 rfl) rfl c_Mo_runsOf l_Mo_391 (by decide) (rv_mo (by decide +kernel)) rfl rfl (Nat.le_of_ble_eq_true rfl) ?_
      refine sp_Mo_runsOf H.1.1 H.1.2 ?_
      have hb := A1.2.1.2.1
      have b8 := prN_b8 H.1.2 (p := (tw a n 6).toNat) (by have := H.1.2.2.2.2.2.2.2.1; omega)
      have er : runT (tw a n) = prN (tw a n) (tw a n 6).toNat := rfl
      show Wx g y_Mo_areWorlds Z K 21 [vR 174, vI n, vI m] [vI (runT (tw a n))] σ1
      refine x_sipush (dat d_Mo_areWorlds 11 rfl) (by decide) (by decide) ?_
      refine x_icmp_le (tgt := 29) (dat d_Mo_areWorlds 12 rfl) (by decide) (fun c_24 => ?_) (fun c_24 => ?_)
      · refine x_aload_n (dat d_Mo_areWorlds 15 rfl) rfl rfl ?_
        refine x_iconst (dat d_Mo_areWorlds 16 rfl) (by decide) ?_
        refine x_iload_n (dat d_Mo_areWorlds 17 rfl) rfl rfl ?_
        refine x_invs (As := [vI 1, vI m]) (dat d_Mo_areWorlds 18 rfl) rfl c_Mo_placeOf l_Mo_190 (by decide) rfl rfl (Nat.le_of_ble_eq_true rfl) ?_
        refine sp_Mo_placeOf m0 (by omega) (Or.inr ⟨rfl, rfl⟩) ?_
        show Wx g y_Mo_areWorlds Z K 35 [vR 174, vI n, vI m] [vI (922 + 25 * m), vR 174] σ1
        refine x_puti (ji := 59) (x := (922 + 25 * m)) (dat d_Mo_areWorlds 19 rfl) rfl f_Mo_388w (oi_mk (by decide +kernel)) (fun h => absurd h (by decide)) (by decide) ?_
        refine x_aload_n (dat d_Mo_areWorlds 20 rfl) rfl rfl ?_
        refine x_aload_n (dat d_Mo_areWorlds 21 rfl) rfl rfl ?_
        refine x_inv (As := []) (dat d_Mo_areWorlds 22 rfl) rfl c_Mo_runsOf l_Mo_391 (by decide) (rv_mo (by decide +kernel)) rfl rfl (Nat.le_of_ble_eq_true rfl) ?_
        refine sp_Mo_runsOf (H.1.1.put (by decide)) H.1.2 ?_
        show Wx g y_Mo_areWorlds Z K 43 [vR 174, vI n, vI m] [vI (runT (tw a n)), vR 174] (up σ1 174 59 (922 + 25 * m))
        refine x_puti (ji := 60) (x := (runT (tw a n))) (dat d_Mo_areWorlds 23 rfl) rfl f_Mo_394w (oi_mk (by decide +kernel)) (fun h => absurd h (by decide)) (by decide) ?_
        refine x_iconst (dat d_Mo_areWorlds 24 rfl) (by decide) ?_
        refine x_zret (dat d_Mo_areWorlds 25 rfl) rfl (by decide) ?_
        first
        | exact kf σ (Or.inl (fun z => n01 z.1)) A (MoF.rfl σ)
        | exact kf σ1 (Or.inl (fun z => m01 z.2)) A1 F
        | exact kf σ1 (Or.inr ⟨⟨⟨n0, n1⟩, m0, m1⟩, by omega⟩) A1 F
        | (refine kt _ t0 ⟨n0, n1⟩ ⟨m0, m1⟩ (by omega) (((KnX.pln H P Z1 _).put (by decide)).put (by decide)) ⟨⟨by rw [up_ni (by decide), up_s], by omega, by omega⟩, fun j j0 j1 => ?_, A1.2.2.2 m m0 m1⟩ up_s (A.same ((F.put (by decide)).put (by decide))) ((F.put (by decide)).put (by decide))
           rw [up_ne (by decide), up_ne (by decide), A1.1 _ (by omega) (by omega), bk_at j0 j1])
      · refine x_iconst (dat d_Mo_areWorlds 13 rfl) (by decide) ?_
        refine x_zret (dat d_Mo_areWorlds 14 rfl) rfl (by decide) ?_
        first
        | exact kf σ (Or.inl (fun z => n01 z.1)) A (MoF.rfl σ)
        | exact kf σ1 (Or.inl (fun z => m01 z.2)) A1 F
        | exact kf σ1 (Or.inr ⟨⟨⟨n0, n1⟩, m0, m1⟩, by omega⟩) A1 F
        | (refine kt _ t0 ⟨n0, n1⟩ ⟨m0, m1⟩ (by omega) (((KnX.pln H P Z1 _).put (by decide)).put (by decide)) ⟨⟨by rw [up_ni (by decide), up_s], by omega, by omega⟩, fun j j0 j1 => ?_, A1.2.2.2 m m0 m1⟩ up_s (A.same ((F.put (by decide)).put (by decide))) ((F.put (by decide)).put (by decide))
           rw [up_ne (by decide), up_ne (by decide), A1.1 _ (by omega) (by omega), bk_at j0 j1])
    · show Wx g y_Mo_areWorlds Z K 14 [vR 174, vI n, vI m] [vI 0] σ1
      refine x_if_eq (tgt := 27) (dat d_Mo_areWorlds 8 rfl) (by decide) (fun c_14 => ?_) (fun h => absurd h (by decide))
      refine x_iconst (dat d_Mo_areWorlds 13 rfl) (by decide) ?_
      refine x_zret (dat d_Mo_areWorlds 14 rfl) rfl (by decide) ?_
      first
      | exact kf σ (Or.inl (fun z => n01 z.1)) A (MoF.rfl σ)
      | exact kf σ1 (Or.inl (fun z => m01 z.2)) A1 F
      | exact kf σ1 (Or.inr ⟨⟨⟨n0, n1⟩, m0, m1⟩, by omega⟩) A1 F
      | (refine kt _ t0 ⟨n0, n1⟩ ⟨m0, m1⟩ (by omega) (((KnX.pln H P Z1 _).put (by decide)).put (by decide)) ⟨⟨by rw [up_ni (by decide), up_s], by omega, by omega⟩, fun j j0 j1 => ?_, A1.2.2.2 m m0 m1⟩ up_s (A.same ((F.put (by decide)).put (by decide))) ((F.put (by decide)).put (by decide))
         rw [up_ne (by decide), up_ne (by decide), A1.1 _ (by omega) (by omega), bk_at j0 j1])
  · show Wx g y_Mo_areWorlds Z K 5 [vR 174, vI n, vI m] [vI 0] σ
    refine x_if_eq (tgt := 27) (dat d_Mo_areWorlds 3 rfl) (by decide) (fun c_5 => ?_) (fun h => absurd h (by decide))
    refine x_iconst (dat d_Mo_areWorlds 13 rfl) (by decide) ?_
    refine x_zret (dat d_Mo_areWorlds 14 rfl) rfl (by decide) ?_
    first
    | exact kf σ (Or.inl (fun z => n01 z.1)) A (MoF.rfl σ)
    | exact kf σ1 (Or.inl (fun z => m01 z.2)) A1 F
    | exact kf σ1 (Or.inr ⟨⟨⟨n0, n1⟩, m0, m1⟩, by omega⟩) A1 F
    | (refine kt _ t0 ⟨n0, n1⟩ ⟨m0, m1⟩ (by omega) (((KnX.pln H P Z1 _).put (by decide)).put (by decide)) ⟨⟨by rw [up_ni (by decide), up_s], by omega, by omega⟩, fun j j0 j1 => ?_, A1.2.2.2 m m0 m1⟩ up_s (A.same ((F.put (by decide)).put (by decide))) ((F.put (by decide)).put (by decide))
       rw [up_ne (by decide), up_ne (by decide), A1.1 _ (by omega) (by omega), bk_at j0 j1])
theorem wDo_P {t b : Int → Int} : ∀ (n : Nat) (q : Int), wDo t b n q = true → q < t 6
  | 0, q, h => by simpa [wDo] using h
  | n + 1, q, h => by
    simp only [wDo, Bool.and_eq_true] at h
    exact wDo_P n q h.1
theorem sp_Mo_counts {b0 : Int} (H0 : KnX σ t t0 [179]) (B : BkX σ b0 b) (e60 : σ 174 60 = runT t) (r0 : runT t ≤ 1024) (k : ∀ σ' : xS, KnX σ' t t0 [179] → σ' 174 60 = runT t → σ' 174 61 = wct t b (runT t).toNat → Msk 8 (σ' 174 62) (wDo t b (runT t).toNat) → Msk 8 (σ' 174 63) (wDa t b (runT t).toNat) → MoF σ' σ → K none σ') : Mt g y_Mo_counts [vR 174] σ K := by
  have hT := H0.1.2
  have t6 := hT.2.2.2.2.2.2.1
  have b8 := prN_b8 hT (p := (t 6).toNat) (by omega)
  have er : runT t = prN t (t 6).toNat := rfl
  have hf : Msk 8 (ishl 1 (t 6) - 1) (fun q => decide (q < t 6)) := Msk.full (n := 8) (by decide) (by omega) (by omega)
  have hf2 : 0 ≤ ishl 1 (t 6) - 1 ∧ ishl 1 (t 6) - 1 < 256 := ⟨hf.1, hf.2.1⟩
  have lp : ∀ (Z : xZ) (d i : Nat) (σ1 : xS), i + d = (runT t).toNat → KnX σ1 t t0 [179] → BkX σ1 b0 b → σ1 174 60 = runT t → σ1 174 61 = wct t b i → Msk 8 (σ1 174 62) (wDo t b i) → Msk 8 (σ1 174 63) (wDa t b i) → MoF σ1 σ → Wx g y_Mo_counts Z K 24 [vR 174, vI (i : Int)] [] σ1 := by
    intro Z d
    induction d with
    | zero =>
      intro i σ1 hd H1 B1 e60 e61 e62 e63 F
      have e : i = (runT t).toNat := by omega
      rw [e] at e61 e62 e63
      refine x_iload_n (dat d_Mo_counts 16 rfl) rfl rfl ?_
      refine x_aload_n (dat d_Mo_counts 17 rfl) rfl rfl ?_
      refine x_geti (ji := 60) (v := runT t) (dat d_Mo_counts 18 rfl) rfl f_Mo_394 (oi_mk (by decide +kernel)) (e60) ?_
      refine x_icmp_ge (tgt := 102) (dat d_Mo_counts 19 rfl) (by decide) (fun c_29 => ?_) (fun c_29 => (by omega))
      refine x_ret (dat d_Mo_counts 60 rfl) rfl ?_
      exact k σ1 H1 e60 e61 e62 e63 F
    | succ d ih =>
      intro i σ1 hd H1 B1 e60 e61 e62 e63 F
      have wb := wct_bd t b i
      have s1 : wct t b (i + 1) = wct t b i + (if isW t b i = true then 1 else 0) := rfl
      have s2 : ∀ q : Int, wDo t b (i + 1) q = (wDo t b i q && (!isW t b i || dedB (wC t i) q)) := fun _ => rfl
      have s3 : ∀ q : Int, wDa t b (i + 1) q = (wDa t b i q || (isW t b i && dedB (wC t i) q)) := fun _ => rfl
      refine x_iload_n (dat d_Mo_counts 16 rfl) rfl rfl ?_
      refine x_aload_n (dat d_Mo_counts 17 rfl) rfl rfl ?_
      refine x_geti (ji := 60) (v := runT t) (dat d_Mo_counts 18 rfl) rfl f_Mo_394 (oi_mk (by decide +kernel)) (e60) ?_
      refine x_icmp_ge (tgt := 102) (dat d_Mo_counts 19 rfl) (by decide) (fun c_29 => (by omega)) (fun c_29 => ?_)
      refine x_aload_n (dat d_Mo_counts 20 rfl) rfl rfl ?_
      refine x_iload_n (dat d_Mo_counts 21 rfl) rfl rfl ?_
      refine x_inv (As := [vI (i : Int)]) (dat d_Mo_counts 22 rfl) rfl c_Mo_takesUp l_Mo_406 (by decide) (rv_mo (by decide +kernel)) rfl rfl (Nat.le_of_ble_eq_true rfl) ?_
      refine sp_Mo_takesUp H1 (by omega) (by omega) (fun σ2 H2 T2 W2 O2 F2 => ?_)
      have B2 : BkX σ2 b0 b := B1.same (W2 59 (by decide)) (F2.2 175 (by decide))
      have g0 : σ2 174 60 = runT t := by rw [W2 60 (by decide)]; exact e60
      have g1 : σ2 174 61 = wct t b i := by rw [W2 61 (by decide)]; exact e61
      have g2 : Msk 8 (σ2 174 62) (wDo t b i) := by rw [W2 62 (by decide)]; exact e62
      have g3 : Msk 8 (σ2 174 63) (wDa t b i) := by rw [W2 63 (by decide)]; exact e63
      have g4 := T2.2
      have F3 : MoF σ2 σ := F.trans F2
      show Wx g y_Mo_counts Z K 37 [vR 174, vI (i : Int)] [] σ2
      refine x_aload_n (dat d_Mo_counts 23 rfl) rfl rfl ?_
      refine x_inv (As := []) (dat d_Mo_counts 24 rfl) rfl c_Mo_isWorld l_Mo_409 (by decide) (rv_mo (by decide +kernel)) rfl rfl (Nat.le_of_ble_eq_true rfl) ?_
      refine sp_Mo_isWorld H2 B2 T2 (fun wy => ?_) (fun wn => ?_)
      · show Wx g y_Mo_counts Z K 41 [vR 174, vI (i : Int)] [vI 1] σ2
        have u2 : ∀ v1 v2 v3 : Int, KnX (up (up (up σ2 174 61 v1) 174 62 v2) 174 63 v3) t t0 [179] := fun v1 v2 v3 => ((H2.put (by decide)).put (by decide)).put (by decide)
        have n2 : Msk 8 (iand (σ2 174 62) (ixor (σ2 174 35) (-1))) (wDo t b (i + 1)) := (g2.andn (by decide) g4).congr (fun q q0 q1 => by
          rw [s2, wy]
          cases hq : wDo t b i q with
          | false => rfl
          | true => unfold dedB; rw [show cS (wC t i) 0 = t 6 from rfl, decide_eq_true (wDo_P i q hq)]; rfl)
        have n3a : Msk 8 (iand (ishl 1 (t 6) - 1) (ixor (σ2 174 35) (-1))) (dedB (wC t i)) := (hf.andn (by decide) g4).congr (fun q q0 q1 => rfl)
        have n3 : Msk 8 (ior (σ2 174 63) (iand (ishl 1 (t 6) - 1) (ixor (σ2 174 35) (-1)))) (wDa t b (i + 1)) := (g3.lor (by decide) n3a).congr (fun q q0 q1 => by rw [s3, wy, Bool.true_and])
        rw [wy, if_pos rfl] at s1
        refine x_if_ne (tgt := 47) (dat d_Mo_counts 25 rfl) (by decide) (fun c_41 => ?_) (fun h => absurd h (by decide))
        refine x_aload_n (dat d_Mo_counts 27 rfl) rfl rfl ?_
        refine x_dup (dat d_Mo_counts 28 rfl) rfl ?_
        refine x_geti (ji := 61) (v := wct t b i) (dat d_Mo_counts 29 rfl) rfl f_Mo_397 (oi_mk (by decide +kernel)) (by exact g1) ?_
        refine x_iconst (dat d_Mo_counts 30 rfl) (by decide) ?_
        refine x_iadd (v := wct t b (i + 1)) (dat d_Mo_counts 31 rfl) (by exact s1.symm) (by omega) ?_
        refine x_puti (ji := 61) (x := (wct t b (i + 1))) (dat d_Mo_counts 32 rfl) rfl f_Mo_397w (oi_mk (by decide +kernel)) (fun h => absurd h (by decide)) (by decide) ?_
        refine x_aload_n (dat d_Mo_counts 33 rfl) rfl rfl ?_
        refine x_dup (dat d_Mo_counts 34 rfl) rfl ?_
        refine x_geti (ji := 62) (v := σ2 174 62) (dat d_Mo_counts 35 rfl) rfl f_Mo_400 (oi_mk (by decide +kernel)) (up_ni (by decide)) ?_
        refine x_aload_n (dat d_Mo_counts 36 rfl) rfl rfl ?_
        refine x_geti (ji := 35) (v := σ2 174 35) (dat d_Mo_counts 37 rfl) rfl f_Mo_286 (oi_mk (by decide +kernel)) (up_ni (by decide)) ?_
        refine x_iconst (dat d_Mo_counts 38 rfl) (by decide) ?_
        refine x_ixor (v := ixor (σ2 174 35) (-1)) (dat d_Mo_counts 39 rfl) rfl ?_
        refine x_iand (v := iand (σ2 174 62) (ixor (σ2 174 35) (-1))) (dat d_Mo_counts 40 rfl) rfl ?_
        refine x_puti (ji := 62) (x := (iand (σ2 174 62) (ixor (σ2 174 35) (-1)))) (dat d_Mo_counts 41 rfl) rfl f_Mo_400w (oi_mk (by decide +kernel)) (fun h => absurd h (by decide)) (by decide) ?_
        refine x_aload_n (dat d_Mo_counts 42 rfl) rfl rfl ?_
        refine x_dup (dat d_Mo_counts 43 rfl) rfl ?_
        refine x_geti (ji := 63) (v := σ2 174 63) (dat d_Mo_counts 44 rfl) rfl f_Mo_403 (oi_mk (by decide +kernel)) ((up_ni (by decide)).trans (up_ni (by decide))) ?_
        refine x_iconst (dat d_Mo_counts 45 rfl) (by decide) ?_
        refine x_aload_n (dat d_Mo_counts 46 rfl) rfl rfl ?_
        refine x_inv (As := []) (dat d_Mo_counts 47 rfl) rfl c_Mo_people l_Mo_202 (by decide) (rv_mo (by decide +kernel)) rfl rfl (Nat.le_of_ble_eq_true rfl) ?_
        refine sp_Mo_people ((H2.put (i := 61) (by decide)).put (i := 62) (by decide)).1.1 ?_
        show Wx g y_Mo_counts Z K 82 [vR 174, vI (i : Int)] [vI (t 6), vI 1, vI (σ2 174 63), vR 174] (up (up σ2 174 61 (wct t b (i + 1))) 174 62 (iand (σ2 174 62) (ixor (σ2 174 35) (-1))))
        refine x_ishl (v := ishl 1 (t 6)) (dat d_Mo_counts 48 rfl) rfl ?_
        refine x_iconst (dat d_Mo_counts 49 rfl) (by decide) ?_
        refine x_isub (v := (ishl 1 (t 6)) - 1) (dat d_Mo_counts 50 rfl) rfl (by omega) ?_
        refine x_aload_n (dat d_Mo_counts 51 rfl) rfl rfl ?_
        refine x_geti (ji := 35) (v := σ2 174 35) (dat d_Mo_counts 52 rfl) rfl f_Mo_286 (oi_mk (by decide +kernel)) ((up_ni (by decide)).trans (up_ni (by decide))) ?_
        refine x_iconst (dat d_Mo_counts 53 rfl) (by decide) ?_
        refine x_ixor (v := ixor (σ2 174 35) (-1)) (dat d_Mo_counts 54 rfl) rfl ?_
        refine x_iand (v := iand ((ishl 1 (t 6)) - 1) (ixor (σ2 174 35) (-1))) (dat d_Mo_counts 55 rfl) rfl ?_
        refine x_ior (v := ior (σ2 174 63) (iand ((ishl 1 (t 6)) - 1) (ixor (σ2 174 35) (-1)))) (dat d_Mo_counts 56 rfl) rfl ?_
        refine x_puti (ji := 63) (x := (ior (σ2 174 63) (iand ((ishl 1 (t 6)) - 1) (ixor (σ2 174 35) (-1))))) (dat d_Mo_counts 57 rfl) rfl f_Mo_403w (oi_mk (by decide +kernel)) (fun h => absurd h (by decide)) (by decide) ?_
        refine x_iinc (v' := ((i + 1 : Nat) : Int)) (L' := [vR 174, vI ((i + 1 : Nat) : Int)]) (dat d_Mo_counts 58 rfl) rfl (by decide) rfl (by omega) (by omega) rfl ?_
        refine x_goto (tgt := 24) (dat d_Mo_counts 59 rfl) (by decide) ?_
        first
        | exact ih (i + 1) _ (by omega) (u2 _ _ _) (B2.same (by rw [up_ni (by decide), up_ni (by decide), up_ni (by decide)]) (by rw [up_ne (by decide), up_ne (by decide), up_ne (by decide)])) (by rw [up_ni (by decide), up_ni (by decide), up_ni (by decide)]; exact g0) (by rw [up_ni (by decide), up_ni (by decide), up_s]) (by rw [up_ni (by decide), up_s]; exact n2) (by rw [up_s]; exact n3) (((F3.put (by decide)).put (by decide)).put (by decide))
        | exact ih (i + 1) _ (by omega) H2 B2 g0 (by rw [g1, s1]) n2 n3 F3
      · show Wx g y_Mo_counts Z K 41 [vR 174, vI (i : Int)] [vI 0] σ2
        have n2 : Msk 8 (σ2 174 62) (wDo t b (i + 1)) := g2.congr (fun q _ _ => by rw [s2, Bool.eq_false_iff.mpr wn]; cases wDo t b i q <;> rfl)
        have n3 : Msk 8 (σ2 174 63) (wDa t b (i + 1)) := g3.congr (fun q _ _ => by rw [s3, Bool.eq_false_iff.mpr wn]; cases wDa t b i q <;> rfl)
        rw [if_neg wn, Int.add_zero] at s1
        refine x_if_ne (tgt := 47) (dat d_Mo_counts 25 rfl) (by decide) (fun h => absurd h (by decide)) (fun c_41 => ?_)
        refine x_goto (tgt := 96) (dat d_Mo_counts 26 rfl) (by decide) ?_
        refine x_iinc (v' := ((i + 1 : Nat) : Int)) (L' := [vR 174, vI ((i + 1 : Nat) : Int)]) (dat d_Mo_counts 58 rfl) rfl (by decide) rfl (by omega) (by omega) rfl ?_
        refine x_goto (tgt := 24) (dat d_Mo_counts 59 rfl) (by decide) ?_
        first
        | exact ih (i + 1) _ (by omega) (u2 _ _ _) (B2.same (by rw [up_ni (by decide), up_ni (by decide), up_ni (by decide)]) (by rw [up_ne (by decide), up_ne (by decide), up_ne (by decide)])) (by rw [up_ni (by decide), up_ni (by decide), up_ni (by decide)]; exact g0) (by rw [up_ni (by decide), up_ni (by decide), up_s]) (by rw [up_ni (by decide), up_s]; exact n2) (by rw [up_s]; exact n3) (((F3.put (by decide)).put (by decide)).put (by decide))
        | exact ih (i + 1) _ (by omega) H2 B2 g0 (by rw [g1, s1]) n2 n3 F3
  refine x_enter 1 rfl rfl rfl (fun Z => ?_)
  show Wx g y_Mo_counts Z K 0 [vR 174, vU] [] σ
  refine x_aload_n (dat d_Mo_counts 0 rfl) rfl rfl ?_
  refine x_iconst (dat d_Mo_counts 1 rfl) (by decide) ?_
  refine x_puti (ji := 61) (x := (0)) (dat d_Mo_counts 2 rfl) rfl f_Mo_397w (oi_mk (by decide +kernel)) (fun h => absurd h (by decide)) (by decide) ?_
  refine x_aload_n (dat d_Mo_counts 3 rfl) rfl rfl ?_
  refine x_iconst (dat d_Mo_counts 4 rfl) (by decide) ?_
  refine x_aload_n (dat d_Mo_counts 5 rfl) rfl rfl ?_
  refine x_inv (As := []) (dat d_Mo_counts 6 rfl) rfl c_Mo_people l_Mo_202 (by decide) (rv_mo (by decide +kernel)) rfl rfl (Nat.le_of_ble_eq_true rfl) ?_
  refine sp_Mo_people (H0.put (i := 61) (by decide)).1.1 ?_
  show Wx g y_Mo_counts Z K 11 [vR 174, vU] [vI (t 6), vI 1, vR 174] (up σ 174 61 0)
  refine x_ishl (v := ishl 1 (t 6)) (dat d_Mo_counts 7 rfl) rfl ?_
  refine x_iconst (dat d_Mo_counts 8 rfl) (by decide) ?_
  refine x_isub (v := (ishl 1 (t 6)) - 1) (dat d_Mo_counts 9 rfl) rfl (by omega) ?_
  refine x_puti (ji := 62) (x := ((ishl 1 (t 6)) - 1)) (dat d_Mo_counts 10 rfl) rfl f_Mo_400w (oi_mk (by decide +kernel)) (fun h => absurd h (by decide)) (by decide) ?_
  refine x_aload_n (dat d_Mo_counts 11 rfl) rfl rfl ?_
  refine x_iconst (dat d_Mo_counts 12 rfl) (by decide) ?_
  refine x_puti (ji := 63) (x := (0)) (dat d_Mo_counts 13 rfl) rfl f_Mo_403w (oi_mk (by decide +kernel)) (fun h => absurd h (by decide)) (by decide) ?_
  refine x_iconst (dat d_Mo_counts 14 rfl) (by decide) ?_
  refine x_istore_n (L' := [vR 174, vI 0]) (dat d_Mo_counts 15 rfl) rfl (by decide) rfl rfl ?_
  refine lp Z (runT t).toNat 0 _ (by omega) (((H0.put (by decide)).put (by decide)).put (by decide)) (B.same (by rw [up_ni (by decide), up_ni (by decide), up_ni (by decide)]) (by rw [up_ne (by decide), up_ne (by decide), up_ne (by decide)])) (by rw [up_ni (by decide), up_ni (by decide), up_ni (by decide)]; exact e60) (by rw [up_ni (by decide), up_ni (by decide), up_s]; rfl) (by rw [up_ni (by decide), up_s]; exact hf) (by rw [up_s]; exact Msk.zero 8) ((((MoF.rfl σ).put (by decide)).put (by decide)).put (by decide))
theorem sp_Mo_worlds {m w : Int} (A : MoA σ a) (k : ∀ (r : Int) (σ' : xS), atB a n m (-1) (fun t b r => wldA t b w r) r → MoA σ' a → MoF σ' σ → K (some (vI r)) σ') : Mt g y_Mo_worlds [vR 174, vI n, vI m, vI w] σ K := by
  refine x_enter 0 rfl rfl rfl (fun Z => ?_)
  show Wx g y_Mo_worlds Z K 0 [vR 174, vI n, vI m, vI w] [] σ
  refine x_aload_n (dat d_Mo_worlds 0 rfl) rfl rfl ?_
  refine x_iload_n (dat d_Mo_worlds 1 rfl) rfl rfl ?_
  refine x_iload_n (dat d_Mo_worlds 2 rfl) rfl rfl ?_
  refine x_inv (As := [vI n, vI m]) (dat d_Mo_worlds 3 rfl) rfl c_Mo_areWorlds l_Mo_413 (by decide) (rv_mo (by decide +kernel)) rfl rfl (Nat.le_of_ble_eq_true rfl) ?_
  refine sp_Mo_areWorlds A (fun σ1 t0 hn hm hr H B e60 A1 F => ?_) (fun σ1 no A1 F => ?_)
  · show Wx g y_Mo_worlds Z K 6 [vR 174, vI n, vI m, vI w] [vI 1] σ1
    have kk : ∀ (r : Int) (σ2 : xS), wldA (tw a n) (bk a m) w r → MoF σ2 σ → K (some (vI r)) σ2 := fun r σ2 h F2 => k r σ2 ⟨fun z => absurd ⟨hn, hm⟩ z, fun _ => h⟩ (A.same F2) F2
    refine x_if_eq (tgt := 18) (dat d_Mo_worlds 4 rfl) (by decide) (fun h => absurd h (by decide)) (fun c_6 => ?_)
    refine x_iload_n (dat d_Mo_worlds 5 rfl) rfl rfl ?_
    refine x_iconst (dat d_Mo_worlds 6 rfl) (by decide) ?_
    refine x_iconst (dat d_Mo_worlds 7 rfl) (by decide) ?_
    refine x_invs (As := [vI w, vI 0, vI 3]) (dat d_Mo_worlds 8 rfl) rfl c_Mo_isIn l_Mo_136 (by decide) rfl rfl (Nat.le_of_ble_eq_true rfl) ?_
    refine sp_Mo_isIn (fun x1 x2 => ?_) (fun x1 => ?_)
    · show Wx g y_Mo_worlds Z K 15 [vR 174, vI n, vI m, vI w] [vI 1] σ1
      refine x_if_ne (tgt := 20) (dat d_Mo_worlds 9 rfl) (by decide) (fun c_15 => ?_) (fun h => absurd h (by decide))
      refine x_aload_n (dat d_Mo_worlds 12 rfl) rfl rfl ?_
      refine x_inv (As := []) (dat d_Mo_worlds 13 rfl) rfl c_Mo_counts l_Mo_416 (by decide) (rv_mo (by decide +kernel)) rfl rfl (Nat.le_of_ble_eq_true rfl) ?_
      refine sp_Mo_counts H B e60 hr (fun σ2 H2 g0 g1 g2 g3 F2 => ?_)
      have ng : ¬ (¬ (0 ≤ w ∧ w ≤ 3) ∨ ¬ runT (tw a n) ≤ 1024) := by omega
      have kk : ∀ r : Int, wldA (tw a n) (bk a m) w r → K (some (vI r)) σ2 := fun r h => kk r σ2 h (F.trans F2)
      show Wx g y_Mo_worlds Z K 24 [vR 174, vI n, vI m, vI w] [] σ2
      refine x_iload_n (dat d_Mo_worlds 14 rfl) rfl rfl ?_
      refine x_iconst (dat d_Mo_worlds 15 rfl) (by decide) ?_
      refine x_icmp_ge (tgt := 45) (dat d_Mo_worlds 16 rfl) (by decide) (fun c_26 => ?_) (fun c_26 => ?_)
      · refine x_aload_n (dat d_Mo_worlds 25 rfl) rfl rfl ?_
        refine x_geti (ji := 61) (v := wct (tw a n) (bk a m) (runT (tw a n)).toNat) (dat d_Mo_worlds 26 rfl) rfl f_Mo_397 (oi_mk (by decide +kernel)) (g1) ?_
        refine x_if_ne (tgt := 56) (dat d_Mo_worlds 27 rfl) (by decide) (fun c_49 => ?_) (fun c_49 => ?_)
        · refine x_iload_n (dat d_Mo_worlds 30 rfl) rfl rfl ?_
          refine x_iconst (dat d_Mo_worlds 31 rfl) (by decide) ?_
          refine x_icmp_ne (tgt := 68) (dat d_Mo_worlds 32 rfl) (by decide) (fun c_58 => ?_) (fun c_58 => ?_)
          · refine x_aload_n (dat d_Mo_worlds 36 rfl) rfl rfl ?_
            refine x_geti (ji := 63) (v := σ2 174 63) (dat d_Mo_worlds 37 rfl) rfl f_Mo_403 (oi_mk (by decide +kernel)) rfl ?_
            refine x_iret (dat d_Mo_worlds 38 rfl) rfl ?_
            first
            | exact kk
            | exact kk _ σ1 (by unfold wldA; rw [if_pos (Or.inl x1)]) F
            | (refine kk _ ?_
               unfold wldA
               rw [if_neg ng]
               first
               | (rw [if_pos (by omega)]; done)
               | (rw [if_neg (by omega), if_pos (by omega)]; done)
               | (rw [if_neg (by omega), if_neg (by omega), if_pos (by omega)]; done)
               | (rw [if_neg (by omega), if_neg (by omega), if_neg (by omega), if_pos (by omega)]; exact g2)
               | (rw [if_neg (by omega), if_neg (by omega), if_neg (by omega), if_neg (by omega)]; exact g3))
          · refine x_aload_n (dat d_Mo_worlds 33 rfl) rfl rfl ?_
            refine x_geti (ji := 62) (v := σ2 174 62) (dat d_Mo_worlds 34 rfl) rfl f_Mo_400 (oi_mk (by decide +kernel)) rfl ?_
            refine x_goto (tgt := 72) (dat d_Mo_worlds 35 rfl) (by decide) ?_
            refine x_iret (dat d_Mo_worlds 38 rfl) rfl ?_
            first
            | exact kk
            | exact kk _ σ1 (by unfold wldA; rw [if_pos (Or.inl x1)]) F
            | (refine kk _ ?_
               unfold wldA
               rw [if_neg ng]
               first
               | (rw [if_pos (by omega)]; done)
               | (rw [if_neg (by omega), if_pos (by omega)]; done)
               | (rw [if_neg (by omega), if_neg (by omega), if_pos (by omega)]; done)
               | (rw [if_neg (by omega), if_neg (by omega), if_neg (by omega), if_pos (by omega)]; exact g2)
               | (rw [if_neg (by omega), if_neg (by omega), if_neg (by omega), if_neg (by omega)]; exact g3))
        · refine x_iconst (dat d_Mo_worlds 28 rfl) (by decide) ?_
          refine x_goto (tgt := 72) (dat d_Mo_worlds 29 rfl) (by decide) ?_
          refine x_iret (dat d_Mo_worlds 38 rfl) rfl ?_
          first
          | exact kk
          | exact kk _ σ1 (by unfold wldA; rw [if_pos (Or.inl x1)]) F
          | (refine kk _ ?_
             unfold wldA
             rw [if_neg ng]
             first
             | (rw [if_pos (by omega)]; done)
             | (rw [if_neg (by omega), if_pos (by omega)]; done)
             | (rw [if_neg (by omega), if_neg (by omega), if_pos (by omega)]; done)
             | (rw [if_neg (by omega), if_neg (by omega), if_neg (by omega), if_pos (by omega)]; exact g2)
             | (rw [if_neg (by omega), if_neg (by omega), if_neg (by omega), if_neg (by omega)]; exact g3))
      · refine x_iload_n (dat d_Mo_worlds 17 rfl) rfl rfl ?_
        refine x_if_ne (tgt := 40) (dat d_Mo_worlds 18 rfl) (by decide) (fun c_30 => ?_) (fun c_30 => ?_)
        · refine x_aload_n (dat d_Mo_worlds 22 rfl) rfl rfl ?_
          refine x_geti (ji := 60) (v := runT (tw a n)) (dat d_Mo_worlds 23 rfl) rfl f_Mo_394 (oi_mk (by decide +kernel)) (g0) ?_
          refine x_iret (dat d_Mo_worlds 24 rfl) rfl ?_
          first
          | exact kk
          | exact kk _ σ1 (by unfold wldA; rw [if_pos (Or.inl x1)]) F
          | (refine kk _ ?_
             unfold wldA
             rw [if_neg ng]
             first
             | (rw [if_pos (by omega)]; done)
             | (rw [if_neg (by omega), if_pos (by omega)]; done)
             | (rw [if_neg (by omega), if_neg (by omega), if_pos (by omega)]; done)
             | (rw [if_neg (by omega), if_neg (by omega), if_neg (by omega), if_pos (by omega)]; exact g2)
             | (rw [if_neg (by omega), if_neg (by omega), if_neg (by omega), if_neg (by omega)]; exact g3))
        · refine x_aload_n (dat d_Mo_worlds 19 rfl) rfl rfl ?_
          refine x_geti (ji := 61) (v := wct (tw a n) (bk a m) (runT (tw a n)).toNat) (dat d_Mo_worlds 20 rfl) rfl f_Mo_397 (oi_mk (by decide +kernel)) (g1) ?_
          refine x_goto (tgt := 44) (dat d_Mo_worlds 21 rfl) (by decide) ?_
          refine x_iret (dat d_Mo_worlds 24 rfl) rfl ?_
          first
          | exact kk
          | exact kk _ σ1 (by unfold wldA; rw [if_pos (Or.inl x1)]) F
          | (refine kk _ ?_
             unfold wldA
             rw [if_neg ng]
             first
             | (rw [if_pos (by omega)]; done)
             | (rw [if_neg (by omega), if_pos (by omega)]; done)
             | (rw [if_neg (by omega), if_neg (by omega), if_pos (by omega)]; done)
             | (rw [if_neg (by omega), if_neg (by omega), if_neg (by omega), if_pos (by omega)]; exact g2)
             | (rw [if_neg (by omega), if_neg (by omega), if_neg (by omega), if_neg (by omega)]; exact g3))
    · show Wx g y_Mo_worlds Z K 15 [vR 174, vI n, vI m, vI w] [vI 0] σ1
      refine x_if_ne (tgt := 20) (dat d_Mo_worlds 9 rfl) (by decide) (fun h => absurd h (by decide)) (fun c_15 => ?_)
      refine x_iconst (dat d_Mo_worlds 10 rfl) (by decide) ?_
      refine x_iret (dat d_Mo_worlds 11 rfl) rfl ?_
      first
      | exact kk
      | exact kk _ σ1 (by unfold wldA; rw [if_pos (Or.inl x1)]) F
      | (refine kk _ ?_
         unfold wldA
         rw [if_neg ng]
         first
         | (rw [if_pos (by omega)]; done)
         | (rw [if_neg (by omega), if_pos (by omega)]; done)
         | (rw [if_neg (by omega), if_neg (by omega), if_pos (by omega)]; done)
         | (rw [if_neg (by omega), if_neg (by omega), if_neg (by omega), if_pos (by omega)]; exact g2)
         | (rw [if_neg (by omega), if_neg (by omega), if_neg (by omega), if_neg (by omega)]; exact g3))
  · show Wx g y_Mo_worlds Z K 6 [vR 174, vI n, vI m, vI w] [vI 0] σ1
    have kk : K (some (vI (-1))) σ1 := k _ σ1 (no.elim (fun z => ⟨fun _ => rfl, fun y => absurd y z⟩) (fun z => ⟨fun y => absurd z.1 y, fun _ => by show wldA (tw a n) (bk a m) w (-1); unfold wldA; rw [if_pos (Or.inr z.2)]⟩)) A1 F
    refine x_if_eq (tgt := 18) (dat d_Mo_worlds 4 rfl) (by decide) (fun c_6 => ?_) (fun h => absurd h (by decide))
    refine x_iconst (dat d_Mo_worlds 10 rfl) (by decide) ?_
    refine x_iret (dat d_Mo_worlds 11 rfl) rfl ?_
    first
    | exact kk
    | exact kk _ σ1 (by unfold wldA; rw [if_pos (Or.inl x1)]) F
    | (refine kk _ ?_
       unfold wldA
       rw [if_neg ng]
       first
       | (rw [if_pos (by omega)]; done)
       | (rw [if_neg (by omega), if_pos (by omega)]; done)
       | (rw [if_neg (by omega), if_neg (by omega), if_pos (by omega)]; done)
       | (rw [if_neg (by omega), if_neg (by omega), if_neg (by omega), if_pos (by omega)]; exact g2)
       | (rw [if_neg (by omega), if_neg (by omega), if_neg (by omega), if_neg (by omega)]; exact g3))
end
