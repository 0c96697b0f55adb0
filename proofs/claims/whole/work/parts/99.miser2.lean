/-! the twin's answers: the miser, the gloves by which nobody changes any more */ -/
section
variable {g : xG} {K : Option MV → xS → Prop} {σ σ0 : xS} {t : Int → Int} {t0 : Int} {a : Int → Int} {n : Int} {C : Cf}
theorem glC_0 (t : Int → Int) : glC t (fun _ => false) = cfg t := by
  refine Prod.ext rfl (Prod.ext (funext fun q => ?_) rfl)
  show (cGl (cfg t) q || false) = cGl (cfg t) q
  exact Bool.or_false _
theorem glC_sim {t : Int → Int} {m : Int} {s : Int → Bool} (hm : Msk 8 m s) (h6 : t 6 ≤ 8) : Sim (glC t s) (mGl (cfg t) (fun q => cGl (cfg t) q || tb m q)) := by
  refine ⟨⟨fun _ => rfl, fun _ _ _ => rfl⟩, fun p p0 p1 => ?_, rfl, rfl, rfl⟩
  show (cGl (cfg t) p || tb m p) = (cGl (cfg t) p || s p)
  have p1' : p < t 6 := p1
  rw [hm.2.2 p p0 (by omega)]
theorem sp_Mo_endBy {p m : Int} {s : Int → Bool} (H : KnX σ t t0 [13]) (hm : Msk 8 m s) (p0 : 0 ≤ p) (p1 : p < t 6) (k : ∀ σ' : xS, KnX σ' t t0 [13] → MvF σ' (up σ 174 13 m) → K (some (vI (brE (glC t s) p))) σ') : Mt g y_Mo_endBy [vR 174, vI p, vI m] σ K := by
  have t6 := H.1.2.2.2.2.2.2.2.1
  have H2 : KnX (up σ 174 13 m) t t0 [13] := H.put (by decide)
  have M2 := kn_glv H2 (m := m) hm.1 hm.2.1 up_s
  have es : brE (mGl (cfg t) (fun q => cGl (cfg t) q || tb m q)) p = brE (glC t s) p := brE_sim (glC_sim hm (by omega)) (by show 0 ≤ t 6; omega) p0 p1
  refine x_enter 0 rfl rfl rfl (fun Z => ?_)
  show Wx g y_Mo_endBy Z K 0 [vR 174, vI p, vI m] [] σ
  refine x_aload_n (dat d_Mo_endBy 0 rfl) rfl rfl ?_
  refine x_iload_n (dat d_Mo_endBy 1 rfl) rfl rfl ?_
  refine x_puti (ji := 13) (x := (m)) (dat d_Mo_endBy 2 rfl) rfl f_Mo_214w (oi_mk (by decide +kernel)) (fun h => absurd h (by decide)) (by decide) ?_
  refine x_aload_n (dat d_Mo_endBy 3 rfl) rfl rfl ?_
  refine x_inv (As := []) (dat d_Mo_endBy 4 rfl) rfl c_Mo_runs l_Mo_336 (by decide) (rv_mo (by decide +kernel)) rfl rfl (Nat.le_of_ble_eq_true rfl) ?_
  refine sp_Kn_runs H2 M2 (Or.inl rfl) (fun σ2 R M3 H3 W3 => ?_)
  show Wx g y_Mo_endBy Z K 9 [vR 174, vI p, vI m] [] σ2
  refine x_aload_n (dat d_Mo_endBy 5 rfl) rfl rfl ?_
  refine x_iload_n (dat d_Mo_endBy 6 rfl) rfl rfl ?_
  refine x_inv (As := [vI p]) (dat d_Mo_endBy 7 rfl) rfl c_Mo_endOf l_Mo_382 (by decide) (rv_mo (by decide +kernel)) rfl rfl (Nat.le_of_ble_eq_true rfl) ?_
  refine sp_Mo_endOf M3 R p0 p1 ?_
  rw [es]
  show Wx g y_Mo_endBy Z K 14 [vR 174, vI p, vI m] [vI (brE (glC t s) p)] σ2
  refine x_iret (dat d_Mo_endBy 8 rfl) rfl ?_
  exact k σ2 H3 W3
theorem brG_bd (hT : TownOk t) (s : Int → Bool) {p : Int} (p0 : 0 ≤ p) (p1 : p < t 6) : 0 ≤ brE (glC t s) p ∧ brE (glC t s) p ≤ 294 := rst_bd ((cfg_ok hT).glv _) _ p0 p1
/-- one round of changes -/
theorem lp_Mo_ch {Z : xZ} {S : Int → Bool} {r : Int} (k : ∀ (σ' : xS) (m gg : Int) (w3 : MV), Msk 8 m (chN t S (t 6).toNat).1 → (gg = if (chN t S (t 6).toNat).2 = true then 1 else 0) → KnX σ' t t0 [13] → σ' 174 65 = r → MoF σ' σ0 → Wx g y_Mo_rest Z K 9 [vR 174, vI m, vI gg, w3] [] σ') : ∀ (d i : Nat) (σ1 : xS) (m gg : Int) (s : Int → Bool) (ch : Bool), i + d = (t 6).toNat → chN t S i = (s, ch) → Msk 8 m s → (gg = if ch = true then 1 else 0) → KnX σ1 t t0 [13] → σ1 174 65 = r → MoF σ1 σ0 → Wx g y_Mo_rest Z K 36 [vR 174, vI m, vI gg, vI (i : Int)] [] σ1 := by
  intro d
  induction d with
  | zero =>
    intro i σ1 m gg s ch hd hs hm hg H e65 F
    have t6 := H.1.2.2.2.2.2.2.2.1
    have e : i = (t 6).toNat := by omega
    rw [e] at hs
    rw [hs] at k
    refine x_iload_n (dat d_Mo_rest 23 rfl) rfl rfl ?_
    refine x_aload_n (dat d_Mo_rest 24 rfl) rfl rfl ?_
    refine x_inv (As := []) (dat d_Mo_rest 25 rfl) rfl c_Mo_people l_Mo_202 (by decide) (rv_mo (by decide +kernel)) rfl rfl (Nat.le_of_ble_eq_true rfl) ?_
    refine sp_Mo_people H.1.1 ?_
    show Wx g y_Mo_rest Z K 41 [vR 174, vI m, vI gg, vI (i : Int)] [vI (t 6), vI (i : Int)] σ1
    refine x_icmp_ge (tgt := 90) (dat d_Mo_rest 26 rfl) (by decide) (fun c_41 => ?_) (fun c_41 => (by omega))
    refine x_goto (tgt := 9) (dat d_Mo_rest 57 rfl) (by decide) ?_
    exact k σ1 m gg _ hm hg H e65 F
  | succ d ih =>
    intro i σ1 m gg s ch hd hs hm hg H e65 F
    have hT := H.1.2
    have t6 := hT.2.2.2.2.2.2.1
    have ho : Msk 8 (ishl 1 (i : Int)) (fun q => decide (q = (i : Int))) := Msk.one (n := 8) (by decide) (by omega) (by omega)
    have hx : Msk 8 (ixor m (ishl 1 (i : Int))) (tgl s (i : Int)) := Msk.lxor (by decide) hm ho
    have bo : 0 ≤ ishl 1 (i : Int) ∧ ishl 1 (i : Int) < 256 := ⟨ho.1, ho.2.1⟩
    have bm : 0 ≤ m ∧ m < 256 := ⟨hm.1, hm.2.1⟩
    have st : chN t S (i + 1) = if chB t s (i : Int) = true then (tgl s (i : Int), true) else (s, ch) := by
      show (if chB t (chN t S i).1 (i : Int) = true then (tgl (chN t S i).1 (i : Int), true) else chN t S i) = _
      rw [hs]
    have em : t (20 + 17 * (i : Int) + 0) = mnT t (i : Int) := by unfold mnT; congr 1
    have eg : cGl (cfg t) (i : Int) = decide (mnT t (i : Int) = 3) := rfl
    have cb : chB t s (i : Int) = (!decide (mnT t (i : Int) = 3) && decide (brE (glC t s) (i : Int) < brE (glC t (tgl s (i : Int))) (i : Int))) := rfl
    have nx : ∀ (σ2 : xS) (m' gg' : Int) (s' : Int → Bool) (ch' : Bool), chN t S (i + 1) = (s', ch') → Msk 8 m' s' → (gg' = if ch' = true then 1 else 0) → KnX σ2 t t0 [13] → σ2 174 65 = r → MoF σ2 σ0 → Wx g y_Mo_rest Z K 36 [vR 174, vI m', vI gg', vI ((i + 1 : Nat) : Int)] [] σ2 := fun σ2 m' gg' s' ch' e h1 h2 H3 e3 F3 => ih (i + 1) σ2 m' gg' s' ch' (by omega) e h1 h2 H3 e3 F3
    refine x_iload_n (dat d_Mo_rest 23 rfl) rfl rfl ?_
    refine x_aload_n (dat d_Mo_rest 24 rfl) rfl rfl ?_
    refine x_inv (As := []) (dat d_Mo_rest 25 rfl) rfl c_Mo_people l_Mo_202 (by decide) (rv_mo (by decide +kernel)) rfl rfl (Nat.le_of_ble_eq_true rfl) ?_
    refine sp_Mo_people H.1.1 ?_
    show Wx g y_Mo_rest Z K 41 [vR 174, vI m, vI gg, vI (i : Int)] [vI (t 6), vI (i : Int)] σ1
    refine x_icmp_ge (tgt := 90) (dat d_Mo_rest 26 rfl) (by decide) (fun c_41 => (by omega)) (fun c_41 => ?_)
    refine x_aload_n (dat d_Mo_rest 27 rfl) rfl rfl ?_
    refine x_iload_n (dat d_Mo_rest 28 rfl) rfl rfl ?_
    refine x_iconst (dat d_Mo_rest 29 rfl) (by decide) ?_
    refine x_inv (As := [vI (i : Int), vI 0]) (dat d_Mo_rest 30 rfl) rfl c_Mo_personOf l_Mo_211 (by decide) (rv_mo (by decide +kernel)) rfl rfl (Nat.le_of_ble_eq_true rfl) ?_
    refine sp_Mo_personOf H.1.1 (by omega) (by omega) (by decide) (by decide) ?_
    rw [em]
    show Wx g y_Mo_rest Z K 50 [vR 174, vI m, vI gg, vI (i : Int)] [vI (mnT t (i : Int))] σ1
    refine x_iconst (dat d_Mo_rest 31 rfl) (by decide) ?_
    refine x_icmp_eq (tgt := 84) (dat d_Mo_rest 32 rfl) (by decide) (fun c_51 => ?_) (fun c_51 => ?_)
    · refine x_iinc (v' := ((i + 1 : Nat) : Int)) (L' := [vR 174, vI m, vI gg, vI ((i + 1 : Nat) : Int)]) (dat d_Mo_rest 55 rfl) rfl (by decide) rfl (by omega) (by omega) rfl ?_
      refine x_goto (tgt := 36) (dat d_Mo_rest 56 rfl) (by decide) ?_
      first
      | exact nx _ _ _ _ true (by rw [st, cb, decide_eq_false (show ¬ mnT t (i : Int) = 3 by omega), decide_eq_true (show brE (glC t s) (i : Int) < brE (glC t (tgl s (i : Int))) (i : Int) by omega), if_pos (show (!false && true) = true from rfl)]) hx rfl H3 e3 F3
      | exact nx _ _ _ _ _ (by rw [st, cb, decide_eq_false (show ¬ brE (glC t s) (i : Int) < brE (glC t (tgl s (i : Int))) (i : Int) by omega), Bool.and_false, if_neg (by decide)]) hm hg H3 e3 F3
      | exact nx _ _ _ _ _ (by rw [st, cb, decide_eq_true (show mnT t (i : Int) = 3 by omega), Bool.not_true, Bool.false_and, if_neg (by decide)]) hm hg H e65 F
    · refine x_aload_n (dat d_Mo_rest 33 rfl) rfl rfl ?_
      refine x_iload_n (dat d_Mo_rest 34 rfl) rfl rfl ?_
      refine x_iload_n (dat d_Mo_rest 35 rfl) rfl rfl ?_
      refine x_iconst (dat d_Mo_rest 36 rfl) (by decide) ?_
      refine x_iload_n (dat d_Mo_rest 37 rfl) rfl rfl ?_
      refine x_ishl (v := ishl 1 (i : Int)) (dat d_Mo_rest 38 rfl) rfl ?_
      refine x_ixor (v := ixor m (ishl 1 (i : Int))) (dat d_Mo_rest 39 rfl) rfl ?_
      refine x_inv (As := [vI (i : Int), vI (ixor m (ishl 1 (i : Int)))]) (dat d_Mo_rest 40 rfl) rfl c_Mo_endBy l_Mo_425 (by decide) (rv_mo (by decide +kernel)) rfl rfl (Nat.le_of_ble_eq_true rfl) ?_
      refine sp_Mo_endBy H hx (by omega) (by omega) (fun σ2 H2 W2 => ?_)
      have e2 : σ2 174 65 = r := by rw [W2.at (by decide), up_ni (by decide)]; exact e65
      have F2 : MoF σ2 σ0 := (F.put (by decide)).trans W2.mo
      show Wx g y_Mo_rest Z K 64 [vR 174, vI m, vI gg, vI (i : Int)] [vI (brE (glC t (tgl s (i : Int))) (i : Int))] σ2
      refine x_aload_n (dat d_Mo_rest 41 rfl) rfl rfl ?_
      refine x_iload_n (dat d_Mo_rest 42 rfl) rfl rfl ?_
      refine x_iload_n (dat d_Mo_rest 43 rfl) rfl rfl ?_
      refine x_inv (As := [vI (i : Int), vI m]) (dat d_Mo_rest 44 rfl) rfl c_Mo_endBy l_Mo_425 (by decide) (rv_mo (by decide +kernel)) rfl rfl (Nat.le_of_ble_eq_true rfl) ?_
      refine sp_Mo_endBy H2 hm (by omega) (by omega) (fun σ3 H3 W3 => ?_)
      have e3 : σ3 174 65 = r := by rw [W3.at (by decide), up_ni (by decide)]; exact e2
      have F3 : MoF σ3 σ0 := (F2.put (by decide)).trans W3.mo
      show Wx g y_Mo_rest Z K 70 [vR 174, vI m, vI gg, vI (i : Int)] [vI (brE (glC t s) (i : Int)), vI (brE (glC t (tgl s (i : Int))) (i : Int))] σ3
      refine x_icmp_gt (tgt := 76) (dat d_Mo_rest 45 rfl) (by decide) (fun c_70 => ?_) (fun c_70 => ?_)
      · refine x_iload_n (dat d_Mo_rest 47 rfl) rfl rfl ?_
        refine x_iconst (dat d_Mo_rest 48 rfl) (by decide) ?_
        refine x_iload_n (dat d_Mo_rest 49 rfl) rfl rfl ?_
        refine x_ishl (v := ishl 1 (i : Int)) (dat d_Mo_rest 50 rfl) rfl ?_
        refine x_ixor (v := ixor m (ishl 1 (i : Int))) (dat d_Mo_rest 51 rfl) rfl ?_
        refine x_istore_n (L' := [vR 174, vI (ixor m (ishl 1 (i : Int))), vI gg, vI (i : Int)]) (dat d_Mo_rest 52 rfl) rfl (by decide) rfl rfl ?_
        refine x_iconst (dat d_Mo_rest 53 rfl) (by decide) ?_
        refine x_istore_n (L' := [vR 174, vI (ixor m (ishl 1 (i : Int))), vI 1, vI (i : Int)]) (dat d_Mo_rest 54 rfl) rfl (by decide) rfl rfl ?_
        refine x_iinc (v' := ((i + 1 : Nat) : Int)) (L' := [vR 174, vI (ixor m (ishl 1 (i : Int))), vI 1, vI ((i + 1 : Nat) : Int)]) (dat d_Mo_rest 55 rfl) rfl (by decide) rfl (by omega) (by omega) rfl ?_
        refine x_goto (tgt := 36) (dat d_Mo_rest 56 rfl) (by decide) ?_
        first
        | exact nx _ _ _ _ true (by rw [st, cb, decide_eq_false (show ¬ mnT t (i : Int) = 3 by omega), decide_eq_true (show brE (glC t s) (i : Int) < brE (glC t (tgl s (i : Int))) (i : Int) by omega), if_pos (show (!false && true) = true from rfl)]) hx rfl H3 e3 F3
        | exact nx _ _ _ _ _ (by rw [st, cb, decide_eq_false (show ¬ brE (glC t s) (i : Int) < brE (glC t (tgl s (i : Int))) (i : Int) by omega), Bool.and_false, if_neg (by decide)]) hm hg H3 e3 F3
        | exact nx _ _ _ _ _ (by rw [st, cb, decide_eq_true (show mnT t (i : Int) = 3 by omega), Bool.not_true, Bool.false_and, if_neg (by decide)]) hm hg H e65 F
      · refine x_goto (tgt := 84) (dat d_Mo_rest 46 rfl) (by decide) ?_
        refine x_iinc (v' := ((i + 1 : Nat) : Int)) (L' := [vR 174, vI m, vI gg, vI ((i + 1 : Nat) : Int)]) (dat d_Mo_rest 55 rfl) rfl (by decide) rfl (by omega) (by omega) rfl ?_
        refine x_goto (tgt := 36) (dat d_Mo_rest 56 rfl) (by decide) ?_
        first
        | exact nx _ _ _ _ true (by rw [st, cb, decide_eq_false (show ¬ mnT t (i : Int) = 3 by omega), decide_eq_true (show brE (glC t s) (i : Int) < brE (glC t (tgl s (i : Int))) (i : Int) by omega), if_pos (show (!false && true) = true from rfl)]) hx rfl H3 e3 F3
        | exact nx _ _ _ _ _ (by rw [st, cb, decide_eq_false (show ¬ brE (glC t s) (i : Int) < brE (glC t (tgl s (i : Int))) (i : Int) by omega), Bool.and_false, if_neg (by decide)]) hm hg H3 e3 F3
        | exact nx _ _ _ _ _ (by rw [st, cb, decide_eq_true (show mnT t (i : Int) = 3 by omega), Bool.not_true, Bool.false_and, if_neg (by decide)]) hm hg H e65 F
theorem sp_Mo_rest (H : KnX σ t t0 [13]) (k : ∀ (σ' : xS) (m : Int), Msk 8 m (rdN t 20).1 → σ' 174 65 = (rdN t 20).2 → MoF σ' σ → K (some (vI m)) σ') : Mt g y_Mo_rest [vR 174] σ K := by
  have lp : ∀ (Z : xZ) (d j : Nat) (σ1 : xS) (m gg v : Int) (s : Int → Bool) (w3 : MV), j + d = 20 → rdN t j = (s, v) → Msk 8 m s → ((gg = 1 ∧ v = -1) ∨ (gg = 0 ∧ v ≠ -1 ∧ v = (j : Int))) → KnX σ1 t t0 [13] → σ1 174 65 = (j : Int) → MoF σ1 σ → Wx g y_Mo_rest Z K 9 [vR 174, vI m, vI gg, w3] [] σ1 := by
    intro Z d
    induction d with
    | zero =>
      intro j σ1 m gg v s w3 hd hs hm hg H1 e65 F
      have e : j = 20 := by omega
      rw [e] at hs
      rw [hs] at k
      dsimp only at k
      refine x_iload_n (dat d_Mo_rest 7 rfl) rfl rfl ?_
      refine x_if_eq (tgt := 93) (dat d_Mo_rest 8 rfl) (by decide) (fun c_10 => ?_) (fun c_10 => ?_)
      · refine x_iload_n (dat d_Mo_rest 58 rfl) rfl rfl ?_
        refine x_if_eq (tgt := 102) (dat d_Mo_rest 59 rfl) (by decide) (fun c_94 => ?_) (fun c_94 => ?_)
        · refine x_iload_n (dat d_Mo_rest 63 rfl) rfl rfl ?_
          refine x_iret (dat d_Mo_rest 64 rfl) rfl ?_
          first
          | exact k _ m hm (by rw [e65]; omega) F
          | exact k _ m hm (by rw [up_s]; omega) (F.put (by decide))
        · refine x_aload_n (dat d_Mo_rest 60 rfl) rfl rfl ?_
          refine x_iconst (dat d_Mo_rest 61 rfl) (by decide) ?_
          refine x_puti (ji := 65) (x := ((-1))) (dat d_Mo_rest 62 rfl) rfl f_Mo_422w (oi_mk (by decide +kernel)) (fun h => absurd h (by decide)) (by decide) ?_
          refine x_iload_n (dat d_Mo_rest 63 rfl) rfl rfl ?_
          refine x_iret (dat d_Mo_rest 64 rfl) rfl ?_
          first
          | exact k _ m hm (by rw [e65]; omega) F
          | exact k _ m hm (by rw [up_s]; omega) (F.put (by decide))
      · refine x_aload_n (dat d_Mo_rest 9 rfl) rfl rfl ?_
        refine x_geti (ji := 65) (v := (j : Int)) (dat d_Mo_rest 10 rfl) rfl f_Mo_422 (oi_mk (by decide +kernel)) (e65) ?_
        refine x_bipush (dat d_Mo_rest 11 rfl) (by decide) (by decide) ?_
        refine x_icmp_ge (tgt := 93) (dat d_Mo_rest 12 rfl) (by decide) (fun c_19 => ?_) (fun c_19 => (by omega))
        refine x_iload_n (dat d_Mo_rest 58 rfl) rfl rfl ?_
        refine x_if_eq (tgt := 102) (dat d_Mo_rest 59 rfl) (by decide) (fun c_94 => ?_) (fun c_94 => ?_)
        · refine x_iload_n (dat d_Mo_rest 63 rfl) rfl rfl ?_
          refine x_iret (dat d_Mo_rest 64 rfl) rfl ?_
          first
          | exact k _ m hm (by rw [e65]; omega) F
          | exact k _ m hm (by rw [up_s]; omega) (F.put (by decide))
        · refine x_aload_n (dat d_Mo_rest 60 rfl) rfl rfl ?_
          refine x_iconst (dat d_Mo_rest 61 rfl) (by decide) ?_
          refine x_puti (ji := 65) (x := ((-1))) (dat d_Mo_rest 62 rfl) rfl f_Mo_422w (oi_mk (by decide +kernel)) (fun h => absurd h (by decide)) (by decide) ?_
          refine x_iload_n (dat d_Mo_rest 63 rfl) rfl rfl ?_
          refine x_iret (dat d_Mo_rest 64 rfl) rfl ?_
          first
          | exact k _ m hm (by rw [e65]; omega) F
          | exact k _ m hm (by rw [up_s]; omega) (F.put (by decide))
    | succ d ih =>
      intro j σ1 m gg v s w3 hd hs hm hg H1 e65 F
      have stp : gg = 0 → K (some (vI m)) σ1 := fun z => by
        have r := rdN_stop (t := t) (n := j) (by rw [hs]; dsimp only; omega) (20 - j)
        rw [show j + (20 - j) = 20 by omega, hs] at r
        rw [r] at k
        exact k _ m hm (by rw [e65]; dsimp only; omega) F
      have st : v = -1 → rdN t (j + 1) = ((chN t s (t 6).toNat).1, if (chN t s (t 6).toNat).2 = true then -1 else ((j + 1 : Nat) : Int)) := fun z => by
        show (if (rdN t j).2 = -1 then ((chN t (rdN t j).1 (t 6).toNat).1, if (chN t (rdN t j).1 (t 6).toNat).2 = true then -1 else ((j + 1 : Nat) : Int)) else rdN t j) = _
        rw [hs]
        dsimp only
        rw [if_pos z]
      refine x_iload_n (dat d_Mo_rest 7 rfl) rfl rfl ?_
      refine x_if_eq (tgt := 93) (dat d_Mo_rest 8 rfl) (by decide) (fun c_10 => ?_) (fun c_10 => ?_)
      · refine x_iload_n (dat d_Mo_rest 58 rfl) rfl rfl ?_
        refine x_if_eq (tgt := 102) (dat d_Mo_rest 59 rfl) (by decide) (fun c_94 => ?_) (fun c_94 => ?_)
        · refine x_iload_n (dat d_Mo_rest 63 rfl) rfl rfl ?_
          refine x_iret (dat d_Mo_rest 64 rfl) rfl ?_
          first
          | exact stp (by omega)
          | (exfalso; omega)
        · refine x_aload_n (dat d_Mo_rest 60 rfl) rfl rfl ?_
          refine x_iconst (dat d_Mo_rest 61 rfl) (by decide) ?_
          refine x_puti (ji := 65) (x := ((-1))) (dat d_Mo_rest 62 rfl) rfl f_Mo_422w (oi_mk (by decide +kernel)) (fun h => absurd h (by decide)) (by decide) ?_
          refine x_iload_n (dat d_Mo_rest 63 rfl) rfl rfl ?_
          refine x_iret (dat d_Mo_rest 64 rfl) rfl ?_
          first
          | exact stp (by omega)
          | (exfalso; omega)
      · refine x_aload_n (dat d_Mo_rest 9 rfl) rfl rfl ?_
        refine x_geti (ji := 65) (v := (j : Int)) (dat d_Mo_rest 10 rfl) rfl f_Mo_422 (oi_mk (by decide +kernel)) (e65) ?_
        refine x_bipush (dat d_Mo_rest 11 rfl) (by decide) (by decide) ?_
        refine x_icmp_ge (tgt := 93) (dat d_Mo_rest 12 rfl) (by decide) (fun c_19 => (by omega)) (fun c_19 => ?_)
        refine x_iconst (dat d_Mo_rest 13 rfl) (by decide) ?_
        refine x_istore_n (L' := [vR 174, vI m, vI 0, w3]) (dat d_Mo_rest 14 rfl) rfl (by decide) rfl rfl ?_
        refine x_aload_n (dat d_Mo_rest 15 rfl) rfl rfl ?_
        refine x_dup (dat d_Mo_rest 16 rfl) rfl ?_
        refine x_geti (ji := 65) (v := (j : Int)) (dat d_Mo_rest 17 rfl) rfl f_Mo_422 (oi_mk (by decide +kernel)) (e65) ?_
        refine x_iconst (dat d_Mo_rest 18 rfl) (by decide) ?_
        refine x_iadd (v := ((j + 1 : Nat) : Int)) (dat d_Mo_rest 19 rfl) (by omega) (by omega) ?_
        refine x_puti (ji := 65) (x := (((j + 1 : Nat) : Int))) (dat d_Mo_rest 20 rfl) rfl f_Mo_422w (oi_mk (by decide +kernel)) (fun h => absurd h (by decide)) (by decide) ?_
        refine x_iconst (dat d_Mo_rest 21 rfl) (by decide) ?_
        refine x_istore_n (L' := [vR 174, vI m, vI 0, vI 0]) (dat d_Mo_rest 22 rfl) rfl (by decide) rfl rfl ?_
        refine lp_Mo_ch (σ0 := σ) (S := s) (r := ((j + 1 : Nat) : Int)) (fun σ2 m2 g2 w3 h1 h2 H2 e2 F2 => ?_) (t 6).toNat 0 _ m 0 s false (by omega) rfl hm rfl (H1.put (by decide)) up_s (F.put (by decide))
        refine ih (j + 1) σ2 m2 g2 _ _ w3 (by omega) (st (by omega)) h1 ?_ H2 e2 F2
        rw [h2]
        by_cases z : (chN t s (t 6).toNat).2 = true
        · rw [if_pos z, if_pos z]; exact Or.inl ⟨rfl, rfl⟩
        · rw [if_neg z, if_neg z]; exact Or.inr ⟨rfl, by omega, rfl⟩
  refine x_enter 3 rfl rfl rfl (fun Z => ?_)
  show Wx g y_Mo_rest Z K 0 [vR 174, vU, vU, vU] [] σ
  refine x_iconst (dat d_Mo_rest 0 rfl) (by decide) ?_
  refine x_istore_n (L' := [vR 174, vI 0, vU, vU]) (dat d_Mo_rest 1 rfl) rfl (by decide) rfl rfl ?_
  refine x_iconst (dat d_Mo_rest 2 rfl) (by decide) ?_
  refine x_istore_n (L' := [vR 174, vI 0, vI 1, vU]) (dat d_Mo_rest 3 rfl) rfl (by decide) rfl rfl ?_
  refine x_aload_n (dat d_Mo_rest 4 rfl) rfl rfl ?_
  refine x_iconst (dat d_Mo_rest 5 rfl) (by decide) ?_
  refine x_puti (ji := 65) (x := (0)) (dat d_Mo_rest 6 rfl) rfl f_Mo_422w (oi_mk (by decide +kernel)) (fun h => absurd h (by decide)) (by decide) ?_
  exact lp Z 20 0 _ 0 1 (-1) (fun _ => false) _ (by omega) rfl (Msk.zero 8) (Or.inl ⟨rfl, rfl⟩) (H.put (by decide)) up_s ((MoF.rfl σ).put (by decide))
theorem scanTop_s {f : Nat → Int} {i : Nat} {b l : Int} (h : scanTop f i = (b, l)) : scanTop f (i + 1) = if l < f i then ((i : Int), f i) else (b, l) := by
  show (if (scanTop f i).2 < f i then ((i : Int), f i) else scanTop f i) = _
  rw [h]
theorem lp_Mo_miser {Z : xZ} {w : Int} (k : ∀ (r : Int) (σ' : xS), (r = if w = 0 then (scanTop (misF t) (t 6).toNat).1 else (scanTop (misF t) (t 6).toNat).2) → MoF σ' σ0 → K (some (vI r)) σ') : ∀ (d i : Nat) (σ1 : xS) (b l : Int) (w6 : MV), i + d = (t 6).toNat → scanTop (misF t) i = (b, l) → KnX σ1 t t0 [13] → MoF σ1 σ0 → Wx g y_Mo_miser Z K 52 [vR 174, vI n, vI w, vI b, vI l, vI (i : Int), w6] [] σ1 := by
  intro d
  induction d with
  | zero =>
    intro i σ1 b l w6 hd hb H F
    have t6 := H.1.2.2.2.2.2.2.2.1
    have e : i = (t 6).toNat := by omega
    rw [e] at hb
    rw [hb] at k
    dsimp only at k
    refine x_iload (dat d_Mo_miser 31 rfl) rfl ?_
    refine x_aload_n (dat d_Mo_miser 32 rfl) rfl rfl ?_
    refine x_inv (As := []) (dat d_Mo_miser 33 rfl) rfl c_Mo_people l_Mo_202 (by decide) (rv_mo (by decide +kernel)) rfl rfl (Nat.le_of_ble_eq_true rfl) ?_
    refine sp_Mo_people H.1.1 ?_
    show Wx g y_Mo_miser Z K 58 [vR 174, vI n, vI w, vI b, vI l, vI (i : Int), w6] [vI (t 6), vI (i : Int)] σ1
    refine x_icmp_ge (tgt := 104) (dat d_Mo_miser 34 rfl) (by decide) (fun c_58 => ?_) (fun c_58 => (by omega))
    refine x_iload_n (dat d_Mo_miser 57 rfl) rfl rfl ?_
    refine x_if_ne (tgt := 112) (dat d_Mo_miser 58 rfl) (by decide) (fun c_105 => ?_) (fun c_105 => ?_)
    · refine x_iload (dat d_Mo_miser 61 rfl) rfl ?_
      refine x_iret (dat d_Mo_miser 62 rfl) rfl ?_
      first
      | exact k _ σ1 (by rw [if_pos (by omega)]) F
      | exact k _ σ1 (by rw [if_neg (by omega)]) F
    · refine x_iload_n (dat d_Mo_miser 59 rfl) rfl rfl ?_
      refine x_goto (tgt := 114) (dat d_Mo_miser 60 rfl) (by decide) ?_
      refine x_iret (dat d_Mo_miser 62 rfl) rfl ?_
      first
      | exact k _ σ1 (by rw [if_pos (by omega)]) F
      | exact k _ σ1 (by rw [if_neg (by omega)]) F
  | succ d ih =>
    intro i σ1 b l w6 hd hb H F
    have hT := H.1.2
    have t6 := hT.2.2.2.2.2.2.1
    have st := scanTop_s hb
    have ho : Msk 8 (ishl 1 (i : Int)) (fun q => decide (q = (i : Int))) := Msk.one (n := 8) (by decide) (by omega) (by omega)
    have bo : 0 ≤ ishl 1 (i : Int) ∧ ishl 1 (i : Int) < 256 := ⟨ho.1, ho.2.1⟩
    have ef : misF t i = brE (glC t (fun q => decide (q = (i : Int)))) i - brE (glC t (fun _ => false)) i := by rw [glC_0]; rfl
    have b1 := brG_bd hT (fun q => decide (q = (i : Int))) (p := (i : Int)) (by omega) (by omega)
    have b2 := brG_bd hT (fun _ => false) (p := (i : Int)) (by omega) (by omega)
    rw [ef] at st
    have nx : ∀ (σ2 : xS) (b' l' : Int) (w6 : MV), scanTop (misF t) (i + 1) = (b', l') → KnX σ2 t t0 [13] → MoF σ2 σ0 → Wx g y_Mo_miser Z K 52 [vR 174, vI n, vI w, vI b', vI l', vI ((i + 1 : Nat) : Int), w6] [] σ2 := fun σ2 b' l' w6 e H3 F3 => ih (i + 1) σ2 b' l' w6 (by omega) e H3 F3
    refine x_iload (dat d_Mo_miser 31 rfl) rfl ?_
    refine x_aload_n (dat d_Mo_miser 32 rfl) rfl rfl ?_
    refine x_inv (As := []) (dat d_Mo_miser 33 rfl) rfl c_Mo_people l_Mo_202 (by decide) (rv_mo (by decide +kernel)) rfl rfl (Nat.le_of_ble_eq_true rfl) ?_
    refine sp_Mo_people H.1.1 ?_
    show Wx g y_Mo_miser Z K 58 [vR 174, vI n, vI w, vI b, vI l, vI (i : Int), w6] [vI (t 6), vI (i : Int)] σ1
    refine x_icmp_ge (tgt := 104) (dat d_Mo_miser 34 rfl) (by decide) (fun c_58 => (by omega)) (fun c_58 => ?_)
    refine x_aload_n (dat d_Mo_miser 35 rfl) rfl rfl ?_
    refine x_iload (dat d_Mo_miser 36 rfl) rfl ?_
    refine x_iconst (dat d_Mo_miser 37 rfl) (by decide) ?_
    refine x_iload (dat d_Mo_miser 38 rfl) rfl ?_
    refine x_ishl (v := ishl 1 (i : Int)) (dat d_Mo_miser 39 rfl) rfl ?_
    refine x_inv (As := [vI (i : Int), vI (ishl 1 (i : Int))]) (dat d_Mo_miser 40 rfl) rfl c_Mo_endBy l_Mo_425 (by decide) (rv_mo (by decide +kernel)) rfl rfl (Nat.le_of_ble_eq_true rfl) ?_
    refine sp_Mo_endBy H ho (by omega) (by omega) (fun σ2 H2 W2 => ?_)
    have F2 : MoF σ2 σ0 := (F.put (by decide)).trans W2.mo
    show Wx g y_Mo_miser Z K 71 [vR 174, vI n, vI w, vI b, vI l, vI (i : Int), w6] [vI (brE (glC t (fun q => decide (q = (i : Int)))) (i : Int))] σ2
    refine x_aload_n (dat d_Mo_miser 41 rfl) rfl rfl ?_
    refine x_iload (dat d_Mo_miser 42 rfl) rfl ?_
    refine x_iconst (dat d_Mo_miser 43 rfl) (by decide) ?_
    refine x_inv (As := [vI (i : Int), vI 0]) (dat d_Mo_miser 44 rfl) rfl c_Mo_endBy l_Mo_425 (by decide) (rv_mo (by decide +kernel)) rfl rfl (Nat.le_of_ble_eq_true rfl) ?_
    refine sp_Mo_endBy H2 (Msk.zero 8) (by omega) (by omega) (fun σ3 H3 W3 => ?_)
    have F3 : MoF σ3 σ0 := (F2.put (by decide)).trans W3.mo
    show Wx g y_Mo_miser Z K 78 [vR 174, vI n, vI w, vI b, vI l, vI (i : Int), w6] [vI (brE (glC t (fun _ => false)) (i : Int)), vI (brE (glC t (fun q => decide (q = (i : Int)))) (i : Int))] σ3
    refine x_isub (v := (brE (glC t (fun q => decide (q = (i : Int)))) (i : Int)) - (brE (glC t (fun _ => false)) (i : Int))) (dat d_Mo_miser 45 rfl) rfl (by omega) ?_
    refine x_istore (L' := [vR 174, vI n, vI w, vI b, vI l, vI (i : Int), vI ((brE (glC t (fun q => decide (q = (i : Int)))) (i : Int)) - (brE (glC t (fun _ => false)) (i : Int)))]) (dat d_Mo_miser 46 rfl) (by decide) rfl rfl ?_
    refine x_iload (dat d_Mo_miser 47 rfl) rfl ?_
    refine x_iload (dat d_Mo_miser 48 rfl) rfl ?_
    refine x_icmp_gt (tgt := 91) (dat d_Mo_miser 49 rfl) (by decide) (fun c_85 => ?_) (fun c_85 => ?_)
    · refine x_iload (dat d_Mo_miser 51 rfl) rfl ?_
      refine x_istore_n (L' := [vR 174, vI n, vI w, vI (i : Int), vI l, vI (i : Int), vI ((brE (glC t (fun q => decide (q = (i : Int)))) (i : Int)) - (brE (glC t (fun _ => false)) (i : Int)))]) (dat d_Mo_miser 52 rfl) rfl (by decide) rfl rfl ?_
      refine x_iload (dat d_Mo_miser 53 rfl) rfl ?_
      refine x_istore (L' := [vR 174, vI n, vI w, vI (i : Int), vI ((brE (glC t (fun q => decide (q = (i : Int)))) (i : Int)) - (brE (glC t (fun _ => false)) (i : Int))), vI (i : Int), vI ((brE (glC t (fun q => decide (q = (i : Int)))) (i : Int)) - (brE (glC t (fun _ => false)) (i : Int)))]) (dat d_Mo_miser 54 rfl) (by decide) rfl rfl ?_
      refine x_iinc (v' := ((i + 1 : Nat) : Int)) (L' := [vR 174, vI n, vI w, vI (i : Int), vI ((brE (glC t (fun q => decide (q = (i : Int)))) (i : Int)) - (brE (glC t (fun _ => false)) (i : Int))), vI ((i + 1 : Nat) : Int), vI ((brE (glC t (fun q => decide (q = (i : Int)))) (i : Int)) - (brE (glC t (fun _ => false)) (i : Int)))]) (dat d_Mo_miser 55 rfl) rfl (by decide) rfl (by omega) (by omega) rfl ?_
      refine x_goto (tgt := 52) (dat d_Mo_miser 56 rfl) (by decide) ?_
      first
      | exact nx _ _ _ _ (by rw [st, if_pos (by omega)]) H3 F3
      | exact nx _ _ _ _ (by rw [st, if_neg (by omega)]) H3 F3
    · refine x_goto (tgt := 98) (dat d_Mo_miser 50 rfl) (by decide) ?_
      refine x_iinc (v' := ((i + 1 : Nat) : Int)) (L' := [vR 174, vI n, vI w, vI b, vI l, vI ((i + 1 : Nat) : Int), vI ((brE (glC t (fun q => decide (q = (i : Int)))) (i : Int)) - (brE (glC t (fun _ => false)) (i : Int)))]) (dat d_Mo_miser 55 rfl) rfl (by decide) rfl (by omega) (by omega) rfl ?_
      refine x_goto (tgt := 52) (dat d_Mo_miser 56 rfl) (by decide) ?_
      first
      | exact nx _ _ _ _ (by rw [st, if_pos (by omega)]) H3 F3
      | exact nx _ _ _ _ (by rw [st, if_neg (by omega)]) H3 F3
theorem sp_Mo_miser {w : Int} (A : MoA σ a) (k : ∀ (r : Int) (σ' : xS), atT a n (-2) (fun t r => msrA t w r) r → MoA σ' a → MoF σ' σ → K (some (vI r)) σ') : Mt g y_Mo_miser [vR 174, vI n, vI w] σ K := by
  refine x_enter 4 rfl rfl rfl (fun Z => ?_)
  show Wx g y_Mo_miser Z K 0 [vR 174, vI n, vI w, vU, vU, vU, vU] [] σ
  refine x_aload_n (dat d_Mo_miser 0 rfl) rfl rfl ?_
  refine x_iload_n (dat d_Mo_miser 1 rfl) rfl rfl ?_
  refine x_inv (As := [vI n]) (dat d_Mo_miser 2 rfl) rfl c_Mo_isTown l_Mo_205 (by decide) (rv_mo (by decide +kernel)) rfl rfl (Nat.le_of_ble_eq_true rfl) ?_
  refine sp_Mo_isTown A (fun σ1 t0 n0 n1 H P Z1 A1 F => ?_) (fun n01 => ?_)
  · show Wx g y_Mo_miser Z K 5 [vR 174, vI n, vI w, vU, vU, vU, vU] [vI 1] σ1
    refine x_if_eq (tgt := 17) (dat d_Mo_miser 3 rfl) (by decide) (fun h => absurd h (by decide)) (fun c_5 => ?_)
    refine x_iload_n (dat d_Mo_miser 4 rfl) rfl rfl ?_
    refine x_iconst (dat d_Mo_miser 5 rfl) (by decide) ?_
    refine x_iconst (dat d_Mo_miser 6 rfl) (by decide) ?_
    refine x_invs (As := [vI w, vI 0, vI 3]) (dat d_Mo_miser 7 rfl) rfl c_Mo_isIn l_Mo_136 (by decide) rfl rfl (Nat.le_of_ble_eq_true rfl) ?_
    refine sp_Mo_isIn (fun x1 x2 => ?_) (fun x1 => ?_)
    · show Wx g y_Mo_miser Z K 14 [vR 174, vI n, vI w, vU, vU, vU, vU] [vI 1] σ1
      refine x_if_ne (tgt := 20) (dat d_Mo_miser 8 rfl) (by decide) (fun c_14 => ?_) (fun h => absurd h (by decide))
      refine x_iload_n (dat d_Mo_miser 11 rfl) rfl rfl ?_
      refine x_iconst (dat d_Mo_miser 12 rfl) (by decide) ?_
      refine x_icmp_le (tgt := 44) (dat d_Mo_miser 13 rfl) (by decide) (fun c_22 => ?_) (fun c_22 => ?_)
      · refine x_iconst (dat d_Mo_miser 25 rfl) (by decide) ?_
        refine x_istore_n (L' := [vR 174, vI n, vI w, vI (-1), vU, vU, vU]) (dat d_Mo_miser 26 rfl) rfl (by decide) rfl rfl ?_
        refine x_iconst (dat d_Mo_miser 27 rfl) (by decide) ?_
        refine x_istore (L' := [vR 174, vI n, vI w, vI (-1), vI 0, vU, vU]) (dat d_Mo_miser 28 rfl) (by decide) rfl rfl ?_
        refine x_iconst (dat d_Mo_miser 29 rfl) (by decide) ?_
        refine x_istore (L' := [vR 174, vI n, vI w, vI (-1), vI 0, vI 0, vU]) (dat d_Mo_miser 30 rfl) (by decide) rfl rfl ?_
        refine lp_Mo_miser (σ0 := σ) (t := tw a n) (t0 := t0) (fun r σ' hr F2 => ?_) (tw a n 6).toNat 0 σ1 (-1) 0 _ (by omega) rfl (KnX.pln H P Z1 _) F
        refine k _ σ' ⟨fun z => absurd ⟨n0, n1⟩ z, fun _ _ => ?_⟩ (A.same F2) F2
        show msrA (tw a n) w r
        unfold msrA
        by_cases z : w = 0
        · rw [if_pos z] at hr ⊢; exact hr
        · rw [if_neg z] at hr ⊢; rw [if_pos (by omega)]; exact hr
      · refine x_aload_n (dat d_Mo_miser 14 rfl) rfl rfl ?_
        refine x_inv (As := []) (dat d_Mo_miser 15 rfl) rfl c_Mo_rest l_Mo_428 (by decide) (rv_mo (by decide +kernel)) rfl rfl (Nat.le_of_ble_eq_true rfl) ?_
        refine sp_Mo_rest (KnX.pln H P Z1 _) (fun σ2 m hm e2 W2 => ?_)
        have kk : ∀ r : Int, msrA (tw a n) w r → K (some (vI r)) σ2 := fun r hr => k _ σ2 ⟨fun z => absurd ⟨n0, n1⟩ z, fun _ _ => hr⟩ (A.same (F.trans W2)) (F.trans W2)
        show Wx g y_Mo_miser Z K 29 [vR 174, vI n, vI w, vU, vU, vU, vU] [vI m] σ2
        refine x_istore_n (L' := [vR 174, vI n, vI w, vI m, vU, vU, vU]) (dat d_Mo_miser 16 rfl) rfl (by decide) rfl rfl ?_
        refine x_iload_n (dat d_Mo_miser 17 rfl) rfl rfl ?_
        refine x_iconst (dat d_Mo_miser 18 rfl) (by decide) ?_
        refine x_icmp_ne (tgt := 39) (dat d_Mo_miser 19 rfl) (by decide) (fun c_32 => ?_) (fun c_32 => ?_)
        · refine x_aload_n (dat d_Mo_miser 22 rfl) rfl rfl ?_
          refine x_geti (ji := 65) (v := (rdN (tw a n) 20).2) (dat d_Mo_miser 23 rfl) rfl f_Mo_422 (oi_mk (by decide +kernel)) (e2) ?_
          refine x_iret (dat d_Mo_miser 24 rfl) rfl ?_
          refine kk _ ?_
          unfold msrA
          rw [if_neg (by omega), if_neg (by omega)]
          first
          | (rw [if_pos (by omega)]; exact hm)
          | (rw [if_neg (by omega), if_pos (by omega)])
        · refine x_iload_n (dat d_Mo_miser 20 rfl) rfl rfl ?_
          refine x_goto (tgt := 43) (dat d_Mo_miser 21 rfl) (by decide) ?_
          refine x_iret (dat d_Mo_miser 24 rfl) rfl ?_
          refine kk _ ?_
          unfold msrA
          rw [if_neg (by omega), if_neg (by omega)]
          first
          | (rw [if_pos (by omega)]; exact hm)
          | (rw [if_neg (by omega), if_pos (by omega)])
    · show Wx g y_Mo_miser Z K 14 [vR 174, vI n, vI w, vU, vU, vU, vU] [vI 0] σ1
      refine x_if_ne (tgt := 20) (dat d_Mo_miser 8 rfl) (by decide) (fun h => absurd h (by decide)) (fun c_14 => ?_)
      refine x_bipush (dat d_Mo_miser 9 rfl) (by decide) (by decide) ?_
      refine x_iret (dat d_Mo_miser 10 rfl) rfl ?_
      first
      | exact k _ σ ⟨fun _ => rfl, fun z1 z2 => absurd ⟨z1, z2⟩ n01⟩ A (MoF.rfl σ)
      | exact k _ σ1 ⟨fun _ => rfl, fun _ _ => by show msrA (tw a n) w (-2); unfold msrA; rw [if_neg (by omega), if_neg (by omega), if_neg (by omega), if_neg (by omega)]⟩ A1 F
  · show Wx g y_Mo_miser Z K 5 [vR 174, vI n, vI w, vU, vU, vU, vU] [vI 0] σ
    refine x_if_eq (tgt := 17) (dat d_Mo_miser 3 rfl) (by decide) (fun c_5 => ?_) (fun h => absurd h (by decide))
    refine x_bipush (dat d_Mo_miser 9 rfl) (by decide) (by decide) ?_
    refine x_iret (dat d_Mo_miser 10 rfl) rfl ?_
    first
    | exact k _ σ ⟨fun _ => rfl, fun z1 z2 => absurd ⟨z1, z2⟩ n01⟩ A (MoF.rfl σ)
    | exact k _ σ1 ⟨fun _ => rfl, fun _ _ => by show msrA (tw a n) w (-2); unfold msrA; rw [if_neg (by omega), if_neg (by omega), if_neg (by omega), if_neg (by omega)]⟩ A1 F
end
