/-! the twin's answers: the best order, the best swap of errands */ -/
section
variable {s m w t : Int → Int}
theorem mC_Ws (h27 : s 27 = -1) (h20 : s 20 = -1) (h32 : s 32 = -1) (h17 : 0 ≤ s 17) (h18 : 0 ≤ s 18) : (mC s m w t).2.2.2.2.1 = whSend (cfg t) (s 17) (s 18) (s 19) := by
  funext h p
  show (if 0 ≤ h ∧ (0 ≤ p ∨ h = s 27) then cellM s w t p h else cellT t (gasM s p) h) = (if h = s 17 ∧ p = s 18 then s 19 else cellT t p h)
  have e : gasM s p = p := by unfold gasM; rw [if_pos h32]
  by_cases z : 0 ≤ h ∧ (0 ≤ p ∨ h = s 27)
  · rw [if_pos z]
    unfold cellM
    rw [if_neg (show ¬ h = s 27 by omega)]
    by_cases y : h = s 17 ∧ p = s 18
    · rw [if_pos y, if_pos y]
    · rw [if_neg y, if_neg y, if_neg (show ¬ (p = s 20 ∧ s 21 ≤ h ∧ h < s 21 + s 22) from fun y => by omega), e]
  · rw [if_neg z, if_neg (show ¬ (h = s 17 ∧ p = s 18) from fun y => by omega), e]
theorem mC_Wp (h27 : s 27 = -1) (h20 : s 20 = -1) (h17 : s 17 = -1) (h32 : 0 ≤ s 32) : (mC s m w t).2.2.2.2.1 = whSwap (cfg t) (s 32) (s 33) := by
  funext h p
  show (if 0 ≤ h ∧ (0 ≤ p ∨ h = s 27) then cellM s w t p h else cellT t (gasM s p) h) = (if p = s 32 then cellT t (s 33) h else if p = s 33 then cellT t (s 32) h else cellT t p h)
  have e1 : (if 0 ≤ h ∧ (0 ≤ p ∨ h = s 27) then cellM s w t p h else cellT t (gasM s p) h) = cellT t (gasM s p) h := by
    by_cases z : 0 ≤ h ∧ (0 ≤ p ∨ h = s 27)
    · rw [if_pos z]
      unfold cellM
      rw [if_neg (show ¬ h = s 27 by omega), if_neg (show ¬ (h = s 17 ∧ p = s 18) from fun y => by omega), if_neg (show ¬ (p = s 20 ∧ s 21 ≤ h ∧ h < s 21 + s 22) from fun y => by omega)]
    · rw [if_neg z]
  rw [e1]
  unfold gasM
  rw [if_neg (show ¬ s 32 = -1 by omega)]
  by_cases y1 : p = s 32
  · rw [if_pos y1, if_pos y1]
  · rw [if_neg y1, if_neg y1]
    by_cases y2 : p = s 33
    · rw [if_pos y2, if_pos y2]
    · rw [if_neg y2, if_neg y2]
end
section
variable {g : xG} {K : Option MV → xS → Prop} {σ σ0 : xS} {t : Int → Int} {t0 : Int} {a : Int → Int} {n : Int}
theorem kn_snd {h p c : Int} (H : KnX σ t t0 [17]) (h0 : 0 ≤ h) (p0 : 0 ≤ p) (e1 : σ 174 17 = h) (e2 : σ 174 18 = p) (e3 : σ 174 19 = c) : MoC σ t t0 (sndC t h p c) :=
  ⟨H.1, ⟨mC_mk (mC_N (H.s15 (by decide)) (H.s30 (by decide)) (H.s31 (by decide)) (H.s24 (by decide))) (mC_G (H.s13 (by decide))) rfl (mC_O (H.s14 (by decide)) (H.s16 (by decide))) (by rw [mC_Ws (H.s27 (by decide)) (H.s20 (by decide)) (H.s32 (by decide)) (by omega) (by omega), e1, e2, e3]; rfl) (mC_S (H.2.2.2 (by decide))), (cfg_ok H.1.2).whr _⟩, ⟨Or.inl (H.s20 (by decide)), Or.inl (H.s32 (by decide))⟩, by rw [H.s13 (by decide)]; decide, by rw [H.s16 (by decide)]; decide⟩
theorem kn_swp {x y : Int} (H : KnX σ t t0 [32]) (x0 : 0 ≤ x) (x1 : x < t 6) (y0 : 0 ≤ y) (y1 : y < t 6) (e1 : σ 174 32 = x) (e2 : σ 174 33 = y) : MoC σ t t0 (swpC t x y) :=
  ⟨H.1, ⟨mC_mk (mC_N (H.s15 (by decide)) (H.s30 (by decide)) (H.s31 (by decide)) (H.s24 (by decide))) (mC_G (H.s13 (by decide))) rfl (mC_O (H.s14 (by decide)) (H.s16 (by decide))) (by rw [mC_Wp (H.s27 (by decide)) (H.s20 (by decide)) (H.s17 (by decide)) (by omega), e1, e2]; rfl) (mC_S (H.2.2.2 (by decide))), (cfg_ok H.1.2).whr _⟩, ⟨Or.inl (H.s20 (by decide)), Or.inr ⟨by omega, by omega⟩⟩, by rw [H.s13 (by decide)]; decide, by rw [H.s16 (by decide)]; decide⟩
theorem ordN_s {f : Nat → Int} {s0 : Int} {i : Nat} {b l : Int} (h : ordN f s0 i = (b, l)) : ordN f s0 (i + 1) = if f i < l then ((i : Int), f i) else (b, l) := by
  show (if f i < (ordN f s0 i).2 then ((i : Int), f i) else ordN f s0 i) = _
  rw [h]
theorem ordN_b {f : Nat → Int} {s0 : Int} {i : Nat} {b l : Int} (h : ordN f s0 i = (b, l)) : (b = -1 ∨ (0 ≤ b ∧ b < i)) ∧ l ≤ s0 := by
  have := ordN_in f s0 i
  rw [h] at this
  exact this
theorem lp_Mo_order {Z : xZ} {w : Int} {N : Nat} (hN : t 3 * t 6 * (t 0 * t 1) = (N : Int)) (hNe : (t 3).toNat * (t 6).toNat * (t 0 * t 1).toNat = N) (hN1 : N ≤ 6912) (hP : 0 < N → 1 ≤ t 6) (h36 : t 3 * t 6 ≤ 192) (h36' : 0 ≤ t 3 * t 6) (w0 : 0 ≤ w) (w1 : w ≤ 3) (k : ∀ (r : Int) (σ' : xS), orrA t w r → MoF σ' σ0 → K (some (vI r)) σ') : ∀ (d i : Nat) (σ1 : xS) (b l : Int) (w6 : MV), i + d = N → ordN (ordF t) (stv (cfg t)) i = (b, l) → KnX σ1 t t0 [17] → MoF σ1 σ0 → Wx g y_Mo_order Z K 30 [vR 174, vI n, vI w, vI l, vI b, vI (i : Int), w6] [] σ1 := by
  intro d
  induction d with
  | zero =>
    intro i σ1 b l w6 hd hb H F
    have cb := cells_bd H.1.2
    have fi := ordN_b hb
    have e : i = N := by omega
    rw [e] at hb
    have hP2 : b ≠ -1 → 1 ≤ t 6 := fun z => hP (by omega)
    have kk : ∀ r : Int, (b = -1 → r = -1) → (b ≠ -1 → (w = 0 → r = b / (t 0 * t 1) / t 6) ∧ (w = 1 → r = b / (t 0 * t 1) % t 6) ∧ (w = 2 → r = b % (t 0 * t 1)) ∧ (w = 3 → r = l)) → K (some (vI r)) σ1 := fun r h1 h2 => by
      refine k r σ1 ?_ F
      unfold orrA
      rw [hNe, hb]
      dsimp only
      by_cases z : b = -1
      · rw [if_pos (Or.inr z)]; exact h1 z
      · rw [if_neg (show ¬ (¬ (0 ≤ w ∧ w ≤ 3) ∨ b = -1) by omega)]
        obtain ⟨a0, a1, a2, a3⟩ := h2 z
        by_cases y0 : w = 0
        · rw [if_pos y0]; exact a0 y0
        · rw [if_neg y0]
          by_cases y1 : w = 1
          · rw [if_pos y1]; exact a1 y1
          · rw [if_neg y1]
            by_cases y2 : w = 2
            · rw [if_pos y2]; exact a2 y2
            · rw [if_neg y2]; exact a3 (by omega)
    have dq : b ≠ -1 → 0 ≤ b / (t 0 * t 1) := fun z => Int.ediv_nonneg (by omega) (by omega)
    refine x_iload (dat d_Mo_order 18 rfl) rfl ?_
    refine x_aload_n (dat d_Mo_order 19 rfl) rfl rfl ?_
    refine x_iconst (dat d_Mo_order 20 rfl) (by decide) ?_
    refine x_inv (As := [vI 3]) (dat d_Mo_order 21 rfl) rfl c_Mo_of l_Mo_199 (by decide) (rv_mo (by decide +kernel)) rfl rfl (Nat.le_of_ble_eq_true rfl) ?_
    refine sp_Mo_of H.1.1 (by decide) (by decide) ?_
    show Wx g y_Mo_order Z K 37 [vR 174, vI n, vI w, vI l, vI b, vI (i : Int), w6] [vI (t 3), vI (i : Int)] σ1
    refine x_aload_n (dat d_Mo_order 22 rfl) rfl rfl ?_
    refine x_inv (As := []) (dat d_Mo_order 23 rfl) rfl c_Mo_people l_Mo_202 (by decide) (rv_mo (by decide +kernel)) rfl rfl (Nat.le_of_ble_eq_true rfl) ?_
    refine sp_Mo_people H.1.1 ?_
    show Wx g y_Mo_order Z K 41 [vR 174, vI n, vI w, vI l, vI b, vI (i : Int), w6] [vI (t 6), vI (t 3), vI (i : Int)] σ1
    refine x_imul (v := (t 3) * (t 6)) (dat d_Mo_order 24 rfl) rfl (by omega) ?_
    refine x_aload_n (dat d_Mo_order 25 rfl) rfl rfl ?_
    refine x_inv (As := []) (dat d_Mo_order 26 rfl) rfl c_Mo_cells l_Mo_373 (by decide) (rv_mo (by decide +kernel)) rfl rfl (Nat.le_of_ble_eq_true rfl) ?_
    refine sp_Mo_cells H.1.1 H.1.2 ?_
    show Wx g y_Mo_order Z K 46 [vR 174, vI n, vI w, vI l, vI b, vI (i : Int), w6] [vI (t 0 * t 1), vI ((t 3) * (t 6)), vI (i : Int)] σ1
    refine x_imul (v := (N : Int)) (dat d_Mo_order 27 rfl) (by exact hN) (by omega) ?_
    refine x_icmp_ge (tgt := 133) (dat d_Mo_order 28 rfl) (by decide) (fun c_47 => ?_) (fun c_47 => (by omega))
    refine x_iload (dat d_Mo_order 72 rfl) rfl ?_
    refine x_if_ge (tgt := 140) (dat d_Mo_order 73 rfl) (by decide) (fun c_135 => ?_) (fun c_135 => ?_)
    · refine x_iload_n (dat d_Mo_order 76 rfl) rfl rfl ?_
      refine x_if_ne (tgt := 159) (dat d_Mo_order 77 rfl) (by decide) (fun c_141 => ?_) (fun c_141 => ?_)
      · refine x_iload_n (dat d_Mo_order 86 rfl) rfl rfl ?_
        refine x_iconst (dat d_Mo_order 87 rfl) (by decide) ?_
        refine x_icmp_ne (tgt := 179) (dat d_Mo_order 88 rfl) (by decide) (fun c_161 => ?_) (fun c_161 => ?_)
        · refine x_iload_n (dat d_Mo_order 97 rfl) rfl rfl ?_
          refine x_iconst (dat d_Mo_order 98 rfl) (by decide) ?_
          refine x_icmp_ne (tgt := 194) (dat d_Mo_order 99 rfl) (by decide) (fun c_181 => ?_) (fun c_181 => ?_)
          · refine x_iload_n (dat d_Mo_order 105 rfl) rfl rfl ?_
            refine x_iret (dat d_Mo_order 106 rfl) rfl ?_
            first
            | exact kk _ (fun _ => rfl) (fun z => absurd z (by omega))
            | exact kk _ (fun z => by omega) (fun z => ⟨fun _ => rfl, fun y => by omega, fun y => by omega, fun y => by omega⟩)
            | exact kk _ (fun z => by omega) (fun z => ⟨fun y => by omega, fun _ => rfl, fun y => by omega, fun y => by omega⟩)
            | exact kk _ (fun z => by omega) (fun z => ⟨fun y => by omega, fun y => by omega, fun _ => rfl, fun y => by omega⟩)
            | exact kk _ (fun z => by omega) (fun z => ⟨fun y => by omega, fun y => by omega, fun y => by omega, fun _ => rfl⟩)
          · refine x_iload (dat d_Mo_order 100 rfl) rfl ?_
            refine x_aload_n (dat d_Mo_order 101 rfl) rfl rfl ?_
            refine x_inv (As := []) (dat d_Mo_order 102 rfl) rfl c_Mo_cells l_Mo_373 (by decide) (rv_mo (by decide +kernel)) rfl rfl (Nat.le_of_ble_eq_true rfl) ?_
            refine sp_Mo_cells H.1.1 H.1.2 ?_
            show Wx g y_Mo_order Z K 190 [vR 174, vI n, vI w, vI l, vI b, vI (i : Int), w6] [vI (t 0 * t 1), vI b] σ1
            refine x_irem (v := b % (t 0 * t 1)) (dat d_Mo_order 103 rfl) (by omega) rfl ?_
            refine x_goto (tgt := 195) (dat d_Mo_order 104 rfl) (by decide) ?_
            refine x_iret (dat d_Mo_order 106 rfl) rfl ?_
            first
            | exact kk _ (fun _ => rfl) (fun z => absurd z (by omega))
            | exact kk _ (fun z => by omega) (fun z => ⟨fun _ => rfl, fun y => by omega, fun y => by omega, fun y => by omega⟩)
            | exact kk _ (fun z => by omega) (fun z => ⟨fun y => by omega, fun _ => rfl, fun y => by omega, fun y => by omega⟩)
            | exact kk _ (fun z => by omega) (fun z => ⟨fun y => by omega, fun y => by omega, fun _ => rfl, fun y => by omega⟩)
            | exact kk _ (fun z => by omega) (fun z => ⟨fun y => by omega, fun y => by omega, fun y => by omega, fun _ => rfl⟩)
        · refine x_iload (dat d_Mo_order 89 rfl) rfl ?_
          refine x_aload_n (dat d_Mo_order 90 rfl) rfl rfl ?_
          refine x_inv (As := []) (dat d_Mo_order 91 rfl) rfl c_Mo_cells l_Mo_373 (by decide) (rv_mo (by decide +kernel)) rfl rfl (Nat.le_of_ble_eq_true rfl) ?_
          refine sp_Mo_cells H.1.1 H.1.2 ?_
          show Wx g y_Mo_order Z K 170 [vR 174, vI n, vI w, vI l, vI b, vI (i : Int), w6] [vI (t 0 * t 1), vI b] σ1
          refine x_idiv (v := b / (t 0 * t 1)) (dat d_Mo_order 92 rfl) (by omega) rfl ?_
          refine x_aload_n (dat d_Mo_order 93 rfl) rfl rfl ?_
          refine x_inv (As := []) (dat d_Mo_order 94 rfl) rfl c_Mo_people l_Mo_202 (by decide) (rv_mo (by decide +kernel)) rfl rfl (Nat.le_of_ble_eq_true rfl) ?_
          refine sp_Mo_people H.1.1 ?_
          show Wx g y_Mo_order Z K 175 [vR 174, vI n, vI w, vI l, vI b, vI (i : Int), w6] [vI (t 6), vI (b / (t 0 * t 1))] σ1
          refine x_irem (v := (b / (t 0 * t 1)) % (t 6)) (dat d_Mo_order 95 rfl) (by exact ⟨dq (by omega), hP2 (by omega)⟩) rfl ?_
          refine x_goto (tgt := 195) (dat d_Mo_order 96 rfl) (by decide) ?_
          refine x_iret (dat d_Mo_order 106 rfl) rfl ?_
          first
          | exact kk _ (fun _ => rfl) (fun z => absurd z (by omega))
          | exact kk _ (fun z => by omega) (fun z => ⟨fun _ => rfl, fun y => by omega, fun y => by omega, fun y => by omega⟩)
          | exact kk _ (fun z => by omega) (fun z => ⟨fun y => by omega, fun _ => rfl, fun y => by omega, fun y => by omega⟩)
          | exact kk _ (fun z => by omega) (fun z => ⟨fun y => by omega, fun y => by omega, fun _ => rfl, fun y => by omega⟩)
          | exact kk _ (fun z => by omega) (fun z => ⟨fun y => by omega, fun y => by omega, fun y => by omega, fun _ => rfl⟩)
      · refine x_iload (dat d_Mo_order 78 rfl) rfl ?_
        refine x_aload_n (dat d_Mo_order 79 rfl) rfl rfl ?_
        refine x_inv (As := []) (dat d_Mo_order 80 rfl) rfl c_Mo_cells l_Mo_373 (by decide) (rv_mo (by decide +kernel)) rfl rfl (Nat.le_of_ble_eq_true rfl) ?_
        refine sp_Mo_cells H.1.1 H.1.2 ?_
        show Wx g y_Mo_order Z K 150 [vR 174, vI n, vI w, vI l, vI b, vI (i : Int), w6] [vI (t 0 * t 1), vI b] σ1
        refine x_idiv (v := b / (t 0 * t 1)) (dat d_Mo_order 81 rfl) (by omega) rfl ?_
        refine x_aload_n (dat d_Mo_order 82 rfl) rfl rfl ?_
        refine x_inv (As := []) (dat d_Mo_order 83 rfl) rfl c_Mo_people l_Mo_202 (by decide) (rv_mo (by decide +kernel)) rfl rfl (Nat.le_of_ble_eq_true rfl) ?_
        refine sp_Mo_people H.1.1 ?_
        show Wx g y_Mo_order Z K 155 [vR 174, vI n, vI w, vI l, vI b, vI (i : Int), w6] [vI (t 6), vI (b / (t 0 * t 1))] σ1
        refine x_idiv (v := (b / (t 0 * t 1)) / (t 6)) (dat d_Mo_order 84 rfl) (by exact ⟨dq (by omega), hP2 (by omega)⟩) rfl ?_
        refine x_goto (tgt := 195) (dat d_Mo_order 85 rfl) (by decide) ?_
        refine x_iret (dat d_Mo_order 106 rfl) rfl ?_
        first
        | exact kk _ (fun _ => rfl) (fun z => absurd z (by omega))
        | exact kk _ (fun z => by omega) (fun z => ⟨fun _ => rfl, fun y => by omega, fun y => by omega, fun y => by omega⟩)
        | exact kk _ (fun z => by omega) (fun z => ⟨fun y => by omega, fun _ => rfl, fun y => by omega, fun y => by omega⟩)
        | exact kk _ (fun z => by omega) (fun z => ⟨fun y => by omega, fun y => by omega, fun _ => rfl, fun y => by omega⟩)
        | exact kk _ (fun z => by omega) (fun z => ⟨fun y => by omega, fun y => by omega, fun y => by omega, fun _ => rfl⟩)
    · refine x_iconst (dat d_Mo_order 74 rfl) (by decide) ?_
      refine x_iret (dat d_Mo_order 75 rfl) rfl ?_
      first
      | exact kk _ (fun _ => rfl) (fun z => absurd z (by omega))
      | exact kk _ (fun z => by omega) (fun z => ⟨fun _ => rfl, fun y => by omega, fun y => by omega, fun y => by omega⟩)
      | exact kk _ (fun z => by omega) (fun z => ⟨fun y => by omega, fun _ => rfl, fun y => by omega, fun y => by omega⟩)
      | exact kk _ (fun z => by omega) (fun z => ⟨fun y => by omega, fun y => by omega, fun _ => rfl, fun y => by omega⟩)
      | exact kk _ (fun z => by omega) (fun z => ⟨fun y => by omega, fun y => by omega, fun y => by omega, fun _ => rfl⟩)
  | succ d ih =>
    intro i σ1 b l w6 hd hb H F
    have cb := cells_bd H.1.2
    have hP1 : 1 ≤ t 6 := hP (by omega)
    have st := ordN_s hb
    have dq : 0 ≤ (i : Int) / (t 0 * t 1) := Int.ediv_nonneg (by omega) (by omega)
    have dh : 0 ≤ (i : Int) / (t 0 * t 1) / t 6 := Int.ediv_nonneg dq (by omega)
    have dw : 0 ≤ (i : Int) / (t 0 * t 1) % t 6 := Int.emod_nonneg _ (by omega)
    obtain ⟨v, hv⟩ : ∃ v : Int, v = ordF t i := ⟨_, rfl⟩
    rw [← hv] at st
    have hv2 : stv (sndC t ((i : Int) / (t 0 * t 1) / t 6) ((i : Int) / (t 0 * t 1) % t 6) ((i : Int) % (t 0 * t 1))) = v := hv.symm
    have nx : ∀ (σ2 : xS) (b' l' : Int) (w6 : MV), ordN (ordF t) (stv (cfg t)) (i + 1) = (b', l') → KnX σ2 t t0 [17] → MoF σ2 σ0 → Wx g y_Mo_order Z K 30 [vR 174, vI n, vI w, vI l', vI b', vI ((i + 1 : Nat) : Int), w6] [] σ2 := fun σ2 b' l' w6 e H3 F3 => ih (i + 1) σ2 b' l' w6 (by omega) e H3 F3
    have H2 : KnX (up σ1 174 17 ((i : Int) / (t 0 * t 1) / t 6)) t t0 [17] := H.put (by decide)
    have H3 : KnX (up (up σ1 174 17 ((i : Int) / (t 0 * t 1) / t 6)) 174 18 ((i : Int) / (t 0 * t 1) % t 6)) t t0 [17] := H2.put (by decide)
    have H4 : KnX (up (up (up σ1 174 17 ((i : Int) / (t 0 * t 1) / t 6)) 174 18 ((i : Int) / (t 0 * t 1) % t 6)) 174 19 ((i : Int) % (t 0 * t 1))) t t0 [17] := H3.put (by decide)
    have F4 : MoF (up (up (up σ1 174 17 ((i : Int) / (t 0 * t 1) / t 6)) 174 18 ((i : Int) / (t 0 * t 1) % t 6)) 174 19 ((i : Int) % (t 0 * t 1))) σ0 := ((F.put (by decide)).put (by decide)).put (by decide)
    have M4 := kn_snd H4 dh dw (by rw [up_ni (by decide), up_ni (by decide), up_s]) (by rw [up_ni (by decide), up_s]) up_s
    refine x_iload (dat d_Mo_order 18 rfl) rfl ?_
    refine x_aload_n (dat d_Mo_order 19 rfl) rfl rfl ?_
    refine x_iconst (dat d_Mo_order 20 rfl) (by decide) ?_
    refine x_inv (As := [vI 3]) (dat d_Mo_order 21 rfl) rfl c_Mo_of l_Mo_199 (by decide) (rv_mo (by decide +kernel)) rfl rfl (Nat.le_of_ble_eq_true rfl) ?_
    refine sp_Mo_of H.1.1 (by decide) (by decide) ?_
    show Wx g y_Mo_order Z K 37 [vR 174, vI n, vI w, vI l, vI b, vI (i : Int), w6] [vI (t 3), vI (i : Int)] σ1
    refine x_aload_n (dat d_Mo_order 22 rfl) rfl rfl ?_
    refine x_inv (As := []) (dat d_Mo_order 23 rfl) rfl c_Mo_people l_Mo_202 (by decide) (rv_mo (by decide +kernel)) rfl rfl (Nat.le_of_ble_eq_true rfl) ?_
    refine sp_Mo_people H.1.1 ?_
    show Wx g y_Mo_order Z K 41 [vR 174, vI n, vI w, vI l, vI b, vI (i : Int), w6] [vI (t 6), vI (t 3), vI (i : Int)] σ1
    refine x_imul (v := (t 3) * (t 6)) (dat d_Mo_order 24 rfl) rfl (by omega) ?_
    refine x_aload_n (dat d_Mo_order 25 rfl) rfl rfl ?_
    refine x_inv (As := []) (dat d_Mo_order 26 rfl) rfl c_Mo_cells l_Mo_373 (by decide) (rv_mo (by decide +kernel)) rfl rfl (Nat.le_of_ble_eq_true rfl) ?_
    refine sp_Mo_cells H.1.1 H.1.2 ?_
    show Wx g y_Mo_order Z K 46 [vR 174, vI n, vI w, vI l, vI b, vI (i : Int), w6] [vI (t 0 * t 1), vI ((t 3) * (t 6)), vI (i : Int)] σ1
    refine x_imul (v := (N : Int)) (dat d_Mo_order 27 rfl) (by exact hN) (by omega) ?_
    refine x_icmp_ge (tgt := 133) (dat d_Mo_order 28 rfl) (by decide) (fun c_47 => (by omega)) (fun c_47 => ?_)
    refine x_aload_n (dat d_Mo_order 29 rfl) rfl rfl ?_
    refine x_iload (dat d_Mo_order 30 rfl) rfl ?_
    refine x_aload_n (dat d_Mo_order 31 rfl) rfl rfl ?_
    refine x_inv (As := []) (dat d_Mo_order 32 rfl) rfl c_Mo_cells l_Mo_373 (by decide) (rv_mo (by decide +kernel)) rfl rfl (Nat.le_of_ble_eq_true rfl) ?_
    refine sp_Mo_cells H.1.1 H.1.2 ?_
    show Wx g y_Mo_order Z K 57 [vR 174, vI n, vI w, vI l, vI b, vI (i : Int), w6] [vI (t 0 * t 1), vI (i : Int), vR 174] σ1
    refine x_idiv (v := (i : Int) / (t 0 * t 1)) (dat d_Mo_order 33 rfl) (by omega) rfl ?_
    refine x_aload_n (dat d_Mo_order 34 rfl) rfl rfl ?_
    refine x_inv (As := []) (dat d_Mo_order 35 rfl) rfl c_Mo_people l_Mo_202 (by decide) (rv_mo (by decide +kernel)) rfl rfl (Nat.le_of_ble_eq_true rfl) ?_
    refine sp_Mo_people H.1.1 ?_
    show Wx g y_Mo_order Z K 62 [vR 174, vI n, vI w, vI l, vI b, vI (i : Int), w6] [vI (t 6), vI ((i : Int) / (t 0 * t 1)), vR 174] σ1
    refine x_idiv (v := ((i : Int) / (t 0 * t 1)) / (t 6)) (dat d_Mo_order 36 rfl) (by omega) rfl ?_
    refine x_puti (ji := 17) (x := (((i : Int) / (t 0 * t 1)) / (t 6))) (dat d_Mo_order 37 rfl) rfl f_Mo_226w (oi_mk (by decide +kernel)) (fun h => absurd h (by decide)) (by decide) ?_
    refine x_aload_n (dat d_Mo_order 38 rfl) rfl rfl ?_
    refine x_iload (dat d_Mo_order 39 rfl) rfl ?_
    refine x_aload_n (dat d_Mo_order 40 rfl) rfl rfl ?_
    refine x_inv (As := []) (dat d_Mo_order 41 rfl) rfl c_Mo_cells l_Mo_373 (by decide) (rv_mo (by decide +kernel)) rfl rfl (Nat.le_of_ble_eq_true rfl) ?_
    refine sp_Mo_cells H2.1.1 H.1.2 ?_
    show Wx g y_Mo_order Z K 73 [vR 174, vI n, vI w, vI l, vI b, vI (i : Int), w6] [vI (t 0 * t 1), vI (i : Int), vR 174] (up σ1 174 17 (((i : Int) / (t 0 * t 1)) / (t 6)))
    refine x_idiv (v := (i : Int) / (t 0 * t 1)) (dat d_Mo_order 42 rfl) (by omega) rfl ?_
    refine x_aload_n (dat d_Mo_order 43 rfl) rfl rfl ?_
    refine x_inv (As := []) (dat d_Mo_order 44 rfl) rfl c_Mo_people l_Mo_202 (by decide) (rv_mo (by decide +kernel)) rfl rfl (Nat.le_of_ble_eq_true rfl) ?_
    refine sp_Mo_people H2.1.1 ?_
    show Wx g y_Mo_order Z K 78 [vR 174, vI n, vI w, vI l, vI b, vI (i : Int), w6] [vI (t 6), vI ((i : Int) / (t 0 * t 1)), vR 174] (up σ1 174 17 (((i : Int) / (t 0 * t 1)) / (t 6)))
    refine x_irem (v := ((i : Int) / (t 0 * t 1)) % (t 6)) (dat d_Mo_order 45 rfl) (by omega) rfl ?_
    refine x_puti (ji := 18) (x := (((i : Int) / (t 0 * t 1)) % (t 6))) (dat d_Mo_order 46 rfl) rfl f_Mo_268w (oi_mk (by decide +kernel)) (fun h => absurd h (by decide)) (by decide) ?_
    refine x_aload_n (dat d_Mo_order 47 rfl) rfl rfl ?_
    refine x_iload (dat d_Mo_order 48 rfl) rfl ?_
    refine x_aload_n (dat d_Mo_order 49 rfl) rfl rfl ?_
    refine x_inv (As := []) (dat d_Mo_order 50 rfl) rfl c_Mo_cells l_Mo_373 (by decide) (rv_mo (by decide +kernel)) rfl rfl (Nat.le_of_ble_eq_true rfl) ?_
    refine sp_Mo_cells H3.1.1 H.1.2 ?_
    show Wx g y_Mo_order Z K 89 [vR 174, vI n, vI w, vI l, vI b, vI (i : Int), w6] [vI (t 0 * t 1), vI (i : Int), vR 174] (up (up σ1 174 17 (((i : Int) / (t 0 * t 1)) / (t 6))) 174 18 (((i : Int) / (t 0 * t 1)) % (t 6)))
    refine x_irem (v := (i : Int) % (t 0 * t 1)) (dat d_Mo_order 51 rfl) (by omega) rfl ?_
    refine x_puti (ji := 19) (x := ((i : Int) % (t 0 * t 1))) (dat d_Mo_order 52 rfl) rfl f_Mo_271w (oi_mk (by decide +kernel)) (fun h => absurd h (by decide)) (by decide) ?_
    refine x_aload_n (dat d_Mo_order 53 rfl) rfl rfl ?_
    refine x_inv (As := []) (dat d_Mo_order 54 rfl) rfl c_Mo_starved l_Mo_370 (by decide) (rv_mo (by decide +kernel)) rfl rfl (Nat.le_of_ble_eq_true rfl) ?_
    refine sp_Kn_starved H4 M4 (Or.inl rfl) (fun σ2 R M5 H5 W5 => ?_)
    rw [hv2]
    show Wx g y_Mo_order Z K 97 [vR 174, vI n, vI w, vI l, vI b, vI (i : Int), w6] [vI v] σ2
    refine x_istore (L' := [vR 174, vI n, vI w, vI l, vI b, vI (i : Int), vI v]) (dat d_Mo_order 55 rfl) (by decide) rfl rfl ?_
    refine x_iload (dat d_Mo_order 56 rfl) rfl ?_
    refine x_iload_n (dat d_Mo_order 57 rfl) rfl rfl ?_
    refine x_icmp_ge (tgt := 110) (dat d_Mo_order 58 rfl) (by decide) (fun c_102 => ?_) (fun c_102 => ?_)
    · refine x_iload (dat d_Mo_order 61 rfl) rfl ?_
      refine x_istore (L' := [vR 174, vI n, vI w, vI l, vI b, vI (i : Int), vI v]) (dat d_Mo_order 62 rfl) (by decide) rfl rfl ?_
      refine x_iload (dat d_Mo_order 63 rfl) rfl ?_
      refine x_iload_n (dat d_Mo_order 64 rfl) rfl rfl ?_
      refine x_icmp_ge (tgt := 125) (dat d_Mo_order 65 rfl) (by decide) (fun c_117 => ?_) (fun c_117 => ?_)
      · refine x_iload_n (dat d_Mo_order 68 rfl) rfl rfl ?_
        refine x_istore_n (L' := [vR 174, vI n, vI w, vI l, vI b, vI (i : Int), vI v]) (dat d_Mo_order 69 rfl) rfl (by decide) rfl rfl ?_
        refine x_iinc (v' := ((i + 1 : Nat) : Int)) (L' := [vR 174, vI n, vI w, vI l, vI b, vI ((i + 1 : Nat) : Int), vI v]) (dat d_Mo_order 70 rfl) rfl (by decide) rfl (by omega) (by omega) rfl ?_
        refine x_goto (tgt := 30) (dat d_Mo_order 71 rfl) (by decide) ?_
        first
        | (exfalso; omega)
        | exact nx _ _ _ _ (by rw [st, if_pos (by omega)]) H5 (F4.trans W5.mo)
        | exact nx _ _ _ _ (by rw [st, if_neg (by omega)]) H5 (F4.trans W5.mo)
      · refine x_iload (dat d_Mo_order 66 rfl) rfl ?_
        refine x_goto (tgt := 126) (dat d_Mo_order 67 rfl) (by decide) ?_
        refine x_istore_n (L' := [vR 174, vI n, vI w, vI v, vI b, vI (i : Int), vI v]) (dat d_Mo_order 69 rfl) rfl (by decide) rfl rfl ?_
        refine x_iinc (v' := ((i + 1 : Nat) : Int)) (L' := [vR 174, vI n, vI w, vI v, vI b, vI ((i + 1 : Nat) : Int), vI v]) (dat d_Mo_order 70 rfl) rfl (by decide) rfl (by omega) (by omega) rfl ?_
        refine x_goto (tgt := 30) (dat d_Mo_order 71 rfl) (by decide) ?_
        first
        | (exfalso; omega)
        | exact nx _ _ _ _ (by rw [st, if_pos (by omega)]) H5 (F4.trans W5.mo)
        | exact nx _ _ _ _ (by rw [st, if_neg (by omega)]) H5 (F4.trans W5.mo)
    · refine x_iload (dat d_Mo_order 59 rfl) rfl ?_
      refine x_goto (tgt := 112) (dat d_Mo_order 60 rfl) (by decide) ?_
      refine x_istore (L' := [vR 174, vI n, vI w, vI l, vI (i : Int), vI (i : Int), vI v]) (dat d_Mo_order 62 rfl) (by decide) rfl rfl ?_
      refine x_iload (dat d_Mo_order 63 rfl) rfl ?_
      refine x_iload_n (dat d_Mo_order 64 rfl) rfl rfl ?_
      refine x_icmp_ge (tgt := 125) (dat d_Mo_order 65 rfl) (by decide) (fun c_117 => ?_) (fun c_117 => ?_)
      · refine x_iload_n (dat d_Mo_order 68 rfl) rfl rfl ?_
        refine x_istore_n (L' := [vR 174, vI n, vI w, vI l, vI (i : Int), vI (i : Int), vI v]) (dat d_Mo_order 69 rfl) rfl (by decide) rfl rfl ?_
        refine x_iinc (v' := ((i + 1 : Nat) : Int)) (L' := [vR 174, vI n, vI w, vI l, vI (i : Int), vI ((i + 1 : Nat) : Int), vI v]) (dat d_Mo_order 70 rfl) rfl (by decide) rfl (by omega) (by omega) rfl ?_
        refine x_goto (tgt := 30) (dat d_Mo_order 71 rfl) (by decide) ?_
        first
        | (exfalso; omega)
        | exact nx _ _ _ _ (by rw [st, if_pos (by omega)]) H5 (F4.trans W5.mo)
        | exact nx _ _ _ _ (by rw [st, if_neg (by omega)]) H5 (F4.trans W5.mo)
      · refine x_iload (dat d_Mo_order 66 rfl) rfl ?_
        refine x_goto (tgt := 126) (dat d_Mo_order 67 rfl) (by decide) ?_
        refine x_istore_n (L' := [vR 174, vI n, vI w, vI v, vI (i : Int), vI (i : Int), vI v]) (dat d_Mo_order 69 rfl) rfl (by decide) rfl rfl ?_
        refine x_iinc (v' := ((i + 1 : Nat) : Int)) (L' := [vR 174, vI n, vI w, vI v, vI (i : Int), vI ((i + 1 : Nat) : Int), vI v]) (dat d_Mo_order 70 rfl) rfl (by decide) rfl (by omega) (by omega) rfl ?_
        refine x_goto (tgt := 30) (dat d_Mo_order 71 rfl) (by decide) ?_
        first
        | (exfalso; omega)
        | exact nx _ _ _ _ (by rw [st, if_pos (by omega)]) H5 (F4.trans W5.mo)
        | exact nx _ _ _ _ (by rw [st, if_neg (by omega)]) H5 (F4.trans W5.mo)
theorem sp_Mo_order {w : Int} (A : MoA σ a) (k : ∀ (r : Int) (σ' : xS), atT a n (-1) (fun t r => orrA t w r) r → MoA σ' a → MoF σ' σ → K (some (vI r)) σ') : Mt g y_Mo_order [vR 174, vI n, vI w] σ K := by
  refine x_enter 4 rfl rfl rfl (fun Z => ?_)
  show Wx g y_Mo_order Z K 0 [vR 174, vI n, vI w, vU, vU, vU, vU] [] σ
  refine x_aload_n (dat d_Mo_order 0 rfl) rfl rfl ?_
  refine x_iload_n (dat d_Mo_order 1 rfl) rfl rfl ?_
  refine x_inv (As := [vI n]) (dat d_Mo_order 2 rfl) rfl c_Mo_isTown l_Mo_205 (by decide) (rv_mo (by decide +kernel)) rfl rfl (Nat.le_of_ble_eq_true rfl) ?_
  refine sp_Mo_isTown A (fun σ1 t0 n0 n1 H P Z1 A1 F => ?_) (fun n01 => ?_)
  · show Wx g y_Mo_order Z K 5 [vR 174, vI n, vI w, vU, vU, vU, vU] [vI 1] σ1
    refine x_if_eq (tgt := 17) (dat d_Mo_order 3 rfl) (by decide) (fun h => absurd h (by decide)) (fun c_5 => ?_)
    refine x_iload_n (dat d_Mo_order 4 rfl) rfl rfl ?_
    refine x_iconst (dat d_Mo_order 5 rfl) (by decide) ?_
    refine x_iconst (dat d_Mo_order 6 rfl) (by decide) ?_
    refine x_invs (As := [vI w, vI 0, vI 3]) (dat d_Mo_order 7 rfl) rfl c_Mo_isIn l_Mo_136 (by decide) rfl rfl (Nat.le_of_ble_eq_true rfl) ?_
    refine sp_Mo_isIn (fun x1 x2 => ?_) (fun x1 => ?_)
    · show Wx g y_Mo_order Z K 14 [vR 174, vI n, vI w, vU, vU, vU, vU] [vI 1] σ1
      refine x_if_ne (tgt := 19) (dat d_Mo_order 8 rfl) (by decide) (fun c_14 => ?_) (fun h => absurd h (by decide))
      refine x_aload_n (dat d_Mo_order 11 rfl) rfl rfl ?_
      refine x_inv (As := []) (dat d_Mo_order 12 rfl) rfl c_Mo_starved l_Mo_370 (by decide) (rv_mo (by decide +kernel)) rfl rfl (Nat.le_of_ble_eq_true rfl) ?_
      refine sp_Kn_starved (KnX.pln H P Z1 [17]) H (Or.inl rfl) (fun σ2 R M2 H2 W2 => ?_)
      show Wx g y_Mo_order Z K 23 [vR 174, vI n, vI w, vU, vU, vU, vU] [vI (stv (cfg (tw a n)))] σ2
      refine x_istore_n (L' := [vR 174, vI n, vI w, vI (stv (cfg (tw a n))), vU, vU, vU]) (dat d_Mo_order 13 rfl) rfl (by decide) rfl rfl ?_
      refine x_iconst (dat d_Mo_order 14 rfl) (by decide) ?_
      refine x_istore (L' := [vR 174, vI n, vI w, vI (stv (cfg (tw a n))), vI (-1), vU, vU]) (dat d_Mo_order 15 rfl) (by decide) rfl rfl ?_
      refine x_iconst (dat d_Mo_order 16 rfl) (by decide) ?_
      refine x_istore (L' := [vR 174, vI n, vI w, vI (stv (cfg (tw a n))), vI (-1), vI 0, vU]) (dat d_Mo_order 17 rfl) (by decide) rfl rfl ?_
      have kk : ∀ (r : Int) (σ' : xS), orrA (tw a n) w r → MoF σ' σ → K (some (vI r)) σ' := fun r σ' hr F2 => k _ σ' ⟨fun z => absurd ⟨n0, n1⟩ z, fun _ _ => hr⟩ (A.same F2) F2
      have F2 : MoF σ2 σ := F.trans W2.mo
      generalize tw a n = t at H2 kk
      have hT := H2.1.2
      have cb := cells_bd hT
      have t3 := hT.2.2.2.1
      have t6 := hT.2.2.2.2.2.2.1
      have b1 : t 3 * t 6 ≤ 24 * 8 := Int.mul_le_mul (by omega) (by omega) (by omega) (by omega)
      have b2 : 0 ≤ t 3 * t 6 := Int.mul_nonneg (by omega) (by omega)
      have eN : (((t 3).toNat * (t 6).toNat * (t 0 * t 1).toNat : Nat) : Int) = t 3 * t 6 * (t 0 * t 1) := by rw [Int.natCast_mul, Int.natCast_mul, Int.toNat_of_nonneg (by omega), Int.toNat_of_nonneg (by omega), Int.toNat_of_nonneg (by omega)]
      have b3 : (t 3).toNat * (t 6).toNat ≤ 24 * 8 := Nat.mul_le_mul (by omega) (by omega)
      have b4 : (t 3).toNat * (t 6).toNat * (t 0 * t 1).toNat ≤ 24 * 8 * 36 := Nat.mul_le_mul b3 (by omega)
      have b5 : 0 < (t 3).toNat * (t 6).toNat * (t 0 * t 1).toNat → 1 ≤ t 6 := fun z => by
        by_cases y : t 6 = 0
        · rw [show (t 6).toNat = 0 by omega, Nat.mul_zero, Nat.zero_mul] at z
          omega
        · omega
      exact lp_Mo_order eN.symm rfl b4 b5 (by omega) b2 x1 x2 kk ((t 3).toNat * (t 6).toNat * (t 0 * t 1).toNat) 0 σ2 (-1) _ _ (by omega) rfl H2 F2
    · show Wx g y_Mo_order Z K 14 [vR 174, vI n, vI w, vU, vU, vU, vU] [vI 0] σ1
      refine x_if_ne (tgt := 19) (dat d_Mo_order 8 rfl) (by decide) (fun h => absurd h (by decide)) (fun c_14 => ?_)
      refine x_iconst (dat d_Mo_order 9 rfl) (by decide) ?_
      refine x_iret (dat d_Mo_order 10 rfl) rfl ?_
      first
      | exact k _ σ ⟨fun _ => rfl, fun z1 z2 => absurd ⟨z1, z2⟩ n01⟩ A (MoF.rfl σ)
      | exact k _ σ1 ⟨fun _ => rfl, fun _ _ => by show orrA (tw a n) w (-1); unfold orrA; rw [if_pos (Or.inl x1)]⟩ A1 F
  · show Wx g y_Mo_order Z K 5 [vR 174, vI n, vI w, vU, vU, vU, vU] [vI 0] σ
    refine x_if_eq (tgt := 17) (dat d_Mo_order 3 rfl) (by decide) (fun c_5 => ?_) (fun h => absurd h (by decide))
    refine x_iconst (dat d_Mo_order 9 rfl) (by decide) ?_
    refine x_iret (dat d_Mo_order 10 rfl) rfl ?_
    first
    | exact k _ σ ⟨fun _ => rfl, fun z1 z2 => absurd ⟨z1, z2⟩ n01⟩ A (MoF.rfl σ)
    | exact k _ σ1 ⟨fun _ => rfl, fun _ _ => by show orrA (tw a n) w (-1); unfold orrA; rw [if_pos (Or.inl x1)]⟩ A1 F
theorem lp_Mo_swap {Z : xZ} {w : Int} {N : Nat} (hN : t 6 * t 6 = (N : Int)) (hNe : (t 6).toNat * (t 6).toNat = N) (hN1 : N ≤ 64) (hP : 0 < N → 1 ≤ t 6) (w0 : 0 ≤ w) (w1 : w ≤ 2) (k : ∀ (r : Int) (σ' : xS), swaA t w r → MoF σ' σ0 → K (some (vI r)) σ') : ∀ (d i : Nat) (σ1 : xS) (b l : Int) (w6 : MV), i + d = N → ordN (swpF t) (stv (cfg t)) i = (b, l) → KnX σ1 t t0 [32] → MoF σ1 σ0 → Wx g y_Mo_swap Z K 30 [vR 174, vI n, vI w, vI l, vI b, vI (i : Int), w6] [] σ1 := by
  intro d
  induction d with
  | zero =>
    intro i σ1 b l w6 hd hb H F
    have fi := ordN_b hb
    have e : i = N := by omega
    rw [e] at hb
    have hP2 : b ≠ -1 → 1 ≤ t 6 := fun z => hP (by omega)
    have kk : ∀ r : Int, (b = -1 → r = -1) → (b ≠ -1 → (w = 0 → r = b / t 6) ∧ (w = 1 → r = b % t 6) ∧ (w = 2 → r = l)) → K (some (vI r)) σ1 := fun r h1 h2 => by
      refine k r σ1 ?_ F
      unfold swaA
      rw [hNe, hb]
      dsimp only
      by_cases z : b = -1
      · rw [if_pos (Or.inr z)]; exact h1 z
      · rw [if_neg (show ¬ (¬ (0 ≤ w ∧ w ≤ 2) ∨ b = -1) by omega)]
        obtain ⟨a0, a1, a2⟩ := h2 z
        by_cases y0 : w = 0
        · rw [if_pos y0]; exact a0 y0
        · rw [if_neg y0]
          by_cases y1 : w = 1
          · rw [if_pos y1]; exact a1 y1
          · rw [if_neg y1]; exact a2 (by omega)
    refine x_iload (dat d_Mo_swap 18 rfl) rfl ?_
    refine x_aload_n (dat d_Mo_swap 19 rfl) rfl rfl ?_
    refine x_inv (As := []) (dat d_Mo_swap 20 rfl) rfl c_Mo_people l_Mo_202 (by decide) (rv_mo (by decide +kernel)) rfl rfl (Nat.le_of_ble_eq_true rfl) ?_
    refine sp_Mo_people H.1.1 ?_
    show Wx g y_Mo_swap Z K 36 [vR 174, vI n, vI w, vI l, vI b, vI (i : Int), w6] [vI (t 6), vI (i : Int)] σ1
    refine x_aload_n (dat d_Mo_swap 21 rfl) rfl rfl ?_
    refine x_inv (As := []) (dat d_Mo_swap 22 rfl) rfl c_Mo_people l_Mo_202 (by decide) (rv_mo (by decide +kernel)) rfl rfl (Nat.le_of_ble_eq_true rfl) ?_
    refine sp_Mo_people H.1.1 ?_
    show Wx g y_Mo_swap Z K 40 [vR 174, vI n, vI w, vI l, vI b, vI (i : Int), w6] [vI (t 6), vI (t 6), vI (i : Int)] σ1
    refine x_imul (v := (N : Int)) (dat d_Mo_swap 23 rfl) (by exact hN) (by omega) ?_
    refine x_icmp_ge (tgt := 120) (dat d_Mo_swap 24 rfl) (by decide) (fun c_41 => ?_) (fun c_41 => (by omega))
    refine x_iload (dat d_Mo_swap 62 rfl) rfl ?_
    refine x_if_ge (tgt := 127) (dat d_Mo_swap 63 rfl) (by decide) (fun c_122 => ?_) (fun c_122 => ?_)
    · refine x_iload_n (dat d_Mo_swap 66 rfl) rfl rfl ?_
      refine x_if_ne (tgt := 141) (dat d_Mo_swap 67 rfl) (by decide) (fun c_128 => ?_) (fun c_128 => ?_)
      · refine x_iload_n (dat d_Mo_swap 73 rfl) rfl rfl ?_
        refine x_iconst (dat d_Mo_swap 74 rfl) (by decide) ?_
        refine x_icmp_ne (tgt := 156) (dat d_Mo_swap 75 rfl) (by decide) (fun c_143 => ?_) (fun c_143 => ?_)
        · refine x_iload_n (dat d_Mo_swap 81 rfl) rfl rfl ?_
          refine x_iret (dat d_Mo_swap 82 rfl) rfl ?_
          first
          | exact kk _ (fun _ => rfl) (fun z => absurd z (by omega))
          | exact kk _ (fun z => by omega) (fun z => ⟨fun _ => rfl, fun y => by omega, fun y => by omega⟩)
          | exact kk _ (fun z => by omega) (fun z => ⟨fun y => by omega, fun _ => rfl, fun y => by omega⟩)
          | exact kk _ (fun z => by omega) (fun z => ⟨fun y => by omega, fun y => by omega, fun _ => rfl⟩)
        · refine x_iload (dat d_Mo_swap 76 rfl) rfl ?_
          refine x_aload_n (dat d_Mo_swap 77 rfl) rfl rfl ?_
          refine x_inv (As := []) (dat d_Mo_swap 78 rfl) rfl c_Mo_people l_Mo_202 (by decide) (rv_mo (by decide +kernel)) rfl rfl (Nat.le_of_ble_eq_true rfl) ?_
          refine sp_Mo_people H.1.1 ?_
          show Wx g y_Mo_swap Z K 152 [vR 174, vI n, vI w, vI l, vI b, vI (i : Int), w6] [vI (t 6), vI b] σ1
          refine x_irem (v := b % (t 6)) (dat d_Mo_swap 79 rfl) (by exact ⟨by omega, hP2 (by omega)⟩) rfl ?_
          refine x_goto (tgt := 157) (dat d_Mo_swap 80 rfl) (by decide) ?_
          refine x_iret (dat d_Mo_swap 82 rfl) rfl ?_
          first
          | exact kk _ (fun _ => rfl) (fun z => absurd z (by omega))
          | exact kk _ (fun z => by omega) (fun z => ⟨fun _ => rfl, fun y => by omega, fun y => by omega⟩)
          | exact kk _ (fun z => by omega) (fun z => ⟨fun y => by omega, fun _ => rfl, fun y => by omega⟩)
          | exact kk _ (fun z => by omega) (fun z => ⟨fun y => by omega, fun y => by omega, fun _ => rfl⟩)
      · refine x_iload (dat d_Mo_swap 68 rfl) rfl ?_
        refine x_aload_n (dat d_Mo_swap 69 rfl) rfl rfl ?_
        refine x_inv (As := []) (dat d_Mo_swap 70 rfl) rfl c_Mo_people l_Mo_202 (by decide) (rv_mo (by decide +kernel)) rfl rfl (Nat.le_of_ble_eq_true rfl) ?_
        refine sp_Mo_people H.1.1 ?_
        show Wx g y_Mo_swap Z K 137 [vR 174, vI n, vI w, vI l, vI b, vI (i : Int), w6] [vI (t 6), vI b] σ1
        refine x_idiv (v := b / (t 6)) (dat d_Mo_swap 71 rfl) (by exact ⟨by omega, hP2 (by omega)⟩) rfl ?_
        refine x_goto (tgt := 157) (dat d_Mo_swap 72 rfl) (by decide) ?_
        refine x_iret (dat d_Mo_swap 82 rfl) rfl ?_
        first
        | exact kk _ (fun _ => rfl) (fun z => absurd z (by omega))
        | exact kk _ (fun z => by omega) (fun z => ⟨fun _ => rfl, fun y => by omega, fun y => by omega⟩)
        | exact kk _ (fun z => by omega) (fun z => ⟨fun y => by omega, fun _ => rfl, fun y => by omega⟩)
        | exact kk _ (fun z => by omega) (fun z => ⟨fun y => by omega, fun y => by omega, fun _ => rfl⟩)
    · refine x_iconst (dat d_Mo_swap 64 rfl) (by decide) ?_
      refine x_iret (dat d_Mo_swap 65 rfl) rfl ?_
      first
      | exact kk _ (fun _ => rfl) (fun z => absurd z (by omega))
      | exact kk _ (fun z => by omega) (fun z => ⟨fun _ => rfl, fun y => by omega, fun y => by omega⟩)
      | exact kk _ (fun z => by omega) (fun z => ⟨fun y => by omega, fun _ => rfl, fun y => by omega⟩)
      | exact kk _ (fun z => by omega) (fun z => ⟨fun y => by omega, fun y => by omega, fun _ => rfl⟩)
  | succ d ih =>
    intro i σ1 b l w6 hd hb H F
    have hP1 : 1 ≤ t 6 := hP (by omega)
    have st := ordN_s hb
    have fi := ordN_b hb
    have s8 := stv_bd (cfg_ok H.1.2)
    have dq : 0 ≤ (i : Int) / t 6 := Int.ediv_nonneg (by omega) (by omega)
    have dq1 : (i : Int) / t 6 < t 6 := Int.ediv_lt_of_lt_mul (by omega) (by omega)
    have dw : 0 ≤ (i : Int) % t 6 := Int.emod_nonneg _ (by omega)
    have dw1 : (i : Int) % t 6 < t 6 := Int.emod_lt_of_pos _ (by omega)
    obtain ⟨v, hv⟩ : ∃ v : Int, v = stv (swpC t ((i : Int) / t 6) ((i : Int) % t 6)) := ⟨_, rfl⟩
    have ef : swpF t i = if (i : Int) / t 6 < (i : Int) % t 6 then v else 9 := by unfold swpF; rw [hv]
    rw [ef] at st
    have nx : ∀ (σ2 : xS) (b' l' : Int) (w6 : MV), ordN (swpF t) (stv (cfg t)) (i + 1) = (b', l') → KnX σ2 t t0 [32] → MoF σ2 σ0 → Wx g y_Mo_swap Z K 30 [vR 174, vI n, vI w, vI l', vI b', vI ((i + 1 : Nat) : Int), w6] [] σ2 := fun σ2 b' l' w6 e H3 F3 => ih (i + 1) σ2 b' l' w6 (by omega) e H3 F3
    have H2 : KnX (up σ1 174 32 ((i : Int) / t 6)) t t0 [32] := H.put (by decide)
    have H4 : KnX (up (up σ1 174 32 ((i : Int) / t 6)) 174 33 ((i : Int) % t 6)) t t0 [32] := H2.put (by decide)
    have F4 : MoF (up (up σ1 174 32 ((i : Int) / t 6)) 174 33 ((i : Int) % t 6)) σ0 := (F.put (by decide)).put (by decide)
    have M4 := kn_swp H4 dq dq1 dw dw1 (by rw [up_ni (by decide), up_s]) up_s
    refine x_iload (dat d_Mo_swap 18 rfl) rfl ?_
    refine x_aload_n (dat d_Mo_swap 19 rfl) rfl rfl ?_
    refine x_inv (As := []) (dat d_Mo_swap 20 rfl) rfl c_Mo_people l_Mo_202 (by decide) (rv_mo (by decide +kernel)) rfl rfl (Nat.le_of_ble_eq_true rfl) ?_
    refine sp_Mo_people H.1.1 ?_
    show Wx g y_Mo_swap Z K 36 [vR 174, vI n, vI w, vI l, vI b, vI (i : Int), w6] [vI (t 6), vI (i : Int)] σ1
    refine x_aload_n (dat d_Mo_swap 21 rfl) rfl rfl ?_
    refine x_inv (As := []) (dat d_Mo_swap 22 rfl) rfl c_Mo_people l_Mo_202 (by decide) (rv_mo (by decide +kernel)) rfl rfl (Nat.le_of_ble_eq_true rfl) ?_
    refine sp_Mo_people H.1.1 ?_
    show Wx g y_Mo_swap Z K 40 [vR 174, vI n, vI w, vI l, vI b, vI (i : Int), w6] [vI (t 6), vI (t 6), vI (i : Int)] σ1
    refine x_imul (v := (N : Int)) (dat d_Mo_swap 23 rfl) (by exact hN) (by omega) ?_
    refine x_icmp_ge (tgt := 120) (dat d_Mo_swap 24 rfl) (by decide) (fun c_41 => (by omega)) (fun c_41 => ?_)
    refine x_aload_n (dat d_Mo_swap 25 rfl) rfl rfl ?_
    refine x_iload (dat d_Mo_swap 26 rfl) rfl ?_
    refine x_aload_n (dat d_Mo_swap 27 rfl) rfl rfl ?_
    refine x_inv (As := []) (dat d_Mo_swap 28 rfl) rfl c_Mo_people l_Mo_202 (by decide) (rv_mo (by decide +kernel)) rfl rfl (Nat.le_of_ble_eq_true rfl) ?_
    refine sp_Mo_people H.1.1 ?_
    show Wx g y_Mo_swap Z K 51 [vR 174, vI n, vI w, vI l, vI b, vI (i : Int), w6] [vI (t 6), vI (i : Int), vR 174] σ1
    refine x_idiv (v := (i : Int) / (t 6)) (dat d_Mo_swap 29 rfl) (by omega) rfl ?_
    refine x_puti (ji := 32) (x := ((i : Int) / (t 6))) (dat d_Mo_swap 30 rfl) rfl f_Mo_244w (oi_mk (by decide +kernel)) (fun h => absurd h (by decide)) (by decide) ?_
    refine x_aload_n (dat d_Mo_swap 31 rfl) rfl rfl ?_
    refine x_iload (dat d_Mo_swap 32 rfl) rfl ?_
    refine x_aload_n (dat d_Mo_swap 33 rfl) rfl rfl ?_
    refine x_inv (As := []) (dat d_Mo_swap 34 rfl) rfl c_Mo_people l_Mo_202 (by decide) (rv_mo (by decide +kernel)) rfl rfl (Nat.le_of_ble_eq_true rfl) ?_
    refine sp_Mo_people H2.1.1 ?_
    show Wx g y_Mo_swap Z K 62 [vR 174, vI n, vI w, vI l, vI b, vI (i : Int), w6] [vI (t 6), vI (i : Int), vR 174] (up σ1 174 32 ((i : Int) / (t 6)))
    refine x_irem (v := (i : Int) % (t 6)) (dat d_Mo_swap 35 rfl) (by omega) rfl ?_
    refine x_puti (ji := 33) (x := ((i : Int) % (t 6))) (dat d_Mo_swap 36 rfl) rfl f_Mo_259w (oi_mk (by decide +kernel)) (fun h => absurd h (by decide)) (by decide) ?_
    refine x_aload_n (dat d_Mo_swap 37 rfl) rfl rfl ?_
    refine x_geti (ji := 32) (v := (i : Int) / (t 6)) (dat d_Mo_swap 38 rfl) rfl f_Mo_244 (oi_mk (by decide +kernel)) ((up_ni (by decide)).trans up_s) ?_
    refine x_aload_n (dat d_Mo_swap 39 rfl) rfl rfl ?_
    refine x_geti (ji := 33) (v := (i : Int) % (t 6)) (dat d_Mo_swap 40 rfl) rfl f_Mo_259 (oi_mk (by decide +kernel)) (up_s) ?_
    refine x_icmp_lt (tgt := 80) (dat d_Mo_swap 41 rfl) (by decide) (fun c_74 => ?_) (fun c_74 => ?_)
    · refine x_aload_n (dat d_Mo_swap 43 rfl) rfl rfl ?_
      refine x_inv (As := []) (dat d_Mo_swap 44 rfl) rfl c_Mo_starved l_Mo_370 (by decide) (rv_mo (by decide +kernel)) rfl rfl (Nat.le_of_ble_eq_true rfl) ?_
      refine sp_Kn_starved H4 M4 (Or.inl rfl) (fun σ2 R M5 H5 W5 => ?_)
      rw [← hv]
      rw [if_pos (show (i : Int) / t 6 < (i : Int) % t 6 by omega)] at st
      show Wx g y_Mo_swap Z K 84 [vR 174, vI n, vI w, vI l, vI b, vI (i : Int), w6] [vI v] σ2
      refine x_istore (L' := [vR 174, vI n, vI w, vI l, vI b, vI (i : Int), vI v]) (dat d_Mo_swap 45 rfl) (by decide) rfl rfl ?_
      refine x_iload (dat d_Mo_swap 46 rfl) rfl ?_
      refine x_iload_n (dat d_Mo_swap 47 rfl) rfl rfl ?_
      refine x_icmp_ge (tgt := 97) (dat d_Mo_swap 48 rfl) (by decide) (fun c_89 => ?_) (fun c_89 => ?_)
      · refine x_iload (dat d_Mo_swap 51 rfl) rfl ?_
        refine x_istore (L' := [vR 174, vI n, vI w, vI l, vI b, vI (i : Int), vI v]) (dat d_Mo_swap 52 rfl) (by decide) rfl rfl ?_
        refine x_iload (dat d_Mo_swap 53 rfl) rfl ?_
        refine x_iload_n (dat d_Mo_swap 54 rfl) rfl rfl ?_
        refine x_icmp_ge (tgt := 112) (dat d_Mo_swap 55 rfl) (by decide) (fun c_104 => ?_) (fun c_104 => ?_)
        · refine x_iload_n (dat d_Mo_swap 58 rfl) rfl rfl ?_
          refine x_istore_n (L' := [vR 174, vI n, vI w, vI l, vI b, vI (i : Int), vI v]) (dat d_Mo_swap 59 rfl) rfl (by decide) rfl rfl ?_
          refine x_iinc (v' := ((i + 1 : Nat) : Int)) (L' := [vR 174, vI n, vI w, vI l, vI b, vI ((i + 1 : Nat) : Int), vI v]) (dat d_Mo_swap 60 rfl) rfl (by decide) rfl (by omega) (by omega) rfl ?_
          refine x_goto (tgt := 30) (dat d_Mo_swap 61 rfl) (by decide) ?_
          first
          | (exfalso; omega)
          | exact nx _ _ _ _ (by rw [st, if_pos (by omega)]) H5 (F4.trans W5.mo)
          | exact nx _ _ _ _ (by rw [st, if_neg (by omega)]) H5 (F4.trans W5.mo)
          | exact nx _ _ _ _ (by rw [st, if_neg (show ¬ (i : Int) / t 6 < (i : Int) % t 6 by omega), if_neg (by omega)]) H4 F4
        · refine x_iload (dat d_Mo_swap 56 rfl) rfl ?_
          refine x_goto (tgt := 113) (dat d_Mo_swap 57 rfl) (by decide) ?_
          refine x_istore_n (L' := [vR 174, vI n, vI w, vI v, vI b, vI (i : Int), vI v]) (dat d_Mo_swap 59 rfl) rfl (by decide) rfl rfl ?_
          refine x_iinc (v' := ((i + 1 : Nat) : Int)) (L' := [vR 174, vI n, vI w, vI v, vI b, vI ((i + 1 : Nat) : Int), vI v]) (dat d_Mo_swap 60 rfl) rfl (by decide) rfl (by omega) (by omega) rfl ?_
          refine x_goto (tgt := 30) (dat d_Mo_swap 61 rfl) (by decide) ?_
          first
          | (exfalso; omega)
          | exact nx _ _ _ _ (by rw [st, if_pos (by omega)]) H5 (F4.trans W5.mo)
          | exact nx _ _ _ _ (by rw [st, if_neg (by omega)]) H5 (F4.trans W5.mo)
          | exact nx _ _ _ _ (by rw [st, if_neg (show ¬ (i : Int) / t 6 < (i : Int) % t 6 by omega), if_neg (by omega)]) H4 F4
      · refine x_iload (dat d_Mo_swap 49 rfl) rfl ?_
        refine x_goto (tgt := 99) (dat d_Mo_swap 50 rfl) (by decide) ?_
        refine x_istore (L' := [vR 174, vI n, vI w, vI l, vI (i : Int), vI (i : Int), vI v]) (dat d_Mo_swap 52 rfl) (by decide) rfl rfl ?_
        refine x_iload (dat d_Mo_swap 53 rfl) rfl ?_
        refine x_iload_n (dat d_Mo_swap 54 rfl) rfl rfl ?_
        refine x_icmp_ge (tgt := 112) (dat d_Mo_swap 55 rfl) (by decide) (fun c_104 => ?_) (fun c_104 => ?_)
        · refine x_iload_n (dat d_Mo_swap 58 rfl) rfl rfl ?_
          refine x_istore_n (L' := [vR 174, vI n, vI w, vI l, vI (i : Int), vI (i : Int), vI v]) (dat d_Mo_swap 59 rfl) rfl (by decide) rfl rfl ?_
          refine x_iinc (v' := ((i + 1 : Nat) : Int)) (L' := [vR 174, vI n, vI w, vI l, vI (i : Int), vI ((i + 1 : Nat) : Int), vI v]) (dat d_Mo_swap 60 rfl) rfl (by decide) rfl (by omega) (by omega) rfl ?_
          refine x_goto (tgt := 30) (dat d_Mo_swap 61 rfl) (by decide) ?_
          first
          | (exfalso; omega)
          | exact nx _ _ _ _ (by rw [st, if_pos (by omega)]) H5 (F4.trans W5.mo)
          | exact nx _ _ _ _ (by rw [st, if_neg (by omega)]) H5 (F4.trans W5.mo)
          | exact nx _ _ _ _ (by rw [st, if_neg (show ¬ (i : Int) / t 6 < (i : Int) % t 6 by omega), if_neg (by omega)]) H4 F4
        · refine x_iload (dat d_Mo_swap 56 rfl) rfl ?_
          refine x_goto (tgt := 113) (dat d_Mo_swap 57 rfl) (by decide) ?_
          refine x_istore_n (L' := [vR 174, vI n, vI w, vI v, vI (i : Int), vI (i : Int), vI v]) (dat d_Mo_swap 59 rfl) rfl (by decide) rfl rfl ?_
          refine x_iinc (v' := ((i + 1 : Nat) : Int)) (L' := [vR 174, vI n, vI w, vI v, vI (i : Int), vI ((i + 1 : Nat) : Int), vI v]) (dat d_Mo_swap 60 rfl) rfl (by decide) rfl (by omega) (by omega) rfl ?_
          refine x_goto (tgt := 30) (dat d_Mo_swap 61 rfl) (by decide) ?_
          first
          | (exfalso; omega)
          | exact nx _ _ _ _ (by rw [st, if_pos (by omega)]) H5 (F4.trans W5.mo)
          | exact nx _ _ _ _ (by rw [st, if_neg (by omega)]) H5 (F4.trans W5.mo)
          | exact nx _ _ _ _ (by rw [st, if_neg (show ¬ (i : Int) / t 6 < (i : Int) % t 6 by omega), if_neg (by omega)]) H4 F4
    · refine x_goto (tgt := 114) (dat d_Mo_swap 42 rfl) (by decide) ?_
      refine x_iinc (v' := ((i + 1 : Nat) : Int)) (L' := [vR 174, vI n, vI w, vI l, vI b, vI ((i + 1 : Nat) : Int), w6]) (dat d_Mo_swap 60 rfl) rfl (by decide) rfl (by omega) (by omega) rfl ?_
      refine x_goto (tgt := 30) (dat d_Mo_swap 61 rfl) (by decide) ?_
      first
      | (exfalso; omega)
      | exact nx _ _ _ _ (by rw [st, if_pos (by omega)]) H5 (F4.trans W5.mo)
      | exact nx _ _ _ _ (by rw [st, if_neg (by omega)]) H5 (F4.trans W5.mo)
      | exact nx _ _ _ _ (by rw [st, if_neg (show ¬ (i : Int) / t 6 < (i : Int) % t 6 by omega), if_neg (by omega)]) H4 F4
theorem sp_Mo_swap {w : Int} (A : MoA σ a) (k : ∀ (r : Int) (σ' : xS), atT a n (-1) (fun t r => swaA t w r) r → MoA σ' a → MoF σ' σ → K (some (vI r)) σ') : Mt g y_Mo_swap [vR 174, vI n, vI w] σ K := by
  refine x_enter 4 rfl rfl rfl (fun Z => ?_)
  show Wx g y_Mo_swap Z K 0 [vR 174, vI n, vI w, vU, vU, vU, vU] [] σ
  refine x_aload_n (dat d_Mo_swap 0 rfl) rfl rfl ?_
  refine x_iload_n (dat d_Mo_swap 1 rfl) rfl rfl ?_
  refine x_inv (As := [vI n]) (dat d_Mo_swap 2 rfl) rfl c_Mo_isTown l_Mo_205 (by decide) (rv_mo (by decide +kernel)) rfl rfl (Nat.le_of_ble_eq_true rfl) ?_
  refine sp_Mo_isTown A (fun σ1 t0 n0 n1 H P Z1 A1 F => ?_) (fun n01 => ?_)
  · show Wx g y_Mo_swap Z K 5 [vR 174, vI n, vI w, vU, vU, vU, vU] [vI 1] σ1
    refine x_if_eq (tgt := 17) (dat d_Mo_swap 3 rfl) (by decide) (fun h => absurd h (by decide)) (fun c_5 => ?_)
    refine x_iload_n (dat d_Mo_swap 4 rfl) rfl rfl ?_
    refine x_iconst (dat d_Mo_swap 5 rfl) (by decide) ?_
    refine x_iconst (dat d_Mo_swap 6 rfl) (by decide) ?_
    refine x_invs (As := [vI w, vI 0, vI 2]) (dat d_Mo_swap 7 rfl) rfl c_Mo_isIn l_Mo_136 (by decide) rfl rfl (Nat.le_of_ble_eq_true rfl) ?_
    refine sp_Mo_isIn (fun x1 x2 => ?_) (fun x1 => ?_)
    · show Wx g y_Mo_swap Z K 14 [vR 174, vI n, vI w, vU, vU, vU, vU] [vI 1] σ1
      refine x_if_ne (tgt := 19) (dat d_Mo_swap 8 rfl) (by decide) (fun c_14 => ?_) (fun h => absurd h (by decide))
      refine x_aload_n (dat d_Mo_swap 11 rfl) rfl rfl ?_
      refine x_inv (As := []) (dat d_Mo_swap 12 rfl) rfl c_Mo_starved l_Mo_370 (by decide) (rv_mo (by decide +kernel)) rfl rfl (Nat.le_of_ble_eq_true rfl) ?_
      refine sp_Kn_starved (KnX.pln H P Z1 [32]) H (Or.inl rfl) (fun σ2 R M2 H2 W2 => ?_)
      show Wx g y_Mo_swap Z K 23 [vR 174, vI n, vI w, vU, vU, vU, vU] [vI (stv (cfg (tw a n)))] σ2
      refine x_istore_n (L' := [vR 174, vI n, vI w, vI (stv (cfg (tw a n))), vU, vU, vU]) (dat d_Mo_swap 13 rfl) rfl (by decide) rfl rfl ?_
      refine x_iconst (dat d_Mo_swap 14 rfl) (by decide) ?_
      refine x_istore (L' := [vR 174, vI n, vI w, vI (stv (cfg (tw a n))), vI (-1), vU, vU]) (dat d_Mo_swap 15 rfl) (by decide) rfl rfl ?_
      refine x_iconst (dat d_Mo_swap 16 rfl) (by decide) ?_
      refine x_istore (L' := [vR 174, vI n, vI w, vI (stv (cfg (tw a n))), vI (-1), vI 0, vU]) (dat d_Mo_swap 17 rfl) (by decide) rfl rfl ?_
      have kk : ∀ (r : Int) (σ' : xS), swaA (tw a n) w r → MoF σ' σ → K (some (vI r)) σ' := fun r σ' hr F2 => k _ σ' ⟨fun z => absurd ⟨n0, n1⟩ z, fun _ _ => hr⟩ (A.same F2) F2
      have F2 : MoF σ2 σ := F.trans W2.mo
      generalize tw a n = t at H2 kk
      have hT := H2.1.2
      have t6 := hT.2.2.2.2.2.2.1
      have eN : (((t 6).toNat * (t 6).toNat : Nat) : Int) = t 6 * t 6 := by rw [Int.natCast_mul, Int.toNat_of_nonneg (by omega)]
      have b3 : (t 6).toNat * (t 6).toNat ≤ 8 * 8 := Nat.mul_le_mul (by omega) (by omega)
      have b5 : 0 < (t 6).toNat * (t 6).toNat → 1 ≤ t 6 := fun z => by
        by_cases y : t 6 = 0
        · rw [show (t 6).toNat = 0 by omega, Nat.mul_zero] at z
          omega
        · omega
      exact lp_Mo_swap eN.symm rfl b3 b5 x1 x2 kk ((t 6).toNat * (t 6).toNat) 0 σ2 (-1) _ _ (by omega) rfl H2 F2
    · show Wx g y_Mo_swap Z K 14 [vR 174, vI n, vI w, vU, vU, vU, vU] [vI 0] σ1
      refine x_if_ne (tgt := 19) (dat d_Mo_swap 8 rfl) (by decide) (fun h => absurd h (by decide)) (fun c_14 => ?_)
      refine x_iconst (dat d_Mo_swap 9 rfl) (by decide) ?_
      refine x_iret (dat d_Mo_swap 10 rfl) rfl ?_
      first
      | exact k _ σ ⟨fun _ => rfl, fun z1 z2 => absurd ⟨z1, z2⟩ n01⟩ A (MoF.rfl σ)
      | exact k _ σ1 ⟨fun _ => rfl, fun _ _ => by show swaA (tw a n) w (-1); unfold swaA; rw [if_pos (Or.inl x1)]⟩ A1 F
  · show Wx g y_Mo_swap Z K 5 [vR 174, vI n, vI w, vU, vU, vU, vU] [vI 0] σ
    refine x_if_eq (tgt := 17) (dat d_Mo_swap 3 rfl) (by decide) (fun c_5 => ?_) (fun h => absurd h (by decide))
    refine x_iconst (dat d_Mo_swap 9 rfl) (by decide) ?_
    refine x_iret (dat d_Mo_swap 10 rfl) rfl ?_
    first
    | exact k _ σ ⟨fun _ => rfl, fun z1 z2 => absurd ⟨z1, z2⟩ n01⟩ A (MoF.rfl σ)
    | exact k _ σ1 ⟨fun _ => rfl, fun _ _ => by show swaA (tw a n) w (-1); unfold swaA; rw [if_pos (Or.inl x1)]⟩ A1 F
end
