/-! the twin's answers: a loaf dropped */ -/
section
variable {g : xG} {K : Option MV → xS → Prop} {σ σ0 : xS} {t : Int → Int} {t0 : Int} {a : Int → Int} {n : Int} {C : Cf}
/-- what a run leaves of the settings -/
theorem MvF.at {σ σ' : xS} (F : MvF σ' σ) {i : Int} (hi : i ≤ 34 ∨ i = 39 ∨ i = 41 ∨ 52 < i) : σ' 174 i = σ 174 i := F.1 i (by omega) (by omega) (by omega) (by omega) (by omega) (by omega)
theorem sp_Mo_loaf {p h m w : Int} (A : MoA σ a) (k : ∀ (r : Int) (σ' : xS), atT a n (-1000) (fun t r => loafA t p h m w r) r → MoA σ' a → MoF σ' σ → K (some (vI r)) σ') : Mt g y_Mo_loaf [vR 174, vI n, vI p, vI h, vI m, vI w] σ K := by
  have k0 : ¬ (0 ≤ n ∧ n < a 0) → K (some (vI (-1000))) σ := fun z => k _ σ ⟨fun _ => rfl, fun z1 z2 => absurd ⟨z1, z2⟩ z⟩ A (MoF.rfl σ)
  have k1 : ∀ (r : Int) (σ' : xS), loafA (tw a n) p h m w r → 0 ≤ n → n < a 0 → MoA σ' a → MoF σ' σ → K (some (vI r)) σ' := fun r σ' e n0 n1 A1 F1 => k r σ' ⟨fun z => absurd ⟨n0, n1⟩ z, fun _ _ => e⟩ A1 F1
  have c0 : ¬ (((0 ≤ p ∧ p < tw a n 6) ∧ (0 ≤ h ∧ h < tw a n 3)) ∧ (1 ≤ m ∧ m ≤ 30) ∧ (w = 0 ∨ 10 ≤ w ∧ w < 10 + tw a n 6)) → loafA (tw a n) p h m w (-1000) := fun z => by unfold loafA; rw [if_pos z]
  refine x_enter 2 rfl rfl rfl (fun Z => ?_)
  show Wx g y_Mo_loaf Z K 0 [vR 174, vI n, vI p, vI h, vI m, vI w, vU, vU] [] σ
  refine x_aload_n (dat d_Mo_loaf 0 rfl) rfl rfl ?_
  refine x_iload_n (dat d_Mo_loaf 1 rfl) rfl rfl ?_
  refine x_inv (As := [vI n]) (dat d_Mo_loaf 2 rfl) rfl c_Mo_isTown l_Mo_205 (by decide) (rv_mo (by decide +kernel)) rfl rfl (Nat.le_of_ble_eq_true rfl) ?_
  refine sp_Mo_isTown A (fun σ1 t0 n0 n1 H P Z1 A1 F => ?_) (fun n01 => ?_)
  · show Wx g y_Mo_loaf Z K 5 [vR 174, vI n, vI p, vI h, vI m, vI w, vU, vU] [vI 1] σ1
    refine x_if_eq (tgt := 57) (dat d_Mo_loaf 3 rfl) (by decide) (fun h => absurd h (by decide)) (fun c_5 => ?_)
    refine x_aload_n (dat d_Mo_loaf 4 rfl) rfl rfl ?_
    refine x_iload_n (dat d_Mo_loaf 5 rfl) rfl rfl ?_
    refine x_inv (As := [vI p]) (dat d_Mo_loaf 6 rfl) rfl c_Mo_isPerson l_Mo_208 (by decide) (rv_mo (by decide +kernel)) rfl rfl (Nat.le_of_ble_eq_true rfl) ?_
    refine sp_Mo_isPerson H.1.1 H.1.2 (fun p0 p1 => ?_) (fun p01 => ?_)
    · show Wx g y_Mo_loaf Z K 13 [vR 174, vI n, vI p, vI h, vI m, vI w, vU, vU] [vI 1] σ1
      refine x_if_eq (tgt := 57) (dat d_Mo_loaf 7 rfl) (by decide) (fun h => absurd h (by decide)) (fun c_13 => ?_)
      refine x_aload_n (dat d_Mo_loaf 8 rfl) rfl rfl ?_
      refine x_iload_n (dat d_Mo_loaf 9 rfl) rfl rfl ?_
      refine x_inv (As := [vI h]) (dat d_Mo_loaf 10 rfl) rfl c_Mo_isHour l_Mo_342 (by decide) (rv_mo (by decide +kernel)) rfl rfl (Nat.le_of_ble_eq_true rfl) ?_
      refine sp_Mo_isHour H.1.1 H.1.2 (fun h0 h1 => ?_) (fun h01 => ?_)
      · show Wx g y_Mo_loaf Z K 21 [vR 174, vI n, vI p, vI h, vI m, vI w, vU, vU] [vI 1] σ1
        refine x_if_eq (tgt := 57) (dat d_Mo_loaf 11 rfl) (by decide) (fun h => absurd h (by decide)) (fun c_21 => ?_)
        refine x_iload (dat d_Mo_loaf 12 rfl) rfl ?_
        refine x_iconst (dat d_Mo_loaf 13 rfl) (by decide) ?_
        refine x_bipush (dat d_Mo_loaf 14 rfl) (by decide) (by decide) ?_
        refine x_invs (As := [vI m, vI 1, vI 30]) (dat d_Mo_loaf 15 rfl) rfl c_Mo_isIn l_Mo_136 (by decide) rfl rfl (Nat.le_of_ble_eq_true rfl) ?_
        refine sp_Mo_isIn (fun x1 x2 => ?_) (fun x1 => ?_)
        · show Wx g y_Mo_loaf Z K 32 [vR 174, vI n, vI p, vI h, vI m, vI w, vU, vU] [vI 1] σ1
          refine x_if_eq (tgt := 57) (dat d_Mo_loaf 16 rfl) (by decide) (fun h => absurd h (by decide)) (fun c_32 => ?_)
          refine x_iload (dat d_Mo_loaf 17 rfl) rfl ?_
          refine x_if_eq (tgt := 61) (dat d_Mo_loaf 18 rfl) (by decide) (fun c_37 => ?_) (fun c_37 => ?_)
          · refine x_aload_n (dat d_Mo_loaf 29 rfl) rfl rfl ?_
            refine x_inv (As := []) (dat d_Mo_loaf 30 rfl) rfl c_Mo_starved l_Mo_370 (by decide) (rv_mo (by decide +kernel)) rfl rfl (Nat.le_of_ble_eq_true rfl) ?_
            refine sp_Mo_starved H P.2.2.1.1 P.2.2.2.1 P.2.2.1.2 P.2.2.2.2 (Or.inl rfl) (fun σ2 R => ?_)
            have t3 := H.1.2.2.2.2.1
            have t6' := H.1.2.2.2.2.2.2.2.1
            have wr : w = 0 ∨ (10 ≤ w ∧ w < 10 + tw a n 6) := by omega
            show Wx g y_Mo_loaf Z K 65 [vR 174, vI n, vI p, vI h, vI m, vI w, vU, vU] [vI (stv (cfg (tw a n)))] σ2
            refine x_istore (L' := [vR 174, vI n, vI p, vI h, vI m, vI w, vI (stv (cfg (tw a n))), vU]) (dat d_Mo_loaf 31 rfl) (by decide) rfl rfl ?_
            refine x_iconst (dat d_Mo_loaf 32 rfl) (by decide) ?_
            refine x_istore (L' := [vR 174, vI n, vI p, vI h, vI m, vI w, vI (stv (cfg (tw a n))), vI 0]) (dat d_Mo_loaf 33 rfl) (by decide) rfl rfl ?_
            refine lp_Mo_keep (σ := σ2) (fun σ3 S => ?_) 192 0 σ2 (by omega) ⟨fun j j0 j1 => by omega, fun _ _ _ => rfl⟩
            have M2 := H.same R.2.2.2
            have zz := R.z
            have q3 : ∀ i : Int, σ3 174 i = σ2 174 i := fun i => by rw [S.2 174 (by decide) (by decide)]
            have qs : ∀ i : Int, i < 35 → σ2 174 i = σ1 174 i := fun i hi => R.2.2.2.at (Or.inl (by omega))
            have ab1 := alN_bd (cfg (tw a n)) (cH (cfg (tw a n)))
            have es1 : stv (cfg (tw a n)) = cS (cfg (tw a n)) 0 - alN (cfg (tw a n)) (cH (cfg (tw a n))) := rfl
            have ab2 := alN_bd (mLoaf (cfg (tw a n)) p h m) (cH (mLoaf (cfg (tw a n)) p h m))
            have es2 : stv (mLoaf (cfg (tw a n)) p h m) = cS (mLoaf (cfg (tw a n)) p h m) 0 - alN (mLoaf (cfg (tw a n)) p h m) (cH (mLoaf (cfg (tw a n)) p h m)) := rfl
            have ec1 : cS (cfg (tw a n)) 0 = tw a n 6 := rfl
            have ec2 : cS (mLoaf (cfg (tw a n)) p h m) 0 = tw a n 6 := rfl
            have M4 : MoC (up (up (up σ3 174 24 h) 174 25 p) 174 26 m) (tw a n) t0 (mLoaf (cfg (tw a n)) p h m) := by
              have u : ∀ i : Int, i < 24 ∨ (26 < i ∧ i < 35) → up (up (up σ3 174 24 h) 174 25 p) 174 26 m 174 i = σ1 174 i := fun i hi => by rw [up_ni (by omega), up_ni (by omega), up_ni (by omega), q3, qs i (by omega)]
              have hz : ∀ p2 : Int, 0 ≤ p2 → p2 < 8 → up (up (up σ3 174 24 h) 174 25 p) 174 26 m 179 p2 = 0 := fun p2 a0 a1 => by
                rw [up_ne (by decide), up_ne (by decide), up_ne (by decide), S.2 179 (by decide) (by decide), R.2.2.2.2 179 (by decide)]
                exact Z1 p2 a0 a1
              have g1 := P.1
              have g2 := P.2.1
              have hC := (cfg_ok H.1.2).loaf p h (v := m) (by omega) x2
              refine H.knob hC ?_ (u 12 (by decide)) ?_ ⟨Or.inl (by rw [u 20 (by decide)]; exact g1.2.2.1.2), Or.inl (by rw [u 32 (by decide)]; exact g2.2)⟩ (by rw [u 13 (by decide), g1.1.1]; decide) (by rw [u 16 (by decide), g1.2.1.2]; decide)
              · refine mC_mk ?_ (mC_G ?_) rfl (mC_O ?_ ?_) (mC_W ?_ ?_ ?_ ?_) (mC_S hz)
                · rw [mC_Lf]
                  · rw [up_s, up_ni (by decide), up_s, up_ni (by decide), up_ni (by decide), up_s]
                  · rw [u 15 (by decide)]; exact g1.2.1.1
                  · rw [u 30 (by decide)]; exact g2.1.1
                  · rw [u 31 (by decide)]; exact g2.1.2
                  · rw [up_ni (by decide), up_ni (by decide), up_s]; omega
                · rw [u 13 (by decide)]; exact g1.1.1
                · rw [u 14 (by decide)]; exact g1.1.2
                · rw [u 16 (by decide)]; exact g1.2.1.2
                · rw [u 17 (by decide)]; exact g1.2.2.1.1
                · rw [u 20 (by decide)]; exact g1.2.2.1.2
                · rw [u 27 (by decide)]; exact g1.2.2.2.2
                · rw [u 32 (by decide)]; exact g2.2
              · rw [up_ne (by decide), up_ne (by decide), up_ne (by decide), S.2 175 (by decide) (by decide)]
                exact R.2.2.2.2 175 (by decide)
            have F3 : MoF σ3 σ := F.trans (R.2.2.2.mo.trans ⟨fun i _ => q3 i, fun o ho => S.2 o (by omega) (by omega)⟩)
            have F3b := ((F3.put (i := 24) (v := h) (by decide)).put (i := 25) (v := p) (by decide)).put (i := 26) (v := m) (by decide)
            refine x_aload_n (dat d_Mo_loaf 55 rfl) rfl rfl ?_
            refine x_iload_n (dat d_Mo_loaf 56 rfl) rfl rfl ?_
            refine x_puti (ji := 24) (x := (h)) (dat d_Mo_loaf 57 rfl) rfl f_Mo_232w (oi_mk (by decide +kernel)) (fun h => absurd h (by decide)) (by decide) ?_
            refine x_aload_n (dat d_Mo_loaf 58 rfl) rfl rfl ?_
            refine x_iload_n (dat d_Mo_loaf 59 rfl) rfl rfl ?_
            refine x_puti (ji := 25) (x := (p)) (dat d_Mo_loaf 60 rfl) rfl f_Mo_320w (oi_mk (by decide +kernel)) (fun h => absurd h (by decide)) (by decide) ?_
            refine x_aload_n (dat d_Mo_loaf 61 rfl) rfl rfl ?_
            refine x_iload (dat d_Mo_loaf 62 rfl) rfl ?_
            refine x_puti (ji := 26) (x := (m)) (dat d_Mo_loaf 63 rfl) rfl f_Mo_323w (oi_mk (by decide +kernel)) (fun h => absurd h (by decide)) (by decide) ?_
            refine x_aload_n (dat d_Mo_loaf 64 rfl) rfl rfl ?_
            refine x_inv (As := []) (dat d_Mo_loaf 65 rfl) rfl c_Mo_starved l_Mo_370 (by decide) (rv_mo (by decide +kernel)) rfl rfl (Nat.le_of_ble_eq_true rfl) ?_
            refine sp_Mo_starved M4 (by rw [up_ni (by decide), up_ni (by decide), up_ni (by decide), q3]; exact zz.1) (by rw [up_ni (by decide), up_ni (by decide), up_ni (by decide), q3]; exact zz.2.1) (by rw [up_ni (by decide), up_ni (by decide), up_ni (by decide), q3]; exact zz.2.2) (by rw [up_ni (by decide), up_ni (by decide), up_ni (by decide), q3, R.2.2.2.at (Or.inr (Or.inl rfl))]; exact P.2.2.2.2) (Or.inr ⟨p0, p1⟩) (fun σ5 R5 => ?_)
            have F5 := F3b.trans R5.2.2.2.mo
            have A5 := A.same F5
            have M5 := M4.same R5.2.2.2
            have neg : ¬ ¬ (((0 ≤ p ∧ p < tw a n 6) ∧ (0 ≤ h ∧ h < tw a n 3)) ∧ (1 ≤ m ∧ m ≤ 30) ∧ (w = 0 ∨ 10 ≤ w ∧ w < 10 + tw a n 6)) := fun z => z ⟨⟨⟨p0, p1⟩, h0, h1⟩, ⟨x1, x2⟩, wr⟩
            have hK : 10 ≤ w → w < 10 + tw a n 6 → ∀ j : Nat, j < (tw a n 3).toNat → σ5 195 (8 * (j : Int) + (w - 10)) = (rst (cfg (tw a n)) (j + 1)).1 (w - 10) ∧ σ5 196 (8 * (j : Int) + (w - 10)) = if (rst (cfg (tw a n)) (j + 1)).2 (w - 10) = true then 1 else 0 := fun w0 w1 j hj => by
              have b1 := (R.2.2.1 j hj).1 (w - 10) (by omega) (by show w - 10 < tw a n 6; omega)
              have b2 := S.1 (8 * (j : Int) + (w - 10)) (by omega) (by omega)
              rw [R5.2.2.2.2 195 (by decide), R5.2.2.2.2 196 (by decide), up_ne (by decide), up_ne (by decide), up_ne (by decide), up_ne (by decide), up_ne (by decide), up_ne (by decide), b2.1, b2.2]
              exact b1
            show Wx g y_Mo_loaf Z K 132 [vR 174, vI n, vI p, vI h, vI m, vI w, vI (stv (cfg (tw a n))), vI 192] [vI (stv (mLoaf (cfg (tw a n)) p h m))] σ5
            refine x_istore (L' := [vR 174, vI n, vI p, vI h, vI m, vI w, vI (stv (cfg (tw a n))), vI (stv (mLoaf (cfg (tw a n)) p h m))]) (dat d_Mo_loaf 66 rfl) (by decide) rfl rfl ?_
            refine x_iload (dat d_Mo_loaf 67 rfl) rfl ?_
            refine x_if_ne (tgt := 147) (dat d_Mo_loaf 68 rfl) (by decide) (fun c_136 => ?_) (fun c_136 => ?_)
            · refine x_aload_n (dat d_Mo_loaf 73 rfl) rfl rfl ?_
              refine x_iload (dat d_Mo_loaf 74 rfl) rfl ?_
              refine x_bipush (dat d_Mo_loaf 75 rfl) (by decide) (by decide) ?_
              refine x_isub (v := w - 10) (dat d_Mo_loaf 76 rfl) rfl (by omega) ?_
              refine x_inv (As := [vI (w - 10)]) (dat d_Mo_loaf 77 rfl) rfl c_Mo_felt l_Mo_385 (by decide) (rv_mo (by decide +kernel)) rfl rfl (Nat.le_of_ble_eq_true rfl) ?_
              refine sp_Mo_felt (D := cfg (tw a n)) M5 R5 (hK (by omega) (by omega)) (by omega) (by omega) (fun v hv => ?_)
              show Wx g y_Mo_loaf Z K 156 [vR 174, vI n, vI p, vI h, vI m, vI w, vI (stv (cfg (tw a n))), vI (stv (mLoaf (cfg (tw a n)) p h m))] [vI v] σ5
              refine x_iret (dat d_Mo_loaf 78 rfl) rfl ?_
              refine k1 _ _ ?_ n0 n1 A5 F5
              unfold loafA
              rw [if_neg neg]
              first
              | (rw [if_neg (by omega)]; exact hv)
              | (rw [if_pos (by omega)])
            · refine x_iload (dat d_Mo_loaf 69 rfl) rfl ?_
              refine x_iload (dat d_Mo_loaf 70 rfl) rfl ?_
              refine x_isub (v := (stv (cfg (tw a n))) - (stv (mLoaf (cfg (tw a n)) p h m))) (dat d_Mo_loaf 71 rfl) rfl (by omega) ?_
              refine x_goto (tgt := 156) (dat d_Mo_loaf 72 rfl) (by decide) ?_
              refine x_iret (dat d_Mo_loaf 78 rfl) rfl ?_
              refine k1 _ _ ?_ n0 n1 A5 F5
              unfold loafA
              rw [if_neg neg]
              first
              | (rw [if_neg (by omega)]; exact hv)
              | (rw [if_pos (by omega)])
          · refine x_iload (dat d_Mo_loaf 19 rfl) rfl ?_
            refine x_bipush (dat d_Mo_loaf 20 rfl) (by decide) (by decide) ?_
            refine x_bipush (dat d_Mo_loaf 21 rfl) (by decide) (by decide) ?_
            refine x_aload_n (dat d_Mo_loaf 22 rfl) rfl rfl ?_
            refine x_inv (As := []) (dat d_Mo_loaf 23 rfl) rfl c_Mo_people l_Mo_202 (by decide) (rv_mo (by decide +kernel)) rfl rfl (Nat.le_of_ble_eq_true rfl) ?_
            refine sp_Mo_people H.1.1 ?_
            have t6 := H.1.2.2.2.2.2.2.2.1
            show Wx g y_Mo_loaf Z K 50 [vR 174, vI n, vI p, vI h, vI m, vI w, vU, vU] [vI (tw a n 6), vI 9, vI 10, vI w] σ1
            refine x_iadd (v := 9 + (tw a n 6)) (dat d_Mo_loaf 24 rfl) rfl (by omega) ?_
            refine x_invs (As := [vI w, vI 10, vI (9 + (tw a n 6))]) (dat d_Mo_loaf 25 rfl) rfl c_Mo_isIn l_Mo_136 (by decide) rfl rfl (Nat.le_of_ble_eq_true rfl) ?_
            refine sp_Mo_isIn (fun y1 y2 => ?_) (fun y1 => ?_)
            · show Wx g y_Mo_loaf Z K 54 [vR 174, vI n, vI p, vI h, vI m, vI w, vU, vU] [vI 1] σ1
              refine x_if_ne (tgt := 61) (dat d_Mo_loaf 26 rfl) (by decide) (fun c_54 => ?_) (fun h => absurd h (by decide))
              refine x_aload_n (dat d_Mo_loaf 29 rfl) rfl rfl ?_
              refine x_inv (As := []) (dat d_Mo_loaf 30 rfl) rfl c_Mo_starved l_Mo_370 (by decide) (rv_mo (by decide +kernel)) rfl rfl (Nat.le_of_ble_eq_true rfl) ?_
              refine sp_Mo_starved H P.2.2.1.1 P.2.2.2.1 P.2.2.1.2 P.2.2.2.2 (Or.inl rfl) (fun σ2 R => ?_)
              have t3 := H.1.2.2.2.2.1
              have t6' := H.1.2.2.2.2.2.2.2.1
              have wr : w = 0 ∨ (10 ≤ w ∧ w < 10 + tw a n 6) := by omega
              show Wx g y_Mo_loaf Z K 65 [vR 174, vI n, vI p, vI h, vI m, vI w, vU, vU] [vI (stv (cfg (tw a n)))] σ2
              refine x_istore (L' := [vR 174, vI n, vI p, vI h, vI m, vI w, vI (stv (cfg (tw a n))), vU]) (dat d_Mo_loaf 31 rfl) (by decide) rfl rfl ?_
              refine x_iconst (dat d_Mo_loaf 32 rfl) (by decide) ?_
              refine x_istore (L' := [vR 174, vI n, vI p, vI h, vI m, vI w, vI (stv (cfg (tw a n))), vI 0]) (dat d_Mo_loaf 33 rfl) (by decide) rfl rfl ?_
              refine lp_Mo_keep (σ := σ2) (fun σ3 S => ?_) 192 0 σ2 (by omega) ⟨fun j j0 j1 => by omega, fun _ _ _ => rfl⟩
              have M2 := H.same R.2.2.2
              have zz := R.z
              have q3 : ∀ i : Int, σ3 174 i = σ2 174 i := fun i => by rw [S.2 174 (by decide) (by decide)]
              have qs : ∀ i : Int, i < 35 → σ2 174 i = σ1 174 i := fun i hi => R.2.2.2.at (Or.inl (by omega))
              have ab1 := alN_bd (cfg (tw a n)) (cH (cfg (tw a n)))
              have es1 : stv (cfg (tw a n)) = cS (cfg (tw a n)) 0 - alN (cfg (tw a n)) (cH (cfg (tw a n))) := rfl
              have ab2 := alN_bd (mLoaf (cfg (tw a n)) p h m) (cH (mLoaf (cfg (tw a n)) p h m))
              have es2 : stv (mLoaf (cfg (tw a n)) p h m) = cS (mLoaf (cfg (tw a n)) p h m) 0 - alN (mLoaf (cfg (tw a n)) p h m) (cH (mLoaf (cfg (tw a n)) p h m)) := rfl
              have ec1 : cS (cfg (tw a n)) 0 = tw a n 6 := rfl
              have ec2 : cS (mLoaf (cfg (tw a n)) p h m) 0 = tw a n 6 := rfl
              have M4 : MoC (up (up (up σ3 174 24 h) 174 25 p) 174 26 m) (tw a n) t0 (mLoaf (cfg (tw a n)) p h m) := by
                have u : ∀ i : Int, i < 24 ∨ (26 < i ∧ i < 35) → up (up (up σ3 174 24 h) 174 25 p) 174 26 m 174 i = σ1 174 i := fun i hi => by rw [up_ni (by omega), up_ni (by omega), up_ni (by omega), q3, qs i (by omega)]
                have hz : ∀ p2 : Int, 0 ≤ p2 → p2 < 8 → up (up (up σ3 174 24 h) 174 25 p) 174 26 m 179 p2 = 0 := fun p2 a0 a1 => by
                  rw [up_ne (by decide), up_ne (by decide), up_ne (by decide), S.2 179 (by decide) (by decide), R.2.2.2.2 179 (by decide)]
                  exact Z1 p2 a0 a1
                have g1 := P.1
                have g2 := P.2.1
                have hC := (cfg_ok H.1.2).loaf p h (v := m) (by omega) x2
                refine H.knob hC ?_ (u 12 (by decide)) ?_ ⟨Or.inl (by rw [u 20 (by decide)]; exact g1.2.2.1.2), Or.inl (by rw [u 32 (by decide)]; exact g2.2)⟩ (by rw [u 13 (by decide), g1.1.1]; decide) (by rw [u 16 (by decide), g1.2.1.2]; decide)
                · refine mC_mk ?_ (mC_G ?_) rfl (mC_O ?_ ?_) (mC_W ?_ ?_ ?_ ?_) (mC_S hz)
                  · rw [mC_Lf]
                    · rw [up_s, up_ni (by decide), up_s, up_ni (by decide), up_ni (by decide), up_s]
                    · rw [u 15 (by decide)]; exact g1.2.1.1
                    · rw [u 30 (by decide)]; exact g2.1.1
                    · rw [u 31 (by decide)]; exact g2.1.2
                    · rw [up_ni (by decide), up_ni (by decide), up_s]; omega
                  · rw [u 13 (by decide)]; exact g1.1.1
                  · rw [u 14 (by decide)]; exact g1.1.2
                  · rw [u 16 (by decide)]; exact g1.2.1.2
                  · rw [u 17 (by decide)]; exact g1.2.2.1.1
                  · rw [u 20 (by decide)]; exact g1.2.2.1.2
                  · rw [u 27 (by decide)]; exact g1.2.2.2.2
                  · rw [u 32 (by decide)]; exact g2.2
                · rw [up_ne (by decide), up_ne (by decide), up_ne (by decide), S.2 175 (by decide) (by decide)]
                  exact R.2.2.2.2 175 (by decide)
              have F3 : MoF σ3 σ := F.trans (R.2.2.2.mo.trans ⟨fun i _ => q3 i, fun o ho => S.2 o (by omega) (by omega)⟩)
              have F3b := ((F3.put (i := 24) (v := h) (by decide)).put (i := 25) (v := p) (by decide)).put (i := 26) (v := m) (by decide)
              refine x_aload_n (dat d_Mo_loaf 55 rfl) rfl rfl ?_
              refine x_iload_n (dat d_Mo_loaf 56 rfl) rfl rfl ?_
              refine x_puti (ji := 24) (x := (h)) (dat d_Mo_loaf 57 rfl) rfl f_Mo_232w (oi_mk (by decide +kernel)) (fun h => absurd h (by decide)) (by decide) ?_
              refine x_aload_n (dat d_Mo_loaf 58 rfl) rfl rfl ?_
              refine x_iload_n (dat d_Mo_loaf 59 rfl) rfl rfl ?_
              refine x_puti (ji := 25) (x := (p)) (dat d_Mo_loaf 60 rfl) rfl f_Mo_320w (oi_mk (by decide +kernel)) (fun h => absurd h (by decide)) (by decide) ?_
              refine x_aload_n (dat d_Mo_loaf 61 rfl) rfl rfl ?_
              refine x_iload (dat d_Mo_loaf 62 rfl) rfl ?_
              refine x_puti (ji := 26) (x := (m)) (dat d_Mo_loaf 63 rfl) rfl f_Mo_323w (oi_mk (by decide +kernel)) (fun h => absurd h (by decide)) (by decide) ?_
              refine x_aload_n (dat d_Mo_loaf 64 rfl) rfl rfl ?_
              refine x_inv (As := []) (dat d_Mo_loaf 65 rfl) rfl c_Mo_starved l_Mo_370 (by decide) (rv_mo (by decide +kernel)) rfl rfl (Nat.le_of_ble_eq_true rfl) ?_
              refine sp_Mo_starved M4 (by rw [up_ni (by decide), up_ni (by decide), up_ni (by decide), q3]; exact zz.1) (by rw [up_ni (by decide), up_ni (by decide), up_ni (by decide), q3]; exact zz.2.1) (by rw [up_ni (by decide), up_ni (by decide), up_ni (by decide), q3]; exact zz.2.2) (by rw [up_ni (by decide), up_ni (by decide), up_ni (by decide), q3, R.2.2.2.at (Or.inr (Or.inl rfl))]; exact P.2.2.2.2) (Or.inr ⟨p0, p1⟩) (fun σ5 R5 => ?_)
              have F5 := F3b.trans R5.2.2.2.mo
              have A5 := A.same F5
              have M5 := M4.same R5.2.2.2
              have neg : ¬ ¬ (((0 ≤ p ∧ p < tw a n 6) ∧ (0 ≤ h ∧ h < tw a n 3)) ∧ (1 ≤ m ∧ m ≤ 30) ∧ (w = 0 ∨ 10 ≤ w ∧ w < 10 + tw a n 6)) := fun z => z ⟨⟨⟨p0, p1⟩, h0, h1⟩, ⟨x1, x2⟩, wr⟩
              have hK : 10 ≤ w → w < 10 + tw a n 6 → ∀ j : Nat, j < (tw a n 3).toNat → σ5 195 (8 * (j : Int) + (w - 10)) = (rst (cfg (tw a n)) (j + 1)).1 (w - 10) ∧ σ5 196 (8 * (j : Int) + (w - 10)) = if (rst (cfg (tw a n)) (j + 1)).2 (w - 10) = true then 1 else 0 := fun w0 w1 j hj => by
                have b1 := (R.2.2.1 j hj).1 (w - 10) (by omega) (by show w - 10 < tw a n 6; omega)
                have b2 := S.1 (8 * (j : Int) + (w - 10)) (by omega) (by omega)
                rw [R5.2.2.2.2 195 (by decide), R5.2.2.2.2 196 (by decide), up_ne (by decide), up_ne (by decide), up_ne (by decide), up_ne (by decide), up_ne (by decide), up_ne (by decide), b2.1, b2.2]
                exact b1
              show Wx g y_Mo_loaf Z K 132 [vR 174, vI n, vI p, vI h, vI m, vI w, vI (stv (cfg (tw a n))), vI 192] [vI (stv (mLoaf (cfg (tw a n)) p h m))] σ5
              refine x_istore (L' := [vR 174, vI n, vI p, vI h, vI m, vI w, vI (stv (cfg (tw a n))), vI (stv (mLoaf (cfg (tw a n)) p h m))]) (dat d_Mo_loaf 66 rfl) (by decide) rfl rfl ?_
              refine x_iload (dat d_Mo_loaf 67 rfl) rfl ?_
              refine x_if_ne (tgt := 147) (dat d_Mo_loaf 68 rfl) (by decide) (fun c_136 => ?_) (fun c_136 => ?_)
              · refine x_aload_n (dat d_Mo_loaf 73 rfl) rfl rfl ?_
                refine x_iload (dat d_Mo_loaf 74 rfl) rfl ?_
                refine x_bipush (dat d_Mo_loaf 75 rfl) (by decide) (by decide) ?_
                refine x_isub (v := w - 10) (dat d_Mo_loaf 76 rfl) rfl (by omega) ?_
                refine x_inv (As := [vI (w - 10)]) (dat d_Mo_loaf 77 rfl) rfl c_Mo_felt l_Mo_385 (by decide) (rv_mo (by decide +kernel)) rfl rfl (Nat.le_of_ble_eq_true rfl) ?_
                refine sp_Mo_felt (D := cfg (tw a n)) M5 R5 (hK (by omega) (by omega)) (by omega) (by omega) (fun v hv => ?_)
                show Wx g y_Mo_loaf Z K 156 [vR 174, vI n, vI p, vI h, vI m, vI w, vI (stv (cfg (tw a n))), vI (stv (mLoaf (cfg (tw a n)) p h m))] [vI v] σ5
                refine x_iret (dat d_Mo_loaf 78 rfl) rfl ?_
                refine k1 _ _ ?_ n0 n1 A5 F5
                unfold loafA
                rw [if_neg neg]
                first
                | (rw [if_neg (by omega)]; exact hv)
                | (rw [if_pos (by omega)])
              · refine x_iload (dat d_Mo_loaf 69 rfl) rfl ?_
                refine x_iload (dat d_Mo_loaf 70 rfl) rfl ?_
                refine x_isub (v := (stv (cfg (tw a n))) - (stv (mLoaf (cfg (tw a n)) p h m))) (dat d_Mo_loaf 71 rfl) rfl (by omega) ?_
                refine x_goto (tgt := 156) (dat d_Mo_loaf 72 rfl) (by decide) ?_
                refine x_iret (dat d_Mo_loaf 78 rfl) rfl ?_
                refine k1 _ _ ?_ n0 n1 A5 F5
                unfold loafA
                rw [if_neg neg]
                first
                | (rw [if_neg (by omega)]; exact hv)
                | (rw [if_pos (by omega)])
            · show Wx g y_Mo_loaf Z K 54 [vR 174, vI n, vI p, vI h, vI m, vI w, vU, vU] [vI 0] σ1
              refine x_if_ne (tgt := 61) (dat d_Mo_loaf 26 rfl) (by decide) (fun h => absurd h (by decide)) (fun c_54 => ?_)
              refine x_sipush (dat d_Mo_loaf 27 rfl) (by decide) (by decide) ?_
              refine x_iret (dat d_Mo_loaf 28 rfl) rfl ?_
              first
              | exact k0 n01
              | exact k1 _ _ (c0 (fun w => p01 w.1.1)) n0 n1 A1 F
              | exact k1 _ _ (c0 (fun w => h01 w.1.2)) n0 n1 A1 F
              | exact k1 _ _ (c0 (fun w => x1 w.2.1)) n0 n1 A1 F
              | exact k1 _ _ (c0 (fun w => y1 (by have := w.2.2; omega))) n0 n1 A1 F
        · show Wx g y_Mo_loaf Z K 32 [vR 174, vI n, vI p, vI h, vI m, vI w, vU, vU] [vI 0] σ1
          refine x_if_eq (tgt := 57) (dat d_Mo_loaf 16 rfl) (by decide) (fun c_32 => ?_) (fun h => absurd h (by decide))
          refine x_sipush (dat d_Mo_loaf 27 rfl) (by decide) (by decide) ?_
          refine x_iret (dat d_Mo_loaf 28 rfl) rfl ?_
          first
          | exact k0 n01
          | exact k1 _ _ (c0 (fun w => p01 w.1.1)) n0 n1 A1 F
          | exact k1 _ _ (c0 (fun w => h01 w.1.2)) n0 n1 A1 F
          | exact k1 _ _ (c0 (fun w => x1 w.2.1)) n0 n1 A1 F
          | exact k1 _ _ (c0 (fun w => y1 (by have := w.2.2; omega))) n0 n1 A1 F
      · show Wx g y_Mo_loaf Z K 21 [vR 174, vI n, vI p, vI h, vI m, vI w, vU, vU] [vI 0] σ1
        refine x_if_eq (tgt := 57) (dat d_Mo_loaf 11 rfl) (by decide) (fun c_21 => ?_) (fun h => absurd h (by decide))
        refine x_sipush (dat d_Mo_loaf 27 rfl) (by decide) (by decide) ?_
        refine x_iret (dat d_Mo_loaf 28 rfl) rfl ?_
        first
        | exact k0 n01
        | exact k1 _ _ (c0 (fun w => p01 w.1.1)) n0 n1 A1 F
        | exact k1 _ _ (c0 (fun w => h01 w.1.2)) n0 n1 A1 F
        | exact k1 _ _ (c0 (fun w => x1 w.2.1)) n0 n1 A1 F
        | exact k1 _ _ (c0 (fun w => y1 (by have := w.2.2; omega))) n0 n1 A1 F
    · show Wx g y_Mo_loaf Z K 13 [vR 174, vI n, vI p, vI h, vI m, vI w, vU, vU] [vI 0] σ1
      refine x_if_eq (tgt := 57) (dat d_Mo_loaf 7 rfl) (by decide) (fun c_13 => ?_) (fun h => absurd h (by decide))
      refine x_sipush (dat d_Mo_loaf 27 rfl) (by decide) (by decide) ?_
      refine x_iret (dat d_Mo_loaf 28 rfl) rfl ?_
      first
      | exact k0 n01
      | exact k1 _ _ (c0 (fun w => p01 w.1.1)) n0 n1 A1 F
      | exact k1 _ _ (c0 (fun w => h01 w.1.2)) n0 n1 A1 F
      | exact k1 _ _ (c0 (fun w => x1 w.2.1)) n0 n1 A1 F
      | exact k1 _ _ (c0 (fun w => y1 (by have := w.2.2; omega))) n0 n1 A1 F
  · show Wx g y_Mo_loaf Z K 5 [vR 174, vI n, vI p, vI h, vI m, vI w, vU, vU] [vI 0] σ
    refine x_if_eq (tgt := 57) (dat d_Mo_loaf 3 rfl) (by decide) (fun c_5 => ?_) (fun h => absurd h (by decide))
    refine x_sipush (dat d_Mo_loaf 27 rfl) (by decide) (by decide) ?_
    refine x_iret (dat d_Mo_loaf 28 rfl) rfl ?_
    first
    | exact k0 n01
    | exact k1 _ _ (c0 (fun w => p01 w.1.1)) n0 n1 A1 F
    | exact k1 _ _ (c0 (fun w => h01 w.1.2)) n0 n1 A1 F
    | exact k1 _ _ (c0 (fun w => x1 w.2.1)) n0 n1 A1 F
    | exact k1 _ _ (c0 (fun w => y1 (by have := w.2.2; omega))) n0 n1 A1 F
end
