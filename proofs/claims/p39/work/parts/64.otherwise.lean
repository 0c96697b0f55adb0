/-! the class's calls: runs made otherwise -/
theorem mG_self (C : Cf) : mGl C (cGl C) = C := rfl
/-- who has what told of a loaf -/
def loafA (t : Int → Int) (p h m w r : Int) : Prop := if ¬ (((0 ≤ p ∧ p < t 6) ∧ (0 ≤ h ∧ h < t 3)) ∧ (1 ≤ m ∧ m ≤ 30) ∧ (w = 0 ∨ 10 ≤ w ∧ w < 10 + t 6)) then r = -1000 else if w = 0 then r = stv (cfg t) - stv (mLoaf (cfg t) p h m) else FirstH (fun i => (rst (cfg t) (i + 1)).1 (w - 10) ≠ (rst (mLoaf (cfg t) p h m) (i + 1)).1 (w - 10) ∨ (rst (cfg t) (i + 1)).2 (w - 10) ≠ (rst (mLoaf (cfg t) p h m) (i + 1)).2 (w - 10)) (t 3).toNat r
def wedA (t : Int → Int) (h c w r : Int) : Prop := if ¬ (((0 ≤ h ∧ h < t 3) ∧ (0 ≤ c ∧ c < t 0 * t 1)) ∧ (0 ≤ w ∧ w ≤ 2)) then r = -1 else if w = 0 then r = (hev (wedC t h c) h.toNat).length else if w = 1 then r = rcs (rst (wedC t h c) (h.toNat + 1)).2 (rst (wedC t h c) (h.toNat + 1)).1 (t 6).toNat else r = stv (wedC t h c)
def styC (t : Int → Int) (p : Int) : Cf := mOp (cfg t) (opStay (cfg t) p)
def styA (t : Int → Int) (p w r : Int) : Prop := if ¬ ((0 ≤ p ∧ p < t 6) ∧ (w = 0 ∨ 10 ≤ w ∧ w < 10 + t 6)) then r = -1 else if w = 0 then r = stv (styC t p) else r = cntN (rch (cGl (cfg t)) (w - 10) (lgs (styC t p) 0 (t 3).toNat)) 8
def ptdA (t : Int → Int) (p h w r : Int) : Prop := if ¬ (((0 ≤ p ∧ p < t 6) ∧ (0 ≤ h ∧ h < t 3)) ∧ 1 ≤ t (22 + 17 * p) ∧ (w = 0 ∨ w = 1)) then r = -2 else if w = 0 then Msk 8 r (pnt (cfg t) (fun q => decide (q = p)) (h.toNat + 1)) else FirstH (bitE (cfg t) (fun q => decide (q = p))) (h.toNat + 1) r
theorem sp_Sb_painted {g : xG} {K : Option MV → xS → Prop} {σ : xS} {a : Int → Int} {im : Nat → Int → Int} {n p h w : Int} (H : SbR σ a im) (k : ∀ (r : Int) (σ' : xS), atT a n (-2) (fun t r => ptdA t p h w r) r → (∀ o : Nat, o < 138 ∨ 170 < o → σ' o = σ o) → K (some (vI r)) σ') : Mt g y_Sb_painted [vR 0, vI n, vI p, vI h, vI w] σ K := by
  refine x_enter 1 rfl rfl rfl (fun Z => ?_)
  show Wx g y_Sb_painted Z K 0 [vR 0, vI n, vI p, vI h, vI w, vU] [] σ
  refine x_aload_n (dat d_Sb_painted 0 rfl) rfl rfl ?_
  refine x_getr (r := 1) (dat d_Sb_painted 1 rfl) rfl f_Sb_10 (or_mk (by decide +kernel)) ?_
  refine x_iload_n (dat d_Sb_painted 2 rfl) rfl rfl ?_
  refine x_inv (As := [vI n]) (dat d_Sb_painted 3 rfl) rfl c_To_townAt l_Sb_127 (by decide) (rv_to (by decide +kernel)) rfl rfl (Nat.le_of_ble_eq_true rfl) ?_
  refine sp_townAt H.1 (fun c => ?_) (fun q n0 n1 hq q30 hT hR => ?_)
  · show Wx g y_Sb_painted Z K 8 [vR 0, vI n, vI p, vI h, vI w, vU] [vN] σ
    refine x_astoreN (L' := [vR 0, vI n, vI p, vI h, vI w, vN]) (dat d_Sb_painted 4 rfl) (by decide) rfl rfl ?_
    refine x_aloadN (dat d_Sb_painted 5 rfl) rfl ?_
    refine x_ifnullN (tgt := 44) (dat d_Sb_painted 6 rfl) (by decide) ?_
    refine x_bipush (dat d_Sb_painted 21 rfl) (by decide) (by decide) ?_
    refine x_iret (dat d_Sb_painted 22 rfl) rfl ?_
    first
    | exact no (fun z => by first | exact cc z.1.1 | exact cc z.1.2 | omega)
    | exact k _ σ (atT.no c) (fun _ _ => rfl)
  · show Wx g y_Sb_painted Z K 8 [vR 0, vI n, vI p, vI h, vI w, vU] [vR q] σ
    refine x_astore (L' := [vR 0, vI n, vI p, vI h, vI w, vR q]) (dat d_Sb_painted 4 rfl) (by decide) rfl rfl ?_
    refine x_aload (dat d_Sb_painted 5 rfl) rfl ?_
    refine x_ifnull (dat d_Sb_painted 6 rfl) ?_
    refine x_aload (dat d_Sb_painted 7 rfl) rfl ?_
    refine x_iload_n (dat d_Sb_painted 8 rfl) rfl rfl ?_
    refine x_inv (As := [vI p]) (dat d_Sb_painted 9 rfl) rfl c_Tw_hasPerson l_Sb_168 (by decide) (rv_tw (tw_k hq)) rfl rfl (Nat.le_of_ble_eq_true rfl) ?_
    have hdum : True := trivial
    have h6 := hT.2.2.2.2.2.2.1
    have h3 := hT.2.2.2.1
    have hC := cfg_ok hT
    have kk : ∀ (v : Int) (σ' : xS), (∀ o : Nat, o < 138 ∨ 170 < o → σ' o = σ o) → ptdA (tw a n) p h w v → K (some (vI v)) σ' := fun v σ' F e => k v σ' (atT.yes n0 n1 e) F
    generalize ht : tw a n = t at hT hR h6 h3 hC kk
    have no : ¬ (((0 ≤ p ∧ p < t 6) ∧ (0 ≤ h ∧ h < t 3)) ∧ 1 ≤ t (22 + 17 * p) ∧ (w = 0 ∨ w = 1)) → K (some (vI (-2))) σ := fun z => kk _ σ (fun _ _ => rfl) (by unfold ptdA; rw [if_pos z])
    refine sp_Tw_hasPerson hq hT hR (fun p0 p1 => ?_) (fun cc => ?_)
    · show Wx g y_Sb_painted Z K 21 [vR 0, vI n, vI p, vI h, vI w, vR q] [vI 1] σ
      refine x_if_eq (tgt := 44) (dat d_Sb_painted 10 rfl) (by decide) (fun h => absurd h (by decide)) (fun c_21 => ?_)
      refine x_aload (dat d_Sb_painted 11 rfl) rfl ?_
      refine x_iload_n (dat d_Sb_painted 12 rfl) rfl rfl ?_
      refine x_inv (As := [vI h]) (dat d_Sb_painted 13 rfl) rfl c_Tw_hasHour l_Sb_214 (by decide) (rv_tw (tw_k hq)) rfl rfl (Nat.le_of_ble_eq_true rfl) ?_
      refine sp_Tw_hasHour hq hT hR (fun q0 q1 => ?_) (fun cc => ?_)
      · show Wx g y_Sb_painted Z K 30 [vR 0, vI n, vI p, vI h, vI w, vR q] [vI 1] σ
        refine x_if_eq (tgt := 44) (dat d_Sb_painted 14 rfl) (by decide) (fun h => absurd h (by decide)) (fun c_30 => ?_)
        refine x_aload (dat d_Sb_painted 15 rfl) rfl ?_
        refine x_getr (r := q + 3) (dat d_Sb_painted 16 rfl) rfl f_Sb_178 (tw_or_10 hq) ?_
        refine x_iload_n (dat d_Sb_painted 17 rfl) rfl rfl ?_
        refine x_iald (n := 8) (v := t (22 + 17 * p)) (dat d_Sb_painted 18 rfl) (tw_ai_3 hq) (by omega) (by omega) (by exact (hR.2.1 p p0 p1).2.2.1) ?_
        refine x_iconst (dat d_Sb_painted 19 rfl) (by decide) ?_
        refine x_icmp_ge (tgt := 47) (dat d_Sb_painted 20 rfl) (by decide) (fun c_41 => ?_) (fun c_41 => ?_)
        · refine x_iload (dat d_Sb_painted 23 rfl) rfl ?_
          refine x_if_eq (tgt := 61) (dat d_Sb_painted 24 rfl) (by decide) (fun c_49 => ?_) (fun c_49 => ?_)
          · refine x_aload_n (dat d_Sb_painted 30 rfl) rfl rfl ?_
            refine x_aload (dat d_Sb_painted 31 rfl) rfl ?_
            refine x_inv (As := [vR q]) (dat d_Sb_painted 32 rfl) rfl c_Sb_runOf l_Sb_217 (by decide) (rv_sb (by decide +kernel)) rfl rfl (Nat.le_of_ble_eq_true rfl) ?_
            have yes : ∀ v : Int, ptdA t p h w v = (if w = 0 then Msk 8 v (pnt (cfg t) (fun q => decide (q = p)) (h.toNat + 1)) else FirstH (bitE (cfg t) (fun q => decide (q = p))) (h.toNat + 1) v) := fun v => if_neg (fun z => z ⟨⟨⟨p0, p1⟩, q0, q1⟩, by omega, by omega⟩)
            refine sp_Sb_runOf hq hT hR (fun σ1 hp R F => ?_)
            have hcH := cH_eq hC
            have c1 : cS (cfg t) 1 = t 3 := rfl
            have hhn : ((h.toNat : Nat) : Int) = h := Int.toNat_of_nonneg q0
            have hst : ∀ p : Int, 0 ≤ p → p < cS (cfg t) 0 → σ1 139 p = cSt (cfg t) p := hp.2.2.2.2.2.2.2.2.2.1
            show Wx g y_Sb_painted Z K 67 [vR 0, vI n, vI p, vI h, vI w, vR q] [vR 143] σ1
            refine x_pop (dat d_Sb_painted 33 rfl) rfl ?_
            refine x_iload (dat d_Sb_painted 34 rfl) rfl ?_
            refine x_if_ne (tgt := 89) (dat d_Sb_painted 35 rfl) (by decide) (fun c_70 => ?_) (fun c_70 => ?_)
            · refine x_aload_n (dat d_Sb_painted 44 rfl) rfl rfl ?_
              refine x_getr (r := 143) (dat d_Sb_painted 45 rfl) rfl f_Sb_41 (or_mk (by decide +kernel)) ?_
              refine x_aload_n (dat d_Sb_painted 46 rfl) rfl rfl ?_
              refine x_getr (r := 138) (dat d_Sb_painted 47 rfl) rfl f_Sb_34 (or_mk (by decide +kernel)) ?_
              refine x_iload_n (dat d_Sb_painted 48 rfl) rfl rfl ?_
              refine x_iload_n (dat d_Sb_painted 49 rfl) rfl rfl ?_
              refine x_inv (As := [vR 138, vI p, vI h]) (dat d_Sb_painted 50 rfl) rfl c_Ru_bite l_Sb_354 (by decide) (rv_ru (by decide +kernel)) rfl rfl (Nat.le_of_ble_eq_true rfl) ?_
              refine mt_h (as := [vR 143, vR 138, vI p, vI ((h.toNat : Nat) : Int)]) (by rw [hhn]) ?_
              refine sp_Ru_bite (hr := h.toNat) ru_143 hC R hst p0 p1 (by omega) (fun v σ2 hv F2 => ?_)
              show Wx g y_Sb_painted Z K 102 [vR 0, vI n, vI p, vI h, vI w, vR q] [vI v] σ2
              refine x_iret (dat d_Sb_painted 51 rfl) rfl ?_
              refine kk _ σ2 (fun o ho => by rw [F2 o (by omega), F o (by omega)]) ?_
              rw [yes]
              first
              | (rw [if_pos (by omega)]; exact hv)
              | (rw [if_neg (by omega)]; exact hv)
            · refine x_aload_n (dat d_Sb_painted 36 rfl) rfl rfl ?_
              refine x_getr (r := 143) (dat d_Sb_painted 37 rfl) rfl f_Sb_41 (or_mk (by decide +kernel)) ?_
              refine x_aload_n (dat d_Sb_painted 38 rfl) rfl rfl ?_
              refine x_getr (r := 138) (dat d_Sb_painted 39 rfl) rfl f_Sb_34 (or_mk (by decide +kernel)) ?_
              refine x_iload_n (dat d_Sb_painted 40 rfl) rfl rfl ?_
              refine x_iload_n (dat d_Sb_painted 41 rfl) rfl rfl ?_
              refine x_inv (As := [vR 138, vI p, vI h]) (dat d_Sb_painted 42 rfl) rfl c_Ru_mayBeWith l_Sb_350 (by decide) (rv_ru (by decide +kernel)) rfl rfl (Nat.le_of_ble_eq_true rfl) ?_
              refine mt_h (as := [vR 143, vR 138, vI p, vI ((h.toNat : Nat) : Int)]) (by rw [hhn]) ?_
              refine sp_Ru_mayBeWith (hr := h.toNat) ru_143 hC R hst p0 p1 (by omega) (fun v σ2 hv F2 => ?_)
              show Wx g y_Sb_painted Z K 86 [vR 0, vI n, vI p, vI h, vI w, vR q] [vI v] σ2
              refine x_goto (tgt := 102) (dat d_Sb_painted 43 rfl) (by decide) ?_
              refine x_iret (dat d_Sb_painted 51 rfl) rfl ?_
              refine kk _ σ2 (fun o ho => by rw [F2 o (by omega), F o (by omega)]) ?_
              rw [yes]
              first
              | (rw [if_pos (by omega)]; exact hv)
              | (rw [if_neg (by omega)]; exact hv)
          · refine x_iload (dat d_Sb_painted 25 rfl) rfl ?_
            refine x_iconst (dat d_Sb_painted 26 rfl) (by decide) ?_
            refine x_icmp_eq (tgt := 61) (dat d_Sb_painted 27 rfl) (by decide) (fun c_55 => ?_) (fun c_55 => ?_)
            · refine x_aload_n (dat d_Sb_painted 30 rfl) rfl rfl ?_
              refine x_aload (dat d_Sb_painted 31 rfl) rfl ?_
              refine x_inv (As := [vR q]) (dat d_Sb_painted 32 rfl) rfl c_Sb_runOf l_Sb_217 (by decide) (rv_sb (by decide +kernel)) rfl rfl (Nat.le_of_ble_eq_true rfl) ?_
              have yes : ∀ v : Int, ptdA t p h w v = (if w = 0 then Msk 8 v (pnt (cfg t) (fun q => decide (q = p)) (h.toNat + 1)) else FirstH (bitE (cfg t) (fun q => decide (q = p))) (h.toNat + 1) v) := fun v => if_neg (fun z => z ⟨⟨⟨p0, p1⟩, q0, q1⟩, by omega, by omega⟩)
              refine sp_Sb_runOf hq hT hR (fun σ1 hp R F => ?_)
              have hcH := cH_eq hC
              have c1 : cS (cfg t) 1 = t 3 := rfl
              have hhn : ((h.toNat : Nat) : Int) = h := Int.toNat_of_nonneg q0
              have hst : ∀ p : Int, 0 ≤ p → p < cS (cfg t) 0 → σ1 139 p = cSt (cfg t) p := hp.2.2.2.2.2.2.2.2.2.1
              show Wx g y_Sb_painted Z K 67 [vR 0, vI n, vI p, vI h, vI w, vR q] [vR 143] σ1
              refine x_pop (dat d_Sb_painted 33 rfl) rfl ?_
              refine x_iload (dat d_Sb_painted 34 rfl) rfl ?_
              refine x_if_ne (tgt := 89) (dat d_Sb_painted 35 rfl) (by decide) (fun c_70 => ?_) (fun c_70 => ?_)
              · refine x_aload_n (dat d_Sb_painted 44 rfl) rfl rfl ?_
                refine x_getr (r := 143) (dat d_Sb_painted 45 rfl) rfl f_Sb_41 (or_mk (by decide +kernel)) ?_
                refine x_aload_n (dat d_Sb_painted 46 rfl) rfl rfl ?_
                refine x_getr (r := 138) (dat d_Sb_painted 47 rfl) rfl f_Sb_34 (or_mk (by decide +kernel)) ?_
                refine x_iload_n (dat d_Sb_painted 48 rfl) rfl rfl ?_
                refine x_iload_n (dat d_Sb_painted 49 rfl) rfl rfl ?_
                refine x_inv (As := [vR 138, vI p, vI h]) (dat d_Sb_painted 50 rfl) rfl c_Ru_bite l_Sb_354 (by decide) (rv_ru (by decide +kernel)) rfl rfl (Nat.le_of_ble_eq_true rfl) ?_
                refine mt_h (as := [vR 143, vR 138, vI p, vI ((h.toNat : Nat) : Int)]) (by rw [hhn]) ?_
                refine sp_Ru_bite (hr := h.toNat) ru_143 hC R hst p0 p1 (by omega) (fun v σ2 hv F2 => ?_)
                show Wx g y_Sb_painted Z K 102 [vR 0, vI n, vI p, vI h, vI w, vR q] [vI v] σ2
                refine x_iret (dat d_Sb_painted 51 rfl) rfl ?_
                refine kk _ σ2 (fun o ho => by rw [F2 o (by omega), F o (by omega)]) ?_
                rw [yes]
                first
                | (rw [if_pos (by omega)]; exact hv)
                | (rw [if_neg (by omega)]; exact hv)
              · refine x_aload_n (dat d_Sb_painted 36 rfl) rfl rfl ?_
                refine x_getr (r := 143) (dat d_Sb_painted 37 rfl) rfl f_Sb_41 (or_mk (by decide +kernel)) ?_
                refine x_aload_n (dat d_Sb_painted 38 rfl) rfl rfl ?_
                refine x_getr (r := 138) (dat d_Sb_painted 39 rfl) rfl f_Sb_34 (or_mk (by decide +kernel)) ?_
                refine x_iload_n (dat d_Sb_painted 40 rfl) rfl rfl ?_
                refine x_iload_n (dat d_Sb_painted 41 rfl) rfl rfl ?_
                refine x_inv (As := [vR 138, vI p, vI h]) (dat d_Sb_painted 42 rfl) rfl c_Ru_mayBeWith l_Sb_350 (by decide) (rv_ru (by decide +kernel)) rfl rfl (Nat.le_of_ble_eq_true rfl) ?_
                refine mt_h (as := [vR 143, vR 138, vI p, vI ((h.toNat : Nat) : Int)]) (by rw [hhn]) ?_
                refine sp_Ru_mayBeWith (hr := h.toNat) ru_143 hC R hst p0 p1 (by omega) (fun v σ2 hv F2 => ?_)
                show Wx g y_Sb_painted Z K 86 [vR 0, vI n, vI p, vI h, vI w, vR q] [vI v] σ2
                refine x_goto (tgt := 102) (dat d_Sb_painted 43 rfl) (by decide) ?_
                refine x_iret (dat d_Sb_painted 51 rfl) rfl ?_
                refine kk _ σ2 (fun o ho => by rw [F2 o (by omega), F o (by omega)]) ?_
                rw [yes]
                first
                | (rw [if_pos (by omega)]; exact hv)
                | (rw [if_neg (by omega)]; exact hv)
            · refine x_bipush (dat d_Sb_painted 28 rfl) (by decide) (by decide) ?_
              refine x_iret (dat d_Sb_painted 29 rfl) rfl ?_
              exact no (fun z => by omega)
        · refine x_bipush (dat d_Sb_painted 21 rfl) (by decide) (by decide) ?_
          refine x_iret (dat d_Sb_painted 22 rfl) rfl ?_
          first
          | exact no (fun z => by first | exact cc z.1.1 | exact cc z.1.2 | omega)
          | exact k _ σ (atT.no c) (fun _ _ => rfl)
      · show Wx g y_Sb_painted Z K 30 [vR 0, vI n, vI p, vI h, vI w, vR q] [vI 0] σ
        refine x_if_eq (tgt := 44) (dat d_Sb_painted 14 rfl) (by decide) (fun c_30 => ?_) (fun h => absurd h (by decide))
        refine x_bipush (dat d_Sb_painted 21 rfl) (by decide) (by decide) ?_
        refine x_iret (dat d_Sb_painted 22 rfl) rfl ?_
        first
        | exact no (fun z => by first | exact cc z.1.1 | exact cc z.1.2 | omega)
        | exact k _ σ (atT.no c) (fun _ _ => rfl)
    · show Wx g y_Sb_painted Z K 21 [vR 0, vI n, vI p, vI h, vI w, vR q] [vI 0] σ
      refine x_if_eq (tgt := 44) (dat d_Sb_painted 10 rfl) (by decide) (fun c_21 => ?_) (fun h => absurd h (by decide))
      refine x_bipush (dat d_Sb_painted 21 rfl) (by decide) (by decide) ?_
      refine x_iret (dat d_Sb_painted 22 rfl) rfl ?_
      first
      | exact no (fun z => by first | exact cc z.1.1 | exact cc z.1.2 | omega)
      | exact k _ σ (atT.no c) (fun _ _ => rfl)
def fevA (t : Int → Int) (p h o r : Int) : Prop := if ¬ (0 ≤ p ∧ p < t 6) ∨ o = p ∨ (o = -1 ∧ ¬ (0 ≤ h ∧ h < t 3)) ∨ (o ≠ -1 ∧ ¬ (0 ≤ o ∧ o < t 6)) then r = -2 else if o = -1 then Msk 8 r (rch (cGl (cfg t)) p (lgs (cfg t) 0 (h.toNat + 1))) else FirstH (fun i => rch (cGl (cfg t)) p (lgs (cfg t) 0 (i + 1)) o = true) (t 3).toNat r
theorem sp_Sb_fever {g : xG} {K : Option MV → xS → Prop} {σ : xS} {a : Int → Int} {im : Nat → Int → Int} {n p h o : Int} (H : SbR σ a im) (k : ∀ (r : Int) (σ' : xS), atT a n (-2) (fun t r => fevA t p h o r) r → (∀ o : Nat, o < 138 ∨ 170 < o → σ' o = σ o) → K (some (vI r)) σ') : Mt g y_Sb_fever [vR 0, vI n, vI p, vI h, vI o] σ K := by
  refine x_enter 1 rfl rfl rfl (fun Z => ?_)
  show Wx g y_Sb_fever Z K 0 [vR 0, vI n, vI p, vI h, vI o, vU] [] σ
  refine x_aload_n (dat d_Sb_fever 0 rfl) rfl rfl ?_
  refine x_getr (r := 1) (dat d_Sb_fever 1 rfl) rfl f_Sb_10 (or_mk (by decide +kernel)) ?_
  refine x_iload_n (dat d_Sb_fever 2 rfl) rfl rfl ?_
  refine x_inv (As := [vI n]) (dat d_Sb_fever 3 rfl) rfl c_To_townAt l_Sb_127 (by decide) (rv_to (by decide +kernel)) rfl rfl (Nat.le_of_ble_eq_true rfl) ?_
  refine sp_townAt H.1 (fun c => ?_) (fun q n0 n1 hq q30 hT hR => ?_)
  · show Wx g y_Sb_fever Z K 8 [vR 0, vI n, vI p, vI h, vI o, vU] [vN] σ
    refine x_astoreN (L' := [vR 0, vI n, vI p, vI h, vI o, vN]) (dat d_Sb_fever 4 rfl) (by decide) rfl rfl ?_
    refine x_aloadN (dat d_Sb_fever 5 rfl) rfl ?_
    refine x_ifnullN (tgt := 24) (dat d_Sb_fever 6 rfl) (by decide) ?_
    refine x_bipush (dat d_Sb_fever 11 rfl) (by decide) (by decide) ?_
    refine x_iret (dat d_Sb_fever 12 rfl) rfl ?_
    first
    | exact no (Or.inl cc)
    | exact k _ σ (atT.no c) (fun _ _ => rfl)
  · show Wx g y_Sb_fever Z K 8 [vR 0, vI n, vI p, vI h, vI o, vU] [vR q] σ
    refine x_astore (L' := [vR 0, vI n, vI p, vI h, vI o, vR q]) (dat d_Sb_fever 4 rfl) (by decide) rfl rfl ?_
    refine x_aload (dat d_Sb_fever 5 rfl) rfl ?_
    refine x_ifnull (dat d_Sb_fever 6 rfl) ?_
    refine x_aload (dat d_Sb_fever 7 rfl) rfl ?_
    refine x_iload_n (dat d_Sb_fever 8 rfl) rfl rfl ?_
    refine x_inv (As := [vI p]) (dat d_Sb_fever 9 rfl) rfl c_Tw_hasPerson l_Sb_168 (by decide) (rv_tw (tw_k hq)) rfl rfl (Nat.le_of_ble_eq_true rfl) ?_
    have hdum : True := trivial
    have h6 := hT.2.2.2.2.2.2.1
    have h3 := hT.2.2.2.1
    have hC := cfg_ok hT
    have kk : ∀ (v : Int) (σ' : xS), (∀ o : Nat, o < 138 ∨ 170 < o → σ' o = σ o) → fevA (tw a n) p h o v → K (some (vI v)) σ' := fun v σ' F e => k v σ' (atT.yes n0 n1 e) F
    generalize ht : tw a n = t at hT hR h6 h3 hC kk
    have no : (¬ (0 ≤ p ∧ p < t 6) ∨ o = p ∨ (o = -1 ∧ ¬ (0 ≤ h ∧ h < t 3)) ∨ (o ≠ -1 ∧ ¬ (0 ≤ o ∧ o < t 6))) → K (some (vI (-2))) σ := fun z => kk _ σ (fun _ _ => rfl) (by unfold fevA; rw [if_pos z])
    refine sp_Tw_hasPerson hq hT hR (fun p0 p1 => ?_) (fun cc => ?_)
    · show Wx g y_Sb_fever Z K 21 [vR 0, vI n, vI p, vI h, vI o, vR q] [vI 1] σ
      refine x_if_ne (tgt := 27) (dat d_Sb_fever 10 rfl) (by decide) (fun c_21 => ?_) (fun h => absurd h (by decide))
      refine x_iload (dat d_Sb_fever 13 rfl) rfl ?_
      refine x_iconst (dat d_Sb_fever 14 rfl) (by decide) ?_
      refine x_icmp_ne (tgt := 69) (dat d_Sb_fever 15 rfl) (by decide) (fun c_30 => ?_) (fun c_30 => ?_)
      · refine x_aload (dat d_Sb_fever 33 rfl) rfl ?_
        refine x_iload (dat d_Sb_fever 34 rfl) rfl ?_
        refine x_inv (As := [vI o]) (dat d_Sb_fever 35 rfl) rfl c_Tw_hasPerson l_Sb_168 (by decide) (rv_tw (tw_k hq)) rfl rfl (Nat.le_of_ble_eq_true rfl) ?_
        refine sp_Tw_hasPerson hq hT hR (fun q0 q1 => ?_) (fun cc => ?_)
        · show Wx g y_Sb_fever Z K 76 [vR 0, vI n, vI p, vI h, vI o, vR q] [vI 1] σ
          refine x_if_eq (tgt := 85) (dat d_Sb_fever 36 rfl) (by decide) (fun h => absurd h (by decide)) (fun c_76 => ?_)
          refine x_iload (dat d_Sb_fever 37 rfl) rfl ?_
          refine x_iload_n (dat d_Sb_fever 38 rfl) rfl rfl ?_
          refine x_icmp_ne (tgt := 88) (dat d_Sb_fever 39 rfl) (by decide) (fun c_82 => ?_) (fun c_82 => ?_)
          · refine x_aload_n (dat d_Sb_fever 42 rfl) rfl rfl ?_
            refine x_aload (dat d_Sb_fever 43 rfl) rfl ?_
            refine x_inv (As := [vR q]) (dat d_Sb_fever 44 rfl) rfl c_Sb_runOf l_Sb_217 (by decide) (rv_sb (by decide +kernel)) rfl rfl (Nat.le_of_ble_eq_true rfl) ?_
            have yes : ∀ v : Int, fevA t p h o v = (if o = -1 then Msk 8 v (rch (cGl (cfg t)) p (lgs (cfg t) 0 (h.toNat + 1))) else FirstH (fun i => rch (cGl (cfg t)) p (lgs (cfg t) 0 (i + 1)) o = true) (t 3).toNat v) := fun v => if_neg (fun z => by omega)
            refine sp_Sb_runOf hq hT hR (fun σ1 hp R F => ?_)
            have hcH := cH_eq hC
            have c1 : cS (cfg t) 1 = t 3 := rfl
            have hg : Mss (t 6) (σ1 138 5) (cGl (cfg t)) := hp.2.2.2.2.2.1
            have hR1 : TownR σ1 q t := hR.same (fun b _ _ => F b (by have := tw_cs hq; omega))
            have e3 : σ1 q 3 = (cH (cfg t) : Int) := by rw [hR1.1 3 (by decide) (by decide)]; omega
            show Wx g y_Sb_fever Z K 94 [vR 0, vI n, vI p, vI h, vI o, vR q] [vR 143] σ1
            refine x_getr (r := 144) (dat d_Sb_fever 45 rfl) rfl f_Sb_333 (or_mk (by decide +kernel)) ?_
            refine x_iload_n (dat d_Sb_fever 46 rfl) rfl rfl ?_
            refine x_iload (dat d_Sb_fever 47 rfl) rfl ?_
            refine x_aload (dat d_Sb_fever 48 rfl) rfl ?_
            refine x_geti (ji := 3) (v := (cH (cfg t) : Int)) (dat d_Sb_fever 49 rfl) rfl f_Sb_142 (tw_oi_3 hq) (e3) ?_
            refine x_aload_n (dat d_Sb_fever 50 rfl) rfl rfl ?_
            refine x_getr (r := 138) (dat d_Sb_fever 51 rfl) rfl f_Sb_34 (or_mk (by decide +kernel)) ?_
            refine x_geti (ji := 5) (v := σ1 138 5) (dat d_Sb_fever 52 rfl) rfl f_Sb_337 (oi_mk (by decide +kernel)) rfl ?_
            refine x_inv (As := [vI p, vI o, vI (cH (cfg t) : Int), vI (σ1 138 5)]) (dat d_Sb_fever 53 rfl) rfl c_Ha_reachedFirst l_Sb_357 (by decide) (rv_ha (by decide +kernel)) rfl rfl (Nat.le_of_ble_eq_true rfl) ?_
            refine sp_Ha_reachedFirst ru_143 hC R hg p0 p1 q0 q1 (fun v hv => ?_)
            show Wx g y_Sb_fever Z K 115 [vR 0, vI n, vI p, vI h, vI o, vR q] [vI v] σ1
            refine x_iret (dat d_Sb_fever 54 rfl) rfl ?_
            refine kk _ σ1 (fun o ho => F o (by omega)) ?_
            rw [yes, if_neg (by omega)]
            exact hv
          · refine x_bipush (dat d_Sb_fever 40 rfl) (by decide) (by decide) ?_
            refine x_iret (dat d_Sb_fever 41 rfl) rfl ?_
            exact no (by omega)
        · show Wx g y_Sb_fever Z K 76 [vR 0, vI n, vI p, vI h, vI o, vR q] [vI 0] σ
          refine x_if_eq (tgt := 85) (dat d_Sb_fever 36 rfl) (by decide) (fun c_76 => ?_) (fun h => absurd h (by decide))
          refine x_bipush (dat d_Sb_fever 40 rfl) (by decide) (by decide) ?_
          refine x_iret (dat d_Sb_fever 41 rfl) rfl ?_
          exact no (by omega)
      · refine x_aload (dat d_Sb_fever 16 rfl) rfl ?_
        refine x_iload_n (dat d_Sb_fever 17 rfl) rfl rfl ?_
        refine x_inv (As := [vI h]) (dat d_Sb_fever 18 rfl) rfl c_Tw_hasHour l_Sb_214 (by decide) (rv_tw (tw_k hq)) rfl rfl (Nat.le_of_ble_eq_true rfl) ?_
        refine sp_Tw_hasHour hq hT hR (fun q0 q1 => ?_) (fun cc => ?_)
        · show Wx g y_Sb_fever Z K 39 [vR 0, vI n, vI p, vI h, vI o, vR q] [vI 1] σ
          refine x_if_eq (tgt := 66) (dat d_Sb_fever 19 rfl) (by decide) (fun h => absurd h (by decide)) (fun c_39 => ?_)
          refine x_aload_n (dat d_Sb_fever 20 rfl) rfl rfl ?_
          refine x_aload (dat d_Sb_fever 21 rfl) rfl ?_
          refine x_inv (As := [vR q]) (dat d_Sb_fever 22 rfl) rfl c_Sb_runOf l_Sb_217 (by decide) (rv_sb (by decide +kernel)) rfl rfl (Nat.le_of_ble_eq_true rfl) ?_
          have yes : ∀ v : Int, fevA t p h o v = (if o = -1 then Msk 8 v (rch (cGl (cfg t)) p (lgs (cfg t) 0 (h.toNat + 1))) else FirstH (fun i => rch (cGl (cfg t)) p (lgs (cfg t) 0 (i + 1)) o = true) (t 3).toNat v) := fun v => if_neg (fun z => by omega)
          refine sp_Sb_runOf hq hT hR (fun σ1 hp R F => ?_)
          have hcH := cH_eq hC
          have c1 : cS (cfg t) 1 = t 3 := rfl
          have hhn : ((h.toNat : Nat) : Int) = h := Int.toNat_of_nonneg q0
          have hg : Mss (t 6) (σ1 138 5) (cGl (cfg t)) := hp.2.2.2.2.2.1
          show Wx g y_Sb_fever Z K 48 [vR 0, vI n, vI p, vI h, vI o, vR q] [vR 143] σ1
          refine x_getr (r := 144) (dat d_Sb_fever 23 rfl) rfl f_Sb_333 (or_mk (by decide +kernel)) ?_
          refine x_iload_n (dat d_Sb_fever 24 rfl) rfl rfl ?_
          refine x_iload_n (dat d_Sb_fever 25 rfl) rfl rfl ?_
          refine x_aload_n (dat d_Sb_fever 26 rfl) rfl rfl ?_
          refine x_getr (r := 138) (dat d_Sb_fever 27 rfl) rfl f_Sb_34 (or_mk (by decide +kernel)) ?_
          refine x_geti (ji := 5) (v := σ1 138 5) (dat d_Sb_fever 28 rfl) rfl f_Sb_337 (oi_mk (by decide +kernel)) rfl ?_
          refine x_inv (As := [vI p, vI h, vI (σ1 138 5)]) (dat d_Sb_fever 29 rfl) rfl c_Ha_reached l_Sb_340 (by decide) (rv_ha (by decide +kernel)) rfl rfl (Nat.le_of_ble_eq_true rfl) ?_
          have hh := R.2.2.2.2 h.toNat (Nat.zero_le _) (by omega)
          have lo := lgs_ok hC 0 (cH (cfg t))
          obtain ⟨pre, hpre⟩ := lgs_split (C := cfg t) (cH (cfg t)) h.toNat (by omega)
          refine sp_Ha_reached (l := 144) (P := t 6) (gl := cGl (cfg t)) (t := pre) (s := lgs (cfg t) 0 (h.toNat + 1)) (by simp [IsHa, L_Ha]) h6.2 q0 (by omega) hg R.2.2.2.1 hpre (by omega) ?_ lo.1 p0 p1 (fun v hv => ?_)
          · have := hh.2.2.2.2.2.2
            rw [hhn] at this
            exact this
          show Wx g y_Sb_fever Z K 63 [vR 0, vI n, vI p, vI h, vI o, vR q] [vI v] σ1
          refine x_goto (tgt := 68) (dat d_Sb_fever 30 rfl) (by decide) ?_
          refine x_iret (dat d_Sb_fever 32 rfl) rfl ?_
          first
          | (refine kk _ σ1 (fun o ho => F o (by omega)) ?_
             rw [yes, if_pos (by omega)]
             exact hv)
          | exact no (by omega)
        · show Wx g y_Sb_fever Z K 39 [vR 0, vI n, vI p, vI h, vI o, vR q] [vI 0] σ
          refine x_if_eq (tgt := 66) (dat d_Sb_fever 19 rfl) (by decide) (fun c_39 => ?_) (fun h => absurd h (by decide))
          refine x_bipush (dat d_Sb_fever 31 rfl) (by decide) (by decide) ?_
          refine x_iret (dat d_Sb_fever 32 rfl) rfl ?_
          first
          | (refine kk _ σ1 (fun o ho => F o (by omega)) ?_
             rw [yes, if_pos (by omega)]
             exact hv)
          | exact no (by omega)
    · show Wx g y_Sb_fever Z K 21 [vR 0, vI n, vI p, vI h, vI o, vR q] [vI 0] σ
      refine x_if_ne (tgt := 27) (dat d_Sb_fever 10 rfl) (by decide) (fun h => absurd h (by decide)) (fun c_21 => ?_)
      refine x_bipush (dat d_Sb_fever 11 rfl) (by decide) (by decide) ?_
      refine x_iret (dat d_Sb_fever 12 rfl) rfl ?_
      first
      | exact no (Or.inl cc)
      | exact k _ σ (atT.no c) (fun _ _ => rfl)
def drwA (t : Int → Int) (p s x r : Int) : Prop := if ¬ ((0 ≤ p ∧ p < t 6) ∧ (0 ≤ x ∧ x ≤ 10)) then r = -1 else Msk 8 r (lot (cGl (cfg t)) x p s (lgs (cfg t) 0 (t 3).toNat)).2
theorem sp_Sb_drawn {g : xG} {K : Option MV → xS → Prop} {σ : xS} {a : Int → Int} {im : Nat → Int → Int} {n p s x : Int} (H : SbR σ a im) (k : ∀ (r : Int) (σ' : xS), atT a n (-1) (fun t r => drwA t p s x r) r → (∀ o : Nat, o < 138 ∨ 170 < o → σ' o = σ o) → K (some (vI r)) σ') : Mt g y_Sb_drawn [vR 0, vI n, vI p, vI s, vI x] σ K := by
  refine x_enter 1 rfl rfl rfl (fun Z => ?_)
  show Wx g y_Sb_drawn Z K 0 [vR 0, vI n, vI p, vI s, vI x, vU] [] σ
  refine x_aload_n (dat d_Sb_drawn 0 rfl) rfl rfl ?_
  refine x_getr (r := 1) (dat d_Sb_drawn 1 rfl) rfl f_Sb_10 (or_mk (by decide +kernel)) ?_
  refine x_iload_n (dat d_Sb_drawn 2 rfl) rfl rfl ?_
  refine x_inv (As := [vI n]) (dat d_Sb_drawn 3 rfl) rfl c_To_townAt l_Sb_127 (by decide) (rv_to (by decide +kernel)) rfl rfl (Nat.le_of_ble_eq_true rfl) ?_
  refine sp_townAt H.1 (fun c => ?_) (fun q n0 n1 hq q30 hT hR => ?_)
  · show Wx g y_Sb_drawn Z K 8 [vR 0, vI n, vI p, vI s, vI x, vU] [vN] σ
    refine x_astoreN (L' := [vR 0, vI n, vI p, vI s, vI x, vN]) (dat d_Sb_drawn 4 rfl) (by decide) rfl rfl ?_
    refine x_aloadN (dat d_Sb_drawn 5 rfl) rfl ?_
    refine x_ifnullN (tgt := 36) (dat d_Sb_drawn 6 rfl) (by decide) ?_
    refine x_iconst (dat d_Sb_drawn 16 rfl) (by decide) ?_
    refine x_iret (dat d_Sb_drawn 17 rfl) rfl ?_
    first
    | exact no (fun z => by omega)
    | exact k _ σ (atT.no c) (fun _ _ => rfl)
  · show Wx g y_Sb_drawn Z K 8 [vR 0, vI n, vI p, vI s, vI x, vU] [vR q] σ
    refine x_astore (L' := [vR 0, vI n, vI p, vI s, vI x, vR q]) (dat d_Sb_drawn 4 rfl) (by decide) rfl rfl ?_
    refine x_aload (dat d_Sb_drawn 5 rfl) rfl ?_
    refine x_ifnull (dat d_Sb_drawn 6 rfl) ?_
    refine x_aload (dat d_Sb_drawn 7 rfl) rfl ?_
    refine x_iload_n (dat d_Sb_drawn 8 rfl) rfl rfl ?_
    refine x_inv (As := [vI p]) (dat d_Sb_drawn 9 rfl) rfl c_Tw_hasPerson l_Sb_168 (by decide) (rv_tw (tw_k hq)) rfl rfl (Nat.le_of_ble_eq_true rfl) ?_
    have hdum : True := trivial
    have h6 := hT.2.2.2.2.2.2.1
    have h3 := hT.2.2.2.1
    have hC := cfg_ok hT
    have kk : ∀ (v : Int) (σ' : xS), (∀ o : Nat, o < 138 ∨ 170 < o → σ' o = σ o) → drwA (tw a n) p s x v → K (some (vI v)) σ' := fun v σ' F e => k v σ' (atT.yes n0 n1 e) F
    generalize ht : tw a n = t at hT hR h6 h3 hC kk
    have no : ¬ ((0 ≤ p ∧ p < t 6) ∧ (0 ≤ x ∧ x ≤ 10)) → K (some (vI (-1))) σ := fun z => kk _ σ (fun _ _ => rfl) (by unfold drwA; rw [if_pos z])
    refine sp_Tw_hasPerson hq hT hR (fun p0 p1 => ?_) (fun cc => ?_)
    · show Wx g y_Sb_drawn Z K 21 [vR 0, vI n, vI p, vI s, vI x, vR q] [vI 1] σ
      refine x_if_eq (tgt := 36) (dat d_Sb_drawn 10 rfl) (by decide) (fun h => absurd h (by decide)) (fun c_21 => ?_)
      refine x_iload (dat d_Sb_drawn 11 rfl) rfl ?_
      refine x_if_lt (tgt := 36) (dat d_Sb_drawn 12 rfl) (by decide) (fun c_26 => ?_) (fun c_26 => ?_)
      · refine x_iconst (dat d_Sb_drawn 16 rfl) (by decide) ?_
        refine x_iret (dat d_Sb_drawn 17 rfl) rfl ?_
        first
        | exact no (fun z => by omega)
        | exact k _ σ (atT.no c) (fun _ _ => rfl)
      · refine x_iload (dat d_Sb_drawn 13 rfl) rfl ?_
        refine x_bipush (dat d_Sb_drawn 14 rfl) (by decide) (by decide) ?_
        refine x_icmp_le (tgt := 38) (dat d_Sb_drawn 15 rfl) (by decide) (fun c_33 => ?_) (fun c_33 => ?_)
        · refine x_aload_n (dat d_Sb_drawn 18 rfl) rfl rfl ?_
          refine x_aload (dat d_Sb_drawn 19 rfl) rfl ?_
          refine x_inv (As := [vR q]) (dat d_Sb_drawn 20 rfl) rfl c_Sb_runOf l_Sb_217 (by decide) (rv_sb (by decide +kernel)) rfl rfl (Nat.le_of_ble_eq_true rfl) ?_
          have yes : ∀ v : Int, drwA t p s x v = Msk 8 v (lot (cGl (cfg t)) x p s (lgs (cfg t) 0 (t 3).toNat)).2 := fun v => if_neg (fun z => z (by omega))
          refine sp_Sb_runOf hq hT hR (fun σ1 hp R F => ?_)
          have hg : Mss (t 6) (σ1 138 5) (cGl (cfg t)) := hp.2.2.2.2.2.1
          show Wx g y_Sb_drawn Z K 44 [vR 0, vI n, vI p, vI s, vI x, vR q] [vR 143] σ1
          refine x_getr (r := 144) (dat d_Sb_drawn 21 rfl) rfl f_Sb_333 (or_mk (by decide +kernel)) ?_
          refine x_iload_n (dat d_Sb_drawn 22 rfl) rfl rfl ?_
          refine x_aload_n (dat d_Sb_drawn 23 rfl) rfl rfl ?_
          refine x_getr (r := 138) (dat d_Sb_drawn 24 rfl) rfl f_Sb_34 (or_mk (by decide +kernel)) ?_
          refine x_geti (ji := 5) (v := σ1 138 5) (dat d_Sb_drawn 25 rfl) rfl f_Sb_337 (oi_mk (by decide +kernel)) rfl ?_
          refine x_iload_n (dat d_Sb_drawn 26 rfl) rfl rfl ?_
          refine x_iload (dat d_Sb_drawn 27 rfl) rfl ?_
          refine x_inv (As := [vI p, vI (σ1 138 5), vI s, vI x]) (dat d_Sb_drawn 28 rfl) rfl c_Ha_reachedByLot l_Sb_361 (by decide) (rv_ha (by decide +kernel)) rfl rfl (Nat.le_of_ble_eq_true rfl) ?_
          refine sp_Ha_reachedByLot ru_143 hC R hg p0 p1 (fun v hv => ?_)
          show Wx g y_Sb_drawn Z K 61 [vR 0, vI n, vI p, vI s, vI x, vR q] [vI v] σ1
          refine x_iret (dat d_Sb_drawn 29 rfl) rfl ?_
          exact kk _ σ1 (fun o ho => F o (by omega)) (by rw [yes]; exact hv)
        · refine x_iconst (dat d_Sb_drawn 16 rfl) (by decide) ?_
          refine x_iret (dat d_Sb_drawn 17 rfl) rfl ?_
          first
          | exact no (fun z => by omega)
          | exact k _ σ (atT.no c) (fun _ _ => rfl)
    · show Wx g y_Sb_drawn Z K 21 [vR 0, vI n, vI p, vI s, vI x, vR q] [vI 0] σ
      refine x_if_eq (tgt := 36) (dat d_Sb_drawn 10 rfl) (by decide) (fun c_21 => ?_) (fun h => absurd h (by decide))
      refine x_iconst (dat d_Sb_drawn 16 rfl) (by decide) ?_
      refine x_iret (dat d_Sb_drawn 17 rfl) rfl ?_
      first
      | exact no (fun z => by omega)
      | exact k _ σ (atT.no c) (fun _ _ => rfl)
def nwsA (t : Int → Int) (p o r : Int) : Prop := if ¬ (((0 ≤ p ∧ p < t 6) ∧ (0 ≤ o ∧ o < t 6)) ∧ p ≠ o) then r = -1 else FirstH (fun i => rch (fun _ => false) p (lgs (cfg t) 0 (i + 1)) o = true) (t 3).toNat r
theorem sp_Sb_news {g : xG} {K : Option MV → xS → Prop} {σ : xS} {a : Int → Int} {im : Nat → Int → Int} {n p o : Int} (H : SbR σ a im) (k : ∀ (r : Int) (σ' : xS), atT a n (-1) (fun t r => nwsA t p o r) r → (∀ o : Nat, o < 138 ∨ 170 < o → σ' o = σ o) → K (some (vI r)) σ') : Mt g y_Sb_news [vR 0, vI n, vI p, vI o] σ K := by
  refine x_enter 1 rfl rfl rfl (fun Z => ?_)
  show Wx g y_Sb_news Z K 0 [vR 0, vI n, vI p, vI o, vU] [] σ
  refine x_aload_n (dat d_Sb_news 0 rfl) rfl rfl ?_
  refine x_getr (r := 1) (dat d_Sb_news 1 rfl) rfl f_Sb_10 (or_mk (by decide +kernel)) ?_
  refine x_iload_n (dat d_Sb_news 2 rfl) rfl rfl ?_
  refine x_inv (As := [vI n]) (dat d_Sb_news 3 rfl) rfl c_To_townAt l_Sb_127 (by decide) (rv_to (by decide +kernel)) rfl rfl (Nat.le_of_ble_eq_true rfl) ?_
  refine sp_townAt H.1 (fun c => ?_) (fun q n0 n1 hq q30 hT hR => ?_)
  · show Wx g y_Sb_news Z K 8 [vR 0, vI n, vI p, vI o, vU] [vN] σ
    refine x_astoreN (L' := [vR 0, vI n, vI p, vI o, vN]) (dat d_Sb_news 4 rfl) (by decide) rfl rfl ?_
    refine x_aloadN (dat d_Sb_news 5 rfl) rfl ?_
    refine x_ifnullN (tgt := 38) (dat d_Sb_news 6 rfl) (by decide) ?_
    refine x_iconst (dat d_Sb_news 18 rfl) (by decide) ?_
    refine x_iret (dat d_Sb_news 19 rfl) rfl ?_
    first
    | exact no (fun z => by omega)
    | exact k _ σ (atT.no c) (fun _ _ => rfl)
  · show Wx g y_Sb_news Z K 8 [vR 0, vI n, vI p, vI o, vU] [vR q] σ
    refine x_astore (L' := [vR 0, vI n, vI p, vI o, vR q]) (dat d_Sb_news 4 rfl) (by decide) rfl rfl ?_
    refine x_aload (dat d_Sb_news 5 rfl) rfl ?_
    refine x_ifnull (dat d_Sb_news 6 rfl) ?_
    refine x_aload (dat d_Sb_news 7 rfl) rfl ?_
    refine x_iload_n (dat d_Sb_news 8 rfl) rfl rfl ?_
    refine x_inv (As := [vI p]) (dat d_Sb_news 9 rfl) rfl c_Tw_hasPerson l_Sb_168 (by decide) (rv_tw (tw_k hq)) rfl rfl (Nat.le_of_ble_eq_true rfl) ?_
    have hdum : True := trivial
    have h6 := hT.2.2.2.2.2.2.1
    have h3 := hT.2.2.2.1
    have hC := cfg_ok hT
    have kk : ∀ (v : Int) (σ' : xS), (∀ o : Nat, o < 138 ∨ 170 < o → σ' o = σ o) → nwsA (tw a n) p o v → K (some (vI v)) σ' := fun v σ' F e => k v σ' (atT.yes n0 n1 e) F
    generalize ht : tw a n = t at hT hR h6 h3 hC kk
    have no : ¬ (((0 ≤ p ∧ p < t 6) ∧ (0 ≤ o ∧ o < t 6)) ∧ p ≠ o) → K (some (vI (-1))) σ := fun z => kk _ σ (fun _ _ => rfl) (by unfold nwsA; rw [if_pos z])
    refine sp_Tw_hasPerson hq hT hR (fun p0 p1 => ?_) (fun cc => ?_)
    · show Wx g y_Sb_news Z K 21 [vR 0, vI n, vI p, vI o, vR q] [vI 1] σ
      refine x_if_eq (tgt := 38) (dat d_Sb_news 10 rfl) (by decide) (fun h => absurd h (by decide)) (fun c_21 => ?_)
      refine x_aload (dat d_Sb_news 11 rfl) rfl ?_
      refine x_iload_n (dat d_Sb_news 12 rfl) rfl rfl ?_
      refine x_inv (As := [vI o]) (dat d_Sb_news 13 rfl) rfl c_Tw_hasPerson l_Sb_168 (by decide) (rv_tw (tw_k hq)) rfl rfl (Nat.le_of_ble_eq_true rfl) ?_
      refine sp_Tw_hasPerson hq hT hR (fun q0 q1 => ?_) (fun cc => ?_)
      · show Wx g y_Sb_news Z K 30 [vR 0, vI n, vI p, vI o, vR q] [vI 1] σ
        refine x_if_eq (tgt := 38) (dat d_Sb_news 14 rfl) (by decide) (fun h => absurd h (by decide)) (fun c_30 => ?_)
        refine x_iload_n (dat d_Sb_news 15 rfl) rfl rfl ?_
        refine x_iload_n (dat d_Sb_news 16 rfl) rfl rfl ?_
        refine x_icmp_ne (tgt := 40) (dat d_Sb_news 17 rfl) (by decide) (fun c_35 => ?_) (fun c_35 => ?_)
        · refine x_aload_n (dat d_Sb_news 20 rfl) rfl rfl ?_
          refine x_aload (dat d_Sb_news 21 rfl) rfl ?_
          refine x_inv (As := [vR q]) (dat d_Sb_news 22 rfl) rfl c_Sb_runOf l_Sb_217 (by decide) (rv_sb (by decide +kernel)) rfl rfl (Nat.le_of_ble_eq_true rfl) ?_
          have yes : ∀ v : Int, nwsA t p o v = FirstH (fun i => rch (fun _ => false) p (lgs (cfg t) 0 (i + 1)) o = true) (t 3).toNat v := fun v => if_neg (fun z => z (by omega))
          refine sp_Sb_runOf hq hT hR (fun σ1 hp R F => ?_)
          have hcH := cH_eq hC
          have c1 : cS (cfg t) 1 = t 3 := rfl
          have hR1 : TownR σ1 q t := hR.same (fun b _ _ => F b (by have := tw_cs hq; omega))
          have e3 : σ1 q 3 = (cH (cfg t) : Int) := by rw [hR1.1 3 (by decide) (by decide)]; omega
          show Wx g y_Sb_news Z K 46 [vR 0, vI n, vI p, vI o, vR q] [vR 143] σ1
          refine x_getr (r := 144) (dat d_Sb_news 23 rfl) rfl f_Sb_333 (or_mk (by decide +kernel)) ?_
          refine x_iload_n (dat d_Sb_news 24 rfl) rfl rfl ?_
          refine x_iload_n (dat d_Sb_news 25 rfl) rfl rfl ?_
          refine x_aload (dat d_Sb_news 26 rfl) rfl ?_
          refine x_geti (ji := 3) (v := (cH (cfg t) : Int)) (dat d_Sb_news 27 rfl) rfl f_Sb_142 (tw_oi_3 hq) (e3) ?_
          refine x_iconst (dat d_Sb_news 28 rfl) (by decide) ?_
          refine x_inv (As := [vI p, vI o, vI (cH (cfg t) : Int), vI 0]) (dat d_Sb_news 29 rfl) rfl c_Ha_reachedFirst l_Sb_357 (by decide) (rv_ha (by decide +kernel)) rfl rfl (Nat.le_of_ble_eq_true rfl) ?_
          refine sp_Ha_reachedFirst (gl := fun _ => false) ru_143 hC R ⟨by decide, by decide, fun p p0 p1 => by unfold tb; simp⟩ p0 p1 q0 q1 (fun v hv => ?_)
          show Wx g y_Sb_news Z K 60 [vR 0, vI n, vI p, vI o, vR q] [vI v] σ1
          refine x_iret (dat d_Sb_news 30 rfl) rfl ?_
          exact kk _ σ1 (fun o ho => F o (by omega)) (by rw [yes]; exact hv)
        · refine x_iconst (dat d_Sb_news 18 rfl) (by decide) ?_
          refine x_iret (dat d_Sb_news 19 rfl) rfl ?_
          first
          | exact no (fun z => by omega)
          | exact k _ σ (atT.no c) (fun _ _ => rfl)
      · show Wx g y_Sb_news Z K 30 [vR 0, vI n, vI p, vI o, vR q] [vI 0] σ
        refine x_if_eq (tgt := 38) (dat d_Sb_news 14 rfl) (by decide) (fun c_30 => ?_) (fun h => absurd h (by decide))
        refine x_iconst (dat d_Sb_news 18 rfl) (by decide) ?_
        refine x_iret (dat d_Sb_news 19 rfl) rfl ?_
        first
        | exact no (fun z => by omega)
        | exact k _ σ (atT.no c) (fun _ _ => rfl)
    · show Wx g y_Sb_news Z K 21 [vR 0, vI n, vI p, vI o, vR q] [vI 0] σ
      refine x_if_eq (tgt := 38) (dat d_Sb_news 10 rfl) (by decide) (fun c_21 => ?_) (fun h => absurd h (by decide))
      refine x_iconst (dat d_Sb_news 18 rfl) (by decide) ?_
      refine x_iret (dat d_Sb_news 19 rfl) rfl ?_
      first
      | exact no (fun z => by omega)
      | exact k _ σ (atT.no c) (fun _ _ => rfl)
