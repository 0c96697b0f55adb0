/-! the class's calls: what a run is -/
theorem mt_h {g : xG} {y : xM} {σ : xS} {K : Option MV → xS → Prop} {as as' : List MV} (e : as = as') (h : Mt g y as σ K) : Mt g y as' σ K := e ▸ h
theorem atT.no {a : Int → Int} {n d : Int} {Q : (Int → Int) → Int → Prop} (c : ¬ (0 ≤ n ∧ n < a 0)) : atT a n d Q d := ⟨fun _ => rfl, fun h0 h1 => absurd ⟨h0, h1⟩ c⟩
theorem atT.yes {a : Int → Int} {n d r : Int} {Q : (Int → Int) → Int → Prop} (n0 : 0 ≤ n) (n1 : n < a 0) (h : Q (tw a n) r) : atT a n d Q r := ⟨fun c => absurd ⟨n0, n1⟩ c, fun _ _ => h⟩
def atA (t : Int → Int) (h p w r : Int) : Prop := if ¬ ((0 ≤ h ∧ h < t 3) ∧ (0 ≤ p ∧ p < t 6)) then r = -1000 else if w = 0 then r = cellT t p h else if w = 1 then r = (rst (cfg t) (h.toNat + 1)).1 p else if w = 2 then r = (if (rst (cfg t) (h.toNat + 1)).2 p = true then 1 else 0) else if w = 3 then Msk 8 r (metB (hev (cfg t) h.toNat) p) else if w = 4 then r = cameI (hev (cfg t) h.toNat) p else r = -1000
theorem sp_Sb_at {g : xG} {K : Option MV → xS → Prop} {σ : xS} {a : Int → Int} {im : Nat → Int → Int} {n h p w : Int} (H : SbR σ a im) (k : ∀ (r : Int) (σ' : xS), atT a n (-1000) (fun t r => atA t h p w r) r → (∀ o : Nat, o < 138 ∨ 170 < o → σ' o = σ o) → K (some (vI r)) σ') : Mt g y_Sb_at [vR 0, vI n, vI h, vI p, vI w] σ K := by
  refine x_enter 3 rfl rfl rfl (fun Z => ?_)
  show Wx g y_Sb_at Z K 0 [vR 0, vI n, vI h, vI p, vI w, vU, vU, vU] [] σ
  refine x_aload_n (dat d_Sb_at 0 rfl) rfl rfl ?_
  refine x_getr (r := 1) (dat d_Sb_at 1 rfl) rfl f_Sb_10 (or_mk (by decide +kernel)) ?_
  refine x_iload_n (dat d_Sb_at 2 rfl) rfl rfl ?_
  refine x_inv (As := [vI n]) (dat d_Sb_at 3 rfl) rfl c_To_townAt l_Sb_127 (by decide) (rv_to (by decide +kernel)) rfl rfl (Nat.le_of_ble_eq_true rfl) ?_
  refine sp_townAt H.1 (fun c => ?_) (fun q n0 n1 hq q30 hT hR => ?_)
  · show Wx g y_Sb_at Z K 8 [vR 0, vI n, vI h, vI p, vI w, vU, vU, vU] [vN] σ
    refine x_astoreN (L' := [vR 0, vI n, vI h, vI p, vI w, vN, vU, vU]) (dat d_Sb_at 4 rfl) (by decide) rfl rfl ?_
    refine x_aloadN (dat d_Sb_at 5 rfl) rfl ?_
    refine x_ifnullN (tgt := 33) (dat d_Sb_at 6 rfl) (by decide) ?_
    refine x_sipush (dat d_Sb_at 15 rfl) (by decide) (by decide) ?_
    refine x_iret (dat d_Sb_at 16 rfl) rfl ?_
    first
    | (refine kk _ σ (fun _ _ => rfl) ?_
       unfold atA
       rw [if_pos (fun w => by first | exact cc w.1 | exact cc w.2)])
    | exact k _ σ (atT.no c) (fun _ _ => rfl)
  · show Wx g y_Sb_at Z K 8 [vR 0, vI n, vI h, vI p, vI w, vU, vU, vU] [vR q] σ
    refine x_astore (L' := [vR 0, vI n, vI h, vI p, vI w, vR q, vU, vU]) (dat d_Sb_at 4 rfl) (by decide) rfl rfl ?_
    refine x_aload (dat d_Sb_at 5 rfl) rfl ?_
    refine x_ifnull (dat d_Sb_at 6 rfl) ?_
    refine x_aload (dat d_Sb_at 7 rfl) rfl ?_
    refine x_iload_n (dat d_Sb_at 8 rfl) rfl rfl ?_
    refine x_inv (As := [vI h]) (dat d_Sb_at 9 rfl) rfl c_Tw_hasHour l_Sb_214 (by decide) (rv_tw (tw_k hq)) rfl rfl (Nat.le_of_ble_eq_true rfl) ?_
    have h6 := hT.2.2.2.2.2.2.1
    have h3 := hT.2.2.2.1
    have hC := cfg_ok hT
    have kk : ∀ (v : Int) (σ' : xS), (∀ o : Nat, o < 138 ∨ 170 < o → σ' o = σ o) → atA (tw a n) h p w v → K (some (vI v)) σ' := fun v σ' F e => k v σ' (atT.yes n0 n1 e) F
    generalize ht : tw a n = t at hT hR h6 h3 hC kk
    refine sp_Tw_hasHour hq hT hR (fun q0 q1 => ?_) (fun cc => ?_)
    · show Wx g y_Sb_at Z K 21 [vR 0, vI n, vI h, vI p, vI w, vR q, vU, vU] [vI 1] σ
      refine x_if_eq (tgt := 33) (dat d_Sb_at 10 rfl) (by decide) (fun h => absurd h (by decide)) (fun c_21 => ?_)
      refine x_aload (dat d_Sb_at 11 rfl) rfl ?_
      refine x_iload_n (dat d_Sb_at 12 rfl) rfl rfl ?_
      refine x_inv (As := [vI p]) (dat d_Sb_at 13 rfl) rfl c_Tw_hasPerson l_Sb_168 (by decide) (rv_tw (tw_k hq)) rfl rfl (Nat.le_of_ble_eq_true rfl) ?_
      refine sp_Tw_hasPerson hq hT hR (fun p0 p1 => ?_) (fun cc => ?_)
      · show Wx g y_Sb_at Z K 30 [vR 0, vI n, vI h, vI p, vI w, vR q, vU, vU] [vI 1] σ
        refine x_if_ne (tgt := 37) (dat d_Sb_at 14 rfl) (by decide) (fun c_30 => ?_) (fun h => absurd h (by decide))
        refine x_aload_n (dat d_Sb_at 17 rfl) rfl rfl ?_
        refine x_aload (dat d_Sb_at 18 rfl) rfl ?_
        refine x_inv (As := [vR q]) (dat d_Sb_at 19 rfl) rfl c_Sb_runOf l_Sb_217 (by decide) (rv_sb (by decide +kernel)) rfl rfl (Nat.le_of_ble_eq_true rfl) ?_
        refine sp_Sb_runOf hq hT hR (fun σ1 hp R F => ?_)
        have hcH := cH_eq hC
        have hhn : ((h.toNat : Nat) : Int) = h := Int.toNat_of_nonneg q0
        have c1 : cS (cfg t) 1 = t 3 := rfl
        have c0 : cS (cfg t) 0 = t 6 := rfl
        have hR1 : TownR σ1 q t := hR.same (fun b _ _ => F b (by have := tw_cs hq; omega))
        have hh := R.2.2.2.2 h.toNat (by omega) (by omega)
        have kk2 : ∀ v : Int, atA t h p w v → K (some (vI v)) σ1 := fun v e => kk v σ1 (fun o ho => F o (by omega)) e
        have ua : ∀ v : Int, atA t h p w v = (if w = 0 then v = cellT t p h else if w = 1 then v = (rst (cfg t) (h.toNat + 1)).1 p else if w = 2 then v = (if (rst (cfg t) (h.toNat + 1)).2 p = true then 1 else 0) else if w = 3 then Msk 8 v (metB (hev (cfg t) h.toNat) p) else if w = 4 then v = cameI (hev (cfg t) h.toNat) p else v = -1000) := fun v => if_neg (fun z => z ⟨⟨q0, q1⟩, p0, p1⟩)
        show Wx g y_Sb_at Z K 43 [vR 0, vI n, vI h, vI p, vI w, vR q, vU, vU] [vR 143] σ1
        refine x_astore (L' := [vR 0, vI n, vI h, vI p, vI w, vR q, vR 143, vU]) (dat d_Sb_at 20 rfl) (by decide) rfl rfl ?_
        refine x_iload_n (dat d_Sb_at 21 rfl) rfl rfl ?_
        refine x_bipush (dat d_Sb_at 22 rfl) (by decide) (by decide) ?_
        refine x_imul (v := 8 * h) (dat d_Sb_at 23 rfl) (by omega) (by omega) ?_
        refine x_iload_n (dat d_Sb_at 24 rfl) rfl rfl ?_
        refine x_iadd (v := (8 * h) + p) (dat d_Sb_at 25 rfl) rfl (by omega) ?_
        refine x_istore (L' := [vR 0, vI n, vI h, vI p, vI w, vR q, vR 143, vI ((8 * h) + p)]) (dat d_Sb_at 26 rfl) (by decide) rfl rfl ?_
        refine x_iload (dat d_Sb_at 27 rfl) rfl ?_
        by_cases c_55 : w < 0 ∨ 4 < w
        · refine x_tableOut (tgt := 139) (dat d_Sb_at 28 rfl).1 c_55 (by decide) ?_
          refine x_sipush (dat d_Sb_at 58 rfl) (by decide) (by decide) ?_
          refine x_iret (dat d_Sb_at 59 rfl) rfl ?_
          refine kk2 _ (by rw [ua, if_neg (by omega), if_neg (by omega), if_neg (by omega), if_neg (by omega), if_neg (by omega)])
        · have e_55 : w = 0 ∨ w = 1 ∨ w = 2 ∨ w = 3 ∨ w = 4 := by omega
          rcases e_55 with e_55 | e_55 | e_55 | e_55 | e_55
          · refine x_tableIn (tgt := 88) (dat d_Sb_at 28 rfl).1 0 rfl (by omega) (by decide) ?_
            refine x_aload (dat d_Sb_at 29 rfl) rfl ?_
            refine x_iload_n (dat d_Sb_at 30 rfl) rfl rfl ?_
            refine x_iload_n (dat d_Sb_at 31 rfl) rfl rfl ?_
            refine x_inv (As := [vI p, vI h]) (dat d_Sb_at 32 rfl) rfl c_Tw_cellAt l_Sb_221 (by decide) (rv_tw (tw_k hq)) rfl rfl (Nat.le_of_ble_eq_true rfl) ?_
            refine sp_Tw_cellAt hq hT hR1 p0 p1 q0 (by omega) ?_
            show Wx g y_Sb_at Z K 95 [vR 0, vI n, vI h, vI p, vI w, vR q, vR 143, vI ((8 * h) + p)] [vI (cellT t p h)] σ1
            refine x_iret (dat d_Sb_at 33 rfl) rfl ?_
            subst e_55
            exact kk2 _ (by rw [ua, if_pos rfl])
          · refine x_tableIn (tgt := 96) (dat d_Sb_at 28 rfl).1 1 rfl (by omega) (by decide) ?_
            refine x_aload (dat d_Sb_at 34 rfl) rfl ?_
            refine x_getr (r := 149) (dat d_Sb_at 35 rfl) rfl f_Sb_224 (or_mk (by decide +kernel)) ?_
            refine x_iload (dat d_Sb_at 36 rfl) rfl ?_
            refine x_iald (n := 192) (v := σ1 149 ((8 * h) + p)) (dat d_Sb_at 37 rfl) (ai_mk (by decide +kernel)) (by omega) (by omega) rfl ?_
            refine x_iret (dat d_Sb_at 38 rfl) rfl ?_
            subst e_55
            refine kk2 _ (by rw [ua, if_neg (by decide), if_pos rfl]; have := hh.1 p p0 p1; rw [hhn] at this; exact this)
          · refine x_tableIn (tgt := 105) (dat d_Sb_at 28 rfl).1 2 rfl (by omega) (by decide) ?_
            refine x_aload (dat d_Sb_at 39 rfl) rfl ?_
            refine x_iload_n (dat d_Sb_at 40 rfl) rfl rfl ?_
            refine x_iload_n (dat d_Sb_at 41 rfl) rfl rfl ?_
            refine x_inv (As := [vI h, vI p]) (dat d_Sb_at 42 rfl) rfl c_Ru_livesAt l_Sb_225 (by decide) (rv_ru (by decide +kernel)) rfl rfl (Nat.le_of_ble_eq_true rfl) ?_
            refine mt_h (as := [vR 143, vI ((h.toNat : Nat) : Int), vI p]) (by rw [hhn]) ?_
            refine sp_Ru_livesAt (h := h.toNat) ru_143 hC R (Nat.zero_le _) (by omega) p0 (by omega) (fun lv => ?_) (fun lv => ?_)
            · show Wx g y_Sb_at Z K 112 [vR 0, vI n, vI h, vI p, vI w, vR q, vR 143, vI ((8 * h) + p)] [vI 1] σ1
              refine x_if_eq (tgt := 119) (dat d_Sb_at 43 rfl) (by decide) (fun h => absurd h (by decide)) (fun c_112 => ?_)
              refine x_iconst (dat d_Sb_at 44 rfl) (by decide) ?_
              refine x_goto (tgt := 120) (dat d_Sb_at 45 rfl) (by decide) ?_
              refine x_iret (dat d_Sb_at 47 rfl) rfl ?_
              subst e_55
              refine kk2 _ (by rw [ua, if_neg (by decide), if_neg (by decide), if_pos rfl, lv]; rfl)
            · show Wx g y_Sb_at Z K 112 [vR 0, vI n, vI h, vI p, vI w, vR q, vR 143, vI ((8 * h) + p)] [vI 0] σ1
              refine x_if_eq (tgt := 119) (dat d_Sb_at 43 rfl) (by decide) (fun c_112 => ?_) (fun h => absurd h (by decide))
              refine x_iconst (dat d_Sb_at 46 rfl) (by decide) ?_
              refine x_iret (dat d_Sb_at 47 rfl) rfl ?_
              subst e_55
              refine kk2 _ (by rw [ua, if_neg (by decide), if_neg (by decide), if_pos rfl, lv]; rfl)
          · refine x_tableIn (tgt := 121) (dat d_Sb_at 28 rfl).1 3 rfl (by omega) (by decide) ?_
            refine x_aload (dat d_Sb_at 48 rfl) rfl ?_
            refine x_getr (r := 150) (dat d_Sb_at 49 rfl) rfl f_Sb_229 (or_mk (by decide +kernel)) ?_
            refine x_iload (dat d_Sb_at 50 rfl) rfl ?_
            refine x_iald (n := 192) (v := σ1 150 ((8 * h) + p)) (dat d_Sb_at 51 rfl) (ai_mk (by decide +kernel)) (by omega) (by omega) rfl ?_
            refine x_iret (dat d_Sb_at 52 rfl) rfl ?_
            subst e_55
            refine kk2 _ (by rw [ua, if_neg (by decide), if_neg (by decide), if_neg (by decide), if_pos rfl]; have := hh.2.2.1 p p0 p1; rw [hhn] at this; exact this)
          · refine x_tableIn (tgt := 130) (dat d_Sb_at 28 rfl).1 4 rfl (by omega) (by decide) ?_
            refine x_aload (dat d_Sb_at 53 rfl) rfl ?_
            refine x_getr (r := 151) (dat d_Sb_at 54 rfl) rfl f_Sb_232 (or_mk (by decide +kernel)) ?_
            refine x_iload (dat d_Sb_at 55 rfl) rfl ?_
            refine x_iald (n := 192) (v := σ1 151 ((8 * h) + p)) (dat d_Sb_at 56 rfl) (ai_mk (by decide +kernel)) (by omega) (by omega) rfl ?_
            refine x_iret (dat d_Sb_at 57 rfl) rfl ?_
            subst e_55
            refine kk2 _ (by rw [ua, if_neg (by decide), if_neg (by decide), if_neg (by decide), if_neg (by decide), if_pos rfl]; have := hh.2.2.2.1 p p0 p1; rw [hhn] at this; exact this)
      · show Wx g y_Sb_at Z K 30 [vR 0, vI n, vI h, vI p, vI w, vR q, vU, vU] [vI 0] σ
        refine x_if_ne (tgt := 37) (dat d_Sb_at 14 rfl) (by decide) (fun h => absurd h (by decide)) (fun c_30 => ?_)
        refine x_sipush (dat d_Sb_at 15 rfl) (by decide) (by decide) ?_
        refine x_iret (dat d_Sb_at 16 rfl) rfl ?_
        first
        | (refine kk _ σ (fun _ _ => rfl) ?_
           unfold atA
           rw [if_pos (fun w => by first | exact cc w.1 | exact cc w.2)])
        | exact k _ σ (atT.no c) (fun _ _ => rfl)
    · show Wx g y_Sb_at Z K 21 [vR 0, vI n, vI h, vI p, vI w, vR q, vU, vU] [vI 0] σ
      refine x_if_eq (tgt := 33) (dat d_Sb_at 10 rfl) (by decide) (fun c_21 => ?_) (fun h => absurd h (by decide))
      refine x_sipush (dat d_Sb_at 15 rfl) (by decide) (by decide) ?_
      refine x_iret (dat d_Sb_at 16 rfl) rfl ?_
      first
      | (refine kk _ σ (fun _ _ => rfl) ?_
         unfold atA
         rw [if_pos (fun w => by first | exact cc w.1 | exact cc w.2)])
      | exact k _ σ (atT.no c) (fun _ _ => rfl)
def hourA (t : Int → Int) (h w r : Int) : Prop := if ¬ (0 ≤ h ∧ h < t 3) then r = -1 else if w = 0 then r = (hev (cfg t) h.toNat).length else if w = 1 then r = goneI (hev (cfg t) h.toNat) else if w = 2 then r = eatN (cfg t) h.toNat else if w = 3 then Msk 8 r (rst (cfg t) (h.toNat + 1)).2 else if w = 4 then r = brN (cfg t) (h.toNat + 1) else r = -1
theorem sp_Sb_hour {g : xG} {K : Option MV → xS → Prop} {σ : xS} {a : Int → Int} {im : Nat → Int → Int} {n h w : Int} (H : SbR σ a im) (k : ∀ (r : Int) (σ' : xS), atT a n (-1) (fun t r => hourA t h w r) r → (∀ o : Nat, o < 138 ∨ 170 < o → σ' o = σ o) → K (some (vI r)) σ') : Mt g y_Sb_hour [vR 0, vI n, vI h, vI w] σ K := by
  refine x_enter 2 rfl rfl rfl (fun Z => ?_)
  show Wx g y_Sb_hour Z K 0 [vR 0, vI n, vI h, vI w, vU, vU] [] σ
  refine x_aload_n (dat d_Sb_hour 0 rfl) rfl rfl ?_
  refine x_getr (r := 1) (dat d_Sb_hour 1 rfl) rfl f_Sb_10 (or_mk (by decide +kernel)) ?_
  refine x_iload_n (dat d_Sb_hour 2 rfl) rfl rfl ?_
  refine x_inv (As := [vI n]) (dat d_Sb_hour 3 rfl) rfl c_To_townAt l_Sb_127 (by decide) (rv_to (by decide +kernel)) rfl rfl (Nat.le_of_ble_eq_true rfl) ?_
  refine sp_townAt H.1 (fun c => ?_) (fun q n0 n1 hq q30 hT hR => ?_)
  · show Wx g y_Sb_hour Z K 8 [vR 0, vI n, vI h, vI w, vU, vU] [vN] σ
    refine x_astoreN (L' := [vR 0, vI n, vI h, vI w, vN, vU]) (dat d_Sb_hour 4 rfl) (by decide) rfl rfl ?_
    refine x_aloadN (dat d_Sb_hour 5 rfl) rfl ?_
    refine x_ifnullN (tgt := 24) (dat d_Sb_hour 6 rfl) (by decide) ?_
    refine x_iconst (dat d_Sb_hour 11 rfl) (by decide) ?_
    refine x_iret (dat d_Sb_hour 12 rfl) rfl ?_
    first
    | (refine kk _ σ (fun _ _ => rfl) ?_
       unfold hourA
       rw [if_pos cc])
    | exact k _ σ (atT.no c) (fun _ _ => rfl)
  · show Wx g y_Sb_hour Z K 8 [vR 0, vI n, vI h, vI w, vU, vU] [vR q] σ
    refine x_astore (L' := [vR 0, vI n, vI h, vI w, vR q, vU]) (dat d_Sb_hour 4 rfl) (by decide) rfl rfl ?_
    refine x_aload (dat d_Sb_hour 5 rfl) rfl ?_
    refine x_ifnull (dat d_Sb_hour 6 rfl) ?_
    refine x_aload (dat d_Sb_hour 7 rfl) rfl ?_
    refine x_iload_n (dat d_Sb_hour 8 rfl) rfl rfl ?_
    refine x_inv (As := [vI h]) (dat d_Sb_hour 9 rfl) rfl c_Tw_hasHour l_Sb_214 (by decide) (rv_tw (tw_k hq)) rfl rfl (Nat.le_of_ble_eq_true rfl) ?_
    have h6 := hT.2.2.2.2.2.2.1
    have h3 := hT.2.2.2.1
    have hC := cfg_ok hT
    have kk : ∀ (v : Int) (σ' : xS), (∀ o : Nat, o < 138 ∨ 170 < o → σ' o = σ o) → hourA (tw a n) h w v → K (some (vI v)) σ' := fun v σ' F e => k v σ' (atT.yes n0 n1 e) F
    generalize ht : tw a n = t at hT hR h6 h3 hC kk
    refine sp_Tw_hasHour hq hT hR (fun q0 q1 => ?_) (fun cc => ?_)
    · show Wx g y_Sb_hour Z K 21 [vR 0, vI n, vI h, vI w, vR q, vU] [vI 1] σ
      refine x_if_ne (tgt := 26) (dat d_Sb_hour 10 rfl) (by decide) (fun c_21 => ?_) (fun h => absurd h (by decide))
      refine x_aload_n (dat d_Sb_hour 13 rfl) rfl rfl ?_
      refine x_aload (dat d_Sb_hour 14 rfl) rfl ?_
      refine x_inv (As := [vR q]) (dat d_Sb_hour 15 rfl) rfl c_Sb_runOf l_Sb_217 (by decide) (rv_sb (by decide +kernel)) rfl rfl (Nat.le_of_ble_eq_true rfl) ?_
      refine sp_Sb_runOf hq hT hR (fun σ1 hp R F => ?_)
      have hcH := cH_eq hC
      have hhn : ((h.toNat : Nat) : Int) = h := Int.toNat_of_nonneg q0
      have c1 : cS (cfg t) 1 = t 3 := rfl
      have hh := R.2.2.2.2 h.toNat (by omega) (by omega)
      have kk2 : ∀ v : Int, hourA t h w v → K (some (vI v)) σ1 := fun v e => kk v σ1 (fun o ho => F o (by omega)) e
      have ua : ∀ v : Int, hourA t h w v = (if w = 0 then v = (hev (cfg t) h.toNat).length else if w = 1 then v = goneI (hev (cfg t) h.toNat) else if w = 2 then v = eatN (cfg t) h.toNat else if w = 3 then Msk 8 v (rst (cfg t) (h.toNat + 1)).2 else if w = 4 then v = brN (cfg t) (h.toNat + 1) else v = -1) := fun v => if_neg (fun z => z ⟨q0, q1⟩)
      show Wx g y_Sb_hour Z K 32 [vR 0, vI n, vI h, vI w, vR q, vU] [vR 143] σ1
      refine x_astore (L' := [vR 0, vI n, vI h, vI w, vR q, vR 143]) (dat d_Sb_hour 16 rfl) (by decide) rfl rfl ?_
      refine x_iload_n (dat d_Sb_hour 17 rfl) rfl rfl ?_
      by_cases c_35 : w < 0 ∨ 4 < w
      · refine x_tableOut (tgt := 106) (dat d_Sb_hour 18 rfl).1 c_35 (by decide) ?_
        refine x_iconst (dat d_Sb_hour 42 rfl) (by decide) ?_
        refine x_iret (dat d_Sb_hour 43 rfl) rfl ?_
        refine kk2 _ (by rw [ua, if_neg (by omega), if_neg (by omega), if_neg (by omega), if_neg (by omega), if_neg (by omega)])
      · have e_35 : w = 0 ∨ w = 1 ∨ w = 2 ∨ w = 3 ∨ w = 4 := by omega
        rcases e_35 with e_35 | e_35 | e_35 | e_35 | e_35
        · refine x_tableIn (tgt := 68) (dat d_Sb_hour 18 rfl).1 0 rfl (by omega) (by decide) ?_
          refine x_aload (dat d_Sb_hour 19 rfl) rfl ?_
          refine x_getr (r := 153) (dat d_Sb_hour 20 rfl) rfl f_Sb_235 (or_mk (by decide +kernel)) ?_
          refine x_iload_n (dat d_Sb_hour 21 rfl) rfl rfl ?_
          refine x_iald (n := 24) (v := σ1 153 h) (dat d_Sb_hour 22 rfl) (ai_mk (by decide +kernel)) (by omega) (by omega) rfl ?_
          refine x_iret (dat d_Sb_hour 23 rfl) rfl ?_
          subst e_35
          refine kk2 _ (by rw [ua, if_pos rfl]; have := hh.2.2.2.2.1; rw [hhn] at this; exact this)
        · refine x_tableIn (tgt := 76) (dat d_Sb_hour 18 rfl).1 1 rfl (by omega) (by decide) ?_
          refine x_aload (dat d_Sb_hour 24 rfl) rfl ?_
          refine x_getr (r := 154) (dat d_Sb_hour 25 rfl) rfl f_Sb_238 (or_mk (by decide +kernel)) ?_
          refine x_iload_n (dat d_Sb_hour 26 rfl) rfl rfl ?_
          refine x_iald (n := 24) (v := σ1 154 h) (dat d_Sb_hour 27 rfl) (ai_mk (by decide +kernel)) (by omega) (by omega) rfl ?_
          refine x_iret (dat d_Sb_hour 28 rfl) rfl ?_
          subst e_35
          refine kk2 _ (by rw [ua, if_neg (by decide), if_pos rfl]; have := hh.2.2.2.2.2.1; rw [hhn] at this; exact this)
        · refine x_tableIn (tgt := 84) (dat d_Sb_hour 18 rfl).1 2 rfl (by omega) (by decide) ?_
          refine x_aload (dat d_Sb_hour 29 rfl) rfl ?_
          refine x_iload_n (dat d_Sb_hour 30 rfl) rfl rfl ?_
          refine x_inv (As := [vI h]) (dat d_Sb_hour 31 rfl) rfl c_Ru_eatenAt l_Sb_241 (by decide) (rv_ru (by decide +kernel)) rfl rfl (Nat.le_of_ble_eq_true rfl) ?_
          refine mt_h (as := [vR 143, vI ((h.toNat : Nat) : Int)]) (by rw [hhn]) ?_
          refine sp_Ru_eatenAt (h := h.toNat) ru_143 hC R (Nat.zero_le _) (by omega) ?_
          show Wx g y_Sb_hour Z K 90 [vR 0, vI n, vI h, vI w, vR q, vR 143] [vI (eatN (cfg t) h.toNat)] σ1
          refine x_iret (dat d_Sb_hour 32 rfl) rfl ?_
          subst e_35
          exact kk2 _ (by rw [ua, if_neg (by decide), if_neg (by decide), if_pos rfl])
        · refine x_tableIn (tgt := 91) (dat d_Sb_hour 18 rfl).1 3 rfl (by omega) (by decide) ?_
          refine x_aload (dat d_Sb_hour 33 rfl) rfl ?_
          refine x_getr (r := 152) (dat d_Sb_hour 34 rfl) rfl f_Sb_245 (or_mk (by decide +kernel)) ?_
          refine x_iload_n (dat d_Sb_hour 35 rfl) rfl rfl ?_
          refine x_iald (n := 24) (v := σ1 152 h) (dat d_Sb_hour 36 rfl) (ai_mk (by decide +kernel)) (by omega) (by omega) rfl ?_
          refine x_iret (dat d_Sb_hour 37 rfl) rfl ?_
          subst e_35
          refine kk2 _ (by rw [ua, if_neg (by decide), if_neg (by decide), if_neg (by decide), if_pos rfl]; have := hh.2.1; rw [hhn] at this; exact this)
        · refine x_tableIn (tgt := 99) (dat d_Sb_hour 18 rfl).1 4 rfl (by omega) (by decide) ?_
          refine x_aload (dat d_Sb_hour 38 rfl) rfl ?_
          refine x_iload_n (dat d_Sb_hour 39 rfl) rfl rfl ?_
          refine x_inv (As := [vI h]) (dat d_Sb_hour 40 rfl) rfl c_Ru_breadAt l_Sb_248 (by decide) (rv_ru (by decide +kernel)) rfl rfl (Nat.le_of_ble_eq_true rfl) ?_
          refine mt_h (as := [vR 143, vI ((h.toNat : Nat) : Int)]) (by rw [hhn]) ?_
          refine sp_Ru_breadAt (h := h.toNat) ru_143 hC R (Nat.zero_le _) (by omega) ?_
          show Wx g y_Sb_hour Z K 105 [vR 0, vI n, vI h, vI w, vR q, vR 143] [vI (brN (cfg t) (h.toNat + 1))] σ1
          refine x_iret (dat d_Sb_hour 41 rfl) rfl ?_
          subst e_35
          exact kk2 _ (by rw [ua, if_neg (by decide), if_neg (by decide), if_neg (by decide), if_neg (by decide), if_pos rfl])
    · show Wx g y_Sb_hour Z K 21 [vR 0, vI n, vI h, vI w, vR q, vU] [vI 0] σ
      refine x_if_ne (tgt := 26) (dat d_Sb_hour 10 rfl) (by decide) (fun h => absurd h (by decide)) (fun c_21 => ?_)
      refine x_iconst (dat d_Sb_hour 11 rfl) (by decide) ?_
      refine x_iret (dat d_Sb_hour 12 rfl) rfl ?_
      first
      | (refine kk _ σ (fun _ _ => rfl) ?_
         unfold hourA
         rw [if_pos cc])
      | exact k _ σ (atT.no c) (fun _ _ => rfl)
def runA (t : Int → Int) (w r : Int) : Prop := if w = 0 then r = stv (cfg t) else if w = 1 then FirstH (fun h => ∃ p : Int, 0 ≤ p ∧ p < t 6 ∧ (rst (cfg t) (h + 1)).2 p = false) (t 3).toNat r else if w = 2 then r = sumN (fun h => ((hev (cfg t) h).length : Int)) (t 3).toNat else if w = 3 then r = sumN (eatN (cfg t)) (t 3).toNat else if w = 4 then r = brN (cfg t) (t 3).toNat else if w = 5 then r = rchT (cfg t) else if w = 6 then r = cpl2 (cfg t) (t 6).toNat / 2 else if w = 7 then r = (pts (cfg t) (t 6).toNat).2 else r = -2
theorem sp_Sb_run {g : xG} {K : Option MV → xS → Prop} {σ : xS} {a : Int → Int} {im : Nat → Int → Int} {n w : Int} (H : SbR σ a im) (k : ∀ (r : Int) (σ' : xS), atT a n (-2) (fun t r => runA t w r) r → (∀ o : Nat, o < 138 ∨ 170 < o → σ' o = σ o) → K (some (vI r)) σ') : Mt g y_Sb_run [vR 0, vI n, vI w] σ K := by
  refine x_enter 2 rfl rfl rfl (fun Z => ?_)
  show Wx g y_Sb_run Z K 0 [vR 0, vI n, vI w, vU, vU] [] σ
  refine x_aload_n (dat d_Sb_run 0 rfl) rfl rfl ?_
  refine x_getr (r := 1) (dat d_Sb_run 1 rfl) rfl f_Sb_10 (or_mk (by decide +kernel)) ?_
  refine x_iload_n (dat d_Sb_run 2 rfl) rfl rfl ?_
  refine x_inv (As := [vI n]) (dat d_Sb_run 3 rfl) rfl c_To_townAt l_Sb_127 (by decide) (rv_to (by decide +kernel)) rfl rfl (Nat.le_of_ble_eq_true rfl) ?_
  refine sp_townAt H.1 (fun c => ?_) (fun q n0 n1 hq q30 hT hR => ?_)
  · show Wx g y_Sb_run Z K 8 [vR 0, vI n, vI w, vU, vU] [vN] σ
    refine x_astore_nN (L' := [vR 0, vI n, vI w, vN, vU]) (dat d_Sb_run 4 rfl) rfl (by decide) rfl rfl ?_
    refine x_aload_nN (dat d_Sb_run 5 rfl) rfl rfl ?_
    refine x_ifnonnullN (dat d_Sb_run 6 rfl) ?_
    refine x_bipush (dat d_Sb_run 7 rfl) (by decide) (by decide) ?_
    refine x_iret (dat d_Sb_run 8 rfl) rfl ?_
    exact k _ σ (atT.no c) (fun _ _ => rfl)
  · show Wx g y_Sb_run Z K 8 [vR 0, vI n, vI w, vU, vU] [vR q] σ
    refine x_astore_n (L' := [vR 0, vI n, vI w, vR q, vU]) (dat d_Sb_run 4 rfl) rfl (by decide) rfl rfl ?_
    refine x_aload_n (dat d_Sb_run 5 rfl) rfl rfl ?_
    refine x_ifnonnull (tgt := 16) (dat d_Sb_run 6 rfl) (by decide) ?_
    refine x_aload_n (dat d_Sb_run 9 rfl) rfl rfl ?_
    refine x_aload_n (dat d_Sb_run 10 rfl) rfl rfl ?_
    refine x_inv (As := [vR q]) (dat d_Sb_run 11 rfl) rfl c_Sb_runOf l_Sb_217 (by decide) (rv_sb (by decide +kernel)) rfl rfl (Nat.le_of_ble_eq_true rfl) ?_
    have h6 := hT.2.2.2.2.2.2.1
    have h3 := hT.2.2.2.1
    have hC := cfg_ok hT
    have kk : ∀ (v : Int) (σ' : xS), (∀ o : Nat, o < 138 ∨ 170 < o → σ' o = σ o) → runA (tw a n) w v → K (some (vI v)) σ' := fun v σ' F e => k v σ' (atT.yes n0 n1 e) F
    generalize ht : tw a n = t at hT hR h6 h3 hC kk
    refine sp_Sb_runOf hq hT hR (fun σ1 hp R F => ?_)
    have hcH := cH_eq hC
    have c1 : cS (cfg t) 1 = t 3 := rfl
    have hcn : cH (cfg t) = (t 3).toNat := rfl
    have hR1 : TownR σ1 q t := hR.same (fun b _ _ => F b (by have := tw_cs hq; omega))
    have e3 : σ1 q 3 = t 3 := hR1.1 3 (by decide) (by decide)
    have kk2 : ∀ v : Int, runA t w v → K (some (vI v)) σ1 := fun v e => kk v σ1 (fun o ho => F o (by omega)) e
    show Wx g y_Sb_run Z K 21 [vR 0, vI n, vI w, vR q, vU] [vR 143] σ1
    refine x_astore (L' := [vR 0, vI n, vI w, vR q, vR 143]) (dat d_Sb_run 12 rfl) (by decide) rfl rfl ?_
    refine x_iload_n (dat d_Sb_run 13 rfl) rfl rfl ?_
    by_cases c_24 : w < 0 ∨ 7 < w
    · refine x_tableOut (tgt := 126) (dat d_Sb_run 14 rfl).1 c_24 (by decide) ?_
      refine x_bipush (dat d_Sb_run 43 rfl) (by decide) (by decide) ?_
      refine x_iret (dat d_Sb_run 44 rfl) rfl ?_
      exact kk2 _ (by unfold runA; rw [if_neg (by omega), if_neg (by omega), if_neg (by omega), if_neg (by omega), if_neg (by omega), if_neg (by omega), if_neg (by omega), if_neg (by omega)])
    · have e_24 : w = 0 ∨ w = 1 ∨ w = 2 ∨ w = 3 ∨ w = 4 ∨ w = 5 ∨ w = 6 ∨ w = 7 := by omega
      rcases e_24 with e_24 | e_24 | e_24 | e_24 | e_24 | e_24 | e_24 | e_24
      · refine x_tableIn (tgt := 72) (dat d_Sb_run 14 rfl).1 0 rfl (by omega) (by decide) ?_
        refine x_aload (dat d_Sb_run 15 rfl) rfl ?_
        refine x_inv (As := []) (dat d_Sb_run 16 rfl) rfl c_Ru_starved l_Sb_251 (by decide) (rv_ru (by decide +kernel)) rfl rfl (Nat.le_of_ble_eq_true rfl) ?_
        refine sp_Ru_starved ru_143 hC R (by omega) ?_
        show Wx g y_Sb_run Z K 77 [vR 0, vI n, vI w, vR q, vR 143] [vI (stv (cfg t))] σ1
        refine x_iret (dat d_Sb_run 17 rfl) rfl ?_
        subst e_24
        exact kk2 _ (by unfold runA; rw [if_pos rfl])
      · refine x_tableIn (tgt := 78) (dat d_Sb_run 14 rfl).1 1 rfl (by omega) (by decide) ?_
        refine x_aload (dat d_Sb_run 18 rfl) rfl ?_
        refine x_inv (As := []) (dat d_Sb_run 19 rfl) rfl c_Ru_firstStarving l_Sb_255 (by decide) (rv_ru (by decide +kernel)) rfl rfl (Nat.le_of_ble_eq_true rfl) ?_
        refine sp_Ru_firstStarving ru_143 hC R (fun v hv => ?_)
        show Wx g y_Sb_run Z K 83 [vR 0, vI n, vI w, vR q, vR 143] [vI v] σ1
        refine x_iret (dat d_Sb_run 20 rfl) rfl ?_
        subst e_24
        exact kk2 _ (by unfold runA; rw [if_neg (by decide), if_pos rfl]; exact hv)
      · refine x_tableIn (tgt := 84) (dat d_Sb_run 14 rfl).1 2 rfl (by omega) (by decide) ?_
        refine x_aload (dat d_Sb_run 21 rfl) rfl ?_
        refine x_inv (As := []) (dat d_Sb_run 22 rfl) rfl c_Ru_allShakes l_Sb_258 (by decide) (rv_ru (by decide +kernel)) rfl rfl (Nat.le_of_ble_eq_true rfl) ?_
        refine sp_Ru_allShakes ru_143 hC R ?_
        show Wx g y_Sb_run Z K 89 [vR 0, vI n, vI w, vR q, vR 143] [vI (sumN (fun h => ((hev (cfg t) h).length : Int)) (cH (cfg t)))] σ1
        refine x_iret (dat d_Sb_run 23 rfl) rfl ?_
        subst e_24
        exact kk2 _ (by unfold runA; rw [if_neg (by decide), if_neg (by decide), if_pos rfl, hcn])
      · refine x_tableIn (tgt := 90) (dat d_Sb_run 14 rfl).1 3 rfl (by omega) (by decide) ?_
        refine x_aload (dat d_Sb_run 24 rfl) rfl ?_
        refine x_inv (As := []) (dat d_Sb_run 25 rfl) rfl c_Ru_allEaten l_Sb_261 (by decide) (rv_ru (by decide +kernel)) rfl rfl (Nat.le_of_ble_eq_true rfl) ?_
        refine sp_Ru_allEaten ru_143 hC R ?_
        show Wx g y_Sb_run Z K 95 [vR 0, vI n, vI w, vR q, vR 143] [vI (sumN (eatN (cfg t)) (cH (cfg t)))] σ1
        refine x_iret (dat d_Sb_run 26 rfl) rfl ?_
        subst e_24
        exact kk2 _ (by unfold runA; rw [if_neg (by decide), if_neg (by decide), if_neg (by decide), if_pos rfl, hcn])
      · refine x_tableIn (tgt := 96) (dat d_Sb_run 14 rfl).1 4 rfl (by omega) (by decide) ?_
        refine x_aload (dat d_Sb_run 27 rfl) rfl ?_
        refine x_aload_n (dat d_Sb_run 28 rfl) rfl rfl ?_
        refine x_geti (ji := 3) (v := t 3) (dat d_Sb_run 29 rfl) rfl f_Sb_142 (tw_oi_3 hq) (e3) ?_
        refine x_iconst (dat d_Sb_run 30 rfl) (by decide) ?_
        refine x_isub (v := (((t 3).toNat - 1 : Nat) : Int)) (dat d_Sb_run 31 rfl) (by omega) (by omega) ?_
        refine x_inv (As := [vI (((t 3).toNat - 1 : Nat) : Int)]) (dat d_Sb_run 32 rfl) rfl c_Ru_breadAt l_Sb_248 (by decide) (rv_ru (by decide +kernel)) rfl rfl (Nat.le_of_ble_eq_true rfl) ?_
        refine sp_Ru_breadAt (h := (t 3).toNat - 1) ru_143 hC R (Nat.zero_le _) (by omega) ?_
        show Wx g y_Sb_run Z K 107 [vR 0, vI n, vI w, vR q, vR 143] [vI (brN (cfg t) ((t 3).toNat - 1 + 1))] σ1
        refine x_iret (dat d_Sb_run 33 rfl) rfl ?_
        subst e_24
        exact kk2 _ (by unfold runA; rw [if_neg (by decide), if_neg (by decide), if_neg (by decide), if_neg (by decide), if_pos rfl, show (t 3).toNat - 1 + 1 = (t 3).toNat by omega])
      · refine x_tableIn (tgt := 108) (dat d_Sb_run 14 rfl).1 5 rfl (by omega) (by decide) ?_
        refine x_aload (dat d_Sb_run 34 rfl) rfl ?_
        refine x_inv (As := []) (dat d_Sb_run 35 rfl) rfl c_Ru_richestAtEnd l_Sb_264 (by decide) (rv_ru (by decide +kernel)) rfl rfl (Nat.le_of_ble_eq_true rfl) ?_
        refine sp_Ru_richestAtEnd ru_143 hC R (by omega) ?_
        show Wx g y_Sb_run Z K 113 [vR 0, vI n, vI w, vR q, vR 143] [vI (rchT (cfg t))] σ1
        refine x_iret (dat d_Sb_run 36 rfl) rfl ?_
        subst e_24
        exact kk2 _ (by unfold runA; rw [if_neg (by decide), if_neg (by decide), if_neg (by decide), if_neg (by decide), if_neg (by decide), if_pos rfl])
      · refine x_tableIn (tgt := 114) (dat d_Sb_run 14 rfl).1 6 rfl (by omega) (by decide) ?_
        refine x_aload (dat d_Sb_run 37 rfl) rfl ?_
        refine x_inv (As := []) (dat d_Sb_run 38 rfl) rfl c_Ru_couples l_Sb_267 (by decide) (rv_ru (by decide +kernel)) rfl rfl (Nat.le_of_ble_eq_true rfl) ?_
        refine sp_Ru_couples ru_143 hC R ?_
        show Wx g y_Sb_run Z K 119 [vR 0, vI n, vI w, vR q, vR 143] [vI (cpl2 (cfg t) (cS (cfg t) 0).toNat / 2)] σ1
        refine x_iret (dat d_Sb_run 39 rfl) rfl ?_
        subst e_24
        exact kk2 _ (by unfold runA; rw [if_neg (by decide), if_neg (by decide), if_neg (by decide), if_neg (by decide), if_neg (by decide), if_neg (by decide), if_pos rfl]; rfl)
      · refine x_tableIn (tgt := 120) (dat d_Sb_run 14 rfl).1 7 rfl (by omega) (by decide) ?_
        refine x_aload (dat d_Sb_run 40 rfl) rfl ?_
        refine x_inv (As := []) (dat d_Sb_run 41 rfl) rfl c_Ru_parts l_Sb_270 (by decide) (rv_ru (by decide +kernel)) rfl rfl (Nat.le_of_ble_eq_true rfl) ?_
        refine sp_Ru_parts ru_143 hC R ?_
        show Wx g y_Sb_run Z K 125 [vR 0, vI n, vI w, vR q, vR 143] [vI ((pts (cfg t) (cS (cfg t) 0).toNat).2)] σ1
        refine x_iret (dat d_Sb_run 42 rfl) rfl ?_
        subst e_24
        exact kk2 _ (by unfold runA; rw [if_neg (by decide), if_neg (by decide), if_neg (by decide), if_neg (by decide), if_neg (by decide), if_neg (by decide), if_neg (by decide), if_pos rfl]; rfl)
def fateA (t : Int → Int) (p w r : Int) : Prop := if ¬ (0 ≤ p ∧ p < t 6) then r = -2 else if w = 0 then FirstH (fun h => (rst (cfg t) (h + 1)).2 p = false) (t 3).toNat r else if w = 1 then r = sumN (shN (cfg t) p) (t 3).toNat else if w = 2 then r = sumN (eatP (cfg t) p) (t 3).toNat else if w = 3 then r = (rst (cfg t) (amx (fun h => (rst (cfg t) (h + 1)).1 p) ((t 3).toNat - 1) + 1)).1 p else if w = 4 then r = (amx (fun h => (rst (cfg t) (h + 1)).1 p) ((t 3).toNat - 1) : Nat) else r = -2
theorem sp_Sb_fate {g : xG} {K : Option MV → xS → Prop} {σ : xS} {a : Int → Int} {im : Nat → Int → Int} {n p w : Int} (H : SbR σ a im) (k : ∀ (r : Int) (σ' : xS), atT a n (-2) (fun t r => fateA t p w r) r → (∀ o : Nat, o < 138 ∨ 170 < o → σ' o = σ o) → K (some (vI r)) σ') : Mt g y_Sb_fate [vR 0, vI n, vI p, vI w] σ K := by
  have amb : ∀ (f : Nat → Int) (m : Nat), amx f m ≤ m := fun f m => by
    induction m with
    | zero => exact Nat.le_refl 0
    | succ m ih =>
      simp only [amx]
      split <;> omega
  refine x_enter 2 rfl rfl rfl (fun Z => ?_)
  show Wx g y_Sb_fate Z K 0 [vR 0, vI n, vI p, vI w, vU, vU] [] σ
  refine x_aload_n (dat d_Sb_fate 0 rfl) rfl rfl ?_
  refine x_getr (r := 1) (dat d_Sb_fate 1 rfl) rfl f_Sb_10 (or_mk (by decide +kernel)) ?_
  refine x_iload_n (dat d_Sb_fate 2 rfl) rfl rfl ?_
  refine x_inv (As := [vI n]) (dat d_Sb_fate 3 rfl) rfl c_To_townAt l_Sb_127 (by decide) (rv_to (by decide +kernel)) rfl rfl (Nat.le_of_ble_eq_true rfl) ?_
  refine sp_townAt H.1 (fun c => ?_) (fun q n0 n1 hq q30 hT hR => ?_)
  · show Wx g y_Sb_fate Z K 8 [vR 0, vI n, vI p, vI w, vU, vU] [vN] σ
    refine x_astoreN (L' := [vR 0, vI n, vI p, vI w, vN, vU]) (dat d_Sb_fate 4 rfl) (by decide) rfl rfl ?_
    refine x_aloadN (dat d_Sb_fate 5 rfl) rfl ?_
    refine x_ifnullN (tgt := 24) (dat d_Sb_fate 6 rfl) (by decide) ?_
    refine x_bipush (dat d_Sb_fate 11 rfl) (by decide) (by decide) ?_
    refine x_iret (dat d_Sb_fate 12 rfl) rfl ?_
    first
    | (refine kk _ σ (fun _ _ => rfl) ?_
       unfold fateA
       rw [if_pos cc])
    | exact k _ σ (atT.no c) (fun _ _ => rfl)
  · show Wx g y_Sb_fate Z K 8 [vR 0, vI n, vI p, vI w, vU, vU] [vR q] σ
    refine x_astore (L' := [vR 0, vI n, vI p, vI w, vR q, vU]) (dat d_Sb_fate 4 rfl) (by decide) rfl rfl ?_
    refine x_aload (dat d_Sb_fate 5 rfl) rfl ?_
    refine x_ifnull (dat d_Sb_fate 6 rfl) ?_
    refine x_aload (dat d_Sb_fate 7 rfl) rfl ?_
    refine x_iload_n (dat d_Sb_fate 8 rfl) rfl rfl ?_
    refine x_inv (As := [vI p]) (dat d_Sb_fate 9 rfl) rfl c_Tw_hasPerson l_Sb_168 (by decide) (rv_tw (tw_k hq)) rfl rfl (Nat.le_of_ble_eq_true rfl) ?_
    have h6 := hT.2.2.2.2.2.2.1
    have h3 := hT.2.2.2.1
    have hC := cfg_ok hT
    have kk : ∀ (v : Int) (σ' : xS), (∀ o : Nat, o < 138 ∨ 170 < o → σ' o = σ o) → fateA (tw a n) p w v → K (some (vI v)) σ' := fun v σ' F e => k v σ' (atT.yes n0 n1 e) F
    generalize ht : tw a n = t at hT hR h6 h3 hC kk
    refine sp_Tw_hasPerson hq hT hR (fun p0 p1 => ?_) (fun cc => ?_)
    · show Wx g y_Sb_fate Z K 21 [vR 0, vI n, vI p, vI w, vR q, vU] [vI 1] σ
      refine x_if_ne (tgt := 27) (dat d_Sb_fate 10 rfl) (by decide) (fun c_21 => ?_) (fun h => absurd h (by decide))
      refine x_aload_n (dat d_Sb_fate 13 rfl) rfl rfl ?_
      refine x_aload (dat d_Sb_fate 14 rfl) rfl ?_
      refine x_inv (As := [vR q]) (dat d_Sb_fate 15 rfl) rfl c_Sb_runOf l_Sb_217 (by decide) (rv_sb (by decide +kernel)) rfl rfl (Nat.le_of_ble_eq_true rfl) ?_
      refine sp_Sb_runOf hq hT hR (fun σ1 hp R F => ?_)
      have hcH := cH_eq hC
      have c1 : cS (cfg t) 1 = t 3 := rfl
      have hcn : cH (cfg t) = (t 3).toNat := rfl
      have am := amb (fun h => (rst (cfg t) (h + 1)).1 p) ((t 3).toNat - 1)
      have hh := R.2.2.2.2 (amx (fun h => (rst (cfg t) (h + 1)).1 p) ((t 3).toNat - 1)) (by omega) (by omega)
      have kk2 : ∀ v : Int, fateA t p w v → K (some (vI v)) σ1 := fun v e => kk v σ1 (fun o ho => F o (by omega)) e
      have ua : ∀ v : Int, fateA t p w v = (if w = 0 then FirstH (fun h => (rst (cfg t) (h + 1)).2 p = false) (t 3).toNat v else if w = 1 then v = sumN (shN (cfg t) p) (t 3).toNat else if w = 2 then v = sumN (eatP (cfg t) p) (t 3).toNat else if w = 3 then v = (rst (cfg t) (amx (fun h => (rst (cfg t) (h + 1)).1 p) ((t 3).toNat - 1) + 1)).1 p else if w = 4 then v = (amx (fun h => (rst (cfg t) (h + 1)).1 p) ((t 3).toNat - 1) : Nat) else v = -2) := fun v => if_neg (fun z => z ⟨p0, p1⟩)
      show Wx g y_Sb_fate Z K 33 [vR 0, vI n, vI p, vI w, vR q, vU] [vR 143] σ1
      refine x_astore (L' := [vR 0, vI n, vI p, vI w, vR q, vR 143]) (dat d_Sb_fate 16 rfl) (by decide) rfl rfl ?_
      refine x_iload_n (dat d_Sb_fate 17 rfl) rfl rfl ?_
      by_cases c_36 : w < 0 ∨ 4 < w
      · refine x_tableOut (tgt := 118) (dat d_Sb_fate 18 rfl).1 c_36 (by decide) ?_
        refine x_bipush (dat d_Sb_fate 46 rfl) (by decide) (by decide) ?_
        refine x_iret (dat d_Sb_fate 47 rfl) rfl ?_
        exact kk2 _ (by rw [ua, if_neg (by omega), if_neg (by omega), if_neg (by omega), if_neg (by omega), if_neg (by omega)])
      · have e_36 : w = 0 ∨ w = 1 ∨ w = 2 ∨ w = 3 ∨ w = 4 := by omega
        rcases e_36 with e_36 | e_36 | e_36 | e_36 | e_36
        · refine x_tableIn (tgt := 72) (dat d_Sb_fate 18 rfl).1 0 rfl (by omega) (by decide) ?_
          refine x_aload (dat d_Sb_fate 19 rfl) rfl ?_
          refine x_iload_n (dat d_Sb_fate 20 rfl) rfl rfl ?_
          refine x_inv (As := [vI p]) (dat d_Sb_fate 21 rfl) rfl c_Ru_starvingHour l_Sb_273 (by decide) (rv_ru (by decide +kernel)) rfl rfl (Nat.le_of_ble_eq_true rfl) ?_
          refine sp_Ru_starvingHour ru_143 hC R p0 p1 (fun v hv => ?_)
          show Wx g y_Sb_fate Z K 78 [vR 0, vI n, vI p, vI w, vR q, vR 143] [vI v] σ1
          refine x_iret (dat d_Sb_fate 22 rfl) rfl ?_
          subst e_36
          exact kk2 _ (by rw [ua, if_pos rfl]; exact hv)
        · refine x_tableIn (tgt := 79) (dat d_Sb_fate 18 rfl).1 1 rfl (by omega) (by decide) ?_
          refine x_aload (dat d_Sb_fate 23 rfl) rfl ?_
          refine x_iload_n (dat d_Sb_fate 24 rfl) rfl rfl ?_
          refine x_inv (As := [vI p]) (dat d_Sb_fate 25 rfl) rfl c_Ru_shakesOf l_Sb_276 (by decide) (rv_ru (by decide +kernel)) rfl rfl (Nat.le_of_ble_eq_true rfl) ?_
          refine sp_Ru_shakesOf ru_143 hC R p0 p1 ?_
          show Wx g y_Sb_fate Z K 85 [vR 0, vI n, vI p, vI w, vR q, vR 143] [vI (sumN (shN (cfg t) p) (cH (cfg t)))] σ1
          refine x_iret (dat d_Sb_fate 26 rfl) rfl ?_
          subst e_36
          exact kk2 _ (by rw [ua, if_neg (by decide), if_pos rfl, hcn])
        · refine x_tableIn (tgt := 86) (dat d_Sb_fate 18 rfl).1 2 rfl (by omega) (by decide) ?_
          refine x_aload (dat d_Sb_fate 27 rfl) rfl ?_
          refine x_iload_n (dat d_Sb_fate 28 rfl) rfl rfl ?_
          refine x_inv (As := [vI p]) (dat d_Sb_fate 29 rfl) rfl c_Ru_eatenBy l_Sb_279 (by decide) (rv_ru (by decide +kernel)) rfl rfl (Nat.le_of_ble_eq_true rfl) ?_
          refine sp_Ru_eatenBy ru_143 hC R p0 p1 ?_
          show Wx g y_Sb_fate Z K 92 [vR 0, vI n, vI p, vI w, vR q, vR 143] [vI (sumN (eatP (cfg t) p) (cH (cfg t)))] σ1
          refine x_iret (dat d_Sb_fate 30 rfl) rfl ?_
          subst e_36
          exact kk2 _ (by rw [ua, if_neg (by decide), if_neg (by decide), if_pos rfl, hcn])
        · refine x_tableIn (tgt := 93) (dat d_Sb_fate 18 rfl).1 3 rfl (by omega) (by decide) ?_
          refine x_aload (dat d_Sb_fate 31 rfl) rfl ?_
          refine x_getr (r := 149) (dat d_Sb_fate 32 rfl) rfl f_Sb_224 (or_mk (by decide +kernel)) ?_
          refine x_aload (dat d_Sb_fate 33 rfl) rfl ?_
          refine x_iload_n (dat d_Sb_fate 34 rfl) rfl rfl ?_
          refine x_inv (As := [vI p]) (dat d_Sb_fate 35 rfl) rfl c_Ru_richestHour l_Sb_282 (by decide) (rv_ru (by decide +kernel)) rfl rfl (Nat.le_of_ble_eq_true rfl) ?_
          refine sp_Ru_richestHour ru_143 hC R p0 p1 ?_
          show Wx g y_Sb_fate Z K 104 [vR 0, vI n, vI p, vI w, vR q, vR 143] [vI ((amx (fun h => (rst (cfg t) (h + 1)).1 p) ((t 3).toNat - 1) : Nat) : Int), vR 149] σ1
          refine x_bipush (dat d_Sb_fate 36 rfl) (by decide) (by decide) ?_
          refine x_imul (v := 8 * ((amx (fun h => (rst (cfg t) (h + 1)).1 p) ((t 3).toNat - 1) : Nat) : Int)) (dat d_Sb_fate 37 rfl) (by omega) (by omega) ?_
          refine x_iload_n (dat d_Sb_fate 38 rfl) rfl rfl ?_
          refine x_iadd (v := (8 * ((amx (fun h => (rst (cfg t) (h + 1)).1 p) ((t 3).toNat - 1) : Nat) : Int)) + p) (dat d_Sb_fate 39 rfl) rfl (by omega) ?_
          refine x_iald (n := 192) (v := (rst (cfg t) (amx (fun h => (rst (cfg t) (h + 1)).1 p) ((t 3).toNat - 1) + 1)).1 p) (dat d_Sb_fate 40 rfl) (ai_mk (by decide +kernel)) (by omega) (by omega) (by exact hh.1 p p0 p1) ?_
          refine x_iret (dat d_Sb_fate 41 rfl) rfl ?_
          subst e_36
          exact kk2 _ (by rw [ua, if_neg (by decide), if_neg (by decide), if_neg (by decide), if_pos rfl])
        · refine x_tableIn (tgt := 111) (dat d_Sb_fate 18 rfl).1 4 rfl (by omega) (by decide) ?_
          refine x_aload (dat d_Sb_fate 42 rfl) rfl ?_
          refine x_iload_n (dat d_Sb_fate 43 rfl) rfl rfl ?_
          refine x_inv (As := [vI p]) (dat d_Sb_fate 44 rfl) rfl c_Ru_richestHour l_Sb_282 (by decide) (rv_ru (by decide +kernel)) rfl rfl (Nat.le_of_ble_eq_true rfl) ?_
          refine sp_Ru_richestHour ru_143 hC R p0 p1 ?_
          show Wx g y_Sb_fate Z K 117 [vR 0, vI n, vI p, vI w, vR q, vR 143] [vI ((amx (fun h => (rst (cfg t) (h + 1)).1 p) ((t 3).toNat - 1) : Nat) : Int)] σ1
          refine x_iret (dat d_Sb_fate 45 rfl) rfl ?_
          subst e_36
          exact kk2 _ (by rw [ua, if_neg (by decide), if_neg (by decide), if_neg (by decide), if_neg (by decide), if_pos rfl])
    · show Wx g y_Sb_fate Z K 21 [vR 0, vI n, vI p, vI w, vR q, vU] [vI 0] σ
      refine x_if_ne (tgt := 27) (dat d_Sb_fate 10 rfl) (by decide) (fun h => absurd h (by decide)) (fun c_21 => ?_)
      refine x_bipush (dat d_Sb_fate 11 rfl) (by decide) (by decide) ?_
      refine x_iret (dat d_Sb_fate 12 rfl) rfl ?_
      first
      | (refine kk _ σ (fun _ _ => rfl) ?_
         unfold fateA
         rw [if_pos cc])
      | exact k _ σ (atT.no c) (fun _ _ => rfl)
