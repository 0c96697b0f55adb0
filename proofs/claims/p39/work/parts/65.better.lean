/-! the class's calls: what would be better -/
def glvA (t : Int → Int) (r : Int) : Prop := r = fewB (glF t) (2 ^ (t 6).toNat)
theorem sp_Sb_gloves {g : xG} {K : Option MV → xS → Prop} {σ : xS} {a : Int → Int} {im : Nat → Int → Int} {n  : Int} (H : SbR σ a im) (k : ∀ (r : Int) (σ' : xS), atT a n (-1) (fun t r => glvA t r) r → (∀ o : Nat, o < 138 ∨ 170 < o → σ' o = σ o) → K (some (vI r)) σ') : Mt g y_Sb_gloves [vR 0, vI n] σ K := by
  refine x_enter 1 rfl rfl rfl (fun Z => ?_)
  show Wx g y_Sb_gloves Z K 0 [vR 0, vI n, vU] [] σ
  refine x_aload_n (dat d_Sb_gloves 0 rfl) rfl rfl ?_
  refine x_getr (r := 1) (dat d_Sb_gloves 1 rfl) rfl f_Sb_10 (or_mk (by decide +kernel)) ?_
  refine x_iload_n (dat d_Sb_gloves 2 rfl) rfl rfl ?_
  refine x_inv (As := [vI n]) (dat d_Sb_gloves 3 rfl) rfl c_To_townAt l_Sb_127 (by decide) (rv_to (by decide +kernel)) rfl rfl (Nat.le_of_ble_eq_true rfl) ?_
  refine sp_townAt H.1 (fun c => ?_) (fun q n0 n1 hq q30 hT hR => ?_)
  · show Wx g y_Sb_gloves Z K 8 [vR 0, vI n, vU] [vN] σ
    refine x_astore_nN (L' := [vR 0, vI n, vN]) (dat d_Sb_gloves 4 rfl) rfl (by decide) rfl rfl ?_
    refine x_aload_nN (dat d_Sb_gloves 5 rfl) rfl rfl ?_
    refine x_ifnonnullN (dat d_Sb_gloves 6 rfl) ?_
    refine x_iconst (dat d_Sb_gloves 7 rfl) (by decide) ?_
    refine x_goto (tgt := 25) (dat d_Sb_gloves 8 rfl) (by decide) ?_
    refine x_iret (dat d_Sb_gloves 13 rfl) rfl ?_
    first
    | exact k _ σ (atT.no c) (fun _ _ => rfl)
    | exact kk _ σ1 F rfl
  · show Wx g y_Sb_gloves Z K 8 [vR 0, vI n, vU] [vR q] σ
    refine x_astore_n (L' := [vR 0, vI n, vR q]) (dat d_Sb_gloves 4 rfl) rfl (by decide) rfl rfl ?_
    refine x_aload_n (dat d_Sb_gloves 5 rfl) rfl rfl ?_
    refine x_ifnonnull (tgt := 17) (dat d_Sb_gloves 6 rfl) (by decide) ?_
    skip
    refine x_aload_n (dat d_Sb_gloves 9 rfl) rfl rfl ?_
    refine x_getr (r := 169) (dat d_Sb_gloves 10 rfl) rfl f_Sb_53 (or_mk (by decide +kernel)) ?_
    refine x_aload_n (dat d_Sb_gloves 11 rfl) rfl rfl ?_
    refine x_inv (As := [vR q]) (dat d_Sb_gloves 12 rfl) rfl c_Tr_fewestGloves l_Sb_285 (by decide) (rv_tr (by decide +kernel)) rfl rfl (Nat.le_of_ble_eq_true rfl) ?_
    have hdum : True := trivial
    have h6 := hT.2.2.2.2.2.2.1
    have h3 := hT.2.2.2.1
    have hC := cfg_ok hT
    have kk : ∀ (v : Int) (σ' : xS), (∀ o : Nat, o < 138 ∨ 170 < o → σ' o = σ o) → glvA (tw a n) v → K (some (vI v)) σ' := fun v σ' F e => k v σ' (atT.yes n0 n1 e) F
    generalize ht : tw a n = t at hT hR h6 h3 hC kk
    refine sp_Tr_fewestGloves hq hT hR (fun σ1 F => ?_)
    show Wx g y_Sb_gloves Z K 25 [vR 0, vI n, vR q] [vI (fewB (glF t) (2 ^ (t 6).toNat))] σ1
    refine x_iret (dat d_Sb_gloves 13 rfl) rfl ?_
    first
    | exact k _ σ (atT.no c) (fun _ _ => rfl)
    | exact kk _ σ1 F rfl
def peaA (t : Int → Int) (r : Int) : Prop := r = fewB (qrF t) (2 ^ (t 7).toNat)
theorem sp_Sb_peace {g : xG} {K : Option MV → xS → Prop} {σ : xS} {a : Int → Int} {im : Nat → Int → Int} {n  : Int} (H : SbR σ a im) (k : ∀ (r : Int) (σ' : xS), atT a n (-1) (fun t r => peaA t r) r → (∀ o : Nat, o < 138 ∨ 170 < o → σ' o = σ o) → K (some (vI r)) σ') : Mt g y_Sb_peace [vR 0, vI n] σ K := by
  refine x_enter 1 rfl rfl rfl (fun Z => ?_)
  show Wx g y_Sb_peace Z K 0 [vR 0, vI n, vU] [] σ
  refine x_aload_n (dat d_Sb_peace 0 rfl) rfl rfl ?_
  refine x_getr (r := 1) (dat d_Sb_peace 1 rfl) rfl f_Sb_10 (or_mk (by decide +kernel)) ?_
  refine x_iload_n (dat d_Sb_peace 2 rfl) rfl rfl ?_
  refine x_inv (As := [vI n]) (dat d_Sb_peace 3 rfl) rfl c_To_townAt l_Sb_127 (by decide) (rv_to (by decide +kernel)) rfl rfl (Nat.le_of_ble_eq_true rfl) ?_
  refine sp_townAt H.1 (fun c => ?_) (fun q n0 n1 hq q30 hT hR => ?_)
  · show Wx g y_Sb_peace Z K 8 [vR 0, vI n, vU] [vN] σ
    refine x_astore_nN (L' := [vR 0, vI n, vN]) (dat d_Sb_peace 4 rfl) rfl (by decide) rfl rfl ?_
    refine x_aload_nN (dat d_Sb_peace 5 rfl) rfl rfl ?_
    refine x_ifnonnullN (dat d_Sb_peace 6 rfl) ?_
    refine x_iconst (dat d_Sb_peace 7 rfl) (by decide) ?_
    refine x_goto (tgt := 25) (dat d_Sb_peace 8 rfl) (by decide) ?_
    refine x_iret (dat d_Sb_peace 13 rfl) rfl ?_
    first
    | exact k _ σ (atT.no c) (fun _ _ => rfl)
    | exact kk _ σ1 F rfl
  · show Wx g y_Sb_peace Z K 8 [vR 0, vI n, vU] [vR q] σ
    refine x_astore_n (L' := [vR 0, vI n, vR q]) (dat d_Sb_peace 4 rfl) rfl (by decide) rfl rfl ?_
    refine x_aload_n (dat d_Sb_peace 5 rfl) rfl rfl ?_
    refine x_ifnonnull (tgt := 17) (dat d_Sb_peace 6 rfl) (by decide) ?_
    refine x_aload_n (dat d_Sb_peace 9 rfl) rfl rfl ?_
    refine x_getr (r := 169) (dat d_Sb_peace 10 rfl) rfl f_Sb_53 (or_mk (by decide +kernel)) ?_
    refine x_aload_n (dat d_Sb_peace 11 rfl) rfl rfl ?_
    refine x_inv (As := [vR q]) (dat d_Sb_peace 12 rfl) rfl c_Tr_fewestQuarrels l_Sb_310 (by decide) (rv_tr (by decide +kernel)) rfl rfl (Nat.le_of_ble_eq_true rfl) ?_
    have hdum : True := trivial
    have h6 := hT.2.2.2.2.2.2.1
    have h3 := hT.2.2.2.1
    have hC := cfg_ok hT
    have kk : ∀ (v : Int) (σ' : xS), (∀ o : Nat, o < 138 ∨ 170 < o → σ' o = σ o) → peaA (tw a n) v → K (some (vI v)) σ' := fun v σ' F e => k v σ' (atT.yes n0 n1 e) F
    generalize ht : tw a n = t at hT hR h6 h3 hC kk
    refine sp_Tr_fewestQuarrels hq hT hR (fun σ1 F => ?_)
    show Wx g y_Sb_peace Z K 25 [vR 0, vI n, vR q] [vI (fewB (qrF t) (2 ^ (t 7).toNat))] σ1
    refine x_iret (dat d_Sb_peace 13 rfl) rfl ?_
    first
    | exact k _ σ (atT.no c) (fun _ _ => rfl)
    | exact kk _ σ1 F rfl
def fdsA (t : Int → Int) (b r : Int) : Prop := r = if b = 0 then (scanMin (lawF t) 4).1 else (scanMin (lawF t) 4).2
theorem sp_Sb_feeds {g : xG} {K : Option MV → xS → Prop} {σ : xS} {a : Int → Int} {im : Nat → Int → Int} {n b : Int} (H : SbR σ a im) (k : ∀ (r : Int) (σ' : xS), atT a n (-1) (fun t r => fdsA t b r) r → (∀ o : Nat, o < 138 ∨ 170 < o → σ' o = σ o) → K (some (vI r)) σ') : Mt g y_Sb_feeds [vR 0, vI n, vI b] σ K := by
  refine x_enter 1 rfl rfl rfl (fun Z => ?_)
  show Wx g y_Sb_feeds Z K 0 [vR 0, vI n, vI b, vU] [] σ
  refine x_aload_n (dat d_Sb_feeds 0 rfl) rfl rfl ?_
  refine x_getr (r := 1) (dat d_Sb_feeds 1 rfl) rfl f_Sb_10 (or_mk (by decide +kernel)) ?_
  refine x_iload_n (dat d_Sb_feeds 2 rfl) rfl rfl ?_
  refine x_inv (As := [vI n]) (dat d_Sb_feeds 3 rfl) rfl c_To_townAt l_Sb_127 (by decide) (rv_to (by decide +kernel)) rfl rfl (Nat.le_of_ble_eq_true rfl) ?_
  refine sp_townAt H.1 (fun c => ?_) (fun q n0 n1 hq q30 hT hR => ?_)
  · show Wx g y_Sb_feeds Z K 8 [vR 0, vI n, vI b, vU] [vN] σ
    refine x_astore_nN (L' := [vR 0, vI n, vI b, vN]) (dat d_Sb_feeds 4 rfl) rfl (by decide) rfl rfl ?_
    refine x_aload_nN (dat d_Sb_feeds 5 rfl) rfl rfl ?_
    refine x_ifnonnullN (dat d_Sb_feeds 6 rfl) ?_
    refine x_iconst (dat d_Sb_feeds 7 rfl) (by decide) ?_
    refine x_iret (dat d_Sb_feeds 8 rfl) rfl ?_
    exact k _ σ (atT.no c) (fun _ _ => rfl)
  · show Wx g y_Sb_feeds Z K 8 [vR 0, vI n, vI b, vU] [vR q] σ
    refine x_astore_n (L' := [vR 0, vI n, vI b, vR q]) (dat d_Sb_feeds 4 rfl) rfl (by decide) rfl rfl ?_
    refine x_aload_n (dat d_Sb_feeds 5 rfl) rfl rfl ?_
    refine x_ifnonnull (tgt := 15) (dat d_Sb_feeds 6 rfl) (by decide) ?_
    refine x_aload_n (dat d_Sb_feeds 9 rfl) rfl rfl ?_
    refine x_getr (r := 169) (dat d_Sb_feeds 10 rfl) rfl f_Sb_53 (or_mk (by decide +kernel)) ?_
    refine x_aload_n (dat d_Sb_feeds 11 rfl) rfl rfl ?_
    refine x_inv (As := [vR q]) (dat d_Sb_feeds 12 rfl) rfl c_Tr_findLaw l_Sb_307 (by decide) (rv_tr (by decide +kernel)) rfl rfl (Nat.le_of_ble_eq_true rfl) ?_
    have hdum : True := trivial
    have h6 := hT.2.2.2.2.2.2.1
    have h3 := hT.2.2.2.1
    have hC := cfg_ok hT
    have kk : ∀ (v : Int) (σ' : xS), (∀ o : Nat, o < 138 ∨ 170 < o → σ' o = σ o) → fdsA (tw a n) b v → K (some (vI v)) σ' := fun v σ' F e => k v σ' (atT.yes n0 n1 e) F
    generalize ht : tw a n = t at hT hR h6 h3 hC kk
    refine sp_Tr_findLaw hq hT hR (fun σ1 f0 f1 F => ?_)
    show Wx g y_Sb_feeds Z K 23 [vR 0, vI n, vI b, vR q] [] σ1
    refine x_iload_n (dat d_Sb_feeds 13 rfl) rfl rfl ?_
    refine x_if_eq (tgt := 39) (dat d_Sb_feeds 14 rfl) (by decide) (fun c_24 => ?_) (fun c_24 => ?_)
    · refine x_aload_n (dat d_Sb_feeds 21 rfl) rfl rfl ?_
      refine x_getr (r := 169) (dat d_Sb_feeds 22 rfl) rfl f_Sb_53 (or_mk (by decide +kernel)) ?_
      refine x_getr (r := 170) (dat d_Sb_feeds 23 rfl) rfl f_Sb_293 (or_mk (by decide +kernel)) ?_
      refine x_iconst (dat d_Sb_feeds 24 rfl) (by decide) ?_
      refine x_iald (n := 4) (v := σ1 170 0) (dat d_Sb_feeds 25 rfl) (ai_mk (by decide +kernel)) (by omega) (by omega) rfl ?_
      refine x_iret (dat d_Sb_feeds 26 rfl) rfl ?_
      refine kk _ σ1 F ?_
      unfold fdsA
      first
      | (rw [if_neg (by omega)]; exact f1)
      | (rw [if_pos (by omega)]; exact f0)
    · refine x_aload_n (dat d_Sb_feeds 15 rfl) rfl rfl ?_
      refine x_getr (r := 169) (dat d_Sb_feeds 16 rfl) rfl f_Sb_53 (or_mk (by decide +kernel)) ?_
      refine x_getr (r := 170) (dat d_Sb_feeds 17 rfl) rfl f_Sb_293 (or_mk (by decide +kernel)) ?_
      refine x_iconst (dat d_Sb_feeds 18 rfl) (by decide) ?_
      refine x_iald (n := 4) (v := σ1 170 1) (dat d_Sb_feeds 19 rfl) (ai_mk (by decide +kernel)) (by omega) (by omega) rfl ?_
      refine x_goto (tgt := 48) (dat d_Sb_feeds 20 rfl) (by decide) ?_
      refine x_iret (dat d_Sb_feeds 26 rfl) rfl ?_
      refine kk _ σ1 F ?_
      unfold fdsA
      first
      | (rw [if_neg (by omega)]; exact f1)
      | (rw [if_pos (by omega)]; exact f0)
def wddA (t : Int → Int) (b r : Int) : Prop := r = if b = 0 then (scanMin (wedF t) (t 3).toNat).1 else (scanMin (wedF t) (t 3).toNat).2
def orrA (t : Int → Int) (w r : Int) : Prop := if ¬ (0 ≤ w ∧ w ≤ 3) ∨ (ordN (ordF t) (stv (cfg t)) ((t 3).toNat * (t 6).toNat * (t 0 * t 1).toNat)).1 = -1 then r = -1 else if w = 0 then r = (ordN (ordF t) (stv (cfg t)) ((t 3).toNat * (t 6).toNat * (t 0 * t 1).toNat)).1 / (t 0 * t 1) / t 6 else if w = 1 then r = (ordN (ordF t) (stv (cfg t)) ((t 3).toNat * (t 6).toNat * (t 0 * t 1).toNat)).1 / (t 0 * t 1) % t 6 else if w = 2 then r = (ordN (ordF t) (stv (cfg t)) ((t 3).toNat * (t 6).toNat * (t 0 * t 1).toNat)).1 % (t 0 * t 1) else r = (ordN (ordF t) (stv (cfg t)) ((t 3).toNat * (t 6).toNat * (t 0 * t 1).toNat)).2
theorem sp_Sb_order {g : xG} {K : Option MV → xS → Prop} {σ : xS} {a : Int → Int} {im : Nat → Int → Int} {n w : Int} (H : SbR σ a im) (k : ∀ (r : Int) (σ' : xS), atT a n (-1) (fun t r => orrA t w r) r → (∀ o : Nat, o < 138 ∨ 170 < o → σ' o = σ o) → K (some (vI r)) σ') : Mt g y_Sb_order [vR 0, vI n, vI w] σ K := by
  refine x_enter 1 rfl rfl rfl (fun Z => ?_)
  show Wx g y_Sb_order Z K 0 [vR 0, vI n, vI w, vU] [] σ
  refine x_aload_n (dat d_Sb_order 0 rfl) rfl rfl ?_
  refine x_getr (r := 1) (dat d_Sb_order 1 rfl) rfl f_Sb_10 (or_mk (by decide +kernel)) ?_
  refine x_iload_n (dat d_Sb_order 2 rfl) rfl rfl ?_
  refine x_inv (As := [vI n]) (dat d_Sb_order 3 rfl) rfl c_To_townAt l_Sb_127 (by decide) (rv_to (by decide +kernel)) rfl rfl (Nat.le_of_ble_eq_true rfl) ?_
  refine sp_townAt H.1 (fun c => ?_) (fun q n0 n1 hq q30 hT hR => ?_)
  · show Wx g y_Sb_order Z K 8 [vR 0, vI n, vI w, vU] [vN] σ
    refine x_astore_nN (L' := [vR 0, vI n, vI w, vN]) (dat d_Sb_order 4 rfl) rfl (by decide) rfl rfl ?_
    refine x_aload_nN (dat d_Sb_order 5 rfl) rfl rfl ?_
    refine x_ifnullN (tgt := 33) (dat d_Sb_order 6 rfl) (by decide) ?_
    refine x_iconst (dat d_Sb_order 17 rfl) (by decide) ?_
    refine x_iret (dat d_Sb_order 18 rfl) rfl ?_
    first
    | exact no (Or.inl (by omega))
    | exact kk _ σ1 F (by unfold orrA; rw [hR2, if_pos (Or.inr (c_30x.mp (by omega)))])
    | exact k _ σ (atT.no c) (fun _ _ => rfl)
  · show Wx g y_Sb_order Z K 8 [vR 0, vI n, vI w, vU] [vR q] σ
    refine x_astore_n (L' := [vR 0, vI n, vI w, vR q]) (dat d_Sb_order 4 rfl) rfl (by decide) rfl rfl ?_
    refine x_aload_n (dat d_Sb_order 5 rfl) rfl rfl ?_
    refine x_ifnull (dat d_Sb_order 6 rfl) ?_
    refine x_iload_n (dat d_Sb_order 7 rfl) rfl rfl ?_
    have hdum : True := trivial
    have h6 := hT.2.2.2.2.2.2.1
    have h3 := hT.2.2.2.1
    have hC := cfg_ok hT
    have kk : ∀ (v : Int) (σ' : xS), (∀ o : Nat, o < 138 ∨ 170 < o → σ' o = σ o) → orrA (tw a n) w v → K (some (vI v)) σ' := fun v σ' F e => k v σ' (atT.yes n0 n1 e) F
    generalize ht : tw a n = t at hT hR h6 h3 hC kk
    have cb := cells_bd hT
    have no : (¬ (0 ≤ w ∧ w ≤ 3) ∨ (ordN (ordF t) (stv (cfg t)) ((t 3).toNat * (t 6).toNat * (t 0 * t 1).toNat)).1 = -1) → K (some (vI (-1))) σ := fun z => kk _ σ (fun _ _ => rfl) (by unfold orrA; rw [if_pos z])
    refine x_if_lt (tgt := 33) (dat d_Sb_order 8 rfl) (by decide) (fun c_14 => ?_) (fun c_14 => ?_)
    · refine x_iconst (dat d_Sb_order 17 rfl) (by decide) ?_
      refine x_iret (dat d_Sb_order 18 rfl) rfl ?_
      first
      | exact no (Or.inl (by omega))
      | exact kk _ σ1 F (by unfold orrA; rw [hR2, if_pos (Or.inr (c_30x.mp (by omega)))])
      | exact k _ σ (atT.no c) (fun _ _ => rfl)
    · refine x_iload_n (dat d_Sb_order 9 rfl) rfl rfl ?_
      refine x_iconst (dat d_Sb_order 10 rfl) (by decide) ?_
      refine x_icmp_gt (tgt := 33) (dat d_Sb_order 11 rfl) (by decide) (fun c_19 => ?_) (fun c_19 => ?_)
      · refine x_iconst (dat d_Sb_order 17 rfl) (by decide) ?_
        refine x_iret (dat d_Sb_order 18 rfl) rfl ?_
        first
        | exact no (Or.inl (by omega))
        | exact kk _ σ1 F (by unfold orrA; rw [hR2, if_pos (Or.inr (c_30x.mp (by omega)))])
        | exact k _ σ (atT.no c) (fun _ _ => rfl)
      · refine x_aload_n (dat d_Sb_order 12 rfl) rfl rfl ?_
        refine x_getr (r := 169) (dat d_Sb_order 13 rfl) rfl f_Sb_53 (or_mk (by decide +kernel)) ?_
        refine x_aload_n (dat d_Sb_order 14 rfl) rfl rfl ?_
        refine x_inv (As := [vR q]) (dat d_Sb_order 15 rfl) rfl c_Tr_findOrder l_Sb_289 (by decide) (rv_tr (by decide +kernel)) rfl rfl (Nat.le_of_ble_eq_true rfl) ?_
        refine sp_Tr_findOrder (H := (t 3).toNat) (P := (t 6).toNat) (M := (t 0 * t 1).toNat) hq hT hR (by omega) (by omega) (by omega) (fun σ1 hO F => ?_)
        obtain ⟨o0, o1, o3⟩ := hO
        generalize hR2 : (ordN (ordF t) (stv (cfg t)) ((t 3).toNat * (t 6).toNat * (t 0 * t 1).toNat)) = R at o0 o1 o3 ⊢
        generalize hx : (if R.1 = -1 then (0 : Int) else 1) = x
        show Wx g y_Sb_order Z K 30 [vR 0, vI n, vI w, vR q] [vI x] σ1
        have c_30x : x = 0 ↔ R.1 = -1 := by rw [← hx]; exact ⟨fun z => by by_cases e : R.1 = -1; exact e; rw [if_neg e] at z; exact absurd z (by decide), fun e => if_pos e⟩
        refine x_if_ne (tgt := 35) (dat d_Sb_order 16 rfl) (by decide) (fun c_30 => ?_) (fun c_30 => ?_)
        · refine x_aload_n (dat d_Sb_order 19 rfl) rfl rfl ?_
          refine x_getr (r := 169) (dat d_Sb_order 20 rfl) rfl f_Sb_53 (or_mk (by decide +kernel)) ?_
          refine x_getr (r := 170) (dat d_Sb_order 21 rfl) rfl f_Sb_293 (or_mk (by decide +kernel)) ?_
          refine x_iload_n (dat d_Sb_order 22 rfl) rfl rfl ?_
          have hr : R.1 ≠ -1 := fun z => by have := c_30x.mpr z; omega
          rw [if_neg hr] at o0
          have o1 := o1 hr
          refine x_iald (n := 4) (v := σ1 170 w) (dat d_Sb_order 23 rfl) (ai_mk (by decide +kernel)) (by omega) (by omega) rfl ?_
          refine x_iret (dat d_Sb_order 24 rfl) rfl ?_
          refine kk _ σ1 F ?_
          unfold orrA
          rw [hR2, if_neg (fun z => z.elim (fun z => z ⟨by omega, by omega⟩) hr)]
          rcases (show ((w = 0 ∨ w = 1) ∨ w = 2) ∨ w = 3 by omega) with ((e | e) | e) | e
          · subst e; rw [if_pos rfl]; exact o0
          · subst e; rw [if_neg (by decide), if_pos rfl]; exact o1.1
          · subst e; rw [if_neg (by decide), if_neg (by decide), if_pos rfl]; exact o1.2
          · subst e; rw [if_neg (by decide), if_neg (by decide), if_neg (by decide)]; exact o3
        · refine x_iconst (dat d_Sb_order 17 rfl) (by decide) ?_
          refine x_iret (dat d_Sb_order 18 rfl) rfl ?_
          first
          | exact no (Or.inl (by omega))
          | exact kk _ σ1 F (by unfold orrA; rw [hR2, if_pos (Or.inr (c_30x.mp (by omega)))])
          | exact k _ σ (atT.no c) (fun _ _ => rfl)
theorem mxN_ge (f : Nat → Int) : ∀ (N j : Nat), j < N → f j ≤ (mxN f N).2
  | 0, j, h => absurd h (Nat.not_lt_zero _)
  | N + 1, j, h => by
    have ih := mxN_ge f N
    simp only [mxN]
    by_cases z : (mxN f N).2 < f N
    · rw [if_pos z]
      by_cases e : j = N
      · subst e; exact Int.le_refl _
      · have := ih j (by omega)
        show f j ≤ f N
        omega
    · rw [if_neg z]
      by_cases e : j = N
      · subst e; omega
      · exact ih j (by omega)
theorem mxN_nn (f : Nat → Int) : ∀ N : Nat, -1 < (mxN f N).2 → 0 ≤ (mxN f N).1
  | 0, h => by simp [mxN] at h
  | N + 1, h => by
    simp only [mxN] at h ⊢
    by_cases z : (mxN f N).2 < f N
    · rw [if_pos z]
      show (0 : Int) ≤ (N : Int)
      omega
    · rw [if_neg z] at h ⊢
      exact mxN_nn f N h
theorem pow5 : ∀ m : Nat, m < 5 → ∀ i : Nat, i < m → (((5 ^ m - 1 : Nat) : Int) / ((5 ^ (m - 1 - i) : Nat) : Int)) % 5 = 4 := by decide +kernel
/-- who stays where he is walks, too -/
theorem wlk_stay {t : Int → Int} {m : Nat} (hm : m ≤ 4) {c0 : Int} (h0 : 0 ≤ c0) : ∀ k : Nat, k ≤ m → wlk t ((5 ^ m - 1 : Nat) : Int) m c0 k = c0
  | 0, _ => rfl
  | k + 1, h => by
    have ih := wlk_stay (t := t) hm h0 k (by omega)
    simp only [wlk]
    rw [ih, if_neg (by omega), show ((m : Int) - 1 - (k : Int)).toNat = m - 1 - k by omega, pow5 m (by omega) k (by omega)]
    rfl
theorem wkF_nn {t : Int → Int} (hT : TownOk t) {p : Int} {h m : Nat} (p0 : 0 ≤ p) (p1 : p < t 6) (hm0 : 1 ≤ m) (hm : m ≤ 4) : 0 ≤ (mxN (wkF t p h m) (5 ^ m)).1 := by
  have w0 := wlk0_in hT p0 p1 h
  have hC : CfOk (walC t p h m ((5 ^ m - 1 : Nat) : Int)) := (cfg_ok hT).whr _
  have h5 : 1 ≤ 5 ^ m := by rcases (show ((m = 1 ∨ m = 2) ∨ m = 3) ∨ m = 4 by omega) with ((e | e) | e) | e <;> subst e <;> decide
  have e1 : 0 ≤ wkF t p h m (5 ^ m - 1) := by
    unfold wkF
    rw [wlk_stay hm w0.1 m (Nat.le_refl m), if_neg (by omega)]
    exact (rst_bd hC _ p0 p1).1
  have e2 := mxN_ge (wkF t p h m) (5 ^ m) (5 ^ m - 1) (by omega)
  exact mxN_nn _ _ (by omega)
def wlkA (t : Int → Int) (p h m w r : Int) : Prop := if ¬ (((0 ≤ p ∧ p < t 6) ∧ (0 ≤ h ∧ h < t 3)) ∧ ((1 ≤ m ∧ m ≤ 4) ∧ h + m ≤ t 3) ∧ (w = 0 ∨ 10 ≤ w ∧ w < 10 + m)) then r = -1 else if w = 0 then r = (mxN (wkF t p h.toNat m.toNat) (5 ^ m.toNat)).2 else r = (mxN (wkF t p h.toNat m.toNat) (5 ^ m.toNat)).1 / ((5 ^ (m - 1 - (w - 10)).toNat : Nat) : Int) % 5
def aidA (t : Int → Int) (p r : Int) : Prop := if ¬ (0 ≤ p ∧ p < t 6) then r = -1 else FirstH (fun n => stv (mLoaf (cfg t) p 0 n) = 0) 31 r
theorem sp_Sb_aid {g : xG} {K : Option MV → xS → Prop} {σ : xS} {a : Int → Int} {im : Nat → Int → Int} {n p : Int} (H : SbR σ a im) (k : ∀ (r : Int) (σ' : xS), atT a n (-1) (fun t r => aidA t p r) r → (∀ o : Nat, o < 138 ∨ 170 < o → σ' o = σ o) → K (some (vI r)) σ') : Mt g y_Sb_aid [vR 0, vI n, vI p] σ K := by
  refine x_enter 1 rfl rfl rfl (fun Z => ?_)
  show Wx g y_Sb_aid Z K 0 [vR 0, vI n, vI p, vU] [] σ
  refine x_aload_n (dat d_Sb_aid 0 rfl) rfl rfl ?_
  refine x_getr (r := 1) (dat d_Sb_aid 1 rfl) rfl f_Sb_10 (or_mk (by decide +kernel)) ?_
  refine x_iload_n (dat d_Sb_aid 2 rfl) rfl rfl ?_
  refine x_inv (As := [vI n]) (dat d_Sb_aid 3 rfl) rfl c_To_townAt l_Sb_127 (by decide) (rv_to (by decide +kernel)) rfl rfl (Nat.le_of_ble_eq_true rfl) ?_
  refine sp_townAt H.1 (fun c => ?_) (fun q n0 n1 hq q30 hT hR => ?_)
  · show Wx g y_Sb_aid Z K 8 [vR 0, vI n, vI p, vU] [vN] σ
    refine x_astore_nN (L' := [vR 0, vI n, vI p, vN]) (dat d_Sb_aid 4 rfl) rfl (by decide) rfl rfl ?_
    refine x_aload_nN (dat d_Sb_aid 5 rfl) rfl rfl ?_
    refine x_ifnullN (tgt := 21) (dat d_Sb_aid 6 rfl) (by decide) ?_
    refine x_iconst (dat d_Sb_aid 11 rfl) (by decide) ?_
    refine x_goto (tgt := 34) (dat d_Sb_aid 12 rfl) (by decide) ?_
    refine x_iret (dat d_Sb_aid 18 rfl) rfl ?_
    first
    | exact kk _ σ1 F (by unfold aidA; rw [if_neg (fun z => z ⟨p0, p1⟩)]; exact hv)
    | exact kk _ σ (fun _ _ => rfl) (by unfold aidA; rw [if_pos cc])
    | exact k _ σ (atT.no c) (fun _ _ => rfl)
  · show Wx g y_Sb_aid Z K 8 [vR 0, vI n, vI p, vU] [vR q] σ
    refine x_astore_n (L' := [vR 0, vI n, vI p, vR q]) (dat d_Sb_aid 4 rfl) rfl (by decide) rfl rfl ?_
    refine x_aload_n (dat d_Sb_aid 5 rfl) rfl rfl ?_
    refine x_ifnull (dat d_Sb_aid 6 rfl) ?_
    refine x_aload_n (dat d_Sb_aid 7 rfl) rfl rfl ?_
    refine x_iload_n (dat d_Sb_aid 8 rfl) rfl rfl ?_
    refine x_inv (As := [vI p]) (dat d_Sb_aid 9 rfl) rfl c_Tw_hasPerson l_Sb_168 (by decide) (rv_tw (tw_k hq)) rfl rfl (Nat.le_of_ble_eq_true rfl) ?_
    have hdum : True := trivial
    have h6 := hT.2.2.2.2.2.2.1
    have h3 := hT.2.2.2.1
    have hC := cfg_ok hT
    have kk : ∀ (v : Int) (σ' : xS), (∀ o : Nat, o < 138 ∨ 170 < o → σ' o = σ o) → aidA (tw a n) p v → K (some (vI v)) σ' := fun v σ' F e => k v σ' (atT.yes n0 n1 e) F
    generalize ht : tw a n = t at hT hR h6 h3 hC kk
    refine sp_Tw_hasPerson hq hT hR (fun p0 p1 => ?_) (fun cc => ?_)
    · show Wx g y_Sb_aid Z K 18 [vR 0, vI n, vI p, vR q] [vI 1] σ
      refine x_if_ne (tgt := 25) (dat d_Sb_aid 10 rfl) (by decide) (fun c_18 => ?_) (fun h => absurd h (by decide))
      refine x_aload_n (dat d_Sb_aid 13 rfl) rfl rfl ?_
      refine x_getr (r := 169) (dat d_Sb_aid 14 rfl) rfl f_Sb_53 (or_mk (by decide +kernel)) ?_
      refine x_aload_n (dat d_Sb_aid 15 rfl) rfl rfl ?_
      refine x_iload_n (dat d_Sb_aid 16 rfl) rfl rfl ?_
      refine x_inv (As := [vR q, vI p]) (dat d_Sb_aid 17 rfl) rfl c_Tr_leastAid l_Sb_399 (by decide) (rv_tr (by decide +kernel)) rfl rfl (Nat.le_of_ble_eq_true rfl) ?_
      refine sp_Tr_leastAid hq hT hR p0 p1 (fun v σ1 hv F => ?_)
      show Wx g y_Sb_aid Z K 34 [vR 0, vI n, vI p, vR q] [vI v] σ1
      refine x_iret (dat d_Sb_aid 18 rfl) rfl ?_
      first
      | exact kk _ σ1 F (by unfold aidA; rw [if_neg (fun z => z ⟨p0, p1⟩)]; exact hv)
      | exact kk _ σ (fun _ _ => rfl) (by unfold aidA; rw [if_pos cc])
      | exact k _ σ (atT.no c) (fun _ _ => rfl)
    · show Wx g y_Sb_aid Z K 18 [vR 0, vI n, vI p, vR q] [vI 0] σ
      refine x_if_ne (tgt := 25) (dat d_Sb_aid 10 rfl) (by decide) (fun h => absurd h (by decide)) (fun c_18 => ?_)
      refine x_iconst (dat d_Sb_aid 11 rfl) (by decide) ?_
      refine x_goto (tgt := 34) (dat d_Sb_aid 12 rfl) (by decide) ?_
      refine x_iret (dat d_Sb_aid 18 rfl) rfl ?_
      first
      | exact kk _ σ1 F (by unfold aidA; rw [if_neg (fun z => z ⟨p0, p1⟩)]; exact hv)
      | exact kk _ σ (fun _ _ => rfl) (by unfold aidA; rw [if_pos cc])
      | exact k _ σ (atT.no c) (fun _ _ => rfl)
def hngA (t : Int → Int) (b r : Int) : Prop := if b = 0 then ∃ v : Int, FirstH (fun n => stv (mS (cfg t) 3 (9 - (n : Int))) = 0) 10 v ∧ r = (if v < 0 then -1 else 9 - v) else ∃ v : Int, FirstH (fun n => stv (mS (cfg t) 4 ((n : Int) + 1)) = 0) 24 v ∧ r = (if v < 0 then -1 else v + 1)
theorem sp_Sb_hunger {g : xG} {K : Option MV → xS → Prop} {σ : xS} {a : Int → Int} {im : Nat → Int → Int} {n b : Int} (H : SbR σ a im) (k : ∀ (r : Int) (σ' : xS), atT a n (-1) (fun t r => hngA t b r) r → (∀ o : Nat, o < 138 ∨ 170 < o → σ' o = σ o) → K (some (vI r)) σ') : Mt g y_Sb_hunger [vR 0, vI n, vI b] σ K := by
  refine x_enter 1 rfl rfl rfl (fun Z => ?_)
  show Wx g y_Sb_hunger Z K 0 [vR 0, vI n, vI b, vU] [] σ
  refine x_aload_n (dat d_Sb_hunger 0 rfl) rfl rfl ?_
  refine x_getr (r := 1) (dat d_Sb_hunger 1 rfl) rfl f_Sb_10 (or_mk (by decide +kernel)) ?_
  refine x_iload_n (dat d_Sb_hunger 2 rfl) rfl rfl ?_
  refine x_inv (As := [vI n]) (dat d_Sb_hunger 3 rfl) rfl c_To_townAt l_Sb_127 (by decide) (rv_to (by decide +kernel)) rfl rfl (Nat.le_of_ble_eq_true rfl) ?_
  refine sp_townAt H.1 (fun c => ?_) (fun q n0 n1 hq q30 hT hR => ?_)
  · show Wx g y_Sb_hunger Z K 8 [vR 0, vI n, vI b, vU] [vN] σ
    refine x_astore_nN (L' := [vR 0, vI n, vI b, vN]) (dat d_Sb_hunger 4 rfl) rfl (by decide) rfl rfl ?_
    refine x_aload_nN (dat d_Sb_hunger 5 rfl) rfl rfl ?_
    refine x_ifnonnullN (dat d_Sb_hunger 6 rfl) ?_
    refine x_iconst (dat d_Sb_hunger 7 rfl) (by decide) ?_
    refine x_iret (dat d_Sb_hunger 8 rfl) rfl ?_
    exact k _ σ (atT.no c) (fun _ _ => rfl)
  · show Wx g y_Sb_hunger Z K 8 [vR 0, vI n, vI b, vU] [vR q] σ
    refine x_astore_n (L' := [vR 0, vI n, vI b, vR q]) (dat d_Sb_hunger 4 rfl) rfl (by decide) rfl rfl ?_
    refine x_aload_n (dat d_Sb_hunger 5 rfl) rfl rfl ?_
    refine x_ifnonnull (tgt := 15) (dat d_Sb_hunger 6 rfl) (by decide) ?_
    refine x_iload_n (dat d_Sb_hunger 9 rfl) rfl rfl ?_
    have hdum : True := trivial
    have h6 := hT.2.2.2.2.2.2.1
    have h3 := hT.2.2.2.1
    have hC := cfg_ok hT
    have kk : ∀ (v : Int) (σ' : xS), (∀ o : Nat, o < 138 ∨ 170 < o → σ' o = σ o) → hngA (tw a n) b v → K (some (vI v)) σ' := fun v σ' F e => k v σ' (atT.yes n0 n1 e) F
    generalize ht : tw a n = t at hT hR h6 h3 hC kk
    refine x_if_eq (tgt := 30) (dat d_Sb_hunger 10 rfl) (by decide) (fun c_16 => ?_) (fun c_16 => ?_)
    · refine x_aload_n (dat d_Sb_hunger 16 rfl) rfl rfl ?_
      refine x_getr (r := 169) (dat d_Sb_hunger 17 rfl) rfl f_Sb_53 (or_mk (by decide +kernel)) ?_
      refine x_aload_n (dat d_Sb_hunger 18 rfl) rfl rfl ?_
      refine x_inv (As := [vR q]) (dat d_Sb_hunger 19 rfl) rfl c_Tr_greatestNeed l_Sb_405 (by decide) (rv_tr (by decide +kernel)) rfl rfl (Nat.le_of_ble_eq_true rfl) ?_
      refine sp_Tr_greatestNeed hq hT hR (fun v σ1 hv F => ?_)
      show Wx g y_Sb_hunger Z K 38 [vR 0, vI n, vI b, vR q] [vI (if v < 0 then -1 else 9 - v)] σ1
      refine x_iret (dat d_Sb_hunger 20 rfl) rfl ?_
      refine kk _ σ1 F ?_
      unfold hngA
      first
      | (rw [if_pos (by omega)]; exact ⟨v, hv, rfl⟩)
      | (rw [if_neg (by omega)]; exact ⟨v, hv, rfl⟩)
    · refine x_aload_n (dat d_Sb_hunger 11 rfl) rfl rfl ?_
      refine x_getr (r := 169) (dat d_Sb_hunger 12 rfl) rfl f_Sb_53 (or_mk (by decide +kernel)) ?_
      refine x_aload_n (dat d_Sb_hunger 13 rfl) rfl rfl ?_
      refine x_inv (As := [vR q]) (dat d_Sb_hunger 14 rfl) rfl c_Tr_leastEvery l_Sb_402 (by decide) (rv_tr (by decide +kernel)) rfl rfl (Nat.le_of_ble_eq_true rfl) ?_
      refine sp_Tr_leastEvery hq hT hR (fun v σ1 hv F => ?_)
      show Wx g y_Sb_hunger Z K 27 [vR 0, vI n, vI b, vR q] [vI (if v < 0 then -1 else v + 1)] σ1
      refine x_goto (tgt := 38) (dat d_Sb_hunger 15 rfl) (by decide) ?_
      refine x_iret (dat d_Sb_hunger 20 rfl) rfl ?_
      refine kk _ σ1 F ?_
      unfold hngA
      first
      | (rw [if_pos (by omega)]; exact ⟨v, hv, rfl⟩)
      | (rw [if_neg (by omega)]; exact ⟨v, hv, rfl⟩)
def swaA (t : Int → Int) (w r : Int) : Prop := if ¬ (0 ≤ w ∧ w ≤ 2) ∨ (ordN (swpF t) (stv (cfg t)) ((t 6).toNat * (t 6).toNat)).1 = -1 then r = -1 else if w = 0 then r = (ordN (swpF t) (stv (cfg t)) ((t 6).toNat * (t 6).toNat)).1 / t 6 else if w = 1 then r = (ordN (swpF t) (stv (cfg t)) ((t 6).toNat * (t 6).toNat)).1 % t 6 else r = (ordN (swpF t) (stv (cfg t)) ((t 6).toNat * (t 6).toNat)).2
def tunA (t : Int → Int) (h m b r : Int) : Prop := if ¬ ((1 ≤ t 6 ∧ (0 ≤ h ∧ h < t 3)) ∧ (1 ≤ m ∧ m ≤ 30)) then r = (if b = 0 then -1 else -1000) else if b = 0 then r = (scanMax (tunF t h.toNat m) (t 6).toNat).1 else r = (scanMax (tunF t h.toNat m) (t 6).toNat).2
def rchA (t : Int → Int) (l r : Int) : Prop := if ¬ (1 ≤ t 6 ∧ (-1 ≤ l ∧ l ≤ 3)) then r = -1 else if l = -1 then r = (scanMin (evF t) 4).1 else r = rchT (mS (cfg t) 2 l)
def msrA (t : Int → Int) (w r : Int) : Prop := if w = 0 then r = (scanTop (misF t) (t 6).toNat).1 else if w = 1 then r = (scanTop (misF t) (t 6).toNat).2 else if w = 2 then Msk 8 r (rdN t 20).1 else if w = 3 then r = (rdN t 20).2 else r = -2
theorem sp_Sb_miser {g : xG} {K : Option MV → xS → Prop} {σ : xS} {a : Int → Int} {im : Nat → Int → Int} {n w : Int} (H : SbR σ a im) (k : ∀ (r : Int) (σ' : xS), atT a n (-2) (fun t r => msrA t w r) r → (∀ o : Nat, o < 138 ∨ 170 < o → σ' o = σ o) → K (some (vI r)) σ') : Mt g y_Sb_miser [vR 0, vI n, vI w] σ K := by
  refine x_enter 1 rfl rfl rfl (fun Z => ?_)
  show Wx g y_Sb_miser Z K 0 [vR 0, vI n, vI w, vU] [] σ
  refine x_aload_n (dat d_Sb_miser 0 rfl) rfl rfl ?_
  refine x_getr (r := 1) (dat d_Sb_miser 1 rfl) rfl f_Sb_10 (or_mk (by decide +kernel)) ?_
  refine x_iload_n (dat d_Sb_miser 2 rfl) rfl rfl ?_
  refine x_inv (As := [vI n]) (dat d_Sb_miser 3 rfl) rfl c_To_townAt l_Sb_127 (by decide) (rv_to (by decide +kernel)) rfl rfl (Nat.le_of_ble_eq_true rfl) ?_
  refine sp_townAt H.1 (fun c => ?_) (fun q n0 n1 hq q30 hT hR => ?_)
  · show Wx g y_Sb_miser Z K 8 [vR 0, vI n, vI w, vU] [vN] σ
    refine x_astore_nN (L' := [vR 0, vI n, vI w, vN]) (dat d_Sb_miser 4 rfl) rfl (by decide) rfl rfl ?_
    refine x_aload_nN (dat d_Sb_miser 5 rfl) rfl rfl ?_
    refine x_ifnullN (tgt := 22) (dat d_Sb_miser 6 rfl) (by decide) ?_
    refine x_bipush (dat d_Sb_miser 12 rfl) (by decide) (by decide) ?_
    refine x_iret (dat d_Sb_miser 13 rfl) rfl ?_
    first
    | exact kk _ σ (fun _ _ => rfl) (by unfold msrA; rw [if_neg (by omega), if_neg (by omega), if_neg (by omega), if_neg (by omega)])
    | exact k _ σ (atT.no c) (fun _ _ => rfl)
  · show Wx g y_Sb_miser Z K 8 [vR 0, vI n, vI w, vU] [vR q] σ
    refine x_astore_n (L' := [vR 0, vI n, vI w, vR q]) (dat d_Sb_miser 4 rfl) rfl (by decide) rfl rfl ?_
    refine x_aload_n (dat d_Sb_miser 5 rfl) rfl rfl ?_
    refine x_ifnull (dat d_Sb_miser 6 rfl) ?_
    have hdum : True := trivial
    have h6 := hT.2.2.2.2.2.2.1
    have h3 := hT.2.2.2.1
    have hC := cfg_ok hT
    have kk : ∀ (v : Int) (σ' : xS), (∀ o : Nat, o < 138 ∨ 170 < o → σ' o = σ o) → msrA (tw a n) w v → K (some (vI v)) σ' := fun v σ' F e => k v σ' (atT.yes n0 n1 e) F
    generalize ht : tw a n = t at hT hR h6 h3 hC kk
    refine x_iload_n (dat d_Sb_miser 7 rfl) rfl rfl ?_
    refine x_if_lt (tgt := 22) (dat d_Sb_miser 8 rfl) (by decide) (fun c_14 => ?_) (fun c_14 => ?_)
    · refine x_bipush (dat d_Sb_miser 12 rfl) (by decide) (by decide) ?_
      refine x_iret (dat d_Sb_miser 13 rfl) rfl ?_
      first
      | exact kk _ σ (fun _ _ => rfl) (by unfold msrA; rw [if_neg (by omega), if_neg (by omega), if_neg (by omega), if_neg (by omega)])
      | exact k _ σ (atT.no c) (fun _ _ => rfl)
    · refine x_iload_n (dat d_Sb_miser 9 rfl) rfl rfl ?_
      refine x_iconst (dat d_Sb_miser 10 rfl) (by decide) ?_
      refine x_icmp_le (tgt := 25) (dat d_Sb_miser 11 rfl) (by decide) (fun c_19 => ?_) (fun c_19 => ?_)
      · refine x_iload_n (dat d_Sb_miser 14 rfl) rfl rfl ?_
        refine x_iconst (dat d_Sb_miser 15 rfl) (by decide) ?_
        refine x_icmp_ge (tgt := 48) (dat d_Sb_miser 16 rfl) (by decide) (fun c_27 => ?_) (fun c_27 => ?_)
        · refine x_aload_n (dat d_Sb_miser 27 rfl) rfl rfl ?_
          refine x_getr (r := 169) (dat d_Sb_miser 28 rfl) rfl f_Sb_53 (or_mk (by decide +kernel)) ?_
          refine x_aload_n (dat d_Sb_miser 29 rfl) rfl rfl ?_
          refine x_inv (As := [vR q]) (dat d_Sb_miser 30 rfl) rfl c_Tr_findRest l_Sb_427 (by decide) (rv_tr (by decide +kernel)) rfl rfl (Nat.le_of_ble_eq_true rfl) ?_
          refine sp_Tr_findRest hq hT hR (fun σ1 f0 f1 F => ?_)
          show Wx g y_Sb_miser Z K 56 [vR 0, vI n, vI w, vR q] [] σ1
          refine x_aload_n (dat d_Sb_miser 31 rfl) rfl rfl ?_
          refine x_getr (r := 169) (dat d_Sb_miser 32 rfl) rfl f_Sb_53 (or_mk (by decide +kernel)) ?_
          refine x_getr (r := 170) (dat d_Sb_miser 33 rfl) rfl f_Sb_293 (or_mk (by decide +kernel)) ?_
          refine x_iload_n (dat d_Sb_miser 34 rfl) rfl rfl ?_
          refine x_iconst (dat d_Sb_miser 35 rfl) (by decide) ?_
          refine x_isub (v := w - 2) (dat d_Sb_miser 36 rfl) rfl (by omega) ?_
          refine x_iald (n := 4) (v := σ1 170 (w - 2)) (dat d_Sb_miser 37 rfl) (ai_mk (by decide +kernel)) (by omega) (by omega) rfl ?_
          refine x_iret (dat d_Sb_miser 38 rfl) rfl ?_
          refine kk _ σ1 F ?_
          rcases (show w = 2 ∨ w = 3 by omega) with e | e
          · subst e; exact f0
          · subst e; exact f1
        · refine x_aload_n (dat d_Sb_miser 17 rfl) rfl rfl ?_
          refine x_getr (r := 169) (dat d_Sb_miser 18 rfl) rfl f_Sb_53 (or_mk (by decide +kernel)) ?_
          refine x_aload_n (dat d_Sb_miser 19 rfl) rfl rfl ?_
          refine x_inv (As := [vR q]) (dat d_Sb_miser 20 rfl) rfl c_Tr_findMiser l_Sb_424 (by decide) (rv_tr (by decide +kernel)) rfl rfl (Nat.le_of_ble_eq_true rfl) ?_
          refine sp_Tr_findMiser hq hT hR (fun σ1 f0 f1 F => ?_)
          show Wx g y_Sb_miser Z K 38 [vR 0, vI n, vI w, vR q] [] σ1
          refine x_aload_n (dat d_Sb_miser 21 rfl) rfl rfl ?_
          refine x_getr (r := 169) (dat d_Sb_miser 22 rfl) rfl f_Sb_53 (or_mk (by decide +kernel)) ?_
          refine x_getr (r := 170) (dat d_Sb_miser 23 rfl) rfl f_Sb_293 (or_mk (by decide +kernel)) ?_
          refine x_iload_n (dat d_Sb_miser 24 rfl) rfl rfl ?_
          refine x_iald (n := 4) (v := σ1 170 w) (dat d_Sb_miser 25 rfl) (ai_mk (by decide +kernel)) (by omega) (by omega) rfl ?_
          refine x_iret (dat d_Sb_miser 26 rfl) rfl ?_
          refine kk _ σ1 F ?_
          rcases (show w = 0 ∨ w = 1 by omega) with e | e
          · subst e; exact f0
          · subst e; exact f1
      · refine x_bipush (dat d_Sb_miser 12 rfl) (by decide) (by decide) ?_
        refine x_iret (dat d_Sb_miser 13 rfl) rfl ?_
        first
        | exact kk _ σ (fun _ _ => rfl) (by unfold msrA; rw [if_neg (by omega), if_neg (by omega), if_neg (by omega), if_neg (by omega)])
        | exact k _ σ (atT.no c) (fun _ _ => rfl)
