/-! the class's calls: worlds -/
def atB (a : Int → Int) (n b d : Int) (Q : (Int → Int) → (Int → Int) → Int → Prop) (r : Int) : Prop := (¬ ((0 ≤ n ∧ n < a 0) ∧ (0 ≤ b ∧ b < a 1)) → r = d) ∧ (((0 ≤ n ∧ n < a 0) ∧ (0 ≤ b ∧ b < a 1)) → Q (tw a n) (bk a b) r)
theorem atB.no {a : Int → Int} {n b d : Int} {Q : (Int → Int) → (Int → Int) → Int → Prop} (c : ¬ ((0 ≤ n ∧ n < a 0) ∧ (0 ≤ b ∧ b < a 1))) : atB a n b d Q d := ⟨fun _ => rfl, fun h => absurd h c⟩
theorem atB.yes {a : Int → Int} {n b d r : Int} {Q : (Int → Int) → (Int → Int) → Int → Prop} (c : (0 ≤ n ∧ n < a 0) ∧ (0 ≤ b ∧ b < a 1)) (h : Q (tw a n) (bk a b) r) : atB a n b d Q r := ⟨fun w => absurd c w, fun _ => h⟩
theorem sp_Sb_lookAt {g : xG} {K : Option MV → xS → Prop} {σ : xS} {a : Int → Int} {im : Nat → Int → Int} {n b : Int} (H : SbR σ a im) (k0 : ¬ ((0 ≤ n ∧ n < a 0) ∧ (0 ≤ b ∧ b < a 1)) → K (some (vI 0)) σ)
    (kt : ∀ σ' : xS, ((0 ≤ n ∧ n < a 0) ∧ (0 ≤ b ∧ b < a 1)) → SbR σ' a im → LookS σ' (tw a n) (bk a b) → σ' 122 = σ 122 → SbF σ' σ → runT (tw a n) ≤ 1024 → K (some (vI 1)) σ')
    (kf : ∀ σ' : xS, ((0 ≤ n ∧ n < a 0) ∧ (0 ≤ b ∧ b < a 1)) → SbR σ' a im → σ' 122 = σ 122 → SbF σ' σ → ¬ runT (tw a n) ≤ 1024 → K (some (vI 0)) σ') : Mt g y_Sb_lookAtWorlds [vR 0, vI n, vI b] σ K := by
  have fin : ∀ (Z : xZ) (q qb : Nat) (σ1 : xS), ((0 ≤ n ∧ n < a 0) ∧ (0 ≤ b ∧ b < a 1)) → SbR σ1 a im → LookS σ1 (tw a n) (bk a b) → σ1 122 = σ 122 → SbF σ1 σ → Wx g y_Sb_lookAtWorlds Z K 66 [vR 0, vI n, vI b, vR q, vR qb] [] σ1 := by
    intro Z q qb σ1 c S L e F
    have er : σ1 171 0 = runT (tw a n) := L.1
    refine x_aload_n (dat d_Sb_lookAtWorlds 35 rfl) rfl rfl ?_
    refine x_getr (r := 171) (dat d_Sb_lookAtWorlds 36 rfl) rfl f_Sb_62 (or_mk (by decide +kernel)) ?_
    refine x_geti (ji := 0) (v := runT (tw a n)) (dat d_Sb_lookAtWorlds 37 rfl) rfl f_Sb_374 (oi_mk (by decide +kernel)) (er) ?_
    refine x_sipush (dat d_Sb_lookAtWorlds 38 rfl) (by decide) (by decide) ?_
    refine x_icmp_gt (tgt := 83) (dat d_Sb_lookAtWorlds 39 rfl) (by decide) (fun c_76 => ?_) (fun c_76 => ?_)
    · refine x_iconst (dat d_Sb_lookAtWorlds 42 rfl) (by decide) ?_
      refine x_zret (dat d_Sb_lookAtWorlds 43 rfl) rfl (by decide) ?_
      first
      | exact kt σ1 c S L e F (by omega)
      | exact kf σ1 c S e F (by omega)
    · refine x_iconst (dat d_Sb_lookAtWorlds 40 rfl) (by decide) ?_
      refine x_goto (tgt := 84) (dat d_Sb_lookAtWorlds 41 rfl) (by decide) ?_
      refine x_zret (dat d_Sb_lookAtWorlds 43 rfl) rfl (by decide) ?_
      first
      | exact kt σ1 c S L e F (by omega)
      | exact kf σ1 c S e F (by omega)
  have lr : σ 0 9 = n → σ 0 10 = b → 0 ≤ n → LookS σ (tw a n) (bk a b) := fun e1 e2 n0 => by
    rcases H.2.1 with h | ⟨lt, lb, ⟨g1, g2⟩, g3, g4, g5⟩
    · omega
    · rw [e1] at g1
      rw [e2] at g2
      rw [g1, g2]
      exact g5
  refine x_enter 2 rfl rfl rfl (fun Z => ?_)
  show Wx g y_Sb_lookAtWorlds Z K 0 [vR 0, vI n, vI b, vU, vU] [] σ
  refine x_aload_n (dat d_Sb_lookAtWorlds 0 rfl) rfl rfl ?_
  refine x_getr (r := 1) (dat d_Sb_lookAtWorlds 1 rfl) rfl f_Sb_10 (or_mk (by decide +kernel)) ?_
  refine x_iload_n (dat d_Sb_lookAtWorlds 2 rfl) rfl rfl ?_
  refine x_inv (As := [vI n]) (dat d_Sb_lookAtWorlds 3 rfl) rfl c_To_townAt l_Sb_127 (by decide) (rv_to (by decide +kernel)) rfl rfl (Nat.le_of_ble_eq_true rfl) ?_
  refine sp_townAt H.1 (fun c => ?_) (fun q n0 n1 hq q30 hT hR => ?_)
  · show Wx g y_Sb_lookAtWorlds Z K 8 [vR 0, vI n, vI b, vU, vU] [vN] σ
    refine x_astore_nN (L' := [vR 0, vI n, vI b, vN, vU]) (dat d_Sb_lookAtWorlds 4 rfl) rfl (by decide) rfl rfl ?_
    refine x_aload_n (dat d_Sb_lookAtWorlds 5 rfl) rfl rfl ?_
    refine x_getr (r := 1) (dat d_Sb_lookAtWorlds 6 rfl) rfl f_Sb_10 (or_mk (by decide +kernel)) ?_
    refine x_iload_n (dat d_Sb_lookAtWorlds 7 rfl) rfl rfl ?_
    refine x_inv (As := [vI b]) (dat d_Sb_lookAtWorlds 8 rfl) rfl c_To_bookAt l_Sb_190 (by decide) (rv_to (by decide +kernel)) rfl rfl (Nat.le_of_ble_eq_true rfl) ?_
    refine sp_bookAt H.1 (fun c2 => ?_) (fun qb b0 b1 hqb qb30 hB hBR => ?_)
    · show Wx g y_Sb_lookAtWorlds Z K 17 [vR 0, vI n, vI b, vN, vU] [vN] σ
      refine x_astoreN (L' := [vR 0, vI n, vI b, vN, vN]) (dat d_Sb_lookAtWorlds 9 rfl) (by decide) rfl rfl ?_
      refine x_aload_nN (dat d_Sb_lookAtWorlds 10 rfl) rfl rfl ?_
      refine x_ifnullN (tgt := 28) (dat d_Sb_lookAtWorlds 11 rfl) (by decide) ?_
      refine x_iconst (dat d_Sb_lookAtWorlds 14 rfl) (by decide) ?_
      refine x_zret (dat d_Sb_lookAtWorlds 15 rfl) rfl (by decide) ?_
      refine k0 (fun z => ?_)
      first
      | exact c z.1
      | exact c2 z.2
    · show Wx g y_Sb_lookAtWorlds Z K 17 [vR 0, vI n, vI b, vN, vU] [vR qb] σ
      refine x_astore (L' := [vR 0, vI n, vI b, vN, vR qb]) (dat d_Sb_lookAtWorlds 9 rfl) (by decide) rfl rfl ?_
      refine x_aload_nN (dat d_Sb_lookAtWorlds 10 rfl) rfl rfl ?_
      refine x_ifnullN (tgt := 28) (dat d_Sb_lookAtWorlds 11 rfl) (by decide) ?_
      refine x_iconst (dat d_Sb_lookAtWorlds 14 rfl) (by decide) ?_
      refine x_zret (dat d_Sb_lookAtWorlds 15 rfl) rfl (by decide) ?_
      refine k0 (fun z => ?_)
      first
      | exact c z.1
      | exact c2 z.2
  · show Wx g y_Sb_lookAtWorlds Z K 8 [vR 0, vI n, vI b, vU, vU] [vR q] σ
    refine x_astore_n (L' := [vR 0, vI n, vI b, vR q, vU]) (dat d_Sb_lookAtWorlds 4 rfl) rfl (by decide) rfl rfl ?_
    refine x_aload_n (dat d_Sb_lookAtWorlds 5 rfl) rfl rfl ?_
    refine x_getr (r := 1) (dat d_Sb_lookAtWorlds 6 rfl) rfl f_Sb_10 (or_mk (by decide +kernel)) ?_
    refine x_iload_n (dat d_Sb_lookAtWorlds 7 rfl) rfl rfl ?_
    refine x_inv (As := [vI b]) (dat d_Sb_lookAtWorlds 8 rfl) rfl c_To_bookAt l_Sb_190 (by decide) (rv_to (by decide +kernel)) rfl rfl (Nat.le_of_ble_eq_true rfl) ?_
    refine sp_bookAt H.1 (fun c2 => ?_) (fun qb b0 b1 hqb qb30 hB hBR => ?_)
    · show Wx g y_Sb_lookAtWorlds Z K 17 [vR 0, vI n, vI b, vR q, vU] [vN] σ
      refine x_astoreN (L' := [vR 0, vI n, vI b, vR q, vN]) (dat d_Sb_lookAtWorlds 9 rfl) (by decide) rfl rfl ?_
      refine x_aload_n (dat d_Sb_lookAtWorlds 10 rfl) rfl rfl ?_
      refine x_ifnull (dat d_Sb_lookAtWorlds 11 rfl) ?_
      refine x_aloadN (dat d_Sb_lookAtWorlds 12 rfl) rfl ?_
      refine x_ifnonnullN (dat d_Sb_lookAtWorlds 13 rfl) ?_
      refine x_iconst (dat d_Sb_lookAtWorlds 14 rfl) (by decide) ?_
      refine x_zret (dat d_Sb_lookAtWorlds 15 rfl) rfl (by decide) ?_
      refine k0 (fun z => ?_)
      first
      | exact c z.1
      | exact c2 z.2
    · show Wx g y_Sb_lookAtWorlds Z K 17 [vR 0, vI n, vI b, vR q, vU] [vR qb] σ
      refine x_astore (L' := [vR 0, vI n, vI b, vR q, vR qb]) (dat d_Sb_lookAtWorlds 9 rfl) (by decide) rfl rfl ?_
      refine x_aload_n (dat d_Sb_lookAtWorlds 10 rfl) rfl rfl ?_
      refine x_ifnull (dat d_Sb_lookAtWorlds 11 rfl) ?_
      refine x_aload (dat d_Sb_lookAtWorlds 12 rfl) rfl ?_
      refine x_ifnonnull (tgt := 30) (dat d_Sb_lookAtWorlds 13 rfl) (by decide) ?_
      refine x_iload_n (dat d_Sb_lookAtWorlds 16 rfl) rfl rfl ?_
      refine x_aload_n (dat d_Sb_lookAtWorlds 17 rfl) rfl rfl ?_
      refine x_geti (ji := 9) (v := σ 0 9) (dat d_Sb_lookAtWorlds 18 rfl) rfl f_Sb_364 (oi_mk (by decide +kernel)) rfl ?_
      refine x_icmp_ne (tgt := 46) (dat d_Sb_lookAtWorlds 19 rfl) (by decide) (fun c_35 => ?_) (fun c_35 => ?_)
      · refine x_aload_n (dat d_Sb_lookAtWorlds 24 rfl) rfl rfl ?_
        refine x_getr (r := 171) (dat d_Sb_lookAtWorlds 25 rfl) rfl f_Sb_62 (or_mk (by decide +kernel)) ?_
        refine x_aload_n (dat d_Sb_lookAtWorlds 26 rfl) rfl rfl ?_
        refine x_aload (dat d_Sb_lookAtWorlds 27 rfl) rfl ?_
        refine x_inv (As := [vR q, vR qb]) (dat d_Sb_lookAtWorlds 28 rfl) rfl c_Wo_look l_Sb_370 (by decide) (rv_wo (by decide +kernel)) rfl rfl (Nat.le_of_ble_eq_true rfl) ?_
        refine sp_Wo_look hq hT hR hqb hB hBR (fun σ1 L F => ?_)
        show Wx g y_Sb_lookAtWorlds Z K 56 [vR 0, vI n, vI b, vR q, vR qb] [] σ1
        refine x_aload_n (dat d_Sb_lookAtWorlds 29 rfl) rfl rfl ?_
        refine x_iload_n (dat d_Sb_lookAtWorlds 30 rfl) rfl rfl ?_
        refine x_puti (ji := 9) (x := (n)) (dat d_Sb_lookAtWorlds 31 rfl) rfl f_Sb_364w (oi_mk (by decide +kernel)) (fun h => absurd h (by decide)) (by decide) ?_
        refine x_aload_n (dat d_Sb_lookAtWorlds 32 rfl) rfl rfl ?_
        refine x_iload_n (dat d_Sb_lookAtWorlds 33 rfl) rfl rfl ?_
        refine x_puti (ji := 10) (x := (b)) (dat d_Sb_lookAtWorlds 34 rfl) rfl f_Sb_367w (oi_mk (by decide +kernel)) (fun h => absurd h (by decide)) (by decide) ?_
        first
        | exact fin Z q qb σ ⟨⟨n0, n1⟩, b0, b1⟩ H (lr (by omega) (by omega) n0) rfl (SbF.rfl σ)
        | (have F1 : ∀ o : Nat, o < 138 → σ1 o = σ o := fun o ho => F o (by omega) (by omega) (by omega) (by omega)
           have L2 : LookS (up (up σ1 0 9 n) 0 10 b) (tw a n) (bk a b) := L.same (by rw [up_ne (by decide), up_ne (by decide)]) (by rw [up_ne (by decide), up_ne (by decide)])
           refine fin Z q qb _ ⟨⟨n0, n1⟩, b0, b1⟩ ⟨H.1.same (fun x y z => by rw [up_ne (by omega), up_ne (by omega), F1 x (by omega)]), Or.inr ⟨n, b, ⟨by rw [up_ni (by decide), up_s], up_s⟩, ⟨n0, n1⟩, ⟨b0, b1⟩, L2⟩, fun j hj => ?_⟩ L2 (by rw [up_ne (by decide), up_ne (by decide), F1 122 (by decide)]) (fun o ho => by rw [up_ne (by omega), up_ne (by omega), F o (by omega) (by omega) (by omega) (by omega)])
           rw [up_ne (by decide), up_ne (by decide), F1 122 (by decide)]
           exact ⟨(H.2.2 j hj).1, fun w => ((H.2.2 j hj).2 w).same (fun x y z => by rw [up_ne (by omega), up_ne (by omega), F1 x (by omega)])⟩)
      · refine x_iload_n (dat d_Sb_lookAtWorlds 20 rfl) rfl rfl ?_
        refine x_aload_n (dat d_Sb_lookAtWorlds 21 rfl) rfl rfl ?_
        refine x_geti (ji := 10) (v := σ 0 10) (dat d_Sb_lookAtWorlds 22 rfl) rfl f_Sb_367 (oi_mk (by decide +kernel)) rfl ?_
        refine x_icmp_eq (tgt := 66) (dat d_Sb_lookAtWorlds 23 rfl) (by decide) (fun c_43 => ?_) (fun c_43 => ?_)
        · first
          | exact fin Z q qb σ ⟨⟨n0, n1⟩, b0, b1⟩ H (lr (by omega) (by omega) n0) rfl (SbF.rfl σ)
          | (have F1 : ∀ o : Nat, o < 138 → σ1 o = σ o := fun o ho => F o (by omega) (by omega) (by omega) (by omega)
             have L2 : LookS (up (up σ1 0 9 n) 0 10 b) (tw a n) (bk a b) := L.same (by rw [up_ne (by decide), up_ne (by decide)]) (by rw [up_ne (by decide), up_ne (by decide)])
             refine fin Z q qb _ ⟨⟨n0, n1⟩, b0, b1⟩ ⟨H.1.same (fun x y z => by rw [up_ne (by omega), up_ne (by omega), F1 x (by omega)]), Or.inr ⟨n, b, ⟨by rw [up_ni (by decide), up_s], up_s⟩, ⟨n0, n1⟩, ⟨b0, b1⟩, L2⟩, fun j hj => ?_⟩ L2 (by rw [up_ne (by decide), up_ne (by decide), F1 122 (by decide)]) (fun o ho => by rw [up_ne (by omega), up_ne (by omega), F o (by omega) (by omega) (by omega) (by omega)])
             rw [up_ne (by decide), up_ne (by decide), F1 122 (by decide)]
             exact ⟨(H.2.2 j hj).1, fun w => ((H.2.2 j hj).2 w).same (fun x y z => by rw [up_ne (by omega), up_ne (by omega), F1 x (by omega)])⟩)
        · refine x_aload_n (dat d_Sb_lookAtWorlds 24 rfl) rfl rfl ?_
          refine x_getr (r := 171) (dat d_Sb_lookAtWorlds 25 rfl) rfl f_Sb_62 (or_mk (by decide +kernel)) ?_
          refine x_aload_n (dat d_Sb_lookAtWorlds 26 rfl) rfl rfl ?_
          refine x_aload (dat d_Sb_lookAtWorlds 27 rfl) rfl ?_
          refine x_inv (As := [vR q, vR qb]) (dat d_Sb_lookAtWorlds 28 rfl) rfl c_Wo_look l_Sb_370 (by decide) (rv_wo (by decide +kernel)) rfl rfl (Nat.le_of_ble_eq_true rfl) ?_
          refine sp_Wo_look hq hT hR hqb hB hBR (fun σ1 L F => ?_)
          show Wx g y_Sb_lookAtWorlds Z K 56 [vR 0, vI n, vI b, vR q, vR qb] [] σ1
          refine x_aload_n (dat d_Sb_lookAtWorlds 29 rfl) rfl rfl ?_
          refine x_iload_n (dat d_Sb_lookAtWorlds 30 rfl) rfl rfl ?_
          refine x_puti (ji := 9) (x := (n)) (dat d_Sb_lookAtWorlds 31 rfl) rfl f_Sb_364w (oi_mk (by decide +kernel)) (fun h => absurd h (by decide)) (by decide) ?_
          refine x_aload_n (dat d_Sb_lookAtWorlds 32 rfl) rfl rfl ?_
          refine x_iload_n (dat d_Sb_lookAtWorlds 33 rfl) rfl rfl ?_
          refine x_puti (ji := 10) (x := (b)) (dat d_Sb_lookAtWorlds 34 rfl) rfl f_Sb_367w (oi_mk (by decide +kernel)) (fun h => absurd h (by decide)) (by decide) ?_
          first
          | exact fin Z q qb σ ⟨⟨n0, n1⟩, b0, b1⟩ H (lr (by omega) (by omega) n0) rfl (SbF.rfl σ)
          | (have F1 : ∀ o : Nat, o < 138 → σ1 o = σ o := fun o ho => F o (by omega) (by omega) (by omega) (by omega)
             have L2 : LookS (up (up σ1 0 9 n) 0 10 b) (tw a n) (bk a b) := L.same (by rw [up_ne (by decide), up_ne (by decide)]) (by rw [up_ne (by decide), up_ne (by decide)])
             refine fin Z q qb _ ⟨⟨n0, n1⟩, b0, b1⟩ ⟨H.1.same (fun x y z => by rw [up_ne (by omega), up_ne (by omega), F1 x (by omega)]), Or.inr ⟨n, b, ⟨by rw [up_ni (by decide), up_s], up_s⟩, ⟨n0, n1⟩, ⟨b0, b1⟩, L2⟩, fun j hj => ?_⟩ L2 (by rw [up_ne (by decide), up_ne (by decide), F1 122 (by decide)]) (fun o ho => by rw [up_ne (by omega), up_ne (by omega), F o (by omega) (by omega) (by omega) (by omega)])
             rw [up_ne (by decide), up_ne (by decide), F1 122 (by decide)]
             exact ⟨(H.2.2 j hj).1, fun w => ((H.2.2 j hj).2 w).same (fun x y z => by rw [up_ne (by omega), up_ne (by omega), F1 x (by omega)])⟩)
def wldA (t b : Int → Int) (w r : Int) : Prop := if ¬ (0 ≤ w ∧ w ≤ 3) ∨ ¬ runT t ≤ 1024 then r = -1 else if w = 0 then r = wct t b (runT t).toNat else if w = 1 then r = runT t else if wct t b (runT t).toNat = 0 then r = -1 else if w = 2 then Msk 8 r (wDo t b (runT t).toNat) else Msk 8 r (wDa t b (runT t).toNat)
theorem sp_Sb_worlds {g : xG} {K : Option MV → xS → Prop} {σ : xS} {a : Int → Int} {im : Nat → Int → Int} {n b w : Int} (H : SbR σ a im) (k : ∀ (r : Int) (σ' : xS), atB a n b (-1) (fun t b r => wldA t b w r) r → SbR σ' a im → σ' 122 = σ 122 → SbF σ' σ → K (some (vI r)) σ') : Mt g y_Sb_worlds [vR 0, vI n, vI b, vI w] σ K := by
  have no1 : ¬ (0 ≤ w ∧ w ≤ 3) → K (some (vI (-1))) σ := fun z => by
    by_cases c : (0 ≤ n ∧ n < a 0) ∧ (0 ≤ b ∧ b < a 1)
    · exact k _ σ (atB.yes c (by unfold wldA; rw [if_pos (Or.inl z)])) H rfl (SbF.rfl σ)
    · exact k _ σ (atB.no c) H rfl (SbF.rfl σ)
  refine x_enter 0 rfl rfl rfl (fun Z => ?_)
  show Wx g y_Sb_worlds Z K 0 [vR 0, vI n, vI b, vI w] [] σ
  refine x_iload_n (dat d_Sb_worlds 0 rfl) rfl rfl ?_
  refine x_if_lt (tgt := 18) (dat d_Sb_worlds 1 rfl) (by decide) (fun c_1 => ?_) (fun c_1 => ?_)
  · refine x_iconst (dat d_Sb_worlds 10 rfl) (by decide) ?_
    refine x_iret (dat d_Sb_worlds 11 rfl) rfl ?_
    first
    | exact no1 (fun z => by omega)
    | exact k _ σ1 (atB.yes c (by unfold wldA; rw [if_pos (Or.inr h24)])) S e F
    | exact k _ σ (atB.no c) H rfl (SbF.rfl σ)
  · refine x_iload_n (dat d_Sb_worlds 2 rfl) rfl rfl ?_
    refine x_iconst (dat d_Sb_worlds 3 rfl) (by decide) ?_
    refine x_icmp_gt (tgt := 18) (dat d_Sb_worlds 4 rfl) (by decide) (fun c_6 => ?_) (fun c_6 => ?_)
    · refine x_iconst (dat d_Sb_worlds 10 rfl) (by decide) ?_
      refine x_iret (dat d_Sb_worlds 11 rfl) rfl ?_
      first
      | exact no1 (fun z => by omega)
      | exact k _ σ1 (atB.yes c (by unfold wldA; rw [if_pos (Or.inr h24)])) S e F
      | exact k _ σ (atB.no c) H rfl (SbF.rfl σ)
    · refine x_aload_n (dat d_Sb_worlds 5 rfl) rfl rfl ?_
      refine x_iload_n (dat d_Sb_worlds 6 rfl) rfl rfl ?_
      refine x_iload_n (dat d_Sb_worlds 7 rfl) rfl rfl ?_
      refine x_inv (As := [vI n, vI b]) (dat d_Sb_worlds 8 rfl) rfl c_Sb_lookAtWorlds l_Sb_377 (by decide) (rv_sb (by decide +kernel)) rfl rfl (Nat.le_of_ble_eq_true rfl) ?_
      refine sp_Sb_lookAt H (fun c => ?_) (fun σ1 c S L e F h24 => ?_) (fun σ1 c S e F h24 => ?_)
      · show Wx g y_Sb_worlds Z K 15 [vR 0, vI n, vI b, vI w] [vI 0] σ
        refine x_if_ne (tgt := 20) (dat d_Sb_worlds 9 rfl) (by decide) (fun h => absurd h (by decide)) (fun c_15 => ?_)
        refine x_iconst (dat d_Sb_worlds 10 rfl) (by decide) ?_
        refine x_iret (dat d_Sb_worlds 11 rfl) rfl ?_
        first
        | exact no1 (fun z => by omega)
        | exact k _ σ1 (atB.yes c (by unfold wldA; rw [if_pos (Or.inr h24)])) S e F
        | exact k _ σ (atB.no c) H rfl (SbF.rfl σ)
      · show Wx g y_Sb_worlds Z K 15 [vR 0, vI n, vI b, vI w] [vI 1] σ1
        refine x_if_ne (tgt := 20) (dat d_Sb_worlds 9 rfl) (by decide) (fun c_15 => ?_) (fun h => absurd h (by decide))
        skip
        refine x_iload_n (dat d_Sb_worlds 12 rfl) rfl rfl ?_
        refine x_if_ne (tgt := 32) (dat d_Sb_worlds 13 rfl) (by decide) (fun c_21 => ?_) (fun c_21 => ?_)
        · refine x_iload_n (dat d_Sb_worlds 18 rfl) rfl rfl ?_
          refine x_iconst (dat d_Sb_worlds 19 rfl) (by decide) ?_
          refine x_icmp_ne (tgt := 45) (dat d_Sb_worlds 20 rfl) (by decide) (fun c_34 => ?_) (fun c_34 => ?_)
          · refine x_aload_n (dat d_Sb_worlds 25 rfl) rfl rfl ?_
            refine x_getr (r := 171) (dat d_Sb_worlds 26 rfl) rfl f_Sb_62 (or_mk (by decide +kernel)) ?_
            refine x_geti (ji := 1) (v := wct (tw a n) (bk a b) (runT (tw a n)).toNat) (dat d_Sb_worlds 27 rfl) rfl f_Sb_380 (oi_mk (by decide +kernel)) (by exact (L.2 h24).1) ?_
            refine x_if_ne (tgt := 57) (dat d_Sb_worlds 28 rfl) (by decide) (fun c_52 => ?_) (fun c_52 => ?_)
            · refine x_iload_n (dat d_Sb_worlds 31 rfl) rfl rfl ?_
              refine x_iconst (dat d_Sb_worlds 32 rfl) (by decide) ?_
              refine x_icmp_ne (tgt := 72) (dat d_Sb_worlds 33 rfl) (by decide) (fun c_59 => ?_) (fun c_59 => ?_)
              · refine x_aload_n (dat d_Sb_worlds 38 rfl) rfl rfl ?_
                refine x_getr (r := 171) (dat d_Sb_worlds 39 rfl) rfl f_Sb_62 (or_mk (by decide +kernel)) ?_
                refine x_geti (ji := 3) (v := σ1 171 3) (dat d_Sb_worlds 40 rfl) rfl f_Sb_386 (oi_mk (by decide +kernel)) rfl ?_
                refine x_iret (dat d_Sb_worlds 41 rfl) rfl ?_
                refine k _ σ1 (atB.yes c ?_) S e F
                unfold wldA
                rw [if_neg (by omega), if_neg (by omega), if_neg (by omega), if_neg (by omega)]
                first
                | (rw [if_pos (by omega)]; exact (L.2 h24).2.1)
                | (rw [if_neg (by omega)]; exact (L.2 h24).2.2.1)
              · refine x_aload_n (dat d_Sb_worlds 34 rfl) rfl rfl ?_
                refine x_getr (r := 171) (dat d_Sb_worlds 35 rfl) rfl f_Sb_62 (or_mk (by decide +kernel)) ?_
                refine x_geti (ji := 2) (v := σ1 171 2) (dat d_Sb_worlds 36 rfl) rfl f_Sb_383 (oi_mk (by decide +kernel)) rfl ?_
                refine x_goto (tgt := 79) (dat d_Sb_worlds 37 rfl) (by decide) ?_
                refine x_iret (dat d_Sb_worlds 41 rfl) rfl ?_
                refine k _ σ1 (atB.yes c ?_) S e F
                unfold wldA
                rw [if_neg (by omega), if_neg (by omega), if_neg (by omega), if_neg (by omega)]
                first
                | (rw [if_pos (by omega)]; exact (L.2 h24).2.1)
                | (rw [if_neg (by omega)]; exact (L.2 h24).2.2.1)
            · refine x_iconst (dat d_Sb_worlds 29 rfl) (by decide) ?_
              refine x_iret (dat d_Sb_worlds 30 rfl) rfl ?_
              exact k _ σ1 (atB.yes c (by unfold wldA; rw [if_neg (by omega), if_neg (by omega), if_neg (by omega), if_pos (by omega)])) S e F
          · refine x_aload_n (dat d_Sb_worlds 21 rfl) rfl rfl ?_
            refine x_getr (r := 171) (dat d_Sb_worlds 22 rfl) rfl f_Sb_62 (or_mk (by decide +kernel)) ?_
            refine x_geti (ji := 0) (v := runT (tw a n)) (dat d_Sb_worlds 23 rfl) rfl f_Sb_374 (oi_mk (by decide +kernel)) (by exact L.1) ?_
            refine x_iret (dat d_Sb_worlds 24 rfl) rfl ?_
            exact k _ σ1 (atB.yes c (by unfold wldA; rw [if_neg (by omega), if_neg (by omega), if_pos (by omega)])) S e F
        · refine x_aload_n (dat d_Sb_worlds 14 rfl) rfl rfl ?_
          refine x_getr (r := 171) (dat d_Sb_worlds 15 rfl) rfl f_Sb_62 (or_mk (by decide +kernel)) ?_
          refine x_geti (ji := 1) (v := wct (tw a n) (bk a b) (runT (tw a n)).toNat) (dat d_Sb_worlds 16 rfl) rfl f_Sb_380 (oi_mk (by decide +kernel)) (by exact (L.2 h24).1) ?_
          refine x_iret (dat d_Sb_worlds 17 rfl) rfl ?_
          exact k _ σ1 (atB.yes c (by unfold wldA; rw [if_neg (by omega), if_pos (by omega)])) S e F
      · show Wx g y_Sb_worlds Z K 15 [vR 0, vI n, vI b, vI w] [vI 0] σ1
        refine x_if_ne (tgt := 20) (dat d_Sb_worlds 9 rfl) (by decide) (fun h => absurd h (by decide)) (fun c_15 => ?_)
        refine x_iconst (dat d_Sb_worlds 10 rfl) (by decide) ?_
        refine x_iret (dat d_Sb_worlds 11 rfl) rfl ?_
        first
        | exact no1 (fun z => by omega)
        | exact k _ σ1 (atB.yes c (by unfold wldA; rw [if_pos (Or.inr h24)])) S e F
        | exact k _ σ (atB.no c) H rfl (SbF.rfl σ)
def pocA (t b : Int → Int) (p h m r : Int) : Prop := if ¬ ((0 ≤ p ∧ p < t 6) ∧ (0 ≤ h ∧ h < t 3)) ∨ ¬ runT t ≤ 1024 then r = -1 else if m = 0 then FirstH (fun x => 0 < wHv t b (runT t).toNat h p x) 265 r else ∃ v : Int, FirstH (fun x => 0 < wHv t b (runT t).toNat h p (264 - (x : Int))) 265 v ∧ r = (if v < 0 then -1 else 264 - v)
theorem sp_Sb_pocket {g : xG} {K : Option MV → xS → Prop} {σ : xS} {a : Int → Int} {im : Nat → Int → Int} {n b p h m : Int} (H : SbR σ a im) (k : ∀ (r : Int) (σ' : xS), atB a n b (-1) (fun t b r => pocA t b p h m r) r → SbR σ' a im → σ' 122 = σ 122 → SbF σ' σ → K (some (vI r)) σ') : Mt g y_Sb_pocket [vR 0, vI n, vI b, vI p, vI h, vI m] σ K := by
  have no1 : ¬ ((0 ≤ p ∧ p < tw a n 6) ∧ (0 ≤ h ∧ h < tw a n 3)) → K (some (vI (-1))) σ := fun z => by
    by_cases c : (0 ≤ n ∧ n < a 0) ∧ (0 ≤ b ∧ b < a 1)
    · exact k _ σ (atB.yes c (by unfold pocA; rw [if_pos (Or.inl z)])) H rfl (SbF.rfl σ)
    · exact k _ σ (atB.no c) H rfl (SbF.rfl σ)
  refine x_enter 1 rfl rfl rfl (fun Z => ?_)
  show Wx g y_Sb_pocket Z K 0 [vR 0, vI n, vI b, vI p, vI h, vI m, vU] [] σ
  refine x_aload_n (dat d_Sb_pocket 0 rfl) rfl rfl ?_
  refine x_getr (r := 1) (dat d_Sb_pocket 1 rfl) rfl f_Sb_10 (or_mk (by decide +kernel)) ?_
  refine x_iload_n (dat d_Sb_pocket 2 rfl) rfl rfl ?_
  refine x_inv (As := [vI n]) (dat d_Sb_pocket 3 rfl) rfl c_To_townAt l_Sb_127 (by decide) (rv_to (by decide +kernel)) rfl rfl (Nat.le_of_ble_eq_true rfl) ?_
  refine sp_townAt H.1 (fun c => ?_) (fun q n0 n1 hq q30 hT hR => ?_)
  · show Wx g y_Sb_pocket Z K 8 [vR 0, vI n, vI b, vI p, vI h, vI m, vU] [vN] σ
    refine x_astoreN (L' := [vR 0, vI n, vI b, vI p, vI h, vI m, vN]) (dat d_Sb_pocket 4 rfl) (by decide) rfl rfl ?_
    refine x_aloadN (dat d_Sb_pocket 5 rfl) rfl ?_
    refine x_ifnullN (tgt := 43) (dat d_Sb_pocket 6 rfl) (by decide) ?_
    refine x_iconst (dat d_Sb_pocket 20 rfl) (by decide) ?_
    refine x_iret (dat d_Sb_pocket 21 rfl) rfl ?_
    first
    | exact k _ σ1 (atB.yes c (by unfold pocA; rw [if_pos (Or.inr h24)])) S e F
    | exact no1 (fun z => by first | exact cc z.1 | exact cc z.2)
    | exact k _ σ (atB.no (fun z => c z.1)) H rfl (SbF.rfl σ)
    | exact k _ σ (atB.no c) H rfl (SbF.rfl σ)
  · show Wx g y_Sb_pocket Z K 8 [vR 0, vI n, vI b, vI p, vI h, vI m, vU] [vR q] σ
    refine x_astore (L' := [vR 0, vI n, vI b, vI p, vI h, vI m, vR q]) (dat d_Sb_pocket 4 rfl) (by decide) rfl rfl ?_
    refine x_aload (dat d_Sb_pocket 5 rfl) rfl ?_
    refine x_ifnull (dat d_Sb_pocket 6 rfl) ?_
    refine x_aload (dat d_Sb_pocket 7 rfl) rfl ?_
    refine x_iload_n (dat d_Sb_pocket 8 rfl) rfl rfl ?_
    refine x_inv (As := [vI p]) (dat d_Sb_pocket 9 rfl) rfl c_Tw_hasPerson l_Sb_168 (by decide) (rv_tw (tw_k hq)) rfl rfl (Nat.le_of_ble_eq_true rfl) ?_
    refine sp_Tw_hasPerson hq hT hR (fun p0 p1 => ?_) (fun cc => ?_)
    · show Wx g y_Sb_pocket Z K 21 [vR 0, vI n, vI b, vI p, vI h, vI m, vR q] [vI 1] σ
      refine x_if_eq (tgt := 43) (dat d_Sb_pocket 10 rfl) (by decide) (fun h => absurd h (by decide)) (fun c_21 => ?_)
      refine x_aload (dat d_Sb_pocket 11 rfl) rfl ?_
      refine x_iload (dat d_Sb_pocket 12 rfl) rfl ?_
      refine x_inv (As := [vI h]) (dat d_Sb_pocket 13 rfl) rfl c_Tw_hasHour l_Sb_214 (by decide) (rv_tw (tw_k hq)) rfl rfl (Nat.le_of_ble_eq_true rfl) ?_
      refine sp_Tw_hasHour hq hT hR (fun q0 q1 => ?_) (fun cc => ?_)
      · show Wx g y_Sb_pocket Z K 31 [vR 0, vI n, vI b, vI p, vI h, vI m, vR q] [vI 1] σ
        refine x_if_eq (tgt := 43) (dat d_Sb_pocket 14 rfl) (by decide) (fun h => absurd h (by decide)) (fun c_31 => ?_)
        refine x_aload_n (dat d_Sb_pocket 15 rfl) rfl rfl ?_
        refine x_iload_n (dat d_Sb_pocket 16 rfl) rfl rfl ?_
        refine x_iload_n (dat d_Sb_pocket 17 rfl) rfl rfl ?_
        refine x_inv (As := [vI n, vI b]) (dat d_Sb_pocket 18 rfl) rfl c_Sb_lookAtWorlds l_Sb_377 (by decide) (rv_sb (by decide +kernel)) rfl rfl (Nat.le_of_ble_eq_true rfl) ?_
        have h6 := hT.2.2.2.2.2.2.1
        have h3 := hT.2.2.2.1
        refine sp_Sb_lookAt H (fun c => ?_) (fun σ1 c S L e F h24 => ?_) (fun σ1 c S e F h24 => ?_)
        · show Wx g y_Sb_pocket Z K 40 [vR 0, vI n, vI b, vI p, vI h, vI m, vR q] [vI 0] σ
          refine x_if_ne (tgt := 45) (dat d_Sb_pocket 19 rfl) (by decide) (fun h => absurd h (by decide)) (fun c_40 => ?_)
          refine x_iconst (dat d_Sb_pocket 20 rfl) (by decide) ?_
          refine x_iret (dat d_Sb_pocket 21 rfl) rfl ?_
          first
          | exact k _ σ1 (atB.yes c (by unfold pocA; rw [if_pos (Or.inr h24)])) S e F
          | exact no1 (fun z => by first | exact cc z.1 | exact cc z.2)
          | exact k _ σ (atB.no (fun z => c z.1)) H rfl (SbF.rfl σ)
          | exact k _ σ (atB.no c) H rfl (SbF.rfl σ)
        · show Wx g y_Sb_pocket Z K 40 [vR 0, vI n, vI b, vI p, vI h, vI m, vR q] [vI 1] σ1
          refine x_if_ne (tgt := 45) (dat d_Sb_pocket 19 rfl) (by decide) (fun c_40 => ?_) (fun h => absurd h (by decide))
          refine x_iload (dat d_Sb_pocket 22 rfl) rfl ?_
          refine x_if_eq (tgt := 63) (dat d_Sb_pocket 23 rfl) (by decide) (fun c_47 => ?_) (fun c_47 => ?_)
          · refine x_aload_n (dat d_Sb_pocket 30 rfl) rfl rfl ?_
            refine x_getr (r := 171) (dat d_Sb_pocket 31 rfl) rfl f_Sb_62 (or_mk (by decide +kernel)) ?_
            refine x_iload (dat d_Sb_pocket 32 rfl) rfl ?_
            refine x_iload_n (dat d_Sb_pocket 33 rfl) rfl rfl ?_
            refine x_inv (As := [vI h, vI p]) (dat d_Sb_pocket 34 rfl) rfl c_Wo_leastOf l_Sb_392 (by decide) (rv_wo (by decide +kernel)) rfl rfl (Nat.le_of_ble_eq_true rfl) ?_
            refine sp_Wo_leastOf q0 (by omega) p0 (by omega) (L.2 h24).2.2.2 (fun v hv => ?_)
            show Wx g y_Sb_pocket Z K 73 [vR 0, vI n, vI b, vI p, vI h, vI m, vR q] [vI v] σ1
            refine x_iret (dat d_Sb_pocket 35 rfl) rfl ?_
            refine k _ σ1 (atB.yes c ?_) S e F
            unfold pocA
            rw [if_neg (fun z => z.elim (fun z => z ⟨⟨p0, p1⟩, q0, q1⟩) (fun z => z h24))]
            first
            | (rw [if_neg (by omega)]; exact ⟨v, hv, rfl⟩)
            | (rw [if_pos (by omega)]; exact hv)
          · refine x_aload_n (dat d_Sb_pocket 24 rfl) rfl rfl ?_
            refine x_getr (r := 171) (dat d_Sb_pocket 25 rfl) rfl f_Sb_62 (or_mk (by decide +kernel)) ?_
            refine x_iload (dat d_Sb_pocket 26 rfl) rfl ?_
            refine x_iload_n (dat d_Sb_pocket 27 rfl) rfl rfl ?_
            refine x_inv (As := [vI h, vI p]) (dat d_Sb_pocket 28 rfl) rfl c_Wo_mostOf l_Sb_389 (by decide) (rv_wo (by decide +kernel)) rfl rfl (Nat.le_of_ble_eq_true rfl) ?_
            refine sp_Wo_mostOf q0 (by omega) p0 (by omega) (L.2 h24).2.2.2 (fun v hv => ?_)
            show Wx g y_Sb_pocket Z K 60 [vR 0, vI n, vI b, vI p, vI h, vI m, vR q] [vI (if v < 0 then -1 else 264 - v)] σ1
            refine x_goto (tgt := 73) (dat d_Sb_pocket 29 rfl) (by decide) ?_
            refine x_iret (dat d_Sb_pocket 35 rfl) rfl ?_
            refine k _ σ1 (atB.yes c ?_) S e F
            unfold pocA
            rw [if_neg (fun z => z.elim (fun z => z ⟨⟨p0, p1⟩, q0, q1⟩) (fun z => z h24))]
            first
            | (rw [if_neg (by omega)]; exact ⟨v, hv, rfl⟩)
            | (rw [if_pos (by omega)]; exact hv)
        · show Wx g y_Sb_pocket Z K 40 [vR 0, vI n, vI b, vI p, vI h, vI m, vR q] [vI 0] σ1
          refine x_if_ne (tgt := 45) (dat d_Sb_pocket 19 rfl) (by decide) (fun h => absurd h (by decide)) (fun c_40 => ?_)
          refine x_iconst (dat d_Sb_pocket 20 rfl) (by decide) ?_
          refine x_iret (dat d_Sb_pocket 21 rfl) rfl ?_
          first
          | exact k _ σ1 (atB.yes c (by unfold pocA; rw [if_pos (Or.inr h24)])) S e F
          | exact no1 (fun z => by first | exact cc z.1 | exact cc z.2)
          | exact k _ σ (atB.no (fun z => c z.1)) H rfl (SbF.rfl σ)
          | exact k _ σ (atB.no c) H rfl (SbF.rfl σ)
      · show Wx g y_Sb_pocket Z K 31 [vR 0, vI n, vI b, vI p, vI h, vI m, vR q] [vI 0] σ
        refine x_if_eq (tgt := 43) (dat d_Sb_pocket 14 rfl) (by decide) (fun c_31 => ?_) (fun h => absurd h (by decide))
        refine x_iconst (dat d_Sb_pocket 20 rfl) (by decide) ?_
        refine x_iret (dat d_Sb_pocket 21 rfl) rfl ?_
        first
        | exact k _ σ1 (atB.yes c (by unfold pocA; rw [if_pos (Or.inr h24)])) S e F
        | exact no1 (fun z => by first | exact cc z.1 | exact cc z.2)
        | exact k _ σ (atB.no (fun z => c z.1)) H rfl (SbF.rfl σ)
        | exact k _ σ (atB.no c) H rfl (SbF.rfl σ)
    · show Wx g y_Sb_pocket Z K 21 [vR 0, vI n, vI b, vI p, vI h, vI m, vR q] [vI 0] σ
      refine x_if_eq (tgt := 43) (dat d_Sb_pocket 10 rfl) (by decide) (fun c_21 => ?_) (fun h => absurd h (by decide))
      refine x_iconst (dat d_Sb_pocket 20 rfl) (by decide) ?_
      refine x_iret (dat d_Sb_pocket 21 rfl) rfl ?_
      first
      | exact k _ σ1 (atB.yes c (by unfold pocA; rw [if_pos (Or.inr h24)])) S e F
      | exact no1 (fun z => by first | exact cc z.1 | exact cc z.2)
      | exact k _ σ (atB.no (fun z => c z.1)) H rfl (SbF.rfl σ)
      | exact k _ σ (atB.no c) H rfl (SbF.rfl σ)
def seaA (t b : Int → Int) (w r : Int) : Prop := if (¬ (0 ≤ w ∧ w ≤ 2) ∨ ¬ runT t ≤ 1024) ∨ (wct t b (runT t).toNat = 0 ∨ t 6 = 0) then r = -1 else if w = 0 then r = (scanMin (gpF (wHv t b (runT t).toNat) (t 6)) ((t 3).toNat * (t 6).toNat)).1 / t 6 else if w = 1 then r = (scanMin (gpF (wHv t b (runT t).toNat) (t 6)) ((t 3).toNat * (t 6).toNat)).1 % t 6 else r = (scanMin (gpF (wHv t b (runT t).toNat) (t 6)) ((t 3).toNat * (t 6).toNat)).2
theorem sp_Sb_search {g : xG} {K : Option MV → xS → Prop} {σ : xS} {a : Int → Int} {im : Nat → Int → Int} {n b w : Int} (H : SbR σ a im) (k : ∀ (r : Int) (σ' : xS), atB a n b (-1) (fun t b r => seaA t b w r) r → SbR σ' a im → σ' 122 = σ 122 → SbF σ' σ → K (some (vI r)) σ') : Mt g y_Sb_search [vR 0, vI n, vI b, vI w] σ K := by
  have no1 : ¬ (0 ≤ w ∧ w ≤ 2) → K (some (vI (-1))) σ := fun z => by
    by_cases c : (0 ≤ n ∧ n < a 0) ∧ (0 ≤ b ∧ b < a 1)
    · exact k _ σ (atB.yes c (by unfold seaA; rw [if_pos (Or.inl (Or.inl z))])) H rfl (SbF.rfl σ)
    · exact k _ σ (atB.no c) H rfl (SbF.rfl σ)
  refine x_enter 1 rfl rfl rfl (fun Z => ?_)
  show Wx g y_Sb_search Z K 0 [vR 0, vI n, vI b, vI w, vU] [] σ
  refine x_iload_n (dat d_Sb_search 0 rfl) rfl rfl ?_
  refine x_if_lt (tgt := 28) (dat d_Sb_search 1 rfl) (by decide) (fun c_1 => ?_) (fun c_1 => ?_)
  · refine x_iconst (dat d_Sb_search 14 rfl) (by decide) ?_
    refine x_iret (dat d_Sb_search 15 rfl) rfl ?_
    first
    | exact k _ σ1 (atB.yes c (by unfold seaA; rw [if_pos (Or.inr (Or.inl (by omega)))])) S e F
    | exact no1 (fun z => by omega)
    | exact k _ σ1 (atB.yes c (by unfold seaA; rw [if_pos (Or.inl (Or.inr h24))])) S e F
    | exact k _ σ (atB.no c) H rfl (SbF.rfl σ)
  · refine x_iload_n (dat d_Sb_search 2 rfl) rfl rfl ?_
    refine x_iconst (dat d_Sb_search 3 rfl) (by decide) ?_
    refine x_icmp_gt (tgt := 28) (dat d_Sb_search 4 rfl) (by decide) (fun c_6 => ?_) (fun c_6 => ?_)
    · refine x_iconst (dat d_Sb_search 14 rfl) (by decide) ?_
      refine x_iret (dat d_Sb_search 15 rfl) rfl ?_
      first
      | exact k _ σ1 (atB.yes c (by unfold seaA; rw [if_pos (Or.inr (Or.inl (by omega)))])) S e F
      | exact no1 (fun z => by omega)
      | exact k _ σ1 (atB.yes c (by unfold seaA; rw [if_pos (Or.inl (Or.inr h24))])) S e F
      | exact k _ σ (atB.no c) H rfl (SbF.rfl σ)
    · refine x_aload_n (dat d_Sb_search 5 rfl) rfl rfl ?_
      refine x_iload_n (dat d_Sb_search 6 rfl) rfl rfl ?_
      refine x_iload_n (dat d_Sb_search 7 rfl) rfl rfl ?_
      refine x_inv (As := [vI n, vI b]) (dat d_Sb_search 8 rfl) rfl c_Sb_lookAtWorlds l_Sb_377 (by decide) (rv_sb (by decide +kernel)) rfl rfl (Nat.le_of_ble_eq_true rfl) ?_
      refine sp_Sb_lookAt H (fun c => ?_) (fun σ1 c S L e F h24 => ?_) (fun σ1 c S e F h24 => ?_)
      · show Wx g y_Sb_search Z K 15 [vR 0, vI n, vI b, vI w, vU] [vI 0] σ
        refine x_if_eq (tgt := 28) (dat d_Sb_search 9 rfl) (by decide) (fun c_15 => ?_) (fun h => absurd h (by decide))
        refine x_iconst (dat d_Sb_search 14 rfl) (by decide) ?_
        refine x_iret (dat d_Sb_search 15 rfl) rfl ?_
        first
        | exact k _ σ1 (atB.yes c (by unfold seaA; rw [if_pos (Or.inr (Or.inl (by omega)))])) S e F
        | exact no1 (fun z => by omega)
        | exact k _ σ1 (atB.yes c (by unfold seaA; rw [if_pos (Or.inl (Or.inr h24))])) S e F
        | exact k _ σ (atB.no c) H rfl (SbF.rfl σ)
      · show Wx g y_Sb_search Z K 15 [vR 0, vI n, vI b, vI w, vU] [vI 1] σ1
        refine x_if_eq (tgt := 28) (dat d_Sb_search 9 rfl) (by decide) (fun h => absurd h (by decide)) (fun c_15 => ?_)
        refine x_aload_n (dat d_Sb_search 10 rfl) rfl rfl ?_
        refine x_getr (r := 171) (dat d_Sb_search 11 rfl) rfl f_Sb_62 (or_mk (by decide +kernel)) ?_
        refine x_geti (ji := 1) (v := wct (tw a n) (bk a b) (runT (tw a n)).toNat) (dat d_Sb_search 12 rfl) rfl f_Sb_380 (oi_mk (by decide +kernel)) (by exact (L.2 h24).1) ?_
        refine x_if_ne (tgt := 30) (dat d_Sb_search 13 rfl) (by decide) (fun c_25 => ?_) (fun c_25 => ?_)
        · refine x_aload_n (dat d_Sb_search 16 rfl) rfl rfl ?_
          refine x_getr (r := 1) (dat d_Sb_search 17 rfl) rfl f_Sb_10 (or_mk (by decide +kernel)) ?_
          refine x_iload_n (dat d_Sb_search 18 rfl) rfl rfl ?_
          refine x_inv (As := [vI n]) (dat d_Sb_search 19 rfl) rfl c_To_townAt l_Sb_127 (by decide) (rv_to (by decide +kernel)) rfl rfl (Nat.le_of_ble_eq_true rfl) ?_
          refine sp_townAt S.1 (fun cn => absurd c.1 cn) (fun q n0 n1 hq q30 hT hR => ?_)
          have h6 := hT.2.2.2.2.2.2.1
          have h3 := hT.2.2.2.1
          show Wx g y_Sb_search Z K 38 [vR 0, vI n, vI b, vI w, vU] [vR q] σ1
          refine x_astore (L' := [vR 0, vI n, vI b, vI w, vR q]) (dat d_Sb_search 20 rfl) (by decide) rfl rfl ?_
          refine x_aload (dat d_Sb_search 21 rfl) rfl ?_
          refine x_ifnull (dat d_Sb_search 22 rfl) ?_
          refine x_aload (dat d_Sb_search 23 rfl) rfl ?_
          refine x_geti (ji := 6) (v := tw a n 6) (dat d_Sb_search 24 rfl) rfl f_Sb_151 (tw_oi_6 hq) (by exact hR.1 6 (by decide) (by decide)) ?_
          refine x_if_ne (tgt := 55) (dat d_Sb_search 25 rfl) (by decide) (fun c_50 => ?_) (fun c_50 => ?_)
          · refine x_aload_n (dat d_Sb_search 28 rfl) rfl rfl ?_
            refine x_getr (r := 171) (dat d_Sb_search 29 rfl) rfl f_Sb_62 (or_mk (by decide +kernel)) ?_
            refine x_aload (dat d_Sb_search 30 rfl) rfl ?_
            refine x_inv (As := [vR q]) (dat d_Sb_search 31 rfl) rfl c_Wo_findSearch l_Sb_395 (by decide) (rv_wo (by decide +kernel)) rfl rfl (Nat.le_of_ble_eq_true rfl) ?_
            refine sp_Wo_findSearch (P := (tw a n 6).toNat) (Hr := (tw a n 3).toNat) hq hT hR (by omega) (by omega) (L.2 h24).2.2.2 (fun σ2 R hr2 r0 r1 F2 => ?_)
            have rn1 : R.1 ≠ -1 := by
              have hin := scanMin_in (gpF (wHv (tw a n) (bk a b) (runT (tw a n)).toNat) (tw a n 6)) ((tw a n 3).toNat * (tw a n 6).toNat)
              have hpos : 0 < (tw a n 3).toNat * (tw a n 6).toNat := Nat.mul_pos (by omega) (by omega)
              rw [← hr2] at hin
              omega
            have r1 := r1 rn1
            show Wx g y_Sb_search Z K 64 [vR 0, vI n, vI b, vI w, vR q] [] σ2
            refine x_aload_n (dat d_Sb_search 32 rfl) rfl rfl ?_
            refine x_getr (r := 171) (dat d_Sb_search 33 rfl) rfl f_Sb_62 (or_mk (by decide +kernel)) ?_
            refine x_getr (r := 172) (dat d_Sb_search 34 rfl) rfl f_Sb_398 (or_mk (by decide +kernel)) ?_
            refine x_iload_n (dat d_Sb_search 35 rfl) rfl rfl ?_
            refine x_iald (n := 3) (v := σ2 172 w) (dat d_Sb_search 36 rfl) (ai_mk (by decide +kernel)) (by omega) (by omega) rfl ?_
            refine x_iret (dat d_Sb_search 37 rfl) rfl ?_
            refine k _ σ2 (atB.yes c ?_) (S.same (fun o ho => F2 o (by omega)) (F2 171 (by decide)) (F2 173 (by decide))) (by rw [F2 122 (by decide)]; exact e) (fun o ho => by rw [F2 o (by omega)]; exact F o ho)
            unfold seaA
            rw [if_neg (by omega), ← hr2]
            rcases (show (w = 0 ∨ w = 1) ∨ w = 2 by omega) with (ew | ew) | ew
            · subst ew; rw [if_pos rfl]; exact r1.1
            · subst ew; rw [if_neg (by decide), if_pos rfl]; exact r1.2.1
            · subst ew; rw [if_neg (by decide), if_neg (by decide)]; exact r1.2.2
          · refine x_iconst (dat d_Sb_search 26 rfl) (by decide) ?_
            refine x_iret (dat d_Sb_search 27 rfl) rfl ?_
            exact k _ σ1 (atB.yes c (by unfold seaA; rw [if_pos (Or.inr (Or.inr (by omega)))])) S e F
        · refine x_iconst (dat d_Sb_search 14 rfl) (by decide) ?_
          refine x_iret (dat d_Sb_search 15 rfl) rfl ?_
          first
          | exact k _ σ1 (atB.yes c (by unfold seaA; rw [if_pos (Or.inr (Or.inl (by omega)))])) S e F
          | exact no1 (fun z => by omega)
          | exact k _ σ1 (atB.yes c (by unfold seaA; rw [if_pos (Or.inl (Or.inr h24))])) S e F
          | exact k _ σ (atB.no c) H rfl (SbF.rfl σ)
      · show Wx g y_Sb_search Z K 15 [vR 0, vI n, vI b, vI w, vU] [vI 0] σ1
        refine x_if_eq (tgt := 28) (dat d_Sb_search 9 rfl) (by decide) (fun c_15 => ?_) (fun h => absurd h (by decide))
        refine x_iconst (dat d_Sb_search 14 rfl) (by decide) ?_
        refine x_iret (dat d_Sb_search 15 rfl) rfl ?_
        first
        | exact k _ σ1 (atB.yes c (by unfold seaA; rw [if_pos (Or.inr (Or.inl (by omega)))])) S e F
        | exact no1 (fun z => by omega)
        | exact k _ σ1 (atB.yes c (by unfold seaA; rw [if_pos (Or.inl (Or.inr h24))])) S e F
        | exact k _ σ (atB.no c) H rfl (SbF.rfl σ)
