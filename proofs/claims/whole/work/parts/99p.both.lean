/-! both sides together: an answer is one, what holds between two calls, each call of both -/
theorem sp_Sb_feed2 {g : xG} {K : Option MV → xS → Prop} {σ : xS} {a : Int → Int} {im : Nat → Int → Int} {x0 x1 x2 x3 x4 : Int} (H : SbR σ a im) (kn : 600 < a 2 + 20 → K (some (vI (-1))) σ) (k : a 2 + 20 ≤ 600 → ∀ σ' : xS, SbR σ' (feedA a x0 x1 x2 x3 x4) im → σ' 122 = σ 122 → SbF σ' σ → K (some (vI (a 2 + 20))) σ') : Mt g y_Sb_feed [vR 0, vI x0, vI x1, vI x2, vI x3, vI x4] σ K := by
  have b2 := H.1.1.2.2
  have e3 : σ 1 3 = a 2 := H.1.2.1.1
  have fX : ∀ j : Int, i2b (fbA x0 x1 x2 x3 x4 j) = i2b (ishr (fbX x0 x1 x2 x3 x4 j) (24 - 8 * (j % 4))) := fun j => i2b_255 _
  have fT : ∀ m x : Int, m % 4 = 0 → fbX x0 x1 x2 x3 x4 m = x → fbX x0 x1 x2 x3 x4 (m + 1) = x → fbX x0 x1 x2 x3 x4 (m + 2) = x → fbX x0 x1 x2 x3 x4 (m + 3) = x → i2b (fbA x0 x1 x2 x3 x4 m) = i2b (ishr x 24) ∧ i2b (fbA x0 x1 x2 x3 x4 (m + 1)) = i2b (ishr x 16) ∧ i2b (fbA x0 x1 x2 x3 x4 (m + 2)) = i2b (ishr x 8) ∧ i2b (fbA x0 x1 x2 x3 x4 (m + 3)) = i2b (ishr x 0) := fun m x hm q0 q1 q2 q3 => by
    rw [fX, fX, fX, fX, q0, q1, q2, q3, show 24 - 8 * (m % 4) = 24 by omega, show 24 - 8 * ((m + 1) % 4) = 16 by omega, show 24 - 8 * ((m + 2) % 4) = 8 by omega, show 24 - 8 * ((m + 3) % 4) = 0 by omega]
    exact ⟨rfl, rfl, rfl, rfl⟩
  refine x_enter 0 rfl rfl rfl (fun Z => ?_)
  show Wx g y_Sb_feed Z K 0 [vR 0, vI x0, vI x1, vI x2, vI x3, vI x4] [] σ
  refine x_aload_n (dat d_Sb_feed 0 rfl) rfl rfl ?_
  refine x_getr (r := 1) (dat d_Sb_feed 1 rfl) rfl f_Sb_10 (or_mk (by decide +kernel)) ?_
  refine x_geti (ji := 3) (v := a 2) (dat d_Sb_feed 2 rfl) rfl f_Sb_69 (oi_mk (by decide +kernel)) (e3) ?_
  refine x_bipush (dat d_Sb_feed 3 rfl) (by decide) (by decide) ?_
  refine x_iadd (v := (a 2) + 20) (dat d_Sb_feed 4 rfl) rfl (by omega) ?_
  refine x_sipush (dat d_Sb_feed 5 rfl) (by decide) (by decide) ?_
  refine x_icmp_le (tgt := 18) (dat d_Sb_feed 6 rfl) (by decide) (fun c_13 => ?_) (fun c_13 => ?_)
  · refine x_aload_n (dat d_Sb_feed 9 rfl) rfl rfl ?_
    refine x_getr (r := 1) (dat d_Sb_feed 10 rfl) rfl f_Sb_10 (or_mk (by decide +kernel)) ?_
    refine x_iload_n (dat d_Sb_feed 11 rfl) rfl rfl ?_
    refine x_inv (As := [vI x0]) (dat d_Sb_feed 12 rfl) rfl c_To_write l_Sb_73 (by decide) (rv_to (by decide +kernel)) rfl rfl (Nat.le_of_ble_eq_true rfl) ?_
    refine sp_To_write e3 b2.1 (by omega) (fun σ1 u3 w1 wf1 wo1 wx1 => ?_)
    show Wx g y_Sb_feed Z K 26 [vR 0, vI x0, vI x1, vI x2, vI x3, vI x4] [] σ1
    refine x_aload_n (dat d_Sb_feed 13 rfl) rfl rfl ?_
    refine x_getr (r := 1) (dat d_Sb_feed 14 rfl) rfl f_Sb_10 (or_mk (by decide +kernel)) ?_
    refine x_iload_n (dat d_Sb_feed 15 rfl) rfl rfl ?_
    refine x_inv (As := [vI x1]) (dat d_Sb_feed 16 rfl) rfl c_To_write l_Sb_73 (by decide) (rv_to (by decide +kernel)) rfl rfl (Nat.le_of_ble_eq_true rfl) ?_
    refine sp_To_write u3 (by omega) (by omega) (fun σ2 v3 w2 wf2 wo2 wx2 => ?_)
    show Wx g y_Sb_feed Z K 34 [vR 0, vI x0, vI x1, vI x2, vI x3, vI x4] [] σ2
    refine x_aload_n (dat d_Sb_feed 17 rfl) rfl rfl ?_
    refine x_getr (r := 1) (dat d_Sb_feed 18 rfl) rfl f_Sb_10 (or_mk (by decide +kernel)) ?_
    refine x_iload_n (dat d_Sb_feed 19 rfl) rfl rfl ?_
    refine x_inv (As := [vI x2]) (dat d_Sb_feed 20 rfl) rfl c_To_write l_Sb_73 (by decide) (rv_to (by decide +kernel)) rfl rfl (Nat.le_of_ble_eq_true rfl) ?_
    refine sp_To_write v3 (by omega) (by omega) (fun σ3 t3 w3 wf3 wo3 wx3 => ?_)
    show Wx g y_Sb_feed Z K 42 [vR 0, vI x0, vI x1, vI x2, vI x3, vI x4] [] σ3
    refine x_aload_n (dat d_Sb_feed 21 rfl) rfl rfl ?_
    refine x_getr (r := 1) (dat d_Sb_feed 22 rfl) rfl f_Sb_10 (or_mk (by decide +kernel)) ?_
    refine x_iload (dat d_Sb_feed 23 rfl) rfl ?_
    refine x_inv (As := [vI x3]) (dat d_Sb_feed 24 rfl) rfl c_To_write l_Sb_73 (by decide) (rv_to (by decide +kernel)) rfl rfl (Nat.le_of_ble_eq_true rfl) ?_
    refine sp_To_write t3 (by omega) (by omega) (fun σ4 s3 w4 wf4 wo4 wx4 => ?_)
    show Wx g y_Sb_feed Z K 51 [vR 0, vI x0, vI x1, vI x2, vI x3, vI x4] [] σ4
    refine x_aload_n (dat d_Sb_feed 25 rfl) rfl rfl ?_
    refine x_getr (r := 1) (dat d_Sb_feed 26 rfl) rfl f_Sb_10 (or_mk (by decide +kernel)) ?_
    refine x_iload (dat d_Sb_feed 27 rfl) rfl ?_
    refine x_inv (As := [vI x4]) (dat d_Sb_feed 28 rfl) rfl c_To_write l_Sb_73 (by decide) (rv_to (by decide +kernel)) rfl rfl (Nat.le_of_ble_eq_true rfl) ?_
    refine sp_To_write s3 (by omega) (by omega) (fun σ5 r3 w5 wf5 wo5 wx5 => ?_)
    have r3 : σ5 1 3 = a 2 + 20 := by rw [r3]; omega
    show Wx g y_Sb_feed Z K 60 [vR 0, vI x0, vI x1, vI x2, vI x3, vI x4] [] σ5
    refine x_aload_n (dat d_Sb_feed 29 rfl) rfl rfl ?_
    refine x_getr (r := 1) (dat d_Sb_feed 30 rfl) rfl f_Sb_10 (or_mk (by decide +kernel)) ?_
    refine x_geti (ji := 3) (v := a 2 + 20) (dat d_Sb_feed 31 rfl) rfl f_Sb_69 (oi_mk (by decide +kernel)) (r3) ?_
    refine x_iret (dat d_Sb_feed 32 rfl) rfl ?_
    have p1 := wr_stp (σ1 := σ) (σ2 := σ1) (n := a 2) (m := 0) (f := fun j => i2b (fbA x0 x1 x2 x3 x4 j)) (fun i i0 i1 => by omega) (by simpa using w1) (fun i hi => wf1 i (by omega)) (by simpa using fT 0 x0 (by decide) rfl rfl rfl rfl)
    have p2 := wr_stp (σ2 := σ2) (n := a 2) (m := 4) p1 w2 wf2 (fT 4 x1 (by decide) rfl rfl rfl rfl)
    have p3 := wr_stp (σ2 := σ3) (n := a 2) (m := 8) p2 (by rw [show a 2 + 8 = a 2 + 4 + 4 by omega]; exact w3) (fun i hi => wf3 i (by omega)) (fT 8 x2 (by decide) rfl rfl rfl rfl)
    have p4 := wr_stp (σ2 := σ4) (n := a 2) (m := 12) p3 (by rw [show a 2 + 12 = a 2 + 4 + 4 + 4 by omega]; exact w4) (fun i hi => wf4 i (by omega)) (fT 12 x3 (by decide) rfl rfl rfl rfl)
    have p5 := wr_stp (σ2 := σ5) (n := a 2) (m := 16) p4 (by rw [show a 2 + 16 = a 2 + 4 + 4 + 4 + 4 by omega]; exact w5) (fun i hi => wf5 i (by omega)) (fT 16 x4 (by decide) rfl rfl rfl rfl)
    have fr : ∀ o : Nat, o ≠ 1 → o ≠ 2 → σ5 o = σ o := fun o h1 h2 => by rw [wx5 o h1 h2, wx4 o h1 h2, wx3 o h1 h2, wx2 o h1 h2, wx1 o h1 h2]
    have f1 : ∀ i : Int, i ≠ 3 → σ5 1 i = σ 1 i := fun i hi => by rw [wo5 i hi, wo4 i hi, wo3 i hi, wo2 i hi, wo1 i hi]
    have f2 : ∀ i : Int, i < a 2 → σ5 2 i = σ 2 i := fun i hi => by rw [wf5 i (by omega), wf4 i (by omega), wf3 i (by omega), wf2 i (by omega), wf1 i (by omega)]
    have eA : ∀ i : Int, i ≠ 2 → (i < 10 + a 2 ∨ 30 + a 2 ≤ i) → feedA a x0 x1 x2 x3 x4 i = a i := fun i h1 h2 => by unfold feedA; rw [if_neg h1, if_neg (by omega)]
    have e2 : feedA a x0 x1 x2 x3 x4 2 = a 2 + 20 := if_pos rfl
    have eB : ∀ j : Int, 0 ≤ j → j < 20 → feedA a x0 x1 x2 x3 x4 (10 + (a 2 + j)) = fbA x0 x1 x2 x3 x4 j := fun j j0 j1 => by
      unfold feedA
      rw [if_neg (by omega), if_pos (by omega), show 10 + (a 2 + j) - (10 + a 2) = j by omega]
    refine k (by omega) σ5 ⟨H.1.texts (fun i hi => eA i (by omega) (by omega)) (eA 0 (by decide) (by omega)) (eA 1 (by decide) (by omega)) (by rw [e2]; omega) ⟨by rw [e2, r3], by rw [f1 4 (by decide), eA 3 (by decide) (by omega)]; exact H.1.2.1.2.1, by rw [f1 5 (by decide), eA 4 (by decide) (by omega)]; exact H.1.2.1.2.2.1⟩ (f1 6 (by decide)) (f1 7 (by decide)) (fun i i0 i1 => ?_) (fun o h1 h2 => fr o (by omega) (by omega)), (H.2.1.same (fr 0 (by decide) (by decide)) (fr 171 (by decide) (by decide)) (fr 173 (by decide) (by decide))).rows (eA 0 (by decide) (by omega)) (eA 1 (by decide) (by omega)) (fun i hi => eA i (by omega) (by omega)), fun j hj => ?_⟩ (fr 122 (by decide) (by decide)) (fun o ho => fr o (by omega) (by omega))
    · rw [e2] at i1
      by_cases z : i < a 2
      · rw [eA (10 + i) (by omega) (by omega), f2 i z]
        exact H.1.2.2.1 i i0 z
      · have := p5 (i - a 2) (by omega) (by omega)
        have e := eB (i - a 2) (by omega) (by omega)
        rw [show a 2 + (i - a 2) = i by omega] at this e
        rw [e]
        exact ⟨iand_255 _, this⟩
    · rw [fr 122 (by decide) (by decide)]
      exact ⟨(H.2.2 j hj).1, fun w => ((H.2.2 j hj).2 w).same (fun q x y => fr q (by omega) (by omega))⟩
  · refine x_iconst (dat d_Sb_feed 7 rfl) (by decide) ?_
    refine x_iret (dat d_Sb_feed 8 rfl) rfl ?_
    exact kn (by omega)
theorem sp_Sb_end2 {g : xG} {K : Option MV → xS → Prop} {σ : xS} {a : Int → Int} {im : Nat → Int → Int} {n : Int} (H : SbR σ a im) (kn : ¬ (0 ≤ n ∧ n ≤ a 2) → K (some (vI (-1))) σ) (k : 0 ≤ n → n ≤ a 2 → ∀ σ' : xS, SbR σ' (st1 a 2 n) im → σ' 122 = σ 122 → SbF σ' σ → K (some (vI n)) σ') : Mt g y_Sb_end [vR 0, vI n] σ K := by
  have b2 := H.1.1.2.2
  have e3 : σ 1 3 = a 2 := H.1.2.1.1
  refine x_enter 0 rfl rfl rfl (fun Z => ?_)
  show Wx g y_Sb_end Z K 0 [vR 0, vI n] [] σ
  refine x_iload_n (dat d_Sb_end 0 rfl) rfl rfl ?_
  refine x_if_lt (tgt := 15) (dat d_Sb_end 1 rfl) (by decide) (fun c_1 => ?_) (fun c_1 => ?_)
  · refine x_iconst (dat d_Sb_end 7 rfl) (by decide) ?_
    refine x_iret (dat d_Sb_end 8 rfl) rfl ?_
    exact kn (by omega)
  · refine x_iload_n (dat d_Sb_end 2 rfl) rfl rfl ?_
    refine x_aload_n (dat d_Sb_end 3 rfl) rfl rfl ?_
    refine x_getr (r := 1) (dat d_Sb_end 4 rfl) rfl f_Sb_10 (or_mk (by decide +kernel)) ?_
    refine x_geti (ji := 3) (v := a 2) (dat d_Sb_end 5 rfl) rfl f_Sb_69 (oi_mk (by decide +kernel)) (e3) ?_
    refine x_icmp_le (tgt := 17) (dat d_Sb_end 6 rfl) (by decide) (fun c_12 => ?_) (fun c_12 => ?_)
    · refine x_aload_n (dat d_Sb_end 9 rfl) rfl rfl ?_
      refine x_getr (r := 1) (dat d_Sb_end 10 rfl) rfl f_Sb_10 (or_mk (by decide +kernel)) ?_
      refine x_iload_n (dat d_Sb_end 11 rfl) rfl rfl ?_
      refine x_puti (ji := 3) (x := (n)) (dat d_Sb_end 12 rfl) rfl f_Sb_69w (oi_mk (by decide +kernel)) (fun h => absurd h (by decide)) (by decide) ?_
      refine x_iload_n (dat d_Sb_end 13 rfl) rfl rfl ?_
      refine x_iret (dat d_Sb_end 14 rfl) rfl ?_
      have eA : ∀ i : Int, i ≠ 2 → st1 a 2 n i = a i := fun i h => st1_n h
      refine k (by omega) (by omega) _ ⟨H.1.texts (fun i hi => eA i (by omega)) (eA 0 (by decide)) (eA 1 (by decide)) (by rw [st1_s]; omega) ⟨by rw [up_s, st1_s], by rw [up_ni (by decide), eA 3 (by decide)]; exact H.1.2.1.2.1, by rw [up_ni (by decide), eA 4 (by decide)]; exact H.1.2.1.2.2.1⟩ (up_ni (by decide)) (up_ni (by decide)) (fun i i0 i1 => ?_) (fun o h1 h2 => up_ne (by omega)), (H.2.1.same (up_ne (by decide)) (up_ne (by decide)) (up_ne (by decide))).rows (eA 0 (by decide)) (eA 1 (by decide)) (fun i hi => eA i (by omega)), fun j hj => ?_⟩ (up_ne (by decide)) (fun o ho => up_ne (by omega))
      · rw [st1_s] at i1
        rw [eA (10 + i) (by omega), up_ne (by decide)]
        exact H.1.2.2.1 i i0 (by omega)
      · rw [up_ne (by decide)]
        exact ⟨(H.2.2 j hj).1, fun w => ((H.2.2 j hj).2 w).same (fun q x y => up_ne (by omega))⟩
    · refine x_iconst (dat d_Sb_end 7 rfl) (by decide) ?_
      refine x_iret (dat d_Sb_end 8 rfl) rfl ?_
      exact kn (by omega)
def Uq (P : Int → Prop) : Prop := ∀ r s : Int, P r → P s → r = s
theorem Uq_eq {x : Int} : Uq (fun r => r = x) := fun r s h1 h2 => by rw [h1, h2]
theorem Uq_ite {c : Prop} [Decidable c] {P Q : Int → Prop} (hp : Uq P) (hq : Uq Q) : Uq (fun r => if c then P r else Q r) := by
  intro r s h1 h2
  by_cases z : c
  · simp only [if_pos z] at h1 h2
    exact hp r s h1 h2
  · simp only [if_neg z] at h1 h2
    exact hq r s h1 h2
theorem Uq_msk {n : Nat} {f : Int → Bool} : Uq (fun r => Msk n r f) := fun r s h1 h2 => Msk.ext h1 h2 (fun _ _ _ => rfl)
theorem Uq_fst {q : Nat → Prop} {N : Nat} : Uq (fun r => FirstH q N r) := fun r s h1 h2 => FirstH.uniq h1 h2
theorem Uq_ex {P : Int → Prop} {F : Int → Int} (hp : Uq P) : Uq (fun r => ∃ v : Int, P v ∧ r = F v) := by
  rintro r s ⟨v, h1, rfl⟩ ⟨w, h2, rfl⟩
  rw [hp v w h1 h2]
theorem Uq_atT {a : Int → Int} {n d : Int} {Q : (Int → Int) → Int → Prop} (h : ∀ t, Uq (Q t)) : Uq (atT a n d Q) := by
  intro r s h1 h2
  by_cases z : 0 ≤ n ∧ n < a 0
  · exact h _ r s (h1.2 z.1 z.2) (h2.2 z.1 z.2)
  · rw [h1.1 z, h2.1 z]
theorem Uq_atB {a : Int → Int} {n m d : Int} {Q : (Int → Int) → (Int → Int) → Int → Prop} (h : ∀ t u, Uq (Q t u)) : Uq (atB a n m d Q) := by
  intro r s h1 h2
  by_cases z : (0 ≤ n ∧ n < a 0) ∧ (0 ≤ m ∧ m < a 1)
  · exact h _ _ r s (h1.2 z) (h2.2 z)
  · rw [h1.1 z, h2.1 z]
/-- the images of both -/
def ImR (σ : xS) (im : Nat → Int → Int) : Prop := ∀ k : Nat, k < 3 → σ 176 k = σ 122 k ∧ (σ 122 k = 1 → ∀ i : Int, 0 ≤ i → i < 972 → σ 175 (972 * ((k : Int) + 1) + i) = im k i)
theorem ImR.keep {σ σ' : xS} {im : Nat → Int → Int} (h : ImR σ im) (e1 : σ' 122 = σ 122) (e2 : σ' 176 = σ 176) (e3 : ∀ j : Int, 972 ≤ j → σ' 175 j = σ 175 j) : ImR σ' im := fun k hk => by
  rw [e1, e2]
  exact ⟨(h k hk).1, fun w i i0 i1 => by rw [e3 _ (by omega)]; exact (h k hk).2 w i i0 i1⟩
/-- what holds between two calls -/
def Inv (σ : xS) : Prop := ∃ (a : Int → Int) (im : Nat → Int → Int), SbR σ a im ∧ MoA σ a ∧ ImR σ im
theorem TolR.aok {σ : xS} {o : Nat} {a : Int → Int} (h : TolR σ o a) : AOk a := by
  obtain ⟨h1, h2, h3, h4, h5⟩ := h
  refine ⟨h1, fun n n0 n1 => ?_, fun n n0 n1 => ?_⟩
  · refine TownOk.congr (h4 n.toNat (by omega)).1 (fun i i0 i1 => ?_)
    rw [tw_at i0 i1]
    show a (610 + 156 * n + i) = a (610 + 156 * ((n.toNat : Nat) : Int) + i)
    rw [show ((n.toNat : Nat) : Int) = n by omega]
  · refine BookOk.congr (h5 n.toNat (by omega)).1 (fun i i0 i1 => ?_)
    rw [bk_at i0 i1]
    show a (922 + 25 * n + i) = a (922 + 25 * ((n.toNat : Nat) : Int) + i)
    rw [show ((n.toNat : Nat) : Int) = n by omega]
theorem SbR.mo {σ σ' : xS} {a : Int → Int} {im : Nat → Int → Int} (H : SbR σ a im) (e : ∀ o : Nat, o < 174 → σ' o = σ o) : SbR σ' a im := H.same (fun o ho => e o (by omega)) (e 171 (by decide)) (e 173 (by decide))
theorem MoA.sb {σ σ' : xS} {a : Int → Int} (A : MoA σ a) (F : SbF σ' σ) : MoA σ' a := ⟨fun i i0 i1 => by rw [F 175 (by decide)]; exact A.1 i i0 i1, A.2⟩
/-- one call of the law: the class answers, the twin answers alike, and all holds again -/
def Pr (g : xG) (yS yM : xM) (as : List MV) : Prop := ∀ σ : xS, Inv σ → Mt g yS (vR 0 :: as) σ (fun r σ1 => ∃ v : Int, r = some (vI v) ∧ Mt g yM (vR 174 :: as) σ1 (fun r2 σ2 => r2 = some (vI v) ∧ Inv σ2))
theorem pr_q {g : xG} {yS yM : xM} {as : List MV} {P : (Int → Int) → Int → Prop} (u : ∀ a, Uq (P a))
    (hS : ∀ (K : Option MV → xS → Prop) (σ : xS) (a : Int → Int) (im : Nat → Int → Int), SbR σ a im → (∀ (r : Int) (σ' : xS), P a r → SbR σ' a im → σ' 122 = σ 122 → SbF σ' σ → K (some (vI r)) σ') → Mt g yS (vR 0 :: as) σ K)
    (hM : ∀ (K : Option MV → xS → Prop) (σ : xS) (a : Int → Int), MoA σ a → (∀ (r : Int) (σ' : xS), P a r → MoA σ' a → MoF σ' σ → K (some (vI r)) σ') → Mt g yM (vR 174 :: as) σ K) : Pr g yS yM as := by
  rintro σ ⟨a, im, H, A, I⟩
  refine hS _ σ a im H (fun r σ1 p1 H1 e1 F1 => ⟨r, rfl, ?_⟩)
  refine hM _ σ1 a (A.sb F1) (fun r2 σ2 p2 A2 F2 => ⟨by rw [u a r2 r p2 p1], a, im, H1.mo (fun o ho => F2.2 o (by omega)), A2, ?_⟩)
  exact I.keep (by rw [F2.2 122 (by decide), e1]) (by rw [F2.2 176 (by decide), F1 176 (by decide)]) (fun j hj => by rw [F2.2 175 (by decide), F1 175 (by decide)])
theorem pr_at {g : xG} {n h p w : Int} : Pr g y_Sb_at y_Mo_at [vI n, vI h, vI p, vI w] := pr_q (P := fun a r => atT a n (-1000) (fun t r => atA t h p w r) r) (fun a => Uq_atT (fun t => by unfold atA; repeat' (first | exact Uq_eq | exact Uq_msk | exact Uq_fst | refine Uq_ex ?_ | refine Uq_ite ?_ ?_))) (fun K σ a im H k => sp_Sb_at H (fun r σ' p1 e => k r σ' p1 (H.tr e) (e 122 (by decide)) (SbF.tr e))) (fun K σ a A k => sp_Mo_at A k)
theorem pr_hour {g : xG} {n h w : Int} : Pr g y_Sb_hour y_Mo_hour [vI n, vI h, vI w] := pr_q (P := fun a r => atT a n (-1) (fun t r => hourA t h w r) r) (fun a => Uq_atT (fun t => by unfold hourA; repeat' (first | exact Uq_eq | exact Uq_msk | exact Uq_fst | refine Uq_ex ?_ | refine Uq_ite ?_ ?_))) (fun K σ a im H k => sp_Sb_hour H (fun r σ' p1 e => k r σ' p1 (H.tr e) (e 122 (by decide)) (SbF.tr e))) (fun K σ a A k => sp_Mo_hour A k)
theorem pr_run {g : xG} {n w : Int} : Pr g y_Sb_run y_Mo_run [vI n, vI w] := pr_q (P := fun a r => atT a n (-2) (fun t r => runA t w r) r) (fun a => Uq_atT (fun t => by unfold runA; repeat' (first | exact Uq_eq | exact Uq_msk | exact Uq_fst | refine Uq_ex ?_ | refine Uq_ite ?_ ?_))) (fun K σ a im H k => sp_Sb_run H (fun r σ' p1 e => k r σ' p1 (H.tr e) (e 122 (by decide)) (SbF.tr e))) (fun K σ a A k => sp_Mo_run A k)
theorem pr_fate {g : xG} {n p w : Int} : Pr g y_Sb_fate y_Mo_fate [vI n, vI p, vI w] := pr_q (P := fun a r => atT a n (-2) (fun t r => fateA t p w r) r) (fun a => Uq_atT (fun t => by unfold fateA; repeat' (first | exact Uq_eq | exact Uq_msk | exact Uq_fst | refine Uq_ex ?_ | refine Uq_ite ?_ ?_))) (fun K σ a im H k => sp_Sb_fate H (fun r σ' p1 e => k r σ' p1 (H.tr e) (e 122 (by decide)) (SbF.tr e))) (fun K σ a A k => sp_Mo_fate A k)
theorem pr_gloves {g : xG} {n : Int} : Pr g y_Sb_gloves y_Mo_gloves [vI n] := pr_q (P := fun a r => atT a n (-1) (fun t r => glvA t r) r) (fun a => Uq_atT (fun t => by unfold glvA; repeat' (first | exact Uq_eq | exact Uq_msk | exact Uq_fst | refine Uq_ex ?_ | refine Uq_ite ?_ ?_))) (fun K σ a im H k => sp_Sb_gloves H (fun r σ' p1 e => k r σ' p1 (H.tr e) (e 122 (by decide)) (SbF.tr e))) (fun K σ a A k => sp_Mo_gloves A k)
theorem pr_order {g : xG} {n w : Int} : Pr g y_Sb_order y_Mo_order [vI n, vI w] := pr_q (P := fun a r => atT a n (-1) (fun t r => orrA t w r) r) (fun a => Uq_atT (fun t => by unfold orrA; repeat' (first | exact Uq_eq | exact Uq_msk | exact Uq_fst | refine Uq_ex ?_ | refine Uq_ite ?_ ?_))) (fun K σ a im H k => sp_Sb_order H (fun r σ' p1 e => k r σ' p1 (H.tr e) (e 122 (by decide)) (SbF.tr e))) (fun K σ a A k => sp_Mo_order A k)
theorem pr_walk {g : xG} {n p h m w : Int} : Pr g y_Sb_walk y_Mo_walk [vI n, vI p, vI h, vI m, vI w] := pr_q (P := fun a r => atT a n (-1) (fun t r => wlkA t p h m w r) r) (fun a => Uq_atT (fun t => by unfold wlkA; repeat' (first | exact Uq_eq | exact Uq_msk | exact Uq_fst | refine Uq_ex ?_ | refine Uq_ite ?_ ?_))) (fun K σ a im H k => sp_Sb_walk H (fun r σ' p1 e => k r σ' p1 (H.tr e) (e 122 (by decide)) (SbF.tr e))) (fun K σ a A k => sp_Mo_walk A k)
theorem pr_feeds {g : xG} {n s : Int} : Pr g y_Sb_feeds y_Mo_feeds [vI n, vI s] := pr_q (P := fun a r => atT a n (-1) (fun t r => fdsA t s r) r) (fun a => Uq_atT (fun t => by unfold fdsA; repeat' (first | exact Uq_eq | exact Uq_msk | exact Uq_fst | refine Uq_ex ?_ | refine Uq_ite ?_ ?_))) (fun K σ a im H k => sp_Sb_feeds H (fun r σ' p1 e => k r σ' p1 (H.tr e) (e 122 (by decide)) (SbF.tr e))) (fun K σ a A k => sp_Mo_feeds A k)
theorem pr_peace {g : xG} {n : Int} : Pr g y_Sb_peace y_Mo_peace [vI n] := pr_q (P := fun a r => atT a n (-1) (fun t r => peaA t r) r) (fun a => Uq_atT (fun t => by unfold peaA; repeat' (first | exact Uq_eq | exact Uq_msk | exact Uq_fst | refine Uq_ex ?_ | refine Uq_ite ?_ ?_))) (fun K σ a im H k => sp_Sb_peace H (fun r σ' p1 e => k r σ' p1 (H.tr e) (e 122 (by decide)) (SbF.tr e))) (fun K σ a A k => sp_Mo_peace A k)
theorem pr_loaf {g : xG} {n p h m w : Int} : Pr g y_Sb_loaf y_Mo_loaf [vI n, vI p, vI h, vI m, vI w] := pr_q (P := fun a r => atT a n (-1000) (fun t r => loafA t p h m w r) r) (fun a => Uq_atT (fun t => by unfold loafA; repeat' (first | exact Uq_eq | exact Uq_msk | exact Uq_fst | refine Uq_ex ?_ | refine Uq_ite ?_ ?_))) (fun K σ a im H k => sp_Sb_loaf H (fun r σ' p1 e => k r σ' p1 (H.tr e) (e 122 (by decide)) (SbF.tr e))) (fun K σ a A k => sp_Mo_loaf A k)
theorem pr_wedding {g : xG} {n h c w : Int} : Pr g y_Sb_wedding y_Mo_wedding [vI n, vI h, vI c, vI w] := pr_q (P := fun a r => atT a n (-1) (fun t r => wedA t h c w r) r) (fun a => Uq_atT (fun t => by unfold wedA; repeat' (first | exact Uq_eq | exact Uq_msk | exact Uq_fst | refine Uq_ex ?_ | refine Uq_ite ?_ ?_))) (fun K σ a im H k => sp_Sb_wedding H (fun r σ' p1 e => k r σ' p1 (H.tr e) (e 122 (by decide)) (SbF.tr e))) (fun K σ a A k => sp_Mo_wedding A k)
theorem pr_stays {g : xG} {n p w : Int} : Pr g y_Sb_stays y_Mo_stays [vI n, vI p, vI w] := pr_q (P := fun a r => atT a n (-1) (fun t r => styA t p w r) r) (fun a => Uq_atT (fun t => by unfold styA; repeat' (first | exact Uq_eq | exact Uq_msk | exact Uq_fst | refine Uq_ex ?_ | refine Uq_ite ?_ ?_))) (fun K σ a im H k => sp_Sb_stays H (fun r σ' p1 e => k r σ' p1 (H.tr e) (e 122 (by decide)) (SbF.tr e))) (fun K σ a A k => sp_Mo_stays A k)
theorem pr_painted {g : xG} {n p h w : Int} : Pr g y_Sb_painted y_Mo_painted [vI n, vI p, vI h, vI w] := pr_q (P := fun a r => atT a n (-2) (fun t r => ptdA t p h w r) r) (fun a => Uq_atT (fun t => by unfold ptdA; repeat' (first | exact Uq_eq | exact Uq_msk | exact Uq_fst | refine Uq_ex ?_ | refine Uq_ite ?_ ?_))) (fun K σ a im H k => sp_Sb_painted H (fun r σ' p1 e => k r σ' p1 (H.tr e) (e 122 (by decide)) (SbF.tr e))) (fun K σ a A k => sp_Mo_painted A k)
theorem pr_fever {g : xG} {n p h o : Int} : Pr g y_Sb_fever y_Mo_fever [vI n, vI p, vI h, vI o] := pr_q (P := fun a r => atT a n (-2) (fun t r => fevA t p h o r) r) (fun a => Uq_atT (fun t => by unfold fevA; repeat' (first | exact Uq_eq | exact Uq_msk | exact Uq_fst | refine Uq_ex ?_ | refine Uq_ite ?_ ?_))) (fun K σ a im H k => sp_Sb_fever H (fun r σ' p1 e => k r σ' p1 (H.tr e) (e 122 (by decide)) (SbF.tr e))) (fun K σ a A k => sp_Mo_fever A k)
theorem pr_drawn {g : xG} {n p s x : Int} : Pr g y_Sb_drawn y_Mo_drawn [vI n, vI p, vI s, vI x] := pr_q (P := fun a r => atT a n (-1) (fun t r => drwA t p s x r) r) (fun a => Uq_atT (fun t => by unfold drwA; repeat' (first | exact Uq_eq | exact Uq_msk | exact Uq_fst | refine Uq_ex ?_ | refine Uq_ite ?_ ?_))) (fun K σ a im H k => sp_Sb_drawn H (fun r σ' p1 e => k r σ' p1 (H.tr e) (e 122 (by decide)) (SbF.tr e))) (fun K σ a A k => sp_Mo_drawn A k)
theorem pr_news {g : xG} {n p o : Int} : Pr g y_Sb_news y_Mo_news [vI n, vI p, vI o] := pr_q (P := fun a r => atT a n (-1) (fun t r => nwsA t p o r) r) (fun a => Uq_atT (fun t => by unfold nwsA; repeat' (first | exact Uq_eq | exact Uq_msk | exact Uq_fst | refine Uq_ex ?_ | refine Uq_ite ?_ ?_))) (fun K σ a im H k => sp_Sb_news H (fun r σ' p1 e => k r σ' p1 (H.tr e) (e 122 (by decide)) (SbF.tr e))) (fun K σ a A k => sp_Mo_news A k)
theorem pr_aid {g : xG} {n p : Int} : Pr g y_Sb_aid y_Mo_aid [vI n, vI p] := pr_q (P := fun a r => atT a n (-1) (fun t r => aidA t p r) r) (fun a => Uq_atT (fun t => by unfold aidA; repeat' (first | exact Uq_eq | exact Uq_msk | exact Uq_fst | refine Uq_ex ?_ | refine Uq_ite ?_ ?_))) (fun K σ a im H k => sp_Sb_aid H (fun r σ' p1 e => k r σ' p1 (H.tr e) (e 122 (by decide)) (SbF.tr e))) (fun K σ a A k => sp_Mo_aid A k)
theorem pr_hunger {g : xG} {n s : Int} : Pr g y_Sb_hunger y_Mo_hunger [vI n, vI s] := pr_q (P := fun a r => atT a n (-1) (fun t r => hngA t s r) r) (fun a => Uq_atT (fun t => by unfold hngA; repeat' (first | exact Uq_eq | exact Uq_msk | exact Uq_fst | refine Uq_ex ?_ | refine Uq_ite ?_ ?_))) (fun K σ a im H k => sp_Sb_hunger H (fun r σ' p1 e => k r σ' p1 (H.tr e) (e 122 (by decide)) (SbF.tr e))) (fun K σ a A k => sp_Mo_hunger A k)
theorem pr_swap {g : xG} {n w : Int} : Pr g y_Sb_swap y_Mo_swap [vI n, vI w] := pr_q (P := fun a r => atT a n (-1) (fun t r => swaA t w r) r) (fun a => Uq_atT (fun t => by unfold swaA; repeat' (first | exact Uq_eq | exact Uq_msk | exact Uq_fst | refine Uq_ex ?_ | refine Uq_ite ?_ ?_))) (fun K σ a im H k => sp_Sb_swap H (fun r σ' p1 e => k r σ' p1 (H.tr e) (e 122 (by decide)) (SbF.tr e))) (fun K σ a A k => sp_Mo_swap A k)
theorem pr_wed {g : xG} {n s : Int} : Pr g y_Sb_wed y_Mo_wed [vI n, vI s] := pr_q (P := fun a r => atT a n (-1) (fun t r => wddA t s r) r) (fun a => Uq_atT (fun t => by unfold wddA; repeat' (first | exact Uq_eq | exact Uq_msk | exact Uq_fst | refine Uq_ex ?_ | refine Uq_ite ?_ ?_))) (fun K σ a im H k => sp_Sb_wed H (fun r σ' p1 e => k r σ' p1 (H.tr e) (e 122 (by decide)) (SbF.tr e))) (fun K σ a A k => sp_Mo_wed A k)
theorem pr_tunnel {g : xG} {n h m s : Int} : Pr g y_Sb_tunnel y_Mo_tunnel [vI n, vI h, vI m, vI s] := pr_q (P := fun a r => atT a n (if s = 0 then -1 else -1000) (fun t r => tunA t h m s r) r) (fun a => Uq_atT (fun t => by unfold tunA; repeat' (first | exact Uq_eq | exact Uq_msk | exact Uq_fst | refine Uq_ex ?_ | refine Uq_ite ?_ ?_))) (fun K σ a im H k => sp_Sb_tunnel H (fun r σ' p1 e => k r σ' p1 (H.tr e) (e 122 (by decide)) (SbF.tr e))) (fun K σ a A k => sp_Mo_tunnel A k)
theorem pr_richest {g : xG} {n l : Int} : Pr g y_Sb_richest y_Mo_richest [vI n, vI l] := pr_q (P := fun a r => atT a n (-1) (fun t r => rchA t l r) r) (fun a => Uq_atT (fun t => by unfold rchA; repeat' (first | exact Uq_eq | exact Uq_msk | exact Uq_fst | refine Uq_ex ?_ | refine Uq_ite ?_ ?_))) (fun K σ a im H k => sp_Sb_richest H (fun r σ' p1 e => k r σ' p1 (H.tr e) (e 122 (by decide)) (SbF.tr e))) (fun K σ a A k => sp_Mo_richest A k)
theorem pr_miser {g : xG} {n w : Int} : Pr g y_Sb_miser y_Mo_miser [vI n, vI w] := pr_q (P := fun a r => atT a n (-2) (fun t r => msrA t w r) r) (fun a => Uq_atT (fun t => by unfold msrA; repeat' (first | exact Uq_eq | exact Uq_msk | exact Uq_fst | refine Uq_ex ?_ | refine Uq_ite ?_ ?_))) (fun K σ a im H k => sp_Sb_miser H (fun r σ' p1 e => k r σ' p1 (H.tr e) (e 122 (by decide)) (SbF.tr e))) (fun K σ a A k => sp_Mo_miser A k)
theorem pr_town {g : xG} {n w : Int} : Pr g y_Sb_town y_Mo_town [vI n, vI w] := pr_q (P := fun a r => atT a n (-1) (fun t r => r = townA t w) r) (fun a => Uq_atT (fun t => Uq_eq)) (fun K σ a im H k => sp_Sb_town H (fun r p1 => k r σ p1 H rfl (SbF.rfl σ))) (fun K σ a A k => sp_Mo_town A k)
theorem pr_person {g : xG} {n p w : Int} : Pr g y_Sb_person y_Mo_person [vI n, vI p, vI w] := pr_q (P := fun a r => atT a n (-1) (fun t r => r = personA t p w) r) (fun a => Uq_atT (fun t => Uq_eq)) (fun K σ a im H k => sp_Sb_person H (fun r p1 => k r σ p1 H rfl (SbF.rfl σ))) (fun K σ a A k => sp_Mo_person A k)
theorem pr_worlds {g : xG} {n m w : Int} : Pr g y_Sb_worlds y_Mo_worlds [vI n, vI m, vI w] := pr_q (P := fun a r => atB a n m (-1) (fun t u r => wldA t u w r) r) (fun a => Uq_atB (fun t u => by unfold wldA; repeat' (first | exact Uq_eq | exact Uq_msk | exact Uq_fst | refine Uq_ex ?_ | refine Uq_ite ?_ ?_))) (fun K σ a im H k => sp_Sb_worlds H k) (fun K σ a A k => sp_Mo_worlds A k)
theorem pr_pocket {g : xG} {n m p h w : Int} : Pr g y_Sb_pocket y_Mo_pocket [vI n, vI m, vI p, vI h, vI w] := pr_q (P := fun a r => atB a n m (-1) (fun t u r => pocA t u p h w r) r) (fun a => Uq_atB (fun t u => by unfold pocA; repeat' (first | exact Uq_eq | exact Uq_msk | exact Uq_fst | refine Uq_ex ?_ | refine Uq_ite ?_ ?_))) (fun K σ a im H k => sp_Sb_pocket H k) (fun K σ a A k => sp_Mo_pocket A k)
theorem pr_search {g : xG} {n m w : Int} : Pr g y_Sb_search y_Mo_search [vI n, vI m, vI w] := pr_q (P := fun a r => atB a n m (-1) (fun t u r => seaA t u w r) r) (fun a => Uq_atB (fun t u => by unfold seaA; repeat' (first | exact Uq_eq | exact Uq_msk | exact Uq_fst | refine Uq_ex ?_ | refine Uq_ite ?_ ?_))) (fun K σ a im H k => sp_Sb_search H k) (fun K σ a A k => sp_Mo_search A k)
theorem pr_note {g : xG} {n j w : Int} : Pr g y_Sb_note y_Mo_note [vI n, vI j, vI w] := pr_q (P := fun a r => (¬ (0 ≤ n ∧ n < a 1) → r = -2) ∧ (0 ≤ n → n < a 1 → r = noteA (bk a n) j w))
  (fun a r s h1 h2 => by
    by_cases z : 0 ≤ n ∧ n < a 1
    · rw [h1.2 z.1 z.2, h2.2 z.1 z.2]
    · rw [h1.1 z, h2.1 z]) (fun K σ a im H k => sp_Sb_note H (fun r p1 p2 => k r σ ⟨p1, p2⟩ H rfl (SbF.rfl σ))) (fun K σ a A k => sp_Mo_note A (fun r σ' p1 p2 A2 F2 => k r σ' ⟨p1, p2⟩ A2 F2))
theorem pr_count {g : xG} {s : Int} : Pr g y_Sb_count y_Mo_count [vI s] := by
  rintro σ ⟨a, im, H, A, I⟩
  exact sp_Sb_count H ⟨_, rfl, sp_Mo_count A ⟨rfl, a, im, H, A, I⟩⟩
theorem pr_fault {g : xG} {w : Int} : Pr g y_Sb_fault y_Mo_fault [vI w] := by
  rintro σ ⟨a, im, H, A, I⟩
  exact sp_Sb_fault H ⟨_, rfl, sp_Mo_fault A ⟨rfl, a, im, H, A, I⟩⟩
theorem pr_feed {g : xG} {x0 x1 x2 x3 x4 : Int} : Pr g y_Sb_feed y_Mo_feed [vI x0, vI x1, vI x2, vI x3, vI x4] := by
  rintro σ ⟨a, im, H, A, I⟩
  refine sp_Sb_feed2 H (fun c1 => ⟨_, rfl, ?_⟩) (fun c1 σ1 H1 e1 F1 => ⟨_, rfl, ?_⟩)
  · exact sp_Mo_feed A (fun _ => ⟨rfl, a, im, H, A, I⟩) (fun c2 => absurd c2 (by omega))
  · refine sp_Mo_feed (A.sb F1) (fun c2 => absurd c2 (by omega)) (fun _ σ2 A2 T => ⟨rfl, _, im, H1.mo (fun o ho => T.1 o (by omega)), A2, ?_⟩)
    exact I.keep (by rw [T.1 122 (by omega), e1]) (by rw [T.1 176 (by omega), F1 176 (by decide)]) (fun j hj => by rw [T.2 j hj, F1 175 (by decide)])
theorem pr_end {g : xG} {n : Int} : Pr g y_Sb_end y_Mo_end [vI n] := by
  rintro σ ⟨a, im, H, A, I⟩
  refine sp_Sb_end2 H (fun c1 => ⟨_, rfl, ?_⟩) (fun c1 c2 σ1 H1 e1 F1 => ⟨_, rfl, ?_⟩)
  · exact sp_Mo_end A (fun _ => ⟨rfl, a, im, H, A, I⟩) (fun d1 d2 => absurd ⟨d1, d2⟩ c1)
  · refine sp_Mo_end (A.sb F1) (fun d1 => absurd ⟨c1, c2⟩ d1) (fun _ _ σ2 A2 f1 f2 => ⟨rfl, _, im, H1.mo (fun o ho => f1 o (by omega)), A2, ?_⟩)
    exact I.keep (by rw [f1 122 (by decide), e1]) (by rw [f1 176 (by decide), F1 176 (by decide)]) (fun j hj => by rw [f2 j hj, F1 175 (by decide)])
theorem pr_text {g : xG} {s n : Int} : Pr g y_Sb_text y_Mo_text [vI s, vI n] := by
  rintro σ ⟨a, im, H, A, I⟩
  refine sp_Sb_text H (fun σ1 H1 e1 F1 => ⟨_, rfl, ?_⟩)
  refine sp_Mo_text (A.sb F1) (fun i i0 i1 => (H.1.2.2.1 i i0 i1).1) H1.1.aok (fun σ2 A2 T => ⟨rfl, _, im, H1.mo (fun o ho => T.1 o (by omega)), A2, ?_⟩)
  exact I.keep (by rw [T.1 122 (by omega), e1]) (by rw [T.1 176 (by omega), F1 176 (by decide)]) (fun j hj => by rw [T.2 j hj, F1 175 (by decide)])
theorem pr_image {g : xG} {n : Int} : Pr g y_Sb_image y_Mo_image [vI n] := by
  rintro σ ⟨a, im, H, A, I⟩
  refine sp_Sb_image H (fun c1 => ⟨_, rfl, ?_⟩) (fun c1 c2 σ1 H1 e1 F1 => ⟨_, rfl, ?_⟩)
  · exact sp_Mo_image A (fun _ => ⟨rfl, a, im, H, A, I⟩) (fun d1 d2 => absurd ⟨d1, d2⟩ c1)
  · refine sp_Mo_image (A.sb F1) (fun d1 => absurd ⟨c1, c2⟩ d1) (fun _ _ σ2 f1 f2 f3 => ⟨rfl, a, setIm im n a, H1.mo (fun o ho => f3 o (by omega) (by omega)), ⟨fun i i0 i1 => ?_, A.2⟩, fun k hk => ?_⟩)
    · rw [f2 i, if_neg (by omega), F1 175 (by decide)]
      exact A.1 i i0 i1
    · have o1 := I k hk
      rw [f1 k, f3 122 (by decide) (by decide), e1 k, F1 176 (by decide)]
      by_cases z : (k : Int) = n
      · have ej : setIm im n a k = a := if_pos z
        rw [if_pos z, if_pos z, ej]
        refine ⟨rfl, fun _ i i0 i1 => ?_⟩
        rw [f2, if_pos (by rw [z]; omega), z, show 972 * (n + 1) + i - 972 * (n + 1) = i by omega]
      · have ej : setIm im n a k = im k := if_neg z
        rw [if_neg z, if_neg z, ej]
        refine ⟨o1.1, fun w i i0 i1 => ?_⟩
        rw [f2, if_neg (by omega), F1 175 (by decide)]
        exact o1.2 w i i0 i1
theorem pr_again {g : xG} {n : Int} : Pr g y_Sb_again y_Mo_again [vI n] := by
  rintro σ ⟨a, im, H, A, I⟩
  refine sp_Sb_again H (fun c1 => ⟨_, rfl, ?_⟩) (fun c1 c2 c3 σ1 H1 e1 F1 => ⟨_, rfl, ?_⟩)
  · refine sp_Mo_again (fun _ => ⟨rfl, a, im, H, A, I⟩) (fun d1 d2 d3 => absurd ?_ c1)
    have o1 := (I n.toNat (by omega)).1
    have o2 := (H.2.2 n.toNat (by omega)).1
    rw [show ((n.toNat : Nat) : Int) = n by omega] at o1 o2
    refine ⟨d1, d2, ?_⟩
    rcases o2 with q | q
    · rw [o1, q] at d3; exact absurd rfl d3
    · exact q
  · have o1 := I n.toNat (by omega)
    rw [show ((n.toNat : Nat) : Int) = n by omega] at o1
    have e6 : σ1 176 n = 1 := by rw [F1 176 (by decide), o1.1, c3]
    refine sp_Mo_again (fun d1 => absurd ⟨c1, c2, by rw [e6]; decide⟩ d1) (fun _ _ _ σ2 f1 f2 => ⟨rfl, im n.toNat, im, H1.mo (fun o ho => f2 o (by omega)), ⟨fun i i0 i1 => ?_, H1.1.aok⟩, ?_⟩)
    · rw [f1 i, if_pos ⟨i0, i1⟩, F1 175 (by decide)]
      exact o1.2 c3 i i0 i1
    · exact I.keep (by rw [f2 122 (by decide), e1]) (by rw [f2 176 (by decide), F1 176 (by decide)]) (fun j hj => by rw [f1 j, if_neg (by omega), F1 175 (by decide)])
