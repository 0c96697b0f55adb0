/-! the twin's reader: people, quarrels, errands */ -/
def RwE (σ : xS) (r : Int → Int) : Prop := ∀ i : Int, 0 ≤ i → i < 190 → σ 177 i = r i
def LnF (σ' σ : xS) : Prop := (∀ i : Int, (i < 3 ∨ 10 < i) → σ' 174 i = σ 174 i) ∧ (∀ j : Int, j ≠ 3 → j ≠ 4 → σ' 175 j = σ 175 j) ∧ ∀ o : Nat, o ≠ 174 → o ≠ 175 → o ≠ 177 → σ' o = σ o
theorem RwE.st {σ : xS} {r : Int → Int} (h : RwE σ r) (j v : Int) : RwE (up σ 177 j v) (st1 r j v) := fun i i0 i1 => by
  by_cases z : i = j
  · rw [z, up_s, st1_s]
  · rw [up_ni (Ne.symm z), st1_n z]; exact h i i0 i1
theorem RwE.same {σ σ' : xS} {r : Int → Int} (h : RwE σ r) (e : σ' 177 = σ 177) : RwE σ' r := fun i i0 i1 => by rw [e]; exact h i i0 i1
theorem BnR.same {σ σ' : xS} {s : Int} (h : BnR σ s) (e : σ' 177 = σ 177) : BnR σ' s := by unfold BnR at h ⊢; rw [e]; exact h
theorem BnR.st {σ : xS} {s j v : Int} (h : BnR σ s) (hv : (s = 0 → ((j = 0 ∨ j = 1) → 2 ≤ v ∧ v ≤ 6) ∧ (j = 6 → 0 ≤ v ∧ v ≤ 8) ∧ (j = 7 → 0 ≤ v ∧ v ≤ 6)) ∧ (s = 1 → j = 0 → 0 ≤ v ∧ v ≤ 8)) : BnR (up σ 177 j v) s := by
  have g : ∀ i : Int, (j = i ∧ up σ 177 j v 177 i = v) ∨ (j ≠ i ∧ up σ 177 j v 177 i = σ 177 i) := fun i => by
    by_cases z : j = i
    · rw [z]; exact Or.inl ⟨rfl, up_s⟩
    · exact Or.inr ⟨z, up_ni z⟩
  have g0 := g 0
  have g1 := g 1
  have g6 := g 6
  have g7 := g 7
  refine ⟨fun hs => ?_, fun hs => ?_⟩
  · have h1 := h.1 hs
    have h2 := hv.1 hs
    omega
  · have h1 := h.2 hs
    have h2 := hv.2 hs
    omega
theorem LnF.rfl (σ : xS) : LnF σ σ := ⟨fun _ _ => Eq.refl _, fun _ _ _ => Eq.refl _, fun _ _ _ _ => Eq.refl _⟩
theorem LnF.trans {σ σ' σ'' : xS} (h : LnF σ' σ) (h2 : LnF σ'' σ') : LnF σ'' σ := ⟨fun i hi => by rw [h2.1 i hi]; exact h.1 i hi, fun j a b => by rw [h2.2.1 j a b]; exact h.2.1 j a b, fun o a b c => by rw [h2.2.2 o a b c]; exact h.2.2 o a b c⟩
theorem RyF.ln {σ σ' : xS} (h : RyF σ' σ) : LnF σ' σ := ⟨h.1, h.2.1, fun o a b _ => h.2.2 o a b⟩
theorem LnF.row {σ σ' : xS} (h : LnF σ' σ) (j v : Int) : LnF (up σ' 177 j v) σ := ⟨fun i hi => by rw [up_ne (by decide)]; exact h.1 i hi, fun i a b => by rw [up_ne (by decide)]; exact h.2.1 i a b, fun o a b c => by rw [up_ne c]; exact h.2.2 o a b c⟩
section
variable {g : xG} {K : Option MV → xS → Prop} {σ σ0 : xS} {T : Int → Int} {n : Int} {x : Rx}
theorem RX.r177 {j v : Int} (H : RX σ T n x) : RX (up σ 177 j v) T n x := H.row (by decide) (by decide)
/-- a further person or quarrel, when there are too many -/
def mrX (b : Bool) (a : Int) (x : Rx) : Rx := if b = true then x else alX 3 a x
theorem sp_Mo_personLine {mn a_ q1 : Int} {fp : Int × Int} (H : RX σ T n (false, q1, fp)) (B : BnR σ 0) (m0 : 0 ≤ mn) (m1 : mn ≤ 3) (k : ∀ (σ' : xS) (x0 : Rx), x0 = mrX (decide (σ 177 6 < 8)) a_ (false, q1, fp) → RX σ' T n (nuX T n 0 30 (nuX T n 0 35 x0)) → σ' 174 9 = σ 174 9 → σ' 174 10 = imax (σ 174 10) (nuV T n 0 35 x0) → BnR σ' 0 → (σ 177 6 < 8 → ∀ r : Int → Int, RwE σ r → RwE σ' (st1 (st1 (st1 (st1 r (20 + 17 * σ 177 6) mn) (21 + 17 * σ 177 6) (nuV T n 0 35 x0)) (22 + 17 * σ 177 6) (nuV T n 0 30 (nuX T n 0 35 x0))) 6 (σ 177 6 + 1))) → LnF σ' σ → K none σ') : Mt g y_Mo_personLine [vR 174, vI mn, vI a_] σ K := by
  have b6 := (B.1 rfl).2.1
  obtain ⟨pp, hp⟩ : ∃ pp : Int, pp = σ 177 6 := ⟨_, rfl⟩
  rw [← hp] at b6 k
  by_cases hm : pp < 8
  · have k := fun σ' => k σ' (false, q1, fp) (by rw [decide_eq_true hm]; rfl)
    refine x_enter 4 rfl rfl rfl (fun Z => ?_)
    show Wx g y_Mo_personLine Z K 0 [vR 174, vI mn, vI a_, vU, vU, vU, vU] [] σ
    refine x_aload_n (dat d_Mo_personLine 0 rfl) rfl rfl ?_
    refine x_getr (r := 177) (dat d_Mo_personLine 1 rfl) rfl f_Mo_17 (or_mk (by decide +kernel)) ?_
    refine x_bipush (dat d_Mo_personLine 2 rfl) (by decide) (by decide) ?_
    refine x_iald (n := 190) (v := pp) (dat d_Mo_personLine 3 rfl) (ai_mk (by decide +kernel)) (by omega) (by omega) (hp.symm) ?_
    refine x_bipush (dat d_Mo_personLine 4 rfl) (by decide) (by decide) ?_
    refine x_icmp_ge (tgt := 16) (dat d_Mo_personLine 5 rfl) (by decide) (fun c_9 => (by omega)) (fun c_9 => ?_)
    refine x_iconst (dat d_Mo_personLine 6 rfl) (by decide) ?_
    refine x_goto (tgt := 17) (dat d_Mo_personLine 7 rfl) (by decide) ?_
    refine x_istore_n (L' := [vR 174, vI mn, vI a_, vI 1, vU, vU, vU]) (dat d_Mo_personLine 9 rfl) rfl (by decide) rfl rfl ?_
    refine x_iload_n (dat d_Mo_personLine 10 rfl) rfl rfl ?_
    refine x_if_ne (tgt := 28) (dat d_Mo_personLine 11 rfl) (by decide) (fun c_19 => ?_) (fun h => absurd h (by decide))
    refine x_bipush (dat d_Mo_personLine 16 rfl) (by decide) (by decide) ?_
    refine x_bipush (dat d_Mo_personLine 17 rfl) (by decide) (by decide) ?_
    refine x_iload_n (dat d_Mo_personLine 18 rfl) rfl rfl ?_
    refine x_if_eq (tgt := 46) (dat d_Mo_personLine 19 rfl) (by decide) (fun h => absurd h (by decide)) (fun c_33 => ?_)
    refine x_aload_n (dat d_Mo_personLine 20 rfl) rfl rfl ?_
    refine x_getr (r := 177) (dat d_Mo_personLine 21 rfl) rfl f_Mo_17 (or_mk (by decide +kernel)) ?_
    refine x_bipush (dat d_Mo_personLine 22 rfl) (by decide) (by decide) ?_
    refine x_iald (n := 190) (v := pp) (dat d_Mo_personLine 23 rfl) (ai_mk (by decide +kernel)) (by omega) (by omega) (hp.symm) ?_
    refine x_goto (tgt := 47) (dat d_Mo_personLine 24 rfl) (by decide) ?_
    refine x_imul (v := 17 * pp) (dat d_Mo_personLine 26 rfl) (by omega) (by omega) ?_
    refine x_iadd (v := 20 + (17 * pp)) (dat d_Mo_personLine 27 rfl) rfl (by omega) ?_
    refine x_istore (L' := [vR 174, vI mn, vI a_, vI 1, vI (20 + (17 * pp)), vU, vU]) (dat d_Mo_personLine 28 rfl) (by decide) rfl rfl ?_
    refine x_aload_n (dat d_Mo_personLine 29 rfl) rfl rfl ?_
    refine x_inv (As := []) (dat d_Mo_personLine 30 rfl) rfl c_Mo_cellTold l_Mo_157 (by decide) (rv_mo (by decide +kernel)) rfl rfl (Nat.le_of_ble_eq_true rfl) ?_
    refine sp_Mo_cellTold H (fun σ1 H1 g10 g9 F1 => ?_)
    have v0b := nuV_in (T := T) (n := n) (lo := 0) (hi := 35) (by decide) (false, q1, fp)
    generalize nuV T n 0 35 (false, q1, fp) = v0 at g10 k v0b
    show Wx g y_Mo_personLine Z K 55 [vR 174, vI mn, vI a_, vI 1, vI (20 + (17 * pp)), vU, vU] [vI v0] σ1
    refine x_istore (L' := [vR 174, vI mn, vI a_, vI 1, vI (20 + (17 * pp)), vI v0, vU]) (dat d_Mo_personLine 31 rfl) (by decide) rfl rfl ?_
    refine x_aload_n (dat d_Mo_personLine 32 rfl) rfl rfl ?_
    refine x_iconst (dat d_Mo_personLine 33 rfl) (by decide) ?_
    refine x_bipush (dat d_Mo_personLine 34 rfl) (by decide) (by decide) ?_
    refine x_inv (As := [vI 0, vI 30]) (dat d_Mo_personLine 35 rfl) rfl c_Mo_numbered l_Mo_147 (by decide) (rv_mo (by decide +kernel)) rfl rfl (Nat.le_of_ble_eq_true rfl) ?_
    refine sp_Mo_numbered H1 (by decide) (fun σ2 H2 F2 => ?_)
    have v1b := nuV_in (T := T) (n := n) (lo := 0) (hi := 30) (by decide) (nuX T n 0 35 (false, q1, fp))
    generalize nuV T n 0 30 (nuX T n 0 35 (false, q1, fp)) = v1 at k v1b
    have e177 : σ2 177 = σ 177 := by rw [F2.2.2 177 (by decide) (by decide), F1.2.2 177 (by decide) (by decide)]
    have e6 : σ2 177 6 = pp := by rw [e177]; exact hp.symm
    show Wx g y_Mo_personLine Z K 64 [vR 174, vI mn, vI a_, vI 1, vI (20 + (17 * pp)), vI v0, vU] [vI v1] σ2
    refine x_istore (L' := [vR 174, vI mn, vI a_, vI 1, vI (20 + (17 * pp)), vI v0, vI v1]) (dat d_Mo_personLine 36 rfl) (by decide) rfl rfl ?_
    refine x_iload_n (dat d_Mo_personLine 37 rfl) rfl rfl ?_
    refine x_if_ne (tgt := 71) (dat d_Mo_personLine 38 rfl) (by decide) (fun c_67 => ?_) (fun h => absurd h (by decide))
    refine x_aload_n (dat d_Mo_personLine 40 rfl) rfl rfl ?_
    refine x_getr (r := 177) (dat d_Mo_personLine 41 rfl) rfl f_Mo_17 (or_mk (by decide +kernel)) ?_
    refine x_iload (dat d_Mo_personLine 42 rfl) rfl ?_
    refine x_iconst (dat d_Mo_personLine 43 rfl) (by decide) ?_
    refine x_iadd (v := 20 + 17 * pp) (dat d_Mo_personLine 44 rfl) (by omega) (by omega) ?_
    refine x_iload_n (dat d_Mo_personLine 45 rfl) rfl rfl ?_
    refine x_iast (n := 190) (dat d_Mo_personLine 46 rfl) (ai_mk (by decide +kernel)) (by omega) (by omega) ?_
    refine x_aload_n (dat d_Mo_personLine 47 rfl) rfl rfl ?_
    refine x_getr (r := 177) (dat d_Mo_personLine 48 rfl) rfl f_Mo_17 (or_mk (by decide +kernel)) ?_
    refine x_iload (dat d_Mo_personLine 49 rfl) rfl ?_
    refine x_iconst (dat d_Mo_personLine 50 rfl) (by decide) ?_
    refine x_iadd (v := 21 + 17 * pp) (dat d_Mo_personLine 51 rfl) (by omega) (by omega) ?_
    refine x_iload (dat d_Mo_personLine 52 rfl) rfl ?_
    refine x_iast (n := 190) (dat d_Mo_personLine 53 rfl) (ai_mk (by decide +kernel)) (by omega) (by omega) ?_
    refine x_aload_n (dat d_Mo_personLine 54 rfl) rfl rfl ?_
    refine x_getr (r := 177) (dat d_Mo_personLine 55 rfl) rfl f_Mo_17 (or_mk (by decide +kernel)) ?_
    refine x_iload (dat d_Mo_personLine 56 rfl) rfl ?_
    refine x_iconst (dat d_Mo_personLine 57 rfl) (by decide) ?_
    refine x_iadd (v := 22 + 17 * pp) (dat d_Mo_personLine 58 rfl) (by omega) (by omega) ?_
    refine x_iload (dat d_Mo_personLine 59 rfl) rfl ?_
    refine x_iast (n := 190) (dat d_Mo_personLine 60 rfl) (ai_mk (by decide +kernel)) (by omega) (by omega) ?_
    refine x_aload_n (dat d_Mo_personLine 61 rfl) rfl rfl ?_
    refine x_getr (r := 177) (dat d_Mo_personLine 62 rfl) rfl f_Mo_17 (or_mk (by decide +kernel)) ?_
    refine x_bipush (dat d_Mo_personLine 63 rfl) (by decide) (by decide) ?_
    refine x_dup2 (dat d_Mo_personLine 64 rfl) rfl rfl ?_
    refine x_iald (n := 190) (v := pp) (dat d_Mo_personLine 65 rfl) (ai_mk (by decide +kernel)) (by omega) (by omega) ((up_ni (by omega)).trans ((up_ni (by omega)).trans ((up_ni (by omega)).trans e6))) ?_
    refine x_iconst (dat d_Mo_personLine 66 rfl) (by decide) ?_
    refine x_iadd (v := pp + 1) (dat d_Mo_personLine 67 rfl) rfl (by omega) ?_
    refine x_iast (n := 190) (dat d_Mo_personLine 68 rfl) (ai_mk (by decide +kernel)) (by omega) (by omega) ?_
    refine x_ret (dat d_Mo_personLine 69 rfl) rfl ?_
    have B2 := B.same e177
    refine k _ (H2.r177.r177.r177.r177) (by rw [up_ne (by decide), up_ne (by decide), up_ne (by decide), up_ne (by decide), F2.1 9 (by decide)]; exact g9) (by rw [up_ne (by decide), up_ne (by decide), up_ne (by decide), up_ne (by decide), F2.1 10 (by decide)]; exact g10) ((((B2.st ⟨fun _ => by omega, fun z => absurd z (by decide)⟩).st ⟨fun _ => by omega, fun z => absurd z (by decide)⟩).st ⟨fun _ => by omega, fun z => absurd z (by decide)⟩).st ⟨fun _ => by omega, fun z => absurd z (by decide)⟩) (fun _ r hr => ((((hr.same e177).st _ _).st _ _).st _ _).st _ _) (((((F1.trans F2.ry).ln.row _ _).row _ _).row _ _).row _ _)
  · have k := fun σ' => k σ' (alX 3 a_ (false, q1, fp)) (by rw [decide_eq_false hm]; rfl)
    refine x_enter 4 rfl rfl rfl (fun Z => ?_)
    show Wx g y_Mo_personLine Z K 0 [vR 174, vI mn, vI a_, vU, vU, vU, vU] [] σ
    refine x_aload_n (dat d_Mo_personLine 0 rfl) rfl rfl ?_
    refine x_getr (r := 177) (dat d_Mo_personLine 1 rfl) rfl f_Mo_17 (or_mk (by decide +kernel)) ?_
    refine x_bipush (dat d_Mo_personLine 2 rfl) (by decide) (by decide) ?_
    refine x_iald (n := 190) (v := pp) (dat d_Mo_personLine 3 rfl) (ai_mk (by decide +kernel)) (by omega) (by omega) (hp.symm) ?_
    refine x_bipush (dat d_Mo_personLine 4 rfl) (by decide) (by decide) ?_
    refine x_icmp_ge (tgt := 16) (dat d_Mo_personLine 5 rfl) (by decide) (fun c_9 => ?_) (fun c_9 => (by omega))
    refine x_iconst (dat d_Mo_personLine 8 rfl) (by decide) ?_
    refine x_istore_n (L' := [vR 174, vI mn, vI a_, vI 0, vU, vU, vU]) (dat d_Mo_personLine 9 rfl) rfl (by decide) rfl rfl ?_
    refine x_iload_n (dat d_Mo_personLine 10 rfl) rfl rfl ?_
    refine x_if_ne (tgt := 28) (dat d_Mo_personLine 11 rfl) (by decide) (fun h => absurd h (by decide)) (fun c_19 => ?_)
    refine x_aload_n (dat d_Mo_personLine 12 rfl) rfl rfl ?_
    refine x_iconst (dat d_Mo_personLine 13 rfl) (by decide) ?_
    refine x_iload_n (dat d_Mo_personLine 14 rfl) rfl rfl ?_
    refine x_inv (As := [vI 3, vI a_]) (dat d_Mo_personLine 15 rfl) rfl c_Mo_also l_Mo_140 (by decide) (rv_mo (by decide +kernel)) rfl rfl (Nat.le_of_ble_eq_true rfl) ?_
    refine sp_Mo_also H (by decide) (fun σ0 H0 F0 => ?_)
    show Wx g y_Mo_personLine Z K 28 [vR 174, vI mn, vI a_, vI 0, vU, vU, vU] [] σ0
    refine x_bipush (dat d_Mo_personLine 16 rfl) (by decide) (by decide) ?_
    refine x_bipush (dat d_Mo_personLine 17 rfl) (by decide) (by decide) ?_
    refine x_iload_n (dat d_Mo_personLine 18 rfl) rfl rfl ?_
    refine x_if_eq (tgt := 46) (dat d_Mo_personLine 19 rfl) (by decide) (fun c_33 => ?_) (fun h => absurd h (by decide))
    refine x_iconst (dat d_Mo_personLine 25 rfl) (by decide) ?_
    refine x_imul (v := 0) (dat d_Mo_personLine 26 rfl) (by decide) (by omega) ?_
    refine x_iadd (v := 20) (dat d_Mo_personLine 27 rfl) (by decide) (by omega) ?_
    refine x_istore (L' := [vR 174, vI mn, vI a_, vI 0, vI 20, vU, vU]) (dat d_Mo_personLine 28 rfl) (by decide) rfl rfl ?_
    refine x_aload_n (dat d_Mo_personLine 29 rfl) rfl rfl ?_
    refine x_inv (As := []) (dat d_Mo_personLine 30 rfl) rfl c_Mo_cellTold l_Mo_157 (by decide) (rv_mo (by decide +kernel)) rfl rfl (Nat.le_of_ble_eq_true rfl) ?_
    refine sp_Mo_cellTold H0 (fun σ1 H1 g10 g9 F1 => ?_)
    generalize nuV T n 0 35 (alX 3 a_ (false, q1, fp)) = v0 at g10 k
    show Wx g y_Mo_personLine Z K 55 [vR 174, vI mn, vI a_, vI 0, vI 20, vU, vU] [vI v0] σ1
    refine x_istore (L' := [vR 174, vI mn, vI a_, vI 0, vI 20, vI v0, vU]) (dat d_Mo_personLine 31 rfl) (by decide) rfl rfl ?_
    refine x_aload_n (dat d_Mo_personLine 32 rfl) rfl rfl ?_
    refine x_iconst (dat d_Mo_personLine 33 rfl) (by decide) ?_
    refine x_bipush (dat d_Mo_personLine 34 rfl) (by decide) (by decide) ?_
    refine x_inv (As := [vI 0, vI 30]) (dat d_Mo_personLine 35 rfl) rfl c_Mo_numbered l_Mo_147 (by decide) (rv_mo (by decide +kernel)) rfl rfl (Nat.le_of_ble_eq_true rfl) ?_
    refine sp_Mo_numbered H1 (by decide) (fun σ2 H2 F2 => ?_)
    generalize nuV T n 0 30 (nuX T n 0 35 (alX 3 a_ (false, q1, fp))) = v1 at k
    have e177 : σ2 177 = σ 177 := by rw [F2.2.2 177 (by decide) (by decide), F1.2.2 177 (by decide) (by decide), F0.2.2 177 (by decide) (by decide)]
    show Wx g y_Mo_personLine Z K 64 [vR 174, vI mn, vI a_, vI 0, vI 20, vI v0, vU] [vI v1] σ2
    refine x_istore (L' := [vR 174, vI mn, vI a_, vI 0, vI 20, vI v0, vI v1]) (dat d_Mo_personLine 36 rfl) (by decide) rfl rfl ?_
    refine x_iload_n (dat d_Mo_personLine 37 rfl) rfl rfl ?_
    refine x_if_ne (tgt := 71) (dat d_Mo_personLine 38 rfl) (by decide) (fun h => absurd h (by decide)) (fun c_67 => ?_)
    refine x_ret (dat d_Mo_personLine 39 rfl) rfl ?_
    exact k _ H2 (by rw [F2.1 9 (by decide), g9]; exact F0.1 9 (by decide)) (by rw [F2.1 10 (by decide), g10, F0.1 10 (by decide)]) (B.same e177) (fun z => absurd z hm) ((F0.ry.trans F1).trans F2.ry).ln
/-- a quarrel's second one, who is the first -/
def cmX (T : Int → Int) (n v : Int) (x : Rx) : Rx := if x.1 = false ∧ tkK T n x.2.1 = 1 ∧ tkV T n x.2.1 = v then alX 2 x.2.1 x else x
theorem sp_Mo_quarrelLine {a_ q1 : Int} {fp : Int × Int} (H : RX σ T n (false, q1, fp)) (B : BnR σ 0) (k : ∀ (σ' : xS) (x0 y1 : Rx), x0 = mrX (decide (σ 177 7 < 6)) a_ (false, q1, fp) → y1 = cmX T n (nuV T n 0 7 x0) (nuX T n 0 7 x0) → RX σ' T n (nuX T n 0 7 y1) → σ' 174 9 = imax (imax (σ 174 9) (nuV T n 0 7 x0)) (nuV T n 0 7 y1) → σ' 174 10 = σ 174 10 → BnR σ' 0 → (σ 177 7 < 6 → ∀ r : Int → Int, RwE σ r → RwE σ' (st1 (st1 (st1 r (8 + 2 * σ 177 7) (nuV T n 0 7 x0)) (9 + 2 * σ 177 7) (nuV T n 0 7 y1)) 7 (σ 177 7 + 1))) → LnF σ' σ → K none σ') : Mt g y_Mo_quarrelLine [vR 174, vI a_] σ K := by
  have b7 := (B.1 rfl).2.2
  obtain ⟨pp, hp⟩ : ∃ pp : Int, pp = σ 177 7 := ⟨_, rfl⟩
  rw [← hp] at b7 k
  have tail : ∀ (Z : xZ) (x0 : Rx) (σ1 : xS) (mo : Int) (w4 : MV), (mo = if pp < 6 then 1 else 0) → x0 = mrX (decide (pp < 6)) a_ (false, q1, fp) → RX σ1 T n x0 → RxF σ1 σ → Wx g y_Mo_quarrelLine Z K 28 [vR 174, vI a_, vI mo, vU, w4] [] σ1 := by
    intro Z x0 σ1 mo w4 hmo hx0 H1 F1
    have k := fun σ' y1 => k σ' x0 y1 hx0
    have mid : ∀ (σ3 : xS) (y1 : Rx) (v0 : Int), v0 = nuV T n 0 7 x0 → y1 = cmX T n v0 (nuX T n 0 7 x0) → RX σ3 T n y1 → (σ3 174 9 = imax (σ 174 9) v0 ∧ σ3 174 10 = σ 174 10) → RyF σ3 σ → Wx g y_Mo_quarrelLine Z K 58 [vR 174, vI a_, vI mo, vI v0, w4] [] σ3 := by
      intro σ3 y1 v0 hv0 hy1 H3 g3 F3
      have k := fun σ' => k σ' y1 (by rw [← hv0]; exact hy1)
      rw [← hv0] at k
      have v0b := nuV_in (T := T) (n := n) (lo := 0) (hi := 7) (by decide) x0
      rw [← hv0] at v0b
      refine x_aload_n (dat d_Mo_quarrelLine 32 rfl) rfl rfl ?_
      refine x_inv (As := []) (dat d_Mo_quarrelLine 33 rfl) rfl c_Mo_who l_Mo_161 (by decide) (rv_mo (by decide +kernel)) rfl rfl (Nat.le_of_ble_eq_true rfl) ?_
      refine sp_Mo_who H3 (fun σ4 H4 g9 g10 F4 => ?_)
      have v1b := nuV_in (T := T) (n := n) (lo := 0) (hi := 7) (by decide) y1
      generalize nuV T n 0 7 y1 = v1 at k v1b g9
      have e177 : σ4 177 = σ 177 := by rw [F4.2.2 177 (by decide) (by decide), F3.2.2 177 (by decide) (by decide)]
      have e7 : σ4 177 7 = pp := by rw [e177]; exact hp.symm
      have B4 := B.same e177
      have G9 : σ4 174 9 = imax (imax (σ 174 9) v0) v1 := by rw [g9, g3.1]
      have G10 : σ4 174 10 = σ 174 10 := by rw [g10, g3.2]
      show Wx g y_Mo_quarrelLine Z K 62 [vR 174, vI a_, vI mo, vI v0, w4] [vI v1] σ4
      refine x_istore (L' := [vR 174, vI a_, vI mo, vI v0, vI v1]) (dat d_Mo_quarrelLine 34 rfl) (by decide) rfl rfl ?_
      refine x_iload_n (dat d_Mo_quarrelLine 35 rfl) rfl rfl ?_
      refine x_if_ne (tgt := 69) (dat d_Mo_quarrelLine 36 rfl) (by decide) (fun c_65 => ?_) (fun c_65 => ?_)
      · refine x_aload_n (dat d_Mo_quarrelLine 38 rfl) rfl rfl ?_
        refine x_getr (r := 177) (dat d_Mo_quarrelLine 39 rfl) rfl f_Mo_17 (or_mk (by decide +kernel)) ?_
        refine x_bipush (dat d_Mo_quarrelLine 40 rfl) (by decide) (by decide) ?_
        refine x_iconst (dat d_Mo_quarrelLine 41 rfl) (by decide) ?_
        refine x_aload_n (dat d_Mo_quarrelLine 42 rfl) rfl rfl ?_
        refine x_getr (r := 177) (dat d_Mo_quarrelLine 43 rfl) rfl f_Mo_17 (or_mk (by decide +kernel)) ?_
        refine x_bipush (dat d_Mo_quarrelLine 44 rfl) (by decide) (by decide) ?_
        refine x_iald (n := 190) (v := pp) (dat d_Mo_quarrelLine 45 rfl) (ai_mk (by decide +kernel)) (by omega) (by omega) (e7) ?_
        refine x_imul (v := 2 * pp) (dat d_Mo_quarrelLine 46 rfl) (by omega) (by omega) ?_
        refine x_iadd (v := 8 + 2 * pp) (dat d_Mo_quarrelLine 47 rfl) (by omega) (by omega) ?_
        refine x_iload_n (dat d_Mo_quarrelLine 48 rfl) rfl rfl ?_
        refine x_iast (n := 190) (dat d_Mo_quarrelLine 49 rfl) (ai_mk (by decide +kernel)) (by omega) (by omega) ?_
        refine x_aload_n (dat d_Mo_quarrelLine 50 rfl) rfl rfl ?_
        refine x_getr (r := 177) (dat d_Mo_quarrelLine 51 rfl) rfl f_Mo_17 (or_mk (by decide +kernel)) ?_
        refine x_bipush (dat d_Mo_quarrelLine 52 rfl) (by decide) (by decide) ?_
        refine x_iconst (dat d_Mo_quarrelLine 53 rfl) (by decide) ?_
        refine x_aload_n (dat d_Mo_quarrelLine 54 rfl) rfl rfl ?_
        refine x_getr (r := 177) (dat d_Mo_quarrelLine 55 rfl) rfl f_Mo_17 (or_mk (by decide +kernel)) ?_
        refine x_bipush (dat d_Mo_quarrelLine 56 rfl) (by decide) (by decide) ?_
        refine x_iald (n := 190) (v := pp) (dat d_Mo_quarrelLine 57 rfl) (ai_mk (by decide +kernel)) (by omega) (by omega) ((up_ni (by omega)).trans e7) ?_
        refine x_imul (v := 2 * pp) (dat d_Mo_quarrelLine 58 rfl) (by omega) (by omega) ?_
        refine x_iadd (v := 9 + 2 * pp) (dat d_Mo_quarrelLine 59 rfl) (by omega) (by omega) ?_
        refine x_iload (dat d_Mo_quarrelLine 60 rfl) rfl ?_
        refine x_iast (n := 190) (dat d_Mo_quarrelLine 61 rfl) (ai_mk (by decide +kernel)) (by omega) (by omega) ?_
        refine x_aload_n (dat d_Mo_quarrelLine 62 rfl) rfl rfl ?_
        refine x_getr (r := 177) (dat d_Mo_quarrelLine 63 rfl) rfl f_Mo_17 (or_mk (by decide +kernel)) ?_
        refine x_bipush (dat d_Mo_quarrelLine 64 rfl) (by decide) (by decide) ?_
        refine x_dup2 (dat d_Mo_quarrelLine 65 rfl) rfl rfl ?_
        refine x_iald (n := 190) (v := pp) (dat d_Mo_quarrelLine 66 rfl) (ai_mk (by decide +kernel)) (by omega) (by omega) ((up_ni (by omega)).trans ((up_ni (by omega)).trans e7)) ?_
        refine x_iconst (dat d_Mo_quarrelLine 67 rfl) (by decide) ?_
        refine x_iadd (v := pp + 1) (dat d_Mo_quarrelLine 68 rfl) rfl (by omega) ?_
        refine x_iast (n := 190) (dat d_Mo_quarrelLine 69 rfl) (ai_mk (by decide +kernel)) (by omega) (by omega) ?_
        refine x_ret (dat d_Mo_quarrelLine 70 rfl) rfl ?_
        have np : pp < 6 := by
          by_cases z : pp < 6
          · exact z
          · rw [if_neg z] at hmo; omega
        exact k _ (H4.r177.r177.r177) (by rw [up_ne (by decide), up_ne (by decide), up_ne (by decide)]; exact G9) (by rw [up_ne (by decide), up_ne (by decide), up_ne (by decide)]; exact G10) (((B4.st ⟨fun _ => by omega, fun z => absurd z (by decide)⟩).st ⟨fun _ => by omega, fun z => absurd z (by decide)⟩).st ⟨fun _ => by omega, fun z => absurd z (by decide)⟩) (fun _ r hr => (((hr.same e177).st _ _).st _ _).st _ _) ((((F3.trans F4).ln.row _ _).row _ _).row _ _)
      · refine x_ret (dat d_Mo_quarrelLine 37 rfl) rfl ?_
        have np : ¬ pp < 6 := fun z => by rw [if_pos z] at hmo; omega
        exact k _ H4 G9 G10 B4 (fun z => absurd z np) (F3.trans F4).ln
    refine x_aload_n (dat d_Mo_quarrelLine 16 rfl) rfl rfl ?_
    refine x_inv (As := []) (dat d_Mo_quarrelLine 17 rfl) rfl c_Mo_who l_Mo_161 (by decide) (rv_mo (by decide +kernel)) rfl rfl (Nat.le_of_ble_eq_true rfl) ?_
    refine sp_Mo_who H1 (fun σ2 H2 g9 g10 F2 => ?_)
    rw [F1.1 9 (by decide)] at g9
    rw [F1.1 10 (by decide)] at g10
    obtain ⟨v0, hv0⟩ : ∃ v0 : Int, v0 = nuV T n 0 7 x0 := ⟨_, rfl⟩
    rw [← hv0] at g9 ⊢
    have FF := F1.ry.trans F2
    have mid := mid
    have mid := fun σ3 y1 => mid σ3 y1 v0 hv0
    generalize nuX T n 0 7 x0 = y0 at H2 mid
    obtain ⟨b, q, f⟩ := y0
    have same : cmX T n v0 (b, q, f) = (b, q, f) → Wx g y_Mo_quarrelLine Z K 58 [vR 174, vI a_, vI mo, vI v0, w4] [] σ2 := fun e => mid σ2 (b, q, f) e.symm H2 ⟨g9, g10⟩ FF
    have also : ∀ σ3 : xS, RX σ3 T n (cmX T n v0 (b, q, f)) → RxF σ3 σ2 → Wx g y_Mo_quarrelLine Z K 58 [vR 174, vI a_, vI mo, vI v0, w4] [] σ3 := fun σ3 H3 F3 => mid σ3 _ rfl H3 ⟨by rw [F3.1 9 (by decide)]; exact g9, by rw [F3.1 10 (by decide)]; exact g10⟩ (FF.trans F3.ry)
    clear mid
    show Wx g y_Mo_quarrelLine Z K 32 [vR 174, vI a_, vI mo, vU, w4] [vI v0] σ2
    refine x_istore_n (L' := [vR 174, vI a_, vI mo, vI v0, w4]) (dat d_Mo_quarrelLine 18 rfl) rfl (by decide) rfl rfl ?_
    cases b with
    | true =>
      have cs : cmX T n v0 (true, q, f) = (true, q, f) := if_neg (fun w => Bool.noConfusion w.1)
      refine x_aload_n (dat d_Mo_quarrelLine 19 rfl) rfl rfl ?_
      refine x_geti (ji := 5) (v := σ2 174 5) (dat d_Mo_quarrelLine 20 rfl) rfl f_Mo_105 (oi_mk (by decide +kernel)) rfl ?_
      refine x_iconst (dat d_Mo_quarrelLine 21 rfl) (by decide) ?_
      refine x_icmp_ne (tgt := 58) (dat d_Mo_quarrelLine 22 rfl) (by decide) (fun c_38 => ?_) (fun c_38 => ?_)
      · first
        | exact also _ (by rw [cs]; exact H3) F3
        | exact same cs
      · refine x_aload_n (dat d_Mo_quarrelLine 23 rfl) rfl rfl ?_
        refine x_geti (ji := 6) (v := σ2 174 6) (dat d_Mo_quarrelLine 24 rfl) rfl f_Mo_126 (oi_mk (by decide +kernel)) rfl ?_
        refine x_iload_n (dat d_Mo_quarrelLine 25 rfl) rfl rfl ?_
        refine x_icmp_ne (tgt := 58) (dat d_Mo_quarrelLine 26 rfl) (by decide) (fun c_46 => ?_) (fun c_46 => ?_)
        · first
          | exact also _ (by rw [cs]; exact H3) F3
          | exact same cs
        · refine x_aload_n (dat d_Mo_quarrelLine 27 rfl) rfl rfl ?_
          refine x_iconst (dat d_Mo_quarrelLine 28 rfl) (by decide) ?_
          refine x_aload_n (dat d_Mo_quarrelLine 29 rfl) rfl rfl ?_
          refine x_geti (ji := 4) (v := σ2 174 4) (dat d_Mo_quarrelLine 30 rfl) rfl f_Mo_102 (oi_mk (by decide +kernel)) rfl ?_
          refine x_inv (As := [vI 2, vI (σ2 174 4)]) (dat d_Mo_quarrelLine 31 rfl) rfl c_Mo_also l_Mo_140 (by decide) (rv_mo (by decide +kernel)) rfl rfl (Nat.le_of_ble_eq_true rfl) ?_
          refine sp_Mo_also H2 (by decide) (fun σ3 H3 F3 => ?_)
          show Wx g y_Mo_quarrelLine Z K 58 [vR 174, vI a_, vI mo, vI v0, w4] [] σ3
          first
          | exact also _ (by rw [cs]; exact H3) F3
          | exact same cs
    | false =>
      obtain ⟨-, -, D, -, -⟩ := H2.at
      have e5 := D.1.2.1
      have e4 := D.1.1
      by_cases hk : tkK T n q = 1
      · have e6 := D.2.1 hk
        by_cases hv : tkV T n q = v0
        · have cs : cmX T n v0 (false, q, f) = alX 2 q (false, q, f) := if_pos ⟨rfl, hk, hv⟩
          refine x_aload_n (dat d_Mo_quarrelLine 19 rfl) rfl rfl ?_
          refine x_geti (ji := 5) (v := tkK T n q) (dat d_Mo_quarrelLine 20 rfl) rfl f_Mo_105 (oi_mk (by decide +kernel)) (e5) ?_
          refine x_iconst (dat d_Mo_quarrelLine 21 rfl) (by decide) ?_
          refine x_icmp_ne (tgt := 58) (dat d_Mo_quarrelLine 22 rfl) (by decide) (fun c_38 => (by omega)) (fun c_38 => ?_)
          refine x_aload_n (dat d_Mo_quarrelLine 23 rfl) rfl rfl ?_
          refine x_geti (ji := 6) (v := tkV T n q) (dat d_Mo_quarrelLine 24 rfl) rfl f_Mo_126 (oi_mk (by decide +kernel)) (e6) ?_
          refine x_iload_n (dat d_Mo_quarrelLine 25 rfl) rfl rfl ?_
          refine x_icmp_ne (tgt := 58) (dat d_Mo_quarrelLine 26 rfl) (by decide) (fun c_46 => (by omega)) (fun c_46 => ?_)
          refine x_aload_n (dat d_Mo_quarrelLine 27 rfl) rfl rfl ?_
          refine x_iconst (dat d_Mo_quarrelLine 28 rfl) (by decide) ?_
          refine x_aload_n (dat d_Mo_quarrelLine 29 rfl) rfl rfl ?_
          refine x_geti (ji := 4) (v := q) (dat d_Mo_quarrelLine 30 rfl) rfl f_Mo_102 (oi_mk (by decide +kernel)) (e4) ?_
          refine x_inv (As := [vI 2, vI q]) (dat d_Mo_quarrelLine 31 rfl) rfl c_Mo_also l_Mo_140 (by decide) (rv_mo (by decide +kernel)) rfl rfl (Nat.le_of_ble_eq_true rfl) ?_
          refine sp_Mo_also H2 (by decide) (fun σ3 H3 F3 => ?_)
          show Wx g y_Mo_quarrelLine Z K 58 [vR 174, vI a_, vI mo, vI v0, w4] [] σ3
          exact also _ (by rw [cs]; exact H3) F3
        · have cs : cmX T n v0 (false, q, f) = (false, q, f) := if_neg (fun w => hv w.2.2)
          refine x_aload_n (dat d_Mo_quarrelLine 19 rfl) rfl rfl ?_
          refine x_geti (ji := 5) (v := tkK T n q) (dat d_Mo_quarrelLine 20 rfl) rfl f_Mo_105 (oi_mk (by decide +kernel)) (e5) ?_
          refine x_iconst (dat d_Mo_quarrelLine 21 rfl) (by decide) ?_
          refine x_icmp_ne (tgt := 58) (dat d_Mo_quarrelLine 22 rfl) (by decide) (fun c_38 => (by omega)) (fun c_38 => ?_)
          refine x_aload_n (dat d_Mo_quarrelLine 23 rfl) rfl rfl ?_
          refine x_geti (ji := 6) (v := tkV T n q) (dat d_Mo_quarrelLine 24 rfl) rfl f_Mo_126 (oi_mk (by decide +kernel)) (e6) ?_
          refine x_iload_n (dat d_Mo_quarrelLine 25 rfl) rfl rfl ?_
          refine x_icmp_ne (tgt := 58) (dat d_Mo_quarrelLine 26 rfl) (by decide) (fun c_46 => ?_) (fun c_46 => (by omega))
          exact same cs
      · have cs : cmX T n v0 (false, q, f) = (false, q, f) := if_neg (fun w => hk w.2.1)
        refine x_aload_n (dat d_Mo_quarrelLine 19 rfl) rfl rfl ?_
        refine x_geti (ji := 5) (v := tkK T n q) (dat d_Mo_quarrelLine 20 rfl) rfl f_Mo_105 (oi_mk (by decide +kernel)) (e5) ?_
        refine x_iconst (dat d_Mo_quarrelLine 21 rfl) (by decide) ?_
        refine x_icmp_ne (tgt := 58) (dat d_Mo_quarrelLine 22 rfl) (by decide) (fun c_38 => ?_) (fun c_38 => (by omega))
        exact same cs
  by_cases hm : pp < 6
  · refine x_enter 3 rfl rfl rfl (fun Z => ?_)
    show Wx g y_Mo_quarrelLine Z K 0 [vR 174, vI a_, vU, vU, vU] [] σ
    refine x_aload_n (dat d_Mo_quarrelLine 0 rfl) rfl rfl ?_
    refine x_getr (r := 177) (dat d_Mo_quarrelLine 1 rfl) rfl f_Mo_17 (or_mk (by decide +kernel)) ?_
    refine x_bipush (dat d_Mo_quarrelLine 2 rfl) (by decide) (by decide) ?_
    refine x_iald (n := 190) (v := pp) (dat d_Mo_quarrelLine 3 rfl) (ai_mk (by decide +kernel)) (by omega) (by omega) (hp.symm) ?_
    refine x_bipush (dat d_Mo_quarrelLine 4 rfl) (by decide) (by decide) ?_
    refine x_icmp_ge (tgt := 16) (dat d_Mo_quarrelLine 5 rfl) (by decide) (fun c_9 => (by omega)) (fun c_9 => ?_)
    refine x_iconst (dat d_Mo_quarrelLine 6 rfl) (by decide) ?_
    refine x_goto (tgt := 17) (dat d_Mo_quarrelLine 7 rfl) (by decide) ?_
    refine x_istore_n (L' := [vR 174, vI a_, vI 1, vU, vU]) (dat d_Mo_quarrelLine 9 rfl) rfl (by decide) rfl rfl ?_
    refine x_iload_n (dat d_Mo_quarrelLine 10 rfl) rfl rfl ?_
    refine x_if_ne (tgt := 28) (dat d_Mo_quarrelLine 11 rfl) (by decide) (fun c_19 => ?_) (fun h => absurd h (by decide))
    exact tail Z _ σ 1 _ (by rw [if_pos hm]) rfl (by rw [decide_eq_true hm]; exact H) (RxF.rfl σ)
  · refine x_enter 3 rfl rfl rfl (fun Z => ?_)
    show Wx g y_Mo_quarrelLine Z K 0 [vR 174, vI a_, vU, vU, vU] [] σ
    refine x_aload_n (dat d_Mo_quarrelLine 0 rfl) rfl rfl ?_
    refine x_getr (r := 177) (dat d_Mo_quarrelLine 1 rfl) rfl f_Mo_17 (or_mk (by decide +kernel)) ?_
    refine x_bipush (dat d_Mo_quarrelLine 2 rfl) (by decide) (by decide) ?_
    refine x_iald (n := 190) (v := pp) (dat d_Mo_quarrelLine 3 rfl) (ai_mk (by decide +kernel)) (by omega) (by omega) (hp.symm) ?_
    refine x_bipush (dat d_Mo_quarrelLine 4 rfl) (by decide) (by decide) ?_
    refine x_icmp_ge (tgt := 16) (dat d_Mo_quarrelLine 5 rfl) (by decide) (fun c_9 => ?_) (fun c_9 => (by omega))
    refine x_iconst (dat d_Mo_quarrelLine 8 rfl) (by decide) ?_
    refine x_istore_n (L' := [vR 174, vI a_, vI 0, vU, vU]) (dat d_Mo_quarrelLine 9 rfl) rfl (by decide) rfl rfl ?_
    refine x_iload_n (dat d_Mo_quarrelLine 10 rfl) rfl rfl ?_
    refine x_if_ne (tgt := 28) (dat d_Mo_quarrelLine 11 rfl) (by decide) (fun h => absurd h (by decide)) (fun c_19 => ?_)
    refine x_aload_n (dat d_Mo_quarrelLine 12 rfl) rfl rfl ?_
    refine x_iconst (dat d_Mo_quarrelLine 13 rfl) (by decide) ?_
    refine x_iload_n (dat d_Mo_quarrelLine 14 rfl) rfl rfl ?_
    refine x_inv (As := [vI 3, vI a_]) (dat d_Mo_quarrelLine 15 rfl) rfl c_Mo_also l_Mo_140 (by decide) (rv_mo (by decide +kernel)) rfl rfl (Nat.le_of_ble_eq_true rfl) ?_
    refine sp_Mo_also H (by decide) (fun σ0 H0 F0 => ?_)
    show Wx g y_Mo_quarrelLine Z K 28 [vR 174, vI a_, vI 0, vU, vU] [] σ0
    exact tail Z _ σ0 0 _ (by rw [if_neg hm]) rfl (by rw [decide_eq_false hm]; exact H0) F0
end
