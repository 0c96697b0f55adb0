/-! worlds: one more -/
theorem ite_cg {p q : Prop} [Decidable p] [Decidable q] {x y : Int} (h : p ↔ q) : (if p then x else y) = (if q then x else y) := by
  by_cases hp : p
  · rw [if_pos hp, if_pos (h.mp hp)]
  · rw [if_neg hp, if_neg (fun w => hp (h.mpr w))]
def dedB (C : Cf) (q : Int) : Bool := decide (q < cS C 0) && !(rst C (cH C)).2 q
def hvI (C : Cf) (hv : Int → Int → Int → Int) (h p : Int) : Int → Int → Int → Int := fun h' p' x => hv h' p' x + (if (h' < h ∨ (h' = h ∧ p' < p)) ∧ h' < cS C 1 ∧ p' < cS C 0 ∧ (rst C (h'.toNat + 1)).1 p' = x then 1 else 0)
theorem HvR.congr {σ : xS} {hv hv' : Int → Int → Int → Int} (H : HvR σ hv) (e : ∀ h p b : Int, 0 ≤ h → 0 ≤ p → hv' h p b = hv h p b) : HvR σ hv' := fun h p b q0 q1 q2 q3 q4 q5 => by rw [e h p b q0 q2]; exact H h p b q0 q1 q2 q3 q4 q5
theorem sp_Wo_addWorld {g : xG} {K : Option MV → xS → Prop} {σ : xS} {C : Cf} {hv : Int → Int → Int → Int} {fd fg : Int → Bool} (hC : CfOk C) (hp : PlanR σ C) (R : RunS σ 156 C 0 (cH C)) (hb : ∀ (n : Nat) (p : Int), 0 ≤ p → p < cS C 0 → (rst C n).1 p ≤ 264) (H : HvR σ hv) (hvb : ∀ h p x : Int, 0 ≤ hv h p x ∧ hv h p x ≤ 1024) (c0 : 0 ≤ σ 171 1 ∧ σ 171 1 ≤ 1024) (hd : Msk 8 (σ 171 2) fd) (hg : Msk 8 (σ 171 3) fg)
    (k : ∀ σ' : xS, HvR σ' (fun h p x => hv h p x + (if h < cS C 1 ∧ p < cS C 0 ∧ (rst C (h.toNat + 1)).1 p = x then 1 else 0)) → σ' 171 0 = σ 171 0 → σ' 171 1 = σ 171 1 + 1 → Msk 8 (σ' 171 2) (fun q => fd q && dedB C q) → Msk 8 (σ' 171 3) (fun q => fg q || dedB C q) → (∀ o : Nat, o ≠ 171 → o ≠ 173 → σ' o = σ o) → K none σ') : Mt g y_Wo_addWorld [vR 171] σ K := by
  have hH := cH_eq hC
  have h8 := hC.2.1
  have hP := hC.1
  let F : xS → xS → Prop := fun σ1 σA => ∀ o : Nat, o ≠ 173 → σ1 o = σA o
  have li : ∀ (Z : xZ) (σA : xS), σA 138 0 = cS C 0 → (∀ i : Int, σA (156 + 6) i = σ (156 + 6) i) → ∀ h : Nat, h < cH C → (∀ (σ2 : xS) (w2 w3 : MV), HvR σ2 (hvI C hv ((h + 1 : Nat) : Int) 0) → F σ2 σA → Wx g y_Wo_addWorld Z K 44 [vR 171, vI ((h + 1 : Nat) : Int), w2, w3] [] σ2) → ∀ (d p : Nat) (σ1 : xS) (w3 : MV), (p : Int) + d = cS C 0 → HvR σ1 (hvI C hv h p) → F σ1 σA → Wx g y_Wo_addWorld Z K 57 [vR 171, vI (h : Int), vI (p : Int), w3] [] σ1 := by
    intro Z σA eA0 eA6 h hh nxA d
    induction d with
    | zero =>
      intro p σ1 w3 hn HI HF
      have e0 : σ1 138 0 = cS C 0 := by rw [HF 138 (by decide)]; exact eA0
      refine x_iload_n (dat d_Wo_addWorld 31 rfl) rfl rfl ?_
      refine x_aload_n (dat d_Wo_addWorld 32 rfl) rfl rfl ?_
      refine x_getr (r := 138) (dat d_Wo_addWorld 33 rfl) rfl f_Wo_19 (or_mk (by decide +kernel)) ?_
      refine x_geti (ji := 0) (v := cS C 0) (dat d_Wo_addWorld 34 rfl) rfl f_Wo_51 (oi_mk (by decide +kernel)) (e0) ?_
      refine x_icmp_ge (tgt := 117) (dat d_Wo_addWorld 35 rfl) (by decide) (fun c_65 => ?_) (fun c_65 => (by omega))
      refine x_iinc (v' := ((h + 1 : Nat) : Int)) (L' := [vR 171, vI ((h + 1 : Nat) : Int), vI (p : Int), w3]) (dat d_Wo_addWorld 66 rfl) rfl (by decide) rfl (by omega) (by omega) rfl ?_
      refine x_goto (tgt := 44) (dat d_Wo_addWorld 67 rfl) (by decide) ?_
      refine nxA _ _ _ (HI.congr (fun h' p' b q0 q1 => ?_)) HF
      unfold hvI
      congr 1
      exact ite_cg (by omega)
    | succ d ih =>
      intro p σ1 w3 hn HI HF
      have e0 : σ1 138 0 = cS C 0 := by rw [HF 138 (by decide)]; exact eA0
      have eb : σ1 (156 + 6) (8 * (h : Int) + (p : Int)) = (rst C (h + 1)).1 p := by
        rw [HF 162 (by decide)]
        refine (eA6 _).trans ?_
        exact R.hB (by omega) hh (by omega) (by omega)
      have b0 := rst_bd hC (h + 1) (p := (p : Int)) (by omega) (by omega)
      have b1 := hb (h + 1) (p : Int) (by omega) (by omega)
      generalize hx : (rst C (h + 1)).1 (p : Int) = x at eb b0 b1
      have eo := HI h p x (by omega) (by omega) (by omega) (by omega) (by omega) (by omega)
      have eo2 : hvI C hv h p h p x = hv h p x := by
        unfold hvI
        rw [if_neg (fun w => by omega)]
        omega
      rw [eo2] at eo
      have vb := hvb h p x
      refine x_iload_n (dat d_Wo_addWorld 31 rfl) rfl rfl ?_
      refine x_aload_n (dat d_Wo_addWorld 32 rfl) rfl rfl ?_
      refine x_getr (r := 138) (dat d_Wo_addWorld 33 rfl) rfl f_Wo_19 (or_mk (by decide +kernel)) ?_
      refine x_geti (ji := 0) (v := cS C 0) (dat d_Wo_addWorld 34 rfl) rfl f_Wo_51 (oi_mk (by decide +kernel)) (e0) ?_
      refine x_icmp_ge (tgt := 117) (dat d_Wo_addWorld 35 rfl) (by decide) (fun c_65 => (by omega)) (fun c_65 => ?_)
      refine x_aload_n (dat d_Wo_addWorld 36 rfl) rfl rfl ?_
      refine x_getr (r := 156) (dat d_Wo_addWorld 37 rfl) rfl f_Wo_23 (or_mk (by decide +kernel)) ?_
      refine x_getr (r := 162) (dat d_Wo_addWorld 38 rfl) rfl f_Wo_104 (or_mk (by decide +kernel)) ?_
      refine x_iload_n (dat d_Wo_addWorld 39 rfl) rfl rfl ?_
      refine x_bipush (dat d_Wo_addWorld 40 rfl) (by decide) (by decide) ?_
      refine x_imul (v := 8 * (h : Int)) (dat d_Wo_addWorld 41 rfl) (by omega) (by omega) ?_
      refine x_iload_n (dat d_Wo_addWorld 42 rfl) rfl rfl ?_
      refine x_iadd (v := (8 * (h : Int)) + (p : Int)) (dat d_Wo_addWorld 43 rfl) rfl (by omega) ?_
      refine x_iald (n := 192) (v := x) (dat d_Wo_addWorld 44 rfl) (ai_mk (by decide +kernel)) (by omega) (by omega) (eb) ?_
      refine x_istore_n (L' := [vR 171, vI (h : Int), vI (p : Int), vI x]) (dat d_Wo_addWorld 45 rfl) rfl (by decide) rfl rfl ?_
      refine x_iload_n (dat d_Wo_addWorld 46 rfl) rfl rfl ?_
      refine x_if_lt (tgt := 111) (dat d_Wo_addWorld 47 rfl) (by decide) (fun c_84 => (by omega)) (fun c_84 => ?_)
      refine x_iload_n (dat d_Wo_addWorld 48 rfl) rfl rfl ?_
      refine x_sipush (dat d_Wo_addWorld 49 rfl) (by decide) (by decide) ?_
      refine x_icmp_ge (tgt := 111) (dat d_Wo_addWorld 50 rfl) (by decide) (fun c_91 => (by omega)) (fun c_91 => ?_)
      refine x_aload_n (dat d_Wo_addWorld 51 rfl) rfl rfl ?_
      refine x_getr (r := 173) (dat d_Wo_addWorld 52 rfl) rfl f_Wo_16 (or_mk (by decide +kernel)) ?_
      refine x_aload_n (dat d_Wo_addWorld 53 rfl) rfl rfl ?_
      refine x_iload_n (dat d_Wo_addWorld 54 rfl) rfl rfl ?_
      refine x_iload_n (dat d_Wo_addWorld 55 rfl) rfl rfl ?_
      refine x_inv (As := [vI (h : Int), vI (p : Int)]) (dat d_Wo_addWorld 56 rfl) rfl c_Wo_placeOf l_Wo_110 (by decide) (rv_wo (by decide +kernel)) rfl rfl (Nat.le_of_ble_eq_true rfl) ?_
      refine sp_Wo_placeOf (by omega) (by omega) (by omega) (by omega) ?_
      show Wx g y_Wo_addWorld Z K 104 [vR 171, vI (h : Int), vI (p : Int), vI x] [vI ((8 * (h : Int) + (p : Int)) * 265), vR 173] σ1
      refine x_iload_n (dat d_Wo_addWorld 57 rfl) rfl rfl ?_
      refine x_iadd (v := ((8 * (h : Int) + (p : Int)) * 265) + x) (dat d_Wo_addWorld 58 rfl) rfl (by omega) ?_
      refine x_dup2 (dat d_Wo_addWorld 59 rfl) rfl rfl ?_
      refine x_iald (n := 50880) (v := hv h p x) (dat d_Wo_addWorld 60 rfl) (ai_mk (by decide +kernel)) (by omega) (by omega) (eo) ?_
      refine x_iconst (dat d_Wo_addWorld 61 rfl) (by decide) ?_
      refine x_iadd (v := (hv h p x) + 1) (dat d_Wo_addWorld 62 rfl) rfl (by omega) ?_
      refine x_iast (n := 50880) (dat d_Wo_addWorld 63 rfl) (ai_mk (by decide +kernel)) (by omega) (by omega) ?_
      refine x_iinc (v' := ((p + 1 : Nat) : Int)) (L' := [vR 171, vI (h : Int), vI ((p + 1 : Nat) : Int), vI x]) (dat d_Wo_addWorld 64 rfl) rfl (by decide) rfl (by omega) (by omega) rfl ?_
      refine x_goto (tgt := 57) (dat d_Wo_addWorld 65 rfl) (by decide) ?_
      refine ih (p + 1) _ _ (by omega) (fun h' p' b q0 q1 q2 q3 q4 q5 => ?_) (fun o ho => by rw [up_ne ho]; exact HF o ho)
      by_cases z : h' = (h : Int) ∧ p' = (p : Int) ∧ b = x
      · obtain ⟨z1, z2, z3⟩ := z
        rw [z1, z2, z3, up_s]
        unfold hvI
        rw [if_pos ⟨by omega, by omega, by omega, by rw [Int.toNat_natCast]; exact hx⟩]
      · rw [up_ni (by omega), HI h' p' b q0 q1 q2 q3 q4 q5]
        unfold hvI
        congr 1
        by_cases z1 : h' = (h : Int) ∧ p' = (p : Int)
        · have z2 : ¬ b = x := fun w => z ⟨z1.1, z1.2, w⟩
          rw [if_neg (fun w => by omega), if_neg (fun w => z2 (by have := w.2.2.2; rw [z1.1, z1.2, Int.toNat_natCast, hx] at this; exact this.symm))]
        · refine ite_cg ?_
          constructor
          · rintro ⟨w1, w2⟩
            exact ⟨by omega, w2⟩
          · rintro ⟨w1, w2⟩
            exact ⟨by omega, w2⟩
  have lo : ∀ (Z : xZ) (σA : xS), σA 138 0 = cS C 0 → σA 138 1 = cS C 1 → (∀ i : Int, σA (156 + 6) i = σ (156 + 6) i) → (∀ σ2 : xS, HvR σ2 (hvI C hv (cH C) 0) → F σ2 σA → K none σ2) → ∀ (d h : Nat) (σ1 : xS) (w2 w3 : MV), h + d = cH C → HvR σ1 (hvI C hv h 0) → F σ1 σA → Wx g y_Wo_addWorld Z K 44 [vR 171, vI (h : Int), w2, w3] [] σ1 := by
    intro Z σA eA0 eA1 eA6 fin d
    induction d with
    | zero =>
      intro h σ1 w2 w3 hn HI HF
      have e : h = cH C := by omega
      subst e
      have e1 : σ1 138 1 = cS C 1 := by rw [HF 138 (by decide)]; exact eA1
      refine x_iload_n (dat d_Wo_addWorld 24 rfl) rfl rfl ?_
      refine x_aload_n (dat d_Wo_addWorld 25 rfl) rfl rfl ?_
      refine x_getr (r := 138) (dat d_Wo_addWorld 26 rfl) rfl f_Wo_19 (or_mk (by decide +kernel)) ?_
      refine x_geti (ji := 1) (v := cS C 1) (dat d_Wo_addWorld 27 rfl) rfl f_Wo_101 (oi_mk (by decide +kernel)) (e1) ?_
      refine x_icmp_ge (tgt := 123) (dat d_Wo_addWorld 28 rfl) (by decide) (fun c_52 => ?_) (fun c_52 => (by omega))
      refine x_ret (dat d_Wo_addWorld 68 rfl) rfl ?_
      exact fin σ1 HI HF
    | succ d ih =>
      intro h σ1 w2 w3 hn HI HF
      have e1 : σ1 138 1 = cS C 1 := by rw [HF 138 (by decide)]; exact eA1
      refine x_iload_n (dat d_Wo_addWorld 24 rfl) rfl rfl ?_
      refine x_aload_n (dat d_Wo_addWorld 25 rfl) rfl rfl ?_
      refine x_getr (r := 138) (dat d_Wo_addWorld 26 rfl) rfl f_Wo_19 (or_mk (by decide +kernel)) ?_
      refine x_geti (ji := 1) (v := cS C 1) (dat d_Wo_addWorld 27 rfl) rfl f_Wo_101 (oi_mk (by decide +kernel)) (e1) ?_
      refine x_icmp_ge (tgt := 123) (dat d_Wo_addWorld 28 rfl) (by decide) (fun c_52 => (by omega)) (fun c_52 => ?_)
      refine x_iconst (dat d_Wo_addWorld 29 rfl) (by decide) ?_
      refine x_istore_n (L' := [vR 171, vI (h : Int), vI 0, w3]) (dat d_Wo_addWorld 30 rfl) rfl (by decide) rfl rfl ?_
      exact li Z σA eA0 eA6 h (by omega) (fun σ2 w2' w3' q1 q2 => ih (h + 1) σ2 w2' w3' (by omega) q1 q2) (cS C 0).toNat 0 σ1 _ (by omega) HI HF
  refine x_enter 3 rfl rfl rfl (fun Z => ?_)
  show Wx g y_Wo_addWorld Z K 0 [vR 171, vU, vU, vU] [] σ
  refine x_aload_n (dat d_Wo_addWorld 0 rfl) rfl rfl ?_
  refine x_dup (dat d_Wo_addWorld 1 rfl) rfl ?_
  refine x_geti (ji := 1) (v := σ 171 1) (dat d_Wo_addWorld 2 rfl) rfl f_Wo_31 (oi_mk (by decide +kernel)) rfl ?_
  refine x_iconst (dat d_Wo_addWorld 3 rfl) (by decide) ?_
  refine x_iadd (v := (σ 171 1) + 1) (dat d_Wo_addWorld 4 rfl) rfl (by omega) ?_
  refine x_puti (ji := 1) (x := ((σ 171 1) + 1)) (dat d_Wo_addWorld 5 rfl) rfl f_Wo_31w (oi_mk (by decide +kernel)) (fun h => absurd h (by decide)) (by decide) ?_
  refine x_aload_n (dat d_Wo_addWorld 6 rfl) rfl rfl ?_
  refine x_dup (dat d_Wo_addWorld 7 rfl) rfl ?_
  refine x_geti (ji := 2) (v := σ 171 2) (dat d_Wo_addWorld 8 rfl) rfl f_Wo_52 (oi_mk (by decide +kernel)) (up_ni (by decide)) ?_
  refine x_aload_n (dat d_Wo_addWorld 9 rfl) rfl rfl ?_
  refine x_getr (r := 156) (dat d_Wo_addWorld 10 rfl) rfl f_Wo_23 (or_mk (by decide +kernel)) ?_
  refine x_inv (As := []) (dat d_Wo_addWorld 11 rfl) rfl c_Ru_dead l_Wo_106 (by decide) (rv_ru (by decide +kernel)) rfl rfl (Nat.le_of_ble_eq_true rfl) ?_
  refine sp_Ru_dead (f := 0) ru_156 hC (R.same (fun b _ _ => up_ne (by omega))) (by omega) (fun m1 hm1 => ?_)
  show Wx g y_Wo_addWorld Z K 22 [vR 171, vU, vU, vU] [vI m1, vI (σ 171 2), vR 171] (up σ 171 1 ((σ 171 1) + 1))
  refine x_iand (v := iand (σ 171 2) m1) (dat d_Wo_addWorld 12 rfl) rfl ?_
  refine x_puti (ji := 2) (x := (iand (σ 171 2) m1)) (dat d_Wo_addWorld 13 rfl) rfl f_Wo_52w (oi_mk (by decide +kernel)) (fun h => absurd h (by decide)) (by decide) ?_
  refine x_aload_n (dat d_Wo_addWorld 14 rfl) rfl rfl ?_
  refine x_dup (dat d_Wo_addWorld 15 rfl) rfl ?_
  refine x_geti (ji := 3) (v := σ 171 3) (dat d_Wo_addWorld 16 rfl) rfl f_Wo_34 (oi_mk (by decide +kernel)) ((up_ni (by decide)).trans (up_ni (by decide))) ?_
  refine x_aload_n (dat d_Wo_addWorld 17 rfl) rfl rfl ?_
  refine x_getr (r := 156) (dat d_Wo_addWorld 18 rfl) rfl f_Wo_23 (or_mk (by decide +kernel)) ?_
  refine x_inv (As := []) (dat d_Wo_addWorld 19 rfl) rfl c_Ru_dead l_Wo_106 (by decide) (rv_ru (by decide +kernel)) rfl rfl (Nat.le_of_ble_eq_true rfl) ?_
  refine sp_Ru_dead (f := 0) ru_156 hC (R.same (fun b _ _ => by rw [up_ne (by omega), up_ne (by omega)])) (by omega) (fun m2 hm2 => ?_)
  show Wx g y_Wo_addWorld Z K 38 [vR 171, vU, vU, vU] [vI m2, vI (σ 171 3), vR 171] (up (up σ 171 1 ((σ 171 1) + 1)) 171 2 (iand (σ 171 2) m1))
  refine x_ior (v := ior (σ 171 3) m2) (dat d_Wo_addWorld 20 rfl) rfl ?_
  refine x_puti (ji := 3) (x := (ior (σ 171 3) m2)) (dat d_Wo_addWorld 21 rfl) rfl f_Wo_34w (oi_mk (by decide +kernel)) (fun h => absurd h (by decide)) (by decide) ?_
  refine x_iconst (dat d_Wo_addWorld 22 rfl) (by decide) ?_
  refine x_istore_n (L' := [vR 171, vI 0, vU, vU]) (dat d_Wo_addWorld 23 rfl) rfl (by decide) rfl rfl ?_
  refine lo Z _ ?_ ?_ (fun i => ?_) (fun σ2 HI HF => k σ2 ?_ ?_ ?_ ?_ ?_ ?_) (cH C) 0 _ _ _ (by omega) ?_ (fun _ _ => rfl)
  · rw [up_ne (by decide), up_ne (by decide), up_ne (by decide)]; exact hp.1
  · rw [up_ne (by decide), up_ne (by decide), up_ne (by decide)]; exact hp.2.1
  · rw [up_ne (by decide), up_ne (by decide), up_ne (by decide)]
  · refine HI.congr (fun h' p' b q0 q1 => ?_)
    unfold hvI
    congr 1
    exact ite_cg (by omega)
  · rw [HF 171 (by decide), up_ni (by decide), up_ni (by decide), up_ni (by decide)]
  · rw [HF 171 (by decide), up_ni (by decide), up_ni (by decide), up_s]
  · rw [HF 171 (by decide), up_ni (by decide), up_s]
    exact hd.land (by decide) hm1
  · rw [HF 171 (by decide), up_s]
    exact hg.lor (by decide) hm2
  · intro o h1 h2
    rw [HF o h2, up_ne h1, up_ne h1, up_ne h1]
  · intro h' p' b q0 q1 q2 q3 q4 q5
    rw [up_ne (by decide), up_ne (by decide), up_ne (by decide), H h' p' b q0 q1 q2 q3 q4 q5]
    unfold hvI
    rw [if_neg (fun w => by omega)]
    omega
