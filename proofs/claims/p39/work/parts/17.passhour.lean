/-! one hour of a run -/
def HourR (σ : xS) (u : Nat) (C : Cf) (f h : Nat) : Prop :=
  (∀ p : Int, 0 ≤ p → p < cS C 0 → σ (u + 6) (8 * h + p) = (rst C (h + 1)).1 p) ∧ Msk 8 (σ (u + 9) h) (rst C (h + 1)).2 ∧
  (∀ p : Int, 0 ≤ p → p < cS C 0 → Msk 8 (σ (u + 7) (8 * h + p)) (metB (hev C h) p)) ∧ (∀ p : Int, 0 ≤ p → p < cS C 0 → σ (u + 8) (8 * h + p) = cameI (hev C h) p) ∧
  σ (u + 10) h = (hev C h).length ∧ σ (u + 11) h = goneI (hev C h) ∧ σ (u + 5) h = (lgs C f (h + 1)).length
def RunS (σ : xS) (u : Nat) (C : Cf) (f n : Nat) : Prop :=
  (σ u 0 = cS C 0 ∧ σ u 1 = cS C 1 ∧ σ u 2 = cS C 3 ∧ σ u 3 = cS C 4) ∧ (∀ p : Int, 0 ≤ p → p < cS C 0 → σ (u + 12) p = (rst C n).1 p) ∧ Msk 8 (σ u 12) (rst C n).2 ∧ LogR σ (u + 1) (lgs C f n) ∧ ∀ h : Nat, f ≤ h → h < n → HourR σ u C f h
theorem HourR.same {σ σ' : xS} {u : Nat} {C : Cf} {f h : Nat} (H : HourR σ u C f h) (e5 : σ' (u + 5) h = σ (u + 5) h) (e6 : ∀ i : Int, i < 8 * h + 8 → σ' (u + 6) i = σ (u + 6) i) (e7 : ∀ i : Int, i < 8 * h + 8 → σ' (u + 7) i = σ (u + 7) i) (e8 : ∀ i : Int, i < 8 * h + 8 → σ' (u + 8) i = σ (u + 8) i) (e9 : σ' (u + 9) h = σ (u + 9) h) (e10 : σ' (u + 10) h = σ (u + 10) h) (e11 : σ' (u + 11) h = σ (u + 11) h) (hP : cS C 0 ≤ 8) : HourR σ' u C f h := by
  obtain ⟨H1, H2, H3, H4, H5, H6, H7⟩ := H
  exact ⟨fun p q0 q1 => by rw [e6 _ (by omega)]; exact H1 p q0 q1, by rw [e9]; exact H2, fun p q0 q1 => by rw [e7 _ (by omega)]; exact H3 p q0 q1, fun p q0 q1 => by rw [e8 _ (by omega)]; exact H4 p q0 q1, by rw [e10]; exact H5, by rw [e11]; exact H6, by rw [e5]; exact H7⟩
/-- the rows of the hour are emptied -/
def ZrI (σ0 σ : xS) (u : Nat) (h i : Int) : Prop :=
  (∀ q : Int, 0 ≤ q → q < i → σ (u + 7) (8 * h + q) = 0 ∧ σ (u + 8) (8 * h + q) = 0) ∧ (∀ j : Int, j < 8 * h → σ (u + 7) j = σ0 (u + 7) j ∧ σ (u + 8) j = σ0 (u + 8) j) ∧ (∀ o : Nat, o ≠ u + 7 → o ≠ u + 8 → σ o = σ0 o)
theorem lp_Ru_zero {g : xG} {Z : xZ} {K : Option MV → xS → Prop} {σ0 : xS} {u : Nat} {h : Int} (hu : IsRu u) (h0 : 0 ≤ h) (h1 : h < 24) {w5 w6 : MV}
    (k : ∀ σ' : xS, ZrI σ0 σ' u h 8 → Wx g y_Ru_passHour Z K 55 [vR u, vR 138, vI h, vI (8 * h), vI 8, w5, w6] [] σ') : ∀ (n : Nat) (i : Int) (σ : xS), 0 ≤ i → i + n = 8 → ZrI σ0 σ u h i → Wx g y_Ru_passHour Z K 22 [vR u, vR 138, vI h, vI (8 * h), vI i, w5, w6] [] σ := by
  intro n
  induction n with
  | zero =>
    intro i σ q0 q1 H
    have e : i = 8 := by omega
    subst e
    refine x_iload (dat d_Ru_passHour 16 rfl) rfl ?_
    refine x_bipush (dat d_Ru_passHour 17 rfl) (by decide) (by decide) ?_
    refine x_icmp_ge (tgt := 55) (dat d_Ru_passHour 18 rfl) (by decide) (fun c_26 => ?_) (fun h => absurd h (by decide))
    exact k _ H
  | succ n ih =>
    intro i σ q0 q1 H
    refine x_iload (dat d_Ru_passHour 16 rfl) rfl ?_
    refine x_bipush (dat d_Ru_passHour 17 rfl) (by decide) (by decide) ?_
    refine x_icmp_ge (tgt := 55) (dat d_Ru_passHour 18 rfl) (by decide) (fun c_26 => (by omega)) (fun c_26 => ?_)
    refine x_aload_n (dat d_Ru_passHour 19 rfl) rfl rfl ?_
    refine x_getr (r := u + 7) (dat d_Ru_passHour 20 rfl) rfl f_Ru_22 (ru_or_6 hu) ?_
    refine x_iload_n (dat d_Ru_passHour 21 rfl) rfl rfl ?_
    refine x_iload (dat d_Ru_passHour 22 rfl) rfl ?_
    refine x_iadd (v := (8 * h) + i) (dat d_Ru_passHour 23 rfl) rfl (by omega) ?_
    refine x_iconst (dat d_Ru_passHour 24 rfl) (by decide) ?_
    refine x_iast (n := 192) (dat d_Ru_passHour 25 rfl) (ru_ai_7 hu) (by omega) (by omega) ?_
    refine x_aload_n (dat d_Ru_passHour 26 rfl) rfl rfl ?_
    refine x_getr (r := u + 8) (dat d_Ru_passHour 27 rfl) rfl f_Ru_25 (ru_or_7 hu) ?_
    refine x_iload_n (dat d_Ru_passHour 28 rfl) rfl rfl ?_
    refine x_iload (dat d_Ru_passHour 29 rfl) rfl ?_
    refine x_iadd (v := (8 * h) + i) (dat d_Ru_passHour 30 rfl) rfl (by omega) ?_
    refine x_iconst (dat d_Ru_passHour 31 rfl) (by decide) ?_
    refine x_iast (n := 192) (dat d_Ru_passHour 32 rfl) (ru_ai_8 hu) (by omega) (by omega) ?_
    refine x_iinc (v' := i + 1) (L' := [vR u, vR 138, vI h, vI (8 * h), vI (i + 1), w5, w6]) (dat d_Ru_passHour 33 rfl) rfl (by decide) rfl rfl (by omega) rfl ?_
    refine x_goto (tgt := 22) (dat d_Ru_passHour 34 rfl) (by decide) ?_
    refine ih (i + 1) _ (by omega) (by omega) ⟨fun q r0 r1 => ?_, fun j r0 => ⟨?_, ?_⟩, fun o r0 r1 => by rw [up_ne r1, up_ne r0]; exact H.2.2 o r0 r1⟩
    · by_cases e : q = i
      · subst e
        exact ⟨by rw [up_nk (by omega), up_s], by rw [up_s]⟩
      · rw [up_nk (by omega), up_ni (by omega), up_ni (by omega), up_nk (by omega)]
        exact H.1 q r0 (by omega)
    · rw [up_nk (by omega), up_ni (by omega)]
      exact (H.2.1 j r0).1
    · rw [up_ni (by omega), up_nk (by omega)]
      exact (H.2.1 j r0).2
theorem HrS.plan {σ0 σ : xS} {u : Nat} {h P : Int} {bd : Int → Int} {evs cum : List Ev} {C : Cf} (H : HrS σ0 σ u h P bd evs cum) (hu : IsRu u) (hp : PlanR σ0 C) : PlanR σ C := by
  have cs := ru_cs hu
  exact hp.same (fun o q0 q1 => H.2.2.2.2.2.2.1 o (by omega))
theorem lp_Ru_inn {g : xG} {Z : xZ} {K : Option MV → xS → Prop} {σ0 : xS} {u : Nat} {C : Cf} {h a oth T : Int} {al : Int → Bool} {cum : List Ev} (hu : IsRu u) (hC : CfOk C) (hp : PlanR σ0 C) (h20 : σ0 u 0 = cS C 0) (h0 : 0 ≤ h) (h1 : h < cS C 1) (ha : 0 ≤ a) (haP : a < cS C 0) (hT : T ≤ 1000) (hcum : cum.length + 28 ≤ 672)
    (ho : 0 ≤ oth ∧ oth < 256 ∧ ∀ b : Int, a < b → b < cS C 0 → tb oth b = (al a && al b && cOp C a b)) : ∀ (n : Nat) (b : Int) (σ : xS) (s : Hs), a < b → b + n = cS C 0 → HrS σ0 σ u h (cS C 0) s.1 s.2 cum → BdOk (cS C 0) T s.1 → EvsOk (cS C 0) s.2 → s.2.length + n ≤ 28 →
    (∀ (σ' : xS) (w : MV), HrS σ0 σ' u h (cS C 0) (inn (stp C h al a) n b s).1 (inn (stp C h al a) n b s).2 cum → Wx g y_Ru_passHour Z K 201 [vR u, vR 138, vI h, vI (8 * h), vI a, vI oth, w] [] σ') →
    Wx g y_Ru_passHour Z K 145 [vR u, vR 138, vI h, vI (8 * h), vI a, vI oth, vI b] [] σ := by
  have h8 := hC.2.1
  have hH := hC.2.2.2.1
  have cs := ru_cs hu
  intro n
  induction n with
  | zero =>
    intro b σ s hab hb H hB hE hl k
    have e0 : σ u 0 = cS C 0 := by rw [H.2.2.2.2.2.2.1 u (by omega), h20]
    refine x_iload (dat d_Ru_passHour 84 rfl) rfl ?_
    refine x_aload_n (dat d_Ru_passHour 85 rfl) rfl rfl ?_
    refine x_geti (ji := 0) (v := cS C 0) (dat d_Ru_passHour 86 rfl) rfl f_Ru_46 (ru_oi_0 hu) (e0) ?_
    refine x_icmp_ge (tgt := 201) (dat d_Ru_passHour 87 rfl) (by decide) (fun c_151 => ?_) (fun c_151 => (by omega))
    exact k _ _ H
  | succ n ih =>
    intro b σ s hab hb H hB hE hl k
    have e0 : σ u 0 = cS C 0 := by rw [H.2.2.2.2.2.2.1 u (by omega), h20]
    have hp2 := H.plan hu hp
    have eb : iand (ishr oth b) 1 = if (al a && al b && cOp C a b) = true then 1 else 0 := by
      rw [tb_get ho.1 (by omega) (by omega) (by omega), ho.2.2 b hab (by omega)]
    have w1 : σ 142 (8 * h + a) = cWh C h a := hp2.2.2.2.2.2.2.2.2.2.2.2.2 h a h0 h1 ha haP
    have w2 : σ 142 (8 * h + b) = cWh C h b := hp2.2.2.2.2.2.2.2.2.2.2.2.2 h b h0 h1 (by omega) (by omega)
    obtain ⟨g1, g2, g3⟩ := stp_ok (C := C) (h := h) (al := al) (s := s) hB hE ha hab (show b < cS C 0 by omega)
    have nx : ∀ σ2 : xS, HrS σ0 σ2 u h (cS C 0) (stp C h al a b s).1 (stp C h al a b s).2 cum → Wx g y_Ru_passHour Z K 145 [vR u, vR 138, vI h, vI (8 * h), vI a, vI oth, vI (b + 1)] [] σ2 := fun σ2 H2 => ih (b + 1) σ2 _ (by omega) (by omega) H2 g1 g2 (by omega) k
    cases e1 : (al a && al b && cOp C a b)
    · have es : stp C h al a b s = s := by
        unfold stp shk
        rw [e1]
        simp
      rw [es] at nx
      refine x_iload (dat d_Ru_passHour 84 rfl) rfl ?_
      refine x_aload_n (dat d_Ru_passHour 85 rfl) rfl rfl ?_
      refine x_geti (ji := 0) (v := cS C 0) (dat d_Ru_passHour 86 rfl) rfl f_Ru_46 (ru_oi_0 hu) (e0) ?_
      refine x_icmp_ge (tgt := 201) (dat d_Ru_passHour 87 rfl) (by decide) (fun c_151 => (by omega)) (fun c_151 => ?_)
      refine x_iload (dat d_Ru_passHour 88 rfl) rfl ?_
      refine x_iload (dat d_Ru_passHour 89 rfl) rfl ?_
      refine x_ishr (v := ishr oth b) (dat d_Ru_passHour 90 rfl) rfl ?_
      refine x_iconst (dat d_Ru_passHour 91 rfl) (by decide) ?_
      refine x_iand (v := 0) (dat d_Ru_passHour 92 rfl) (by rw [eb, e1]; rfl) ?_
      refine x_if_eq (tgt := 195) (dat d_Ru_passHour 93 rfl) (by decide) (fun c_161 => ?_) (fun h => absurd h (by decide))
      refine x_iinc (v' := b + 1) (L' := [vR u, vR 138, vI h, vI (8 * h), vI a, vI oth, vI (b + 1)]) (dat d_Ru_passHour 113 rfl) rfl (by decide) rfl rfl (by omega) rfl ?_
      refine x_goto (tgt := 145) (dat d_Ru_passHour 114 rfl) (by decide) ?_
      exact nx _ H
    · by_cases e2 : cWh C h a = cWh C h b
      · have es : stp C h al a b s = (mvb s.1 a b (gvr C s.1 a b), (a, b, gvr C s.1 a b) :: s.2) := by
          unfold stp shk
          rw [e1, e2]
          simp
        rw [es] at nx
        refine x_iload (dat d_Ru_passHour 84 rfl) rfl ?_
        refine x_aload_n (dat d_Ru_passHour 85 rfl) rfl rfl ?_
        refine x_geti (ji := 0) (v := cS C 0) (dat d_Ru_passHour 86 rfl) rfl f_Ru_46 (ru_oi_0 hu) (e0) ?_
        refine x_icmp_ge (tgt := 201) (dat d_Ru_passHour 87 rfl) (by decide) (fun c_151 => (by omega)) (fun c_151 => ?_)
        refine x_iload (dat d_Ru_passHour 88 rfl) rfl ?_
        refine x_iload (dat d_Ru_passHour 89 rfl) rfl ?_
        refine x_ishr (v := ishr oth b) (dat d_Ru_passHour 90 rfl) rfl ?_
        refine x_iconst (dat d_Ru_passHour 91 rfl) (by decide) ?_
        refine x_iand (v := 1) (dat d_Ru_passHour 92 rfl) (by rw [eb, e1]; rfl) ?_
        refine x_if_eq (tgt := 195) (dat d_Ru_passHour 93 rfl) (by decide) (fun h => absurd h (by decide)) (fun c_161 => ?_)
        refine x_aload_n (dat d_Ru_passHour 94 rfl) rfl rfl ?_
        refine x_getr (r := 142) (dat d_Ru_passHour 95 rfl) rfl f_Ru_90 (or_mk (by decide +kernel)) ?_
        refine x_iload_n (dat d_Ru_passHour 96 rfl) rfl rfl ?_
        refine x_iload (dat d_Ru_passHour 97 rfl) rfl ?_
        refine x_iadd (v := (8 * h) + a) (dat d_Ru_passHour 98 rfl) rfl (by omega) ?_
        refine x_iald (n := 192) (v := cWh C h a) (dat d_Ru_passHour 99 rfl) (ai_mk (by decide +kernel)) (by omega) (by omega) (w1) ?_
        refine x_aload_n (dat d_Ru_passHour 100 rfl) rfl rfl ?_
        refine x_getr (r := 142) (dat d_Ru_passHour 101 rfl) rfl f_Ru_90 (or_mk (by decide +kernel)) ?_
        refine x_iload_n (dat d_Ru_passHour 102 rfl) rfl rfl ?_
        refine x_iload (dat d_Ru_passHour 103 rfl) rfl ?_
        refine x_iadd (v := (8 * h) + b) (dat d_Ru_passHour 104 rfl) rfl (by omega) ?_
        refine x_iald (n := 192) (v := cWh C h b) (dat d_Ru_passHour 105 rfl) (ai_mk (by decide +kernel)) (by omega) (by omega) (w2) ?_
        refine x_icmp_ne (tgt := 195) (dat d_Ru_passHour 106 rfl) (by decide) (fun c_182 => (by omega)) (fun c_182 => ?_)
        refine x_aload_n (dat d_Ru_passHour 107 rfl) rfl rfl ?_
        refine x_aload_n (dat d_Ru_passHour 108 rfl) rfl rfl ?_
        refine x_iload_n (dat d_Ru_passHour 109 rfl) rfl rfl ?_
        refine x_iload (dat d_Ru_passHour 110 rfl) rfl ?_
        refine x_iload (dat d_Ru_passHour 111 rfl) rfl ?_
        refine x_inv (As := [vR 138, vI h, vI a, vI b]) (dat d_Ru_passHour 112 rfl) rfl c_Ru_shakeHands l_Ru_93 (by decide) (rv_ru (ru_k hu)) rfl rfl (Nat.le_of_ble_eq_true rfl) ?_
        refine sp_Ru_shakeHands hu hC hp2 h0 (by omega) ha hab (by omega) hB hT (by omega) (by omega) H (fun σ2 H2 => ?_)
        show Wx g y_Ru_passHour Z K 195 [vR u, vR 138, vI h, vI (8 * h), vI a, vI oth, vI b] [] σ2
        refine x_iinc (v' := b + 1) (L' := [vR u, vR 138, vI h, vI (8 * h), vI a, vI oth, vI (b + 1)]) (dat d_Ru_passHour 113 rfl) rfl (by decide) rfl rfl (by omega) rfl ?_
        refine x_goto (tgt := 145) (dat d_Ru_passHour 114 rfl) (by decide) ?_
        exact nx _ H2
      · have es : stp C h al a b s = s := by
          unfold stp shk
          simp [e2]
        rw [es] at nx
        refine x_iload (dat d_Ru_passHour 84 rfl) rfl ?_
        refine x_aload_n (dat d_Ru_passHour 85 rfl) rfl rfl ?_
        refine x_geti (ji := 0) (v := cS C 0) (dat d_Ru_passHour 86 rfl) rfl f_Ru_46 (ru_oi_0 hu) (e0) ?_
        refine x_icmp_ge (tgt := 201) (dat d_Ru_passHour 87 rfl) (by decide) (fun c_151 => (by omega)) (fun c_151 => ?_)
        refine x_iload (dat d_Ru_passHour 88 rfl) rfl ?_
        refine x_iload (dat d_Ru_passHour 89 rfl) rfl ?_
        refine x_ishr (v := ishr oth b) (dat d_Ru_passHour 90 rfl) rfl ?_
        refine x_iconst (dat d_Ru_passHour 91 rfl) (by decide) ?_
        refine x_iand (v := 1) (dat d_Ru_passHour 92 rfl) (by rw [eb, e1]; rfl) ?_
        refine x_if_eq (tgt := 195) (dat d_Ru_passHour 93 rfl) (by decide) (fun h => absurd h (by decide)) (fun c_161 => ?_)
        refine x_aload_n (dat d_Ru_passHour 94 rfl) rfl rfl ?_
        refine x_getr (r := 142) (dat d_Ru_passHour 95 rfl) rfl f_Ru_90 (or_mk (by decide +kernel)) ?_
        refine x_iload_n (dat d_Ru_passHour 96 rfl) rfl rfl ?_
        refine x_iload (dat d_Ru_passHour 97 rfl) rfl ?_
        refine x_iadd (v := (8 * h) + a) (dat d_Ru_passHour 98 rfl) rfl (by omega) ?_
        refine x_iald (n := 192) (v := cWh C h a) (dat d_Ru_passHour 99 rfl) (ai_mk (by decide +kernel)) (by omega) (by omega) (w1) ?_
        refine x_aload_n (dat d_Ru_passHour 100 rfl) rfl rfl ?_
        refine x_getr (r := 142) (dat d_Ru_passHour 101 rfl) rfl f_Ru_90 (or_mk (by decide +kernel)) ?_
        refine x_iload_n (dat d_Ru_passHour 102 rfl) rfl rfl ?_
        refine x_iload (dat d_Ru_passHour 103 rfl) rfl ?_
        refine x_iadd (v := (8 * h) + b) (dat d_Ru_passHour 104 rfl) rfl (by omega) ?_
        refine x_iald (n := 192) (v := cWh C h b) (dat d_Ru_passHour 105 rfl) (ai_mk (by decide +kernel)) (by omega) (by omega) (w2) ?_
        refine x_icmp_ne (tgt := 195) (dat d_Ru_passHour 106 rfl) (by decide) (fun c_182 => ?_) (fun c_182 => (by omega))
        refine x_iinc (v' := b + 1) (L' := [vR u, vR 138, vI h, vI (8 * h), vI a, vI oth, vI (b + 1)]) (dat d_Ru_passHour 113 rfl) rfl (by decide) rfl rfl (by omega) rfl ?_
        refine x_goto (tgt := 145) (dat d_Ru_passHour 114 rfl) (by decide) ?_
        exact nx _ H
theorem lp_Ru_out {g : xG} {Z : xZ} {K : Option MV → xS → Prop} {σ0 : xS} {u : Nat} {C : Cf} {h T : Int} {al : Int → Bool} {cum : List Ev} (hu : IsRu u) (hC : CfOk C) (hp : PlanR σ0 C) (h20 : σ0 u 0 = cS C 0) (hm : Msk 8 (σ0 u 12) al) (h0 : 0 ≤ h) (h1 : h < cS C 1) (hT : T ≤ 1000) (hcum : cum.length + 28 ≤ 672) : ∀ (n k0 : Nat) (σ : xS) (s : Hs) (w5 w6 : MV), (k0 : Int) + n = cS C 0 → HrS σ0 σ u h (cS C 0) s.1 s.2 cum → BdOk (cS C 0) T s.1 → EvsOk (cS C 0) s.2 → s.2.length ≤ pbN k0 →
    (∀ (σ' : xS) (w4 w5 w6 : MV), HrS σ0 σ' u h (cS C 0) (outr C h al n k0 s).1 (outr C h al n k0 s).2 cum → Wx g y_Ru_passHour Z K 207 [vR u, vR 138, vI h, vI (8 * h), w4, w5, w6] [] σ') →
    Wx g y_Ru_passHour Z K 100 [vR u, vR 138, vI h, vI (8 * h), vI (k0 : Int), w5, w6] [] σ := by
  have h8 := hC.2.1
  have cs := ru_cs hu
  intro n
  induction n with
  | zero =>
    intro k0 σ s w5 w6 hk H hB hE hl k
    have e0 : σ u 0 = cS C 0 := by rw [H.2.2.2.2.2.2.1 u (by omega), h20]
    refine x_iload (dat d_Ru_passHour 59 rfl) rfl ?_
    refine x_aload_n (dat d_Ru_passHour 60 rfl) rfl rfl ?_
    refine x_geti (ji := 0) (v := cS C 0) (dat d_Ru_passHour 61 rfl) rfl f_Ru_46 (ru_oi_0 hu) (e0) ?_
    refine x_icmp_ge (tgt := 207) (dat d_Ru_passHour 62 rfl) (by decide) (fun c_106 => ?_) (fun c_106 => (by omega))
    exact k _ _ _ _ H
  | succ n ih =>
    intro k0 σ s w5 w6 hk H hB hE hl k
    have eu : σ u = σ0 u := H.2.2.2.2.2.2.1 u (by omega)
    have e0 : σ u 0 = cS C 0 := by rw [eu, h20]
    have hp2 := H.plan hu hp
    have m1 : Msk 8 (σ u 12) al := by rw [eu]; exact hm
    have ea : iand (ishr (σ u 12) k0) 1 = if al k0 = true then 1 else 0 := m1.get (by decide) (by omega) (by omega)
    obtain ⟨o1, o2, o3⟩ := hp2.2.2.2.2.2.2.2.2.2.2.2.1 k0 (by omega) (by omega)
    have nx : ∀ (oth : Int), (0 ≤ oth ∧ oth < 256 ∧ ∀ b : Int, (k0 : Int) < b → b < cS C 0 → tb oth b = (al k0 && al b && cOp C k0 b)) → Wx g y_Ru_passHour Z K 145 [vR u, vR 138, vI h, vI (8 * h), vI (k0 : Int), vI oth, vI ((k0 : Int) + 1)] [] σ := by
      intro oth ho
      obtain ⟨g1, g2, g3⟩ := inn_ok (h := h) (al := al) (a := (k0 : Int)) (by omega) (cS C 0 - (k0 + 1)).toNat ((k0 : Int) + 1) s (by omega) (by omega) hB hE
      have hl2 : (inn (stp C h al k0) (cS C 0 - (k0 + 1)).toNat ((k0 : Int) + 1) s).2.length ≤ pbN (k0 + 1) := by
        simp only [pbN]
        omega
      have hl3 : pbN (k0 + 1) ≤ 28 := pbN_8 _ (by omega)
      have hl4 : pbN k0 + (7 - k0) ≤ 28 := hl3
      refine lp_Ru_inn hu hC hp h20 h0 h1 (by omega) (by omega) hT hcum ho (cS C 0 - (k0 + 1)).toNat ((k0 : Int) + 1) σ s (by omega) (by omega) H hB hE (by omega) (fun σ2 w H2 => ?_)
      refine x_iinc (v' := ((k0 + 1 : Nat) : Int)) (L' := [vR u, vR 138, vI h, vI (8 * h), vI ((k0 + 1 : Nat) : Int), vI oth, w]) (dat d_Ru_passHour 115 rfl) rfl (by decide) rfl (by omega) (by omega) rfl ?_
      refine x_goto (tgt := 100) (dat d_Ru_passHour 116 rfl) (by decide) ?_
      refine ih (k0 + 1) σ2 _ _ _ (by omega) H2 g1 g2 hl2 ?_
      have e : outr C h al (n + 1) k0 s = outr C h al n ((k0 + 1 : Nat) : Int) (inn (stp C h al k0) (cS C 0 - (k0 + 1)).toNat ((k0 : Int) + 1) s) := rfl
      rw [← e]
      exact k
    cases ha : al k0
    · refine x_iload (dat d_Ru_passHour 59 rfl) rfl ?_
      refine x_aload_n (dat d_Ru_passHour 60 rfl) rfl rfl ?_
      refine x_geti (ji := 0) (v := cS C 0) (dat d_Ru_passHour 61 rfl) rfl f_Ru_46 (ru_oi_0 hu) (e0) ?_
      refine x_icmp_ge (tgt := 207) (dat d_Ru_passHour 62 rfl) (by decide) (fun c_106 => (by omega)) (fun c_106 => ?_)
      refine x_aload_n (dat d_Ru_passHour 63 rfl) rfl rfl ?_
      refine x_geti (ji := 12) (v := σ u 12) (dat d_Ru_passHour 64 rfl) rfl f_Ru_71 (ru_oi_12 hu) rfl ?_
      refine x_iload (dat d_Ru_passHour 65 rfl) rfl ?_
      refine x_ishr (v := ishr (σ u 12) (k0 : Int)) (dat d_Ru_passHour 66 rfl) rfl ?_
      refine x_iconst (dat d_Ru_passHour 67 rfl) (by decide) ?_
      refine x_iand (v := 0) (dat d_Ru_passHour 68 rfl) (by rw [ea, ha]; rfl) ?_
      refine x_if_ne (tgt := 125) (dat d_Ru_passHour 69 rfl) (by decide) (fun h => absurd h (by decide)) (fun c_118 => ?_)
      refine x_iconst (dat d_Ru_passHour 70 rfl) (by decide) ?_
      refine x_goto (tgt := 137) (dat d_Ru_passHour 71 rfl) (by decide) ?_
      refine x_istore (L' := [vR u, vR 138, vI h, vI (8 * h), vI (k0 : Int), vI 0, w6]) (dat d_Ru_passHour 79 rfl) (by decide) rfl rfl ?_
      refine x_iload (dat d_Ru_passHour 80 rfl) rfl ?_
      refine x_iconst (dat d_Ru_passHour 81 rfl) (by decide) ?_
      refine x_iadd (v := (k0 : Int) + 1) (dat d_Ru_passHour 82 rfl) rfl (by omega) ?_
      refine x_istore (L' := [vR u, vR 138, vI h, vI (8 * h), vI (k0 : Int), vI 0, vI ((k0 : Int) + 1)]) (dat d_Ru_passHour 83 rfl) (by decide) rfl rfl ?_
      exact nx _ ⟨by decide, by decide, fun b q0 q1 => by rw [ha]; unfold tb; simp⟩
    · refine x_iload (dat d_Ru_passHour 59 rfl) rfl ?_
      refine x_aload_n (dat d_Ru_passHour 60 rfl) rfl rfl ?_
      refine x_geti (ji := 0) (v := cS C 0) (dat d_Ru_passHour 61 rfl) rfl f_Ru_46 (ru_oi_0 hu) (e0) ?_
      refine x_icmp_ge (tgt := 207) (dat d_Ru_passHour 62 rfl) (by decide) (fun c_106 => (by omega)) (fun c_106 => ?_)
      refine x_aload_n (dat d_Ru_passHour 63 rfl) rfl rfl ?_
      refine x_geti (ji := 12) (v := σ u 12) (dat d_Ru_passHour 64 rfl) rfl f_Ru_71 (ru_oi_12 hu) rfl ?_
      refine x_iload (dat d_Ru_passHour 65 rfl) rfl ?_
      refine x_ishr (v := ishr (σ u 12) (k0 : Int)) (dat d_Ru_passHour 66 rfl) rfl ?_
      refine x_iconst (dat d_Ru_passHour 67 rfl) (by decide) ?_
      refine x_iand (v := 1) (dat d_Ru_passHour 68 rfl) (by rw [ea, ha]; rfl) ?_
      refine x_if_ne (tgt := 125) (dat d_Ru_passHour 69 rfl) (by decide) (fun c_118 => ?_) (fun h => absurd h (by decide))
      refine x_aload_n (dat d_Ru_passHour 72 rfl) rfl rfl ?_
      refine x_geti (ji := 12) (v := σ u 12) (dat d_Ru_passHour 73 rfl) rfl f_Ru_71 (ru_oi_12 hu) rfl ?_
      refine x_aload_n (dat d_Ru_passHour 74 rfl) rfl rfl ?_
      refine x_getr (r := 141) (dat d_Ru_passHour 75 rfl) rfl f_Ru_87 (or_mk (by decide +kernel)) ?_
      refine x_iload (dat d_Ru_passHour 76 rfl) rfl ?_
      refine x_iald (n := 8) (v := σ 141 (k0 : Int)) (dat d_Ru_passHour 77 rfl) (ai_mk (by decide +kernel)) (by omega) (by omega) rfl ?_
      refine x_iand (v := iand (σ u 12) (σ 141 (k0 : Int))) (dat d_Ru_passHour 78 rfl) rfl ?_
      refine x_istore (L' := [vR u, vR 138, vI h, vI (8 * h), vI (k0 : Int), vI (iand (σ u 12) (σ 141 (k0 : Int))), w6]) (dat d_Ru_passHour 79 rfl) (by decide) rfl rfl ?_
      refine x_iload (dat d_Ru_passHour 80 rfl) rfl ?_
      refine x_iconst (dat d_Ru_passHour 81 rfl) (by decide) ?_
      refine x_iadd (v := (k0 : Int) + 1) (dat d_Ru_passHour 82 rfl) rfl (by omega) ?_
      refine x_istore (L' := [vR u, vR 138, vI h, vI (8 * h), vI (k0 : Int), vI (iand (σ u 12) (σ 141 (k0 : Int))), vI ((k0 : Int) + 1)]) (dat d_Ru_passHour 83 rfl) (by decide) rfl rfl ?_
      refine nx _ ?_
      have m2 := m1.land (by decide) (msk_self (n := 8) o1 (by omega))
      refine ⟨m2.1, m2.2.1, fun b q0 q1 => ?_⟩
      rw [m2.2.2 b (by omega) (by omega)]
      show (al b && tb (σ 141 k0) b) = _
      rw [o3 b q0 q1, ha]
      rfl
theorem lgs_succ (C : Cf) {f n : Nat} (h : f ≤ n) : lgs C f (n + 1) = hev C n ++ lgs C f n := by
  simp only [lgs]
  rw [if_neg (by omega)]
theorem lgs_len {C : Cf} (hC : CfOk C) (f : Nat) : ∀ n : Nat, (lgs C f n).length ≤ 28 * n := fun n => (lgs_ok hC f n).2
theorem sp_Ru_passHour {g : xG} {K : Option MV → xS → Prop} {σ : xS} {u f n : Nat} {C : Cf} (hu : IsRu u) (hC : CfOk C) (hp : PlanR σ C) (hfn : f ≤ n) (hn : (n : Int) < cS C 1) (R : RunS σ u C f n)
    (k : ∀ σ' : xS, RunS σ' u C f (n + 1) → (∀ o : Nat, o < u ∨ u + 12 < o → σ' o = σ o) → K none σ') : Mt g y_Ru_passHour [vR u, vR 138, vI (n : Int)] σ K := by
  have h8 := hC.2.1
  have hP0 := hC.1
  have hH := hC.2.2.2.1
  have cs := ru_cs hu
  have hlg := lgs_len hC f n
  obtain ⟨⟨R1, R2, R3, R4⟩, R5, R6, R7, R8⟩ := R
  have hbd := rst_ok hC n
  have ht1 := hC.tt n
  have ht2 := hC.tt (n + 1)
  have hlo := lof_ok (h := (n : Int)) hC.2.2.2.2.2.2.2.2.2.2.1 hbd
  have hT : tot (cSt C) (cS C 0).toNat + loafed C n + (if (n : Int) = cS C 6 then cS C 7 else 0) ≤ 1000 := by
    have := hC.2.2.2.2.2.2.2.2.2.2.2.1
    split <;> omega
  obtain ⟨hm1, hm2, hm3⟩ := hmi_ok hC n
  have hBm : BdOk (cS C 0) 1000 (hmi C n).1 := ⟨hm1.1, by have := hm1.2; omega⟩
  have b6 : σ 138 6 = cS C 5 := hp.2.2.2.2.2.2.1
  have b7 : σ 138 7 = cS C 6 := hp.2.2.2.2.2.2.2.1
  have b8 : σ 138 8 = cS C 7 := hp.2.2.2.2.2.2.2.2.1
  -- the end of the hour, from a state with all its hands shaken
  have fin : ∀ (Z : xZ) (σ2 : xS) (w4 w5 w6 : MV), HrS σ σ2 u n (cS C 0) (hmi C n).1 (hev C n) (lgs C f n) → Wx g y_Ru_passHour Z K 207 [vR u, vR 138, vI (n : Int), vI (8 * (n : Int)), w4, w5, w6] [] σ2 := by
    intro Z σ2 w4 w5 w6 H
    have eu : σ2 u = σ u := H.2.2.2.2.2.2.1 u (by omega)
    have hL := H.2.2.2.2.2.1
    rw [← lgs_succ C hfn] at hL
    -- behind the meal
    have fin2 : ∀ σ4 : xS, (∀ p : Int, 0 ≤ p → p < cS C 0 → σ4 (u + 12) p = (rst C (n + 1)).1 p) → Msk 8 (σ4 u 12) (rst C (n + 1)).2 → (∀ o : Nat, o ≠ u → o ≠ u + 12 → σ4 o = up σ2 (u + 1 + 4) n ((lgs C f (n + 1)).length : Int) o) → (∀ j : Int, j ≠ 12 → σ4 u j = σ u j) →
        Wx g y_Ru_passHour Z K 227 [vR u, vR 138, vI (n : Int), vI (8 * (n : Int)), w4, w5, w6] [] σ4 := by
      intro σ4 G1 G2 G3 G4
      refine x_aload_n (dat d_Ru_passHour 127 rfl) rfl rfl ?_
      refine x_getr (r := u + 12) (dat d_Ru_passHour 128 rfl) rfl f_Ru_37 (ru_or_11 hu) ?_
      refine x_iconst (dat d_Ru_passHour 129 rfl) (by decide) ?_
      refine x_aload_n (dat d_Ru_passHour 130 rfl) rfl rfl ?_
      refine x_getr (r := u + 6) (dat d_Ru_passHour 131 rfl) rfl f_Ru_18 (ru_or_5 hu) ?_
      refine x_iload_n (dat d_Ru_passHour 132 rfl) rfl rfl ?_
      refine x_bipush (dat d_Ru_passHour 133 rfl) (by decide) (by decide) ?_
      refine x_copy (own := "ShakenBread$Run") (t := 20) (na := 8) (nb := 192) (dat d_Ru_passHour 134 rfl) rfl l_Ru_65 (by decide) (by decide) (ru_ai_12 hu) (ru_ai_6 hu) (by omega) (by omega) (by omega) (by omega) (by omega) (Nat.le_of_ble_eq_true rfl) ?_
      refine x_aload_n (dat d_Ru_passHour 135 rfl) rfl rfl ?_
      refine x_getr (r := u + 9) (dat d_Ru_passHour 136 rfl) rfl f_Ru_28 (ru_or_8 hu) ?_
      refine x_iload_n (dat d_Ru_passHour 137 rfl) rfl rfl ?_
      refine x_aload_n (dat d_Ru_passHour 138 rfl) rfl rfl ?_
      refine x_geti (ji := 12) (v := σ4 u 12) (dat d_Ru_passHour 139 rfl) rfl f_Ru_71 (ru_oi_12 hu) (congrFun (cpy_ne (Ne.symm (by omega))) _) ?_
      refine x_iast (n := 24) (dat d_Ru_passHour 140 rfl) (ru_ai_9 hu) (by omega) (by omega) ?_
      refine x_ret (dat d_Ru_passHour 141 rfl) rfl ?_
      refine k _ ⟨⟨?_, ?_, ?_, ?_⟩, fun p q0 q1 => ?_, ?_, ?_, fun h q0 q1 => ?_⟩ (fun o q => ?_)
      · rw [up_nk (by omega), cpy_ne (by omega), G4 0 (by decide)]; exact R1
      · rw [up_nk (by omega), cpy_ne (by omega), G4 1 (by decide)]; exact R2
      · rw [up_nk (by omega), cpy_ne (by omega), G4 2 (by decide)]; exact R3
      · rw [up_nk (by omega), cpy_ne (by omega), G4 3 (by decide)]; exact R4
      · rw [up_nk (by omega), cpy_ne (by omega)]; exact G1 p q0 q1
      · rw [up_nk (by omega), cpy_ne (by omega)]; exact G2
      · refine hL.same (fun o q0 q1 => ?_)
        rw [up_ne (by omega), cpy_ne (by omega), G3 o (by omega) (by omega), up_ne (by omega)]
      · have g3 : ∀ o : Nat, o ≠ u → o ≠ u + 12 → o ≠ u + 6 → o ≠ u + 9 → o ≠ u + 5 → up (cpy σ4 (u + 12) (u + 6) 0 (8 * (n : Int)) 8) (u + 9) n (σ4 u 12) o = σ2 o := fun o r1 r2 r3 r4 r5 => by
          rw [up_ne r4, cpy_ne r3, G3 o r1 r2, up_ne (by omega)]
        have f5 : ∀ i : Int, up (cpy σ4 (u + 12) (u + 6) 0 (8 * (n : Int)) 8) (u + 9) n (σ4 u 12) (u + 5) i = (if i = n then ((lgs C f (n + 1)).length : Int) else σ (u + 5) i) := fun i => by
          rw [up_nk (by omega), cpy_ne (by omega), G3 _ (by omega) (by omega)]
          by_cases e : i = n
          · rw [if_pos e, e, show u + 5 = u + 1 + 4 by omega, up_s]
          · rw [if_neg e, show u + 5 = u + 1 + 4 by omega, up_ni (fun q => e q.symm), show u + 1 + 4 = u + 5 by omega, H.2.2.2.2.2.2.2.1]
        by_cases e : h = n
        · subst e
          refine ⟨fun p r0 r1 => ?_, ?_, fun p r0 r1 => ?_, fun p r0 r1 => ?_, ?_, ?_, ?_⟩
          · rw [up_nk (by omega), cpy_in (by omega) (by omega), show (0 : Int) + (8 * (h : Int) + p - 8 * h) = p by omega]
            exact G1 p r0 r1
          · rw [up_s]
            exact G2
          · rw [g3 _ (by omega) (by omega) (by omega) (by omega) (by omega)]
            exact H.2.1 p r0 r1
          · rw [g3 _ (by omega) (by omega) (by omega) (by omega) (by omega)]
            exact H.2.2.1 p r0 r1
          · rw [g3 _ (by omega) (by omega) (by omega) (by omega) (by omega)]
            exact H.2.2.2.1
          · rw [g3 _ (by omega) (by omega) (by omega) (by omega) (by omega)]
            exact H.2.2.2.2.1
          · rw [f5, if_pos rfl]
        · have hlt : h < n := by omega
          refine (R8 h q0 hlt).same ?_ (fun i r => ?_) (fun i r => ?_) (fun i r => ?_) ?_ ?_ ?_ h8
          · rw [f5, if_neg (by omega)]
          · rw [up_nk (by omega), cpy_out (by omega), G3 _ (by omega) (by omega), up_nk (by omega), H.2.2.2.2.2.2.2.2.1]
          · rw [g3 _ (by omega) (by omega) (by omega) (by omega) (by omega)]
            exact (H.2.2.2.2.2.2.2.2.2.2.1 i (by omega)).1
          · rw [g3 _ (by omega) (by omega) (by omega) (by omega) (by omega)]
            exact (H.2.2.2.2.2.2.2.2.2.2.1 i (by omega)).2
          · rw [up_ni (by omega), cpy_ne (by omega), G3 _ (by omega) (by omega), up_nk (by omega), H.2.2.2.2.2.2.2.2.2.1]
          · rw [g3 _ (by omega) (by omega) (by omega) (by omega) (by omega)]
            exact (H.2.2.2.2.2.2.2.2.2.2.2 h (by omega)).1
          · rw [g3 _ (by omega) (by omega) (by omega) (by omega) (by omega)]
            exact (H.2.2.2.2.2.2.2.2.2.2.2 h (by omega)).2
      · rw [up_ne (by omega), cpy_ne (by omega), G3 o (by omega) (by omega), up_ne (by omega)]
        exact H.2.2.2.2.2.2.1 o (by omega)
    refine x_aload_n (dat d_Ru_passHour 117 rfl) rfl rfl ?_
    refine x_getr (r := u + 1) (dat d_Ru_passHour 118 rfl) rfl f_Ru_12 (ru_or_4 hu) ?_
    refine x_iload_n (dat d_Ru_passHour 119 rfl) rfl rfl ?_
    refine x_inv (As := [vI (n : Int)]) (dat d_Ru_passHour 120 rfl) rfl c_Ha_closeHour l_Ru_97 (by decide) (rv_ha (ha_k (ru_ha hu))) rfl rfl (Nat.le_of_ble_eq_true rfl) ?_
    refine sp_Ha_closeHour (ru_ha hu) hL.1 (by omega) (by omega) ?_
    show Wx g y_Ru_passHour Z K 215 [vR u, vR 138, vI (n : Int), vI (8 * (n : Int)), w4, w5, w6] [] (up σ2 (u + 1 + 4) (n : Int) ((lgs C f (n + 1)).length : Int))
    refine x_aload_n (dat d_Ru_passHour 121 rfl) rfl rfl ?_
    refine x_iload_n (dat d_Ru_passHour 122 rfl) rfl rfl ?_
    refine x_inv (As := [vI (n : Int)]) (dat d_Ru_passHour 123 rfl) rfl c_Ru_eatsAt l_Ru_101 (by decide) (rv_ru (ru_k hu)) rfl rfl (Nat.le_of_ble_eq_true rfl) ?_
    refine sp_Ru_eatsAt hu hC (by rw [up_nk (by omega), eu]; exact R4) (by omega) (by omega) (fun he => ?_) (fun he => ?_)
    · show Wx g y_Ru_passHour Z K 220 [vR u, vR 138, vI (n : Int), vI (8 * (n : Int)), w4, w5, w6] [vI 1] (up σ2 (u + 1 + 4) (n : Int) ((lgs C f (n + 1)).length : Int))
      refine x_if_eq (tgt := 227) (dat d_Ru_passHour 124 rfl) (by decide) (fun h => absurd h (by decide)) (fun c_220 => ?_)
      refine x_aload_n (dat d_Ru_passHour 125 rfl) rfl rfl ?_
      refine x_inv (As := []) (dat d_Ru_passHour 126 rfl) rfl c_Ru_eat l_Ru_105 (by decide) (rv_ru (ru_k hu)) rfl rfl (Nat.le_of_ble_eq_true rfl) ?_
      refine sp_Ru_eat hu hC (bd := (hmi C n).1) (al := (rst C n).2) (by rw [up_nk (by omega), eu]; exact R1) (by rw [up_nk (by omega), eu]; exact R3) hBm (fun p q0 q1 => by rw [up_nk (by omega)]; exact H.1 p q0 q1) (by rw [up_nk (by omega), eu]; exact R6) (fun p q => (rst_al n p q).2) (fun σ4 G1 G2 G3 G4 => ?_)
      have er : rst C (n + 1) = (eatB C (hmi C n).1 (rst C n).2, eatA C (hmi C n).1 (rst C n).2) := by
        show hst C n (rst C n) = _
        unfold hst
        rw [if_pos he, if_pos he]
        rfl
      show Wx g y_Ru_passHour Z K 227 [vR u, vR 138, vI (n : Int), vI (8 * (n : Int)), w4, w5, w6] [] σ4
      first
      | exact fin2 σ4 (by rw [er]; exact G1) (by rw [er]; exact G2) G3 (fun j q => by rw [G4 j q, up_nk (by omega), eu])
      | (have er : rst C (n + 1) = ((hmi C n).1, (rst C n).2) := by
           show hst C n (rst C n) = _
           unfold hst
           rw [he]
           rfl
         exact fin2 _ (fun p q0 q1 => by rw [er, up_nk (by omega)]; exact H.1 p q0 q1) (by rw [er, up_nk (by omega), eu]; exact R6) (fun o q0 q1 => rfl) (fun j q => by rw [up_nk (by omega), eu]))
    · show Wx g y_Ru_passHour Z K 220 [vR u, vR 138, vI (n : Int), vI (8 * (n : Int)), w4, w5, w6] [vI 0] (up σ2 (u + 1 + 4) (n : Int) ((lgs C f (n + 1)).length : Int))
      refine x_if_eq (tgt := 227) (dat d_Ru_passHour 124 rfl) (by decide) (fun c_220 => ?_) (fun h => absurd h (by decide))
      first
      | exact fin2 σ4 (by rw [er]; exact G1) (by rw [er]; exact G2) G3 (fun j q => by rw [G4 j q, up_nk (by omega), eu])
      | (have er : rst C (n + 1) = ((hmi C n).1, (rst C n).2) := by
           show hst C n (rst C n) = _
           unfold hst
           rw [he]
           rfl
         exact fin2 _ (fun p q0 q1 => by rw [er, up_nk (by omega)]; exact H.1 p q0 q1) (by rw [er, up_nk (by omega), eu]; exact R6) (fun o q0 q1 => rfl) (fun j q => by rw [up_nk (by omega), eu]))
  -- the loaf is in
  have mid : ∀ (Z : xZ) (σ2 : xS) (w4 w5 w6 : MV), HrS σ σ2 u n (cS C 0) (lof C n (rst C n).1) [] (lgs C f n) → Wx g y_Ru_passHour Z K 97 [vR u, vR 138, vI (n : Int), vI (8 * (n : Int)), w4, w5, w6] [] σ2 := by
    intro Z σ2 w4 w5 w6 H
    refine x_iconst (dat d_Ru_passHour 57 rfl) (by decide) ?_
    refine x_istore (L' := [vR u, vR 138, vI (n : Int), vI (8 * (n : Int)), vI 0, w5, w6]) (dat d_Ru_passHour 58 rfl) (by decide) rfl rfl ?_
    exact lp_Ru_out hu hC hp R1 R6 (by omega) hn hT (by omega) (cS C 0).toNat 0 σ2 (lof C n (rst C n).1, []) _ _ (by omega) H hlo (fun e he => by cases he) (by simp) (fun σ3 w4 w5 w6 H3 => fin Z σ3 w4 w5 w6 H3)
  refine x_enter 4 rfl rfl rfl (fun Z => ?_)
  show Wx g y_Ru_passHour Z K 0 [vR u, vR 138, vI (n : Int), vU, vU, vU, vU] [] σ
  refine x_iload_n (dat d_Ru_passHour 0 rfl) rfl rfl ?_
  refine x_bipush (dat d_Ru_passHour 1 rfl) (by decide) (by decide) ?_
  refine x_imul (v := 8 * (n : Int)) (dat d_Ru_passHour 2 rfl) (by omega) (by omega) ?_
  refine x_istore_n (L' := [vR u, vR 138, vI (n : Int), vI (8 * (n : Int)), vU, vU, vU]) (dat d_Ru_passHour 3 rfl) rfl (by decide) rfl rfl ?_
  refine x_aload_n (dat d_Ru_passHour 4 rfl) rfl rfl ?_
  refine x_getr (r := u + 10) (dat d_Ru_passHour 5 rfl) rfl f_Ru_31 (ru_or_9 hu) ?_
  refine x_iload_n (dat d_Ru_passHour 6 rfl) rfl rfl ?_
  refine x_iconst (dat d_Ru_passHour 7 rfl) (by decide) ?_
  refine x_iast (n := 24) (dat d_Ru_passHour 8 rfl) (ru_ai_10 hu) (by omega) (by omega) ?_
  refine x_aload_n (dat d_Ru_passHour 9 rfl) rfl rfl ?_
  refine x_getr (r := u + 11) (dat d_Ru_passHour 10 rfl) rfl f_Ru_34 (ru_or_10 hu) ?_
  refine x_iload_n (dat d_Ru_passHour 11 rfl) rfl rfl ?_
  refine x_iconst (dat d_Ru_passHour 12 rfl) (by decide) ?_
  refine x_iast (n := 24) (dat d_Ru_passHour 13 rfl) (ru_ai_11 hu) (by omega) (by omega) ?_
  refine x_iconst (dat d_Ru_passHour 14 rfl) (by decide) ?_
  refine x_istore (L' := [vR u, vR 138, vI (n : Int), vI (8 * (n : Int)), vI 0, vU, vU]) (dat d_Ru_passHour 15 rfl) (by decide) rfl rfl ?_
  refine lp_Ru_zero hu (by omega) (by omega) (σ0 := (up (up σ (u + 10) (n : Int) 0) (u + 11) (n : Int) 0)) (fun σ2 H2 => ?_) 8 0 _ (by omega) (by omega) ⟨fun q q0 q1 => by omega, fun _ _ => ⟨rfl, rfl⟩, fun _ _ _ => rfl⟩
  have fo : ∀ o : Nat, o ≠ u + 7 → o ≠ u + 8 → o ≠ u + 10 → o ≠ u + 11 → σ2 o = σ o := fun o q0 q1 q2 q3 => by rw [H2.2.2 o q0 q1, up_ne q3, up_ne q2]
  have c6 : σ2 138 6 = cS C 5 := by rw [fo 138 (by omega) (by omega) (by omega) (by omega)]; exact b6
  have c7 : σ2 138 7 = cS C 6 := by rw [fo 138 (by omega) (by omega) (by omega) (by omega)]; exact b7
  have c8 : σ2 138 8 = cS C 7 := by rw [fo 138 (by omega) (by omega) (by omega) (by omega)]; exact b8
  have c0 : σ2 u 0 = cS C 0 := by rw [fo u (by omega) (by omega) (by omega) (by omega)]; exact R1
  have HB : ∀ (σ3 : xS), (∀ p : Int, 0 ≤ p → p < cS C 0 → σ3 (u + 12) p = lof C n (rst C n).1 p) → (∀ o : Nat, o ≠ u + 12 → σ3 o = σ2 o) → HrS σ σ3 u n (cS C 0) (lof C n (rst C n).1) [] (lgs C f n) := fun σ3 G1 G2 => by
    refine ⟨G1, fun p q0 q1 => ?_, fun p q0 q1 => ?_, ?_, ?_, ?_, fun o q => ?_, ?_, ?_, ?_, fun i q => ?_, fun i q => ?_⟩
    · rw [G2 _ (by omega), (H2.1 p q0 (by omega)).1]
      exact (Msk.zero 8).congr (fun _ _ _ => rfl)
    · rw [G2 _ (by omega), (H2.1 p q0 (by omega)).2]
      rfl
    · rw [G2 _ (by omega), H2.2.2 _ (by omega) (by omega), up_nk (by omega), up_s]
      rfl
    · rw [G2 _ (by omega), H2.2.2 _ (by omega) (by omega), up_s]
      rfl
    · refine R7.same (fun o q0 q1 => ?_)
      rw [G2 o (by omega), fo o (by omega) (by omega) (by omega) (by omega)]
    · rw [G2 o (by omega), fo o (by omega) (by omega) (by omega) (by omega)]
    · rw [G2 _ (by omega), fo _ (by omega) (by omega) (by omega) (by omega)]
    · rw [G2 _ (by omega), fo _ (by omega) (by omega) (by omega) (by omega)]
    · rw [G2 _ (by omega), fo _ (by omega) (by omega) (by omega) (by omega)]
    · rw [G2 _ (by omega), G2 _ (by omega), (H2.2.1 i q).1, (H2.2.1 i q).2, up_nk (by omega), up_nk (by omega), up_nk (by omega), up_nk (by omega)]
      exact ⟨rfl, rfl⟩
    · rw [G2 _ (by omega), G2 _ (by omega), H2.2.2 _ (by omega) (by omega), H2.2.2 _ (by omega) (by omega), up_nk (by omega), up_ni (by omega), up_ni (by omega), up_nk (by omega)]
      exact ⟨rfl, rfl⟩
  have n12 : ∀ p : Int, 0 ≤ p → p < cS C 0 → σ2 (u + 12) p = (rst C n).1 p := fun p q0 q1 => by rw [fo _ (by omega) (by omega) (by omega) (by omega)]; exact R5 p q0 q1
  have nol : ¬ ((n : Int) = cS C 6 ∧ 0 ≤ cS C 5 ∧ cS C 5 < cS C 0) → HrS σ σ2 u n (cS C 0) (lof C n (rst C n).1) [] (lgs C f n) := fun hno => HB σ2 (fun p q0 q1 => by unfold lof; rw [if_neg hno]; exact n12 p q0 q1) (fun _ _ => rfl)
  have q7 := hC.2.2.2.2.2.2.2.2.2.2.1
  have q8 := hC.2.2.2.2.2.2.2.2.2.2.2.1
  by_cases hl1 : (n : Int) = cS C 6
  · by_cases hl2 : 0 ≤ cS C 5 ∧ cS C 5 < cS C 0
    · have hb5 := hbd.le hl2.1 hl2.2
      have n5 := n12 (cS C 5) hl2.1 hl2.2
      refine x_iload_n (dat d_Ru_passHour 35 rfl) rfl rfl ?_
      refine x_aload_n (dat d_Ru_passHour 36 rfl) rfl rfl ?_
      refine x_geti (ji := 7) (v := cS C 6) (dat d_Ru_passHour 37 rfl) rfl f_Ru_78 (oi_mk (by decide +kernel)) (c7) ?_
      refine x_icmp_ne (tgt := 97) (dat d_Ru_passHour 38 rfl) (by decide) (fun c_60 => (by omega)) (fun c_60 => ?_)
      refine x_aload_n (dat d_Ru_passHour 39 rfl) rfl rfl ?_
      refine x_geti (ji := 6) (v := cS C 5) (dat d_Ru_passHour 40 rfl) rfl f_Ru_81 (oi_mk (by decide +kernel)) (c6) ?_
      refine x_if_lt (tgt := 97) (dat d_Ru_passHour 41 rfl) (by decide) (fun c_67 => (by omega)) (fun c_67 => ?_)
      refine x_aload_n (dat d_Ru_passHour 42 rfl) rfl rfl ?_
      refine x_geti (ji := 6) (v := cS C 5) (dat d_Ru_passHour 43 rfl) rfl f_Ru_81 (oi_mk (by decide +kernel)) (c6) ?_
      refine x_aload_n (dat d_Ru_passHour 44 rfl) rfl rfl ?_
      refine x_geti (ji := 0) (v := cS C 0) (dat d_Ru_passHour 45 rfl) rfl f_Ru_46 (ru_oi_0 hu) (c0) ?_
      refine x_icmp_ge (tgt := 97) (dat d_Ru_passHour 46 rfl) (by decide) (fun c_78 => (by omega)) (fun c_78 => ?_)
      refine x_aload_n (dat d_Ru_passHour 47 rfl) rfl rfl ?_
      refine x_getr (r := u + 12) (dat d_Ru_passHour 48 rfl) rfl f_Ru_37 (ru_or_11 hu) ?_
      refine x_aload_n (dat d_Ru_passHour 49 rfl) rfl rfl ?_
      refine x_geti (ji := 6) (v := cS C 5) (dat d_Ru_passHour 50 rfl) rfl f_Ru_81 (oi_mk (by decide +kernel)) (c6) ?_
      refine x_dup2 (dat d_Ru_passHour 51 rfl) rfl rfl ?_
      refine x_iald (n := 8) (v := (rst C n).1 (cS C 5)) (dat d_Ru_passHour 52 rfl) (ru_ai_12 hu) (by omega) (by omega) (n5) ?_
      refine x_aload_n (dat d_Ru_passHour 53 rfl) rfl rfl ?_
      refine x_geti (ji := 8) (v := cS C 7) (dat d_Ru_passHour 54 rfl) rfl f_Ru_84 (oi_mk (by decide +kernel)) (c8) ?_
      refine x_iadd (v := ((rst C n).1 (cS C 5)) + (cS C 7)) (dat d_Ru_passHour 55 rfl) rfl (by omega) ?_
      refine x_iast (n := 8) (dat d_Ru_passHour 56 rfl) (ru_ai_12 hu) (by omega) (by omega) ?_
      refine mid Z _ _ _ _ (HB _ (fun p q0 q1 => ?_) (fun o q => up_ne q))
      unfold lof
      rw [if_pos ⟨hl1, hl2.1, hl2.2⟩]
      by_cases e : p = cS C 5
      · subst e
        rw [up_s]
        exact (if_pos rfl).symm
      · rw [up_ni (fun q => e q.symm), n12 p q0 q1]
        exact (if_neg e).symm
    · have H5 := nol (fun q => hl2 q.2)
      refine x_iload_n (dat d_Ru_passHour 35 rfl) rfl rfl ?_
      refine x_aload_n (dat d_Ru_passHour 36 rfl) rfl rfl ?_
      refine x_geti (ji := 7) (v := cS C 6) (dat d_Ru_passHour 37 rfl) rfl f_Ru_78 (oi_mk (by decide +kernel)) (c7) ?_
      refine x_icmp_ne (tgt := 97) (dat d_Ru_passHour 38 rfl) (by decide) (fun c_60 => (by omega)) (fun c_60 => ?_)
      refine x_aload_n (dat d_Ru_passHour 39 rfl) rfl rfl ?_
      refine x_geti (ji := 6) (v := cS C 5) (dat d_Ru_passHour 40 rfl) rfl f_Ru_81 (oi_mk (by decide +kernel)) (c6) ?_
      refine x_if_lt (tgt := 97) (dat d_Ru_passHour 41 rfl) (by decide) (fun c_67 => ?_) (fun c_67 => ?_)
      · exact mid Z _ _ _ _ H5
      · refine x_aload_n (dat d_Ru_passHour 42 rfl) rfl rfl ?_
        refine x_geti (ji := 6) (v := cS C 5) (dat d_Ru_passHour 43 rfl) rfl f_Ru_81 (oi_mk (by decide +kernel)) (c6) ?_
        refine x_aload_n (dat d_Ru_passHour 44 rfl) rfl rfl ?_
        refine x_geti (ji := 0) (v := cS C 0) (dat d_Ru_passHour 45 rfl) rfl f_Ru_46 (ru_oi_0 hu) (c0) ?_
        refine x_icmp_ge (tgt := 97) (dat d_Ru_passHour 46 rfl) (by decide) (fun c_78 => ?_) (fun c_78 => ?_)
        · exact mid Z _ _ _ _ H5
        · omega
  · have H5 := nol (fun q => hl1 q.1)
    refine x_iload_n (dat d_Ru_passHour 35 rfl) rfl rfl ?_
    refine x_aload_n (dat d_Ru_passHour 36 rfl) rfl rfl ?_
    refine x_geti (ji := 7) (v := cS C 6) (dat d_Ru_passHour 37 rfl) rfl f_Ru_78 (oi_mk (by decide +kernel)) (c7) ?_
    refine x_icmp_ne (tgt := 97) (dat d_Ru_passHour 38 rfl) (by decide) (fun c_60 => ?_) (fun c_60 => (by omega))
    exact mid Z _ _ _ _ H5
