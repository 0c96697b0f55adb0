/-! one hour's hands, in a run's rows -/
theorem ru_ha {u : Nat} (h : IsRu u) : IsHa (u + 1) := (by decide +kernel : ∀ t ∈ L_Ru, t + 1 ∈ L_Ha) u h
theorem sp_Ha_write2 {g : xG} {K : Option MV → xS → Prop} {σ : xS} {l : Nat} {a b x : Int} {evs : List Ev} (hh : IsHa l) (hL : LogR σ l evs) (h1 : evs.length < 672) (k : ∀ σ' : xS, LogR σ' l ((a, b, x) :: evs) → (∀ o : Nat, o < l ∨ l + 3 < o → σ' o = σ o) → K none σ') : Mt g y_Ha_write [vR l, vI a, vI b, vI x] σ K := by
  refine sp_Ha_write hh hL.1 (by omega) (by omega) (k _ hL.snoc (fun o ho => ?_))
  rw [up_ne (by omega), up_ne (by omega), up_ne (by omega), up_ne (by omega)]
def HrS (σ0 σ : xS) (u : Nat) (h P : Int) (bd : Int → Int) (evs cum : List Ev) : Prop :=
  (∀ p : Int, 0 ≤ p → p < P → σ (u + 12) p = bd p) ∧
  (∀ p : Int, 0 ≤ p → p < P → Msk 8 (σ (u + 7) (8 * h + p)) (metB evs p)) ∧
  (∀ p : Int, 0 ≤ p → p < P → σ (u + 8) (8 * h + p) = cameI evs p) ∧
  σ (u + 10) h = evs.length ∧ σ (u + 11) h = goneI evs ∧ LogR σ (u + 1) (evs ++ cum) ∧
  (∀ o : Nat, o < u + 1 ∨ u + 12 < o → σ o = σ0 o) ∧ σ (u + 5) = σ0 (u + 5) ∧ σ (u + 6) = σ0 (u + 6) ∧ σ (u + 9) = σ0 (u + 9) ∧
  (∀ i : Int, i < 8 * h → σ (u + 7) i = σ0 (u + 7) i ∧ σ (u + 8) i = σ0 (u + 8) i) ∧ (∀ i : Int, i < h → σ (u + 10) i = σ0 (u + 10) i ∧ σ (u + 11) i = σ0 (u + 11) i)
theorem cameI_bd : ∀ (evs : List Ev) (p : Int), -(evs.length : Int) ≤ cameI evs p ∧ cameI evs p ≤ evs.length
  | [], p => by simp [cameI]
  | e :: t, p => by
    have := cameI_bd t p
    have h1 : -1 ≤ cmE e p ∧ cmE e p ≤ 1 := by
      unfold cmE
      split
      · omega
      · split
        · omega
        · split <;> omega
    have h2 : cameI (e :: t) p = cmE e p + cameI t p := rfl
    rw [h2, List.length_cons]
    omega
theorem goneI_bd : ∀ (evs : List Ev), 0 ≤ goneI evs ∧ goneI evs ≤ evs.length
  | [] => by simp [goneI]
  | e :: t => by
    have := goneI_bd t
    have h2 : goneI (e :: t) = (if e.2.2 = -1 then 0 else 1) + goneI t := rfl
    rw [h2, List.length_cons]
    split <;> omega
theorem metB_cons (a b x p q : Int) (t : List Ev) : metB ((a, b, x) :: t) p q = (hitE (a, b, x) p q || metB t p q) := rfl
theorem Msk.orone {m q : Int} {f : Int → Bool} (h : Msk 8 m f) (h0 : 0 ≤ q) (h1 : q < 8) : Msk 8 (ior m (ishl 1 q)) (fun p => f p || decide (p = q)) := h.lor (by decide) (Msk.one (n := 8) (by decide) h0 h1)
/-- the state behind the first three writes and the log's row -/
theorem HrS.step1 {σ0 σ σ2 : xS} {u : Nat} {h P a b x : Int} {bd : Int → Int} {evs cum : List Ev} (H : HrS σ0 σ u h P bd evs cum) (hP : P ≤ 8) (h0 : 0 ≤ h) (ha : 0 ≤ a) (hab : a < b) (hb : b < P)
    (hL : LogR σ2 (u + 1) ((a, b, x) :: (evs ++ cum)))
    (hf : ∀ o : Nat, o < u + 1 ∨ u + 1 + 3 < o → σ2 o = up (up (up σ (u + 10) h ((evs.length : Int) + 1)) (u + 7) (8 * h + a) (ior (σ (u + 7) (8 * h + a)) (ishl 1 b))) (u + 7) (8 * h + b) (ior (σ (u + 7) (8 * h + b)) (ishl 1 a)) o) :
    (∀ p : Int, 0 ≤ p → p < P → σ2 (u + 12) p = bd p) ∧ (∀ p : Int, 0 ≤ p → p < P → Msk 8 (σ2 (u + 7) (8 * h + p)) (metB ((a, b, x) :: evs) p)) ∧ (∀ p : Int, 0 ≤ p → p < P → σ2 (u + 8) (8 * h + p) = cameI evs p) ∧
    σ2 (u + 10) h = ((a, b, x) :: evs).length ∧ σ2 (u + 11) h = goneI evs ∧ LogR σ2 (u + 1) (((a, b, x) :: evs) ++ cum) ∧
    (∀ o : Nat, o < u + 1 ∨ u + 12 < o → σ2 o = σ0 o) ∧ σ2 (u + 5) = σ0 (u + 5) ∧ σ2 (u + 6) = σ0 (u + 6) ∧ σ2 (u + 9) = σ0 (u + 9) ∧
    (∀ i : Int, i < 8 * h → σ2 (u + 7) i = σ0 (u + 7) i ∧ σ2 (u + 8) i = σ0 (u + 8) i) ∧ (∀ i : Int, i < h → σ2 (u + 10) i = σ0 (u + 10) i ∧ σ2 (u + 11) i = σ0 (u + 11) i) := by
  obtain ⟨H1, H2, H3, H4, H5, H6, H7, H8, H9, H10, H11, H12⟩ := H
  have f7 : ∀ i : Int, σ2 (u + 7) i = if i = 8 * h + b then ior (σ (u + 7) (8 * h + b)) (ishl 1 a) else if i = 8 * h + a then ior (σ (u + 7) (8 * h + a)) (ishl 1 b) else σ (u + 7) i := by
    intro i
    rw [hf _ (by omega)]
    by_cases e1 : i = 8 * h + b
    · rw [e1, up_s, if_pos rfl]
    · rw [up_ni (by omega), if_neg e1]
      by_cases e2 : i = 8 * h + a
      · rw [e2, up_s, if_pos rfl]
      · rw [up_ni (by omega), if_neg e2, up_nk (by omega)]
  have f10 : ∀ i : Int, σ2 (u + 10) i = if i = h then (evs.length : Int) + 1 else σ (u + 10) i := by
    intro i
    rw [hf _ (by omega), up_nk (by omega), up_nk (by omega)]
    by_cases e1 : i = h
    · rw [e1, up_s, if_pos rfl]
    · rw [up_ni (by omega), if_neg e1]
  have fo : ∀ o : Nat, (o < u + 1 ∨ u + 1 + 3 < o) → o ≠ u + 7 → o ≠ u + 10 → σ2 o = σ o := by
    intro o q1 q2 q3
    rw [hf o q1, up_ne (by omega), up_ne (by omega), up_ne (by omega)]
  refine ⟨fun p q0 q1 => by rw [fo _ (by omega) (by omega) (by omega), H1 p q0 q1], fun p q0 q1 => ?_, fun p q0 q1 => by rw [fo _ (by omega) (by omega) (by omega), H3 p q0 q1], ?_, by rw [fo _ (by omega) (by omega) (by omega), H5], hL, fun o q => by rw [fo o (by omega) (by omega) (by omega), H7 o q], by rw [fo _ (by omega) (by omega) (by omega), H8], by rw [fo _ (by omega) (by omega) (by omega), H9], by rw [fo _ (by omega) (by omega) (by omega), H10], fun i q => ⟨?_, by rw [fo _ (by omega) (by omega) (by omega)]; exact (H11 i q).2⟩, fun i q => ⟨?_, by rw [fo _ (by omega) (by omega) (by omega)]; exact (H12 i q).2⟩⟩
  · rw [f7]
    by_cases e1 : p = b
    · subst e1
      rw [if_pos rfl]
      refine ((H2 p q0 q1).orone ha (by omega)).congr (fun q q2 q3 => ?_)
      rw [metB_cons]
      have e2 : ¬ a = p := by omega
      simp [hitE, e2, Bool.or_comm, eq_comm]
    · rw [if_neg (by omega)]
      by_cases e2 : p = a
      · subst e2
        rw [if_pos rfl]
        refine ((H2 p q0 q1).orone (by omega) (by omega)).congr (fun q q2 q3 => ?_)
        rw [metB_cons]
        have e3 : ¬ b = p := by omega
        simp [hitE, e3, Bool.or_comm, eq_comm]
      · rw [if_neg (by omega)]
        refine (H2 p q0 q1).congr (fun q q2 q3 => ?_)
        rw [metB_cons]
        have e3 : ¬ a = p := by omega
        have e4 : ¬ b = p := by omega
        simp [hitE, e3, e4]
  · rw [f10, if_pos rfl, List.length_cons]
    omega
  · rw [f7, if_neg (by omega), if_neg (by omega)]
    exact (H11 i q).1
  · rw [f10, if_neg (by omega)]
    exact (H12 i q).1
/-- what step1 leaves: the hand is in the log, nothing has gone yet -/
def HrT (σ0 σ2 : xS) (u : Nat) (h P a b x : Int) (bd : Int → Int) (evs cum : List Ev) : Prop :=
    (∀ p : Int, 0 ≤ p → p < P → σ2 (u + 12) p = bd p) ∧ (∀ p : Int, 0 ≤ p → p < P → Msk 8 (σ2 (u + 7) (8 * h + p)) (metB ((a, b, x) :: evs) p)) ∧ (∀ p : Int, 0 ≤ p → p < P → σ2 (u + 8) (8 * h + p) = cameI evs p) ∧
    σ2 (u + 10) h = ((a, b, x) :: evs).length ∧ σ2 (u + 11) h = goneI evs ∧ LogR σ2 (u + 1) (((a, b, x) :: evs) ++ cum) ∧
    (∀ o : Nat, o < u + 1 ∨ u + 12 < o → σ2 o = σ0 o) ∧ σ2 (u + 5) = σ0 (u + 5) ∧ σ2 (u + 6) = σ0 (u + 6) ∧ σ2 (u + 9) = σ0 (u + 9) ∧
    (∀ i : Int, i < 8 * h → σ2 (u + 7) i = σ0 (u + 7) i ∧ σ2 (u + 8) i = σ0 (u + 8) i) ∧ (∀ i : Int, i < h → σ2 (u + 10) i = σ0 (u + 10) i ∧ σ2 (u + 11) i = σ0 (u + 11) i)
theorem cameI_cons (e : Ev) (t : List Ev) (p : Int) : cameI (e :: t) p = cmE e p + cameI t p := rfl
theorem goneI_cons (e : Ev) (t : List Ev) : goneI (e :: t) = (if e.2.2 = -1 then 0 else 1) + goneI t := rfl
theorem HrT.none {σ0 σ2 : xS} {u : Nat} {h P a b x : Int} {bd : Int → Int} {evs cum : List Ev} (H : HrT σ0 σ2 u h P a b x bd evs cum) (hx : x = -1) : HrS σ0 σ2 u h P (mvb bd a b x) ((a, b, x) :: evs) cum := by
  obtain ⟨H1, H2, H3, H4, H5, H6, H7⟩ := H
  refine ⟨fun p q0 q1 => by rw [H1 p q0 q1]; unfold mvb; rw [if_pos hx], H2, fun p q0 q1 => ?_, H4, ?_, H6, H7⟩
  · rw [H3 p q0 q1, cameI_cons]
    unfold cmE
    rw [if_pos hx]
    omega
  · rw [H5, goneI_cons, if_pos hx]
    omega
theorem HrT.some {σ0 σ2 : xS} {u : Nat} {h P a b x w : Int} {bd : Int → Int} {evs cum : List Ev} (H : HrT σ0 σ2 u h P a b x bd evs cum) (h0 : 0 ≤ h) (ha : 0 ≤ a) (hab : a < b) (hb : b < P) (hP : P ≤ 8) (hx : x = a ∨ x = b) (hw : w = a + b - x) :
    HrS σ0 (up (up (up (up (up σ2 (u + 12) x (bd x - 1)) (u + 12) w (bd w + 1)) (u + 8) (8 * h + x) (cameI evs x - 1)) (u + 8) (8 * h + w) (cameI evs w + 1)) (u + 11) h (goneI evs + 1)) u h P (mvb bd a b x) ((a, b, x) :: evs) cum := by
  subst hw
  obtain ⟨H1, H2, H3, H4, H5, H6, H7, H8, H9, H10, H11, H12⟩ := H
  have hx1 : ¬ x = -1 := by omega
  have fo : ∀ o : Nat, o ≠ u + 12 → o ≠ u + 8 → o ≠ u + 11 → up (up (up (up (up σ2 (u + 12) x (bd x - 1)) (u + 12) (a + b - x) (bd (a + b - x) + 1)) (u + 8) (8 * h + x) (cameI evs x - 1)) (u + 8) (8 * h + (a + b - x)) (cameI evs (a + b - x) + 1)) (u + 11) h (goneI evs + 1) o = σ2 o := by
    intro o q1 q2 q3
    rw [up_ne q3, up_ne q2, up_ne q2, up_ne q1, up_ne q1]
  refine ⟨fun p q0 q1 => ?_, fun p q0 q1 => by rw [fo _ (by omega) (by omega) (by omega)]; exact H2 p q0 q1, fun p q0 q1 => ?_, by rw [fo _ (by omega) (by omega) (by omega)]; exact H4, ?_, H6.same (fun o q1 q2 => fo o (by omega) (by omega) (by omega)), fun o q => by rw [fo o (by omega) (by omega) (by omega)]; exact H7 o q, by rw [fo _ (by omega) (by omega) (by omega)]; exact H8, by rw [fo _ (by omega) (by omega) (by omega)]; exact H9, by rw [fo _ (by omega) (by omega) (by omega)]; exact H10, fun i q => ⟨by rw [fo _ (by omega) (by omega) (by omega)]; exact (H11 i q).1, ?_⟩, fun i q => ⟨by rw [fo _ (by omega) (by omega) (by omega)]; exact (H12 i q).1, ?_⟩⟩
  · rw [up_nk (by omega), up_nk (by omega), up_nk (by omega)]
    unfold mvb
    rw [if_neg hx1]
    by_cases e1 : p = a + b - x
    · subst e1
      rw [up_s]
      show _ = (if a + b - x = x then bd (a + b - x) - 1 else if a + b - x = a + b - x then bd (a + b - x) + 1 else bd (a + b - x))
      rw [if_neg (by omega), if_pos rfl]
    · rw [up_ni (by omega)]
      by_cases e2 : p = x
      · subst e2
        rw [up_s]
        show _ = (if p = p then bd p - 1 else _)
        rw [if_pos rfl]
      · rw [up_ni (by omega), H1 p q0 q1]
        show _ = (if p = x then bd p - 1 else if p = a + b - x then bd p + 1 else bd p)
        rw [if_neg e2, if_neg e1]
  · rw [up_nk (by omega), cameI_cons]
    unfold cmE
    rw [if_neg hx1]
    by_cases e1 : p = a + b - x
    · subst e1
      rw [up_s]
      show _ = (if a + b - x = x then -1 else if a + b - x = a + b - x then 1 else 0) + _
      rw [if_neg (by omega), if_pos rfl]
      omega
    · rw [up_ni (by omega)]
      by_cases e2 : p = x
      · subst e2
        rw [up_s]
        show _ = (if p = p then -1 else _) + _
        rw [if_pos rfl]
        omega
      · rw [up_ni (by omega), up_nk (by omega), up_nk (by omega), H3 p q0 q1]
        show _ = (if p = x then -1 else if p = a + b - x then 1 else 0) + _
        rw [if_neg e2, if_neg e1]
        omega
  · rw [up_s, goneI_cons]
    show _ = (if x = -1 then 0 else 1) + _
    rw [if_neg hx1]
    omega
  · rw [up_nk (by omega), up_ni (by omega), up_ni (by omega), up_nk (by omega), up_nk (by omega)]
    exact (H11 i q).2
  · rw [up_ni (by omega), up_nk (by omega), up_nk (by omega), up_nk (by omega), up_nk (by omega)]
    exact (H12 i q).2
theorem sp_Ru_shakeHands {g : xG} {K : Option MV → xS → Prop} {σ0 σ : xS} {u : Nat} {C : Cf} {h a b T : Int} {bd : Int → Int} {evs cum : List Ev} (hu : IsRu u) (hC : CfOk C) (hp : PlanR σ C) (h0 : 0 ≤ h) (h1 : h < 24) (ha : 0 ≤ a) (hab : a < b) (hb : b < cS C 0) (hB : BdOk (cS C 0) T bd) (hT : T ≤ 1000)
    (hl : evs.length ≤ 28) (hlc : evs.length + cum.length < 672) (H : HrS σ0 σ u h (cS C 0) bd evs cum)
    (k : ∀ σ' : xS, HrS σ0 σ' u h (cS C 0) (mvb bd a b (gvr C bd a b)) ((a, b, gvr C bd a b) :: evs) cum → K none σ') : Mt g y_Ru_shakeHands [vR u, vR 138, vI h, vI a, vI b] σ K := by
  have h8 := hC.2.1
  have q1 := H.1 a ha (by omega)
  have q2 := H.1 b (by omega) hb
  have q4 := H.2.2.2.1
  have q6 := H.2.2.2.2.2.1
  have hx := gvr_in C bd a b
  generalize hxe : gvr C bd a b = x at k hx
  have cs := ru_cs hu
  have gb := goneI_bd evs
  have e1 : ∀ σ2 : xS, LogR σ2 (u + 1) ((a, b, x) :: (evs ++ cum)) → (∀ o : Nat, o < u + 1 ∨ u + 1 + 3 < o → σ2 o = up (up (up σ (u + 10) h ((evs.length : Int) + 1)) (u + 7) (8 * h + a) (ior (σ (u + 7) (8 * h + a)) (ishl 1 b))) (u + 7) (8 * h + b) (ior (σ (u + 7) (8 * h + b)) (ishl 1 a)) o) → HrT σ0 σ2 u h (cS C 0) a b x bd evs cum := fun σ2 g1 g2 => H.step1 h8 h0 ha hab hb g1 g2
  have hp2 : PlanR (up (up (up σ (u + 10) h ((evs.length : Int) + 1)) (u + 7) (8 * h + a) (ior (σ (u + 7) (8 * h + a)) (ishl 1 b))) (u + 7) (8 * h + b) (ior (σ (u + 7) (8 * h + b)) (ishl 1 a))) C := hp.same (fun o g1 g2 => by rw [up_ne (by omega), up_ne (by omega), up_ne (by omega)])
  have hL2 : LogR (up (up (up σ (u + 10) h ((evs.length : Int) + 1)) (u + 7) (8 * h + a) (ior (σ (u + 7) (8 * h + a)) (ishl 1 b))) (u + 7) (8 * h + b) (ior (σ (u + 7) (8 * h + b)) (ishl 1 a))) (u + 1) (evs ++ cum) := q6.same (fun o g1 g2 => by rw [up_ne (by omega), up_ne (by omega), up_ne (by omega)])
  refine x_enter 3 rfl rfl rfl (fun Z => ?_)
  show Wx g y_Ru_shakeHands Z K 0 [vR u, vR 138, vI h, vI a, vI b, vU, vU, vU] [] σ
  refine x_iload_n (dat d_Ru_shakeHands 0 rfl) rfl rfl ?_
  refine x_bipush (dat d_Ru_shakeHands 1 rfl) (by decide) (by decide) ?_
  refine x_imul (v := 8 * h) (dat d_Ru_shakeHands 2 rfl) (by omega) (by omega) ?_
  refine x_istore (L' := [vR u, vR 138, vI h, vI a, vI b, vI (8 * h), vU, vU]) (dat d_Ru_shakeHands 3 rfl) (by decide) rfl rfl ?_
  refine x_aload_n (dat d_Ru_shakeHands 4 rfl) rfl rfl ?_
  refine x_getr (r := u + 10) (dat d_Ru_shakeHands 5 rfl) rfl f_Ru_31 (ru_or_9 hu) ?_
  refine x_iload_n (dat d_Ru_shakeHands 6 rfl) rfl rfl ?_
  refine x_dup2 (dat d_Ru_shakeHands 7 rfl) rfl rfl ?_
  refine x_iald (n := 24) (v := (evs.length : Int)) (dat d_Ru_shakeHands 8 rfl) (ru_ai_10 hu) (by omega) (by omega) (q4) ?_
  refine x_iconst (dat d_Ru_shakeHands 9 rfl) (by decide) ?_
  refine x_iadd (v := (evs.length : Int) + 1) (dat d_Ru_shakeHands 10 rfl) rfl (by omega) ?_
  refine x_iast (n := 24) (dat d_Ru_shakeHands 11 rfl) (ru_ai_10 hu) (by omega) (by omega) ?_
  refine x_aload_n (dat d_Ru_shakeHands 12 rfl) rfl rfl ?_
  refine x_getr (r := u + 7) (dat d_Ru_shakeHands 13 rfl) rfl f_Ru_22 (ru_or_6 hu) ?_
  refine x_iload (dat d_Ru_shakeHands 14 rfl) rfl ?_
  refine x_iload_n (dat d_Ru_shakeHands 15 rfl) rfl rfl ?_
  refine x_iadd (v := (8 * h) + a) (dat d_Ru_shakeHands 16 rfl) rfl (by omega) ?_
  refine x_dup2 (dat d_Ru_shakeHands 17 rfl) rfl rfl ?_
  refine x_iald (n := 192) (v := σ (u + 7) ((8 * h) + a)) (dat d_Ru_shakeHands 18 rfl) (ru_ai_7 hu) (by omega) (by omega) (up_nk (by omega)) ?_
  refine x_iconst (dat d_Ru_shakeHands 19 rfl) (by decide) ?_
  refine x_iload (dat d_Ru_shakeHands 20 rfl) rfl ?_
  refine x_ishl (v := ishl 1 b) (dat d_Ru_shakeHands 21 rfl) rfl ?_
  refine x_ior (v := ior (σ (u + 7) ((8 * h) + a)) (ishl 1 b)) (dat d_Ru_shakeHands 22 rfl) rfl ?_
  refine x_iast (n := 192) (dat d_Ru_shakeHands 23 rfl) (ru_ai_7 hu) (by omega) (by omega) ?_
  refine x_aload_n (dat d_Ru_shakeHands 24 rfl) rfl rfl ?_
  refine x_getr (r := u + 7) (dat d_Ru_shakeHands 25 rfl) rfl f_Ru_22 (ru_or_6 hu) ?_
  refine x_iload (dat d_Ru_shakeHands 26 rfl) rfl ?_
  refine x_iload (dat d_Ru_shakeHands 27 rfl) rfl ?_
  refine x_iadd (v := (8 * h) + b) (dat d_Ru_shakeHands 28 rfl) rfl (by omega) ?_
  refine x_dup2 (dat d_Ru_shakeHands 29 rfl) rfl rfl ?_
  refine x_iald (n := 192) (v := σ (u + 7) ((8 * h) + b)) (dat d_Ru_shakeHands 30 rfl) (ru_ai_7 hu) (by omega) (by omega) ((up_ni (by omega)).trans (up_nk (by omega))) ?_
  refine x_iconst (dat d_Ru_shakeHands 31 rfl) (by decide) ?_
  refine x_iload_n (dat d_Ru_shakeHands 32 rfl) rfl rfl ?_
  refine x_ishl (v := ishl 1 a) (dat d_Ru_shakeHands 33 rfl) rfl ?_
  refine x_ior (v := ior (σ (u + 7) ((8 * h) + b)) (ishl 1 a)) (dat d_Ru_shakeHands 34 rfl) rfl ?_
  refine x_iast (n := 192) (dat d_Ru_shakeHands 35 rfl) (ru_ai_7 hu) (by omega) (by omega) ?_
  refine x_aload_n (dat d_Ru_shakeHands 36 rfl) rfl rfl ?_
  refine x_iload_n (dat d_Ru_shakeHands 37 rfl) rfl rfl ?_
  refine x_iload (dat d_Ru_shakeHands 38 rfl) rfl ?_
  refine x_aload_n (dat d_Ru_shakeHands 39 rfl) rfl rfl ?_
  refine x_getr (r := u + 12) (dat d_Ru_shakeHands 40 rfl) rfl f_Ru_37 (ru_or_11 hu) ?_
  refine x_iload_n (dat d_Ru_shakeHands 41 rfl) rfl rfl ?_
  refine x_iald (n := 8) (v := bd a) (dat d_Ru_shakeHands 42 rfl) (ru_ai_12 hu) (by omega) (by omega) ((up_nk (by omega)).trans ((up_nk (by omega)).trans ((up_nk (by omega)).trans q1))) ?_
  refine x_aload_n (dat d_Ru_shakeHands 43 rfl) rfl rfl ?_
  refine x_getr (r := u + 12) (dat d_Ru_shakeHands 44 rfl) rfl f_Ru_37 (ru_or_11 hu) ?_
  refine x_iload (dat d_Ru_shakeHands 45 rfl) rfl ?_
  refine x_iald (n := 8) (v := bd b) (dat d_Ru_shakeHands 46 rfl) (ru_ai_12 hu) (by omega) (by omega) ((up_nk (by omega)).trans ((up_nk (by omega)).trans ((up_nk (by omega)).trans q2))) ?_
  refine x_inv (As := [vI a, vI b, vI (bd a), vI (bd b)]) (dat d_Ru_shakeHands 47 rfl) rfl c_Pl_giver l_Ru_108 (by decide) (rv_pl (by decide +kernel)) rfl rfl (Nat.le_of_ble_eq_true rfl) ?_
  refine sp_Pl_giver (C := C) (bd := bd) hC hp2 ha hab hb ?_
  rw [hxe]
  show Wx g y_Ru_shakeHands Z K 68 [vR u, vR 138, vI h, vI a, vI b, vI (8 * h), vU, vU] [vI x] (up (up (up σ (u + 10) h ((evs.length : Int) + 1)) (u + 7) ((8 * h) + a) (ior (σ (u + 7) ((8 * h) + a)) (ishl 1 b))) (u + 7) ((8 * h) + b) (ior (σ (u + 7) ((8 * h) + b)) (ishl 1 a)))
  refine x_istore (L' := [vR u, vR 138, vI h, vI a, vI b, vI (8 * h), vI x, vU]) (dat d_Ru_shakeHands 48 rfl) (by decide) rfl rfl ?_
  refine x_aload_n (dat d_Ru_shakeHands 49 rfl) rfl rfl ?_
  refine x_getr (r := u + 1) (dat d_Ru_shakeHands 50 rfl) rfl f_Ru_12 (ru_or_4 hu) ?_
  refine x_iload_n (dat d_Ru_shakeHands 51 rfl) rfl rfl ?_
  refine x_iload (dat d_Ru_shakeHands 52 rfl) rfl ?_
  refine x_iload (dat d_Ru_shakeHands 53 rfl) rfl ?_
  refine x_inv (As := [vI a, vI b, vI x]) (dat d_Ru_shakeHands 54 rfl) rfl c_Ha_write l_Ru_112 (by decide) (rv_ha (ha_k (ru_ha hu))) rfl rfl (Nat.le_of_ble_eq_true rfl) ?_
  refine sp_Ha_write2 (ru_ha hu) hL2 (by rw [List.length_append]; omega) (fun σ2 g1 g2 => ?_)
  have H2 := e1 σ2 g1 g2
  have r1 := H2.1 a ha (by omega)
  have r2 := H2.1 b (by omega) hb
  have r3 := H2.2.2.1 a ha (by omega)
  have r4 := H2.2.2.1 b (by omega) hb
  have r5 := H2.2.2.2.2.1
  have r6 := cameI_bd evs a
  have r7 := cameI_bd evs b
  have r8 := hB.le ha (by omega)
  have r9 := hB.le (p := b) (by omega) hb
  show Wx g y_Ru_shakeHands Z K 82 [vR u, vR 138, vI h, vI a, vI b, vI (8 * h), vI x, vU] [] σ2
  refine x_iload (dat d_Ru_shakeHands 55 rfl) rfl ?_
  refine x_iconst (dat d_Ru_shakeHands 56 rfl) (by decide) ?_
  rcases hx with hx | ⟨hx, -, hxn⟩
  · refine x_icmp_eq (tgt := 162) (dat d_Ru_shakeHands 57 rfl) (by decide) (fun c_85 => ?_) (fun c_85 => absurd hx c_85)
    refine x_ret (dat d_Ru_shakeHands 109 rfl) rfl ?_
    exact k _ (H2.none hx)
  refine x_icmp_eq (tgt := 162) (dat d_Ru_shakeHands 57 rfl) (by decide) (fun c_85 => (by exact absurd c_85 hxn)) (fun c_85 => ?_)
  rcases hx with hx | hx
  · rw [hx] at k H2 hxn
    rw [hx]
    refine x_iload (dat d_Ru_shakeHands 58 rfl) rfl ?_
    refine x_iload_n (dat d_Ru_shakeHands 59 rfl) rfl rfl ?_
    refine x_icmp_ne (tgt := 99) (dat d_Ru_shakeHands 60 rfl) (by decide) (fun h => (by omega)) (fun c_91 => ?_)
    refine x_iload (dat d_Ru_shakeHands 61 rfl) rfl ?_
    refine x_goto (tgt := 100) (dat d_Ru_shakeHands 62 rfl) (by decide) ?_
    refine x_istore (L' := [vR u, vR 138, vI h, vI a, vI b, vI (8 * h), vI a, vI b]) (dat d_Ru_shakeHands 64 rfl) (by decide) rfl rfl ?_
    refine x_aload_n (dat d_Ru_shakeHands 65 rfl) rfl rfl ?_
    refine x_getr (r := u + 12) (dat d_Ru_shakeHands 66 rfl) rfl f_Ru_37 (ru_or_11 hu) ?_
    refine x_iload (dat d_Ru_shakeHands 67 rfl) rfl ?_
    refine x_dup2 (dat d_Ru_shakeHands 68 rfl) rfl rfl ?_
    refine x_iald (n := 8) (v := bd a) (dat d_Ru_shakeHands 69 rfl) (ru_ai_12 hu) (by omega) (by omega) (r1) ?_
    refine x_iconst (dat d_Ru_shakeHands 70 rfl) (by decide) ?_
    refine x_isub (v := (bd a) - 1) (dat d_Ru_shakeHands 71 rfl) rfl (by omega) ?_
    refine x_iast (n := 8) (dat d_Ru_shakeHands 72 rfl) (ru_ai_12 hu) (by omega) (by omega) ?_
    refine x_aload_n (dat d_Ru_shakeHands 73 rfl) rfl rfl ?_
    refine x_getr (r := u + 12) (dat d_Ru_shakeHands 74 rfl) rfl f_Ru_37 (ru_or_11 hu) ?_
    refine x_iload (dat d_Ru_shakeHands 75 rfl) rfl ?_
    refine x_dup2 (dat d_Ru_shakeHands 76 rfl) rfl rfl ?_
    refine x_iald (n := 8) (v := bd b) (dat d_Ru_shakeHands 77 rfl) (ru_ai_12 hu) (by omega) (by omega) ((up_ni (by omega)).trans r2) ?_
    refine x_iconst (dat d_Ru_shakeHands 78 rfl) (by decide) ?_
    refine x_iadd (v := (bd b) + 1) (dat d_Ru_shakeHands 79 rfl) rfl (by omega) ?_
    refine x_iast (n := 8) (dat d_Ru_shakeHands 80 rfl) (ru_ai_12 hu) (by omega) (by omega) ?_
    refine x_aload_n (dat d_Ru_shakeHands 81 rfl) rfl rfl ?_
    refine x_getr (r := u + 8) (dat d_Ru_shakeHands 82 rfl) rfl f_Ru_25 (ru_or_7 hu) ?_
    refine x_iload (dat d_Ru_shakeHands 83 rfl) rfl ?_
    refine x_iload (dat d_Ru_shakeHands 84 rfl) rfl ?_
    refine x_iadd (v := (8 * h) + a) (dat d_Ru_shakeHands 85 rfl) rfl (by omega) ?_
    refine x_dup2 (dat d_Ru_shakeHands 86 rfl) rfl rfl ?_
    refine x_iald (n := 192) (v := cameI evs a) (dat d_Ru_shakeHands 87 rfl) (ru_ai_8 hu) (by omega) (by omega) ((up_nk (by omega)).trans ((up_nk (by omega)).trans r3)) ?_
    refine x_iconst (dat d_Ru_shakeHands 88 rfl) (by decide) ?_
    refine x_isub (v := (cameI evs a) - 1) (dat d_Ru_shakeHands 89 rfl) rfl (by omega) ?_
    refine x_iast (n := 192) (dat d_Ru_shakeHands 90 rfl) (ru_ai_8 hu) (by omega) (by omega) ?_
    refine x_aload_n (dat d_Ru_shakeHands 91 rfl) rfl rfl ?_
    refine x_getr (r := u + 8) (dat d_Ru_shakeHands 92 rfl) rfl f_Ru_25 (ru_or_7 hu) ?_
    refine x_iload (dat d_Ru_shakeHands 93 rfl) rfl ?_
    refine x_iload (dat d_Ru_shakeHands 94 rfl) rfl ?_
    refine x_iadd (v := (8 * h) + b) (dat d_Ru_shakeHands 95 rfl) rfl (by omega) ?_
    refine x_dup2 (dat d_Ru_shakeHands 96 rfl) rfl rfl ?_
    refine x_iald (n := 192) (v := cameI evs b) (dat d_Ru_shakeHands 97 rfl) (ru_ai_8 hu) (by omega) (by omega) ((up_ni (by omega)).trans ((up_nk (by omega)).trans ((up_nk (by omega)).trans r4))) ?_
    refine x_iconst (dat d_Ru_shakeHands 98 rfl) (by decide) ?_
    refine x_iadd (v := (cameI evs b) + 1) (dat d_Ru_shakeHands 99 rfl) rfl (by omega) ?_
    refine x_iast (n := 192) (dat d_Ru_shakeHands 100 rfl) (ru_ai_8 hu) (by omega) (by omega) ?_
    refine x_aload_n (dat d_Ru_shakeHands 101 rfl) rfl rfl ?_
    refine x_getr (r := u + 11) (dat d_Ru_shakeHands 102 rfl) rfl f_Ru_34 (ru_or_10 hu) ?_
    refine x_iload_n (dat d_Ru_shakeHands 103 rfl) rfl rfl ?_
    refine x_dup2 (dat d_Ru_shakeHands 104 rfl) rfl rfl ?_
    refine x_iald (n := 24) (v := goneI evs) (dat d_Ru_shakeHands 105 rfl) (ru_ai_11 hu) (by omega) (by omega) ((up_nk (by omega)).trans ((up_nk (by omega)).trans ((up_nk (by omega)).trans ((up_nk (by omega)).trans r5)))) ?_
    refine x_iconst (dat d_Ru_shakeHands 106 rfl) (by decide) ?_
    refine x_iadd (v := (goneI evs) + 1) (dat d_Ru_shakeHands 107 rfl) rfl (by omega) ?_
    refine x_iast (n := 24) (dat d_Ru_shakeHands 108 rfl) (ru_ai_11 hu) (by omega) (by omega) ?_
    refine x_ret (dat d_Ru_shakeHands 109 rfl) rfl ?_
    first
    | exact k _ (H2.some (w := b) h0 ha hab hb h8 (Or.inl rfl) (by omega))
    | exact k _ (H2.some (w := a) h0 ha hab hb h8 (Or.inr rfl) (by omega))
  · rw [hx] at k H2 hxn
    rw [hx]
    refine x_iload (dat d_Ru_shakeHands 58 rfl) rfl ?_
    refine x_iload_n (dat d_Ru_shakeHands 59 rfl) rfl rfl ?_
    refine x_icmp_ne (tgt := 99) (dat d_Ru_shakeHands 60 rfl) (by decide) (fun c_91 => ?_) (fun h => (by omega))
    refine x_iload_n (dat d_Ru_shakeHands 63 rfl) rfl rfl ?_
    refine x_istore (L' := [vR u, vR 138, vI h, vI a, vI b, vI (8 * h), vI b, vI a]) (dat d_Ru_shakeHands 64 rfl) (by decide) rfl rfl ?_
    refine x_aload_n (dat d_Ru_shakeHands 65 rfl) rfl rfl ?_
    refine x_getr (r := u + 12) (dat d_Ru_shakeHands 66 rfl) rfl f_Ru_37 (ru_or_11 hu) ?_
    refine x_iload (dat d_Ru_shakeHands 67 rfl) rfl ?_
    refine x_dup2 (dat d_Ru_shakeHands 68 rfl) rfl rfl ?_
    refine x_iald (n := 8) (v := bd b) (dat d_Ru_shakeHands 69 rfl) (ru_ai_12 hu) (by omega) (by omega) (r2) ?_
    refine x_iconst (dat d_Ru_shakeHands 70 rfl) (by decide) ?_
    refine x_isub (v := (bd b) - 1) (dat d_Ru_shakeHands 71 rfl) rfl (by omega) ?_
    refine x_iast (n := 8) (dat d_Ru_shakeHands 72 rfl) (ru_ai_12 hu) (by omega) (by omega) ?_
    refine x_aload_n (dat d_Ru_shakeHands 73 rfl) rfl rfl ?_
    refine x_getr (r := u + 12) (dat d_Ru_shakeHands 74 rfl) rfl f_Ru_37 (ru_or_11 hu) ?_
    refine x_iload (dat d_Ru_shakeHands 75 rfl) rfl ?_
    refine x_dup2 (dat d_Ru_shakeHands 76 rfl) rfl rfl ?_
    refine x_iald (n := 8) (v := bd a) (dat d_Ru_shakeHands 77 rfl) (ru_ai_12 hu) (by omega) (by omega) ((up_ni (by omega)).trans r1) ?_
    refine x_iconst (dat d_Ru_shakeHands 78 rfl) (by decide) ?_
    refine x_iadd (v := (bd a) + 1) (dat d_Ru_shakeHands 79 rfl) rfl (by omega) ?_
    refine x_iast (n := 8) (dat d_Ru_shakeHands 80 rfl) (ru_ai_12 hu) (by omega) (by omega) ?_
    refine x_aload_n (dat d_Ru_shakeHands 81 rfl) rfl rfl ?_
    refine x_getr (r := u + 8) (dat d_Ru_shakeHands 82 rfl) rfl f_Ru_25 (ru_or_7 hu) ?_
    refine x_iload (dat d_Ru_shakeHands 83 rfl) rfl ?_
    refine x_iload (dat d_Ru_shakeHands 84 rfl) rfl ?_
    refine x_iadd (v := (8 * h) + b) (dat d_Ru_shakeHands 85 rfl) rfl (by omega) ?_
    refine x_dup2 (dat d_Ru_shakeHands 86 rfl) rfl rfl ?_
    refine x_iald (n := 192) (v := cameI evs b) (dat d_Ru_shakeHands 87 rfl) (ru_ai_8 hu) (by omega) (by omega) ((up_nk (by omega)).trans ((up_nk (by omega)).trans r4)) ?_
    refine x_iconst (dat d_Ru_shakeHands 88 rfl) (by decide) ?_
    refine x_isub (v := (cameI evs b) - 1) (dat d_Ru_shakeHands 89 rfl) rfl (by omega) ?_
    refine x_iast (n := 192) (dat d_Ru_shakeHands 90 rfl) (ru_ai_8 hu) (by omega) (by omega) ?_
    refine x_aload_n (dat d_Ru_shakeHands 91 rfl) rfl rfl ?_
    refine x_getr (r := u + 8) (dat d_Ru_shakeHands 92 rfl) rfl f_Ru_25 (ru_or_7 hu) ?_
    refine x_iload (dat d_Ru_shakeHands 93 rfl) rfl ?_
    refine x_iload (dat d_Ru_shakeHands 94 rfl) rfl ?_
    refine x_iadd (v := (8 * h) + a) (dat d_Ru_shakeHands 95 rfl) rfl (by omega) ?_
    refine x_dup2 (dat d_Ru_shakeHands 96 rfl) rfl rfl ?_
    refine x_iald (n := 192) (v := cameI evs a) (dat d_Ru_shakeHands 97 rfl) (ru_ai_8 hu) (by omega) (by omega) ((up_ni (by omega)).trans ((up_nk (by omega)).trans ((up_nk (by omega)).trans r3))) ?_
    refine x_iconst (dat d_Ru_shakeHands 98 rfl) (by decide) ?_
    refine x_iadd (v := (cameI evs a) + 1) (dat d_Ru_shakeHands 99 rfl) rfl (by omega) ?_
    refine x_iast (n := 192) (dat d_Ru_shakeHands 100 rfl) (ru_ai_8 hu) (by omega) (by omega) ?_
    refine x_aload_n (dat d_Ru_shakeHands 101 rfl) rfl rfl ?_
    refine x_getr (r := u + 11) (dat d_Ru_shakeHands 102 rfl) rfl f_Ru_34 (ru_or_10 hu) ?_
    refine x_iload_n (dat d_Ru_shakeHands 103 rfl) rfl rfl ?_
    refine x_dup2 (dat d_Ru_shakeHands 104 rfl) rfl rfl ?_
    refine x_iald (n := 24) (v := goneI evs) (dat d_Ru_shakeHands 105 rfl) (ru_ai_11 hu) (by omega) (by omega) ((up_nk (by omega)).trans ((up_nk (by omega)).trans ((up_nk (by omega)).trans ((up_nk (by omega)).trans r5)))) ?_
    refine x_iconst (dat d_Ru_shakeHands 106 rfl) (by decide) ?_
    refine x_iadd (v := (goneI evs) + 1) (dat d_Ru_shakeHands 107 rfl) rfl (by omega) ?_
    refine x_iast (n := 24) (dat d_Ru_shakeHands 108 rfl) (ru_ai_11 hu) (by omega) (by omega) ?_
    refine x_ret (dat d_Ru_shakeHands 109 rfl) rfl ?_
    first
    | exact k _ (H2.some (w := b) h0 ha hab hb h8 (Or.inl rfl) (by omega))
    | exact k _ (H2.some (w := a) h0 ha hab hb h8 (Or.inr rfl) (by omega))
