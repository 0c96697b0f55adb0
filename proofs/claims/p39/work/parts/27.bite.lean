/-! paint behind the meal; with whom it may be; the bite; what is first reached -/
theorem pnt_in {C : Cf} (hC : CfOk C) {s0 : Int → Bool} (h0 : ∀ q : Int, s0 q = true → 0 ≤ q ∧ q < cS C 0) : ∀ (n : Nat), (∀ q : Int, pnt C s0 n q = true → 0 ≤ q ∧ q < cS C 0) ∧ ∀ q : Int, pnS C s0 n q = true → 0 ≤ q ∧ q < cS C 0 := by
  have st : ∀ (l : List Ev) (s : Rs), EvsOk (cS C 0) l → (∀ q : Int, s.2 q = true → 0 ≤ q ∧ q < cS C 0) → ∀ q : Int, (pev l s).2 q = true → 0 ≤ q ∧ q < cS C 0 := by
    intro l
    induction l with
    | nil => intro s _ h; exact h
    | cons e l ih =>
      intro s ho h q hq
      have h1 := ih s (fun x hx => ho x (List.mem_cons_of_mem _ hx)) h
      obtain ⟨o1, o2, o3, o4⟩ := ho e (List.mem_cons_self ..)
      rw [pev_c] at hq
      unfold pvE at hq
      split at hq
      · exact h1 q hq
      · simp only [Bool.and_eq_true, Bool.or_eq_true, decide_eq_true_eq] at hq
        rcases hq.1 with h2 | ⟨_, h2⟩
        · exact h1 q h2
        · omega
  intro n
  have mn0 : ∀ n : Nat, ∀ q : Int, pnt C s0 n q = true → 0 ≤ q ∧ q < cS C 0 := by
    intro n
    induction n with
    | zero => exact h0
    | succ n ih =>
      intro q hq
      simp only [pnt, Bool.and_eq_true] at hq
      exact st _ _ (hmi_ok hC n).2.1 ih q hq.1
  exact ⟨mn0 n, st _ _ (hmi_ok hC n).2.1 (mn0 n)⟩
theorem sp_Ru_mayBehindMeal {g : xG} {K : Option MV → xS → Prop} {σ σ0 : xS} {u : Nat} {C : Cf} {h : Nat} {m0 : Int} {s : Int → Bool} (hu : IsRu u) (hC : CfOk C) (R : RunS σ0 u C 0 (cH C)) (hs : ∀ o : Nat, o ≠ u + 12 → σ o = σ0 o) (h1 : h < cH C) (hm : Msk 8 m0 s) (hin : ∀ q : Int, s q = true → 0 ≤ q ∧ q < cS C 0)
    (k : ∀ (m : Int) (σ' : xS), Msk 8 m (fun q => s q && !decide ((rst C (h + 1)).1 q < 1)) → (∀ o : Nat, o ≠ u + 12 → σ' o = σ0 o) → (∀ p : Int, 0 ≤ p → p < cS C 0 → σ' (u + 12) p = (rst C (h + 1)).1 p) → K (some (vI m)) σ') : Mt g y_Ru_mayBehindMeal [vR u, vI m0, vI (h : Int)] σ K := by
  have hH := cH_eq hC
  have h8 := hC.2.1
  have hP := hC.1
  have hn : ∀ p : Int, 0 ≤ p → p < cS C 0 → cpy σ (u + 6) (u + 12) (8 * (h : Int)) 0 8 (u + 12) p = (rst C (h + 1)).1 p := by
    intro p p0 p1
    rw [cpy_in (by omega) (by omega), hs _ (by omega), show 8 * (h : Int) + (p - 0) = 8 * (h : Int) + p by omega]
    exact R.hB (by omega) h1 p0 p1
  have ho : ∀ o : Nat, o ≠ u + 12 → cpy σ (u + 6) (u + 12) (8 * (h : Int)) 0 8 o = σ0 o := fun o q => by rw [cpy_ne q]; exact hs o q
  have lp : ∀ (Z : xZ) (σ1 : xS), (∀ p : Int, 0 ≤ p → p < cS C 0 → σ1 (u + 12) p = (rst C (h + 1)).1 p) → (∀ o : Nat, o ≠ u + 12 → σ1 o = σ0 o) → ∀ (n p : Nat) (m : Int), (p : Int) + n = cS C 0 → Msk 8 m (fun q => s q && !(decide (q < p) && decide ((rst C (h + 1)).1 q < 1))) → Wx g y_Ru_mayBehindMeal Z K 23 [vR u, vI m0, vI (h : Int), vI m, vI (p : Int)] [] σ1 := by
    intro Z σ1 H1 H2 n
    induction n with
    | zero =>
      intro p m hn Hm
      have e0 : σ1 u 0 = cS C 0 := by rw [H2 u (by omega)]; exact R.1.1
      refine x_iload (dat d_Ru_mayBehindMeal 14 rfl) rfl ?_
      refine x_aload_n (dat d_Ru_mayBehindMeal 15 rfl) rfl rfl ?_
      refine x_geti (ji := 0) (v := cS C 0) (dat d_Ru_mayBehindMeal 16 rfl) rfl f_Ru_46 (ru_oi_0 hu) (e0) ?_
      refine x_icmp_ge (tgt := 58) (dat d_Ru_mayBehindMeal 17 rfl) (by decide) (fun c_29 => ?_) (fun c_29 => (by omega))
      refine x_iload_n (dat d_Ru_mayBehindMeal 34 rfl) rfl rfl ?_
      refine x_iret (dat d_Ru_mayBehindMeal 35 rfl) rfl ?_
      refine k _ _ (Hm.congr (fun q _ _ => ?_)) H2 H1
      cases e : s q
      · rfl
      · have := hin q e
        rw [decide_eq_true (show q < (p : Int) by omega), Bool.true_and, Bool.true_and, Bool.true_and]
    | succ n ih =>
      intro p m hn Hm
      have e0 : σ1 u 0 = cS C 0 := by rw [H2 u (by omega)]; exact R.1.1
      have eb := H1 (p : Int) (by omega) (by omega)
      have on := Msk.one (n := 8) (by decide) (p := (p : Int)) (by omega) (by omega)
      refine x_iload (dat d_Ru_mayBehindMeal 14 rfl) rfl ?_
      refine x_aload_n (dat d_Ru_mayBehindMeal 15 rfl) rfl rfl ?_
      refine x_geti (ji := 0) (v := cS C 0) (dat d_Ru_mayBehindMeal 16 rfl) rfl f_Ru_46 (ru_oi_0 hu) (e0) ?_
      refine x_icmp_ge (tgt := 58) (dat d_Ru_mayBehindMeal 17 rfl) (by decide) (fun c_29 => (by omega)) (fun c_29 => ?_)
      refine x_aload_n (dat d_Ru_mayBehindMeal 18 rfl) rfl rfl ?_
      refine x_getr (r := u + 12) (dat d_Ru_mayBehindMeal 19 rfl) rfl f_Ru_37 (ru_or_11 hu) ?_
      refine x_iload (dat d_Ru_mayBehindMeal 20 rfl) rfl ?_
      refine x_iald (n := 8) (v := (rst C (h + 1)).1 p) (dat d_Ru_mayBehindMeal 21 rfl) (ru_ai_12 hu) (by omega) (by omega) (eb) ?_
      refine x_iconst (dat d_Ru_mayBehindMeal 22 rfl) (by decide) ?_
      refine x_icmp_ge (tgt := 52) (dat d_Ru_mayBehindMeal 23 rfl) (by decide) (fun c_40 => ?_) (fun c_40 => ?_)
      · refine x_iinc (v' := ((p + 1 : Nat) : Int)) (L' := [vR u, vI m0, vI (h : Int), vI m, vI ((p + 1 : Nat) : Int)]) (dat d_Ru_mayBehindMeal 32 rfl) rfl (by decide) rfl (by omega) (by omega) rfl ?_
        refine x_goto (tgt := 23) (dat d_Ru_mayBehindMeal 33 rfl) (by decide) ?_
        refine ih (p + 1) _ (by omega) ?_
        first
        | (refine (Hm.andn (by decide) on).congr (fun q q0 q1 => ?_)
           by_cases z : q = (p : Int)
           · rw [z, decide_eq_true (show ((p : Nat) : Int) < ((p + 1 : Nat) : Int) by omega), decide_eq_true (show (rst C (h + 1)).1 (p : Int) < 1 by omega)]
             simp
           · rw [decide_eq_false z, show decide (q < ((p + 1 : Nat) : Int)) = decide (q < (p : Int)) from decide_eq_decide.mpr (by omega)]
             simp)
        | (refine Hm.congr (fun q q0 q1 => ?_)
           by_cases z : q = (p : Int)
           · rw [z, decide_eq_false (show ¬ (rst C (h + 1)).1 (p : Int) < 1 by omega), Bool.and_false, Bool.and_false]
           · rw [show decide (q < ((p + 1 : Nat) : Int)) = decide (q < (p : Int)) from decide_eq_decide.mpr (by omega)])
      · refine x_iload_n (dat d_Ru_mayBehindMeal 24 rfl) rfl rfl ?_
        refine x_iconst (dat d_Ru_mayBehindMeal 25 rfl) (by decide) ?_
        refine x_iload (dat d_Ru_mayBehindMeal 26 rfl) rfl ?_
        refine x_ishl (v := ishl 1 (p : Int)) (dat d_Ru_mayBehindMeal 27 rfl) rfl ?_
        refine x_iconst (dat d_Ru_mayBehindMeal 28 rfl) (by decide) ?_
        refine x_ixor (v := ixor (ishl 1 (p : Int)) (-1)) (dat d_Ru_mayBehindMeal 29 rfl) rfl ?_
        refine x_iand (v := iand m (ixor (ishl 1 (p : Int)) (-1))) (dat d_Ru_mayBehindMeal 30 rfl) rfl ?_
        refine x_istore_n (L' := [vR u, vI m0, vI (h : Int), vI (iand m (ixor (ishl 1 (p : Int)) (-1))), vI (p : Int)]) (dat d_Ru_mayBehindMeal 31 rfl) rfl (by decide) rfl rfl ?_
        refine x_iinc (v' := ((p + 1 : Nat) : Int)) (L' := [vR u, vI m0, vI (h : Int), vI (iand m (ixor (ishl 1 (p : Int)) (-1))), vI ((p + 1 : Nat) : Int)]) (dat d_Ru_mayBehindMeal 32 rfl) rfl (by decide) rfl (by omega) (by omega) rfl ?_
        refine x_goto (tgt := 23) (dat d_Ru_mayBehindMeal 33 rfl) (by decide) ?_
        refine ih (p + 1) _ (by omega) ?_
        first
        | (refine (Hm.andn (by decide) on).congr (fun q q0 q1 => ?_)
           by_cases z : q = (p : Int)
           · rw [z, decide_eq_true (show ((p : Nat) : Int) < ((p + 1 : Nat) : Int) by omega), decide_eq_true (show (rst C (h + 1)).1 (p : Int) < 1 by omega)]
             simp
           · rw [decide_eq_false z, show decide (q < ((p + 1 : Nat) : Int)) = decide (q < (p : Int)) from decide_eq_decide.mpr (by omega)]
             simp)
        | (refine Hm.congr (fun q q0 q1 => ?_)
           by_cases z : q = (p : Int)
           · rw [z, decide_eq_false (show ¬ (rst C (h + 1)).1 (p : Int) < 1 by omega), Bool.and_false, Bool.and_false]
           · rw [show decide (q < ((p + 1 : Nat) : Int)) = decide (q < (p : Int)) from decide_eq_decide.mpr (by omega)])
  refine x_enter 2 rfl rfl rfl (fun Z => ?_)
  show Wx g y_Ru_mayBehindMeal Z K 0 [vR u, vI m0, vI (h : Int), vU, vU] [] σ
  refine x_iload_n (dat d_Ru_mayBehindMeal 0 rfl) rfl rfl ?_
  refine x_istore_n (L' := [vR u, vI m0, vI (h : Int), vI m0, vU]) (dat d_Ru_mayBehindMeal 1 rfl) rfl (by decide) rfl rfl ?_
  refine x_aload_n (dat d_Ru_mayBehindMeal 2 rfl) rfl rfl ?_
  refine x_getr (r := u + 6) (dat d_Ru_mayBehindMeal 3 rfl) rfl f_Ru_18 (ru_or_5 hu) ?_
  refine x_iload_n (dat d_Ru_mayBehindMeal 4 rfl) rfl rfl ?_
  refine x_bipush (dat d_Ru_mayBehindMeal 5 rfl) (by decide) (by decide) ?_
  refine x_imul (v := 8 * (h : Int)) (dat d_Ru_mayBehindMeal 6 rfl) (by omega) (by omega) ?_
  refine x_aload_n (dat d_Ru_mayBehindMeal 7 rfl) rfl rfl ?_
  refine x_getr (r := u + 12) (dat d_Ru_mayBehindMeal 8 rfl) rfl f_Ru_37 (ru_or_11 hu) ?_
  refine x_iconst (dat d_Ru_mayBehindMeal 9 rfl) (by decide) ?_
  refine x_bipush (dat d_Ru_mayBehindMeal 10 rfl) (by decide) (by decide) ?_
  refine x_copy (own := "ShakenBread$Run") (t := 20) (na := 192) (nb := 8) (dat d_Ru_mayBehindMeal 11 rfl) rfl l_Ru_65 (by decide) (by decide) (ru_ai_6 hu) (ru_ai_12 hu) (by omega) (by omega) (by omega) (by omega) (by omega) (Nat.le_of_ble_eq_true rfl) ?_
  refine x_iconst (dat d_Ru_mayBehindMeal 12 rfl) (by decide) ?_
  refine x_istore (L' := [vR u, vI m0, vI (h : Int), vI m0, vI 0]) (dat d_Ru_mayBehindMeal 13 rfl) (by decide) rfl rfl ?_
  refine lp Z _ hn ho (cS C 0).toNat 0 m0 (by omega) (hm.congr (fun q q0 _ => ?_))
  rw [decide_eq_false (show ¬ q < ((0 : Nat) : Int) by omega)]
  simp
theorem rst_PvB {C : Cf} (hC : CfOk C) (n : Nat) : PvB 0 (rst C n).1 (cS C 0) := fun p p0 p1 => by
  have := rst_bd hC n p0 p1
  omega
theorem sp_Ru_mayBeWith {g : xG} {K : Option MV → xS → Prop} {σ : xS} {u : Nat} {C : Cf} {p : Int} {hr : Nat} (hu : IsRu u) (hC : CfOk C) (R : RunS σ u C 0 (cH C)) (hst : ∀ p : Int, 0 ≤ p → p < cS C 0 → σ 139 p = cSt C p) (p0 : 0 ≤ p) (p1 : p < cS C 0) (hr1 : hr < cH C)
    (k : ∀ (m : Int) (σ' : xS), Msk 8 m (pnt C (fun q => decide (q = p)) (hr + 1)) → (∀ o : Nat, o ≠ u + 12 → σ' o = σ o) → K (some (vI m)) σ') : Mt g y_Ru_mayBeWith [vR u, vR 138, vI p, vI (hr : Int)] σ K := by
  have hH := cH_eq hC
  have h8 := hC.2.1
  have hP := hC.1
  have hcs := ru_cs hu
  have hin := fun n => pnt_in hC (s0 := fun q => decide (q = p)) (fun q hq => by have e : q = p := of_decide_eq_true hq; rw [e]; exact ⟨p0, p1⟩) n
  have lp : ∀ (Z : xZ) (n h : Nat) (m : Int) (σ1 : xS), h + n = hr + 1 → Msk 8 m (pnt C (fun q => decide (q = p)) h) → (∀ q : Int, 0 ≤ q → q < cS C 0 → σ1 (u + 12) q = (rst C h).1 q) → (∀ o : Nat, o ≠ u + 12 → σ1 o = σ o) → Wx g y_Ru_mayBeWith Z K 23 [vR u, vR 138, vI p, vI (hr : Int), vI m, vI (h : Int)] [] σ1 := by
    intro Z n
    induction n with
    | zero =>
      intro h m σ1 hn Hm Hb Ho
      have e : h = hr + 1 := by omega
      subst e
      refine x_iload (dat d_Ru_mayBeWith 14 rfl) rfl ?_
      refine x_iload_n (dat d_Ru_mayBeWith 15 rfl) rfl rfl ?_
      refine x_icmp_gt (tgt := 64) (dat d_Ru_mayBeWith 16 rfl) (by decide) (fun c_26 => ?_) (fun c_26 => (by omega))
      refine x_iload (dat d_Ru_mayBeWith 33 rfl) rfl ?_
      refine x_iret (dat d_Ru_mayBeWith 34 rfl) rfl ?_
      exact k _ _ Hm Ho
    | succ n ih =>
      intro h m σ1 hn Hm Hb Ho
      have e1 : σ1 u 1 = (cH C : Int) := by rw [Ho u (by omega), R.1.2.1]; omega
      refine x_iload (dat d_Ru_mayBeWith 14 rfl) rfl ?_
      refine x_iload_n (dat d_Ru_mayBeWith 15 rfl) rfl rfl ?_
      refine x_icmp_gt (tgt := 64) (dat d_Ru_mayBeWith 16 rfl) (by decide) (fun c_26 => (by omega)) (fun c_26 => ?_)
      refine x_iload (dat d_Ru_mayBeWith 17 rfl) rfl ?_
      refine x_aload_n (dat d_Ru_mayBeWith 18 rfl) rfl rfl ?_
      refine x_geti (ji := 1) (v := (cH C : Int)) (dat d_Ru_mayBeWith 19 rfl) rfl f_Ru_50 (ru_oi_1 hu) (e1) ?_
      refine x_icmp_ge (tgt := 64) (dat d_Ru_mayBeWith 20 rfl) (by decide) (fun c_35 => (by omega)) (fun c_35 => ?_)
      refine x_aload_n (dat d_Ru_mayBeWith 21 rfl) rfl rfl ?_
      refine x_iload (dat d_Ru_mayBeWith 22 rfl) rfl ?_
      refine x_iload (dat d_Ru_mayBeWith 23 rfl) rfl ?_
      refine x_inv (As := [vI m, vI (h : Int)]) (dat d_Ru_mayBeWith 24 rfl) rfl c_Ru_mayBehindShakes l_Ru_139 (by decide) (rv_ru (ru_k hu)) rfl rfl (Nat.le_of_ble_eq_true rfl) ?_
      refine sp_Ru_mayBehindShakes (s0 := ((rst C h).1, pnt C (fun q => decide (q = p)) h)) hu hC R Ho (by omega) (rst_PvB hC h) Hb Hm (fun m2 σ2 Hm2 Ho2 => ?_)
      show Wx g y_Ru_mayBeWith Z K 46 [vR u, vR 138, vI p, vI (hr : Int), vI m, vI (h : Int)] [vI m2] σ2
      refine x_istore (L' := [vR u, vR 138, vI p, vI (hr : Int), vI m2, vI (h : Int)]) (dat d_Ru_mayBeWith 25 rfl) (by decide) rfl rfl ?_
      refine x_aload_n (dat d_Ru_mayBeWith 26 rfl) rfl rfl ?_
      refine x_iload (dat d_Ru_mayBeWith 27 rfl) rfl ?_
      refine x_iload (dat d_Ru_mayBeWith 28 rfl) rfl ?_
      refine x_inv (As := [vI m2, vI (h : Int)]) (dat d_Ru_mayBeWith 29 rfl) rfl c_Ru_mayBehindMeal l_Ru_142 (by decide) (rv_ru (ru_k hu)) rfl rfl (Nat.le_of_ble_eq_true rfl) ?_
      refine sp_Ru_mayBehindMeal hu hC R Ho2 (by omega) Hm2 (hin h).2 (fun m3 σ3 Hm3 Ho3 Hb3 => ?_)
      show Wx g y_Ru_mayBeWith Z K 56 [vR u, vR 138, vI p, vI (hr : Int), vI m2, vI (h : Int)] [vI m3] σ3
      refine x_istore (L' := [vR u, vR 138, vI p, vI (hr : Int), vI m3, vI (h : Int)]) (dat d_Ru_mayBeWith 30 rfl) (by decide) rfl rfl ?_
      refine x_iinc (v' := ((h + 1 : Nat) : Int)) (L' := [vR u, vR 138, vI p, vI (hr : Int), vI m3, vI ((h + 1 : Nat) : Int)]) (dat d_Ru_mayBeWith 31 rfl) rfl (by decide) rfl (by omega) (by omega) rfl ?_
      refine x_goto (tgt := 23) (dat d_Ru_mayBeWith 32 rfl) (by decide) ?_
      exact ih (h + 1) m3 σ3 (by omega) Hm3 Hb3 Ho3
  refine x_enter 2 rfl rfl rfl (fun Z => ?_)
  show Wx g y_Ru_mayBeWith Z K 0 [vR u, vR 138, vI p, vI (hr : Int), vU, vU] [] σ
  refine x_iconst (dat d_Ru_mayBeWith 0 rfl) (by decide) ?_
  refine x_iload_n (dat d_Ru_mayBeWith 1 rfl) rfl rfl ?_
  refine x_ishl (v := ishl 1 p) (dat d_Ru_mayBeWith 2 rfl) rfl ?_
  refine x_istore (L' := [vR u, vR 138, vI p, vI (hr : Int), vI (ishl 1 p), vU]) (dat d_Ru_mayBeWith 3 rfl) (by decide) rfl rfl ?_
  refine x_aload_n (dat d_Ru_mayBeWith 4 rfl) rfl rfl ?_
  refine x_getr (r := 139) (dat d_Ru_mayBeWith 5 rfl) rfl f_Ru_62 (or_mk (by decide +kernel)) ?_
  refine x_iconst (dat d_Ru_mayBeWith 6 rfl) (by decide) ?_
  refine x_aload_n (dat d_Ru_mayBeWith 7 rfl) rfl rfl ?_
  refine x_getr (r := u + 12) (dat d_Ru_mayBeWith 8 rfl) rfl f_Ru_37 (ru_or_11 hu) ?_
  refine x_iconst (dat d_Ru_mayBeWith 9 rfl) (by decide) ?_
  refine x_bipush (dat d_Ru_mayBeWith 10 rfl) (by decide) (by decide) ?_
  refine x_copy (own := "ShakenBread$Run") (t := 20) (na := 8) (nb := 8) (dat d_Ru_mayBeWith 11 rfl) rfl l_Ru_65 (by decide) (by decide) (ai_mk (by decide +kernel)) (ru_ai_12 hu) (by omega) (by omega) (by omega) (by omega) (by omega) (Nat.le_of_ble_eq_true rfl) ?_
  refine x_iconst (dat d_Ru_mayBeWith 12 rfl) (by decide) ?_
  refine x_istore (L' := [vR u, vR 138, vI p, vI (hr : Int), vI (ishl 1 p), vI 0]) (dat d_Ru_mayBeWith 13 rfl) (by decide) rfl rfl ?_
  refine lp Z (hr + 1) 0 _ _ (by omega) (Msk.one (n := 8) (by decide) p0 (by omega)) (fun q q0 q1 => ?_) (fun o ho => by rw [cpy_ne ho])
  rw [cpy_in (by omega) (by omega), show (0 : Int) + (q - 0) = q by omega]
  exact hst q q0 q1
/-- one eats of it in the hour -/
def bitE (C : Cf) (s0 : Int → Bool) (h : Nat) : Prop := 0 < cS C 3 ∧ eats C h = true ∧ ∃ q : Int, 0 ≤ q ∧ q < 8 ∧ pnS C s0 h q = true ∧ (rst C (h + 1)).2 q = true
theorem sp_Ru_bite {g : xG} {K : Option MV → xS → Prop} {σ : xS} {u : Nat} {C : Cf} {p : Int} {hr : Nat} (hu : IsRu u) (hC : CfOk C) (R : RunS σ u C 0 (cH C)) (hst : ∀ p : Int, 0 ≤ p → p < cS C 0 → σ 139 p = cSt C p) (p0 : 0 ≤ p) (p1 : p < cS C 0) (hr1 : hr < cH C)
    (k : ∀ (v : Int) (σ' : xS), FirstH (bitE C (fun q => decide (q = p))) (hr + 1) v → (∀ o : Nat, o ≠ u + 12 → σ' o = σ o) → K (some (vI v)) σ') : Mt g y_Ru_bite [vR u, vR 138, vI p, vI (hr : Int)] σ K := by
  have hH := cH_eq hC
  have h8 := hC.2.1
  have hP := hC.1
  have hcs := ru_cs hu
  have hin := fun n => pnt_in hC (s0 := fun q => decide (q = p)) (fun q hq => by have e : q = p := of_decide_eq_true hq; rw [e]; exact ⟨p0, p1⟩) n
  have lp : ∀ (Z : xZ) (n h : Nat) (m : Int) (σ1 : xS), h + n = hr + 1 → (∀ h2 : Nat, h2 < h → ¬ bitE C (fun q => decide (q = p)) h2) → Msk 8 m (pnt C (fun q => decide (q = p)) h) → (∀ q : Int, 0 ≤ q → q < cS C 0 → σ1 (u + 12) q = (rst C h).1 q) → (∀ o : Nat, o ≠ u + 12 → σ1 o = σ o) → Wx g y_Ru_bite Z K 23 [vR u, vR 138, vI p, vI (hr : Int), vI m, vI (h : Int)] [] σ1 := by
    intro Z n
    induction n with
    | zero =>
      intro h m σ1 hn Hf Hm Hb Ho
      have e : h = hr + 1 := by omega
      subst e
      refine x_iload (dat d_Ru_bite 14 rfl) rfl ?_
      refine x_iload_n (dat d_Ru_bite 15 rfl) rfl rfl ?_
      refine x_icmp_gt (tgt := 96) (dat d_Ru_bite 16 rfl) (by decide) (fun c_26 => ?_) (fun c_26 => (by omega))
      refine x_iconst (dat d_Ru_bite 49 rfl) (by decide) ?_
      refine x_iret (dat d_Ru_bite 50 rfl) rfl ?_
      exact k _ _ (Or.inl ⟨rfl, Hf⟩) Ho
    | succ n ih =>
      intro h m σ1 hn Hf Hm Hb Ho
      have e1 : σ1 u 1 = (cH C : Int) := by rw [Ho u (by omega), R.1.2.1]; omega
      refine x_iload (dat d_Ru_bite 14 rfl) rfl ?_
      refine x_iload_n (dat d_Ru_bite 15 rfl) rfl rfl ?_
      refine x_icmp_gt (tgt := 96) (dat d_Ru_bite 16 rfl) (by decide) (fun c_26 => (by omega)) (fun c_26 => ?_)
      refine x_iload (dat d_Ru_bite 17 rfl) rfl ?_
      refine x_aload_n (dat d_Ru_bite 18 rfl) rfl rfl ?_
      refine x_geti (ji := 1) (v := (cH C : Int)) (dat d_Ru_bite 19 rfl) rfl f_Ru_50 (ru_oi_1 hu) (e1) ?_
      refine x_icmp_ge (tgt := 96) (dat d_Ru_bite 20 rfl) (by decide) (fun c_35 => (by omega)) (fun c_35 => ?_)
      refine x_aload_n (dat d_Ru_bite 21 rfl) rfl rfl ?_
      refine x_iload (dat d_Ru_bite 22 rfl) rfl ?_
      refine x_iload (dat d_Ru_bite 23 rfl) rfl ?_
      refine x_inv (As := [vI m, vI (h : Int)]) (dat d_Ru_bite 24 rfl) rfl c_Ru_mayBehindShakes l_Ru_139 (by decide) (rv_ru (ru_k hu)) rfl rfl (Nat.le_of_ble_eq_true rfl) ?_
      refine sp_Ru_mayBehindShakes (s0 := ((rst C h).1, pnt C (fun q => decide (q = p)) h)) hu hC R Ho (by omega) (rst_PvB hC h) Hb Hm (fun m2 σ2 Hm2 Ho2 => ?_)
      have e2 : σ2 u 2 = cS C 3 := by rw [Ho2 u (by omega)]; exact R.1.2.2.1
      have e3 : σ2 u 3 = cS C 4 := by rw [Ho2 u (by omega)]; exact R.1.2.2.2
      have e9 : Msk 8 (σ2 (u + 9) (h : Int)) (rst C (h + 1)).2 := by rw [Ho2 _ (by omega)]; exact R.hL (by omega) (by omega)
      have la := Hm2.land (by decide) e9
      have nxt : ¬ bitE C (fun q => decide (q = p)) h → Wx g y_Ru_bite Z K 80 [vR u, vR 138, vI p, vI (hr : Int), vI m2, vI (h : Int)] [] σ2 := by
        intro hb
        refine x_aload_n (dat d_Ru_bite 42 rfl) rfl rfl ?_
        refine x_iload (dat d_Ru_bite 43 rfl) rfl ?_
        refine x_iload (dat d_Ru_bite 44 rfl) rfl ?_
        refine x_inv (As := [vI m2, vI (h : Int)]) (dat d_Ru_bite 45 rfl) rfl c_Ru_mayBehindMeal l_Ru_142 (by decide) (rv_ru (ru_k hu)) rfl rfl (Nat.le_of_ble_eq_true rfl) ?_
        refine sp_Ru_mayBehindMeal hu hC R Ho2 (by omega) Hm2 (hin h).2 (fun m3 σ3 Hm3 Ho3 Hb3 => ?_)
        show Wx g y_Ru_bite Z K 88 [vR u, vR 138, vI p, vI (hr : Int), vI m2, vI (h : Int)] [vI m3] σ3
        refine x_istore (L' := [vR u, vR 138, vI p, vI (hr : Int), vI m3, vI (h : Int)]) (dat d_Ru_bite 46 rfl) (by decide) rfl rfl ?_
        refine x_iinc (v' := ((h + 1 : Nat) : Int)) (L' := [vR u, vR 138, vI p, vI (hr : Int), vI m3, vI ((h + 1 : Nat) : Int)]) (dat d_Ru_bite 47 rfl) rfl (by decide) rfl (by omega) (by omega) rfl ?_
        refine x_goto (tgt := 23) (dat d_Ru_bite 48 rfl) (by decide) ?_
        refine ih (h + 1) m3 σ3 (by omega) (fun h2 q => ?_) Hm3 Hb3 Ho3
        rcases Nat.lt_or_eq_of_le (Nat.le_of_lt_succ q) with q2 | q2
        · exact Hf h2 q2
        · subst q2
          exact hb
      show Wx g y_Ru_bite Z K 46 [vR u, vR 138, vI p, vI (hr : Int), vI m, vI (h : Int)] [vI m2] σ2
      refine x_istore (L' := [vR u, vR 138, vI p, vI (hr : Int), vI m2, vI (h : Int)]) (dat d_Ru_bite 25 rfl) (by decide) rfl rfl ?_
      refine x_aload_n (dat d_Ru_bite 26 rfl) rfl rfl ?_
      refine x_geti (ji := 2) (v := cS C 3) (dat d_Ru_bite 27 rfl) rfl f_Ru_54 (ru_oi_2 hu) (e2) ?_
      refine x_if_le (tgt := 80) (dat d_Ru_bite 28 rfl) (by decide) (fun c_52 => ?_) (fun c_52 => ?_)
      · refine nxt (fun hb => ?_)
        obtain ⟨b1, b2, q, q0, q1, b3, b4⟩ := hb
        first
        | omega
        | exact absurd (b2.symm.trans he) (by decide)
        | (have z := la.iszero.mp (by omega) q q0 q1
           simp only [Bool.and_eq_false_iff] at z
           rcases z with z | z
           · exact absurd (b3.symm.trans z) (by decide)
           · exact absurd (b4.symm.trans z) (by decide))
      · refine x_aload_n (dat d_Ru_bite 29 rfl) rfl rfl ?_
        refine x_iload (dat d_Ru_bite 30 rfl) rfl ?_
        refine x_inv (As := [vI (h : Int)]) (dat d_Ru_bite 31 rfl) rfl c_Ru_eatsAt l_Ru_101 (by decide) (rv_ru (ru_k hu)) rfl rfl (Nat.le_of_ble_eq_true rfl) ?_
        refine sp_Ru_eatsAt hu hC e3 (by omega) (by omega) (fun he => ?_) (fun he => ?_)
        · show Wx g y_Ru_bite Z K 61 [vR u, vR 138, vI p, vI (hr : Int), vI m2, vI (h : Int)] [vI 1] σ2
          refine x_if_eq (tgt := 80) (dat d_Ru_bite 32 rfl) (by decide) (fun h => absurd h (by decide)) (fun c_61 => ?_)
          refine x_iload (dat d_Ru_bite 33 rfl) rfl ?_
          refine x_aload_n (dat d_Ru_bite 34 rfl) rfl rfl ?_
          refine x_getr (r := u + 9) (dat d_Ru_bite 35 rfl) rfl f_Ru_28 (ru_or_8 hu) ?_
          refine x_iload (dat d_Ru_bite 36 rfl) rfl ?_
          refine x_iald (n := 24) (v := σ2 (u + 9) (h : Int)) (dat d_Ru_bite 37 rfl) (ru_ai_9 hu) (by omega) (by omega) rfl ?_
          refine x_iand (v := iand m2 (σ2 (u + 9) (h : Int))) (dat d_Ru_bite 38 rfl) rfl ?_
          refine x_if_eq (tgt := 80) (dat d_Ru_bite 39 rfl) (by decide) (fun c_74 => ?_) (fun c_74 => ?_)
          · refine nxt (fun hb => ?_)
            obtain ⟨b1, b2, q, q0, q1, b3, b4⟩ := hb
            first
            | omega
            | exact absurd (b2.symm.trans he) (by decide)
            | (have z := la.iszero.mp (by omega) q q0 q1
               simp only [Bool.and_eq_false_iff] at z
               rcases z with z | z
               · exact absurd (b3.symm.trans z) (by decide)
               · exact absurd (b4.symm.trans z) (by decide))
          · refine x_iload (dat d_Ru_bite 40 rfl) rfl ?_
            refine x_iret (dat d_Ru_bite 41 rfl) rfl ?_
            refine k _ _ (Or.inr ⟨h, by omega, rfl, ⟨by omega, he, ?_⟩, Hf⟩) Ho2
            refine Classical.byContradiction fun w => c_74 (la.iszero.mpr (fun q q0 q1 => ?_))
            cases z1 : (pev (hev C h) ((rst C h).1, pnt C (fun q => decide (q = p)) h)).2 q
            · rfl
            · cases z2 : (rst C (h + 1)).2 q
              · rfl
              · exact absurd ⟨q, q0, q1, z1, z2⟩ w
        · show Wx g y_Ru_bite Z K 61 [vR u, vR 138, vI p, vI (hr : Int), vI m2, vI (h : Int)] [vI 0] σ2
          refine x_if_eq (tgt := 80) (dat d_Ru_bite 32 rfl) (by decide) (fun c_61 => ?_) (fun h => absurd h (by decide))
          refine nxt (fun hb => ?_)
          obtain ⟨b1, b2, q, q0, q1, b3, b4⟩ := hb
          first
          | omega
          | exact absurd (b2.symm.trans he) (by decide)
          | (have z := la.iszero.mp (by omega) q q0 q1
             simp only [Bool.and_eq_false_iff] at z
             rcases z with z | z
             · exact absurd (b3.symm.trans z) (by decide)
             · exact absurd (b4.symm.trans z) (by decide))
  refine x_enter 2 rfl rfl rfl (fun Z => ?_)
  show Wx g y_Ru_bite Z K 0 [vR u, vR 138, vI p, vI (hr : Int), vU, vU] [] σ
  refine x_iconst (dat d_Ru_bite 0 rfl) (by decide) ?_
  refine x_iload_n (dat d_Ru_bite 1 rfl) rfl rfl ?_
  refine x_ishl (v := ishl 1 p) (dat d_Ru_bite 2 rfl) rfl ?_
  refine x_istore (L' := [vR u, vR 138, vI p, vI (hr : Int), vI (ishl 1 p), vU]) (dat d_Ru_bite 3 rfl) (by decide) rfl rfl ?_
  refine x_aload_n (dat d_Ru_bite 4 rfl) rfl rfl ?_
  refine x_getr (r := 139) (dat d_Ru_bite 5 rfl) rfl f_Ru_62 (or_mk (by decide +kernel)) ?_
  refine x_iconst (dat d_Ru_bite 6 rfl) (by decide) ?_
  refine x_aload_n (dat d_Ru_bite 7 rfl) rfl rfl ?_
  refine x_getr (r := u + 12) (dat d_Ru_bite 8 rfl) rfl f_Ru_37 (ru_or_11 hu) ?_
  refine x_iconst (dat d_Ru_bite 9 rfl) (by decide) ?_
  refine x_bipush (dat d_Ru_bite 10 rfl) (by decide) (by decide) ?_
  refine x_copy (own := "ShakenBread$Run") (t := 20) (na := 8) (nb := 8) (dat d_Ru_bite 11 rfl) rfl l_Ru_65 (by decide) (by decide) (ai_mk (by decide +kernel)) (ru_ai_12 hu) (by omega) (by omega) (by omega) (by omega) (by omega) (Nat.le_of_ble_eq_true rfl) ?_
  refine x_iconst (dat d_Ru_bite 12 rfl) (by decide) ?_
  refine x_istore (L' := [vR u, vR 138, vI p, vI (hr : Int), vI (ishl 1 p), vI 0]) (dat d_Ru_bite 13 rfl) (by decide) rfl rfl ?_
  refine lp Z (hr + 1) 0 _ _ (by omega) (fun h2 q => absurd q (Nat.not_lt_zero _)) (Msk.one (n := 8) (by decide) p0 (by omega)) (fun q q0 q1 => ?_) (fun o ho => by rw [cpy_ne ho])
  rw [cpy_in (by omega) (by omega), show (0 : Int) + (q - 0) = q by omega]
  exact hst q q0 q1
theorem sp_Ha_reachedFirst {g : xG} {K : Option MV → xS → Prop} {σ : xS} {u : Nat} {C : Cf} {fr to gm : Int} {gl : Int → Bool} (hu : IsRu u) (hC : CfOk C) (R : RunS σ u C 0 (cH C)) (hg : Mss (cS C 0) gm gl) (f0 : 0 ≤ fr) (f1 : fr < cS C 0) (t0 : 0 ≤ to) (t1 : to < cS C 0)
    (k : ∀ v : Int, FirstH (fun h => rch gl fr (lgs C 0 (h + 1)) to = true) (cH C) v → K (some (vI v)) σ) : Mt g y_Ha_reachedFirst [vR (u + 1), vI fr, vI to, vI (cH C : Int), vI gm] σ K := by
  have hH := cH_eq hC
  have h8 := hC.2.1
  have hlg := lgs_ok hC 0 (cH C)
  have lp : ∀ (Z : xZ) (n h : Nat), h + n = cH C → (∀ h2 : Nat, h2 < h → ¬ rch gl fr (lgs C 0 (h2 + 1)) to = true) → Wx g y_Ha_reachedFirst Z K 3 [vR (u + 1), vI fr, vI to, vI (cH C : Int), vI gm, vI (h : Int)] [] σ := by
    intro Z n
    induction n with
    | zero =>
      intro h hn H
      have e : h = cH C := by omega
      subst e
      refine x_iload (dat d_Ha_reachedFirst 2 rfl) rfl ?_
      refine x_iload_n (dat d_Ha_reachedFirst 3 rfl) rfl rfl ?_
      refine x_icmp_ge (tgt := 34) (dat d_Ha_reachedFirst 4 rfl) (by decide) (fun c_6 => ?_) (fun c_6 => (by omega))
      refine x_iconst (dat d_Ha_reachedFirst 19 rfl) (by decide) ?_
      refine x_iret (dat d_Ha_reachedFirst 20 rfl) rfl ?_
      exact k _ (Or.inl ⟨rfl, H⟩)
    | succ n ih =>
      intro h hn H
      obtain ⟨t, ht⟩ := lgs_split (C := C) (cH C) h (by omega)
      have hen : σ (u + 1 + 4) (h : Int) = ((lgs C 0 (h + 1)).length : Int) := (R.hour (h := h) (by omega) (by omega)).2.2.2.2.2.2
      refine x_iload (dat d_Ha_reachedFirst 2 rfl) rfl ?_
      refine x_iload_n (dat d_Ha_reachedFirst 3 rfl) rfl rfl ?_
      refine x_icmp_ge (tgt := 34) (dat d_Ha_reachedFirst 4 rfl) (by decide) (fun c_6 => (by omega)) (fun c_6 => ?_)
      refine x_aload_n (dat d_Ha_reachedFirst 5 rfl) rfl rfl ?_
      refine x_iload_n (dat d_Ha_reachedFirst 6 rfl) rfl rfl ?_
      refine x_iload (dat d_Ha_reachedFirst 7 rfl) rfl ?_
      refine x_iload (dat d_Ha_reachedFirst 8 rfl) rfl ?_
      refine x_inv (As := [vI fr, vI (h : Int), vI gm]) (dat d_Ha_reachedFirst 9 rfl) rfl c_Ha_reached l_Ha_38 (by decide) (rv_ha (ha_k (ru_ha hu))) rfl rfl (Nat.le_of_ble_eq_true rfl) ?_
      refine sp_Ha_reached (ru_ha hu) (by omega) (by omega) (by omega) hg R.2.2.2.1 ht (by omega) hen hlg.1 f0 f1 (fun r hr => ?_)
      have bt := hr.get (by decide) (p := to) t0 (by omega)
      show Wx g y_Ha_reachedFirst Z K 18 [vR (u + 1), vI fr, vI to, vI (cH C : Int), vI gm, vI (h : Int)] [vI r] σ
      refine x_iload_n (dat d_Ha_reachedFirst 10 rfl) rfl rfl ?_
      refine x_ishr (v := ishr r to) (dat d_Ha_reachedFirst 11 rfl) rfl ?_
      refine x_iconst (dat d_Ha_reachedFirst 12 rfl) (by decide) ?_
      refine x_iand (v := iand (ishr r to) 1) (dat d_Ha_reachedFirst 13 rfl) rfl ?_
      refine x_if_eq (tgt := 28) (dat d_Ha_reachedFirst 14 rfl) (by decide) (fun c_22 => ?_) (fun c_22 => ?_)
      · refine x_iinc (v' := ((h + 1 : Nat) : Int)) (L' := [vR (u + 1), vI fr, vI to, vI (cH C : Int), vI gm, vI ((h + 1 : Nat) : Int)]) (dat d_Ha_reachedFirst 17 rfl) rfl (by decide) rfl (by omega) (by omega) rfl ?_
        refine x_goto (tgt := 3) (dat d_Ha_reachedFirst 18 rfl) (by decide) ?_
        refine ih (h + 1) (by omega) (fun h2 q => ?_)
        rcases Nat.lt_or_eq_of_le (Nat.le_of_lt_succ q) with q2 | q2
        · exact H h2 q2
        · subst q2
          intro hq
          rw [if_pos hq] at bt
          omega
      · refine x_iload (dat d_Ha_reachedFirst 15 rfl) rfl ?_
        refine x_iret (dat d_Ha_reachedFirst 16 rfl) rfl ?_
        refine k _ (Or.inr ⟨h, by omega, rfl, ?_, H⟩)
        refine Classical.byContradiction fun hq => ?_
        rw [if_neg hq] at bt
        omega
  refine x_enter 1 rfl rfl rfl (fun Z => ?_)
  show Wx g y_Ha_reachedFirst Z K 0 [vR (u + 1), vI fr, vI to, vI (cH C : Int), vI gm, vU] [] σ
  refine x_iconst (dat d_Ha_reachedFirst 0 rfl) (by decide) ?_
  refine x_istore (L' := [vR (u + 1), vI fr, vI to, vI (cH C : Int), vI gm, vI 0]) (dat d_Ha_reachedFirst 1 rfl) (by decide) rfl rfl ?_
  exact lp Z (cH C) 0 (by omega) (fun h2 q => absurd q (Nat.not_lt_zero _))
