/-! the law: its cases, its loop -/
section LWS
variable {g : xG} {p : Program} {e : Env} {s : State} {m : MethodId} {below : List Frame} {meth : Method} {c : Code} {b L cc ss i : Nat} {xs : Nat → Int32} {σ : xS}
theorem lc_0 (F : lF g p s m meth c b L xs cc ss) (hi : i + 6 ≤ L) (I : Inv σ) (kk : ∀ σ' : xS, Inv σ' → Lx g p e s m below meth c b cc ss i 1710 [] σ') : Lx g p e s m below meth c b cc ss i 192 [] σ := by
  refine lx_x F (dat d_Lw_0 0 rfl) ?_
  refine lx_arg (j := 1) F hi (dat d_Lw_0 1 rfl) (dat d_Lw_0 2 rfl) (dat d_Lw_0 3 rfl) (dat d_Lw_0 4 rfl) (dat d_Lw_0 5 rfl) (by decide) ?_
  refine lx_arg (j := 2) F hi (dat d_Lw_0 6 rfl) (dat d_Lw_0 7 rfl) (dat d_Lw_0 8 rfl) (dat d_Lw_0 9 rfl) (dat d_Lw_0 10 rfl) (by decide) ?_
  refine lx_arg (j := 3) F hi (dat d_Lw_0 11 rfl) (dat d_Lw_0 12 rfl) (dat d_Lw_0 13 rfl) (dat d_Lw_0 14 rfl) (dat d_Lw_0 15 rfl) (by decide) ?_
  refine lx_arg (j := 4) F hi (dat d_Lw_0 16 rfl) (dat d_Lw_0 17 rfl) (dat d_Lw_0 18 rfl) (dat d_Lw_0 19 rfl) (dat d_Lw_0 20 rfl) (by decide) ?_
  refine lx_arg (j := 5) F hi (dat d_Lw_0 21 rfl) (dat d_Lw_0 22 rfl) (dat d_Lw_0 23 rfl) (dat d_Lw_0 24 rfl) (dat d_Lw_0 25 rfl) (by decide) ?_
  refine lx_call (k := 0) (As := [vI (xv xs (i + 1)), vI (xv xs (i + 2)), vI (xv xs (i + 3)), vI (xv xs (i + 4)), vI (xv xs (i + 5))]) (S := []) F (dat d_Lw_0 26 rfl) c_Sb_feed l_Lw_13 (by decide) ⟨by decide, TX9, 11, rfl, by decide⟩ rfl rfl (by decide) (fun v h => by cases h) ((pr_feed : Pr g y_Sb_feed y_Mo_feed [vI (xv xs (i + 1)), vI (xv xs (i + 2)), vI (xv xs (i + 3)), vI (xv xs (i + 4)), vI (xv xs (i + 5))]) σ I) (fun r σ1 hk => ?_)
  obtain ⟨v, rfl, hM⟩ := hk
  show Lx g p e s m below meth c b cc ss i 221 [vI v] σ1
  refine lx_m F (dat d_Lw_0 27 rfl) ?_
  refine lx_arg (j := 1) F hi (dat d_Lw_0 28 rfl) (dat d_Lw_0 29 rfl) (dat d_Lw_0 30 rfl) (dat d_Lw_0 31 rfl) (dat d_Lw_0 32 rfl) (by decide) ?_
  refine lx_arg (j := 2) F hi (dat d_Lw_0 33 rfl) (dat d_Lw_0 34 rfl) (dat d_Lw_0 35 rfl) (dat d_Lw_0 36 rfl) (dat d_Lw_0 37 rfl) (by decide) ?_
  refine lx_arg (j := 3) F hi (dat d_Lw_0 38 rfl) (dat d_Lw_0 39 rfl) (dat d_Lw_0 40 rfl) (dat d_Lw_0 41 rfl) (dat d_Lw_0 42 rfl) (by decide) ?_
  refine lx_arg (j := 4) F hi (dat d_Lw_0 43 rfl) (dat d_Lw_0 44 rfl) (dat d_Lw_0 45 rfl) (dat d_Lw_0 46 rfl) (dat d_Lw_0 47 rfl) (by decide) ?_
  refine lx_arg (j := 5) F hi (dat d_Lw_0 48 rfl) (dat d_Lw_0 49 rfl) (dat d_Lw_0 50 rfl) (dat d_Lw_0 51 rfl) (dat d_Lw_0 52 rfl) (by decide) ?_
  refine lx_call (k := 174) (As := [vI (xv xs (i + 1)), vI (xv xs (i + 2)), vI (xv xs (i + 3)), vI (xv xs (i + 4)), vI (xv xs (i + 5))]) (S := [vI v]) F (dat d_Lw_0 53 rfl) c_Mo_feed l_Lw_17 (by decide) ⟨by decide, TX10, 66, rfl, by decide⟩ rfl rfl (Nat.le_of_ble_eq_true rfl) (fun u h => by rw [List.mem_singleton.mp h]; rfl) hM (fun r2 σ2 hk2 => ?_)
  obtain ⟨rfl, I2⟩ := hk2
  show Lx g p e s m below meth c b cc ss i 250 [vI v, vI v] σ2
  exact lx_cmp F (dat d_Lw_0 54 rfl) (by decide) (kk σ2 I2)
theorem lc_1 (F : lF g p s m meth c b L xs cc ss) (hi : i + 6 ≤ L) (I : Inv σ) (kk : ∀ σ' : xS, Inv σ' → Lx g p e s m below meth c b cc ss i 1710 [] σ') : Lx g p e s m below meth c b cc ss i 255 [] σ := by
  refine lx_x F (dat d_Lw_1 0 rfl) ?_
  refine lx_arg (j := 1) F hi (dat d_Lw_1 1 rfl) (dat d_Lw_1 2 rfl) (dat d_Lw_1 3 rfl) (dat d_Lw_1 4 rfl) (dat d_Lw_1 5 rfl) (by decide) ?_
  refine lx_call (k := 0) (As := [vI (xv xs (i + 1))]) (S := []) F (dat d_Lw_1 6 rfl) c_Sb_end l_Lw_18 (by decide) ⟨by decide, TX9, 11, rfl, by decide⟩ rfl rfl (by decide) (fun v h => by cases h) ((pr_end : Pr g y_Sb_end y_Mo_end [vI (xv xs (i + 1))]) σ I) (fun r σ1 hk => ?_)
  obtain ⟨v, rfl, hM⟩ := hk
  show Lx g p e s m below meth c b cc ss i 264 [vI v] σ1
  refine lx_m F (dat d_Lw_1 7 rfl) ?_
  refine lx_arg (j := 1) F hi (dat d_Lw_1 8 rfl) (dat d_Lw_1 9 rfl) (dat d_Lw_1 10 rfl) (dat d_Lw_1 11 rfl) (dat d_Lw_1 12 rfl) (by decide) ?_
  refine lx_call (k := 174) (As := [vI (xv xs (i + 1))]) (S := [vI v]) F (dat d_Lw_1 13 rfl) c_Mo_end l_Lw_22 (by decide) ⟨by decide, TX10, 66, rfl, by decide⟩ rfl rfl (Nat.le_of_ble_eq_true rfl) (fun u h => by rw [List.mem_singleton.mp h]; rfl) hM (fun r2 σ2 hk2 => ?_)
  obtain ⟨rfl, I2⟩ := hk2
  show Lx g p e s m below meth c b cc ss i 273 [vI v, vI v] σ2
  exact lx_cmp F (dat d_Lw_1 14 rfl) (by decide) (kk σ2 I2)
theorem lc_2 (F : lF g p s m meth c b L xs cc ss) (hi : i + 6 ≤ L) (I : Inv σ) (kk : ∀ σ' : xS, Inv σ' → Lx g p e s m below meth c b cc ss i 1710 [] σ') : Lx g p e s m below meth c b cc ss i 278 [] σ := by
  refine lx_x F (dat d_Lw_2 0 rfl) ?_
  refine lx_arg (j := 1) F hi (dat d_Lw_2 1 rfl) (dat d_Lw_2 2 rfl) (dat d_Lw_2 3 rfl) (dat d_Lw_2 4 rfl) (dat d_Lw_2 5 rfl) (by decide) ?_
  refine lx_arg (j := 2) F hi (dat d_Lw_2 6 rfl) (dat d_Lw_2 7 rfl) (dat d_Lw_2 8 rfl) (dat d_Lw_2 9 rfl) (dat d_Lw_2 10 rfl) (by decide) ?_
  refine lx_call (k := 0) (As := [vI (xv xs (i + 1)), vI (xv xs (i + 2))]) (S := []) F (dat d_Lw_2 11 rfl) c_Sb_text l_Lw_23 (by decide) ⟨by decide, TX9, 11, rfl, by decide⟩ rfl rfl (by decide) (fun v h => by cases h) ((pr_text : Pr g y_Sb_text y_Mo_text [vI (xv xs (i + 1)), vI (xv xs (i + 2))]) σ I) (fun r σ1 hk => ?_)
  obtain ⟨v, rfl, hM⟩ := hk
  show Lx g p e s m below meth c b cc ss i 292 [vI v] σ1
  refine lx_m F (dat d_Lw_2 12 rfl) ?_
  refine lx_arg (j := 1) F hi (dat d_Lw_2 13 rfl) (dat d_Lw_2 14 rfl) (dat d_Lw_2 15 rfl) (dat d_Lw_2 16 rfl) (dat d_Lw_2 17 rfl) (by decide) ?_
  refine lx_arg (j := 2) F hi (dat d_Lw_2 18 rfl) (dat d_Lw_2 19 rfl) (dat d_Lw_2 20 rfl) (dat d_Lw_2 21 rfl) (dat d_Lw_2 22 rfl) (by decide) ?_
  refine lx_call (k := 174) (As := [vI (xv xs (i + 1)), vI (xv xs (i + 2))]) (S := [vI v]) F (dat d_Lw_2 23 rfl) c_Mo_text l_Lw_27 (by decide) ⟨by decide, TX10, 66, rfl, by decide⟩ rfl rfl (Nat.le_of_ble_eq_true rfl) (fun u h => by rw [List.mem_singleton.mp h]; rfl) hM (fun r2 σ2 hk2 => ?_)
  obtain ⟨rfl, I2⟩ := hk2
  show Lx g p e s m below meth c b cc ss i 306 [vI v, vI v] σ2
  exact lx_cmp F (dat d_Lw_2 24 rfl) (by decide) (kk σ2 I2)
theorem lc_3 (F : lF g p s m meth c b L xs cc ss) (hi : i + 6 ≤ L) (I : Inv σ) (kk : ∀ σ' : xS, Inv σ' → Lx g p e s m below meth c b cc ss i 1710 [] σ') : Lx g p e s m below meth c b cc ss i 311 [] σ := by
  refine lx_x F (dat d_Lw_3 0 rfl) ?_
  refine lx_arg (j := 1) F hi (dat d_Lw_3 1 rfl) (dat d_Lw_3 2 rfl) (dat d_Lw_3 3 rfl) (dat d_Lw_3 4 rfl) (dat d_Lw_3 5 rfl) (by decide) ?_
  refine lx_call (k := 0) (As := [vI (xv xs (i + 1))]) (S := []) F (dat d_Lw_3 6 rfl) c_Sb_fault l_Lw_28 (by decide) ⟨by decide, TX9, 11, rfl, by decide⟩ rfl rfl (by decide) (fun v h => by cases h) ((pr_fault : Pr g y_Sb_fault y_Mo_fault [vI (xv xs (i + 1))]) σ I) (fun r σ1 hk => ?_)
  obtain ⟨v, rfl, hM⟩ := hk
  show Lx g p e s m below meth c b cc ss i 320 [vI v] σ1
  refine lx_m F (dat d_Lw_3 7 rfl) ?_
  refine lx_arg (j := 1) F hi (dat d_Lw_3 8 rfl) (dat d_Lw_3 9 rfl) (dat d_Lw_3 10 rfl) (dat d_Lw_3 11 rfl) (dat d_Lw_3 12 rfl) (by decide) ?_
  refine lx_call (k := 174) (As := [vI (xv xs (i + 1))]) (S := [vI v]) F (dat d_Lw_3 13 rfl) c_Mo_fault l_Lw_31 (by decide) ⟨by decide, TX10, 66, rfl, by decide⟩ rfl rfl (Nat.le_of_ble_eq_true rfl) (fun u h => by rw [List.mem_singleton.mp h]; rfl) hM (fun r2 σ2 hk2 => ?_)
  obtain ⟨rfl, I2⟩ := hk2
  show Lx g p e s m below meth c b cc ss i 329 [vI v, vI v] σ2
  exact lx_cmp F (dat d_Lw_3 14 rfl) (by decide) (kk σ2 I2)
theorem lc_4 (F : lF g p s m meth c b L xs cc ss) (hi : i + 6 ≤ L) (I : Inv σ) (kk : ∀ σ' : xS, Inv σ' → Lx g p e s m below meth c b cc ss i 1710 [] σ') : Lx g p e s m below meth c b cc ss i 334 [] σ := by
  refine lx_x F (dat d_Lw_4 0 rfl) ?_
  refine lx_arg (j := 1) F hi (dat d_Lw_4 1 rfl) (dat d_Lw_4 2 rfl) (dat d_Lw_4 3 rfl) (dat d_Lw_4 4 rfl) (dat d_Lw_4 5 rfl) (by decide) ?_
  refine lx_arg (j := 2) F hi (dat d_Lw_4 6 rfl) (dat d_Lw_4 7 rfl) (dat d_Lw_4 8 rfl) (dat d_Lw_4 9 rfl) (dat d_Lw_4 10 rfl) (by decide) ?_
  refine lx_call (k := 0) (As := [vI (xv xs (i + 1)), vI (xv xs (i + 2))]) (S := []) F (dat d_Lw_4 11 rfl) c_Sb_town l_Lw_32 (by decide) ⟨by decide, TX9, 11, rfl, by decide⟩ rfl rfl (by decide) (fun v h => by cases h) ((pr_town : Pr g y_Sb_town y_Mo_town [vI (xv xs (i + 1)), vI (xv xs (i + 2))]) σ I) (fun r σ1 hk => ?_)
  obtain ⟨v, rfl, hM⟩ := hk
  show Lx g p e s m below meth c b cc ss i 348 [vI v] σ1
  refine lx_m F (dat d_Lw_4 12 rfl) ?_
  refine lx_arg (j := 1) F hi (dat d_Lw_4 13 rfl) (dat d_Lw_4 14 rfl) (dat d_Lw_4 15 rfl) (dat d_Lw_4 16 rfl) (dat d_Lw_4 17 rfl) (by decide) ?_
  refine lx_arg (j := 2) F hi (dat d_Lw_4 18 rfl) (dat d_Lw_4 19 rfl) (dat d_Lw_4 20 rfl) (dat d_Lw_4 21 rfl) (dat d_Lw_4 22 rfl) (by decide) ?_
  refine lx_call (k := 174) (As := [vI (xv xs (i + 1)), vI (xv xs (i + 2))]) (S := [vI v]) F (dat d_Lw_4 23 rfl) c_Mo_town l_Lw_35 (by decide) ⟨by decide, TX10, 66, rfl, by decide⟩ rfl rfl (Nat.le_of_ble_eq_true rfl) (fun u h => by rw [List.mem_singleton.mp h]; rfl) hM (fun r2 σ2 hk2 => ?_)
  obtain ⟨rfl, I2⟩ := hk2
  show Lx g p e s m below meth c b cc ss i 362 [vI v, vI v] σ2
  exact lx_cmp F (dat d_Lw_4 24 rfl) (by decide) (kk σ2 I2)
theorem lc_5 (F : lF g p s m meth c b L xs cc ss) (hi : i + 6 ≤ L) (I : Inv σ) (kk : ∀ σ' : xS, Inv σ' → Lx g p e s m below meth c b cc ss i 1710 [] σ') : Lx g p e s m below meth c b cc ss i 367 [] σ := by
  refine lx_x F (dat d_Lw_5 0 rfl) ?_
  refine lx_arg (j := 1) F hi (dat d_Lw_5 1 rfl) (dat d_Lw_5 2 rfl) (dat d_Lw_5 3 rfl) (dat d_Lw_5 4 rfl) (dat d_Lw_5 5 rfl) (by decide) ?_
  refine lx_arg (j := 2) F hi (dat d_Lw_5 6 rfl) (dat d_Lw_5 7 rfl) (dat d_Lw_5 8 rfl) (dat d_Lw_5 9 rfl) (dat d_Lw_5 10 rfl) (by decide) ?_
  refine lx_arg (j := 3) F hi (dat d_Lw_5 11 rfl) (dat d_Lw_5 12 rfl) (dat d_Lw_5 13 rfl) (dat d_Lw_5 14 rfl) (dat d_Lw_5 15 rfl) (by decide) ?_
  refine lx_call (k := 0) (As := [vI (xv xs (i + 1)), vI (xv xs (i + 2)), vI (xv xs (i + 3))]) (S := []) F (dat d_Lw_5 16 rfl) c_Sb_person l_Lw_36 (by decide) ⟨by decide, TX9, 11, rfl, by decide⟩ rfl rfl (by decide) (fun v h => by cases h) ((pr_person : Pr g y_Sb_person y_Mo_person [vI (xv xs (i + 1)), vI (xv xs (i + 2)), vI (xv xs (i + 3))]) σ I) (fun r σ1 hk => ?_)
  obtain ⟨v, rfl, hM⟩ := hk
  show Lx g p e s m below meth c b cc ss i 386 [vI v] σ1
  refine lx_m F (dat d_Lw_5 17 rfl) ?_
  refine lx_arg (j := 1) F hi (dat d_Lw_5 18 rfl) (dat d_Lw_5 19 rfl) (dat d_Lw_5 20 rfl) (dat d_Lw_5 21 rfl) (dat d_Lw_5 22 rfl) (by decide) ?_
  refine lx_arg (j := 2) F hi (dat d_Lw_5 23 rfl) (dat d_Lw_5 24 rfl) (dat d_Lw_5 25 rfl) (dat d_Lw_5 26 rfl) (dat d_Lw_5 27 rfl) (by decide) ?_
  refine lx_arg (j := 3) F hi (dat d_Lw_5 28 rfl) (dat d_Lw_5 29 rfl) (dat d_Lw_5 30 rfl) (dat d_Lw_5 31 rfl) (dat d_Lw_5 32 rfl) (by decide) ?_
  refine lx_call (k := 174) (As := [vI (xv xs (i + 1)), vI (xv xs (i + 2)), vI (xv xs (i + 3))]) (S := [vI v]) F (dat d_Lw_5 33 rfl) c_Mo_person l_Lw_40 (by decide) ⟨by decide, TX10, 66, rfl, by decide⟩ rfl rfl (Nat.le_of_ble_eq_true rfl) (fun u h => by rw [List.mem_singleton.mp h]; rfl) hM (fun r2 σ2 hk2 => ?_)
  obtain ⟨rfl, I2⟩ := hk2
  show Lx g p e s m below meth c b cc ss i 405 [vI v, vI v] σ2
  exact lx_cmp F (dat d_Lw_5 34 rfl) (by decide) (kk σ2 I2)
theorem lc_6 (F : lF g p s m meth c b L xs cc ss) (hi : i + 6 ≤ L) (I : Inv σ) (kk : ∀ σ' : xS, Inv σ' → Lx g p e s m below meth c b cc ss i 1710 [] σ') : Lx g p e s m below meth c b cc ss i 410 [] σ := by
  refine lx_x F (dat d_Lw_6 0 rfl) ?_
  refine lx_arg (j := 1) F hi (dat d_Lw_6 1 rfl) (dat d_Lw_6 2 rfl) (dat d_Lw_6 3 rfl) (dat d_Lw_6 4 rfl) (dat d_Lw_6 5 rfl) (by decide) ?_
  refine lx_arg (j := 2) F hi (dat d_Lw_6 6 rfl) (dat d_Lw_6 7 rfl) (dat d_Lw_6 8 rfl) (dat d_Lw_6 9 rfl) (dat d_Lw_6 10 rfl) (by decide) ?_
  refine lx_arg (j := 3) F hi (dat d_Lw_6 11 rfl) (dat d_Lw_6 12 rfl) (dat d_Lw_6 13 rfl) (dat d_Lw_6 14 rfl) (dat d_Lw_6 15 rfl) (by decide) ?_
  refine lx_call (k := 0) (As := [vI (xv xs (i + 1)), vI (xv xs (i + 2)), vI (xv xs (i + 3))]) (S := []) F (dat d_Lw_6 16 rfl) c_Sb_note l_Lw_41 (by decide) ⟨by decide, TX9, 11, rfl, by decide⟩ rfl rfl (by decide) (fun v h => by cases h) ((pr_note : Pr g y_Sb_note y_Mo_note [vI (xv xs (i + 1)), vI (xv xs (i + 2)), vI (xv xs (i + 3))]) σ I) (fun r σ1 hk => ?_)
  obtain ⟨v, rfl, hM⟩ := hk
  show Lx g p e s m below meth c b cc ss i 429 [vI v] σ1
  refine lx_m F (dat d_Lw_6 17 rfl) ?_
  refine lx_arg (j := 1) F hi (dat d_Lw_6 18 rfl) (dat d_Lw_6 19 rfl) (dat d_Lw_6 20 rfl) (dat d_Lw_6 21 rfl) (dat d_Lw_6 22 rfl) (by decide) ?_
  refine lx_arg (j := 2) F hi (dat d_Lw_6 23 rfl) (dat d_Lw_6 24 rfl) (dat d_Lw_6 25 rfl) (dat d_Lw_6 26 rfl) (dat d_Lw_6 27 rfl) (by decide) ?_
  refine lx_arg (j := 3) F hi (dat d_Lw_6 28 rfl) (dat d_Lw_6 29 rfl) (dat d_Lw_6 30 rfl) (dat d_Lw_6 31 rfl) (dat d_Lw_6 32 rfl) (by decide) ?_
  refine lx_call (k := 174) (As := [vI (xv xs (i + 1)), vI (xv xs (i + 2)), vI (xv xs (i + 3))]) (S := [vI v]) F (dat d_Lw_6 33 rfl) c_Mo_note l_Lw_44 (by decide) ⟨by decide, TX10, 66, rfl, by decide⟩ rfl rfl (Nat.le_of_ble_eq_true rfl) (fun u h => by rw [List.mem_singleton.mp h]; rfl) hM (fun r2 σ2 hk2 => ?_)
  obtain ⟨rfl, I2⟩ := hk2
  show Lx g p e s m below meth c b cc ss i 448 [vI v, vI v] σ2
  exact lx_cmp F (dat d_Lw_6 34 rfl) (by decide) (kk σ2 I2)
theorem lc_7 (F : lF g p s m meth c b L xs cc ss) (hi : i + 6 ≤ L) (I : Inv σ) (kk : ∀ σ' : xS, Inv σ' → Lx g p e s m below meth c b cc ss i 1710 [] σ') : Lx g p e s m below meth c b cc ss i 453 [] σ := by
  refine lx_x F (dat d_Lw_7 0 rfl) ?_
  refine lx_arg (j := 1) F hi (dat d_Lw_7 1 rfl) (dat d_Lw_7 2 rfl) (dat d_Lw_7 3 rfl) (dat d_Lw_7 4 rfl) (dat d_Lw_7 5 rfl) (by decide) ?_
  refine lx_arg (j := 2) F hi (dat d_Lw_7 6 rfl) (dat d_Lw_7 7 rfl) (dat d_Lw_7 8 rfl) (dat d_Lw_7 9 rfl) (dat d_Lw_7 10 rfl) (by decide) ?_
  refine lx_arg (j := 3) F hi (dat d_Lw_7 11 rfl) (dat d_Lw_7 12 rfl) (dat d_Lw_7 13 rfl) (dat d_Lw_7 14 rfl) (dat d_Lw_7 15 rfl) (by decide) ?_
  refine lx_arg (j := 4) F hi (dat d_Lw_7 16 rfl) (dat d_Lw_7 17 rfl) (dat d_Lw_7 18 rfl) (dat d_Lw_7 19 rfl) (dat d_Lw_7 20 rfl) (by decide) ?_
  refine lx_call (k := 0) (As := [vI (xv xs (i + 1)), vI (xv xs (i + 2)), vI (xv xs (i + 3)), vI (xv xs (i + 4))]) (S := []) F (dat d_Lw_7 21 rfl) c_Sb_at l_Lw_45 (by decide) ⟨by decide, TX9, 11, rfl, by decide⟩ rfl rfl (by decide) (fun v h => by cases h) ((pr_at : Pr g y_Sb_at y_Mo_at [vI (xv xs (i + 1)), vI (xv xs (i + 2)), vI (xv xs (i + 3)), vI (xv xs (i + 4))]) σ I) (fun r σ1 hk => ?_)
  obtain ⟨v, rfl, hM⟩ := hk
  show Lx g p e s m below meth c b cc ss i 477 [vI v] σ1
  refine lx_m F (dat d_Lw_7 22 rfl) ?_
  refine lx_arg (j := 1) F hi (dat d_Lw_7 23 rfl) (dat d_Lw_7 24 rfl) (dat d_Lw_7 25 rfl) (dat d_Lw_7 26 rfl) (dat d_Lw_7 27 rfl) (by decide) ?_
  refine lx_arg (j := 2) F hi (dat d_Lw_7 28 rfl) (dat d_Lw_7 29 rfl) (dat d_Lw_7 30 rfl) (dat d_Lw_7 31 rfl) (dat d_Lw_7 32 rfl) (by decide) ?_
  refine lx_arg (j := 3) F hi (dat d_Lw_7 33 rfl) (dat d_Lw_7 34 rfl) (dat d_Lw_7 35 rfl) (dat d_Lw_7 36 rfl) (dat d_Lw_7 37 rfl) (by decide) ?_
  refine lx_arg (j := 4) F hi (dat d_Lw_7 38 rfl) (dat d_Lw_7 39 rfl) (dat d_Lw_7 40 rfl) (dat d_Lw_7 41 rfl) (dat d_Lw_7 42 rfl) (by decide) ?_
  refine lx_call (k := 174) (As := [vI (xv xs (i + 1)), vI (xv xs (i + 2)), vI (xv xs (i + 3)), vI (xv xs (i + 4))]) (S := [vI v]) F (dat d_Lw_7 43 rfl) c_Mo_at l_Lw_49 (by decide) ⟨by decide, TX10, 66, rfl, by decide⟩ rfl rfl (Nat.le_of_ble_eq_true rfl) (fun u h => by rw [List.mem_singleton.mp h]; rfl) hM (fun r2 σ2 hk2 => ?_)
  obtain ⟨rfl, I2⟩ := hk2
  show Lx g p e s m below meth c b cc ss i 501 [vI v, vI v] σ2
  exact lx_cmp F (dat d_Lw_7 44 rfl) (by decide) (kk σ2 I2)
theorem lc_8 (F : lF g p s m meth c b L xs cc ss) (hi : i + 6 ≤ L) (I : Inv σ) (kk : ∀ σ' : xS, Inv σ' → Lx g p e s m below meth c b cc ss i 1710 [] σ') : Lx g p e s m below meth c b cc ss i 506 [] σ := by
  refine lx_x F (dat d_Lw_8 0 rfl) ?_
  refine lx_arg (j := 1) F hi (dat d_Lw_8 1 rfl) (dat d_Lw_8 2 rfl) (dat d_Lw_8 3 rfl) (dat d_Lw_8 4 rfl) (dat d_Lw_8 5 rfl) (by decide) ?_
  refine lx_arg (j := 2) F hi (dat d_Lw_8 6 rfl) (dat d_Lw_8 7 rfl) (dat d_Lw_8 8 rfl) (dat d_Lw_8 9 rfl) (dat d_Lw_8 10 rfl) (by decide) ?_
  refine lx_arg (j := 3) F hi (dat d_Lw_8 11 rfl) (dat d_Lw_8 12 rfl) (dat d_Lw_8 13 rfl) (dat d_Lw_8 14 rfl) (dat d_Lw_8 15 rfl) (by decide) ?_
  refine lx_call (k := 0) (As := [vI (xv xs (i + 1)), vI (xv xs (i + 2)), vI (xv xs (i + 3))]) (S := []) F (dat d_Lw_8 16 rfl) c_Sb_hour l_Lw_50 (by decide) ⟨by decide, TX9, 11, rfl, by decide⟩ rfl rfl (by decide) (fun v h => by cases h) ((pr_hour : Pr g y_Sb_hour y_Mo_hour [vI (xv xs (i + 1)), vI (xv xs (i + 2)), vI (xv xs (i + 3))]) σ I) (fun r σ1 hk => ?_)
  obtain ⟨v, rfl, hM⟩ := hk
  show Lx g p e s m below meth c b cc ss i 525 [vI v] σ1
  refine lx_m F (dat d_Lw_8 17 rfl) ?_
  refine lx_arg (j := 1) F hi (dat d_Lw_8 18 rfl) (dat d_Lw_8 19 rfl) (dat d_Lw_8 20 rfl) (dat d_Lw_8 21 rfl) (dat d_Lw_8 22 rfl) (by decide) ?_
  refine lx_arg (j := 2) F hi (dat d_Lw_8 23 rfl) (dat d_Lw_8 24 rfl) (dat d_Lw_8 25 rfl) (dat d_Lw_8 26 rfl) (dat d_Lw_8 27 rfl) (by decide) ?_
  refine lx_arg (j := 3) F hi (dat d_Lw_8 28 rfl) (dat d_Lw_8 29 rfl) (dat d_Lw_8 30 rfl) (dat d_Lw_8 31 rfl) (dat d_Lw_8 32 rfl) (by decide) ?_
  refine lx_call (k := 174) (As := [vI (xv xs (i + 1)), vI (xv xs (i + 2)), vI (xv xs (i + 3))]) (S := [vI v]) F (dat d_Lw_8 33 rfl) c_Mo_hour l_Lw_53 (by decide) ⟨by decide, TX10, 66, rfl, by decide⟩ rfl rfl (Nat.le_of_ble_eq_true rfl) (fun u h => by rw [List.mem_singleton.mp h]; rfl) hM (fun r2 σ2 hk2 => ?_)
  obtain ⟨rfl, I2⟩ := hk2
  show Lx g p e s m below meth c b cc ss i 544 [vI v, vI v] σ2
  exact lx_cmp F (dat d_Lw_8 34 rfl) (by decide) (kk σ2 I2)
theorem lc_9 (F : lF g p s m meth c b L xs cc ss) (hi : i + 6 ≤ L) (I : Inv σ) (kk : ∀ σ' : xS, Inv σ' → Lx g p e s m below meth c b cc ss i 1710 [] σ') : Lx g p e s m below meth c b cc ss i 549 [] σ := by
  refine lx_x F (dat d_Lw_9 0 rfl) ?_
  refine lx_arg (j := 1) F hi (dat d_Lw_9 1 rfl) (dat d_Lw_9 2 rfl) (dat d_Lw_9 3 rfl) (dat d_Lw_9 4 rfl) (dat d_Lw_9 5 rfl) (by decide) ?_
  refine lx_arg (j := 2) F hi (dat d_Lw_9 6 rfl) (dat d_Lw_9 7 rfl) (dat d_Lw_9 8 rfl) (dat d_Lw_9 9 rfl) (dat d_Lw_9 10 rfl) (by decide) ?_
  refine lx_call (k := 0) (As := [vI (xv xs (i + 1)), vI (xv xs (i + 2))]) (S := []) F (dat d_Lw_9 11 rfl) c_Sb_run l_Lw_54 (by decide) ⟨by decide, TX9, 11, rfl, by decide⟩ rfl rfl (by decide) (fun v h => by cases h) ((pr_run : Pr g y_Sb_run y_Mo_run [vI (xv xs (i + 1)), vI (xv xs (i + 2))]) σ I) (fun r σ1 hk => ?_)
  obtain ⟨v, rfl, hM⟩ := hk
  show Lx g p e s m below meth c b cc ss i 563 [vI v] σ1
  refine lx_m F (dat d_Lw_9 12 rfl) ?_
  refine lx_arg (j := 1) F hi (dat d_Lw_9 13 rfl) (dat d_Lw_9 14 rfl) (dat d_Lw_9 15 rfl) (dat d_Lw_9 16 rfl) (dat d_Lw_9 17 rfl) (by decide) ?_
  refine lx_arg (j := 2) F hi (dat d_Lw_9 18 rfl) (dat d_Lw_9 19 rfl) (dat d_Lw_9 20 rfl) (dat d_Lw_9 21 rfl) (dat d_Lw_9 22 rfl) (by decide) ?_
  refine lx_call (k := 174) (As := [vI (xv xs (i + 1)), vI (xv xs (i + 2))]) (S := [vI v]) F (dat d_Lw_9 23 rfl) c_Mo_run l_Lw_57 (by decide) ⟨by decide, TX10, 66, rfl, by decide⟩ rfl rfl (Nat.le_of_ble_eq_true rfl) (fun u h => by rw [List.mem_singleton.mp h]; rfl) hM (fun r2 σ2 hk2 => ?_)
  obtain ⟨rfl, I2⟩ := hk2
  show Lx g p e s m below meth c b cc ss i 577 [vI v, vI v] σ2
  exact lx_cmp F (dat d_Lw_9 24 rfl) (by decide) (kk σ2 I2)
theorem lc_10 (F : lF g p s m meth c b L xs cc ss) (hi : i + 6 ≤ L) (I : Inv σ) (kk : ∀ σ' : xS, Inv σ' → Lx g p e s m below meth c b cc ss i 1710 [] σ') : Lx g p e s m below meth c b cc ss i 582 [] σ := by
  refine lx_x F (dat d_Lw_10 0 rfl) ?_
  refine lx_arg (j := 1) F hi (dat d_Lw_10 1 rfl) (dat d_Lw_10 2 rfl) (dat d_Lw_10 3 rfl) (dat d_Lw_10 4 rfl) (dat d_Lw_10 5 rfl) (by decide) ?_
  refine lx_arg (j := 2) F hi (dat d_Lw_10 6 rfl) (dat d_Lw_10 7 rfl) (dat d_Lw_10 8 rfl) (dat d_Lw_10 9 rfl) (dat d_Lw_10 10 rfl) (by decide) ?_
  refine lx_arg (j := 3) F hi (dat d_Lw_10 11 rfl) (dat d_Lw_10 12 rfl) (dat d_Lw_10 13 rfl) (dat d_Lw_10 14 rfl) (dat d_Lw_10 15 rfl) (by decide) ?_
  refine lx_call (k := 0) (As := [vI (xv xs (i + 1)), vI (xv xs (i + 2)), vI (xv xs (i + 3))]) (S := []) F (dat d_Lw_10 16 rfl) c_Sb_fate l_Lw_58 (by decide) ⟨by decide, TX9, 11, rfl, by decide⟩ rfl rfl (by decide) (fun v h => by cases h) ((pr_fate : Pr g y_Sb_fate y_Mo_fate [vI (xv xs (i + 1)), vI (xv xs (i + 2)), vI (xv xs (i + 3))]) σ I) (fun r σ1 hk => ?_)
  obtain ⟨v, rfl, hM⟩ := hk
  show Lx g p e s m below meth c b cc ss i 601 [vI v] σ1
  refine lx_m F (dat d_Lw_10 17 rfl) ?_
  refine lx_arg (j := 1) F hi (dat d_Lw_10 18 rfl) (dat d_Lw_10 19 rfl) (dat d_Lw_10 20 rfl) (dat d_Lw_10 21 rfl) (dat d_Lw_10 22 rfl) (by decide) ?_
  refine lx_arg (j := 2) F hi (dat d_Lw_10 23 rfl) (dat d_Lw_10 24 rfl) (dat d_Lw_10 25 rfl) (dat d_Lw_10 26 rfl) (dat d_Lw_10 27 rfl) (by decide) ?_
  refine lx_arg (j := 3) F hi (dat d_Lw_10 28 rfl) (dat d_Lw_10 29 rfl) (dat d_Lw_10 30 rfl) (dat d_Lw_10 31 rfl) (dat d_Lw_10 32 rfl) (by decide) ?_
  refine lx_call (k := 174) (As := [vI (xv xs (i + 1)), vI (xv xs (i + 2)), vI (xv xs (i + 3))]) (S := [vI v]) F (dat d_Lw_10 33 rfl) c_Mo_fate l_Lw_61 (by decide) ⟨by decide, TX10, 66, rfl, by decide⟩ rfl rfl (Nat.le_of_ble_eq_true rfl) (fun u h => by rw [List.mem_singleton.mp h]; rfl) hM (fun r2 σ2 hk2 => ?_)
  obtain ⟨rfl, I2⟩ := hk2
  show Lx g p e s m below meth c b cc ss i 620 [vI v, vI v] σ2
  exact lx_cmp F (dat d_Lw_10 34 rfl) (by decide) (kk σ2 I2)
theorem lc_11 (F : lF g p s m meth c b L xs cc ss) (hi : i + 6 ≤ L) (I : Inv σ) (kk : ∀ σ' : xS, Inv σ' → Lx g p e s m below meth c b cc ss i 1710 [] σ') : Lx g p e s m below meth c b cc ss i 625 [] σ := by
  refine lx_x F (dat d_Lw_11 0 rfl) ?_
  refine lx_arg (j := 1) F hi (dat d_Lw_11 1 rfl) (dat d_Lw_11 2 rfl) (dat d_Lw_11 3 rfl) (dat d_Lw_11 4 rfl) (dat d_Lw_11 5 rfl) (by decide) ?_
  refine lx_call (k := 0) (As := [vI (xv xs (i + 1))]) (S := []) F (dat d_Lw_11 6 rfl) c_Sb_gloves l_Lw_62 (by decide) ⟨by decide, TX9, 11, rfl, by decide⟩ rfl rfl (by decide) (fun v h => by cases h) ((pr_gloves : Pr g y_Sb_gloves y_Mo_gloves [vI (xv xs (i + 1))]) σ I) (fun r σ1 hk => ?_)
  obtain ⟨v, rfl, hM⟩ := hk
  show Lx g p e s m below meth c b cc ss i 634 [vI v] σ1
  refine lx_m F (dat d_Lw_11 7 rfl) ?_
  refine lx_arg (j := 1) F hi (dat d_Lw_11 8 rfl) (dat d_Lw_11 9 rfl) (dat d_Lw_11 10 rfl) (dat d_Lw_11 11 rfl) (dat d_Lw_11 12 rfl) (by decide) ?_
  refine lx_call (k := 174) (As := [vI (xv xs (i + 1))]) (S := [vI v]) F (dat d_Lw_11 13 rfl) c_Mo_gloves l_Lw_65 (by decide) ⟨by decide, TX10, 66, rfl, by decide⟩ rfl rfl (Nat.le_of_ble_eq_true rfl) (fun u h => by rw [List.mem_singleton.mp h]; rfl) hM (fun r2 σ2 hk2 => ?_)
  obtain ⟨rfl, I2⟩ := hk2
  show Lx g p e s m below meth c b cc ss i 643 [vI v, vI v] σ2
  exact lx_cmp F (dat d_Lw_11 14 rfl) (by decide) (kk σ2 I2)
theorem lc_12 (F : lF g p s m meth c b L xs cc ss) (hi : i + 6 ≤ L) (I : Inv σ) (kk : ∀ σ' : xS, Inv σ' → Lx g p e s m below meth c b cc ss i 1710 [] σ') : Lx g p e s m below meth c b cc ss i 648 [] σ := by
  refine lx_x F (dat d_Lw_12 0 rfl) ?_
  refine lx_arg (j := 1) F hi (dat d_Lw_12 1 rfl) (dat d_Lw_12 2 rfl) (dat d_Lw_12 3 rfl) (dat d_Lw_12 4 rfl) (dat d_Lw_12 5 rfl) (by decide) ?_
  refine lx_arg (j := 2) F hi (dat d_Lw_12 6 rfl) (dat d_Lw_12 7 rfl) (dat d_Lw_12 8 rfl) (dat d_Lw_12 9 rfl) (dat d_Lw_12 10 rfl) (by decide) ?_
  refine lx_call (k := 0) (As := [vI (xv xs (i + 1)), vI (xv xs (i + 2))]) (S := []) F (dat d_Lw_12 11 rfl) c_Sb_order l_Lw_66 (by decide) ⟨by decide, TX9, 11, rfl, by decide⟩ rfl rfl (by decide) (fun v h => by cases h) ((pr_order : Pr g y_Sb_order y_Mo_order [vI (xv xs (i + 1)), vI (xv xs (i + 2))]) σ I) (fun r σ1 hk => ?_)
  obtain ⟨v, rfl, hM⟩ := hk
  show Lx g p e s m below meth c b cc ss i 662 [vI v] σ1
  refine lx_m F (dat d_Lw_12 12 rfl) ?_
  refine lx_arg (j := 1) F hi (dat d_Lw_12 13 rfl) (dat d_Lw_12 14 rfl) (dat d_Lw_12 15 rfl) (dat d_Lw_12 16 rfl) (dat d_Lw_12 17 rfl) (by decide) ?_
  refine lx_arg (j := 2) F hi (dat d_Lw_12 18 rfl) (dat d_Lw_12 19 rfl) (dat d_Lw_12 20 rfl) (dat d_Lw_12 21 rfl) (dat d_Lw_12 22 rfl) (by decide) ?_
  refine lx_call (k := 174) (As := [vI (xv xs (i + 1)), vI (xv xs (i + 2))]) (S := [vI v]) F (dat d_Lw_12 23 rfl) c_Mo_order l_Lw_69 (by decide) ⟨by decide, TX10, 66, rfl, by decide⟩ rfl rfl (Nat.le_of_ble_eq_true rfl) (fun u h => by rw [List.mem_singleton.mp h]; rfl) hM (fun r2 σ2 hk2 => ?_)
  obtain ⟨rfl, I2⟩ := hk2
  show Lx g p e s m below meth c b cc ss i 676 [vI v, vI v] σ2
  exact lx_cmp F (dat d_Lw_12 24 rfl) (by decide) (kk σ2 I2)
theorem lc_13 (F : lF g p s m meth c b L xs cc ss) (hi : i + 6 ≤ L) (I : Inv σ) (kk : ∀ σ' : xS, Inv σ' → Lx g p e s m below meth c b cc ss i 1710 [] σ') : Lx g p e s m below meth c b cc ss i 681 [] σ := by
  refine lx_x F (dat d_Lw_13 0 rfl) ?_
  refine lx_arg (j := 1) F hi (dat d_Lw_13 1 rfl) (dat d_Lw_13 2 rfl) (dat d_Lw_13 3 rfl) (dat d_Lw_13 4 rfl) (dat d_Lw_13 5 rfl) (by decide) ?_
  refine lx_arg (j := 2) F hi (dat d_Lw_13 6 rfl) (dat d_Lw_13 7 rfl) (dat d_Lw_13 8 rfl) (dat d_Lw_13 9 rfl) (dat d_Lw_13 10 rfl) (by decide) ?_
  refine lx_arg (j := 3) F hi (dat d_Lw_13 11 rfl) (dat d_Lw_13 12 rfl) (dat d_Lw_13 13 rfl) (dat d_Lw_13 14 rfl) (dat d_Lw_13 15 rfl) (by decide) ?_
  refine lx_arg (j := 4) F hi (dat d_Lw_13 16 rfl) (dat d_Lw_13 17 rfl) (dat d_Lw_13 18 rfl) (dat d_Lw_13 19 rfl) (dat d_Lw_13 20 rfl) (by decide) ?_
  refine lx_arg (j := 5) F hi (dat d_Lw_13 21 rfl) (dat d_Lw_13 22 rfl) (dat d_Lw_13 23 rfl) (dat d_Lw_13 24 rfl) (dat d_Lw_13 25 rfl) (by decide) ?_
  refine lx_call (k := 0) (As := [vI (xv xs (i + 1)), vI (xv xs (i + 2)), vI (xv xs (i + 3)), vI (xv xs (i + 4)), vI (xv xs (i + 5))]) (S := []) F (dat d_Lw_13 26 rfl) c_Sb_walk l_Lw_70 (by decide) ⟨by decide, TX9, 11, rfl, by decide⟩ rfl rfl (by decide) (fun v h => by cases h) ((pr_walk : Pr g y_Sb_walk y_Mo_walk [vI (xv xs (i + 1)), vI (xv xs (i + 2)), vI (xv xs (i + 3)), vI (xv xs (i + 4)), vI (xv xs (i + 5))]) σ I) (fun r σ1 hk => ?_)
  obtain ⟨v, rfl, hM⟩ := hk
  show Lx g p e s m below meth c b cc ss i 710 [vI v] σ1
  refine lx_m F (dat d_Lw_13 27 rfl) ?_
  refine lx_arg (j := 1) F hi (dat d_Lw_13 28 rfl) (dat d_Lw_13 29 rfl) (dat d_Lw_13 30 rfl) (dat d_Lw_13 31 rfl) (dat d_Lw_13 32 rfl) (by decide) ?_
  refine lx_arg (j := 2) F hi (dat d_Lw_13 33 rfl) (dat d_Lw_13 34 rfl) (dat d_Lw_13 35 rfl) (dat d_Lw_13 36 rfl) (dat d_Lw_13 37 rfl) (by decide) ?_
  refine lx_arg (j := 3) F hi (dat d_Lw_13 38 rfl) (dat d_Lw_13 39 rfl) (dat d_Lw_13 40 rfl) (dat d_Lw_13 41 rfl) (dat d_Lw_13 42 rfl) (by decide) ?_
  refine lx_arg (j := 4) F hi (dat d_Lw_13 43 rfl) (dat d_Lw_13 44 rfl) (dat d_Lw_13 45 rfl) (dat d_Lw_13 46 rfl) (dat d_Lw_13 47 rfl) (by decide) ?_
  refine lx_arg (j := 5) F hi (dat d_Lw_13 48 rfl) (dat d_Lw_13 49 rfl) (dat d_Lw_13 50 rfl) (dat d_Lw_13 51 rfl) (dat d_Lw_13 52 rfl) (by decide) ?_
  refine lx_call (k := 174) (As := [vI (xv xs (i + 1)), vI (xv xs (i + 2)), vI (xv xs (i + 3)), vI (xv xs (i + 4)), vI (xv xs (i + 5))]) (S := [vI v]) F (dat d_Lw_13 53 rfl) c_Mo_walk l_Lw_73 (by decide) ⟨by decide, TX10, 66, rfl, by decide⟩ rfl rfl (Nat.le_of_ble_eq_true rfl) (fun u h => by rw [List.mem_singleton.mp h]; rfl) hM (fun r2 σ2 hk2 => ?_)
  obtain ⟨rfl, I2⟩ := hk2
  show Lx g p e s m below meth c b cc ss i 739 [vI v, vI v] σ2
  exact lx_cmp F (dat d_Lw_13 54 rfl) (by decide) (kk σ2 I2)
theorem lc_14 (F : lF g p s m meth c b L xs cc ss) (hi : i + 6 ≤ L) (I : Inv σ) (kk : ∀ σ' : xS, Inv σ' → Lx g p e s m below meth c b cc ss i 1710 [] σ') : Lx g p e s m below meth c b cc ss i 744 [] σ := by
  refine lx_x F (dat d_Lw_14 0 rfl) ?_
  refine lx_arg (j := 1) F hi (dat d_Lw_14 1 rfl) (dat d_Lw_14 2 rfl) (dat d_Lw_14 3 rfl) (dat d_Lw_14 4 rfl) (dat d_Lw_14 5 rfl) (by decide) ?_
  refine lx_arg (j := 2) F hi (dat d_Lw_14 6 rfl) (dat d_Lw_14 7 rfl) (dat d_Lw_14 8 rfl) (dat d_Lw_14 9 rfl) (dat d_Lw_14 10 rfl) (by decide) ?_
  refine lx_ne0 F (dat d_Lw_14 11 rfl) (by decide) (dat d_Lw_14 12 rfl) (dat d_Lw_14 13 rfl) (by decide) (dat d_Lw_14 14 rfl) ?_
  refine lx_call (k := 0) (As := [vI (xv xs (i + 1)), vI (if xv xs (i + 2) = 0 then 0 else 1)]) (S := []) F (dat d_Lw_14 15 rfl) c_Sb_feeds l_Lw_74 (by decide) ⟨by decide, TX9, 11, rfl, by decide⟩ rfl rfl (by decide) (fun v h => by cases h) ((pr_feeds : Pr g y_Sb_feeds y_Mo_feeds [vI (xv xs (i + 1)), vI (if xv xs (i + 2) = 0 then 0 else 1)]) σ I) (fun r σ1 hk => ?_)
  obtain ⟨v, rfl, hM⟩ := hk
  show Lx g p e s m below meth c b cc ss i 766 [vI v] σ1
  refine lx_m F (dat d_Lw_14 16 rfl) ?_
  refine lx_arg (j := 1) F hi (dat d_Lw_14 17 rfl) (dat d_Lw_14 18 rfl) (dat d_Lw_14 19 rfl) (dat d_Lw_14 20 rfl) (dat d_Lw_14 21 rfl) (by decide) ?_
  refine lx_arg (j := 2) F hi (dat d_Lw_14 22 rfl) (dat d_Lw_14 23 rfl) (dat d_Lw_14 24 rfl) (dat d_Lw_14 25 rfl) (dat d_Lw_14 26 rfl) (by decide) ?_
  refine lx_ne0 F (dat d_Lw_14 27 rfl) (by decide) (dat d_Lw_14 28 rfl) (dat d_Lw_14 29 rfl) (by decide) (dat d_Lw_14 30 rfl) ?_
  refine lx_call (k := 174) (As := [vI (xv xs (i + 1)), vI (if xv xs (i + 2) = 0 then 0 else 1)]) (S := [vI v]) F (dat d_Lw_14 31 rfl) c_Mo_feeds l_Lw_78 (by decide) ⟨by decide, TX10, 66, rfl, by decide⟩ rfl rfl (Nat.le_of_ble_eq_true rfl) (fun u h => by rw [List.mem_singleton.mp h]; rfl) hM (fun r2 σ2 hk2 => ?_)
  obtain ⟨rfl, I2⟩ := hk2
  show Lx g p e s m below meth c b cc ss i 788 [vI v, vI v] σ2
  exact lx_cmp F (dat d_Lw_14 32 rfl) (by decide) (kk σ2 I2)
theorem lc_15 (F : lF g p s m meth c b L xs cc ss) (hi : i + 6 ≤ L) (I : Inv σ) (kk : ∀ σ' : xS, Inv σ' → Lx g p e s m below meth c b cc ss i 1710 [] σ') : Lx g p e s m below meth c b cc ss i 793 [] σ := by
  refine lx_x F (dat d_Lw_15 0 rfl) ?_
  refine lx_arg (j := 1) F hi (dat d_Lw_15 1 rfl) (dat d_Lw_15 2 rfl) (dat d_Lw_15 3 rfl) (dat d_Lw_15 4 rfl) (dat d_Lw_15 5 rfl) (by decide) ?_
  refine lx_call (k := 0) (As := [vI (xv xs (i + 1))]) (S := []) F (dat d_Lw_15 6 rfl) c_Sb_peace l_Lw_79 (by decide) ⟨by decide, TX9, 11, rfl, by decide⟩ rfl rfl (by decide) (fun v h => by cases h) ((pr_peace : Pr g y_Sb_peace y_Mo_peace [vI (xv xs (i + 1))]) σ I) (fun r σ1 hk => ?_)
  obtain ⟨v, rfl, hM⟩ := hk
  show Lx g p e s m below meth c b cc ss i 802 [vI v] σ1
  refine lx_m F (dat d_Lw_15 7 rfl) ?_
  refine lx_arg (j := 1) F hi (dat d_Lw_15 8 rfl) (dat d_Lw_15 9 rfl) (dat d_Lw_15 10 rfl) (dat d_Lw_15 11 rfl) (dat d_Lw_15 12 rfl) (by decide) ?_
  refine lx_call (k := 174) (As := [vI (xv xs (i + 1))]) (S := [vI v]) F (dat d_Lw_15 13 rfl) c_Mo_peace l_Lw_82 (by decide) ⟨by decide, TX10, 66, rfl, by decide⟩ rfl rfl (Nat.le_of_ble_eq_true rfl) (fun u h => by rw [List.mem_singleton.mp h]; rfl) hM (fun r2 σ2 hk2 => ?_)
  obtain ⟨rfl, I2⟩ := hk2
  show Lx g p e s m below meth c b cc ss i 811 [vI v, vI v] σ2
  exact lx_cmp F (dat d_Lw_15 14 rfl) (by decide) (kk σ2 I2)
theorem lc_16 (F : lF g p s m meth c b L xs cc ss) (hi : i + 6 ≤ L) (I : Inv σ) (kk : ∀ σ' : xS, Inv σ' → Lx g p e s m below meth c b cc ss i 1710 [] σ') : Lx g p e s m below meth c b cc ss i 816 [] σ := by
  refine lx_x F (dat d_Lw_16 0 rfl) ?_
  refine lx_arg (j := 1) F hi (dat d_Lw_16 1 rfl) (dat d_Lw_16 2 rfl) (dat d_Lw_16 3 rfl) (dat d_Lw_16 4 rfl) (dat d_Lw_16 5 rfl) (by decide) ?_
  refine lx_arg (j := 2) F hi (dat d_Lw_16 6 rfl) (dat d_Lw_16 7 rfl) (dat d_Lw_16 8 rfl) (dat d_Lw_16 9 rfl) (dat d_Lw_16 10 rfl) (by decide) ?_
  refine lx_arg (j := 3) F hi (dat d_Lw_16 11 rfl) (dat d_Lw_16 12 rfl) (dat d_Lw_16 13 rfl) (dat d_Lw_16 14 rfl) (dat d_Lw_16 15 rfl) (by decide) ?_
  refine lx_arg (j := 4) F hi (dat d_Lw_16 16 rfl) (dat d_Lw_16 17 rfl) (dat d_Lw_16 18 rfl) (dat d_Lw_16 19 rfl) (dat d_Lw_16 20 rfl) (by decide) ?_
  refine lx_arg (j := 5) F hi (dat d_Lw_16 21 rfl) (dat d_Lw_16 22 rfl) (dat d_Lw_16 23 rfl) (dat d_Lw_16 24 rfl) (dat d_Lw_16 25 rfl) (by decide) ?_
  refine lx_call (k := 0) (As := [vI (xv xs (i + 1)), vI (xv xs (i + 2)), vI (xv xs (i + 3)), vI (xv xs (i + 4)), vI (xv xs (i + 5))]) (S := []) F (dat d_Lw_16 26 rfl) c_Sb_loaf l_Lw_83 (by decide) ⟨by decide, TX9, 11, rfl, by decide⟩ rfl rfl (by decide) (fun v h => by cases h) ((pr_loaf : Pr g y_Sb_loaf y_Mo_loaf [vI (xv xs (i + 1)), vI (xv xs (i + 2)), vI (xv xs (i + 3)), vI (xv xs (i + 4)), vI (xv xs (i + 5))]) σ I) (fun r σ1 hk => ?_)
  obtain ⟨v, rfl, hM⟩ := hk
  show Lx g p e s m below meth c b cc ss i 845 [vI v] σ1
  refine lx_m F (dat d_Lw_16 27 rfl) ?_
  refine lx_arg (j := 1) F hi (dat d_Lw_16 28 rfl) (dat d_Lw_16 29 rfl) (dat d_Lw_16 30 rfl) (dat d_Lw_16 31 rfl) (dat d_Lw_16 32 rfl) (by decide) ?_
  refine lx_arg (j := 2) F hi (dat d_Lw_16 33 rfl) (dat d_Lw_16 34 rfl) (dat d_Lw_16 35 rfl) (dat d_Lw_16 36 rfl) (dat d_Lw_16 37 rfl) (by decide) ?_
  refine lx_arg (j := 3) F hi (dat d_Lw_16 38 rfl) (dat d_Lw_16 39 rfl) (dat d_Lw_16 40 rfl) (dat d_Lw_16 41 rfl) (dat d_Lw_16 42 rfl) (by decide) ?_
  refine lx_arg (j := 4) F hi (dat d_Lw_16 43 rfl) (dat d_Lw_16 44 rfl) (dat d_Lw_16 45 rfl) (dat d_Lw_16 46 rfl) (dat d_Lw_16 47 rfl) (by decide) ?_
  refine lx_arg (j := 5) F hi (dat d_Lw_16 48 rfl) (dat d_Lw_16 49 rfl) (dat d_Lw_16 50 rfl) (dat d_Lw_16 51 rfl) (dat d_Lw_16 52 rfl) (by decide) ?_
  refine lx_call (k := 174) (As := [vI (xv xs (i + 1)), vI (xv xs (i + 2)), vI (xv xs (i + 3)), vI (xv xs (i + 4)), vI (xv xs (i + 5))]) (S := [vI v]) F (dat d_Lw_16 53 rfl) c_Mo_loaf l_Lw_86 (by decide) ⟨by decide, TX10, 66, rfl, by decide⟩ rfl rfl (Nat.le_of_ble_eq_true rfl) (fun u h => by rw [List.mem_singleton.mp h]; rfl) hM (fun r2 σ2 hk2 => ?_)
  obtain ⟨rfl, I2⟩ := hk2
  show Lx g p e s m below meth c b cc ss i 874 [vI v, vI v] σ2
  exact lx_cmp F (dat d_Lw_16 54 rfl) (by decide) (kk σ2 I2)
theorem lc_17 (F : lF g p s m meth c b L xs cc ss) (hi : i + 6 ≤ L) (I : Inv σ) (kk : ∀ σ' : xS, Inv σ' → Lx g p e s m below meth c b cc ss i 1710 [] σ') : Lx g p e s m below meth c b cc ss i 879 [] σ := by
  refine lx_x F (dat d_Lw_17 0 rfl) ?_
  refine lx_arg (j := 1) F hi (dat d_Lw_17 1 rfl) (dat d_Lw_17 2 rfl) (dat d_Lw_17 3 rfl) (dat d_Lw_17 4 rfl) (dat d_Lw_17 5 rfl) (by decide) ?_
  refine lx_arg (j := 2) F hi (dat d_Lw_17 6 rfl) (dat d_Lw_17 7 rfl) (dat d_Lw_17 8 rfl) (dat d_Lw_17 9 rfl) (dat d_Lw_17 10 rfl) (by decide) ?_
  refine lx_arg (j := 3) F hi (dat d_Lw_17 11 rfl) (dat d_Lw_17 12 rfl) (dat d_Lw_17 13 rfl) (dat d_Lw_17 14 rfl) (dat d_Lw_17 15 rfl) (by decide) ?_
  refine lx_arg (j := 4) F hi (dat d_Lw_17 16 rfl) (dat d_Lw_17 17 rfl) (dat d_Lw_17 18 rfl) (dat d_Lw_17 19 rfl) (dat d_Lw_17 20 rfl) (by decide) ?_
  refine lx_call (k := 0) (As := [vI (xv xs (i + 1)), vI (xv xs (i + 2)), vI (xv xs (i + 3)), vI (xv xs (i + 4))]) (S := []) F (dat d_Lw_17 21 rfl) c_Sb_wedding l_Lw_87 (by decide) ⟨by decide, TX9, 11, rfl, by decide⟩ rfl rfl (by decide) (fun v h => by cases h) ((pr_wedding : Pr g y_Sb_wedding y_Mo_wedding [vI (xv xs (i + 1)), vI (xv xs (i + 2)), vI (xv xs (i + 3)), vI (xv xs (i + 4))]) σ I) (fun r σ1 hk => ?_)
  obtain ⟨v, rfl, hM⟩ := hk
  show Lx g p e s m below meth c b cc ss i 903 [vI v] σ1
  refine lx_m F (dat d_Lw_17 22 rfl) ?_
  refine lx_arg (j := 1) F hi (dat d_Lw_17 23 rfl) (dat d_Lw_17 24 rfl) (dat d_Lw_17 25 rfl) (dat d_Lw_17 26 rfl) (dat d_Lw_17 27 rfl) (by decide) ?_
  refine lx_arg (j := 2) F hi (dat d_Lw_17 28 rfl) (dat d_Lw_17 29 rfl) (dat d_Lw_17 30 rfl) (dat d_Lw_17 31 rfl) (dat d_Lw_17 32 rfl) (by decide) ?_
  refine lx_arg (j := 3) F hi (dat d_Lw_17 33 rfl) (dat d_Lw_17 34 rfl) (dat d_Lw_17 35 rfl) (dat d_Lw_17 36 rfl) (dat d_Lw_17 37 rfl) (by decide) ?_
  refine lx_arg (j := 4) F hi (dat d_Lw_17 38 rfl) (dat d_Lw_17 39 rfl) (dat d_Lw_17 40 rfl) (dat d_Lw_17 41 rfl) (dat d_Lw_17 42 rfl) (by decide) ?_
  refine lx_call (k := 174) (As := [vI (xv xs (i + 1)), vI (xv xs (i + 2)), vI (xv xs (i + 3)), vI (xv xs (i + 4))]) (S := [vI v]) F (dat d_Lw_17 43 rfl) c_Mo_wedding l_Lw_90 (by decide) ⟨by decide, TX10, 66, rfl, by decide⟩ rfl rfl (Nat.le_of_ble_eq_true rfl) (fun u h => by rw [List.mem_singleton.mp h]; rfl) hM (fun r2 σ2 hk2 => ?_)
  obtain ⟨rfl, I2⟩ := hk2
  show Lx g p e s m below meth c b cc ss i 927 [vI v, vI v] σ2
  exact lx_cmp F (dat d_Lw_17 44 rfl) (by decide) (kk σ2 I2)
theorem lc_18 (F : lF g p s m meth c b L xs cc ss) (hi : i + 6 ≤ L) (I : Inv σ) (kk : ∀ σ' : xS, Inv σ' → Lx g p e s m below meth c b cc ss i 1710 [] σ') : Lx g p e s m below meth c b cc ss i 932 [] σ := by
  refine lx_x F (dat d_Lw_18 0 rfl) ?_
  refine lx_arg (j := 1) F hi (dat d_Lw_18 1 rfl) (dat d_Lw_18 2 rfl) (dat d_Lw_18 3 rfl) (dat d_Lw_18 4 rfl) (dat d_Lw_18 5 rfl) (by decide) ?_
  refine lx_arg (j := 2) F hi (dat d_Lw_18 6 rfl) (dat d_Lw_18 7 rfl) (dat d_Lw_18 8 rfl) (dat d_Lw_18 9 rfl) (dat d_Lw_18 10 rfl) (by decide) ?_
  refine lx_arg (j := 3) F hi (dat d_Lw_18 11 rfl) (dat d_Lw_18 12 rfl) (dat d_Lw_18 13 rfl) (dat d_Lw_18 14 rfl) (dat d_Lw_18 15 rfl) (by decide) ?_
  refine lx_call (k := 0) (As := [vI (xv xs (i + 1)), vI (xv xs (i + 2)), vI (xv xs (i + 3))]) (S := []) F (dat d_Lw_18 16 rfl) c_Sb_stays l_Lw_91 (by decide) ⟨by decide, TX9, 11, rfl, by decide⟩ rfl rfl (by decide) (fun v h => by cases h) ((pr_stays : Pr g y_Sb_stays y_Mo_stays [vI (xv xs (i + 1)), vI (xv xs (i + 2)), vI (xv xs (i + 3))]) σ I) (fun r σ1 hk => ?_)
  obtain ⟨v, rfl, hM⟩ := hk
  show Lx g p e s m below meth c b cc ss i 951 [vI v] σ1
  refine lx_m F (dat d_Lw_18 17 rfl) ?_
  refine lx_arg (j := 1) F hi (dat d_Lw_18 18 rfl) (dat d_Lw_18 19 rfl) (dat d_Lw_18 20 rfl) (dat d_Lw_18 21 rfl) (dat d_Lw_18 22 rfl) (by decide) ?_
  refine lx_arg (j := 2) F hi (dat d_Lw_18 23 rfl) (dat d_Lw_18 24 rfl) (dat d_Lw_18 25 rfl) (dat d_Lw_18 26 rfl) (dat d_Lw_18 27 rfl) (by decide) ?_
  refine lx_arg (j := 3) F hi (dat d_Lw_18 28 rfl) (dat d_Lw_18 29 rfl) (dat d_Lw_18 30 rfl) (dat d_Lw_18 31 rfl) (dat d_Lw_18 32 rfl) (by decide) ?_
  refine lx_call (k := 174) (As := [vI (xv xs (i + 1)), vI (xv xs (i + 2)), vI (xv xs (i + 3))]) (S := [vI v]) F (dat d_Lw_18 33 rfl) c_Mo_stays l_Lw_94 (by decide) ⟨by decide, TX10, 66, rfl, by decide⟩ rfl rfl (Nat.le_of_ble_eq_true rfl) (fun u h => by rw [List.mem_singleton.mp h]; rfl) hM (fun r2 σ2 hk2 => ?_)
  obtain ⟨rfl, I2⟩ := hk2
  show Lx g p e s m below meth c b cc ss i 970 [vI v, vI v] σ2
  exact lx_cmp F (dat d_Lw_18 34 rfl) (by decide) (kk σ2 I2)
theorem lc_19 (F : lF g p s m meth c b L xs cc ss) (hi : i + 6 ≤ L) (I : Inv σ) (kk : ∀ σ' : xS, Inv σ' → Lx g p e s m below meth c b cc ss i 1710 [] σ') : Lx g p e s m below meth c b cc ss i 975 [] σ := by
  refine lx_x F (dat d_Lw_19 0 rfl) ?_
  refine lx_arg (j := 1) F hi (dat d_Lw_19 1 rfl) (dat d_Lw_19 2 rfl) (dat d_Lw_19 3 rfl) (dat d_Lw_19 4 rfl) (dat d_Lw_19 5 rfl) (by decide) ?_
  refine lx_arg (j := 2) F hi (dat d_Lw_19 6 rfl) (dat d_Lw_19 7 rfl) (dat d_Lw_19 8 rfl) (dat d_Lw_19 9 rfl) (dat d_Lw_19 10 rfl) (by decide) ?_
  refine lx_arg (j := 3) F hi (dat d_Lw_19 11 rfl) (dat d_Lw_19 12 rfl) (dat d_Lw_19 13 rfl) (dat d_Lw_19 14 rfl) (dat d_Lw_19 15 rfl) (by decide) ?_
  refine lx_arg (j := 4) F hi (dat d_Lw_19 16 rfl) (dat d_Lw_19 17 rfl) (dat d_Lw_19 18 rfl) (dat d_Lw_19 19 rfl) (dat d_Lw_19 20 rfl) (by decide) ?_
  refine lx_call (k := 0) (As := [vI (xv xs (i + 1)), vI (xv xs (i + 2)), vI (xv xs (i + 3)), vI (xv xs (i + 4))]) (S := []) F (dat d_Lw_19 21 rfl) c_Sb_painted l_Lw_95 (by decide) ⟨by decide, TX9, 11, rfl, by decide⟩ rfl rfl (by decide) (fun v h => by cases h) ((pr_painted : Pr g y_Sb_painted y_Mo_painted [vI (xv xs (i + 1)), vI (xv xs (i + 2)), vI (xv xs (i + 3)), vI (xv xs (i + 4))]) σ I) (fun r σ1 hk => ?_)
  obtain ⟨v, rfl, hM⟩ := hk
  show Lx g p e s m below meth c b cc ss i 999 [vI v] σ1
  refine lx_m F (dat d_Lw_19 22 rfl) ?_
  refine lx_arg (j := 1) F hi (dat d_Lw_19 23 rfl) (dat d_Lw_19 24 rfl) (dat d_Lw_19 25 rfl) (dat d_Lw_19 26 rfl) (dat d_Lw_19 27 rfl) (by decide) ?_
  refine lx_arg (j := 2) F hi (dat d_Lw_19 28 rfl) (dat d_Lw_19 29 rfl) (dat d_Lw_19 30 rfl) (dat d_Lw_19 31 rfl) (dat d_Lw_19 32 rfl) (by decide) ?_
  refine lx_arg (j := 3) F hi (dat d_Lw_19 33 rfl) (dat d_Lw_19 34 rfl) (dat d_Lw_19 35 rfl) (dat d_Lw_19 36 rfl) (dat d_Lw_19 37 rfl) (by decide) ?_
  refine lx_arg (j := 4) F hi (dat d_Lw_19 38 rfl) (dat d_Lw_19 39 rfl) (dat d_Lw_19 40 rfl) (dat d_Lw_19 41 rfl) (dat d_Lw_19 42 rfl) (by decide) ?_
  refine lx_call (k := 174) (As := [vI (xv xs (i + 1)), vI (xv xs (i + 2)), vI (xv xs (i + 3)), vI (xv xs (i + 4))]) (S := [vI v]) F (dat d_Lw_19 43 rfl) c_Mo_painted l_Lw_98 (by decide) ⟨by decide, TX10, 66, rfl, by decide⟩ rfl rfl (Nat.le_of_ble_eq_true rfl) (fun u h => by rw [List.mem_singleton.mp h]; rfl) hM (fun r2 σ2 hk2 => ?_)
  obtain ⟨rfl, I2⟩ := hk2
  show Lx g p e s m below meth c b cc ss i 1023 [vI v, vI v] σ2
  exact lx_cmp F (dat d_Lw_19 44 rfl) (by decide) (kk σ2 I2)
theorem lc_20 (F : lF g p s m meth c b L xs cc ss) (hi : i + 6 ≤ L) (I : Inv σ) (kk : ∀ σ' : xS, Inv σ' → Lx g p e s m below meth c b cc ss i 1710 [] σ') : Lx g p e s m below meth c b cc ss i 1028 [] σ := by
  refine lx_x F (dat d_Lw_20 0 rfl) ?_
  refine lx_arg (j := 1) F hi (dat d_Lw_20 1 rfl) (dat d_Lw_20 2 rfl) (dat d_Lw_20 3 rfl) (dat d_Lw_20 4 rfl) (dat d_Lw_20 5 rfl) (by decide) ?_
  refine lx_arg (j := 2) F hi (dat d_Lw_20 6 rfl) (dat d_Lw_20 7 rfl) (dat d_Lw_20 8 rfl) (dat d_Lw_20 9 rfl) (dat d_Lw_20 10 rfl) (by decide) ?_
  refine lx_arg (j := 3) F hi (dat d_Lw_20 11 rfl) (dat d_Lw_20 12 rfl) (dat d_Lw_20 13 rfl) (dat d_Lw_20 14 rfl) (dat d_Lw_20 15 rfl) (by decide) ?_
  refine lx_arg (j := 4) F hi (dat d_Lw_20 16 rfl) (dat d_Lw_20 17 rfl) (dat d_Lw_20 18 rfl) (dat d_Lw_20 19 rfl) (dat d_Lw_20 20 rfl) (by decide) ?_
  refine lx_call (k := 0) (As := [vI (xv xs (i + 1)), vI (xv xs (i + 2)), vI (xv xs (i + 3)), vI (xv xs (i + 4))]) (S := []) F (dat d_Lw_20 21 rfl) c_Sb_fever l_Lw_99 (by decide) ⟨by decide, TX9, 11, rfl, by decide⟩ rfl rfl (by decide) (fun v h => by cases h) ((pr_fever : Pr g y_Sb_fever y_Mo_fever [vI (xv xs (i + 1)), vI (xv xs (i + 2)), vI (xv xs (i + 3)), vI (xv xs (i + 4))]) σ I) (fun r σ1 hk => ?_)
  obtain ⟨v, rfl, hM⟩ := hk
  show Lx g p e s m below meth c b cc ss i 1052 [vI v] σ1
  refine lx_m F (dat d_Lw_20 22 rfl) ?_
  refine lx_arg (j := 1) F hi (dat d_Lw_20 23 rfl) (dat d_Lw_20 24 rfl) (dat d_Lw_20 25 rfl) (dat d_Lw_20 26 rfl) (dat d_Lw_20 27 rfl) (by decide) ?_
  refine lx_arg (j := 2) F hi (dat d_Lw_20 28 rfl) (dat d_Lw_20 29 rfl) (dat d_Lw_20 30 rfl) (dat d_Lw_20 31 rfl) (dat d_Lw_20 32 rfl) (by decide) ?_
  refine lx_arg (j := 3) F hi (dat d_Lw_20 33 rfl) (dat d_Lw_20 34 rfl) (dat d_Lw_20 35 rfl) (dat d_Lw_20 36 rfl) (dat d_Lw_20 37 rfl) (by decide) ?_
  refine lx_arg (j := 4) F hi (dat d_Lw_20 38 rfl) (dat d_Lw_20 39 rfl) (dat d_Lw_20 40 rfl) (dat d_Lw_20 41 rfl) (dat d_Lw_20 42 rfl) (by decide) ?_
  refine lx_call (k := 174) (As := [vI (xv xs (i + 1)), vI (xv xs (i + 2)), vI (xv xs (i + 3)), vI (xv xs (i + 4))]) (S := [vI v]) F (dat d_Lw_20 43 rfl) c_Mo_fever l_Lw_102 (by decide) ⟨by decide, TX10, 66, rfl, by decide⟩ rfl rfl (Nat.le_of_ble_eq_true rfl) (fun u h => by rw [List.mem_singleton.mp h]; rfl) hM (fun r2 σ2 hk2 => ?_)
  obtain ⟨rfl, I2⟩ := hk2
  show Lx g p e s m below meth c b cc ss i 1076 [vI v, vI v] σ2
  exact lx_cmp F (dat d_Lw_20 44 rfl) (by decide) (kk σ2 I2)
theorem lc_21 (F : lF g p s m meth c b L xs cc ss) (hi : i + 6 ≤ L) (I : Inv σ) (kk : ∀ σ' : xS, Inv σ' → Lx g p e s m below meth c b cc ss i 1710 [] σ') : Lx g p e s m below meth c b cc ss i 1081 [] σ := by
  refine lx_x F (dat d_Lw_21 0 rfl) ?_
  refine lx_arg (j := 1) F hi (dat d_Lw_21 1 rfl) (dat d_Lw_21 2 rfl) (dat d_Lw_21 3 rfl) (dat d_Lw_21 4 rfl) (dat d_Lw_21 5 rfl) (by decide) ?_
  refine lx_arg (j := 2) F hi (dat d_Lw_21 6 rfl) (dat d_Lw_21 7 rfl) (dat d_Lw_21 8 rfl) (dat d_Lw_21 9 rfl) (dat d_Lw_21 10 rfl) (by decide) ?_
  refine lx_arg (j := 3) F hi (dat d_Lw_21 11 rfl) (dat d_Lw_21 12 rfl) (dat d_Lw_21 13 rfl) (dat d_Lw_21 14 rfl) (dat d_Lw_21 15 rfl) (by decide) ?_
  refine lx_arg (j := 4) F hi (dat d_Lw_21 16 rfl) (dat d_Lw_21 17 rfl) (dat d_Lw_21 18 rfl) (dat d_Lw_21 19 rfl) (dat d_Lw_21 20 rfl) (by decide) ?_
  refine lx_call (k := 0) (As := [vI (xv xs (i + 1)), vI (xv xs (i + 2)), vI (xv xs (i + 3)), vI (xv xs (i + 4))]) (S := []) F (dat d_Lw_21 21 rfl) c_Sb_drawn l_Lw_103 (by decide) ⟨by decide, TX9, 11, rfl, by decide⟩ rfl rfl (by decide) (fun v h => by cases h) ((pr_drawn : Pr g y_Sb_drawn y_Mo_drawn [vI (xv xs (i + 1)), vI (xv xs (i + 2)), vI (xv xs (i + 3)), vI (xv xs (i + 4))]) σ I) (fun r σ1 hk => ?_)
  obtain ⟨v, rfl, hM⟩ := hk
  show Lx g p e s m below meth c b cc ss i 1105 [vI v] σ1
  refine lx_m F (dat d_Lw_21 22 rfl) ?_
  refine lx_arg (j := 1) F hi (dat d_Lw_21 23 rfl) (dat d_Lw_21 24 rfl) (dat d_Lw_21 25 rfl) (dat d_Lw_21 26 rfl) (dat d_Lw_21 27 rfl) (by decide) ?_
  refine lx_arg (j := 2) F hi (dat d_Lw_21 28 rfl) (dat d_Lw_21 29 rfl) (dat d_Lw_21 30 rfl) (dat d_Lw_21 31 rfl) (dat d_Lw_21 32 rfl) (by decide) ?_
  refine lx_arg (j := 3) F hi (dat d_Lw_21 33 rfl) (dat d_Lw_21 34 rfl) (dat d_Lw_21 35 rfl) (dat d_Lw_21 36 rfl) (dat d_Lw_21 37 rfl) (by decide) ?_
  refine lx_arg (j := 4) F hi (dat d_Lw_21 38 rfl) (dat d_Lw_21 39 rfl) (dat d_Lw_21 40 rfl) (dat d_Lw_21 41 rfl) (dat d_Lw_21 42 rfl) (by decide) ?_
  refine lx_call (k := 174) (As := [vI (xv xs (i + 1)), vI (xv xs (i + 2)), vI (xv xs (i + 3)), vI (xv xs (i + 4))]) (S := [vI v]) F (dat d_Lw_21 43 rfl) c_Mo_drawn l_Lw_106 (by decide) ⟨by decide, TX10, 66, rfl, by decide⟩ rfl rfl (Nat.le_of_ble_eq_true rfl) (fun u h => by rw [List.mem_singleton.mp h]; rfl) hM (fun r2 σ2 hk2 => ?_)
  obtain ⟨rfl, I2⟩ := hk2
  show Lx g p e s m below meth c b cc ss i 1129 [vI v, vI v] σ2
  exact lx_cmp F (dat d_Lw_21 44 rfl) (by decide) (kk σ2 I2)
theorem lc_22 (F : lF g p s m meth c b L xs cc ss) (hi : i + 6 ≤ L) (I : Inv σ) (kk : ∀ σ' : xS, Inv σ' → Lx g p e s m below meth c b cc ss i 1710 [] σ') : Lx g p e s m below meth c b cc ss i 1134 [] σ := by
  refine lx_x F (dat d_Lw_22 0 rfl) ?_
  refine lx_arg (j := 1) F hi (dat d_Lw_22 1 rfl) (dat d_Lw_22 2 rfl) (dat d_Lw_22 3 rfl) (dat d_Lw_22 4 rfl) (dat d_Lw_22 5 rfl) (by decide) ?_
  refine lx_arg (j := 2) F hi (dat d_Lw_22 6 rfl) (dat d_Lw_22 7 rfl) (dat d_Lw_22 8 rfl) (dat d_Lw_22 9 rfl) (dat d_Lw_22 10 rfl) (by decide) ?_
  refine lx_arg (j := 3) F hi (dat d_Lw_22 11 rfl) (dat d_Lw_22 12 rfl) (dat d_Lw_22 13 rfl) (dat d_Lw_22 14 rfl) (dat d_Lw_22 15 rfl) (by decide) ?_
  refine lx_call (k := 0) (As := [vI (xv xs (i + 1)), vI (xv xs (i + 2)), vI (xv xs (i + 3))]) (S := []) F (dat d_Lw_22 16 rfl) c_Sb_worlds l_Lw_107 (by decide) ⟨by decide, TX9, 11, rfl, by decide⟩ rfl rfl (by decide) (fun v h => by cases h) ((pr_worlds : Pr g y_Sb_worlds y_Mo_worlds [vI (xv xs (i + 1)), vI (xv xs (i + 2)), vI (xv xs (i + 3))]) σ I) (fun r σ1 hk => ?_)
  obtain ⟨v, rfl, hM⟩ := hk
  show Lx g p e s m below meth c b cc ss i 1153 [vI v] σ1
  refine lx_m F (dat d_Lw_22 17 rfl) ?_
  refine lx_arg (j := 1) F hi (dat d_Lw_22 18 rfl) (dat d_Lw_22 19 rfl) (dat d_Lw_22 20 rfl) (dat d_Lw_22 21 rfl) (dat d_Lw_22 22 rfl) (by decide) ?_
  refine lx_arg (j := 2) F hi (dat d_Lw_22 23 rfl) (dat d_Lw_22 24 rfl) (dat d_Lw_22 25 rfl) (dat d_Lw_22 26 rfl) (dat d_Lw_22 27 rfl) (by decide) ?_
  refine lx_arg (j := 3) F hi (dat d_Lw_22 28 rfl) (dat d_Lw_22 29 rfl) (dat d_Lw_22 30 rfl) (dat d_Lw_22 31 rfl) (dat d_Lw_22 32 rfl) (by decide) ?_
  refine lx_call (k := 174) (As := [vI (xv xs (i + 1)), vI (xv xs (i + 2)), vI (xv xs (i + 3))]) (S := [vI v]) F (dat d_Lw_22 33 rfl) c_Mo_worlds l_Lw_110 (by decide) ⟨by decide, TX10, 66, rfl, by decide⟩ rfl rfl (Nat.le_of_ble_eq_true rfl) (fun u h => by rw [List.mem_singleton.mp h]; rfl) hM (fun r2 σ2 hk2 => ?_)
  obtain ⟨rfl, I2⟩ := hk2
  show Lx g p e s m below meth c b cc ss i 1172 [vI v, vI v] σ2
  exact lx_cmp F (dat d_Lw_22 34 rfl) (by decide) (kk σ2 I2)
theorem lc_23 (F : lF g p s m meth c b L xs cc ss) (hi : i + 6 ≤ L) (I : Inv σ) (kk : ∀ σ' : xS, Inv σ' → Lx g p e s m below meth c b cc ss i 1710 [] σ') : Lx g p e s m below meth c b cc ss i 1177 [] σ := by
  refine lx_x F (dat d_Lw_23 0 rfl) ?_
  refine lx_arg (j := 1) F hi (dat d_Lw_23 1 rfl) (dat d_Lw_23 2 rfl) (dat d_Lw_23 3 rfl) (dat d_Lw_23 4 rfl) (dat d_Lw_23 5 rfl) (by decide) ?_
  refine lx_arg (j := 2) F hi (dat d_Lw_23 6 rfl) (dat d_Lw_23 7 rfl) (dat d_Lw_23 8 rfl) (dat d_Lw_23 9 rfl) (dat d_Lw_23 10 rfl) (by decide) ?_
  refine lx_arg (j := 3) F hi (dat d_Lw_23 11 rfl) (dat d_Lw_23 12 rfl) (dat d_Lw_23 13 rfl) (dat d_Lw_23 14 rfl) (dat d_Lw_23 15 rfl) (by decide) ?_
  refine lx_arg (j := 4) F hi (dat d_Lw_23 16 rfl) (dat d_Lw_23 17 rfl) (dat d_Lw_23 18 rfl) (dat d_Lw_23 19 rfl) (dat d_Lw_23 20 rfl) (by decide) ?_
  refine lx_arg (j := 5) F hi (dat d_Lw_23 21 rfl) (dat d_Lw_23 22 rfl) (dat d_Lw_23 23 rfl) (dat d_Lw_23 24 rfl) (dat d_Lw_23 25 rfl) (by decide) ?_
  refine lx_ne0 F (dat d_Lw_23 26 rfl) (by decide) (dat d_Lw_23 27 rfl) (dat d_Lw_23 28 rfl) (by decide) (dat d_Lw_23 29 rfl) ?_
  refine lx_call (k := 0) (As := [vI (xv xs (i + 1)), vI (xv xs (i + 2)), vI (xv xs (i + 3)), vI (xv xs (i + 4)), vI (if xv xs (i + 5) = 0 then 0 else 1)]) (S := []) F (dat d_Lw_23 30 rfl) c_Sb_pocket l_Lw_111 (by decide) ⟨by decide, TX9, 11, rfl, by decide⟩ rfl rfl (by decide) (fun v h => by cases h) ((pr_pocket : Pr g y_Sb_pocket y_Mo_pocket [vI (xv xs (i + 1)), vI (xv xs (i + 2)), vI (xv xs (i + 3)), vI (xv xs (i + 4)), vI (if xv xs (i + 5) = 0 then 0 else 1)]) σ I) (fun r σ1 hk => ?_)
  obtain ⟨v, rfl, hM⟩ := hk
  show Lx g p e s m below meth c b cc ss i 1214 [vI v] σ1
  refine lx_m F (dat d_Lw_23 31 rfl) ?_
  refine lx_arg (j := 1) F hi (dat d_Lw_23 32 rfl) (dat d_Lw_23 33 rfl) (dat d_Lw_23 34 rfl) (dat d_Lw_23 35 rfl) (dat d_Lw_23 36 rfl) (by decide) ?_
  refine lx_arg (j := 2) F hi (dat d_Lw_23 37 rfl) (dat d_Lw_23 38 rfl) (dat d_Lw_23 39 rfl) (dat d_Lw_23 40 rfl) (dat d_Lw_23 41 rfl) (by decide) ?_
  refine lx_arg (j := 3) F hi (dat d_Lw_23 42 rfl) (dat d_Lw_23 43 rfl) (dat d_Lw_23 44 rfl) (dat d_Lw_23 45 rfl) (dat d_Lw_23 46 rfl) (by decide) ?_
  refine lx_arg (j := 4) F hi (dat d_Lw_23 47 rfl) (dat d_Lw_23 48 rfl) (dat d_Lw_23 49 rfl) (dat d_Lw_23 50 rfl) (dat d_Lw_23 51 rfl) (by decide) ?_
  refine lx_arg (j := 5) F hi (dat d_Lw_23 52 rfl) (dat d_Lw_23 53 rfl) (dat d_Lw_23 54 rfl) (dat d_Lw_23 55 rfl) (dat d_Lw_23 56 rfl) (by decide) ?_
  refine lx_ne0 F (dat d_Lw_23 57 rfl) (by decide) (dat d_Lw_23 58 rfl) (dat d_Lw_23 59 rfl) (by decide) (dat d_Lw_23 60 rfl) ?_
  refine lx_call (k := 174) (As := [vI (xv xs (i + 1)), vI (xv xs (i + 2)), vI (xv xs (i + 3)), vI (xv xs (i + 4)), vI (if xv xs (i + 5) = 0 then 0 else 1)]) (S := [vI v]) F (dat d_Lw_23 61 rfl) c_Mo_pocket l_Lw_115 (by decide) ⟨by decide, TX10, 66, rfl, by decide⟩ rfl rfl (Nat.le_of_ble_eq_true rfl) (fun u h => by rw [List.mem_singleton.mp h]; rfl) hM (fun r2 σ2 hk2 => ?_)
  obtain ⟨rfl, I2⟩ := hk2
  show Lx g p e s m below meth c b cc ss i 1251 [vI v, vI v] σ2
  exact lx_cmp F (dat d_Lw_23 62 rfl) (by decide) (kk σ2 I2)
theorem lc_24 (F : lF g p s m meth c b L xs cc ss) (hi : i + 6 ≤ L) (I : Inv σ) (kk : ∀ σ' : xS, Inv σ' → Lx g p e s m below meth c b cc ss i 1710 [] σ') : Lx g p e s m below meth c b cc ss i 1256 [] σ := by
  refine lx_x F (dat d_Lw_24 0 rfl) ?_
  refine lx_arg (j := 1) F hi (dat d_Lw_24 1 rfl) (dat d_Lw_24 2 rfl) (dat d_Lw_24 3 rfl) (dat d_Lw_24 4 rfl) (dat d_Lw_24 5 rfl) (by decide) ?_
  refine lx_arg (j := 2) F hi (dat d_Lw_24 6 rfl) (dat d_Lw_24 7 rfl) (dat d_Lw_24 8 rfl) (dat d_Lw_24 9 rfl) (dat d_Lw_24 10 rfl) (by decide) ?_
  refine lx_arg (j := 3) F hi (dat d_Lw_24 11 rfl) (dat d_Lw_24 12 rfl) (dat d_Lw_24 13 rfl) (dat d_Lw_24 14 rfl) (dat d_Lw_24 15 rfl) (by decide) ?_
  refine lx_call (k := 0) (As := [vI (xv xs (i + 1)), vI (xv xs (i + 2)), vI (xv xs (i + 3))]) (S := []) F (dat d_Lw_24 16 rfl) c_Sb_search l_Lw_116 (by decide) ⟨by decide, TX9, 11, rfl, by decide⟩ rfl rfl (by decide) (fun v h => by cases h) ((pr_search : Pr g y_Sb_search y_Mo_search [vI (xv xs (i + 1)), vI (xv xs (i + 2)), vI (xv xs (i + 3))]) σ I) (fun r σ1 hk => ?_)
  obtain ⟨v, rfl, hM⟩ := hk
  show Lx g p e s m below meth c b cc ss i 1275 [vI v] σ1
  refine lx_m F (dat d_Lw_24 17 rfl) ?_
  refine lx_arg (j := 1) F hi (dat d_Lw_24 18 rfl) (dat d_Lw_24 19 rfl) (dat d_Lw_24 20 rfl) (dat d_Lw_24 21 rfl) (dat d_Lw_24 22 rfl) (by decide) ?_
  refine lx_arg (j := 2) F hi (dat d_Lw_24 23 rfl) (dat d_Lw_24 24 rfl) (dat d_Lw_24 25 rfl) (dat d_Lw_24 26 rfl) (dat d_Lw_24 27 rfl) (by decide) ?_
  refine lx_arg (j := 3) F hi (dat d_Lw_24 28 rfl) (dat d_Lw_24 29 rfl) (dat d_Lw_24 30 rfl) (dat d_Lw_24 31 rfl) (dat d_Lw_24 32 rfl) (by decide) ?_
  refine lx_call (k := 174) (As := [vI (xv xs (i + 1)), vI (xv xs (i + 2)), vI (xv xs (i + 3))]) (S := [vI v]) F (dat d_Lw_24 33 rfl) c_Mo_search l_Lw_119 (by decide) ⟨by decide, TX10, 66, rfl, by decide⟩ rfl rfl (Nat.le_of_ble_eq_true rfl) (fun u h => by rw [List.mem_singleton.mp h]; rfl) hM (fun r2 σ2 hk2 => ?_)
  obtain ⟨rfl, I2⟩ := hk2
  show Lx g p e s m below meth c b cc ss i 1294 [vI v, vI v] σ2
  exact lx_cmp F (dat d_Lw_24 34 rfl) (by decide) (kk σ2 I2)
theorem lc_25 (F : lF g p s m meth c b L xs cc ss) (hi : i + 6 ≤ L) (I : Inv σ) (kk : ∀ σ' : xS, Inv σ' → Lx g p e s m below meth c b cc ss i 1710 [] σ') : Lx g p e s m below meth c b cc ss i 1299 [] σ := by
  refine lx_x F (dat d_Lw_25 0 rfl) ?_
  refine lx_arg (j := 1) F hi (dat d_Lw_25 1 rfl) (dat d_Lw_25 2 rfl) (dat d_Lw_25 3 rfl) (dat d_Lw_25 4 rfl) (dat d_Lw_25 5 rfl) (by decide) ?_
  refine lx_arg (j := 2) F hi (dat d_Lw_25 6 rfl) (dat d_Lw_25 7 rfl) (dat d_Lw_25 8 rfl) (dat d_Lw_25 9 rfl) (dat d_Lw_25 10 rfl) (by decide) ?_
  refine lx_arg (j := 3) F hi (dat d_Lw_25 11 rfl) (dat d_Lw_25 12 rfl) (dat d_Lw_25 13 rfl) (dat d_Lw_25 14 rfl) (dat d_Lw_25 15 rfl) (by decide) ?_
  refine lx_call (k := 0) (As := [vI (xv xs (i + 1)), vI (xv xs (i + 2)), vI (xv xs (i + 3))]) (S := []) F (dat d_Lw_25 16 rfl) c_Sb_news l_Lw_120 (by decide) ⟨by decide, TX9, 11, rfl, by decide⟩ rfl rfl (by decide) (fun v h => by cases h) ((pr_news : Pr g y_Sb_news y_Mo_news [vI (xv xs (i + 1)), vI (xv xs (i + 2)), vI (xv xs (i + 3))]) σ I) (fun r σ1 hk => ?_)
  obtain ⟨v, rfl, hM⟩ := hk
  show Lx g p e s m below meth c b cc ss i 1318 [vI v] σ1
  refine lx_m F (dat d_Lw_25 17 rfl) ?_
  refine lx_arg (j := 1) F hi (dat d_Lw_25 18 rfl) (dat d_Lw_25 19 rfl) (dat d_Lw_25 20 rfl) (dat d_Lw_25 21 rfl) (dat d_Lw_25 22 rfl) (by decide) ?_
  refine lx_arg (j := 2) F hi (dat d_Lw_25 23 rfl) (dat d_Lw_25 24 rfl) (dat d_Lw_25 25 rfl) (dat d_Lw_25 26 rfl) (dat d_Lw_25 27 rfl) (by decide) ?_
  refine lx_arg (j := 3) F hi (dat d_Lw_25 28 rfl) (dat d_Lw_25 29 rfl) (dat d_Lw_25 30 rfl) (dat d_Lw_25 31 rfl) (dat d_Lw_25 32 rfl) (by decide) ?_
  refine lx_call (k := 174) (As := [vI (xv xs (i + 1)), vI (xv xs (i + 2)), vI (xv xs (i + 3))]) (S := [vI v]) F (dat d_Lw_25 33 rfl) c_Mo_news l_Lw_123 (by decide) ⟨by decide, TX10, 66, rfl, by decide⟩ rfl rfl (Nat.le_of_ble_eq_true rfl) (fun u h => by rw [List.mem_singleton.mp h]; rfl) hM (fun r2 σ2 hk2 => ?_)
  obtain ⟨rfl, I2⟩ := hk2
  show Lx g p e s m below meth c b cc ss i 1337 [vI v, vI v] σ2
  exact lx_cmp F (dat d_Lw_25 34 rfl) (by decide) (kk σ2 I2)
theorem lc_26 (F : lF g p s m meth c b L xs cc ss) (hi : i + 6 ≤ L) (I : Inv σ) (kk : ∀ σ' : xS, Inv σ' → Lx g p e s m below meth c b cc ss i 1710 [] σ') : Lx g p e s m below meth c b cc ss i 1342 [] σ := by
  refine lx_x F (dat d_Lw_26 0 rfl) ?_
  refine lx_arg (j := 1) F hi (dat d_Lw_26 1 rfl) (dat d_Lw_26 2 rfl) (dat d_Lw_26 3 rfl) (dat d_Lw_26 4 rfl) (dat d_Lw_26 5 rfl) (by decide) ?_
  refine lx_arg (j := 2) F hi (dat d_Lw_26 6 rfl) (dat d_Lw_26 7 rfl) (dat d_Lw_26 8 rfl) (dat d_Lw_26 9 rfl) (dat d_Lw_26 10 rfl) (by decide) ?_
  refine lx_call (k := 0) (As := [vI (xv xs (i + 1)), vI (xv xs (i + 2))]) (S := []) F (dat d_Lw_26 11 rfl) c_Sb_aid l_Lw_124 (by decide) ⟨by decide, TX9, 11, rfl, by decide⟩ rfl rfl (by decide) (fun v h => by cases h) ((pr_aid : Pr g y_Sb_aid y_Mo_aid [vI (xv xs (i + 1)), vI (xv xs (i + 2))]) σ I) (fun r σ1 hk => ?_)
  obtain ⟨v, rfl, hM⟩ := hk
  show Lx g p e s m below meth c b cc ss i 1356 [vI v] σ1
  refine lx_m F (dat d_Lw_26 12 rfl) ?_
  refine lx_arg (j := 1) F hi (dat d_Lw_26 13 rfl) (dat d_Lw_26 14 rfl) (dat d_Lw_26 15 rfl) (dat d_Lw_26 16 rfl) (dat d_Lw_26 17 rfl) (by decide) ?_
  refine lx_arg (j := 2) F hi (dat d_Lw_26 18 rfl) (dat d_Lw_26 19 rfl) (dat d_Lw_26 20 rfl) (dat d_Lw_26 21 rfl) (dat d_Lw_26 22 rfl) (by decide) ?_
  refine lx_call (k := 174) (As := [vI (xv xs (i + 1)), vI (xv xs (i + 2))]) (S := [vI v]) F (dat d_Lw_26 23 rfl) c_Mo_aid l_Lw_127 (by decide) ⟨by decide, TX10, 66, rfl, by decide⟩ rfl rfl (Nat.le_of_ble_eq_true rfl) (fun u h => by rw [List.mem_singleton.mp h]; rfl) hM (fun r2 σ2 hk2 => ?_)
  obtain ⟨rfl, I2⟩ := hk2
  show Lx g p e s m below meth c b cc ss i 1370 [vI v, vI v] σ2
  exact lx_cmp F (dat d_Lw_26 24 rfl) (by decide) (kk σ2 I2)
theorem lc_27 (F : lF g p s m meth c b L xs cc ss) (hi : i + 6 ≤ L) (I : Inv σ) (kk : ∀ σ' : xS, Inv σ' → Lx g p e s m below meth c b cc ss i 1710 [] σ') : Lx g p e s m below meth c b cc ss i 1375 [] σ := by
  refine lx_x F (dat d_Lw_27 0 rfl) ?_
  refine lx_arg (j := 1) F hi (dat d_Lw_27 1 rfl) (dat d_Lw_27 2 rfl) (dat d_Lw_27 3 rfl) (dat d_Lw_27 4 rfl) (dat d_Lw_27 5 rfl) (by decide) ?_
  refine lx_arg (j := 2) F hi (dat d_Lw_27 6 rfl) (dat d_Lw_27 7 rfl) (dat d_Lw_27 8 rfl) (dat d_Lw_27 9 rfl) (dat d_Lw_27 10 rfl) (by decide) ?_
  refine lx_ne0 F (dat d_Lw_27 11 rfl) (by decide) (dat d_Lw_27 12 rfl) (dat d_Lw_27 13 rfl) (by decide) (dat d_Lw_27 14 rfl) ?_
  refine lx_call (k := 0) (As := [vI (xv xs (i + 1)), vI (if xv xs (i + 2) = 0 then 0 else 1)]) (S := []) F (dat d_Lw_27 15 rfl) c_Sb_hunger l_Lw_128 (by decide) ⟨by decide, TX9, 11, rfl, by decide⟩ rfl rfl (by decide) (fun v h => by cases h) ((pr_hunger : Pr g y_Sb_hunger y_Mo_hunger [vI (xv xs (i + 1)), vI (if xv xs (i + 2) = 0 then 0 else 1)]) σ I) (fun r σ1 hk => ?_)
  obtain ⟨v, rfl, hM⟩ := hk
  show Lx g p e s m below meth c b cc ss i 1397 [vI v] σ1
  refine lx_m F (dat d_Lw_27 16 rfl) ?_
  refine lx_arg (j := 1) F hi (dat d_Lw_27 17 rfl) (dat d_Lw_27 18 rfl) (dat d_Lw_27 19 rfl) (dat d_Lw_27 20 rfl) (dat d_Lw_27 21 rfl) (by decide) ?_
  refine lx_arg (j := 2) F hi (dat d_Lw_27 22 rfl) (dat d_Lw_27 23 rfl) (dat d_Lw_27 24 rfl) (dat d_Lw_27 25 rfl) (dat d_Lw_27 26 rfl) (by decide) ?_
  refine lx_ne0 F (dat d_Lw_27 27 rfl) (by decide) (dat d_Lw_27 28 rfl) (dat d_Lw_27 29 rfl) (by decide) (dat d_Lw_27 30 rfl) ?_
  refine lx_call (k := 174) (As := [vI (xv xs (i + 1)), vI (if xv xs (i + 2) = 0 then 0 else 1)]) (S := [vI v]) F (dat d_Lw_27 31 rfl) c_Mo_hunger l_Lw_131 (by decide) ⟨by decide, TX10, 66, rfl, by decide⟩ rfl rfl (Nat.le_of_ble_eq_true rfl) (fun u h => by rw [List.mem_singleton.mp h]; rfl) hM (fun r2 σ2 hk2 => ?_)
  obtain ⟨rfl, I2⟩ := hk2
  show Lx g p e s m below meth c b cc ss i 1419 [vI v, vI v] σ2
  exact lx_cmp F (dat d_Lw_27 32 rfl) (by decide) (kk σ2 I2)
theorem lc_28 (F : lF g p s m meth c b L xs cc ss) (hi : i + 6 ≤ L) (I : Inv σ) (kk : ∀ σ' : xS, Inv σ' → Lx g p e s m below meth c b cc ss i 1710 [] σ') : Lx g p e s m below meth c b cc ss i 1424 [] σ := by
  refine lx_x F (dat d_Lw_28 0 rfl) ?_
  refine lx_arg (j := 1) F hi (dat d_Lw_28 1 rfl) (dat d_Lw_28 2 rfl) (dat d_Lw_28 3 rfl) (dat d_Lw_28 4 rfl) (dat d_Lw_28 5 rfl) (by decide) ?_
  refine lx_arg (j := 2) F hi (dat d_Lw_28 6 rfl) (dat d_Lw_28 7 rfl) (dat d_Lw_28 8 rfl) (dat d_Lw_28 9 rfl) (dat d_Lw_28 10 rfl) (by decide) ?_
  refine lx_call (k := 0) (As := [vI (xv xs (i + 1)), vI (xv xs (i + 2))]) (S := []) F (dat d_Lw_28 11 rfl) c_Sb_swap l_Lw_132 (by decide) ⟨by decide, TX9, 11, rfl, by decide⟩ rfl rfl (by decide) (fun v h => by cases h) ((pr_swap : Pr g y_Sb_swap y_Mo_swap [vI (xv xs (i + 1)), vI (xv xs (i + 2))]) σ I) (fun r σ1 hk => ?_)
  obtain ⟨v, rfl, hM⟩ := hk
  show Lx g p e s m below meth c b cc ss i 1438 [vI v] σ1
  refine lx_m F (dat d_Lw_28 12 rfl) ?_
  refine lx_arg (j := 1) F hi (dat d_Lw_28 13 rfl) (dat d_Lw_28 14 rfl) (dat d_Lw_28 15 rfl) (dat d_Lw_28 16 rfl) (dat d_Lw_28 17 rfl) (by decide) ?_
  refine lx_arg (j := 2) F hi (dat d_Lw_28 18 rfl) (dat d_Lw_28 19 rfl) (dat d_Lw_28 20 rfl) (dat d_Lw_28 21 rfl) (dat d_Lw_28 22 rfl) (by decide) ?_
  refine lx_call (k := 174) (As := [vI (xv xs (i + 1)), vI (xv xs (i + 2))]) (S := [vI v]) F (dat d_Lw_28 23 rfl) c_Mo_swap l_Lw_135 (by decide) ⟨by decide, TX10, 66, rfl, by decide⟩ rfl rfl (Nat.le_of_ble_eq_true rfl) (fun u h => by rw [List.mem_singleton.mp h]; rfl) hM (fun r2 σ2 hk2 => ?_)
  obtain ⟨rfl, I2⟩ := hk2
  show Lx g p e s m below meth c b cc ss i 1452 [vI v, vI v] σ2
  exact lx_cmp F (dat d_Lw_28 24 rfl) (by decide) (kk σ2 I2)
theorem lc_29 (F : lF g p s m meth c b L xs cc ss) (hi : i + 6 ≤ L) (I : Inv σ) (kk : ∀ σ' : xS, Inv σ' → Lx g p e s m below meth c b cc ss i 1710 [] σ') : Lx g p e s m below meth c b cc ss i 1457 [] σ := by
  refine lx_x F (dat d_Lw_29 0 rfl) ?_
  refine lx_arg (j := 1) F hi (dat d_Lw_29 1 rfl) (dat d_Lw_29 2 rfl) (dat d_Lw_29 3 rfl) (dat d_Lw_29 4 rfl) (dat d_Lw_29 5 rfl) (by decide) ?_
  refine lx_arg (j := 2) F hi (dat d_Lw_29 6 rfl) (dat d_Lw_29 7 rfl) (dat d_Lw_29 8 rfl) (dat d_Lw_29 9 rfl) (dat d_Lw_29 10 rfl) (by decide) ?_
  refine lx_ne0 F (dat d_Lw_29 11 rfl) (by decide) (dat d_Lw_29 12 rfl) (dat d_Lw_29 13 rfl) (by decide) (dat d_Lw_29 14 rfl) ?_
  refine lx_call (k := 0) (As := [vI (xv xs (i + 1)), vI (if xv xs (i + 2) = 0 then 0 else 1)]) (S := []) F (dat d_Lw_29 15 rfl) c_Sb_wed l_Lw_136 (by decide) ⟨by decide, TX9, 11, rfl, by decide⟩ rfl rfl (by decide) (fun v h => by cases h) ((pr_wed : Pr g y_Sb_wed y_Mo_wed [vI (xv xs (i + 1)), vI (if xv xs (i + 2) = 0 then 0 else 1)]) σ I) (fun r σ1 hk => ?_)
  obtain ⟨v, rfl, hM⟩ := hk
  show Lx g p e s m below meth c b cc ss i 1479 [vI v] σ1
  refine lx_m F (dat d_Lw_29 16 rfl) ?_
  refine lx_arg (j := 1) F hi (dat d_Lw_29 17 rfl) (dat d_Lw_29 18 rfl) (dat d_Lw_29 19 rfl) (dat d_Lw_29 20 rfl) (dat d_Lw_29 21 rfl) (by decide) ?_
  refine lx_arg (j := 2) F hi (dat d_Lw_29 22 rfl) (dat d_Lw_29 23 rfl) (dat d_Lw_29 24 rfl) (dat d_Lw_29 25 rfl) (dat d_Lw_29 26 rfl) (by decide) ?_
  refine lx_ne0 F (dat d_Lw_29 27 rfl) (by decide) (dat d_Lw_29 28 rfl) (dat d_Lw_29 29 rfl) (by decide) (dat d_Lw_29 30 rfl) ?_
  refine lx_call (k := 174) (As := [vI (xv xs (i + 1)), vI (if xv xs (i + 2) = 0 then 0 else 1)]) (S := [vI v]) F (dat d_Lw_29 31 rfl) c_Mo_wed l_Lw_139 (by decide) ⟨by decide, TX10, 66, rfl, by decide⟩ rfl rfl (Nat.le_of_ble_eq_true rfl) (fun u h => by rw [List.mem_singleton.mp h]; rfl) hM (fun r2 σ2 hk2 => ?_)
  obtain ⟨rfl, I2⟩ := hk2
  show Lx g p e s m below meth c b cc ss i 1501 [vI v, vI v] σ2
  exact lx_cmp F (dat d_Lw_29 32 rfl) (by decide) (kk σ2 I2)
theorem lc_30 (F : lF g p s m meth c b L xs cc ss) (hi : i + 6 ≤ L) (I : Inv σ) (kk : ∀ σ' : xS, Inv σ' → Lx g p e s m below meth c b cc ss i 1710 [] σ') : Lx g p e s m below meth c b cc ss i 1506 [] σ := by
  refine lx_x F (dat d_Lw_30 0 rfl) ?_
  refine lx_arg (j := 1) F hi (dat d_Lw_30 1 rfl) (dat d_Lw_30 2 rfl) (dat d_Lw_30 3 rfl) (dat d_Lw_30 4 rfl) (dat d_Lw_30 5 rfl) (by decide) ?_
  refine lx_arg (j := 2) F hi (dat d_Lw_30 6 rfl) (dat d_Lw_30 7 rfl) (dat d_Lw_30 8 rfl) (dat d_Lw_30 9 rfl) (dat d_Lw_30 10 rfl) (by decide) ?_
  refine lx_arg (j := 3) F hi (dat d_Lw_30 11 rfl) (dat d_Lw_30 12 rfl) (dat d_Lw_30 13 rfl) (dat d_Lw_30 14 rfl) (dat d_Lw_30 15 rfl) (by decide) ?_
  refine lx_arg (j := 4) F hi (dat d_Lw_30 16 rfl) (dat d_Lw_30 17 rfl) (dat d_Lw_30 18 rfl) (dat d_Lw_30 19 rfl) (dat d_Lw_30 20 rfl) (by decide) ?_
  refine lx_ne0 F (dat d_Lw_30 21 rfl) (by decide) (dat d_Lw_30 22 rfl) (dat d_Lw_30 23 rfl) (by decide) (dat d_Lw_30 24 rfl) ?_
  refine lx_call (k := 0) (As := [vI (xv xs (i + 1)), vI (xv xs (i + 2)), vI (xv xs (i + 3)), vI (if xv xs (i + 4) = 0 then 0 else 1)]) (S := []) F (dat d_Lw_30 25 rfl) c_Sb_tunnel l_Lw_140 (by decide) ⟨by decide, TX9, 11, rfl, by decide⟩ rfl rfl (by decide) (fun v h => by cases h) ((pr_tunnel : Pr g y_Sb_tunnel y_Mo_tunnel [vI (xv xs (i + 1)), vI (xv xs (i + 2)), vI (xv xs (i + 3)), vI (if xv xs (i + 4) = 0 then 0 else 1)]) σ I) (fun r σ1 hk => ?_)
  obtain ⟨v, rfl, hM⟩ := hk
  show Lx g p e s m below meth c b cc ss i 1538 [vI v] σ1
  refine lx_m F (dat d_Lw_30 26 rfl) ?_
  refine lx_arg (j := 1) F hi (dat d_Lw_30 27 rfl) (dat d_Lw_30 28 rfl) (dat d_Lw_30 29 rfl) (dat d_Lw_30 30 rfl) (dat d_Lw_30 31 rfl) (by decide) ?_
  refine lx_arg (j := 2) F hi (dat d_Lw_30 32 rfl) (dat d_Lw_30 33 rfl) (dat d_Lw_30 34 rfl) (dat d_Lw_30 35 rfl) (dat d_Lw_30 36 rfl) (by decide) ?_
  refine lx_arg (j := 3) F hi (dat d_Lw_30 37 rfl) (dat d_Lw_30 38 rfl) (dat d_Lw_30 39 rfl) (dat d_Lw_30 40 rfl) (dat d_Lw_30 41 rfl) (by decide) ?_
  refine lx_arg (j := 4) F hi (dat d_Lw_30 42 rfl) (dat d_Lw_30 43 rfl) (dat d_Lw_30 44 rfl) (dat d_Lw_30 45 rfl) (dat d_Lw_30 46 rfl) (by decide) ?_
  refine lx_ne0 F (dat d_Lw_30 47 rfl) (by decide) (dat d_Lw_30 48 rfl) (dat d_Lw_30 49 rfl) (by decide) (dat d_Lw_30 50 rfl) ?_
  refine lx_call (k := 174) (As := [vI (xv xs (i + 1)), vI (xv xs (i + 2)), vI (xv xs (i + 3)), vI (if xv xs (i + 4) = 0 then 0 else 1)]) (S := [vI v]) F (dat d_Lw_30 51 rfl) c_Mo_tunnel l_Lw_144 (by decide) ⟨by decide, TX10, 66, rfl, by decide⟩ rfl rfl (Nat.le_of_ble_eq_true rfl) (fun u h => by rw [List.mem_singleton.mp h]; rfl) hM (fun r2 σ2 hk2 => ?_)
  obtain ⟨rfl, I2⟩ := hk2
  show Lx g p e s m below meth c b cc ss i 1570 [vI v, vI v] σ2
  exact lx_cmp F (dat d_Lw_30 52 rfl) (by decide) (kk σ2 I2)
theorem lc_31 (F : lF g p s m meth c b L xs cc ss) (hi : i + 6 ≤ L) (I : Inv σ) (kk : ∀ σ' : xS, Inv σ' → Lx g p e s m below meth c b cc ss i 1710 [] σ') : Lx g p e s m below meth c b cc ss i 1575 [] σ := by
  refine lx_x F (dat d_Lw_31 0 rfl) ?_
  refine lx_arg (j := 1) F hi (dat d_Lw_31 1 rfl) (dat d_Lw_31 2 rfl) (dat d_Lw_31 3 rfl) (dat d_Lw_31 4 rfl) (dat d_Lw_31 5 rfl) (by decide) ?_
  refine lx_arg (j := 2) F hi (dat d_Lw_31 6 rfl) (dat d_Lw_31 7 rfl) (dat d_Lw_31 8 rfl) (dat d_Lw_31 9 rfl) (dat d_Lw_31 10 rfl) (by decide) ?_
  refine lx_call (k := 0) (As := [vI (xv xs (i + 1)), vI (xv xs (i + 2))]) (S := []) F (dat d_Lw_31 11 rfl) c_Sb_richest l_Lw_145 (by decide) ⟨by decide, TX9, 11, rfl, by decide⟩ rfl rfl (by decide) (fun v h => by cases h) ((pr_richest : Pr g y_Sb_richest y_Mo_richest [vI (xv xs (i + 1)), vI (xv xs (i + 2))]) σ I) (fun r σ1 hk => ?_)
  obtain ⟨v, rfl, hM⟩ := hk
  show Lx g p e s m below meth c b cc ss i 1589 [vI v] σ1
  refine lx_m F (dat d_Lw_31 12 rfl) ?_
  refine lx_arg (j := 1) F hi (dat d_Lw_31 13 rfl) (dat d_Lw_31 14 rfl) (dat d_Lw_31 15 rfl) (dat d_Lw_31 16 rfl) (dat d_Lw_31 17 rfl) (by decide) ?_
  refine lx_arg (j := 2) F hi (dat d_Lw_31 18 rfl) (dat d_Lw_31 19 rfl) (dat d_Lw_31 20 rfl) (dat d_Lw_31 21 rfl) (dat d_Lw_31 22 rfl) (by decide) ?_
  refine lx_call (k := 174) (As := [vI (xv xs (i + 1)), vI (xv xs (i + 2))]) (S := [vI v]) F (dat d_Lw_31 23 rfl) c_Mo_richest l_Lw_148 (by decide) ⟨by decide, TX10, 66, rfl, by decide⟩ rfl rfl (Nat.le_of_ble_eq_true rfl) (fun u h => by rw [List.mem_singleton.mp h]; rfl) hM (fun r2 σ2 hk2 => ?_)
  obtain ⟨rfl, I2⟩ := hk2
  show Lx g p e s m below meth c b cc ss i 1603 [vI v, vI v] σ2
  exact lx_cmp F (dat d_Lw_31 24 rfl) (by decide) (kk σ2 I2)
theorem lc_32 (F : lF g p s m meth c b L xs cc ss) (hi : i + 6 ≤ L) (I : Inv σ) (kk : ∀ σ' : xS, Inv σ' → Lx g p e s m below meth c b cc ss i 1710 [] σ') : Lx g p e s m below meth c b cc ss i 1608 [] σ := by
  refine lx_x F (dat d_Lw_32 0 rfl) ?_
  refine lx_arg (j := 1) F hi (dat d_Lw_32 1 rfl) (dat d_Lw_32 2 rfl) (dat d_Lw_32 3 rfl) (dat d_Lw_32 4 rfl) (dat d_Lw_32 5 rfl) (by decide) ?_
  refine lx_arg (j := 2) F hi (dat d_Lw_32 6 rfl) (dat d_Lw_32 7 rfl) (dat d_Lw_32 8 rfl) (dat d_Lw_32 9 rfl) (dat d_Lw_32 10 rfl) (by decide) ?_
  refine lx_call (k := 0) (As := [vI (xv xs (i + 1)), vI (xv xs (i + 2))]) (S := []) F (dat d_Lw_32 11 rfl) c_Sb_miser l_Lw_149 (by decide) ⟨by decide, TX9, 11, rfl, by decide⟩ rfl rfl (by decide) (fun v h => by cases h) ((pr_miser : Pr g y_Sb_miser y_Mo_miser [vI (xv xs (i + 1)), vI (xv xs (i + 2))]) σ I) (fun r σ1 hk => ?_)
  obtain ⟨v, rfl, hM⟩ := hk
  show Lx g p e s m below meth c b cc ss i 1622 [vI v] σ1
  refine lx_m F (dat d_Lw_32 12 rfl) ?_
  refine lx_arg (j := 1) F hi (dat d_Lw_32 13 rfl) (dat d_Lw_32 14 rfl) (dat d_Lw_32 15 rfl) (dat d_Lw_32 16 rfl) (dat d_Lw_32 17 rfl) (by decide) ?_
  refine lx_arg (j := 2) F hi (dat d_Lw_32 18 rfl) (dat d_Lw_32 19 rfl) (dat d_Lw_32 20 rfl) (dat d_Lw_32 21 rfl) (dat d_Lw_32 22 rfl) (by decide) ?_
  refine lx_call (k := 174) (As := [vI (xv xs (i + 1)), vI (xv xs (i + 2))]) (S := [vI v]) F (dat d_Lw_32 23 rfl) c_Mo_miser l_Lw_152 (by decide) ⟨by decide, TX10, 66, rfl, by decide⟩ rfl rfl (Nat.le_of_ble_eq_true rfl) (fun u h => by rw [List.mem_singleton.mp h]; rfl) hM (fun r2 σ2 hk2 => ?_)
  obtain ⟨rfl, I2⟩ := hk2
  show Lx g p e s m below meth c b cc ss i 1636 [vI v, vI v] σ2
  exact lx_cmp F (dat d_Lw_32 24 rfl) (by decide) (kk σ2 I2)
theorem lc_33 (F : lF g p s m meth c b L xs cc ss) (hi : i + 6 ≤ L) (I : Inv σ) (kk : ∀ σ' : xS, Inv σ' → Lx g p e s m below meth c b cc ss i 1710 [] σ') : Lx g p e s m below meth c b cc ss i 1641 [] σ := by
  refine lx_x F (dat d_Lw_33 0 rfl) ?_
  refine lx_arg (j := 1) F hi (dat d_Lw_33 1 rfl) (dat d_Lw_33 2 rfl) (dat d_Lw_33 3 rfl) (dat d_Lw_33 4 rfl) (dat d_Lw_33 5 rfl) (by decide) ?_
  refine lx_call (k := 0) (As := [vI (xv xs (i + 1))]) (S := []) F (dat d_Lw_33 6 rfl) c_Sb_count l_Lw_153 (by decide) ⟨by decide, TX9, 11, rfl, by decide⟩ rfl rfl (by decide) (fun v h => by cases h) ((pr_count : Pr g y_Sb_count y_Mo_count [vI (xv xs (i + 1))]) σ I) (fun r σ1 hk => ?_)
  obtain ⟨v, rfl, hM⟩ := hk
  show Lx g p e s m below meth c b cc ss i 1650 [vI v] σ1
  refine lx_m F (dat d_Lw_33 7 rfl) ?_
  refine lx_arg (j := 1) F hi (dat d_Lw_33 8 rfl) (dat d_Lw_33 9 rfl) (dat d_Lw_33 10 rfl) (dat d_Lw_33 11 rfl) (dat d_Lw_33 12 rfl) (by decide) ?_
  refine lx_call (k := 174) (As := [vI (xv xs (i + 1))]) (S := [vI v]) F (dat d_Lw_33 13 rfl) c_Mo_count l_Lw_156 (by decide) ⟨by decide, TX10, 66, rfl, by decide⟩ rfl rfl (Nat.le_of_ble_eq_true rfl) (fun u h => by rw [List.mem_singleton.mp h]; rfl) hM (fun r2 σ2 hk2 => ?_)
  obtain ⟨rfl, I2⟩ := hk2
  show Lx g p e s m below meth c b cc ss i 1659 [vI v, vI v] σ2
  exact lx_cmp F (dat d_Lw_33 14 rfl) (by decide) (kk σ2 I2)
theorem lc_34 (F : lF g p s m meth c b L xs cc ss) (hi : i + 6 ≤ L) (I : Inv σ) (kk : ∀ σ' : xS, Inv σ' → Lx g p e s m below meth c b cc ss i 1710 [] σ') : Lx g p e s m below meth c b cc ss i 1664 [] σ := by
  refine lx_x F (dat d_Lw_34 0 rfl) ?_
  refine lx_arg (j := 1) F hi (dat d_Lw_34 1 rfl) (dat d_Lw_34 2 rfl) (dat d_Lw_34 3 rfl) (dat d_Lw_34 4 rfl) (dat d_Lw_34 5 rfl) (by decide) ?_
  refine lx_call (k := 0) (As := [vI (xv xs (i + 1))]) (S := []) F (dat d_Lw_34 6 rfl) c_Sb_image l_Lw_157 (by decide) ⟨by decide, TX9, 11, rfl, by decide⟩ rfl rfl (by decide) (fun v h => by cases h) ((pr_image : Pr g y_Sb_image y_Mo_image [vI (xv xs (i + 1))]) σ I) (fun r σ1 hk => ?_)
  obtain ⟨v, rfl, hM⟩ := hk
  show Lx g p e s m below meth c b cc ss i 1673 [vI v] σ1
  refine lx_m F (dat d_Lw_34 7 rfl) ?_
  refine lx_arg (j := 1) F hi (dat d_Lw_34 8 rfl) (dat d_Lw_34 9 rfl) (dat d_Lw_34 10 rfl) (dat d_Lw_34 11 rfl) (dat d_Lw_34 12 rfl) (by decide) ?_
  refine lx_call (k := 174) (As := [vI (xv xs (i + 1))]) (S := [vI v]) F (dat d_Lw_34 13 rfl) c_Mo_image l_Lw_161 (by decide) ⟨by decide, TX10, 66, rfl, by decide⟩ rfl rfl (Nat.le_of_ble_eq_true rfl) (fun u h => by rw [List.mem_singleton.mp h]; rfl) hM (fun r2 σ2 hk2 => ?_)
  obtain ⟨rfl, I2⟩ := hk2
  show Lx g p e s m below meth c b cc ss i 1682 [vI v, vI v] σ2
  exact lx_cmp F (dat d_Lw_34 14 rfl) (by decide) (kk σ2 I2)
theorem lc_35 (F : lF g p s m meth c b L xs cc ss) (hi : i + 6 ≤ L) (I : Inv σ) (kk : ∀ σ' : xS, Inv σ' → Lx g p e s m below meth c b cc ss i 1710 [] σ') : Lx g p e s m below meth c b cc ss i 1687 [] σ := by
  refine lx_x F (dat d_Lw_35 0 rfl) ?_
  refine lx_arg (j := 1) F hi (dat d_Lw_35 1 rfl) (dat d_Lw_35 2 rfl) (dat d_Lw_35 3 rfl) (dat d_Lw_35 4 rfl) (dat d_Lw_35 5 rfl) (by decide) ?_
  refine lx_call (k := 0) (As := [vI (xv xs (i + 1))]) (S := []) F (dat d_Lw_35 6 rfl) c_Sb_again l_Lw_162 (by decide) ⟨by decide, TX9, 11, rfl, by decide⟩ rfl rfl (by decide) (fun v h => by cases h) ((pr_again : Pr g y_Sb_again y_Mo_again [vI (xv xs (i + 1))]) σ I) (fun r σ1 hk => ?_)
  obtain ⟨v, rfl, hM⟩ := hk
  show Lx g p e s m below meth c b cc ss i 1696 [vI v] σ1
  refine lx_m F (dat d_Lw_35 7 rfl) ?_
  refine lx_arg (j := 1) F hi (dat d_Lw_35 8 rfl) (dat d_Lw_35 9 rfl) (dat d_Lw_35 10 rfl) (dat d_Lw_35 11 rfl) (dat d_Lw_35 12 rfl) (by decide) ?_
  refine lx_call (k := 174) (As := [vI (xv xs (i + 1))]) (S := [vI v]) F (dat d_Lw_35 13 rfl) c_Mo_again l_Lw_165 (by decide) ⟨by decide, TX10, 66, rfl, by decide⟩ rfl rfl (Nat.le_of_ble_eq_true rfl) (fun u h => by rw [List.mem_singleton.mp h]; rfl) hM (fun r2 σ2 hk2 => ?_)
  obtain ⟨rfl, I2⟩ := hk2
  show Lx g p e s m below meth c b cc ss i 1705 [vI v, vI v] σ2
  exact lx_cmp F (dat d_Lw_35 14 rfl) (by decide) (kk σ2 I2)
def lwT : List Nat := [192, 255, 278, 311, 334, 367, 410, 453, 506, 549, 582, 625, 648, 681, 744, 793, 816, 879, 932, 975, 1028, 1081, 1134, 1177, 1256, 1299, 1342, 1375, 1424, 1457, 1506, 1575, 1608, 1641, 1664, 1687]
theorem lc_all (F : lF g p s m meth c b L xs cc ss) (hi : i + 6 ≤ L) (I : Inv σ) (kk : ∀ σ' : xS, Inv σ' → Lx g p e s m below meth c b cc ss i 1710 [] σ') : ∀ j : Nat, j < 36 → Lx g p e s m below meth c b cc ss i (lwT.getD j 0) [] σ := by
  intro j hj
  match j, hj with
  | 0, _ => exact lc_0 F hi I kk
  | 1, _ => exact lc_1 F hi I kk
  | 2, _ => exact lc_2 F hi I kk
  | 3, _ => exact lc_3 F hi I kk
  | 4, _ => exact lc_4 F hi I kk
  | 5, _ => exact lc_5 F hi I kk
  | 6, _ => exact lc_6 F hi I kk
  | 7, _ => exact lc_7 F hi I kk
  | 8, _ => exact lc_8 F hi I kk
  | 9, _ => exact lc_9 F hi I kk
  | 10, _ => exact lc_10 F hi I kk
  | 11, _ => exact lc_11 F hi I kk
  | 12, _ => exact lc_12 F hi I kk
  | 13, _ => exact lc_13 F hi I kk
  | 14, _ => exact lc_14 F hi I kk
  | 15, _ => exact lc_15 F hi I kk
  | 16, _ => exact lc_16 F hi I kk
  | 17, _ => exact lc_17 F hi I kk
  | 18, _ => exact lc_18 F hi I kk
  | 19, _ => exact lc_19 F hi I kk
  | 20, _ => exact lc_20 F hi I kk
  | 21, _ => exact lc_21 F hi I kk
  | 22, _ => exact lc_22 F hi I kk
  | 23, _ => exact lc_23 F hi I kk
  | 24, _ => exact lc_24 F hi I kk
  | 25, _ => exact lc_25 F hi I kk
  | 26, _ => exact lc_26 F hi I kk
  | 27, _ => exact lc_27 F hi I kk
  | 28, _ => exact lc_28 F hi I kk
  | 29, _ => exact lc_29 F hi I kk
  | 30, _ => exact lc_30 F hi I kk
  | 31, _ => exact lc_31 F hi I kk
  | 32, _ => exact lc_32 F hi I kk
  | 33, _ => exact lc_33 F hi I kk
  | 34, _ => exact lc_34 F hi I kk
  | 35, _ => exact lc_35 F hi I kk
  | j + 36, h => exact absurd h (by omega)
theorem lwT_off : ∀ j : Nat, j < 36 → ∃ off : Int, (#[159, 222, 245, 278, 301, 334, 377, 420, 473, 516, 549, 592, 615, 648, 711, 760, 783, 846, 899, 942, 995, 1048, 1101, 1144, 1223, 1266, 1309, 1342, 1391, 1424, 1473, 1542, 1575, 1608, 1631, 1654] : Array Int)[j]? = some off ∧ (33 : Int) + off = (lwT.getD j 0 : Nat) := by
  intro j hj
  have h : ∀ j : Nat, j < 36 → (#[159, 222, 245, 278, 301, 334, 377, 420, 473, 516, 549, 592, 615, 648, 711, 760, 783, 846, 899, 942, 995, 1048, 1101, 1144, 1223, 1266, 1309, 1342, 1391, 1424, 1473, 1542, 1575, 1608, 1631, 1654] : Array Int)[j]? = some ((lwT.getD j 0 : Nat) - 33 : Int) := by decide +kernel
  exact ⟨_, h j hj, by omega⟩
theorem law_loop : ∀ (n i : Nat) (σ : xS), lF g p s m meth c b L xs cc ss → i ≤ L → L + 1 ≤ i + n → Inv σ → Lx g p e s m below meth c b cc ss i 18 [] σ := by
  intro n
  induction n with
  | zero => intro i σ F h1 h2; omega
  | succ n ih =>
    intro i σ F h1 h2 I hS hσ H locs ls hH hs hl
    have hL := F.2.1
    refine lv_iload_n F.1.1 F.1.2.1 (dat d_Lw_h 10 rfl).1 rfl (lv_at hl 3 rfl) ?_
    refine lv_aload_n F.1.1 F.1.2.1 (dat d_Lw_h 11 rfl).1 rfl (lv_at hl 0 rfl) ?_
    refine va_slen F.1.1 F.1.2.1 F.1.2.2.2.2.2.2.1 F.1.2.2.2.2.2.2.2.1 (lF_b F) hs (dat d_Lw_h 12 rfl).1 ?_
    refine lv_bipush (v := 6) F.1.1 F.1.2.1 (dat d_Lw_h 13 rfl).1 (by decide) ?_
    refine lv_isub F.1.1 F.1.2.1 (dat d_Lw_h 14 rfl).1 ?_
    have e6 : (Int32.ofNat L - 6).toInt = (L : Int) - 6 := by
      have hN := nI_toInt (n := L) (by omega)
      rw [Int32.toInt_sub, show (Int32.ofNat L).toInt = (L : Int) from hN, show (6 : Int32).toInt = 6 from rfl]
      exact Int.bmod_eq_of_le (by omega) (by omega)
    refine lv_icmp_gt (tgt := 1716) F.1.1 F.1.2.1 (dat d_Lw_h 15 rfl).1 (by decide) (fun z => ?_) (fun z => ?_)
    · exact lx_end F hS hσ H locs ls hH hs hl
    · have hi : i + 6 ≤ L := by
        rw [Int32.lt_iff_toInt_lt, e6, nI_toInt (by omega)] at z
        omega
      refine lv_aload_n F.1.1 F.1.2.1 (dat d_Lw_h 16 rfl).1 rfl (lv_at hl 0 rfl) ?_
      refine lv_iload_n F.1.1 F.1.2.1 (dat d_Lw_h 17 rfl).1 rfl (lv_at hl 3 rfl) ?_
      refine va_sld F.1.1 F.1.2.1 F.1.2.2.2.2.2.2.1 F.1.2.2.2.2.2.2.2.1 (lF_b F) hs (vp_in_nI (by omega) (by omega)) (dat d_Lw_h 18 rfl).1 ?_
      refine lv_bipush (v := 63) F.1.1 F.1.2.1 (dat d_Lw_h 19 rfl).1 (by decide) ?_
      refine lv_iand F.1.1 F.1.2.1 (dat d_Lw_h 20 rfl).1 ?_
      refine lv_topi (fun w ew => ?_)
      have next : ∀ σ' : xS, Inv σ' → Lx g p e s m below meth c b cc ss i 1710 [] σ' := fun σ' I' => lx_next F (ih (i + 6) σ' F (by omega) (by omega) I')
      by_cases hw : w.toInt < 0 ∨ 35 < w.toInt
      · exact lv_tableOut (tgt := 1710) F.1.1 F.1.2.1 (dat d_Lw_h 21 rfl).1 hw (by decide) (next σ I hS hσ H locs ls hH hs hl)
      · obtain ⟨off, h3, h4⟩ := lwT_off w.toInt.toNat (by omega)
        refine lv_tableIn (off := off) (tgt := lwT.getD w.toInt.toNat 0) F.1.1 F.1.2.1 (dat d_Lw_h 21 rfl).1 (by omega) (by omega) (by rw [Int.sub_zero]; exact h3) h4 ?_
        exact lc_all F hi I next _ (by omega) hS hσ H locs ls hH hs hl
end LWS
