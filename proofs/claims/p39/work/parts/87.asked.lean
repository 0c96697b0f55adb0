/-! what is told is told to the town: the law's second half, from its end on -/
def skQ (B : Nat) : Array Value → State → Outcome → State → Prop := fun _ st oc t => oc = .returned (some (.int 1)) ∧ va_F (bA B) st t
def AsY (Y : aY) (B : Nat) : Prop := Y.2.2.1 = bA B ∧ Y.2.1 = cRm y_Lw_asked.2.2.2.2 3 540 ∧ Y.2.2.2 = MQ Y.1.2.2.2.2.2.1 (skQ B) Y.1.2.2.2.2.1 Y.1.2.2.1 3 540 (bA B) ∧ B ≤ Y.1.2.2.1.heap.size
theorem tT1 : ∀ o ∈ [176], 176 ≤ o ∧ o < 300 ∧ kd o = 20 := by decide +kernel
theorem tT2 : ∀ o ∈ [176, 177], 176 ≤ o ∧ o < 300 ∧ kd o = 20 := by decide +kernel
theorem tT3 : ∀ o ∈ [176, 177, 178], 176 ≤ o ∧ o < 300 ∧ kd o = 20 := by decide +kernel
theorem aI_175 (T : List Nat) : aI (List.range NB ++ T) 175 180 := ⟨List.mem_append_left _ (List.mem_range.mpr (by decide)), by decide +kernel, by decide +kernel, by decide⟩
theorem aI_T {T : List Nat} {k : Nat} (h : k ∈ T) (hk : kd k = 20 ∧ ln k = 180) : aI (List.range NB ++ T) k 180 := ⟨List.mem_append_right _ h, hk.1, hk.2, by decide⟩
section ASK
variable {g : xG} {Y : aY} {B : Nat} {A t r : Int → Int} {im : Nat → Int → Int} {σ : xS} {a gl pe p ad pl k11 hu or_ : Int}
/-- worlds, pockets, where to search -/
theorem as_8 (hY : AsY Y B) (hG : aG g Y) (hS : LwS σ A t r im) (hT : TRg t) (hp : 0 ≤ p ∧ p < t 6) : Ax g y_Lw_asked Y (List.range NB ++ [176, 177, 178]) 3 540 559 [vR 0, vR 174, vR 175, vI a, vI (t 6), vI gl, vI pe, vI p, vI ad, vR 178, vI pl, vI hu, vI or_, vU, vU] [] σ := by
  have hTo := hS.ok
  have e3 : r 3 = t 3 := hS.2.2.1.2.1.2.2.2.1
  have e6 : r 6 = t 6 := hS.2.2.1.2.2.1.1
  have t3 := hT.1.2.2.2.1
  have hI := aI_175 [176, 177, 178]
  have hb := hS.2.2.2.2
  have b15 := ia15 (ishr a 8)
  have m3 := em_bd (x := iand (ishr a 8) 15) (P := t 3) (by omega)
  have hp6 : 0 ≤ p ∧ p < r 6 := by omega
  have hh6 : 0 ≤ iand (ishr a 8) 15 % t 3 ∧ iand (ishr a 8) 15 % t 3 < r 3 := by omega
  have hwo : ∀ o ∈ [176, 177, 178], 173 < o := by decide
  refine a_aload_n (dat d_Lw_asked 324 rfl) rfl rfl ?_
  refine a_iconst (dat d_Lw_asked 325 rfl) (by decide) ?_
  refine a_iconst (dat d_Lw_asked 326 rfl) (by decide) ?_
  refine a_iconst (dat d_Lw_asked 327 rfl) (by decide) ?_
  refine a_inv hG (As := [vI 0, vI 0, vI 0]) (dat d_Lw_asked 328 rfl) rfl c_Sb_worlds l_Lw_180 (by decide) rv_0 rfl rfl (Nat.le_of_ble_eq_true rfl) ?_
  refine sp_Sb_worlds hS.1.1 (fun v1 σ1 h1 S1 _ F1 => ⟨fun o ho => F1 o (hwo o ho), ?_⟩)
  have h1 := an_w0 hTo hb (hS.bt0 h1)
  have hS := hS.wo S1 F1
  show Ax g y_Lw_asked Y (List.range NB ++ [176, 177, 178]) 3 540 566 [vR 0, vR 174, vR 175, vI a, vI (t 6), vI gl, vI pe, vI p, vI ad, vR 178, vI pl, vI hu, vI or_, vU, vU] [vI v1] σ1
  refine a_istore (L' := [vR 0, vR 174, vR 175, vI a, vI (t 6), vI gl, vI pe, vI p, vI ad, vR 178, vI pl, vI hu, vI or_, vI v1, vU]) (dat d_Lw_asked 329 rfl) (by decide) rfl rfl ?_
  refine a_iload_n (dat d_Lw_asked 330 rfl) rfl rfl ?_
  refine a_bipush (dat d_Lw_asked 331 rfl) (by decide) (by decide) ?_
  refine a_ishr (v := ishr a 8) (dat d_Lw_asked 332 rfl) rfl ?_
  refine a_bipush (dat d_Lw_asked 333 rfl) (by decide) (by decide) ?_
  refine a_iand (v := iand (ishr a 8) 15) (dat d_Lw_asked 334 rfl) rfl ?_
  refine a_aload_n (dat d_Lw_asked 335 rfl) rfl rfl ?_
  refine a_iconst (dat d_Lw_asked 336 rfl) (by decide) ?_
  refine a_iald (n := 180) (v := t 3) (dat d_Lw_asked 337 rfl) hI (by omega) (by omega) (by exact hS.2.1 3 (by decide) (by decide)) ?_
  refine a_irem (v := (iand (ishr a 8) 15) % (t 3)) (dat d_Lw_asked 338 rfl) (by omega) rfl ?_
  refine a_istore (L' := [vR 0, vR 174, vR 175, vI a, vI (t 6), vI gl, vI pe, vI p, vI ad, vR 178, vI pl, vI hu, vI or_, vI v1, vI ((iand (ishr a 8) 15) % (t 3))]) (dat d_Lw_asked 339 rfl) (by decide) rfl rfl ?_
  refine a_iload (dat d_Lw_asked 340 rfl) rfl ?_
  refine a_if_lt (tgt := 678) (dat d_Lw_asked 341 rfl) (by decide) (fun c_583 => ?_) (fun c_583 => ?_)
  · refine a_iconst (dat d_Lw_asked 398 rfl) (by decide) ?_
    refine a_goto (tgt := 683) (dat d_Lw_asked 399 rfl) (by decide) ?_
    exact a_zret (Qc := skQ B) (free := bA B) (dat d_Lw_asked 401 rfl) rfl (Or.inr rfl) hY.2.2.1 (fun q hq => by rw [hY.1] at hq; exact hq) (fun t2 _ hF => ⟨rfl, by rw [hY.1] at hF; exact hF⟩)
  · refine a_iload (dat d_Lw_asked 342 rfl) rfl ?_
    refine a_aload_n (dat d_Lw_asked 343 rfl) rfl rfl ?_
    refine a_iconst (dat d_Lw_asked 344 rfl) (by decide) ?_
    refine a_iconst (dat d_Lw_asked 345 rfl) (by decide) ?_
    refine a_iconst (dat d_Lw_asked 346 rfl) (by decide) ?_
    refine a_inv hG (As := [vI 0, vI 0, vI 1]) (dat d_Lw_asked 347 rfl) rfl c_Sb_worlds l_Lw_180 (by decide) rv_0 rfl rfl (Nat.le_of_ble_eq_true rfl) ?_
    refine sp_Sb_worlds hS.1.1 (fun v2 σ2 h2 S2 _ F2 => ⟨fun o ho => F2 o (hwo o ho), ?_⟩)
    have hr1 : runT r ≤ 1024 := by omega
    have h2 := an_w1 hr1 (hS.bt0 h2)
    have hS := hS.wo S2 F2
    show Ax g y_Lw_asked Y (List.range NB ++ [176, 177, 178]) 3 540 595 [vR 0, vR 174, vR 175, vI a, vI (t 6), vI gl, vI pe, vI p, vI ad, vR 178, vI pl, vI hu, vI or_, vI v1, vI ((iand (ishr a 8) 15) % (t 3))] [vI v2, vI v1] σ2
    refine a_icmp_ne (tgt := 682) (dat d_Lw_asked 348 rfl) (by decide) (fun c_595 => (by omega)) (fun c_595 => ?_)
    refine a_aload_n (dat d_Lw_asked 349 rfl) rfl rfl ?_
    refine a_iconst (dat d_Lw_asked 350 rfl) (by decide) ?_
    refine a_iconst (dat d_Lw_asked 351 rfl) (by decide) ?_
    refine a_iload (dat d_Lw_asked 352 rfl) rfl ?_
    refine a_iload (dat d_Lw_asked 353 rfl) rfl ?_
    refine a_iconst (dat d_Lw_asked 354 rfl) (by decide) ?_
    refine a_inv hG (As := [vI 0, vI 0, vI p, vI ((iand (ishr a 8) 15) % (t 3)), vI 0]) (dat d_Lw_asked 355 rfl) rfl c_Sb_pocket l_Lw_183 (by decide) rv_0 rfl rfl (Nat.le_of_ble_eq_true rfl) ?_
    refine sp_Sb_pocket hS.1.1 (fun v3 σ3 h3 S3 _ F3 => ⟨fun o ho => F3 o (hwo o ho), ?_⟩)
    have h3 := an_p0 hTo hb hr1 hh6 hp6 (hS.bt0 h3)
    have hS := hS.wo S3 F3
    show Ax g y_Lw_asked Y (List.range NB ++ [176, 177, 178]) 3 540 609 [vR 0, vR 174, vR 175, vI a, vI (t 6), vI gl, vI pe, vI p, vI ad, vR 178, vI pl, vI hu, vI or_, vI v1, vI ((iand (ishr a 8) 15) % (t 3))] [vI v3] σ3
    refine a_aload_n (dat d_Lw_asked 356 rfl) rfl rfl ?_
    refine a_iconst (dat d_Lw_asked 357 rfl) (by decide) ?_
    refine a_iload (dat d_Lw_asked 358 rfl) rfl ?_
    refine a_iload (dat d_Lw_asked 359 rfl) rfl ?_
    refine a_iconst (dat d_Lw_asked 360 rfl) (by decide) ?_
    refine a_inv hG (As := [vI 0, vI ((iand (ishr a 8) 15) % (t 3)), vI p, vI 1]) (dat d_Lw_asked 361 rfl) rfl c_Sb_at l_Lw_118 (by decide) rv_0 rfl rfl (Nat.le_of_ble_eq_true rfl) ?_
    refine sp_Sb_at hS.1.1 (fun v4 σ4 h4 F4 => ⟨fun o ho => F4 o (Or.inr (by have := hwo o ho; omega)), ?_⟩)
    have h4 := an_at1 hh6 hp6 (hS.at0 h4)
    have hS := hS.tr F4
    show Ax g y_Lw_asked Y (List.range NB ++ [176, 177, 178]) 3 540 619 [vR 0, vR 174, vR 175, vI a, vI (t 6), vI gl, vI pe, vI p, vI ad, vR 178, vI pl, vI hu, vI or_, vI v1, vI ((iand (ishr a 8) 15) % (t 3))] [vI v4, vI v3] σ4
    refine a_icmp_gt (tgt := 682) (dat d_Lw_asked 362 rfl) (by decide) (fun c_619 => (by omega)) (fun c_619 => ?_)
    refine a_aload_n (dat d_Lw_asked 363 rfl) rfl rfl ?_
    refine a_iconst (dat d_Lw_asked 364 rfl) (by decide) ?_
    refine a_iconst (dat d_Lw_asked 365 rfl) (by decide) ?_
    refine a_iload (dat d_Lw_asked 366 rfl) rfl ?_
    refine a_iload (dat d_Lw_asked 367 rfl) rfl ?_
    refine a_iconst (dat d_Lw_asked 368 rfl) (by decide) ?_
    refine a_inv hG (As := [vI 0, vI 0, vI p, vI ((iand (ishr a 8) 15) % (t 3)), vI 1]) (dat d_Lw_asked 369 rfl) rfl c_Sb_pocket l_Lw_183 (by decide) rv_0 rfl rfl (Nat.le_of_ble_eq_true rfl) ?_
    refine sp_Sb_pocket hS.1.1 (fun v5 σ5 h5 S5 _ F5 => ⟨fun o ho => F5 o (hwo o ho), ?_⟩)
    have h5 := an_p1 hTo hb hr1 hh6 hp6 (hS.bt0 h5)
    have hS := hS.wo S5 F5
    show Ax g y_Lw_asked Y (List.range NB ++ [176, 177, 178]) 3 540 633 [vR 0, vR 174, vR 175, vI a, vI (t 6), vI gl, vI pe, vI p, vI ad, vR 178, vI pl, vI hu, vI or_, vI v1, vI ((iand (ishr a 8) 15) % (t 3))] [vI v5] σ5
    refine a_aload_n (dat d_Lw_asked 370 rfl) rfl rfl ?_
    refine a_iconst (dat d_Lw_asked 371 rfl) (by decide) ?_
    refine a_iload (dat d_Lw_asked 372 rfl) rfl ?_
    refine a_iload (dat d_Lw_asked 373 rfl) rfl ?_
    refine a_iconst (dat d_Lw_asked 374 rfl) (by decide) ?_
    refine a_inv hG (As := [vI 0, vI ((iand (ishr a 8) 15) % (t 3)), vI p, vI 1]) (dat d_Lw_asked 375 rfl) rfl c_Sb_at l_Lw_118 (by decide) rv_0 rfl rfl (Nat.le_of_ble_eq_true rfl) ?_
    refine sp_Sb_at hS.1.1 (fun v6 σ6 h6 F6 => ⟨fun o ho => F6 o (Or.inr (by have := hwo o ho; omega)), ?_⟩)
    have h6 := an_at1 hh6 hp6 (hS.at0 h6)
    have hS := hS.tr F6
    show Ax g y_Lw_asked Y (List.range NB ++ [176, 177, 178]) 3 540 643 [vR 0, vR 174, vR 175, vI a, vI (t 6), vI gl, vI pe, vI p, vI ad, vR 178, vI pl, vI hu, vI or_, vI v1, vI ((iand (ishr a 8) 15) % (t 3))] [vI v6, vI v5] σ6
    refine a_icmp_lt (tgt := 682) (dat d_Lw_asked 376 rfl) (by decide) (fun c_643 => (by omega)) (fun c_643 => ?_)
    refine a_aload_n (dat d_Lw_asked 377 rfl) rfl rfl ?_
    refine a_iconst (dat d_Lw_asked 378 rfl) (by decide) ?_
    refine a_iconst (dat d_Lw_asked 379 rfl) (by decide) ?_
    refine a_iconst (dat d_Lw_asked 380 rfl) (by decide) ?_
    refine a_inv hG (As := [vI 0, vI 0, vI 2]) (dat d_Lw_asked 381 rfl) rfl c_Sb_search l_Lw_187 (by decide) rv_0 rfl rfl (Nat.le_of_ble_eq_true rfl) ?_
    refine sp_Sb_search hS.1.1 (fun v7 σ7 h7 S7 _ F7 => ⟨fun o ho => F7 o (hwo o ho), ?_⟩)
    have h7 := an_se hTo hb hr1 (hS.bt0 h7)
    have hS := hS.wo S7 F7
    show Ax g y_Lw_asked Y (List.range NB ++ [176, 177, 178]) 3 540 653 [vR 0, vR 174, vR 175, vI a, vI (t 6), vI gl, vI pe, vI p, vI ad, vR 178, vI pl, vI hu, vI or_, vI v1, vI ((iand (ishr a 8) 15) % (t 3))] [vI v7] σ7
    refine a_iload (dat d_Lw_asked 382 rfl) rfl ?_
    refine a_icmp_gt (tgt := 682) (dat d_Lw_asked 383 rfl) (by decide) (fun c_655 => (by omega)) (fun c_655 => ?_)
    refine a_aload_n (dat d_Lw_asked 384 rfl) rfl rfl ?_
    refine a_iconst (dat d_Lw_asked 385 rfl) (by decide) ?_
    refine a_iconst (dat d_Lw_asked 386 rfl) (by decide) ?_
    refine a_iconst (dat d_Lw_asked 387 rfl) (by decide) ?_
    refine a_inv hG (As := [vI 0, vI 0, vI 2]) (dat d_Lw_asked 388 rfl) rfl c_Sb_worlds l_Lw_180 (by decide) rv_0 rfl rfl (Nat.le_of_ble_eq_true rfl) ?_
    refine sp_Sb_worlds hS.1.1 (fun v8 σ8 h8 S8 _ F8 => ⟨fun o ho => F8 o (hwo o ho), ?_⟩)
    have h8 := hS.bt0 h8
    have hS := hS.wo S8 F8
    show Ax g y_Lw_asked Y (List.range NB ++ [176, 177, 178]) 3 540 665 [vR 0, vR 174, vR 175, vI a, vI (t 6), vI gl, vI pe, vI p, vI ad, vR 178, vI pl, vI hu, vI or_, vI v1, vI ((iand (ishr a 8) 15) % (t 3))] [vI v8] σ8
    refine a_aload_n (dat d_Lw_asked 389 rfl) rfl rfl ?_
    refine a_iconst (dat d_Lw_asked 390 rfl) (by decide) ?_
    refine a_iconst (dat d_Lw_asked 391 rfl) (by decide) ?_
    refine a_iconst (dat d_Lw_asked 392 rfl) (by decide) ?_
    refine a_inv hG (As := [vI 0, vI 0, vI 3]) (dat d_Lw_asked 393 rfl) rfl c_Sb_worlds l_Lw_180 (by decide) rv_0 rfl rfl (Nat.le_of_ble_eq_true rfl) ?_
    refine sp_Sb_worlds hS.1.1 (fun v9 σ9 h9 S9 _ F9 => ⟨fun o ho => F9 o (hwo o ho), ?_⟩)
    have h9 := hS.bt0 h9
    have h89 := an_w23 hTo hb hr1 h8 h9
    show Ax g y_Lw_asked Y (List.range NB ++ [176, 177, 178]) 3 540 672 [vR 0, vR 174, vR 175, vI a, vI (t 6), vI gl, vI pe, vI p, vI ad, vR 178, vI pl, vI hu, vI or_, vI v1, vI ((iand (ishr a 8) 15) % (t 3))] [vI v9, vI v8] σ9
    refine a_iconst (dat d_Lw_asked 394 rfl) (by decide) ?_
    refine a_ixor (v := ixor v9 (-1)) (dat d_Lw_asked 395 rfl) rfl ?_
    refine a_iand (v := 0) (dat d_Lw_asked 396 rfl) (by exact h89) ?_
    refine a_if_ne (tgt := 682) (dat d_Lw_asked 397 rfl) (by decide) (fun h => absurd h (by decide)) (fun c_675 => ?_)
    refine a_iconst (dat d_Lw_asked 398 rfl) (by decide) ?_
    refine a_goto (tgt := 683) (dat d_Lw_asked 399 rfl) (by decide) ?_
    exact a_zret (Qc := skQ B) (free := bA B) (dat d_Lw_asked 401 rfl) rfl (Or.inr rfl) hY.2.2.1 (fun q hq => by rw [hY.1] at hq; exact hq) (fun t2 _ hF => ⟨rfl, by rw [hY.1] at hF; exact hF⟩)
/-- the law that feeds most, the miser -/
theorem as_7d (hY : AsY Y B) (hG : aG g Y) (hS : LwS σ A t r im) (hT : TRg t) (hp : 0 ≤ p ∧ p < t 6) (hhu : 0 ≤ hu) : Ax g y_Lw_asked Y (List.range NB ++ [176, 177, 178]) 3 540 528 [vR 0, vR 174, vR 175, vI a, vI (t 6), vI gl, vI pe, vI p, vI ad, vR 178, vI pl, vI hu, vI or_, vU, vU] [] σ := by
  have e2 : r 2 = t 2 := hS.2.2.1.2.1.2.2.1
  have t2 := hT.1.2.2.1
  have hwo : ∀ o ∈ [176, 177, 178], 173 < o := by decide
  refine a_iload (dat d_Lw_asked 306 rfl) rfl ?_
  refine a_if_lt (tgt := 557) (dat d_Lw_asked 307 rfl) (by decide) (fun c_530 => (by omega)) (fun c_530 => ?_)
  refine a_aload_n (dat d_Lw_asked 308 rfl) rfl rfl ?_
  refine a_iconst (dat d_Lw_asked 309 rfl) (by decide) ?_
  refine a_iconst (dat d_Lw_asked 310 rfl) (by decide) ?_
  refine a_inv hG (As := [vI 0, vI 1]) (dat d_Lw_asked 311 rfl) rfl c_Sb_feeds l_Lw_174 (by decide) rv_0 rfl rfl (Nat.le_of_ble_eq_true rfl) ?_
  refine sp_Sb_feeds hS.1.1 (fun v1 σ1 h1 F1 => ⟨fun o ho => F1 o (Or.inr (by have := hwo o ho; omega)), ?_⟩)
  have h1 := an_fd (by omega) (hS.at0 h1)
  have hS := hS.tr F1
  show Ax g y_Lw_asked Y (List.range NB ++ [176, 177, 178]) 3 540 539 [vR 0, vR 174, vR 175, vI a, vI (t 6), vI gl, vI pe, vI p, vI ad, vR 178, vI pl, vI hu, vI or_, vU, vU] [vI v1] σ1
  refine a_aload_n (dat d_Lw_asked 312 rfl) rfl rfl ?_
  refine a_iconst (dat d_Lw_asked 313 rfl) (by decide) ?_
  refine a_iconst (dat d_Lw_asked 314 rfl) (by decide) ?_
  refine a_inv hG (As := [vI 0, vI 0]) (dat d_Lw_asked 315 rfl) rfl c_Sb_run l_Lw_130 (by decide) rv_0 rfl rfl (Nat.le_of_ble_eq_true rfl) ?_
  refine sp_Sb_run hS.1.1 (fun v2 σ2 h2 F2 => ⟨fun o ho => F2 o (Or.inr (by have := hwo o ho; omega)), ?_⟩)
  have h2 := an_r0 (hS.at0 h2)
  have hS := hS.tr F2
  show Ax g y_Lw_asked Y (List.range NB ++ [176, 177, 178]) 3 540 545 [vR 0, vR 174, vR 175, vI a, vI (t 6), vI gl, vI pe, vI p, vI ad, vR 178, vI pl, vI hu, vI or_, vU, vU] [vI v2, vI v1] σ2
  refine a_icmp_gt (tgt := 557) (dat d_Lw_asked 316 rfl) (by decide) (fun c_545 => (by omega)) (fun c_545 => ?_)
  refine a_aload_n (dat d_Lw_asked 317 rfl) rfl rfl ?_
  refine a_iconst (dat d_Lw_asked 318 rfl) (by decide) ?_
  refine a_iconst (dat d_Lw_asked 319 rfl) (by decide) ?_
  refine a_inv hG (As := [vI 0, vI 1]) (dat d_Lw_asked 320 rfl) rfl c_Sb_miser l_Lw_177 (by decide) rv_0 rfl rfl (Nat.le_of_ble_eq_true rfl) ?_
  refine sp_Sb_miser hS.1.1 (fun v3 σ3 h3 F3 => ⟨fun o ho => F3 o (Or.inr (by have := hwo o ho; omega)), ?_⟩)
  have h3 := an_ms (hS.at0 h3)
  have hS := hS.tr F3
  show Ax g y_Lw_asked Y (List.range NB ++ [176, 177, 178]) 3 540 554 [vR 0, vR 174, vR 175, vI a, vI (t 6), vI gl, vI pe, vI p, vI ad, vR 178, vI pl, vI hu, vI or_, vU, vU] [vI v3] σ3
  refine a_if_ge (tgt := 559) (dat d_Lw_asked 321 rfl) (by decide) (fun c_554 => ?_) (fun c_554 => (by omega))
  exact as_8 hY hG hS hT hp
/-- an order makes fewer starve -/
theorem as_7c (hY : AsY Y B) (hG : aG g Y) (hS : LwS σ A t r im) (hT : TRg t) (hp : 0 ≤ p ∧ p < t 6) (hhu : 0 ≤ hu) (hor : or_ = -1 ∨ or_ < stv (cfg r)) : Ax g y_Lw_asked Y (List.range NB ++ [176, 177, 178]) 3 540 512 [vR 0, vR 174, vR 175, vI a, vI (t 6), vI gl, vI pe, vI p, vI ad, vR 178, vI pl, vI hu, vI or_, vU, vU] [] σ := by
  have hwo : ∀ o ∈ [176, 177, 178], 173 < o := by decide
  refine a_iload (dat d_Lw_asked 298 rfl) rfl ?_
  refine a_if_lt (tgt := 528) (dat d_Lw_asked 299 rfl) (by decide) (fun c_514 => ?_) (fun c_514 => ?_)
  · exact as_7d hY hG hS hT hp hhu
  · refine a_iload (dat d_Lw_asked 300 rfl) rfl ?_
    refine a_aload_n (dat d_Lw_asked 301 rfl) rfl rfl ?_
    refine a_iconst (dat d_Lw_asked 302 rfl) (by decide) ?_
    refine a_iconst (dat d_Lw_asked 303 rfl) (by decide) ?_
    refine a_inv hG (As := [vI 0, vI 0]) (dat d_Lw_asked 304 rfl) rfl c_Sb_run l_Lw_130 (by decide) rv_0 rfl rfl (Nat.le_of_ble_eq_true rfl) ?_
    refine sp_Sb_run hS.1.1 (fun v1 σ1 h1 F1 => ⟨fun o ho => F1 o (Or.inr (by have := hwo o ho; omega)), ?_⟩)
    have h1 := an_r0 (hS.at0 h1)
    have hS := hS.tr F1
    show Ax g y_Lw_asked Y (List.range NB ++ [176, 177, 178]) 3 540 525 [vR 0, vR 174, vR 175, vI a, vI (t 6), vI gl, vI pe, vI p, vI ad, vR 178, vI pl, vI hu, vI or_, vU, vU] [vI v1, vI or_] σ1
    refine a_icmp_ge (tgt := 557) (dat d_Lw_asked 305 rfl) (by decide) (fun c_525 => (by omega)) (fun c_525 => ?_)
    exact as_7d hY hG hS hT hp hhu
/-- aid told, hunger, an order -/
theorem as_7b (hY : AsY Y B) (hG : aG g Y) (hS : LwS σ A t r im) (hT : TRg t) (hp : 0 ≤ p ∧ p < t 6) (hA : A 0 = 2) (h178 : ∀ i : Int, 0 ≤ i → i < 180 → σ 178 i = t i) (had : (ad = -1 ∨ (0 ≤ ad ∧ ad ≤ 30)) ∧ (0 ≤ ad → stv (mLoaf (cfg r) p 0 ad) = 0)) : Ax g y_Lw_asked Y (List.range NB ++ [176, 177, 178]) 3 540 410 [vR 0, vR 174, vR 175, vI a, vI (t 6), vI gl, vI pe, vI p, vI ad, vR 177, vI pl, vI k11, vU, vU, vU] [vR 178] σ := by
  have hTo := hS.ok
  have hC := cfg_ok hTo
  have h6 := hT.1.2.2.2.2.2.2.1
  have hI := aI_175 [176, 177, 178]
  have hI8 : aI (List.range NB ++ [176, 177, 178]) 178 180 := aI_T (by decide) (by decide +kernel)
  have hwo : ∀ o ∈ [176, 177, 178], 173 < o := by decide
  have h12 := (hT.2.1 p.toNat (by omega)).2.2.1
  rw [show ((p.toNat : Nat) : Int) = p by omega] at h12
  have R := hS.2.2.1.2
  -- behind the order
  have j467 : ∀ (hu or_ : Int) (σ1 : xS) (m : Int), LwS σ1 A t r im → (or_ = -1 ∨ or_ < stv (cfg r)) → 0 ≤ hu → (0 ≤ m ∧ m ≤ 30) → ((0 ≤ ad ∧ t (12 + 4 * p) + ad ≤ 30) → m = t (12 + 4 * p) + ad) → (∀ i : Int, 0 ≤ i → i < 180 → σ1 178 i = st1 t (12 + 4 * p) m i) → Ax g y_Lw_asked Y (List.range NB ++ [176, 177, 178]) 3 540 467 [vR 0, vR 174, vR 175, vI a, vI (t 6), vI gl, vI pe, vI p, vI ad, vR 178, vI pl, vI hu, vU, vU, vU] [vI or_] σ1   := fun hu or_ σ1 m hS hor hhu hm hm2 hc => by
    refine a_istore (L' := [vR 0, vR 174, vR 175, vI a, vI (t 6), vI gl, vI pe, vI p, vI ad, vR 178, vI pl, vI hu, vI or_, vU, vU]) (dat d_Lw_asked 272 rfl) (by decide) rfl rfl ?_
    refine a_aload_n (dat d_Lw_asked 273 rfl) rfl rfl ?_
    refine a_aload_n (dat d_Lw_asked 274 rfl) rfl rfl ?_
    refine a_aload (dat d_Lw_asked 275 rfl) rfl ?_
    refine a_iconst (dat d_Lw_asked 276 rfl) (by decide) ?_
    refine a_iconst (dat d_Lw_asked 277 rfl) (by decide) ?_
    refine a_town (kT := 178) (t1 := st1 t (12 + 4 * p) m) hG (by decide) (by decide +kernel) tT3 (dat d_Lw_asked 278 rfl) rfl l_Lw_114 (by decide) (Nat.le_of_ble_eq_true rfl) hS.1.pts (st_rg hT hp hm) hc (nfT_1 hA) (by decide) (fun σ2 A2 p2 n2 e2 _ => ?_)
    obtain ⟨A3, hS, hA3, R1⟩ := hS.nw p2 n2 e2
    show Ax g y_Lw_asked Y (List.range NB ++ [176, 177, 178]) 3 540 478 [vR 0, vR 174, vR 175, vI a, vI (t 6), vI gl, vI pe, vI p, vI ad, vR 178, vI pl, vI hu, vI or_, vU, vU] [vI 1] σ2
    refine a_if_eq (tgt := 557) (dat d_Lw_asked 279 rfl) (by decide) (fun h => absurd h (by decide)) (fun c_478 => ?_)
    refine a_iload (dat d_Lw_asked 280 rfl) rfl ?_
    refine a_if_lt (tgt := 512) (dat d_Lw_asked 281 rfl) (by decide) (fun c_483 => ?_) (fun c_483 => ?_)
    · exact as_7c hY hG hS hT hp hhu hor
    · refine a_aload_n (dat d_Lw_asked 282 rfl) rfl rfl ?_
      refine a_bipush (dat d_Lw_asked 283 rfl) (by decide) (by decide) ?_
      refine a_iconst (dat d_Lw_asked 284 rfl) (by decide) ?_
      refine a_iload (dat d_Lw_asked 285 rfl) rfl ?_
      refine a_imul (v := 4 * p) (dat d_Lw_asked 286 rfl) rfl (by omega) ?_
      refine a_iadd (v := 12 + (4 * p)) (dat d_Lw_asked 287 rfl) rfl (by omega) ?_
      refine a_iald (n := 180) (v := t (12 + 4 * p)) (dat d_Lw_asked 288 rfl) hI (by omega) (by omega) (by exact hS.2.1 _ (by omega) (by omega)) ?_
      refine a_iload (dat d_Lw_asked 289 rfl) rfl ?_
      refine a_iadd (v := (t (12 + 4 * p)) + ad) (dat d_Lw_asked 290 rfl) rfl (by omega) ?_
      refine a_bipush (dat d_Lw_asked 291 rfl) (by decide) (by decide) ?_
      refine a_icmp_gt (tgt := 512) (dat d_Lw_asked 292 rfl) (by decide) (fun c_500 => ?_) (fun c_500 => ?_)
      · exact as_7c hY hG hS hT hp hhu hor
      · refine a_aload_n (dat d_Lw_asked 293 rfl) rfl rfl ?_
        refine a_iconst (dat d_Lw_asked 294 rfl) (by decide) ?_
        refine a_iconst (dat d_Lw_asked 295 rfl) (by decide) ?_
        refine a_inv hG (As := [vI 1, vI 0]) (dat d_Lw_asked 296 rfl) rfl c_Sb_run l_Lw_130 (by decide) rv_0 rfl rfl (Nat.le_of_ble_eq_true rfl) ?_
        refine sp_Sb_run hS.1.1 (fun v1 σ3 h1 F1 => ⟨fun o ho => F1 o (Or.inr (by have := hwo o ho; omega)), ?_⟩)
        have h1 := an_r0 (h1.2 (by decide) (by omega))
        rw [ad_told hT hp.1 hp.2 hm R R1 hC (hm2 (by omega)) (had.2 (by omega))] at h1
        have hS := hS.tr F1
        show Ax g y_Lw_asked Y (List.range NB ++ [176, 177, 178]) 3 540 509 [vR 0, vR 174, vR 175, vI a, vI (t 6), vI gl, vI pe, vI p, vI ad, vR 178, vI pl, vI hu, vI or_, vU, vU] [vI v1] σ3
        refine a_if_ne (tgt := 557) (dat d_Lw_asked 297 rfl) (by decide) (fun c_509 => (by omega)) (fun c_509 => ?_)
        exact as_7c hY hG hS hT hp hhu hor
  refine a_astore (L' := [vR 0, vR 174, vR 175, vI a, vI (t 6), vI gl, vI pe, vI p, vI ad, vR 178, vI pl, vI k11, vU, vU, vU]) (dat d_Lw_asked 237 rfl) (by decide) rfl rfl ?_
  refine a_aload (dat d_Lw_asked 238 rfl) rfl ?_
  refine a_bipush (dat d_Lw_asked 239 rfl) (by decide) (by decide) ?_
  refine a_iconst (dat d_Lw_asked 240 rfl) (by decide) ?_
  refine a_iload (dat d_Lw_asked 241 rfl) rfl ?_
  refine a_imul (v := 4 * p) (dat d_Lw_asked 242 rfl) rfl (by omega) ?_
  refine a_iadd (v := 12 + (4 * p)) (dat d_Lw_asked 243 rfl) rfl (by omega) ?_
  refine a_bipush (dat d_Lw_asked 244 rfl) (by decide) (by decide) ?_
  refine a_aload_n (dat d_Lw_asked 245 rfl) rfl rfl ?_
  refine a_bipush (dat d_Lw_asked 246 rfl) (by decide) (by decide) ?_
  refine a_iconst (dat d_Lw_asked 247 rfl) (by decide) ?_
  refine a_iload (dat d_Lw_asked 248 rfl) rfl ?_
  refine a_imul (v := 4 * p) (dat d_Lw_asked 249 rfl) rfl (by omega) ?_
  refine a_iadd (v := 12 + (4 * p)) (dat d_Lw_asked 250 rfl) rfl (by omega) ?_
  refine a_iald (n := 180) (v := t (12 + 4 * p)) (dat d_Lw_asked 251 rfl) hI (by omega) (by omega) (by exact hS.2.1 _ (by omega) (by omega)) ?_
  refine a_iconst (dat d_Lw_asked 252 rfl) (by decide) ?_
  refine a_iload (dat d_Lw_asked 253 rfl) rfl ?_
  refine a_mmax (own := "ShakenBreadLaw") (dat d_Lw_asked 254 rfl) rfl l_Lw_164 (by decide) (Nat.le_of_ble_eq_true rfl) (fun m_435 h1_435 h2_435 h3_435 => ?_)
  refine a_iadd (v := (t (12 + 4 * p)) + m_435) (dat d_Lw_asked 255 rfl) rfl (by omega) ?_
  refine a_mmin (own := "ShakenBreadLaw") (dat d_Lw_asked 256 rfl) rfl l_Lw_80 (by decide) (Nat.le_of_ble_eq_true rfl) (fun m_439 h1_439 h2_439 h3_439 => ?_)
  refine a_iast (n := 180) (dat d_Lw_asked 257 rfl) hI8 (by omega) (by omega) ?_
  have hS := hS.same (σ' := (up σ 178 (12 + (4 * p)) m_439)) (fun o ho => up_ne (by omega))
  have hm : 0 ≤ m_439 ∧ m_439 ≤ 30 := by omega
  have hm2 : (0 ≤ ad ∧ t (12 + 4 * p) + ad ≤ 30) → m_439 = t (12 + 4 * p) + ad := fun w => by omega
  have hc : ∀ i : Int, 0 ≤ i → i < 180 → (up σ 178 (12 + (4 * p)) m_439) 178 i = st1 t (12 + 4 * p) m_439 i := fun i i0 i1 => by
    rw [up_f]
    unfold st1
    split
    · rfl
    · exact h178 i i0 i1
  refine a_aload_n (dat d_Lw_asked 258 rfl) rfl rfl ?_
  refine a_iconst (dat d_Lw_asked 259 rfl) (by decide) ?_
  refine a_iconst (dat d_Lw_asked 260 rfl) (by decide) ?_
  refine a_inv hG (As := [vI 0, vI 0]) (dat d_Lw_asked 261 rfl) rfl c_Sb_hunger l_Lw_167 (by decide) rv_0 rfl rfl (Nat.le_of_ble_eq_true rfl) ?_
  refine sp_Sb_hunger hS.1.1 (fun v1 σ1 h1 F1 => ⟨fun o ho => F1 o (Or.inr (by have := hwo o ho; omega)), ?_⟩)
  have h1 := an_hu hC (hS.at0 h1)
  have hS := hS.tr F1
  have hc : ∀ i : Int, 0 ≤ i → i < 180 → σ1 178 i = st1 t (12 + 4 * p) m_439 i := fun i i0 i1 => by rw [F1 178 (by omega)]; exact hc i i0 i1
  show Ax g y_Lw_asked Y (List.range NB ++ [176, 177, 178]) 3 540 449 [vR 0, vR 174, vR 175, vI a, vI (t 6), vI gl, vI pe, vI p, vI ad, vR 178, vI pl, vI k11, vU, vU, vU] [vI v1] σ1
  refine a_istore (L' := [vR 0, vR 174, vR 175, vI a, vI (t 6), vI gl, vI pe, vI p, vI ad, vR 178, vI pl, vI v1, vU, vU, vU]) (dat d_Lw_asked 262 rfl) (by decide) rfl rfl ?_
  refine a_iload (dat d_Lw_asked 263 rfl) rfl ?_
  refine a_iconst (dat d_Lw_asked 264 rfl) (by decide) ?_
  refine a_icmp_le (tgt := 461) (dat d_Lw_asked 265 rfl) (by decide) (fun c_454 => ?_) (fun c_454 => ?_)
  · refine a_aload_n (dat d_Lw_asked 268 rfl) rfl rfl ?_
    refine a_iconst (dat d_Lw_asked 269 rfl) (by decide) ?_
    refine a_iconst (dat d_Lw_asked 270 rfl) (by decide) ?_
    refine a_inv hG (As := [vI 0, vI 3]) (dat d_Lw_asked 271 rfl) rfl c_Sb_order l_Lw_171 (by decide) rv_0 rfl rfl (Nat.le_of_ble_eq_true rfl) ?_
    refine sp_Sb_order hS.1.1 (fun v2 σ2 h2 F2 => ⟨fun o ho => F2 o (Or.inr (by have := hwo o ho; omega)), ?_⟩)
    have h2 := an_or (hS.at0 h2)
    have hS := hS.tr F2
    have hc : ∀ i : Int, 0 ≤ i → i < 180 → σ2 178 i = st1 t (12 + 4 * p) m_439 i := fun i i0 i1 => by rw [F2 178 (by omega)]; exact hc i i0 i1
    show Ax g y_Lw_asked Y (List.range NB ++ [176, 177, 178]) 3 540 467 [vR 0, vR 174, vR 175, vI a, vI (t 6), vI gl, vI pe, vI p, vI ad, vR 178, vI pl, vI v1, vU, vU, vU] [vI v2] σ2
    first
    | exact j467 _ _ _ m_439 hS (Or.inl rfl) h1 hm hm2 hc
    | exact j467 _ _ _ m_439 hS h2 h1 hm hm2 hc
  · refine a_iconst (dat d_Lw_asked 266 rfl) (by decide) ?_
    refine a_goto (tgt := 467) (dat d_Lw_asked 267 rfl) (by decide) ?_
    first
    | exact j467 _ _ _ m_439 hS (Or.inl rfl) h1 hm hm2 hc
    | exact j467 _ _ _ m_439 hS h2 h1 hm hm2 hc
end ASK
