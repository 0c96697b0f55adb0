/-! the twin's answers: an hour -/
theorem tot_B {f : Int → Int} {B : Int} : ∀ n : Nat, (∀ p : Int, 0 ≤ p → p < n → 0 ≤ f p ∧ f p ≤ B) → 0 ≤ tot f n ∧ tot f n ≤ B * n
  | 0, _ => by simp [tot]
  | n + 1, h => by
    have h1 := tot_B n (fun p p0 p1 => h p p0 (by omega))
    have h2 := h n (by omega) (by omega)
    have e : B * ((n + 1 : Nat) : Int) = B * (n : Int) + B := by rw [show ((n + 1 : Nat) : Int) = (n : Int) + 1 by omega, Int.mul_add, Int.mul_one]
    rw [e]
    simp only [tot]
    omega
section
variable {g : xG} {K : Option MV → xS → Prop} {σ σ0 : xS} {t : Int → Int} {t0 : Int} {a : Int → Int} {n h : Int} {C : Cf}
theorem ishl_0 (i : Int) : ishl 0 i = 0 := by
  unfold ishl
  rw [show Int32.ofInt 0 = 0 from rfl]
  have e : ∀ x : Int32, (0 : Int32) <<< x = 0 := fun x => by
    apply Int32.toBitVec_inj.1
    rw [Int32.toBitVec_shiftLeft]
    simp
  rw [e]
  rfl
theorem Msk.or0 {m : Int} {f : Int → Bool} (hm : Msk 8 m f) : ior m 0 = m := (hm.lor (by decide) (Msk.zero 8)).ext hm (fun q _ _ => by simp)
theorem sp_Mo_livedOf (M : MoC σ t t0 C) (R : Tw1 σ0 σ C) (h0 : 0 ≤ h) (h1 : h < t 3) (k : ∀ m : Int, Msk 8 m (rst C (h.toNat + 1)).2 → K (some (vI m)) σ) : Mt g y_Mo_livedOf [vR 174, vI h] σ K := by
  have t6 := M.1.2.2.2.2.2.2.2.1
  have hC := M.2.1.2
  have hH := hC.2.2.2.1
  have eP := M.P.1
  have e3 := M.P.2.1
  have lp : ∀ (Z : xZ) (d i : Nat) (m : Int), i + d = (t 6).toNat → Msk 8 m (fun q => (rst C (h.toNat + 1)).2 q && decide (q < (i : Int))) → Wx g y_Mo_livedOf Z K 4 [vR 174, vI h, vI m, vI (i : Int)] [] σ := by
    intro Z d
    induction d with
    | zero =>
      intro i m hd hm
      refine x_iload_n (dat d_Mo_livedOf 4 rfl) rfl rfl ?_
      refine x_aload_n (dat d_Mo_livedOf 5 rfl) rfl rfl ?_
      refine x_inv (As := []) (dat d_Mo_livedOf 6 rfl) rfl c_Mo_people l_Mo_202 (by decide) (rv_mo (by decide +kernel)) rfl rfl (Nat.le_of_ble_eq_true rfl) ?_
      refine sp_Mo_people M.1.1 ?_
      show Wx g y_Mo_livedOf Z K 9 [vR 174, vI h, vI m, vI (i : Int)] [vI (t 6), vI (i : Int)] σ
      refine x_icmp_ge (tgt := 34) (dat d_Mo_livedOf 7 rfl) (by decide) (fun c_9 => ?_) (fun c_9 => (by omega))
      refine x_iload_n (dat d_Mo_livedOf 23 rfl) rfl rfl ?_
      refine x_iret (dat d_Mo_livedOf 24 rfl) rfl ?_
      refine k m (hm.congr (fun q q0 q1 => ?_))
      cases hc : (rst C (h.toNat + 1)).2 q with
      | false => rfl
      | true => have := rst_al _ q hc; exact decide_eq_true (by omega)
    | succ d ih =>
      intro i m hd hm
      have ri := (R.at hC h0 (by omega) (show (0 : Int) ≤ (i : Int) by omega) (by omega)).1.2
      obtain ⟨y, hy⟩ : ∃ y : Int, y = (if (rst C (h.toNat + 1)).2 (i : Int) = true then 1 else 0) := ⟨_, rfl⟩
      rw [← hy] at ri
      have y01 : y = 0 ∨ y = 1 := by rw [hy]; split <;> simp
      have nx : Msk 8 (ior m (ishl y (i : Int))) (fun q => (rst C (h.toNat + 1)).2 q && decide (q < ((i + 1 : Nat) : Int))) := by
        by_cases z : (rst C (h.toNat + 1)).2 (i : Int) = true
        · rw [hy, if_pos z]
          refine (hm.orone (q := (i : Int)) (by omega) (by omega)).congr (fun q q0 q1 => ?_)
          show (((rst C (h.toNat + 1)).2 q && decide (q < (i : Int))) || decide (q = (i : Int))) = ((rst C (h.toNat + 1)).2 q && decide (q < ((i + 1 : Nat) : Int)))
          by_cases w : q = (i : Int)
          · rw [w, z, decide_eq_true (show (i : Int) < ((i + 1 : Nat) : Int) by omega)]; simp
          · rw [decide_eq_false w, Bool.or_false, decide_eq_decide.mpr (show q < (i : Int) ↔ q < ((i + 1 : Nat) : Int) by omega)]
        · have z0 : (rst C (h.toNat + 1)).2 (i : Int) = false := by simpa using z
          rw [hy, if_neg z, show ishl 0 (i : Int) = 0 from ishl_0 _, hm.or0]
          refine hm.congr (fun q q0 q1 => ?_)
          by_cases w : q = (i : Int)
          · rw [w, z0]; rfl
          · rw [decide_eq_decide.mpr (show q < (i : Int) ↔ q < ((i + 1 : Nat) : Int) by omega)]
      refine x_iload_n (dat d_Mo_livedOf 4 rfl) rfl rfl ?_
      refine x_aload_n (dat d_Mo_livedOf 5 rfl) rfl rfl ?_
      refine x_inv (As := []) (dat d_Mo_livedOf 6 rfl) rfl c_Mo_people l_Mo_202 (by decide) (rv_mo (by decide +kernel)) rfl rfl (Nat.le_of_ble_eq_true rfl) ?_
      refine sp_Mo_people M.1.1 ?_
      show Wx g y_Mo_livedOf Z K 9 [vR 174, vI h, vI m, vI (i : Int)] [vI (t 6), vI (i : Int)] σ
      refine x_icmp_ge (tgt := 34) (dat d_Mo_livedOf 7 rfl) (by decide) (fun c_9 => (by omega)) (fun c_9 => ?_)
      refine x_iload_n (dat d_Mo_livedOf 8 rfl) rfl rfl ?_
      refine x_aload_n (dat d_Mo_livedOf 9 rfl) rfl rfl ?_
      refine x_getr (r := 182) (dat d_Mo_livedOf 10 rfl) rfl f_Mo_32 (or_mk (by decide +kernel)) ?_
      refine x_bipush (dat d_Mo_livedOf 11 rfl) (by decide) (by decide) ?_
      refine x_iload_n (dat d_Mo_livedOf 12 rfl) rfl rfl ?_
      refine x_imul (v := 8 * h) (dat d_Mo_livedOf 13 rfl) (by omega) (by omega) ?_
      refine x_iload_n (dat d_Mo_livedOf 14 rfl) rfl rfl ?_
      refine x_iadd (v := (8 * h) + (i : Int)) (dat d_Mo_livedOf 15 rfl) rfl (by omega) ?_
      refine x_iald (n := 192) (v := y) (dat d_Mo_livedOf 16 rfl) (ai_mk (by decide +kernel)) (by omega) (by omega) (ri) ?_
      refine x_iload_n (dat d_Mo_livedOf 17 rfl) rfl rfl ?_
      refine x_ishl (v := ishl y (i : Int)) (dat d_Mo_livedOf 18 rfl) rfl ?_
      refine x_ior (v := ior m (ishl y (i : Int))) (dat d_Mo_livedOf 19 rfl) rfl ?_
      refine x_istore_n (L' := [vR 174, vI h, vI (ior m (ishl y (i : Int))), vI (i : Int)]) (dat d_Mo_livedOf 20 rfl) rfl (by decide) rfl rfl ?_
      refine x_iinc (v' := ((i + 1 : Nat) : Int)) (L' := [vR 174, vI h, vI (ior m (ishl y (i : Int))), vI ((i + 1 : Nat) : Int)]) (dat d_Mo_livedOf 21 rfl) rfl (by decide) rfl (by omega) (by omega) rfl ?_
      refine x_goto (tgt := 4) (dat d_Mo_livedOf 22 rfl) (by decide) ?_
      exact ih (i + 1) _ (by omega) nx
  refine x_enter 2 rfl rfl rfl (fun Z => ?_)
  show Wx g y_Mo_livedOf Z K 0 [vR 174, vI h, vU, vU] [] σ
  refine x_iconst (dat d_Mo_livedOf 0 rfl) (by decide) ?_
  refine x_istore_n (L' := [vR 174, vI h, vI 0, vU]) (dat d_Mo_livedOf 1 rfl) rfl (by decide) rfl rfl ?_
  refine x_iconst (dat d_Mo_livedOf 2 rfl) (by decide) ?_
  refine x_istore_n (L' := [vR 174, vI h, vI 0, vI 0]) (dat d_Mo_livedOf 3 rfl) rfl (by decide) rfl rfl ?_
  exact lp Z (t 6).toNat 0 0 (by omega) ((Msk.zero 8).congr (fun q q0 q1 => by show false = ((rst C (h.toNat + 1)).2 q && decide (q < ((0 : Nat) : Int))); rw [decide_eq_false (by omega), Bool.and_false]))
theorem sp_Mo_breadOf (M : MoC σ t t0 C) (R : Tw1 σ0 σ C) (h0 : 0 ≤ h) (h1 : h < t 3) (k : K (some (vI (brN C (h.toNat + 1)))) σ) : Mt g y_Mo_breadOf [vR 174, vI h] σ K := by
  have t6 := M.1.2.2.2.2.2.2.2.1
  have hC := M.2.1.2
  have hH := hC.2.2.2.1
  have eP := M.P.1
  have e3 := M.P.2.1
  have bd : ∀ i : Nat, (i : Int) ≤ t 6 → 0 ≤ tot (rst C (h.toNat + 1)).1 i ∧ tot (rst C (h.toNat + 1)).1 i ≤ 294 * i := fun i hi => tot_B i (fun p p0 p1 => rst_bd hC _ p0 (by omega))
  have lp : ∀ (Z : xZ) (d i : Nat), i + d = (t 6).toNat → Wx g y_Mo_breadOf Z K 4 [vR 174, vI h, vI (tot (rst C (h.toNat + 1)).1 i), vI (i : Int)] [] σ := by
    intro Z d
    induction d with
    | zero =>
      intro i hd
      have e : i = (cS C 0).toNat := by omega
      refine x_iload_n (dat d_Mo_breadOf 4 rfl) rfl rfl ?_
      refine x_aload_n (dat d_Mo_breadOf 5 rfl) rfl rfl ?_
      refine x_inv (As := []) (dat d_Mo_breadOf 6 rfl) rfl c_Mo_people l_Mo_202 (by decide) (rv_mo (by decide +kernel)) rfl rfl (Nat.le_of_ble_eq_true rfl) ?_
      refine sp_Mo_people M.1.1 ?_
      show Wx g y_Mo_breadOf Z K 9 [vR 174, vI h, vI (tot (rst C (h.toNat + 1)).1 i), vI (i : Int)] [vI (t 6), vI (i : Int)] σ
      refine x_icmp_ge (tgt := 32) (dat d_Mo_breadOf 7 rfl) (by decide) (fun c_9 => ?_) (fun c_9 => (by omega))
      refine x_iload_n (dat d_Mo_breadOf 21 rfl) rfl rfl ?_
      refine x_iret (dat d_Mo_breadOf 22 rfl) rfl ?_
      rw [e]
      exact k
    | succ d ih =>
      intro i hd
      have ri := (R.at hC h0 (by omega) (show (0 : Int) ≤ (i : Int) by omega) (by omega)).1.1
      have b1 := bd i (by omega)
      have b2 := rst_bd hC (h.toNat + 1) (show (0 : Int) ≤ (i : Int) by omega) (by omega)
      have et : tot (rst C (h.toNat + 1)).1 (i + 1) = tot (rst C (h.toNat + 1)).1 i + (rst C (h.toNat + 1)).1 (i : Int) := rfl
      refine x_iload_n (dat d_Mo_breadOf 4 rfl) rfl rfl ?_
      refine x_aload_n (dat d_Mo_breadOf 5 rfl) rfl rfl ?_
      refine x_inv (As := []) (dat d_Mo_breadOf 6 rfl) rfl c_Mo_people l_Mo_202 (by decide) (rv_mo (by decide +kernel)) rfl rfl (Nat.le_of_ble_eq_true rfl) ?_
      refine sp_Mo_people M.1.1 ?_
      show Wx g y_Mo_breadOf Z K 9 [vR 174, vI h, vI (tot (rst C (h.toNat + 1)).1 i), vI (i : Int)] [vI (t 6), vI (i : Int)] σ
      refine x_icmp_ge (tgt := 32) (dat d_Mo_breadOf 7 rfl) (by decide) (fun c_9 => (by omega)) (fun c_9 => ?_)
      refine x_iload_n (dat d_Mo_breadOf 8 rfl) rfl rfl ?_
      refine x_aload_n (dat d_Mo_breadOf 9 rfl) rfl rfl ?_
      refine x_getr (r := 181) (dat d_Mo_breadOf 10 rfl) rfl f_Mo_29 (or_mk (by decide +kernel)) ?_
      refine x_bipush (dat d_Mo_breadOf 11 rfl) (by decide) (by decide) ?_
      refine x_iload_n (dat d_Mo_breadOf 12 rfl) rfl rfl ?_
      refine x_imul (v := 8 * h) (dat d_Mo_breadOf 13 rfl) (by omega) (by omega) ?_
      refine x_iload_n (dat d_Mo_breadOf 14 rfl) rfl rfl ?_
      refine x_iadd (v := (8 * h) + (i : Int)) (dat d_Mo_breadOf 15 rfl) rfl (by omega) ?_
      refine x_iald (n := 192) (v := (rst C (h.toNat + 1)).1 (i : Int)) (dat d_Mo_breadOf 16 rfl) (ai_mk (by decide +kernel)) (by omega) (by omega) (ri) ?_
      refine x_iadd (v := tot (rst C (h.toNat + 1)).1 (i + 1)) (dat d_Mo_breadOf 17 rfl) (by omega) (by omega) ?_
      refine x_istore_n (L' := [vR 174, vI h, vI (tot (rst C (h.toNat + 1)).1 (i + 1)), vI (i : Int)]) (dat d_Mo_breadOf 18 rfl) rfl (by decide) rfl rfl ?_
      refine x_iinc (v' := ((i + 1 : Nat) : Int)) (L' := [vR 174, vI h, vI (tot (rst C (h.toNat + 1)).1 (i + 1)), vI ((i + 1 : Nat) : Int)]) (dat d_Mo_breadOf 19 rfl) rfl (by decide) rfl (by omega) (by omega) rfl ?_
      refine x_goto (tgt := 4) (dat d_Mo_breadOf 20 rfl) (by decide) ?_
      exact ih (i + 1) (by omega)
  refine x_enter 2 rfl rfl rfl (fun Z => ?_)
  show Wx g y_Mo_breadOf Z K 0 [vR 174, vI h, vU, vU] [] σ
  refine x_iconst (dat d_Mo_breadOf 0 rfl) (by decide) ?_
  refine x_istore_n (L' := [vR 174, vI h, vI 0, vU]) (dat d_Mo_breadOf 1 rfl) rfl (by decide) rfl rfl ?_
  refine x_iconst (dat d_Mo_breadOf 2 rfl) (by decide) ?_
  refine x_istore_n (L' := [vR 174, vI h, vI 0, vI 0]) (dat d_Mo_breadOf 3 rfl) rfl (by decide) rfl rfl ?_
  exact lp Z (t 6).toNat 0 (by omega)
theorem sp_Mo_hour {w : Int} (A : MoA σ a) (k : ∀ (r : Int) (σ' : xS), atT a n (-1) (fun t r => hourA t h w r) r → MoA σ' a → MoF σ' σ → K (some (vI r)) σ') : Mt g y_Mo_hour [vR 174, vI n, vI h, vI w] σ K := by
  have k0 : ¬ (0 ≤ n ∧ n < a 0) → K (some (vI (-1))) σ := fun z => k _ σ ⟨fun _ => rfl, fun z1 z2 => absurd ⟨z1, z2⟩ z⟩ A (MoF.rfl σ)
  have k1 : ∀ (r : Int) (σ' : xS), hourA (tw a n) h w r → 0 ≤ n → n < a 0 → MoA σ' a → MoF σ' σ → K (some (vI r)) σ' := fun r σ' e n0 n1 A1 F1 => k r σ' ⟨fun z => absurd ⟨n0, n1⟩ z, fun _ _ => e⟩ A1 F1
  have c0 : ¬ (0 ≤ h ∧ h < tw a n 3) → hourA (tw a n) h w (-1) := fun z => by unfold hourA; rw [if_pos z]
  refine x_enter 0 rfl rfl rfl (fun Z => ?_)
  show Wx g y_Mo_hour Z K 0 [vR 174, vI n, vI h, vI w] [] σ
  refine x_aload_n (dat d_Mo_hour 0 rfl) rfl rfl ?_
  refine x_iload_n (dat d_Mo_hour 1 rfl) rfl rfl ?_
  refine x_inv (As := [vI n]) (dat d_Mo_hour 2 rfl) rfl c_Mo_isTown l_Mo_205 (by decide) (rv_mo (by decide +kernel)) rfl rfl (Nat.le_of_ble_eq_true rfl) ?_
  refine sp_Mo_isTown A (fun σ1 t0 n0 n1 H P Z1 A1 F => ?_) (fun n01 => ?_)
  · show Wx g y_Mo_hour Z K 5 [vR 174, vI n, vI h, vI w] [vI 1] σ1
    refine x_if_eq (tgt := 16) (dat d_Mo_hour 3 rfl) (by decide) (fun h => absurd h (by decide)) (fun c_5 => ?_)
    refine x_aload_n (dat d_Mo_hour 4 rfl) rfl rfl ?_
    refine x_iload_n (dat d_Mo_hour 5 rfl) rfl rfl ?_
    refine x_inv (As := [vI h]) (dat d_Mo_hour 6 rfl) rfl c_Mo_isHour l_Mo_342 (by decide) (rv_mo (by decide +kernel)) rfl rfl (Nat.le_of_ble_eq_true rfl) ?_
    refine sp_Mo_isHour H.1.1 H.1.2 (fun h0 h1 => ?_) (fun h01 => ?_)
    · show Wx g y_Mo_hour Z K 13 [vR 174, vI n, vI h, vI w] [vI 1] σ1
      refine x_if_ne (tgt := 18) (dat d_Mo_hour 7 rfl) (by decide) (fun c_13 => ?_) (fun h => absurd h (by decide))
      refine x_aload_n (dat d_Mo_hour 10 rfl) rfl rfl ?_
      refine x_inv (As := []) (dat d_Mo_hour 11 rfl) rfl c_Mo_runs l_Mo_336 (by decide) (rv_mo (by decide +kernel)) rfl rfl (Nat.le_of_ble_eq_true rfl) ?_
      refine sp_Mo_runsP H P (fun σ2 R => ?_)
      have hC := H.2.1.2
      have t3 := H.1.2.2.2.2.1
      obtain ⟨r1, r2, r3⟩ := R.hr hC h0 h1
      have M2 := H.same R.2.2.2
      have F2 := F.trans R.2.2.2.mo
      have A2 := A.same F2
      have neg : ¬ ¬ (0 ≤ h ∧ h < tw a n 3) := fun z => z ⟨h0, h1⟩
      show Wx g y_Mo_hour Z K 22 [vR 174, vI n, vI h, vI w] [] σ2
      refine x_iload_n (dat d_Mo_hour 12 rfl) rfl rfl ?_
      by_cases c_23 : w < 0 ∨ 4 < w
      · refine x_tableOut (tgt := 89) (dat d_Mo_hour 13 rfl).1 c_23 (by decide) ?_
        refine x_iconst (dat d_Mo_hour 37 rfl) (by decide) ?_
        refine x_iret (dat d_Mo_hour 38 rfl) rfl ?_
        first
        | exact k0 n01
        | exact k1 _ _ (c0 h01) n0 n1 A1 F
        | (refine k1 _ _ ?_ n0 n1 A2 F2
           unfold hourA
           rw [if_neg neg]
           first
           | (rw [if_pos (by omega)]; exact r1)
           | (rw [if_neg (by omega), if_pos (by omega)]; exact r2)
           | (rw [if_neg (by omega), if_neg (by omega), if_pos (by omega)]; exact r3)
           | (rw [if_neg (by omega), if_neg (by omega), if_neg (by omega), if_pos (by omega)]; exact hm)
           | (rw [if_neg (by omega), if_neg (by omega), if_neg (by omega), if_neg (by omega), if_pos (by omega)])
           | (rw [if_neg (by omega), if_neg (by omega), if_neg (by omega), if_neg (by omega), if_neg (by omega)]))
      · have e_23 : w = 0 ∨ w = 1 ∨ w = 2 ∨ w = 3 ∨ w = 4 := by omega
        rcases e_23 with e_23 | e_23 | e_23 | e_23 | e_23
        · refine x_tableIn (tgt := 56) (dat d_Mo_hour 13 rfl).1 0 rfl (by omega) (by decide) ?_
          refine x_aload_n (dat d_Mo_hour 14 rfl) rfl rfl ?_
          refine x_getr (r := 185) (dat d_Mo_hour 15 rfl) rfl f_Mo_41 (or_mk (by decide +kernel)) ?_
          refine x_iload_n (dat d_Mo_hour 16 rfl) rfl rfl ?_
          refine x_iald (n := 24) (v := σ2 185 h) (dat d_Mo_hour 17 rfl) (ai_mk (by decide +kernel)) (by omega) (by omega) rfl ?_
          refine x_iret (dat d_Mo_hour 18 rfl) rfl ?_
          first
          | exact k0 n01
          | exact k1 _ _ (c0 h01) n0 n1 A1 F
          | (refine k1 _ _ ?_ n0 n1 A2 F2
             unfold hourA
             rw [if_neg neg]
             first
             | (rw [if_pos (by omega)]; exact r1)
             | (rw [if_neg (by omega), if_pos (by omega)]; exact r2)
             | (rw [if_neg (by omega), if_neg (by omega), if_pos (by omega)]; exact r3)
             | (rw [if_neg (by omega), if_neg (by omega), if_neg (by omega), if_pos (by omega)]; exact hm)
             | (rw [if_neg (by omega), if_neg (by omega), if_neg (by omega), if_neg (by omega), if_pos (by omega)])
             | (rw [if_neg (by omega), if_neg (by omega), if_neg (by omega), if_neg (by omega), if_neg (by omega)]))
        · refine x_tableIn (tgt := 63) (dat d_Mo_hour 13 rfl).1 1 rfl (by omega) (by decide) ?_
          refine x_aload_n (dat d_Mo_hour 19 rfl) rfl rfl ?_
          refine x_getr (r := 186) (dat d_Mo_hour 20 rfl) rfl f_Mo_44 (or_mk (by decide +kernel)) ?_
          refine x_iload_n (dat d_Mo_hour 21 rfl) rfl rfl ?_
          refine x_iald (n := 24) (v := σ2 186 h) (dat d_Mo_hour 22 rfl) (ai_mk (by decide +kernel)) (by omega) (by omega) rfl ?_
          refine x_iret (dat d_Mo_hour 23 rfl) rfl ?_
          first
          | exact k0 n01
          | exact k1 _ _ (c0 h01) n0 n1 A1 F
          | (refine k1 _ _ ?_ n0 n1 A2 F2
             unfold hourA
             rw [if_neg neg]
             first
             | (rw [if_pos (by omega)]; exact r1)
             | (rw [if_neg (by omega), if_pos (by omega)]; exact r2)
             | (rw [if_neg (by omega), if_neg (by omega), if_pos (by omega)]; exact r3)
             | (rw [if_neg (by omega), if_neg (by omega), if_neg (by omega), if_pos (by omega)]; exact hm)
             | (rw [if_neg (by omega), if_neg (by omega), if_neg (by omega), if_neg (by omega), if_pos (by omega)])
             | (rw [if_neg (by omega), if_neg (by omega), if_neg (by omega), if_neg (by omega), if_neg (by omega)]))
        · refine x_tableIn (tgt := 70) (dat d_Mo_hour 13 rfl).1 2 rfl (by omega) (by decide) ?_
          refine x_aload_n (dat d_Mo_hour 24 rfl) rfl rfl ?_
          refine x_getr (r := 187) (dat d_Mo_hour 25 rfl) rfl f_Mo_47 (or_mk (by decide +kernel)) ?_
          refine x_iload_n (dat d_Mo_hour 26 rfl) rfl rfl ?_
          refine x_iald (n := 24) (v := σ2 187 h) (dat d_Mo_hour 27 rfl) (ai_mk (by decide +kernel)) (by omega) (by omega) rfl ?_
          refine x_iret (dat d_Mo_hour 28 rfl) rfl ?_
          first
          | exact k0 n01
          | exact k1 _ _ (c0 h01) n0 n1 A1 F
          | (refine k1 _ _ ?_ n0 n1 A2 F2
             unfold hourA
             rw [if_neg neg]
             first
             | (rw [if_pos (by omega)]; exact r1)
             | (rw [if_neg (by omega), if_pos (by omega)]; exact r2)
             | (rw [if_neg (by omega), if_neg (by omega), if_pos (by omega)]; exact r3)
             | (rw [if_neg (by omega), if_neg (by omega), if_neg (by omega), if_pos (by omega)]; exact hm)
             | (rw [if_neg (by omega), if_neg (by omega), if_neg (by omega), if_neg (by omega), if_pos (by omega)])
             | (rw [if_neg (by omega), if_neg (by omega), if_neg (by omega), if_neg (by omega), if_neg (by omega)]))
        · refine x_tableIn (tgt := 77) (dat d_Mo_hour 13 rfl).1 3 rfl (by omega) (by decide) ?_
          refine x_aload_n (dat d_Mo_hour 29 rfl) rfl rfl ?_
          refine x_iload_n (dat d_Mo_hour 30 rfl) rfl rfl ?_
          refine x_inv (As := [vI h]) (dat d_Mo_hour 31 rfl) rfl c_Mo_livedOf l_Mo_345 (by decide) (rv_mo (by decide +kernel)) rfl rfl (Nat.le_of_ble_eq_true rfl) ?_
          refine sp_Mo_livedOf M2 R h0 h1 (fun m hm => ?_)
          show Wx g y_Mo_hour Z K 82 [vR 174, vI n, vI h, vI w] [vI m] σ2
          refine x_iret (dat d_Mo_hour 32 rfl) rfl ?_
          first
          | exact k0 n01
          | exact k1 _ _ (c0 h01) n0 n1 A1 F
          | (refine k1 _ _ ?_ n0 n1 A2 F2
             unfold hourA
             rw [if_neg neg]
             first
             | (rw [if_pos (by omega)]; exact r1)
             | (rw [if_neg (by omega), if_pos (by omega)]; exact r2)
             | (rw [if_neg (by omega), if_neg (by omega), if_pos (by omega)]; exact r3)
             | (rw [if_neg (by omega), if_neg (by omega), if_neg (by omega), if_pos (by omega)]; exact hm)
             | (rw [if_neg (by omega), if_neg (by omega), if_neg (by omega), if_neg (by omega), if_pos (by omega)])
             | (rw [if_neg (by omega), if_neg (by omega), if_neg (by omega), if_neg (by omega), if_neg (by omega)]))
        · refine x_tableIn (tgt := 83) (dat d_Mo_hour 13 rfl).1 4 rfl (by omega) (by decide) ?_
          refine x_aload_n (dat d_Mo_hour 33 rfl) rfl rfl ?_
          refine x_iload_n (dat d_Mo_hour 34 rfl) rfl rfl ?_
          refine x_inv (As := [vI h]) (dat d_Mo_hour 35 rfl) rfl c_Mo_breadOf l_Mo_348 (by decide) (rv_mo (by decide +kernel)) rfl rfl (Nat.le_of_ble_eq_true rfl) ?_
          refine sp_Mo_breadOf M2 R h0 h1 ?_
          show Wx g y_Mo_hour Z K 88 [vR 174, vI n, vI h, vI w] [vI (brN (cfg (tw a n)) (h.toNat + 1))] σ2
          refine x_iret (dat d_Mo_hour 36 rfl) rfl ?_
          first
          | exact k0 n01
          | exact k1 _ _ (c0 h01) n0 n1 A1 F
          | (refine k1 _ _ ?_ n0 n1 A2 F2
             unfold hourA
             rw [if_neg neg]
             first
             | (rw [if_pos (by omega)]; exact r1)
             | (rw [if_neg (by omega), if_pos (by omega)]; exact r2)
             | (rw [if_neg (by omega), if_neg (by omega), if_pos (by omega)]; exact r3)
             | (rw [if_neg (by omega), if_neg (by omega), if_neg (by omega), if_pos (by omega)]; exact hm)
             | (rw [if_neg (by omega), if_neg (by omega), if_neg (by omega), if_neg (by omega), if_pos (by omega)])
             | (rw [if_neg (by omega), if_neg (by omega), if_neg (by omega), if_neg (by omega), if_neg (by omega)]))
    · show Wx g y_Mo_hour Z K 13 [vR 174, vI n, vI h, vI w] [vI 0] σ1
      refine x_if_ne (tgt := 18) (dat d_Mo_hour 7 rfl) (by decide) (fun h => absurd h (by decide)) (fun c_13 => ?_)
      refine x_iconst (dat d_Mo_hour 8 rfl) (by decide) ?_
      refine x_iret (dat d_Mo_hour 9 rfl) rfl ?_
      first
      | exact k0 n01
      | exact k1 _ _ (c0 h01) n0 n1 A1 F
      | (refine k1 _ _ ?_ n0 n1 A2 F2
         unfold hourA
         rw [if_neg neg]
         first
         | (rw [if_pos (by omega)]; exact r1)
         | (rw [if_neg (by omega), if_pos (by omega)]; exact r2)
         | (rw [if_neg (by omega), if_neg (by omega), if_pos (by omega)]; exact r3)
         | (rw [if_neg (by omega), if_neg (by omega), if_neg (by omega), if_pos (by omega)]; exact hm)
         | (rw [if_neg (by omega), if_neg (by omega), if_neg (by omega), if_neg (by omega), if_pos (by omega)])
         | (rw [if_neg (by omega), if_neg (by omega), if_neg (by omega), if_neg (by omega), if_neg (by omega)]))
  · show Wx g y_Mo_hour Z K 5 [vR 174, vI n, vI h, vI w] [vI 0] σ
    refine x_if_eq (tgt := 16) (dat d_Mo_hour 3 rfl) (by decide) (fun c_5 => ?_) (fun h => absurd h (by decide))
    refine x_iconst (dat d_Mo_hour 8 rfl) (by decide) ?_
    refine x_iret (dat d_Mo_hour 9 rfl) rfl ?_
    first
    | exact k0 n01
    | exact k1 _ _ (c0 h01) n0 n1 A1 F
    | (refine k1 _ _ ?_ n0 n1 A2 F2
       unfold hourA
       rw [if_neg neg]
       first
       | (rw [if_pos (by omega)]; exact r1)
       | (rw [if_neg (by omega), if_pos (by omega)]; exact r2)
       | (rw [if_neg (by omega), if_neg (by omega), if_pos (by omega)]; exact r3)
       | (rw [if_neg (by omega), if_neg (by omega), if_neg (by omega), if_pos (by omega)]; exact hm)
       | (rw [if_neg (by omega), if_neg (by omega), if_neg (by omega), if_neg (by omega), if_pos (by omega)])
       | (rw [if_neg (by omega), if_neg (by omega), if_neg (by omega), if_neg (by omega), if_neg (by omega)]))
end
