/-! the twin's answers: a fate */ -/
section
variable {g : xG} {K : Option MV → xS → Prop} {σ σ0 : xS} {t : Int → Int} {t0 : Int} {a : Int → Int} {n h : Int} {C : Cf}
theorem Tw1.hd {σ' : xS} (R : Tw1 σ σ' C) {j : Nat} {p : Int} (hj : j < cH C) (p0 : 0 ≤ p) (p1 : p < cS C 0) : σ' 181 (8 * (j : Int) + p) = (rst C (j + 1)).1 p := ((R.2.2.1 j hj).1 p p0 p1).1
theorem lp_Mo_fate {Z : xZ} {n p w : Int} (M : MoC σ t t0 C) (R : Tw1 σ0 σ C) (p0 : 0 ≤ p) (p1 : p < t 6) (k : Wx g y_Mo_fate Z K 129 [vR 174, vI n, vI p, vI w, vI ((amx (fun h => (rst C (h + 1)).1 p) (cH C - 1) : Nat) : Int), vI (t 3)] [] σ) : ∀ (d m : Nat), m + d + 1 = cH C → Wx g y_Mo_fate Z K 77 [vR 174, vI n, vI p, vI w, vI ((amx (fun h => (rst C (h + 1)).1 p) m : Nat) : Int), vI ((m + 1 : Nat) : Int)] [] σ := by
  have t6 := M.1.2.2.2.2.2.2.2.1
  have t3 := M.1.2.2.2.2.1
  have eP := M.P.1
  have e3 := M.P.2.1
  have hC := M.2.1.2
  have hH := cH_eq hC
  intro d
  induction d with
  | zero =>
    intro m hd
    have e : ((m + 1 : Nat) : Int) = t 3 := by omega
    rw [e]
    refine x_iload (dat d_Mo_fate 44 rfl) rfl ?_
    refine x_aload_n (dat d_Mo_fate 45 rfl) rfl rfl ?_
    refine x_iconst (dat d_Mo_fate 46 rfl) (by decide) ?_
    refine x_inv (As := [vI 3]) (dat d_Mo_fate 47 rfl) rfl c_Mo_of l_Mo_199 (by decide) (rv_mo (by decide +kernel)) rfl rfl (Nat.le_of_ble_eq_true rfl) ?_
    refine sp_Mo_of M.1.1 (by decide) (by decide) ?_
    show Wx g y_Mo_fate Z K 84 [vR 174, vI n, vI p, vI w, vI ((amx (fun h => (rst C (h + 1)).1 p) m : Nat) : Int), vI (t 3)] [vI (t 3), vI (t 3)] σ
    refine x_icmp_ge (tgt := 129) (dat d_Mo_fate 48 rfl) (by decide) (fun c_84 => ?_) (fun c_84 => (by omega))
    rw [show m = cH C - 1 by omega]
    exact k
  | succ d ih =>
    intro m hd
    have al := amx_le (fun h => (rst C (h + 1)).1 p) m
    have f1 := R.hd (j := m + 1) (p := p) (by omega) p0 (by omega)
    have f2 := R.hd (j := amx (fun h => (rst C (h + 1)).1 p) m) (p := p) (by omega) p0 (by omega)
    have es : amx (fun h => (rst C (h + 1)).1 p) (m + 1) = if (rst C (amx (fun h => (rst C (h + 1)).1 p) m + 1)).1 p < (rst C (m + 1 + 1)).1 p then m + 1 else amx (fun h => (rst C (h + 1)).1 p) m := rfl
    have ih2 := ih (m + 1) (by omega)
    rw [es] at ih2
    generalize amx (fun h => (rst C (h + 1)).1 p) m = b at *
    refine x_iload (dat d_Mo_fate 44 rfl) rfl ?_
    refine x_aload_n (dat d_Mo_fate 45 rfl) rfl rfl ?_
    refine x_iconst (dat d_Mo_fate 46 rfl) (by decide) ?_
    refine x_inv (As := [vI 3]) (dat d_Mo_fate 47 rfl) rfl c_Mo_of l_Mo_199 (by decide) (rv_mo (by decide +kernel)) rfl rfl (Nat.le_of_ble_eq_true rfl) ?_
    refine sp_Mo_of M.1.1 (by decide) (by decide) ?_
    show Wx g y_Mo_fate Z K 84 [vR 174, vI n, vI p, vI w, vI (b : Int), vI ((m + 1 : Nat) : Int)] [vI (t 3), vI ((m + 1 : Nat) : Int)] σ
    refine x_icmp_ge (tgt := 129) (dat d_Mo_fate 48 rfl) (by decide) (fun c_84 => (by omega)) (fun c_84 => ?_)
    refine x_aload_n (dat d_Mo_fate 49 rfl) rfl rfl ?_
    refine x_getr (r := 181) (dat d_Mo_fate 50 rfl) rfl f_Mo_29 (or_mk (by decide +kernel)) ?_
    refine x_bipush (dat d_Mo_fate 51 rfl) (by decide) (by decide) ?_
    refine x_iload (dat d_Mo_fate 52 rfl) rfl ?_
    refine x_imul (v := 8 * ((m + 1 : Nat) : Int)) (dat d_Mo_fate 53 rfl) (by omega) (by omega) ?_
    refine x_iload_n (dat d_Mo_fate 54 rfl) rfl rfl ?_
    refine x_iadd (v := (8 * ((m + 1 : Nat) : Int)) + p) (dat d_Mo_fate 55 rfl) rfl (by omega) ?_
    refine x_iald (n := 192) (v := (rst C (m + 1 + 1)).1 p) (dat d_Mo_fate 56 rfl) (ai_mk (by decide +kernel)) (by omega) (by omega) (f1) ?_
    refine x_aload_n (dat d_Mo_fate 57 rfl) rfl rfl ?_
    refine x_getr (r := 181) (dat d_Mo_fate 58 rfl) rfl f_Mo_29 (or_mk (by decide +kernel)) ?_
    refine x_bipush (dat d_Mo_fate 59 rfl) (by decide) (by decide) ?_
    refine x_iload (dat d_Mo_fate 60 rfl) rfl ?_
    refine x_imul (v := 8 * (b : Int)) (dat d_Mo_fate 61 rfl) (by omega) (by omega) ?_
    refine x_iload_n (dat d_Mo_fate 62 rfl) rfl rfl ?_
    refine x_iadd (v := (8 * (b : Int)) + p) (dat d_Mo_fate 63 rfl) rfl (by omega) ?_
    refine x_iald (n := 192) (v := (rst C (b + 1)).1 p) (dat d_Mo_fate 64 rfl) (ai_mk (by decide +kernel)) (by omega) (by omega) (f2) ?_
    refine x_icmp_le (tgt := 119) (dat d_Mo_fate 65 rfl) (by decide) (fun c_111 => ?_) (fun c_111 => ?_)
    · refine x_iload (dat d_Mo_fate 68 rfl) rfl ?_
      refine x_istore (L' := [vR 174, vI n, vI p, vI w, vI (b : Int), vI ((m + 1 : Nat) : Int)]) (dat d_Mo_fate 69 rfl) (by decide) rfl rfl ?_
      refine x_iinc (v' := ((m + 1 + 1 : Nat) : Int)) (L' := [vR 174, vI n, vI p, vI w, vI (b : Int), vI ((m + 1 + 1 : Nat) : Int)]) (dat d_Mo_fate 70 rfl) rfl (by decide) rfl (by omega) (by omega) rfl ?_
      refine x_goto (tgt := 77) (dat d_Mo_fate 71 rfl) (by decide) ?_
      first
      | (rw [if_pos (by omega)] at ih2; exact ih2)
      | (rw [if_neg (by omega)] at ih2; exact ih2)
    · refine x_iload (dat d_Mo_fate 66 rfl) rfl ?_
      refine x_goto (tgt := 121) (dat d_Mo_fate 67 rfl) (by decide) ?_
      refine x_istore (L' := [vR 174, vI n, vI p, vI w, vI ((m + 1 : Nat) : Int), vI ((m + 1 : Nat) : Int)]) (dat d_Mo_fate 69 rfl) (by decide) rfl rfl ?_
      refine x_iinc (v' := ((m + 1 + 1 : Nat) : Int)) (L' := [vR 174, vI n, vI p, vI w, vI ((m + 1 : Nat) : Int), vI ((m + 1 + 1 : Nat) : Int)]) (dat d_Mo_fate 70 rfl) rfl (by decide) rfl (by omega) (by omega) rfl ?_
      refine x_goto (tgt := 77) (dat d_Mo_fate 71 rfl) (by decide) ?_
      first
      | (rw [if_pos (by omega)] at ih2; exact ih2)
      | (rw [if_neg (by omega)] at ih2; exact ih2)
theorem sp_Mo_fate {p w : Int} (A : MoA σ a) (k : ∀ (r : Int) (σ' : xS), atT a n (-2) (fun t r => fateA t p w r) r → MoA σ' a → MoF σ' σ → K (some (vI r)) σ') : Mt g y_Mo_fate [vR 174, vI n, vI p, vI w] σ K := by
  have k0 : ¬ (0 ≤ n ∧ n < a 0) → K (some (vI (-2))) σ := fun z => k _ σ ⟨fun _ => rfl, fun z1 z2 => absurd ⟨z1, z2⟩ z⟩ A (MoF.rfl σ)
  have k1 : ∀ (r : Int) (σ' : xS), fateA (tw a n) p w r → 0 ≤ n → n < a 0 → MoA σ' a → MoF σ' σ → K (some (vI r)) σ' := fun r σ' e n0 n1 A1 F1 => k r σ' ⟨fun z => absurd ⟨n0, n1⟩ z, fun _ _ => e⟩ A1 F1
  have c0 : ¬ (0 ≤ p ∧ p < tw a n 6) → fateA (tw a n) p w (-2) := fun z => by unfold fateA; rw [if_pos z]
  have c5 : ¬ (0 ≤ w ∧ w ≤ 4) → fateA (tw a n) p w (-2) := fun z => by
    unfold fateA
    split
    · rfl
    · rw [if_neg (by omega), if_neg (by omega), if_neg (by omega), if_neg (by omega), if_neg (by omega)]
  refine x_enter 2 rfl rfl rfl (fun Z => ?_)
  show Wx g y_Mo_fate Z K 0 [vR 174, vI n, vI p, vI w, vU, vU] [] σ
  refine x_aload_n (dat d_Mo_fate 0 rfl) rfl rfl ?_
  refine x_iload_n (dat d_Mo_fate 1 rfl) rfl rfl ?_
  refine x_inv (As := [vI n]) (dat d_Mo_fate 2 rfl) rfl c_Mo_isTown l_Mo_205 (by decide) (rv_mo (by decide +kernel)) rfl rfl (Nat.le_of_ble_eq_true rfl) ?_
  refine sp_Mo_isTown A (fun σ1 t0 n0 n1 H P Z1 A1 F => ?_) (fun n01 => ?_)
  · show Wx g y_Mo_fate Z K 5 [vR 174, vI n, vI p, vI w, vU, vU] [vI 1] σ1
    refine x_if_eq (tgt := 25) (dat d_Mo_fate 3 rfl) (by decide) (fun h => absurd h (by decide)) (fun c_5 => ?_)
    refine x_aload_n (dat d_Mo_fate 4 rfl) rfl rfl ?_
    refine x_iload_n (dat d_Mo_fate 5 rfl) rfl rfl ?_
    refine x_inv (As := [vI p]) (dat d_Mo_fate 6 rfl) rfl c_Mo_isPerson l_Mo_208 (by decide) (rv_mo (by decide +kernel)) rfl rfl (Nat.le_of_ble_eq_true rfl) ?_
    refine sp_Mo_isPerson H.1.1 H.1.2 (fun p0 p1 => ?_) (fun p01 => ?_)
    · show Wx g y_Mo_fate Z K 13 [vR 174, vI n, vI p, vI w, vU, vU] [vI 1] σ1
      refine x_if_eq (tgt := 25) (dat d_Mo_fate 7 rfl) (by decide) (fun h => absurd h (by decide)) (fun c_13 => ?_)
      refine x_iload_n (dat d_Mo_fate 8 rfl) rfl rfl ?_
      refine x_iconst (dat d_Mo_fate 9 rfl) (by decide) ?_
      refine x_iconst (dat d_Mo_fate 10 rfl) (by decide) ?_
      refine x_invs (As := [vI w, vI 0, vI 4]) (dat d_Mo_fate 11 rfl) rfl c_Mo_isIn l_Mo_136 (by decide) rfl rfl (Nat.le_of_ble_eq_true rfl) ?_
      refine sp_Mo_isIn (fun x1 x2 => ?_) (fun x1 => ?_)
      · show Wx g y_Mo_fate Z K 22 [vR 174, vI n, vI p, vI w, vU, vU] [vI 1] σ1
        refine x_if_ne (tgt := 28) (dat d_Mo_fate 12 rfl) (by decide) (fun c_22 => ?_) (fun h => absurd h (by decide))
        refine x_aload_n (dat d_Mo_fate 15 rfl) rfl rfl ?_
        refine x_inv (As := []) (dat d_Mo_fate 16 rfl) rfl c_Mo_runs l_Mo_336 (by decide) (rv_mo (by decide +kernel)) rfl rfl (Nat.le_of_ble_eq_true rfl) ?_
        refine sp_Mo_runsP H P (fun σ2 R => ?_)
        have hC := H.2.1.2
        have hH := cH_eq hC
        have t6 := H.1.2.2.2.2.2.2.2.1
        obtain ⟨r1, r2, r3, r4⟩ := R.p p0 p1
        have M2 := H.same R.2.2.2
        have F2 := F.trans R.2.2.2.mo
        have A2 := A.same F2
        have neg : ¬ ¬ (0 ≤ p ∧ p < tw a n 6) := fun z => z ⟨p0, p1⟩
        have k2 : ∀ r : Int, fateA (tw a n) p w r → K (some (vI r)) σ2 := fun r e => k1 r σ2 e n0 n1 A2 F2
        have eh : cH (cfg (tw a n)) = (tw a n 3).toNat := rfl
        show Wx g y_Mo_fate Z K 32 [vR 174, vI n, vI p, vI w, vU, vU] [] σ2
        refine x_iload_n (dat d_Mo_fate 17 rfl) rfl rfl ?_
        refine x_iconst (dat d_Mo_fate 18 rfl) (by decide) ?_
        refine x_icmp_ge (tgt := 71) (dat d_Mo_fate 19 rfl) (by decide) (fun c_34 => ?_) (fun c_34 => ?_)
        · refine x_iconst (dat d_Mo_fate 40 rfl) (by decide) ?_
          refine x_istore (L' := [vR 174, vI n, vI p, vI w, vI 0, vU]) (dat d_Mo_fate 41 rfl) (by decide) rfl rfl ?_
          refine x_iconst (dat d_Mo_fate 42 rfl) (by decide) ?_
          refine x_istore (L' := [vR 174, vI n, vI p, vI w, vI 0, vI 1]) (dat d_Mo_fate 43 rfl) (by decide) rfl rfl ?_
          refine lp_Mo_fate M2 R p0 p1 ?_ (cH (cfg (tw a n)) - 1) 0 (by omega)
          have al := amx_le (fun h => (rst (cfg (tw a n)) (h + 1)).1 p) (cH (cfg (tw a n)) - 1)
          have f2 := R.hd (j := amx (fun h => (rst (cfg (tw a n)) (h + 1)).1 p) (cH (cfg (tw a n)) - 1)) (p := p) (by omega) p0 p1
          have q3 : w = 3 → fateA (tw a n) p w ((rst (cfg (tw a n)) (amx (fun h => (rst (cfg (tw a n)) (h + 1)).1 p) (cH (cfg (tw a n)) - 1) + 1)).1 p) := fun w3 => by
            unfold fateA
            rw [if_neg neg, if_neg (by omega), if_neg (by omega), if_neg (by omega), if_pos w3]
            rfl
          have q4 : w = 4 → fateA (tw a n) p w ((amx (fun h => (rst (cfg (tw a n)) (h + 1)).1 p) (cH (cfg (tw a n)) - 1) : Nat) : Int) := fun w4 => by
            unfold fateA
            rw [if_neg neg, if_neg (by omega), if_neg (by omega), if_neg (by omega), if_neg (by omega), if_pos w4]
            rfl
          generalize amx (fun h => (rst (cfg (tw a n)) (h + 1)).1 p) (cH (cfg (tw a n)) - 1) = b at *
          refine x_iload_n (dat d_Mo_fate 72 rfl) rfl rfl ?_
          refine x_iconst (dat d_Mo_fate 73 rfl) (by decide) ?_
          refine x_icmp_ne (tgt := 149) (dat d_Mo_fate 74 rfl) (by decide) (fun c_131 => ?_) (fun c_131 => ?_)
          · refine x_iload (dat d_Mo_fate 84 rfl) rfl ?_
            refine x_iret (dat d_Mo_fate 85 rfl) rfl ?_
            first
            | exact k2 _ (q3 (by omega))
            | exact k2 _ (q4 (by omega))
          · refine x_aload_n (dat d_Mo_fate 75 rfl) rfl rfl ?_
            refine x_getr (r := 181) (dat d_Mo_fate 76 rfl) rfl f_Mo_29 (or_mk (by decide +kernel)) ?_
            refine x_bipush (dat d_Mo_fate 77 rfl) (by decide) (by decide) ?_
            refine x_iload (dat d_Mo_fate 78 rfl) rfl ?_
            refine x_imul (v := 8 * (b : Int)) (dat d_Mo_fate 79 rfl) (by omega) (by omega) ?_
            refine x_iload_n (dat d_Mo_fate 80 rfl) rfl rfl ?_
            refine x_iadd (v := (8 * (b : Int)) + p) (dat d_Mo_fate 81 rfl) rfl (by omega) ?_
            refine x_iald (n := 192) (v := (rst (cfg (tw a n)) (b + 1)).1 p) (dat d_Mo_fate 82 rfl) (ai_mk (by decide +kernel)) (by omega) (by omega) (f2) ?_
            refine x_goto (tgt := 151) (dat d_Mo_fate 83 rfl) (by decide) ?_
            refine x_iret (dat d_Mo_fate 85 rfl) rfl ?_
            first
            | exact k2 _ (q3 (by omega))
            | exact k2 _ (q4 (by omega))
        · refine x_iload_n (dat d_Mo_fate 20 rfl) rfl rfl ?_
          refine x_if_ne (tgt := 50) (dat d_Mo_fate 21 rfl) (by decide) (fun c_38 => ?_) (fun c_38 => ?_)
          · refine x_iload_n (dat d_Mo_fate 27 rfl) rfl rfl ?_
            refine x_iconst (dat d_Mo_fate 28 rfl) (by decide) ?_
            refine x_icmp_ne (tgt := 64) (dat d_Mo_fate 29 rfl) (by decide) (fun c_52 => ?_) (fun c_52 => ?_)
            · refine x_aload_n (dat d_Mo_fate 35 rfl) rfl rfl ?_
              refine x_getr (r := 193) (dat d_Mo_fate 36 rfl) rfl f_Mo_65 (or_mk (by decide +kernel)) ?_
              refine x_iload_n (dat d_Mo_fate 37 rfl) rfl rfl ?_
              refine x_iald (n := 8) (v := σ2 193 p) (dat d_Mo_fate 38 rfl) (ai_mk (by decide +kernel)) (by omega) (by omega) rfl ?_
              refine x_iret (dat d_Mo_fate 39 rfl) rfl ?_
              first
              | exact k0 n01
              | exact k1 _ _ (c0 p01) n0 n1 A1 F
              | exact k1 _ _ (c5 x1) n0 n1 A1 F
              | (refine k2 _ ?_
                 unfold fateA
                 rw [if_neg neg]
                 first
                 | (rw [if_pos (by omega)]; exact r3)
                 | (rw [if_neg (by omega), if_pos (by omega)]; exact r1)
                 | (rw [if_neg (by omega), if_neg (by omega), if_pos (by omega)]; exact r2))
            · refine x_aload_n (dat d_Mo_fate 30 rfl) rfl rfl ?_
              refine x_getr (r := 192) (dat d_Mo_fate 31 rfl) rfl f_Mo_62 (or_mk (by decide +kernel)) ?_
              refine x_iload_n (dat d_Mo_fate 32 rfl) rfl rfl ?_
              refine x_iald (n := 8) (v := σ2 192 p) (dat d_Mo_fate 33 rfl) (ai_mk (by decide +kernel)) (by omega) (by omega) rfl ?_
              refine x_goto (tgt := 70) (dat d_Mo_fate 34 rfl) (by decide) ?_
              refine x_iret (dat d_Mo_fate 39 rfl) rfl ?_
              first
              | exact k0 n01
              | exact k1 _ _ (c0 p01) n0 n1 A1 F
              | exact k1 _ _ (c5 x1) n0 n1 A1 F
              | (refine k2 _ ?_
                 unfold fateA
                 rw [if_neg neg]
                 first
                 | (rw [if_pos (by omega)]; exact r3)
                 | (rw [if_neg (by omega), if_pos (by omega)]; exact r1)
                 | (rw [if_neg (by omega), if_neg (by omega), if_pos (by omega)]; exact r2))
          · refine x_aload_n (dat d_Mo_fate 22 rfl) rfl rfl ?_
            refine x_getr (r := 191) (dat d_Mo_fate 23 rfl) rfl f_Mo_59 (or_mk (by decide +kernel)) ?_
            refine x_iload_n (dat d_Mo_fate 24 rfl) rfl rfl ?_
            refine x_iald (n := 8) (v := σ2 191 p) (dat d_Mo_fate 25 rfl) (ai_mk (by decide +kernel)) (by omega) (by omega) rfl ?_
            refine x_goto (tgt := 70) (dat d_Mo_fate 26 rfl) (by decide) ?_
            refine x_iret (dat d_Mo_fate 39 rfl) rfl ?_
            first
            | exact k0 n01
            | exact k1 _ _ (c0 p01) n0 n1 A1 F
            | exact k1 _ _ (c5 x1) n0 n1 A1 F
            | (refine k2 _ ?_
               unfold fateA
               rw [if_neg neg]
               first
               | (rw [if_pos (by omega)]; exact r3)
               | (rw [if_neg (by omega), if_pos (by omega)]; exact r1)
               | (rw [if_neg (by omega), if_neg (by omega), if_pos (by omega)]; exact r2))
      · show Wx g y_Mo_fate Z K 22 [vR 174, vI n, vI p, vI w, vU, vU] [vI 0] σ1
        refine x_if_ne (tgt := 28) (dat d_Mo_fate 12 rfl) (by decide) (fun h => absurd h (by decide)) (fun c_22 => ?_)
        refine x_bipush (dat d_Mo_fate 13 rfl) (by decide) (by decide) ?_
        refine x_iret (dat d_Mo_fate 14 rfl) rfl ?_
        first
        | exact k0 n01
        | exact k1 _ _ (c0 p01) n0 n1 A1 F
        | exact k1 _ _ (c5 x1) n0 n1 A1 F
        | (refine k2 _ ?_
           unfold fateA
           rw [if_neg neg]
           first
           | (rw [if_pos (by omega)]; exact r3)
           | (rw [if_neg (by omega), if_pos (by omega)]; exact r1)
           | (rw [if_neg (by omega), if_neg (by omega), if_pos (by omega)]; exact r2))
    · show Wx g y_Mo_fate Z K 13 [vR 174, vI n, vI p, vI w, vU, vU] [vI 0] σ1
      refine x_if_eq (tgt := 25) (dat d_Mo_fate 7 rfl) (by decide) (fun c_13 => ?_) (fun h => absurd h (by decide))
      refine x_bipush (dat d_Mo_fate 13 rfl) (by decide) (by decide) ?_
      refine x_iret (dat d_Mo_fate 14 rfl) rfl ?_
      first
      | exact k0 n01
      | exact k1 _ _ (c0 p01) n0 n1 A1 F
      | exact k1 _ _ (c5 x1) n0 n1 A1 F
      | (refine k2 _ ?_
         unfold fateA
         rw [if_neg neg]
         first
         | (rw [if_pos (by omega)]; exact r3)
         | (rw [if_neg (by omega), if_pos (by omega)]; exact r1)
         | (rw [if_neg (by omega), if_neg (by omega), if_pos (by omega)]; exact r2))
  · show Wx g y_Mo_fate Z K 5 [vR 174, vI n, vI p, vI w, vU, vU] [vI 0] σ
    refine x_if_eq (tgt := 25) (dat d_Mo_fate 3 rfl) (by decide) (fun c_5 => ?_) (fun h => absurd h (by decide))
    refine x_bipush (dat d_Mo_fate 13 rfl) (by decide) (by decide) ?_
    refine x_iret (dat d_Mo_fate 14 rfl) rfl ?_
    first
    | exact k0 n01
    | exact k1 _ _ (c0 p01) n0 n1 A1 F
    | exact k1 _ _ (c5 x1) n0 n1 A1 F
    | (refine k2 _ ?_
       unfold fateA
       rw [if_neg neg]
       first
       | (rw [if_pos (by omega)]; exact r3)
       | (rw [if_neg (by omega), if_pos (by omega)]; exact r1)
       | (rw [if_neg (by omega), if_neg (by omega), if_pos (by omega)]; exact r2))
end
