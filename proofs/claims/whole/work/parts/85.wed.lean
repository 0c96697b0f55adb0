/-! the twin's answers: a wedding, a loaf */ -/
section
variable {g : xG} {K : Option MV → xS → Prop} {σ σ0 : xS} {t : Int → Int} {t0 : Int} {a : Int → Int} {n : Int} {C : Cf}
theorem sp_Mo_wedding {h c w : Int} (A : MoA σ a) (k : ∀ (r : Int) (σ' : xS), atT a n (-1) (fun t r => wedA t h c w r) r → MoA σ' a → MoF σ' σ → K (some (vI r)) σ') : Mt g y_Mo_wedding [vR 174, vI n, vI h, vI c, vI w] σ K := by
  have k0 : ¬ (0 ≤ n ∧ n < a 0) → K (some (vI (-1))) σ := fun z => k _ σ ⟨fun _ => rfl, fun z1 z2 => absurd ⟨z1, z2⟩ z⟩ A (MoF.rfl σ)
  have k1 : ∀ (r : Int) (σ' : xS), wedA (tw a n) h c w r → 0 ≤ n → n < a 0 → MoA σ' a → MoF σ' σ → K (some (vI r)) σ' := fun r σ' e n0 n1 A1 F1 => k r σ' ⟨fun z => absurd ⟨n0, n1⟩ z, fun _ _ => e⟩ A1 F1
  have c0 : ¬ (((0 ≤ h ∧ h < tw a n 3) ∧ (0 ≤ c ∧ c < tw a n 0 * tw a n 1)) ∧ (0 ≤ w ∧ w ≤ 2)) → wedA (tw a n) h c w (-1) := fun z => by unfold wedA; rw [if_pos z]
  refine x_enter 1 rfl rfl rfl (fun Z => ?_)
  show Wx g y_Mo_wedding Z K 0 [vR 174, vI n, vI h, vI c, vI w, vU] [] σ
  refine x_aload_n (dat d_Mo_wedding 0 rfl) rfl rfl ?_
  refine x_iload_n (dat d_Mo_wedding 1 rfl) rfl rfl ?_
  refine x_inv (As := [vI n]) (dat d_Mo_wedding 2 rfl) rfl c_Mo_isTown l_Mo_205 (by decide) (rv_mo (by decide +kernel)) rfl rfl (Nat.le_of_ble_eq_true rfl) ?_
  refine sp_Mo_isTown A (fun σ1 t0 n0 n1 H P Z1 A1 F => ?_) (fun n01 => ?_)
  · show Wx g y_Mo_wedding Z K 5 [vR 174, vI n, vI h, vI c, vI w, vU] [vI 1] σ1
    refine x_if_eq (tgt := 40) (dat d_Mo_wedding 3 rfl) (by decide) (fun h => absurd h (by decide)) (fun c_5 => ?_)
    refine x_aload_n (dat d_Mo_wedding 4 rfl) rfl rfl ?_
    refine x_iload_n (dat d_Mo_wedding 5 rfl) rfl rfl ?_
    refine x_inv (As := [vI h]) (dat d_Mo_wedding 6 rfl) rfl c_Mo_isHour l_Mo_342 (by decide) (rv_mo (by decide +kernel)) rfl rfl (Nat.le_of_ble_eq_true rfl) ?_
    refine sp_Mo_isHour H.1.1 H.1.2 (fun h0 h1 => ?_) (fun h01 => ?_)
    · show Wx g y_Mo_wedding Z K 13 [vR 174, vI n, vI h, vI c, vI w, vU] [vI 1] σ1
      refine x_if_eq (tgt := 40) (dat d_Mo_wedding 7 rfl) (by decide) (fun h => absurd h (by decide)) (fun c_13 => ?_)
      refine x_iload_n (dat d_Mo_wedding 8 rfl) rfl rfl ?_
      refine x_iconst (dat d_Mo_wedding 9 rfl) (by decide) ?_
      refine x_aload_n (dat d_Mo_wedding 10 rfl) rfl rfl ?_
      refine x_inv (As := []) (dat d_Mo_wedding 11 rfl) rfl c_Mo_cells l_Mo_373 (by decide) (rv_mo (by decide +kernel)) rfl rfl (Nat.le_of_ble_eq_true rfl) ?_
      refine sp_Mo_cells H.1.1 H.1.2 ?_
      obtain ⟨q0, q1⟩ := H.1.2.2.1
      have q2 := H.1.2.1
      have cb1 : tw a n 0 * tw a n 1 ≤ 6 * 6 := Int.mul_le_mul (by omega) (by omega) (by omega) (by omega)
      have cb2 : 0 ≤ tw a n 0 * tw a n 1 := Int.mul_nonneg (by omega) (by omega)
      show Wx g y_Mo_wedding Z K 22 [vR 174, vI n, vI h, vI c, vI w, vU] [vI (tw a n 0 * tw a n 1), vI 0, vI c] σ1
      refine x_iconst (dat d_Mo_wedding 12 rfl) (by decide) ?_
      refine x_isub (v := (tw a n 0 * tw a n 1) - 1) (dat d_Mo_wedding 13 rfl) rfl (by omega) ?_
      refine x_invs (As := [vI c, vI 0, vI ((tw a n 0 * tw a n 1) - 1)]) (dat d_Mo_wedding 14 rfl) rfl c_Mo_isIn l_Mo_136 (by decide) rfl rfl (Nat.le_of_ble_eq_true rfl) ?_
      refine sp_Mo_isIn (fun y1 y2 => ?_) (fun y1 => ?_)
      · show Wx g y_Mo_wedding Z K 27 [vR 174, vI n, vI h, vI c, vI w, vU] [vI 1] σ1
        refine x_if_eq (tgt := 40) (dat d_Mo_wedding 15 rfl) (by decide) (fun h => absurd h (by decide)) (fun c_27 => ?_)
        refine x_iload (dat d_Mo_wedding 16 rfl) rfl ?_
        refine x_iconst (dat d_Mo_wedding 17 rfl) (by decide) ?_
        refine x_iconst (dat d_Mo_wedding 18 rfl) (by decide) ?_
        refine x_invs (As := [vI w, vI 0, vI 2]) (dat d_Mo_wedding 19 rfl) rfl c_Mo_isIn l_Mo_136 (by decide) rfl rfl (Nat.le_of_ble_eq_true rfl) ?_
        refine sp_Mo_isIn (fun x1 x2 => ?_) (fun x1 => ?_)
        · show Wx g y_Mo_wedding Z K 37 [vR 174, vI n, vI h, vI c, vI w, vU] [vI 1] σ1
          refine x_if_ne (tgt := 42) (dat d_Mo_wedding 20 rfl) (by decide) (fun c_37 => ?_) (fun h => absurd h (by decide))
          refine x_aload_n (dat d_Mo_wedding 23 rfl) rfl rfl ?_
          refine x_iload_n (dat d_Mo_wedding 24 rfl) rfl rfl ?_
          refine x_puti (ji := 27) (x := (h)) (dat d_Mo_wedding 25 rfl) rfl f_Mo_235w (oi_mk (by decide +kernel)) (fun h => absurd h (by decide)) (by decide) ?_
          refine x_aload_n (dat d_Mo_wedding 26 rfl) rfl rfl ?_
          refine x_iload_n (dat d_Mo_wedding 27 rfl) rfl rfl ?_
          refine x_puti (ji := 28) (x := (c)) (dat d_Mo_wedding 28 rfl) rfl f_Mo_265w (oi_mk (by decide +kernel)) (fun h => absurd h (by decide)) (by decide) ?_
          refine x_aload_n (dat d_Mo_wedding 29 rfl) rfl rfl ?_
          refine x_inv (As := []) (dat d_Mo_wedding 30 rfl) rfl c_Mo_starved l_Mo_370 (by decide) (rv_mo (by decide +kernel)) rfl rfl (Nat.le_of_ble_eq_true rfl) ?_
          refine sp_Mo_starved (k_wed (c := c) H P Z1 h0) (by rw [up_ni (by decide), up_ni (by decide)]; exact P.2.2.1.1) (by rw [up_ni (by decide), up_ni (by decide)]; exact P.2.2.2.1) (by rw [up_ni (by decide), up_ni (by decide)]; exact P.2.2.1.2) (by rw [up_ni (by decide), up_ni (by decide)]; exact P.2.2.2.2) (Or.inl rfl) (fun σ2 R => ?_)
          have t3 := H.1.2.2.2.2.1
          have F2 := ((F.put (i := 27) (v := h) (by decide)).put (i := 28) (v := c) (by decide)).trans R.2.2.2.mo
          have A2 := A.same F2
          have M2 := (k_wed (c := c) H P Z1 h0).same R.2.2.2
          obtain ⟨r1, r2, r3⟩ := R.hr M2.2.1.2 h0 h1
          have neg : ¬ ¬ (((0 ≤ h ∧ h < tw a n 3) ∧ (0 ≤ c ∧ c < tw a n 0 * tw a n 1)) ∧ (0 ≤ w ∧ w ≤ 2)) := fun z => z ⟨⟨⟨h0, h1⟩, y1, by omega⟩, x1, x2⟩
          have k2 : ∀ r : Int, wedA (tw a n) h c w r → K (some (vI r)) σ2 := fun r e => k1 r σ2 e n0 n1 A2 F2
          show Wx g y_Mo_wedding Z K 56 [vR 174, vI n, vI h, vI c, vI w, vU] [vI (stv (wedC (tw a n) h c))] σ2
          refine x_istore (L' := [vR 174, vI n, vI h, vI c, vI w, vI (stv (wedC (tw a n) h c))]) (dat d_Mo_wedding 31 rfl) (by decide) rfl rfl ?_
          refine x_iload (dat d_Mo_wedding 32 rfl) rfl ?_
          refine x_if_ne (tgt := 72) (dat d_Mo_wedding 33 rfl) (by decide) (fun c_60 => ?_) (fun c_60 => ?_)
          · refine x_iload (dat d_Mo_wedding 39 rfl) rfl ?_
            refine x_iconst (dat d_Mo_wedding 40 rfl) (by decide) ?_
            refine x_icmp_ne (tgt := 91) (dat d_Mo_wedding 41 rfl) (by decide) (fun c_75 => ?_) (fun c_75 => ?_)
            · refine x_iload (dat d_Mo_wedding 49 rfl) rfl ?_
              refine x_iret (dat d_Mo_wedding 50 rfl) rfl ?_
              first
              | exact k0 n01
              | exact k1 _ _ (c0 (fun w => h01 w.1.1)) n0 n1 A1 F
              | exact k1 _ _ (c0 (fun w => y1 ⟨w.1.2.1, by omega⟩)) n0 n1 A1 F
              | exact k1 _ _ (c0 (fun w => x1 w.2)) n0 n1 A1 F
              | (refine k2 _ ?_
                 unfold wedA
                 rw [if_neg neg]
                 first
                 | (rw [if_pos (by omega)]; exact r1)
                 | (rw [if_neg (by omega), if_pos (by omega)])
                 | (rw [if_neg (by omega), if_neg (by omega)]))
            · refine x_aload_n (dat d_Mo_wedding 42 rfl) rfl rfl ?_
              refine x_aload_n (dat d_Mo_wedding 43 rfl) rfl rfl ?_
              refine x_iload_n (dat d_Mo_wedding 44 rfl) rfl rfl ?_
              refine x_inv (As := [vI h]) (dat d_Mo_wedding 45 rfl) rfl c_Mo_livedOf l_Mo_345 (by decide) (rv_mo (by decide +kernel)) rfl rfl (Nat.le_of_ble_eq_true rfl) ?_
              refine sp_Mo_livedOf M2 R h0 h1 (fun m hm => ?_)
              show Wx g y_Mo_wedding Z K 84 [vR 174, vI n, vI h, vI c, vI w, vI (stv (wedC (tw a n) h c))] [vI m, vR 174] σ2
              refine x_iload_n (dat d_Mo_wedding 46 rfl) rfl rfl ?_
              refine x_inv (As := [vI m, vI h]) (dat d_Mo_wedding 47 rfl) rfl c_Mo_richestOf l_Mo_361 (by decide) (rv_mo (by decide +kernel)) rfl rfl (Nat.le_of_ble_eq_true rfl) ?_
              refine sp_Mo_richestOf M2 R hm h0 h1 ?_
              show Wx g y_Mo_wedding Z K 88 [vR 174, vI n, vI h, vI c, vI w, vI (stv (wedC (tw a n) h c))] [vI (rcs (rst (wedC (tw a n) h c) (h.toNat + 1)).2 (rst (wedC (tw a n) h c) (h.toNat + 1)).1 (tw a n 6).toNat)] σ2
              refine x_goto (tgt := 93) (dat d_Mo_wedding 48 rfl) (by decide) ?_
              refine x_iret (dat d_Mo_wedding 50 rfl) rfl ?_
              first
              | exact k0 n01
              | exact k1 _ _ (c0 (fun w => h01 w.1.1)) n0 n1 A1 F
              | exact k1 _ _ (c0 (fun w => y1 ⟨w.1.2.1, by omega⟩)) n0 n1 A1 F
              | exact k1 _ _ (c0 (fun w => x1 w.2)) n0 n1 A1 F
              | (refine k2 _ ?_
                 unfold wedA
                 rw [if_neg neg]
                 first
                 | (rw [if_pos (by omega)]; exact r1)
                 | (rw [if_neg (by omega), if_pos (by omega)])
                 | (rw [if_neg (by omega), if_neg (by omega)]))
          · refine x_aload_n (dat d_Mo_wedding 34 rfl) rfl rfl ?_
            refine x_getr (r := 185) (dat d_Mo_wedding 35 rfl) rfl f_Mo_41 (or_mk (by decide +kernel)) ?_
            refine x_iload_n (dat d_Mo_wedding 36 rfl) rfl rfl ?_
            refine x_iald (n := 24) (v := σ2 185 h) (dat d_Mo_wedding 37 rfl) (ai_mk (by decide +kernel)) (by omega) (by omega) rfl ?_
            refine x_goto (tgt := 93) (dat d_Mo_wedding 38 rfl) (by decide) ?_
            refine x_iret (dat d_Mo_wedding 50 rfl) rfl ?_
            first
            | exact k0 n01
            | exact k1 _ _ (c0 (fun w => h01 w.1.1)) n0 n1 A1 F
            | exact k1 _ _ (c0 (fun w => y1 ⟨w.1.2.1, by omega⟩)) n0 n1 A1 F
            | exact k1 _ _ (c0 (fun w => x1 w.2)) n0 n1 A1 F
            | (refine k2 _ ?_
               unfold wedA
               rw [if_neg neg]
               first
               | (rw [if_pos (by omega)]; exact r1)
               | (rw [if_neg (by omega), if_pos (by omega)])
               | (rw [if_neg (by omega), if_neg (by omega)]))
        · show Wx g y_Mo_wedding Z K 37 [vR 174, vI n, vI h, vI c, vI w, vU] [vI 0] σ1
          refine x_if_ne (tgt := 42) (dat d_Mo_wedding 20 rfl) (by decide) (fun h => absurd h (by decide)) (fun c_37 => ?_)
          refine x_iconst (dat d_Mo_wedding 21 rfl) (by decide) ?_
          refine x_iret (dat d_Mo_wedding 22 rfl) rfl ?_
          first
          | exact k0 n01
          | exact k1 _ _ (c0 (fun w => h01 w.1.1)) n0 n1 A1 F
          | exact k1 _ _ (c0 (fun w => y1 ⟨w.1.2.1, by omega⟩)) n0 n1 A1 F
          | exact k1 _ _ (c0 (fun w => x1 w.2)) n0 n1 A1 F
          | (refine k2 _ ?_
             unfold wedA
             rw [if_neg neg]
             first
             | (rw [if_pos (by omega)]; exact r1)
             | (rw [if_neg (by omega), if_pos (by omega)])
             | (rw [if_neg (by omega), if_neg (by omega)]))
      · show Wx g y_Mo_wedding Z K 27 [vR 174, vI n, vI h, vI c, vI w, vU] [vI 0] σ1
        refine x_if_eq (tgt := 40) (dat d_Mo_wedding 15 rfl) (by decide) (fun c_27 => ?_) (fun h => absurd h (by decide))
        refine x_iconst (dat d_Mo_wedding 21 rfl) (by decide) ?_
        refine x_iret (dat d_Mo_wedding 22 rfl) rfl ?_
        first
        | exact k0 n01
        | exact k1 _ _ (c0 (fun w => h01 w.1.1)) n0 n1 A1 F
        | exact k1 _ _ (c0 (fun w => y1 ⟨w.1.2.1, by omega⟩)) n0 n1 A1 F
        | exact k1 _ _ (c0 (fun w => x1 w.2)) n0 n1 A1 F
        | (refine k2 _ ?_
           unfold wedA
           rw [if_neg neg]
           first
           | (rw [if_pos (by omega)]; exact r1)
           | (rw [if_neg (by omega), if_pos (by omega)])
           | (rw [if_neg (by omega), if_neg (by omega)]))
    · show Wx g y_Mo_wedding Z K 13 [vR 174, vI n, vI h, vI c, vI w, vU] [vI 0] σ1
      refine x_if_eq (tgt := 40) (dat d_Mo_wedding 7 rfl) (by decide) (fun c_13 => ?_) (fun h => absurd h (by decide))
      refine x_iconst (dat d_Mo_wedding 21 rfl) (by decide) ?_
      refine x_iret (dat d_Mo_wedding 22 rfl) rfl ?_
      first
      | exact k0 n01
      | exact k1 _ _ (c0 (fun w => h01 w.1.1)) n0 n1 A1 F
      | exact k1 _ _ (c0 (fun w => y1 ⟨w.1.2.1, by omega⟩)) n0 n1 A1 F
      | exact k1 _ _ (c0 (fun w => x1 w.2)) n0 n1 A1 F
      | (refine k2 _ ?_
         unfold wedA
         rw [if_neg neg]
         first
         | (rw [if_pos (by omega)]; exact r1)
         | (rw [if_neg (by omega), if_pos (by omega)])
         | (rw [if_neg (by omega), if_neg (by omega)]))
  · show Wx g y_Mo_wedding Z K 5 [vR 174, vI n, vI h, vI c, vI w, vU] [vI 0] σ
    refine x_if_eq (tgt := 40) (dat d_Mo_wedding 3 rfl) (by decide) (fun c_5 => ?_) (fun h => absurd h (by decide))
    refine x_iconst (dat d_Mo_wedding 21 rfl) (by decide) ?_
    refine x_iret (dat d_Mo_wedding 22 rfl) rfl ?_
    first
    | exact k0 n01
    | exact k1 _ _ (c0 (fun w => h01 w.1.1)) n0 n1 A1 F
    | exact k1 _ _ (c0 (fun w => y1 ⟨w.1.2.1, by omega⟩)) n0 n1 A1 F
    | exact k1 _ _ (c0 (fun w => x1 w.2)) n0 n1 A1 F
    | (refine k2 _ ?_
       unfold wedA
       rw [if_neg neg]
       first
       | (rw [if_pos (by omega)]; exact r1)
       | (rw [if_neg (by omega), if_pos (by omega)])
       | (rw [if_neg (by omega), if_neg (by omega)]))
/-- what was, kept of the first i -/
def KpS (σ0 σ : xS) (i : Int) : Prop := (∀ j : Int, 0 ≤ j → j < i → σ 195 j = σ0 181 j ∧ σ 196 j = σ0 182 j) ∧ ∀ o : Nat, o ≠ 195 → o ≠ 196 → σ o = σ0 o
theorem lp_Mo_keep {Z : xZ} {n p h m w b : Int} (k : ∀ σ' : xS, KpS σ σ' 192 → Wx g y_Mo_loaf Z K 112 [vR 174, vI n, vI p, vI h, vI m, vI w, vI b, vI 192] [] σ') : ∀ (d i : Nat) (σ1 : xS), i + d = 192 → KpS σ σ1 i → Wx g y_Mo_loaf Z K 70 [vR 174, vI n, vI p, vI h, vI m, vI w, vI b, vI (i : Int)] [] σ1 := by
  intro d
  induction d with
  | zero =>
    intro i σ1 hd S
    have e : i = 192 := by omega
    subst e
    refine x_iload (dat d_Mo_loaf 34 rfl) rfl ?_
    refine x_sipush (dat d_Mo_loaf 35 rfl) (by decide) (by decide) ?_
    refine x_icmp_ge (tgt := 112) (dat d_Mo_loaf 36 rfl) (by decide) (fun c_75 => ?_) (fun c_75 => (by omega))
    exact k σ1 S
  | succ d ih =>
    intro i σ1 hd S
    refine x_iload (dat d_Mo_loaf 34 rfl) rfl ?_
    refine x_sipush (dat d_Mo_loaf 35 rfl) (by decide) (by decide) ?_
    refine x_icmp_ge (tgt := 112) (dat d_Mo_loaf 36 rfl) (by decide) (fun c_75 => (by omega)) (fun c_75 => ?_)
    refine x_aload_n (dat d_Mo_loaf 37 rfl) rfl rfl ?_
    refine x_getr (r := 195) (dat d_Mo_loaf 38 rfl) rfl f_Mo_71 (or_mk (by decide +kernel)) ?_
    refine x_iload (dat d_Mo_loaf 39 rfl) rfl ?_
    refine x_aload_n (dat d_Mo_loaf 40 rfl) rfl rfl ?_
    refine x_getr (r := 181) (dat d_Mo_loaf 41 rfl) rfl f_Mo_29 (or_mk (by decide +kernel)) ?_
    refine x_iload (dat d_Mo_loaf 42 rfl) rfl ?_
    refine x_iald (n := 192) (v := σ1 181 (i : Int)) (dat d_Mo_loaf 43 rfl) (ai_mk (by decide +kernel)) (by omega) (by omega) rfl ?_
    refine x_iast (n := 192) (dat d_Mo_loaf 44 rfl) (ai_mk (by decide +kernel)) (by omega) (by omega) ?_
    refine x_aload_n (dat d_Mo_loaf 45 rfl) rfl rfl ?_
    refine x_getr (r := 196) (dat d_Mo_loaf 46 rfl) rfl f_Mo_74 (or_mk (by decide +kernel)) ?_
    refine x_iload (dat d_Mo_loaf 47 rfl) rfl ?_
    refine x_aload_n (dat d_Mo_loaf 48 rfl) rfl rfl ?_
    refine x_getr (r := 182) (dat d_Mo_loaf 49 rfl) rfl f_Mo_32 (or_mk (by decide +kernel)) ?_
    refine x_iload (dat d_Mo_loaf 50 rfl) rfl ?_
    refine x_iald (n := 192) (v := σ1 182 (i : Int)) (dat d_Mo_loaf 51 rfl) (ai_mk (by decide +kernel)) (by omega) (by omega) (up_nk (by decide)) ?_
    refine x_iast (n := 192) (dat d_Mo_loaf 52 rfl) (ai_mk (by decide +kernel)) (by omega) (by omega) ?_
    refine x_iinc (v' := ((i + 1 : Nat) : Int)) (L' := [vR 174, vI n, vI p, vI h, vI m, vI w, vI b, vI ((i + 1 : Nat) : Int)]) (dat d_Mo_loaf 53 rfl) rfl (by decide) rfl (by omega) (by omega) rfl ?_
    refine x_goto (tgt := 70) (dat d_Mo_loaf 54 rfl) (by decide) ?_
    refine ih (i + 1) _ (by omega) ⟨fun j j0 j1 => ?_, fun o o1 o2 => by rw [up_ne o2, up_ne o1]; exact S.2 o o1 o2⟩
    by_cases z : j = (i : Int)
    · subst z
      refine ⟨?_, ?_⟩
      · rw [up_ne (by decide), up_s, S.2 181 (by decide) (by decide)]
      · rw [up_s]
        first
        | (rw [up_ne (by decide), S.2 182 (by decide) (by decide)])
        | (rw [S.2 182 (by decide) (by decide)])
    · have := S.1 j j0 (by omega)
      refine ⟨?_, ?_⟩
      · rw [up_ne (by decide), up_ni (Ne.symm z)]; exact this.1
      · rw [up_ni (Ne.symm z), up_ne (by decide)]; exact this.2
end
