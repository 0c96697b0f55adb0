/-! the twin's answers: painted */ -/
theorem FirstH.cut {bad : Nat → Prop} {N m : Nat} {v : Int} (h : FirstH bad N v) (hm : m + 1 ≤ N) : FirstH bad (m + 1) (if (m : Int) < v then -1 else v) := by
  rcases h with ⟨h1, h2⟩ | ⟨k, k1, k2, k3, k4⟩
  · rw [if_neg (by omega)]
    exact Or.inl ⟨h1, fun j hj => h2 j (by omega)⟩
  · by_cases z : (m : Int) < v
    · rw [if_pos z]
      exact Or.inl ⟨rfl, fun j hj => k4 j (by omega)⟩
    · rw [if_neg z]
      exact Or.inr ⟨k, by omega, k2, k3, k4⟩
theorem anyN_iff (f : Int → Bool) : ∀ n : Nat, anyN f n = true ↔ ∃ q : Int, 0 ≤ q ∧ q < n ∧ f q = true
  | 0 => ⟨fun w => by simp [anyN] at w, fun ⟨q, q0, q1, _⟩ => by omega⟩
  | n + 1 => by
    have ih := anyN_iff f n
    show (anyN f n || f n) = true ↔ _
    rw [Bool.or_eq_true, ih]
    refine ⟨fun w => ?_, fun ⟨q, q0, q1, q2⟩ => ?_⟩
    · rcases w with ⟨q, q0, q1, q2⟩ | w
      · exact ⟨q, q0, by omega, q2⟩
      · exact ⟨n, by omega, by omega, w⟩
    · by_cases z : q = n
      · rw [z] at q2; exact Or.inr q2
      · exact Or.inl ⟨q, q0, by omega, q2⟩
theorem bitT_iff {C : Cf} (hC : CfOk C) (hl : cS C 6 = -1) (s0 : Int → Bool) (hs : PtOk (cS C 0) (cSt C) s0) (h : Nat) : bitT C s0 h ↔ bitE C s0 h := by
  have e := (twP_pnt hC hl s0 hs h).1
  have el : lof C h (rst C h).1 = (rst C h).1 := by
    unfold lof
    rw [if_neg (fun w => by have := w.1; omega)]
  have eM : twM C s0 h = pnS C s0 h := by
    unfold twM twQ pnS
    rw [el, e]
  unfold bitT bitE
  rw [anyN_iff, eM]
  have key : eats C h = true → ∀ q : Int, (rst C (h + 1)).2 q = fedB C (hmi C h).1 (rst C h).2 q := fun he q => by
    have er : rst C (h + 1) = hst C h (rst C h) := rfl
    rw [er]
    unfold hst
    rw [if_pos he, if_pos he]
    rfl
  refine ⟨fun ⟨w1, w2, q, q0, q1, q2⟩ => ?_, fun ⟨w1, w2, q, q0, q1, q2, q3⟩ => ?_⟩
  · rw [Bool.and_eq_true] at q2
    exact ⟨w2, w1, q, q0, by have := hC.2.1; omega, q2.2, by rw [key w1]; exact q2.1⟩
  · refine ⟨w2, w1, q, q0, ?_, ?_⟩
    · have := rst_al _ q q3
      omega
    · rw [Bool.and_eq_true]
      exact ⟨by rw [← key w2]; exact q3, q2⟩
section
variable {g : xG} {K : Option MV → xS → Prop} {σ σ0 : xS} {t : Int → Int} {t0 : Int} {a : Int → Int} {n : Int} {C : Cf}
theorem sp_Mo_painted {p h w : Int} (A : MoA σ a) (k : ∀ (r : Int) (σ' : xS), atT a n (-2) (fun t r => ptdA t p h w r) r → MoA σ' a → MoF σ' σ → K (some (vI r)) σ') : Mt g y_Mo_painted [vR 174, vI n, vI p, vI h, vI w] σ K := by
  have k0 : ¬ (0 ≤ n ∧ n < a 0) → K (some (vI (-2))) σ := fun z => k _ σ ⟨fun _ => rfl, fun z1 z2 => absurd ⟨z1, z2⟩ z⟩ A (MoF.rfl σ)
  have k1 : ∀ (r : Int) (σ' : xS), ptdA (tw a n) p h w r → 0 ≤ n → n < a 0 → MoA σ' a → MoF σ' σ → K (some (vI r)) σ' := fun r σ' e n0 n1 A1 F1 => k r σ' ⟨fun z => absurd ⟨n0, n1⟩ z, fun _ _ => e⟩ A1 F1
  have c0 : ¬ (((0 ≤ p ∧ p < tw a n 6) ∧ (0 ≤ h ∧ h < tw a n 3)) ∧ 1 ≤ tw a n (22 + 17 * p) ∧ (w = 0 ∨ w = 1)) → ptdA (tw a n) p h w (-2) := fun z => by unfold ptdA; rw [if_pos z]
  have e2 : tw a n (20 + 17 * p + 2) = tw a n (22 + 17 * p) := by congr 1; omega
  refine x_enter 0 rfl rfl rfl (fun Z => ?_)
  show Wx g y_Mo_painted Z K 0 [vR 174, vI n, vI p, vI h, vI w] [] σ
  refine x_aload_n (dat d_Mo_painted 0 rfl) rfl rfl ?_
  refine x_iload_n (dat d_Mo_painted 1 rfl) rfl rfl ?_
  refine x_inv (As := [vI n]) (dat d_Mo_painted 2 rfl) rfl c_Mo_isTown l_Mo_205 (by decide) (rv_mo (by decide +kernel)) rfl rfl (Nat.le_of_ble_eq_true rfl) ?_
  refine sp_Mo_isTown A (fun σ1 t0 n0 n1 H P Z1 A1 F => ?_) (fun n01 => ?_)
  · show Wx g y_Mo_painted Z K 5 [vR 174, vI n, vI p, vI h, vI w] [vI 1] σ1
    refine x_if_eq (tgt := 43) (dat d_Mo_painted 3 rfl) (by decide) (fun h => absurd h (by decide)) (fun c_5 => ?_)
    refine x_aload_n (dat d_Mo_painted 4 rfl) rfl rfl ?_
    refine x_iload_n (dat d_Mo_painted 5 rfl) rfl rfl ?_
    refine x_inv (As := [vI p]) (dat d_Mo_painted 6 rfl) rfl c_Mo_isPerson l_Mo_208 (by decide) (rv_mo (by decide +kernel)) rfl rfl (Nat.le_of_ble_eq_true rfl) ?_
    refine sp_Mo_isPerson H.1.1 H.1.2 (fun p0 p1 => ?_) (fun p01 => ?_)
    · show Wx g y_Mo_painted Z K 13 [vR 174, vI n, vI p, vI h, vI w] [vI 1] σ1
      refine x_if_eq (tgt := 43) (dat d_Mo_painted 7 rfl) (by decide) (fun h => absurd h (by decide)) (fun c_13 => ?_)
      refine x_aload_n (dat d_Mo_painted 8 rfl) rfl rfl ?_
      refine x_iload_n (dat d_Mo_painted 9 rfl) rfl rfl ?_
      refine x_inv (As := [vI h]) (dat d_Mo_painted 10 rfl) rfl c_Mo_isHour l_Mo_342 (by decide) (rv_mo (by decide +kernel)) rfl rfl (Nat.le_of_ble_eq_true rfl) ?_
      refine sp_Mo_isHour H.1.1 H.1.2 (fun h0 h1 => ?_) (fun h01 => ?_)
      · show Wx g y_Mo_painted Z K 21 [vR 174, vI n, vI p, vI h, vI w] [vI 1] σ1
        refine x_if_eq (tgt := 43) (dat d_Mo_painted 11 rfl) (by decide) (fun h => absurd h (by decide)) (fun c_21 => ?_)
        refine x_aload_n (dat d_Mo_painted 12 rfl) rfl rfl ?_
        refine x_iload_n (dat d_Mo_painted 13 rfl) rfl rfl ?_
        refine x_iconst (dat d_Mo_painted 14 rfl) (by decide) ?_
        refine x_inv (As := [vI p, vI 2]) (dat d_Mo_painted 15 rfl) rfl c_Mo_personOf l_Mo_211 (by decide) (rv_mo (by decide +kernel)) rfl rfl (Nat.le_of_ble_eq_true rfl) ?_
        refine sp_Mo_personOf H.1.1 p0 (by have := H.1.2.2.2.2.2.2.2.1; omega) (by decide) (by decide) ?_
        have b22 := (H.1.2.2.2.2.2.2.2.2.2.1 p p0 p1).2.2.1
        rw [e2]
        show Wx g y_Mo_painted Z K 30 [vR 174, vI n, vI p, vI h, vI w] [vI (tw a n (22 + 17 * p))] σ1
        refine x_if_eq (tgt := 43) (dat d_Mo_painted 16 rfl) (by decide) (fun c_30 => ?_) (fun c_30 => ?_)
        · refine x_bipush (dat d_Mo_painted 22 rfl) (by decide) (by decide) ?_
          refine x_iret (dat d_Mo_painted 23 rfl) rfl ?_
          first
          | exact k0 n01
          | exact k1 _ _ (c0 (fun w => p01 w.1.1)) n0 n1 A1 F
          | exact k1 _ _ (c0 (fun w => h01 w.1.2)) n0 n1 A1 F
          | exact k1 _ _ (c0 (fun w => by have := w.2.1; omega)) n0 n1 A1 F
          | exact k1 _ _ (c0 (fun w => x1 (by omega))) n0 n1 A1 F
          | (refine k2 _ ?_
             unfold ptdA
             rw [if_neg neg]
             first
             | (rw [if_pos (by omega)]; exact b8)
             | (rw [if_neg (by omega)]
                first
                | (rw [if_pos (by omega)] at bt; exact bt)
                | (rw [if_neg (by omega)] at bt; exact bt)))
        · refine x_iload (dat d_Mo_painted 17 rfl) rfl ?_
          refine x_iconst (dat d_Mo_painted 18 rfl) (by decide) ?_
          refine x_iconst (dat d_Mo_painted 19 rfl) (by decide) ?_
          refine x_invs (As := [vI w, vI 0, vI 1]) (dat d_Mo_painted 20 rfl) rfl c_Mo_isIn l_Mo_136 (by decide) rfl rfl (Nat.le_of_ble_eq_true rfl) ?_
          refine sp_Mo_isIn (fun x1 x2 => ?_) (fun x1 => ?_)
          · show Wx g y_Mo_painted Z K 40 [vR 174, vI n, vI p, vI h, vI w] [vI 1] σ1
            refine x_if_ne (tgt := 46) (dat d_Mo_painted 21 rfl) (by decide) (fun c_40 => ?_) (fun h => absurd h (by decide))
            refine x_aload_n (dat d_Mo_painted 24 rfl) rfl rfl ?_
            refine x_iconst (dat d_Mo_painted 25 rfl) (by decide) ?_
            refine x_iload_n (dat d_Mo_painted 26 rfl) rfl rfl ?_
            refine x_ishl (v := ishl 1 p) (dat d_Mo_painted 27 rfl) rfl ?_
            refine x_puti (ji := 36) (x := (ishl 1 p)) (dat d_Mo_painted 28 rfl) rfl f_Mo_247w (oi_mk (by decide +kernel)) (fun h => absurd h (by decide)) (by decide) ?_
            refine x_aload_n (dat d_Mo_painted 29 rfl) rfl rfl ?_
            refine x_inv (As := []) (dat d_Mo_painted 30 rfl) rfl c_Mo_runs l_Mo_336 (by decide) (rv_mo (by decide +kernel)) rfl rfl (Nat.le_of_ble_eq_true rfl) ?_
            refine sp_Mo_runs (C := cfg (tw a n)) (t := tw a n) (t0 := t0) (s0 := fun q => decide (q = p)) (n0 := fun _ => false) (i0 := (σ1 174 40, fun _ => false)) (dr := false) (kc := σ1 174 41) (H.put (by decide)) ?_ ⟨?_, ?_⟩ ?_ (Or.inl rfl) ?_ ?_ (fun σ2 R => ?_)
            · rw [up_s]; exact Msk.one (n := 8) (by decide) p0 (by have := H.1.2.2.2.2.2.2.2.1; omega)
            · rw [up_ni (by decide), P.2.2.2.1]; exact Msk.zero 8
            · rw [up_ni (by decide)]
            · rw [up_ni (by decide), P.2.2.1.2]; exact Msk.zero 8
            · rw [up_ni (by decide), P.2.2.2.2]; rfl
            · rw [up_ni (by decide)]
            have F2 := (F.put (i := 36) (v := ishl 1 p) (by decide)).trans R.2.2.2.mo
            have A2 := A.same F2
            have hs : PtOk (cS (cfg (tw a n)) 0) (cSt (cfg (tw a n))) (fun q => decide (q = p)) := fun q hq => by
              have hq2 : q = p := of_decide_eq_true hq
              rw [hq2]
              exact ⟨⟨p0, p1⟩, by show 1 ≤ tw a n (22 + 17 * p); omega⟩
            have th : ((h.toNat : Nat) : Int) = h := by omega
            have t3 := H.1.2.2.2.2.1
            have hN : h.toNat < cH (cfg (tw a n)) := by show h.toNat < (tw a n 3).toNat; omega
            have b8 := (R.2.2.1 h.toNat hN).2.1
            rw [th, (twP_pnt H.2.1.2 rfl _ hs _).1] at b8
            have bt := (R.1.1.2.2.2.2.congr (fun j _ => bitT_iff H.2.1.2 rfl _ hs j)).cut (m := h.toNat) (by omega)
            rw [th] at bt
            have neg : ¬ ¬ (((0 ≤ p ∧ p < tw a n 6) ∧ (0 ≤ h ∧ h < tw a n 3)) ∧ 1 ≤ tw a n (22 + 17 * p) ∧ (w = 0 ∨ w = 1)) := fun z => z ⟨⟨⟨p0, p1⟩, h0, h1⟩, by omega, by omega⟩
            have k2 : ∀ r : Int, ptdA (tw a n) p h w r → K (some (vI r)) σ2 := fun r e => k1 r σ2 e n0 n1 A2 F2
            show Wx g y_Mo_painted Z K 57 [vR 174, vI n, vI p, vI h, vI w] [] σ2
            refine x_iload (dat d_Mo_painted 31 rfl) rfl ?_
            refine x_if_ne (tgt := 71) (dat d_Mo_painted 32 rfl) (by decide) (fun c_59 => ?_) (fun c_59 => ?_)
            · refine x_aload_n (dat d_Mo_painted 38 rfl) rfl rfl ?_
              refine x_geti (ji := 38) (v := σ2 174 38) (dat d_Mo_painted 39 rfl) rfl f_Mo_314 (oi_mk (by decide +kernel)) rfl ?_
              refine x_iload_n (dat d_Mo_painted 40 rfl) rfl rfl ?_
              refine x_icmp_le (tgt := 83) (dat d_Mo_painted 41 rfl) (by decide) (fun c_76 => ?_) (fun c_76 => ?_)
              · refine x_aload_n (dat d_Mo_painted 44 rfl) rfl rfl ?_
                refine x_geti (ji := 38) (v := σ2 174 38) (dat d_Mo_painted 45 rfl) rfl f_Mo_314 (oi_mk (by decide +kernel)) rfl ?_
                refine x_iret (dat d_Mo_painted 46 rfl) rfl ?_
                first
                | exact k0 n01
                | exact k1 _ _ (c0 (fun w => p01 w.1.1)) n0 n1 A1 F
                | exact k1 _ _ (c0 (fun w => h01 w.1.2)) n0 n1 A1 F
                | exact k1 _ _ (c0 (fun w => by have := w.2.1; omega)) n0 n1 A1 F
                | exact k1 _ _ (c0 (fun w => x1 (by omega))) n0 n1 A1 F
                | (refine k2 _ ?_
                   unfold ptdA
                   rw [if_neg neg]
                   first
                   | (rw [if_pos (by omega)]; exact b8)
                   | (rw [if_neg (by omega)]
                      first
                      | (rw [if_pos (by omega)] at bt; exact bt)
                      | (rw [if_neg (by omega)] at bt; exact bt)))
              · refine x_iconst (dat d_Mo_painted 42 rfl) (by decide) ?_
                refine x_goto (tgt := 87) (dat d_Mo_painted 43 rfl) (by decide) ?_
                refine x_iret (dat d_Mo_painted 46 rfl) rfl ?_
                first
                | exact k0 n01
                | exact k1 _ _ (c0 (fun w => p01 w.1.1)) n0 n1 A1 F
                | exact k1 _ _ (c0 (fun w => h01 w.1.2)) n0 n1 A1 F
                | exact k1 _ _ (c0 (fun w => by have := w.2.1; omega)) n0 n1 A1 F
                | exact k1 _ _ (c0 (fun w => x1 (by omega))) n0 n1 A1 F
                | (refine k2 _ ?_
                   unfold ptdA
                   rw [if_neg neg]
                   first
                   | (rw [if_pos (by omega)]; exact b8)
                   | (rw [if_neg (by omega)]
                      first
                      | (rw [if_pos (by omega)] at bt; exact bt)
                      | (rw [if_neg (by omega)] at bt; exact bt)))
            · refine x_aload_n (dat d_Mo_painted 33 rfl) rfl rfl ?_
              refine x_getr (r := 188) (dat d_Mo_painted 34 rfl) rfl f_Mo_50 (or_mk (by decide +kernel)) ?_
              refine x_iload_n (dat d_Mo_painted 35 rfl) rfl rfl ?_
              refine x_iald (n := 24) (v := σ2 188 h) (dat d_Mo_painted 36 rfl) (ai_mk (by decide +kernel)) (by omega) (by omega) rfl ?_
              refine x_goto (tgt := 87) (dat d_Mo_painted 37 rfl) (by decide) ?_
              refine x_iret (dat d_Mo_painted 46 rfl) rfl ?_
              first
              | exact k0 n01
              | exact k1 _ _ (c0 (fun w => p01 w.1.1)) n0 n1 A1 F
              | exact k1 _ _ (c0 (fun w => h01 w.1.2)) n0 n1 A1 F
              | exact k1 _ _ (c0 (fun w => by have := w.2.1; omega)) n0 n1 A1 F
              | exact k1 _ _ (c0 (fun w => x1 (by omega))) n0 n1 A1 F
              | (refine k2 _ ?_
                 unfold ptdA
                 rw [if_neg neg]
                 first
                 | (rw [if_pos (by omega)]; exact b8)
                 | (rw [if_neg (by omega)]
                    first
                    | (rw [if_pos (by omega)] at bt; exact bt)
                    | (rw [if_neg (by omega)] at bt; exact bt)))
          · show Wx g y_Mo_painted Z K 40 [vR 174, vI n, vI p, vI h, vI w] [vI 0] σ1
            refine x_if_ne (tgt := 46) (dat d_Mo_painted 21 rfl) (by decide) (fun h => absurd h (by decide)) (fun c_40 => ?_)
            refine x_bipush (dat d_Mo_painted 22 rfl) (by decide) (by decide) ?_
            refine x_iret (dat d_Mo_painted 23 rfl) rfl ?_
            first
            | exact k0 n01
            | exact k1 _ _ (c0 (fun w => p01 w.1.1)) n0 n1 A1 F
            | exact k1 _ _ (c0 (fun w => h01 w.1.2)) n0 n1 A1 F
            | exact k1 _ _ (c0 (fun w => by have := w.2.1; omega)) n0 n1 A1 F
            | exact k1 _ _ (c0 (fun w => x1 (by omega))) n0 n1 A1 F
            | (refine k2 _ ?_
               unfold ptdA
               rw [if_neg neg]
               first
               | (rw [if_pos (by omega)]; exact b8)
               | (rw [if_neg (by omega)]
                  first
                  | (rw [if_pos (by omega)] at bt; exact bt)
                  | (rw [if_neg (by omega)] at bt; exact bt)))
      · show Wx g y_Mo_painted Z K 21 [vR 174, vI n, vI p, vI h, vI w] [vI 0] σ1
        refine x_if_eq (tgt := 43) (dat d_Mo_painted 11 rfl) (by decide) (fun c_21 => ?_) (fun h => absurd h (by decide))
        refine x_bipush (dat d_Mo_painted 22 rfl) (by decide) (by decide) ?_
        refine x_iret (dat d_Mo_painted 23 rfl) rfl ?_
        first
        | exact k0 n01
        | exact k1 _ _ (c0 (fun w => p01 w.1.1)) n0 n1 A1 F
        | exact k1 _ _ (c0 (fun w => h01 w.1.2)) n0 n1 A1 F
        | exact k1 _ _ (c0 (fun w => by have := w.2.1; omega)) n0 n1 A1 F
        | exact k1 _ _ (c0 (fun w => x1 (by omega))) n0 n1 A1 F
        | (refine k2 _ ?_
           unfold ptdA
           rw [if_neg neg]
           first
           | (rw [if_pos (by omega)]; exact b8)
           | (rw [if_neg (by omega)]
              first
              | (rw [if_pos (by omega)] at bt; exact bt)
              | (rw [if_neg (by omega)] at bt; exact bt)))
    · show Wx g y_Mo_painted Z K 13 [vR 174, vI n, vI p, vI h, vI w] [vI 0] σ1
      refine x_if_eq (tgt := 43) (dat d_Mo_painted 7 rfl) (by decide) (fun c_13 => ?_) (fun h => absurd h (by decide))
      refine x_bipush (dat d_Mo_painted 22 rfl) (by decide) (by decide) ?_
      refine x_iret (dat d_Mo_painted 23 rfl) rfl ?_
      first
      | exact k0 n01
      | exact k1 _ _ (c0 (fun w => p01 w.1.1)) n0 n1 A1 F
      | exact k1 _ _ (c0 (fun w => h01 w.1.2)) n0 n1 A1 F
      | exact k1 _ _ (c0 (fun w => by have := w.2.1; omega)) n0 n1 A1 F
      | exact k1 _ _ (c0 (fun w => x1 (by omega))) n0 n1 A1 F
      | (refine k2 _ ?_
         unfold ptdA
         rw [if_neg neg]
         first
         | (rw [if_pos (by omega)]; exact b8)
         | (rw [if_neg (by omega)]
            first
            | (rw [if_pos (by omega)] at bt; exact bt)
            | (rw [if_neg (by omega)] at bt; exact bt)))
  · show Wx g y_Mo_painted Z K 5 [vR 174, vI n, vI p, vI h, vI w] [vI 0] σ
    refine x_if_eq (tgt := 43) (dat d_Mo_painted 3 rfl) (by decide) (fun c_5 => ?_) (fun h => absurd h (by decide))
    refine x_bipush (dat d_Mo_painted 22 rfl) (by decide) (by decide) ?_
    refine x_iret (dat d_Mo_painted 23 rfl) rfl ?_
    first
    | exact k0 n01
    | exact k1 _ _ (c0 (fun w => p01 w.1.1)) n0 n1 A1 F
    | exact k1 _ _ (c0 (fun w => h01 w.1.2)) n0 n1 A1 F
    | exact k1 _ _ (c0 (fun w => by have := w.2.1; omega)) n0 n1 A1 F
    | exact k1 _ _ (c0 (fun w => x1 (by omega))) n0 n1 A1 F
    | (refine k2 _ ?_
       unfold ptdA
       rw [if_neg neg]
       first
       | (rw [if_pos (by omega)]; exact b8)
       | (rw [if_neg (by omega)]
          first
          | (rw [if_pos (by omega)] at bt; exact bt)
          | (rw [if_neg (by omega)] at bt; exact bt)))
end
