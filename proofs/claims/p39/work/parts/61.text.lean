/-! the class's calls: images, a text -/
def setIm (im : Nat → Int → Int) (k : Int) (a : Int → Int) : Nat → Int → Int := fun j => if (j : Int) = k then a else im j
/-- what a text makes of all that is told -/
def textA (a : Int → Int) (s n : Int) : Int → Int :=
  if nfT a s n = -1 then st3 a 0 0 (-1)
  else if (fltP (fun i => a (10 + i)) (a 2) s).1 ≠ 0 then st3 a 0 (fltP (fun i => a (10 + i)) (a 2) s).1 (fltP (fun i => a (10 + i)) (a 2) s).2
  else if s = 0 then putT (st3 a 0 0 (fltP (fun i => a (10 + i)) (a 2) s).2) (nfT a s n) (rowP (fun i => a (10 + i)) (a 2) s)
  else putB (st3 a 0 0 (fltP (fun i => a (10 + i)) (a 2) s).2) (nfT a s n) (rowP (fun i => a (10 + i)) (a 2) s)
def textR (a : Int → Int) (s n : Int) : Int := if nfT a s n = -1 then -2 else if (fltP (fun i => a (10 + i)) (a 2) s).1 ≠ 0 then -1 else nfT a s n
theorem nfT_in {a : Int → Int} {s n : Int} (h : nfT a s n ≠ -1) : (s = 0 ∨ s = 1) ∧ 0 ≤ nfT a s n ∨ (s = 0 ∨ s = 1) ∧ nfT a s n = a s := by
  unfold nfT at h ⊢
  by_cases h0 : s < 0 ∨ 2 ≤ s
  · rw [if_pos h0] at h; exact absurd rfl h
  · rw [if_neg h0] at h ⊢
    by_cases h1 : n = -1
    · rw [if_pos h1] at h ⊢
      split at h
      · rename_i w
        rw [if_pos w]
        exact Or.inr ⟨by omega, rfl⟩
      · exact absurd rfl h
    · rw [if_neg h1] at h ⊢
      split at h
      · rename_i w
        rw [if_pos w]
        exact Or.inl ⟨by omega, w.1⟩
      · exact absurd rfl h
theorem nfT_bd {a : Int → Int} {s n : Int} (h : nfT a s n ≠ -1) (b0 : 0 ≤ a 0 ∧ a 0 ≤ 2) (b1 : 0 ≤ a 1 ∧ a 1 ≤ 2) : (s = 0 ∨ s = 1) ∧ 0 ≤ nfT a s n ∧ nfT a s n < 2 ∧ nfT a s n ≤ a s := by
  unfold nfT at h ⊢
  by_cases h0 : s < 0 ∨ 2 ≤ s
  · rw [if_pos h0] at h; exact absurd rfl h
  · rw [if_neg h0] at h ⊢
    have hs : s = 0 ∨ s = 1 := by omega
    have bs : 0 ≤ a s ∧ a s ≤ 2 := by rcases hs with e | e <;> rw [e] <;> assumption
    by_cases h1 : n = -1
    · rw [if_pos h1] at h ⊢
      split at h
      · rename_i w
        rw [if_pos w]
        exact ⟨hs, by omega, w, Int.le_refl _⟩
      · exact absurd rfl h
    · rw [if_neg h1] at h ⊢
      split at h
      · rename_i w
        rw [if_pos w]
        exact ⟨hs, w.1, by omega, by omega⟩
      · exact absurd rfl h
theorem sp_Sb_text {g : xG} {K : Option MV → xS → Prop} {σ : xS} {a : Int → Int} {im : Nat → Int → Int} {s n : Int} (H : SbR σ a im) (k : ∀ σ' : xS, SbR σ' (textA a s n) im → σ' 122 = σ 122 → SbF σ' σ → K (some (vI (textR a s n))) σ') : Mt g y_Sb_text [vR 0, vI s, vI n] σ K := by
  have b0 := H.1.1.1
  have b1 := H.1.1.2.1
  have b2 := H.1.1.2.2
  have e3 : σ 1 3 = a 2 := H.1.2.1.1
  have ht : ∀ i : Int, 0 ≤ i → i < a 2 → (0 ≤ (fun i => a (10 + i)) i ∧ (fun i => a (10 + i)) i ≤ 255) ∧ σ 2 i = i2b ((fun i => a (10 + i)) i) := H.1.2.2.1
  have s3 : ∀ f p i : Int, i ≠ 2 → i ≠ 3 → i ≠ 4 → st3 a 0 f p i = a i := fun f p i h2 h3 h4 => by unfold st3; rw [if_neg h2, if_neg h3, if_neg h4]
  have s32 : ∀ f p : Int, st3 a 0 f p 2 = 0 ∧ st3 a 0 f p 3 = f ∧ st3 a 0 f p 4 = p := fun f p => ⟨rfl, rfl, rfl⟩
  have tl : ∀ (f p : Int) (σ1 : xS), (∀ o : Nat, o < 123 → σ1 o = σ o) → TolR (up (up (up σ1 1 3 0) 1 4 f) 1 5 p) 1 (st3 a 0 f p) := fun f p σ1 F => by
    refine H.1.texts (fun i hi => s3 f p i (by omega) (by omega) (by omega)) (s3 f p 0 (by decide) (by decide) (by decide)) (s3 f p 1 (by decide) (by decide) (by decide)) (by rw [(s32 f p).1]; decide) ⟨?_, ?_, ?_⟩ ?_ ?_ (fun i i0 i1 => ?_) (fun o h1 h2 => by rw [up_ne (by omega), up_ne (by omega), up_ne (by omega), F o (by omega)])
    · rw [up_ni (by decide), up_ni (by decide), up_s]; rfl
    · rw [up_ni (by decide), up_s]; rfl
    · rw [up_s]; rfl
    · rw [up_ni (by decide), up_ni (by decide), up_ni (by decide), F 1 (by decide)]
    · rw [up_ni (by decide), up_ni (by decide), up_ni (by decide), F 1 (by decide)]
    · rw [(s32 f p).1] at i1; omega
  have imk : ∀ (σ1 : xS), (∀ o : Nat, 31 ≤ o → o < 123 → σ1 o = σ o) → ∀ j : Nat, j < 3 → (σ1 122 j = 0 ∨ σ1 122 j = 1) ∧ (σ1 122 j = 1 → TolR σ1 (31 + 30 * j) (im j)) := fun σ1 F j hj => by
    rw [F 122 (by decide) (by decide)]
    exact ⟨(H.2.2 j hj).1, fun w => ((H.2.2 j hj).2 w).same (fun q x y => F q (by omega) (by omega))⟩
  have lw : ∀ (f p : Int) (σ1 : xS), σ1 0 = σ 0 → σ1 171 = σ 171 → σ1 173 = σ 173 → LwR σ1 (st3 a 0 f p) := fun f p σ1 h0 h1 h2 => (H.2.1.same h0 h1 h2).rows (s3 f p 0 (by decide) (by decide) (by decide)) (s3 f p 1 (by decide) (by decide) (by decide)) (fun i hi => s3 f p i (by omega) (by omega) (by omega))
  by_cases hn : nfT a s n = -1
  · have er : textR a s n = -2 := if_pos hn
    have ea : textA a s n = st3 a 0 0 (-1) := if_pos hn
    rw [er, ea] at k
    refine x_enter 1 rfl rfl rfl (fun Z => ?_)
    show Wx g y_Sb_text Z K 0 [vR 0, vI s, vI n, vU] [] σ
    refine x_aload_n (dat d_Sb_text 0 rfl) rfl rfl ?_
    refine x_getr (r := 1) (dat d_Sb_text 1 rfl) rfl f_Sb_10 (or_mk (by decide +kernel)) ?_
    refine x_iload_n (dat d_Sb_text 2 rfl) rfl rfl ?_
    refine x_iload_n (dat d_Sb_text 3 rfl) rfl rfl ?_
    refine x_inv (As := [vI s, vI n]) (dat d_Sb_text 4 rfl) rfl c_To_numberFor l_Sb_77 (by decide) (rv_to (by decide +kernel)) rfl rfl (Nat.le_of_ble_eq_true rfl) ?_
    refine sp_To_numberFor H.1 ?_
    rw [hn]
    show Wx g y_Sb_text Z K 9 [vR 0, vI s, vI n, vU] [vI (-1)] σ
    refine x_istore_n (L' := [vR 0, vI s, vI n, vI (-1)]) (dat d_Sb_text 5 rfl) rfl (by decide) rfl rfl ?_
    refine x_iload_n (dat d_Sb_text 6 rfl) rfl rfl ?_
    refine x_iconst (dat d_Sb_text 7 rfl) (by decide) ?_
    refine x_icmp_ne (tgt := 27) (dat d_Sb_text 8 rfl) (by decide) (fun h => absurd h (by decide)) (fun c_12 => ?_)
    refine x_aload_n (dat d_Sb_text 9 rfl) rfl rfl ?_
    refine x_getr (r := 1) (dat d_Sb_text 10 rfl) rfl f_Sb_10 (or_mk (by decide +kernel)) ?_
    refine x_iconst (dat d_Sb_text 11 rfl) (by decide) ?_
    refine x_iconst (dat d_Sb_text 12 rfl) (by decide) ?_
    refine x_inv (As := [vI 0, vI (-1)]) (dat d_Sb_text 13 rfl) rfl c_To_closeText l_Sb_81 (by decide) (rv_to (by decide +kernel)) rfl rfl (Nat.le_of_ble_eq_true rfl) ?_
    refine sp_To_closeText ?_
    show Wx g y_Sb_text Z K 24 [vR 0, vI s, vI n, vI (-1)] [] (up (up (up σ 1 3 0) 1 4 0) 1 5 (-1))
    refine x_bipush (dat d_Sb_text 14 rfl) (by decide) (by decide) ?_
    refine x_iret (dat d_Sb_text 15 rfl) rfl ?_
    exact k _ ⟨tl 0 (-1) σ (fun _ _ => rfl), lw 0 (-1) _ (by rw [up_ne (by decide), up_ne (by decide), up_ne (by decide)]) (by rw [up_ne (by decide), up_ne (by decide), up_ne (by decide)]) (by rw [up_ne (by decide), up_ne (by decide), up_ne (by decide)]), imk _ (fun o h1 h2 => by rw [up_ne (by omega), up_ne (by omega), up_ne (by omega)])⟩ (by rw [up_ne (by decide), up_ne (by decide), up_ne (by decide)]) (fun o ho => by rw [up_ne (by omega), up_ne (by omega), up_ne (by omega)])
  · have hb := nfT_bd hn b0 b1
    have er : textR a s n = if (fltP (fun i => a (10 + i)) (a 2) s).1 ≠ 0 then -1 else nfT a s n := if_neg hn
    have ea : textA a s n = if (fltP (fun i => a (10 + i)) (a 2) s).1 ≠ 0 then st3 a 0 (fltP (fun i => a (10 + i)) (a 2) s).1 (fltP (fun i => a (10 + i)) (a 2) s).2 else if s = 0 then putT (st3 a 0 0 (fltP (fun i => a (10 + i)) (a 2) s).2) (nfT a s n) (rowP (fun i => a (10 + i)) (a 2) s) else putB (st3 a 0 0 (fltP (fun i => a (10 + i)) (a 2) s).2) (nfT a s n) (rowP (fun i => a (10 + i)) (a 2) s) := if_neg hn
    have key := @sp_Re_read g
    generalize hT : (fun i => a (10 + i)) = T at er ea ht
    generalize hF : fltP T (a 2) s = F at er ea
    generalize hr : rowP T (a 2) s = r at ea
    generalize hN : nfT a s n = N at er ea hb hn
    refine x_enter 1 rfl rfl rfl (fun Z => ?_)
    show Wx g y_Sb_text Z K 0 [vR 0, vI s, vI n, vU] [] σ
    refine x_aload_n (dat d_Sb_text 0 rfl) rfl rfl ?_
    refine x_getr (r := 1) (dat d_Sb_text 1 rfl) rfl f_Sb_10 (or_mk (by decide +kernel)) ?_
    refine x_iload_n (dat d_Sb_text 2 rfl) rfl rfl ?_
    refine x_iload_n (dat d_Sb_text 3 rfl) rfl rfl ?_
    refine x_inv (As := [vI s, vI n]) (dat d_Sb_text 4 rfl) rfl c_To_numberFor l_Sb_77 (by decide) (rv_to (by decide +kernel)) rfl rfl (Nat.le_of_ble_eq_true rfl) ?_
    refine sp_To_numberFor H.1 ?_
    rw [hN]
    show Wx g y_Sb_text Z K 9 [vR 0, vI s, vI n, vU] [vI N] σ
    refine x_istore_n (L' := [vR 0, vI s, vI n, vI N]) (dat d_Sb_text 5 rfl) rfl (by decide) rfl rfl ?_
    refine x_iload_n (dat d_Sb_text 6 rfl) rfl rfl ?_
    refine x_iconst (dat d_Sb_text 7 rfl) (by decide) ?_
    refine x_icmp_ne (tgt := 27) (dat d_Sb_text 8 rfl) (by decide) (fun c_12 => ?_) (fun c_12 => (by omega))
    refine x_aload_n (dat d_Sb_text 16 rfl) rfl rfl ?_
    refine x_getr (r := 123) (dat d_Sb_text 17 rfl) rfl f_Sb_27 (or_mk (by decide +kernel)) ?_
    refine x_iload_n (dat d_Sb_text 18 rfl) rfl rfl ?_
    refine x_aload_n (dat d_Sb_text 19 rfl) rfl rfl ?_
    refine x_getr (r := 1) (dat d_Sb_text 20 rfl) rfl f_Sb_10 (or_mk (by decide +kernel)) ?_
    refine x_getr (r := 2) (dat d_Sb_text 21 rfl) rfl f_Sb_85 (or_mk (by decide +kernel)) ?_
    refine x_aload_n (dat d_Sb_text 22 rfl) rfl rfl ?_
    refine x_getr (r := 1) (dat d_Sb_text 23 rfl) rfl f_Sb_10 (or_mk (by decide +kernel)) ?_
    refine x_geti (ji := 3) (v := a 2) (dat d_Sb_text 24 rfl) rfl f_Sb_69 (oi_mk (by decide +kernel)) (e3) ?_
    refine x_inv (As := [vI s, vR 2, vI (a 2)]) (dat d_Sb_text 25 rfl) rfl c_Re_read l_Sb_89 (by decide) (rv_re (by decide +kernel)) rfl rfl (Nat.le_of_ble_eq_true rfl) ?_
    refine key (T := T) hb.1 b2.1 b2.2 ht (fun σ1 f2 f3 fz F1 => ?_)
    rw [hF] at f2 f3 fz
    rw [hr] at fz
    show Wx g y_Sb_text Z K 49 [vR 0, vI s, vI n, vI N] [] σ1
    refine x_aload_n (dat d_Sb_text 26 rfl) rfl rfl ?_
    refine x_getr (r := 1) (dat d_Sb_text 27 rfl) rfl f_Sb_10 (or_mk (by decide +kernel)) ?_
    refine x_aload_n (dat d_Sb_text 28 rfl) rfl rfl ?_
    refine x_getr (r := 123) (dat d_Sb_text 29 rfl) rfl f_Sb_27 (or_mk (by decide +kernel)) ?_
    refine x_geti (ji := 2) (v := F.1) (dat d_Sb_text 30 rfl) rfl f_Sb_93 (oi_mk (by decide +kernel)) (f2) ?_
    refine x_aload_n (dat d_Sb_text 31 rfl) rfl rfl ?_
    refine x_getr (r := 123) (dat d_Sb_text 32 rfl) rfl f_Sb_27 (or_mk (by decide +kernel)) ?_
    refine x_geti (ji := 3) (v := F.2) (dat d_Sb_text 33 rfl) rfl f_Sb_96 (oi_mk (by decide +kernel)) (f3) ?_
    refine x_inv (As := [vI F.1, vI F.2]) (dat d_Sb_text 34 rfl) rfl c_To_closeText l_Sb_81 (by decide) (rv_to (by decide +kernel)) rfl rfl (Nat.le_of_ble_eq_true rfl) ?_
    refine sp_To_closeText ?_
    show Wx g y_Sb_text Z K 70 [vR 0, vI s, vI n, vI N] [] (up (up (up σ1 1 3 0) 1 4 F.1) 1 5 F.2)
    refine x_aload_n (dat d_Sb_text 35 rfl) rfl rfl ?_
    refine x_getr (r := 123) (dat d_Sb_text 36 rfl) rfl f_Sb_27 (or_mk (by decide +kernel)) ?_
    refine x_geti (ji := 2) (v := F.1) (dat d_Sb_text 37 rfl) rfl f_Sb_93 (oi_mk (by decide +kernel)) (by rw [up_ne (by decide), up_ne (by decide), up_ne (by decide)]; exact f2) ?_
    refine x_if_eq (tgt := 82) (dat d_Sb_text 38 rfl) (by decide) (fun c_77 => ?_) (fun c_77 => ?_)
    · refine x_aload_n (dat d_Sb_text 41 rfl) rfl rfl ?_
      refine x_inv (As := []) (dat d_Sb_text 42 rfl) rfl c_Sb_forgetWorlds l_Sb_66 (by decide) (rv_sb (by decide +kernel)) rfl rfl (Nat.le_of_ble_eq_true rfl) ?_
      have f0 : F.1 = 0 := by omega
      rw [if_neg (by omega)] at er ea
      have tl0 := tl F.1 F.2 σ1 (fun o ho => F1 o (by omega))
      rw [f0] at tl0
      have fz := fz f0
      rw [f0]
      refine sp_Sb_forgetWorlds ?_
      show Wx g y_Sb_text Z K 86 [vR 0, vI s, vI n, vI N] [] (up (up (up (up (up σ1 1 3 0) 1 4 0) 1 5 F.2) 0 9 (-1)) 0 10 (-1))
      refine x_iload_n (dat d_Sb_text 43 rfl) rfl rfl ?_
      refine x_if_ne (tgt := 108) (dat d_Sb_text 44 rfl) (by decide) (fun c_87 => ?_) (fun c_87 => ?_)
      · refine x_aload_n (dat d_Sb_text 53 rfl) rfl rfl ?_
        refine x_getr (r := 1) (dat d_Sb_text 54 rfl) rfl f_Sb_10 (or_mk (by decide +kernel)) ?_
        refine x_iload_n (dat d_Sb_text 55 rfl) rfl rfl ?_
        refine x_aload_n (dat d_Sb_text 56 rfl) rfl rfl ?_
        refine x_getr (r := 123) (dat d_Sb_text 57 rfl) rfl f_Sb_27 (or_mk (by decide +kernel)) ?_
        refine x_getr (r := 133) (dat d_Sb_text 58 rfl) rfl f_Sb_107 (or_mk (by decide +kernel)) ?_
        refine x_inv (As := [vI N, vR 133]) (dat d_Sb_text 59 rfl) rfl c_To_keepBook l_Sb_111 (by decide) (rv_to (by decide +kernel)) rfl rfl (Nat.le_of_ble_eq_true rfl) ?_
        have fz1 := fz.2 (by omega)
        refine sp_To_keepBook (a := st3 a 0 0 F.2) (t := r) (tl0.same (fun q x y => by rw [up_ne (by omega), up_ne (by omega)])) hb.2.1 hb.2.2.1 (by rw [s3 0 F.2 1 (by decide) (by decide) (by decide)]; have := hb.2.2.2; rw [show s = 1 by omega] at this; exact this) fz1.1 (fz1.2.same (fun q x y => by rw [up_ne (by omega), up_ne (by omega), up_ne (by omega), up_ne (by omega), up_ne (by omega)])) (fun σ2 T2 F2 => ?_)
        show Wx g y_Sb_text Z K 123 [vR 0, vI s, vI n, vI N] [] σ2
        refine x_iload_n (dat d_Sb_text 60 rfl) rfl rfl ?_
        refine x_iret (dat d_Sb_text 61 rfl) rfl ?_
        first
        | rw [if_pos (show s = 0 by omega)] at ea
        | rw [if_neg (show ¬ s = 0 by omega)] at ea
        rw [er, ea] at k
        have G : ∀ o : Nat, 31 ≤ o → (o < 123 ∨ 137 < o) → σ2 o = σ o := fun o h1 h2 => by rw [F2 o (by omega), up_ne (by omega), up_ne (by omega), up_ne (by omega), up_ne (by omega), up_ne (by omega), F1 o h2]
        exact k σ2 ⟨T2, Or.inl (by rw [F2 0 (by decide), up_ni (by decide), up_s]), imk _ (fun o h1 h2 => G o h1 (by omega))⟩ (G 122 (by decide) (by decide)) (fun o ho => G o (by omega) (by omega))
      · refine x_aload_n (dat d_Sb_text 45 rfl) rfl rfl ?_
        refine x_getr (r := 1) (dat d_Sb_text 46 rfl) rfl f_Sb_10 (or_mk (by decide +kernel)) ?_
        refine x_iload_n (dat d_Sb_text 47 rfl) rfl rfl ?_
        refine x_aload_n (dat d_Sb_text 48 rfl) rfl rfl ?_
        refine x_getr (r := 123) (dat d_Sb_text 49 rfl) rfl f_Sb_27 (or_mk (by decide +kernel)) ?_
        refine x_getr (r := 124) (dat d_Sb_text 50 rfl) rfl f_Sb_99 (or_mk (by decide +kernel)) ?_
        refine x_inv (As := [vI N, vR 124]) (dat d_Sb_text 51 rfl) rfl c_To_keepTown l_Sb_103 (by decide) (rv_to (by decide +kernel)) rfl rfl (Nat.le_of_ble_eq_true rfl) ?_
        have fz0 := fz.1 (by omega)
        refine sp_To_keepTown (a := st3 a 0 0 F.2) (t := r) (tl0.same (fun q x y => by rw [up_ne (by omega), up_ne (by omega)])) hb.2.1 hb.2.2.1 (by rw [s3 0 F.2 0 (by decide) (by decide) (by decide)]; have := hb.2.2.2; rw [show s = 0 by omega] at this; exact this) fz0.1 (fz0.2.same (fun q x y => by rw [up_ne (by omega), up_ne (by omega), up_ne (by omega), up_ne (by omega), up_ne (by omega)])) (fun σ2 T2 F2 => ?_)
        show Wx g y_Sb_text Z K 105 [vR 0, vI s, vI n, vI N] [] σ2
        refine x_goto (tgt := 123) (dat d_Sb_text 52 rfl) (by decide) ?_
        refine x_iload_n (dat d_Sb_text 60 rfl) rfl rfl ?_
        refine x_iret (dat d_Sb_text 61 rfl) rfl ?_
        first
        | rw [if_pos (show s = 0 by omega)] at ea
        | rw [if_neg (show ¬ s = 0 by omega)] at ea
        rw [er, ea] at k
        have G : ∀ o : Nat, 31 ≤ o → (o < 123 ∨ 137 < o) → σ2 o = σ o := fun o h1 h2 => by rw [F2 o (by omega), up_ne (by omega), up_ne (by omega), up_ne (by omega), up_ne (by omega), up_ne (by omega), F1 o h2]
        exact k σ2 ⟨T2, Or.inl (by rw [F2 0 (by decide), up_ni (by decide), up_s]), imk _ (fun o h1 h2 => G o h1 (by omega))⟩ (G 122 (by decide) (by decide)) (fun o ho => G o (by omega) (by omega))
    · refine x_iconst (dat d_Sb_text 39 rfl) (by decide) ?_
      refine x_iret (dat d_Sb_text 40 rfl) rfl ?_
      rw [if_pos (by omega)] at er ea
      rw [er, ea] at k
      exact k _ ⟨tl F.1 F.2 σ1 (fun o ho => F1 o (by omega)), lw F.1 F.2 _ (by rw [up_ne (by decide), up_ne (by decide), up_ne (by decide), F1 0 (by decide)]) (by rw [up_ne (by decide), up_ne (by decide), up_ne (by decide), F1 171 (by decide)]) (by rw [up_ne (by decide), up_ne (by decide), up_ne (by decide), F1 173 (by decide)]), imk _ (fun o h1 h2 => by rw [up_ne (by omega), up_ne (by omega), up_ne (by omega), F1 o (by omega)])⟩ (by rw [up_ne (by decide), up_ne (by decide), up_ne (by decide), F1 122 (by decide)]) (fun o ho => by rw [up_ne (by omega), up_ne (by omega), up_ne (by omega), F1 o (by omega)])
