/-! the town told, an empty book read: the law up to its hours -/
theorem end_0 (T : Int → Int) : endP T 0 1 = (0, (0, -1), -1, -1, row0 1) := by
  have e : begP T 0 1 = (0, (0, -1), -1, -1, row0 1) := by
    unfold begP
    rw [rn_st (fun w => by omega)]
  have h : stpP T 0 1 (0, (0, -1), -1, -1, row0 1) = (false, (0, (0, -1), -1, -1, row0 1)) := by
    unfold stpP
    exact if_pos (show tkK T 0 0 = 0 from if_pos (by decide))
  have gen : ∀ d : Nat, runP T 0 1 (d + 1) (0, (0, -1), -1, -1, row0 1) = (0, (0, -1), -1, -1, row0 1) := fun d => by
    show (if (stpP T 0 1 (0, (0, -1), -1, -1, row0 1)).1 = true then _ else (stpP T 0 1 (0, (0, -1), -1, -1, row0 1)).2) = _
    rw [h]
    exact if_neg (by decide)
  unfold endP
  rw [e]
  exact gen 600
theorem flt_0 (T : Int → Int) : fltP T 0 1 = (0, -1) := by
  unfold fltP
  rw [end_0]
  show (if (0 : Int) ≠ 0 then _ else (if (1 : Int) = 0 ∧ _ then _ else ((0 : Int), (-1 : Int)))) = _
  rw [if_neg (by decide), if_neg (fun w => absurd w.1 (by decide))]
theorem txt_0 {a : Int → Int} (h1 : a 1 = 0) (h2 : a 2 = 0) : textR a 1 (-1) = 0 ∧ textA a 1 (-1) 0 = a 0 ∧ textA a 1 (-1) 1 = 1 ∧ bk (textA a 1 (-1)) 0 0 = 0 ∧ textA a 1 (-1) 2 = 0 ∧ ∀ n : Int, 0 ≤ n → n < 2 → tw (textA a 1 (-1)) n = tw a n := by
  have nf : nfT a 1 (-1) = 0 := by
    unfold nfT
    rw [if_neg (by omega), if_pos rfl, if_pos (by omega)]
    exact h1
  have fl : fltP (fun i => a (10 + i)) (a 2) 1 = (0, -1) := by rw [h2]; exact flt_0 _
  have ta : textA a 1 (-1) = putB (st3 a 0 0 (-1)) 0 (row0 1) := by
    unfold textA
    rw [nf, fl, if_neg (by decide), if_neg (fun w => w rfl), if_neg (by decide)]
    unfold rowP
    rw [h2, end_0]
  refine ⟨?_, ?_, ?_, ?_, ?_, fun n n0 n1 => ?_⟩
  · unfold textR
    rw [nf, fl, if_neg (by decide)]
    exact if_neg (fun w => w rfl)
  · rw [ta]; simp [putB, st3]
  · rw [ta]; simp [putB, st3, h1]
  · rw [ta]; simp [bk, putB, row0]
  · rw [ta]; simp [putB, st3]
  · refine tw_eq (fun i i0 i1 => ?_)
    rw [ta]
    unfold putB
    rw [if_neg (by omega), if_neg (by omega)]
    unfold st3
    rw [if_neg (by omega), if_neg (by omega), if_neg (by omega)]
section LAW4
variable {p : Program} {e : Env} {s : State} {m : MethodId} {below : List Frame} {meth : Method} {c : Code} {b cc ss : Nat} {g : xG} {A t r : Int → Int} {im : Nat → Int → Int} {σ : xS} {a : Int}
theorem lw_86 {w6 w7 w8 w9 w10 w11 w12 w13 w14 w15 : MV} (hG : aG g (lY p e s m below meth c b)) (hS : LwS σ A t r im) (hT : TRg t) (hA : A 0 = 1) (ha : -2147483648 ≤ a ∧ a < 2147483648) (hcs : cc + 3 ≤ 600000 ∧ ss + 540 ≤ 7302250) : Ax g y_Lw_law (lY p e s m below meth c b) (List.range NB ++ []) cc ss 86 [vR 500, vR 0, vR 174, vI a, vI (t 6), vR 175, w6, w7, w8, w9, w10, w11, w12, w13, w14, w15] [] σ := by
  have hC := cfg_ok hS.ok
  have R := hS.2.2.1.2
  have e6 : r 6 = t 6 := R.2.1.1
  have t3 := hT.1.2.2.2.1
  have t6 := hT.1.2.2.2.2.2.2.1
  have hI := aI_175 []
  have hM := Msk.full (n := 8) (by decide) (p := t 6) (by omega) (by omega)
  have hM0 := hM.1
  have hM1 := hM.2.1
  have hl : Msk 8 (ishl 1 (t 6) - 1) (rst (cfg r) 0).2 := hM.congr (fun q q0 q1 => by
    show decide (q < t 6) = decide (0 ≤ q ∧ q < r 6)
    rw [e6]
    exact decide_eq_decide.mpr ⟨fun w => ⟨q0, w⟩, fun w => w.2⟩)
  have lp : ∀ (n k : Nat) (al : Int) (w8 w9 w10 w11 w12 w13 w14 w15 : MV), ((k + n : Nat) : Int) = t 6 → al = tot (cSt (cfg r)) k → (0 ≤ al ∧ al ≤ 30 * k) → Ax g y_Lw_law (lY p e s m below meth c b) (List.range NB ++ []) cc ss 92 [vR 500, vR 0, vR 174, vI a, vI (t 6), vR 175, vI al, vI (k : Int), w8, w9, w10, w11, w12, w13, w14, w15] [] σ := by
    intro n
    induction n with
    | zero =>
      intro k al w8 w9 w10 w11 w12 w13 w14 w15 hk hal hbd
      refine a_iload (dat d_Lw_law_0 56 rfl) rfl ?_
      refine a_iload (dat d_Lw_law_0 57 rfl) rfl ?_
      refine a_icmp_ge (tgt := 120) (dat d_Lw_law_0 58 rfl) (by decide) (fun c_96 => ?_) (fun c_96 => (by omega))
      refine a_iconst (dat d_Lw_law_1 9 rfl) (by decide) ?_
      refine a_iload (dat d_Lw_law_1 10 rfl) rfl ?_
      refine a_ishl (v := ishl 1 (t 6)) (dat d_Lw_law_1 11 rfl) rfl ?_
      refine a_iconst (dat d_Lw_law_1 12 rfl) (by decide) ?_
      refine a_isub (v := (ishl 1 (t 6)) - 1) (dat d_Lw_law_1 13 rfl) rfl (by omega) ?_
      refine a_istore (L' := [vR 500, vR 0, vR 174, vI a, vI (t 6), vR 175, vI al, vI ((ishl 1 (t 6)) - 1), w8, w9, w10, w11, w12, w13, w14, w15]) (dat d_Lw_law_1 14 rfl) (by decide) rfl rfl ?_
      refine a_iconst (dat d_Lw_law_1 15 rfl) (by decide) ?_
      refine a_istore (L' := [vR 500, vR 0, vR 174, vI a, vI (t 6), vR 175, vI al, vI ((ishl 1 (t 6)) - 1), vI 0, w9, w10, w11, w12, w13, w14, w15]) (dat d_Lw_law_1 16 rfl) (by decide) rfl rfl ?_
      refine a_iconst (dat d_Lw_law_1 17 rfl) (by decide) ?_
      refine a_istore (L' := [vR 500, vR 0, vR 174, vI a, vI (t 6), vR 175, vI al, vI ((ishl 1 (t 6)) - 1), vI 0, vI 0, w10, w11, w12, w13, w14, w15]) (dat d_Lw_law_1 18 rfl) (by decide) rfl rfl ?_
      exact lw_hours hG hT hA ha hcs (t 3).toNat 0 _ _ _ _ _ _ _ _ _ _ (by omega) hS (by rw [hal]; show tot (cSt (cfg r)) k = tot (cSt (cfg r)) (r 6).toNat; rw [show (r 6).toNat = k by omega]) hl rfl
    | succ n ih =>
      intro k al w8 w9 w10 w11 w12 w13 w14 w15 hk hal hbd
      have hv := (hT.2.1 k (by omega)).2.2.1
      have hc : t (12 + 4 * (k : Int)) = cSt (cfg r) k := ((row_p R (by omega) (by omega)).1.2.2).symm
      refine a_iload (dat d_Lw_law_0 56 rfl) rfl ?_
      refine a_iload (dat d_Lw_law_0 57 rfl) rfl ?_
      refine a_icmp_ge (tgt := 120) (dat d_Lw_law_0 58 rfl) (by decide) (fun c_96 => (by omega)) (fun c_96 => ?_)
      refine a_iload (dat d_Lw_law_0 59 rfl) rfl ?_
      refine a_aload (dat d_Lw_law_0 60 rfl) rfl ?_
      refine a_bipush (dat d_Lw_law_0 61 rfl) (by decide) (by decide) ?_
      refine a_iconst (dat d_Lw_law_1 0 rfl) (by decide) ?_
      refine a_iload (dat d_Lw_law_1 1 rfl) rfl ?_
      refine a_imul (v := 4 * (k : Int)) (dat d_Lw_law_1 2 rfl) rfl (by omega) ?_
      refine a_iadd (v := 12 + (4 * (k : Int))) (dat d_Lw_law_1 3 rfl) rfl (by omega) ?_
      refine a_iald (n := 180) (v := t (12 + 4 * (k : Int))) (dat d_Lw_law_1 4 rfl) hI (by omega) (by omega) (by exact hS.2.1 _ (by omega) (by omega)) ?_
      refine a_iadd (v := al + (t (12 + 4 * (k : Int)))) (dat d_Lw_law_1 5 rfl) rfl (by omega) ?_
      refine a_istore (L' := [vR 500, vR 0, vR 174, vI a, vI (t 6), vR 175, vI (al + (t (12 + 4 * (k : Int)))), vI (k : Int), w8, w9, w10, w11, w12, w13, w14, w15]) (dat d_Lw_law_1 6 rfl) (by decide) rfl rfl ?_
      refine a_iinc (v' := ((k + 1 : Nat) : Int)) (L' := [vR 500, vR 0, vR 174, vI a, vI (t 6), vR 175, vI (al + (t (12 + 4 * (k : Int)))), vI ((k + 1 : Nat) : Int), w8, w9, w10, w11, w12, w13, w14, w15]) (dat d_Lw_law_1 7 rfl) rfl (by decide) rfl (by omega) (by omega) rfl ?_
      refine a_goto (tgt := 92) (dat d_Lw_law_1 8 rfl) (by decide) ?_
      exact ih (k + 1) _ _ _ _ _ _ _ _ _ (by omega) (by rw [hal, hc]; rfl) (by omega)
  refine a_iconst (dat d_Lw_law_0 52 rfl) (by decide) ?_
  refine a_istore (L' := [vR 500, vR 0, vR 174, vI a, vI (t 6), vR 175, vI 0, w7, w8, w9, w10, w11, w12, w13, w14, w15]) (dat d_Lw_law_0 53 rfl) (by decide) rfl rfl ?_
  refine a_iconst (dat d_Lw_law_0 54 rfl) (by decide) ?_
  refine a_istore (L' := [vR 500, vR 0, vR 174, vI a, vI (t 6), vR 175, vI 0, vI 0, w8, w9, w10, w11, w12, w13, w14, w15]) (dat d_Lw_law_0 55 rfl) (by decide) rfl rfl ?_
  exact lp (t 6).toNat 0 0 _ _ _ _ _ _ _ _ (by omega) rfl (by omega)
/-- from the drawn town on -/
theorem lw_55 {w6 w7 w8 w9 w10 w11 w12 w13 w14 w15 : MV} (hG : aG g (lY p e s m below meth c b)) (H : PtS σ A im []) (hA0 : A 0 = 0) (hA1 : A 1 = 0) (hT : TRg t) (ht : ∀ i : Int, 0 ≤ i → i < 180 → σ 175 i = t i) (ha : -2147483648 ≤ a ∧ a < 2147483648) (hcs : cc + 3 ≤ 600000 ∧ ss + 540 ≤ 7302250) : Ax g y_Lw_law (lY p e s m below meth c b) (List.range NB ++ []) cc ss 55 [vR 500, vR 0, vR 174, vI a, vI (t 6), vR 175, w6, w7, w8, w9, w10, w11, w12, w13, w14, w15] [] σ := by
  refine a_aload_n (dat d_Lw_law_0 34 rfl) rfl rfl ?_
  refine a_aload_n (dat d_Lw_law_0 35 rfl) rfl rfl ?_
  refine a_aload (dat d_Lw_law_0 36 rfl) rfl ?_
  refine a_iconst (dat d_Lw_law_0 37 rfl) (by decide) ?_
  refine a_iconst (dat d_Lw_law_0 38 rfl) (by decide) ?_
  refine a_invs hG (As := [vR 0, vR 174, vR 175, vI (-1), vI 0]) (dat d_Lw_law_0 39 rfl) rfl c_Lw_town l_Lw_114 (by decide) rfl rfl (Nat.le_of_ble_eq_true rfl) ?_
  refine sp_Lw_town H hT ht (nfT_m hA0 (by decide)) (by decide) (fun σ1 A1 p1 n1 F1 => ⟨fun o ho => absurd ho List.not_mem_nil, ?_⟩)
  show Ax g y_Lw_law (lY p e s m below meth c b) (List.range NB ++ []) cc ss 64 [vR 500, vR 0, vR 174, vI a, vI (t 6), vR 175, w6, w7, w8, w9, w10, w11, w12, w13, w14, w15] [vI 1] σ1
  refine a_if_eq (tgt := 84) (dat d_Lw_law_0 40 rfl) (by decide) (fun h => absurd h (by decide)) (fun c_64 => ?_)
  refine a_aload_n (dat d_Lw_law_0 41 rfl) rfl rfl ?_
  refine a_aload_n (dat d_Lw_law_0 42 rfl) rfl rfl ?_
  refine a_invs hG (As := [vR 0, vR 174]) (dat d_Lw_law_0 43 rfl) rfl c_Lw_ends l_Lw_60 (by decide) rfl rfl (Nat.le_of_ble_eq_true rfl) ?_
  refine sp_Lw_ends (bs := []) p1 (by decide) (fun σ2 E2 F2 => ⟨fun o ho => absurd ho List.not_mem_nil, ?_⟩)
  obtain ⟨z2, A2, S2, st2, a22, -⟩ := E2
  show Ax g y_Lw_law (lY p e s m below meth c b) (List.range NB ++ []) cc ss 72 [vR 500, vR 0, vR 174, vI a, vI (t 6), vR 175, w6, w7, w8, w9, w10, w11, w12, w13, w14, w15] [vI 1] σ2
  refine a_if_eq (tgt := 84) (dat d_Lw_law_0 44 rfl) (by decide) (fun h => absurd h (by decide)) (fun c_72 => ?_)
  refine a_aload_n (dat d_Lw_law_0 45 rfl) rfl rfl ?_
  refine a_iconst (dat d_Lw_law_0 46 rfl) (by decide) ?_
  refine a_iconst (dat d_Lw_law_0 47 rfl) (by decide) ?_
  refine a_inv hG (As := [vI 1, vI (-1)]) (dat d_Lw_law_0 48 rfl) rfl c_Sb_text l_Lw_64 (by decide) rv_0 rfl rfl (Nat.le_of_ble_eq_true rfl) ?_
  refine sp_Sb_text S2 (fun σ3 S3 e3 F3 => ⟨fun o ho => absurd ho List.not_mem_nil, ?_⟩)
  obtain ⟨x0, x1, x2, x3, x4, x5⟩ := txt_0 (a := A2) (by rw [st2 1 (by omega), n1.1.2]; exact hA1) a22
  rw [x0]
  show Ax g y_Lw_law (lY p e s m below meth c b) (List.range NB ++ []) cc ss 81 [vR 500, vR 0, vR 174, vI a, vI (t 6), vR 175, w6, w7, w8, w9, w10, w11, w12, w13, w14, w15] [vI 0] σ3
  refine a_if_eq (tgt := 86) (dat d_Lw_law_0 49 rfl) (by decide) (fun c_81 => ?_) (fun h => absurd h (by decide))
  have e0 : textA A2 1 (-1) 0 = 1 := by rw [x1, st2 0 (by omega), n1.1.1, hA0]; rfl
  refine lw_86 (r := tw A1 0) hG ⟨⟨S3, ⟨by rw [F3 174 (by decide)]; exact z2.1, by rw [F3 174 (by decide)]; exact z2.2⟩, x4⟩, fun i i0 i1 => by rw [F3 175 (by decide), F2 175 (by decide), F1 175 (by decide)]; exact ht i i0 i1, ⟨(x5 0 (by decide) (by decide)).trans (tw_st st2 (by decide)), n1.2.1⟩, ⟨by omega, x2⟩, x3⟩ hT e0 ha hcs
end LAW4
