/-! the twin's answers: a loaf; a run of nothing painted leaves nothing painted */ -/
theorem pev_f (bd : Int → Int) : ∀ l : List Ev, (pev l (bd, fun _ => false)).2 = fun _ => false
  | [] => rfl
  | e :: l => by
    rw [pev_c]
    unfold pvE
    split
    · exact pev_f bd l
    · funext q
      show (((pev l (bd, fun _ => false)).2 q || ((pev l (bd, fun _ => false)).2 e.2.2 && decide (q = e.1 + e.2.1 - e.2.2))) && !(_ && _)) = false
      rw [pev_f bd l]
      rfl
theorem twP_f (C : Cf) : ∀ n : Nat, twP C (fun _ => false) n = fun _ => false
  | 0 => rfl
  | n + 1 => by
    have e : twQ C (fun _ => false) n (twP C (fun _ => false) n) = fun _ => false := by
      unfold twQ
      rw [twP_f C n]
      exact pev_f _ _
    funext q
    show (if eats C n = true then twQ C (fun _ => false) n (twP C (fun _ => false) n) q && !(fedB C (hmi C n).1 (rst C n).2 q && decide ((hmi C n).1 q - cS C 3 = 0)) else twQ C (fun _ => false) n (twP C (fun _ => false) n) q) = false
    rw [e]
    split <;> rfl
theorem rch_f (gl : Int → Bool) : ∀ l : List Ev, l.foldr (rchE gl) (fun _ => false) = fun _ => false
  | [] => rfl
  | e :: l => by
    show rchE gl e (l.foldr (rchE gl) (fun _ => false)) = fun _ => false
    rw [rch_f gl l]
    unfold rchE
    rw [if_neg (fun w => by rcases w.2.2 with z | z <;> exact Bool.noConfusion z)]
section
variable {g : xG} {K : Option MV → xS → Prop} {σ σ0 : xS} {t : Int → Int} {t0 : Int} {a : Int → Int} {n : Int} {C : Cf}
theorem Tw1.z {σ' : xS} (R : Tw1 σ σ' C) : σ' 174 36 = 0 ∧ σ' 174 37 = 0 ∧ σ' 174 52 = 0 := by
  obtain ⟨⟨-, h6, ⟨h7, -⟩, h2, -⟩, -⟩ := R.1
  refine ⟨h6.ext (Msk.zero 8) (fun q _ _ => by rw [twP_f]), h7.ext (Msk.zero 8) (fun q _ _ => ?_), h2.ext (Msk.zero 8) (fun q _ _ => ?_)⟩
  · unfold ilT
    rw [foldr_il, rch_f]
  · unfold nwT
    rw [rch_f]
theorem k_loaf {p h m : Int} (H : MoC σ t t0 C) (s0 : Int → Int) (P : Pln s0 t) (hs : ∀ i : Int, i < 24 ∨ (26 < i ∧ i < 35) → σ 174 i = s0 i) (hm : ∀ p : Int, 0 ≤ p → p < 8 → σ 179 p = 0) (h0 : 0 ≤ h) (m0 : 0 ≤ m) (m1 : m ≤ 30) (e24 : σ 174 24 = h) (e25 : σ 174 25 = p) (e26 : σ 174 26 = m) : MoC σ t t0 (mLoaf (cfg t) p h m) := by
  obtain ⟨⟨⟨h13, h14⟩, ⟨h15, h16⟩, ⟨h17, h20⟩, h24, h27⟩, ⟨⟨h30, h31⟩, h32⟩, -⟩ := P
  refine ⟨H.1, ⟨?_, (cfg_ok H.1.2).loaf p h m0 m1⟩, H.2.2⟩
  refine mC_mk ?_ (mC_G ?_) rfl (mC_O ?_ ?_) (mC_W ?_ ?_ ?_ ?_) (mC_S hm)
  · rw [mC_Lf, e24, e25, e26]
    · rw [hs 15 (by decide)]; exact h15
    · rw [hs 30 (by decide)]; exact h30
    · rw [hs 31 (by decide)]; exact h31
    · omega
  · rw [hs 13 (by decide)]; exact h13
  · rw [hs 14 (by decide)]; exact h14
  · rw [hs 16 (by decide)]; exact h16
  · rw [hs 17 (by decide)]; exact h17
  · rw [hs 20 (by decide)]; exact h20
  · rw [hs 27 (by decide)]; exact h27
  · rw [hs 32 (by decide)]; exact h32
/-- any number put that is no knob of who goes where: the town stays taken up, for some settings -/
theorem sp_Mo_felt {p : Int} {D : Cf} (M : MoC σ t t0 C) (R : Tw1 σ0 σ C) (hK : ∀ j : Nat, j < (t 3).toNat → σ 195 (8 * (j : Int) + p) = (rst D (j + 1)).1 p ∧ σ 196 (8 * (j : Int) + p) = if (rst D (j + 1)).2 p = true then 1 else 0) (p0 : 0 ≤ p) (p1 : p < t 6)
    (k : ∀ v : Int, FirstH (fun i => (rst D (i + 1)).1 p ≠ (rst C (i + 1)).1 p ∨ (rst D (i + 1)).2 p ≠ (rst C (i + 1)).2 p) (t 3).toNat v → K (some (vI v)) σ) : Mt g y_Mo_felt [vR 174, vI p] σ K := by
  have t6 := M.1.2.2.2.2.2.2.2.1
  have t3 := M.1.2.2.2.2.1
  have eP := M.P.1
  have e3 := M.P.2.1
  have hH := cH_eq M.2.1.2
  have lp : ∀ (Z : xZ) (d i : Nat), i + d = (t 3).toNat → (∀ j : Nat, j < i → ¬ ((rst D (j + 1)).1 p ≠ (rst C (j + 1)).1 p ∨ (rst D (j + 1)).2 p ≠ (rst C (j + 1)).2 p)) → Wx g y_Mo_felt Z K 2 [vR 174, vI p, vI (i : Int)] [] σ := by
    intro Z d
    induction d with
    | zero =>
      intro i hd hj
      refine x_iload_n (dat d_Mo_felt 2 rfl) rfl rfl ?_
      refine x_aload_n (dat d_Mo_felt 3 rfl) rfl rfl ?_
      refine x_iconst (dat d_Mo_felt 4 rfl) (by decide) ?_
      refine x_inv (As := [vI 3]) (dat d_Mo_felt 5 rfl) rfl c_Mo_of l_Mo_199 (by decide) (rv_mo (by decide +kernel)) rfl rfl (Nat.le_of_ble_eq_true rfl) ?_
      refine sp_Mo_of M.1.1 (by decide) (by decide) ?_
      show Wx g y_Mo_felt Z K 8 [vR 174, vI p, vI (i : Int)] [vI (t 3), vI (i : Int)] σ
      refine x_icmp_ge (tgt := 69) (dat d_Mo_felt 6 rfl) (by decide) (fun c_8 => ?_) (fun c_8 => (by omega))
      refine x_iconst (dat d_Mo_felt 45 rfl) (by decide) ?_
      refine x_iret (dat d_Mo_felt 46 rfl) rfl ?_
      exact k _ (Or.inl ⟨rfl, fun j hj2 => hj j (by omega)⟩)
    | succ d ih =>
      intro i hd hj
      have q1 := hK i (by omega)
      have q2 := (R.2.2.1 i (by omega)).1 p p0 (by omega)
      obtain ⟨y1, hy1⟩ : ∃ y : Int, y = (if (rst D (i + 1)).2 p = true then 1 else 0) := ⟨_, rfl⟩
      obtain ⟨y2, hy2⟩ : ∃ y : Int, y = (if (rst C (i + 1)).2 p = true then 1 else 0) := ⟨_, rfl⟩
      rw [← hy1] at q1
      rw [← hy2] at q2
      have yy : y1 = y2 ↔ (rst D (i + 1)).2 p = (rst C (i + 1)).2 p := by
        rw [hy1, hy2]
        cases (rst D (i + 1)).2 p <;> cases (rst C (i + 1)).2 p <;> simp
      refine x_iload_n (dat d_Mo_felt 2 rfl) rfl rfl ?_
      refine x_aload_n (dat d_Mo_felt 3 rfl) rfl rfl ?_
      refine x_iconst (dat d_Mo_felt 4 rfl) (by decide) ?_
      refine x_inv (As := [vI 3]) (dat d_Mo_felt 5 rfl) rfl c_Mo_of l_Mo_199 (by decide) (rv_mo (by decide +kernel)) rfl rfl (Nat.le_of_ble_eq_true rfl) ?_
      refine sp_Mo_of M.1.1 (by decide) (by decide) ?_
      show Wx g y_Mo_felt Z K 8 [vR 174, vI p, vI (i : Int)] [vI (t 3), vI (i : Int)] σ
      refine x_icmp_ge (tgt := 69) (dat d_Mo_felt 6 rfl) (by decide) (fun c_8 => (by omega)) (fun c_8 => ?_)
      refine x_aload_n (dat d_Mo_felt 7 rfl) rfl rfl ?_
      refine x_getr (r := 195) (dat d_Mo_felt 8 rfl) rfl f_Mo_71 (or_mk (by decide +kernel)) ?_
      refine x_bipush (dat d_Mo_felt 9 rfl) (by decide) (by decide) ?_
      refine x_iload_n (dat d_Mo_felt 10 rfl) rfl rfl ?_
      refine x_imul (v := 8 * (i : Int)) (dat d_Mo_felt 11 rfl) (by omega) (by omega) ?_
      refine x_iload_n (dat d_Mo_felt 12 rfl) rfl rfl ?_
      refine x_iadd (v := (8 * (i : Int)) + p) (dat d_Mo_felt 13 rfl) rfl (by omega) ?_
      refine x_iald (n := 192) (v := (rst D (i + 1)).1 p) (dat d_Mo_felt 14 rfl) (ai_mk (by decide +kernel)) (by omega) (by omega) (q1.1) ?_
      refine x_aload_n (dat d_Mo_felt 15 rfl) rfl rfl ?_
      refine x_getr (r := 181) (dat d_Mo_felt 16 rfl) rfl f_Mo_29 (or_mk (by decide +kernel)) ?_
      refine x_bipush (dat d_Mo_felt 17 rfl) (by decide) (by decide) ?_
      refine x_iload_n (dat d_Mo_felt 18 rfl) rfl rfl ?_
      refine x_imul (v := 8 * (i : Int)) (dat d_Mo_felt 19 rfl) (by omega) (by omega) ?_
      refine x_iload_n (dat d_Mo_felt 20 rfl) rfl rfl ?_
      refine x_iadd (v := (8 * (i : Int)) + p) (dat d_Mo_felt 21 rfl) rfl (by omega) ?_
      refine x_iald (n := 192) (v := (rst C (i + 1)).1 p) (dat d_Mo_felt 22 rfl) (ai_mk (by decide +kernel)) (by omega) (by omega) (q2.1) ?_
      refine x_icmp_ne (tgt := 61) (dat d_Mo_felt 23 rfl) (by decide) (fun c_33 => ?_) (fun c_33 => ?_)
      · refine x_iload_n (dat d_Mo_felt 41 rfl) rfl rfl ?_
        refine x_iret (dat d_Mo_felt 42 rfl) rfl ?_
        first
        | exact k _ (Or.inr ⟨i, by omega, rfl, Or.inl (by omega), hj⟩)
        | exact k _ (Or.inr ⟨i, by omega, rfl, Or.inr (fun w => absurd (yy.mpr w) (by omega)), hj⟩)
      · refine x_aload_n (dat d_Mo_felt 24 rfl) rfl rfl ?_
        refine x_getr (r := 196) (dat d_Mo_felt 25 rfl) rfl f_Mo_74 (or_mk (by decide +kernel)) ?_
        refine x_bipush (dat d_Mo_felt 26 rfl) (by decide) (by decide) ?_
        refine x_iload_n (dat d_Mo_felt 27 rfl) rfl rfl ?_
        refine x_imul (v := 8 * (i : Int)) (dat d_Mo_felt 28 rfl) (by omega) (by omega) ?_
        refine x_iload_n (dat d_Mo_felt 29 rfl) rfl rfl ?_
        refine x_iadd (v := (8 * (i : Int)) + p) (dat d_Mo_felt 30 rfl) rfl (by omega) ?_
        refine x_iald (n := 192) (v := y1) (dat d_Mo_felt 31 rfl) (ai_mk (by decide +kernel)) (by omega) (by omega) (q1.2) ?_
        refine x_aload_n (dat d_Mo_felt 32 rfl) rfl rfl ?_
        refine x_getr (r := 182) (dat d_Mo_felt 33 rfl) rfl f_Mo_32 (or_mk (by decide +kernel)) ?_
        refine x_bipush (dat d_Mo_felt 34 rfl) (by decide) (by decide) ?_
        refine x_iload_n (dat d_Mo_felt 35 rfl) rfl rfl ?_
        refine x_imul (v := 8 * (i : Int)) (dat d_Mo_felt 36 rfl) (by omega) (by omega) ?_
        refine x_iload_n (dat d_Mo_felt 37 rfl) rfl rfl ?_
        refine x_iadd (v := (8 * (i : Int)) + p) (dat d_Mo_felt 38 rfl) rfl (by omega) ?_
        refine x_iald (n := 192) (v := y2) (dat d_Mo_felt 39 rfl) (ai_mk (by decide +kernel)) (by omega) (by omega) (q2.2) ?_
        refine x_icmp_eq (tgt := 63) (dat d_Mo_felt 40 rfl) (by decide) (fun c_58 => ?_) (fun c_58 => ?_)
        · refine x_iinc (v' := ((i + 1 : Nat) : Int)) (L' := [vR 174, vI p, vI ((i + 1 : Nat) : Int)]) (dat d_Mo_felt 43 rfl) rfl (by decide) rfl (by omega) (by omega) rfl ?_
          refine x_goto (tgt := 2) (dat d_Mo_felt 44 rfl) (by decide) ?_
          refine ih (i + 1) (by omega) (fun j hj2 => ?_)
          by_cases z : j = i
          · rw [z]
            intro w
            rcases w with w | w
            · exact w (by omega)
            · exact w (yy.mp (by omega))
          · exact hj j (by omega)
        · refine x_iload_n (dat d_Mo_felt 41 rfl) rfl rfl ?_
          refine x_iret (dat d_Mo_felt 42 rfl) rfl ?_
          first
          | exact k _ (Or.inr ⟨i, by omega, rfl, Or.inl (by omega), hj⟩)
          | exact k _ (Or.inr ⟨i, by omega, rfl, Or.inr (fun w => absurd (yy.mpr w) (by omega)), hj⟩)
  refine x_enter 1 rfl rfl rfl (fun Z => ?_)
  show Wx g y_Mo_felt Z K 0 [vR 174, vI p, vU] [] σ
  refine x_iconst (dat d_Mo_felt 0 rfl) (by decide) ?_
  refine x_istore_n (L' := [vR 174, vI p, vI 0]) (dat d_Mo_felt 1 rfl) rfl (by decide) rfl rfl ?_
  exact lp Z (t 3).toNat 0 (by omega) (fun j hj => by omega)
end
