/-! the twin's answers: by lot, news, fever */ -/
theorem foldr_il (gl : Int → Bool) (kc x0 : Int) (f : Int → Bool) : ∀ l : List Ev, l.foldr (ilE false gl kc) (x0, f) = (x0, l.foldr (rchE gl) f)
  | [] => rfl
  | e :: l => by
    show ilE false gl kc e (l.foldr (ilE false gl kc) (x0, f)) = (x0, rchE gl e (l.foldr (rchE gl) f))
    rw [foldr_il gl kc x0 f l]
    rfl
section
variable {g : xG} {K : Option MV → xS → Prop} {σ σ0 : xS} {t : Int → Int} {t0 : Int} {a : Int → Int} {n : Int} {C : Cf}
theorem MoC.put {i v : Int} (H : MoC σ t t0 C) (hi : 33 < i) : MoC (up σ 174 i v) t t0 C := by
  have q : ∀ j : Int, j ≤ 33 → up σ 174 i v 174 j = σ 174 j := fun j hj => up_ni (by omega)
  refine H.knob H.2.1.2 ?_ (q 12 (by decide)) (up_ne (by decide)) ?_ (by rw [q 13 (by decide)]; exact H.2.2.2.1) (by rw [q 16 (by decide)]; exact H.2.2.2.2)
  · have e1 : up σ 174 i v 179 = σ 179 := up_ne (by decide)
    have e2 : up σ 174 i v 178 = σ 178 := up_ne (by decide)
    rw [e1, e2]
    exact H.2.1.1.trans (mC_congr q).symm
  · have := H.2.2.1
    unfold MoS at this ⊢
    rw [q 20 (by decide), q 21 (by decide), q 22 (by decide), q 32 (by decide), q 33 (by decide)]
    exact this
theorem sp_Mo_drawn {p s x : Int} (A : MoA σ a) (k : ∀ (r : Int) (σ' : xS), atT a n (-1) (fun t r => drwA t p s x r) r → MoA σ' a → MoF σ' σ → K (some (vI r)) σ') : Mt g y_Mo_drawn [vR 174, vI n, vI p, vI s, vI x] σ K := by
  have k0 : ¬ (0 ≤ n ∧ n < a 0) → K (some (vI (-1))) σ := fun z => k _ σ ⟨fun _ => rfl, fun z1 z2 => absurd ⟨z1, z2⟩ z⟩ A (MoF.rfl σ)
  have k1 : ∀ (r : Int) (σ' : xS), drwA (tw a n) p s x r → 0 ≤ n → n < a 0 → MoA σ' a → MoF σ' σ → K (some (vI r)) σ' := fun r σ' e n0 n1 A1 F1 => k r σ' ⟨fun z => absurd ⟨n0, n1⟩ z, fun _ _ => e⟩ A1 F1
  have c0 : ¬ ((0 ≤ p ∧ p < tw a n 6) ∧ (0 ≤ x ∧ x ≤ 10)) → drwA (tw a n) p s x (-1) := fun z => by unfold drwA; rw [if_pos z]
  refine x_enter 0 rfl rfl rfl (fun Z => ?_)
  show Wx g y_Mo_drawn Z K 0 [vR 174, vI n, vI p, vI s, vI x] [] σ
  refine x_aload_n (dat d_Mo_drawn 0 rfl) rfl rfl ?_
  refine x_iload_n (dat d_Mo_drawn 1 rfl) rfl rfl ?_
  refine x_inv (As := [vI n]) (dat d_Mo_drawn 2 rfl) rfl c_Mo_isTown l_Mo_205 (by decide) (rv_mo (by decide +kernel)) rfl rfl (Nat.le_of_ble_eq_true rfl) ?_
  refine sp_Mo_isTown A (fun σ1 t0 n0 n1 H P Z1 A1 F => ?_) (fun n01 => ?_)
  · show Wx g y_Mo_drawn Z K 5 [vR 174, vI n, vI p, vI s, vI x] [vI 1] σ1
    refine x_if_eq (tgt := 27) (dat d_Mo_drawn 3 rfl) (by decide) (fun h => absurd h (by decide)) (fun c_5 => ?_)
    refine x_aload_n (dat d_Mo_drawn 4 rfl) rfl rfl ?_
    refine x_iload_n (dat d_Mo_drawn 5 rfl) rfl rfl ?_
    refine x_inv (As := [vI p]) (dat d_Mo_drawn 6 rfl) rfl c_Mo_isPerson l_Mo_208 (by decide) (rv_mo (by decide +kernel)) rfl rfl (Nat.le_of_ble_eq_true rfl) ?_
    refine sp_Mo_isPerson H.1.1 H.1.2 (fun p0 p1 => ?_) (fun p01 => ?_)
    · show Wx g y_Mo_drawn Z K 13 [vR 174, vI n, vI p, vI s, vI x] [vI 1] σ1
      refine x_if_eq (tgt := 27) (dat d_Mo_drawn 7 rfl) (by decide) (fun h => absurd h (by decide)) (fun c_13 => ?_)
      refine x_iload (dat d_Mo_drawn 8 rfl) rfl ?_
      refine x_iconst (dat d_Mo_drawn 9 rfl) (by decide) ?_
      refine x_bipush (dat d_Mo_drawn 10 rfl) (by decide) (by decide) ?_
      refine x_invs (As := [vI x, vI 0, vI 10]) (dat d_Mo_drawn 11 rfl) rfl c_Mo_isIn l_Mo_136 (by decide) rfl rfl (Nat.le_of_ble_eq_true rfl) ?_
      refine sp_Mo_isIn (fun x1 x2 => ?_) (fun x1 => ?_)
      · show Wx g y_Mo_drawn Z K 24 [vR 174, vI n, vI p, vI s, vI x] [vI 1] σ1
        refine x_if_ne (tgt := 29) (dat d_Mo_drawn 12 rfl) (by decide) (fun c_24 => ?_) (fun h => absurd h (by decide))
        refine x_aload_n (dat d_Mo_drawn 15 rfl) rfl rfl ?_
        refine x_iconst (dat d_Mo_drawn 16 rfl) (by decide) ?_
        refine x_iload_n (dat d_Mo_drawn 17 rfl) rfl rfl ?_
        refine x_ishl (v := ishl 1 p) (dat d_Mo_drawn 18 rfl) rfl ?_
        refine x_puti (ji := 37) (x := (ishl 1 p)) (dat d_Mo_drawn 19 rfl) rfl f_Mo_253w (oi_mk (by decide +kernel)) (fun h => absurd h (by decide)) (by decide) ?_
        refine x_aload_n (dat d_Mo_drawn 20 rfl) rfl rfl ?_
        refine x_iconst (dat d_Mo_drawn 21 rfl) (by decide) ?_
        refine x_puti (ji := 39) (x := (1)) (dat d_Mo_drawn 22 rfl) rfl f_Mo_256w (oi_mk (by decide +kernel)) (fun _ => by decide) (by decide) ?_
        refine x_aload_n (dat d_Mo_drawn 23 rfl) rfl rfl ?_
        refine x_iload_n (dat d_Mo_drawn 24 rfl) rfl rfl ?_
        refine x_puti (ji := 40) (x := (s)) (dat d_Mo_drawn 25 rfl) rfl f_Mo_301w (oi_mk (by decide +kernel)) (fun h => absurd h (by decide)) (by decide) ?_
        refine x_aload_n (dat d_Mo_drawn 26 rfl) rfl rfl ?_
        refine x_iload (dat d_Mo_drawn 27 rfl) rfl ?_
        refine x_puti (ji := 41) (x := (x)) (dat d_Mo_drawn 28 rfl) rfl f_Mo_305w (oi_mk (by decide +kernel)) (fun h => absurd h (by decide)) (by decide) ?_
        refine x_aload_n (dat d_Mo_drawn 29 rfl) rfl rfl ?_
        refine x_inv (As := []) (dat d_Mo_drawn 30 rfl) rfl c_Mo_runs l_Mo_336 (by decide) (rv_mo (by decide +kernel)) rfl rfl (Nat.le_of_ble_eq_true rfl) ?_
        refine sp_Mo_runs (C := cfg (tw a n)) (t := tw a n) (t0 := t0) (s0 := fun _ => false) (n0 := fun _ => false) (i0 := (s, fun q => decide (q = p))) (dr := true) (kc := x) ((((H.put (by decide)).put (by decide)).put (by decide)).put (by decide)) ?_ ⟨?_, ?_⟩ ?_ (Or.inl rfl) ?_ ?_ (fun σ2 R => ?_)
        · rw [up_ni (by decide), up_ni (by decide), up_ni (by decide), up_ni (by decide), P.2.2.1.1]; exact Msk.zero 8
        · rw [up_ni (by decide), up_ni (by decide), up_ni (by decide), up_s]; exact Msk.one (n := 8) (by decide) p0 (by have := H.1.2.2.2.2.2.2.2.1; omega)
        · rw [up_ni (by decide), up_s]
        · rw [up_ni (by decide), up_ni (by decide), up_ni (by decide), up_ni (by decide), P.2.2.1.2]; exact Msk.zero 8
        · rw [up_ni (by decide), up_ni (by decide), up_s]; rfl
        · rw [up_s]
        have F2 := ((((F.put (i := 37) (v := ishl 1 p) (by decide)).put (i := 39) (v := 1) (by decide)).put (i := 40) (v := s) (by decide)).put (i := 41) (v := x) (by decide)).trans R.2.2.2.mo
        have A2 := A.same F2
        show Wx g y_Mo_drawn Z K 56 [vR 174, vI n, vI p, vI s, vI x] [] σ2
        refine x_aload_n (dat d_Mo_drawn 31 rfl) rfl rfl ?_
        refine x_geti (ji := 37) (v := σ2 174 37) (dat d_Mo_drawn 32 rfl) rfl f_Mo_253 (oi_mk (by decide +kernel)) rfl ?_
        refine x_iret (dat d_Mo_drawn 33 rfl) rfl ?_
        first
        | exact k0 n01
        | exact k1 _ _ (c0 (fun w => p01 w.1)) n0 n1 A1 F
        | exact k1 _ _ (c0 (fun w => x1 w.2)) n0 n1 A1 F
        | (refine k1 _ _ ?_ n0 n1 A2 F2
           unfold drwA
           rw [if_neg (fun z => z ⟨⟨p0, p1⟩, x1, x2⟩)]
           exact R.1.1.2.2.1.1)
      · show Wx g y_Mo_drawn Z K 24 [vR 174, vI n, vI p, vI s, vI x] [vI 0] σ1
        refine x_if_ne (tgt := 29) (dat d_Mo_drawn 12 rfl) (by decide) (fun h => absurd h (by decide)) (fun c_24 => ?_)
        refine x_iconst (dat d_Mo_drawn 13 rfl) (by decide) ?_
        refine x_iret (dat d_Mo_drawn 14 rfl) rfl ?_
        first
        | exact k0 n01
        | exact k1 _ _ (c0 (fun w => p01 w.1)) n0 n1 A1 F
        | exact k1 _ _ (c0 (fun w => x1 w.2)) n0 n1 A1 F
        | (refine k1 _ _ ?_ n0 n1 A2 F2
           unfold drwA
           rw [if_neg (fun z => z ⟨⟨p0, p1⟩, x1, x2⟩)]
           exact R.1.1.2.2.1.1)
    · show Wx g y_Mo_drawn Z K 13 [vR 174, vI n, vI p, vI s, vI x] [vI 0] σ1
      refine x_if_eq (tgt := 27) (dat d_Mo_drawn 7 rfl) (by decide) (fun c_13 => ?_) (fun h => absurd h (by decide))
      refine x_iconst (dat d_Mo_drawn 13 rfl) (by decide) ?_
      refine x_iret (dat d_Mo_drawn 14 rfl) rfl ?_
      first
      | exact k0 n01
      | exact k1 _ _ (c0 (fun w => p01 w.1)) n0 n1 A1 F
      | exact k1 _ _ (c0 (fun w => x1 w.2)) n0 n1 A1 F
      | (refine k1 _ _ ?_ n0 n1 A2 F2
         unfold drwA
         rw [if_neg (fun z => z ⟨⟨p0, p1⟩, x1, x2⟩)]
         exact R.1.1.2.2.1.1)
  · show Wx g y_Mo_drawn Z K 5 [vR 174, vI n, vI p, vI s, vI x] [vI 0] σ
    refine x_if_eq (tgt := 27) (dat d_Mo_drawn 3 rfl) (by decide) (fun c_5 => ?_) (fun h => absurd h (by decide))
    refine x_iconst (dat d_Mo_drawn 13 rfl) (by decide) ?_
    refine x_iret (dat d_Mo_drawn 14 rfl) rfl ?_
    first
    | exact k0 n01
    | exact k1 _ _ (c0 (fun w => p01 w.1)) n0 n1 A1 F
    | exact k1 _ _ (c0 (fun w => x1 w.2)) n0 n1 A1 F
    | (refine k1 _ _ ?_ n0 n1 A2 F2
       unfold drwA
       rw [if_neg (fun z => z ⟨⟨p0, p1⟩, x1, x2⟩)]
       exact R.1.1.2.2.1.1)
theorem sp_Mo_news {p o : Int} (A : MoA σ a) (k : ∀ (r : Int) (σ' : xS), atT a n (-1) (fun t r => nwsA t p o r) r → MoA σ' a → MoF σ' σ → K (some (vI r)) σ') : Mt g y_Mo_news [vR 174, vI n, vI p, vI o] σ K := by
  have k0 : ¬ (0 ≤ n ∧ n < a 0) → K (some (vI (-1))) σ := fun z => k _ σ ⟨fun _ => rfl, fun z1 z2 => absurd ⟨z1, z2⟩ z⟩ A (MoF.rfl σ)
  have k1 : ∀ (r : Int) (σ' : xS), nwsA (tw a n) p o r → 0 ≤ n → n < a 0 → MoA σ' a → MoF σ' σ → K (some (vI r)) σ' := fun r σ' e n0 n1 A1 F1 => k r σ' ⟨fun z => absurd ⟨n0, n1⟩ z, fun _ _ => e⟩ A1 F1
  have c0 : ¬ (((0 ≤ p ∧ p < tw a n 6) ∧ (0 ≤ o ∧ o < tw a n 6)) ∧ p ≠ o) → nwsA (tw a n) p o (-1) := fun z => by unfold nwsA; rw [if_pos z]
  have lp : ∀ (Z : xZ) (σ1 σ2 : xS) (t0 : Int), MoC σ2 (tw a n) t0 (cfg (tw a n)) → TwR σ1 σ2 (cfg (tw a n)) (fun _ => false) (σ1 174 40, fun _ => false) (fun q => decide (q = p)) false (σ1 174 41) (cH (cfg (tw a n))) → (0 ≤ o ∧ o < 8) → (∀ r : Int, FirstH (fun i => rch (fun _ => false) p (lgs (cfg (tw a n)) 0 (i + 1)) o = true) (tw a n 3).toNat r → K (some (vI r)) σ2) → ∀ (d i : Nat), i + d = (tw a n 3).toNat → (∀ j : Nat, j < i → ¬ rch (fun _ => false) p (lgs (cfg (tw a n)) 0 (j + 1)) o = true) → Wx g y_Mo_news Z K 45 [vR 174, vI n, vI p, vI o, vI (i : Int)] [] σ2 := by
    intro Z σ1 σ2 t0 M R ho kk d
    have t3 := M.1.2.2.2.2.1
    induction d with
    | zero =>
      intro i hd hj
      refine x_iload (dat d_Mo_news 26 rfl) rfl ?_
      refine x_aload_n (dat d_Mo_news 27 rfl) rfl rfl ?_
      refine x_iconst (dat d_Mo_news 28 rfl) (by decide) ?_
      refine x_inv (As := [vI 3]) (dat d_Mo_news 29 rfl) rfl c_Mo_of l_Mo_199 (by decide) (rv_mo (by decide +kernel)) rfl rfl (Nat.le_of_ble_eq_true rfl) ?_
      refine sp_Mo_of M.1.1 (by decide) (by decide) ?_
      show Wx g y_Mo_news Z K 52 [vR 174, vI n, vI p, vI o, vI (i : Int)] [vI (tw a n 3), vI (i : Int)] σ2
      refine x_icmp_ge (tgt := 79) (dat d_Mo_news 30 rfl) (by decide) (fun c_52 => ?_) (fun c_52 => (by omega))
      refine x_iconst (dat d_Mo_news 45 rfl) (by decide) ?_
      refine x_iret (dat d_Mo_news 46 rfl) rfl ?_
      exact kk _ (Or.inl ⟨rfl, fun j hj2 => hj j (by omega)⟩)
    | succ d ih =>
      intro i hd hj
      have bi := (R.2.2.1 i (by show i < (tw a n 3).toNat; omega)).2.2.2
      have gi := bi.get (by decide) ho.1 (show o < (8 : Nat) by omega)
      have e : nwT (cfg (tw a n)) (fun q => decide (q = p)) (i + 1) = rch (fun _ => false) p (lgs (cfg (tw a n)) 0 (i + 1)) := rfl
      rw [e] at gi
      obtain ⟨y, hy⟩ : ∃ y : Int, y = (if rch (fun _ => false) p (lgs (cfg (tw a n)) 0 (i + 1)) o = true then 1 else 0) := ⟨_, rfl⟩
      rw [← hy] at gi
      have y01 : (y = 1 ∧ rch (fun _ => false) p (lgs (cfg (tw a n)) 0 (i + 1)) o = true) ∨ (y = 0 ∧ ¬ rch (fun _ => false) p (lgs (cfg (tw a n)) 0 (i + 1)) o = true) := by rw [hy]; split <;> simp_all
      refine x_iload (dat d_Mo_news 26 rfl) rfl ?_
      refine x_aload_n (dat d_Mo_news 27 rfl) rfl rfl ?_
      refine x_iconst (dat d_Mo_news 28 rfl) (by decide) ?_
      refine x_inv (As := [vI 3]) (dat d_Mo_news 29 rfl) rfl c_Mo_of l_Mo_199 (by decide) (rv_mo (by decide +kernel)) rfl rfl (Nat.le_of_ble_eq_true rfl) ?_
      refine sp_Mo_of M.1.1 (by decide) (by decide) ?_
      show Wx g y_Mo_news Z K 52 [vR 174, vI n, vI p, vI o, vI (i : Int)] [vI (tw a n 3), vI (i : Int)] σ2
      refine x_icmp_ge (tgt := 79) (dat d_Mo_news 30 rfl) (by decide) (fun c_52 => (by omega)) (fun c_52 => ?_)
      refine x_aload_n (dat d_Mo_news 31 rfl) rfl rfl ?_
      refine x_getr (r := 190) (dat d_Mo_news 32 rfl) rfl f_Mo_56 (or_mk (by decide +kernel)) ?_
      refine x_iload (dat d_Mo_news 33 rfl) rfl ?_
      refine x_iald (n := 24) (v := σ2 190 (i : Int)) (dat d_Mo_news 34 rfl) (ai_mk (by decide +kernel)) (by omega) (by omega) rfl ?_
      refine x_iload_n (dat d_Mo_news 35 rfl) rfl rfl ?_
      refine x_ishr (v := ishr (σ2 190 (i : Int)) o) (dat d_Mo_news 36 rfl) rfl ?_
      refine x_iconst (dat d_Mo_news 37 rfl) (by decide) ?_
      refine x_iand (v := y) (dat d_Mo_news 38 rfl) (by exact gi) ?_
      refine x_iconst (dat d_Mo_news 39 rfl) (by decide) ?_
      refine x_icmp_ne (tgt := 73) (dat d_Mo_news 40 rfl) (by decide) (fun c_67 => ?_) (fun c_67 => ?_)
      · refine x_iinc (v' := ((i + 1 : Nat) : Int)) (L' := [vR 174, vI n, vI p, vI o, vI ((i + 1 : Nat) : Int)]) (dat d_Mo_news 43 rfl) rfl (by decide) rfl (by omega) (by omega) rfl ?_
        refine x_goto (tgt := 45) (dat d_Mo_news 44 rfl) (by decide) ?_
        have nb : ¬ rch (fun _ => false) p (lgs (cfg (tw a n)) 0 (i + 1)) o = true := by rcases y01 with z | z; exact absurd z.1 (by omega); exact z.2
        refine ih (i + 1) (by omega) (fun j hj2 => ?_)
        by_cases z : j = i
        · rw [z]; exact nb
        · exact hj j (by omega)
      · refine x_iload (dat d_Mo_news 41 rfl) rfl ?_
        refine x_iret (dat d_Mo_news 42 rfl) rfl ?_
        have yb : rch (fun _ => false) p (lgs (cfg (tw a n)) 0 (i + 1)) o = true := by rcases y01 with z | z; exact z.2; exact absurd z.1 (by omega)
        exact kk _ (Or.inr ⟨i, by omega, rfl, yb, hj⟩)
  refine x_enter 1 rfl rfl rfl (fun Z => ?_)
  show Wx g y_Mo_news Z K 0 [vR 174, vI n, vI p, vI o, vU] [] σ
  refine x_aload_n (dat d_Mo_news 0 rfl) rfl rfl ?_
  refine x_iload_n (dat d_Mo_news 1 rfl) rfl rfl ?_
  refine x_inv (As := [vI n]) (dat d_Mo_news 2 rfl) rfl c_Mo_isTown l_Mo_205 (by decide) (rv_mo (by decide +kernel)) rfl rfl (Nat.le_of_ble_eq_true rfl) ?_
  refine sp_Mo_isTown A (fun σ1 t0 n0 n1 H P Z1 A1 F => ?_) (fun n01 => ?_)
  · show Wx g y_Mo_news Z K 5 [vR 174, vI n, vI p, vI o, vU] [vI 1] σ1
    refine x_if_eq (tgt := 29) (dat d_Mo_news 3 rfl) (by decide) (fun h => absurd h (by decide)) (fun c_5 => ?_)
    refine x_aload_n (dat d_Mo_news 4 rfl) rfl rfl ?_
    refine x_iload_n (dat d_Mo_news 5 rfl) rfl rfl ?_
    refine x_inv (As := [vI p]) (dat d_Mo_news 6 rfl) rfl c_Mo_isPerson l_Mo_208 (by decide) (rv_mo (by decide +kernel)) rfl rfl (Nat.le_of_ble_eq_true rfl) ?_
    refine sp_Mo_isPerson H.1.1 H.1.2 (fun p0 p1 => ?_) (fun p01 => ?_)
    · show Wx g y_Mo_news Z K 13 [vR 174, vI n, vI p, vI o, vU] [vI 1] σ1
      refine x_if_eq (tgt := 29) (dat d_Mo_news 7 rfl) (by decide) (fun h => absurd h (by decide)) (fun c_13 => ?_)
      refine x_aload_n (dat d_Mo_news 8 rfl) rfl rfl ?_
      refine x_iload_n (dat d_Mo_news 9 rfl) rfl rfl ?_
      refine x_inv (As := [vI o]) (dat d_Mo_news 10 rfl) rfl c_Mo_isPerson l_Mo_208 (by decide) (rv_mo (by decide +kernel)) rfl rfl (Nat.le_of_ble_eq_true rfl) ?_
      refine sp_Mo_isPerson H.1.1 H.1.2 (fun o0 o1 => ?_) (fun o01 => ?_)
      · show Wx g y_Mo_news Z K 21 [vR 174, vI n, vI p, vI o, vU] [vI 1] σ1
        refine x_if_eq (tgt := 29) (dat d_Mo_news 11 rfl) (by decide) (fun h => absurd h (by decide)) (fun c_21 => ?_)
        refine x_iload_n (dat d_Mo_news 12 rfl) rfl rfl ?_
        refine x_iload_n (dat d_Mo_news 13 rfl) rfl rfl ?_
        refine x_icmp_ne (tgt := 31) (dat d_Mo_news 14 rfl) (by decide) (fun c_26 => ?_) (fun c_26 => ?_)
        · refine x_aload_n (dat d_Mo_news 17 rfl) rfl rfl ?_
          refine x_iconst (dat d_Mo_news 18 rfl) (by decide) ?_
          refine x_iload_n (dat d_Mo_news 19 rfl) rfl rfl ?_
          refine x_ishl (v := ishl 1 p) (dat d_Mo_news 20 rfl) rfl ?_
          refine x_puti (ji := 52) (x := (ishl 1 p)) (dat d_Mo_news 21 rfl) rfl f_Mo_250w (oi_mk (by decide +kernel)) (fun h => absurd h (by decide)) (by decide) ?_
          refine x_aload_n (dat d_Mo_news 22 rfl) rfl rfl ?_
          refine x_inv (As := []) (dat d_Mo_news 23 rfl) rfl c_Mo_runs l_Mo_336 (by decide) (rv_mo (by decide +kernel)) rfl rfl (Nat.le_of_ble_eq_true rfl) ?_
          refine sp_Mo_runs (C := cfg (tw a n)) (t := tw a n) (t0 := t0) (s0 := fun _ => false) (n0 := fun q => decide (q = p)) (i0 := (σ1 174 40, fun _ => false)) (dr := false) (kc := σ1 174 41) (H.put (by decide)) ?_ ⟨?_, ?_⟩ ?_ (Or.inl rfl) ?_ ?_ (fun σ2 R => ?_)
          · rw [up_ni (by decide), P.2.2.1.1]; exact Msk.zero 8
          · rw [up_ni (by decide), P.2.2.2.1]; exact Msk.zero 8
          · rw [up_ni (by decide)]
          · rw [up_s]; exact Msk.one (n := 8) (by decide) p0 (by have := H.1.2.2.2.2.2.2.2.1; omega)
          · rw [up_ni (by decide), P.2.2.2.2]; rfl
          · rw [up_ni (by decide)]
          have F2 := (F.put (i := 52) (v := ishl 1 p) (by decide)).trans R.2.2.2.mo
          have A2 := A.same F2
          have M2 := (H.put (i := 52) (v := ishl 1 p) (by decide)).same R.2.2.2
          have t6 := H.1.2.2.2.2.2.2.2.1
          have R2 : TwR (up σ1 174 52 (ishl 1 p)) σ2 (cfg (tw a n)) (fun _ => false) (up σ1 174 52 (ishl 1 p) 174 40, fun _ => false) (fun q => decide (q = p)) false (up σ1 174 52 (ishl 1 p) 174 41) (cH (cfg (tw a n))) := by rw [up_ni (by decide), up_ni (by decide)]; exact R
          show Wx g y_Mo_news Z K 42 [vR 174, vI n, vI p, vI o, vU] [] σ2
          refine x_iconst (dat d_Mo_news 24 rfl) (by decide) ?_
          refine x_istore (L' := [vR 174, vI n, vI p, vI o, vI 0]) (dat d_Mo_news 25 rfl) (by decide) rfl rfl ?_
          refine lp Z (up σ1 174 52 (ishl 1 p)) σ2 t0 M2 R2 (by omega) (fun r hr => ?_) (tw a n 3).toNat 0 (by omega) (fun j hj => by omega)
          refine k1 _ _ ?_ n0 n1 A2 F2
          unfold nwsA
          rw [if_neg (fun z => z ⟨⟨⟨p0, p1⟩, o0, o1⟩, by omega⟩)]
          exact hr
        · refine x_iconst (dat d_Mo_news 15 rfl) (by decide) ?_
          refine x_iret (dat d_Mo_news 16 rfl) rfl ?_
          first
          | exact k0 n01
          | exact k1 _ _ (c0 (fun w => p01 w.1.1)) n0 n1 A1 F
          | exact k1 _ _ (c0 (fun w => o01 w.1.2)) n0 n1 A1 F
          | exact k1 _ _ (c0 (fun w => w.2 (by omega))) n0 n1 A1 F
      · show Wx g y_Mo_news Z K 21 [vR 174, vI n, vI p, vI o, vU] [vI 0] σ1
        refine x_if_eq (tgt := 29) (dat d_Mo_news 11 rfl) (by decide) (fun c_21 => ?_) (fun h => absurd h (by decide))
        refine x_iconst (dat d_Mo_news 15 rfl) (by decide) ?_
        refine x_iret (dat d_Mo_news 16 rfl) rfl ?_
        first
        | exact k0 n01
        | exact k1 _ _ (c0 (fun w => p01 w.1.1)) n0 n1 A1 F
        | exact k1 _ _ (c0 (fun w => o01 w.1.2)) n0 n1 A1 F
        | exact k1 _ _ (c0 (fun w => w.2 (by omega))) n0 n1 A1 F
    · show Wx g y_Mo_news Z K 13 [vR 174, vI n, vI p, vI o, vU] [vI 0] σ1
      refine x_if_eq (tgt := 29) (dat d_Mo_news 7 rfl) (by decide) (fun c_13 => ?_) (fun h => absurd h (by decide))
      refine x_iconst (dat d_Mo_news 15 rfl) (by decide) ?_
      refine x_iret (dat d_Mo_news 16 rfl) rfl ?_
      first
      | exact k0 n01
      | exact k1 _ _ (c0 (fun w => p01 w.1.1)) n0 n1 A1 F
      | exact k1 _ _ (c0 (fun w => o01 w.1.2)) n0 n1 A1 F
      | exact k1 _ _ (c0 (fun w => w.2 (by omega))) n0 n1 A1 F
  · show Wx g y_Mo_news Z K 5 [vR 174, vI n, vI p, vI o, vU] [vI 0] σ
    refine x_if_eq (tgt := 29) (dat d_Mo_news 3 rfl) (by decide) (fun c_5 => ?_) (fun h => absurd h (by decide))
    refine x_iconst (dat d_Mo_news 15 rfl) (by decide) ?_
    refine x_iret (dat d_Mo_news 16 rfl) rfl ?_
    first
    | exact k0 n01
    | exact k1 _ _ (c0 (fun w => p01 w.1.1)) n0 n1 A1 F
    | exact k1 _ _ (c0 (fun w => o01 w.1.2)) n0 n1 A1 F
    | exact k1 _ _ (c0 (fun w => w.2 (by omega))) n0 n1 A1 F
end
