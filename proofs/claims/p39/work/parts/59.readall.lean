/-! the reader: a whole text -/
theorem sp_Tw_reset {g : xG} {K : Option MV → xS → Prop} {σ : xS} (k : ∀ σ' : xS, (((σ' 124 0 = 3 ∧ σ' 124 1 = 3) ∧ (σ' 124 2 = 0 ∧ σ' 124 3 = 12)) ∧ (σ' 124 4 = 1 ∧ σ' 124 5 = 6) ∧ (σ' 124 6 = 0 ∧ σ' 124 7 = 0)) → (∀ p : Int, 0 ≤ p → p < 8 → σ' 128 p = 0 ∧ σ' 129 p = 0) → (∀ o : Nat, o ≠ 124 → o ≠ 128 → o ≠ 129 → σ' o = σ o) → K none σ') : Mt g y_Tw_reset [vR 124] σ K := by
  have lp : ∀ (Z : xZ) (d p : Nat) (σ1 : xS), p + d = 8 → (((σ1 124 0 = 3 ∧ σ1 124 1 = 3) ∧ (σ1 124 2 = 0 ∧ σ1 124 3 = 12)) ∧ (σ1 124 4 = 1 ∧ σ1 124 5 = 6) ∧ (σ1 124 6 = 0 ∧ σ1 124 7 = 0)) → (∀ j : Int, 0 ≤ j → j < p → σ1 128 j = 0 ∧ σ1 129 j = 0) → (∀ o : Nat, o ≠ 124 → o ≠ 128 → o ≠ 129 → σ1 o = σ o) → Wx g y_Tw_reset Z K 44 [vR 124, vI (p : Int)] [] σ1 := by
    intro Z d
    induction d with
    | zero =>
      intro p σ1 hd A B F
      have e : p = 8 := by omega
      subst e
      refine x_iload_n (dat d_Tw_reset 26 rfl) rfl rfl ?_
      refine x_bipush (dat d_Tw_reset 27 rfl) (by decide) (by decide) ?_
      refine x_icmp_ge (tgt := 70) (dat d_Tw_reset 28 rfl) (by decide) (fun c_47 => ?_) (fun c_47 => (by omega))
      refine x_ret (dat d_Tw_reset 41 rfl) rfl ?_
      exact k σ1 A (fun j j0 j1 => B j j0 (by omega)) F
    | succ d ih =>
      intro p σ1 hd A B F
      refine x_iload_n (dat d_Tw_reset 26 rfl) rfl rfl ?_
      refine x_bipush (dat d_Tw_reset 27 rfl) (by decide) (by decide) ?_
      refine x_icmp_ge (tgt := 70) (dat d_Tw_reset 28 rfl) (by decide) (fun c_47 => (by omega)) (fun c_47 => ?_)
      refine x_aload_n (dat d_Tw_reset 29 rfl) rfl rfl ?_
      refine x_getr (r := 128) (dat d_Tw_reset 30 rfl) rfl f_Tw_21 (or_mk (by decide +kernel)) ?_
      refine x_iload_n (dat d_Tw_reset 31 rfl) rfl rfl ?_
      refine x_iconst (dat d_Tw_reset 32 rfl) (by decide) ?_
      refine x_iast (n := 8) (dat d_Tw_reset 33 rfl) (ai_mk (by decide +kernel)) (by omega) (by omega) ?_
      refine x_aload_n (dat d_Tw_reset 34 rfl) rfl rfl ?_
      refine x_getr (r := 129) (dat d_Tw_reset 35 rfl) rfl f_Tw_24 (or_mk (by decide +kernel)) ?_
      refine x_iload_n (dat d_Tw_reset 36 rfl) rfl rfl ?_
      refine x_iconst (dat d_Tw_reset 37 rfl) (by decide) ?_
      refine x_iast (n := 8) (dat d_Tw_reset 38 rfl) (ai_mk (by decide +kernel)) (by omega) (by omega) ?_
      refine x_iinc (v' := ((p + 1 : Nat) : Int)) (L' := [vR 124, vI ((p + 1 : Nat) : Int)]) (dat d_Tw_reset 39 rfl) rfl (by decide) rfl (by omega) (by omega) rfl ?_
      refine x_goto (tgt := 44) (dat d_Tw_reset 40 rfl) (by decide) ?_
      refine ih (p + 1) _ (by omega) ?_ (fun j j0 j1 => ?_) (fun o a b c => by rw [up_ne c, up_ne b]; exact F o a b c)
      · rw [up_ne (by decide), up_ne (by decide)]; exact A
      · by_cases z : j = (p : Int)
        · rw [z, up_nk (by decide), up_s, up_s]; exact ⟨rfl, rfl⟩
        · rw [up_nk (by decide), up_ni (Ne.symm z), up_ni (Ne.symm z), up_nk (by decide)]; exact B j j0 (by omega)
  refine x_enter 1 rfl rfl rfl (fun Z => ?_)
  show Wx g y_Tw_reset Z K 0 [vR 124, vU] [] σ
  refine x_aload_n (dat d_Tw_reset 0 rfl) rfl rfl ?_
  refine x_iconst (dat d_Tw_reset 1 rfl) (by decide) ?_
  refine x_puti (ji := 0) (x := (3)) (dat d_Tw_reset 2 rfl) rfl f_Tw_36w (oi_mk (by decide +kernel)) (fun h => absurd h (by decide)) (by decide) ?_
  refine x_aload_n (dat d_Tw_reset 3 rfl) rfl rfl ?_
  refine x_iconst (dat d_Tw_reset 4 rfl) (by decide) ?_
  refine x_puti (ji := 1) (x := (3)) (dat d_Tw_reset 5 rfl) rfl f_Tw_40w (oi_mk (by decide +kernel)) (fun h => absurd h (by decide)) (by decide) ?_
  refine x_aload_n (dat d_Tw_reset 6 rfl) rfl rfl ?_
  refine x_iconst (dat d_Tw_reset 7 rfl) (by decide) ?_
  refine x_puti (ji := 2) (x := (0)) (dat d_Tw_reset 8 rfl) rfl f_Tw_43w (oi_mk (by decide +kernel)) (fun h => absurd h (by decide)) (by decide) ?_
  refine x_aload_n (dat d_Tw_reset 9 rfl) rfl rfl ?_
  refine x_bipush (dat d_Tw_reset 10 rfl) (by decide) (by decide) ?_
  refine x_puti (ji := 3) (x := (12)) (dat d_Tw_reset 11 rfl) rfl f_Tw_46w (oi_mk (by decide +kernel)) (fun h => absurd h (by decide)) (by decide) ?_
  refine x_aload_n (dat d_Tw_reset 12 rfl) rfl rfl ?_
  refine x_iconst (dat d_Tw_reset 13 rfl) (by decide) ?_
  refine x_puti (ji := 4) (x := (1)) (dat d_Tw_reset 14 rfl) rfl f_Tw_49w (oi_mk (by decide +kernel)) (fun h => absurd h (by decide)) (by decide) ?_
  refine x_aload_n (dat d_Tw_reset 15 rfl) rfl rfl ?_
  refine x_bipush (dat d_Tw_reset 16 rfl) (by decide) (by decide) ?_
  refine x_puti (ji := 5) (x := (6)) (dat d_Tw_reset 17 rfl) rfl f_Tw_52w (oi_mk (by decide +kernel)) (fun h => absurd h (by decide)) (by decide) ?_
  refine x_aload_n (dat d_Tw_reset 18 rfl) rfl rfl ?_
  refine x_iconst (dat d_Tw_reset 19 rfl) (by decide) ?_
  refine x_puti (ji := 6) (x := (0)) (dat d_Tw_reset 20 rfl) rfl f_Tw_55w (oi_mk (by decide +kernel)) (fun h => absurd h (by decide)) (by decide) ?_
  refine x_aload_n (dat d_Tw_reset 21 rfl) rfl rfl ?_
  refine x_iconst (dat d_Tw_reset 22 rfl) (by decide) ?_
  refine x_puti (ji := 7) (x := (0)) (dat d_Tw_reset 23 rfl) rfl f_Tw_58w (oi_mk (by decide +kernel)) (fun h => absurd h (by decide)) (by decide) ?_
  refine x_iconst (dat d_Tw_reset 24 rfl) (by decide) ?_
  refine x_istore_n (L' := [vR 124, vI 0]) (dat d_Tw_reset 25 rfl) rfl (by decide) rfl rfl ?_
  refine lp Z 8 0 _ rfl ⟨⟨⟨?_, ?_⟩, ?_, ?_⟩, ⟨?_, ?_⟩, ?_, ?_⟩ (fun j j0 j1 => by omega) (fun o a b c => by rw [up_ne a, up_ne a, up_ne a, up_ne a, up_ne a, up_ne a, up_ne a, up_ne a])
  · rw [up_ni (by decide), up_ni (by decide), up_ni (by decide), up_ni (by decide), up_ni (by decide), up_ni (by decide), up_ni (by decide), up_s]
  · rw [up_ni (by decide), up_ni (by decide), up_ni (by decide), up_ni (by decide), up_ni (by decide), up_ni (by decide), up_s]
  · rw [up_ni (by decide), up_ni (by decide), up_ni (by decide), up_ni (by decide), up_ni (by decide), up_s]
  · rw [up_ni (by decide), up_ni (by decide), up_ni (by decide), up_ni (by decide), up_s]
  · rw [up_ni (by decide), up_ni (by decide), up_ni (by decide), up_s]
  · rw [up_ni (by decide), up_ni (by decide), up_s]
  · rw [up_ni (by decide), up_s]
  · rw [up_s]
theorem row0_ok (s : Int) : RwOk s (row0 s) (-1) (-1) := by
  refine ⟨fun hs => ?_, fun hs => ?_⟩
  · subst hs
    have e : ∀ x : Int, 6 ≤ x → row0 0 x = 0 := fun x hx => by
      show (if x = 0 ∨ x = 1 then (3 : Int) else if x = 3 then 12 else if x = 4 then 1 else if x = 5 then 6 else 0) = 0
      rw [if_neg (by omega), if_neg (by omega), if_neg (by omega), if_neg (by omega)]
    have e0 : row0 0 0 = 3 ∧ row0 0 1 = 3 ∧ row0 0 2 = 0 ∧ row0 0 3 = 12 ∧ row0 0 4 = 1 ∧ row0 0 5 = 6 := by decide
    refine ⟨by rw [e 6 (by decide), e 7 (by decide)]; omega, fun p p0 p1 => ?_, fun p p0 p1 => ?_, fun q q0 q1 => ?_⟩
    · rw [e 6 (by decide)] at p1; omega
    · rw [e (23 + 17 * p) (by omega), e (24 + 17 * p) (by omega)]
      exact ⟨⟨by decide, by decide⟩, ⟨by decide, by decide⟩, fun i i0 i1 => by omega⟩
    · rw [e 7 (by decide)] at q1; omega
  · subst hs
    exact ⟨⟨by decide, by decide⟩, fun k k0 k1 => by have : k < 0 := k1; omega⟩
theorem sp_Re_begin {g : xG} {K : Option MV → xS → Prop} {σ : xS} {T : Int → Int} {n s : Int} (hs : s = 0 ∨ s = 1) (n0 : 0 ≤ n) (n1 : n ≤ 600) (hT : ∀ i : Int, 0 ≤ i → i < n → (0 ≤ T i ∧ T i ≤ 255) ∧ σ 2 i = i2b (T i))
    (k : ∀ σ' : xS, ClS σ' T n s (begP T n s) 0 → ReF σ' σ → K none σ') : Mt g y_Re_begin [vR 123, vR 2, vI n] σ K := by
  refine x_enter 0 rfl rfl rfl (fun Z => ?_)
  show Wx g y_Re_begin Z K 0 [vR 123, vR 2, vI n] [] σ
  refine x_aload_n (dat d_Re_begin 0 rfl) rfl rfl ?_
  refine x_aload_n (dat d_Re_begin 1 rfl) rfl rfl ?_
  refine x_putd (r := 2) (dat d_Re_begin 2 rfl) rfl f_Re_62w (by decide +kernel) (by decide) ?_
  refine x_aload_n (dat d_Re_begin 3 rfl) rfl rfl ?_
  refine x_iload_n (dat d_Re_begin 4 rfl) rfl rfl ?_
  refine x_aload_n (dat d_Re_begin 5 rfl) rfl rfl ?_
  refine x_alen (n := 600) (t := 21) (dat d_Re_begin 6 rfl) (ai_mk (by decide +kernel)) (by decide) ?_
  refine x_mmin (own := "ShakenBread$Reader") (dat d_Re_begin 7 rfl) rfl l_Re_66 (by decide) (Nat.le_of_ble_eq_true rfl) (fun m_9 h1_9 h2_9 h3_9 => ?_)
  skip
  · have hm : m_9 = n := by omega
    rw [hm]
    refine x_puti (ji := 6) (x := (n)) (dat d_Re_begin 8 rfl) rfl f_Re_56w (oi_mk (by decide +kernel)) (fun h => absurd h (by decide)) (by decide) ?_
    refine x_aload_n (dat d_Re_begin 9 rfl) rfl rfl ?_
    refine x_iconst (dat d_Re_begin 10 rfl) (by decide) ?_
    refine x_puti (ji := 7) (x := (0)) (dat d_Re_begin 11 rfl) rfl f_Re_72w (oi_mk (by decide +kernel)) (fun h => absurd h (by decide)) (by decide) ?_
    refine x_aload_n (dat d_Re_begin 12 rfl) rfl rfl ?_
    refine x_iconst (dat d_Re_begin 13 rfl) (by decide) ?_
    refine x_puti (ji := 2) (x := (0)) (dat d_Re_begin 14 rfl) rfl f_Re_53w (oi_mk (by decide +kernel)) (fun h => absurd h (by decide)) (by decide) ?_
    refine x_aload_n (dat d_Re_begin 15 rfl) rfl rfl ?_
    refine x_iconst (dat d_Re_begin 16 rfl) (by decide) ?_
    refine x_puti (ji := 3) (x := ((-1))) (dat d_Re_begin 17 rfl) rfl f_Re_59w (oi_mk (by decide +kernel)) (fun h => absurd h (by decide)) (by decide) ?_
    refine x_aload_n (dat d_Re_begin 18 rfl) rfl rfl ?_
    refine x_iconst (dat d_Re_begin 19 rfl) (by decide) ?_
    refine x_puti (ji := 12) (x := (0)) (dat d_Re_begin 20 rfl) rfl f_Re_75w (oi_mk (by decide +kernel)) (fun h => absurd h (by decide)) (by decide) ?_
    refine x_aload_n (dat d_Re_begin 21 rfl) rfl rfl ?_
    refine x_iconst (dat d_Re_begin 22 rfl) (by decide) ?_
    refine x_puti (ji := 13) (x := (0)) (dat d_Re_begin 23 rfl) rfl f_Re_78w (oi_mk (by decide +kernel)) (fun h => absurd h (by decide)) (by decide) ?_
    refine x_aload_n (dat d_Re_begin 24 rfl) rfl rfl ?_
    refine x_iconst (dat d_Re_begin 25 rfl) (by decide) ?_
    refine x_puti (ji := 14) (x := (0)) (dat d_Re_begin 26 rfl) rfl f_Re_81w (oi_mk (by decide +kernel)) (fun h => absurd h (by decide)) (by decide) ?_
    refine x_aload_n (dat d_Re_begin 27 rfl) rfl rfl ?_
    refine x_iconst (dat d_Re_begin 28 rfl) (by decide) ?_
    refine x_puti (ji := 15) (x := ((-1))) (dat d_Re_begin 29 rfl) rfl f_Re_37w (oi_mk (by decide +kernel)) (fun h => absurd h (by decide)) (by decide) ?_
    refine x_aload_n (dat d_Re_begin 30 rfl) rfl rfl ?_
    refine x_iconst (dat d_Re_begin 31 rfl) (by decide) ?_
    refine x_puti (ji := 16) (x := ((-1))) (dat d_Re_begin 32 rfl) rfl f_Re_44w (oi_mk (by decide +kernel)) (fun h => absurd h (by decide)) (by decide) ?_
    refine x_aload_n (dat d_Re_begin 33 rfl) rfl rfl ?_
    refine x_getr (r := 124) (dat d_Re_begin 34 rfl) rfl f_Re_12 (or_mk (by decide +kernel)) ?_
    refine x_inv (As := []) (dat d_Re_begin 35 rfl) rfl c_Tw_reset l_Re_84 (by decide) (rv_tw (by decide +kernel)) rfl rfl (Nat.le_of_ble_eq_true rfl) ?_
    refine sp_Tw_reset (fun σ1 A B F => ?_)
    show Wx g y_Re_begin Z K 62 [vR 123, vR 2, vI n] [] σ1
    refine x_aload_n (dat d_Re_begin 36 rfl) rfl rfl ?_
    refine x_getr (r := 133) (dat d_Re_begin 37 rfl) rfl f_Re_21 (or_mk (by decide +kernel)) ?_
    refine x_iconst (dat d_Re_begin 38 rfl) (by decide) ?_
    refine x_puti (ji := 0) (x := (0)) (dat d_Re_begin 39 rfl) rfl f_Re_87w (oi_mk (by decide +kernel)) (fun h => absurd h (by decide)) (by decide) ?_
    refine x_ret (dat d_Re_begin 40 rfl) rfl ?_
    have c : ∀ i : Int, (up σ1 133 0 0) 123 i = _ := fun i => (congrFun (up_ne (by decide)) i).trans (congrFun (F 123 (by decide) (by decide) (by decide)) i)
    refine k _ ⟨⟨⟨n0, n1⟩, ?_, ?_, fun i i0 i1 => ⟨(hT i i0 i1).1, ?_⟩⟩, ⟨0, by decide, n0, ?_, rfl⟩, ⟨?_, ?_, ?_, ?_⟩, ⟨?_, ?_, ?_⟩, fun _ => ⟨⟨fun w => ?_, fun w => ?_⟩, row0_ok s, fun w => ?_, fun w => ?_⟩⟩ (fun o ho => by rw [up_ne (by omega), F o (by omega) (by omega) (by omega), up_ne (by omega), up_ne (by omega), up_ne (by omega), up_ne (by omega), up_ne (by omega), up_ne (by omega), up_ne (by omega), up_ne (by omega), up_ne (by omega), up_ne (by omega)])
    · rw [c, up_ni (by decide), up_ni (by decide), up_ni (by decide), up_ni (by decide), up_ni (by decide), up_ni (by decide), up_ni (by decide), up_ni (by decide), up_ni (by decide), up_s]; rfl
    · rw [c, up_ni (by decide), up_ni (by decide), up_ni (by decide), up_ni (by decide), up_ni (by decide), up_ni (by decide), up_ni (by decide), up_ni (by decide), up_s]
    · rw [up_ne (by decide), F 2 (by decide) (by decide) (by decide), up_ne (by decide), up_ne (by decide), up_ne (by decide), up_ne (by decide), up_ne (by decide), up_ne (by decide), up_ne (by decide), up_ne (by decide), up_ne (by decide), up_ne (by decide)]; exact (hT i i0 i1).2
    · rw [c, up_ni (by decide), up_ni (by decide), up_ni (by decide), up_ni (by decide), up_ni (by decide), up_ni (by decide), up_ni (by decide), up_s]
    · rw [c, up_ni (by decide), up_ni (by decide), up_ni (by decide), up_ni (by decide), up_ni (by decide), up_ni (by decide), up_s]; rfl
    · rw [c, up_ni (by decide), up_ni (by decide), up_ni (by decide), up_ni (by decide), up_ni (by decide), up_s]; rfl
    · rw [c, up_ni (by decide), up_s]; rfl
    · rw [c, up_s]; rfl
    · rw [c, up_ni (by decide), up_ni (by decide), up_ni (by decide), up_ni (by decide), up_s]; decide
    · rw [c, up_ni (by decide), up_ni (by decide), up_ni (by decide), up_s]; decide
    · rw [c, up_ni (by decide), up_ni (by decide), up_s]; decide
    · subst w
      have e : ∀ x : Int, 6 ≤ x → row0 0 x = 0 := fun x hx => by
        show (if x = 0 ∨ x = 1 then (3 : Int) else if x = 3 then 12 else if x = 4 then 1 else if x = 5 then 6 else 0) = 0
        rw [if_neg (by omega), if_neg (by omega), if_neg (by omega), if_neg (by omega)]
      have c4 : ∀ j : Nat, j ≠ 133 → (up σ1 133 0 0) j = σ1 j := fun j hj => up_ne hj
      refine ⟨fun i i0 i1 => ?_, fun p p0 p1 => ?_, fun p p0 p1 => ?_, fun q q0 q1 => ?_⟩
      · rw [c4 124 (by decide)]
        rcases (show (((((((i = 0 ∨ i = 1) ∨ i = 2) ∨ i = 3) ∨ i = 4) ∨ i = 5) ∨ i = 6) ∨ i = 7) by omega) with ((((((q | q) | q) | q) | q) | q) | q) | q
        · subst q; exact A.1.1.1
        · subst q; exact A.1.1.2
        · subst q; exact A.1.2.1
        · subst q; exact A.1.2.2
        · subst q; exact A.2.1.1
        · subst q; exact A.2.1.2
        · subst q; exact A.2.2.1
        · subst q; exact A.2.2.2
      · have p1 : p < row0 0 6 := p1
        rw [e 6 (by decide)] at p1; omega
      · rw [c4 128 (by decide), c4 129 (by decide)]
        have e3 : (begP T n 0).2.2.2.2 (23 + 17 * p) = 0 := e (23 + 17 * p) (by omega)
        have e4 : (begP T n 0).2.2.2.2 (24 + 17 * p) = 0 := e (24 + 17 * p) (by omega)
        rw [e3, e4]
        exact ⟨(B p p0 p1).1, (B p p0 p1).2, fun i i0 i1 => by omega⟩
      · have q1 : q < row0 0 7 := q1
        rw [e 7 (by decide)] at q1; omega
    · subst w
      refine ⟨up_s, fun q q0 q1 => ?_⟩
      have q1 : q < 0 := q1
      omega
    · subst w
      rw [c, c, c]
      refine ⟨?_, ?_, ?_⟩
      · rw [up_ni (by decide), up_ni (by decide), up_ni (by decide), up_ni (by decide), up_s]; rfl
      · rw [up_ni (by decide), up_ni (by decide), up_ni (by decide), up_s]; rfl
      · rw [up_ni (by decide), up_ni (by decide), up_s]
    · subst w
      rw [c, c, c]
      refine ⟨?_, ?_, ?_⟩
      · rw [up_ni (by decide), up_ni (by decide), up_ni (by decide), up_ni (by decide), up_s]
      · rw [up_ni (by decide), up_ni (by decide), up_ni (by decide), up_s]
      · rw [up_ni (by decide), up_ni (by decide), up_s]; rfl
theorem ClS.fin {σ : xS} {T : Int → Int} {n s L : Int} {P : Ps} (C : ClS σ T n s P L) : ClE σ n s P := by
  obtain ⟨H, -, ⟨e2, e3, e15, e16⟩, -, hz⟩ := C
  exact ⟨H.2.2.1, e2, e3, fun z => ⟨⟨e15, e16⟩, (hz z).1, (hz z).2.1⟩⟩
def rowP (T : Int → Int) (n s : Int) : Int → Int := (endP T n s).2.2.2.2
/-- a text read -/
theorem sp_Re_read {g : xG} {K : Option MV → xS → Prop} {σ : xS} {T : Int → Int} {n s : Int} (hs : s = 0 ∨ s = 1) (n0 : 0 ≤ n) (n1 : n ≤ 600) (hT : ∀ i : Int, 0 ≤ i → i < n → (0 ≤ T i ∧ T i ≤ 255) ∧ σ 2 i = i2b (T i))
    (k : ∀ σ' : xS, σ' 123 2 = (fltP T n s).1 → σ' 123 3 = (fltP T n s).2 → ((fltP T n s).1 = 0 → (s = 0 → TownOk (rowP T n s) ∧ TownR σ' 124 (rowP T n s)) ∧ (s = 1 → BookOk (rowP T n s) ∧ BookR σ' 133 (rowP T n s))) → ReF σ' σ → K none σ') : Mt g y_Re_read [vR 123, vI s, vR 2, vI n] σ K := by
  have fin : ∀ (Z : xZ) (w4 w5 : Int) (σ1 : xS), ClE σ1 n s (endP T n s) → ReF σ1 σ → Wx g y_Re_read Z K 38 [vR 123, vI s, vR 2, vI n, vI w4, vI w5] [] σ1 := by
    intro Z w4 w5 σ1 C F
    obtain ⟨e6, e2, e3, hz⟩ := C
    have flt : fltP T n s = if (endP T n s).2.1.1 ≠ 0 then (endP T n s).2.1 else if s = 0 ∧ ((endP T n s).2.2.2.2 6 ≤ (endP T n s).2.2.1 ∨ (endP T n s).2.2.2.2 0 * (endP T n s).2.2.2.2 1 ≤ (endP T n s).2.2.2.1) then (4, n) else (endP T n s).2.1 := rfl
    have rp : rowP T n s = (endP T n s).2.2.2.2 := rfl
    rw [rp] at k
    generalize endP T n s = P at e2 e3 hz flt k
    obtain ⟨q, ⟨f, pl⟩, gp, gc, r⟩ := P
    have e2 : σ1 123 2 = f := e2
    have e3 : σ1 123 3 = pl := e3
    have hz : f = 0 → (σ1 123 15 = gp ∧ σ1 123 16 = gc) ∧ RwR σ1 s r ∧ RwOk s r gp gc := hz
    have flt : fltP T n s = if f ≠ 0 then (f, pl) else if s = 0 ∧ (r 6 ≤ gp ∨ r 0 * r 1 ≤ gc) then (4, n) else (f, pl) := flt
    have k : ∀ σ' : xS, σ' 123 2 = (fltP T n s).1 → σ' 123 3 = (fltP T n s).2 → ((fltP T n s).1 = 0 → (s = 0 → TownOk r ∧ TownR σ' 124 r) ∧ (s = 1 → BookOk r ∧ BookR σ' 133 r)) → ReF σ' σ → K none σ' := k
    by_cases hf : f = 0
    · obtain ⟨⟨e15, e16⟩, hR, hO⟩ := hz hf
      rw [if_neg (fun w => w hf)] at flt
      rcases hs with hs | hs
      · have hR := hR.1 hs
        have hO := hO.1 hs
        have cb : 4 ≤ r 0 * r 1 ∧ r 0 * r 1 ≤ 36 := by
          have h0 := hO.1.1
          have h1 := hO.1.2.1
          have a1 : 2 * r 1 ≤ r 0 * r 1 := Int.mul_le_mul_of_nonneg_right h0.1 (by omega)
          have a2 : r 0 * r 1 ≤ 6 * r 1 := Int.mul_le_mul_of_nonneg_right h0.2 (by omega)
          omega
        have t6 := hR.1 6 (by decide) (by decide)
        have t0 := hR.1 0 (by decide) (by decide)
        have t1 := hR.1 1 (by decide) (by decide)
        have hb := hO.1
        generalize hM : r 0 * r 1 = M at flt cb
        refine x_aload_n (dat d_Re_read 19 rfl) rfl rfl ?_
        refine x_geti (ji := 15) (v := gp) (dat d_Re_read 20 rfl) rfl f_Re_37 (oi_mk (by decide +kernel)) (e15) ?_
        refine x_aload_n (dat d_Re_read 21 rfl) rfl rfl ?_
        refine x_getr (r := 124) (dat d_Re_read 22 rfl) rfl f_Re_12 (or_mk (by decide +kernel)) ?_
        refine x_geti (ji := 6) (v := r 6) (dat d_Re_read 23 rfl) rfl f_Re_41 (oi_mk (by decide +kernel)) (t6) ?_
        refine x_icmp_ge (tgt := 74) (dat d_Re_read 24 rfl) (by decide) (fun c_49 => ?_) (fun c_49 => ?_)
        · refine x_iconst (dat d_Re_read 35 rfl) (by decide) ?_
          refine x_goto (tgt := 79) (dat d_Re_read 36 rfl) (by decide) ?_
          refine x_istore (L' := [vR 123, vI s, vR 2, vI n, vI w4, vI 1]) (dat d_Re_read 38 rfl) (by decide) rfl rfl ?_
          refine x_aload_n (dat d_Re_read 39 rfl) rfl rfl ?_
          refine x_geti (ji := 2) (v := f) (dat d_Re_read 40 rfl) rfl f_Re_53 (oi_mk (by decide +kernel)) (e2) ?_
          refine x_if_ne (tgt := 110) (dat d_Re_read 41 rfl) (by decide) (fun c_85 => (by omega)) (fun c_85 => ?_)
          refine x_iload_n (dat d_Re_read 42 rfl) rfl rfl ?_
          refine x_if_ne (tgt := 110) (dat d_Re_read 43 rfl) (by decide) (fun c_89 => (by omega)) (fun c_89 => ?_)
          refine x_iload (dat d_Re_read 44 rfl) rfl ?_
          refine x_if_eq (tgt := 110) (dat d_Re_read 45 rfl) (by decide) (fun h => absurd h (by decide)) (fun c_94 => ?_)
          refine x_aload_n (dat d_Re_read 46 rfl) rfl rfl ?_
          refine x_iconst (dat d_Re_read 47 rfl) (by decide) ?_
          refine x_puti (ji := 2) (x := (4)) (dat d_Re_read 48 rfl) rfl f_Re_53w (oi_mk (by decide +kernel)) (fun h => absurd h (by decide)) (by decide) ?_
          refine x_aload_n (dat d_Re_read 49 rfl) rfl rfl ?_
          refine x_aload_n (dat d_Re_read 50 rfl) rfl rfl ?_
          refine x_geti (ji := 6) (v := n) (dat d_Re_read 51 rfl) rfl f_Re_56 (oi_mk (by decide +kernel)) ((up_ni (by decide)).trans e6) ?_
          refine x_puti (ji := 3) (x := (n)) (dat d_Re_read 52 rfl) rfl f_Re_59w (oi_mk (by decide +kernel)) (fun h => absurd h (by decide)) (by decide) ?_
          refine x_ret (dat d_Re_read 53 rfl) rfl ?_
          first
          | (rw [if_pos (by omega)] at flt
             rw [flt] at k
             refine k _ (by rw [up_ni (by decide)]; exact up_s) up_s (fun w => absurd w (by decide : ¬ (4 : Int) = 0)) (fun o ho => by rw [up_ne (by omega), up_ne (by omega)]; exact F o ho))
          | (rw [if_neg (by omega)] at flt
             rw [flt] at k
             exact k _ e2 e3 (fun _ => ⟨fun _ => ⟨hO.town (by omega) (by rw [hM]; omega), hR.town hb.2.2.2.2.2.2.1.2⟩, fun w => by omega⟩) F)
        · refine x_aload_n (dat d_Re_read 25 rfl) rfl rfl ?_
          refine x_geti (ji := 16) (v := gc) (dat d_Re_read 26 rfl) rfl f_Re_44 (oi_mk (by decide +kernel)) (e16) ?_
          refine x_aload_n (dat d_Re_read 27 rfl) rfl rfl ?_
          refine x_getr (r := 124) (dat d_Re_read 28 rfl) rfl f_Re_12 (or_mk (by decide +kernel)) ?_
          refine x_geti (ji := 0) (v := r 0) (dat d_Re_read 29 rfl) rfl f_Re_47 (oi_mk (by decide +kernel)) (t0) ?_
          refine x_aload_n (dat d_Re_read 30 rfl) rfl rfl ?_
          refine x_getr (r := 124) (dat d_Re_read 31 rfl) rfl f_Re_12 (or_mk (by decide +kernel)) ?_
          refine x_geti (ji := 1) (v := r 1) (dat d_Re_read 32 rfl) rfl f_Re_50 (oi_mk (by decide +kernel)) (t1) ?_
          refine x_imul (v := M) (dat d_Re_read 33 rfl) (by exact hM) (by omega) ?_
          refine x_icmp_lt (tgt := 78) (dat d_Re_read 34 rfl) (by decide) (fun c_71 => ?_) (fun c_71 => ?_)
          · refine x_iconst (dat d_Re_read 37 rfl) (by decide) ?_
            refine x_istore (L' := [vR 123, vI s, vR 2, vI n, vI w4, vI 0]) (dat d_Re_read 38 rfl) (by decide) rfl rfl ?_
            refine x_aload_n (dat d_Re_read 39 rfl) rfl rfl ?_
            refine x_geti (ji := 2) (v := f) (dat d_Re_read 40 rfl) rfl f_Re_53 (oi_mk (by decide +kernel)) (e2) ?_
            refine x_if_ne (tgt := 110) (dat d_Re_read 41 rfl) (by decide) (fun c_85 => (by omega)) (fun c_85 => ?_)
            refine x_iload_n (dat d_Re_read 42 rfl) rfl rfl ?_
            refine x_if_ne (tgt := 110) (dat d_Re_read 43 rfl) (by decide) (fun c_89 => (by omega)) (fun c_89 => ?_)
            refine x_iload (dat d_Re_read 44 rfl) rfl ?_
            refine x_if_eq (tgt := 110) (dat d_Re_read 45 rfl) (by decide) (fun c_94 => ?_) (fun h => absurd h (by decide))
            refine x_ret (dat d_Re_read 53 rfl) rfl ?_
            first
            | (rw [if_pos (by omega)] at flt
               rw [flt] at k
               refine k _ (by rw [up_ni (by decide)]; exact up_s) up_s (fun w => absurd w (by decide : ¬ (4 : Int) = 0)) (fun o ho => by rw [up_ne (by omega), up_ne (by omega)]; exact F o ho))
            | (rw [if_neg (by omega)] at flt
               rw [flt] at k
               exact k _ e2 e3 (fun _ => ⟨fun _ => ⟨hO.town (by omega) (by rw [hM]; omega), hR.town hb.2.2.2.2.2.2.1.2⟩, fun w => by omega⟩) F)
          · refine x_iconst (dat d_Re_read 35 rfl) (by decide) ?_
            refine x_goto (tgt := 79) (dat d_Re_read 36 rfl) (by decide) ?_
            refine x_istore (L' := [vR 123, vI s, vR 2, vI n, vI w4, vI 1]) (dat d_Re_read 38 rfl) (by decide) rfl rfl ?_
            refine x_aload_n (dat d_Re_read 39 rfl) rfl rfl ?_
            refine x_geti (ji := 2) (v := f) (dat d_Re_read 40 rfl) rfl f_Re_53 (oi_mk (by decide +kernel)) (e2) ?_
            refine x_if_ne (tgt := 110) (dat d_Re_read 41 rfl) (by decide) (fun c_85 => (by omega)) (fun c_85 => ?_)
            refine x_iload_n (dat d_Re_read 42 rfl) rfl rfl ?_
            refine x_if_ne (tgt := 110) (dat d_Re_read 43 rfl) (by decide) (fun c_89 => (by omega)) (fun c_89 => ?_)
            refine x_iload (dat d_Re_read 44 rfl) rfl ?_
            refine x_if_eq (tgt := 110) (dat d_Re_read 45 rfl) (by decide) (fun h => absurd h (by decide)) (fun c_94 => ?_)
            refine x_aload_n (dat d_Re_read 46 rfl) rfl rfl ?_
            refine x_iconst (dat d_Re_read 47 rfl) (by decide) ?_
            refine x_puti (ji := 2) (x := (4)) (dat d_Re_read 48 rfl) rfl f_Re_53w (oi_mk (by decide +kernel)) (fun h => absurd h (by decide)) (by decide) ?_
            refine x_aload_n (dat d_Re_read 49 rfl) rfl rfl ?_
            refine x_aload_n (dat d_Re_read 50 rfl) rfl rfl ?_
            refine x_geti (ji := 6) (v := n) (dat d_Re_read 51 rfl) rfl f_Re_56 (oi_mk (by decide +kernel)) ((up_ni (by decide)).trans e6) ?_
            refine x_puti (ji := 3) (x := (n)) (dat d_Re_read 52 rfl) rfl f_Re_59w (oi_mk (by decide +kernel)) (fun h => absurd h (by decide)) (by decide) ?_
            refine x_ret (dat d_Re_read 53 rfl) rfl ?_
            first
            | (rw [if_pos (by omega)] at flt
               rw [flt] at k
               refine k _ (by rw [up_ni (by decide)]; exact up_s) up_s (fun w => absurd w (by decide : ¬ (4 : Int) = 0)) (fun o ho => by rw [up_ne (by omega), up_ne (by omega)]; exact F o ho))
            | (rw [if_neg (by omega)] at flt
               rw [flt] at k
               exact k _ e2 e3 (fun _ => ⟨fun _ => ⟨hO.town (by omega) (by rw [hM]; omega), hR.town hb.2.2.2.2.2.2.1.2⟩, fun w => by omega⟩) F)
      · have hR := hR.2 hs
        have hO := hO.2 hs
        rw [if_neg (by omega)] at flt
        rw [flt] at k
        refine x_aload_n (dat d_Re_read 19 rfl) rfl rfl ?_
        refine x_geti (ji := 15) (v := σ1 123 15) (dat d_Re_read 20 rfl) rfl f_Re_37 (oi_mk (by decide +kernel)) rfl ?_
        refine x_aload_n (dat d_Re_read 21 rfl) rfl rfl ?_
        refine x_getr (r := 124) (dat d_Re_read 22 rfl) rfl f_Re_12 (or_mk (by decide +kernel)) ?_
        refine x_geti (ji := 6) (v := σ1 124 6) (dat d_Re_read 23 rfl) rfl f_Re_41 (oi_mk (by decide +kernel)) rfl ?_
        refine x_icmp_ge (tgt := 74) (dat d_Re_read 24 rfl) (by decide) (fun c_49 => ?_) (fun c_49 => ?_)
        · refine x_iconst (dat d_Re_read 35 rfl) (by decide) ?_
          refine x_goto (tgt := 79) (dat d_Re_read 36 rfl) (by decide) ?_
          refine x_istore (L' := [vR 123, vI s, vR 2, vI n, vI w4, vI 1]) (dat d_Re_read 38 rfl) (by decide) rfl rfl ?_
          refine x_aload_n (dat d_Re_read 39 rfl) rfl rfl ?_
          refine x_geti (ji := 2) (v := f) (dat d_Re_read 40 rfl) rfl f_Re_53 (oi_mk (by decide +kernel)) (e2) ?_
          refine x_if_ne (tgt := 110) (dat d_Re_read 41 rfl) (by decide) (fun c_85 => (by omega)) (fun c_85 => ?_)
          refine x_iload_n (dat d_Re_read 42 rfl) rfl rfl ?_
          refine x_if_ne (tgt := 110) (dat d_Re_read 43 rfl) (by decide) (fun c_89 => ?_) (fun c_89 => (by omega))
          refine x_ret (dat d_Re_read 53 rfl) rfl ?_
          exact k _ e2 e3 (fun _ => ⟨fun w => by omega, fun _ => ⟨hO, hR⟩⟩) F
        · refine x_aload_n (dat d_Re_read 25 rfl) rfl rfl ?_
          refine x_geti (ji := 16) (v := σ1 123 16) (dat d_Re_read 26 rfl) rfl f_Re_44 (oi_mk (by decide +kernel)) rfl ?_
          refine x_aload_n (dat d_Re_read 27 rfl) rfl rfl ?_
          refine x_getr (r := 124) (dat d_Re_read 28 rfl) rfl f_Re_12 (or_mk (by decide +kernel)) ?_
          refine x_geti (ji := 0) (v := σ1 124 0) (dat d_Re_read 29 rfl) rfl f_Re_47 (oi_mk (by decide +kernel)) rfl ?_
          refine x_aload_n (dat d_Re_read 30 rfl) rfl rfl ?_
          refine x_getr (r := 124) (dat d_Re_read 31 rfl) rfl f_Re_12 (or_mk (by decide +kernel)) ?_
          refine x_geti (ji := 1) (v := σ1 124 1) (dat d_Re_read 32 rfl) rfl f_Re_50 (oi_mk (by decide +kernel)) rfl ?_
          refine x_imulw (dat d_Re_read 33 rfl) ?_
          refine x_icmp_lt (tgt := 78) (dat d_Re_read 34 rfl) (by decide) (fun c_71 => ?_) (fun c_71 => ?_)
          · refine x_iconst (dat d_Re_read 37 rfl) (by decide) ?_
            refine x_istore (L' := [vR 123, vI s, vR 2, vI n, vI w4, vI 0]) (dat d_Re_read 38 rfl) (by decide) rfl rfl ?_
            refine x_aload_n (dat d_Re_read 39 rfl) rfl rfl ?_
            refine x_geti (ji := 2) (v := f) (dat d_Re_read 40 rfl) rfl f_Re_53 (oi_mk (by decide +kernel)) (e2) ?_
            refine x_if_ne (tgt := 110) (dat d_Re_read 41 rfl) (by decide) (fun c_85 => (by omega)) (fun c_85 => ?_)
            refine x_iload_n (dat d_Re_read 42 rfl) rfl rfl ?_
            refine x_if_ne (tgt := 110) (dat d_Re_read 43 rfl) (by decide) (fun c_89 => ?_) (fun c_89 => (by omega))
            refine x_ret (dat d_Re_read 53 rfl) rfl ?_
            exact k _ e2 e3 (fun _ => ⟨fun w => by omega, fun _ => ⟨hO, hR⟩⟩) F
          · refine x_iconst (dat d_Re_read 35 rfl) (by decide) ?_
            refine x_goto (tgt := 79) (dat d_Re_read 36 rfl) (by decide) ?_
            refine x_istore (L' := [vR 123, vI s, vR 2, vI n, vI w4, vI 1]) (dat d_Re_read 38 rfl) (by decide) rfl rfl ?_
            refine x_aload_n (dat d_Re_read 39 rfl) rfl rfl ?_
            refine x_geti (ji := 2) (v := f) (dat d_Re_read 40 rfl) rfl f_Re_53 (oi_mk (by decide +kernel)) (e2) ?_
            refine x_if_ne (tgt := 110) (dat d_Re_read 41 rfl) (by decide) (fun c_85 => (by omega)) (fun c_85 => ?_)
            refine x_iload_n (dat d_Re_read 42 rfl) rfl rfl ?_
            refine x_if_ne (tgt := 110) (dat d_Re_read 43 rfl) (by decide) (fun c_89 => ?_) (fun c_89 => (by omega))
            refine x_ret (dat d_Re_read 53 rfl) rfl ?_
            exact k _ e2 e3 (fun _ => ⟨fun w => by omega, fun _ => ⟨hO, hR⟩⟩) F
    · rw [if_pos hf] at flt
      rw [flt] at k
      refine x_aload_n (dat d_Re_read 19 rfl) rfl rfl ?_
      refine x_geti (ji := 15) (v := σ1 123 15) (dat d_Re_read 20 rfl) rfl f_Re_37 (oi_mk (by decide +kernel)) rfl ?_
      refine x_aload_n (dat d_Re_read 21 rfl) rfl rfl ?_
      refine x_getr (r := 124) (dat d_Re_read 22 rfl) rfl f_Re_12 (or_mk (by decide +kernel)) ?_
      refine x_geti (ji := 6) (v := σ1 124 6) (dat d_Re_read 23 rfl) rfl f_Re_41 (oi_mk (by decide +kernel)) rfl ?_
      refine x_icmp_ge (tgt := 74) (dat d_Re_read 24 rfl) (by decide) (fun c_49 => ?_) (fun c_49 => ?_)
      · refine x_iconst (dat d_Re_read 35 rfl) (by decide) ?_
        refine x_goto (tgt := 79) (dat d_Re_read 36 rfl) (by decide) ?_
        refine x_istore (L' := [vR 123, vI s, vR 2, vI n, vI w4, vI 1]) (dat d_Re_read 38 rfl) (by decide) rfl rfl ?_
        refine x_aload_n (dat d_Re_read 39 rfl) rfl rfl ?_
        refine x_geti (ji := 2) (v := f) (dat d_Re_read 40 rfl) rfl f_Re_53 (oi_mk (by decide +kernel)) (e2) ?_
        refine x_if_ne (tgt := 110) (dat d_Re_read 41 rfl) (by decide) (fun c_85 => ?_) (fun c_85 => (by omega))
        refine x_ret (dat d_Re_read 53 rfl) rfl ?_
        exact k _ e2 e3 (fun w => absurd w hf) F
      · refine x_aload_n (dat d_Re_read 25 rfl) rfl rfl ?_
        refine x_geti (ji := 16) (v := σ1 123 16) (dat d_Re_read 26 rfl) rfl f_Re_44 (oi_mk (by decide +kernel)) rfl ?_
        refine x_aload_n (dat d_Re_read 27 rfl) rfl rfl ?_
        refine x_getr (r := 124) (dat d_Re_read 28 rfl) rfl f_Re_12 (or_mk (by decide +kernel)) ?_
        refine x_geti (ji := 0) (v := σ1 124 0) (dat d_Re_read 29 rfl) rfl f_Re_47 (oi_mk (by decide +kernel)) rfl ?_
        refine x_aload_n (dat d_Re_read 30 rfl) rfl rfl ?_
        refine x_getr (r := 124) (dat d_Re_read 31 rfl) rfl f_Re_12 (or_mk (by decide +kernel)) ?_
        refine x_geti (ji := 1) (v := σ1 124 1) (dat d_Re_read 32 rfl) rfl f_Re_50 (oi_mk (by decide +kernel)) rfl ?_
        refine x_imulw (dat d_Re_read 33 rfl) ?_
        refine x_icmp_lt (tgt := 78) (dat d_Re_read 34 rfl) (by decide) (fun c_71 => ?_) (fun c_71 => ?_)
        · refine x_iconst (dat d_Re_read 37 rfl) (by decide) ?_
          refine x_istore (L' := [vR 123, vI s, vR 2, vI n, vI w4, vI 0]) (dat d_Re_read 38 rfl) (by decide) rfl rfl ?_
          refine x_aload_n (dat d_Re_read 39 rfl) rfl rfl ?_
          refine x_geti (ji := 2) (v := f) (dat d_Re_read 40 rfl) rfl f_Re_53 (oi_mk (by decide +kernel)) (e2) ?_
          refine x_if_ne (tgt := 110) (dat d_Re_read 41 rfl) (by decide) (fun c_85 => ?_) (fun c_85 => (by omega))
          refine x_ret (dat d_Re_read 53 rfl) rfl ?_
          exact k _ e2 e3 (fun w => absurd w hf) F
        · refine x_iconst (dat d_Re_read 35 rfl) (by decide) ?_
          refine x_goto (tgt := 79) (dat d_Re_read 36 rfl) (by decide) ?_
          refine x_istore (L' := [vR 123, vI s, vR 2, vI n, vI w4, vI 1]) (dat d_Re_read 38 rfl) (by decide) rfl rfl ?_
          refine x_aload_n (dat d_Re_read 39 rfl) rfl rfl ?_
          refine x_geti (ji := 2) (v := f) (dat d_Re_read 40 rfl) rfl f_Re_53 (oi_mk (by decide +kernel)) (e2) ?_
          refine x_if_ne (tgt := 110) (dat d_Re_read 41 rfl) (by decide) (fun c_85 => ?_) (fun c_85 => (by omega))
          refine x_ret (dat d_Re_read 53 rfl) rfl ?_
          exact k _ e2 e3 (fun w => absurd w hf) F
  have fin0 : ∀ (Z : xZ) (L : Int) (σ1 : xS), ClE σ1 n s (endP T n s) → ReF σ1 σ → Wx g y_Re_read Z K 12 [vR 123, vI s, vR 2, vI n, vI 0, vI L] [] σ1 := by
    intro Z L σ1 C F
    refine x_iload (dat d_Re_read 8 rfl) rfl ?_
    refine x_if_eq (tgt := 38) (dat d_Re_read 9 rfl) (by decide) (fun c_14 => ?_) (fun h => absurd h (by decide))
    exact fin Z _ _ σ1 C F
  have lp : ∀ (Z : xZ) (d L : Nat) (σ1 : xS) (P : Ps), L + d = 601 → ClS σ1 T n s P L → runP T n s d P = endP T n s → ReF σ1 σ → Wx g y_Re_read Z K 12 [vR 123, vI s, vR 2, vI n, vI 1, vI (L : Int)] [] σ1 := by
    intro Z d
    induction d with
    | zero =>
      intro L σ1 P hd C he F
      have e : L = 601 := by omega
      subst e
      have he : P = endP T n s := he
      refine x_iload (dat d_Re_read 8 rfl) rfl ?_
      refine x_if_eq (tgt := 38) (dat d_Re_read 9 rfl) (by decide) (fun h => absurd h (by decide)) (fun c_14 => ?_)
      refine x_iload (dat d_Re_read 10 rfl) rfl ?_
      refine x_sipush (dat d_Re_read 11 rfl) (by decide) (by decide) ?_
      refine x_icmp_gt (tgt := 38) (dat d_Re_read 12 rfl) (by decide) (fun c_22 => ?_) (fun c_22 => (by omega))
      exact fin Z _ _ σ1 (by rw [← he]; exact C.fin) F
    | succ d ih =>
      intro L σ1 P hd C he F
      have st : runP T n s (d + 1) P = if (stpP T n s P).1 = true then runP T n s d (stpP T n s P).2 else (stpP T n s P).2 := rfl
      refine x_iload (dat d_Re_read 8 rfl) rfl ?_
      refine x_if_eq (tgt := 38) (dat d_Re_read 9 rfl) (by decide) (fun h => absurd h (by decide)) (fun c_14 => ?_)
      refine x_iload (dat d_Re_read 10 rfl) rfl ?_
      refine x_sipush (dat d_Re_read 11 rfl) (by decide) (by decide) ?_
      refine x_icmp_gt (tgt := 38) (dat d_Re_read 12 rfl) (by decide) (fun c_22 => (by omega)) (fun c_22 => ?_)
      refine x_aload_n (dat d_Re_read 13 rfl) rfl rfl ?_
      refine x_iload_n (dat d_Re_read 14 rfl) rfl rfl ?_
      refine x_inv (As := [vI s]) (dat d_Re_read 15 rfl) rfl c_Re_readLine l_Re_33 (by decide) (rv_re (by decide +kernel)) rfl rfl (Nat.le_of_ble_eq_true rfl) ?_
      refine sp_Re_readLine hs C (by omega) (fun hc σ2 C2 F2 => ?_) (fun hc σ2 C2 F2 => ?_)
      · show Wx g y_Re_read Z K 30 [vR 123, vI s, vR 2, vI n, vI 1, vI (L : Int)] [vI 1] σ2
        refine x_istore (L' := [vR 123, vI s, vR 2, vI n, vI 1, vI (L : Int)]) (dat d_Re_read 16 rfl) (by decide) rfl rfl ?_
        refine x_iinc (v' := ((L + 1 : Nat) : Int)) (L' := [vR 123, vI s, vR 2, vI n, vI 1, vI ((L + 1 : Nat) : Int)]) (dat d_Re_read 17 rfl) rfl (by decide) rfl (by omega) (by omega) rfl ?_
        refine x_goto (tgt := 12) (dat d_Re_read 18 rfl) (by decide) ?_
        first
        | exact ih (L + 1) σ2 _ (by omega) (by rw [show ((L + 1 : Nat) : Int) = (L : Int) + 1 by omega]; exact C2) (by rw [← he, st, if_pos hc]) (fun o ho => (F2 o ho).trans (F o ho))
        | exact fin0 Z _ σ2 (by rw [← he, st, if_neg (by rw [hc]; decide)]; exact C2) (fun o ho => (F2 o ho).trans (F o ho))
      · show Wx g y_Re_read Z K 30 [vR 123, vI s, vR 2, vI n, vI 1, vI (L : Int)] [vI 0] σ2
        refine x_istore (L' := [vR 123, vI s, vR 2, vI n, vI 0, vI (L : Int)]) (dat d_Re_read 16 rfl) (by decide) rfl rfl ?_
        refine x_iinc (v' := ((L + 1 : Nat) : Int)) (L' := [vR 123, vI s, vR 2, vI n, vI 0, vI ((L + 1 : Nat) : Int)]) (dat d_Re_read 17 rfl) rfl (by decide) rfl (by omega) (by omega) rfl ?_
        refine x_goto (tgt := 12) (dat d_Re_read 18 rfl) (by decide) ?_
        first
        | exact ih (L + 1) σ2 _ (by omega) (by rw [show ((L + 1 : Nat) : Int) = (L : Int) + 1 by omega]; exact C2) (by rw [← he, st, if_pos hc]) (fun o ho => (F2 o ho).trans (F o ho))
        | exact fin0 Z _ σ2 (by rw [← he, st, if_neg (by rw [hc]; decide)]; exact C2) (fun o ho => (F2 o ho).trans (F o ho))
  refine x_enter 2 rfl rfl rfl (fun Z => ?_)
  show Wx g y_Re_read Z K 0 [vR 123, vI s, vR 2, vI n, vU, vU] [] σ
  refine x_aload_n (dat d_Re_read 0 rfl) rfl rfl ?_
  refine x_aload_n (dat d_Re_read 1 rfl) rfl rfl ?_
  refine x_iload_n (dat d_Re_read 2 rfl) rfl rfl ?_
  refine x_inv (As := [vR 2, vI n]) (dat d_Re_read 3 rfl) rfl c_Re_begin l_Re_29 (by decide) (rv_re (by decide +kernel)) rfl rfl (Nat.le_of_ble_eq_true rfl) ?_
  refine sp_Re_begin hs n0 n1 hT (fun σ1 C F => ?_)
  show Wx g y_Re_read Z K 6 [vR 123, vI s, vR 2, vI n, vU, vU] [] σ1
  refine x_iconst (dat d_Re_read 4 rfl) (by decide) ?_
  refine x_istore (L' := [vR 123, vI s, vR 2, vI n, vI 1, vU]) (dat d_Re_read 5 rfl) (by decide) rfl rfl ?_
  refine x_iconst (dat d_Re_read 6 rfl) (by decide) ?_
  refine x_istore (L' := [vR 123, vI s, vR 2, vI n, vI 1, vI 0]) (dat d_Re_read 7 rfl) (by decide) rfl rfl ?_
  exact lp Z 601 0 σ1 _ rfl C rfl F
