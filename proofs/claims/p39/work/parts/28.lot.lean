/-! a fever by lot -/
theorem iushr_16 (n : Int) : 0 ≤ iushr n 16 ∧ iushr n 16 < 65536 := by
  unfold iushr
  rw [show ((Int32.ofInt 16).toUInt32 &&& Int32.toUInt32 31) = 16 by decide]
  generalize (Int32.ofInt n).toUInt32 = x
  have h : (x >>> 16).toNat < 65536 := by
    rw [UInt32.toNat_shiftRight]
    have := x.toNat_lt
    show x.toNat >>> 16 < 65536
    rw [Nat.shiftRight_eq_div_pow]
    omega
  have e : (x >>> 16).toInt32.toInt = ((x >>> 16).toNat : Int) := by
    generalize x >>> 16 = y at h ⊢
    show y.toBitVec.toInt = (y.toBitVec.toNat : Int)
    have h2 : y.toBitVec.toNat < 65536 := h
    rw [BitVec.toInt_eq_toNat_of_lt (by omega)]
  omega
def nxt1 (x : Int) : Int := wr (wr (x * 1103515245) + 12345)
def drw (x : Int) : Int := iushr x 16 % 10
/-- a fever by lot, hand by hand -/
def lotE (gl : Int → Bool) (kc : Int) (e : Ev) (s : Int × (Int → Bool)) : Int × (Int → Bool) :=
  if gl e.1 = false ∧ gl e.2.1 = false ∧ s.2 e.1 ≠ s.2 e.2.1 then (nxt1 s.1, if drw (nxt1 s.1) < kc then (fun p => s.2 p || (decide (p = e.1) || decide (p = e.2.1))) else s.2) else s
def lot (gl : Int → Bool) (kc fr x0 : Int) (evs : List Ev) : Int × (Int → Bool) := evs.foldr (lotE gl kc) (x0, fun p => decide (p = fr))
theorem cnt_one (f : Int → Bool) (q : Int) (q0 : 0 ≤ q) : ∀ n : Nat, cntN (fun p => decide (p = q) && f p) n = if q < n ∧ f q = true then 1 else 0
  | 0 => by rw [if_neg (by omega)]; rfl
  | n + 1 => by
    show cntN (fun p => decide (p = q) && f p) n + (if (decide ((n : Int) = q) && f n) = true then 1 else 0) = _
    rw [cnt_one f q q0 n]
    by_cases e : (n : Int) = q
    · rw [e]
      simp only [decide_true, Bool.true_and]
      rw [if_neg (by omega)]
      cases f q
      · simp
      · simp; omega
    · simp only [e, decide_false, Bool.false_and]
      by_cases h1 : q < (n : Int)
      · simp only [h1, show q < ((n + 1 : Nat) : Int) by omega, true_and]
        simp
      · have e5 : ¬ (q < (n : Int) ∧ f q = true) := fun w => h1 w.1
        have e6 : ¬ (q < ((n + 1 : Nat) : Int) ∧ f q = true) := fun w => by
          have := w.1
          omega
        rw [if_neg e5, if_neg e6]
        rfl
theorem cnt_or {f f' : Int → Bool} (hd : ∀ p : Int, f p = true → f' p = true → False) : ∀ n : Nat, cntN (fun p => f p || f' p) n = cntN f n + cntN f' n
  | 0 => rfl
  | n + 1 => by
    have := hd n
    show cntN (fun p => f p || f' p) n + (if (f n || f' n) = true then 1 else 0) = (cntN f n + (if f n = true then 1 else 0)) + (cntN f' n + (if f' n = true then 1 else 0))
    rw [cnt_or hd n]
    cases e : f n <;> cases e2 : f' n
    · simp
    · simp; omega
    · simp; omega
    · exact (this e e2).elim
theorem cnt_two {f : Int → Bool} {p q : Int} (p0 : 0 ≤ p) (p1 : p < 8) (q0 : 0 ≤ q) (q1 : q < 8) (hpq : p ≠ q) : cntN (fun r => (decide (r = p) || decide (r = q)) && f r) 8 = (if f p = true then 1 else 0) + (if f q = true then 1 else 0) := by
  have h1 := cnt_or (f := fun r => decide (r = p) && f r) (f' := fun r => decide (r = q) && f r) (fun r h h' => by
    simp only [Bool.and_eq_true, decide_eq_true_eq] at h h'
    omega) 8
  rw [cnt_one f p p0, cnt_one f q q0] at h1
  have e : (fun r => (decide (r = p) || decide (r = q)) && f r) = (fun r => (decide (r = p) && f r) || (decide (r = q) && f r)) := by
    funext r
    cases decide (r = p) <;> cases decide (r = q) <;> cases f r <;> rfl
  rw [e, h1]
  have p1' : p < ((8 : Nat) : Int) := p1
  have q1' : q < ((8 : Nat) : Int) := q1
  simp only [p1', q1', true_and]
theorem sp_Ha_reachedByLot {g : xG} {K : Option MV → xS → Prop} {σ : xS} {u : Nat} {C : Cf} {fr gm x0 kc : Int} {gl : Int → Bool} (hu : IsRu u) (hC : CfOk C) (R : RunS σ u C 0 (cH C)) (hg : Mss (cS C 0) gm gl) (f0 : 0 ≤ fr) (f1 : fr < cS C 0)
    (k : ∀ m : Int, Msk 8 m (lot gl kc fr x0 (lgs C 0 (cH C))).2 → K (some (vI m)) σ) : Mt g y_Ha_reachedByLot [vR (u + 1), vI fr, vI gm, vI x0, vI kc] σ K := by
  have hH := cH_eq hC
  have h8 := hC.2.1
  have hlg := lgs_ok hC 0 (cH C)
  have hL := R.2.2.2.1
  have hcnt := hL.1
  generalize hall0 : lgs C 0 (cH C) = all at hlg hL hcnt k
  have lp : ∀ (Z : xZ) (n : Nat) (t v : List Ev) (m : Int) (w8 w9 : MV), all = t ++ v → t.length = n → Msk 8 m (lot gl kc fr x0 v).2 → Wx g y_Ha_reachedByLot Z K 11 [vR (u + 1), vI fr, vI gm, vI x0, vI kc, vI (lot gl kc fr x0 v).1, vI m, vI (v.length : Int), w8, w9] [] σ := by
    intro Z n
    induction n with
    | zero =>
      intro t v m w8 w9 ha hl Hm
      have e : t = [] := List.length_eq_zero_iff.mp hl
      subst e
      rw [List.nil_append] at ha
      subst ha
      refine x_iload (dat d_Ha_reachedByLot 8 rfl) rfl ?_
      refine x_aload_n (dat d_Ha_reachedByLot 9 rfl) rfl rfl ?_
      refine x_geti (ji := 4) (v := (all.length : Int)) (dat d_Ha_reachedByLot 10 rfl) rfl f_Ha_24 (ha_oi_4 (ru_ha hu)) (hcnt) ?_
      refine x_icmp_ge (tgt := 109) (dat d_Ha_reachedByLot 11 rfl) (by decide) (fun c_17 => ?_) (fun c_17 => (by omega))
      refine x_iload (dat d_Ha_reachedByLot 61 rfl) rfl ?_
      refine x_iret (dat d_Ha_reachedByLot 62 rfl) rfl ?_
      exact k _ Hm
    | succ n ih =>
      intro t v m w8 w9 ha hl Hm
      obtain ⟨t2, e, rfl⟩ : ∃ (u2 : List Ev) (e : Ev), t = u2 ++ [e] := ⟨t.dropLast, t.getLast (by intro q; rw [q] at hl; cases hl), (List.dropLast_concat_getLast _).symm⟩
      have ha2 : all = t2 ++ e :: v := by rw [ha]; simp
      obtain ⟨r1, r2, r3⟩ := hL.2 _ _ _ ha2
      obtain ⟨o1, o2, o3, o4⟩ := hlg.1 e (by rw [ha2]; simp)
      have hlv : v.length < all.length := by rw [ha2]; simp; omega
      have hl2 : t2.length = n := by simpa using hl
      have two := msk_two (a := e.1) (b := e.2.1) o1 (by omega) (by omega) (by omega)
      have b1 := both_0 (f := gl) (a := e.1) (b := e.2.1) (m := gm) o1 (by omega) (by omega) (by omega) hg.1 hg.2.1 (hg.2.2 _ o1 (by omega)) (hg.2.2 _ (by omega) o3)
      have bc := (two.land (by decide) Hm).bc
      rw [cnt_two o1 (by omega) (by omega) (by omega) (by omega)] at bc
      have nx : ∀ (x2 m2 : Int) (w8' w9' : MV), x2 = (lot gl kc fr x0 (e :: v)).1 → Msk 8 m2 (lot gl kc fr x0 (e :: v)).2 → Wx g y_Ha_reachedByLot Z K 11 [vR (u + 1), vI fr, vI gm, vI x0, vI kc, vI x2, vI m2, vI ((v.length : Int) + 1), w8', w9'] [] σ := by
        intro x2 m2 w8' w9' q1 q2
        have := ih t2 (e :: v) m2 w8' w9' ha2 hl2 q2
        rw [show (((e :: v).length : Nat) : Int) = (v.length : Int) + 1 by simp, ← q1] at this
        exact this
      have ec : lot gl kc fr x0 (e :: v) = lotE gl kc e (lot gl kc fr x0 v) := rfl
      generalize hs : lot gl kc fr x0 v = s at ec Hm bc ⊢
      have no : ∀ (w8' w9' : MV), ¬ (gl e.1 = false ∧ gl e.2.1 = false ∧ s.2 e.1 ≠ s.2 e.2.1) → Wx g y_Ha_reachedByLot Z K 11 [vR (u + 1), vI fr, vI gm, vI x0, vI kc, vI s.1, vI m, vI ((v.length : Int) + 1), w8', w9'] [] σ := by
        intro w8' w9' q
        have e2 : lot gl kc fr x0 (e :: v) = s := by rw [ec]; unfold lotE; rw [if_neg q]
        exact nx _ _ _ _ (by rw [e2]) (by rw [e2]; exact Hm)
      have dr := iushr_16 (nxt1 s.1)
      have yes : ∀ (m2 : Int) (w8' w9' : MV), (gl e.1 = false ∧ gl e.2.1 = false ∧ s.2 e.1 ≠ s.2 e.2.1) → (drw (nxt1 s.1) < kc ∧ m2 = ior m (ior (ishl 1 e.1) (ishl 1 e.2.1)) ∨ ¬ drw (nxt1 s.1) < kc ∧ m2 = m) → Wx g y_Ha_reachedByLot Z K 11 [vR (u + 1), vI fr, vI gm, vI x0, vI kc, vI (nxt1 s.1), vI m2, vI ((v.length : Int) + 1), w8', w9'] [] σ := by
        intro m2 w8' w9' q q2
        have e2 : lot gl kc fr x0 (e :: v) = (nxt1 s.1, if drw (nxt1 s.1) < kc then (fun p => s.2 p || (decide (p = e.1) || decide (p = e.2.1))) else s.2) := by rw [ec]; unfold lotE; rw [if_pos q]
        refine nx _ _ _ _ (by rw [e2]) ?_
        rw [e2]
        rcases q2 with ⟨q3, q4⟩ | ⟨q3, q4⟩
        · rw [if_pos q3, q4]
          exact Hm.lor (by decide) two
        · rw [if_neg q3, q4]
          exact Hm
      refine x_iload (dat d_Ha_reachedByLot 8 rfl) rfl ?_
      refine x_aload_n (dat d_Ha_reachedByLot 9 rfl) rfl rfl ?_
      refine x_geti (ji := 4) (v := (all.length : Int)) (dat d_Ha_reachedByLot 10 rfl) rfl f_Ha_24 (ha_oi_4 (ru_ha hu)) (hcnt) ?_
      refine x_icmp_ge (tgt := 109) (dat d_Ha_reachedByLot 11 rfl) (by decide) (fun c_17 => (by omega)) (fun c_17 => ?_)
      refine x_iconst (dat d_Ha_reachedByLot 12 rfl) (by decide) ?_
      refine x_aload_n (dat d_Ha_reachedByLot 13 rfl) rfl rfl ?_
      refine x_getr (r := u + 1 + 1) (dat d_Ha_reachedByLot 14 rfl) rfl f_Ha_11 (ha_or_0 (ru_ha hu)) ?_
      refine x_iload (dat d_Ha_reachedByLot 15 rfl) rfl ?_
      refine x_iald (n := 672) (v := e.1) (dat d_Ha_reachedByLot 16 rfl) (ha_ai_1 (ru_ha hu)) (by omega) (by omega) (r1) ?_
      refine x_ishl (v := ishl 1 e.1) (dat d_Ha_reachedByLot 17 rfl) rfl ?_
      refine x_iconst (dat d_Ha_reachedByLot 18 rfl) (by decide) ?_
      refine x_aload_n (dat d_Ha_reachedByLot 19 rfl) rfl rfl ?_
      refine x_getr (r := u + 1 + 2) (dat d_Ha_reachedByLot 20 rfl) rfl f_Ha_15 (ha_or_1 (ru_ha hu)) ?_
      refine x_iload (dat d_Ha_reachedByLot 21 rfl) rfl ?_
      refine x_iald (n := 672) (v := e.2.1) (dat d_Ha_reachedByLot 22 rfl) (ha_ai_2 (ru_ha hu)) (by omega) (by omega) (r2) ?_
      refine x_ishl (v := ishl 1 e.2.1) (dat d_Ha_reachedByLot 23 rfl) rfl ?_
      refine x_ior (v := ior (ishl 1 e.1) (ishl 1 e.2.1)) (dat d_Ha_reachedByLot 24 rfl) rfl ?_
      refine x_istore (L' := [vR (u + 1), vI fr, vI gm, vI x0, vI kc, vI s.1, vI m, vI (v.length : Int), vI (ior (ishl 1 e.1) (ishl 1 e.2.1)), w9]) (dat d_Ha_reachedByLot 25 rfl) (by decide) rfl rfl ?_
      refine x_iload (dat d_Ha_reachedByLot 26 rfl) rfl ?_
      refine x_iload (dat d_Ha_reachedByLot 27 rfl) rfl ?_
      refine x_iand (v := iand (ior (ishl 1 e.1) (ishl 1 e.2.1)) m) (dat d_Ha_reachedByLot 28 rfl) rfl ?_
      refine x_invs (As := [vI (iand (ior (ishl 1 e.1) (ishl 1 e.2.1)) m)]) (dat d_Ha_reachedByLot 29 rfl) rfl c_In_bitCount l_Ha_42 (by decide) rfl rfl (Nat.le_of_ble_eq_true rfl) ?_
      refine sp_In_bitCount ?_
      rw [bc]
      show Wx g y_Ha_reachedByLot Z K 49 [vR (u + 1), vI fr, vI gm, vI x0, vI kc, vI s.1, vI m, vI (v.length : Int), vI (ior (ishl 1 e.1) (ishl 1 e.2.1)), w9] [vI ((if s.2 e.1 = true then 1 else 0) + (if s.2 e.2.1 = true then 1 else 0))] σ
      refine x_iconst (dat d_Ha_reachedByLot 30 rfl) (by decide) ?_
      refine x_icmp_ne (tgt := 57) (dat d_Ha_reachedByLot 31 rfl) (by decide) (fun c_50 => ?_) (fun c_50 => ?_)
      · refine x_iconst (dat d_Ha_reachedByLot 34 rfl) (by decide) ?_
        refine x_istore (L' := [vR (u + 1), vI fr, vI gm, vI x0, vI kc, vI s.1, vI m, vI (v.length : Int), vI (ior (ishl 1 e.1) (ishl 1 e.2.1)), vI 0]) (dat d_Ha_reachedByLot 35 rfl) (by decide) rfl rfl ?_
        refine x_iload (dat d_Ha_reachedByLot 36 rfl) rfl ?_
        refine x_iload_n (dat d_Ha_reachedByLot 37 rfl) rfl rfl ?_
        refine x_iand (v := iand (ior (ishl 1 e.1) (ishl 1 e.2.1)) gm) (dat d_Ha_reachedByLot 38 rfl) rfl ?_
        refine x_if_ne (tgt := 103) (dat d_Ha_reachedByLot 39 rfl) (by decide) (fun c_64 => ?_) (fun c_64 => ?_)
        · refine x_iinc (v' := (v.length : Int) + 1) (L' := [vR (u + 1), vI fr, vI gm, vI x0, vI kc, vI s.1, vI m, vI ((v.length : Int) + 1), vI (ior (ishl 1 e.1) (ishl 1 e.2.1)), vI 0]) (dat d_Ha_reachedByLot 59 rfl) rfl (by decide) rfl rfl (by omega) rfl ?_
          refine x_goto (tgt := 11) (dat d_Ha_reachedByLot 60 rfl) (by decide) ?_
          first
          | exact no _ _ (fun q => c_64 (b1.mpr ⟨q.1, q.2.1⟩))
          | exact no _ _ (fun q => by
              have q3 := q.2.2
              cases z1 : s.2 e.1 <;> cases z2 : s.2 e.2.1 <;> rw [z1, z2] at q3 c_50 <;> simp at q3 c_50)
          | (have q1 := b1.mp (by omega)
             have q2 : s.2 e.1 ≠ s.2 e.2.1 := by
               intro q
               rw [q] at c_50
               split at c_50 <;> omega
             first
               | exact yes _ _ _ ⟨q1.1, q1.2, q2⟩ (Or.inl ⟨by omega, rfl⟩)
               | exact yes _ _ _ ⟨q1.1, q1.2, q2⟩ (Or.inr ⟨by omega, rfl⟩))
        · refine x_iload (dat d_Ha_reachedByLot 40 rfl) rfl ?_
          refine x_if_eq (tgt := 103) (dat d_Ha_reachedByLot 41 rfl) (by decide) (fun c_69 => ?_) (fun h => absurd h (by decide))
          refine x_iinc (v' := (v.length : Int) + 1) (L' := [vR (u + 1), vI fr, vI gm, vI x0, vI kc, vI s.1, vI m, vI ((v.length : Int) + 1), vI (ior (ishl 1 e.1) (ishl 1 e.2.1)), vI 0]) (dat d_Ha_reachedByLot 59 rfl) rfl (by decide) rfl rfl (by omega) rfl ?_
          refine x_goto (tgt := 11) (dat d_Ha_reachedByLot 60 rfl) (by decide) ?_
          first
          | exact no _ _ (fun q => c_64 (b1.mpr ⟨q.1, q.2.1⟩))
          | exact no _ _ (fun q => by
              have q3 := q.2.2
              cases z1 : s.2 e.1 <;> cases z2 : s.2 e.2.1 <;> rw [z1, z2] at q3 c_50 <;> simp at q3 c_50)
          | (have q1 := b1.mp (by omega)
             have q2 : s.2 e.1 ≠ s.2 e.2.1 := by
               intro q
               rw [q] at c_50
               split at c_50 <;> omega
             first
               | exact yes _ _ _ ⟨q1.1, q1.2, q2⟩ (Or.inl ⟨by omega, rfl⟩)
               | exact yes _ _ _ ⟨q1.1, q1.2, q2⟩ (Or.inr ⟨by omega, rfl⟩))
      · refine x_iconst (dat d_Ha_reachedByLot 32 rfl) (by decide) ?_
        refine x_goto (tgt := 58) (dat d_Ha_reachedByLot 33 rfl) (by decide) ?_
        refine x_istore (L' := [vR (u + 1), vI fr, vI gm, vI x0, vI kc, vI s.1, vI m, vI (v.length : Int), vI (ior (ishl 1 e.1) (ishl 1 e.2.1)), vI 1]) (dat d_Ha_reachedByLot 35 rfl) (by decide) rfl rfl ?_
        refine x_iload (dat d_Ha_reachedByLot 36 rfl) rfl ?_
        refine x_iload_n (dat d_Ha_reachedByLot 37 rfl) rfl rfl ?_
        refine x_iand (v := iand (ior (ishl 1 e.1) (ishl 1 e.2.1)) gm) (dat d_Ha_reachedByLot 38 rfl) rfl ?_
        refine x_if_ne (tgt := 103) (dat d_Ha_reachedByLot 39 rfl) (by decide) (fun c_64 => ?_) (fun c_64 => ?_)
        · refine x_iinc (v' := (v.length : Int) + 1) (L' := [vR (u + 1), vI fr, vI gm, vI x0, vI kc, vI s.1, vI m, vI ((v.length : Int) + 1), vI (ior (ishl 1 e.1) (ishl 1 e.2.1)), vI 1]) (dat d_Ha_reachedByLot 59 rfl) rfl (by decide) rfl rfl (by omega) rfl ?_
          refine x_goto (tgt := 11) (dat d_Ha_reachedByLot 60 rfl) (by decide) ?_
          first
          | exact no _ _ (fun q => c_64 (b1.mpr ⟨q.1, q.2.1⟩))
          | exact no _ _ (fun q => by
              have q3 := q.2.2
              cases z1 : s.2 e.1 <;> cases z2 : s.2 e.2.1 <;> rw [z1, z2] at q3 c_50 <;> simp at q3 c_50)
          | (have q1 := b1.mp (by omega)
             have q2 : s.2 e.1 ≠ s.2 e.2.1 := by
               intro q
               rw [q] at c_50
               split at c_50 <;> omega
             first
               | exact yes _ _ _ ⟨q1.1, q1.2, q2⟩ (Or.inl ⟨by omega, rfl⟩)
               | exact yes _ _ _ ⟨q1.1, q1.2, q2⟩ (Or.inr ⟨by omega, rfl⟩))
        · refine x_iload (dat d_Ha_reachedByLot 40 rfl) rfl ?_
          refine x_if_eq (tgt := 103) (dat d_Ha_reachedByLot 41 rfl) (by decide) (fun h => absurd h (by decide)) (fun c_69 => ?_)
          refine x_iload (dat d_Ha_reachedByLot 42 rfl) rfl ?_
          refine x_ldc (own := "ShakenBread$Hands") (n := 1103515245) (dat d_Ha_reachedByLot 43 rfl) rfl (gw_4 (i := 185) rfl rfl) (by decide) ?_
          refine x_imulw (dat d_Ha_reachedByLot 44 rfl) ?_
          refine x_sipush (dat d_Ha_reachedByLot 45 rfl) (by decide) (by decide) ?_
          refine x_iaddw (dat d_Ha_reachedByLot 46 rfl) ?_
          refine x_istore (L' := [vR (u + 1), vI fr, vI gm, vI x0, vI kc, vI (wr ((wr (s.1 * 1103515245)) + 12345)), vI m, vI (v.length : Int), vI (ior (ishl 1 e.1) (ishl 1 e.2.1)), vI 1]) (dat d_Ha_reachedByLot 47 rfl) (by decide) rfl rfl ?_
          refine x_iload (dat d_Ha_reachedByLot 48 rfl) rfl ?_
          refine x_bipush (dat d_Ha_reachedByLot 49 rfl) (by decide) (by decide) ?_
          refine x_iushr (v := iushr (wr ((wr (s.1 * 1103515245)) + 12345)) 16) (dat d_Ha_reachedByLot 50 rfl) rfl ?_
          refine x_bipush (dat d_Ha_reachedByLot 51 rfl) (by decide) (by decide) ?_
          refine x_irem (v := drw (nxt1 s.1)) (dat d_Ha_reachedByLot 52 rfl) (by exact ⟨dr.1, by decide⟩) (by rfl) ?_
          refine x_iload (dat d_Ha_reachedByLot 53 rfl) rfl ?_
          refine x_icmp_ge (tgt := 103) (dat d_Ha_reachedByLot 54 rfl) (by decide) (fun c_93 => ?_) (fun c_93 => ?_)
          · refine x_iinc (v' := (v.length : Int) + 1) (L' := [vR (u + 1), vI fr, vI gm, vI x0, vI kc, vI (wr ((wr (s.1 * 1103515245)) + 12345)), vI m, vI ((v.length : Int) + 1), vI (ior (ishl 1 e.1) (ishl 1 e.2.1)), vI 1]) (dat d_Ha_reachedByLot 59 rfl) rfl (by decide) rfl rfl (by omega) rfl ?_
            refine x_goto (tgt := 11) (dat d_Ha_reachedByLot 60 rfl) (by decide) ?_
            first
            | exact no _ _ (fun q => c_64 (b1.mpr ⟨q.1, q.2.1⟩))
            | exact no _ _ (fun q => by
                have q3 := q.2.2
                cases z1 : s.2 e.1 <;> cases z2 : s.2 e.2.1 <;> rw [z1, z2] at q3 c_50 <;> simp at q3 c_50)
            | (have q1 := b1.mp (by omega)
               have q2 : s.2 e.1 ≠ s.2 e.2.1 := by
                 intro q
                 rw [q] at c_50
                 split at c_50 <;> omega
               first
                 | exact yes _ _ _ ⟨q1.1, q1.2, q2⟩ (Or.inl ⟨by omega, rfl⟩)
                 | exact yes _ _ _ ⟨q1.1, q1.2, q2⟩ (Or.inr ⟨by omega, rfl⟩))
          · refine x_iload (dat d_Ha_reachedByLot 55 rfl) rfl ?_
            refine x_iload (dat d_Ha_reachedByLot 56 rfl) rfl ?_
            refine x_ior (v := ior m (ior (ishl 1 e.1) (ishl 1 e.2.1))) (dat d_Ha_reachedByLot 57 rfl) rfl ?_
            refine x_istore (L' := [vR (u + 1), vI fr, vI gm, vI x0, vI kc, vI (wr ((wr (s.1 * 1103515245)) + 12345)), vI (ior m (ior (ishl 1 e.1) (ishl 1 e.2.1))), vI (v.length : Int), vI (ior (ishl 1 e.1) (ishl 1 e.2.1)), vI 1]) (dat d_Ha_reachedByLot 58 rfl) (by decide) rfl rfl ?_
            refine x_iinc (v' := (v.length : Int) + 1) (L' := [vR (u + 1), vI fr, vI gm, vI x0, vI kc, vI (wr ((wr (s.1 * 1103515245)) + 12345)), vI (ior m (ior (ishl 1 e.1) (ishl 1 e.2.1))), vI ((v.length : Int) + 1), vI (ior (ishl 1 e.1) (ishl 1 e.2.1)), vI 1]) (dat d_Ha_reachedByLot 59 rfl) rfl (by decide) rfl rfl (by omega) rfl ?_
            refine x_goto (tgt := 11) (dat d_Ha_reachedByLot 60 rfl) (by decide) ?_
            first
            | exact no _ _ (fun q => c_64 (b1.mpr ⟨q.1, q.2.1⟩))
            | exact no _ _ (fun q => by
                have q3 := q.2.2
                cases z1 : s.2 e.1 <;> cases z2 : s.2 e.2.1 <;> rw [z1, z2] at q3 c_50 <;> simp at q3 c_50)
            | (have q1 := b1.mp (by omega)
               have q2 : s.2 e.1 ≠ s.2 e.2.1 := by
                 intro q
                 rw [q] at c_50
                 split at c_50 <;> omega
               first
                 | exact yes _ _ _ ⟨q1.1, q1.2, q2⟩ (Or.inl ⟨by omega, rfl⟩)
                 | exact yes _ _ _ ⟨q1.1, q1.2, q2⟩ (Or.inr ⟨by omega, rfl⟩))
  refine x_enter 5 rfl rfl rfl (fun Z => ?_)
  show Wx g y_Ha_reachedByLot Z K 0 [vR (u + 1), vI fr, vI gm, vI x0, vI kc, vU, vU, vU, vU, vU] [] σ
  refine x_iload_n (dat d_Ha_reachedByLot 0 rfl) rfl rfl ?_
  refine x_istore (L' := [vR (u + 1), vI fr, vI gm, vI x0, vI kc, vI x0, vU, vU, vU, vU]) (dat d_Ha_reachedByLot 1 rfl) (by decide) rfl rfl ?_
  refine x_iconst (dat d_Ha_reachedByLot 2 rfl) (by decide) ?_
  refine x_iload_n (dat d_Ha_reachedByLot 3 rfl) rfl rfl ?_
  refine x_ishl (v := ishl 1 fr) (dat d_Ha_reachedByLot 4 rfl) rfl ?_
  refine x_istore (L' := [vR (u + 1), vI fr, vI gm, vI x0, vI kc, vI x0, vI (ishl 1 fr), vU, vU, vU]) (dat d_Ha_reachedByLot 5 rfl) (by decide) rfl rfl ?_
  refine x_iconst (dat d_Ha_reachedByLot 6 rfl) (by decide) ?_
  refine x_istore (L' := [vR (u + 1), vI fr, vI gm, vI x0, vI kc, vI x0, vI (ishl 1 fr), vI 0, vU, vU]) (dat d_Ha_reachedByLot 7 rfl) (by decide) rfl rfl ?_
  exact lp Z all.length all [] _ _ _ (by simp) rfl (Msk.one (n := 8) (by decide) f0 (by omega))
