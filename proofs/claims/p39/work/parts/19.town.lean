/-! a town as numbers: t is the text's row: 0 W, 1 H, 2 law, 3 hours, 4 need, 5 every, 6 people, 7 quarrels, 8 .. quarrels in twos, from 20 on seventeen each: manner, cell, bread, extra, steps, twelve cells -/
def TownOk (t : Int → Int) : Prop := (2 ≤ t 0 ∧ t 0 ≤ 6) ∧ (2 ≤ t 1 ∧ t 1 ≤ 6) ∧ (0 ≤ t 2 ∧ t 2 ≤ 3) ∧ (1 ≤ t 3 ∧ t 3 ≤ 24) ∧ (0 ≤ t 4 ∧ t 4 ≤ 9) ∧ (1 ≤ t 5 ∧ t 5 ≤ 24) ∧ (0 ≤ t 6 ∧ t 6 ≤ 8) ∧ (0 ≤ t 7 ∧ t 7 ≤ 6) ∧
  (∀ p : Int, 0 ≤ p → p < t 6 → (0 ≤ t (20 + 17 * p) ∧ t (20 + 17 * p) ≤ 3) ∧ (0 ≤ t (21 + 17 * p) ∧ t (21 + 17 * p) < t 0 * t 1) ∧ (0 ≤ t (22 + 17 * p) ∧ t (22 + 17 * p) ≤ 30) ∧ (0 ≤ t (23 + 17 * p) ∧ t (23 + 17 * p) ≤ 3) ∧ (0 ≤ t (24 + 17 * p) ∧ t (24 + 17 * p) ≤ 12) ∧ ∀ i : Int, 0 ≤ i → i < t (24 + 17 * p) → 0 ≤ t (25 + 17 * p + i) ∧ t (25 + 17 * p + i) < t 0 * t 1) ∧
  (∀ q : Int, 0 ≤ q → q < t 7 → (0 ≤ t (8 + 2 * q) ∧ t (8 + 2 * q) < t 6) ∧ (0 ≤ t (9 + 2 * q) ∧ t (9 + 2 * q) < t 6) ∧ t (8 + 2 * q) ≠ t (9 + 2 * q))
def TownR (σ : xS) (o : Nat) (t : Int → Int) : Prop := (∀ i : Int, 0 ≤ i → i ≤ 7 → σ o i = t i) ∧
  (∀ p : Int, 0 ≤ p → p < t 6 → σ (o + 1) p = t (20 + 17 * p) ∧ σ (o + 2) p = t (21 + 17 * p) ∧ σ (o + 3) p = t (22 + 17 * p) ∧ σ (o + 4) p = t (23 + 17 * p) ∧ σ (o + 5) p = t (24 + 17 * p) ∧ ∀ i : Int, 0 ≤ i → i < t (24 + 17 * p) → σ (o + 6) (12 * p + i) = t (25 + 17 * p + i)) ∧
  (∀ q : Int, 0 ≤ q → q < t 7 → σ (o + 7) q = t (8 + 2 * q) ∧ σ (o + 8) q = t (9 + 2 * q))
theorem TownR.same {σ σ' : xS} {o : Nat} {t : Int → Int} (h : TownR σ o t) (e : ∀ k : Nat, o ≤ k → k ≤ o + 8 → σ' k = σ k) : TownR σ' o t := by
  unfold TownR at h ⊢
  rw [e o (by omega) (by omega), e (o + 1) (by omega) (by omega), e (o + 2) (by omega) (by omega), e (o + 3) (by omega) (by omega), e (o + 4) (by omega) (by omega), e (o + 5) (by omega) (by omega), e (o + 6) (by omega) (by omega), e (o + 7) (by omega) (by omega), e (o + 8) (by omega) (by omega)]
  exact h
def mnT (t : Int → Int) (p : Int) : Int := t (20 + 17 * p)
def rkT (m : Int) : Int := if m = 1 then 2 else if m = 2 then 0 else 1
def cellT (t : Int → Int) (p h : Int) : Int := if t (24 + 17 * p) = 0 then t (21 + 17 * p) else t (25 + 17 * p + (if h < t (24 + 17 * p) then h else t (24 + 17 * p) - 1))
/-- a quarrel of the two, but those left out (bits), among the first n -/
def qrN (t : Int → Int) (lo a b : Int) : Nat → Bool
  | 0 => false
  | n + 1 => qrN t lo a b n || (!tb lo n && ((decide (t (8 + 2 * n) = a) && decide (t (9 + 2 * n) = b)) || (decide (t (8 + 2 * n) = b) && decide (t (9 + 2 * n) = a))))
def opT (t : Int → Int) (lo a b : Int) : Bool := !(decide (mnT t a = 2) && decide (mnT t b = 2)) && !qrN t lo a b (t 7).toNat
def cfg (t : Int → Int) : Cf := (fun i => if i = 0 then t 6 else if i = 1 then t 3 else if i = 2 then t 2 else if i = 3 then t 4 else if i = 4 then t 5 else if i = 7 then 0 else -1, fun p => decide (mnT t p = 3), fun a b => decide (rkT (mnT t b) ≤ rkT (mnT t a)), opT t 0, fun h p => cellT t p h, fun p => t (22 + 17 * p))
theorem sp_Tw_cellAt {g : xG} {K : Option MV → xS → Prop} {σ : xS} {o : Nat} {t : Int → Int} {p h : Int} (ho : IsTw o) (hT : TownOk t) (hR : TownR σ o t) (h0 : 0 ≤ p) (h1 : p < t 6) (q0 : 0 ≤ h) (q1 : h < 100) (k : K (some (vI (cellT t p h))) σ) : Mt g y_Tw_cellAt [vR o, vI p, vI h] σ K := by
  obtain ⟨r1, r2, r3, r4, r5, r6⟩ := hR.2.1 p h0 h1
  obtain ⟨o1, o2, o3, o4, o5, o6⟩ := hT.2.2.2.2.2.2.2.2.1 p h0 h1
  have h8 := hT.2.2.2.2.2.2.1.2
  refine x_enter 1 rfl rfl rfl (fun Z => ?_)
  show Wx g y_Tw_cellAt Z K 0 [vR o, vI p, vI h, vU] [] σ
  refine x_iload_n (dat d_Tw_cellAt 0 rfl) rfl rfl ?_
  refine x_aload_n (dat d_Tw_cellAt 1 rfl) rfl rfl ?_
  refine x_getr (r := o + 5) (dat d_Tw_cellAt 2 rfl) rfl f_Tw_24 (tw_or_12 ho) ?_
  refine x_iload_n (dat d_Tw_cellAt 3 rfl) rfl rfl ?_
  refine x_iald (n := 8) (v := t (24 + 17 * p)) (dat d_Tw_cellAt 4 rfl) (tw_ai_5 ho) (by omega) (by omega) (r5) ?_
  refine x_iconst (dat d_Tw_cellAt 5 rfl) (by decide) ?_
  refine x_isub (v := (t (24 + 17 * p)) - 1) (dat d_Tw_cellAt 6 rfl) rfl (by omega) ?_
  refine x_mmin (own := "ShakenBread$Town") (dat d_Tw_cellAt 7 rfl) rfl l_Tw_67 (by decide) (Nat.le_of_ble_eq_true rfl) (fun m_9 h1_9 h2_9 h3_9 => ?_)
  refine x_istore_n (L' := [vR o, vI p, vI h, vI m_9]) (dat d_Tw_cellAt 8 rfl) rfl (by decide) rfl rfl ?_
  refine x_iload_n (dat d_Tw_cellAt 9 rfl) rfl rfl ?_
  refine x_if_ge (tgt := 26) (dat d_Tw_cellAt 10 rfl) (by decide) (fun c_14 => ?_) (fun c_14 => ?_)
  · refine x_aload_n (dat d_Tw_cellAt 16 rfl) rfl rfl ?_
    refine x_getr (r := o + 6) (dat d_Tw_cellAt 17 rfl) rfl f_Tw_27 (tw_or_13 ho) ?_
    refine x_iload_n (dat d_Tw_cellAt 18 rfl) rfl rfl ?_
    refine x_bipush (dat d_Tw_cellAt 19 rfl) (by decide) (by decide) ?_
    refine x_imul (v := 12 * p) (dat d_Tw_cellAt 20 rfl) (by omega) (by omega) ?_
    refine x_iload_n (dat d_Tw_cellAt 21 rfl) rfl rfl ?_
    refine x_iadd (v := (12 * p) + m_9) (dat d_Tw_cellAt 22 rfl) rfl (by omega) ?_
    refine x_iald (n := 96) (v := σ (o + 6) ((12 * p) + m_9)) (dat d_Tw_cellAt 23 rfl) (tw_ai_6 ho) (by omega) (by omega) rfl ?_
    refine x_iret (dat d_Tw_cellAt 24 rfl) rfl ?_
    first
    | (rw [show cellT t p h = t (21 + 17 * p) by unfold cellT; rw [if_pos (by omega)]] at k
       exact k)
    | (have e : cellT t p h = t (25 + 17 * p + m_9) := by
         unfold cellT
         rw [if_neg (by omega)]
         by_cases e1 : h < t (24 + 17 * p)
         · rw [if_pos e1, show m_9 = h by omega]
         · rw [if_neg e1, show m_9 = t (24 + 17 * p) - 1 by omega]
       rw [e, ← r6 _ (by omega) (by omega)] at k
       exact k)
  · refine x_aload_n (dat d_Tw_cellAt 11 rfl) rfl rfl ?_
    refine x_getr (r := o + 2) (dat d_Tw_cellAt 12 rfl) rfl f_Tw_15 (tw_or_9 ho) ?_
    refine x_iload_n (dat d_Tw_cellAt 13 rfl) rfl rfl ?_
    refine x_iald (n := 8) (v := t (21 + 17 * p)) (dat d_Tw_cellAt 14 rfl) (tw_ai_2 ho) (by omega) (by omega) (r2) ?_
    refine x_goto (tgt := 37) (dat d_Tw_cellAt 15 rfl) (by decide) ?_
    refine x_iret (dat d_Tw_cellAt 24 rfl) rfl ?_
    first
    | (rw [show cellT t p h = t (21 + 17 * p) by unfold cellT; rw [if_pos (by omega)]] at k
       exact k)
    | (have e : cellT t p h = t (25 + 17 * p + m_9) := by
         unfold cellT
         rw [if_neg (by omega)]
         by_cases e1 : h < t (24 + 17 * p)
         · rw [if_pos e1, show m_9 = h by omega]
         · rw [if_neg e1, show m_9 = t (24 + 17 * p) - 1 by omega]
       rw [e, ← r6 _ (by omega) (by omega)] at k
       exact k)
/-! the plan is laid out -/
theorem sp_Pl_part {g : xG} {K : Option MV → xS → Prop} {σ : xS} {a b : Int} (ha : 0 ≤ a) (ha8 : a < 8) (hb : 0 ≤ b) (hb8 : b < 8) (hab : a ≠ b)
    (k : K none (up (up σ 141 a (iand (σ 141 a) (ixor (ishl 1 b) (-1)))) 141 b (iand (σ 141 b) (ixor (ishl 1 a) (-1))))) : Mt g y_Pl_part [vR 138, vI a, vI b] σ K := by
  refine x_enter 0 rfl rfl rfl (fun Z => ?_)
  show Wx g y_Pl_part Z K 0 [vR 138, vI a, vI b] [] σ
  refine x_iload_n (dat d_Pl_part 0 rfl) rfl rfl ?_
  refine x_if_lt (tgt := 48) (dat d_Pl_part 1 rfl) (by decide) (fun c_1 => (by omega)) (fun c_1 => ?_)
  refine x_iload_n (dat d_Pl_part 2 rfl) rfl rfl ?_
  refine x_bipush (dat d_Pl_part 3 rfl) (by decide) (by decide) ?_
  refine x_icmp_ge (tgt := 48) (dat d_Pl_part 4 rfl) (by decide) (fun c_7 => (by omega)) (fun c_7 => ?_)
  refine x_iload_n (dat d_Pl_part 5 rfl) rfl rfl ?_
  refine x_if_lt (tgt := 48) (dat d_Pl_part 6 rfl) (by decide) (fun c_11 => (by omega)) (fun c_11 => ?_)
  refine x_iload_n (dat d_Pl_part 7 rfl) rfl rfl ?_
  refine x_bipush (dat d_Pl_part 8 rfl) (by decide) (by decide) ?_
  refine x_icmp_ge (tgt := 48) (dat d_Pl_part 9 rfl) (by decide) (fun c_17 => (by omega)) (fun c_17 => ?_)
  refine x_aload_n (dat d_Pl_part 10 rfl) rfl rfl ?_
  refine x_getr (r := 141) (dat d_Pl_part 11 rfl) rfl f_Pl_18 (or_mk (by decide +kernel)) ?_
  refine x_iload_n (dat d_Pl_part 12 rfl) rfl rfl ?_
  refine x_dup2 (dat d_Pl_part 13 rfl) rfl rfl ?_
  refine x_iald (n := 8) (v := σ 141 a) (dat d_Pl_part 14 rfl) (ai_mk (by decide +kernel)) (by omega) (by omega) rfl ?_
  refine x_iconst (dat d_Pl_part 15 rfl) (by decide) ?_
  refine x_iload_n (dat d_Pl_part 16 rfl) rfl rfl ?_
  refine x_ishl (v := ishl 1 b) (dat d_Pl_part 17 rfl) rfl ?_
  refine x_iconst (dat d_Pl_part 18 rfl) (by decide) ?_
  refine x_ixor (v := ixor (ishl 1 b) (-1)) (dat d_Pl_part 19 rfl) rfl ?_
  refine x_iand (v := iand (σ 141 a) (ixor (ishl 1 b) (-1))) (dat d_Pl_part 20 rfl) rfl ?_
  refine x_iast (n := 8) (dat d_Pl_part 21 rfl) (ai_mk (by decide +kernel)) (by omega) (by omega) ?_
  refine x_aload_n (dat d_Pl_part 22 rfl) rfl rfl ?_
  refine x_getr (r := 141) (dat d_Pl_part 23 rfl) rfl f_Pl_18 (or_mk (by decide +kernel)) ?_
  refine x_iload_n (dat d_Pl_part 24 rfl) rfl rfl ?_
  refine x_dup2 (dat d_Pl_part 25 rfl) rfl rfl ?_
  refine x_iald (n := 8) (v := σ 141 b) (dat d_Pl_part 26 rfl) (ai_mk (by decide +kernel)) (by omega) (by omega) (up_ni (by omega)) ?_
  refine x_iconst (dat d_Pl_part 27 rfl) (by decide) ?_
  refine x_iload_n (dat d_Pl_part 28 rfl) rfl rfl ?_
  refine x_ishl (v := ishl 1 a) (dat d_Pl_part 29 rfl) rfl ?_
  refine x_iconst (dat d_Pl_part 30 rfl) (by decide) ?_
  refine x_ixor (v := ixor (ishl 1 a) (-1)) (dat d_Pl_part 31 rfl) rfl ?_
  refine x_iand (v := iand (σ 141 b) (ixor (ishl 1 a) (-1))) (dat d_Pl_part 32 rfl) rfl ?_
  refine x_iast (n := 8) (dat d_Pl_part 33 rfl) (ai_mk (by decide +kernel)) (by omega) (by omega) ?_
  refine x_ret (dat d_Pl_part 34 rfl) rfl ?_
  exact k
/-- what open is, some quarrels done: opQ n -/
def OpI (σ : xS) (P : Int) (f : Int → Int → Bool) : Prop := ∀ a : Int, 0 ≤ a → a < P → 0 ≤ σ 141 a ∧ σ 141 a < 256 ∧ ∀ b : Int, 0 ≤ b → b < P → tb (σ 141 a) b = f a b
theorem OpI.part {σ : xS} {P : Int} {f : Int → Int → Bool} (h : OpI σ P f) (hP : P ≤ 8) {x w : Int} (h0 : 0 ≤ x) (h1 : x < P) (h2 : 0 ≤ w) (h3 : w < P) (hxw : x ≠ w) :
    OpI (up (up σ 141 x (iand (σ 141 x) (ixor (ishl 1 w) (-1)))) 141 w (iand (σ 141 w) (ixor (ishl 1 x) (-1)))) P (fun a b => f a b && !((decide (x = a) && decide (w = b)) || (decide (x = b) && decide (w = a)))) := by
  intro a q0 q1
  have one : ∀ z : Int, 0 ≤ z → z < P → Msk 8 (ishl 1 z) (fun q => decide (q = z)) := fun z z0 z1 => Msk.one (n := 8) (by decide) z0 (by omega)
  obtain ⟨o1, o2, o3⟩ := h a q0 q1
  by_cases e1 : a = w
  · subst e1
    rw [up_s]
    have m := (msk_self (n := 8) o1 (by omega)).andn (by decide) (one x h0 h1)
    refine ⟨m.1, m.2.1, fun b r0 r1 => ?_⟩
    rw [m.2.2 b r0 (by omega)]
    show (tb (σ 141 a) b && !decide (b = x)) = _
    rw [o3 b r0 r1]
    have e2 : ¬ x = a := hxw
    by_cases e3 : b = x
    · subst e3; simp [e2]
    · have e4 : ¬ x = b := fun q => e3 q.symm
      simp [e2, e3, e4]
  · rw [up_ni (fun q => e1 q.symm)]
    by_cases e2 : a = x
    · subst e2
      rw [up_s]
      have m := (msk_self (n := 8) o1 (by omega)).andn (by decide) (one w h2 h3)
      refine ⟨m.1, m.2.1, fun b r0 r1 => ?_⟩
      rw [m.2.2 b r0 (by omega)]
      show (tb (σ 141 a) b && !decide (b = w)) = _
      rw [o3 b r0 r1]
      have e5 : ¬ w = a := fun q => e1 q.symm
      by_cases e3 : b = w
      · subst e3; simp
      · have e4 : ¬ w = b := fun q => e3 q.symm
        simp [e3, e4, e5]
    · rw [up_ni (fun q => e2 q.symm)]
      refine ⟨o1, o2, fun b r0 r1 => ?_⟩
      rw [o3 b r0 r1]
      have e5 : ¬ w = a := fun q => e1 q.symm
      have e6 : ¬ x = a := fun q => e2 q.symm
      simp [e5, e6]
/-- the shy ones, of the first n -/
theorem lp_Pl_shy {g : xG} {Z : xZ} {K : Option MV → xS → Prop} {σ : xS} {o : Nat} {t : Int → Int} {lo al : Int} (ho : IsTw o) (hT : TownOk t) (hR : TownR σ o t) (h0 : σ 138 0 = t 6)
    (k : ∀ sh : Int, Msk 8 sh (fun p => decide (p < t 6) && decide (mnT t p = 2)) → Wx g y_Pl_openHands Z K 54 [vR 138, vR o, vI lo, vI al, vI sh, vI (t 6)] [] σ) : ∀ (n : Nat) (i sh : Int), 0 ≤ i → i + n = t 6 → Msk 8 sh (fun p => decide (p < i) && decide (mnT t p = 2)) → Wx g y_Pl_openHands Z K 15 [vR 138, vR o, vI lo, vI al, vI sh, vI i] [] σ := by
  have h8 := hT.2.2.2.2.2.2.1.2
  intro n
  induction n with
  | zero =>
    intro i sh q0 q1 H
    have e : i = t 6 := by omega
    subst e
    refine x_iload (dat d_Pl_openHands 11 rfl) rfl ?_
    refine x_aload_n (dat d_Pl_openHands 12 rfl) rfl rfl ?_
    refine x_geti (ji := 0) (v := t 6) (dat d_Pl_openHands 13 rfl) rfl f_Pl_36 (oi_mk (by decide +kernel)) (h0) ?_
    refine x_icmp_ge (tgt := 54) (dat d_Pl_openHands 14 rfl) (by decide) (fun c_21 => ?_) (fun c_21 => (by omega))
    exact k _ H
  | succ n ih =>
    intro i sh q0 q1 H
    have r1 : σ (o + 1) i = mnT t i := (hR.2.1 i q0 (by omega)).1
    refine x_iload (dat d_Pl_openHands 11 rfl) rfl ?_
    refine x_aload_n (dat d_Pl_openHands 12 rfl) rfl rfl ?_
    refine x_geti (ji := 0) (v := t 6) (dat d_Pl_openHands 13 rfl) rfl f_Pl_36 (oi_mk (by decide +kernel)) (h0) ?_
    refine x_icmp_ge (tgt := 54) (dat d_Pl_openHands 14 rfl) (by decide) (fun c_21 => (by omega)) (fun c_21 => ?_)
    refine x_iload (dat d_Pl_openHands 15 rfl) rfl ?_
    refine x_aload_n (dat d_Pl_openHands 16 rfl) rfl rfl ?_
    refine x_getr (r := o + 1) (dat d_Pl_openHands 17 rfl) rfl f_Pl_68 (tw_or_8 ho) ?_
    refine x_iload (dat d_Pl_openHands 18 rfl) rfl ?_
    refine x_iald (n := 8) (v := mnT t i) (dat d_Pl_openHands 19 rfl) (tw_ai_1 ho) (by omega) (by omega) (r1) ?_
    refine x_iconst (dat d_Pl_openHands 20 rfl) (by decide) ?_
    refine x_icmp_ne (tgt := 44) (dat d_Pl_openHands 21 rfl) (by decide) (fun c_34 => ?_) (fun c_34 => ?_)
    · refine x_iconst (dat d_Pl_openHands 26 rfl) (by decide) ?_
      refine x_ior (v := ior sh 0) (dat d_Pl_openHands 27 rfl) rfl ?_
      refine x_istore (L' := [vR 138, vR o, vI lo, vI al, vI (ior sh 0), vI i]) (dat d_Pl_openHands 28 rfl) (by decide) rfl rfl ?_
      refine x_iinc (v' := i + 1) (L' := [vR 138, vR o, vI lo, vI al, vI (ior sh 0), vI (i + 1)]) (dat d_Pl_openHands 29 rfl) rfl (by decide) rfl rfl (by omega) rfl ?_
      refine x_goto (tgt := 15) (dat d_Pl_openHands 30 rfl) (by decide) ?_
      refine ih (i + 1) _ (by omega) (by omega) ?_
      first
      | (refine (H.lor (by decide) (Msk.one (n := 8) (by decide) q0 (by omega))).congr (fun p r0 r1 => ?_)
         by_cases e : p = i
         · subst e
           have : p < p + 1 := by omega
           simp [c_34, this]
         · by_cases e2 : p < i
           · have : p < i + 1 := by omega
             simp [e, e2, this]
           · have : ¬ p < i + 1 := by omega
             simp [e, e2, this])
      | (refine (H.lor (by decide) (Msk.zero 8)).congr (fun p r0 r1 => ?_)
         by_cases e : p = i
         · subst e
           simp [c_34]
         · by_cases e2 : p < i
           · have : p < i + 1 := by omega
             simp [e2, this]
           · have : ¬ p < i + 1 := by omega
             simp [e2, this])
    · refine x_iconst (dat d_Pl_openHands 22 rfl) (by decide) ?_
      refine x_iload (dat d_Pl_openHands 23 rfl) rfl ?_
      refine x_ishl (v := ishl 1 i) (dat d_Pl_openHands 24 rfl) rfl ?_
      refine x_goto (tgt := 45) (dat d_Pl_openHands 25 rfl) (by decide) ?_
      refine x_ior (v := ior sh (ishl 1 i)) (dat d_Pl_openHands 27 rfl) rfl ?_
      refine x_istore (L' := [vR 138, vR o, vI lo, vI al, vI (ior sh (ishl 1 i)), vI i]) (dat d_Pl_openHands 28 rfl) (by decide) rfl rfl ?_
      refine x_iinc (v' := i + 1) (L' := [vR 138, vR o, vI lo, vI al, vI (ior sh (ishl 1 i)), vI (i + 1)]) (dat d_Pl_openHands 29 rfl) rfl (by decide) rfl rfl (by omega) rfl ?_
      refine x_goto (tgt := 15) (dat d_Pl_openHands 30 rfl) (by decide) ?_
      refine ih (i + 1) _ (by omega) (by omega) ?_
      first
      | (refine (H.lor (by decide) (Msk.one (n := 8) (by decide) q0 (by omega))).congr (fun p r0 r1 => ?_)
         by_cases e : p = i
         · subst e
           have : p < p + 1 := by omega
           simp [c_34, this]
         · by_cases e2 : p < i
           · have : p < i + 1 := by omega
             simp [e, e2, this]
           · have : ¬ p < i + 1 := by omega
             simp [e, e2, this])
      | (refine (H.lor (by decide) (Msk.zero 8)).congr (fun p r0 r1 => ?_)
         by_cases e : p = i
         · subst e
           simp [c_34]
         · by_cases e2 : p < i
           · have : p < i + 1 := by omega
             simp [e2, this]
           · have : ¬ p < i + 1 := by omega
             simp [e2, this])
theorem lp_Pl_opn {g : xG} {Z : xZ} {K : Option MV → xS → Prop} {σ0 : xS} {o : Nat} {t : Int → Int} {lo al sh : Int} (ho : IsTw o) (hT : TownOk t) (hR : TownR σ0 o t) (h0 : σ0 138 0 = t 6) (hal : Msk 8 al (fun p => decide (p < t 6))) (hsh : Msk 8 sh (fun p => decide (p < t 6) && decide (mnT t p = 2)))
    (k : ∀ σ : xS, OpI σ (t 6) (fun a b => !(decide (mnT t a = 2) && decide (mnT t b = 2))) → (∀ j : Nat, j ≠ 141 → σ j = σ0 j) → Wx g y_Pl_openHands Z K 100 [vR 138, vR o, vI lo, vI al, vI sh, vI (t 6)] [] σ) : ∀ (n : Nat) (i : Int) (σ : xS), 0 ≤ i → i + n = t 6 → OpI σ i (fun a b => !(decide (mnT t a = 2) && decide (mnT t b = 2))) → (∀ a : Int, 0 ≤ a → a < i → 0 ≤ σ 141 a ∧ σ 141 a < 256 ∧ ∀ b : Int, 0 ≤ b → b < t 6 → tb (σ 141 a) b = !(decide (mnT t a = 2) && decide (mnT t b = 2))) → (∀ j : Nat, j ≠ 141 → σ j = σ0 j) → Wx g y_Pl_openHands Z K 57 [vR 138, vR o, vI lo, vI al, vI sh, vI i] [] σ := by
  have h8 := hT.2.2.2.2.2.2.1.2
  have cs := tw_cs ho
  intro n
  induction n with
  | zero =>
    intro i σ q0 q1 _ H hf
    have e : i = t 6 := by omega
    subst e
    have e0 : σ 138 0 = t 6 := by rw [hf 138 (by decide)]; exact h0
    refine x_iload (dat d_Pl_openHands 33 rfl) rfl ?_
    refine x_aload_n (dat d_Pl_openHands 34 rfl) rfl rfl ?_
    refine x_geti (ji := 0) (v := t 6) (dat d_Pl_openHands 35 rfl) rfl f_Pl_36 (oi_mk (by decide +kernel)) (e0) ?_
    refine x_icmp_ge (tgt := 100) (dat d_Pl_openHands 36 rfl) (by decide) (fun c_63 => ?_) (fun c_63 => (by omega))
    exact k _ H hf
  | succ n ih =>
    intro i σ q0 q1 H0 H hf
    have e0 : σ 138 0 = t 6 := by rw [hf 138 (by decide)]; exact h0
    have r1 : σ (o + 1) i = mnT t i := by rw [hf (o + 1) (by omega)]; exact (hR.2.1 i q0 (by omega)).1
    have m1 := hal.andn (by decide) hsh
    have nx : ∀ v : Int, 0 ≤ v → v < 256 → (∀ b : Int, 0 ≤ b → b < t 6 → tb v b = !(decide (mnT t i = 2) && decide (mnT t b = 2))) → Wx g y_Pl_openHands Z K 57 [vR 138, vR o, vI lo, vI al, vI sh, vI (i + 1)] [] (up σ 141 i v) := by
      intro v v0 v1 v2
      have key : ∀ a : Int, 0 ≤ a → a < i + 1 → 0 ≤ up σ 141 i v 141 a ∧ up σ 141 i v 141 a < 256 ∧ ∀ b : Int, 0 ≤ b → b < t 6 → tb (up σ 141 i v 141 a) b = !(decide (mnT t a = 2) && decide (mnT t b = 2)) := by
        intro a a0 a1
        by_cases e : a = i
        · subst e
          rw [up_s]
          exact ⟨v0, v1, v2⟩
        · rw [up_ni (fun q => e q.symm)]
          exact H a a0 (by omega)
      exact ih (i + 1) _ (by omega) (by omega) (fun a a0 a1 => ⟨(key a a0 a1).1, (key a a0 a1).2.1, fun b b0 b1 => (key a a0 a1).2.2 b b0 (by omega)⟩) key (fun j hj => by rw [up_ne hj]; exact hf j hj)
    refine x_iload (dat d_Pl_openHands 33 rfl) rfl ?_
    refine x_aload_n (dat d_Pl_openHands 34 rfl) rfl rfl ?_
    refine x_geti (ji := 0) (v := t 6) (dat d_Pl_openHands 35 rfl) rfl f_Pl_36 (oi_mk (by decide +kernel)) (e0) ?_
    refine x_icmp_ge (tgt := 100) (dat d_Pl_openHands 36 rfl) (by decide) (fun c_63 => (by omega)) (fun c_63 => ?_)
    refine x_aload_n (dat d_Pl_openHands 37 rfl) rfl rfl ?_
    refine x_getr (r := 141) (dat d_Pl_openHands 38 rfl) rfl f_Pl_18 (or_mk (by decide +kernel)) ?_
    refine x_iload (dat d_Pl_openHands 39 rfl) rfl ?_
    refine x_aload_n (dat d_Pl_openHands 40 rfl) rfl rfl ?_
    refine x_getr (r := o + 1) (dat d_Pl_openHands 41 rfl) rfl f_Pl_68 (tw_or_8 ho) ?_
    refine x_iload (dat d_Pl_openHands 42 rfl) rfl ?_
    refine x_iald (n := 8) (v := mnT t i) (dat d_Pl_openHands 43 rfl) (tw_ai_1 ho) (by omega) (by omega) (r1) ?_
    refine x_iconst (dat d_Pl_openHands 44 rfl) (by decide) ?_
    refine x_icmp_ne (tgt := 92) (dat d_Pl_openHands 45 rfl) (by decide) (fun c_80 => ?_) (fun c_80 => ?_)
    · refine x_iload_n (dat d_Pl_openHands 52 rfl) rfl rfl ?_
      refine x_iast (n := 8) (dat d_Pl_openHands 53 rfl) (ai_mk (by decide +kernel)) (by omega) (by omega) ?_
      refine x_iinc (v' := i + 1) (L' := [vR 138, vR o, vI lo, vI al, vI sh, vI (i + 1)]) (dat d_Pl_openHands 54 rfl) rfl (by decide) rfl rfl (by omega) rfl ?_
      refine x_goto (tgt := 57) (dat d_Pl_openHands 55 rfl) (by decide) ?_
      first
      | (refine nx _ hal.1 hal.2.1 (fun b b0 b1 => ?_)
         rw [hal.2.2 b b0 (by omega)]
         simp [b1, c_80])
      | (refine nx _ m1.1 m1.2.1 (fun b b0 b1 => ?_)
         rw [m1.2.2 b b0 (by omega)]
         simp [b1, c_80])
    · refine x_iload_n (dat d_Pl_openHands 46 rfl) rfl rfl ?_
      refine x_iload (dat d_Pl_openHands 47 rfl) rfl ?_
      refine x_iconst (dat d_Pl_openHands 48 rfl) (by decide) ?_
      refine x_ixor (v := ixor sh (-1)) (dat d_Pl_openHands 49 rfl) rfl ?_
      refine x_iand (v := iand al (ixor sh (-1))) (dat d_Pl_openHands 50 rfl) rfl ?_
      refine x_goto (tgt := 93) (dat d_Pl_openHands 51 rfl) (by decide) ?_
      refine x_iast (n := 8) (dat d_Pl_openHands 53 rfl) (ai_mk (by decide +kernel)) (by omega) (by omega) ?_
      refine x_iinc (v' := i + 1) (L' := [vR 138, vR o, vI lo, vI al, vI sh, vI (i + 1)]) (dat d_Pl_openHands 54 rfl) rfl (by decide) rfl rfl (by omega) rfl ?_
      refine x_goto (tgt := 57) (dat d_Pl_openHands 55 rfl) (by decide) ?_
      first
      | (refine nx _ hal.1 hal.2.1 (fun b b0 b1 => ?_)
         rw [hal.2.2 b b0 (by omega)]
         simp [b1, c_80])
      | (refine nx _ m1.1 m1.2.1 (fun b b0 b1 => ?_)
         rw [m1.2.2 b b0 (by omega)]
         simp [b1, c_80])
theorem lp_Pl_qrl {g : xG} {Z : xZ} {K : Option MV → xS → Prop} {σ0 : xS} {o : Nat} {t : Int → Int} {lo al sh : Int} (ho : IsTw o) (hT : TownOk t) (hR : TownR σ0 o t) (hlo : 0 ≤ lo ∧ lo < 64)
    (k : ∀ σ : xS, OpI σ (t 6) (opT t lo) → (∀ j : Nat, j ≠ 141 → σ j = σ0 j) → K none σ) : ∀ (n : Nat) (i : Nat) (σ : xS), (i : Int) + n = t 7 → OpI σ (t 6) (fun a b => !(decide (mnT t a = 2) && decide (mnT t b = 2)) && !qrN t lo a b i) → (∀ j : Nat, j ≠ 141 → σ j = σ0 j) → Wx g y_Pl_openHands Z K 103 [vR 138, vR o, vI lo, vI al, vI sh, vI (i : Int)] [] σ := by
  have h8 := hT.2.2.2.2.2.2.1.2
  have h7 := hT.2.2.2.2.2.2.2.1.2
  have cs := tw_cs ho
  intro n
  induction n with
  | zero =>
    intro i σ q1 H hf
    have e7 : σ o 7 = t 7 := by rw [hf o (by omega)]; exact hR.1 7 (by decide) (by decide)
    have ei : (t 7).toNat = i := by omega
    refine x_iload (dat d_Pl_openHands 58 rfl) rfl ?_
    refine x_aload_n (dat d_Pl_openHands 59 rfl) rfl rfl ?_
    refine x_geti (ji := 7) (v := t 7) (dat d_Pl_openHands 60 rfl) rfl f_Pl_78 (tw_oi_7 ho) (e7) ?_
    refine x_icmp_ge (tgt := 145) (dat d_Pl_openHands 61 rfl) (by decide) (fun c_109 => ?_) (fun c_109 => (by omega))
    refine x_ret (dat d_Pl_openHands 80 rfl) rfl ?_
    refine k _ ?_ hf
    unfold opT
    rw [ei]
    exact H
  | succ n ih =>
    intro i σ q1 H hf
    have e7 : σ o 7 = t 7 := by rw [hf o (by omega)]; exact hR.1 7 (by decide) (by decide)
    obtain ⟨s1, s2⟩ := hR.2.2 i (by omega) (by omega)
    have r7 : σ (o + 7) i = t (8 + 2 * i) := by rw [hf (o + 7) (by omega)]; exact s1
    have r8 : σ (o + 8) i = t (9 + 2 * i) := by rw [hf (o + 8) (by omega)]; exact s2
    obtain ⟨⟨x0, x1⟩, ⟨w0, w1⟩, xw⟩ := hT.2.2.2.2.2.2.2.2.2 i (by omega) (by omega)
    have et := tb_get (p := (i : Int)) hlo.1 (by omega) (by omega) (by omega)
    cases hb : tb lo i
    · refine x_iload (dat d_Pl_openHands 58 rfl) rfl ?_
      refine x_aload_n (dat d_Pl_openHands 59 rfl) rfl rfl ?_
      refine x_geti (ji := 7) (v := t 7) (dat d_Pl_openHands 60 rfl) rfl f_Pl_78 (tw_oi_7 ho) (e7) ?_
      refine x_icmp_ge (tgt := 145) (dat d_Pl_openHands 61 rfl) (by decide) (fun c_109 => (by omega)) (fun c_109 => ?_)
      refine x_iload_n (dat d_Pl_openHands 62 rfl) rfl rfl ?_
      refine x_iload (dat d_Pl_openHands 63 rfl) rfl ?_
      refine x_ishr (v := ishr lo (i : Int)) (dat d_Pl_openHands 64 rfl) rfl ?_
      refine x_iconst (dat d_Pl_openHands 65 rfl) (by decide) ?_
      refine x_iand (v := 0) (dat d_Pl_openHands 66 rfl) (by rw [et, hb]; rfl) ?_
      refine x_if_ne (tgt := 139) (dat d_Pl_openHands 67 rfl) (by decide) (fun h => absurd h (by decide)) (fun c_118 => ?_)
      refine x_aload_n (dat d_Pl_openHands 68 rfl) rfl rfl ?_
      refine x_aload_n (dat d_Pl_openHands 69 rfl) rfl rfl ?_
      refine x_getr (r := o + 7) (dat d_Pl_openHands 70 rfl) rfl f_Pl_81 (tw_or_14 ho) ?_
      refine x_iload (dat d_Pl_openHands 71 rfl) rfl ?_
      refine x_iald (n := 6) (v := t (8 + 2 * i)) (dat d_Pl_openHands 72 rfl) (tw_ai_7 ho) (by omega) (by omega) (r7) ?_
      refine x_aload_n (dat d_Pl_openHands 73 rfl) rfl rfl ?_
      refine x_getr (r := o + 8) (dat d_Pl_openHands 74 rfl) rfl f_Pl_84 (tw_or_15 ho) ?_
      refine x_iload (dat d_Pl_openHands 75 rfl) rfl ?_
      refine x_iald (n := 6) (v := t (9 + 2 * i)) (dat d_Pl_openHands 76 rfl) (tw_ai_8 ho) (by omega) (by omega) (r8) ?_
      refine x_inv (As := [vI (t (8 + 2 * i)), vI (t (9 + 2 * i))]) (dat d_Pl_openHands 77 rfl) rfl c_Pl_part l_Pl_87 (by decide) (rv_pl (by decide +kernel)) rfl rfl (Nat.le_of_ble_eq_true rfl) ?_
      refine sp_Pl_part x0 (by omega) w0 (by omega) xw ?_
      show Wx g y_Pl_openHands Z K 139 [vR 138, vR o, vI lo, vI al, vI sh, vI (i : Int)] [] (up (up σ 141 (t (8 + 2 * i)) (iand (σ 141 (t (8 + 2 * i))) (ixor (ishl 1 (t (9 + 2 * i))) (-1)))) 141 (t (9 + 2 * i)) (iand (σ 141 (t (9 + 2 * i))) (ixor (ishl 1 (t (8 + 2 * i))) (-1))))
      refine x_iinc (v' := ((i + 1 : Nat) : Int)) (L' := [vR 138, vR o, vI lo, vI al, vI sh, vI ((i + 1 : Nat) : Int)]) (dat d_Pl_openHands 78 rfl) rfl (by decide) rfl (by omega) (by omega) rfl ?_
      refine x_goto (tgt := 103) (dat d_Pl_openHands 79 rfl) (by decide) ?_
      refine ih (i + 1) _ (by omega) ?_ (fun j hj => by rw [up_ne hj, up_ne hj]; exact hf j hj)
      have H2 := H.part h8 x0 x1 w0 w1 xw
      refine fun a a0 a1 => ⟨(H2 a a0 a1).1, (H2 a a0 a1).2.1, fun b b0 b1 => ?_⟩
      rw [(H2 a a0 a1).2.2 b b0 b1]
      simp only [qrN, hb, Bool.not_or, Bool.and_assoc, Bool.not_false, Bool.true_and]
    · refine x_iload (dat d_Pl_openHands 58 rfl) rfl ?_
      refine x_aload_n (dat d_Pl_openHands 59 rfl) rfl rfl ?_
      refine x_geti (ji := 7) (v := t 7) (dat d_Pl_openHands 60 rfl) rfl f_Pl_78 (tw_oi_7 ho) (e7) ?_
      refine x_icmp_ge (tgt := 145) (dat d_Pl_openHands 61 rfl) (by decide) (fun c_109 => (by omega)) (fun c_109 => ?_)
      refine x_iload_n (dat d_Pl_openHands 62 rfl) rfl rfl ?_
      refine x_iload (dat d_Pl_openHands 63 rfl) rfl ?_
      refine x_ishr (v := ishr lo (i : Int)) (dat d_Pl_openHands 64 rfl) rfl ?_
      refine x_iconst (dat d_Pl_openHands 65 rfl) (by decide) ?_
      refine x_iand (v := 1) (dat d_Pl_openHands 66 rfl) (by rw [et, hb]; rfl) ?_
      refine x_if_ne (tgt := 139) (dat d_Pl_openHands 67 rfl) (by decide) (fun c_118 => ?_) (fun h => absurd h (by decide))
      refine x_iinc (v' := ((i + 1 : Nat) : Int)) (L' := [vR 138, vR o, vI lo, vI al, vI sh, vI ((i + 1 : Nat) : Int)]) (dat d_Pl_openHands 78 rfl) rfl (by decide) rfl (by omega) (by omega) rfl ?_
      refine x_goto (tgt := 103) (dat d_Pl_openHands 79 rfl) (by decide) ?_
      refine ih (i + 1) _ (by omega) ?_ hf
      refine fun a a0 a1 => ⟨(H a a0 a1).1, (H a a0 a1).2.1, fun b b0 b1 => ?_⟩
      rw [(H a a0 a1).2.2 b b0 b1]
      simp only [qrN, hb, Bool.not_true, Bool.false_and, Bool.or_false]
theorem sp_Pl_openHands {g : xG} {K : Option MV → xS → Prop} {σ : xS} {o : Nat} {t : Int → Int} {lo : Int} (ho : IsTw o) (hT : TownOk t) (hR : TownR σ o t) (h0 : σ 138 0 = t 6) (hlo : 0 ≤ lo ∧ lo < 64)
    (k : ∀ σ' : xS, OpI σ' (t 6) (opT t lo) → (∀ j : Nat, j ≠ 141 → σ' j = σ j) → K none σ') : Mt g y_Pl_openHands [vR 138, vR o, vI lo] σ K := by
  have h8 := hT.2.2.2.2.2.2.1
  have h7 := hT.2.2.2.2.2.2.2.1
  have cs := tw_cs ho
  have hsh : 1 ≤ ishl 1 (t 6) ∧ ishl 1 (t 6) ≤ 256 := ishl_bd (n := 8) h8.1 (by omega) (by decide)
  refine x_enter 3 rfl rfl rfl (fun Z => ?_)
  show Wx g y_Pl_openHands Z K 0 [vR 138, vR o, vI lo, vU, vU, vU] [] σ
  refine x_iconst (dat d_Pl_openHands 0 rfl) (by decide) ?_
  refine x_aload_n (dat d_Pl_openHands 1 rfl) rfl rfl ?_
  refine x_geti (ji := 0) (v := t 6) (dat d_Pl_openHands 2 rfl) rfl f_Pl_36 (oi_mk (by decide +kernel)) (h0) ?_
  refine x_ishl (v := ishl 1 (t 6)) (dat d_Pl_openHands 3 rfl) rfl ?_
  refine x_iconst (dat d_Pl_openHands 4 rfl) (by decide) ?_
  refine x_isub (v := (ishl 1 (t 6)) - 1) (dat d_Pl_openHands 5 rfl) rfl (by omega) ?_
  refine x_istore_n (L' := [vR 138, vR o, vI lo, vI ((ishl 1 (t 6)) - 1), vU, vU]) (dat d_Pl_openHands 6 rfl) rfl (by decide) rfl rfl ?_
  refine x_iconst (dat d_Pl_openHands 7 rfl) (by decide) ?_
  refine x_istore (L' := [vR 138, vR o, vI lo, vI ((ishl 1 (t 6)) - 1), vI 0, vU]) (dat d_Pl_openHands 8 rfl) (by decide) rfl rfl ?_
  refine x_iconst (dat d_Pl_openHands 9 rfl) (by decide) ?_
  refine x_istore (L' := [vR 138, vR o, vI lo, vI ((ishl 1 (t 6)) - 1), vI 0, vI 0]) (dat d_Pl_openHands 10 rfl) (by decide) rfl rfl ?_
  have hal : Msk 8 (ishl 1 (t 6) - 1) (fun p => decide (p < t 6)) := Msk.full (n := 8) (by decide) h8.1 (by omega)
  refine lp_Pl_shy ho hT hR h0 (fun sh hs => ?_) (t 6).toNat 0 0 (by omega) (by omega) ((Msk.zero 8).congr (fun p r0 r1 => by simp; omega))
  refine x_iconst (dat d_Pl_openHands 31 rfl) (by decide) ?_
  refine x_istore (L' := [vR 138, vR o, vI lo, vI (ishl 1 (t 6) - 1), vI sh, vI 0]) (dat d_Pl_openHands 32 rfl) (by decide) rfl rfl ?_
  refine lp_Pl_opn ho hT hR h0 hal hs (fun σ2 H2 hf2 => ?_) (t 6).toNat 0 σ (by omega) (by omega) (fun a a0 a1 => by omega) (fun a a0 a1 => by omega) (fun _ _ => rfl)
  refine x_iconst (dat d_Pl_openHands 56 rfl) (by decide) ?_
  refine x_istore (L' := [vR 138, vR o, vI lo, vI (ishl 1 (t 6) - 1), vI sh, vI 0]) (dat d_Pl_openHands 57 rfl) (by decide) rfl rfl ?_
  refine lp_Pl_qrl ho hT hR hlo (fun σ3 H3 hf3 => k σ3 H3 hf3) (t 7).toNat 0 σ2 (by omega) ?_ hf2
  refine fun a a0 a1 => ⟨(H2 a a0 a1).1, (H2 a a0 a1).2.1, fun b b0 b1 => ?_⟩
  rw [(H2 a a0 a1).2.2 b b0 b1]
  simp [qrN]
