/-! the twin: taking a town up, as it is -/
def MoA (σ : xS) (a : Int → Int) : Prop := (∀ i : Int, 0 ≤ i → i < 972 → σ 175 i = a i) ∧ ((0 ≤ a 0 ∧ a 0 ≤ 2) ∧ (0 ≤ a 1 ∧ a 1 ≤ 2) ∧ (0 ≤ a 2 ∧ a 2 ≤ 600)) ∧ (∀ n : Int, 0 ≤ n → n < a 0 → TownOk (tw a n)) ∧ ∀ n : Int, 0 ≤ n → n < a 1 → BookOk (bk a n)
/-- what a question may not change -/
def MoF (σ' σ : xS) : Prop := (∀ i : Int, i < 12 → σ' 174 i = σ 174 i) ∧ ∀ o : Nat, (o < 174 ∨ 197 < o) ∨ (175 ≤ o ∧ o ≤ 177) → σ' o = σ o
theorem MoF.trans {σ σ' σ'' : xS} (h : MoF σ' σ) (h2 : MoF σ'' σ') : MoF σ'' σ := ⟨fun i hi => by rw [h2.1 i hi]; exact h.1 i hi, fun o ho => by rw [h2.2 o ho]; exact h.2 o ho⟩
theorem MoF.rfl (σ : xS) : MoF σ σ := ⟨fun _ _ => Eq.refl _, fun _ _ => Eq.refl _⟩
theorem MoA.same {σ σ' : xS} {a : Int → Int} (h : MoA σ a) (F : MoF σ' σ) : MoA σ' a := ⟨fun i i0 i1 => by rw [F.2 175 (by decide)]; exact h.1 i i0 i1, h.2⟩
theorem MvF.mo {σ σ' : xS} (F : MvF σ' σ) : MoF σ' σ := ⟨fun i hi => F.1 i (by omega) (by omega) (by omega) (by omega) (by omega) (by omega), fun o ho => F.2 o (by omega)⟩
theorem MoF.put {σ σ' : xS} (F : MoF σ' σ) {i v : Int} (hi : 12 ≤ i) : MoF (up σ' 174 i v) σ := ⟨fun j hj => by rw [up_ni (by omega)]; exact F.1 j hj, fun o ho => by rw [up_ne (by omega)]; exact F.2 o ho⟩
/-- the settings of a town as it is -/
def Pln (s t : Int → Int) : Prop := ((s 13 = 0 ∧ s 14 = -1) ∧ (s 15 = t 2 ∧ s 16 = 0) ∧ (s 17 = -1 ∧ s 20 = -1) ∧ (s 24 = -1 ∧ s 27 = -1)) ∧ ((s 30 = t 4 ∧ s 31 = t 5) ∧ s 32 = -1) ∧ (s 36 = 0 ∧ s 52 = 0) ∧ (s 37 = 0 ∧ s 39 = 0)
theorem mC_cfg {s m w t : Int → Int} (h : Pln s t) (hm : ∀ p : Int, 0 ≤ p → p < 8 → m p = 0) : mC s m w t = cfg t := by
  obtain ⟨⟨⟨h13, h14⟩, ⟨h15, h16⟩, ⟨h17, h20⟩, h24, h27⟩, ⟨⟨h30, h31⟩, h32⟩, -⟩ := h
  unfold mC cfg
  refine Prod.ext (funext fun i => ?_) (Prod.ext (funext fun p => ?_) (Prod.ext rfl (Prod.ext (funext fun a => funext fun b => ?_) (Prod.ext (funext fun h => funext fun p => ?_) (funext fun p => ?_)))))
  · show (if i = 0 then t 6 else if i = 1 then t 3 else if i = 2 then s 15 else if i = 3 then s 30 else if i = 4 then s 31 else if i = 5 then (if s 24 = -1 then -1 else s 25) else if i = 6 then s 24 else if i = 7 then (if s 24 = -1 then 0 else s 26) else -1) = (if i = 0 then t 6 else if i = 1 then t 3 else if i = 2 then t 2 else if i = 3 then t 4 else if i = 4 then t 5 else if i = 7 then 0 else -1)
    rw [if_pos h24, if_pos h24, h15, h30, h31, h24]
    repeat' split
    all_goals first | rfl | omega
  · show (tb (s 13) p || decide (mnT t p = 3)) = decide (mnT t p = 3)
    rw [h13, show tb 0 p = false by unfold tb; simp, Bool.false_or]
  · show (!(decide (0 ≤ a ∧ a = s 14) || decide (0 ≤ b ∧ b = s 14)) && opT t (s 16) a b) = opT t 0 a b
    rw [h14, h16, decide_eq_false (show ¬ (0 ≤ a ∧ a = -1) by omega), decide_eq_false (show ¬ (0 ≤ b ∧ b = -1) by omega)]
    rfl
  · show (if 0 ≤ h ∧ (0 ≤ p ∨ h = s 27) then cellM s w t p h else cellT t (gasM s p) h) = cellT t p h
    by_cases z : 0 ≤ h ∧ (0 ≤ p ∨ h = s 27)
    · rw [if_pos z]
      unfold cellM gasM
      rw [if_neg (show ¬ h = s 27 by omega), if_neg (show ¬ (h = s 17 ∧ p = s 18) from fun y => by omega), if_neg (show ¬ (p = s 20 ∧ s 21 ≤ h ∧ h < s 21 + s 22) from fun y => by omega), if_pos h32]
    · rw [if_neg z]
      unfold gasM
      rw [if_pos h32]
  · show t (22 + 17 * p) + (if 0 ≤ p ∧ p < 8 then m p else 0) = t (22 + 17 * p)
    by_cases z : 0 ≤ p ∧ p < 8
    · rw [if_pos z, hm p z.1 z.2, Int.add_zero]
    · rw [if_neg z, Int.add_zero]
section
variable {g : xG} {K : Option MV → xS → Prop} {σ : xS} {t : Int → Int} {t0 : Int} {a : Int → Int} {n : Int}
theorem MoT.put (M : MoT σ t t0) {i v : Int} (hi : i ≠ 12) : MoT (up σ 174 i v) t t0 := M.same (up_ni hi) (up_ne (by decide))
theorem sp_Mo_isOf {w : Int} (A : MoA σ a) (hw : w = 0 ∨ w = 1) (kt : 0 ≤ n → n < a w → K (some (vI 1)) σ) (kf : ¬ (0 ≤ n ∧ n < a w) → K (some (vI 0)) σ) : Mt g y_Mo_isOf [vR 174, vI w, vI n] σ K := by
  have ew : σ 175 w = a w := A.1 w (by omega) (by omega)
  have hb : 0 ≤ a w ∧ a w ≤ 2 := by rcases hw with h | h <;> rw [h]; exact A.2.1.1; exact A.2.1.2.1
  refine x_enter 0 rfl rfl rfl (fun Z => ?_)
  show Wx g y_Mo_isOf Z K 0 [vR 174, vI w, vI n] [] σ
  refine x_iload_n (dat d_Mo_isOf 0 rfl) rfl rfl ?_
  refine x_iconst (dat d_Mo_isOf 1 rfl) (by decide) ?_
  refine x_aload_n (dat d_Mo_isOf 2 rfl) rfl rfl ?_
  refine x_getr (r := 175) (dat d_Mo_isOf 3 rfl) rfl f_Mo_7 (or_mk (by decide +kernel)) ?_
  refine x_iload_n (dat d_Mo_isOf 4 rfl) rfl rfl ?_
  refine x_iald (n := 3888) (v := a w) (dat d_Mo_isOf 5 rfl) (ai_mk (by decide +kernel)) (by omega) (by omega) (ew) ?_
  refine x_iconst (dat d_Mo_isOf 6 rfl) (by decide) ?_
  refine x_isub (v := (a w) - 1) (dat d_Mo_isOf 7 rfl) rfl (by omega) ?_
  refine x_invs (As := [vI n, vI 0, vI ((a w) - 1)]) (dat d_Mo_isOf 8 rfl) rfl c_Mo_isIn l_Mo_136 (by decide) rfl rfl (Nat.le_of_ble_eq_true rfl) ?_
  refine sp_Mo_isIn (fun h1 h2 => ?_) (fun h1 => ?_)
  · show Wx g y_Mo_isOf Z K 13 [vR 174, vI w, vI n] [vI 1] σ
    refine x_zret (dat d_Mo_isOf 9 rfl) rfl (by decide) ?_
    first
    | exact kt h1 (by omega)
    | exact kf (fun w => h1 (by omega))
  · show Wx g y_Mo_isOf Z K 13 [vR 174, vI w, vI n] [vI 0] σ
    refine x_zret (dat d_Mo_isOf 9 rfl) rfl (by decide) ?_
    first
    | exact kt h1 (by omega)
    | exact kf (fun w => h1 (by omega))
theorem sp_Mo_placeOf {w v : Int} (n0 : 0 ≤ n) (n1 : n < 2) (hw : (w = 0 ∧ v = 610 + 156 * n) ∨ (w = 1 ∧ v = 922 + 25 * n)) (k : K (some (vI v)) σ) : Mt g y_Mo_placeOf [vI w, vI n] σ K := by
  refine x_enter 0 rfl rfl rfl (fun Z => ?_)
  show Wx g y_Mo_placeOf Z K 0 [vI w, vI n] [] σ
  refine x_iload_n (dat d_Mo_placeOf 0 rfl) rfl rfl ?_
  refine x_if_ne (tgt := 16) (dat d_Mo_placeOf 1 rfl) (by decide) (fun c_1 => ?_) (fun c_1 => ?_)
  · refine x_sipush (dat d_Mo_placeOf 8 rfl) (by decide) (by decide) ?_
    refine x_bipush (dat d_Mo_placeOf 9 rfl) (by decide) (by decide) ?_
    refine x_iload_n (dat d_Mo_placeOf 10 rfl) rfl rfl ?_
    refine x_imul (v := 25 * n) (dat d_Mo_placeOf 11 rfl) (by omega) (by omega) ?_
    refine x_iadd (v := v) (dat d_Mo_placeOf 12 rfl) (by omega) (by omega) ?_
    refine x_iret (dat d_Mo_placeOf 13 rfl) rfl ?_
    exact k
  · refine x_sipush (dat d_Mo_placeOf 2 rfl) (by decide) (by decide) ?_
    refine x_sipush (dat d_Mo_placeOf 3 rfl) (by decide) (by decide) ?_
    refine x_iload_n (dat d_Mo_placeOf 4 rfl) rfl rfl ?_
    refine x_imul (v := 156 * n) (dat d_Mo_placeOf 5 rfl) (by omega) (by omega) ?_
    refine x_iadd (v := v) (dat d_Mo_placeOf 6 rfl) (by omega) (by omega) ?_
    refine x_goto (tgt := 24) (dat d_Mo_placeOf 7 rfl) (by decide) ?_
    refine x_iret (dat d_Mo_placeOf 13 rfl) rfl ?_
    exact k
theorem sp_Mo_plain (M : MoT σ t t0) (k : ∀ σ' : xS, Pln (σ' 174) t → (∀ p : Int, 0 ≤ p → p < 8 → σ' 179 p = 0) → (∀ i : Int, i < 13 → σ' 174 i = σ 174 i) → (∀ o : Nat, o ≠ 174 → o ≠ 179 → σ' o = σ o) → K none σ') : Mt g y_Mo_plain [vR 174] σ K := by
  have lp : ∀ (Z : xZ) (σb : xS), Pln (σb 174) t → (∀ i : Int, i < 13 → σb 174 i = σ 174 i) → (∀ o : Nat, o ≠ 174 → σb o = σ o) → ∀ (d m : Nat) (σ1 : xS), m + d = 8 → (∀ p : Int, 0 ≤ p → p < m → σ1 179 p = 0) → (∀ o : Nat, o ≠ 179 → σ1 o = σb o) → Wx g y_Mo_plain Z K 89 [vR 174, vI (m : Int)] [] σ1 := by
    intro Z σb b1 b2 b3 d
    induction d with
    | zero =>
      intro m σ1 hd h1 h2
      have e : m = 8 := by omega
      subst e
      refine x_iload_n (dat d_Mo_plain 53 rfl) rfl rfl ?_
      refine x_bipush (dat d_Mo_plain 54 rfl) (by decide) (by decide) ?_
      refine x_icmp_ge (tgt := 108) (dat d_Mo_plain 55 rfl) (by decide) (fun c_92 => ?_) (fun c_92 => (by omega))
      refine x_ret (dat d_Mo_plain 63 rfl) rfl ?_
      exact k σ1 (by rw [h2 174 (by decide)]; exact b1) (fun p p0 p1 => h1 p p0 (by omega)) (fun i hi => by rw [h2 174 (by decide)]; exact b2 i hi) (fun o o1 o2 => by rw [h2 o o2]; exact b3 o o1)
    | succ d ih =>
      intro m σ1 hd h1 h2
      refine x_iload_n (dat d_Mo_plain 53 rfl) rfl rfl ?_
      refine x_bipush (dat d_Mo_plain 54 rfl) (by decide) (by decide) ?_
      refine x_icmp_ge (tgt := 108) (dat d_Mo_plain 55 rfl) (by decide) (fun c_92 => (by omega)) (fun c_92 => ?_)
      refine x_aload_n (dat d_Mo_plain 56 rfl) rfl rfl ?_
      refine x_getr (r := 179) (dat d_Mo_plain 57 rfl) rfl f_Mo_23 (or_mk (by decide +kernel)) ?_
      refine x_iload_n (dat d_Mo_plain 58 rfl) rfl rfl ?_
      refine x_iconst (dat d_Mo_plain 59 rfl) (by decide) ?_
      refine x_iast (n := 8) (dat d_Mo_plain 60 rfl) (ai_mk (by decide +kernel)) (by omega) (by omega) ?_
      refine x_iinc (v' := ((m + 1 : Nat) : Int)) (L' := [vR 174, vI ((m + 1 : Nat) : Int)]) (dat d_Mo_plain 61 rfl) rfl (by decide) rfl (by omega) (by omega) rfl ?_
      refine x_goto (tgt := 89) (dat d_Mo_plain 62 rfl) (by decide) ?_
      refine ih (m + 1) _ (by omega) (fun p p0 p1 => ?_) (fun o o1 => by rw [up_ne o1]; exact h2 o o1)
      by_cases z : p = (m : Int)
      · rw [z, up_s]
      · rw [up_ni (Ne.symm z)]; exact h1 p p0 (by omega)
  refine x_enter 1 rfl rfl rfl (fun Z => ?_)
  show Wx g y_Mo_plain Z K 0 [vR 174, vU] [] σ
  refine x_aload_n (dat d_Mo_plain 0 rfl) rfl rfl ?_
  refine x_iconst (dat d_Mo_plain 1 rfl) (by decide) ?_
  refine x_puti (ji := 13) (x := (0)) (dat d_Mo_plain 2 rfl) rfl f_Mo_214w (oi_mk (by decide +kernel)) (fun h => absurd h (by decide)) (by decide) ?_
  refine x_aload_n (dat d_Mo_plain 3 rfl) rfl rfl ?_
  refine x_iconst (dat d_Mo_plain 4 rfl) (by decide) ?_
  refine x_puti (ji := 14) (x := ((-1))) (dat d_Mo_plain 5 rfl) rfl f_Mo_217w (oi_mk (by decide +kernel)) (fun h => absurd h (by decide)) (by decide) ?_
  refine x_aload_n (dat d_Mo_plain 6 rfl) rfl rfl ?_
  refine x_aload_n (dat d_Mo_plain 7 rfl) rfl rfl ?_
  refine x_iconst (dat d_Mo_plain 8 rfl) (by decide) ?_
  refine x_inv (As := [vI 2]) (dat d_Mo_plain 9 rfl) rfl c_Mo_of l_Mo_199 (by decide) (rv_mo (by decide +kernel)) rfl rfl (Nat.le_of_ble_eq_true rfl) ?_
  refine sp_Mo_of ((M.put (by decide)).put (by decide)) (by decide) (by decide) ?_
  show Wx g y_Mo_plain Z K 16 [vR 174, vU] [vI (t 2), vR 174] (up (up σ 174 13 0) 174 14 (-1))
  refine x_puti (ji := 15) (x := (t 2)) (dat d_Mo_plain 10 rfl) rfl f_Mo_220w (oi_mk (by decide +kernel)) (fun h => absurd h (by decide)) (by decide) ?_
  refine x_aload_n (dat d_Mo_plain 11 rfl) rfl rfl ?_
  refine x_iconst (dat d_Mo_plain 12 rfl) (by decide) ?_
  refine x_puti (ji := 16) (x := (0)) (dat d_Mo_plain 13 rfl) rfl f_Mo_223w (oi_mk (by decide +kernel)) (fun h => absurd h (by decide)) (by decide) ?_
  refine x_aload_n (dat d_Mo_plain 14 rfl) rfl rfl ?_
  refine x_iconst (dat d_Mo_plain 15 rfl) (by decide) ?_
  refine x_puti (ji := 17) (x := ((-1))) (dat d_Mo_plain 16 rfl) rfl f_Mo_226w (oi_mk (by decide +kernel)) (fun h => absurd h (by decide)) (by decide) ?_
  refine x_aload_n (dat d_Mo_plain 17 rfl) rfl rfl ?_
  refine x_iconst (dat d_Mo_plain 18 rfl) (by decide) ?_
  refine x_puti (ji := 20) (x := ((-1))) (dat d_Mo_plain 19 rfl) rfl f_Mo_229w (oi_mk (by decide +kernel)) (fun h => absurd h (by decide)) (by decide) ?_
  refine x_aload_n (dat d_Mo_plain 20 rfl) rfl rfl ?_
  refine x_iconst (dat d_Mo_plain 21 rfl) (by decide) ?_
  refine x_puti (ji := 24) (x := ((-1))) (dat d_Mo_plain 22 rfl) rfl f_Mo_232w (oi_mk (by decide +kernel)) (fun h => absurd h (by decide)) (by decide) ?_
  refine x_aload_n (dat d_Mo_plain 23 rfl) rfl rfl ?_
  refine x_iconst (dat d_Mo_plain 24 rfl) (by decide) ?_
  refine x_puti (ji := 27) (x := ((-1))) (dat d_Mo_plain 25 rfl) rfl f_Mo_235w (oi_mk (by decide +kernel)) (fun h => absurd h (by decide)) (by decide) ?_
  refine x_aload_n (dat d_Mo_plain 26 rfl) rfl rfl ?_
  refine x_aload_n (dat d_Mo_plain 27 rfl) rfl rfl ?_
  refine x_iconst (dat d_Mo_plain 28 rfl) (by decide) ?_
  refine x_inv (As := [vI 4]) (dat d_Mo_plain 29 rfl) rfl c_Mo_of l_Mo_199 (by decide) (rv_mo (by decide +kernel)) rfl rfl (Nat.le_of_ble_eq_true rfl) ?_
  refine sp_Mo_of ((((((((M.put (by decide)).put (by decide)).put (by decide)).put (by decide)).put (by decide)).put (by decide)).put (by decide)).put (by decide)) (by decide) (by decide) ?_
  show Wx g y_Mo_plain Z K 50 [vR 174, vU] [vI (t 4), vR 174] (up (up (up (up (up (up (up (up σ 174 13 0) 174 14 (-1)) 174 15 (t 2)) 174 16 0) 174 17 (-1)) 174 20 (-1)) 174 24 (-1)) 174 27 (-1))
  refine x_puti (ji := 30) (x := (t 4)) (dat d_Mo_plain 30 rfl) rfl f_Mo_238w (oi_mk (by decide +kernel)) (fun h => absurd h (by decide)) (by decide) ?_
  refine x_aload_n (dat d_Mo_plain 31 rfl) rfl rfl ?_
  refine x_aload_n (dat d_Mo_plain 32 rfl) rfl rfl ?_
  refine x_iconst (dat d_Mo_plain 33 rfl) (by decide) ?_
  refine x_inv (As := [vI 5]) (dat d_Mo_plain 34 rfl) rfl c_Mo_of l_Mo_199 (by decide) (rv_mo (by decide +kernel)) rfl rfl (Nat.le_of_ble_eq_true rfl) ?_
  refine sp_Mo_of (((((((((M.put (by decide)).put (by decide)).put (by decide)).put (by decide)).put (by decide)).put (by decide)).put (by decide)).put (by decide)).put (by decide)) (by decide) (by decide) ?_
  show Wx g y_Mo_plain Z K 59 [vR 174, vU] [vI (t 5), vR 174] (up (up (up (up (up (up (up (up (up σ 174 13 0) 174 14 (-1)) 174 15 (t 2)) 174 16 0) 174 17 (-1)) 174 20 (-1)) 174 24 (-1)) 174 27 (-1)) 174 30 (t 4))
  refine x_puti (ji := 31) (x := (t 5)) (dat d_Mo_plain 35 rfl) rfl f_Mo_241w (oi_mk (by decide +kernel)) (fun h => absurd h (by decide)) (by decide) ?_
  refine x_aload_n (dat d_Mo_plain 36 rfl) rfl rfl ?_
  refine x_iconst (dat d_Mo_plain 37 rfl) (by decide) ?_
  refine x_puti (ji := 32) (x := ((-1))) (dat d_Mo_plain 38 rfl) rfl f_Mo_244w (oi_mk (by decide +kernel)) (fun h => absurd h (by decide)) (by decide) ?_
  refine x_aload_n (dat d_Mo_plain 39 rfl) rfl rfl ?_
  refine x_iconst (dat d_Mo_plain 40 rfl) (by decide) ?_
  refine x_puti (ji := 36) (x := (0)) (dat d_Mo_plain 41 rfl) rfl f_Mo_247w (oi_mk (by decide +kernel)) (fun h => absurd h (by decide)) (by decide) ?_
  refine x_aload_n (dat d_Mo_plain 42 rfl) rfl rfl ?_
  refine x_iconst (dat d_Mo_plain 43 rfl) (by decide) ?_
  refine x_puti (ji := 52) (x := (0)) (dat d_Mo_plain 44 rfl) rfl f_Mo_250w (oi_mk (by decide +kernel)) (fun h => absurd h (by decide)) (by decide) ?_
  refine x_aload_n (dat d_Mo_plain 45 rfl) rfl rfl ?_
  refine x_iconst (dat d_Mo_plain 46 rfl) (by decide) ?_
  refine x_puti (ji := 37) (x := (0)) (dat d_Mo_plain 47 rfl) rfl f_Mo_253w (oi_mk (by decide +kernel)) (fun h => absurd h (by decide)) (by decide) ?_
  refine x_aload_n (dat d_Mo_plain 48 rfl) rfl rfl ?_
  refine x_iconst (dat d_Mo_plain 49 rfl) (by decide) ?_
  refine x_puti (ji := 39) (x := (0)) (dat d_Mo_plain 50 rfl) rfl f_Mo_256w (oi_mk (by decide +kernel)) (fun _ => by decide) (by decide) ?_
  refine x_iconst (dat d_Mo_plain 51 rfl) (by decide) ?_
  refine x_istore_n (L' := [vR 174, vI 0]) (dat d_Mo_plain 52 rfl) rfl (by decide) rfl rfl ?_
  refine lp Z (up (up (up (up (up (up (up (up (up (up (up (up (up (up (up σ 174 13 0) 174 14 (-1)) 174 15 (t 2)) 174 16 0) 174 17 (-1)) 174 20 (-1)) 174 24 (-1)) 174 27 (-1)) 174 30 (t 4)) 174 31 (t 5)) 174 32 (-1)) 174 36 0) 174 52 0) 174 37 0) 174 39 0) ?_ (fun i hi => ?_) (fun o ho => ?_) 8 0 _ (by omega) (fun p p0 p1 => by omega) (fun _ _ => rfl)
  · refine ⟨⟨⟨?_, ?_⟩, ⟨?_, ?_⟩, ⟨?_, ?_⟩, ?_, ?_⟩, ⟨⟨?_, ?_⟩, ?_⟩, ⟨?_, ?_⟩, ?_, ?_⟩
    all_goals (repeat rw [up_ni (by decide)])
    all_goals rw [up_s]
  · repeat rw [up_ni (by omega)]
  · repeat rw [up_ne ho]
theorem sp_Mo_isTown (A : MoA σ a) (kt : ∀ (σ' : xS) (t0 : Int), 0 ≤ n → n < a 0 → MoC σ' (tw a n) t0 (cfg (tw a n)) → Pln (σ' 174) (tw a n) → (∀ p : Int, 0 ≤ p → p < 8 → σ' 179 p = 0) → MoA σ' a → MoF σ' σ → K (some (vI 1)) σ') (kf : ¬ (0 ≤ n ∧ n < a 0) → K (some (vI 0)) σ) : Mt g y_Mo_isTown [vR 174, vI n] σ K := by
  have hb := A.2.1.1
  refine x_enter 0 rfl rfl rfl (fun Z => ?_)
  show Wx g y_Mo_isTown Z K 0 [vR 174, vI n] [] σ
  refine x_aload_n (dat d_Mo_isTown 0 rfl) rfl rfl ?_
  refine x_iconst (dat d_Mo_isTown 1 rfl) (by decide) ?_
  refine x_iload_n (dat d_Mo_isTown 2 rfl) rfl rfl ?_
  refine x_inv (As := [vI 0, vI n]) (dat d_Mo_isTown 3 rfl) rfl c_Mo_isOf l_Mo_180 (by decide) (rv_mo (by decide +kernel)) rfl rfl (Nat.le_of_ble_eq_true rfl) ?_
  refine sp_Mo_isOf A (Or.inl rfl) (fun n0 n1 => ?_) (fun n01 => ?_)
  · show Wx g y_Mo_isTown Z K 6 [vR 174, vI n] [vI 1] σ
    refine x_if_ne (tgt := 11) (dat d_Mo_isTown 4 rfl) (by decide) (fun c_6 => ?_) (fun h => absurd h (by decide))
    refine x_aload_n (dat d_Mo_isTown 7 rfl) rfl rfl ?_
    refine x_iconst (dat d_Mo_isTown 8 rfl) (by decide) ?_
    refine x_iload_n (dat d_Mo_isTown 9 rfl) rfl rfl ?_
    refine x_invs (As := [vI 0, vI n]) (dat d_Mo_isTown 10 rfl) rfl c_Mo_placeOf l_Mo_190 (by decide) rfl rfl (Nat.le_of_ble_eq_true rfl) ?_
    refine sp_Mo_placeOf n0 (by omega) (Or.inl ⟨rfl, rfl⟩) ?_
    show Wx g y_Mo_isTown Z K 17 [vR 174, vI n] [vI (610 + 156 * n), vR 174] σ
    refine x_puti (ji := 12) (x := (610 + 156 * n)) (dat d_Mo_isTown 11 rfl) rfl f_Mo_193w (oi_mk (by decide +kernel)) (fun h => absurd h (by decide)) (by decide) ?_
    refine x_aload_n (dat d_Mo_isTown 12 rfl) rfl rfl ?_
    refine x_inv (As := []) (dat d_Mo_isTown 13 rfl) rfl c_Mo_plain l_Mo_196 (by decide) (rv_mo (by decide +kernel)) rfl rfl (Nat.le_of_ble_eq_true rfl) ?_
    refine sp_Mo_plain (t := tw a n) (t0 := 610 + 156 * n) ⟨up_s, by omega, fun i i0 i1 => by rw [up_ne (by decide), A.1 _ (by omega) (by omega), tw_at i0 i1]⟩ (fun σ1 p1 p2 p3 p4 => ?_)
    show Wx g y_Mo_isTown Z K 24 [vR 174, vI n] [] σ1
    refine x_iconst (dat d_Mo_isTown 14 rfl) (by decide) ?_
    refine x_zret (dat d_Mo_isTown 15 rfl) rfl (by decide) ?_
    first
    | (have hT := A.2.2.1 n n0 n1
       have F1 : MoF σ1 σ := ⟨fun i hi => by rw [p3 i (by omega), up_ni (by omega)], fun o ho => by rw [p4 o (by omega) (by omega), up_ne (by omega)]⟩
       have A1 := A.same F1
       have g1 := p1.1
       have g2 := p1.2.1
       refine kt σ1 (610 + 156 * n) n0 n1 ⟨⟨⟨by rw [p3 12 (by decide), up_s], by omega, fun i i0 i1 => by rw [A1.1 _ (by omega) (by omega), tw_at i0 i1]⟩, hT⟩, ⟨(mC_cfg p1 p2).symm, cfg_ok hT⟩, ⟨Or.inl g1.2.2.1.2, Or.inl g2.2⟩, by rw [g1.1.1]; decide, by rw [g1.2.1.2]; decide⟩ p1 p2 A1 F1)
    | exact kf n01
  · show Wx g y_Mo_isTown Z K 6 [vR 174, vI n] [vI 0] σ
    refine x_if_ne (tgt := 11) (dat d_Mo_isTown 4 rfl) (by decide) (fun h => absurd h (by decide)) (fun c_6 => ?_)
    refine x_iconst (dat d_Mo_isTown 5 rfl) (by decide) ?_
    refine x_zret (dat d_Mo_isTown 6 rfl) rfl (by decide) ?_
    first
    | (have hT := A.2.2.1 n n0 n1
       have F1 : MoF σ1 σ := ⟨fun i hi => by rw [p3 i (by omega), up_ni (by omega)], fun o ho => by rw [p4 o (by omega) (by omega), up_ne (by omega)]⟩
       have A1 := A.same F1
       have g1 := p1.1
       have g2 := p1.2.1
       refine kt σ1 (610 + 156 * n) n0 n1 ⟨⟨⟨by rw [p3 12 (by decide), up_s], by omega, fun i i0 i1 => by rw [A1.1 _ (by omega) (by omega), tw_at i0 i1]⟩, hT⟩, ⟨(mC_cfg p1 p2).symm, cfg_ok hT⟩, ⟨Or.inl g1.2.2.1.2, Or.inl g2.2⟩, by rw [g1.1.1]; decide, by rw [g1.2.1.2]; decide⟩ p1 p2 A1 F1)
    | exact kf n01
end
