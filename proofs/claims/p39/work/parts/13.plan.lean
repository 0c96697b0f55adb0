/-! the plan and a run's log, as the heap has them -/
def Mss (P : Int) (m : Int) (f : Int → Bool) : Prop := 0 ≤ m ∧ m < 256 ∧ ∀ p : Int, 0 ≤ p → p < P → tb m p = f p
theorem Mss.get {P m : Int} {f : Int → Bool} (h : Mss P m f) {p : Int} (h0 : 0 ≤ p) (h1 : p < P) (h8 : P ≤ 8) : iand (ishr m p) 1 = if f p = true then 1 else 0 := by
  rw [tb_get h.1 (by have := h.2.1; omega) h0 (by omega), h.2.2 p h0 h1]
def PlanR (σ : xS) (C : Cf) : Prop :=
  σ 138 0 = cS C 0 ∧ σ 138 1 = cS C 1 ∧ σ 138 2 = cS C 2 ∧ σ 138 3 = cS C 3 ∧ σ 138 4 = cS C 4 ∧ Mss (cS C 0) (σ 138 5) (cGl C) ∧ σ 138 6 = cS C 5 ∧ σ 138 7 = cS C 6 ∧ σ 138 8 = cS C 7 ∧
  (∀ p : Int, 0 ≤ p → p < cS C 0 → σ 139 p = cSt C p) ∧ (∀ a b : Int, 0 ≤ a → a < b → b < cS C 0 → decide (σ 140 b ≤ σ 140 a) = cGr C a b) ∧
  (∀ a : Int, 0 ≤ a → a < cS C 0 → 0 ≤ σ 141 a ∧ σ 141 a < 256 ∧ ∀ b : Int, a < b → b < cS C 0 → tb (σ 141 a) b = cOp C a b) ∧ (∀ h p : Int, 0 ≤ h → h < cS C 1 → 0 ≤ p → p < cS C 0 → σ 142 (8 * h + p) = cWh C h p)
theorem PlanR.same {σ σ' : xS} {C : Cf} (h : PlanR σ C) (e : ∀ o : Nat, 138 ≤ o → o ≤ 142 → σ' o = σ o) : PlanR σ' C := by
  unfold PlanR at h ⊢
  rw [e 138 (by decide) (by decide), e 139 (by decide) (by decide), e 140 (by decide) (by decide), e 141 (by decide) (by decide), e 142 (by decide) (by decide)]
  exact h
theorem lp_Pl_giver {g : xG} {Z : xZ} {K : Option MV → xS → Prop} {σ : xS} {C : Cf} {bd : Int → Int} {a b x : Int} (hC : CfOk C) (hp : PlanR σ C) (ha : 0 ≤ a) (hab : a < b) (hb : b < cS C 0) (hx : gv0 C bd a b = x) (hxx : x = a ∨ x = b) {w6 : MV} (k : K (some (vI (gvr C bd a b))) σ) :
    Wx g y_Pl_giver Z K 106 [vR 138, vI a, vI b, vI (bd a), vI (bd b), vI x, w6] [] σ := by
  have h8 := hC.2.1
  have hgl := hp.2.2.2.2.2.1.get (p := x) (by omega) (by omega) h8
  have e0 : gvr C bd a b = if bd x < 1 then -1 else if cGl C x = true then -1 else x := by
    unfold gvr
    rw [hx, if_neg (by omega)]
  rcases hxx with e | e
  · rw [e] at hx hgl e0
    rw [e]
    refine x_iload (dat d_Pl_giver 56 rfl) rfl ?_
    refine x_iload_n (dat d_Pl_giver 57 rfl) rfl rfl ?_
    refine x_icmp_ne (tgt := 116) (dat d_Pl_giver 58 rfl) (by decide) (fun c_109 => (by omega)) (fun c_109 => ?_)
    refine x_iload_n (dat d_Pl_giver 59 rfl) rfl rfl ?_
    refine x_goto (tgt := 118) (dat d_Pl_giver 60 rfl) (by decide) ?_
    refine x_iconst (dat d_Pl_giver 62 rfl) (by decide) ?_
    refine x_icmp_ge (tgt := 126) (dat d_Pl_giver 63 rfl) (by decide) (fun c_119 => ?_) (fun c_119 => ?_)
    · refine x_iconst (dat d_Pl_giver 66 rfl) (by decide) ?_
      refine x_istore (L' := [vR 138, vI a, vI b, vI (bd a), vI (bd b), vI a, vI 0]) (dat d_Pl_giver 67 rfl) (by decide) rfl rfl ?_
      refine x_iload (dat d_Pl_giver 68 rfl) rfl ?_
      refine x_if_ne (tgt := 146) (dat d_Pl_giver 69 rfl) (by decide) (fun h => absurd h (by decide)) (fun c_131 => ?_)
      refine x_aload_n (dat d_Pl_giver 70 rfl) rfl rfl ?_
      refine x_geti (ji := 5) (v := σ 138 5) (dat d_Pl_giver 71 rfl) rfl f_Pl_53 (oi_mk (by decide +kernel)) rfl ?_
      refine x_iload (dat d_Pl_giver 72 rfl) rfl ?_
      refine x_ishr (v := ishr (σ 138 5) a) (dat d_Pl_giver 73 rfl) rfl ?_
      refine x_iconst (dat d_Pl_giver 74 rfl) (by decide) ?_
      refine x_iand (v := if cGl C a = true then 1 else 0) (dat d_Pl_giver 75 rfl) (by exact hgl) ?_
      refine x_if_eq (tgt := 150) (dat d_Pl_giver 76 rfl) (by decide) (fun c_143 => ?_) (fun c_143 => ?_)
      · refine x_iload (dat d_Pl_giver 79 rfl) rfl ?_
        refine x_iret (dat d_Pl_giver 80 rfl) rfl ?_
        first
        | (rw [e0, if_pos (by omega)] at k; exact k)
        | (rw [e0, if_neg (by omega)] at k
           by_cases hg : cGl C a = true
           · rw [if_pos hg] at k c_143
             first | exact k | omega
           · rw [if_neg hg] at k c_143
             first | exact k | omega)
      · refine x_iconst (dat d_Pl_giver 77 rfl) (by decide) ?_
        refine x_goto (tgt := 152) (dat d_Pl_giver 78 rfl) (by decide) ?_
        refine x_iret (dat d_Pl_giver 80 rfl) rfl ?_
        first
        | (rw [e0, if_pos (by omega)] at k; exact k)
        | (rw [e0, if_neg (by omega)] at k
           by_cases hg : cGl C a = true
           · rw [if_pos hg] at k c_143
             first | exact k | omega
           · rw [if_neg hg] at k c_143
             first | exact k | omega)
    · refine x_iconst (dat d_Pl_giver 64 rfl) (by decide) ?_
      refine x_goto (tgt := 127) (dat d_Pl_giver 65 rfl) (by decide) ?_
      refine x_istore (L' := [vR 138, vI a, vI b, vI (bd a), vI (bd b), vI a, vI 1]) (dat d_Pl_giver 67 rfl) (by decide) rfl rfl ?_
      refine x_iload (dat d_Pl_giver 68 rfl) rfl ?_
      refine x_if_ne (tgt := 146) (dat d_Pl_giver 69 rfl) (by decide) (fun c_131 => ?_) (fun h => absurd h (by decide))
      refine x_iconst (dat d_Pl_giver 77 rfl) (by decide) ?_
      refine x_goto (tgt := 152) (dat d_Pl_giver 78 rfl) (by decide) ?_
      refine x_iret (dat d_Pl_giver 80 rfl) rfl ?_
      first
      | (rw [e0, if_pos (by omega)] at k; exact k)
      | (rw [e0, if_neg (by omega)] at k
         by_cases hg : cGl C a = true
         · rw [if_pos hg] at k c_143
           first | exact k | omega
         · rw [if_neg hg] at k c_143
           first | exact k | omega)
  · rw [e] at hx hgl e0
    rw [e]
    refine x_iload (dat d_Pl_giver 56 rfl) rfl ?_
    refine x_iload_n (dat d_Pl_giver 57 rfl) rfl rfl ?_
    refine x_icmp_ne (tgt := 116) (dat d_Pl_giver 58 rfl) (by decide) (fun c_109 => ?_) (fun c_109 => (by omega))
    refine x_iload (dat d_Pl_giver 61 rfl) rfl ?_
    refine x_iconst (dat d_Pl_giver 62 rfl) (by decide) ?_
    refine x_icmp_ge (tgt := 126) (dat d_Pl_giver 63 rfl) (by decide) (fun c_119 => ?_) (fun c_119 => ?_)
    · refine x_iconst (dat d_Pl_giver 66 rfl) (by decide) ?_
      refine x_istore (L' := [vR 138, vI a, vI b, vI (bd a), vI (bd b), vI b, vI 0]) (dat d_Pl_giver 67 rfl) (by decide) rfl rfl ?_
      refine x_iload (dat d_Pl_giver 68 rfl) rfl ?_
      refine x_if_ne (tgt := 146) (dat d_Pl_giver 69 rfl) (by decide) (fun h => absurd h (by decide)) (fun c_131 => ?_)
      refine x_aload_n (dat d_Pl_giver 70 rfl) rfl rfl ?_
      refine x_geti (ji := 5) (v := σ 138 5) (dat d_Pl_giver 71 rfl) rfl f_Pl_53 (oi_mk (by decide +kernel)) rfl ?_
      refine x_iload (dat d_Pl_giver 72 rfl) rfl ?_
      refine x_ishr (v := ishr (σ 138 5) b) (dat d_Pl_giver 73 rfl) rfl ?_
      refine x_iconst (dat d_Pl_giver 74 rfl) (by decide) ?_
      refine x_iand (v := if cGl C b = true then 1 else 0) (dat d_Pl_giver 75 rfl) (by exact hgl) ?_
      refine x_if_eq (tgt := 150) (dat d_Pl_giver 76 rfl) (by decide) (fun c_143 => ?_) (fun c_143 => ?_)
      · refine x_iload (dat d_Pl_giver 79 rfl) rfl ?_
        refine x_iret (dat d_Pl_giver 80 rfl) rfl ?_
        first
        | (rw [e0, if_pos (by omega)] at k; exact k)
        | (rw [e0, if_neg (by omega)] at k
           by_cases hg : cGl C b = true
           · rw [if_pos hg] at k c_143
             first | exact k | omega
           · rw [if_neg hg] at k c_143
             first | exact k | omega)
      · refine x_iconst (dat d_Pl_giver 77 rfl) (by decide) ?_
        refine x_goto (tgt := 152) (dat d_Pl_giver 78 rfl) (by decide) ?_
        refine x_iret (dat d_Pl_giver 80 rfl) rfl ?_
        first
        | (rw [e0, if_pos (by omega)] at k; exact k)
        | (rw [e0, if_neg (by omega)] at k
           by_cases hg : cGl C b = true
           · rw [if_pos hg] at k c_143
             first | exact k | omega
           · rw [if_neg hg] at k c_143
             first | exact k | omega)
    · refine x_iconst (dat d_Pl_giver 64 rfl) (by decide) ?_
      refine x_goto (tgt := 127) (dat d_Pl_giver 65 rfl) (by decide) ?_
      refine x_istore (L' := [vR 138, vI a, vI b, vI (bd a), vI (bd b), vI b, vI 1]) (dat d_Pl_giver 67 rfl) (by decide) rfl rfl ?_
      refine x_iload (dat d_Pl_giver 68 rfl) rfl ?_
      refine x_if_ne (tgt := 146) (dat d_Pl_giver 69 rfl) (by decide) (fun c_131 => ?_) (fun h => absurd h (by decide))
      refine x_iconst (dat d_Pl_giver 77 rfl) (by decide) ?_
      refine x_goto (tgt := 152) (dat d_Pl_giver 78 rfl) (by decide) ?_
      refine x_iret (dat d_Pl_giver 80 rfl) rfl ?_
      first
      | (rw [e0, if_pos (by omega)] at k; exact k)
      | (rw [e0, if_neg (by omega)] at k
         by_cases hg : cGl C b = true
         · rw [if_pos hg] at k c_143
           first | exact k | omega
         · rw [if_neg hg] at k c_143
           first | exact k | omega)
theorem sp_Pl_giver {g : xG} {K : Option MV → xS → Prop} {σ : xS} {C : Cf} {bd : Int → Int} {a b : Int} (hC : CfOk C) (hp : PlanR σ C) (ha : 0 ≤ a) (hab : a < b) (hb : b < cS C 0) (k : K (some (vI (gvr C bd a b))) σ) :
    Mt g y_Pl_giver [vR 138, vI a, vI b, vI (bd a), vI (bd b)] σ K := by
  have h2 := hp.2.2.1
  have hl := hC.2.2.2.2.2.2.2.2.1
  have hl2 := hC.2.2.2.2.2.2.2.2.2.1
  have h8 := hC.2.1
  have hrk := hp.2.2.2.2.2.2.2.2.2.2.1 a b ha hab hb
  refine x_enter 2 rfl rfl rfl (fun Z => ?_)
  show Wx g y_Pl_giver Z K 0 [vR 138, vI a, vI b, vI (bd a), vI (bd b), vU, vU] [] σ
  refine x_aload_n (dat d_Pl_giver 0 rfl) rfl rfl ?_
  refine x_geti (ji := 2) (v := cS C 2) (dat d_Pl_giver 1 rfl) rfl f_Pl_44 (oi_mk (by decide +kernel)) (h2) ?_
  refine x_if_eq (tgt := 15) (dat d_Pl_giver 2 rfl) (by decide) (fun c_4 => ?_) (fun c_4 => ?_)
  · refine x_iload_n (dat d_Pl_giver 7 rfl) rfl rfl ?_
    refine x_iload (dat d_Pl_giver 8 rfl) rfl ?_
    refine x_icmp_ne (tgt := 23) (dat d_Pl_giver 9 rfl) (by decide) (fun c_18 => ?_) (fun c_18 => ?_)
    · refine x_iload_n (dat d_Pl_giver 12 rfl) rfl rfl ?_
      refine x_iload (dat d_Pl_giver 13 rfl) rfl ?_
      refine x_icmp_le (tgt := 33) (dat d_Pl_giver 14 rfl) (by decide) (fun c_26 => ?_) (fun c_26 => ?_)
      · refine x_iconst (dat d_Pl_giver 17 rfl) (by decide) ?_
        refine x_aload_n (dat d_Pl_giver 18 rfl) rfl rfl ?_
        refine x_geti (ji := 2) (v := cS C 2) (dat d_Pl_giver 19 rfl) rfl f_Pl_44 (oi_mk (by decide +kernel)) (h2) ?_
        refine x_if_ne (tgt := 45) (dat d_Pl_giver 20 rfl) (by decide) (fun c_38 => ?_) (fun c_38 => ?_)
        · refine x_iconst (dat d_Pl_giver 23 rfl) (by decide) ?_
          refine x_icmp_ne (tgt := 53) (dat d_Pl_giver 24 rfl) (by decide) (fun h => absurd h (by decide)) (fun c_46 => ?_)
          refine x_iload_n (dat d_Pl_giver 25 rfl) rfl rfl ?_
          refine x_goto (tgt := 54) (dat d_Pl_giver 26 rfl) (by decide) ?_
          refine x_istore (L' := [vR 138, vI a, vI b, vI (bd a), vI (bd b), vI a, vU]) (dat d_Pl_giver 28 rfl) (by decide) rfl rfl ?_
          refine x_goto (tgt := 106) (dat d_Pl_giver 29 rfl) (by decide) ?_
          refine lp_Pl_giver (x := a) hC hp ha hab hb ?_ (by first | exact Or.inl rfl | exact Or.inr rfl) k
          unfold gv0
          first
            | (rw [if_pos (by omega), if_neg (by omega)]
               by_cases q1 : bd b < bd a <;> by_cases q2 : cS C 2 = 0 <;> simp [q1, q2] <;> omega)
            | (rw [if_neg (by omega), ← hrk]
               by_cases q1 : σ 140 b ≤ σ 140 a <;> by_cases q2 : cS C 2 = 1 <;> simp [q1, q2] <;> omega)
        · refine x_iconst (dat d_Pl_giver 21 rfl) (by decide) ?_
          refine x_goto (tgt := 46) (dat d_Pl_giver 22 rfl) (by decide) ?_
          refine x_icmp_ne (tgt := 53) (dat d_Pl_giver 24 rfl) (by decide) (fun c_46 => ?_) (fun h => absurd h (by decide))
          refine x_iload_n (dat d_Pl_giver 27 rfl) rfl rfl ?_
          refine x_istore (L' := [vR 138, vI a, vI b, vI (bd a), vI (bd b), vI b, vU]) (dat d_Pl_giver 28 rfl) (by decide) rfl rfl ?_
          refine x_goto (tgt := 106) (dat d_Pl_giver 29 rfl) (by decide) ?_
          refine lp_Pl_giver (x := b) hC hp ha hab hb ?_ (by first | exact Or.inl rfl | exact Or.inr rfl) k
          unfold gv0
          first
            | (rw [if_pos (by omega), if_neg (by omega)]
               by_cases q1 : bd b < bd a <;> by_cases q2 : cS C 2 = 0 <;> simp [q1, q2] <;> omega)
            | (rw [if_neg (by omega), ← hrk]
               by_cases q1 : σ 140 b ≤ σ 140 a <;> by_cases q2 : cS C 2 = 1 <;> simp [q1, q2] <;> omega)
      · refine x_iconst (dat d_Pl_giver 15 rfl) (by decide) ?_
        refine x_goto (tgt := 34) (dat d_Pl_giver 16 rfl) (by decide) ?_
        refine x_aload_n (dat d_Pl_giver 18 rfl) rfl rfl ?_
        refine x_geti (ji := 2) (v := cS C 2) (dat d_Pl_giver 19 rfl) rfl f_Pl_44 (oi_mk (by decide +kernel)) (h2) ?_
        refine x_if_ne (tgt := 45) (dat d_Pl_giver 20 rfl) (by decide) (fun c_38 => ?_) (fun c_38 => ?_)
        · refine x_iconst (dat d_Pl_giver 23 rfl) (by decide) ?_
          refine x_icmp_ne (tgt := 53) (dat d_Pl_giver 24 rfl) (by decide) (fun c_46 => ?_) (fun h => absurd h (by decide))
          refine x_iload_n (dat d_Pl_giver 27 rfl) rfl rfl ?_
          refine x_istore (L' := [vR 138, vI a, vI b, vI (bd a), vI (bd b), vI b, vU]) (dat d_Pl_giver 28 rfl) (by decide) rfl rfl ?_
          refine x_goto (tgt := 106) (dat d_Pl_giver 29 rfl) (by decide) ?_
          refine lp_Pl_giver (x := b) hC hp ha hab hb ?_ (by first | exact Or.inl rfl | exact Or.inr rfl) k
          unfold gv0
          first
            | (rw [if_pos (by omega), if_neg (by omega)]
               by_cases q1 : bd b < bd a <;> by_cases q2 : cS C 2 = 0 <;> simp [q1, q2] <;> omega)
            | (rw [if_neg (by omega), ← hrk]
               by_cases q1 : σ 140 b ≤ σ 140 a <;> by_cases q2 : cS C 2 = 1 <;> simp [q1, q2] <;> omega)
        · refine x_iconst (dat d_Pl_giver 21 rfl) (by decide) ?_
          refine x_goto (tgt := 46) (dat d_Pl_giver 22 rfl) (by decide) ?_
          refine x_icmp_ne (tgt := 53) (dat d_Pl_giver 24 rfl) (by decide) (fun h => absurd h (by decide)) (fun c_46 => ?_)
          refine x_iload_n (dat d_Pl_giver 25 rfl) rfl rfl ?_
          refine x_goto (tgt := 54) (dat d_Pl_giver 26 rfl) (by decide) ?_
          refine x_istore (L' := [vR 138, vI a, vI b, vI (bd a), vI (bd b), vI a, vU]) (dat d_Pl_giver 28 rfl) (by decide) rfl rfl ?_
          refine x_goto (tgt := 106) (dat d_Pl_giver 29 rfl) (by decide) ?_
          refine lp_Pl_giver (x := a) hC hp ha hab hb ?_ (by first | exact Or.inl rfl | exact Or.inr rfl) k
          unfold gv0
          first
            | (rw [if_pos (by omega), if_neg (by omega)]
               by_cases q1 : bd b < bd a <;> by_cases q2 : cS C 2 = 0 <;> simp [q1, q2] <;> omega)
            | (rw [if_neg (by omega), ← hrk]
               by_cases q1 : σ 140 b ≤ σ 140 a <;> by_cases q2 : cS C 2 = 1 <;> simp [q1, q2] <;> omega)
    · refine x_iconst (dat d_Pl_giver 10 rfl) (by decide) ?_
      refine x_iret (dat d_Pl_giver 11 rfl) rfl ?_
      have e : gvr C bd a b = -1 := by
        have e0 : gv0 C bd a b = -1 := by
          unfold gv0
          rw [if_pos (by omega), if_pos (by omega)]
        unfold gvr
        rw [if_pos e0]
      rw [e] at k
      exact k
  · refine x_aload_n (dat d_Pl_giver 3 rfl) rfl rfl ?_
    refine x_geti (ji := 2) (v := cS C 2) (dat d_Pl_giver 4 rfl) rfl f_Pl_44 (oi_mk (by decide +kernel)) (h2) ?_
    refine x_iconst (dat d_Pl_giver 5 rfl) (by decide) ?_
    refine x_icmp_ne (tgt := 59) (dat d_Pl_giver 6 rfl) (by decide) (fun c_12 => ?_) (fun c_12 => ?_)
    · refine x_aload_n (dat d_Pl_giver 30 rfl) rfl rfl ?_
      refine x_getr (r := 140) (dat d_Pl_giver 31 rfl) rfl f_Pl_15 (or_mk (by decide +kernel)) ?_
      refine x_iload_n (dat d_Pl_giver 32 rfl) rfl rfl ?_
      refine x_iald (n := 8) (v := σ 140 a) (dat d_Pl_giver 33 rfl) (ai_mk (by decide +kernel)) (by omega) (by omega) rfl ?_
      refine x_aload_n (dat d_Pl_giver 34 rfl) rfl rfl ?_
      refine x_getr (r := 140) (dat d_Pl_giver 35 rfl) rfl f_Pl_15 (or_mk (by decide +kernel)) ?_
      refine x_iload_n (dat d_Pl_giver 36 rfl) rfl rfl ?_
      refine x_iald (n := 8) (v := σ 140 b) (dat d_Pl_giver 37 rfl) (ai_mk (by decide +kernel)) (by omega) (by omega) rfl ?_
      refine x_icmp_lt (tgt := 78) (dat d_Pl_giver 38 rfl) (by decide) (fun c_71 => ?_) (fun c_71 => ?_)
      · refine x_iconst (dat d_Pl_giver 41 rfl) (by decide) ?_
        refine x_istore (L' := [vR 138, vI a, vI b, vI (bd a), vI (bd b), vU, vI 0]) (dat d_Pl_giver 42 rfl) (by decide) rfl rfl ?_
        refine x_iload (dat d_Pl_giver 43 rfl) rfl ?_
        refine x_aload_n (dat d_Pl_giver 44 rfl) rfl rfl ?_
        refine x_geti (ji := 2) (v := cS C 2) (dat d_Pl_giver 45 rfl) rfl f_Pl_44 (oi_mk (by decide +kernel)) (h2) ?_
        refine x_iconst (dat d_Pl_giver 46 rfl) (by decide) ?_
        refine x_icmp_ne (tgt := 95) (dat d_Pl_giver 47 rfl) (by decide) (fun c_88 => ?_) (fun c_88 => ?_)
        · refine x_iconst (dat d_Pl_giver 50 rfl) (by decide) ?_
          refine x_icmp_ne (tgt := 103) (dat d_Pl_giver 51 rfl) (by decide) (fun h => absurd h (by decide)) (fun c_96 => ?_)
          refine x_iload_n (dat d_Pl_giver 52 rfl) rfl rfl ?_
          refine x_goto (tgt := 104) (dat d_Pl_giver 53 rfl) (by decide) ?_
          refine x_istore (L' := [vR 138, vI a, vI b, vI (bd a), vI (bd b), vI a, vI 0]) (dat d_Pl_giver 55 rfl) (by decide) rfl rfl ?_
          refine lp_Pl_giver (x := a) hC hp ha hab hb ?_ (by first | exact Or.inl rfl | exact Or.inr rfl) k
          unfold gv0
          first
            | (rw [if_pos (by omega), if_neg (by omega)]
               by_cases q1 : bd b < bd a <;> by_cases q2 : cS C 2 = 0 <;> simp [q1, q2] <;> omega)
            | (rw [if_neg (by omega), ← hrk]
               by_cases q1 : σ 140 b ≤ σ 140 a <;> by_cases q2 : cS C 2 = 1 <;> simp [q1, q2] <;> omega)
        · refine x_iconst (dat d_Pl_giver 48 rfl) (by decide) ?_
          refine x_goto (tgt := 96) (dat d_Pl_giver 49 rfl) (by decide) ?_
          refine x_icmp_ne (tgt := 103) (dat d_Pl_giver 51 rfl) (by decide) (fun c_96 => ?_) (fun h => absurd h (by decide))
          refine x_iload_n (dat d_Pl_giver 54 rfl) rfl rfl ?_
          refine x_istore (L' := [vR 138, vI a, vI b, vI (bd a), vI (bd b), vI b, vI 0]) (dat d_Pl_giver 55 rfl) (by decide) rfl rfl ?_
          refine lp_Pl_giver (x := b) hC hp ha hab hb ?_ (by first | exact Or.inl rfl | exact Or.inr rfl) k
          unfold gv0
          first
            | (rw [if_pos (by omega), if_neg (by omega)]
               by_cases q1 : bd b < bd a <;> by_cases q2 : cS C 2 = 0 <;> simp [q1, q2] <;> omega)
            | (rw [if_neg (by omega), ← hrk]
               by_cases q1 : σ 140 b ≤ σ 140 a <;> by_cases q2 : cS C 2 = 1 <;> simp [q1, q2] <;> omega)
      · refine x_iconst (dat d_Pl_giver 39 rfl) (by decide) ?_
        refine x_goto (tgt := 79) (dat d_Pl_giver 40 rfl) (by decide) ?_
        refine x_istore (L' := [vR 138, vI a, vI b, vI (bd a), vI (bd b), vU, vI 1]) (dat d_Pl_giver 42 rfl) (by decide) rfl rfl ?_
        refine x_iload (dat d_Pl_giver 43 rfl) rfl ?_
        refine x_aload_n (dat d_Pl_giver 44 rfl) rfl rfl ?_
        refine x_geti (ji := 2) (v := cS C 2) (dat d_Pl_giver 45 rfl) rfl f_Pl_44 (oi_mk (by decide +kernel)) (h2) ?_
        refine x_iconst (dat d_Pl_giver 46 rfl) (by decide) ?_
        refine x_icmp_ne (tgt := 95) (dat d_Pl_giver 47 rfl) (by decide) (fun c_88 => ?_) (fun c_88 => ?_)
        · refine x_iconst (dat d_Pl_giver 50 rfl) (by decide) ?_
          refine x_icmp_ne (tgt := 103) (dat d_Pl_giver 51 rfl) (by decide) (fun c_96 => ?_) (fun h => absurd h (by decide))
          refine x_iload_n (dat d_Pl_giver 54 rfl) rfl rfl ?_
          refine x_istore (L' := [vR 138, vI a, vI b, vI (bd a), vI (bd b), vI b, vI 1]) (dat d_Pl_giver 55 rfl) (by decide) rfl rfl ?_
          refine lp_Pl_giver (x := b) hC hp ha hab hb ?_ (by first | exact Or.inl rfl | exact Or.inr rfl) k
          unfold gv0
          first
            | (rw [if_pos (by omega), if_neg (by omega)]
               by_cases q1 : bd b < bd a <;> by_cases q2 : cS C 2 = 0 <;> simp [q1, q2] <;> omega)
            | (rw [if_neg (by omega), ← hrk]
               by_cases q1 : σ 140 b ≤ σ 140 a <;> by_cases q2 : cS C 2 = 1 <;> simp [q1, q2] <;> omega)
        · refine x_iconst (dat d_Pl_giver 48 rfl) (by decide) ?_
          refine x_goto (tgt := 96) (dat d_Pl_giver 49 rfl) (by decide) ?_
          refine x_icmp_ne (tgt := 103) (dat d_Pl_giver 51 rfl) (by decide) (fun h => absurd h (by decide)) (fun c_96 => ?_)
          refine x_iload_n (dat d_Pl_giver 52 rfl) rfl rfl ?_
          refine x_goto (tgt := 104) (dat d_Pl_giver 53 rfl) (by decide) ?_
          refine x_istore (L' := [vR 138, vI a, vI b, vI (bd a), vI (bd b), vI a, vI 1]) (dat d_Pl_giver 55 rfl) (by decide) rfl rfl ?_
          refine lp_Pl_giver (x := a) hC hp ha hab hb ?_ (by first | exact Or.inl rfl | exact Or.inr rfl) k
          unfold gv0
          first
            | (rw [if_pos (by omega), if_neg (by omega)]
               by_cases q1 : bd b < bd a <;> by_cases q2 : cS C 2 = 0 <;> simp [q1, q2] <;> omega)
            | (rw [if_neg (by omega), ← hrk]
               by_cases q1 : σ 140 b ≤ σ 140 a <;> by_cases q2 : cS C 2 = 1 <;> simp [q1, q2] <;> omega)
    · refine x_iload_n (dat d_Pl_giver 7 rfl) rfl rfl ?_
      refine x_iload (dat d_Pl_giver 8 rfl) rfl ?_
      refine x_icmp_ne (tgt := 23) (dat d_Pl_giver 9 rfl) (by decide) (fun c_18 => ?_) (fun c_18 => ?_)
      · refine x_iload_n (dat d_Pl_giver 12 rfl) rfl rfl ?_
        refine x_iload (dat d_Pl_giver 13 rfl) rfl ?_
        refine x_icmp_le (tgt := 33) (dat d_Pl_giver 14 rfl) (by decide) (fun c_26 => ?_) (fun c_26 => ?_)
        · refine x_iconst (dat d_Pl_giver 17 rfl) (by decide) ?_
          refine x_aload_n (dat d_Pl_giver 18 rfl) rfl rfl ?_
          refine x_geti (ji := 2) (v := cS C 2) (dat d_Pl_giver 19 rfl) rfl f_Pl_44 (oi_mk (by decide +kernel)) (h2) ?_
          refine x_if_ne (tgt := 45) (dat d_Pl_giver 20 rfl) (by decide) (fun c_38 => ?_) (fun c_38 => ?_)
          · refine x_iconst (dat d_Pl_giver 23 rfl) (by decide) ?_
            refine x_icmp_ne (tgt := 53) (dat d_Pl_giver 24 rfl) (by decide) (fun h => absurd h (by decide)) (fun c_46 => ?_)
            refine x_iload_n (dat d_Pl_giver 25 rfl) rfl rfl ?_
            refine x_goto (tgt := 54) (dat d_Pl_giver 26 rfl) (by decide) ?_
            refine x_istore (L' := [vR 138, vI a, vI b, vI (bd a), vI (bd b), vI a, vU]) (dat d_Pl_giver 28 rfl) (by decide) rfl rfl ?_
            refine x_goto (tgt := 106) (dat d_Pl_giver 29 rfl) (by decide) ?_
            refine lp_Pl_giver (x := a) hC hp ha hab hb ?_ (by first | exact Or.inl rfl | exact Or.inr rfl) k
            unfold gv0
            first
              | (rw [if_pos (by omega), if_neg (by omega)]
                 by_cases q1 : bd b < bd a <;> by_cases q2 : cS C 2 = 0 <;> simp [q1, q2] <;> omega)
              | (rw [if_neg (by omega), ← hrk]
                 by_cases q1 : σ 140 b ≤ σ 140 a <;> by_cases q2 : cS C 2 = 1 <;> simp [q1, q2] <;> omega)
          · refine x_iconst (dat d_Pl_giver 21 rfl) (by decide) ?_
            refine x_goto (tgt := 46) (dat d_Pl_giver 22 rfl) (by decide) ?_
            refine x_icmp_ne (tgt := 53) (dat d_Pl_giver 24 rfl) (by decide) (fun c_46 => ?_) (fun h => absurd h (by decide))
            refine x_iload_n (dat d_Pl_giver 27 rfl) rfl rfl ?_
            refine x_istore (L' := [vR 138, vI a, vI b, vI (bd a), vI (bd b), vI b, vU]) (dat d_Pl_giver 28 rfl) (by decide) rfl rfl ?_
            refine x_goto (tgt := 106) (dat d_Pl_giver 29 rfl) (by decide) ?_
            refine lp_Pl_giver (x := b) hC hp ha hab hb ?_ (by first | exact Or.inl rfl | exact Or.inr rfl) k
            unfold gv0
            first
              | (rw [if_pos (by omega), if_neg (by omega)]
                 by_cases q1 : bd b < bd a <;> by_cases q2 : cS C 2 = 0 <;> simp [q1, q2] <;> omega)
              | (rw [if_neg (by omega), ← hrk]
                 by_cases q1 : σ 140 b ≤ σ 140 a <;> by_cases q2 : cS C 2 = 1 <;> simp [q1, q2] <;> omega)
        · refine x_iconst (dat d_Pl_giver 15 rfl) (by decide) ?_
          refine x_goto (tgt := 34) (dat d_Pl_giver 16 rfl) (by decide) ?_
          refine x_aload_n (dat d_Pl_giver 18 rfl) rfl rfl ?_
          refine x_geti (ji := 2) (v := cS C 2) (dat d_Pl_giver 19 rfl) rfl f_Pl_44 (oi_mk (by decide +kernel)) (h2) ?_
          refine x_if_ne (tgt := 45) (dat d_Pl_giver 20 rfl) (by decide) (fun c_38 => ?_) (fun c_38 => ?_)
          · refine x_iconst (dat d_Pl_giver 23 rfl) (by decide) ?_
            refine x_icmp_ne (tgt := 53) (dat d_Pl_giver 24 rfl) (by decide) (fun c_46 => ?_) (fun h => absurd h (by decide))
            refine x_iload_n (dat d_Pl_giver 27 rfl) rfl rfl ?_
            refine x_istore (L' := [vR 138, vI a, vI b, vI (bd a), vI (bd b), vI b, vU]) (dat d_Pl_giver 28 rfl) (by decide) rfl rfl ?_
            refine x_goto (tgt := 106) (dat d_Pl_giver 29 rfl) (by decide) ?_
            refine lp_Pl_giver (x := b) hC hp ha hab hb ?_ (by first | exact Or.inl rfl | exact Or.inr rfl) k
            unfold gv0
            first
              | (rw [if_pos (by omega), if_neg (by omega)]
                 by_cases q1 : bd b < bd a <;> by_cases q2 : cS C 2 = 0 <;> simp [q1, q2] <;> omega)
              | (rw [if_neg (by omega), ← hrk]
                 by_cases q1 : σ 140 b ≤ σ 140 a <;> by_cases q2 : cS C 2 = 1 <;> simp [q1, q2] <;> omega)
          · refine x_iconst (dat d_Pl_giver 21 rfl) (by decide) ?_
            refine x_goto (tgt := 46) (dat d_Pl_giver 22 rfl) (by decide) ?_
            refine x_icmp_ne (tgt := 53) (dat d_Pl_giver 24 rfl) (by decide) (fun h => absurd h (by decide)) (fun c_46 => ?_)
            refine x_iload_n (dat d_Pl_giver 25 rfl) rfl rfl ?_
            refine x_goto (tgt := 54) (dat d_Pl_giver 26 rfl) (by decide) ?_
            refine x_istore (L' := [vR 138, vI a, vI b, vI (bd a), vI (bd b), vI a, vU]) (dat d_Pl_giver 28 rfl) (by decide) rfl rfl ?_
            refine x_goto (tgt := 106) (dat d_Pl_giver 29 rfl) (by decide) ?_
            refine lp_Pl_giver (x := a) hC hp ha hab hb ?_ (by first | exact Or.inl rfl | exact Or.inr rfl) k
            unfold gv0
            first
              | (rw [if_pos (by omega), if_neg (by omega)]
                 by_cases q1 : bd b < bd a <;> by_cases q2 : cS C 2 = 0 <;> simp [q1, q2] <;> omega)
              | (rw [if_neg (by omega), ← hrk]
                 by_cases q1 : σ 140 b ≤ σ 140 a <;> by_cases q2 : cS C 2 = 1 <;> simp [q1, q2] <;> omega)
      · refine x_iconst (dat d_Pl_giver 10 rfl) (by decide) ?_
        refine x_iret (dat d_Pl_giver 11 rfl) rfl ?_
        have e : gvr C bd a b = -1 := by
          have e0 : gv0 C bd a b = -1 := by
            unfold gv0
            rw [if_pos (by omega), if_pos (by omega)]
          unfold gvr
          rw [if_pos e0]
        rw [e] at k
        exact k
