/-! lay: a town's plan -/
def PlanF (σ' σ : xS) : Prop := ∀ o : Nat, (o < 138 ∨ 142 < o) → σ' o = σ o
/-- the first i people are laid out; of the next one the first j hours -/
def LayI (σ0 σ : xS) (t : Int → Int) (i : Int) : Prop :=
  (∀ q : Int, 0 ≤ q → q < i → σ 139 q = t (22 + 17 * q) ∧ σ 140 q = rkT (mnT t q) ∧ ∀ h : Int, 0 ≤ h → h < t 3 → σ 142 (8 * h + q) = cellT t q h) ∧
  Msk 8 (σ 138 5) (fun q => decide (q < i) && decide (mnT t q = 3)) ∧ (∀ j : Int, j ≠ 5 → σ 138 j = σ0 138 j) ∧ (∀ o : Nat, (o < 138 ∨ 142 < o) → σ o = σ0 o)
theorem lp_Pl_layh {g : xG} {Z : xZ} {K : Option MV → xS → Prop} {σ0 : xS} {o : Nat} {t : Int → Int} {p : Int} (ho : IsTw o) (hT : TownOk t) (hR : TownR σ0 o t) (h1 : σ0 138 1 = t 3) (p0 : 0 ≤ p) (p1 : p < t 6)
    (k : ∀ σ : xS, (∀ h : Int, 0 ≤ h → h < t 3 → σ 142 (8 * h + p) = cellT t p h) → (∀ h q : Int, 0 ≤ h → 0 ≤ q → q < p → σ 142 (8 * h + q) = σ0 142 (8 * h + q)) → (∀ j : Nat, j ≠ 142 → σ j = σ0 j) → Wx g y_Pl_lay Z K 182 [vR 138, vR o, vI p, vI (t 3)] [] σ) : ∀ (n : Nat) (i : Int) (σ : xS), 0 ≤ i → i + n = t 3 → (∀ h : Int, 0 ≤ h → h < i → σ 142 (8 * h + p) = cellT t p h) → (∀ h q : Int, 0 ≤ h → 0 ≤ q → q < p → σ 142 (8 * h + q) = σ0 142 (8 * h + q)) → (∀ j : Nat, j ≠ 142 → σ j = σ0 j) → Wx g y_Pl_lay Z K 151 [vR 138, vR o, vI p, vI i] [] σ := by
  have h8 := hT.2.2.2.2.2.2.1.2
  have h24 := hT.2.2.2.1.2
  have cs := tw_cs ho
  intro n
  induction n with
  | zero =>
    intro i σ q0 q1 H1 H2 hf
    have e : i = t 3 := by omega
    subst e
    have e1 : σ 138 1 = t 3 := by rw [hf 138 (by decide)]; exact h1
    refine x_iload_n (dat d_Pl_lay 87 rfl) rfl rfl ?_
    refine x_aload_n (dat d_Pl_lay 88 rfl) rfl rfl ?_
    refine x_geti (ji := 1) (v := t 3) (dat d_Pl_lay 89 rfl) rfl f_Pl_40 (oi_mk (by decide +kernel)) (e1) ?_
    refine x_icmp_ge (tgt := 182) (dat d_Pl_lay 90 rfl) (by decide) (fun c_156 => ?_) (fun c_156 => (by omega))
    exact k _ H1 H2 hf
  | succ n ih =>
    intro i σ q0 q1 H1 H2 hf
    have e1 : σ 138 1 = t 3 := by rw [hf 138 (by decide)]; exact h1
    have hR2 : TownR σ o t := hR.same (fun j r0 r1 => hf j (by omega))
    refine x_iload_n (dat d_Pl_lay 87 rfl) rfl rfl ?_
    refine x_aload_n (dat d_Pl_lay 88 rfl) rfl rfl ?_
    refine x_geti (ji := 1) (v := t 3) (dat d_Pl_lay 89 rfl) rfl f_Pl_40 (oi_mk (by decide +kernel)) (e1) ?_
    refine x_icmp_ge (tgt := 182) (dat d_Pl_lay 90 rfl) (by decide) (fun c_156 => (by omega)) (fun c_156 => ?_)
    refine x_aload_n (dat d_Pl_lay 91 rfl) rfl rfl ?_
    refine x_getr (r := 142) (dat d_Pl_lay 92 rfl) rfl f_Pl_21 (or_mk (by decide +kernel)) ?_
    refine x_iload_n (dat d_Pl_lay 93 rfl) rfl rfl ?_
    refine x_bipush (dat d_Pl_lay 94 rfl) (by decide) (by decide) ?_
    refine x_imul (v := 8 * i) (dat d_Pl_lay 95 rfl) (by omega) (by omega) ?_
    refine x_iload_n (dat d_Pl_lay 96 rfl) rfl rfl ?_
    refine x_iadd (v := (8 * i) + p) (dat d_Pl_lay 97 rfl) rfl (by omega) ?_
    refine x_aload_n (dat d_Pl_lay 98 rfl) rfl rfl ?_
    refine x_iload_n (dat d_Pl_lay 99 rfl) rfl rfl ?_
    refine x_iload_n (dat d_Pl_lay 100 rfl) rfl rfl ?_
    refine x_inv (As := [vI p, vI i]) (dat d_Pl_lay 101 rfl) rfl c_Tw_cellAt l_Pl_71 (by decide) (rv_tw (tw_k ho)) rfl rfl (Nat.le_of_ble_eq_true rfl) ?_
    refine sp_Tw_cellAt ho hT hR2 p0 p1 q0 (by omega) ?_
    show Wx g y_Pl_lay Z K 175 [vR 138, vR o, vI p, vI i] [vI (cellT t p i), vI ((8 * i) + p), vR 142] σ
    refine x_iast (n := 192) (dat d_Pl_lay 102 rfl) (ai_mk (by decide +kernel)) (by omega) (by omega) ?_
    refine x_iinc (v' := i + 1) (L' := [vR 138, vR o, vI p, vI (i + 1)]) (dat d_Pl_lay 103 rfl) rfl (by decide) rfl rfl (by omega) rfl ?_
    refine x_goto (tgt := 151) (dat d_Pl_lay 104 rfl) (by decide) ?_
    refine ih (i + 1) _ (by omega) (by omega) (fun h r0 r1 => ?_) (fun h q r0 r1 r2 => ?_) (fun j hj => by rw [up_ne hj]; exact hf j hj)
    · by_cases e : h = i
      · subst e
        rw [up_s]
      · rw [up_ni (by omega)]
        exact H1 h r0 (by omega)
    · rw [up_ni (by omega)]
      exact H2 h q r0 r1 r2
theorem lp_Pl_layp {g : xG} {Z : xZ} {K : Option MV → xS → Prop} {σ0 : xS} {o : Nat} {t : Int → Int} (ho : IsTw o) (hT : TownOk t) (hR : TownR σ0 o t) (h0 : σ0 138 0 = t 6) (h1 : σ0 138 1 = t 3)
    (k : ∀ (σ : xS) (w : MV), LayI σ0 σ t (t 6) → Wx g y_Pl_lay Z K 188 [vR 138, vR o, vI (t 6), w] [] σ) : ∀ (n : Nat) (i : Int) (σ : xS) (w : MV), 0 ≤ i → i + n = t 6 → LayI σ0 σ t i → Wx g y_Pl_lay Z K 72 [vR 138, vR o, vI i, w] [] σ := by
  have h8 := hT.2.2.2.2.2.2.1.2
  have cs := tw_cs ho
  intro n
  induction n with
  | zero =>
    intro i σ w q0 q1 H
    have e : i = t 6 := by omega
    subst e
    have e0 : σ 138 0 = t 6 := by rw [H.2.2.1 0 (by decide)]; exact h0
    refine x_iload_n (dat d_Pl_lay 38 rfl) rfl rfl ?_
    refine x_aload_n (dat d_Pl_lay 39 rfl) rfl rfl ?_
    refine x_geti (ji := 0) (v := t 6) (dat d_Pl_lay 40 rfl) rfl f_Pl_36 (oi_mk (by decide +kernel)) (e0) ?_
    refine x_icmp_ge (tgt := 188) (dat d_Pl_lay 41 rfl) (by decide) (fun c_77 => ?_) (fun c_77 => (by omega))
    exact k _ _ H
  | succ n ih =>
    intro i σ w q0 q1 H
    have e0 : σ 138 0 = t 6 := by rw [H.2.2.1 0 (by decide)]; exact h0
    have e1 : σ 138 1 = t 3 := by rw [H.2.2.1 1 (by decide)]; exact h1
    have hf := H.2.2.2
    obtain ⟨s1, -, s3, -⟩ := hR.2.1 i q0 (by omega)
    have r1 : σ (o + 1) i = mnT t i := by rw [hf (o + 1) (by omega)]; exact s1
    have r3 : σ (o + 3) i = t (22 + 17 * i) := by rw [hf (o + 3) (by omega)]; exact s3
    have hR2 : TownR σ o t := hR.same (fun j r0 r1 => hf j (by omega))
    have nx : ∀ (m : Int), Msk 8 m (fun q => decide (q < i + 1) && decide (mnT t q = 3)) → ∀ σ2 : xS, σ2 139 = up σ 139 i (t (22 + 17 * i)) 139 → σ2 140 = up σ 140 i (rkT (mnT t i)) 140 → σ2 142 = σ 142 → σ2 138 5 = m → (∀ j : Int, j ≠ 5 → σ2 138 j = σ 138 j) → (∀ j : Nat, j < 138 ∨ 142 < j → σ2 j = σ j) → Wx g y_Pl_lay Z K 151 [vR 138, vR o, vI i, vI 0] [] σ2 := by
      intro m hm σ2 g1 g2 g3 g4 g5 g6
      have hR3 : TownR σ2 o t := hR2.same (fun j r0 r1 => g6 j (by omega))
      refine lp_Pl_layh ho hT hR3 (by rw [g5 1 (by decide)]; exact e1) q0 (by omega) (fun σ3 H3 H4 hf3 => ?_) (t 3).toNat 0 σ2 (by omega) (by have := hT.2.2.2.1.1; omega) (fun h r0 r1 => by omega) (fun _ _ _ _ _ => rfl) (fun _ _ => rfl)
      refine x_iinc (v' := i + 1) (L' := [vR 138, vR o, vI (i + 1), vI (t 3)]) (dat d_Pl_lay 105 rfl) rfl (by decide) rfl rfl (by omega) rfl ?_
      refine x_goto (tgt := 72) (dat d_Pl_lay 106 rfl) (by decide) ?_
      refine ih (i + 1) σ3 _ (by omega) (by omega) ⟨fun q r0 r1 => ⟨?_, ?_, fun h u0 u1 => ?_⟩, ?_, fun j hj => by rw [hf3 138 (by decide), g5 j hj]; exact H.2.2.1 j hj, fun j hj => by rw [hf3 j (by omega), g6 j hj]; exact hf j hj⟩
      · rw [hf3 139 (by decide), g1]
        by_cases e : q = i
        · rw [e, up_s]
        · rw [up_ni (fun z => e z.symm)]
          exact (H.1 q r0 (by omega)).1
      · rw [hf3 140 (by decide), g2]
        by_cases e : q = i
        · rw [e, up_s]
        · rw [up_ni (fun z => e z.symm)]
          exact (H.1 q r0 (by omega)).2.1
      · by_cases e : q = i
        · rw [e]
          exact H3 h u0 u1
        · rw [H4 h q u0 r0 (by omega), g3]
          exact (H.1 q r0 (by omega)).2.2 h u0 u1
      · rw [hf3 138 (by decide), g4]
        exact hm
    refine x_iload_n (dat d_Pl_lay 38 rfl) rfl rfl ?_
    refine x_aload_n (dat d_Pl_lay 39 rfl) rfl rfl ?_
    refine x_geti (ji := 0) (v := t 6) (dat d_Pl_lay 40 rfl) rfl f_Pl_36 (oi_mk (by decide +kernel)) (e0) ?_
    refine x_icmp_ge (tgt := 188) (dat d_Pl_lay 41 rfl) (by decide) (fun c_77 => (by omega)) (fun c_77 => ?_)
    refine x_aload_n (dat d_Pl_lay 42 rfl) rfl rfl ?_
    refine x_getr (r := 139) (dat d_Pl_lay 43 rfl) rfl f_Pl_9 (or_mk (by decide +kernel)) ?_
    refine x_iload_n (dat d_Pl_lay 44 rfl) rfl rfl ?_
    refine x_aload_n (dat d_Pl_lay 45 rfl) rfl rfl ?_
    refine x_getr (r := o + 3) (dat d_Pl_lay 46 rfl) rfl f_Pl_65 (tw_or_10 ho) ?_
    refine x_iload_n (dat d_Pl_lay 47 rfl) rfl rfl ?_
    refine x_iald (n := 8) (v := t (22 + 17 * i)) (dat d_Pl_lay 48 rfl) (tw_ai_3 ho) (by omega) (by omega) (r3) ?_
    refine x_iast (n := 8) (dat d_Pl_lay 49 rfl) (ai_mk (by decide +kernel)) (by omega) (by omega) ?_
    refine x_aload_n (dat d_Pl_lay 50 rfl) rfl rfl ?_
    refine x_getr (r := 140) (dat d_Pl_lay 51 rfl) rfl f_Pl_15 (or_mk (by decide +kernel)) ?_
    refine x_iload_n (dat d_Pl_lay 52 rfl) rfl rfl ?_
    refine x_aload_n (dat d_Pl_lay 53 rfl) rfl rfl ?_
    refine x_getr (r := o + 1) (dat d_Pl_lay 54 rfl) rfl f_Pl_68 (tw_or_8 ho) ?_
    refine x_iload_n (dat d_Pl_lay 55 rfl) rfl rfl ?_
    refine x_iald (n := 8) (v := mnT t i) (dat d_Pl_lay 56 rfl) (tw_ai_1 ho) (by omega) (by omega) ((up_nk (by have := tw_cs ho; omega)).trans r1) ?_
    refine x_iconst (dat d_Pl_lay 57 rfl) (by decide) ?_
    refine x_icmp_ne (tgt := 111) (dat d_Pl_lay 58 rfl) (by decide) (fun c_104 => ?_) (fun c_104 => ?_)
    · refine x_aload_n (dat d_Pl_lay 61 rfl) rfl rfl ?_
      refine x_getr (r := o + 1) (dat d_Pl_lay 62 rfl) rfl f_Pl_68 (tw_or_8 ho) ?_
      refine x_iload_n (dat d_Pl_lay 63 rfl) rfl rfl ?_
      refine x_iald (n := 8) (v := mnT t i) (dat d_Pl_lay 64 rfl) (tw_ai_1 ho) (by omega) (by omega) ((up_nk (by have := tw_cs ho; omega)).trans r1) ?_
      refine x_iconst (dat d_Pl_lay 65 rfl) (by decide) ?_
      refine x_icmp_ne (tgt := 125) (dat d_Pl_lay 66 rfl) (by decide) (fun c_118 => ?_) (fun c_118 => ?_)
      · refine x_iconst (dat d_Pl_lay 69 rfl) (by decide) ?_
        refine x_iast (n := 8) (dat d_Pl_lay 70 rfl) (ai_mk (by decide +kernel)) (by omega) (by omega) ?_
        refine x_aload_n (dat d_Pl_lay 71 rfl) rfl rfl ?_
        refine x_getr (r := o + 1) (dat d_Pl_lay 72 rfl) rfl f_Pl_68 (tw_or_8 ho) ?_
        refine x_iload_n (dat d_Pl_lay 73 rfl) rfl rfl ?_
        refine x_iald (n := 8) (v := mnT t i) (dat d_Pl_lay 74 rfl) (tw_ai_1 ho) (by omega) (by omega) ((up_nk (by have := tw_cs ho; omega)).trans ((up_nk (by have := tw_cs ho; omega)).trans r1)) ?_
        refine x_iconst (dat d_Pl_lay 75 rfl) (by decide) ?_
        refine x_icmp_ne (tgt := 149) (dat d_Pl_lay 76 rfl) (by decide) (fun c_134 => ?_) (fun c_134 => ?_)
        · refine x_iconst (dat d_Pl_lay 85 rfl) (by decide) ?_
          refine x_istore_n (L' := [vR 138, vR o, vI i, vI 0]) (dat d_Pl_lay 86 rfl) rfl (by decide) rfl rfl ?_
          first
          | (refine nx _ ((H.2.1.lor (by decide) (Msk.one (n := 8) (by decide) q0 (by omega))).congr (fun p u0 u1 => ?_)) _ ?_ ?_ ?_ (by rw [up_s]) (fun j hj => ?_) (fun j hj => ?_)
             · by_cases e : p = i
               · subst e
                 have : p < p + 1 := by omega
                 simp [c_134, this]
               · by_cases e2 : p < i
                 · have : p < i + 1 := by omega
                   simp [e, e2, this]
                 · have : ¬ p < i + 1 := by omega
                   simp [e, e2, this]
             · rw [up_ne (by decide), up_ne (by decide)]
             · rw [up_ne (by decide)]
               funext j
               unfold up rkT
               first | omega | (by_cases e : j = i <;> simp [e, c_104]; done) | (by_cases e : j = i <;> simp [e, c_104, c_118])
             · rw [up_ne (by decide), up_ne (by decide), up_ne (by decide)]
             · rw [up_ni (fun z => hj z.symm), up_nk (by decide), up_nk (by decide)]
             · rw [up_ne (by omega), up_ne (by omega), up_ne (by omega)])
          | (refine nx _ (H.2.1.congr (fun p u0 u1 => ?_)) _ ?_ ?_ ?_ (by rw [up_nk (by decide), up_nk (by decide)]) (fun j hj => ?_) (fun j hj => ?_)
             · by_cases e : p = i
               · subst e
                 simp [c_134]
               · by_cases e2 : p < i
                 · have : p < i + 1 := by omega
                   simp [e2, this]
                 · have : ¬ p < i + 1 := by omega
                   simp [e2, this]
             · rw [up_ne (by decide)]
             · funext j
               unfold up rkT
               first | omega | (by_cases e : j = i <;> simp [e, c_104]; done) | (by_cases e : j = i <;> simp [e, c_104, c_118])
             · rw [up_ne (by decide), up_ne (by decide)]
             · rw [up_nk (by decide), up_nk (by decide)]
             · rw [up_ne (by omega), up_ne (by omega)])
        · refine x_aload_n (dat d_Pl_lay 77 rfl) rfl rfl ?_
          refine x_dup (dat d_Pl_lay 78 rfl) rfl ?_
          refine x_geti (ji := 5) (v := σ 138 5) (dat d_Pl_lay 79 rfl) rfl f_Pl_53 (oi_mk (by decide +kernel)) ((up_nk (by decide)).trans (up_nk (by decide))) ?_
          refine x_iconst (dat d_Pl_lay 80 rfl) (by decide) ?_
          refine x_iload_n (dat d_Pl_lay 81 rfl) rfl rfl ?_
          refine x_ishl (v := ishl 1 i) (dat d_Pl_lay 82 rfl) rfl ?_
          refine x_ior (v := ior (σ 138 5) (ishl 1 i)) (dat d_Pl_lay 83 rfl) rfl ?_
          refine x_puti (ji := 5) (x := ior (σ 138 5) (ishl 1 i)) (dat d_Pl_lay 84 rfl) rfl f_Pl_53w (oi_mk (by decide +kernel)) (fun h => absurd h (by decide)) (by decide) ?_
          refine x_iconst (dat d_Pl_lay 85 rfl) (by decide) ?_
          refine x_istore_n (L' := [vR 138, vR o, vI i, vI 0]) (dat d_Pl_lay 86 rfl) rfl (by decide) rfl rfl ?_
          first
          | (refine nx _ ((H.2.1.lor (by decide) (Msk.one (n := 8) (by decide) q0 (by omega))).congr (fun p u0 u1 => ?_)) _ ?_ ?_ ?_ (by rw [up_s]) (fun j hj => ?_) (fun j hj => ?_)
             · by_cases e : p = i
               · subst e
                 have : p < p + 1 := by omega
                 simp [c_134, this]
               · by_cases e2 : p < i
                 · have : p < i + 1 := by omega
                   simp [e, e2, this]
                 · have : ¬ p < i + 1 := by omega
                   simp [e, e2, this]
             · rw [up_ne (by decide), up_ne (by decide)]
             · rw [up_ne (by decide)]
               funext j
               unfold up rkT
               first | omega | (by_cases e : j = i <;> simp [e, c_104]; done) | (by_cases e : j = i <;> simp [e, c_104, c_118])
             · rw [up_ne (by decide), up_ne (by decide), up_ne (by decide)]
             · rw [up_ni (fun z => hj z.symm), up_nk (by decide), up_nk (by decide)]
             · rw [up_ne (by omega), up_ne (by omega), up_ne (by omega)])
          | (refine nx _ (H.2.1.congr (fun p u0 u1 => ?_)) _ ?_ ?_ ?_ (by rw [up_nk (by decide), up_nk (by decide)]) (fun j hj => ?_) (fun j hj => ?_)
             · by_cases e : p = i
               · subst e
                 simp [c_134]
               · by_cases e2 : p < i
                 · have : p < i + 1 := by omega
                   simp [e2, this]
                 · have : ¬ p < i + 1 := by omega
                   simp [e2, this]
             · rw [up_ne (by decide)]
             · funext j
               unfold up rkT
               first | omega | (by_cases e : j = i <;> simp [e, c_104]; done) | (by_cases e : j = i <;> simp [e, c_104, c_118])
             · rw [up_ne (by decide), up_ne (by decide)]
             · rw [up_nk (by decide), up_nk (by decide)]
             · rw [up_ne (by omega), up_ne (by omega)])
      · refine x_iconst (dat d_Pl_lay 67 rfl) (by decide) ?_
        refine x_goto (tgt := 126) (dat d_Pl_lay 68 rfl) (by decide) ?_
        refine x_iast (n := 8) (dat d_Pl_lay 70 rfl) (ai_mk (by decide +kernel)) (by omega) (by omega) ?_
        refine x_aload_n (dat d_Pl_lay 71 rfl) rfl rfl ?_
        refine x_getr (r := o + 1) (dat d_Pl_lay 72 rfl) rfl f_Pl_68 (tw_or_8 ho) ?_
        refine x_iload_n (dat d_Pl_lay 73 rfl) rfl rfl ?_
        refine x_iald (n := 8) (v := mnT t i) (dat d_Pl_lay 74 rfl) (tw_ai_1 ho) (by omega) (by omega) ((up_nk (by have := tw_cs ho; omega)).trans ((up_nk (by have := tw_cs ho; omega)).trans r1)) ?_
        refine x_iconst (dat d_Pl_lay 75 rfl) (by decide) ?_
        refine x_icmp_ne (tgt := 149) (dat d_Pl_lay 76 rfl) (by decide) (fun c_134 => ?_) (fun c_134 => ?_)
        · refine x_iconst (dat d_Pl_lay 85 rfl) (by decide) ?_
          refine x_istore_n (L' := [vR 138, vR o, vI i, vI 0]) (dat d_Pl_lay 86 rfl) rfl (by decide) rfl rfl ?_
          first
          | (refine nx _ ((H.2.1.lor (by decide) (Msk.one (n := 8) (by decide) q0 (by omega))).congr (fun p u0 u1 => ?_)) _ ?_ ?_ ?_ (by rw [up_s]) (fun j hj => ?_) (fun j hj => ?_)
             · by_cases e : p = i
               · subst e
                 have : p < p + 1 := by omega
                 simp [c_134, this]
               · by_cases e2 : p < i
                 · have : p < i + 1 := by omega
                   simp [e, e2, this]
                 · have : ¬ p < i + 1 := by omega
                   simp [e, e2, this]
             · rw [up_ne (by decide), up_ne (by decide)]
             · rw [up_ne (by decide)]
               funext j
               unfold up rkT
               first | omega | (by_cases e : j = i <;> simp [e, c_104]; done) | (by_cases e : j = i <;> simp [e, c_104, c_118])
             · rw [up_ne (by decide), up_ne (by decide), up_ne (by decide)]
             · rw [up_ni (fun z => hj z.symm), up_nk (by decide), up_nk (by decide)]
             · rw [up_ne (by omega), up_ne (by omega), up_ne (by omega)])
          | (refine nx _ (H.2.1.congr (fun p u0 u1 => ?_)) _ ?_ ?_ ?_ (by rw [up_nk (by decide), up_nk (by decide)]) (fun j hj => ?_) (fun j hj => ?_)
             · by_cases e : p = i
               · subst e
                 simp [c_134]
               · by_cases e2 : p < i
                 · have : p < i + 1 := by omega
                   simp [e2, this]
                 · have : ¬ p < i + 1 := by omega
                   simp [e2, this]
             · rw [up_ne (by decide)]
             · funext j
               unfold up rkT
               first | omega | (by_cases e : j = i <;> simp [e, c_104]; done) | (by_cases e : j = i <;> simp [e, c_104, c_118])
             · rw [up_ne (by decide), up_ne (by decide)]
             · rw [up_nk (by decide), up_nk (by decide)]
             · rw [up_ne (by omega), up_ne (by omega)])
        · refine x_aload_n (dat d_Pl_lay 77 rfl) rfl rfl ?_
          refine x_dup (dat d_Pl_lay 78 rfl) rfl ?_
          refine x_geti (ji := 5) (v := σ 138 5) (dat d_Pl_lay 79 rfl) rfl f_Pl_53 (oi_mk (by decide +kernel)) ((up_nk (by decide)).trans (up_nk (by decide))) ?_
          refine x_iconst (dat d_Pl_lay 80 rfl) (by decide) ?_
          refine x_iload_n (dat d_Pl_lay 81 rfl) rfl rfl ?_
          refine x_ishl (v := ishl 1 i) (dat d_Pl_lay 82 rfl) rfl ?_
          refine x_ior (v := ior (σ 138 5) (ishl 1 i)) (dat d_Pl_lay 83 rfl) rfl ?_
          refine x_puti (ji := 5) (x := ior (σ 138 5) (ishl 1 i)) (dat d_Pl_lay 84 rfl) rfl f_Pl_53w (oi_mk (by decide +kernel)) (fun h => absurd h (by decide)) (by decide) ?_
          refine x_iconst (dat d_Pl_lay 85 rfl) (by decide) ?_
          refine x_istore_n (L' := [vR 138, vR o, vI i, vI 0]) (dat d_Pl_lay 86 rfl) rfl (by decide) rfl rfl ?_
          first
          | (refine nx _ ((H.2.1.lor (by decide) (Msk.one (n := 8) (by decide) q0 (by omega))).congr (fun p u0 u1 => ?_)) _ ?_ ?_ ?_ (by rw [up_s]) (fun j hj => ?_) (fun j hj => ?_)
             · by_cases e : p = i
               · subst e
                 have : p < p + 1 := by omega
                 simp [c_134, this]
               · by_cases e2 : p < i
                 · have : p < i + 1 := by omega
                   simp [e, e2, this]
                 · have : ¬ p < i + 1 := by omega
                   simp [e, e2, this]
             · rw [up_ne (by decide), up_ne (by decide)]
             · rw [up_ne (by decide)]
               funext j
               unfold up rkT
               first | omega | (by_cases e : j = i <;> simp [e, c_104]; done) | (by_cases e : j = i <;> simp [e, c_104, c_118])
             · rw [up_ne (by decide), up_ne (by decide), up_ne (by decide)]
             · rw [up_ni (fun z => hj z.symm), up_nk (by decide), up_nk (by decide)]
             · rw [up_ne (by omega), up_ne (by omega), up_ne (by omega)])
          | (refine nx _ (H.2.1.congr (fun p u0 u1 => ?_)) _ ?_ ?_ ?_ (by rw [up_nk (by decide), up_nk (by decide)]) (fun j hj => ?_) (fun j hj => ?_)
             · by_cases e : p = i
               · subst e
                 simp [c_134]
               · by_cases e2 : p < i
                 · have : p < i + 1 := by omega
                   simp [e2, this]
                 · have : ¬ p < i + 1 := by omega
                   simp [e2, this]
             · rw [up_ne (by decide)]
             · funext j
               unfold up rkT
               first | omega | (by_cases e : j = i <;> simp [e, c_104]; done) | (by_cases e : j = i <;> simp [e, c_104, c_118])
             · rw [up_ne (by decide), up_ne (by decide)]
             · rw [up_nk (by decide), up_nk (by decide)]
             · rw [up_ne (by omega), up_ne (by omega)])
    · refine x_iconst (dat d_Pl_lay 59 rfl) (by decide) ?_
      refine x_goto (tgt := 126) (dat d_Pl_lay 60 rfl) (by decide) ?_
      refine x_iast (n := 8) (dat d_Pl_lay 70 rfl) (ai_mk (by decide +kernel)) (by omega) (by omega) ?_
      refine x_aload_n (dat d_Pl_lay 71 rfl) rfl rfl ?_
      refine x_getr (r := o + 1) (dat d_Pl_lay 72 rfl) rfl f_Pl_68 (tw_or_8 ho) ?_
      refine x_iload_n (dat d_Pl_lay 73 rfl) rfl rfl ?_
      refine x_iald (n := 8) (v := mnT t i) (dat d_Pl_lay 74 rfl) (tw_ai_1 ho) (by omega) (by omega) ((up_nk (by have := tw_cs ho; omega)).trans ((up_nk (by have := tw_cs ho; omega)).trans r1)) ?_
      refine x_iconst (dat d_Pl_lay 75 rfl) (by decide) ?_
      refine x_icmp_ne (tgt := 149) (dat d_Pl_lay 76 rfl) (by decide) (fun c_134 => ?_) (fun c_134 => ?_)
      · refine x_iconst (dat d_Pl_lay 85 rfl) (by decide) ?_
        refine x_istore_n (L' := [vR 138, vR o, vI i, vI 0]) (dat d_Pl_lay 86 rfl) rfl (by decide) rfl rfl ?_
        first
        | (refine nx _ ((H.2.1.lor (by decide) (Msk.one (n := 8) (by decide) q0 (by omega))).congr (fun p u0 u1 => ?_)) _ ?_ ?_ ?_ (by rw [up_s]) (fun j hj => ?_) (fun j hj => ?_)
           · by_cases e : p = i
             · subst e
               have : p < p + 1 := by omega
               simp [c_134, this]
             · by_cases e2 : p < i
               · have : p < i + 1 := by omega
                 simp [e, e2, this]
               · have : ¬ p < i + 1 := by omega
                 simp [e, e2, this]
           · rw [up_ne (by decide), up_ne (by decide)]
           · rw [up_ne (by decide)]
             funext j
             unfold up rkT
             first | omega | (by_cases e : j = i <;> simp [e, c_104]; done) | (by_cases e : j = i <;> simp [e, c_104, c_118])
           · rw [up_ne (by decide), up_ne (by decide), up_ne (by decide)]
           · rw [up_ni (fun z => hj z.symm), up_nk (by decide), up_nk (by decide)]
           · rw [up_ne (by omega), up_ne (by omega), up_ne (by omega)])
        | (refine nx _ (H.2.1.congr (fun p u0 u1 => ?_)) _ ?_ ?_ ?_ (by rw [up_nk (by decide), up_nk (by decide)]) (fun j hj => ?_) (fun j hj => ?_)
           · by_cases e : p = i
             · subst e
               simp [c_134]
             · by_cases e2 : p < i
               · have : p < i + 1 := by omega
                 simp [e2, this]
               · have : ¬ p < i + 1 := by omega
                 simp [e2, this]
           · rw [up_ne (by decide)]
           · funext j
             unfold up rkT
             first | omega | (by_cases e : j = i <;> simp [e, c_104]; done) | (by_cases e : j = i <;> simp [e, c_104, c_118])
           · rw [up_ne (by decide), up_ne (by decide)]
           · rw [up_nk (by decide), up_nk (by decide)]
           · rw [up_ne (by omega), up_ne (by omega)])
      · refine x_aload_n (dat d_Pl_lay 77 rfl) rfl rfl ?_
        refine x_dup (dat d_Pl_lay 78 rfl) rfl ?_
        refine x_geti (ji := 5) (v := σ 138 5) (dat d_Pl_lay 79 rfl) rfl f_Pl_53 (oi_mk (by decide +kernel)) ((up_nk (by decide)).trans (up_nk (by decide))) ?_
        refine x_iconst (dat d_Pl_lay 80 rfl) (by decide) ?_
        refine x_iload_n (dat d_Pl_lay 81 rfl) rfl rfl ?_
        refine x_ishl (v := ishl 1 i) (dat d_Pl_lay 82 rfl) rfl ?_
        refine x_ior (v := ior (σ 138 5) (ishl 1 i)) (dat d_Pl_lay 83 rfl) rfl ?_
        refine x_puti (ji := 5) (x := ior (σ 138 5) (ishl 1 i)) (dat d_Pl_lay 84 rfl) rfl f_Pl_53w (oi_mk (by decide +kernel)) (fun h => absurd h (by decide)) (by decide) ?_
        refine x_iconst (dat d_Pl_lay 85 rfl) (by decide) ?_
        refine x_istore_n (L' := [vR 138, vR o, vI i, vI 0]) (dat d_Pl_lay 86 rfl) rfl (by decide) rfl rfl ?_
        first
        | (refine nx _ ((H.2.1.lor (by decide) (Msk.one (n := 8) (by decide) q0 (by omega))).congr (fun p u0 u1 => ?_)) _ ?_ ?_ ?_ (by rw [up_s]) (fun j hj => ?_) (fun j hj => ?_)
           · by_cases e : p = i
             · subst e
               have : p < p + 1 := by omega
               simp [c_134, this]
             · by_cases e2 : p < i
               · have : p < i + 1 := by omega
                 simp [e, e2, this]
               · have : ¬ p < i + 1 := by omega
                 simp [e, e2, this]
           · rw [up_ne (by decide), up_ne (by decide)]
           · rw [up_ne (by decide)]
             funext j
             unfold up rkT
             first | omega | (by_cases e : j = i <;> simp [e, c_104]; done) | (by_cases e : j = i <;> simp [e, c_104, c_118])
           · rw [up_ne (by decide), up_ne (by decide), up_ne (by decide)]
           · rw [up_ni (fun z => hj z.symm), up_nk (by decide), up_nk (by decide)]
           · rw [up_ne (by omega), up_ne (by omega), up_ne (by omega)])
        | (refine nx _ (H.2.1.congr (fun p u0 u1 => ?_)) _ ?_ ?_ ?_ (by rw [up_nk (by decide), up_nk (by decide)]) (fun j hj => ?_) (fun j hj => ?_)
           · by_cases e : p = i
             · subst e
               simp [c_134]
             · by_cases e2 : p < i
               · have : p < i + 1 := by omega
                 simp [e2, this]
               · have : ¬ p < i + 1 := by omega
                 simp [e2, this]
           · rw [up_ne (by decide)]
           · funext j
             unfold up rkT
             first | omega | (by_cases e : j = i <;> simp [e, c_104]; done) | (by_cases e : j = i <;> simp [e, c_104, c_118])
           · rw [up_ne (by decide), up_ne (by decide)]
           · rw [up_nk (by decide), up_nk (by decide)]
           · rw [up_ne (by omega), up_ne (by omega)])
theorem sp_Pl_lay {g : xG} {K : Option MV → xS → Prop} {σ : xS} {o : Nat} {t : Int → Int} (ho : IsTw o) (hT : TownOk t) (hR : TownR σ o t)
    (k : ∀ σ' : xS, PlanR σ' (cfg t) → PlanF σ' σ → K none σ') : Mt g y_Pl_lay [vR 138, vR o] σ K := by
  have h8 := hT.2.2.2.2.2.2.1
  have h3 := hT.2.2.2.1
  have cs := tw_cs ho
  have r := hR.1
  refine x_enter 2 rfl rfl rfl (fun Z => ?_)
  show Wx g y_Pl_lay Z K 0 [vR 138, vR o, vU, vU] [] σ
  refine x_aload_n (dat d_Pl_lay 0 rfl) rfl rfl ?_
  refine x_aload_n (dat d_Pl_lay 1 rfl) rfl rfl ?_
  refine x_geti (ji := 6) (v := t 6) (dat d_Pl_lay 2 rfl) rfl f_Pl_24 (tw_oi_6 ho) ((r 6 (by decide) (by decide))) ?_
  refine x_bipush (dat d_Pl_lay 3 rfl) (by decide) (by decide) ?_
  refine x_mmin (own := "ShakenBread$Plan") (dat d_Pl_lay 4 rfl) rfl l_Pl_30 (by decide) (Nat.le_of_ble_eq_true rfl) (fun m_7 h1_7 h2_7 h3_7 => ?_)
  skip
  · have m6 : m_7 = t 6 := by omega
    rw [m6]
    refine x_puti (ji := 0) (x := t 6) (dat d_Pl_lay 5 rfl) rfl f_Pl_36w (oi_mk (by decide +kernel)) (fun h => absurd h (by decide)) (by decide) ?_
    refine x_aload_n (dat d_Pl_lay 6 rfl) rfl rfl ?_
    refine x_aload_n (dat d_Pl_lay 7 rfl) rfl rfl ?_
    refine x_geti (ji := 3) (v := t 3) (dat d_Pl_lay 8 rfl) rfl f_Pl_37 (tw_oi_3 ho) ((up_nk (by have := tw_cs ho; omega)).trans (r 3 (by decide) (by decide))) ?_
    refine x_bipush (dat d_Pl_lay 9 rfl) (by decide) (by decide) ?_
    refine x_mmin (own := "ShakenBread$Plan") (dat d_Pl_lay 10 rfl) rfl l_Pl_30 (by decide) (Nat.le_of_ble_eq_true rfl) (fun m_20 h1_20 h2_20 h3_20 => ?_)
    skip
    · have m3 : m_20 = t 3 := by omega
      rw [m3]
      refine x_puti (ji := 1) (x := t 3) (dat d_Pl_lay 11 rfl) rfl f_Pl_40w (oi_mk (by decide +kernel)) (fun h => absurd h (by decide)) (by decide) ?_
      refine x_aload_n (dat d_Pl_lay 12 rfl) rfl rfl ?_
      refine x_aload_n (dat d_Pl_lay 13 rfl) rfl rfl ?_
      refine x_geti (ji := 2) (v := t 2) (dat d_Pl_lay 14 rfl) rfl f_Pl_41 (tw_oi_2 ho) ((up_nk (by have := tw_cs ho; omega)).trans ((up_nk (by have := tw_cs ho; omega)).trans (r 2 (by decide) (by decide)))) ?_
      refine x_puti (ji := 2) (x := t 2) (dat d_Pl_lay 15 rfl) rfl f_Pl_44w (oi_mk (by decide +kernel)) (fun h => absurd h (by decide)) (by decide) ?_
      refine x_aload_n (dat d_Pl_lay 16 rfl) rfl rfl ?_
      refine x_aload_n (dat d_Pl_lay 17 rfl) rfl rfl ?_
      refine x_geti (ji := 4) (v := t 4) (dat d_Pl_lay 18 rfl) rfl f_Pl_45 (tw_oi_4 ho) ((up_nk (by have := tw_cs ho; omega)).trans ((up_nk (by have := tw_cs ho; omega)).trans ((up_nk (by have := tw_cs ho; omega)).trans (r 4 (by decide) (by decide))))) ?_
      refine x_puti (ji := 3) (x := t 4) (dat d_Pl_lay 19 rfl) rfl f_Pl_48w (oi_mk (by decide +kernel)) (fun h => absurd h (by decide)) (by decide) ?_
      refine x_aload_n (dat d_Pl_lay 20 rfl) rfl rfl ?_
      refine x_aload_n (dat d_Pl_lay 21 rfl) rfl rfl ?_
      refine x_geti (ji := 5) (v := t 5) (dat d_Pl_lay 22 rfl) rfl f_Pl_49 (tw_oi_5 ho) ((up_nk (by have := tw_cs ho; omega)).trans ((up_nk (by have := tw_cs ho; omega)).trans ((up_nk (by have := tw_cs ho; omega)).trans ((up_nk (by have := tw_cs ho; omega)).trans (r 5 (by decide) (by decide)))))) ?_
      refine x_puti (ji := 4) (x := t 5) (dat d_Pl_lay 23 rfl) rfl f_Pl_52w (oi_mk (by decide +kernel)) (fun h => absurd h (by decide)) (by decide) ?_
      refine x_aload_n (dat d_Pl_lay 24 rfl) rfl rfl ?_
      refine x_iconst (dat d_Pl_lay 25 rfl) (by decide) ?_
      refine x_puti (ji := 5) (x := 0) (dat d_Pl_lay 26 rfl) rfl f_Pl_53w (oi_mk (by decide +kernel)) (fun h => absurd h (by decide)) (by decide) ?_
      refine x_aload_n (dat d_Pl_lay 27 rfl) rfl rfl ?_
      refine x_iconst (dat d_Pl_lay 28 rfl) (by decide) ?_
      refine x_puti (ji := 6) (x := (-1)) (dat d_Pl_lay 29 rfl) rfl f_Pl_56w (oi_mk (by decide +kernel)) (fun h => absurd h (by decide)) (by decide) ?_
      refine x_aload_n (dat d_Pl_lay 30 rfl) rfl rfl ?_
      refine x_iconst (dat d_Pl_lay 31 rfl) (by decide) ?_
      refine x_puti (ji := 7) (x := (-1)) (dat d_Pl_lay 32 rfl) rfl f_Pl_59w (oi_mk (by decide +kernel)) (fun h => absurd h (by decide)) (by decide) ?_
      refine x_aload_n (dat d_Pl_lay 33 rfl) rfl rfl ?_
      refine x_iconst (dat d_Pl_lay 34 rfl) (by decide) ?_
      refine x_puti (ji := 8) (x := 0) (dat d_Pl_lay 35 rfl) rfl f_Pl_62w (oi_mk (by decide +kernel)) (fun h => absurd h (by decide)) (by decide) ?_
      refine x_iconst (dat d_Pl_lay 36 rfl) (by decide) ?_
      refine x_istore_n (L' := [vR 138, vR o, vI 0, vU]) (dat d_Pl_lay 37 rfl) rfl (by decide) rfl rfl ?_
      have g5 : (up (up (up (up (up (up (up (up (up σ 138 0 (t 6)) 138 1 (t 3)) 138 2 (t 2)) 138 3 (t 4)) 138 4 (t 5)) 138 5 0) 138 6 (-1)) 138 7 (-1)) 138 8 0) 138 5 = 0 := by rw [up_ni (by decide), up_ni (by decide), up_ni (by decide), up_s]
      have hR2 : TownR (up (up (up (up (up (up (up (up (up σ 138 0 (t 6)) 138 1 (t 3)) 138 2 (t 2)) 138 3 (t 4)) 138 4 (t 5)) 138 5 0) 138 6 (-1)) 138 7 (-1)) 138 8 0) o t := hR.same (fun j r0 r1 => by rw [up_ne (by omega), up_ne (by omega), up_ne (by omega), up_ne (by omega), up_ne (by omega), up_ne (by omega), up_ne (by omega), up_ne (by omega), up_ne (by omega)])
      have g0 : (up (up (up (up (up (up (up (up (up σ 138 0 (t 6)) 138 1 (t 3)) 138 2 (t 2)) 138 3 (t 4)) 138 4 (t 5)) 138 5 0) 138 6 (-1)) 138 7 (-1)) 138 8 0) 138 0 = t 6 ∧ (up (up (up (up (up (up (up (up (up σ 138 0 (t 6)) 138 1 (t 3)) 138 2 (t 2)) 138 3 (t 4)) 138 4 (t 5)) 138 5 0) 138 6 (-1)) 138 7 (-1)) 138 8 0) 138 1 = t 3 ∧ (up (up (up (up (up (up (up (up (up σ 138 0 (t 6)) 138 1 (t 3)) 138 2 (t 2)) 138 3 (t 4)) 138 4 (t 5)) 138 5 0) 138 6 (-1)) 138 7 (-1)) 138 8 0) 138 2 = t 2 ∧ (up (up (up (up (up (up (up (up (up σ 138 0 (t 6)) 138 1 (t 3)) 138 2 (t 2)) 138 3 (t 4)) 138 4 (t 5)) 138 5 0) 138 6 (-1)) 138 7 (-1)) 138 8 0) 138 3 = t 4 ∧ (up (up (up (up (up (up (up (up (up σ 138 0 (t 6)) 138 1 (t 3)) 138 2 (t 2)) 138 3 (t 4)) 138 4 (t 5)) 138 5 0) 138 6 (-1)) 138 7 (-1)) 138 8 0) 138 4 = t 5 ∧ (up (up (up (up (up (up (up (up (up σ 138 0 (t 6)) 138 1 (t 3)) 138 2 (t 2)) 138 3 (t 4)) 138 4 (t 5)) 138 5 0) 138 6 (-1)) 138 7 (-1)) 138 8 0) 138 6 = -1 ∧ (up (up (up (up (up (up (up (up (up σ 138 0 (t 6)) 138 1 (t 3)) 138 2 (t 2)) 138 3 (t 4)) 138 4 (t 5)) 138 5 0) 138 6 (-1)) 138 7 (-1)) 138 8 0) 138 7 = -1 ∧ (up (up (up (up (up (up (up (up (up σ 138 0 (t 6)) 138 1 (t 3)) 138 2 (t 2)) 138 3 (t 4)) 138 4 (t 5)) 138 5 0) 138 6 (-1)) 138 7 (-1)) 138 8 0) 138 8 = 0 := by simp [up]
      have gf : PlanF (up (up (up (up (up (up (up (up (up σ 138 0 (t 6)) 138 1 (t 3)) 138 2 (t 2)) 138 3 (t 4)) 138 4 (t 5)) 138 5 0) 138 6 (-1)) 138 7 (-1)) 138 8 0) σ := fun j hj => by rw [up_ne (by omega), up_ne (by omega), up_ne (by omega), up_ne (by omega), up_ne (by omega), up_ne (by omega), up_ne (by omega), up_ne (by omega), up_ne (by omega)]
      generalize (up (up (up (up (up (up (up (up (up σ 138 0 (t 6)) 138 1 (t 3)) 138 2 (t 2)) 138 3 (t 4)) 138 4 (t 5)) 138 5 0) 138 6 (-1)) 138 7 (-1)) 138 8 0) = σ1 at g5 hR2 g0 gf ⊢
      refine lp_Pl_layp ho hT hR2 g0.1 g0.2.1 (fun σ2 w H2 => ?_) (t 6).toNat 0 σ1 _ (by omega) (by omega) ⟨fun q r0 r1 => by omega, by rw [g5]; exact (Msk.zero 8).congr (fun q r0 r1 => by simp; omega), fun _ _ => rfl, fun _ _ => rfl⟩
      have hR3 : TownR σ2 o t := hR2.same (fun j r0 r1 => H2.2.2.2 j (by omega))
      refine x_aload_n (dat d_Pl_lay 107 rfl) rfl rfl ?_
      refine x_aload_n (dat d_Pl_lay 108 rfl) rfl rfl ?_
      refine x_iconst (dat d_Pl_lay 109 rfl) (by decide) ?_
      refine x_inv (As := [vR o, vI 0]) (dat d_Pl_lay 110 rfl) rfl c_Pl_openHands l_Pl_74 (by decide) (rv_pl (by decide +kernel)) rfl rfl (Nat.le_of_ble_eq_true rfl) ?_
      refine sp_Pl_openHands ho hT hR3 (by rw [H2.2.2.1 0 (by decide)]; exact g0.1) (by decide) (fun σ3 H3 hf3 => ?_)
      show Wx g y_Pl_lay Z K 194 [vR 138, vR o, vI (t 6), w] [] σ3
      refine x_ret (dat d_Pl_lay 111 rfl) rfl ?_
      refine k σ3 ⟨?_, ?_, ?_, ?_, ?_, ⟨?_, ?_, fun p p0 p1 => ?_⟩, ?_, ?_, ?_, fun p p0 p1 => ?_, fun a b a0 ab b1 => ?_, fun a a0 a1 => ⟨(H3 a a0 a1).1, (H3 a a0 a1).2.1, fun b b0 b1 => (H3 a a0 a1).2.2 b (by omega) b1⟩, fun h p u0 u1 p0 p1 => ?_⟩ (fun j hj => by rw [hf3 j (by omega), H2.2.2.2 j hj]; exact gf j hj)
      · rw [hf3 138 (by decide), H2.2.2.1 0 (by decide)]; exact g0.1
      · rw [hf3 138 (by decide), H2.2.2.1 1 (by decide)]; exact g0.2.1
      · rw [hf3 138 (by decide), H2.2.2.1 2 (by decide)]; exact g0.2.2.1
      · rw [hf3 138 (by decide), H2.2.2.1 3 (by decide)]; exact g0.2.2.2.1
      · rw [hf3 138 (by decide), H2.2.2.1 4 (by decide)]; exact g0.2.2.2.2.1
      · rw [hf3 138 (by decide)]; exact H2.2.1.1
      · rw [hf3 138 (by decide)]; exact H2.2.1.2.1
      · rw [hf3 138 (by decide), H2.2.1.2.2 p p0 (show p < 8 from Int.lt_of_lt_of_le p1 h8.2)]
        have p2 : p < t 6 := p1
        show (decide (p < t 6) && decide (mnT t p = 3)) = decide (mnT t p = 3)
        simp [p2]
      · rw [hf3 138 (by decide), H2.2.2.1 6 (by decide)]; exact g0.2.2.2.2.2.1
      · rw [hf3 138 (by decide), H2.2.2.1 7 (by decide)]; exact g0.2.2.2.2.2.2.1
      · rw [hf3 138 (by decide), H2.2.2.1 8 (by decide)]; exact g0.2.2.2.2.2.2.2
      · rw [hf3 139 (by decide)]; exact (H2.1 p p0 p1).1
      · rw [hf3 140 (by decide), (H2.1 a a0 (Int.lt_trans ab b1)).2.1, (H2.1 b (by omega) b1).2.1]; rfl
      · rw [hf3 142 (by decide)]; exact (H2.1 p p0 p1).2.2 h u0 u1
