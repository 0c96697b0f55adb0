/-! runs that agree; trials, the first of them -/
theorem cfg_ok {t : Int → Int} (hT : TownOk t) : CfOk (cfg t) := by
  obtain ⟨h0, h1, h2, h3, h4, h5, h6, h7, h8, h9⟩ := hT
  refine ⟨h6.1, h6.2, h3.1, h3.2, h4.1, h4.2, h5.1, h5.2, h2.1, h2.2, (by decide : (0 : Int) ≤ 0), (by decide : (0 : Int) ≤ 30), fun p p0 p1 => ?_⟩
  have := (h8 p p0 p1).2.2.1
  exact ⟨this.1, by show t (22 + 17 * p) ≤ 33; omega⟩
/-- two settings that are alike as far as hour n -/
def Agr (C C' : Cf) (n : Nat) : Prop := (∀ i : Int, i ≤ 4 → cS C' i = cS C i) ∧ cSt C' = cSt C ∧ cGl C' = cGl C ∧ cGr C' = cGr C ∧ (∀ (h : Nat) (bd : Int → Int), h < n → lof C' h bd = lof C h bd) ∧ ∀ (h : Nat) (al : Int → Bool) (a b : Int), h < n → 0 ≤ a → a < b → b < cS C 0 → shk C' h al a b = shk C h al a b
theorem inn_congr {f f' : Int → Hs → Hs} : ∀ (n : Nat) (b : Int) (s : Hs), (∀ (b' : Int) (s : Hs), b ≤ b' → b' < b + n → f' b' s = f b' s) → inn f' n b s = inn f n b s
  | 0, _, _, _ => rfl
  | n + 1, b, s, h => by
    simp only [inn]
    rw [h b s (by omega) (by omega)]
    exact inn_congr n (b + 1) _ (fun b' s' q0 q1 => h b' s' (by omega) (by omega))
theorem gvr_congr {C C' : Cf} (e2 : cS C' 2 = cS C 2) (eg : cGl C' = cGl C) (er : cGr C' = cGr C) (bd : Int → Int) (a b : Int) : gvr C' bd a b = gvr C bd a b := by
  unfold gvr gv0
  rw [e2, eg, er]
theorem outr_congr {C C' : Cf} {h : Int} {al : Int → Bool} (e0 : cS C' 0 = cS C 0) (hs : ∀ (a b : Int) (s : Hs), 0 ≤ a → a < b → b < cS C 0 → stp C' h al a b s = stp C h al a b s) : ∀ (n : Nat) (a : Int) (s : Hs), 0 ≤ a → a + n ≤ cS C 0 → outr C' h al n a s = outr C h al n a s
  | 0, _, _, _, _ => rfl
  | n + 1, a, s, h0, h1 => by
    simp only [outr]
    rw [e0, inn_congr (f := stp C h al a) (f' := stp C' h al a) _ _ s (fun b' s' q0 q1 => hs a b' s' h0 (by omega) (by omega))]
    exact outr_congr e0 hs n (a + 1) _ (by omega) (by omega)
theorem Agr.hS {C C' : Cf} {n : Nat} (A : Agr C C' n) (h0 : 0 ≤ cS C 0) {h : Nat} (hh : h < n) (s : Rs) : hsh C' h s.2 (lof C' h s.1) = hsh C h s.2 (lof C h s.1) ∧ hst C' h s = hst C h s := by
  obtain ⟨a1, a2, a3, a4, a5, a6⟩ := A
  have e1 : hsh C' h s.2 (lof C' h s.1) = hsh C h s.2 (lof C h s.1) := by
    unfold hsh
    rw [a5 h _ hh, a1 0 (by decide)]
    refine outr_congr (a1 0 (by decide)) (fun a b s' q0 q1 q2 => ?_) _ 0 _ (by decide) (by omega)
    unfold stp
    rw [a6 h s.2 a b hh q0 q1 q2, gvr_congr (a1 2 (by decide)) a3 a4]
  refine ⟨e1, ?_⟩
  unfold hst eats eatB eatA
  rw [e1, a1 3 (by decide), a1 4 (by decide)]
theorem Agr.rS {C C' : Cf} {n : Nat} (A : Agr C C' n) (h0 : 0 ≤ cS C 0) : ∀ m : Nat, m ≤ n → rst C' m = rst C m
  | 0, _ => by
    show (cSt C', _) = (cSt C, _)
    rw [A.2.1, A.1 0 (by decide)]
  | m + 1, hm => by
    have h1 := A.rS h0 m (by omega)
    show hst C' m (rst C' m) = hst C m (rst C m)
    rw [h1]
    exact (A.hS h0 (h := m) (by omega) _).2
theorem Agr.hE {C C' : Cf} {n : Nat} (A : Agr C C' n) (h0 : 0 ≤ cS C 0) {m : Nat} (hm : m < n) : hev C' m = hev C m := by
  unfold hev hmi
  rw [A.rS h0 m (by omega), (A.hS h0 (h := m) hm _).1]
theorem Agr.sV {C C' : Cf} (A : Agr C C' (cH C)) (h0 : 0 ≤ cS C 0) : stv C' = stv C := by
  unfold stv alN
  have e : cH C' = cH C := by unfold cH; rw [A.1 1 (by decide)]
  rw [e, A.rS h0 _ (Nat.le_refl _), A.1 0 (by decide)]
theorem stv_bd {C : Cf} (hC : CfOk C) : 0 ≤ stv C ∧ stv C ≤ 8 := by
  have h8 := hC.2.1
  have hP := hC.1
  have h1 := alN_bd C (cH C)
  have h2 : alN C (cH C) ≤ cS C 0 := by
    unfold alN
    have e : (8 : Nat) = (cS C 0).toNat + (8 - (cS C 0).toNat) := by omega
    have sp : ∀ (d n : Nat), cntN (rst C (cH C)).2 (n + d) ≤ cntN (rst C (cH C)).2 n + (if (n : Int) < cS C 0 then d else 0) := by
      intro d
      induction d with
      | zero => intro n; simp
      | succ d ih =>
        intro n
        have h3 := ih n
        show cntN (rst C (cH C)).2 (n + d) + (if (rst C (cH C)).2 ((n + d : Nat) : Int) = true then 1 else 0) ≤ _
        by_cases q : (n : Int) < cS C 0
        · rw [if_pos q] at h3 ⊢
          split <;> omega
        · rw [if_neg q] at h3 ⊢
          rw [if_neg (fun w => by have := (rst_al _ _ w).2; omega)]
          omega
    have h4 := sp (8 - (cS C 0).toNat) (cS C 0).toNat
    rw [← e, if_neg (by omega)] at h4
    have h5 := (cntN_bd (rst C (cH C)).2 (cS C 0).toNat).2
    omega
  unfold stv
  omega
/-- what trials leave as it is -/
def TrF (σ' σ : xS) : Prop := ∀ o : Nat, o < 138 ∨ 170 < o → σ' o = σ o
theorem TrF.town {σ σ' : xS} {o : Nat} {t : Int → Int} (F : TrF σ' σ) (ho : IsTw o) (h : TownR σ o t) : TownR σ' o t := h.same (fun k q0 q1 => F k (Or.inl (by have := tw_cs ho; omega)))
theorem ru_143 : IsRu 143 := by simp [IsRu, L_Ru]
theorem ru_156 : IsRu 156 := by simp [IsRu, L_Ru]
theorem PlanR.one {σ : xS} {C : Cf} {i : Int} (H : PlanR σ C) {v : Int} (hi : (i = 2 ∨ i = 3) ∨ i = 4) : PlanR (up σ 138 i v) (mS C i v) := by
  have ne : ∀ j : Int, j ≠ i → up σ 138 i v 138 j = σ 138 j := fun j q => up_ni (Ne.symm q)
  have nc : ∀ j : Int, j ≠ i → cS (mS C i v) j = cS C j := fun j q => by show (if j = i then v else cS C j) = _; rw [if_neg q]
  have yc : cS (mS C i v) i = v := by show (if i = i then v else cS C i) = v; rw [if_pos rfl]
  have ha : ∀ j : Int, (j ≠ i → σ 138 j = cS C j) → up σ 138 i v 138 j = cS (mS C i v) j := by
    intro j hj
    by_cases q : j = i
    · rw [q, yc, up_s]
    · rw [ne j q, nc j q, hj q]
  obtain ⟨b0, b1, b2, b3, b4, b5, b6, b7, b8, b9, b10, b11, b12⟩ := id H
  refine H.sc rfl ⟨nc 0 (by omega), nc 1 (by omega)⟩ (ha 0 fun _ => b0) (ha 1 fun _ => b1) (ha 2 fun _ => b2) (ha 3 fun _ => b3) (ha 4 fun _ => b4) (ne 5 (by omega)) ?_ ?_ ?_ (fun o q => up_ne q)
  · rw [ne 6 (by omega), nc 5 (by omega), b6]
  · rw [ne 7 (by omega), nc 6 (by omega), b7]
  · rw [ne 8 (by omega), nc 7 (by omega), b8]
theorem sp_Tr_starvedByPlan {g : xG} {K : Option MV → xS → Prop} {σ : xS} {C : Cf} (hC : CfOk C) (hp : PlanR σ C) (k : ∀ σ' : xS, (∀ o : Nat, o < 156 ∨ 168 < o → σ' o = σ o) → K (some (vI (stv C))) σ') : Mt g y_Tr_starvedByPlan [vR 169] σ K := by
  have hu := ru_156
  have hH := cH_eq hC
  refine x_enter 0 rfl rfl rfl (fun Z => ?_)
  show Wx g y_Tr_starvedByPlan Z K 0 [vR 169] [] σ
  refine x_aload_n (dat d_Tr_starvedByPlan 0 rfl) rfl rfl ?_
  refine x_getr (r := 156) (dat d_Tr_starvedByPlan 1 rfl) rfl f_Tr_23 (or_mk (by decide +kernel)) ?_
  refine x_aload_n (dat d_Tr_starvedByPlan 2 rfl) rfl rfl ?_
  refine x_getr (r := 138) (dat d_Tr_starvedByPlan 3 rfl) rfl f_Tr_15 (or_mk (by decide +kernel)) ?_
  refine x_null (dat d_Tr_starvedByPlan 4 rfl) ?_
  refine x_iconst (dat d_Tr_starvedByPlan 5 rfl) (by decide) ?_
  refine x_inv (As := [vR 138, vN, vI 0]) (dat d_Tr_starvedByPlan 6 rfl) rfl c_Ru_go l_Tr_32 (by decide) (rv_ru (by decide +kernel)) rfl rfl (Nat.le_of_ble_eq_true rfl) ?_
  refine sp_Ru_go hu hC hp (fun σ1 R F => ?_)
  show Wx g y_Tr_starvedByPlan Z K 13 [vR 169] [] σ1
  refine x_aload_n (dat d_Tr_starvedByPlan 7 rfl) rfl rfl ?_
  refine x_getr (r := 156) (dat d_Tr_starvedByPlan 8 rfl) rfl f_Tr_23 (or_mk (by decide +kernel)) ?_
  refine x_inv (As := []) (dat d_Tr_starvedByPlan 9 rfl) rfl c_Ru_starved l_Tr_38 (by decide) (rv_ru (by decide +kernel)) rfl rfl (Nat.le_of_ble_eq_true rfl) ?_
  refine sp_Ru_starved hu hC R (by omega) ?_
  show Wx g y_Tr_starvedByPlan Z K 20 [vR 169] [vI (stv C)] σ1
  refine x_iret (dat d_Tr_starvedByPlan 10 rfl) rfl ?_
  exact k σ1 F
theorem sp_Tr_begin {g : xG} {K : Option MV → xS → Prop} {σ : xS} {o : Nat} {t : Int → Int} (ho : IsTw o) (hT : TownOk t) (hR : TownR σ o t) (k : ∀ σ' : xS, PlanR σ' (cfg t) → RunS σ' 143 (cfg t) 0 (cH (cfg t)) → (∀ o : Nat, o < 138 ∨ 155 < o → σ' o = σ o) → K none σ') : Mt g y_Tr_begin [vR 169, vR o] σ K := by
  have hu := ru_143
  have hC := cfg_ok hT
  refine x_enter 0 rfl rfl rfl (fun Z => ?_)
  show Wx g y_Tr_begin Z K 0 [vR 169, vR o] [] σ
  refine x_aload_n (dat d_Tr_begin 0 rfl) rfl rfl ?_
  refine x_getr (r := 138) (dat d_Tr_begin 1 rfl) rfl f_Tr_15 (or_mk (by decide +kernel)) ?_
  refine x_aload_n (dat d_Tr_begin 2 rfl) rfl rfl ?_
  refine x_inv (As := [vR o]) (dat d_Tr_begin 3 rfl) rfl c_Pl_lay l_Tr_26 (by decide) (rv_pl (by decide +kernel)) rfl rfl (Nat.le_of_ble_eq_true rfl) ?_
  refine sp_Pl_lay ho hT hR (fun σ1 hp F1 => ?_)
  show Wx g y_Tr_begin Z K 8 [vR 169, vR o] [] σ1
  refine x_aload_n (dat d_Tr_begin 4 rfl) rfl rfl ?_
  refine x_getr (r := 143) (dat d_Tr_begin 5 rfl) rfl f_Tr_19 (or_mk (by decide +kernel)) ?_
  refine x_aload_n (dat d_Tr_begin 6 rfl) rfl rfl ?_
  refine x_getr (r := 138) (dat d_Tr_begin 7 rfl) rfl f_Tr_15 (or_mk (by decide +kernel)) ?_
  refine x_null (dat d_Tr_begin 8 rfl) ?_
  refine x_iconst (dat d_Tr_begin 9 rfl) (by decide) ?_
  refine x_inv (As := [vR 138, vN, vI 0]) (dat d_Tr_begin 10 rfl) rfl c_Ru_go l_Tr_32 (by decide) (rv_ru (by decide +kernel)) rfl rfl (Nat.le_of_ble_eq_true rfl) ?_
  refine sp_Ru_go hu hC hp (fun σ2 R F2 => ?_)
  show Wx g y_Tr_begin Z K 21 [vR 169, vR o] [] σ2
  refine x_ret (dat d_Tr_begin 11 rfl) rfl ?_
  refine k σ2 (hp.same (fun q _ _ => F2 q (by omega))) R (fun q hq => by rw [F2 q (by omega), F1 q (by omega)])
theorem sp_Tr_keepFound {g : xG} {K : Option MV → xS → Prop} {σ : xS} {v0 v1 v2 v3 : Int} (k : K none (up (up (up (up σ 170 0 v0) 170 1 v1) 170 2 v2) 170 3 v3)) : Mt g y_Tr_keepFound [vR 169, vI v0, vI v1, vI v2, vI v3] σ K := by
  refine x_enter 0 rfl rfl rfl (fun Z => ?_)
  show Wx g y_Tr_keepFound Z K 0 [vR 169, vI v0, vI v1, vI v2, vI v3] [] σ
  refine x_aload_n (dat d_Tr_keepFound 0 rfl) rfl rfl ?_
  refine x_getr (r := 170) (dat d_Tr_keepFound 1 rfl) rfl f_Tr_9 (or_mk (by decide +kernel)) ?_
  refine x_iconst (dat d_Tr_keepFound 2 rfl) (by decide) ?_
  refine x_iload_n (dat d_Tr_keepFound 3 rfl) rfl rfl ?_
  refine x_iast (n := 4) (dat d_Tr_keepFound 4 rfl) (ai_mk (by decide +kernel)) (by omega) (by omega) ?_
  refine x_aload_n (dat d_Tr_keepFound 5 rfl) rfl rfl ?_
  refine x_getr (r := 170) (dat d_Tr_keepFound 6 rfl) rfl f_Tr_9 (or_mk (by decide +kernel)) ?_
  refine x_iconst (dat d_Tr_keepFound 7 rfl) (by decide) ?_
  refine x_iload_n (dat d_Tr_keepFound 8 rfl) rfl rfl ?_
  refine x_iast (n := 4) (dat d_Tr_keepFound 9 rfl) (ai_mk (by decide +kernel)) (by omega) (by omega) ?_
  refine x_aload_n (dat d_Tr_keepFound 10 rfl) rfl rfl ?_
  refine x_getr (r := 170) (dat d_Tr_keepFound 11 rfl) rfl f_Tr_9 (or_mk (by decide +kernel)) ?_
  refine x_iconst (dat d_Tr_keepFound 12 rfl) (by decide) ?_
  refine x_iload_n (dat d_Tr_keepFound 13 rfl) rfl rfl ?_
  refine x_iast (n := 4) (dat d_Tr_keepFound 14 rfl) (ai_mk (by decide +kernel)) (by omega) (by omega) ?_
  refine x_aload_n (dat d_Tr_keepFound 15 rfl) rfl rfl ?_
  refine x_getr (r := 170) (dat d_Tr_keepFound 16 rfl) rfl f_Tr_9 (or_mk (by decide +kernel)) ?_
  refine x_iconst (dat d_Tr_keepFound 17 rfl) (by decide) ?_
  refine x_iload (dat d_Tr_keepFound 18 rfl) rfl ?_
  refine x_iast (n := 4) (dat d_Tr_keepFound 19 rfl) (ai_mk (by decide +kernel)) (by omega) (by omega) ?_
  refine x_ret (dat d_Tr_keepFound 20 rfl) rfl ?_
  exact k
theorem sp_Tr_isFewer {g : xG} {K : Option MV → xS → Prop} {σ : xS} {v w : Int} (kt : (w = -1 ∨ bcnt v < bcnt w) → K (some (vI 1)) σ) (kf : ¬ (w = -1 ∨ bcnt v < bcnt w) → K (some (vI 0)) σ) : Mt g y_Tr_isFewer [vR 169, vI v, vI w] σ K := by
  refine x_enter 0 rfl rfl rfl (fun Z => ?_)
  show Wx g y_Tr_isFewer Z K 0 [vR 169, vI v, vI w] [] σ
  refine x_iload_n (dat d_Tr_isFewer 0 rfl) rfl rfl ?_
  refine x_iconst (dat d_Tr_isFewer 1 rfl) (by decide) ?_
  refine x_icmp_eq (tgt := 16) (dat d_Tr_isFewer 2 rfl) (by decide) (fun c_2 => ?_) (fun c_2 => ?_)
  · refine x_iconst (dat d_Tr_isFewer 8 rfl) (by decide) ?_
    refine x_goto (tgt := 21) (dat d_Tr_isFewer 9 rfl) (by decide) ?_
    refine x_zret (dat d_Tr_isFewer 11 rfl) rfl (by decide) ?_
    first
    | exact kt (by omega)
    | exact kf (by omega)
  · refine x_iload_n (dat d_Tr_isFewer 3 rfl) rfl rfl ?_
    refine x_invs (As := [vI v]) (dat d_Tr_isFewer 4 rfl) rfl c_In_bitCount l_Tr_42 (by decide) rfl rfl (Nat.le_of_ble_eq_true rfl) ?_
    refine sp_In_bitCount ?_
    show Wx g y_Tr_isFewer Z K 9 [vR 169, vI v, vI w] [vI (bcnt v)] σ
    refine x_iload_n (dat d_Tr_isFewer 5 rfl) rfl rfl ?_
    refine x_invs (As := [vI w]) (dat d_Tr_isFewer 6 rfl) rfl c_In_bitCount l_Tr_42 (by decide) rfl rfl (Nat.le_of_ble_eq_true rfl) ?_
    refine sp_In_bitCount ?_
    show Wx g y_Tr_isFewer Z K 13 [vR 169, vI v, vI w] [vI (bcnt w), vI (bcnt v)] σ
    refine x_icmp_ge (tgt := 20) (dat d_Tr_isFewer 7 rfl) (by decide) (fun c_13 => ?_) (fun c_13 => ?_)
    · refine x_iconst (dat d_Tr_isFewer 10 rfl) (by decide) ?_
      refine x_zret (dat d_Tr_isFewer 11 rfl) rfl (by decide) ?_
      first
      | exact kt (by omega)
      | exact kf (by omega)
    · refine x_iconst (dat d_Tr_isFewer 8 rfl) (by decide) ?_
      refine x_goto (tgt := 21) (dat d_Tr_isFewer 9 rfl) (by decide) ?_
      refine x_zret (dat d_Tr_isFewer 11 rfl) rfl (by decide) ?_
      first
      | exact kt (by omega)
      | exact kf (by omega)
