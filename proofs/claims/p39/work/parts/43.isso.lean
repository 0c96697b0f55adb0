/-! worlds: whether a run is so as a book has it -/
def BookOk (b : Int → Int) : Prop := (0 ≤ b 0 ∧ b 0 ≤ 8) ∧ ∀ k : Int, 0 ≤ k → k < b 0 → (0 ≤ b (1 + 3 * k) ∧ b (1 + 3 * k) ≤ 7) ∧ (0 ≤ b (2 + 3 * k) ∧ b (2 + 3 * k) ≤ 23) ∧ 0 ≤ b (3 + 3 * k) ∧ b (3 + 3 * k) ≤ 99
def BookR (σ : xS) (o : Nat) (b : Int → Int) : Prop := σ o 0 = b 0 ∧ ∀ k : Int, 0 ≤ k → k < b 0 → σ (o + 1) k = b (1 + 3 * k) ∧ σ (o + 2) k = b (2 + 3 * k) ∧ σ (o + 3) k = b (3 + 3 * k)
theorem BookR.same {σ σ' : xS} {o : Nat} {b : Int → Int} (h : BookR σ o b) (e : ∀ k : Nat, o ≤ k → k ≤ o + 3 → σ' k = σ k) : BookR σ' o b := by
  unfold BookR at h ⊢
  rw [e o (by omega) (by omega), e (o + 1) (by omega) (by omega), e (o + 2) (by omega) (by omega), e (o + 3) (by omega) (by omega)]
  exact h
/-- the first so many notes of a book hold of a run -/
def soN (C : Cf) (b : Int → Int) : Nat → Bool
  | 0 => true
  | n + 1 => soN C b n && (decide (b (1 + 3 * (n : Int)) < cS C 0) && decide (b (2 + 3 * (n : Int)) < cS C 1) && decide ((rst C ((b (2 + 3 * (n : Int))).toNat + 1)).1 (b (1 + 3 * (n : Int))) = b (3 + 3 * (n : Int))))
theorem soN_f {C : Cf} {b : Int → Int} {n : Nat} (h : soN C b n = false) : ∀ d : Nat, soN C b (n + d) = false
  | 0 => h
  | d + 1 => by
    show (soN C b (n + d) && _) = false
    rw [soN_f h d, Bool.false_and]
theorem sp_Wo_isSo {g : xG} {K : Option MV → xS → Prop} {σ : xS} {o : Nat} {b : Int → Int} {C : Cf} (ho : IsBk o) (hB : BookOk b) (hR : BookR σ o b) (hC : CfOk C) (hp : PlanR σ C) (R : RunS σ 156 C 0 (cH C)) (kt : soN C b (b 0).toNat = true → K (some (vI 1)) σ) (kf : soN C b (b 0).toNat = false → K (some (vI 0)) σ) : Mt g y_Wo_isSo [vR 171, vR o] σ K := by
  have hH := cH_eq hC
  have h8 := hC.2.1
  have hB8 := hB.1
  have e0 : σ 138 0 = cS C 0 := hp.1
  have e1 : σ 138 1 = cS C 1 := hp.2.1
  have lp : ∀ (Z : xZ) (d n : Nat), (n : Int) + d = b 0 → soN C b n = true → Wx g y_Wo_isSo Z K 2 [vR 171, vR o, vI (n : Int)] [] σ := by
    intro Z d
    induction d with
    | zero =>
      intro n hn H
      have e : (b 0).toNat = n := by omega
      rw [e] at kt
      have en : σ o 0 = b 0 := hR.1
      refine x_iload_n (dat d_Wo_isSo 2 rfl) rfl rfl ?_
      refine x_aload_n (dat d_Wo_isSo 3 rfl) rfl rfl ?_
      refine x_geti (ji := 0) (v := b 0) (dat d_Wo_isSo 4 rfl) rfl f_Wo_90 (bk_oi_0 ho) (en) ?_
      refine x_icmp_ge (tgt := 85) (dat d_Wo_isSo 5 rfl) (by decide) (fun c_7 => ?_) (fun c_7 => (by omega))
      refine x_iconst (dat d_Wo_isSo 48 rfl) (by decide) ?_
      refine x_zret (dat d_Wo_isSo 49 rfl) rfl (by decide) ?_
      exact kt H
    | succ d ih =>
      intro n hn H
      have en : σ o 0 = b 0 := hR.1
      obtain ⟨r1, r2, r3⟩ := hR.2 (n : Int) (by omega) (by omega)
      obtain ⟨k1, k2, k3⟩ := hB.2 (n : Int) (by omega) (by omega)
      have st : soN C b (n + 1) = (soN C b n && (decide (b (1 + 3 * (n : Int)) < cS C 0) && decide (b (2 + 3 * (n : Int)) < cS C 1) && decide ((rst C ((b (2 + 3 * (n : Int))).toNat + 1)).1 (b (1 + 3 * (n : Int))) = b (3 + 3 * (n : Int))))) := rfl
      rw [H, Bool.true_and] at st
      have fl : soN C b (n + 1) = false → soN C b (b 0).toNat = false := fun w => by
        have := soN_f w ((b 0).toNat - (n + 1))
        rwa [show n + 1 + ((b 0).toNat - (n + 1)) = (b 0).toNat by omega] at this
      have br : b (1 + 3 * (n : Int)) < cS C 0 → b (2 + 3 * (n : Int)) < cS C 1 → σ (156 + 6) (8 * b (2 + 3 * (n : Int)) + b (1 + 3 * (n : Int))) = (rst C ((b (2 + 3 * (n : Int))).toNat + 1)).1 (b (1 + 3 * (n : Int))) := fun w1 w2 => by
        have := R.hB (h := (b (2 + 3 * (n : Int))).toNat) (by omega) (by omega) (p := b (1 + 3 * (n : Int))) k1.1 w1
        rwa [Int.toNat_of_nonneg k2.1] at this
      generalize b (1 + 3 * (n : Int)) = w at r1 k1 st br
      generalize b (2 + 3 * (n : Int)) = hq at r2 k2 st br
      generalize b (3 + 3 * (n : Int)) = x at r3 k3 st
      refine x_iload_n (dat d_Wo_isSo 2 rfl) rfl rfl ?_
      refine x_aload_n (dat d_Wo_isSo 3 rfl) rfl rfl ?_
      refine x_geti (ji := 0) (v := b 0) (dat d_Wo_isSo 4 rfl) rfl f_Wo_90 (bk_oi_0 ho) (en) ?_
      refine x_icmp_ge (tgt := 85) (dat d_Wo_isSo 5 rfl) (by decide) (fun c_7 => (by omega)) (fun c_7 => ?_)
      refine x_aload_n (dat d_Wo_isSo 6 rfl) rfl rfl ?_
      refine x_getr (r := o + 1) (dat d_Wo_isSo 7 rfl) rfl f_Wo_95 (bk_or_1 ho) ?_
      refine x_iload_n (dat d_Wo_isSo 8 rfl) rfl rfl ?_
      refine x_iald (n := 8) (v := w) (dat d_Wo_isSo 9 rfl) (bk_ai_1 ho) (by omega) (by omega) (r1) ?_
      refine x_aload_n (dat d_Wo_isSo 10 rfl) rfl rfl ?_
      refine x_getr (r := 138) (dat d_Wo_isSo 11 rfl) rfl f_Wo_19 (or_mk (by decide +kernel)) ?_
      refine x_geti (ji := 0) (v := cS C 0) (dat d_Wo_isSo 12 rfl) rfl f_Wo_51 (oi_mk (by decide +kernel)) (e0) ?_
      refine x_icmp_ge (tgt := 42) (dat d_Wo_isSo 13 rfl) (by decide) (fun c_23 => ?_) (fun c_23 => ?_)
      · refine x_iconst (dat d_Wo_isSo 22 rfl) (by decide) ?_
        refine x_zret (dat d_Wo_isSo 23 rfl) rfl (by decide) ?_
        refine kf (fl ?_)
        rw [st]
        first
        | (rw [decide_eq_false (show ¬ w < cS C 0 by omega)]; rfl)
        | (rw [decide_eq_false (show ¬ hq < cS C 1 by omega), Bool.and_false]; rfl)
        | (rw [decide_eq_false (show ¬ (rst C (hq.toNat + 1)).1 w = x by assumption), Bool.and_false])
      · refine x_aload_n (dat d_Wo_isSo 14 rfl) rfl rfl ?_
        refine x_getr (r := o + 2) (dat d_Wo_isSo 15 rfl) rfl f_Wo_98 (bk_or_2 ho) ?_
        refine x_iload_n (dat d_Wo_isSo 16 rfl) rfl rfl ?_
        refine x_iald (n := 8) (v := hq) (dat d_Wo_isSo 17 rfl) (bk_ai_2 ho) (by omega) (by omega) (r2) ?_
        refine x_aload_n (dat d_Wo_isSo 18 rfl) rfl rfl ?_
        refine x_getr (r := 138) (dat d_Wo_isSo 19 rfl) rfl f_Wo_19 (or_mk (by decide +kernel)) ?_
        refine x_geti (ji := 1) (v := cS C 1) (dat d_Wo_isSo 20 rfl) rfl f_Wo_101 (oi_mk (by decide +kernel)) (e1) ?_
        refine x_icmp_lt (tgt := 44) (dat d_Wo_isSo 21 rfl) (by decide) (fun c_39 => ?_) (fun c_39 => ?_)
        · refine x_aload_n (dat d_Wo_isSo 24 rfl) rfl rfl ?_
          refine x_getr (r := 156) (dat d_Wo_isSo 25 rfl) rfl f_Wo_23 (or_mk (by decide +kernel)) ?_
          refine x_getr (r := 162) (dat d_Wo_isSo 26 rfl) rfl f_Wo_104 (or_mk (by decide +kernel)) ?_
          refine x_aload_n (dat d_Wo_isSo 27 rfl) rfl rfl ?_
          refine x_getr (r := o + 2) (dat d_Wo_isSo 28 rfl) rfl f_Wo_98 (bk_or_2 ho) ?_
          refine x_iload_n (dat d_Wo_isSo 29 rfl) rfl rfl ?_
          refine x_iald (n := 8) (v := hq) (dat d_Wo_isSo 30 rfl) (bk_ai_2 ho) (by omega) (by omega) (r2) ?_
          refine x_bipush (dat d_Wo_isSo 31 rfl) (by decide) (by decide) ?_
          refine x_imul (v := 8 * hq) (dat d_Wo_isSo 32 rfl) (by omega) (by omega) ?_
          refine x_aload_n (dat d_Wo_isSo 33 rfl) rfl rfl ?_
          refine x_getr (r := o + 1) (dat d_Wo_isSo 34 rfl) rfl f_Wo_95 (bk_or_1 ho) ?_
          refine x_iload_n (dat d_Wo_isSo 35 rfl) rfl rfl ?_
          refine x_iald (n := 8) (v := w) (dat d_Wo_isSo 36 rfl) (bk_ai_1 ho) (by omega) (by omega) (r1) ?_
          refine x_iadd (v := (8 * hq) + w) (dat d_Wo_isSo 37 rfl) rfl (by omega) ?_
          refine x_iald (n := 192) (v := (rst C (hq.toNat + 1)).1 w) (dat d_Wo_isSo 38 rfl) (ai_mk (by decide +kernel)) (by omega) (by omega) (by exact br (by omega) (by omega)) ?_
          refine x_aload_n (dat d_Wo_isSo 39 rfl) rfl rfl ?_
          refine x_getr (r := o + 3) (dat d_Wo_isSo 40 rfl) rfl f_Wo_105 (bk_or_3 ho) ?_
          refine x_iload_n (dat d_Wo_isSo 41 rfl) rfl rfl ?_
          refine x_iald (n := 8) (v := x) (dat d_Wo_isSo 42 rfl) (bk_ai_3 ho) (by omega) (by omega) (r3) ?_
          refine x_icmp_eq (tgt := 79) (dat d_Wo_isSo 43 rfl) (by decide) (fun c_74 => ?_) (fun c_74 => ?_)
          · refine x_iinc (v' := ((n + 1 : Nat) : Int)) (L' := [vR 171, vR o, vI ((n + 1 : Nat) : Int)]) (dat d_Wo_isSo 46 rfl) rfl (by decide) rfl (by omega) (by omega) rfl ?_
            refine x_goto (tgt := 2) (dat d_Wo_isSo 47 rfl) (by decide) ?_
            refine ih (n + 1) (by omega) ?_
            rw [st, decide_eq_true (by omega), decide_eq_true (by omega), decide_eq_true (by assumption)]
            rfl
          · refine x_iconst (dat d_Wo_isSo 44 rfl) (by decide) ?_
            refine x_zret (dat d_Wo_isSo 45 rfl) rfl (by decide) ?_
            refine kf (fl ?_)
            rw [st]
            first
            | (rw [decide_eq_false (show ¬ w < cS C 0 by omega)]; rfl)
            | (rw [decide_eq_false (show ¬ hq < cS C 1 by omega), Bool.and_false]; rfl)
            | (rw [decide_eq_false (show ¬ (rst C (hq.toNat + 1)).1 w = x by assumption), Bool.and_false])
        · refine x_iconst (dat d_Wo_isSo 22 rfl) (by decide) ?_
          refine x_zret (dat d_Wo_isSo 23 rfl) rfl (by decide) ?_
          refine kf (fl ?_)
          rw [st]
          first
          | (rw [decide_eq_false (show ¬ w < cS C 0 by omega)]; rfl)
          | (rw [decide_eq_false (show ¬ hq < cS C 1 by omega), Bool.and_false]; rfl)
          | (rw [decide_eq_false (show ¬ (rst C (hq.toNat + 1)).1 w = x by assumption), Bool.and_false])
  refine x_enter 1 rfl rfl rfl (fun Z => ?_)
  show Wx g y_Wo_isSo Z K 0 [vR 171, vR o, vU] [] σ
  refine x_iconst (dat d_Wo_isSo 0 rfl) (by decide) ?_
  refine x_istore_n (L' := [vR 171, vR o, vI 0]) (dat d_Wo_isSo 1 rfl) rfl (by decide) rfl rfl ?_
  exact lp Z (b 0).toNat 0 (by have := hB.1; omega) rfl
