/-! the class's calls: what the texts tell, what a run is -/
def townA (t : Int → Int) (w : Int) : Int := if 0 ≤ w ∧ w ≤ 7 then t w else if 10 ≤ w ∧ w < 10 + t 7 then t (8 + 2 * (w - 10)) else if 20 ≤ w ∧ w < 20 + t 7 then t (9 + 2 * (w - 20)) else -1
theorem sp_Sb_quarrelOne {g : xG} {K : Option MV → xS → Prop} {σ : xS} {o : Nat} {t : Int → Int} {w : Int} (ho : IsTw o) (hT : TownOk t) (hR : TownR σ o t) (hw : ¬ (0 ≤ w ∧ w ≤ 7)) (k : K (some (vI (townA t w))) σ) : Mt g y_Sb_quarrelOne [vR 0, vR o, vI w] σ K := by
  have h7 := hT.2.2.2.2.2.2.2.1
  have e7 : σ o 7 = t 7 := hR.1 7 (by decide) (by decide)
  have kk : ∀ v : Int, v = townA t w → K (some (vI v)) σ := fun v h => by rw [h]; exact k
  have r1 : 0 ≤ w - 10 → w - 10 < t 7 → σ (o + 7) (w - 10) = t (8 + 2 * (w - 10)) := fun a b => (hR.2.2 _ a b).1
  have r2 : 0 ≤ w - 20 → w - 20 < t 7 → σ (o + 8) (w - 20) = t (9 + 2 * (w - 20)) := fun a b => (hR.2.2 _ a b).2
  refine x_enter 0 rfl rfl rfl (fun Z => ?_)
  show Wx g y_Sb_quarrelOne Z K 0 [vR 0, vR o, vI w] [] σ
  refine x_iload_n (dat d_Sb_quarrelOne 0 rfl) rfl rfl ?_
  refine x_bipush (dat d_Sb_quarrelOne 1 rfl) (by decide) (by decide) ?_
  refine x_icmp_lt (tgt := 27) (dat d_Sb_quarrelOne 2 rfl) (by decide) (fun c_3 => ?_) (fun c_3 => ?_)
  · refine x_iload_n (dat d_Sb_quarrelOne 16 rfl) rfl rfl ?_
    refine x_bipush (dat d_Sb_quarrelOne 17 rfl) (by decide) (by decide) ?_
    refine x_icmp_lt (tgt := 54) (dat d_Sb_quarrelOne 18 rfl) (by decide) (fun c_30 => ?_) (fun c_30 => ?_)
    · refine x_iconst (dat d_Sb_quarrelOne 32 rfl) (by decide) ?_
      refine x_iret (dat d_Sb_quarrelOne 33 rfl) rfl ?_
      refine kk _ ?_
      unfold townA
      rw [if_neg hw]
      first
      | (exfalso; omega)
      | (rw [if_pos (by omega)])
      | (rw [if_neg (by omega), if_pos (by omega)])
      | (rw [if_neg (by omega), if_neg (by omega)])
    · refine x_iload_n (dat d_Sb_quarrelOne 19 rfl) rfl rfl ?_
      refine x_bipush (dat d_Sb_quarrelOne 20 rfl) (by decide) (by decide) ?_
      refine x_aload_n (dat d_Sb_quarrelOne 21 rfl) rfl rfl ?_
      refine x_geti (ji := 7) (v := t 7) (dat d_Sb_quarrelOne 22 rfl) rfl f_Sb_154 (tw_oi_7 ho) (e7) ?_
      refine x_iadd (v := 20 + (t 7)) (dat d_Sb_quarrelOne 23 rfl) rfl (by omega) ?_
      refine x_icmp_ge (tgt := 54) (dat d_Sb_quarrelOne 24 rfl) (by decide) (fun c_41 => ?_) (fun c_41 => ?_)
      · refine x_iconst (dat d_Sb_quarrelOne 32 rfl) (by decide) ?_
        refine x_iret (dat d_Sb_quarrelOne 33 rfl) rfl ?_
        refine kk _ ?_
        unfold townA
        rw [if_neg hw]
        first
        | (exfalso; omega)
        | (rw [if_pos (by omega)])
        | (rw [if_neg (by omega), if_pos (by omega)])
        | (rw [if_neg (by omega), if_neg (by omega)])
      · refine x_aload_n (dat d_Sb_quarrelOne 25 rfl) rfl rfl ?_
        refine x_getr (r := o + 8) (dat d_Sb_quarrelOne 26 rfl) rfl f_Sb_165 (tw_or_15 ho) ?_
        refine x_iload_n (dat d_Sb_quarrelOne 27 rfl) rfl rfl ?_
        refine x_bipush (dat d_Sb_quarrelOne 28 rfl) (by decide) (by decide) ?_
        refine x_isub (v := w - 20) (dat d_Sb_quarrelOne 29 rfl) rfl (by omega) ?_
        refine x_iald (n := 6) (v := t (9 + 2 * (w - 20))) (dat d_Sb_quarrelOne 30 rfl) (tw_ai_8 ho) (by omega) (by omega) (by exact r2 (by omega) (by omega)) ?_
        refine x_iret (dat d_Sb_quarrelOne 31 rfl) rfl ?_
        refine kk _ ?_
        unfold townA
        rw [if_neg hw]
        first
        | (exfalso; omega)
        | (rw [if_pos (by omega)])
        | (rw [if_neg (by omega), if_pos (by omega)])
        | (rw [if_neg (by omega), if_neg (by omega)])
  · refine x_iload_n (dat d_Sb_quarrelOne 3 rfl) rfl rfl ?_
    refine x_bipush (dat d_Sb_quarrelOne 4 rfl) (by decide) (by decide) ?_
    refine x_aload_n (dat d_Sb_quarrelOne 5 rfl) rfl rfl ?_
    refine x_geti (ji := 7) (v := t 7) (dat d_Sb_quarrelOne 6 rfl) rfl f_Sb_154 (tw_oi_7 ho) (e7) ?_
    refine x_iadd (v := 10 + (t 7)) (dat d_Sb_quarrelOne 7 rfl) rfl (by omega) ?_
    refine x_icmp_ge (tgt := 27) (dat d_Sb_quarrelOne 8 rfl) (by decide) (fun c_14 => ?_) (fun c_14 => ?_)
    · refine x_iload_n (dat d_Sb_quarrelOne 16 rfl) rfl rfl ?_
      refine x_bipush (dat d_Sb_quarrelOne 17 rfl) (by decide) (by decide) ?_
      refine x_icmp_lt (tgt := 54) (dat d_Sb_quarrelOne 18 rfl) (by decide) (fun c_30 => ?_) (fun c_30 => ?_)
      · refine x_iconst (dat d_Sb_quarrelOne 32 rfl) (by decide) ?_
        refine x_iret (dat d_Sb_quarrelOne 33 rfl) rfl ?_
        refine kk _ ?_
        unfold townA
        rw [if_neg hw]
        first
        | (exfalso; omega)
        | (rw [if_pos (by omega)])
        | (rw [if_neg (by omega), if_pos (by omega)])
        | (rw [if_neg (by omega), if_neg (by omega)])
      · refine x_iload_n (dat d_Sb_quarrelOne 19 rfl) rfl rfl ?_
        refine x_bipush (dat d_Sb_quarrelOne 20 rfl) (by decide) (by decide) ?_
        refine x_aload_n (dat d_Sb_quarrelOne 21 rfl) rfl rfl ?_
        refine x_geti (ji := 7) (v := t 7) (dat d_Sb_quarrelOne 22 rfl) rfl f_Sb_154 (tw_oi_7 ho) (e7) ?_
        refine x_iadd (v := 20 + (t 7)) (dat d_Sb_quarrelOne 23 rfl) rfl (by omega) ?_
        refine x_icmp_ge (tgt := 54) (dat d_Sb_quarrelOne 24 rfl) (by decide) (fun c_41 => ?_) (fun c_41 => ?_)
        · refine x_iconst (dat d_Sb_quarrelOne 32 rfl) (by decide) ?_
          refine x_iret (dat d_Sb_quarrelOne 33 rfl) rfl ?_
          refine kk _ ?_
          unfold townA
          rw [if_neg hw]
          first
          | (exfalso; omega)
          | (rw [if_pos (by omega)])
          | (rw [if_neg (by omega), if_pos (by omega)])
          | (rw [if_neg (by omega), if_neg (by omega)])
        · refine x_aload_n (dat d_Sb_quarrelOne 25 rfl) rfl rfl ?_
          refine x_getr (r := o + 8) (dat d_Sb_quarrelOne 26 rfl) rfl f_Sb_165 (tw_or_15 ho) ?_
          refine x_iload_n (dat d_Sb_quarrelOne 27 rfl) rfl rfl ?_
          refine x_bipush (dat d_Sb_quarrelOne 28 rfl) (by decide) (by decide) ?_
          refine x_isub (v := w - 20) (dat d_Sb_quarrelOne 29 rfl) rfl (by omega) ?_
          refine x_iald (n := 6) (v := t (9 + 2 * (w - 20))) (dat d_Sb_quarrelOne 30 rfl) (tw_ai_8 ho) (by omega) (by omega) (by exact r2 (by omega) (by omega)) ?_
          refine x_iret (dat d_Sb_quarrelOne 31 rfl) rfl ?_
          refine kk _ ?_
          unfold townA
          rw [if_neg hw]
          first
          | (exfalso; omega)
          | (rw [if_pos (by omega)])
          | (rw [if_neg (by omega), if_pos (by omega)])
          | (rw [if_neg (by omega), if_neg (by omega)])
    · refine x_aload_n (dat d_Sb_quarrelOne 9 rfl) rfl rfl ?_
      refine x_getr (r := o + 7) (dat d_Sb_quarrelOne 10 rfl) rfl f_Sb_161 (tw_or_14 ho) ?_
      refine x_iload_n (dat d_Sb_quarrelOne 11 rfl) rfl rfl ?_
      refine x_bipush (dat d_Sb_quarrelOne 12 rfl) (by decide) (by decide) ?_
      refine x_isub (v := w - 10) (dat d_Sb_quarrelOne 13 rfl) rfl (by omega) ?_
      refine x_iald (n := 6) (v := t (8 + 2 * (w - 10))) (dat d_Sb_quarrelOne 14 rfl) (tw_ai_7 ho) (by omega) (by omega) (by exact r1 (by omega) (by omega)) ?_
      refine x_iret (dat d_Sb_quarrelOne 15 rfl) rfl ?_
      refine kk _ ?_
      unfold townA
      rw [if_neg hw]
      first
      | (exfalso; omega)
      | (rw [if_pos (by omega)])
      | (rw [if_neg (by omega), if_pos (by omega)])
      | (rw [if_neg (by omega), if_neg (by omega)])
theorem sp_Sb_town {g : xG} {K : Option MV → xS → Prop} {σ : xS} {a : Int → Int} {im : Nat → Int → Int} {n w : Int} (H : SbR σ a im) (k : ∀ r : Int, atT a n (-1) (fun t r => r = townA t w) r → K (some (vI r)) σ) : Mt g y_Sb_town [vR 0, vI n, vI w] σ K := by
  have kk : ∀ v : Int, 0 ≤ n → n < a 0 → v = townA (tw a n) w → K (some (vI v)) σ := fun v n0 n1 h => k v ⟨fun c => absurd ⟨n0, n1⟩ c, fun _ _ => h⟩
  have tA : ∀ t : Int → Int, 0 ≤ w → w ≤ 7 → t w = townA t w := fun t w0 w1 => by unfold townA; rw [if_pos ⟨w0, w1⟩]
  refine x_enter 1 rfl rfl rfl (fun Z => ?_)
  show Wx g y_Sb_town Z K 0 [vR 0, vI n, vI w, vU] [] σ
  refine x_aload_n (dat d_Sb_town 0 rfl) rfl rfl ?_
  refine x_getr (r := 1) (dat d_Sb_town 1 rfl) rfl f_Sb_10 (or_mk (by decide +kernel)) ?_
  refine x_iload_n (dat d_Sb_town 2 rfl) rfl rfl ?_
  refine x_inv (As := [vI n]) (dat d_Sb_town 3 rfl) rfl c_To_townAt l_Sb_127 (by decide) (rv_to (by decide +kernel)) rfl rfl (Nat.le_of_ble_eq_true rfl) ?_
  refine sp_townAt H.1 (fun c => ?_) (fun q n0 n1 hq q30 hT hR => ?_)
  · show Wx g y_Sb_town Z K 8 [vR 0, vI n, vI w, vU] [vN] σ
    refine x_astore_nN (L' := [vR 0, vI n, vI w, vN]) (dat d_Sb_town 4 rfl) rfl (by decide) rfl rfl ?_
    refine x_aload_nN (dat d_Sb_town 5 rfl) rfl rfl ?_
    refine x_ifnonnullN (dat d_Sb_town 6 rfl) ?_
    refine x_iconst (dat d_Sb_town 7 rfl) (by decide) ?_
    refine x_iret (dat d_Sb_town 8 rfl) rfl ?_
    exact k _ ⟨fun _ => rfl, fun a b => absurd ⟨a, b⟩ c⟩
  · show Wx g y_Sb_town Z K 8 [vR 0, vI n, vI w, vU] [vR q] σ
    refine x_astore_n (L' := [vR 0, vI n, vI w, vR q]) (dat d_Sb_town 4 rfl) rfl (by decide) rfl rfl ?_
    refine x_aload_n (dat d_Sb_town 5 rfl) rfl rfl ?_
    refine x_ifnonnull (tgt := 15) (dat d_Sb_town 6 rfl) (by decide) ?_
    refine x_iload_n (dat d_Sb_town 9 rfl) rfl rfl ?_
    by_cases c_16 : w < 0 ∨ 7 < w
    · refine x_tableOut (tgt := 104) (dat d_Sb_town 10 rfl).1 c_16 (by decide) ?_
      refine x_aload_n (dat d_Sb_town 35 rfl) rfl rfl ?_
      refine x_aload_n (dat d_Sb_town 36 rfl) rfl rfl ?_
      refine x_iload_n (dat d_Sb_town 37 rfl) rfl rfl ?_
      refine x_inv (As := [vR q, vI w]) (dat d_Sb_town 38 rfl) rfl c_Sb_quarrelOne l_Sb_157 (by decide) (rv_sb (by decide +kernel)) rfl rfl (Nat.le_of_ble_eq_true rfl) ?_
      refine sp_Sb_quarrelOne hq hT hR (by omega) ?_
      show Wx g y_Sb_town Z K 110 [vR 0, vI n, vI w, vR q] [vI (townA (tw a n) w)] σ
      refine x_iret (dat d_Sb_town 39 rfl) rfl ?_
      exact kk _ n0 n1 rfl
    · have e_16 : w = 0 ∨ w = 1 ∨ w = 2 ∨ w = 3 ∨ w = 4 ∨ w = 5 ∨ w = 6 ∨ w = 7 := by omega
      rcases e_16 with e_16 | e_16 | e_16 | e_16 | e_16 | e_16 | e_16 | e_16
      · refine x_tableIn (tgt := 64) (dat d_Sb_town 10 rfl).1 0 rfl (by omega) (by decide) ?_
        refine x_aload_n (dat d_Sb_town 11 rfl) rfl rfl ?_
        refine x_geti (ji := 0) (v := σ q 0) (dat d_Sb_town 12 rfl) rfl f_Sb_131 (tw_oi_0 hq) rfl ?_
        refine x_iret (dat d_Sb_town 13 rfl) rfl ?_
        subst e_16
        refine kk _ n0 n1 ?_
        rw [← tA (tw a n) (by decide) (by decide)]
        exact hR.1 _ (by decide) (by decide)
      · refine x_tableIn (tgt := 69) (dat d_Sb_town 10 rfl).1 1 rfl (by omega) (by decide) ?_
        refine x_aload_n (dat d_Sb_town 14 rfl) rfl rfl ?_
        refine x_geti (ji := 1) (v := σ q 1) (dat d_Sb_town 15 rfl) rfl f_Sb_136 (tw_oi_1 hq) rfl ?_
        refine x_iret (dat d_Sb_town 16 rfl) rfl ?_
        subst e_16
        refine kk _ n0 n1 ?_
        rw [← tA (tw a n) (by decide) (by decide)]
        exact hR.1 _ (by decide) (by decide)
      · refine x_tableIn (tgt := 74) (dat d_Sb_town 10 rfl).1 2 rfl (by omega) (by decide) ?_
        refine x_aload_n (dat d_Sb_town 17 rfl) rfl rfl ?_
        refine x_geti (ji := 2) (v := σ q 2) (dat d_Sb_town 18 rfl) rfl f_Sb_139 (tw_oi_2 hq) rfl ?_
        refine x_iret (dat d_Sb_town 19 rfl) rfl ?_
        subst e_16
        refine kk _ n0 n1 ?_
        rw [← tA (tw a n) (by decide) (by decide)]
        exact hR.1 _ (by decide) (by decide)
      · refine x_tableIn (tgt := 79) (dat d_Sb_town 10 rfl).1 3 rfl (by omega) (by decide) ?_
        refine x_aload_n (dat d_Sb_town 20 rfl) rfl rfl ?_
        refine x_geti (ji := 3) (v := σ q 3) (dat d_Sb_town 21 rfl) rfl f_Sb_142 (tw_oi_3 hq) rfl ?_
        refine x_iret (dat d_Sb_town 22 rfl) rfl ?_
        subst e_16
        refine kk _ n0 n1 ?_
        rw [← tA (tw a n) (by decide) (by decide)]
        exact hR.1 _ (by decide) (by decide)
      · refine x_tableIn (tgt := 84) (dat d_Sb_town 10 rfl).1 4 rfl (by omega) (by decide) ?_
        refine x_aload_n (dat d_Sb_town 23 rfl) rfl rfl ?_
        refine x_geti (ji := 4) (v := σ q 4) (dat d_Sb_town 24 rfl) rfl f_Sb_145 (tw_oi_4 hq) rfl ?_
        refine x_iret (dat d_Sb_town 25 rfl) rfl ?_
        subst e_16
        refine kk _ n0 n1 ?_
        rw [← tA (tw a n) (by decide) (by decide)]
        exact hR.1 _ (by decide) (by decide)
      · refine x_tableIn (tgt := 89) (dat d_Sb_town 10 rfl).1 5 rfl (by omega) (by decide) ?_
        refine x_aload_n (dat d_Sb_town 26 rfl) rfl rfl ?_
        refine x_geti (ji := 5) (v := σ q 5) (dat d_Sb_town 27 rfl) rfl f_Sb_148 (tw_oi_5 hq) rfl ?_
        refine x_iret (dat d_Sb_town 28 rfl) rfl ?_
        subst e_16
        refine kk _ n0 n1 ?_
        rw [← tA (tw a n) (by decide) (by decide)]
        exact hR.1 _ (by decide) (by decide)
      · refine x_tableIn (tgt := 94) (dat d_Sb_town 10 rfl).1 6 rfl (by omega) (by decide) ?_
        refine x_aload_n (dat d_Sb_town 29 rfl) rfl rfl ?_
        refine x_geti (ji := 6) (v := σ q 6) (dat d_Sb_town 30 rfl) rfl f_Sb_151 (tw_oi_6 hq) rfl ?_
        refine x_iret (dat d_Sb_town 31 rfl) rfl ?_
        subst e_16
        refine kk _ n0 n1 ?_
        rw [← tA (tw a n) (by decide) (by decide)]
        exact hR.1 _ (by decide) (by decide)
      · refine x_tableIn (tgt := 99) (dat d_Sb_town 10 rfl).1 7 rfl (by omega) (by decide) ?_
        refine x_aload_n (dat d_Sb_town 32 rfl) rfl rfl ?_
        refine x_geti (ji := 7) (v := σ q 7) (dat d_Sb_town 33 rfl) rfl f_Sb_154 (tw_oi_7 hq) rfl ?_
        refine x_iret (dat d_Sb_town 34 rfl) rfl ?_
        subst e_16
        refine kk _ n0 n1 ?_
        rw [← tA (tw a n) (by decide) (by decide)]
        exact hR.1 _ (by decide) (by decide)
def personA (t : Int → Int) (p w : Int) : Int := if ¬ (0 ≤ p ∧ p < t 6) then -1 else if 0 ≤ w ∧ w ≤ 4 then t (20 + 17 * p + w) else if 10 ≤ w ∧ w < 10 + t (24 + 17 * p) then t (25 + 17 * p + (w - 10)) else -1
theorem sp_Sb_person {g : xG} {K : Option MV → xS → Prop} {σ : xS} {a : Int → Int} {im : Nat → Int → Int} {n p w : Int} (H : SbR σ a im) (k : ∀ r : Int, atT a n (-1) (fun t r => r = personA t p w) r → K (some (vI r)) σ) : Mt g y_Sb_person [vR 0, vI n, vI p, vI w] σ K := by
  have kk : ∀ v : Int, 0 ≤ n → n < a 0 → v = personA (tw a n) p w → K (some (vI v)) σ := fun v n0 n1 h => k v ⟨fun c => absurd ⟨n0, n1⟩ c, fun _ _ => h⟩
  refine x_enter 1 rfl rfl rfl (fun Z => ?_)
  show Wx g y_Sb_person Z K 0 [vR 0, vI n, vI p, vI w, vU] [] σ
  refine x_aload_n (dat d_Sb_person 0 rfl) rfl rfl ?_
  refine x_getr (r := 1) (dat d_Sb_person 1 rfl) rfl f_Sb_10 (or_mk (by decide +kernel)) ?_
  refine x_iload_n (dat d_Sb_person 2 rfl) rfl rfl ?_
  refine x_inv (As := [vI n]) (dat d_Sb_person 3 rfl) rfl c_To_townAt l_Sb_127 (by decide) (rv_to (by decide +kernel)) rfl rfl (Nat.le_of_ble_eq_true rfl) ?_
  refine sp_townAt H.1 (fun c => ?_) (fun q n0 n1 hq q30 hT hR => ?_)
  · show Wx g y_Sb_person Z K 8 [vR 0, vI n, vI p, vI w, vU] [vN] σ
    refine x_astoreN (L' := [vR 0, vI n, vI p, vI w, vN]) (dat d_Sb_person 4 rfl) (by decide) rfl rfl ?_
    refine x_aloadN (dat d_Sb_person 5 rfl) rfl ?_
    refine x_ifnullN (tgt := 24) (dat d_Sb_person 6 rfl) (by decide) ?_
    refine x_iconst (dat d_Sb_person 11 rfl) (by decide) ?_
    refine x_iret (dat d_Sb_person 12 rfl) rfl ?_
    first
    | (refine kk _ n0 n1 ?_
       unfold personA
       rw [if_pos c])
    | exact k _ ⟨fun _ => rfl, fun a b => absurd ⟨a, b⟩ c⟩
  · show Wx g y_Sb_person Z K 8 [vR 0, vI n, vI p, vI w, vU] [vR q] σ
    refine x_astore (L' := [vR 0, vI n, vI p, vI w, vR q]) (dat d_Sb_person 4 rfl) (by decide) rfl rfl ?_
    refine x_aload (dat d_Sb_person 5 rfl) rfl ?_
    refine x_ifnull (dat d_Sb_person 6 rfl) ?_
    refine x_aload (dat d_Sb_person 7 rfl) rfl ?_
    refine x_iload_n (dat d_Sb_person 8 rfl) rfl rfl ?_
    refine x_inv (As := [vI p]) (dat d_Sb_person 9 rfl) rfl c_Tw_hasPerson l_Sb_168 (by decide) (rv_tw (tw_k hq)) rfl rfl (Nat.le_of_ble_eq_true rfl) ?_
    have h6 := hT.2.2.2.2.2.2.1
    generalize ht : tw a n = t at hT hR h6 kk
    refine sp_Tw_hasPerson hq hT hR (fun p0 p1 => ?_) (fun c => ?_)
    · show Wx g y_Sb_person Z K 21 [vR 0, vI n, vI p, vI w, vR q] [vI 1] σ
      refine x_if_ne (tgt := 26) (dat d_Sb_person 10 rfl) (by decide) (fun c_21 => ?_) (fun h => absurd h (by decide))
      obtain ⟨r1, r2, r3, r4, r5, r6⟩ := hR.2.1 p p0 p1
      have ts := (hT.2.2.2.2.2.2.2.2.1 p p0 p1).2.2.2.2.1
      refine x_iload_n (dat d_Sb_person 13 rfl) rfl rfl ?_
      by_cases c_27 : w < 0 ∨ 4 < w
      · refine x_tableOut (tgt := 100) (dat d_Sb_person 14 rfl).1 c_27 (by decide) ?_
        refine x_iload_n (dat d_Sb_person 40 rfl) rfl rfl ?_
        refine x_bipush (dat d_Sb_person 41 rfl) (by decide) (by decide) ?_
        refine x_icmp_lt (tgt := 120) (dat d_Sb_person 42 rfl) (by decide) (fun c_103 => ?_) (fun c_103 => ?_)
        · refine x_iconst (dat d_Sb_person 51 rfl) (by decide) ?_
          refine x_iret (dat d_Sb_person 52 rfl) rfl ?_
          refine kk _ n0 n1 ?_
          unfold personA
          rw [if_neg (fun z => z ⟨p0, p1⟩)]
          first
          | (rw [if_pos (by omega)]; congr 1; omega)
          | (rw [if_neg (by omega), if_pos (by omega)])
          | (rw [if_neg (by omega), if_neg (by omega)])
        · refine x_iload_n (dat d_Sb_person 43 rfl) rfl rfl ?_
          refine x_bipush (dat d_Sb_person 44 rfl) (by decide) (by decide) ?_
          refine x_aload (dat d_Sb_person 45 rfl) rfl ?_
          refine x_getr (r := q + 5) (dat d_Sb_person 46 rfl) rfl f_Sb_184 (tw_or_12 hq) ?_
          refine x_iload_n (dat d_Sb_person 47 rfl) rfl rfl ?_
          refine x_iald (n := 8) (v := t (24 + 17 * p)) (dat d_Sb_person 48 rfl) (tw_ai_5 hq) (by omega) (by omega) (by exact r5) ?_
          refine x_iadd (v := 10 + (t (24 + 17 * p))) (dat d_Sb_person 49 rfl) rfl (by omega) ?_
          refine x_icmp_lt (tgt := 122) (dat d_Sb_person 50 rfl) (by decide) (fun c_117 => ?_) (fun c_117 => ?_)
          · refine x_aload (dat d_Sb_person 53 rfl) rfl ?_
            refine x_getr (r := q + 6) (dat d_Sb_person 54 rfl) rfl f_Sb_187 (tw_or_13 hq) ?_
            refine x_iload_n (dat d_Sb_person 55 rfl) rfl rfl ?_
            refine x_bipush (dat d_Sb_person 56 rfl) (by decide) (by decide) ?_
            refine x_imul (v := 12 * p) (dat d_Sb_person 57 rfl) (by omega) (by omega) ?_
            refine x_iload_n (dat d_Sb_person 58 rfl) rfl rfl ?_
            refine x_iadd (v := (12 * p) + w) (dat d_Sb_person 59 rfl) rfl (by omega) ?_
            refine x_bipush (dat d_Sb_person 60 rfl) (by decide) (by decide) ?_
            refine x_isub (v := ((12 * p) + w) - 10) (dat d_Sb_person 61 rfl) rfl (by omega) ?_
            refine x_iald (n := 96) (v := t (25 + 17 * p + (w - 10))) (dat d_Sb_person 62 rfl) (tw_ai_6 hq) (by omega) (by omega) (by rw [show 12 * p + w - 10 = 12 * p + (w - 10) by omega]; exact r6 (w - 10) (by omega) (by omega)) ?_
            refine x_iret (dat d_Sb_person 63 rfl) rfl ?_
            refine kk _ n0 n1 ?_
            unfold personA
            rw [if_neg (fun z => z ⟨p0, p1⟩)]
            first
            | (rw [if_pos (by omega)]; congr 1; omega)
            | (rw [if_neg (by omega), if_pos (by omega)])
            | (rw [if_neg (by omega), if_neg (by omega)])
          · refine x_iconst (dat d_Sb_person 51 rfl) (by decide) ?_
            refine x_iret (dat d_Sb_person 52 rfl) rfl ?_
            refine kk _ n0 n1 ?_
            unfold personA
            rw [if_neg (fun z => z ⟨p0, p1⟩)]
            first
            | (rw [if_pos (by omega)]; congr 1; omega)
            | (rw [if_neg (by omega), if_pos (by omega)])
            | (rw [if_neg (by omega), if_neg (by omega)])
      · have e_27 : w = 0 ∨ w = 1 ∨ w = 2 ∨ w = 3 ∨ w = 4 := by omega
        rcases e_27 with e_27 | e_27 | e_27 | e_27 | e_27
        · refine x_tableIn (tgt := 60) (dat d_Sb_person 14 rfl).1 0 rfl (by omega) (by decide) ?_
          refine x_aload (dat d_Sb_person 15 rfl) rfl ?_
          refine x_getr (r := q + 1) (dat d_Sb_person 16 rfl) rfl f_Sb_172 (tw_or_8 hq) ?_
          refine x_iload_n (dat d_Sb_person 17 rfl) rfl rfl ?_
          refine x_iald (n := 8) (v := t (20 + 17 * p)) (dat d_Sb_person 18 rfl) (tw_ai_1 hq) (by omega) (by omega) (by exact r1) ?_
          refine x_iret (dat d_Sb_person 19 rfl) rfl ?_
          refine kk _ n0 n1 ?_
          unfold personA
          rw [if_neg (fun z => z ⟨p0, p1⟩)]
          first
          | (rw [if_pos (by omega)]; congr 1; omega)
          | (rw [if_neg (by omega), if_pos (by omega)])
          | (rw [if_neg (by omega), if_neg (by omega)])
        · refine x_tableIn (tgt := 68) (dat d_Sb_person 14 rfl).1 1 rfl (by omega) (by decide) ?_
          refine x_aload (dat d_Sb_person 20 rfl) rfl ?_
          refine x_getr (r := q + 2) (dat d_Sb_person 21 rfl) rfl f_Sb_175 (tw_or_9 hq) ?_
          refine x_iload_n (dat d_Sb_person 22 rfl) rfl rfl ?_
          refine x_iald (n := 8) (v := t (21 + 17 * p)) (dat d_Sb_person 23 rfl) (tw_ai_2 hq) (by omega) (by omega) (by exact r2) ?_
          refine x_iret (dat d_Sb_person 24 rfl) rfl ?_
          refine kk _ n0 n1 ?_
          unfold personA
          rw [if_neg (fun z => z ⟨p0, p1⟩)]
          first
          | (rw [if_pos (by omega)]; congr 1; omega)
          | (rw [if_neg (by omega), if_pos (by omega)])
          | (rw [if_neg (by omega), if_neg (by omega)])
        · refine x_tableIn (tgt := 76) (dat d_Sb_person 14 rfl).1 2 rfl (by omega) (by decide) ?_
          refine x_aload (dat d_Sb_person 25 rfl) rfl ?_
          refine x_getr (r := q + 3) (dat d_Sb_person 26 rfl) rfl f_Sb_178 (tw_or_10 hq) ?_
          refine x_iload_n (dat d_Sb_person 27 rfl) rfl rfl ?_
          refine x_iald (n := 8) (v := t (22 + 17 * p)) (dat d_Sb_person 28 rfl) (tw_ai_3 hq) (by omega) (by omega) (by exact r3) ?_
          refine x_iret (dat d_Sb_person 29 rfl) rfl ?_
          refine kk _ n0 n1 ?_
          unfold personA
          rw [if_neg (fun z => z ⟨p0, p1⟩)]
          first
          | (rw [if_pos (by omega)]; congr 1; omega)
          | (rw [if_neg (by omega), if_pos (by omega)])
          | (rw [if_neg (by omega), if_neg (by omega)])
        · refine x_tableIn (tgt := 84) (dat d_Sb_person 14 rfl).1 3 rfl (by omega) (by decide) ?_
          refine x_aload (dat d_Sb_person 30 rfl) rfl ?_
          refine x_getr (r := q + 4) (dat d_Sb_person 31 rfl) rfl f_Sb_181 (tw_or_11 hq) ?_
          refine x_iload_n (dat d_Sb_person 32 rfl) rfl rfl ?_
          refine x_iald (n := 8) (v := t (23 + 17 * p)) (dat d_Sb_person 33 rfl) (tw_ai_4 hq) (by omega) (by omega) (by exact r4) ?_
          refine x_iret (dat d_Sb_person 34 rfl) rfl ?_
          refine kk _ n0 n1 ?_
          unfold personA
          rw [if_neg (fun z => z ⟨p0, p1⟩)]
          first
          | (rw [if_pos (by omega)]; congr 1; omega)
          | (rw [if_neg (by omega), if_pos (by omega)])
          | (rw [if_neg (by omega), if_neg (by omega)])
        · refine x_tableIn (tgt := 92) (dat d_Sb_person 14 rfl).1 4 rfl (by omega) (by decide) ?_
          refine x_aload (dat d_Sb_person 35 rfl) rfl ?_
          refine x_getr (r := q + 5) (dat d_Sb_person 36 rfl) rfl f_Sb_184 (tw_or_12 hq) ?_
          refine x_iload_n (dat d_Sb_person 37 rfl) rfl rfl ?_
          refine x_iald (n := 8) (v := t (24 + 17 * p)) (dat d_Sb_person 38 rfl) (tw_ai_5 hq) (by omega) (by omega) (by exact r5) ?_
          refine x_iret (dat d_Sb_person 39 rfl) rfl ?_
          refine kk _ n0 n1 ?_
          unfold personA
          rw [if_neg (fun z => z ⟨p0, p1⟩)]
          first
          | (rw [if_pos (by omega)]; congr 1; omega)
          | (rw [if_neg (by omega), if_pos (by omega)])
          | (rw [if_neg (by omega), if_neg (by omega)])
    · show Wx g y_Sb_person Z K 21 [vR 0, vI n, vI p, vI w, vR q] [vI 0] σ
      refine x_if_ne (tgt := 26) (dat d_Sb_person 10 rfl) (by decide) (fun h => absurd h (by decide)) (fun c_21 => ?_)
      refine x_iconst (dat d_Sb_person 11 rfl) (by decide) ?_
      refine x_iret (dat d_Sb_person 12 rfl) rfl ?_
      first
      | (refine kk _ n0 n1 ?_
         unfold personA
         rw [if_pos c])
      | exact k _ ⟨fun _ => rfl, fun a b => absurd ⟨a, b⟩ c⟩
def noteA (b : Int → Int) (k w : Int) : Int := if k = -1 ∧ w = 0 then b 0 else if ¬ (0 ≤ k ∧ k < b 0) then -2 else if 0 ≤ w ∧ w ≤ 2 then b (1 + 3 * k + w) else -2
theorem sp_Sb_note {g : xG} {K : Option MV → xS → Prop} {σ : xS} {a : Int → Int} {im : Nat → Int → Int} {n j w : Int} (H : SbR σ a im) (k : ∀ r : Int, (¬ (0 ≤ n ∧ n < a 1) → r = -2) → (0 ≤ n → n < a 1 → r = noteA (bk a n) j w) → K (some (vI r)) σ) : Mt g y_Sb_note [vR 0, vI n, vI j, vI w] σ K := by
  have kk : ∀ v : Int, 0 ≤ n → n < a 1 → v = noteA (bk a n) j w → K (some (vI v)) σ := fun v n0 n1 h => k v (fun c => absurd ⟨n0, n1⟩ c) (fun _ _ => h)
  refine x_enter 1 rfl rfl rfl (fun Z => ?_)
  show Wx g y_Sb_note Z K 0 [vR 0, vI n, vI j, vI w, vU] [] σ
  refine x_aload_n (dat d_Sb_note 0 rfl) rfl rfl ?_
  refine x_getr (r := 1) (dat d_Sb_note 1 rfl) rfl f_Sb_10 (or_mk (by decide +kernel)) ?_
  refine x_iload_n (dat d_Sb_note 2 rfl) rfl rfl ?_
  refine x_inv (As := [vI n]) (dat d_Sb_note 3 rfl) rfl c_To_bookAt l_Sb_190 (by decide) (rv_to (by decide +kernel)) rfl rfl (Nat.le_of_ble_eq_true rfl) ?_
  refine sp_bookAt H.1 (fun c => ?_) (fun q n0 n1 hq q30 hB hR => ?_)
  · show Wx g y_Sb_note Z K 8 [vR 0, vI n, vI j, vI w, vU] [vN] σ
    refine x_astoreN (L' := [vR 0, vI n, vI j, vI w, vN]) (dat d_Sb_note 4 rfl) (by decide) rfl rfl ?_
    refine x_aloadN (dat d_Sb_note 5 rfl) rfl ?_
    refine x_ifnonnullN (dat d_Sb_note 6 rfl) ?_
    refine x_bipush (dat d_Sb_note 7 rfl) (by decide) (by decide) ?_
    refine x_iret (dat d_Sb_note 8 rfl) rfl ?_
    exact k _ (fun _ => rfl) (fun a b => absurd ⟨a, b⟩ c)
  · show Wx g y_Sb_note Z K 8 [vR 0, vI n, vI j, vI w, vU] [vR q] σ
    refine x_astore (L' := [vR 0, vI n, vI j, vI w, vR q]) (dat d_Sb_note 4 rfl) (by decide) rfl rfl ?_
    refine x_aload (dat d_Sb_note 5 rfl) rfl ?_
    refine x_ifnonnull (tgt := 18) (dat d_Sb_note 6 rfl) (by decide) ?_
    have eb : σ q 0 = bk a n 0 := hR.1
    have b8 := hB.1
    have rr := fun (j0 : 0 ≤ j) (j1 : j < bk a n 0) => hR.2 j j0 j1
    generalize ht : bk a n = b at hB eb kk b8 rr
    refine x_iload_n (dat d_Sb_note 9 rfl) rfl rfl ?_
    refine x_iconst (dat d_Sb_note 10 rfl) (by decide) ?_
    refine x_icmp_ne (tgt := 33) (dat d_Sb_note 11 rfl) (by decide) (fun c_20 => ?_) (fun c_20 => ?_)
    · refine x_iload_n (dat d_Sb_note 17 rfl) rfl rfl ?_
      refine x_if_lt (tgt := 46) (dat d_Sb_note 18 rfl) (by decide) (fun c_34 => ?_) (fun c_34 => ?_)
      · refine x_bipush (dat d_Sb_note 23 rfl) (by decide) (by decide) ?_
        refine x_iret (dat d_Sb_note 24 rfl) rfl ?_
        refine kk _ n0 n1 ?_
        unfold noteA
        first
        | (exfalso; omega)
        | (rw [if_pos (by omega)])
        | (rw [if_neg (by omega), if_pos (by omega)])
        | (rw [if_neg (by omega), if_neg (by omega), if_neg (by omega)])
        | (rw [if_neg (by omega), if_neg (by omega), if_pos (by omega)]; congr 1; omega)
      · refine x_iload_n (dat d_Sb_note 19 rfl) rfl rfl ?_
        refine x_aload (dat d_Sb_note 20 rfl) rfl ?_
        refine x_geti (ji := 0) (v := b 0) (dat d_Sb_note 21 rfl) rfl f_Sb_194 (bk_oi_0 hq) (eb) ?_
        refine x_icmp_lt (tgt := 49) (dat d_Sb_note 22 rfl) (by decide) (fun c_43 => ?_) (fun c_43 => ?_)
        · refine x_iload_n (dat d_Sb_note 25 rfl) rfl rfl ?_
          by_cases c_50 : w < 0 ∨ 2 < w
          · refine x_tableOut (tgt := 100) (dat d_Sb_note 26 rfl).1 c_50 (by decide) ?_
            refine x_bipush (dat d_Sb_note 42 rfl) (by decide) (by decide) ?_
            refine x_iret (dat d_Sb_note 43 rfl) rfl ?_
            refine kk _ n0 n1 ?_
            unfold noteA
            first
            | (exfalso; omega)
            | (rw [if_pos (by omega)])
            | (rw [if_neg (by omega), if_pos (by omega)])
            | (rw [if_neg (by omega), if_neg (by omega), if_neg (by omega)])
            | (rw [if_neg (by omega), if_neg (by omega), if_pos (by omega)]; congr 1; omega)
          · have e_50 : w = 0 ∨ w = 1 ∨ w = 2 := by omega
            rcases e_50 with e_50 | e_50 | e_50
            · refine x_tableIn (tgt := 76) (dat d_Sb_note 26 rfl).1 0 rfl (by omega) (by decide) ?_
              refine x_aload (dat d_Sb_note 27 rfl) rfl ?_
              refine x_getr (r := q + 1) (dat d_Sb_note 28 rfl) rfl f_Sb_199 (bk_or_1 hq) ?_
              refine x_iload_n (dat d_Sb_note 29 rfl) rfl rfl ?_
              refine x_iald (n := 8) (v := b (1 + 3 * j)) (dat d_Sb_note 30 rfl) (bk_ai_1 hq) (by omega) (by omega) (by exact (rr (by omega) (by omega)).1) ?_
              refine x_iret (dat d_Sb_note 31 rfl) rfl ?_
              refine kk _ n0 n1 ?_
              unfold noteA
              first
              | (exfalso; omega)
              | (rw [if_pos (by omega)])
              | (rw [if_neg (by omega), if_pos (by omega)])
              | (rw [if_neg (by omega), if_neg (by omega), if_neg (by omega)])
              | (rw [if_neg (by omega), if_neg (by omega), if_pos (by omega)]; congr 1; omega)
            · refine x_tableIn (tgt := 84) (dat d_Sb_note 26 rfl).1 1 rfl (by omega) (by decide) ?_
              refine x_aload (dat d_Sb_note 32 rfl) rfl ?_
              refine x_getr (r := q + 2) (dat d_Sb_note 33 rfl) rfl f_Sb_202 (bk_or_2 hq) ?_
              refine x_iload_n (dat d_Sb_note 34 rfl) rfl rfl ?_
              refine x_iald (n := 8) (v := b (2 + 3 * j)) (dat d_Sb_note 35 rfl) (bk_ai_2 hq) (by omega) (by omega) (by exact (rr (by omega) (by omega)).2.1) ?_
              refine x_iret (dat d_Sb_note 36 rfl) rfl ?_
              refine kk _ n0 n1 ?_
              unfold noteA
              first
              | (exfalso; omega)
              | (rw [if_pos (by omega)])
              | (rw [if_neg (by omega), if_pos (by omega)])
              | (rw [if_neg (by omega), if_neg (by omega), if_neg (by omega)])
              | (rw [if_neg (by omega), if_neg (by omega), if_pos (by omega)]; congr 1; omega)
            · refine x_tableIn (tgt := 92) (dat d_Sb_note 26 rfl).1 2 rfl (by omega) (by decide) ?_
              refine x_aload (dat d_Sb_note 37 rfl) rfl ?_
              refine x_getr (r := q + 3) (dat d_Sb_note 38 rfl) rfl f_Sb_205 (bk_or_3 hq) ?_
              refine x_iload_n (dat d_Sb_note 39 rfl) rfl rfl ?_
              refine x_iald (n := 8) (v := b (3 + 3 * j)) (dat d_Sb_note 40 rfl) (bk_ai_3 hq) (by omega) (by omega) (by exact (rr (by omega) (by omega)).2.2) ?_
              refine x_iret (dat d_Sb_note 41 rfl) rfl ?_
              refine kk _ n0 n1 ?_
              unfold noteA
              first
              | (exfalso; omega)
              | (rw [if_pos (by omega)])
              | (rw [if_neg (by omega), if_pos (by omega)])
              | (rw [if_neg (by omega), if_neg (by omega), if_neg (by omega)])
              | (rw [if_neg (by omega), if_neg (by omega), if_pos (by omega)]; congr 1; omega)
        · refine x_bipush (dat d_Sb_note 23 rfl) (by decide) (by decide) ?_
          refine x_iret (dat d_Sb_note 24 rfl) rfl ?_
          refine kk _ n0 n1 ?_
          unfold noteA
          first
          | (exfalso; omega)
          | (rw [if_pos (by omega)])
          | (rw [if_neg (by omega), if_pos (by omega)])
          | (rw [if_neg (by omega), if_neg (by omega), if_neg (by omega)])
          | (rw [if_neg (by omega), if_neg (by omega), if_pos (by omega)]; congr 1; omega)
    · refine x_iload_n (dat d_Sb_note 12 rfl) rfl rfl ?_
      refine x_if_ne (tgt := 33) (dat d_Sb_note 13 rfl) (by decide) (fun c_24 => ?_) (fun c_24 => ?_)
      · refine x_iload_n (dat d_Sb_note 17 rfl) rfl rfl ?_
        refine x_if_lt (tgt := 46) (dat d_Sb_note 18 rfl) (by decide) (fun c_34 => ?_) (fun c_34 => ?_)
        · refine x_bipush (dat d_Sb_note 23 rfl) (by decide) (by decide) ?_
          refine x_iret (dat d_Sb_note 24 rfl) rfl ?_
          refine kk _ n0 n1 ?_
          unfold noteA
          first
          | (exfalso; omega)
          | (rw [if_pos (by omega)])
          | (rw [if_neg (by omega), if_pos (by omega)])
          | (rw [if_neg (by omega), if_neg (by omega), if_neg (by omega)])
          | (rw [if_neg (by omega), if_neg (by omega), if_pos (by omega)]; congr 1; omega)
        · refine x_iload_n (dat d_Sb_note 19 rfl) rfl rfl ?_
          refine x_aload (dat d_Sb_note 20 rfl) rfl ?_
          refine x_geti (ji := 0) (v := b 0) (dat d_Sb_note 21 rfl) rfl f_Sb_194 (bk_oi_0 hq) (eb) ?_
          refine x_icmp_lt (tgt := 49) (dat d_Sb_note 22 rfl) (by decide) (fun c_43 => ?_) (fun c_43 => ?_)
          · refine x_iload_n (dat d_Sb_note 25 rfl) rfl rfl ?_
            by_cases c_50 : w < 0 ∨ 2 < w
            · refine x_tableOut (tgt := 100) (dat d_Sb_note 26 rfl).1 c_50 (by decide) ?_
              refine x_bipush (dat d_Sb_note 42 rfl) (by decide) (by decide) ?_
              refine x_iret (dat d_Sb_note 43 rfl) rfl ?_
              refine kk _ n0 n1 ?_
              unfold noteA
              first
              | (exfalso; omega)
              | (rw [if_pos (by omega)])
              | (rw [if_neg (by omega), if_pos (by omega)])
              | (rw [if_neg (by omega), if_neg (by omega), if_neg (by omega)])
              | (rw [if_neg (by omega), if_neg (by omega), if_pos (by omega)]; congr 1; omega)
            · have e_50 : w = 0 ∨ w = 1 ∨ w = 2 := by omega
              rcases e_50 with e_50 | e_50 | e_50
              · refine x_tableIn (tgt := 76) (dat d_Sb_note 26 rfl).1 0 rfl (by omega) (by decide) ?_
                refine x_aload (dat d_Sb_note 27 rfl) rfl ?_
                refine x_getr (r := q + 1) (dat d_Sb_note 28 rfl) rfl f_Sb_199 (bk_or_1 hq) ?_
                refine x_iload_n (dat d_Sb_note 29 rfl) rfl rfl ?_
                refine x_iald (n := 8) (v := b (1 + 3 * j)) (dat d_Sb_note 30 rfl) (bk_ai_1 hq) (by omega) (by omega) (by exact (rr (by omega) (by omega)).1) ?_
                refine x_iret (dat d_Sb_note 31 rfl) rfl ?_
                refine kk _ n0 n1 ?_
                unfold noteA
                first
                | (exfalso; omega)
                | (rw [if_pos (by omega)])
                | (rw [if_neg (by omega), if_pos (by omega)])
                | (rw [if_neg (by omega), if_neg (by omega), if_neg (by omega)])
                | (rw [if_neg (by omega), if_neg (by omega), if_pos (by omega)]; congr 1; omega)
              · refine x_tableIn (tgt := 84) (dat d_Sb_note 26 rfl).1 1 rfl (by omega) (by decide) ?_
                refine x_aload (dat d_Sb_note 32 rfl) rfl ?_
                refine x_getr (r := q + 2) (dat d_Sb_note 33 rfl) rfl f_Sb_202 (bk_or_2 hq) ?_
                refine x_iload_n (dat d_Sb_note 34 rfl) rfl rfl ?_
                refine x_iald (n := 8) (v := b (2 + 3 * j)) (dat d_Sb_note 35 rfl) (bk_ai_2 hq) (by omega) (by omega) (by exact (rr (by omega) (by omega)).2.1) ?_
                refine x_iret (dat d_Sb_note 36 rfl) rfl ?_
                refine kk _ n0 n1 ?_
                unfold noteA
                first
                | (exfalso; omega)
                | (rw [if_pos (by omega)])
                | (rw [if_neg (by omega), if_pos (by omega)])
                | (rw [if_neg (by omega), if_neg (by omega), if_neg (by omega)])
                | (rw [if_neg (by omega), if_neg (by omega), if_pos (by omega)]; congr 1; omega)
              · refine x_tableIn (tgt := 92) (dat d_Sb_note 26 rfl).1 2 rfl (by omega) (by decide) ?_
                refine x_aload (dat d_Sb_note 37 rfl) rfl ?_
                refine x_getr (r := q + 3) (dat d_Sb_note 38 rfl) rfl f_Sb_205 (bk_or_3 hq) ?_
                refine x_iload_n (dat d_Sb_note 39 rfl) rfl rfl ?_
                refine x_iald (n := 8) (v := b (3 + 3 * j)) (dat d_Sb_note 40 rfl) (bk_ai_3 hq) (by omega) (by omega) (by exact (rr (by omega) (by omega)).2.2) ?_
                refine x_iret (dat d_Sb_note 41 rfl) rfl ?_
                refine kk _ n0 n1 ?_
                unfold noteA
                first
                | (exfalso; omega)
                | (rw [if_pos (by omega)])
                | (rw [if_neg (by omega), if_pos (by omega)])
                | (rw [if_neg (by omega), if_neg (by omega), if_neg (by omega)])
                | (rw [if_neg (by omega), if_neg (by omega), if_pos (by omega)]; congr 1; omega)
          · refine x_bipush (dat d_Sb_note 23 rfl) (by decide) (by decide) ?_
            refine x_iret (dat d_Sb_note 24 rfl) rfl ?_
            refine kk _ n0 n1 ?_
            unfold noteA
            first
            | (exfalso; omega)
            | (rw [if_pos (by omega)])
            | (rw [if_neg (by omega), if_pos (by omega)])
            | (rw [if_neg (by omega), if_neg (by omega), if_neg (by omega)])
            | (rw [if_neg (by omega), if_neg (by omega), if_pos (by omega)]; congr 1; omega)
      · refine x_aload (dat d_Sb_note 14 rfl) rfl ?_
        refine x_geti (ji := 0) (v := b 0) (dat d_Sb_note 15 rfl) rfl f_Sb_194 (bk_oi_0 hq) (eb) ?_
        refine x_iret (dat d_Sb_note 16 rfl) rfl ?_
        refine kk _ n0 n1 ?_
        unfold noteA
        first
        | (exfalso; omega)
        | (rw [if_pos (by omega)])
        | (rw [if_neg (by omega), if_pos (by omega)])
        | (rw [if_neg (by omega), if_neg (by omega), if_neg (by omega)])
        | (rw [if_neg (by omega), if_neg (by omega), if_pos (by omega)]; congr 1; omega)
theorem sp_Sb_runOf {g : xG} {K : Option MV → xS → Prop} {σ : xS} {o : Nat} {t : Int → Int} (ho : IsTw o) (hT : TownOk t) (hR : TownR σ o t) (k : ∀ σ' : xS, PlanR σ' (cfg t) → RunS σ' 143 (cfg t) 0 (cH (cfg t)) → (∀ o : Nat, o < 138 ∨ 155 < o → σ' o = σ o) → K (some (vR 143)) σ') : Mt g y_Sb_runOf [vR 0, vR o] σ K := by
  have hu := ru_143
  have hC := cfg_ok hT
  refine x_enter 0 rfl rfl rfl (fun Z => ?_)
  show Wx g y_Sb_runOf Z K 0 [vR 0, vR o] [] σ
  refine x_aload_n (dat d_Sb_runOf 0 rfl) rfl rfl ?_
  refine x_getr (r := 138) (dat d_Sb_runOf 1 rfl) rfl f_Sb_34 (or_mk (by decide +kernel)) ?_
  refine x_aload_n (dat d_Sb_runOf 2 rfl) rfl rfl ?_
  refine x_inv (As := [vR o]) (dat d_Sb_runOf 3 rfl) rfl c_Pl_lay l_Sb_206 (by decide) (rv_pl (by decide +kernel)) rfl rfl (Nat.le_of_ble_eq_true rfl) ?_
  refine sp_Pl_lay ho hT hR (fun σ1 hp F1 => ?_)
  show Wx g y_Sb_runOf Z K 8 [vR 0, vR o] [] σ1
  refine x_aload_n (dat d_Sb_runOf 4 rfl) rfl rfl ?_
  refine x_getr (r := 143) (dat d_Sb_runOf 5 rfl) rfl f_Sb_41 (or_mk (by decide +kernel)) ?_
  refine x_aload_n (dat d_Sb_runOf 6 rfl) rfl rfl ?_
  refine x_getr (r := 138) (dat d_Sb_runOf 7 rfl) rfl f_Sb_34 (or_mk (by decide +kernel)) ?_
  refine x_null (dat d_Sb_runOf 8 rfl) ?_
  refine x_iconst (dat d_Sb_runOf 9 rfl) (by decide) ?_
  refine x_inv (As := [vR 138, vN, vI 0]) (dat d_Sb_runOf 10 rfl) rfl c_Ru_go l_Sb_210 (by decide) (rv_ru (by decide +kernel)) rfl rfl (Nat.le_of_ble_eq_true rfl) ?_
  refine sp_Ru_go hu hC hp (fun σ2 R F2 => ?_)
  show Wx g y_Sb_runOf Z K 21 [vR 0, vR o] [] σ2
  refine x_aload_n (dat d_Sb_runOf 11 rfl) rfl rfl ?_
  refine x_getr (r := 143) (dat d_Sb_runOf 12 rfl) rfl f_Sb_41 (or_mk (by decide +kernel)) ?_
  refine x_aret (dat d_Sb_runOf 13 rfl) rfl ?_
  exact k σ2 (hp.same (fun q _ _ => F2 q (by omega))) R (fun q hq => by rw [F2 q (by omega), F1 q (by omega)])
