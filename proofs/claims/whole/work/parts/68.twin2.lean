/-! the twin: its settings, who gives, who shakes, fevers -/
def mC (s m w t : Int → Int) : Cf := (fun i => if i = 0 then t 6 else if i = 1 then t 3 else if i = 2 then s 15 else if i = 3 then s 30 else if i = 4 then s 31 else if i = 5 then (if s 24 = -1 then -1 else s 25) else if i = 6 then s 24 else if i = 7 then (if s 24 = -1 then 0 else s 26) else -1, fun p => tb (s 13) p || decide (mnT t p = 3), fun a b => decide (rkT (mnT t b) ≤ rkT (mnT t a)), fun a b => !(decide (0 ≤ a ∧ a = s 14) || decide (0 ≤ b ∧ b = s 14)) && opT t (s 16) a b, fun h p => if 0 ≤ h ∧ (0 ≤ p ∨ h = s 27) then cellM s w t p h else cellT t (gasM s p) h, fun p => t (22 + 17 * p) + if 0 ≤ p ∧ p < 8 then m p else 0)
/-- the twin with its settings -/
def MoC (σ : xS) (t : Int → Int) (t0 : Int) (C : Cf) : Prop := (MoT σ t t0 ∧ TownOk t) ∧ (C = mC (σ 174) (σ 179) (σ 178) t ∧ CfOk C) ∧ MoS (σ 174) t ∧ (0 ≤ σ 174 13 ∧ σ 174 13 < 256) ∧ (0 ≤ σ 174 16 ∧ σ 174 16 < 64)
/-- what a run may change of the twin's own numbers -/
def MvF (σ' σ : xS) : Prop := (∀ i : Int, i ≠ 35 → i ≠ 36 → i ≠ 37 → i ≠ 38 → i ≠ 40 → i ≠ 52 → σ' 174 i = σ 174 i) ∧ ∀ o : Nat, (o < 174 ∨ 194 < o) ∨ (175 ≤ o ∧ o ≤ 179) → σ' o = σ o
theorem cellM_congr {s s' w t : Int → Int} (h : ∀ i : Int, i ≤ 33 → s' i = s i) : cellM s' w t = cellM s w t := by
  funext p hh
  unfold cellM gasM
  rw [h 27 (by decide), h 28 (by decide), h 17 (by decide), h 18 (by decide), h 19 (by decide), h 20 (by decide), h 21 (by decide), h 22 (by decide), h 32 (by decide), h 33 (by decide)]
theorem gasM_congr {s s' : Int → Int} (h : ∀ i : Int, i ≤ 33 → s' i = s i) : gasM s' = gasM s := by
  funext p
  unfold gasM
  rw [h 32 (by decide), h 33 (by decide)]
theorem mC_congr {s s' m w t : Int → Int} (h : ∀ i : Int, i ≤ 33 → s' i = s i) : mC s' m w t = mC s m w t := by
  unfold mC
  rw [cellM_congr h, gasM_congr h, h 27 (by decide), h 15 (by decide), h 30 (by decide), h 31 (by decide), h 25 (by decide), h 24 (by decide), h 26 (by decide), h 13 (by decide), h 14 (by decide), h 16 (by decide)]
theorem MoC.same {σ σ' : xS} {t : Int → Int} {t0 : Int} {C : Cf} (H : MoC σ t t0 C) (F : MvF σ' σ) : MoC σ' t t0 C := by
  obtain ⟨⟨h1, h2⟩, ⟨h3, h4⟩, h5, h6, h7⟩ := H
  have e : ∀ i : Int, i ≤ 33 → σ' 174 i = σ 174 i := fun i hi => F.1 i (by omega) (by omega) (by omega) (by omega) (by omega) (by omega)
  refine ⟨⟨h1.same (e 12 (by decide)) (F.2 175 (by decide)), h2⟩, ⟨?_, h4⟩, ?_, by rw [e 13 (by decide)]; exact h6, by rw [e 16 (by decide)]; exact h7⟩
  · rw [h3, F.2 179 (by decide), F.2 178 (by decide)]
    exact (mC_congr e).symm
  · unfold MoS at h5 ⊢
    rw [e 20 (by decide), e 21 (by decide), e 22 (by decide), e 32 (by decide), e 33 (by decide)]
    exact h5
section
variable {g : xG} {K : Option MV → xS → Prop} {σ : xS} {t : Int → Int} {t0 : Int} {C : Cf}
theorem MoC.P (H : MoC σ t t0 C) : cS C 0 = t 6 ∧ cS C 1 = t 3 ∧ cS C 2 = σ 174 15 ∧ cS C 3 = σ 174 30 ∧ cS C 4 = σ 174 31 ∧ cS C 5 = (if σ 174 24 = -1 then -1 else σ 174 25) ∧ cS C 6 = σ 174 24 ∧ cS C 7 = (if σ 174 24 = -1 then 0 else σ 174 26) := by
  rw [H.2.1.1]
  exact ⟨rfl, rfl, rfl, rfl, rfl, rfl, rfl, rfl⟩
theorem sp_Mo_isGloved {p : Int} (H : MoC σ t t0 C) (p0 : 0 ≤ p) (p1 : p < t 6) (kt : cGl C p = true → K (some (vI 1)) σ) (kf : ¬ cGl C p = true → K (some (vI 0)) σ) : Mt g y_Mo_isGloved [vR 174, vI p] σ K := by
  have h6 := H.1.2.2.2.2.2.2.2.1
  have hg := H.2.2.2.1
  have eg : cGl C p = (tb (σ 174 13) p || decide (mnT t p = 3)) := by rw [H.2.1.1]; rfl
  have tg := tb_get (m := σ 174 13) (p := p) hg.1 (by omega) p0 (by omega)
  obtain ⟨y, hy⟩ : ∃ y : Int, y = (if tb (σ 174 13) p = true then 1 else 0) := ⟨_, rfl⟩
  rw [← hy] at tg
  have iff : cGl C p = true ↔ (y = 1 ∨ mnT t p = 3) := by
    rw [eg, Bool.or_eq_true, decide_eq_true_eq]
    have : y = 1 ↔ tb (σ 174 13) p = true := by rw [hy]; split <;> simp_all
    rw [this]
  refine x_enter 0 rfl rfl rfl (fun Z => ?_)
  show Wx g y_Mo_isGloved Z K 0 [vR 174, vI p] [] σ
  refine x_aload_n (dat d_Mo_isGloved 0 rfl) rfl rfl ?_
  refine x_geti (ji := 13) (v := σ 174 13) (dat d_Mo_isGloved 1 rfl) rfl f_Mo_214 (oi_mk (by decide +kernel)) rfl ?_
  refine x_iload_n (dat d_Mo_isGloved 2 rfl) rfl rfl ?_
  refine x_ishr (v := ishr (σ 174 13) p) (dat d_Mo_isGloved 3 rfl) rfl ?_
  refine x_iconst (dat d_Mo_isGloved 4 rfl) (by decide) ?_
  refine x_iand (v := y) (dat d_Mo_isGloved 5 rfl) (by exact tg) ?_
  refine x_iconst (dat d_Mo_isGloved 6 rfl) (by decide) ?_
  refine x_icmp_eq (tgt := 21) (dat d_Mo_isGloved 7 rfl) (by decide) (fun c_9 => ?_) (fun c_9 => ?_)
  · refine x_iconst (dat d_Mo_isGloved 13 rfl) (by decide) ?_
    refine x_goto (tgt := 26) (dat d_Mo_isGloved 14 rfl) (by decide) ?_
    refine x_zret (dat d_Mo_isGloved 16 rfl) rfl (by decide) ?_
    first
    | exact kt (iff.mpr (by omega))
    | exact kf (fun w => by have := iff.mp w; omega)
  · refine x_aload_n (dat d_Mo_isGloved 8 rfl) rfl rfl ?_
    refine x_iload_n (dat d_Mo_isGloved 9 rfl) rfl rfl ?_
    refine x_inv (As := [vI p]) (dat d_Mo_isGloved 10 rfl) rfl c_Mo_mannerOf l_Mo_283 (by decide) (rv_mo (by decide +kernel)) rfl rfl (Nat.le_of_ble_eq_true rfl) ?_
    refine sp_Mo_mannerOf H.1.1 p0 (by omega) ?_
    show Wx g y_Mo_isGloved Z K 17 [vR 174, vI p] [vI (mnT t p)] σ
    refine x_iconst (dat d_Mo_isGloved 11 rfl) (by decide) ?_
    refine x_icmp_ne (tgt := 25) (dat d_Mo_isGloved 12 rfl) (by decide) (fun c_18 => ?_) (fun c_18 => ?_)
    · refine x_iconst (dat d_Mo_isGloved 15 rfl) (by decide) ?_
      refine x_zret (dat d_Mo_isGloved 16 rfl) rfl (by decide) ?_
      first
      | exact kt (iff.mpr (by omega))
      | exact kf (fun w => by have := iff.mp w; omega)
    · refine x_iconst (dat d_Mo_isGloved 13 rfl) (by decide) ?_
      refine x_goto (tgt := 26) (dat d_Mo_isGloved 14 rfl) (by decide) ?_
      refine x_zret (dat d_Mo_isGloved 16 rfl) rfl (by decide) ?_
      first
      | exact kt (iff.mpr (by omega))
      | exact kf (fun w => by have := iff.mp w; omega)
theorem rkM_T (m n : Int) : rkM m < rkM n ↔ ¬ rkT m ≤ rkT n := by
  unfold rkM rkT
  by_cases h1 : m = 1
  · by_cases h2 : n = 1
    · rw [if_pos h1, if_pos h1, if_pos h2, if_pos h2]; decide
    · rw [if_pos h1, if_pos h1, if_neg h2, if_neg h2]
      by_cases h3 : n = 2
      · rw [if_pos h3, if_pos h3]; decide
      · rw [if_neg h3, if_neg h3]; decide
  · rw [if_neg h1, if_neg h1]
    by_cases h2 : n = 1
    · rw [if_pos h2, if_pos h2]
      by_cases h3 : m = 2
      · rw [if_pos h3, if_pos h3]; decide
      · rw [if_neg h3, if_neg h3]; decide
    · rw [if_neg h2, if_neg h2]
      by_cases h3 : m = 2
      · by_cases h4 : n = 2
        · rw [if_pos h3, if_pos h3, if_pos h4, if_pos h4]; decide
        · rw [if_pos h3, if_pos h3, if_neg h4, if_neg h4]; decide
      · by_cases h4 : n = 2
        · rw [if_neg h3, if_neg h3, if_pos h4, if_pos h4]; decide
        · rw [if_neg h3, if_neg h3, if_neg h4, if_neg h4]; decide
theorem sp_Mo_giver {a b : Int} {bd : Int → Int} (H : MoC σ t t0 C) (a0 : 0 ≤ a) (ab : a < b) (b1 : b < t 6) (ea : σ 180 a = bd a) (eb : σ 180 b = bd b) (k : K (some (vI (gv0 C bd a b))) σ) : Mt g y_Mo_giver [vR 174, vI a, vI b] σ K := by
  have h6 := H.1.2.2.2.2.2.2.2.1
  have hl := H.2.1.2.2.2.2.2.2.2.2.2
  have e2 := H.P.2.2.1
  have er : cGr C a b = decide (rkT (mnT t b) ≤ rkT (mnT t a)) := by rw [H.2.1.1]; rfl
  have rk := rkM_T (mnT t b) (mnT t a)
  have kk : ∀ v : Int, v = gv0 C bd a b → K (some (vI v)) σ := fun v h => by rw [h]; exact k
  have rb : ∀ m : Int, 0 ≤ rkM m ∧ rkM m ≤ 2 := fun m => by unfold rkM; split; decide; split <;> decide
  have r1 := rb (mnT t a)
  have r2 := rb (mnT t b)
  refine x_enter 2 rfl rfl rfl (fun Z => ?_)
  show Wx g y_Mo_giver Z K 0 [vR 174, vI a, vI b, vU, vU] [] σ
  refine x_aload_n (dat d_Mo_giver 0 rfl) rfl rfl ?_
  refine x_iload_n (dat d_Mo_giver 1 rfl) rfl rfl ?_
  refine x_inv (As := [vI b]) (dat d_Mo_giver 2 rfl) rfl c_Mo_mannerOf l_Mo_283 (by decide) (rv_mo (by decide +kernel)) rfl rfl (Nat.le_of_ble_eq_true rfl) ?_
  refine sp_Mo_mannerOf H.1.1 (by omega) (by omega) ?_
  show Wx g y_Mo_giver Z K 5 [vR 174, vI a, vI b, vU, vU] [vI (mnT t b)] σ
  refine x_invs (As := [vI (mnT t b)]) (dat d_Mo_giver 3 rfl) rfl c_Mo_rankOf l_Mo_295 (by decide) rfl rfl (Nat.le_of_ble_eq_true rfl) ?_
  refine sp_Mo_rankOf ?_
  show Wx g y_Mo_giver Z K 8 [vR 174, vI a, vI b, vU, vU] [vI (rkM (mnT t b))] σ
  refine x_aload_n (dat d_Mo_giver 4 rfl) rfl rfl ?_
  refine x_iload_n (dat d_Mo_giver 5 rfl) rfl rfl ?_
  refine x_inv (As := [vI a]) (dat d_Mo_giver 6 rfl) rfl c_Mo_mannerOf l_Mo_283 (by decide) (rv_mo (by decide +kernel)) rfl rfl (Nat.le_of_ble_eq_true rfl) ?_
  refine sp_Mo_mannerOf H.1.1 (by omega) (by omega) ?_
  show Wx g y_Mo_giver Z K 13 [vR 174, vI a, vI b, vU, vU] [vI (mnT t a), vI (rkM (mnT t b))] σ
  refine x_invs (As := [vI (mnT t a)]) (dat d_Mo_giver 7 rfl) rfl c_Mo_rankOf l_Mo_295 (by decide) rfl rfl (Nat.le_of_ble_eq_true rfl) ?_
  refine sp_Mo_rankOf ?_
  show Wx g y_Mo_giver Z K 16 [vR 174, vI a, vI b, vU, vU] [vI (rkM (mnT t a)), vI (rkM (mnT t b))] σ
  refine x_icmp_ge (tgt := 23) (dat d_Mo_giver 8 rfl) (by decide) (fun c_16 => ?_) (fun c_16 => ?_)
  · refine x_iload_n (dat d_Mo_giver 11 rfl) rfl rfl ?_
    refine x_istore_n (L' := [vR 174, vI a, vI b, vI a, vU]) (dat d_Mo_giver 12 rfl) rfl (by decide) rfl rfl ?_
    refine x_aload_n (dat d_Mo_giver 13 rfl) rfl rfl ?_
    refine x_geti (ji := 15) (v := cS C 2) (dat d_Mo_giver 14 rfl) rfl f_Mo_220 (oi_mk (by decide +kernel)) (e2.symm) ?_
    refine x_iconst (dat d_Mo_giver 15 rfl) (by decide) ?_
    refine x_icmp_ne (tgt := 35) (dat d_Mo_giver 16 rfl) (by decide) (fun c_30 => ?_) (fun c_30 => ?_)
    · refine x_aload_n (dat d_Mo_giver 19 rfl) rfl rfl ?_
      refine x_geti (ji := 15) (v := cS C 2) (dat d_Mo_giver 20 rfl) rfl f_Mo_220 (oi_mk (by decide +kernel)) (e2.symm) ?_
      refine x_iconst (dat d_Mo_giver 21 rfl) (by decide) ?_
      refine x_icmp_ne (tgt := 49) (dat d_Mo_giver 22 rfl) (by decide) (fun c_40 => ?_) (fun c_40 => ?_)
      · refine x_aload_n (dat d_Mo_giver 29 rfl) rfl rfl ?_
        refine x_getr (r := 180) (dat d_Mo_giver 30 rfl) rfl f_Mo_26 (or_mk (by decide +kernel)) ?_
        refine x_iload_n (dat d_Mo_giver 31 rfl) rfl rfl ?_
        refine x_iald (n := 8) (v := bd a) (dat d_Mo_giver 32 rfl) (ai_mk (by decide +kernel)) (by omega) (by omega) (ea) ?_
        refine x_aload_n (dat d_Mo_giver 33 rfl) rfl rfl ?_
        refine x_getr (r := 180) (dat d_Mo_giver 34 rfl) rfl f_Mo_26 (or_mk (by decide +kernel)) ?_
        refine x_iload_n (dat d_Mo_giver 35 rfl) rfl rfl ?_
        refine x_iald (n := 8) (v := bd b) (dat d_Mo_giver 36 rfl) (ai_mk (by decide +kernel)) (by omega) (by omega) (eb) ?_
        refine x_icmp_ne (tgt := 66) (dat d_Mo_giver 37 rfl) (by decide) (fun c_61 => ?_) (fun c_61 => ?_)
        · refine x_aload_n (dat d_Mo_giver 40 rfl) rfl rfl ?_
          refine x_getr (r := 180) (dat d_Mo_giver 41 rfl) rfl f_Mo_26 (or_mk (by decide +kernel)) ?_
          refine x_iload_n (dat d_Mo_giver 42 rfl) rfl rfl ?_
          refine x_iald (n := 8) (v := bd a) (dat d_Mo_giver 43 rfl) (ai_mk (by decide +kernel)) (by omega) (by omega) (ea) ?_
          refine x_aload_n (dat d_Mo_giver 44 rfl) rfl rfl ?_
          refine x_getr (r := 180) (dat d_Mo_giver 45 rfl) rfl f_Mo_26 (or_mk (by decide +kernel)) ?_
          refine x_iload_n (dat d_Mo_giver 46 rfl) rfl rfl ?_
          refine x_iald (n := 8) (v := bd b) (dat d_Mo_giver 47 rfl) (ai_mk (by decide +kernel)) (by omega) (by omega) (eb) ?_
          refine x_icmp_le (tgt := 85) (dat d_Mo_giver 48 rfl) (by decide) (fun c_78 => ?_) (fun c_78 => ?_)
          · refine x_iload_n (dat d_Mo_giver 51 rfl) rfl rfl ?_
            refine x_istore (L' := [vR 174, vI a, vI b, vI a, vI b]) (dat d_Mo_giver 52 rfl) (by decide) rfl rfl ?_
            refine x_aload_n (dat d_Mo_giver 53 rfl) rfl rfl ?_
            refine x_geti (ji := 15) (v := cS C 2) (dat d_Mo_giver 54 rfl) rfl f_Mo_220 (oi_mk (by decide +kernel)) (e2.symm) ?_
            refine x_if_ne (tgt := 100) (dat d_Mo_giver 55 rfl) (by decide) (fun c_92 => ?_) (fun c_92 => ?_)
            · refine x_iload_n (dat d_Mo_giver 58 rfl) rfl rfl ?_
              refine x_iload_n (dat d_Mo_giver 59 rfl) rfl rfl ?_
              refine x_iadd (v := a + b) (dat d_Mo_giver 60 rfl) rfl (by omega) ?_
              refine x_iload (dat d_Mo_giver 61 rfl) rfl ?_
              refine x_isub (v := (a + b) - b) (dat d_Mo_giver 62 rfl) rfl (by omega) ?_
              refine x_iret (dat d_Mo_giver 63 rfl) rfl ?_
              refine kk _ ?_
              unfold gv0
              rw [if_pos (by omega), if_neg (by omega)]
              first
              | (rw [decide_eq_true (show bd b < bd a by omega), decide_eq_true (show cS C 2 = 0 by omega), if_pos rfl]; done)
              | (rw [decide_eq_false (show ¬ bd b < bd a by omega), decide_eq_true (show cS C 2 = 0 by omega), if_neg (by decide)]; done)
              | (rw [decide_eq_true (show bd b < bd a by omega), decide_eq_false (show ¬ cS C 2 = 0 by omega), if_neg (by decide)]; omega)
              | (rw [decide_eq_false (show ¬ bd b < bd a by omega), decide_eq_false (show ¬ cS C 2 = 0 by omega), if_pos rfl]; omega)
            · refine x_iload (dat d_Mo_giver 56 rfl) rfl ?_
              refine x_goto (tgt := 106) (dat d_Mo_giver 57 rfl) (by decide) ?_
              refine x_iret (dat d_Mo_giver 63 rfl) rfl ?_
              refine kk _ ?_
              unfold gv0
              rw [if_pos (by omega), if_neg (by omega)]
              first
              | (rw [decide_eq_true (show bd b < bd a by omega), decide_eq_true (show cS C 2 = 0 by omega), if_pos rfl]; done)
              | (rw [decide_eq_false (show ¬ bd b < bd a by omega), decide_eq_true (show cS C 2 = 0 by omega), if_neg (by decide)]; done)
              | (rw [decide_eq_true (show bd b < bd a by omega), decide_eq_false (show ¬ cS C 2 = 0 by omega), if_neg (by decide)]; omega)
              | (rw [decide_eq_false (show ¬ bd b < bd a by omega), decide_eq_false (show ¬ cS C 2 = 0 by omega), if_pos rfl]; omega)
          · refine x_iload_n (dat d_Mo_giver 49 rfl) rfl rfl ?_
            refine x_goto (tgt := 86) (dat d_Mo_giver 50 rfl) (by decide) ?_
            refine x_istore (L' := [vR 174, vI a, vI b, vI a, vI a]) (dat d_Mo_giver 52 rfl) (by decide) rfl rfl ?_
            refine x_aload_n (dat d_Mo_giver 53 rfl) rfl rfl ?_
            refine x_geti (ji := 15) (v := cS C 2) (dat d_Mo_giver 54 rfl) rfl f_Mo_220 (oi_mk (by decide +kernel)) (e2.symm) ?_
            refine x_if_ne (tgt := 100) (dat d_Mo_giver 55 rfl) (by decide) (fun c_92 => ?_) (fun c_92 => ?_)
            · refine x_iload_n (dat d_Mo_giver 58 rfl) rfl rfl ?_
              refine x_iload_n (dat d_Mo_giver 59 rfl) rfl rfl ?_
              refine x_iadd (v := a + b) (dat d_Mo_giver 60 rfl) rfl (by omega) ?_
              refine x_iload (dat d_Mo_giver 61 rfl) rfl ?_
              refine x_isub (v := (a + b) - a) (dat d_Mo_giver 62 rfl) rfl (by omega) ?_
              refine x_iret (dat d_Mo_giver 63 rfl) rfl ?_
              refine kk _ ?_
              unfold gv0
              rw [if_pos (by omega), if_neg (by omega)]
              first
              | (rw [decide_eq_true (show bd b < bd a by omega), decide_eq_true (show cS C 2 = 0 by omega), if_pos rfl]; done)
              | (rw [decide_eq_false (show ¬ bd b < bd a by omega), decide_eq_true (show cS C 2 = 0 by omega), if_neg (by decide)]; done)
              | (rw [decide_eq_true (show bd b < bd a by omega), decide_eq_false (show ¬ cS C 2 = 0 by omega), if_neg (by decide)]; omega)
              | (rw [decide_eq_false (show ¬ bd b < bd a by omega), decide_eq_false (show ¬ cS C 2 = 0 by omega), if_pos rfl]; omega)
            · refine x_iload (dat d_Mo_giver 56 rfl) rfl ?_
              refine x_goto (tgt := 106) (dat d_Mo_giver 57 rfl) (by decide) ?_
              refine x_iret (dat d_Mo_giver 63 rfl) rfl ?_
              refine kk _ ?_
              unfold gv0
              rw [if_pos (by omega), if_neg (by omega)]
              first
              | (rw [decide_eq_true (show bd b < bd a by omega), decide_eq_true (show cS C 2 = 0 by omega), if_pos rfl]; done)
              | (rw [decide_eq_false (show ¬ bd b < bd a by omega), decide_eq_true (show cS C 2 = 0 by omega), if_neg (by decide)]; done)
              | (rw [decide_eq_true (show bd b < bd a by omega), decide_eq_false (show ¬ cS C 2 = 0 by omega), if_neg (by decide)]; omega)
              | (rw [decide_eq_false (show ¬ bd b < bd a by omega), decide_eq_false (show ¬ cS C 2 = 0 by omega), if_pos rfl]; omega)
        · refine x_iconst (dat d_Mo_giver 38 rfl) (by decide) ?_
          refine x_iret (dat d_Mo_giver 39 rfl) rfl ?_
          refine kk _ ?_
          unfold gv0
          rw [if_pos (by omega), if_pos (by omega)]
      · refine x_iload_n (dat d_Mo_giver 23 rfl) rfl rfl ?_
        refine x_iload_n (dat d_Mo_giver 24 rfl) rfl rfl ?_
        refine x_iadd (v := a + b) (dat d_Mo_giver 25 rfl) rfl (by omega) ?_
        refine x_iload_n (dat d_Mo_giver 26 rfl) rfl rfl ?_
        refine x_isub (v := (a + b) - a) (dat d_Mo_giver 27 rfl) rfl (by omega) ?_
        refine x_iret (dat d_Mo_giver 28 rfl) rfl ?_
        refine kk _ ?_
        unfold gv0
        rw [if_neg (by omega), er]
        first
        | (rw [decide_eq_true (show rkT (mnT t b) ≤ rkT (mnT t a) by omega), decide_eq_false (show ¬ cS C 2 = 1 by omega), if_neg (by decide)]; omega)
        | (rw [decide_eq_false (show ¬ rkT (mnT t b) ≤ rkT (mnT t a) by omega), decide_eq_false (show ¬ cS C 2 = 1 by omega), if_pos rfl]; omega)
    · refine x_iload_n (dat d_Mo_giver 17 rfl) rfl rfl ?_
      refine x_iret (dat d_Mo_giver 18 rfl) rfl ?_
      refine kk _ ?_
      unfold gv0
      rw [if_neg (by omega), er]
      first
      | rw [decide_eq_true (show rkT (mnT t b) ≤ rkT (mnT t a) by omega), decide_eq_true (show cS C 2 = 1 by omega), if_pos rfl]
      | rw [decide_eq_false (show ¬ rkT (mnT t b) ≤ rkT (mnT t a) by omega), decide_eq_true (show cS C 2 = 1 by omega), if_neg (by decide)]
  · refine x_iload_n (dat d_Mo_giver 9 rfl) rfl rfl ?_
    refine x_goto (tgt := 24) (dat d_Mo_giver 10 rfl) (by decide) ?_
    refine x_istore_n (L' := [vR 174, vI a, vI b, vI b, vU]) (dat d_Mo_giver 12 rfl) rfl (by decide) rfl rfl ?_
    refine x_aload_n (dat d_Mo_giver 13 rfl) rfl rfl ?_
    refine x_geti (ji := 15) (v := cS C 2) (dat d_Mo_giver 14 rfl) rfl f_Mo_220 (oi_mk (by decide +kernel)) (e2.symm) ?_
    refine x_iconst (dat d_Mo_giver 15 rfl) (by decide) ?_
    refine x_icmp_ne (tgt := 35) (dat d_Mo_giver 16 rfl) (by decide) (fun c_30 => ?_) (fun c_30 => ?_)
    · refine x_aload_n (dat d_Mo_giver 19 rfl) rfl rfl ?_
      refine x_geti (ji := 15) (v := cS C 2) (dat d_Mo_giver 20 rfl) rfl f_Mo_220 (oi_mk (by decide +kernel)) (e2.symm) ?_
      refine x_iconst (dat d_Mo_giver 21 rfl) (by decide) ?_
      refine x_icmp_ne (tgt := 49) (dat d_Mo_giver 22 rfl) (by decide) (fun c_40 => ?_) (fun c_40 => ?_)
      · refine x_aload_n (dat d_Mo_giver 29 rfl) rfl rfl ?_
        refine x_getr (r := 180) (dat d_Mo_giver 30 rfl) rfl f_Mo_26 (or_mk (by decide +kernel)) ?_
        refine x_iload_n (dat d_Mo_giver 31 rfl) rfl rfl ?_
        refine x_iald (n := 8) (v := bd a) (dat d_Mo_giver 32 rfl) (ai_mk (by decide +kernel)) (by omega) (by omega) (ea) ?_
        refine x_aload_n (dat d_Mo_giver 33 rfl) rfl rfl ?_
        refine x_getr (r := 180) (dat d_Mo_giver 34 rfl) rfl f_Mo_26 (or_mk (by decide +kernel)) ?_
        refine x_iload_n (dat d_Mo_giver 35 rfl) rfl rfl ?_
        refine x_iald (n := 8) (v := bd b) (dat d_Mo_giver 36 rfl) (ai_mk (by decide +kernel)) (by omega) (by omega) (eb) ?_
        refine x_icmp_ne (tgt := 66) (dat d_Mo_giver 37 rfl) (by decide) (fun c_61 => ?_) (fun c_61 => ?_)
        · refine x_aload_n (dat d_Mo_giver 40 rfl) rfl rfl ?_
          refine x_getr (r := 180) (dat d_Mo_giver 41 rfl) rfl f_Mo_26 (or_mk (by decide +kernel)) ?_
          refine x_iload_n (dat d_Mo_giver 42 rfl) rfl rfl ?_
          refine x_iald (n := 8) (v := bd a) (dat d_Mo_giver 43 rfl) (ai_mk (by decide +kernel)) (by omega) (by omega) (ea) ?_
          refine x_aload_n (dat d_Mo_giver 44 rfl) rfl rfl ?_
          refine x_getr (r := 180) (dat d_Mo_giver 45 rfl) rfl f_Mo_26 (or_mk (by decide +kernel)) ?_
          refine x_iload_n (dat d_Mo_giver 46 rfl) rfl rfl ?_
          refine x_iald (n := 8) (v := bd b) (dat d_Mo_giver 47 rfl) (ai_mk (by decide +kernel)) (by omega) (by omega) (eb) ?_
          refine x_icmp_le (tgt := 85) (dat d_Mo_giver 48 rfl) (by decide) (fun c_78 => ?_) (fun c_78 => ?_)
          · refine x_iload_n (dat d_Mo_giver 51 rfl) rfl rfl ?_
            refine x_istore (L' := [vR 174, vI a, vI b, vI b, vI b]) (dat d_Mo_giver 52 rfl) (by decide) rfl rfl ?_
            refine x_aload_n (dat d_Mo_giver 53 rfl) rfl rfl ?_
            refine x_geti (ji := 15) (v := cS C 2) (dat d_Mo_giver 54 rfl) rfl f_Mo_220 (oi_mk (by decide +kernel)) (e2.symm) ?_
            refine x_if_ne (tgt := 100) (dat d_Mo_giver 55 rfl) (by decide) (fun c_92 => ?_) (fun c_92 => ?_)
            · refine x_iload_n (dat d_Mo_giver 58 rfl) rfl rfl ?_
              refine x_iload_n (dat d_Mo_giver 59 rfl) rfl rfl ?_
              refine x_iadd (v := a + b) (dat d_Mo_giver 60 rfl) rfl (by omega) ?_
              refine x_iload (dat d_Mo_giver 61 rfl) rfl ?_
              refine x_isub (v := (a + b) - b) (dat d_Mo_giver 62 rfl) rfl (by omega) ?_
              refine x_iret (dat d_Mo_giver 63 rfl) rfl ?_
              refine kk _ ?_
              unfold gv0
              rw [if_pos (by omega), if_neg (by omega)]
              first
              | (rw [decide_eq_true (show bd b < bd a by omega), decide_eq_true (show cS C 2 = 0 by omega), if_pos rfl]; done)
              | (rw [decide_eq_false (show ¬ bd b < bd a by omega), decide_eq_true (show cS C 2 = 0 by omega), if_neg (by decide)]; done)
              | (rw [decide_eq_true (show bd b < bd a by omega), decide_eq_false (show ¬ cS C 2 = 0 by omega), if_neg (by decide)]; omega)
              | (rw [decide_eq_false (show ¬ bd b < bd a by omega), decide_eq_false (show ¬ cS C 2 = 0 by omega), if_pos rfl]; omega)
            · refine x_iload (dat d_Mo_giver 56 rfl) rfl ?_
              refine x_goto (tgt := 106) (dat d_Mo_giver 57 rfl) (by decide) ?_
              refine x_iret (dat d_Mo_giver 63 rfl) rfl ?_
              refine kk _ ?_
              unfold gv0
              rw [if_pos (by omega), if_neg (by omega)]
              first
              | (rw [decide_eq_true (show bd b < bd a by omega), decide_eq_true (show cS C 2 = 0 by omega), if_pos rfl]; done)
              | (rw [decide_eq_false (show ¬ bd b < bd a by omega), decide_eq_true (show cS C 2 = 0 by omega), if_neg (by decide)]; done)
              | (rw [decide_eq_true (show bd b < bd a by omega), decide_eq_false (show ¬ cS C 2 = 0 by omega), if_neg (by decide)]; omega)
              | (rw [decide_eq_false (show ¬ bd b < bd a by omega), decide_eq_false (show ¬ cS C 2 = 0 by omega), if_pos rfl]; omega)
          · refine x_iload_n (dat d_Mo_giver 49 rfl) rfl rfl ?_
            refine x_goto (tgt := 86) (dat d_Mo_giver 50 rfl) (by decide) ?_
            refine x_istore (L' := [vR 174, vI a, vI b, vI b, vI a]) (dat d_Mo_giver 52 rfl) (by decide) rfl rfl ?_
            refine x_aload_n (dat d_Mo_giver 53 rfl) rfl rfl ?_
            refine x_geti (ji := 15) (v := cS C 2) (dat d_Mo_giver 54 rfl) rfl f_Mo_220 (oi_mk (by decide +kernel)) (e2.symm) ?_
            refine x_if_ne (tgt := 100) (dat d_Mo_giver 55 rfl) (by decide) (fun c_92 => ?_) (fun c_92 => ?_)
            · refine x_iload_n (dat d_Mo_giver 58 rfl) rfl rfl ?_
              refine x_iload_n (dat d_Mo_giver 59 rfl) rfl rfl ?_
              refine x_iadd (v := a + b) (dat d_Mo_giver 60 rfl) rfl (by omega) ?_
              refine x_iload (dat d_Mo_giver 61 rfl) rfl ?_
              refine x_isub (v := (a + b) - a) (dat d_Mo_giver 62 rfl) rfl (by omega) ?_
              refine x_iret (dat d_Mo_giver 63 rfl) rfl ?_
              refine kk _ ?_
              unfold gv0
              rw [if_pos (by omega), if_neg (by omega)]
              first
              | (rw [decide_eq_true (show bd b < bd a by omega), decide_eq_true (show cS C 2 = 0 by omega), if_pos rfl]; done)
              | (rw [decide_eq_false (show ¬ bd b < bd a by omega), decide_eq_true (show cS C 2 = 0 by omega), if_neg (by decide)]; done)
              | (rw [decide_eq_true (show bd b < bd a by omega), decide_eq_false (show ¬ cS C 2 = 0 by omega), if_neg (by decide)]; omega)
              | (rw [decide_eq_false (show ¬ bd b < bd a by omega), decide_eq_false (show ¬ cS C 2 = 0 by omega), if_pos rfl]; omega)
            · refine x_iload (dat d_Mo_giver 56 rfl) rfl ?_
              refine x_goto (tgt := 106) (dat d_Mo_giver 57 rfl) (by decide) ?_
              refine x_iret (dat d_Mo_giver 63 rfl) rfl ?_
              refine kk _ ?_
              unfold gv0
              rw [if_pos (by omega), if_neg (by omega)]
              first
              | (rw [decide_eq_true (show bd b < bd a by omega), decide_eq_true (show cS C 2 = 0 by omega), if_pos rfl]; done)
              | (rw [decide_eq_false (show ¬ bd b < bd a by omega), decide_eq_true (show cS C 2 = 0 by omega), if_neg (by decide)]; done)
              | (rw [decide_eq_true (show bd b < bd a by omega), decide_eq_false (show ¬ cS C 2 = 0 by omega), if_neg (by decide)]; omega)
              | (rw [decide_eq_false (show ¬ bd b < bd a by omega), decide_eq_false (show ¬ cS C 2 = 0 by omega), if_pos rfl]; omega)
        · refine x_iconst (dat d_Mo_giver 38 rfl) (by decide) ?_
          refine x_iret (dat d_Mo_giver 39 rfl) rfl ?_
          refine kk _ ?_
          unfold gv0
          rw [if_pos (by omega), if_pos (by omega)]
      · refine x_iload_n (dat d_Mo_giver 23 rfl) rfl rfl ?_
        refine x_iload_n (dat d_Mo_giver 24 rfl) rfl rfl ?_
        refine x_iadd (v := a + b) (dat d_Mo_giver 25 rfl) rfl (by omega) ?_
        refine x_iload_n (dat d_Mo_giver 26 rfl) rfl rfl ?_
        refine x_isub (v := (a + b) - b) (dat d_Mo_giver 27 rfl) rfl (by omega) ?_
        refine x_iret (dat d_Mo_giver 28 rfl) rfl ?_
        refine kk _ ?_
        unfold gv0
        rw [if_neg (by omega), er]
        first
        | (rw [decide_eq_true (show rkT (mnT t b) ≤ rkT (mnT t a) by omega), decide_eq_false (show ¬ cS C 2 = 1 by omega), if_neg (by decide)]; omega)
        | (rw [decide_eq_false (show ¬ rkT (mnT t b) ≤ rkT (mnT t a) by omega), decide_eq_false (show ¬ cS C 2 = 1 by omega), if_pos rfl]; omega)
    · refine x_iload_n (dat d_Mo_giver 17 rfl) rfl rfl ?_
      refine x_iret (dat d_Mo_giver 18 rfl) rfl ?_
      refine kk _ ?_
      unfold gv0
      rw [if_neg (by omega), er]
      first
      | rw [decide_eq_true (show rkT (mnT t b) ≤ rkT (mnT t a) by omega), decide_eq_true (show cS C 2 = 1 by omega), if_pos rfl]
      | rw [decide_eq_false (show ¬ rkT (mnT t b) ≤ rkT (mnT t a) by omega), decide_eq_true (show cS C 2 = 1 by omega), if_neg (by decide)]
theorem sp_Mo_areShaking {a b h : Int} {al : Int → Bool} (H : MoC σ t t0 C) (a0 : 0 ≤ a) (ab : a < b) (b1 : b < t 6) (h0 : 0 ≤ h) (h1 : h < 24) (hl : Msk 8 (σ 174 35) al) (kt : shk C h al a b = true → K (some (vI 1)) σ) (kf : ¬ shk C h al a b = true → K (some (vI 0)) σ) : Mt g y_Mo_areShaking [vR 174, vI a, vI b, vI h] σ K := by
  have h6 := H.1.2.2.2.2.2.2.2.1
  have eo : cOp C a b = (!(decide (a = σ 174 14) || decide (b = σ 174 14)) && opT t (σ 174 16) a b) := by
    rw [H.2.1.1]
    show (!(decide (0 ≤ a ∧ a = σ 174 14) || decide (0 ≤ b ∧ b = σ 174 14)) && opT t (σ 174 16) a b) = _
    rw [decide_eq_decide.mpr (show (0 ≤ a ∧ a = σ 174 14) ↔ a = σ 174 14 from ⟨fun w => w.2, fun w => ⟨a0, w⟩⟩), decide_eq_decide.mpr (show (0 ≤ b ∧ b = σ 174 14) ↔ b = σ 174 14 from ⟨fun w => w.2, fun w => ⟨by omega, w⟩⟩)]
  have ew : ∀ p : Int, 0 ≤ p → cWh C h p = cellM (σ 174) (σ 178) t p h := fun p p0 => by rw [H.2.1.1]; exact if_pos ⟨h0, Or.inl p0⟩
  have ga := hl.get (by decide) a0 (show a < (8 : Nat) by omega)
  have gb := hl.get (by decide) (show 0 ≤ b by omega) (show b < (8 : Nat) by omega)
  obtain ⟨ya, hya⟩ : ∃ y : Int, y = (if al a = true then 1 else 0) := ⟨_, rfl⟩
  obtain ⟨yb, hyb⟩ : ∃ y : Int, y = (if al b = true then 1 else 0) := ⟨_, rfl⟩
  obtain ⟨yq, hyq⟩ : ∃ y : Int, y = (if qrN t (σ 174 16) a b (t 7).toNat = true then 1 else 0) := ⟨_, rfl⟩
  rw [← hya] at ga
  rw [← hyb] at gb
  have iff : shk C h al a b = true ↔ ((ya = 1 ∧ yb = 1) ∧ (a ≠ σ 174 14 ∧ b ≠ σ 174 14) ∧ (¬ (mnT t a = 2 ∧ mnT t b = 2) ∧ yq = 0)) ∧ cellM (σ 174) (σ 178) t a h = cellM (σ 174) (σ 178) t b h := by
    unfold shk
    rw [eo, ew a a0, ew b (by omega)]
    unfold opT
    have i1 : ya = 1 ↔ al a = true := by rw [hya]; split <;> simp_all
    have i2 : yb = 1 ↔ al b = true := by rw [hyb]; split <;> simp_all
    have i3 : yq = 0 ↔ qrN t (σ 174 16) a b (t 7).toNat = false := by rw [hyq]; split <;> simp_all
    rw [i1, i2, i3]
    simp only [Bool.and_eq_true, Bool.not_eq_true', Bool.or_eq_false_iff, Bool.and_eq_false_iff, decide_eq_true_eq, decide_eq_false_iff_not]
    constructor
    · rintro ⟨⟨⟨w1, w2⟩, w3, w4, w5⟩, w6⟩
      exact ⟨⟨⟨w1, w2⟩, w3, fun z => w4.elim (fun y => y z.1) (fun y => y z.2), w5⟩, w6⟩
    · rintro ⟨⟨⟨w1, w2⟩, w3, w4, w5⟩, w6⟩
      refine ⟨⟨⟨w1, w2⟩, w3, ?_, w5⟩, w6⟩
      by_cases z : mnT t a = 2
      · exact Or.inr (fun y => w4 ⟨z, y⟩)
      · exact Or.inl z
  have y01 : yq = 0 ∨ yq = 1 := by rw [hyq]; split <;> simp
  have ya01 : ya = 0 ∨ ya = 1 := by rw [hya]; split <;> simp
  have yb01 : yb = 0 ∨ yb = 1 := by rw [hyb]; split <;> simp
  clear hya hyb
  generalize hca : cellM (σ 174) (σ 178) t a h = ca at iff
  generalize hcb : cellM (σ 174) (σ 178) t b h = cb at iff
  refine x_enter 0 rfl rfl rfl (fun Z => ?_)
  show Wx g y_Mo_areShaking Z K 0 [vR 174, vI a, vI b, vI h] [] σ
  refine x_aload_n (dat d_Mo_areShaking 0 rfl) rfl rfl ?_
  refine x_geti (ji := 35) (v := σ 174 35) (dat d_Mo_areShaking 1 rfl) rfl f_Mo_286 (oi_mk (by decide +kernel)) rfl ?_
  refine x_iload_n (dat d_Mo_areShaking 2 rfl) rfl rfl ?_
  refine x_ishr (v := ishr (σ 174 35) a) (dat d_Mo_areShaking 3 rfl) rfl ?_
  refine x_iconst (dat d_Mo_areShaking 4 rfl) (by decide) ?_
  refine x_iand (v := ya) (dat d_Mo_areShaking 5 rfl) (by exact ga) ?_
  refine x_if_eq (tgt := 53) (dat d_Mo_areShaking 6 rfl) (by decide) (fun c_8 => ?_) (fun c_8 => ?_)
  · refine x_iconst (dat d_Mo_areShaking 31 rfl) (by decide) ?_
    refine x_zret (dat d_Mo_areShaking 32 rfl) rfl (by decide) ?_
    first
    | exact kt (iff.mpr (by omega))
    | exact kf (fun w => by have := iff.mp w; omega)
  · refine x_aload_n (dat d_Mo_areShaking 7 rfl) rfl rfl ?_
    refine x_geti (ji := 35) (v := σ 174 35) (dat d_Mo_areShaking 8 rfl) rfl f_Mo_286 (oi_mk (by decide +kernel)) rfl ?_
    refine x_iload_n (dat d_Mo_areShaking 9 rfl) rfl rfl ?_
    refine x_ishr (v := ishr (σ 174 35) b) (dat d_Mo_areShaking 10 rfl) rfl ?_
    refine x_iconst (dat d_Mo_areShaking 11 rfl) (by decide) ?_
    refine x_iand (v := yb) (dat d_Mo_areShaking 12 rfl) (by exact gb) ?_
    refine x_if_eq (tgt := 53) (dat d_Mo_areShaking 13 rfl) (by decide) (fun c_19 => ?_) (fun c_19 => ?_)
    · refine x_iconst (dat d_Mo_areShaking 31 rfl) (by decide) ?_
      refine x_zret (dat d_Mo_areShaking 32 rfl) rfl (by decide) ?_
      first
      | exact kt (iff.mpr (by omega))
      | exact kf (fun w => by have := iff.mp w; omega)
    · refine x_iload_n (dat d_Mo_areShaking 14 rfl) rfl rfl ?_
      refine x_aload_n (dat d_Mo_areShaking 15 rfl) rfl rfl ?_
      refine x_geti (ji := 14) (v := σ 174 14) (dat d_Mo_areShaking 16 rfl) rfl f_Mo_217 (oi_mk (by decide +kernel)) rfl ?_
      refine x_icmp_eq (tgt := 53) (dat d_Mo_areShaking 17 rfl) (by decide) (fun c_27 => ?_) (fun c_27 => ?_)
      · refine x_iconst (dat d_Mo_areShaking 31 rfl) (by decide) ?_
        refine x_zret (dat d_Mo_areShaking 32 rfl) rfl (by decide) ?_
        first
        | exact kt (iff.mpr (by omega))
        | exact kf (fun w => by have := iff.mp w; omega)
      · refine x_iload_n (dat d_Mo_areShaking 18 rfl) rfl rfl ?_
        refine x_aload_n (dat d_Mo_areShaking 19 rfl) rfl rfl ?_
        refine x_geti (ji := 14) (v := σ 174 14) (dat d_Mo_areShaking 20 rfl) rfl f_Mo_217 (oi_mk (by decide +kernel)) rfl ?_
        refine x_icmp_eq (tgt := 53) (dat d_Mo_areShaking 21 rfl) (by decide) (fun c_35 => ?_) (fun c_35 => ?_)
        · refine x_iconst (dat d_Mo_areShaking 31 rfl) (by decide) ?_
          refine x_zret (dat d_Mo_areShaking 32 rfl) rfl (by decide) ?_
          first
          | exact kt (iff.mpr (by omega))
          | exact kf (fun w => by have := iff.mp w; omega)
        · refine x_aload_n (dat d_Mo_areShaking 22 rfl) rfl rfl ?_
          refine x_iload_n (dat d_Mo_areShaking 23 rfl) rfl rfl ?_
          refine x_iload_n (dat d_Mo_areShaking 24 rfl) rfl rfl ?_
          refine x_inv (As := [vI a, vI h]) (dat d_Mo_areShaking 25 rfl) rfl c_Mo_cellOf l_Mo_289 (by decide) (rv_mo (by decide +kernel)) rfl rfl (Nat.le_of_ble_eq_true rfl) ?_
          refine sp_Mo_cellOf H.1.1 H.1.2 H.2.2.1 a0 (by omega) h0 h1 ?_
          rw [hca]
          show Wx g y_Mo_areShaking Z K 44 [vR 174, vI a, vI b, vI h] [vI ca] σ
          refine x_aload_n (dat d_Mo_areShaking 26 rfl) rfl rfl ?_
          refine x_iload_n (dat d_Mo_areShaking 27 rfl) rfl rfl ?_
          refine x_iload_n (dat d_Mo_areShaking 28 rfl) rfl rfl ?_
          refine x_inv (As := [vI b, vI h]) (dat d_Mo_areShaking 29 rfl) rfl c_Mo_cellOf l_Mo_289 (by decide) (rv_mo (by decide +kernel)) rfl rfl (Nat.le_of_ble_eq_true rfl) ?_
          refine sp_Mo_cellOf H.1.1 H.1.2 H.2.2.1 (by omega) (by omega) h0 h1 ?_
          rw [hcb]
          show Wx g y_Mo_areShaking Z K 50 [vR 174, vI a, vI b, vI h] [vI cb, vI ca] σ
          refine x_icmp_eq (tgt := 55) (dat d_Mo_areShaking 30 rfl) (by decide) (fun c_50 => ?_) (fun c_50 => ?_)
          · refine x_aload_n (dat d_Mo_areShaking 33 rfl) rfl rfl ?_
            refine x_iload_n (dat d_Mo_areShaking 34 rfl) rfl rfl ?_
            refine x_iload_n (dat d_Mo_areShaking 35 rfl) rfl rfl ?_
            refine x_inv (As := [vI a, vI b]) (dat d_Mo_areShaking 36 rfl) rfl c_Mo_areApart l_Mo_292 (by decide) (rv_mo (by decide +kernel)) rfl rfl (Nat.le_of_ble_eq_true rfl) ?_
            refine sp_Mo_areApart H.1.1 H.1.2 H.2.2.2.2 ?_
            rw [← hyq]
            show Wx g y_Mo_areShaking Z K 61 [vR 174, vI a, vI b, vI h] [vI yq] σ
            refine x_if_ne (tgt := 86) (dat d_Mo_areShaking 37 rfl) (by decide) (fun c_61 => ?_) (fun c_61 => ?_)
            · refine x_iconst (dat d_Mo_areShaking 50 rfl) (by decide) ?_
              refine x_zret (dat d_Mo_areShaking 51 rfl) rfl (by decide) ?_
              first
              | exact kt (iff.mpr (by omega))
              | exact kf (fun w => by have := iff.mp w; omega)
            · refine x_aload_n (dat d_Mo_areShaking 38 rfl) rfl rfl ?_
              refine x_iload_n (dat d_Mo_areShaking 39 rfl) rfl rfl ?_
              refine x_inv (As := [vI a]) (dat d_Mo_areShaking 40 rfl) rfl c_Mo_mannerOf l_Mo_283 (by decide) (rv_mo (by decide +kernel)) rfl rfl (Nat.le_of_ble_eq_true rfl) ?_
              refine sp_Mo_mannerOf H.1.1 a0 (by omega) ?_
              show Wx g y_Mo_areShaking Z K 69 [vR 174, vI a, vI b, vI h] [vI (mnT t a)] σ
              refine x_iconst (dat d_Mo_areShaking 41 rfl) (by decide) ?_
              refine x_icmp_ne (tgt := 82) (dat d_Mo_areShaking 42 rfl) (by decide) (fun c_70 => ?_) (fun c_70 => ?_)
              · refine x_iconst (dat d_Mo_areShaking 48 rfl) (by decide) ?_
                refine x_goto (tgt := 87) (dat d_Mo_areShaking 49 rfl) (by decide) ?_
                refine x_zret (dat d_Mo_areShaking 51 rfl) rfl (by decide) ?_
                first
                | exact kt (iff.mpr (by omega))
                | exact kf (fun w => by have := iff.mp w; omega)
              · refine x_aload_n (dat d_Mo_areShaking 43 rfl) rfl rfl ?_
                refine x_iload_n (dat d_Mo_areShaking 44 rfl) rfl rfl ?_
                refine x_inv (As := [vI b]) (dat d_Mo_areShaking 45 rfl) rfl c_Mo_mannerOf l_Mo_283 (by decide) (rv_mo (by decide +kernel)) rfl rfl (Nat.le_of_ble_eq_true rfl) ?_
                refine sp_Mo_mannerOf H.1.1 (by omega) (by omega) ?_
                show Wx g y_Mo_areShaking Z K 78 [vR 174, vI a, vI b, vI h] [vI (mnT t b)] σ
                refine x_iconst (dat d_Mo_areShaking 46 rfl) (by decide) ?_
                refine x_icmp_eq (tgt := 86) (dat d_Mo_areShaking 47 rfl) (by decide) (fun c_79 => ?_) (fun c_79 => ?_)
                · refine x_iconst (dat d_Mo_areShaking 50 rfl) (by decide) ?_
                  refine x_zret (dat d_Mo_areShaking 51 rfl) rfl (by decide) ?_
                  first
                  | exact kt (iff.mpr (by omega))
                  | exact kf (fun w => by have := iff.mp w; omega)
                · refine x_iconst (dat d_Mo_areShaking 48 rfl) (by decide) ?_
                  refine x_goto (tgt := 87) (dat d_Mo_areShaking 49 rfl) (by decide) ?_
                  refine x_zret (dat d_Mo_areShaking 51 rfl) rfl (by decide) ?_
                  first
                  | exact kt (iff.mpr (by omega))
                  | exact kf (fun w => by have := iff.mp w; omega)
          · refine x_iconst (dat d_Mo_areShaking 31 rfl) (by decide) ?_
            refine x_zret (dat d_Mo_areShaking 32 rfl) rfl (by decide) ?_
            first
            | exact kt (iff.mpr (by omega))
            | exact kf (fun w => by have := iff.mp w; omega)
/-- a fever hand by hand: all hands, or by lot -/
def ilE (dr : Bool) (gl : Int → Bool) (kc : Int) (e : Ev) (s : Int × (Int → Bool)) : Int × (Int → Bool) := if dr = true then lotE gl kc e s else (s.1, rchE gl e s.2)
theorem sp_Mo_fevers {a b x kc : Int} {dr : Bool} {il : Int × (Int → Bool)} (H : MoC σ t t0 C) (a0 : 0 ≤ a) (ab : a < b) (b1 : b < t 6) (hi : Msk 8 (σ 174 37) il.2) (hx : σ 174 40 = il.1) (hd : σ 174 39 = if dr = true then 1 else 0) (hc : σ 174 41 = kc)
    (k : ∀ (σ' : xS), Msk 8 (σ' 174 37) (ilE dr (cGl C) kc (a, b, x) il).2 → σ' 174 40 = (ilE dr (cGl C) kc (a, b, x) il).1 → (∀ i : Int, i ≠ 37 → i ≠ 40 → σ' 174 i = σ 174 i) → (∀ o : Nat, o ≠ 174 → σ' o = σ o) → K none σ') : Mt g y_Mo_fevers [vR 174, vI a, vI b] σ K := by
  have h6 := H.1.2.2.2.2.2.2.2.1
  have ga := hi.get (by decide) a0 (show a < (8 : Nat) by omega)
  have gb := hi.get (by decide) (show 0 ≤ b by omega) (show b < (8 : Nat) by omega)
  obtain ⟨x0, il⟩ := il
  obtain ⟨ya, hya⟩ : ∃ y : Int, y = (if il a = true then 1 else 0) := ⟨_, rfl⟩
  obtain ⟨yb, hyb⟩ : ∃ y : Int, y = (if il b = true then 1 else 0) := ⟨_, rfl⟩
  obtain ⟨yd, hyd⟩ : ∃ y : Int, y = (if dr = true then 1 else 0) := ⟨_, rfl⟩
  have ga : iand (ishr (σ 174 37) a) 1 = ya := by rw [hya]; exact ga
  have gb : iand (ishr (σ 174 37) b) 1 = yb := by rw [hyb]; exact gb
  have hd : σ 174 39 = yd := by rw [hd, hyd]
  have hx : σ 174 40 = x0 := hx
  have ha01 : (ya = 1 ∧ il a = true) ∨ (ya = 0 ∧ il a = false) := by rw [hya]; split <;> simp_all
  have hb01 : (yb = 1 ∧ il b = true) ∨ (yb = 0 ∧ il b = false) := by rw [hyb]; split <;> simp_all
  have hd01 : (yd = 1 ∧ dr = true) ∨ (yd = 0 ∧ dr = false) := by rw [hyd]; split <;> simp_all
  have hm2 : Msk 8 (ior (σ 174 37) (ior (ishl 1 a) (ishl 1 b))) (fun p => il p || (decide (p = a) || decide (p = b))) := hi.lor (by decide) (msk_two a0 (by omega) (by omega) (by omega))
  have k0 : (ilE dr (cGl C) kc (a, b, x) (x0, il)) = (x0, il) → K none σ := fun e => by
    refine k σ ?_ ?_ (fun _ _ _ => rfl) (fun _ _ => rfl)
    · rw [e]; exact hi
    · rw [e]; exact hx
  have same : il a = il b → ilE dr (cGl C) kc (a, b, x) (x0, il) = (x0, il) := fun e => by
    unfold ilE
    split
    · unfold lotE
      rw [if_neg (fun w => w.2.2 e)]
    · unfold rchE
      split
      · rename_i w
        have hp : il a = true ∧ il b = true := by
          have : il a = true ∨ il b = true := w.2.2
          rcases this with z | z
          · exact ⟨z, by rw [← e]; exact z⟩
          · exact ⟨by rw [e]; exact z, z⟩
        show (x0, fun p => il p || (decide (p = a) || decide (p = b))) = (x0, il)
        congr 1
        funext p
        by_cases z1 : p = a
        · subst z1; rw [hp.1]; rfl
        · by_cases z2 : p = b
          · subst z2; rw [hp.2]; rfl
          · rw [decide_eq_false z1, decide_eq_false z2, Bool.or_false, Bool.or_false]
      · rfl
  have glv : (cGl C a = true ∨ cGl C b = true) → ilE dr (cGl C) kc (a, b, x) (x0, il) = (x0, il) := fun e => by
    unfold ilE
    split
    · unfold lotE
      rw [if_neg (fun w => by have w1 : cGl C a = false := w.1; have w2 : cGl C b = false := w.2.1; rcases e with e | e <;> simp_all)]
    · unfold rchE
      rw [if_neg (fun w => by have w1 : cGl C a = false := w.1; have w2 : cGl C b = false := w.2.1; rcases e with e | e <;> simp_all)]
  refine x_enter 1 rfl rfl rfl (fun Z => ?_)
  show Wx g y_Mo_fevers Z K 0 [vR 174, vI a, vI b, vU] [] σ
  refine x_aload_n (dat d_Mo_fevers 0 rfl) rfl rfl ?_
  refine x_geti (ji := 37) (v := σ 174 37) (dat d_Mo_fevers 1 rfl) rfl f_Mo_253 (oi_mk (by decide +kernel)) rfl ?_
  refine x_iload_n (dat d_Mo_fevers 2 rfl) rfl rfl ?_
  refine x_ishr (v := ishr (σ 174 37) a) (dat d_Mo_fevers 3 rfl) rfl ?_
  refine x_iconst (dat d_Mo_fevers 4 rfl) (by decide) ?_
  refine x_iand (v := ya) (dat d_Mo_fevers 5 rfl) (by exact ga) ?_
  refine x_aload_n (dat d_Mo_fevers 6 rfl) rfl rfl ?_
  refine x_geti (ji := 37) (v := σ 174 37) (dat d_Mo_fevers 7 rfl) rfl f_Mo_253 (oi_mk (by decide +kernel)) rfl ?_
  refine x_iload_n (dat d_Mo_fevers 8 rfl) rfl rfl ?_
  refine x_ishr (v := ishr (σ 174 37) b) (dat d_Mo_fevers 9 rfl) rfl ?_
  refine x_iconst (dat d_Mo_fevers 10 rfl) (by decide) ?_
  refine x_iand (v := yb) (dat d_Mo_fevers 11 rfl) (by exact gb) ?_
  refine x_icmp_eq (tgt := 23) (dat d_Mo_fevers 12 rfl) (by decide) (fun c_16 => ?_) (fun c_16 => ?_)
  · refine x_iconst (dat d_Mo_fevers 15 rfl) (by decide) ?_
    refine x_istore_n (L' := [vR 174, vI a, vI b, vI 0]) (dat d_Mo_fevers 16 rfl) rfl (by decide) rfl rfl ?_
    refine x_iload_n (dat d_Mo_fevers 17 rfl) rfl rfl ?_
    refine x_if_eq (tgt := 45) (dat d_Mo_fevers 18 rfl) (by decide) (fun c_26 => ?_) (fun h => absurd h (by decide))
    refine x_ret (dat d_Mo_fevers 27 rfl) rfl ?_
    first
    | exact k0 (glv (Or.inl gla))
    | exact k0 (glv (Or.inr glb))
    | exact k0 (same (by rcases ha01 with z | z <;> rcases hb01 with w | w <;> first | (exfalso; omega) | (rw [z.2, w.2])))
  · refine x_iconst (dat d_Mo_fevers 13 rfl) (by decide) ?_
    refine x_goto (tgt := 24) (dat d_Mo_fevers 14 rfl) (by decide) ?_
    refine x_istore_n (L' := [vR 174, vI a, vI b, vI 1]) (dat d_Mo_fevers 16 rfl) rfl (by decide) rfl rfl ?_
    refine x_iload_n (dat d_Mo_fevers 17 rfl) rfl rfl ?_
    refine x_if_eq (tgt := 45) (dat d_Mo_fevers 18 rfl) (by decide) (fun h => absurd h (by decide)) (fun c_26 => ?_)
    refine x_aload_n (dat d_Mo_fevers 19 rfl) rfl rfl ?_
    refine x_iload_n (dat d_Mo_fevers 20 rfl) rfl rfl ?_
    refine x_inv (As := [vI a]) (dat d_Mo_fevers 21 rfl) rfl c_Mo_isGloved l_Mo_298 (by decide) (rv_mo (by decide +kernel)) rfl rfl (Nat.le_of_ble_eq_true rfl) ?_
    refine sp_Mo_isGloved H a0 (by omega) (fun gla => ?_) (fun gla => ?_)
    · show Wx g y_Mo_fevers Z K 34 [vR 174, vI a, vI b, vI 1] [vI 1] σ
      refine x_if_ne (tgt := 45) (dat d_Mo_fevers 22 rfl) (by decide) (fun c_34 => ?_) (fun h => absurd h (by decide))
      refine x_ret (dat d_Mo_fevers 27 rfl) rfl ?_
      first
      | exact k0 (glv (Or.inl gla))
      | exact k0 (glv (Or.inr glb))
      | exact k0 (same (by rcases ha01 with z | z <;> rcases hb01 with w | w <;> first | (exfalso; omega) | (rw [z.2, w.2])))
    · show Wx g y_Mo_fevers Z K 34 [vR 174, vI a, vI b, vI 1] [vI 0] σ
      refine x_if_ne (tgt := 45) (dat d_Mo_fevers 22 rfl) (by decide) (fun h => absurd h (by decide)) (fun c_34 => ?_)
      refine x_aload_n (dat d_Mo_fevers 23 rfl) rfl rfl ?_
      refine x_iload_n (dat d_Mo_fevers 24 rfl) rfl rfl ?_
      refine x_inv (As := [vI b]) (dat d_Mo_fevers 25 rfl) rfl c_Mo_isGloved l_Mo_298 (by decide) (rv_mo (by decide +kernel)) rfl rfl (Nat.le_of_ble_eq_true rfl) ?_
      refine sp_Mo_isGloved H (by omega) b1 (fun glb => ?_) (fun glb => ?_)
      · show Wx g y_Mo_fevers Z K 42 [vR 174, vI a, vI b, vI 1] [vI 1] σ
        refine x_if_eq (tgt := 46) (dat d_Mo_fevers 26 rfl) (by decide) (fun h => absurd h (by decide)) (fun c_42 => ?_)
        refine x_ret (dat d_Mo_fevers 27 rfl) rfl ?_
        first
        | exact k0 (glv (Or.inl gla))
        | exact k0 (glv (Or.inr glb))
        | exact k0 (same (by rcases ha01 with z | z <;> rcases hb01 with w | w <;> first | (exfalso; omega) | (rw [z.2, w.2])))
      · show Wx g y_Mo_fevers Z K 42 [vR 174, vI a, vI b, vI 1] [vI 0] σ
        refine x_if_eq (tgt := 46) (dat d_Mo_fevers 26 rfl) (by decide) (fun c_42 => ?_) (fun h => absurd h (by decide))
        refine x_aload_n (dat d_Mo_fevers 28 rfl) rfl rfl ?_
        refine x_geti (ji := 39) (v := yd) (dat d_Mo_fevers 29 rfl) rfl f_Mo_256 (oi_mk (by decide +kernel)) (hd) ?_
        refine x_if_eq (tgt := 87) (dat d_Mo_fevers 30 rfl) (by decide) (fun c_50 => ?_) (fun c_50 => ?_)
        · refine x_aload_n (dat d_Mo_fevers 49 rfl) rfl rfl ?_
          refine x_dup (dat d_Mo_fevers 50 rfl) rfl ?_
          refine x_geti (ji := 37) (v := σ 174 37) (dat d_Mo_fevers 51 rfl) rfl f_Mo_253 (oi_mk (by decide +kernel)) rfl ?_
          refine x_iconst (dat d_Mo_fevers 52 rfl) (by decide) ?_
          refine x_iload_n (dat d_Mo_fevers 53 rfl) rfl rfl ?_
          refine x_ishl (v := ishl 1 a) (dat d_Mo_fevers 54 rfl) rfl ?_
          refine x_iconst (dat d_Mo_fevers 55 rfl) (by decide) ?_
          refine x_iload_n (dat d_Mo_fevers 56 rfl) rfl rfl ?_
          refine x_ishl (v := ishl 1 b) (dat d_Mo_fevers 57 rfl) rfl ?_
          refine x_ior (v := ior (ishl 1 a) (ishl 1 b)) (dat d_Mo_fevers 58 rfl) rfl ?_
          refine x_ior (v := ior (σ 174 37) (ior (ishl 1 a) (ishl 1 b))) (dat d_Mo_fevers 59 rfl) rfl ?_
          refine x_puti (ji := 37) (x := (ior (σ 174 37) (ior (ishl 1 a) (ishl 1 b)))) (dat d_Mo_fevers 60 rfl) rfl f_Mo_253w (oi_mk (by decide +kernel)) (fun h => absurd h (by decide)) (by decide) ?_
          refine x_ret (dat d_Mo_fevers 61 rfl) rfl ?_
          have hne : il a ≠ il b := fun e => by rcases ha01 with z | z <;> rcases hb01 with w | w <;> simp_all
          first
          | (have z : dr = true := by
               rcases hd01 with z | z
               · exact z.2
               · exfalso; omega
             have el : ilE dr (cGl C) kc (a, b, x) (x0, il) = (nxt1 x0, fun p => il p || (decide (p = a) || decide (p = b))) := by
               unfold ilE lotE
               rw [if_pos z, if_pos ⟨Bool.eq_false_iff.mpr gla, Bool.eq_false_iff.mpr glb, hne⟩]
               show (nxt1 x0, if drw (nxt1 x0) < kc then _ else il) = _
               rw [if_pos (show drw (nxt1 x0) < kc from c_83)]
             refine k _ ?_ ?_ (fun i i1 i2 => by rw [up_ni (Ne.symm i1), up_ni (Ne.symm i2)]) (fun o ho => by rw [up_ne ho, up_ne ho])
             · rw [el, up_s]; exact hm2
             · rw [el, up_ni (by decide), up_s]; rfl)
          | (have z : dr = false := by
               rcases hd01 with z | z
               · exfalso; omega
               · exact z.2
             have el : ilE dr (cGl C) kc (a, b, x) (x0, il) = (x0, fun p => il p || (decide (p = a) || decide (p = b))) := by
               unfold ilE rchE
               rw [if_neg (by rw [z]; decide), if_pos ⟨Bool.eq_false_iff.mpr gla, Bool.eq_false_iff.mpr glb, by show il a = true ∨ il b = true; rcases ha01 with w | w <;> rcases hb01 with y | y <;> simp_all⟩]
             refine k _ ?_ ?_ (fun i i1 i2 => up_ni (Ne.symm i1)) (fun o ho => up_ne ho)
             · rw [el, up_s]; exact hm2
             · rw [el, up_ni (by decide)]; exact hx)
        · refine x_aload_n (dat d_Mo_fevers 31 rfl) rfl rfl ?_
          refine x_aload_n (dat d_Mo_fevers 32 rfl) rfl rfl ?_
          refine x_geti (ji := 40) (v := x0) (dat d_Mo_fevers 33 rfl) rfl f_Mo_301 (oi_mk (by decide +kernel)) (hx) ?_
          refine x_ldcw (own := "ShakenBreadModel") (n := 1103515245) (dat d_Mo_fevers 34 rfl) rfl (gw_7 (i := 216) rfl rfl) (by decide) ?_
          refine x_imulw (dat d_Mo_fevers 35 rfl) ?_
          refine x_sipush (dat d_Mo_fevers 36 rfl) (by decide) (by decide) ?_
          refine x_iaddw (dat d_Mo_fevers 37 rfl) ?_
          refine x_puti (ji := 40) (x := (wr ((wr (x0 * 1103515245)) + 12345))) (dat d_Mo_fevers 38 rfl) rfl f_Mo_301w (oi_mk (by decide +kernel)) (fun h => absurd h (by decide)) (by decide) ?_
          refine x_aload_n (dat d_Mo_fevers 39 rfl) rfl rfl ?_
          refine x_geti (ji := 40) (v := wr ((wr (x0 * 1103515245)) + 12345)) (dat d_Mo_fevers 40 rfl) rfl f_Mo_301 (oi_mk (by decide +kernel)) (up_s) ?_
          refine x_bipush (dat d_Mo_fevers 41 rfl) (by decide) (by decide) ?_
          refine x_iushr (v := iushr (wr ((wr (x0 * 1103515245)) + 12345)) 16) (dat d_Mo_fevers 42 rfl) rfl ?_
          refine x_bipush (dat d_Mo_fevers 43 rfl) (by decide) (by decide) ?_
          refine x_irem (v := (iushr (wr ((wr (x0 * 1103515245)) + 12345)) 16) % 10) (dat d_Mo_fevers 44 rfl) (by have := (iushr_16 (wr ((wr (x0 * 1103515245)) + 12345))).1; omega) rfl ?_
          refine x_aload_n (dat d_Mo_fevers 45 rfl) rfl rfl ?_
          refine x_geti (ji := 41) (v := kc) (dat d_Mo_fevers 46 rfl) rfl f_Mo_305 (oi_mk (by decide +kernel)) ((up_ni (by decide)).trans hc) ?_
          refine x_icmp_lt (tgt := 87) (dat d_Mo_fevers 47 rfl) (by decide) (fun c_83 => ?_) (fun c_83 => ?_)
          · refine x_aload_n (dat d_Mo_fevers 49 rfl) rfl rfl ?_
            refine x_dup (dat d_Mo_fevers 50 rfl) rfl ?_
            refine x_geti (ji := 37) (v := σ 174 37) (dat d_Mo_fevers 51 rfl) rfl f_Mo_253 (oi_mk (by decide +kernel)) (up_ni (by decide)) ?_
            refine x_iconst (dat d_Mo_fevers 52 rfl) (by decide) ?_
            refine x_iload_n (dat d_Mo_fevers 53 rfl) rfl rfl ?_
            refine x_ishl (v := ishl 1 a) (dat d_Mo_fevers 54 rfl) rfl ?_
            refine x_iconst (dat d_Mo_fevers 55 rfl) (by decide) ?_
            refine x_iload_n (dat d_Mo_fevers 56 rfl) rfl rfl ?_
            refine x_ishl (v := ishl 1 b) (dat d_Mo_fevers 57 rfl) rfl ?_
            refine x_ior (v := ior (ishl 1 a) (ishl 1 b)) (dat d_Mo_fevers 58 rfl) rfl ?_
            refine x_ior (v := ior (σ 174 37) (ior (ishl 1 a) (ishl 1 b))) (dat d_Mo_fevers 59 rfl) rfl ?_
            refine x_puti (ji := 37) (x := (ior (σ 174 37) (ior (ishl 1 a) (ishl 1 b)))) (dat d_Mo_fevers 60 rfl) rfl f_Mo_253w (oi_mk (by decide +kernel)) (fun h => absurd h (by decide)) (by decide) ?_
            refine x_ret (dat d_Mo_fevers 61 rfl) rfl ?_
            have hne : il a ≠ il b := fun e => by rcases ha01 with z | z <;> rcases hb01 with w | w <;> simp_all
            first
            | (have z : dr = true := by
                 rcases hd01 with z | z
                 · exact z.2
                 · exfalso; omega
               have el : ilE dr (cGl C) kc (a, b, x) (x0, il) = (nxt1 x0, fun p => il p || (decide (p = a) || decide (p = b))) := by
                 unfold ilE lotE
                 rw [if_pos z, if_pos ⟨Bool.eq_false_iff.mpr gla, Bool.eq_false_iff.mpr glb, hne⟩]
                 show (nxt1 x0, if drw (nxt1 x0) < kc then _ else il) = _
                 rw [if_pos (show drw (nxt1 x0) < kc from c_83)]
               refine k _ ?_ ?_ (fun i i1 i2 => by rw [up_ni (Ne.symm i1), up_ni (Ne.symm i2)]) (fun o ho => by rw [up_ne ho, up_ne ho])
               · rw [el, up_s]; exact hm2
               · rw [el, up_ni (by decide), up_s]; rfl)
            | (have z : dr = false := by
                 rcases hd01 with z | z
                 · exfalso; omega
                 · exact z.2
               have el : ilE dr (cGl C) kc (a, b, x) (x0, il) = (x0, fun p => il p || (decide (p = a) || decide (p = b))) := by
                 unfold ilE rchE
                 rw [if_neg (by rw [z]; decide), if_pos ⟨Bool.eq_false_iff.mpr gla, Bool.eq_false_iff.mpr glb, by show il a = true ∨ il b = true; rcases ha01 with w | w <;> rcases hb01 with y | y <;> simp_all⟩]
               refine k _ ?_ ?_ (fun i i1 i2 => up_ni (Ne.symm i1)) (fun o ho => up_ne ho)
               · rw [el, up_s]; exact hm2
               · rw [el, up_ni (by decide)]; exact hx)
          · refine x_ret (dat d_Mo_fevers 48 rfl) rfl ?_
            have hne : il a ≠ il b := fun e => by rcases ha01 with z | z <;> rcases hb01 with w | w <;> simp_all
            have hdr : dr = true := by rcases hd01 with z | z; exact z.2; (exfalso; omega)
            have el : ilE dr (cGl C) kc (a, b, x) (x0, il) = (nxt1 x0, il) := by
              unfold ilE lotE
              rw [if_pos hdr, if_pos ⟨Bool.eq_false_iff.mpr gla, Bool.eq_false_iff.mpr glb, hne⟩]
              show (nxt1 x0, if drw (nxt1 x0) < kc then _ else il) = _
              rw [if_neg (show ¬ drw (nxt1 x0) < kc from fun w => absurd w (Int.not_lt.mpr (by assumption)))]
            refine k _ ?_ ?_ (fun i i1 i2 => up_ni (Ne.symm i2)) (fun o ho => up_ne ho)
            · rw [el, up_ni (by decide)]; exact hi
            · rw [el, up_s]; rfl
end
