/-! the twin: a town taken up, cells, quarrels, who gives -/
def MoT (σ : xS) (t : Int → Int) (t0 : Int) : Prop := σ 174 12 = t0 ∧ (610 ≤ t0 ∧ t0 ≤ 766) ∧ ∀ i : Int, 0 ≤ i → i < 156 → σ 175 (t0 + i) = t i
theorem MoT.same {σ σ' : xS} {t : Int → Int} {t0 : Int} (h : MoT σ t t0) (e4 : σ' 174 12 = σ 174 12) (e5 : σ' 175 = σ 175) : MoT σ' t t0 := by
  unfold MoT at h ⊢
  rw [e4, e5]
  exact h
section
variable {g : xG} {K : Option MV → xS → Prop} {σ : xS} {t : Int → Int} {t0 : Int}
theorem sp_Mo_isIn {v l m : Int} (kt : l ≤ v → v ≤ m → K (some (vI 1)) σ) (kf : ¬ (l ≤ v ∧ v ≤ m) → K (some (vI 0)) σ) : Mt g y_Mo_isIn [vI v, vI l, vI m] σ K := by
  refine x_enter 0 rfl rfl rfl (fun Z => ?_)
  show Wx g y_Mo_isIn Z K 0 [vI v, vI l, vI m] [] σ
  refine x_iload_n (dat d_Mo_isIn 0 rfl) rfl rfl ?_
  refine x_iload_n (dat d_Mo_isIn 1 rfl) rfl rfl ?_
  refine x_icmp_lt (tgt := 14) (dat d_Mo_isIn 2 rfl) (by decide) (fun c_2 => ?_) (fun c_2 => ?_)
  · refine x_iconst (dat d_Mo_isIn 8 rfl) (by decide) ?_
    refine x_zret (dat d_Mo_isIn 9 rfl) rfl (by decide) ?_
    first
    | exact kt (by omega) (by omega)
    | exact kf (by omega)
  · refine x_iload_n (dat d_Mo_isIn 3 rfl) rfl rfl ?_
    refine x_iload_n (dat d_Mo_isIn 4 rfl) rfl rfl ?_
    refine x_icmp_gt (tgt := 14) (dat d_Mo_isIn 5 rfl) (by decide) (fun c_7 => ?_) (fun c_7 => ?_)
    · refine x_iconst (dat d_Mo_isIn 8 rfl) (by decide) ?_
      refine x_zret (dat d_Mo_isIn 9 rfl) rfl (by decide) ?_
      first
      | exact kt (by omega) (by omega)
      | exact kf (by omega)
    · refine x_iconst (dat d_Mo_isIn 6 rfl) (by decide) ?_
      refine x_goto (tgt := 15) (dat d_Mo_isIn 7 rfl) (by decide) ?_
      refine x_zret (dat d_Mo_isIn 9 rfl) rfl (by decide) ?_
      first
      | exact kt (by omega) (by omega)
      | exact kf (by omega)
theorem sp_Mo_of {w : Int} (M : MoT σ t t0) (w0 : 0 ≤ w) (w1 : w < 156) (k : K (some (vI (t w))) σ) : Mt g y_Mo_of [vR 174, vI w] σ K := by
  have e := M.2.2 w w0 w1
  have b := M.2.1
  have e4 := M.1
  refine x_enter 0 rfl rfl rfl (fun Z => ?_)
  show Wx g y_Mo_of Z K 0 [vR 174, vI w] [] σ
  refine x_aload_n (dat d_Mo_of 0 rfl) rfl rfl ?_
  refine x_getr (r := 175) (dat d_Mo_of 1 rfl) rfl f_Mo_7 (or_mk (by decide +kernel)) ?_
  refine x_aload_n (dat d_Mo_of 2 rfl) rfl rfl ?_
  refine x_geti (ji := 12) (v := t0) (dat d_Mo_of 3 rfl) rfl f_Mo_193 (oi_mk (by decide +kernel)) (e4) ?_
  refine x_iload_n (dat d_Mo_of 4 rfl) rfl rfl ?_
  refine x_iadd (v := t0 + w) (dat d_Mo_of 5 rfl) rfl (by omega) ?_
  refine x_iald (n := 3888) (v := t w) (dat d_Mo_of 6 rfl) (ai_mk (by decide +kernel)) (by omega) (by omega) (by exact e) ?_
  refine x_iret (dat d_Mo_of 7 rfl) rfl ?_
  exact k
theorem sp_Mo_people (M : MoT σ t t0) (k : K (some (vI (t 6))) σ) : Mt g y_Mo_people [vR 174] σ K := by
  refine x_enter 0 rfl rfl rfl (fun Z => ?_)
  show Wx g y_Mo_people Z K 0 [vR 174] [] σ
  refine x_aload_n (dat d_Mo_people 0 rfl) rfl rfl ?_
  refine x_bipush (dat d_Mo_people 1 rfl) (by decide) (by decide) ?_
  refine x_inv (As := [vI 6]) (dat d_Mo_people 2 rfl) rfl c_Mo_of l_Mo_199 (by decide) (rv_mo (by decide +kernel)) rfl rfl (Nat.le_of_ble_eq_true rfl) ?_
  refine sp_Mo_of M (by decide) (by decide) ?_
  show Wx g y_Mo_people Z K 6 [vR 174] [vI (t 6)] σ
  refine x_iret (dat d_Mo_people 3 rfl) rfl ?_
  exact k
theorem sp_Mo_personOf {p w : Int} (M : MoT σ t t0) (p0 : 0 ≤ p) (p1 : p < 8) (w0 : 0 ≤ w) (w1 : w < 17) (k : K (some (vI (t (20 + 17 * p + w)))) σ) : Mt g y_Mo_personOf [vR 174, vI p, vI w] σ K := by
  have e := M.2.2 (20 + 17 * p + w) (by omega) (by omega)
  have b := M.2.1
  have e4 := M.1
  refine x_enter 0 rfl rfl rfl (fun Z => ?_)
  show Wx g y_Mo_personOf Z K 0 [vR 174, vI p, vI w] [] σ
  refine x_aload_n (dat d_Mo_personOf 0 rfl) rfl rfl ?_
  refine x_getr (r := 175) (dat d_Mo_personOf 1 rfl) rfl f_Mo_7 (or_mk (by decide +kernel)) ?_
  refine x_aload_n (dat d_Mo_personOf 2 rfl) rfl rfl ?_
  refine x_geti (ji := 12) (v := t0) (dat d_Mo_personOf 3 rfl) rfl f_Mo_193 (oi_mk (by decide +kernel)) (e4) ?_
  refine x_bipush (dat d_Mo_personOf 4 rfl) (by decide) (by decide) ?_
  refine x_iadd (v := t0 + 20) (dat d_Mo_personOf 5 rfl) rfl (by omega) ?_
  refine x_bipush (dat d_Mo_personOf 6 rfl) (by decide) (by decide) ?_
  refine x_iload_n (dat d_Mo_personOf 7 rfl) rfl rfl ?_
  refine x_imul (v := 17 * p) (dat d_Mo_personOf 8 rfl) (by omega) (by omega) ?_
  refine x_iadd (v := (t0 + 20) + (17 * p)) (dat d_Mo_personOf 9 rfl) rfl (by omega) ?_
  refine x_iload_n (dat d_Mo_personOf 10 rfl) rfl rfl ?_
  refine x_iadd (v := t0 + (20 + 17 * p + w)) (dat d_Mo_personOf 11 rfl) (by omega) (by omega) ?_
  refine x_iald (n := 3888) (v := t (20 + 17 * p + w)) (dat d_Mo_personOf 12 rfl) (ai_mk (by decide +kernel)) (by omega) (by omega) (by exact e) ?_
  refine x_iret (dat d_Mo_personOf 13 rfl) rfl ?_
  exact k
theorem sp_Mo_isPerson {p : Int} (M : MoT σ t t0) (hT : TownOk t) (kt : 0 ≤ p → p < t 6 → K (some (vI 1)) σ) (kf : ¬ (0 ≤ p ∧ p < t 6) → K (some (vI 0)) σ) : Mt g y_Mo_isPerson [vR 174, vI p] σ K := by
  have h6 := hT.2.2.2.2.2.2.1
  refine x_enter 0 rfl rfl rfl (fun Z => ?_)
  show Wx g y_Mo_isPerson Z K 0 [vR 174, vI p] [] σ
  refine x_iload_n (dat d_Mo_isPerson 0 rfl) rfl rfl ?_
  refine x_iconst (dat d_Mo_isPerson 1 rfl) (by decide) ?_
  refine x_aload_n (dat d_Mo_isPerson 2 rfl) rfl rfl ?_
  refine x_inv (As := []) (dat d_Mo_isPerson 3 rfl) rfl c_Mo_people l_Mo_202 (by decide) (rv_mo (by decide +kernel)) rfl rfl (Nat.le_of_ble_eq_true rfl) ?_
  refine sp_Mo_people M ?_
  show Wx g y_Mo_isPerson Z K 6 [vR 174, vI p] [vI (t 6), vI 0, vI p] σ
  refine x_iconst (dat d_Mo_isPerson 4 rfl) (by decide) ?_
  refine x_isub (v := (t 6) - 1) (dat d_Mo_isPerson 5 rfl) rfl (by omega) ?_
  refine x_invs (As := [vI p, vI 0, vI ((t 6) - 1)]) (dat d_Mo_isPerson 6 rfl) rfl c_Mo_isIn l_Mo_136 (by decide) rfl rfl (Nat.le_of_ble_eq_true rfl) ?_
  refine sp_Mo_isIn (fun a b => ?_) (fun c => ?_)
  · show Wx g y_Mo_isPerson Z K 11 [vR 174, vI p] [vI 1] σ
    refine x_zret (dat d_Mo_isPerson 7 rfl) rfl (by decide) ?_
    first
    | exact kt a (by omega)
    | exact kf (by omega)
  · show Wx g y_Mo_isPerson Z K 11 [vR 174, vI p] [vI 0] σ
    refine x_zret (dat d_Mo_isPerson 7 rfl) rfl (by decide) ?_
    first
    | exact kt a (by omega)
    | exact kf (by omega)
theorem sp_Mo_isHour {h : Int} (M : MoT σ t t0) (hT : TownOk t) (kt : 0 ≤ h → h < t 3 → K (some (vI 1)) σ) (kf : ¬ (0 ≤ h ∧ h < t 3) → K (some (vI 0)) σ) : Mt g y_Mo_isHour [vR 174, vI h] σ K := by
  have h6 := hT.2.2.2.1
  refine x_enter 0 rfl rfl rfl (fun Z => ?_)
  show Wx g y_Mo_isHour Z K 0 [vR 174, vI h] [] σ
  refine x_iload_n (dat d_Mo_isHour 0 rfl) rfl rfl ?_
  refine x_iconst (dat d_Mo_isHour 1 rfl) (by decide) ?_
  refine x_aload_n (dat d_Mo_isHour 2 rfl) rfl rfl ?_
  refine x_iconst (dat d_Mo_isHour 3 rfl) (by decide) ?_
  refine x_inv (As := [vI 3]) (dat d_Mo_isHour 4 rfl) rfl c_Mo_of l_Mo_199 (by decide) (rv_mo (by decide +kernel)) rfl rfl (Nat.le_of_ble_eq_true rfl) ?_
  refine sp_Mo_of M (by decide) (by decide) ?_
  show Wx g y_Mo_isHour Z K 7 [vR 174, vI h] [vI (t 3), vI 0, vI h] σ
  refine x_iconst (dat d_Mo_isHour 5 rfl) (by decide) ?_
  refine x_isub (v := (t 3) - 1) (dat d_Mo_isHour 6 rfl) rfl (by omega) ?_
  refine x_invs (As := [vI h, vI 0, vI ((t 3) - 1)]) (dat d_Mo_isHour 7 rfl) rfl c_Mo_isIn l_Mo_136 (by decide) rfl rfl (Nat.le_of_ble_eq_true rfl) ?_
  refine sp_Mo_isIn (fun a b => ?_) (fun c => ?_)
  · show Wx g y_Mo_isHour Z K 12 [vR 174, vI h] [vI 1] σ
    refine x_zret (dat d_Mo_isHour 8 rfl) rfl (by decide) ?_
    first
    | exact kt a (by omega)
    | exact kf (by omega)
  · show Wx g y_Mo_isHour Z K 12 [vR 174, vI h] [vI 0] σ
    refine x_zret (dat d_Mo_isHour 8 rfl) rfl (by decide) ?_
    first
    | exact kt a (by omega)
    | exact kf (by omega)
theorem sp_Mo_cells (M : MoT σ t t0) (hT : TownOk t) (k : K (some (vI (t 0 * t 1))) σ) : Mt g y_Mo_cells [vR 174] σ K := by
  have cb := cells_bd hT
  refine x_enter 0 rfl rfl rfl (fun Z => ?_)
  show Wx g y_Mo_cells Z K 0 [vR 174] [] σ
  refine x_aload_n (dat d_Mo_cells 0 rfl) rfl rfl ?_
  refine x_iconst (dat d_Mo_cells 1 rfl) (by decide) ?_
  refine x_inv (As := [vI 0]) (dat d_Mo_cells 2 rfl) rfl c_Mo_of l_Mo_199 (by decide) (rv_mo (by decide +kernel)) rfl rfl (Nat.le_of_ble_eq_true rfl) ?_
  refine sp_Mo_of M (by decide) (by decide) ?_
  show Wx g y_Mo_cells Z K 5 [vR 174] [vI (t 0)] σ
  refine x_aload_n (dat d_Mo_cells 3 rfl) rfl rfl ?_
  refine x_iconst (dat d_Mo_cells 4 rfl) (by decide) ?_
  refine x_inv (As := [vI 1]) (dat d_Mo_cells 5 rfl) rfl c_Mo_of l_Mo_199 (by decide) (rv_mo (by decide +kernel)) rfl rfl (Nat.le_of_ble_eq_true rfl) ?_
  refine sp_Mo_of M (by decide) (by decide) ?_
  show Wx g y_Mo_cells Z K 10 [vR 174] [vI (t 1), vI (t 0)] σ
  refine x_imul (v := (t 0) * (t 1)) (dat d_Mo_cells 6 rfl) rfl (by omega) ?_
  refine x_iret (dat d_Mo_cells 7 rfl) rfl ?_
  exact k
theorem sp_Mo_mannerOf {p : Int} (M : MoT σ t t0) (p0 : 0 ≤ p) (p1 : p < 8) (k : K (some (vI (mnT t p))) σ) : Mt g y_Mo_mannerOf [vR 174, vI p] σ K := by
  refine x_enter 0 rfl rfl rfl (fun Z => ?_)
  show Wx g y_Mo_mannerOf Z K 0 [vR 174, vI p] [] σ
  refine x_aload_n (dat d_Mo_mannerOf 0 rfl) rfl rfl ?_
  refine x_iload_n (dat d_Mo_mannerOf 1 rfl) rfl rfl ?_
  refine x_iconst (dat d_Mo_mannerOf 2 rfl) (by decide) ?_
  refine x_inv (As := [vI p, vI 0]) (dat d_Mo_mannerOf 3 rfl) rfl c_Mo_personOf l_Mo_211 (by decide) (rv_mo (by decide +kernel)) rfl rfl (Nat.le_of_ble_eq_true rfl) ?_
  refine sp_Mo_personOf M p0 p1 (by decide) (by decide) ?_
  have e : t (20 + 17 * p + 0) = mnT t p := by unfold mnT; congr 1; omega
  rw [e]
  show Wx g y_Mo_mannerOf Z K 6 [vR 174, vI p] [vI (mnT t p)] σ
  refine x_iret (dat d_Mo_mannerOf 4 rfl) rfl ?_
  exact k
def rkM (m : Int) : Int := if m = 1 then 0 else if m = 2 then 2 else 1
theorem sp_Mo_rankOf {m : Int} (k : K (some (vI (rkM m))) σ) : Mt g y_Mo_rankOf [vI m] σ K := by
  have kk : ∀ v : Int, v = rkM m → K (some (vI v)) σ := fun v h => by rw [h]; exact k
  refine x_enter 0 rfl rfl rfl (fun Z => ?_)
  show Wx g y_Mo_rankOf Z K 0 [vI m] [] σ
  refine x_iload_n (dat d_Mo_rankOf 0 rfl) rfl rfl ?_
  refine x_iconst (dat d_Mo_rankOf 1 rfl) (by decide) ?_
  refine x_icmp_ne (tgt := 9) (dat d_Mo_rankOf 2 rfl) (by decide) (fun c_2 => ?_) (fun c_2 => ?_)
  · refine x_iload_n (dat d_Mo_rankOf 5 rfl) rfl rfl ?_
    refine x_iconst (dat d_Mo_rankOf 6 rfl) (by decide) ?_
    refine x_icmp_ne (tgt := 18) (dat d_Mo_rankOf 7 rfl) (by decide) (fun c_11 => ?_) (fun c_11 => ?_)
    · refine x_iconst (dat d_Mo_rankOf 10 rfl) (by decide) ?_
      refine x_iret (dat d_Mo_rankOf 11 rfl) rfl ?_
      refine kk _ ?_
      unfold rkM
      first
      | (exfalso; omega)
      | rw [if_pos (by omega)]
      | rw [if_neg (by omega), if_pos (by omega)]
      | rw [if_neg (by omega), if_neg (by omega)]
    · refine x_iconst (dat d_Mo_rankOf 8 rfl) (by decide) ?_
      refine x_goto (tgt := 19) (dat d_Mo_rankOf 9 rfl) (by decide) ?_
      refine x_iret (dat d_Mo_rankOf 11 rfl) rfl ?_
      refine kk _ ?_
      unfold rkM
      first
      | (exfalso; omega)
      | rw [if_pos (by omega)]
      | rw [if_neg (by omega), if_pos (by omega)]
      | rw [if_neg (by omega), if_neg (by omega)]
  · refine x_iconst (dat d_Mo_rankOf 3 rfl) (by decide) ?_
    refine x_goto (tgt := 19) (dat d_Mo_rankOf 4 rfl) (by decide) ?_
    refine x_iret (dat d_Mo_rankOf 11 rfl) rfl ?_
    refine kk _ ?_
    unfold rkM
    first
    | (exfalso; omega)
    | rw [if_pos (by omega)]
    | rw [if_neg (by omega), if_pos (by omega)]
    | rw [if_neg (by omega), if_neg (by omega)]
def gasM (s : Int → Int) (p : Int) : Int := if s 32 = -1 then p else if p = s 32 then s 33 else if p = s 33 then s 32 else p
theorem sp_Mo_goesAs {p : Int} (k : K (some (vI (gasM (σ 174) p))) σ) : Mt g y_Mo_goesAs [vR 174, vI p] σ K := by
  have kk : ∀ v : Int, v = gasM (σ 174) p → K (some (vI v)) σ := fun v h => by rw [h]; exact k
  refine x_enter 0 rfl rfl rfl (fun Z => ?_)
  show Wx g y_Mo_goesAs Z K 0 [vR 174, vI p] [] σ
  refine x_aload_n (dat d_Mo_goesAs 0 rfl) rfl rfl ?_
  refine x_geti (ji := 32) (v := σ 174 32) (dat d_Mo_goesAs 1 rfl) rfl f_Mo_244 (oi_mk (by decide +kernel)) rfl ?_
  refine x_iconst (dat d_Mo_goesAs 2 rfl) (by decide) ?_
  refine x_icmp_ne (tgt := 12) (dat d_Mo_goesAs 3 rfl) (by decide) (fun c_5 => ?_) (fun c_5 => ?_)
  · refine x_iload_n (dat d_Mo_goesAs 6 rfl) rfl rfl ?_
    refine x_aload_n (dat d_Mo_goesAs 7 rfl) rfl rfl ?_
    refine x_geti (ji := 32) (v := σ 174 32) (dat d_Mo_goesAs 8 rfl) rfl f_Mo_244 (oi_mk (by decide +kernel)) rfl ?_
    refine x_icmp_ne (tgt := 27) (dat d_Mo_goesAs 9 rfl) (by decide) (fun c_17 => ?_) (fun c_17 => ?_)
    · refine x_iload_n (dat d_Mo_goesAs 13 rfl) rfl rfl ?_
      refine x_aload_n (dat d_Mo_goesAs 14 rfl) rfl rfl ?_
      refine x_geti (ji := 33) (v := σ 174 33) (dat d_Mo_goesAs 15 rfl) rfl f_Mo_259 (oi_mk (by decide +kernel)) rfl ?_
      refine x_icmp_ne (tgt := 42) (dat d_Mo_goesAs 16 rfl) (by decide) (fun c_32 => ?_) (fun c_32 => ?_)
      · refine x_iload_n (dat d_Mo_goesAs 20 rfl) rfl rfl ?_
        refine x_iret (dat d_Mo_goesAs 21 rfl) rfl ?_
        refine kk _ ?_
        unfold gasM
        first
        | (exfalso; omega)
        | rw [if_pos (by omega)]
        | rw [if_neg (by omega), if_pos (by omega)]
        | rw [if_neg (by omega), if_neg (by omega), if_pos (by omega)]
        | rw [if_neg (by omega), if_neg (by omega), if_neg (by omega)]
      · refine x_aload_n (dat d_Mo_goesAs 17 rfl) rfl rfl ?_
        refine x_geti (ji := 32) (v := σ 174 32) (dat d_Mo_goesAs 18 rfl) rfl f_Mo_244 (oi_mk (by decide +kernel)) rfl ?_
        refine x_goto (tgt := 43) (dat d_Mo_goesAs 19 rfl) (by decide) ?_
        refine x_iret (dat d_Mo_goesAs 21 rfl) rfl ?_
        refine kk _ ?_
        unfold gasM
        first
        | (exfalso; omega)
        | rw [if_pos (by omega)]
        | rw [if_neg (by omega), if_pos (by omega)]
        | rw [if_neg (by omega), if_neg (by omega), if_pos (by omega)]
        | rw [if_neg (by omega), if_neg (by omega), if_neg (by omega)]
    · refine x_aload_n (dat d_Mo_goesAs 10 rfl) rfl rfl ?_
      refine x_geti (ji := 33) (v := σ 174 33) (dat d_Mo_goesAs 11 rfl) rfl f_Mo_259 (oi_mk (by decide +kernel)) rfl ?_
      refine x_goto (tgt := 43) (dat d_Mo_goesAs 12 rfl) (by decide) ?_
      refine x_iret (dat d_Mo_goesAs 21 rfl) rfl ?_
      refine kk _ ?_
      unfold gasM
      first
      | (exfalso; omega)
      | rw [if_pos (by omega)]
      | rw [if_neg (by omega), if_pos (by omega)]
      | rw [if_neg (by omega), if_neg (by omega), if_pos (by omega)]
      | rw [if_neg (by omega), if_neg (by omega), if_neg (by omega)]
  · refine x_iload_n (dat d_Mo_goesAs 4 rfl) rfl rfl ?_
    refine x_goto (tgt := 43) (dat d_Mo_goesAs 5 rfl) (by decide) ?_
    refine x_iret (dat d_Mo_goesAs 21 rfl) rfl ?_
    refine kk _ ?_
    unfold gasM
    first
    | (exfalso; omega)
    | rw [if_pos (by omega)]
    | rw [if_neg (by omega), if_pos (by omega)]
    | rw [if_neg (by omega), if_neg (by omega), if_pos (by omega)]
    | rw [if_neg (by omega), if_neg (by omega), if_neg (by omega)]
/-- what the twin's settings may be -/
def MoS (s t : Int → Int) : Prop := (s 20 = -1 ∨ ((0 ≤ s 21 ∧ s 21 ≤ 23) ∧ (1 ≤ s 22 ∧ s 22 ≤ 4))) ∧ (s 32 = -1 ∨ ((0 ≤ s 32 ∧ s 32 < t 6) ∧ (0 ≤ s 33 ∧ s 33 < t 6)))
theorem gasM_in {s t : Int → Int} (hS : MoS s t) {p : Int} (p0 : 0 ≤ p) (p1 : p < t 6) : 0 ≤ gasM s p ∧ gasM s p < t 6 := by
  have h2 := hS.2
  unfold gasM
  split
  · exact ⟨p0, p1⟩
  · split
    · omega
    · split <;> omega
theorem sp_Mo_errandCell {p h : Int} (M : MoT σ t t0) (hT : TownOk t) (hS : MoS (σ 174) t) (p0 : 0 ≤ p) (p1 : p < t 6) (h0 : 0 ≤ h) (h1 : h < 100) (k : K (some (vI (cellT t (gasM (σ 174) p) h))) σ) : Mt g y_Mo_errandCell [vR 174, vI p, vI h] σ K := by
  have h6 := hT.2.2.2.2.2.2.1
  have gi := gasM_in hS p0 p1
  have kk : ∀ v : Int, v = cellT t (gasM (σ 174) p) h → K (some (vI v)) σ := fun v h => by rw [h]; exact k
  generalize hq : gasM (σ 174) p = q at gi kk
  have ts := (hT.2.2.2.2.2.2.2.2.1 q gi.1 gi.2).2.2.2.2.1
  have e4 : t (20 + 17 * q + 4) = t (24 + 17 * q) := by congr 1; omega
  refine x_enter 2 rfl rfl rfl (fun Z => ?_)
  show Wx g y_Mo_errandCell Z K 0 [vR 174, vI p, vI h, vU, vU] [] σ
  refine x_aload_n (dat d_Mo_errandCell 0 rfl) rfl rfl ?_
  refine x_iload_n (dat d_Mo_errandCell 1 rfl) rfl rfl ?_
  refine x_inv (As := [vI p]) (dat d_Mo_errandCell 2 rfl) rfl c_Mo_goesAs l_Mo_262 (by decide) (rv_mo (by decide +kernel)) rfl rfl (Nat.le_of_ble_eq_true rfl) ?_
  refine sp_Mo_goesAs ?_
  rw [hq]
  show Wx g y_Mo_errandCell Z K 5 [vR 174, vI p, vI h, vU, vU] [vI q] σ
  refine x_istore_n (L' := [vR 174, vI p, vI h, vI q, vU]) (dat d_Mo_errandCell 3 rfl) rfl (by decide) rfl rfl ?_
  refine x_aload_n (dat d_Mo_errandCell 4 rfl) rfl rfl ?_
  refine x_iload_n (dat d_Mo_errandCell 5 rfl) rfl rfl ?_
  refine x_iconst (dat d_Mo_errandCell 6 rfl) (by decide) ?_
  refine x_inv (As := [vI q, vI 4]) (dat d_Mo_errandCell 7 rfl) rfl c_Mo_personOf l_Mo_211 (by decide) (rv_mo (by decide +kernel)) rfl rfl (Nat.le_of_ble_eq_true rfl) ?_
  refine sp_Mo_personOf M gi.1 (by omega) (by decide) (by decide) ?_
  rw [e4]
  show Wx g y_Mo_errandCell Z K 12 [vR 174, vI p, vI h, vI q, vU] [vI (t (24 + 17 * q))] σ
  refine x_istore (L' := [vR 174, vI p, vI h, vI q, vI (t (24 + 17 * q))]) (dat d_Mo_errandCell 8 rfl) (by decide) rfl rfl ?_
  refine x_iload (dat d_Mo_errandCell 9 rfl) rfl ?_
  refine x_if_ne (tgt := 28) (dat d_Mo_errandCell 10 rfl) (by decide) (fun c_16 => ?_) (fun c_16 => ?_)
  · refine x_aload_n (dat d_Mo_errandCell 16 rfl) rfl rfl ?_
    refine x_iload_n (dat d_Mo_errandCell 17 rfl) rfl rfl ?_
    refine x_iconst (dat d_Mo_errandCell 18 rfl) (by decide) ?_
    refine x_iload_n (dat d_Mo_errandCell 19 rfl) rfl rfl ?_
    refine x_iload (dat d_Mo_errandCell 20 rfl) rfl ?_
    refine x_icmp_ge (tgt := 41) (dat d_Mo_errandCell 21 rfl) (by decide) (fun c_34 => ?_) (fun c_34 => ?_)
    · refine x_iload (dat d_Mo_errandCell 24 rfl) rfl ?_
      refine x_iconst (dat d_Mo_errandCell 25 rfl) (by decide) ?_
      refine x_isub (v := (t (24 + 17 * q)) - 1) (dat d_Mo_errandCell 26 rfl) rfl (by omega) ?_
      refine x_iadd (v := 5 + ((t (24 + 17 * q)) - 1)) (dat d_Mo_errandCell 27 rfl) rfl (by omega) ?_
      refine x_inv (As := [vI q, vI (5 + ((t (24 + 17 * q)) - 1))]) (dat d_Mo_errandCell 28 rfl) rfl c_Mo_personOf l_Mo_211 (by decide) (rv_mo (by decide +kernel)) rfl rfl (Nat.le_of_ble_eq_true rfl) ?_
      refine sp_Mo_personOf M gi.1 (by omega) (by omega) (by omega) ?_
      show Wx g y_Mo_errandCell Z K 49 [vR 174, vI p, vI h, vI q, vI (t (24 + 17 * q))] [vI (t (20 + 17 * q + (5 + ((t (24 + 17 * q)) - 1))))] σ
      refine x_iret (dat d_Mo_errandCell 29 rfl) rfl ?_
      refine kk _ ?_
      unfold cellT
      first
      | (rw [if_pos (by omega)]; congr 1; omega)
      | (rw [if_neg (by omega), if_pos (by omega)]; congr 1; omega)
      | (rw [if_neg (by omega), if_neg (by omega)]; congr 1; omega)
    · refine x_iload_n (dat d_Mo_errandCell 22 rfl) rfl rfl ?_
      refine x_goto (tgt := 45) (dat d_Mo_errandCell 23 rfl) (by decide) ?_
      refine x_iadd (v := 5 + h) (dat d_Mo_errandCell 27 rfl) rfl (by omega) ?_
      refine x_inv (As := [vI q, vI (5 + h)]) (dat d_Mo_errandCell 28 rfl) rfl c_Mo_personOf l_Mo_211 (by decide) (rv_mo (by decide +kernel)) rfl rfl (Nat.le_of_ble_eq_true rfl) ?_
      refine sp_Mo_personOf M gi.1 (by omega) (by omega) (by omega) ?_
      show Wx g y_Mo_errandCell Z K 49 [vR 174, vI p, vI h, vI q, vI (t (24 + 17 * q))] [vI (t (20 + 17 * q + (5 + h)))] σ
      refine x_iret (dat d_Mo_errandCell 29 rfl) rfl ?_
      refine kk _ ?_
      unfold cellT
      first
      | (rw [if_pos (by omega)]; congr 1; omega)
      | (rw [if_neg (by omega), if_pos (by omega)]; congr 1; omega)
      | (rw [if_neg (by omega), if_neg (by omega)]; congr 1; omega)
  · refine x_aload_n (dat d_Mo_errandCell 11 rfl) rfl rfl ?_
    refine x_iload_n (dat d_Mo_errandCell 12 rfl) rfl rfl ?_
    refine x_iconst (dat d_Mo_errandCell 13 rfl) (by decide) ?_
    refine x_inv (As := [vI q, vI 1]) (dat d_Mo_errandCell 14 rfl) rfl c_Mo_personOf l_Mo_211 (by decide) (rv_mo (by decide +kernel)) rfl rfl (Nat.le_of_ble_eq_true rfl) ?_
    refine sp_Mo_personOf M gi.1 (by omega) (by decide) (by decide) ?_
    show Wx g y_Mo_errandCell Z K 25 [vR 174, vI p, vI h, vI q, vI (t (24 + 17 * q))] [vI (t (20 + 17 * q + 1))] σ
    refine x_goto (tgt := 49) (dat d_Mo_errandCell 15 rfl) (by decide) ?_
    refine x_iret (dat d_Mo_errandCell 29 rfl) rfl ?_
    refine kk _ ?_
    unfold cellT
    first
    | (rw [if_pos (by omega)]; congr 1; omega)
    | (rw [if_neg (by omega), if_pos (by omega)]; congr 1; omega)
    | (rw [if_neg (by omega), if_neg (by omega)]; congr 1; omega)
def cellM (s w t : Int → Int) (p h : Int) : Int := if h = s 27 then s 28 else if h = s 17 ∧ p = s 18 then s 19 else if p = s 20 ∧ s 21 ≤ h ∧ h < s 21 + s 22 then w (h - s 21) else cellT t (gasM s p) h
theorem sp_Mo_cellOf {p h : Int} (M : MoT σ t t0) (hT : TownOk t) (hS : MoS (σ 174) t) (p0 : 0 ≤ p) (p1 : p < t 6) (h0 : 0 ≤ h) (h1 : h < 24) (k : K (some (vI (cellM (σ 174) (σ 178) t p h))) σ) : Mt g y_Mo_cellOf [vR 174, vI p, vI h] σ K := by
  have kk : ∀ v : Int, v = cellM (σ 174) (σ 178) t p h → K (some (vI v)) σ := fun v h => by rw [h]; exact k
  have hS1 := hS.1
  refine x_enter 0 rfl rfl rfl (fun Z => ?_)
  show Wx g y_Mo_cellOf Z K 0 [vR 174, vI p, vI h] [] σ
  refine x_iload_n (dat d_Mo_cellOf 0 rfl) rfl rfl ?_
  refine x_aload_n (dat d_Mo_cellOf 1 rfl) rfl rfl ?_
  refine x_geti (ji := 27) (v := σ 174 27) (dat d_Mo_cellOf 2 rfl) rfl f_Mo_235 (oi_mk (by decide +kernel)) rfl ?_
  refine x_icmp_ne (tgt := 13) (dat d_Mo_cellOf 3 rfl) (by decide) (fun c_5 => ?_) (fun c_5 => ?_)
  · refine x_iload_n (dat d_Mo_cellOf 7 rfl) rfl rfl ?_
    refine x_aload_n (dat d_Mo_cellOf 8 rfl) rfl rfl ?_
    refine x_geti (ji := 17) (v := σ 174 17) (dat d_Mo_cellOf 9 rfl) rfl f_Mo_226 (oi_mk (by decide +kernel)) rfl ?_
    refine x_icmp_ne (tgt := 34) (dat d_Mo_cellOf 10 rfl) (by decide) (fun c_18 => ?_) (fun c_18 => ?_)
    · refine x_iload_n (dat d_Mo_cellOf 18 rfl) rfl rfl ?_
      refine x_aload_n (dat d_Mo_cellOf 19 rfl) rfl rfl ?_
      refine x_geti (ji := 20) (v := σ 174 20) (dat d_Mo_cellOf 20 rfl) rfl f_Mo_229 (oi_mk (by decide +kernel)) rfl ?_
      refine x_icmp_ne (tgt := 76) (dat d_Mo_cellOf 21 rfl) (by decide) (fun c_39 => ?_) (fun c_39 => ?_)
      · refine x_aload_n (dat d_Mo_cellOf 42 rfl) rfl rfl ?_
        refine x_iload_n (dat d_Mo_cellOf 43 rfl) rfl rfl ?_
        refine x_iload_n (dat d_Mo_cellOf 44 rfl) rfl rfl ?_
        refine x_inv (As := [vI p, vI h]) (dat d_Mo_cellOf 45 rfl) rfl c_Mo_errandCell l_Mo_280 (by decide) (rv_mo (by decide +kernel)) rfl rfl (Nat.le_of_ble_eq_true rfl) ?_
        refine sp_Mo_errandCell M hT hS p0 p1 h0 (by omega) ?_
        show Wx g y_Mo_cellOf Z K 82 [vR 174, vI p, vI h] [vI (cellT t (gasM (σ 174) p) h)] σ
        refine x_iret (dat d_Mo_cellOf 46 rfl) rfl ?_
        refine kk _ ?_
        unfold cellM
        first
        | rw [if_pos (by omega)]
        | rw [if_neg (by omega), if_pos (by omega)]
        | rw [if_neg (by omega), if_neg (by omega), if_pos (by omega)]
        | rw [if_neg (by omega), if_neg (by omega), if_neg (by omega)]
      · refine x_iload_n (dat d_Mo_cellOf 22 rfl) rfl rfl ?_
        refine x_aload_n (dat d_Mo_cellOf 23 rfl) rfl rfl ?_
        refine x_geti (ji := 21) (v := σ 174 21) (dat d_Mo_cellOf 24 rfl) rfl f_Mo_274 (oi_mk (by decide +kernel)) rfl ?_
        refine x_aload_n (dat d_Mo_cellOf 25 rfl) rfl rfl ?_
        refine x_geti (ji := 21) (v := σ 174 21) (dat d_Mo_cellOf 26 rfl) rfl f_Mo_274 (oi_mk (by decide +kernel)) rfl ?_
        refine x_aload_n (dat d_Mo_cellOf 27 rfl) rfl rfl ?_
        refine x_geti (ji := 22) (v := σ 174 22) (dat d_Mo_cellOf 28 rfl) rfl f_Mo_277 (oi_mk (by decide +kernel)) rfl ?_
        refine x_iadd (v := (σ 174 21) + (σ 174 22)) (dat d_Mo_cellOf 29 rfl) rfl (by omega) ?_
        refine x_iconst (dat d_Mo_cellOf 30 rfl) (by decide) ?_
        refine x_isub (v := ((σ 174 21) + (σ 174 22)) - 1) (dat d_Mo_cellOf 31 rfl) rfl (by omega) ?_
        refine x_invs (As := [vI h, vI (σ 174 21), vI (((σ 174 21) + (σ 174 22)) - 1)]) (dat d_Mo_cellOf 32 rfl) rfl c_Mo_isIn l_Mo_136 (by decide) rfl rfl (Nat.le_of_ble_eq_true rfl) ?_
        refine sp_Mo_isIn (fun a b => ?_) (fun c => ?_)
        · show Wx g y_Mo_cellOf Z K 61 [vR 174, vI p, vI h] [vI 1] σ
          refine x_if_eq (tgt := 76) (dat d_Mo_cellOf 33 rfl) (by decide) (fun h => absurd h (by decide)) (fun c_61 => ?_)
          refine x_aload_n (dat d_Mo_cellOf 34 rfl) rfl rfl ?_
          refine x_getr (r := 178) (dat d_Mo_cellOf 35 rfl) rfl f_Mo_20 (or_mk (by decide +kernel)) ?_
          refine x_iload_n (dat d_Mo_cellOf 36 rfl) rfl rfl ?_
          refine x_aload_n (dat d_Mo_cellOf 37 rfl) rfl rfl ?_
          refine x_geti (ji := 21) (v := σ 174 21) (dat d_Mo_cellOf 38 rfl) rfl f_Mo_274 (oi_mk (by decide +kernel)) rfl ?_
          refine x_isub (v := h - (σ 174 21)) (dat d_Mo_cellOf 39 rfl) rfl (by omega) ?_
          refine x_iald (n := 4) (v := σ 178 (h - (σ 174 21))) (dat d_Mo_cellOf 40 rfl) (ai_mk (by decide +kernel)) (by omega) (by omega) rfl ?_
          refine x_iret (dat d_Mo_cellOf 41 rfl) rfl ?_
          refine kk _ ?_
          unfold cellM
          first
          | rw [if_pos (by omega)]
          | rw [if_neg (by omega), if_pos (by omega)]
          | rw [if_neg (by omega), if_neg (by omega), if_pos (by omega)]
          | rw [if_neg (by omega), if_neg (by omega), if_neg (by omega)]
        · show Wx g y_Mo_cellOf Z K 61 [vR 174, vI p, vI h] [vI 0] σ
          refine x_if_eq (tgt := 76) (dat d_Mo_cellOf 33 rfl) (by decide) (fun c_61 => ?_) (fun h => absurd h (by decide))
          refine x_aload_n (dat d_Mo_cellOf 42 rfl) rfl rfl ?_
          refine x_iload_n (dat d_Mo_cellOf 43 rfl) rfl rfl ?_
          refine x_iload_n (dat d_Mo_cellOf 44 rfl) rfl rfl ?_
          refine x_inv (As := [vI p, vI h]) (dat d_Mo_cellOf 45 rfl) rfl c_Mo_errandCell l_Mo_280 (by decide) (rv_mo (by decide +kernel)) rfl rfl (Nat.le_of_ble_eq_true rfl) ?_
          refine sp_Mo_errandCell M hT hS p0 p1 h0 (by omega) ?_
          show Wx g y_Mo_cellOf Z K 82 [vR 174, vI p, vI h] [vI (cellT t (gasM (σ 174) p) h)] σ
          refine x_iret (dat d_Mo_cellOf 46 rfl) rfl ?_
          refine kk _ ?_
          unfold cellM
          first
          | rw [if_pos (by omega)]
          | rw [if_neg (by omega), if_pos (by omega)]
          | rw [if_neg (by omega), if_neg (by omega), if_pos (by omega)]
          | rw [if_neg (by omega), if_neg (by omega), if_neg (by omega)]
    · refine x_iload_n (dat d_Mo_cellOf 11 rfl) rfl rfl ?_
      refine x_aload_n (dat d_Mo_cellOf 12 rfl) rfl rfl ?_
      refine x_geti (ji := 18) (v := σ 174 18) (dat d_Mo_cellOf 13 rfl) rfl f_Mo_268 (oi_mk (by decide +kernel)) rfl ?_
      refine x_icmp_ne (tgt := 34) (dat d_Mo_cellOf 14 rfl) (by decide) (fun c_26 => ?_) (fun c_26 => ?_)
      · refine x_iload_n (dat d_Mo_cellOf 18 rfl) rfl rfl ?_
        refine x_aload_n (dat d_Mo_cellOf 19 rfl) rfl rfl ?_
        refine x_geti (ji := 20) (v := σ 174 20) (dat d_Mo_cellOf 20 rfl) rfl f_Mo_229 (oi_mk (by decide +kernel)) rfl ?_
        refine x_icmp_ne (tgt := 76) (dat d_Mo_cellOf 21 rfl) (by decide) (fun c_39 => ?_) (fun c_39 => ?_)
        · refine x_aload_n (dat d_Mo_cellOf 42 rfl) rfl rfl ?_
          refine x_iload_n (dat d_Mo_cellOf 43 rfl) rfl rfl ?_
          refine x_iload_n (dat d_Mo_cellOf 44 rfl) rfl rfl ?_
          refine x_inv (As := [vI p, vI h]) (dat d_Mo_cellOf 45 rfl) rfl c_Mo_errandCell l_Mo_280 (by decide) (rv_mo (by decide +kernel)) rfl rfl (Nat.le_of_ble_eq_true rfl) ?_
          refine sp_Mo_errandCell M hT hS p0 p1 h0 (by omega) ?_
          show Wx g y_Mo_cellOf Z K 82 [vR 174, vI p, vI h] [vI (cellT t (gasM (σ 174) p) h)] σ
          refine x_iret (dat d_Mo_cellOf 46 rfl) rfl ?_
          refine kk _ ?_
          unfold cellM
          first
          | rw [if_pos (by omega)]
          | rw [if_neg (by omega), if_pos (by omega)]
          | rw [if_neg (by omega), if_neg (by omega), if_pos (by omega)]
          | rw [if_neg (by omega), if_neg (by omega), if_neg (by omega)]
        · refine x_iload_n (dat d_Mo_cellOf 22 rfl) rfl rfl ?_
          refine x_aload_n (dat d_Mo_cellOf 23 rfl) rfl rfl ?_
          refine x_geti (ji := 21) (v := σ 174 21) (dat d_Mo_cellOf 24 rfl) rfl f_Mo_274 (oi_mk (by decide +kernel)) rfl ?_
          refine x_aload_n (dat d_Mo_cellOf 25 rfl) rfl rfl ?_
          refine x_geti (ji := 21) (v := σ 174 21) (dat d_Mo_cellOf 26 rfl) rfl f_Mo_274 (oi_mk (by decide +kernel)) rfl ?_
          refine x_aload_n (dat d_Mo_cellOf 27 rfl) rfl rfl ?_
          refine x_geti (ji := 22) (v := σ 174 22) (dat d_Mo_cellOf 28 rfl) rfl f_Mo_277 (oi_mk (by decide +kernel)) rfl ?_
          refine x_iadd (v := (σ 174 21) + (σ 174 22)) (dat d_Mo_cellOf 29 rfl) rfl (by omega) ?_
          refine x_iconst (dat d_Mo_cellOf 30 rfl) (by decide) ?_
          refine x_isub (v := ((σ 174 21) + (σ 174 22)) - 1) (dat d_Mo_cellOf 31 rfl) rfl (by omega) ?_
          refine x_invs (As := [vI h, vI (σ 174 21), vI (((σ 174 21) + (σ 174 22)) - 1)]) (dat d_Mo_cellOf 32 rfl) rfl c_Mo_isIn l_Mo_136 (by decide) rfl rfl (Nat.le_of_ble_eq_true rfl) ?_
          refine sp_Mo_isIn (fun a b => ?_) (fun c => ?_)
          · show Wx g y_Mo_cellOf Z K 61 [vR 174, vI p, vI h] [vI 1] σ
            refine x_if_eq (tgt := 76) (dat d_Mo_cellOf 33 rfl) (by decide) (fun h => absurd h (by decide)) (fun c_61 => ?_)
            refine x_aload_n (dat d_Mo_cellOf 34 rfl) rfl rfl ?_
            refine x_getr (r := 178) (dat d_Mo_cellOf 35 rfl) rfl f_Mo_20 (or_mk (by decide +kernel)) ?_
            refine x_iload_n (dat d_Mo_cellOf 36 rfl) rfl rfl ?_
            refine x_aload_n (dat d_Mo_cellOf 37 rfl) rfl rfl ?_
            refine x_geti (ji := 21) (v := σ 174 21) (dat d_Mo_cellOf 38 rfl) rfl f_Mo_274 (oi_mk (by decide +kernel)) rfl ?_
            refine x_isub (v := h - (σ 174 21)) (dat d_Mo_cellOf 39 rfl) rfl (by omega) ?_
            refine x_iald (n := 4) (v := σ 178 (h - (σ 174 21))) (dat d_Mo_cellOf 40 rfl) (ai_mk (by decide +kernel)) (by omega) (by omega) rfl ?_
            refine x_iret (dat d_Mo_cellOf 41 rfl) rfl ?_
            refine kk _ ?_
            unfold cellM
            first
            | rw [if_pos (by omega)]
            | rw [if_neg (by omega), if_pos (by omega)]
            | rw [if_neg (by omega), if_neg (by omega), if_pos (by omega)]
            | rw [if_neg (by omega), if_neg (by omega), if_neg (by omega)]
          · show Wx g y_Mo_cellOf Z K 61 [vR 174, vI p, vI h] [vI 0] σ
            refine x_if_eq (tgt := 76) (dat d_Mo_cellOf 33 rfl) (by decide) (fun c_61 => ?_) (fun h => absurd h (by decide))
            refine x_aload_n (dat d_Mo_cellOf 42 rfl) rfl rfl ?_
            refine x_iload_n (dat d_Mo_cellOf 43 rfl) rfl rfl ?_
            refine x_iload_n (dat d_Mo_cellOf 44 rfl) rfl rfl ?_
            refine x_inv (As := [vI p, vI h]) (dat d_Mo_cellOf 45 rfl) rfl c_Mo_errandCell l_Mo_280 (by decide) (rv_mo (by decide +kernel)) rfl rfl (Nat.le_of_ble_eq_true rfl) ?_
            refine sp_Mo_errandCell M hT hS p0 p1 h0 (by omega) ?_
            show Wx g y_Mo_cellOf Z K 82 [vR 174, vI p, vI h] [vI (cellT t (gasM (σ 174) p) h)] σ
            refine x_iret (dat d_Mo_cellOf 46 rfl) rfl ?_
            refine kk _ ?_
            unfold cellM
            first
            | rw [if_pos (by omega)]
            | rw [if_neg (by omega), if_pos (by omega)]
            | rw [if_neg (by omega), if_neg (by omega), if_pos (by omega)]
            | rw [if_neg (by omega), if_neg (by omega), if_neg (by omega)]
      · refine x_aload_n (dat d_Mo_cellOf 15 rfl) rfl rfl ?_
        refine x_geti (ji := 19) (v := σ 174 19) (dat d_Mo_cellOf 16 rfl) rfl f_Mo_271 (oi_mk (by decide +kernel)) rfl ?_
        refine x_iret (dat d_Mo_cellOf 17 rfl) rfl ?_
        refine kk _ ?_
        unfold cellM
        first
        | rw [if_pos (by omega)]
        | rw [if_neg (by omega), if_pos (by omega)]
        | rw [if_neg (by omega), if_neg (by omega), if_pos (by omega)]
        | rw [if_neg (by omega), if_neg (by omega), if_neg (by omega)]
  · refine x_aload_n (dat d_Mo_cellOf 4 rfl) rfl rfl ?_
    refine x_geti (ji := 28) (v := σ 174 28) (dat d_Mo_cellOf 5 rfl) rfl f_Mo_265 (oi_mk (by decide +kernel)) rfl ?_
    refine x_iret (dat d_Mo_cellOf 6 rfl) rfl ?_
    refine kk _ ?_
    unfold cellM
    first
    | rw [if_pos (by omega)]
    | rw [if_neg (by omega), if_pos (by omega)]
    | rw [if_neg (by omega), if_neg (by omega), if_pos (by omega)]
    | rw [if_neg (by omega), if_neg (by omega), if_neg (by omega)]
theorem sp_Mo_areApart {a b : Int} (M : MoT σ t t0) (hT : TownOk t) (hlo : 0 ≤ σ 174 16 ∧ σ 174 16 < 64) (k : K (some (vI (if qrN t (σ 174 16) a b (t 7).toNat = true then 1 else 0))) σ) : Mt g y_Mo_areApart [vR 174, vI a, vI b] σ K := by
  have h7 := hT.2.2.2.2.2.2.2.1
  generalize hl : σ 174 16 = lo at hlo k
  have lp : ∀ (Z : xZ) (d j : Nat) (x3 : Int) (w5 w6 : MV), j + d = (t 7).toNat → (x3 = if qrN t lo a b j = true then 1 else 0) → Wx g y_Mo_areApart Z K 5 [vR 174, vI a, vI b, vI x3, vI (j : Int), w5, w6] [] σ := by
    intro Z d
    induction d with
    | zero =>
      intro j x3 w5 w6 hd hx
      have e : j = (t 7).toNat := by omega
      refine x_iload (dat d_Mo_areApart 4 rfl) rfl ?_
      refine x_aload_n (dat d_Mo_areApart 5 rfl) rfl rfl ?_
      refine x_bipush (dat d_Mo_areApart 6 rfl) (by decide) (by decide) ?_
      refine x_inv (As := [vI 7]) (dat d_Mo_areApart 7 rfl) rfl c_Mo_of l_Mo_199 (by decide) (rv_mo (by decide +kernel)) rfl rfl (Nat.le_of_ble_eq_true rfl) ?_
      refine sp_Mo_of M (by decide) (by decide) ?_
      show Wx g y_Mo_areApart Z K 13 [vR 174, vI a, vI b, vI x3, vI (j : Int), w5, w6] [vI (t 7), vI (j : Int)] σ
      refine x_icmp_ge (tgt := 94) (dat d_Mo_areApart 8 rfl) (by decide) (fun c_13 => ?_) (fun c_13 => (by omega))
      refine x_iload_n (dat d_Mo_areApart 52 rfl) rfl rfl ?_
      refine x_zret (dat d_Mo_areApart 53 rfl) rfl (by omega) ?_
      rw [hx, e]
      exact k
    | succ d ih =>
      intro j x3 w5 w6 hd hx
      have st : qrN t lo a b (j + 1) = (qrN t lo a b j || (!tb lo j && ((decide (t (8 + 2 * (j : Int)) = a) && decide (t (9 + 2 * (j : Int)) = b)) || (decide (t (8 + 2 * (j : Int)) = b) && decide (t (9 + 2 * (j : Int)) = a))))) := rfl
      have tg := tb_get (m := lo) (p := (j : Int)) hlo.1 (by omega) (by omega) (by omega)
      have e9 : t (9 + 2 * (j : Int)) = t (8 + 1 + 2 * (j : Int)) := by congr 1
      have x01 : x3 = 0 ∨ x3 = 1 := by rw [hx]; split <;> simp
      obtain ⟨y, hy⟩ : ∃ y : Int, y = (if tb lo (j : Int) = true then 1 else 0) := ⟨_, rfl⟩
      rw [← hy] at tg
      have nx : ∀ x4 : Int, (x4 = if (x3 = 1 ∨ (y = 0 ∧ ((t (8 + 2 * (j : Int)) = a ∧ t (9 + 2 * (j : Int)) = b) ∨ (t (8 + 2 * (j : Int)) = b ∧ t (9 + 2 * (j : Int)) = a)))) then 1 else 0) → x4 = if qrN t lo a b (j + 1) = true then 1 else 0 := fun x4 h4 => by
        have hi : (qrN t lo a b (j + 1) = true) ↔ (x3 = 1 ∨ (y = 0 ∧ ((t (8 + 2 * (j : Int)) = a ∧ t (9 + 2 * (j : Int)) = b) ∨ (t (8 + 2 * (j : Int)) = b ∧ t (9 + 2 * (j : Int)) = a)))) := by
          rw [st]
          have h3 : x3 = 1 ↔ qrN t lo a b j = true := by rw [hx]; split <;> simp_all
          have h5 : y = 0 ↔ tb lo (j : Int) = false := by rw [hy]; split <;> simp_all
          rw [h3, h5]
          simp only [Bool.or_eq_true, Bool.and_eq_true, Bool.not_eq_true', decide_eq_true_eq]
        rw [h4]
        by_cases z : (x3 = 1 ∨ (y = 0 ∧ ((t (8 + 2 * (j : Int)) = a ∧ t (9 + 2 * (j : Int)) = b) ∨ (t (8 + 2 * (j : Int)) = b ∧ t (9 + 2 * (j : Int)) = a))))
        · rw [if_pos z, if_pos (hi.mpr z)]
        · rw [if_neg z, if_neg (fun w => z (hi.mp w))]
      clear hy
      generalize hX : t (8 + 2 * (j : Int)) = X at nx
      generalize hY : t (9 + 2 * (j : Int)) = Y at nx e9
      refine x_iload (dat d_Mo_areApart 4 rfl) rfl ?_
      refine x_aload_n (dat d_Mo_areApart 5 rfl) rfl rfl ?_
      refine x_bipush (dat d_Mo_areApart 6 rfl) (by decide) (by decide) ?_
      refine x_inv (As := [vI 7]) (dat d_Mo_areApart 7 rfl) rfl c_Mo_of l_Mo_199 (by decide) (rv_mo (by decide +kernel)) rfl rfl (Nat.le_of_ble_eq_true rfl) ?_
      refine sp_Mo_of M (by decide) (by decide) ?_
      show Wx g y_Mo_areApart Z K 13 [vR 174, vI a, vI b, vI x3, vI (j : Int), w5, w6] [vI (t 7), vI (j : Int)] σ
      refine x_icmp_ge (tgt := 94) (dat d_Mo_areApart 8 rfl) (by decide) (fun c_13 => (by omega)) (fun c_13 => ?_)
      refine x_aload_n (dat d_Mo_areApart 9 rfl) rfl rfl ?_
      refine x_bipush (dat d_Mo_areApart 10 rfl) (by decide) (by decide) ?_
      refine x_iconst (dat d_Mo_areApart 11 rfl) (by decide) ?_
      refine x_iload (dat d_Mo_areApart 12 rfl) rfl ?_
      refine x_imul (v := 2 * (j : Int)) (dat d_Mo_areApart 13 rfl) (by omega) (by omega) ?_
      refine x_iadd (v := 8 + (2 * (j : Int))) (dat d_Mo_areApart 14 rfl) rfl (by omega) ?_
      refine x_inv (As := [vI (8 + (2 * (j : Int)))]) (dat d_Mo_areApart 15 rfl) rfl c_Mo_of l_Mo_199 (by decide) (rv_mo (by decide +kernel)) rfl rfl (Nat.le_of_ble_eq_true rfl) ?_
      refine sp_Mo_of M (by omega) (by omega) ?_
      rw [hX]
      show Wx g y_Mo_areApart Z K 27 [vR 174, vI a, vI b, vI x3, vI (j : Int), w5, w6] [vI X] σ
      refine x_istore (L' := [vR 174, vI a, vI b, vI x3, vI (j : Int), vI X, w6]) (dat d_Mo_areApart 16 rfl) (by decide) rfl rfl ?_
      refine x_aload_n (dat d_Mo_areApart 17 rfl) rfl rfl ?_
      refine x_bipush (dat d_Mo_areApart 18 rfl) (by decide) (by decide) ?_
      refine x_iconst (dat d_Mo_areApart 19 rfl) (by decide) ?_
      refine x_iload (dat d_Mo_areApart 20 rfl) rfl ?_
      refine x_imul (v := 2 * (j : Int)) (dat d_Mo_areApart 21 rfl) (by omega) (by omega) ?_
      refine x_iadd (v := 9 + 2 * (j : Int)) (dat d_Mo_areApart 22 rfl) (by omega) (by omega) ?_
      refine x_inv (As := [vI (9 + 2 * (j : Int))]) (dat d_Mo_areApart 23 rfl) rfl c_Mo_of l_Mo_199 (by decide) (rv_mo (by decide +kernel)) rfl rfl (Nat.le_of_ble_eq_true rfl) ?_
      refine sp_Mo_of M (by omega) (by omega) ?_
      rw [hY]
      show Wx g y_Mo_areApart Z K 40 [vR 174, vI a, vI b, vI x3, vI (j : Int), vI X, w6] [vI Y] σ
      refine x_istore (L' := [vR 174, vI a, vI b, vI x3, vI (j : Int), vI X, vI Y]) (dat d_Mo_areApart 24 rfl) (by decide) rfl rfl ?_
      refine x_iload_n (dat d_Mo_areApart 25 rfl) rfl rfl ?_
      refine x_if_ne (tgt := 82) (dat d_Mo_areApart 26 rfl) (by decide) (fun c_43 => ?_) (fun c_43 => ?_)
      · refine x_iconst (dat d_Mo_areApart 46 rfl) (by decide) ?_
        refine x_goto (tgt := 87) (dat d_Mo_areApart 47 rfl) (by decide) ?_
        refine x_istore_n (L' := [vR 174, vI a, vI b, vI 1, vI (j : Int), vI X, vI Y]) (dat d_Mo_areApart 49 rfl) rfl (by decide) rfl rfl ?_
        refine x_iinc (v' := (j : Int) + 1) (L' := [vR 174, vI a, vI b, vI 1, vI ((j : Int) + 1), vI X, vI Y]) (dat d_Mo_areApart 50 rfl) rfl (by decide) rfl rfl (by omega) rfl ?_
        refine x_goto (tgt := 5) (dat d_Mo_areApart 51 rfl) (by decide) ?_
        rw [show (j : Int) + 1 = ((j + 1 : Nat) : Int) by omega]
        refine ih (j + 1) _ _ _ (by omega) (nx _ ?_)
        first
        | (exfalso; omega)
        | (rw [if_pos (by omega)])
        | (rw [if_neg (by omega)])
      · refine x_aload_n (dat d_Mo_areApart 27 rfl) rfl rfl ?_
        refine x_geti (ji := 16) (v := lo) (dat d_Mo_areApart 28 rfl) rfl f_Mo_223 (oi_mk (by decide +kernel)) (hl) ?_
        refine x_iload (dat d_Mo_areApart 29 rfl) rfl ?_
        refine x_ishr (v := ishr lo (j : Int)) (dat d_Mo_areApart 30 rfl) rfl ?_
        refine x_iconst (dat d_Mo_areApart 31 rfl) (by decide) ?_
        refine x_iand (v := y) (dat d_Mo_areApart 32 rfl) (by exact tg) ?_
        refine x_if_ne (tgt := 86) (dat d_Mo_areApart 33 rfl) (by decide) (fun c_55 => ?_) (fun c_55 => ?_)
        · refine x_iconst (dat d_Mo_areApart 48 rfl) (by decide) ?_
          refine x_istore_n (L' := [vR 174, vI a, vI b, vI 0, vI (j : Int), vI X, vI Y]) (dat d_Mo_areApart 49 rfl) rfl (by decide) rfl rfl ?_
          refine x_iinc (v' := (j : Int) + 1) (L' := [vR 174, vI a, vI b, vI 0, vI ((j : Int) + 1), vI X, vI Y]) (dat d_Mo_areApart 50 rfl) rfl (by decide) rfl rfl (by omega) rfl ?_
          refine x_goto (tgt := 5) (dat d_Mo_areApart 51 rfl) (by decide) ?_
          rw [show (j : Int) + 1 = ((j + 1 : Nat) : Int) by omega]
          refine ih (j + 1) _ _ _ (by omega) (nx _ ?_)
          first
          | (exfalso; omega)
          | (rw [if_pos (by omega)])
          | (rw [if_neg (by omega)])
        · refine x_iload (dat d_Mo_areApart 34 rfl) rfl ?_
          refine x_iload_n (dat d_Mo_areApart 35 rfl) rfl rfl ?_
          refine x_icmp_ne (tgt := 70) (dat d_Mo_areApart 36 rfl) (by decide) (fun c_61 => ?_) (fun c_61 => ?_)
          · refine x_iload (dat d_Mo_areApart 40 rfl) rfl ?_
            refine x_iload_n (dat d_Mo_areApart 41 rfl) rfl rfl ?_
            refine x_icmp_ne (tgt := 86) (dat d_Mo_areApart 42 rfl) (by decide) (fun c_73 => ?_) (fun c_73 => ?_)
            · refine x_iconst (dat d_Mo_areApart 48 rfl) (by decide) ?_
              refine x_istore_n (L' := [vR 174, vI a, vI b, vI 0, vI (j : Int), vI X, vI Y]) (dat d_Mo_areApart 49 rfl) rfl (by decide) rfl rfl ?_
              refine x_iinc (v' := (j : Int) + 1) (L' := [vR 174, vI a, vI b, vI 0, vI ((j : Int) + 1), vI X, vI Y]) (dat d_Mo_areApart 50 rfl) rfl (by decide) rfl rfl (by omega) rfl ?_
              refine x_goto (tgt := 5) (dat d_Mo_areApart 51 rfl) (by decide) ?_
              rw [show (j : Int) + 1 = ((j + 1 : Nat) : Int) by omega]
              refine ih (j + 1) _ _ _ (by omega) (nx _ ?_)
              first
              | (exfalso; omega)
              | (rw [if_pos (by omega)])
              | (rw [if_neg (by omega)])
            · refine x_iload (dat d_Mo_areApart 43 rfl) rfl ?_
              refine x_iload_n (dat d_Mo_areApart 44 rfl) rfl rfl ?_
              refine x_icmp_ne (tgt := 86) (dat d_Mo_areApart 45 rfl) (by decide) (fun c_79 => ?_) (fun c_79 => ?_)
              · refine x_iconst (dat d_Mo_areApart 48 rfl) (by decide) ?_
                refine x_istore_n (L' := [vR 174, vI a, vI b, vI 0, vI (j : Int), vI X, vI Y]) (dat d_Mo_areApart 49 rfl) rfl (by decide) rfl rfl ?_
                refine x_iinc (v' := (j : Int) + 1) (L' := [vR 174, vI a, vI b, vI 0, vI ((j : Int) + 1), vI X, vI Y]) (dat d_Mo_areApart 50 rfl) rfl (by decide) rfl rfl (by omega) rfl ?_
                refine x_goto (tgt := 5) (dat d_Mo_areApart 51 rfl) (by decide) ?_
                rw [show (j : Int) + 1 = ((j + 1 : Nat) : Int) by omega]
                refine ih (j + 1) _ _ _ (by omega) (nx _ ?_)
                first
                | (exfalso; omega)
                | (rw [if_pos (by omega)])
                | (rw [if_neg (by omega)])
              · refine x_iconst (dat d_Mo_areApart 46 rfl) (by decide) ?_
                refine x_goto (tgt := 87) (dat d_Mo_areApart 47 rfl) (by decide) ?_
                refine x_istore_n (L' := [vR 174, vI a, vI b, vI 1, vI (j : Int), vI X, vI Y]) (dat d_Mo_areApart 49 rfl) rfl (by decide) rfl rfl ?_
                refine x_iinc (v' := (j : Int) + 1) (L' := [vR 174, vI a, vI b, vI 1, vI ((j : Int) + 1), vI X, vI Y]) (dat d_Mo_areApart 50 rfl) rfl (by decide) rfl rfl (by omega) rfl ?_
                refine x_goto (tgt := 5) (dat d_Mo_areApart 51 rfl) (by decide) ?_
                rw [show (j : Int) + 1 = ((j + 1 : Nat) : Int) by omega]
                refine ih (j + 1) _ _ _ (by omega) (nx _ ?_)
                first
                | (exfalso; omega)
                | (rw [if_pos (by omega)])
                | (rw [if_neg (by omega)])
          · refine x_iload (dat d_Mo_areApart 37 rfl) rfl ?_
            refine x_iload_n (dat d_Mo_areApart 38 rfl) rfl rfl ?_
            refine x_icmp_eq (tgt := 82) (dat d_Mo_areApart 39 rfl) (by decide) (fun c_67 => ?_) (fun c_67 => ?_)
            · refine x_iconst (dat d_Mo_areApart 46 rfl) (by decide) ?_
              refine x_goto (tgt := 87) (dat d_Mo_areApart 47 rfl) (by decide) ?_
              refine x_istore_n (L' := [vR 174, vI a, vI b, vI 1, vI (j : Int), vI X, vI Y]) (dat d_Mo_areApart 49 rfl) rfl (by decide) rfl rfl ?_
              refine x_iinc (v' := (j : Int) + 1) (L' := [vR 174, vI a, vI b, vI 1, vI ((j : Int) + 1), vI X, vI Y]) (dat d_Mo_areApart 50 rfl) rfl (by decide) rfl rfl (by omega) rfl ?_
              refine x_goto (tgt := 5) (dat d_Mo_areApart 51 rfl) (by decide) ?_
              rw [show (j : Int) + 1 = ((j + 1 : Nat) : Int) by omega]
              refine ih (j + 1) _ _ _ (by omega) (nx _ ?_)
              first
              | (exfalso; omega)
              | (rw [if_pos (by omega)])
              | (rw [if_neg (by omega)])
            · refine x_iload (dat d_Mo_areApart 40 rfl) rfl ?_
              refine x_iload_n (dat d_Mo_areApart 41 rfl) rfl rfl ?_
              refine x_icmp_ne (tgt := 86) (dat d_Mo_areApart 42 rfl) (by decide) (fun c_73 => ?_) (fun c_73 => ?_)
              · refine x_iconst (dat d_Mo_areApart 48 rfl) (by decide) ?_
                refine x_istore_n (L' := [vR 174, vI a, vI b, vI 0, vI (j : Int), vI X, vI Y]) (dat d_Mo_areApart 49 rfl) rfl (by decide) rfl rfl ?_
                refine x_iinc (v' := (j : Int) + 1) (L' := [vR 174, vI a, vI b, vI 0, vI ((j : Int) + 1), vI X, vI Y]) (dat d_Mo_areApart 50 rfl) rfl (by decide) rfl rfl (by omega) rfl ?_
                refine x_goto (tgt := 5) (dat d_Mo_areApart 51 rfl) (by decide) ?_
                rw [show (j : Int) + 1 = ((j + 1 : Nat) : Int) by omega]
                refine ih (j + 1) _ _ _ (by omega) (nx _ ?_)
                first
                | (exfalso; omega)
                | (rw [if_pos (by omega)])
                | (rw [if_neg (by omega)])
              · refine x_iload (dat d_Mo_areApart 43 rfl) rfl ?_
                refine x_iload_n (dat d_Mo_areApart 44 rfl) rfl rfl ?_
                refine x_icmp_ne (tgt := 86) (dat d_Mo_areApart 45 rfl) (by decide) (fun c_79 => ?_) (fun c_79 => ?_)
                · refine x_iconst (dat d_Mo_areApart 48 rfl) (by decide) ?_
                  refine x_istore_n (L' := [vR 174, vI a, vI b, vI 0, vI (j : Int), vI X, vI Y]) (dat d_Mo_areApart 49 rfl) rfl (by decide) rfl rfl ?_
                  refine x_iinc (v' := (j : Int) + 1) (L' := [vR 174, vI a, vI b, vI 0, vI ((j : Int) + 1), vI X, vI Y]) (dat d_Mo_areApart 50 rfl) rfl (by decide) rfl rfl (by omega) rfl ?_
                  refine x_goto (tgt := 5) (dat d_Mo_areApart 51 rfl) (by decide) ?_
                  rw [show (j : Int) + 1 = ((j + 1 : Nat) : Int) by omega]
                  refine ih (j + 1) _ _ _ (by omega) (nx _ ?_)
                  first
                  | (exfalso; omega)
                  | (rw [if_pos (by omega)])
                  | (rw [if_neg (by omega)])
                · refine x_iconst (dat d_Mo_areApart 46 rfl) (by decide) ?_
                  refine x_goto (tgt := 87) (dat d_Mo_areApart 47 rfl) (by decide) ?_
                  refine x_istore_n (L' := [vR 174, vI a, vI b, vI 1, vI (j : Int), vI X, vI Y]) (dat d_Mo_areApart 49 rfl) rfl (by decide) rfl rfl ?_
                  refine x_iinc (v' := (j : Int) + 1) (L' := [vR 174, vI a, vI b, vI 1, vI ((j : Int) + 1), vI X, vI Y]) (dat d_Mo_areApart 50 rfl) rfl (by decide) rfl rfl (by omega) rfl ?_
                  refine x_goto (tgt := 5) (dat d_Mo_areApart 51 rfl) (by decide) ?_
                  rw [show (j : Int) + 1 = ((j + 1 : Nat) : Int) by omega]
                  refine ih (j + 1) _ _ _ (by omega) (nx _ ?_)
                  first
                  | (exfalso; omega)
                  | (rw [if_pos (by omega)])
                  | (rw [if_neg (by omega)])
  refine x_enter 4 rfl rfl rfl (fun Z => ?_)
  show Wx g y_Mo_areApart Z K 0 [vR 174, vI a, vI b, vU, vU, vU, vU] [] σ
  refine x_iconst (dat d_Mo_areApart 0 rfl) (by decide) ?_
  refine x_istore_n (L' := [vR 174, vI a, vI b, vI 0, vU, vU, vU]) (dat d_Mo_areApart 1 rfl) rfl (by decide) rfl rfl ?_
  refine x_iconst (dat d_Mo_areApart 2 rfl) (by decide) ?_
  refine x_istore (L' := [vR 174, vI a, vI b, vI 0, vI 0, vU, vU]) (dat d_Mo_areApart 3 rfl) (by decide) rfl rfl ?_
  exact lp Z (t 7).toNat 0 0 _ _ (by omega) rfl
theorem sp_Mo_bits {m : Int} {f : Int → Bool} (hm : Msk 8 m f) (k : K (some (vI (cntN f 8))) σ) : Mt g y_Mo_bits [vI m] σ K := by
  have hb := msk_31 (n := 8) (by decide) hm.2.1
  have cn : ∀ j : Nat, 0 ≤ cntN (fun q => tb m q) j ∧ cntN (fun q => tb m q) j ≤ j := cntN_bd _
  have c8 : ∀ d : Nat, cntN (fun q => tb m q) (8 + d) = cntN f 8 := fun d => by
    induction d with
    | zero => exact cntN_congr 8 (fun p p0 p1 => hm.2.2 p p0 p1)
    | succ d ih =>
      show cntN (fun q => tb m q) (8 + d) + (if tb m ((8 + d : Nat) : Int) = true then 1 else 0) = _
      rw [ih, tb_lt (n := 8) hm.2.1 (by omega), if_neg (by decide), Int.add_zero]
  have lp : ∀ (Z : xZ) (d j : Nat), j + d = 31 → Wx g y_Mo_bits Z K 4 [vI m, vI (cntN (fun q => tb m q) j), vI (j : Int)] [] σ := by
    intro Z d
    induction d with
    | zero =>
      intro j hd
      have e : j = 31 := by omega
      subst e
      refine x_iload_n (dat d_Mo_bits 4 rfl) rfl rfl ?_
      refine x_bipush (dat d_Mo_bits 5 rfl) (by decide) (by decide) ?_
      refine x_icmp_ge (tgt := 24) (dat d_Mo_bits 6 rfl) (by decide) (fun c_7 => ?_) (fun c_7 => (by omega))
      refine x_iload_n (dat d_Mo_bits 17 rfl) rfl rfl ?_
      refine x_iret (dat d_Mo_bits 18 rfl) rfl ?_
      rw [show (31 : Nat) = 8 + 23 from rfl, c8 23]
      exact k
    | succ d ih =>
      intro j hd
      have tg := tb_get (m := m) (p := (j : Int)) hm.1 (by omega) (by omega) (by omega)
      have c := cn j
      have st : cntN (fun q => tb m q) (j + 1) = cntN (fun q => tb m q) j + (if tb m (j : Int) = true then 1 else 0) := rfl
      have b01 : (if tb m (j : Int) = true then (1 : Int) else 0) = 0 ∨ (if tb m (j : Int) = true then (1 : Int) else 0) = 1 := by split <;> simp
      refine x_iload_n (dat d_Mo_bits 4 rfl) rfl rfl ?_
      refine x_bipush (dat d_Mo_bits 5 rfl) (by decide) (by decide) ?_
      refine x_icmp_ge (tgt := 24) (dat d_Mo_bits 6 rfl) (by decide) (fun c_7 => (by omega)) (fun c_7 => ?_)
      refine x_iload_n (dat d_Mo_bits 7 rfl) rfl rfl ?_
      refine x_iload_n (dat d_Mo_bits 8 rfl) rfl rfl ?_
      refine x_iload_n (dat d_Mo_bits 9 rfl) rfl rfl ?_
      refine x_ishr (v := ishr m (j : Int)) (dat d_Mo_bits 10 rfl) rfl ?_
      refine x_iconst (dat d_Mo_bits 11 rfl) (by decide) ?_
      refine x_iand (v := (if tb m (j : Int) = true then 1 else 0)) (dat d_Mo_bits 12 rfl) (by exact tg) ?_
      refine x_iadd (v := cntN (fun q => tb m q) (j + 1)) (dat d_Mo_bits 13 rfl) (by exact st.symm) (by omega) ?_
      refine x_istore_n (L' := [vI m, vI (cntN (fun q => tb m q) (j + 1)), vI (j : Int)]) (dat d_Mo_bits 14 rfl) rfl (by decide) rfl rfl ?_
      refine x_iinc (v' := ((j + 1 : Nat) : Int)) (L' := [vI m, vI (cntN (fun q => tb m q) (j + 1)), vI ((j + 1 : Nat) : Int)]) (dat d_Mo_bits 15 rfl) rfl (by decide) rfl (by omega) (by omega) rfl ?_
      refine x_goto (tgt := 4) (dat d_Mo_bits 16 rfl) (by decide) ?_
      exact ih (j + 1) (by omega)
  refine x_enter 2 rfl rfl rfl (fun Z => ?_)
  show Wx g y_Mo_bits Z K 0 [vI m, vU, vU] [] σ
  refine x_iconst (dat d_Mo_bits 0 rfl) (by decide) ?_
  refine x_istore_n (L' := [vI m, vI 0, vU]) (dat d_Mo_bits 1 rfl) rfl (by decide) rfl rfl ?_
  refine x_iconst (dat d_Mo_bits 2 rfl) (by decide) ?_
  refine x_istore_n (L' := [vI m, vI 0, vI 0]) (dat d_Mo_bits 3 rfl) rfl (by decide) rfl rfl ?_
  exact lp Z 31 0 rfl
end
