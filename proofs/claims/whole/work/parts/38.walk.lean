/-! walks -/
theorem sp_Sb_wayOf {g : xG} {K : Option MV → xS → Prop} {σ : xS} {n m i : Int} (n0 : 0 ≤ n) (i0 : 0 ≤ i) (im : i < m) (m4 : m ≤ 4) (k : K (some (vI (n / ((5 ^ (m - 1 - i).toNat : Nat) : Int) % 5))) σ) : Mt g y_Sb_wayOf [vI n, vI m, vI i] σ K := by
  rcases (show m - 1 - i = 0 ∨ m - 1 - i = 1 ∨ m - 1 - i = 2 ∨ m - 1 - i = 3 by omega) with e | e | e | e
  · rw [e] at k
    refine x_enter 1 rfl rfl rfl (fun Z => ?_)
    show Wx g y_Sb_wayOf Z K 0 [vI n, vI m, vI i, vU] [] σ
    refine x_iload_n (dat d_Sb_wayOf 0 rfl) rfl rfl ?_
    refine x_iconst (dat d_Sb_wayOf 1 rfl) (by decide) ?_
    refine x_isub (v := m - 1) (dat d_Sb_wayOf 2 rfl) rfl (by omega) ?_
    refine x_iload_n (dat d_Sb_wayOf 3 rfl) rfl rfl ?_
    refine x_isub (v := 0) (dat d_Sb_wayOf 4 rfl) (by exact e) (by omega) ?_
    refine x_istore_n (L' := [vI n, vI m, vI i, vI 0]) (dat d_Sb_wayOf 5 rfl) rfl (by decide) rfl rfl ?_
    refine x_iload_n (dat d_Sb_wayOf 6 rfl) rfl rfl ?_
    refine x_if_lt (tgt := 15) (dat d_Sb_wayOf 7 rfl) (by decide) (fun c_7 => (by omega)) (fun c_7 => ?_)
    refine x_iload_n (dat d_Sb_wayOf 8 rfl) rfl rfl ?_
    refine x_iconst (dat d_Sb_wayOf 9 rfl) (by decide) ?_
    refine x_icmp_le (tgt := 17) (dat d_Sb_wayOf 10 rfl) (by decide) (fun c_12 => ?_) (fun c_12 => (by omega))
    refine x_iload_n (dat d_Sb_wayOf 13 rfl) rfl rfl ?_
    refine x_gets (own := "ShakenBread") (q := 0) (dat d_Sb_wayOf 14 rfl) rfl (by decide) (gw_5 (i := 35) rfl rfl) ?_
    refine x_iload_n (dat d_Sb_wayOf 15 rfl) rfl rfl ?_
    refine x_stald (q := 0) (v := 1) (dat d_Sb_wayOf 16 rfl) (by decide) (by omega) (by simp [stV] <;> omega) rfl (by omega) ?_
    refine x_idiv (v := n / 1) (dat d_Sb_wayOf 17 rfl) (by exact ⟨n0, by decide⟩) rfl ?_
    refine x_iconst (dat d_Sb_wayOf 18 rfl) (by decide) ?_
    refine x_irem (v := (n / 1) % 5) (dat d_Sb_wayOf 19 rfl) (by exact ⟨Int.ediv_nonneg n0 (by decide), by decide⟩) rfl ?_
    refine x_iret (dat d_Sb_wayOf 20 rfl) rfl ?_
    exact k
  · rw [e] at k
    refine x_enter 1 rfl rfl rfl (fun Z => ?_)
    show Wx g y_Sb_wayOf Z K 0 [vI n, vI m, vI i, vU] [] σ
    refine x_iload_n (dat d_Sb_wayOf 0 rfl) rfl rfl ?_
    refine x_iconst (dat d_Sb_wayOf 1 rfl) (by decide) ?_
    refine x_isub (v := m - 1) (dat d_Sb_wayOf 2 rfl) rfl (by omega) ?_
    refine x_iload_n (dat d_Sb_wayOf 3 rfl) rfl rfl ?_
    refine x_isub (v := 1) (dat d_Sb_wayOf 4 rfl) (by exact e) (by omega) ?_
    refine x_istore_n (L' := [vI n, vI m, vI i, vI 1]) (dat d_Sb_wayOf 5 rfl) rfl (by decide) rfl rfl ?_
    refine x_iload_n (dat d_Sb_wayOf 6 rfl) rfl rfl ?_
    refine x_if_lt (tgt := 15) (dat d_Sb_wayOf 7 rfl) (by decide) (fun c_7 => (by omega)) (fun c_7 => ?_)
    refine x_iload_n (dat d_Sb_wayOf 8 rfl) rfl rfl ?_
    refine x_iconst (dat d_Sb_wayOf 9 rfl) (by decide) ?_
    refine x_icmp_le (tgt := 17) (dat d_Sb_wayOf 10 rfl) (by decide) (fun c_12 => ?_) (fun c_12 => (by omega))
    refine x_iload_n (dat d_Sb_wayOf 13 rfl) rfl rfl ?_
    refine x_gets (own := "ShakenBread") (q := 0) (dat d_Sb_wayOf 14 rfl) rfl (by decide) (gw_5 (i := 35) rfl rfl) ?_
    refine x_iload_n (dat d_Sb_wayOf 15 rfl) rfl rfl ?_
    refine x_stald (q := 0) (v := 5) (dat d_Sb_wayOf 16 rfl) (by decide) (by omega) (by simp [stV] <;> omega) rfl (by omega) ?_
    refine x_idiv (v := n / 5) (dat d_Sb_wayOf 17 rfl) (by exact ⟨n0, by decide⟩) rfl ?_
    refine x_iconst (dat d_Sb_wayOf 18 rfl) (by decide) ?_
    refine x_irem (v := (n / 5) % 5) (dat d_Sb_wayOf 19 rfl) (by exact ⟨Int.ediv_nonneg n0 (by decide), by decide⟩) rfl ?_
    refine x_iret (dat d_Sb_wayOf 20 rfl) rfl ?_
    exact k
  · rw [e] at k
    refine x_enter 1 rfl rfl rfl (fun Z => ?_)
    show Wx g y_Sb_wayOf Z K 0 [vI n, vI m, vI i, vU] [] σ
    refine x_iload_n (dat d_Sb_wayOf 0 rfl) rfl rfl ?_
    refine x_iconst (dat d_Sb_wayOf 1 rfl) (by decide) ?_
    refine x_isub (v := m - 1) (dat d_Sb_wayOf 2 rfl) rfl (by omega) ?_
    refine x_iload_n (dat d_Sb_wayOf 3 rfl) rfl rfl ?_
    refine x_isub (v := 2) (dat d_Sb_wayOf 4 rfl) (by exact e) (by omega) ?_
    refine x_istore_n (L' := [vI n, vI m, vI i, vI 2]) (dat d_Sb_wayOf 5 rfl) rfl (by decide) rfl rfl ?_
    refine x_iload_n (dat d_Sb_wayOf 6 rfl) rfl rfl ?_
    refine x_if_lt (tgt := 15) (dat d_Sb_wayOf 7 rfl) (by decide) (fun c_7 => (by omega)) (fun c_7 => ?_)
    refine x_iload_n (dat d_Sb_wayOf 8 rfl) rfl rfl ?_
    refine x_iconst (dat d_Sb_wayOf 9 rfl) (by decide) ?_
    refine x_icmp_le (tgt := 17) (dat d_Sb_wayOf 10 rfl) (by decide) (fun c_12 => ?_) (fun c_12 => (by omega))
    refine x_iload_n (dat d_Sb_wayOf 13 rfl) rfl rfl ?_
    refine x_gets (own := "ShakenBread") (q := 0) (dat d_Sb_wayOf 14 rfl) rfl (by decide) (gw_5 (i := 35) rfl rfl) ?_
    refine x_iload_n (dat d_Sb_wayOf 15 rfl) rfl rfl ?_
    refine x_stald (q := 0) (v := 25) (dat d_Sb_wayOf 16 rfl) (by decide) (by omega) (by simp [stV] <;> omega) rfl (by omega) ?_
    refine x_idiv (v := n / 25) (dat d_Sb_wayOf 17 rfl) (by exact ⟨n0, by decide⟩) rfl ?_
    refine x_iconst (dat d_Sb_wayOf 18 rfl) (by decide) ?_
    refine x_irem (v := (n / 25) % 5) (dat d_Sb_wayOf 19 rfl) (by exact ⟨Int.ediv_nonneg n0 (by decide), by decide⟩) rfl ?_
    refine x_iret (dat d_Sb_wayOf 20 rfl) rfl ?_
    exact k
  · rw [e] at k
    refine x_enter 1 rfl rfl rfl (fun Z => ?_)
    show Wx g y_Sb_wayOf Z K 0 [vI n, vI m, vI i, vU] [] σ
    refine x_iload_n (dat d_Sb_wayOf 0 rfl) rfl rfl ?_
    refine x_iconst (dat d_Sb_wayOf 1 rfl) (by decide) ?_
    refine x_isub (v := m - 1) (dat d_Sb_wayOf 2 rfl) rfl (by omega) ?_
    refine x_iload_n (dat d_Sb_wayOf 3 rfl) rfl rfl ?_
    refine x_isub (v := 3) (dat d_Sb_wayOf 4 rfl) (by exact e) (by omega) ?_
    refine x_istore_n (L' := [vI n, vI m, vI i, vI 3]) (dat d_Sb_wayOf 5 rfl) rfl (by decide) rfl rfl ?_
    refine x_iload_n (dat d_Sb_wayOf 6 rfl) rfl rfl ?_
    refine x_if_lt (tgt := 15) (dat d_Sb_wayOf 7 rfl) (by decide) (fun c_7 => (by omega)) (fun c_7 => ?_)
    refine x_iload_n (dat d_Sb_wayOf 8 rfl) rfl rfl ?_
    refine x_iconst (dat d_Sb_wayOf 9 rfl) (by decide) ?_
    refine x_icmp_le (tgt := 17) (dat d_Sb_wayOf 10 rfl) (by decide) (fun c_12 => ?_) (fun c_12 => (by omega))
    refine x_iload_n (dat d_Sb_wayOf 13 rfl) rfl rfl ?_
    refine x_gets (own := "ShakenBread") (q := 0) (dat d_Sb_wayOf 14 rfl) rfl (by decide) (gw_5 (i := 35) rfl rfl) ?_
    refine x_iload_n (dat d_Sb_wayOf 15 rfl) rfl rfl ?_
    refine x_stald (q := 0) (v := 125) (dat d_Sb_wayOf 16 rfl) (by decide) (by omega) (by simp [stV] <;> omega) rfl (by omega) ?_
    refine x_idiv (v := n / 125) (dat d_Sb_wayOf 17 rfl) (by exact ⟨n0, by decide⟩) rfl ?_
    refine x_iconst (dat d_Sb_wayOf 18 rfl) (by decide) ?_
    refine x_irem (v := (n / 125) % 5) (dat d_Sb_wayOf 19 rfl) (by exact ⟨Int.ediv_nonneg n0 (by decide), by decide⟩) rfl ?_
    refine x_iret (dat d_Sb_wayOf 20 rfl) rfl ?_
    exact k
/-- the cell behind so many steps of a walk; -1 out of the town -/
def wlk (t : Int → Int) (n m : Int) (c0 : Int) : Nat → Int
  | 0 => c0
  | k + 1 => if wlk t n m c0 k = -1 then -1 else stepT t (wlk t n m c0 k) (n / ((5 ^ (m - 1 - (k : Int)).toNat : Nat) : Int) % 5)
theorem stepT_in {t : Int → Int} (hT : TownOk t) {c s : Int} (c0 : 0 ≤ c) (c1 : c < t 0 * t 1) : stepT t c s = -1 ∨ (0 ≤ stepT t c s ∧ stepT t c s < t 0 * t 1) := by
  have hw := hT.1
  have hh := hT.2.1
  unfold stepT
  split
  · omega
  · split
    · split <;> omega
    · split
      · split
        · omega
        · right
          rename_i h1 h2 h3 h4
          refine ⟨by omega, ?_⟩
          have e1 := Int.mul_ediv_add_emod c (t 0)
          have e2 := Int.emod_lt_of_pos c (show 0 < t 0 by omega)
          have e3 := Int.emod_nonneg c (show t 0 ≠ 0 by omega)
          have e4 : c / t 0 < t 1 := Int.ediv_lt_of_lt_mul (by omega) (by rw [Int.mul_comm]; exact c1)
          have e5 : t 0 * (c / t 0) ≤ t 0 * (t 1 - 1) := Int.mul_le_mul_of_nonneg_left (by omega) (by omega)
          rw [Int.mul_sub] at e5
          omega
      · split
        · split <;> omega
        · split
          · omega
          · right
            rename_i h1 h2 h3 h4 h5
            have e3 := Int.emod_nonneg c (show t 0 ≠ 0 by omega)
            have : c ≠ 0 := fun w => h5 (by rw [w]; exact Int.zero_emod _)
            omega
theorem wlk_in {t : Int → Int} (hT : TownOk t) (n m : Int) {c0 : Int} (q0 : 0 ≤ c0) (q1 : c0 < t 0 * t 1) : ∀ k : Nat, wlk t n m c0 k = -1 ∨ (0 ≤ wlk t n m c0 k ∧ wlk t n m c0 k < t 0 * t 1)
  | 0 => Or.inr ⟨q0, q1⟩
  | k + 1 => by
    have h := wlk_in hT n m q0 q1 k
    simp only [wlk]
    split
    · exact Or.inl rfl
    · rcases h with h | h
      · contradiction
      · exact stepT_in hT h.1 h.2
theorem wlk_stop {t : Int → Int} {n m c0 : Int} {k : Nat} (h : wlk t n m c0 k = -1) : ∀ d : Nat, wlk t n m c0 (k + d) = -1
  | 0 => h
  | d + 1 => by
    show (if wlk t n m c0 (k + d) = -1 then -1 else _) = -1
    rw [if_pos (wlk_stop h d)]
/-- where a walk begins -/
def wlk0 (t : Int → Int) (p h : Int) : Int := if h = 0 then t (21 + 17 * p) else cellT t p (h - 1)
/-- the setting of a walk -/
def walC (t : Int → Int) (p : Int) (h : Nat) (m n : Int) : Cf := mWh (cfg t) (fun h2 p2 => if p2 = p ∧ (h : Int) ≤ h2 ∧ h2 < h + m then wlk t n m (wlk0 t p h) (h2 - h + 1).toNat else cellT t p2 h2)
/-- nothing else is otherwise -/
def WkF (t : Int → Int) (p : Int) (h : Nat) (m : Int) (f : Int → Int → Int) : Prop := ∀ h2 p2 : Int, ¬ (p2 = p ∧ (h : Int) ≤ h2 ∧ h2 < h + m) → f h2 p2 = cellT t p2 h2
theorem cellT_in {t : Int → Int} (hT : TownOk t) {p h : Int} (p0 : 0 ≤ p) (p1 : p < t 6) (h0 : 0 ≤ h) : 0 ≤ cellT t p h ∧ cellT t p h < t 0 * t 1 := by
  have hp := hT.2.2.2.2.2.2.2.2.1 p p0 p1
  unfold cellT
  split
  · exact hp.2.1
  · have := hp.2.2.2.2.2 (if h < t (24 + 17 * p) then h else t (24 + 17 * p) - 1) (by have := hp.2.2.2.2.1; split <;> omega) (by have := hp.2.2.2.2.1; split <;> omega)
    exact this
theorem wlk0_in {t : Int → Int} (hT : TownOk t) {p : Int} (p0 : 0 ≤ p) (p1 : p < t 6) (h : Nat) : 0 ≤ wlk0 t p h ∧ wlk0 t p h < t 0 * t 1 := by
  unfold wlk0
  split
  · exact (hT.2.2.2.2.2.2.2.2.1 p p0 p1).2.1
  · exact cellT_in hT p0 p1 (by omega)
theorem sp_Tr_goWalk {g : xG} {K : Option MV → xS → Prop} {σ : xS} {o : Nat} {t : Int → Int} {p n : Int} {h m : Nat} {f : Int → Int → Int} (ho : IsTw o) (hT : TownOk t) (hR : TownR σ o t) (p0 : 0 ≤ p) (p1 : p < t 6) (hm0 : 1 ≤ m) (hm : m ≤ 4) (hh : (h : Int) + m ≤ t 3) (n0 : 0 ≤ n) (hp : PlanR σ (mWh (cfg t) f)) (hf : WkF t p h m f)
    (kt : ∀ σ' : xS, wlk t n m (wlk0 t p h) m ≠ -1 → PlanR σ' (walC t p h m n) → (∀ o : Nat, o ≠ 142 → σ' o = σ o) → K (some (vI 1)) σ')
    (kf : ∀ (σ' : xS) (f' : Int → Int → Int), wlk t n m (wlk0 t p h) m = -1 → PlanR σ' (mWh (cfg t) f') → WkF t p h m f' → (∀ o : Nat, o ≠ 142 → σ' o = σ o) → K (some (vI 0)) σ') : Mt g y_Tr_goWalk [vR 169, vR o, vI p, vI (h : Int), vI (m : Int), vI n] σ K := by
  have hC := cfg_ok hT
  have h6 := hT.2.2.2.2.2.2.1
  have h3 := hT.2.2.2.1
  have hcb := cells_bd hT
  have h00 := wlk0_in hT p0 p1 h
  have hw := fun j => wlk_in hT n m h00.1 h00.2 j
  have lp : ∀ (Z : xZ) (d j : Nat) (σ1 : xS) (f1 : Int → Int → Int), j + d = m → wlk t n m (wlk0 t p h) j ≠ -1 → PlanR σ1 (mWh (cfg t) f1) → WkF t p h m f1 → (∀ i : Int, (h : Int) ≤ i → i < h + j → f1 i p = wlk t n m (wlk0 t p h) (i - h + 1).toNat) → (∀ o : Nat, o ≠ 142 → σ1 o = σ o) → Wx g y_Tr_goWalk Z K 26 [vR 169, vR o, vI p, vI (h : Int), vI (m : Int), vI n, vI (wlk t n m (wlk0 t p h) j), vI (j : Int)] [] σ1 := by
    intro Z d
    induction d with
    | zero =>
      intro j σ1 f1 hn hv hp1 hf1 hc F
      have e : j = m := by omega
      subst e
      refine x_iload (dat d_Tr_goWalk 16 rfl) rfl ?_
      refine x_iload (dat d_Tr_goWalk 17 rfl) rfl ?_
      refine x_icmp_ge (tgt := 78) (dat d_Tr_goWalk 18 rfl) (by decide) (fun c_30 => ?_) (fun c_30 => (by omega))
      refine x_iconst (dat d_Tr_goWalk 42 rfl) (by decide) ?_
      refine x_zret (dat d_Tr_goWalk 43 rfl) rfl (by decide) ?_
      refine kt _ hv (hp1.congr (fun _ => rfl) (fun _ _ _ => rfl) (fun _ _ _ _ _ => rfl) (fun _ _ _ _ _ => rfl) (fun h2 p2 _ _ _ _ => ?_) (fun _ _ _ => rfl)) F
      show (if p2 = p ∧ (h : Int) ≤ h2 ∧ h2 < h + (j : Int) then wlk t n j (wlk0 t p h) (h2 - h + 1).toNat else cellT t p2 h2) = f1 h2 p2
      split
      · rename_i w
        rw [w.1]
        exact (hc h2 w.2.1 w.2.2).symm
      · rename_i w
        exact (hf1 h2 p2 w).symm
    | succ d ih =>
      intro j σ1 f1 hn hv hp1 hf1 hc F
      have hj := hw j
      have hj1 := hw (j + 1)
      have st : wlk t n m (wlk0 t p h) (j + 1) = stepT t (wlk t n m (wlk0 t p h) j) (n / ((5 ^ ((m : Int) - 1 - (j : Int)).toNat : Nat) : Int) % 5) := by
        show (if wlk t n m (wlk0 t p h) j = -1 then -1 else _) = _
        rw [if_neg hv]
      have hdig : 0 ≤ n / ((5 ^ ((m : Int) - 1 - (j : Int)).toNat : Nat) : Int) % 5 ∧ n / ((5 ^ ((m : Int) - 1 - (j : Int)).toNat : Nat) : Int) % 5 < 5 := ⟨Int.emod_nonneg _ (by decide), Int.emod_lt_of_pos _ (by decide)⟩
      have hR1 : TownR σ1 o t := hR.same (fun b _ _ => F b (by have := tw_cs ho; omega))
      have nx := fun σ' f' => ih (j + 1) σ' f' (by omega)
      have bad : wlk t n m (wlk0 t p h) (j + 1) = -1 → wlk t n m (wlk0 t p h) m = -1 := fun w => by
        have := wlk_stop w (m - (j + 1))
        rwa [show j + 1 + (m - (j + 1)) = m by omega] at this
      generalize hcv : n / ((5 ^ ((m : Int) - 1 - (j : Int)).toNat : Nat) : Int) % 5 = dg at st hdig
      generalize hc2 : wlk t n m (wlk0 t p h) (j + 1) = c2 at st hj1 nx bad
      have hp2 := hp1.send (h := (h : Int) + j) (p := p) (c := c2) (by omega) p0 (by omega) h6.2
      refine x_iload (dat d_Tr_goWalk 16 rfl) rfl ?_
      refine x_iload (dat d_Tr_goWalk 17 rfl) rfl ?_
      refine x_icmp_ge (tgt := 78) (dat d_Tr_goWalk 18 rfl) (by decide) (fun c_30 => (by omega)) (fun c_30 => ?_)
      refine x_aload_n (dat d_Tr_goWalk 19 rfl) rfl rfl ?_
      refine x_iload (dat d_Tr_goWalk 20 rfl) rfl ?_
      refine x_iload (dat d_Tr_goWalk 21 rfl) rfl ?_
      refine x_iload (dat d_Tr_goWalk 22 rfl) rfl ?_
      refine x_iload (dat d_Tr_goWalk 23 rfl) rfl ?_
      refine x_invN (As := [vI n, vI (m : Int), vI (j : Int)]) (dat d_Tr_goWalk 24 rfl) rfl rfl c_Sb_wayOf (by decide) rfl rfl (Nat.le_of_ble_eq_true rfl) ?_
      refine sp_Sb_wayOf n0 (by omega) (by omega) (by omega) ?_
      rw [hcv]
      show Wx g y_Tr_goWalk Z K 45 [vR 169, vR o, vI p, vI (h : Int), vI (m : Int), vI n, vI (wlk t n m (wlk0 t p h) j), vI (j : Int)] [vI dg, vI (wlk t n m (wlk0 t p h) j), vR o] σ1
      refine x_inv (As := [vI (wlk t n m (wlk0 t p h) j), vI dg]) (dat d_Tr_goWalk 25 rfl) rfl c_Tw_cellBeside l_Tr_123 (by decide) (rv_tw (tw_k ho)) rfl rfl (Nat.le_of_ble_eq_true rfl) ?_
      refine sp_Tw_cellBeside ho hT hR1 (by omega) (by omega) hdig.1 hdig.2 ?_
      rw [← st]
      show Wx g y_Tr_goWalk Z K 48 [vR 169, vR o, vI p, vI (h : Int), vI (m : Int), vI n, vI (wlk t n m (wlk0 t p h) j), vI (j : Int)] [vI c2] σ1
      refine x_istore (L' := [vR 169, vR o, vI p, vI (h : Int), vI (m : Int), vI n, vI c2, vI (j : Int)]) (dat d_Tr_goWalk 26 rfl) (by decide) rfl rfl ?_
      refine x_iload (dat d_Tr_goWalk 27 rfl) rfl ?_
      refine x_iconst (dat d_Tr_goWalk 28 rfl) (by decide) ?_
      refine x_icmp_ne (tgt := 58) (dat d_Tr_goWalk 29 rfl) (by decide) (fun c_53 => ?_) (fun c_53 => ?_)
      · refine x_aload_n (dat d_Tr_goWalk 32 rfl) rfl rfl ?_
        refine x_getr (r := 138) (dat d_Tr_goWalk 33 rfl) rfl f_Tr_15 (or_mk (by decide +kernel)) ?_
        refine x_iload_n (dat d_Tr_goWalk 34 rfl) rfl rfl ?_
        refine x_iload (dat d_Tr_goWalk 35 rfl) rfl ?_
        refine x_iadd (v := (h : Int) + (j : Int)) (dat d_Tr_goWalk 36 rfl) rfl (by omega) ?_
        refine x_iload_n (dat d_Tr_goWalk 37 rfl) rfl rfl ?_
        refine x_iload (dat d_Tr_goWalk 38 rfl) rfl ?_
        refine x_inv (As := [vI ((h : Int) + (j : Int)), vI p, vI c2]) (dat d_Tr_goWalk 39 rfl) rfl c_Pl_send l_Tr_102 (by decide) (rv_pl (by decide +kernel)) rfl rfl (Nat.le_of_ble_eq_true rfl) ?_
        refine sp_Pl_send (by omega) (by omega) p0 (by omega) ?_
        show Wx g y_Tr_goWalk Z K 72 [vR 169, vR o, vI p, vI (h : Int), vI (m : Int), vI n, vI c2, vI (j : Int)] [] (up σ1 142 (8 * ((h : Int) + (j : Int)) + p) c2)
        refine x_iinc (v' := ((j + 1 : Nat) : Int)) (L' := [vR 169, vR o, vI p, vI (h : Int), vI (m : Int), vI n, vI c2, vI ((j + 1 : Nat) : Int)]) (dat d_Tr_goWalk 40 rfl) rfl (by decide) rfl (by omega) (by omega) rfl ?_
        refine x_goto (tgt := 26) (dat d_Tr_goWalk 41 rfl) (by decide) ?_
        refine nx _ (whSend (mWh (cfg t) f1) ((h : Int) + j) p c2) (by omega) hp2 (fun h2 p2 w => ?_) (fun i q0 q1 => ?_) (fun b hb => by rw [up_ne hb]; exact F b hb)
        · show (if h2 = (h : Int) + j ∧ p2 = p then c2 else f1 h2 p2) = _
          rw [if_neg (fun w2 => w ⟨w2.2, by omega, by omega⟩)]
          exact hf1 h2 p2 w
        · show (if i = (h : Int) + j ∧ p = p then c2 else f1 i p) = _
          by_cases e : i = (h : Int) + j
          · rw [if_pos ⟨e, rfl⟩, show (i - (h : Int) + 1).toNat = j + 1 by omega, hc2]
          · rw [if_neg (fun w => e w.1)]
            exact hc i q0 (by omega)
      · refine x_iconst (dat d_Tr_goWalk 30 rfl) (by decide) ?_
        refine x_zret (dat d_Tr_goWalk 31 rfl) rfl (by decide) ?_
        exact kf _ f1 (bad (by omega)) hp1 hf1 F
  have e2 : σ (o + 2) p = t (21 + 17 * p) := (hR.2.1 p p0 p1).2.1
  by_cases hz : (h : Int) = 0
  · have w0 : t (21 + 17 * p) = wlk t n m (wlk0 t p h) 0 := by show _ = wlk0 t p h; unfold wlk0; rw [if_pos hz]
    refine x_enter 2 rfl rfl rfl (fun Z => ?_)
    show Wx g y_Tr_goWalk Z K 0 [vR 169, vR o, vI p, vI (h : Int), vI (m : Int), vI n, vU, vU] [] σ
    refine x_iload_n (dat d_Tr_goWalk 0 rfl) rfl rfl ?_
    refine x_if_ne (tgt := 13) (dat d_Tr_goWalk 1 rfl) (by decide) (fun c_1 => (by omega)) (fun c_1 => ?_)
    refine x_aload_n (dat d_Tr_goWalk 2 rfl) rfl rfl ?_
    refine x_getr (r := o + 2) (dat d_Tr_goWalk 3 rfl) rfl f_Tr_116 (tw_or_9 ho) ?_
    refine x_iload_n (dat d_Tr_goWalk 4 rfl) rfl rfl ?_
    refine x_iald (n := 8) (v := wlk t n m (wlk0 t p h) 0) (dat d_Tr_goWalk 5 rfl) (tw_ai_2 ho) (by omega) (by omega) (by exact e2.trans w0) ?_
    refine x_goto (tgt := 21) (dat d_Tr_goWalk 6 rfl) (by decide) ?_
    refine x_istore (L' := [vR 169, vR o, vI p, vI (h : Int), vI (m : Int), vI n, vI (wlk t n m (wlk0 t p h) 0), vU]) (dat d_Tr_goWalk 13 rfl) (by decide) rfl rfl ?_
    refine x_iconst (dat d_Tr_goWalk 14 rfl) (by decide) ?_
    refine x_istore (L' := [vR 169, vR o, vI p, vI (h : Int), vI (m : Int), vI n, vI (wlk t n m (wlk0 t p h) 0), vI 0]) (dat d_Tr_goWalk 15 rfl) (by decide) rfl rfl ?_
    exact lp Z m 0 σ f (by omega) (by show wlk0 t p h ≠ -1; omega) hp hf (fun i q0 q1 => by omega) (fun _ _ => rfl)
  · have w0 : cellT t p ((h : Int) - 1) = wlk t n m (wlk0 t p h) 0 := by show _ = wlk0 t p h; unfold wlk0; rw [if_neg hz]
    refine x_enter 2 rfl rfl rfl (fun Z => ?_)
    show Wx g y_Tr_goWalk Z K 0 [vR 169, vR o, vI p, vI (h : Int), vI (m : Int), vI n, vU, vU] [] σ
    refine x_iload_n (dat d_Tr_goWalk 0 rfl) rfl rfl ?_
    refine x_if_ne (tgt := 13) (dat d_Tr_goWalk 1 rfl) (by decide) (fun c_1 => ?_) (fun c_1 => (by omega))
    refine x_aload_n (dat d_Tr_goWalk 7 rfl) rfl rfl ?_
    refine x_iload_n (dat d_Tr_goWalk 8 rfl) rfl rfl ?_
    refine x_iload_n (dat d_Tr_goWalk 9 rfl) rfl rfl ?_
    refine x_iconst (dat d_Tr_goWalk 10 rfl) (by decide) ?_
    refine x_isub (v := (h : Int) - 1) (dat d_Tr_goWalk 11 rfl) rfl (by omega) ?_
    refine x_inv (As := [vI p, vI ((h : Int) - 1)]) (dat d_Tr_goWalk 12 rfl) rfl c_Tw_cellAt l_Tr_88 (by decide) (rv_tw (tw_k ho)) rfl rfl (Nat.le_of_ble_eq_true rfl) ?_
    refine sp_Tw_cellAt ho hT hR p0 p1 (by omega) (by omega) ?_
    rw [w0]
    show Wx g y_Tr_goWalk Z K 21 [vR 169, vR o, vI p, vI (h : Int), vI (m : Int), vI n, vU, vU] [vI (wlk t n m (wlk0 t p h) 0)] σ
    refine x_istore (L' := [vR 169, vR o, vI p, vI (h : Int), vI (m : Int), vI n, vI (wlk t n m (wlk0 t p h) 0), vU]) (dat d_Tr_goWalk 13 rfl) (by decide) rfl rfl ?_
    refine x_iconst (dat d_Tr_goWalk 14 rfl) (by decide) ?_
    refine x_istore (L' := [vR 169, vR o, vI p, vI (h : Int), vI (m : Int), vI n, vI (wlk t n m (wlk0 t p h) 0), vI 0]) (dat d_Tr_goWalk 15 rfl) (by decide) rfl rfl ?_
    exact lp Z m 0 σ f (by omega) (by show wlk0 t p h ≠ -1; omega) hp hf (fun i q0 q1 => by omega) (fun _ _ => rfl)
