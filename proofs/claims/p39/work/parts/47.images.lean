/-- a text takes its place -/
def putT (a : Int → Int) (n : Int) (t : Int → Int) : Int → Int := fun i => if i = 0 then (if a 0 < n + 1 then n + 1 else a 0) else if 610 + 156 * n ≤ i ∧ i < 610 + 156 * n + 156 then t (i - (610 + 156 * n)) else a i
def putB (a : Int → Int) (n : Int) (t : Int → Int) : Int → Int := fun i => if i = 1 then (if a 1 < n + 1 then n + 1 else a 1) else if 922 + 25 * n ≤ i ∧ i < 922 + 25 * n + 25 then t (i - (922 + 25 * n)) else a i
theorem putT_self {a t : Int → Int} {n i : Int} (n0 : 0 ≤ n) (i0 : 0 ≤ i) (i1 : i < 156) : twn (putT a n t) n i = t i := by
  unfold twn putT
  rw [if_neg (by omega), if_pos (by omega)]
  congr 1
  omega
theorem putB_self {a t : Int → Int} {n i : Int} (n0 : 0 ≤ n) (i0 : 0 ≤ i) (i1 : i < 25) : bkn (putB a n t) n i = t i := by
  unfold bkn putB
  rw [if_neg (by omega), if_pos (by omega)]
  congr 1
  omega
theorem putT_oth {a t : Int → Int} {n i : Int} (h0 : i ≠ 0) (h : i < 610 + 156 * n ∨ 610 + 156 * n + 156 ≤ i) : putT a n t i = a i := by
  unfold putT
  rw [if_neg h0, if_neg (by omega)]
theorem putB_oth {a t : Int → Int} {n i : Int} (h0 : i ≠ 1) (h : i < 922 + 25 * n ∨ 922 + 25 * n + 25 ≤ i) : putB a n t i = a i := by
  unfold putB
  rw [if_neg h0, if_neg (by omega)]
theorem sp_To_keepTown {g : xG} {K : Option MV → xS → Prop} {σ : xS} {a t : Int → Int} {n : Int} (H : TolR σ 1 a) (n0 : 0 ≤ n) (n1 : n < 2) (n2 : n ≤ a 0) (hT : TownOk t) (hR : TownR σ 124 t) (k : ∀ σ' : xS, TolR σ' 1 (putT a n t) → (∀ x : Nat, (x < 1 ∨ 30 < x) → σ' x = σ x) → K none σ') : Mt g y_To_keepTown [vR 1, vI n, vR 124] σ K := by
  have b0 := H.1.1
  have b1 := H.1.2.1
  have main : ∀ (m : Nat) (v : Int) (σ1 : xS), n = m → a 0 ≤ v → n + 1 ≤ v → (v = a 0 ∨ v = n + 1) → TownR σ1 (4 + 9 * m) t → (∀ x : Nat, (x < 4 + 9 * m ∨ 4 + 9 * m + 8 < x) → σ1 x = σ x) → K none (up σ1 1 6 v) := by
    intro m v σ1 hm v0 v1 v2 R F
    have hm2 : m < 2 := by omega
    have e1 : σ1 1 = σ 1 := F 1 (by omega)
    have hv : v = putT a n t 0 := by
      unfold putT
      rw [if_pos rfl]
      split <;> omega
    have eo : ∀ i : Int, i ≠ 0 → i < 610 → putT a n t i = a i := fun i h0 h1 => putT_oth h0 (by omega)
    obtain ⟨h1, h2, h3, h4, h5⟩ := H
    refine k _ ⟨?_, ?_, fun i i0 i1 => ?_, fun q hq => ?_, fun q hq => ?_⟩ (fun x hx => by rw [up_ne (by omega), F x (by omega)])
    · rw [← hv, eo 1 (by decide) (by decide), eo 2 (by decide) (by decide)]
      omega
    · rw [← hv, eo 1 (by decide) (by decide), eo 2 (by decide) (by decide), eo 3 (by decide) (by decide), eo 4 (by decide) (by decide), up_ni (by decide), up_ni (by decide), up_ni (by decide), up_s, up_ni (by decide), e1]
      exact ⟨h2.1, h2.2.1, h2.2.2.1, rfl, h2.2.2.2.2⟩
    · rw [eo 2 (by decide) (by decide)] at i1
      rw [eo (10 + i) (by omega) (by omega), up_ne (by decide), F (1 + 1) (by omega)]
      exact h3 i i0 i1
    · rw [← hv] at hq
      by_cases z : q = m
      · subst z
        have e : ∀ i : Int, 0 ≤ i → i < 156 → twn (putT a n t) q i = t i := fun i i0 i1 => by rw [← hm]; exact putT_self n0 i0 i1
        exact ⟨TownOk.congr hT e, TownR.congr hT (R.same (fun x q0 q1 => up_ne (by omega))) e⟩
      · have q2 : q < 2 := by omega
        obtain ⟨g1, g2⟩ := h4 q (by omega)
        have e : ∀ i : Int, 0 ≤ i → i < 156 → twn (putT a n t) q i = twn a q i := fun i i0 i1 => putT_oth (by omega) (by omega)
        exact ⟨TownOk.congr g1 e, TownR.congr g1 (g2.same (fun x q0 q1 => by rw [up_ne (by omega), F x (by omega)])) e⟩
    · rw [eo 1 (by decide) (by decide)] at hq
      have q2 : q < 2 := by omega
      obtain ⟨g1, g2⟩ := h5 q hq
      have e : ∀ i : Int, 0 ≤ i → i < 25 → bkn (putT a n t) q i = bkn a q i := fun i i0 i1 => putT_oth (by omega) (by omega)
      exact ⟨BookOk.congr g1 e, BookR.congr g1 (g2.same (fun x q0 q1 => by rw [up_ne (by omega), F x (by omega)])) e⟩
  have ec : σ 1 6 = a 0 := H.2.1.2.2.2.1
  refine x_enter 0 rfl rfl rfl (fun Z => ?_)
  show Wx g y_To_keepTown Z K 0 [vR 1, vI n, vR 124] [] σ
  refine x_iload_n (dat d_To_keepTown 0 rfl) rfl rfl ?_
  refine x_if_lt (tgt := 33) (dat d_To_keepTown 1 rfl) (by decide) (fun c_1 => (by omega)) (fun c_1 => ?_)
  refine x_iload_n (dat d_To_keepTown 2 rfl) rfl rfl ?_
  refine x_iconst (dat d_To_keepTown 3 rfl) (by decide) ?_
  refine x_icmp_ge (tgt := 33) (dat d_To_keepTown 4 rfl) (by decide) (fun c_6 => (by omega)) (fun c_6 => ?_)
  refine x_aload_n (dat d_To_keepTown 5 rfl) rfl rfl ?_
  refine x_getr (r := 3) (dat d_To_keepTown 6 rfl) rfl f_To_18 (or_mk (by decide +kernel)) ?_
  refine x_iload_n (dat d_To_keepTown 7 rfl) rfl rfl ?_
  rcases (show n = 0 ∨ n = 1 by omega) with e | e
  · subst e
    refine x_aald (r := 4) (t := 23) (dat d_To_keepTown 8 rfl) (by decide +kernel) (by decide) (by decide) (by decide +kernel) (by decide +kernel) ?_
    refine x_aload_n (dat d_To_keepTown 9 rfl) rfl rfl ?_
    refine x_inv (As := [vR 124]) (dat d_To_keepTown 10 rfl) rfl c_Tw_copy l_To_45 (by decide) (rv_tw (by decide +kernel)) rfl rfl (Nat.le_of_ble_eq_true rfl) ?_
    refine sp_Tw_copy (by simp [IsTw, L_Tw]) (by simp [IsTw, L_Tw]) (by decide) (fun σ1 T F => ?_)
    have ec1 : σ1 1 6 = a 0 := by rw [F 1 (by omega)]; exact ec
    show Wx g y_To_keepTown Z K 19 [vR 1, vI 0, vR 124] [] σ1
    refine x_aload_n (dat d_To_keepTown 11 rfl) rfl rfl ?_
    refine x_aload_n (dat d_To_keepTown 12 rfl) rfl rfl ?_
    refine x_geti (ji := 6) (v := a 0) (dat d_To_keepTown 13 rfl) rfl f_To_39 (oi_mk (by decide +kernel)) (ec1) ?_
    refine x_iload_n (dat d_To_keepTown 14 rfl) rfl rfl ?_
    refine x_iconst (dat d_To_keepTown 15 rfl) (by decide) ?_
    refine x_iadd (v := 1) (dat d_To_keepTown 16 rfl) (by decide) (by omega) ?_
    refine x_mmax (own := "ShakenBread$Told") (dat d_To_keepTown 17 rfl) rfl l_To_49 (by decide) (Nat.le_of_ble_eq_true rfl) (fun m_27 h1_27 h2_27 h3_27 => ?_)
    refine x_puti (ji := 6) (x := (m_27)) (dat d_To_keepTown 18 rfl) rfl f_To_39w (oi_mk (by decide +kernel)) (fun h => absurd h (by decide)) (by decide) ?_
    refine x_ret (dat d_To_keepTown 19 rfl) rfl ?_
    first
    | exact main 0 _ σ1 rfl (by omega) (by omega) (by omega) (T _ hT hR) F
    | exact main 1 _ σ1 rfl (by omega) (by omega) (by omega) (T _ hT hR) F
  · subst e
    refine x_aald (r := 13) (t := 23) (dat d_To_keepTown 8 rfl) (by decide +kernel) (by decide) (by decide) (by decide +kernel) (by decide +kernel) ?_
    refine x_aload_n (dat d_To_keepTown 9 rfl) rfl rfl ?_
    refine x_inv (As := [vR 124]) (dat d_To_keepTown 10 rfl) rfl c_Tw_copy l_To_45 (by decide) (rv_tw (by decide +kernel)) rfl rfl (Nat.le_of_ble_eq_true rfl) ?_
    refine sp_Tw_copy (by simp [IsTw, L_Tw]) (by simp [IsTw, L_Tw]) (by decide) (fun σ1 T F => ?_)
    have ec1 : σ1 1 6 = a 0 := by rw [F 1 (by omega)]; exact ec
    show Wx g y_To_keepTown Z K 19 [vR 1, vI 1, vR 124] [] σ1
    refine x_aload_n (dat d_To_keepTown 11 rfl) rfl rfl ?_
    refine x_aload_n (dat d_To_keepTown 12 rfl) rfl rfl ?_
    refine x_geti (ji := 6) (v := a 0) (dat d_To_keepTown 13 rfl) rfl f_To_39 (oi_mk (by decide +kernel)) (ec1) ?_
    refine x_iload_n (dat d_To_keepTown 14 rfl) rfl rfl ?_
    refine x_iconst (dat d_To_keepTown 15 rfl) (by decide) ?_
    refine x_iadd (v := 2) (dat d_To_keepTown 16 rfl) (by decide) (by omega) ?_
    refine x_mmax (own := "ShakenBread$Told") (dat d_To_keepTown 17 rfl) rfl l_To_49 (by decide) (Nat.le_of_ble_eq_true rfl) (fun m_27 h1_27 h2_27 h3_27 => ?_)
    refine x_puti (ji := 6) (x := (m_27)) (dat d_To_keepTown 18 rfl) rfl f_To_39w (oi_mk (by decide +kernel)) (fun h => absurd h (by decide)) (by decide) ?_
    refine x_ret (dat d_To_keepTown 19 rfl) rfl ?_
    first
    | exact main 0 _ σ1 rfl (by omega) (by omega) (by omega) (T _ hT hR) F
    | exact main 1 _ σ1 rfl (by omega) (by omega) (by omega) (T _ hT hR) F
theorem sp_To_keepBook {g : xG} {K : Option MV → xS → Prop} {σ : xS} {a t : Int → Int} {n : Int} (H : TolR σ 1 a) (n0 : 0 ≤ n) (n1 : n < 2) (n2 : n ≤ a 1) (hT : BookOk t) (hR : BookR σ 133 t) (k : ∀ σ' : xS, TolR σ' 1 (putB a n t) → (∀ x : Nat, (x < 1 ∨ 30 < x) → σ' x = σ x) → K none σ') : Mt g y_To_keepBook [vR 1, vI n, vR 133] σ K := by
  have b0 := H.1.1
  have b1 := H.1.2.1
  have main : ∀ (m : Nat) (v : Int) (σ1 : xS), n = m → a 1 ≤ v → n + 1 ≤ v → (v = a 1 ∨ v = n + 1) → BookR σ1 (23 + 4 * m) t → (∀ x : Nat, (x < 23 + 4 * m ∨ 23 + 4 * m + 3 < x) → σ1 x = σ x) → K none (up σ1 1 7 v) := by
    intro m v σ1 hm v0 v1 v2 R F
    have hm2 : m < 2 := by omega
    have e1 : σ1 1 = σ 1 := F 1 (by omega)
    have hv : v = putB a n t 1 := by
      unfold putB
      rw [if_pos rfl]
      split <;> omega
    have eo : ∀ i : Int, i ≠ 1 → i < 610 → putB a n t i = a i := fun i h0 h1 => putB_oth h0 (by omega)
    obtain ⟨h1, h2, h3, h4, h5⟩ := H
    refine k _ ⟨?_, ?_, fun i i0 i1 => ?_, fun q hq => ?_, fun q hq => ?_⟩ (fun x hx => by rw [up_ne (by omega), F x (by omega)])
    · rw [← hv, eo 0 (by decide) (by decide), eo 2 (by decide) (by decide)]
      omega
    · rw [← hv, eo 0 (by decide) (by decide), eo 2 (by decide) (by decide), eo 3 (by decide) (by decide), eo 4 (by decide) (by decide), up_ni (by decide), up_ni (by decide), up_ni (by decide), up_s, up_ni (by decide), e1]
      exact ⟨h2.1, h2.2.1, h2.2.2.1, h2.2.2.2.1, rfl⟩
    · rw [eo 2 (by decide) (by decide)] at i1
      rw [eo (10 + i) (by omega) (by omega), up_ne (by decide), F (1 + 1) (by omega)]
      exact h3 i i0 i1
    · rw [eo 0 (by decide) (by decide)] at hq
      have q2 : q < 2 := by omega
      obtain ⟨g1, g2⟩ := h4 q hq
      have e : ∀ i : Int, 0 ≤ i → i < 156 → twn (putB a n t) q i = twn a q i := fun i i0 i1 => putB_oth (by omega) (by omega)
      exact ⟨TownOk.congr g1 e, TownR.congr g1 (g2.same (fun x q0 q1 => by rw [up_ne (by omega), F x (by omega)])) e⟩
    · rw [← hv] at hq
      by_cases z : q = m
      · subst z
        have e : ∀ i : Int, 0 ≤ i → i < 25 → bkn (putB a n t) q i = t i := fun i i0 i1 => by rw [← hm]; exact putB_self n0 i0 i1
        exact ⟨BookOk.congr hT e, BookR.congr hT (R.same (fun x q0 q1 => up_ne (by omega))) e⟩
      · have q2 : q < 2 := by omega
        obtain ⟨g1, g2⟩ := h5 q (by omega)
        have e : ∀ i : Int, 0 ≤ i → i < 25 → bkn (putB a n t) q i = bkn a q i := fun i i0 i1 => putB_oth (by omega) (by omega)
        exact ⟨BookOk.congr g1 e, BookR.congr g1 (g2.same (fun x q0 q1 => by rw [up_ne (by omega), F x (by omega)])) e⟩
  have ec : σ 1 7 = a 1 := H.2.1.2.2.2.2
  refine x_enter 0 rfl rfl rfl (fun Z => ?_)
  show Wx g y_To_keepBook Z K 0 [vR 1, vI n, vR 133] [] σ
  refine x_iload_n (dat d_To_keepBook 0 rfl) rfl rfl ?_
  refine x_if_lt (tgt := 33) (dat d_To_keepBook 1 rfl) (by decide) (fun c_1 => (by omega)) (fun c_1 => ?_)
  refine x_iload_n (dat d_To_keepBook 2 rfl) rfl rfl ?_
  refine x_iconst (dat d_To_keepBook 3 rfl) (by decide) ?_
  refine x_icmp_ge (tgt := 33) (dat d_To_keepBook 4 rfl) (by decide) (fun c_6 => (by omega)) (fun c_6 => ?_)
  refine x_aload_n (dat d_To_keepBook 5 rfl) rfl rfl ?_
  refine x_getr (r := 22) (dat d_To_keepBook 6 rfl) rfl f_To_25 (or_mk (by decide +kernel)) ?_
  refine x_iload_n (dat d_To_keepBook 7 rfl) rfl rfl ?_
  rcases (show n = 0 ∨ n = 1 by omega) with e | e
  · subst e
    refine x_aald (r := 23) (t := 24) (dat d_To_keepBook 8 rfl) (by decide +kernel) (by decide) (by decide) (by decide +kernel) (by decide +kernel) ?_
    refine x_aload_n (dat d_To_keepBook 9 rfl) rfl rfl ?_
    refine x_inv (As := [vR 133]) (dat d_To_keepBook 10 rfl) rfl c_Bk_copy l_To_55 (by decide) (rv_bk (by decide +kernel)) rfl rfl (Nat.le_of_ble_eq_true rfl) ?_
    refine sp_Bk_copy (by simp [IsBk, L_Bk]) (by simp [IsBk, L_Bk]) (by decide) (fun σ1 T F => ?_)
    have ec1 : σ1 1 7 = a 1 := by rw [F 1 (by omega)]; exact ec
    show Wx g y_To_keepBook Z K 19 [vR 1, vI 0, vR 133] [] σ1
    refine x_aload_n (dat d_To_keepBook 11 rfl) rfl rfl ?_
    refine x_aload_n (dat d_To_keepBook 12 rfl) rfl rfl ?_
    refine x_geti (ji := 7) (v := a 1) (dat d_To_keepBook 13 rfl) rfl f_To_42 (oi_mk (by decide +kernel)) (ec1) ?_
    refine x_iload_n (dat d_To_keepBook 14 rfl) rfl rfl ?_
    refine x_iconst (dat d_To_keepBook 15 rfl) (by decide) ?_
    refine x_iadd (v := 1) (dat d_To_keepBook 16 rfl) (by decide) (by omega) ?_
    refine x_mmax (own := "ShakenBread$Told") (dat d_To_keepBook 17 rfl) rfl l_To_49 (by decide) (Nat.le_of_ble_eq_true rfl) (fun m_27 h1_27 h2_27 h3_27 => ?_)
    refine x_puti (ji := 7) (x := (m_27)) (dat d_To_keepBook 18 rfl) rfl f_To_42w (oi_mk (by decide +kernel)) (fun h => absurd h (by decide)) (by decide) ?_
    refine x_ret (dat d_To_keepBook 19 rfl) rfl ?_
    first
    | exact main 0 _ σ1 rfl (by omega) (by omega) (by omega) (T _ hT hR) F
    | exact main 1 _ σ1 rfl (by omega) (by omega) (by omega) (T _ hT hR) F
  · subst e
    refine x_aald (r := 27) (t := 24) (dat d_To_keepBook 8 rfl) (by decide +kernel) (by decide) (by decide) (by decide +kernel) (by decide +kernel) ?_
    refine x_aload_n (dat d_To_keepBook 9 rfl) rfl rfl ?_
    refine x_inv (As := [vR 133]) (dat d_To_keepBook 10 rfl) rfl c_Bk_copy l_To_55 (by decide) (rv_bk (by decide +kernel)) rfl rfl (Nat.le_of_ble_eq_true rfl) ?_
    refine sp_Bk_copy (by simp [IsBk, L_Bk]) (by simp [IsBk, L_Bk]) (by decide) (fun σ1 T F => ?_)
    have ec1 : σ1 1 7 = a 1 := by rw [F 1 (by omega)]; exact ec
    show Wx g y_To_keepBook Z K 19 [vR 1, vI 1, vR 133] [] σ1
    refine x_aload_n (dat d_To_keepBook 11 rfl) rfl rfl ?_
    refine x_aload_n (dat d_To_keepBook 12 rfl) rfl rfl ?_
    refine x_geti (ji := 7) (v := a 1) (dat d_To_keepBook 13 rfl) rfl f_To_42 (oi_mk (by decide +kernel)) (ec1) ?_
    refine x_iload_n (dat d_To_keepBook 14 rfl) rfl rfl ?_
    refine x_iconst (dat d_To_keepBook 15 rfl) (by decide) ?_
    refine x_iadd (v := 2) (dat d_To_keepBook 16 rfl) (by decide) (by omega) ?_
    refine x_mmax (own := "ShakenBread$Told") (dat d_To_keepBook 17 rfl) rfl l_To_49 (by decide) (Nat.le_of_ble_eq_true rfl) (fun m_27 h1_27 h2_27 h3_27 => ?_)
    refine x_puti (ji := 7) (x := (m_27)) (dat d_To_keepBook 18 rfl) rfl f_To_42w (oi_mk (by decide +kernel)) (fun h => absurd h (by decide)) (by decide) ?_
    refine x_ret (dat d_To_keepBook 19 rfl) rfl ?_
    first
    | exact main 0 _ σ1 rfl (by omega) (by omega) (by omega) (T _ hT hR) F
    | exact main 1 _ σ1 rfl (by omega) (by omega) (by omega) (T _ hT hR) F
