/-! the log of hands -/
def LogR (σ : xS) (l : Nat) (evs : List Ev) : Prop := σ l 4 = evs.length ∧ ∀ (t : List Ev) (e : Ev) (s : List Ev), evs = t ++ e :: s → σ (l + 1) s.length = e.1 ∧ σ (l + 2) s.length = e.2.1 ∧ σ (l + 3) s.length = e.2.2
theorem LogR.same {σ σ' : xS} {l : Nat} {evs : List Ev} (h : LogR σ l evs) (e : ∀ o : Nat, l ≤ o → o ≤ l + 3 → σ' o = σ o) : LogR σ' l evs := by
  unfold LogR at h ⊢
  rw [e l (by omega) (by omega), e (l + 1) (by omega) (by omega), e (l + 2) (by omega) (by omega), e (l + 3) (by omega) (by omega)]
  exact h
theorem LogR.snoc {σ : xS} {l : Nat} {evs : List Ev} {a b x : Int} (h : LogR σ l evs) : LogR (up (up (up (up σ (l + 1) evs.length a) (l + 2) evs.length b) (l + 3) evs.length x) l 4 (evs.length + 1)) l ((a, b, x) :: evs) := by
  refine ⟨by rw [up_s]; simp, fun t e s he => ?_⟩
  cases t with
  | nil =>
    simp only [List.nil_append, List.cons.injEq] at he
    obtain ⟨rfl, rfl⟩ := he
    refine ⟨?_, ?_, ?_⟩
    · rw [up_nk (by omega), up_nk (by omega), up_nk (by omega), up_s]
    · rw [up_nk (by omega), up_nk (by omega), up_s]
    · rw [up_nk (by omega), up_s]
  | cons e0 t =>
    simp only [List.cons_append, List.cons.injEq] at he
    obtain ⟨-, he⟩ := he
    have hl : s.length < evs.length := by rw [he]; simp; omega
    obtain ⟨h1, h2, h3⟩ := h.2 t e s he
    refine ⟨?_, ?_, ?_⟩
    · rw [up_nk (by omega), up_nk (by omega), up_nk (by omega), up_ni (by omega), h1]
    · rw [up_nk (by omega), up_nk (by omega), up_ni (by omega), up_nk (by omega), h2]
    · rw [up_nk (by omega), up_ni (by omega), up_nk (by omega), up_nk (by omega), h3]
theorem sp_Ha_clear {g : xG} {K : Option MV → xS → Prop} {σ : xS} {l : Nat} (hh : IsHa l) (k : K none (fil (up σ l 4 0) (l + 4) 24 0)) : Mt g y_Ha_clear [vR l] σ K := by
  refine x_enter 0 rfl rfl rfl (fun Z => ?_)
  show Wx g y_Ha_clear Z K 0 [vR l] [] σ
  refine x_aload_n (dat d_Ha_clear 0 rfl) rfl rfl ?_
  refine x_iconst (dat d_Ha_clear 1 rfl) (by decide) ?_
  refine x_puti (ji := 4) (x := 0) (dat d_Ha_clear 2 rfl) rfl f_Ha_24w (ha_oi_4 hh) (fun h => absurd h (by decide)) (by decide) ?_
  refine x_aload_n (dat d_Ha_clear 3 rfl) rfl rfl ?_
  refine x_getr (r := l + 4) (dat d_Ha_clear 4 rfl) rfl f_Ha_21 (ha_or_3 hh) ?_
  refine x_iconst (dat d_Ha_clear 5 rfl) (by decide) ?_
  refine x_invs (As := [vR (l + 4), vI 0]) (dat d_Ha_clear 6 rfl) rfl c_Ar_fill l_Ha_28 (by decide) rfl rfl (Nat.le_of_ble_eq_true rfl) ?_
  refine sp_Ar_fill (N := 24) (ha_ai_4 hh) ?_
  show Wx g y_Ha_clear Z K 13 [vR l] [] (fil (up σ l 4 0) (l + 4) 24 0)
  refine x_ret (dat d_Ha_clear 7 rfl) rfl ?_
  exact k
theorem sp_Ha_write {g : xG} {K : Option MV → xS → Prop} {σ : xS} {l : Nat} {a b x n : Int} (hh : IsHa l) (hn : σ l 4 = n) (h0 : 0 ≤ n) (h1 : n < 672) (k : K none (up (up (up (up σ (l + 1) n a) (l + 2) n b) (l + 3) n x) l 4 (n + 1))) : Mt g y_Ha_write [vR l, vI a, vI b, vI x] σ K := by
  refine x_enter 0 rfl rfl rfl (fun Z => ?_)
  show Wx g y_Ha_write Z K 0 [vR l, vI a, vI b, vI x] [] σ
  refine x_aload_n (dat d_Ha_write 0 rfl) rfl rfl ?_
  refine x_geti (ji := 4) (v := n) (dat d_Ha_write 1 rfl) rfl f_Ha_24 (ha_oi_4 hh) (hn) ?_
  refine x_sipush (dat d_Ha_write 2 rfl) (by decide) (by decide) ?_
  refine x_icmp_ge (tgt := 50) (dat d_Ha_write 3 rfl) (by decide) (fun c_7 => (by omega)) (fun c_7 => ?_)
  refine x_aload_n (dat d_Ha_write 4 rfl) rfl rfl ?_
  refine x_getr (r := l + 1) (dat d_Ha_write 5 rfl) rfl f_Ha_11 (ha_or_0 hh) ?_
  refine x_aload_n (dat d_Ha_write 6 rfl) rfl rfl ?_
  refine x_geti (ji := 4) (v := n) (dat d_Ha_write 7 rfl) rfl f_Ha_24 (ha_oi_4 hh) (hn) ?_
  refine x_iload_n (dat d_Ha_write 8 rfl) rfl rfl ?_
  refine x_iast (n := 672) (dat d_Ha_write 9 rfl) (ha_ai_1 hh) (by omega) (by omega) ?_
  refine x_aload_n (dat d_Ha_write 10 rfl) rfl rfl ?_
  refine x_getr (r := l + 2) (dat d_Ha_write 11 rfl) rfl f_Ha_15 (ha_or_1 hh) ?_
  refine x_aload_n (dat d_Ha_write 12 rfl) rfl rfl ?_
  refine x_geti (ji := 4) (v := n) (dat d_Ha_write 13 rfl) rfl f_Ha_24 (ha_oi_4 hh) ((up_nk (by omega)).trans hn) ?_
  refine x_iload_n (dat d_Ha_write 14 rfl) rfl rfl ?_
  refine x_iast (n := 672) (dat d_Ha_write 15 rfl) (ha_ai_2 hh) (by omega) (by omega) ?_
  refine x_aload_n (dat d_Ha_write 16 rfl) rfl rfl ?_
  refine x_getr (r := l + 3) (dat d_Ha_write 17 rfl) rfl f_Ha_18 (ha_or_2 hh) ?_
  refine x_aload_n (dat d_Ha_write 18 rfl) rfl rfl ?_
  refine x_geti (ji := 4) (v := n) (dat d_Ha_write 19 rfl) rfl f_Ha_24 (ha_oi_4 hh) ((up_nk (by omega)).trans ((up_nk (by omega)).trans hn)) ?_
  refine x_iload_n (dat d_Ha_write 20 rfl) rfl rfl ?_
  refine x_iast (n := 672) (dat d_Ha_write 21 rfl) (ha_ai_3 hh) (by omega) (by omega) ?_
  refine x_aload_n (dat d_Ha_write 22 rfl) rfl rfl ?_
  refine x_dup (dat d_Ha_write 23 rfl) rfl ?_
  refine x_geti (ji := 4) (v := n) (dat d_Ha_write 24 rfl) rfl f_Ha_24 (ha_oi_4 hh) ((up_nk (by omega)).trans ((up_nk (by omega)).trans ((up_nk (by omega)).trans hn))) ?_
  refine x_iconst (dat d_Ha_write 25 rfl) (by decide) ?_
  refine x_iadd (v := n + 1) (dat d_Ha_write 26 rfl) rfl (by omega) ?_
  refine x_puti (ji := 4) (x := n + 1) (dat d_Ha_write 27 rfl) rfl f_Ha_24w (ha_oi_4 hh) (fun h => absurd h (by decide)) (by decide) ?_
  refine x_ret (dat d_Ha_write 28 rfl) rfl ?_
  exact k
theorem sp_Ha_closeHour {g : xG} {K : Option MV → xS → Prop} {σ : xS} {l : Nat} {h n : Int} (hh : IsHa l) (hn : σ l 4 = n) (h0 : 0 ≤ h) (h1 : h < 24) (k : K none (up σ (l + 4) h n)) : Mt g y_Ha_closeHour [vR l, vI h] σ K := by
  refine x_enter 0 rfl rfl rfl (fun Z => ?_)
  show Wx g y_Ha_closeHour Z K 0 [vR l, vI h] [] σ
  refine x_iload_n (dat d_Ha_closeHour 0 rfl) rfl rfl ?_
  refine x_if_lt (tgt := 20) (dat d_Ha_closeHour 1 rfl) (by decide) (fun c_1 => (by omega)) (fun c_1 => ?_)
  refine x_iload_n (dat d_Ha_closeHour 2 rfl) rfl rfl ?_
  refine x_bipush (dat d_Ha_closeHour 3 rfl) (by decide) (by decide) ?_
  refine x_icmp_ge (tgt := 20) (dat d_Ha_closeHour 4 rfl) (by decide) (fun c_7 => (by omega)) (fun c_7 => ?_)
  refine x_aload_n (dat d_Ha_closeHour 5 rfl) rfl rfl ?_
  refine x_getr (r := l + 4) (dat d_Ha_closeHour 6 rfl) rfl f_Ha_21 (ha_or_3 hh) ?_
  refine x_iload_n (dat d_Ha_closeHour 7 rfl) rfl rfl ?_
  refine x_aload_n (dat d_Ha_closeHour 8 rfl) rfl rfl ?_
  refine x_geti (ji := 4) (v := n) (dat d_Ha_closeHour 9 rfl) rfl f_Ha_24 (ha_oi_4 hh) (hn) ?_
  refine x_iast (n := 24) (dat d_Ha_closeHour 10 rfl) (ha_ai_4 hh) (by omega) (by omega) ?_
  refine x_ret (dat d_Ha_closeHour 11 rfl) rfl ?_
  exact k
theorem sp_Ha_firstOf {g : xG} {K : Option MV → xS → Prop} {σ : xS} {l : Nat} {h : Int} (hh : IsHa l) (h0 : 0 ≤ h) (h1 : h < 24) (k : K (some (vI (if h = 0 then 0 else σ (l + 4) (h - 1)))) σ) : Mt g y_Ha_firstOf [vR l, vI h] σ K := by
  refine x_enter 0 rfl rfl rfl (fun Z => ?_)
  show Wx g y_Ha_firstOf Z K 0 [vR l, vI h] [] σ
  refine x_iload_n (dat d_Ha_firstOf 0 rfl) rfl rfl ?_
  refine x_iconst (dat d_Ha_firstOf 1 rfl) (by decide) ?_
  refine x_icmp_lt (tgt := 11) (dat d_Ha_firstOf 2 rfl) (by decide) (fun c_2 => ?_) (fun c_2 => ?_)
  · refine x_iconst (dat d_Ha_firstOf 6 rfl) (by decide) ?_
    refine x_goto (tgt := 23) (dat d_Ha_firstOf 7 rfl) (by decide) ?_
    refine x_iret (dat d_Ha_firstOf 14 rfl) rfl ?_
    first
    | (rw [if_pos (by omega)] at k; exact k)
    | (rw [if_neg (by omega)] at k; exact k)
  · refine x_iload_n (dat d_Ha_firstOf 3 rfl) rfl rfl ?_
    refine x_bipush (dat d_Ha_firstOf 4 rfl) (by decide) (by decide) ?_
    refine x_icmp_le (tgt := 15) (dat d_Ha_firstOf 5 rfl) (by decide) (fun c_8 => ?_) (fun c_8 => (by omega))
    refine x_aload_n (dat d_Ha_firstOf 8 rfl) rfl rfl ?_
    refine x_getr (r := l + 4) (dat d_Ha_firstOf 9 rfl) rfl f_Ha_21 (ha_or_3 hh) ?_
    refine x_iload_n (dat d_Ha_firstOf 10 rfl) rfl rfl ?_
    refine x_iconst (dat d_Ha_firstOf 11 rfl) (by decide) ?_
    refine x_isub (v := h - 1) (dat d_Ha_firstOf 12 rfl) rfl (by omega) ?_
    refine x_iald (n := 24) (v := σ (l + 4) (h - 1)) (dat d_Ha_firstOf 13 rfl) (ha_ai_4 hh) (by omega) (by omega) rfl ?_
    refine x_iret (dat d_Ha_firstOf 14 rfl) rfl ?_
    first
    | (rw [if_pos (by omega)] at k; exact k)
    | (rw [if_neg (by omega)] at k; exact k)
theorem sp_Ha_endOf {g : xG} {K : Option MV → xS → Prop} {σ : xS} {l : Nat} {h : Int} (hh : IsHa l) (h0 : 0 ≤ h) (h1 : h < 24) (k : K (some (vI (σ (l + 4) h))) σ) : Mt g y_Ha_endOf [vR l, vI h] σ K := by
  refine x_enter 0 rfl rfl rfl (fun Z => ?_)
  show Wx g y_Ha_endOf Z K 0 [vR l, vI h] [] σ
  refine x_iload_n (dat d_Ha_endOf 0 rfl) rfl rfl ?_
  refine x_if_lt (tgt := 10) (dat d_Ha_endOf 1 rfl) (by decide) (fun c_1 => (by omega)) (fun c_1 => ?_)
  refine x_iload_n (dat d_Ha_endOf 2 rfl) rfl rfl ?_
  refine x_bipush (dat d_Ha_endOf 3 rfl) (by decide) (by decide) ?_
  refine x_icmp_lt (tgt := 14) (dat d_Ha_endOf 4 rfl) (by decide) (fun c_7 => ?_) (fun c_7 => (by omega))
  refine x_aload_n (dat d_Ha_endOf 7 rfl) rfl rfl ?_
  refine x_getr (r := l + 4) (dat d_Ha_endOf 8 rfl) rfl f_Ha_21 (ha_or_3 hh) ?_
  refine x_iload_n (dat d_Ha_endOf 9 rfl) rfl rfl ?_
  refine x_iald (n := 24) (v := σ (l + 4) h) (dat d_Ha_endOf 10 rfl) (ha_ai_4 hh) (by omega) (by omega) rfl ?_
  refine x_iret (dat d_Ha_endOf 11 rfl) rfl ?_
  exact k
/-- whom a thing reaches -/
def rchE (gl : Int → Bool) (e : Ev) (hv : Int → Bool) : Int → Bool := if gl e.1 = false ∧ gl e.2.1 = false ∧ (hv e.1 = true ∨ hv e.2.1 = true) then (fun p => hv p || (decide (p = e.1) || decide (p = e.2.1))) else hv
def rch (gl : Int → Bool) (from_ : Int) (evs : List Ev) : Int → Bool := evs.foldr (rchE gl) (fun p => decide (p = from_))
theorem msk_self {n : Nat} {m : Int} (h0 : 0 ≤ m) (h1 : m < (2 ^ n : Nat)) : Msk n m (tb m) := ⟨h0, h1, fun _ _ _ => rfl⟩
theorem msk_two {a b : Int} (ha : 0 ≤ a) (ha8 : a < 8) (hb : 0 ≤ b) (hb8 : b < 8) : Msk 8 (ior (ishl 1 a) (ishl 1 b)) (fun p => decide (p = a) || decide (p = b)) := (Msk.one (n := 8) (by decide) ha ha8).lor (by decide) (Msk.one (n := 8) (by decide) hb hb8)
theorem both_0 {a b m : Int} {f : Int → Bool} (ha : 0 ≤ a) (ha8 : a < 8) (hb : 0 ≤ b) (hb8 : b < 8) (h0 : 0 ≤ m) (h1 : m < 256) (fa : tb m a = f a) (fb : tb m b = f b) : iand (ior (ishl 1 a) (ishl 1 b)) m = 0 ↔ f a = false ∧ f b = false := by
  have h2 := (msk_two ha ha8 hb hb8).land (by decide) (msk_self (n := 8) h0 (by omega))
  rw [h2.iszero]
  constructor
  · intro h
    have q1 := h a ha (by omega)
    have q2 := h b hb (by omega)
    simp at q1 q2
    exact ⟨fa ▸ q1, fb ▸ q2⟩
  · intro h p h3 h4
    by_cases e1 : p = a
    · subst e1; simp [fa, h.1]
    · by_cases e2 : p = b
      · subst e2; simp [fb, h.2]
      · simp [e1, e2]
theorem lp_Ha_reached {g : xG} {Z : xZ} {K : Option MV → xS → Prop} {σ : xS} {l : Nat} {P h gm fr : Int} {gl : Int → Bool} {all t s : List Ev} (hh : IsHa l) (hP : P ≤ 8) (h0 : 0 ≤ h) (h1 : h < 24) (hg : Mss P gm gl) (hL : LogR σ l all) (hall : all = t ++ s) (hlen : all.length ≤ 672) (hend : σ (l + 4) h = s.length) (hok : EvsOk P all)
    (k : ∀ r : Int, Msk 8 r (rch gl fr s) → K (some (vI r)) σ) : ∀ (n : Nat) (u v : List Ev) (hv : Int) (w : MV), s = u ++ v → u.length = n → Msk 8 hv (rch gl fr v) → Wx g y_Ha_reached Z K 8 [vR l, vI fr, vI h, vI gm, vI hv, vI (v.length : Int), w] [] σ := by
  intro n
  induction n with
  | zero =>
    intro u v hv w hs hu hm
    have e : u = [] := List.length_eq_zero_iff.mp hu
    subst e
    rw [List.nil_append] at hs
    subst hs
    refine x_iload (dat d_Ha_reached 6 rfl) rfl ?_
    refine x_aload_n (dat d_Ha_reached 7 rfl) rfl rfl ?_
    refine x_iload_n (dat d_Ha_reached 8 rfl) rfl rfl ?_
    refine x_inv (As := [vI h]) (dat d_Ha_reached 9 rfl) rfl c_Ha_endOf l_Ha_34 (by decide) (rv_ha (ha_k hh)) rfl rfl (Nat.le_of_ble_eq_true rfl) ?_
    refine sp_Ha_endOf hh h0 h1 ?_
    show Wx g y_Ha_reached Z K 15 [vR l, vI fr, vI h, vI gm, vI hv, vI (s.length : Int), w] [vI (σ (l + 4) h), vI (s.length : Int)] σ
    refine x_icmp_ge (tgt := 67) (dat d_Ha_reached 10 rfl) (by decide) (fun c_15 => ?_) (fun c_15 => (by omega))
    refine x_iload (dat d_Ha_reached 39 rfl) rfl ?_
    refine x_iret (dat d_Ha_reached 40 rfl) rfl ?_
    exact k _ hm
  | succ n ih =>
    intro u v hv w hs hu hm
    obtain ⟨u2, e, rfl⟩ : ∃ (u2 : List Ev) (e : Ev), u = u2 ++ [e] := ⟨u.dropLast, u.getLast (by intro q; rw [q] at hu; cases hu), (List.dropLast_concat_getLast _).symm⟩
    have hs2 : s = u2 ++ e :: v := by rw [hs]; simp
    have ha2 : all = (t ++ u2) ++ e :: v := by rw [hall, hs2]; simp
    obtain ⟨r1, r2, r3⟩ := hL.2 _ _ _ ha2
    obtain ⟨o1, o2, o3, o4⟩ := hok e (by rw [ha2]; simp)
    have hlv : v.length < s.length := by rw [hs2]; simp; omega
    have hla : v.length < all.length := by rw [ha2]; simp; omega
    have hu2 : u2.length = n := by simpa using hu
    have b1 := both_0 (f := gl) (a := e.1) (b := e.2.1) (m := gm) o1 (by omega) (by omega) (by omega) hg.1 hg.2.1 (hg.2.2 _ o1 (by omega)) (hg.2.2 _ (by omega) o3)
    have b2 := both_0 (f := rch gl fr v) (a := e.1) (b := e.2.1) (m := hv) o1 (by omega) (by omega) (by omega) hm.1 (by have := hm.2.1; omega) (hm.2.2 _ o1 (by omega)) (hm.2.2 _ (by omega) (by omega))
    have nx : ∀ (hv2 : Int) (w2 : MV), Msk 8 hv2 (rch gl fr (e :: v)) → Wx g y_Ha_reached Z K 8 [vR l, vI fr, vI h, vI gm, vI hv2, vI ((v.length : Int) + 1), w2] [] σ := by
      intro hv2 w2 hm2
      have := ih u2 (e :: v) hv2 w2 hs2 hu2 hm2
      rw [show (((e :: v).length : Nat) : Int) = (v.length : Int) + 1 by simp] at this
      exact this
    refine x_iload (dat d_Ha_reached 6 rfl) rfl ?_
    refine x_aload_n (dat d_Ha_reached 7 rfl) rfl rfl ?_
    refine x_iload_n (dat d_Ha_reached 8 rfl) rfl rfl ?_
    refine x_inv (As := [vI h]) (dat d_Ha_reached 9 rfl) rfl c_Ha_endOf l_Ha_34 (by decide) (rv_ha (ha_k hh)) rfl rfl (Nat.le_of_ble_eq_true rfl) ?_
    refine sp_Ha_endOf hh h0 h1 ?_
    show Wx g y_Ha_reached Z K 15 [vR l, vI fr, vI h, vI gm, vI hv, vI (v.length : Int), w] [vI (σ (l + 4) h), vI (v.length : Int)] σ
    refine x_icmp_ge (tgt := 67) (dat d_Ha_reached 10 rfl) (by decide) (fun c_15 => (by omega)) (fun c_15 => ?_)
    refine x_iconst (dat d_Ha_reached 11 rfl) (by decide) ?_
    refine x_aload_n (dat d_Ha_reached 12 rfl) rfl rfl ?_
    refine x_getr (r := l + 1) (dat d_Ha_reached 13 rfl) rfl f_Ha_11 (ha_or_0 hh) ?_
    refine x_iload (dat d_Ha_reached 14 rfl) rfl ?_
    refine x_iald (n := 672) (v := e.1) (dat d_Ha_reached 15 rfl) (ha_ai_1 hh) (by omega) (by omega) (r1) ?_
    refine x_ishl (v := ishl 1 e.1) (dat d_Ha_reached 16 rfl) rfl ?_
    refine x_iconst (dat d_Ha_reached 17 rfl) (by decide) ?_
    refine x_aload_n (dat d_Ha_reached 18 rfl) rfl rfl ?_
    refine x_getr (r := l + 2) (dat d_Ha_reached 19 rfl) rfl f_Ha_15 (ha_or_1 hh) ?_
    refine x_iload (dat d_Ha_reached 20 rfl) rfl ?_
    refine x_iald (n := 672) (v := e.2.1) (dat d_Ha_reached 21 rfl) (ha_ai_2 hh) (by omega) (by omega) (r2) ?_
    refine x_ishl (v := ishl 1 e.2.1) (dat d_Ha_reached 22 rfl) rfl ?_
    refine x_ior (v := ior (ishl 1 e.1) (ishl 1 e.2.1)) (dat d_Ha_reached 23 rfl) rfl ?_
    refine x_istore (L' := [vR l, vI fr, vI h, vI gm, vI hv, vI (v.length : Int), vI (ior (ishl 1 e.1) (ishl 1 e.2.1))]) (dat d_Ha_reached 24 rfl) (by decide) rfl rfl ?_
    refine x_iload (dat d_Ha_reached 25 rfl) rfl ?_
    refine x_iload_n (dat d_Ha_reached 26 rfl) rfl rfl ?_
    refine x_iand (v := iand (ior (ishl 1 e.1) (ishl 1 e.2.1)) gm) (dat d_Ha_reached 27 rfl) rfl ?_
    refine x_if_ne (tgt := 61) (dat d_Ha_reached 28 rfl) (by decide) (fun c_43 => ?_) (fun c_43 => ?_)
    · refine x_iinc (v' := (v.length : Int) + 1) (L' := [vR l, vI fr, vI h, vI gm, vI hv, vI ((v.length : Int) + 1), vI (ior (ishl 1 e.1) (ishl 1 e.2.1))]) (dat d_Ha_reached 37 rfl) rfl (by decide) rfl rfl (by omega) rfl ?_
      refine x_goto (tgt := 8) (dat d_Ha_reached 38 rfl) (by decide) ?_
      refine nx _ _ ?_
      unfold rch
      rw [List.foldr_cons]
      show Msk 8 _ (rchE gl e (rch gl fr v))
      unfold rchE
      first
        | (rw [if_neg (by intro q; first | exact c_43 (b1.mpr ⟨q.1, q.2.1⟩) | (have q2 := b2.mp c_51; rw [q2.1, q2.2] at q; simp at q))]
           exact hm)
        | (have q1 := b1.mp c_43
           rw [if_pos ⟨q1.1, q1.2, by
             cases q2 : rch gl fr v e.1
             · cases q3 : rch gl fr v e.2.1
               · exact absurd (b2.mpr ⟨q2, q3⟩) c_51
               · exact Or.inr rfl
             · exact Or.inl rfl⟩]
           exact hm.lor (by decide) (msk_two o1 (by omega) (by omega) (by omega)))
    · refine x_iload (dat d_Ha_reached 29 rfl) rfl ?_
      refine x_iload (dat d_Ha_reached 30 rfl) rfl ?_
      refine x_iand (v := iand (ior (ishl 1 e.1) (ishl 1 e.2.1)) hv) (dat d_Ha_reached 31 rfl) rfl ?_
      refine x_if_eq (tgt := 61) (dat d_Ha_reached 32 rfl) (by decide) (fun c_51 => ?_) (fun c_51 => ?_)
      · refine x_iinc (v' := (v.length : Int) + 1) (L' := [vR l, vI fr, vI h, vI gm, vI hv, vI ((v.length : Int) + 1), vI (ior (ishl 1 e.1) (ishl 1 e.2.1))]) (dat d_Ha_reached 37 rfl) rfl (by decide) rfl rfl (by omega) rfl ?_
        refine x_goto (tgt := 8) (dat d_Ha_reached 38 rfl) (by decide) ?_
        refine nx _ _ ?_
        unfold rch
        rw [List.foldr_cons]
        show Msk 8 _ (rchE gl e (rch gl fr v))
        unfold rchE
        first
          | (rw [if_neg (by intro q; first | exact c_43 (b1.mpr ⟨q.1, q.2.1⟩) | (have q2 := b2.mp c_51; rw [q2.1, q2.2] at q; simp at q))]
             exact hm)
          | (have q1 := b1.mp c_43
             rw [if_pos ⟨q1.1, q1.2, by
               cases q2 : rch gl fr v e.1
               · cases q3 : rch gl fr v e.2.1
                 · exact absurd (b2.mpr ⟨q2, q3⟩) c_51
                 · exact Or.inr rfl
               · exact Or.inl rfl⟩]
             exact hm.lor (by decide) (msk_two o1 (by omega) (by omega) (by omega)))
      · refine x_iload (dat d_Ha_reached 33 rfl) rfl ?_
        refine x_iload (dat d_Ha_reached 34 rfl) rfl ?_
        refine x_ior (v := ior hv (ior (ishl 1 e.1) (ishl 1 e.2.1))) (dat d_Ha_reached 35 rfl) rfl ?_
        refine x_istore (L' := [vR l, vI fr, vI h, vI gm, vI (ior hv (ior (ishl 1 e.1) (ishl 1 e.2.1))), vI (v.length : Int), vI (ior (ishl 1 e.1) (ishl 1 e.2.1))]) (dat d_Ha_reached 36 rfl) (by decide) rfl rfl ?_
        refine x_iinc (v' := (v.length : Int) + 1) (L' := [vR l, vI fr, vI h, vI gm, vI (ior hv (ior (ishl 1 e.1) (ishl 1 e.2.1))), vI ((v.length : Int) + 1), vI (ior (ishl 1 e.1) (ishl 1 e.2.1))]) (dat d_Ha_reached 37 rfl) rfl (by decide) rfl rfl (by omega) rfl ?_
        refine x_goto (tgt := 8) (dat d_Ha_reached 38 rfl) (by decide) ?_
        refine nx _ _ ?_
        unfold rch
        rw [List.foldr_cons]
        show Msk 8 _ (rchE gl e (rch gl fr v))
        unfold rchE
        first
          | (rw [if_neg (by intro q; first | exact c_43 (b1.mpr ⟨q.1, q.2.1⟩) | (have q2 := b2.mp c_51; rw [q2.1, q2.2] at q; simp at q))]
             exact hm)
          | (have q1 := b1.mp c_43
             rw [if_pos ⟨q1.1, q1.2, by
               cases q2 : rch gl fr v e.1
               · cases q3 : rch gl fr v e.2.1
                 · exact absurd (b2.mpr ⟨q2, q3⟩) c_51
                 · exact Or.inr rfl
               · exact Or.inl rfl⟩]
             exact hm.lor (by decide) (msk_two o1 (by omega) (by omega) (by omega)))
theorem sp_Ha_reached {g : xG} {K : Option MV → xS → Prop} {σ : xS} {l : Nat} {P h gm fr : Int} {gl : Int → Bool} {all t s : List Ev} (hh : IsHa l) (hP : P ≤ 8) (h0 : 0 ≤ h) (h1 : h < 24) (hg : Mss P gm gl) (hL : LogR σ l all) (hall : all = t ++ s) (hlen : all.length ≤ 672) (hend : σ (l + 4) h = s.length) (hok : EvsOk P all) (hf0 : 0 ≤ fr) (hf1 : fr < P)
    (k : ∀ r : Int, Msk 8 r (rch gl fr s) → K (some (vI r)) σ) : Mt g y_Ha_reached [vR l, vI fr, vI h, vI gm] σ K := by
  refine x_enter 3 rfl rfl rfl (fun Z => ?_)
  show Wx g y_Ha_reached Z K 0 [vR l, vI fr, vI h, vI gm, vU, vU, vU] [] σ
  refine x_iconst (dat d_Ha_reached 0 rfl) (by decide) ?_
  refine x_iload_n (dat d_Ha_reached 1 rfl) rfl rfl ?_
  refine x_ishl (v := ishl 1 fr) (dat d_Ha_reached 2 rfl) rfl ?_
  refine x_istore (L' := [vR l, vI fr, vI h, vI gm, vI (ishl 1 fr), vU, vU]) (dat d_Ha_reached 3 rfl) (by decide) rfl rfl ?_
  refine x_iconst (dat d_Ha_reached 4 rfl) (by decide) ?_
  refine x_istore (L' := [vR l, vI fr, vI h, vI gm, vI (ishl 1 fr), vI 0, vU]) (dat d_Ha_reached 5 rfl) (by decide) rfl rfl ?_
  exact lp_Ha_reached hh hP h0 h1 hg hL hall hlen hend hok k s.length s [] _ _ (by simp) rfl (Msk.one (n := 8) (by decide) hf0 (by omega))
