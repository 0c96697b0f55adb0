/-! what the answers say, in numbers -/
theorem FirstH.cs {bad : Nat → Prop} {N : Nat} {v : Int} (h : FirstH bad N v) : (v = -1 ∧ ∀ i : Nat, i < N → ¬ bad i) ∨ ((0 ≤ v ∧ v < N) ∧ bad v.toNat) := by
  rcases h with h | ⟨n, h1, h2, h3, -⟩
  · exact Or.inl h
  · exact Or.inr ⟨⟨by omega, by omega⟩, by rw [h2, Int.toNat_natCast]; exact h3⟩
theorem pw_256 {n : Nat} (h : n ≤ 8) : 1 ≤ 2 ^ n ∧ 2 ^ n ≤ 256 := ⟨Nat.one_le_two_pow, Nat.pow_le_pow_right (n := 2) (by decide) h⟩
theorem an_gl {r : Int → Int} {v : Int} (h6 : r 6 ≤ 8) (h : glvA r v) : (v = -1 ∨ (0 ≤ v ∧ v < 256)) ∧ (0 ≤ v → glF r v.toNat = true) ∧ (v = 0 ↔ stv (cfg r) = 0) := by
  unfold glvA at h
  subst h
  have hp := pw_256 (n := (r 6).toNat) (by omega)
  have hin := fewB_in (glF r) (2 ^ (r 6).toNat)
  refine ⟨by omega, fun h0 => fewB_yes _ (by omega), fun h0 => ?_, fun h0 => ?_⟩
  · have h1 := fewB_yes (ok := glF r) (2 ^ (r 6).toNat) (by omega)
    rw [h0, show Int.toNat 0 = 0 from rfl, gl_0] at h1
    exact of_decide_eq_true h1
  · exact fewB_0 (by rw [gl_0]; exact decide_eq_true h0) _ (by omega) hp.1
theorem an_pe {r : Int → Int} {v : Int} (h7 : r 7 ≤ 8) (h : peaA r v) : (v = -1 ∨ (0 ≤ v ∧ v < 256)) ∧ (0 ≤ v → qrF r v.toNat = true) ∧ (v < 0 → 2 ≤ (pts (cfg r) (r 6).toNat).2) := by
  unfold peaA at h
  subst h
  have hp := pw_256 (n := (r 7).toNat) (by omega)
  have hin := fewB_in (qrF r) (2 ^ (r 7).toNat)
  refine ⟨by omega, fun h0 => fewB_yes _ (by omega), fun h0 => ?_⟩
  have h1 := fewB_no (ok := qrF r) (2 ^ (r 7).toNat) (by omega) 0 (by omega)
  have h2 : ¬ (pts (mOp (cfg r) (opT r ((0 : Nat) : Int))) (r 6).toNat).2 ≤ 1 := of_decide_eq_false h1
  have e : mOp (cfg r) (opT r ((0 : Nat) : Int)) = cfg r := rfl
  rw [e] at h2
  omega
theorem an_ad {r : Int → Int} {p v : Int} (hC : CfOk (cfg r)) (h6 : cS (cfg r) 6 = -1) (p0 : 0 ≤ p ∧ p < r 6) (h : aidA r p v) : (v = -1 ∨ (0 ≤ v ∧ v ≤ 30)) ∧ (0 ≤ v → stv (mLoaf (cfg r) p 0 v) = 0) ∧ (v = 0 → stv (cfg r) = 0) := by
  unfold aidA at h
  rw [if_neg (fun w => w p0)] at h
  have hc := h.cs
  refine ⟨by omega, fun h0 => ?_, fun h0 => ?_⟩
  · rcases hc with hc | ⟨hc1, hc2⟩
    · omega
    · rw [show ((v.toNat : Nat) : Int) = v by omega] at hc2
      exact hc2
  · rcases hc with hc | ⟨hc1, hc2⟩
    · omega
    · rw [h0] at hc2
      rw [← loaf_0 (cfg r) hC h6 p]
      exact hc2
theorem an_or {r : Int → Int} {v : Int} (h : orrA r 3 v) : v = -1 ∨ v < stv (cfg r) := by
  unfold orrA at h
  split at h
  · exact Or.inl h
  · rename_i w
    rw [if_neg (by decide), if_neg (by decide), if_neg (by decide)] at h
    have := (ordN_lt (ordF r) (stv (cfg r)) ((r 3).toNat * (r 6).toNat * (r 0 * r 1).toNat)).2 (fun z => w (Or.inr z))
    right
    omega
theorem an_fd {r : Int → Int} {v : Int} (h2 : 0 ≤ r 2 ∧ r 2 ≤ 3) (h : fdsA r 1 v) : v ≤ stv (cfg r) := by
  unfold fdsA at h
  rw [if_neg (by decide)] at h
  have h1 := (scanMin_le (lawF r) 4 (i := (r 2).toNat) (by omega)).2
  have e : lawF r (r 2).toNat = stv (cfg r) := by
    unfold lawF
    rw [show (((r 2).toNat : Nat) : Int) = cS (cfg r) 2 from by show _ = r 2; omega, mS_self]
  omega
theorem an_ms {r : Int → Int} {v : Int} (h : msrA r 1 v) : 0 ≤ v := by
  unfold msrA at h
  rw [if_neg (by decide), if_pos rfl] at h
  rw [h]
  exact scanTop_0 _ _
theorem an_hu {r : Int → Int} {v : Int} (hC : CfOk (cfg r)) (h : hngA r 0 v) : 0 ≤ v := by
  unfold hngA at h
  rw [if_pos rfl] at h
  obtain ⟨w, h1, h2⟩ := h
  have h9 : stv (mS (cfg r) 3 (9 - ((9 : Nat) : Int))) = 0 := by
    have e : (9 : Int) - ((9 : Nat) : Int) = 0 := by decide
    rw [e]
    exact stv_n0 (hC.need (by decide) (by decide)) rfl
  rcases h1.cs with ⟨h3, h4⟩ | ⟨h3, -⟩
  · exact absurd h9 (h4 9 (by decide))
  · rw [h2, if_neg (by omega)]
    omega
theorem an_r0 {r : Int → Int} {v : Int} (h : runA r 0 v) : v = stv (cfg r) := by
  unfold runA at h
  rw [if_pos rfl] at h
  exact h
theorem an_r7 {r : Int → Int} {v : Int} (h : runA r 7 v) : v = (pts (cfg r) (r 6).toNat).2 := by
  unfold runA at h
  rw [if_neg (by decide), if_neg (by decide), if_neg (by decide), if_neg (by decide), if_neg (by decide), if_neg (by decide), if_neg (by decide), if_pos rfl] at h
  exact h
theorem an_at1 {r : Int → Int} {h p v : Int} (hh : 0 ≤ h ∧ h < r 3) (hp : 0 ≤ p ∧ p < r 6) (hv : atA r h p 1 v) : v = (rst (cfg r) (h.toNat + 1)).1 p := by
  unfold atA at hv
  rw [if_neg (fun w => w ⟨hh, hp⟩), if_neg (by decide), if_pos rfl] at hv
  exact hv
theorem runT_1 {r : Int → Int} (hT : TownOk r) : 1 ≤ runT r := by
  have h6 := hT.2.2.2.2.2.2.1
  exact (prN_bd hT (r 6).toNat (by omega)).1
theorem an_w0 {r b : Int → Int} {v : Int} (hT : TownOk r) (hb : b 0 = 0) (h : wldA r b 0 v) : v = -1 ∨ (runT r ≤ 1024 ∧ v = runT r) := by
  unfold wldA at h
  split at h
  · exact Or.inl h
  · rename_i w
    rw [if_pos rfl, wct_all hb] at h
    have := runT_1 hT
    exact Or.inr ⟨by omega, by omega⟩
theorem an_w1 {r b : Int → Int} {v : Int} (hr : runT r ≤ 1024) (h : wldA r b 1 v) : v = runT r := by
  unfold wldA at h
  rw [if_neg (by omega), if_neg (by decide), if_pos rfl] at h
  exact h
theorem an_w23 {r b : Int → Int} {v w : Int} (hT : TownOk r) (hb : b 0 = 0) (hr : runT r ≤ 1024) (h2 : wldA r b 2 v) (h3 : wldA r b 3 w) : iand v (ixor w (-1)) = 0 := by
  have h1 := runT_1 hT
  unfold wldA at h2 h3
  rw [if_neg (by omega), if_neg (by decide), if_neg (by decide), wct_all hb, if_neg (by omega), if_pos rfl] at h2
  rw [if_neg (by omega), if_neg (by decide), if_neg (by decide), wct_all hb, if_neg (by omega), if_neg (by decide)] at h3
  have hm := Msk.andn (n := 8) (by decide) h2 h3
  refine hm.iszero.mpr (fun p p0 p1 => ?_)
  cases hd : wDo r b (runT r).toNat p with
  | false => rfl
  | true => rw [wDo_Da hb (runT r).toNat (by omega) hd]; rfl
theorem an_se {r b : Int → Int} {v : Int} (hT : TownOk r) (hb : b 0 = 0) (hr : runT r ≤ 1024) (h : seaA r b 2 v) : v ≤ runT r := by
  have h1 := runT_1 hT
  unfold seaA at h
  split at h
  · omega
  · rw [if_neg (by decide), if_neg (by decide)] at h
    rw [h]
    have hB : ∀ i : Nat, gpF (wHv r b (runT r).toNat) (r 6) i ≤ runT r := fun i => mxG_ub (by omega) (fun x => by
      have := (wHv_bd r b (runT r).toNat ((i : Int) / r 6) ((i : Int) % r 6) x).2
      omega) 265
    exact scanMin_ub (by omega) hB _
theorem an_p0 {r b : Int → Int} {p h v : Int} (hT : TownOk r) (hb : b 0 = 0) (hr : runT r ≤ 1024) (hh : 0 ≤ h ∧ h < r 3) (hp : 0 ≤ p ∧ p < r 6) (hv : pocA r b p h 0 v) : v ≤ (rst (cfg r) (h.toNat + 1)).1 p := by
  have h1 := runT_1 hT
  have hw := wHv_1 (r := r) (b := b) hb hh.2 hp.2 (runT r).toNat (by omega)
  have h264 := wC_264 hT 0 (h.toNat + 1) p hp.1 hp.2
  rw [wC_0] at h264
  have hnn := (rst_bd (cfg_ok hT) (h.toNat + 1) hp.1 (show p < cS (cfg r) 0 from hp.2)).1
  unfold pocA at hv
  rw [if_neg (by omega), if_pos rfl] at hv
  generalize hx : (rst (cfg r) (h.toNat + 1)).1 p = x at *
  rcases hv with ⟨q1, q2⟩ | ⟨n, q1, q2, q3, q4⟩
  · omega
  · by_cases z : x.toNat < n
    · have this : ¬ 0 < wHv r b (runT r).toNat h p ((x.toNat : Nat) : Int) := q4 x.toNat z
      rw [show ((x.toNat : Nat) : Int) = x by omega] at this
      omega
    · omega
theorem an_p1 {r b : Int → Int} {p h v : Int} (hT : TownOk r) (hb : b 0 = 0) (hr : runT r ≤ 1024) (hh : 0 ≤ h ∧ h < r 3) (hp : 0 ≤ p ∧ p < r 6) (hv : pocA r b p h 1 v) : (rst (cfg r) (h.toNat + 1)).1 p ≤ v := by
  have h1 := runT_1 hT
  have hw := wHv_1 (r := r) (b := b) hb hh.2 hp.2 (runT r).toNat (by omega)
  have h264 := wC_264 hT 0 (h.toNat + 1) p hp.1 hp.2
  rw [wC_0] at h264
  have hnn := (rst_bd (cfg_ok hT) (h.toNat + 1) hp.1 (show p < cS (cfg r) 0 from hp.2)).1
  unfold pocA at hv
  rw [if_neg (by omega), if_neg (by decide)] at hv
  generalize hx : (rst (cfg r) (h.toNat + 1)).1 p = x at *
  obtain ⟨w, hv1, hv2⟩ := hv
  have hbad : 0 < wHv r b (runT r).toNat h p (264 - ((264 - x).toNat : Int)) := by
    rw [show 264 - ((264 - x).toNat : Int) = x by omega]
    omega
  rcases hv1 with ⟨q1, q2⟩ | ⟨n, q1, q2, q3, q4⟩
  · exact absurd hbad (q2 (264 - x).toNat (by omega))
  · rw [hv2, if_neg (by omega)]
    by_cases z : (264 - x).toNat < n
    · exact absurd hbad (q4 _ z)
    · omega
/-! what stands between two calls of the law -/
def WS (σ : xS) (A : Int → Int) (im : Nat → Int → Int) : Prop := SbR σ A im ∧ (σ 174 5 = 0 ∧ σ 174 6 = 0) ∧ A 2 = 0
theorem WS.pts {σ : xS} {A : Int → Int} {im : Nat → Int → Int} (h : WS σ A im) : PtS σ A im [] := ⟨fun x hx => absurd hx List.not_mem_nil, h.2.1, fun i _ hi => absurd hi (Nat.not_lt_zero i), A, h.1, fun i _ => rfl, h.2.2, fun i hi => absurd hi (Nat.not_lt_zero i)⟩
theorem PtS.ws {σ : xS} {A : Int → Int} {im : Nat → Int → Int} (h : PtS σ A im []) : ∃ A2, WS σ A2 im ∧ Stay A2 A := by
  obtain ⟨-, h2, -, a', hS, hst, h4, -⟩ := h
  exact ⟨a', ⟨hS, h2, h4⟩, hst⟩
theorem tw_st {A A2 : Int → Int} (h : Stay A2 A) {n : Int} (n0 : 0 ≤ n) : tw A2 n = tw A n := tw_eq (fun i i0 i1 => h _ (by omega))
theorem bk_st {A A2 : Int → Int} (h : Stay A2 A) {n : Int} (n0 : 0 ≤ n) : bk A2 n = bk A n := bk_eq (fun i i0 i1 => h _ (by omega))
/-- the town 0 is t's, with the row r; the book 0 has no notes -/
def LwS (σ : xS) (A t r : Int → Int) (im : Nat → Int → Int) : Prop := WS σ A im ∧ (∀ i : Int, 0 ≤ i → i < 180 → σ 175 i = t i) ∧ (tw A 0 = r ∧ RwQ t (t 7).toNat r) ∧ (1 ≤ A 0 ∧ A 1 = 1) ∧ bk A 0 0 = 0
theorem tw_ok {σ : xS} {A : Int → Int} {im : Nat → Int → Int} (h : SbR σ A im) {n : Int} (n0 : 0 ≤ n) (n1 : n < A 0) : TownOk (tw A n) := by
  have h1 := (h.1.2.2.2.1 n.toNat (by omega)).1
  rw [show ((n.toNat : Nat) : Int) = n by omega] at h1
  exact TownOk.congr h1 (fun i i0 i1 => tw_at i0 i1)
theorem LwS.same {σ σ' : xS} {A t r : Int → Int} {im : Nat → Int → Int} (h : LwS σ A t r im) (e : ∀ o : Nat, o ≤ 175 → σ' o = σ o) : LwS σ' A t r im :=
  ⟨⟨h.1.1.same (fun o ho => e o (by omega)) (e 171 (by decide)) (e 173 (by decide)), by rw [e 174 (by decide)]; exact h.1.2.1, h.1.2.2⟩, fun i i0 i1 => by rw [e 175 (by decide)]; exact h.2.1 i i0 i1, h.2.2⟩
theorem LwS.tr {σ σ' : xS} {A t r : Int → Int} {im : Nat → Int → Int} (h : LwS σ A t r im) (e : ∀ o : Nat, o < 138 ∨ 170 < o → σ' o = σ o) : LwS σ' A t r im :=
  ⟨⟨h.1.1.tr e, by rw [e 174 (by omega)]; exact h.1.2.1, h.1.2.2⟩, fun i i0 i1 => by rw [e 175 (by omega)]; exact h.2.1 i i0 i1, h.2.2⟩
theorem LwS.wo {σ σ' : xS} {A t r : Int → Int} {im : Nat → Int → Int} (h : LwS σ A t r im) (hS : SbR σ' A im) (e : SbF σ' σ) : LwS σ' A t r im :=
  ⟨⟨hS, by rw [e 174 (by omega)]; exact h.1.2.1, h.1.2.2⟩, fun i i0 i1 => by rw [e 175 (by omega)]; exact h.2.1 i i0 i1, h.2.2⟩
/-- a further town told beside it -/
theorem LwS.nw {σ σ' : xS} {A A' t r t1 : Int → Int} {im : Nat → Int → Int} (h : LwS σ A t r im) (p : PtS σ' A' im []) (nw : NwT A A' 1 t1) (e : σ' 175 = σ 175) : ∃ A2, LwS σ' A2 t r im ∧ A2 0 = 2 ∧ RwQ t1 (t1 7).toNat (tw A2 1) := by
  obtain ⟨A2, w, st⟩ := p.ws
  obtain ⟨⟨n1, n2⟩, n3, n4, n5⟩ := nw
  have h2 : A 0 ≤ 2 := h.1.1.1.1.1.2
  have e0 : A2 0 = 2 := by
    rw [st 0 (by omega), n1]
    have := h.2.2.2.1.1
    split <;> omega
  refine ⟨A2, ⟨w, fun i i0 i1 => by rw [e]; exact h.2.1 i i0 i1, ⟨?_, h.2.2.1.2⟩, ⟨by omega, by rw [st 1 (by omega), n2]; exact h.2.2.2.1.2⟩, ?_⟩, e0, ?_⟩
  · rw [tw_st st (by decide), n4 0 (by decide) (by decide) (by decide)]
    exact h.2.2.1.1
  · rw [bk_st st (by decide), n5 0 (by decide)]
    exact h.2.2.2.2
  · rw [tw_st st (by decide)]
    exact n3
theorem LwS.ok {σ : xS} {A t r : Int → Int} {im : Nat → Int → Int} (h : LwS σ A t r im) : TownOk r := by
  rw [← h.2.2.1.1]
  exact tw_ok h.1.1 (by decide) (by have := h.2.2.2.1.1; omega)
theorem LwS.at0 {σ : xS} {A t r : Int → Int} {im : Nat → Int → Int} (h : LwS σ A t r im) {d v : Int} {Q : (Int → Int) → Int → Prop} (hv : atT A 0 d Q v) : Q r v := by
  have := hv.2 (by decide) (by have := h.2.2.2.1.1; omega)
  rw [h.2.2.1.1] at this
  exact this
theorem LwS.bt0 {σ : xS} {A t r : Int → Int} {im : Nat → Int → Int} (h : LwS σ A t r im) {d v : Int} {Q : (Int → Int) → (Int → Int) → Int → Prop} (hv : atB A 0 0 d Q v) : Q r (bk A 0) v := by
  have := hv.2 ⟨⟨by decide, by have := h.2.2.2.1.1; omega⟩, by decide, by have := h.2.2.2.1.2; omega⟩
  rw [h.2.2.1.1] at this
  exact this
theorem st_rg {t : Int → Int} {p v : Int} (hT : TRg t) (p0 : 0 ≤ p ∧ p < t 6) (hv : 0 ≤ v ∧ v ≤ 30) : TRg (st1 t (12 + 4 * p) v) := by
  have e : ∀ i : Int, i ≠ 12 + 4 * p → st1 t (12 + 4 * p) v i = t i := fun i hi => st1_n hi
  obtain ⟨⟨t0, t1, t2, t3, t4, t5, t6, t7⟩, hP, hQ⟩ := hT
  refine ⟨?_, fun q hq => ?_, fun k hk => ?_⟩
  · rw [e 0 (by omega), e 1 (by omega), e 2 (by omega), e 3 (by omega), e 4 (by omega), e 5 (by omega), e 6 (by omega), e 7 (by omega)]
    exact ⟨t0, t1, t2, t3, t4, t5, t6, t7⟩
  · rw [e 6 (by omega)] at hq
    have h := hP q hq
    rw [e (10 + 4 * q) (by omega), e (11 + 4 * q) (by omega), e (13 + 4 * q) (by omega), e (50 + q) (by omega)]
    refine ⟨h.1, h.2.1, ?_, h.2.2.2.1, h.2.2.2.2.1, fun k hk => by rw [e (60 + 12 * q + k) (by omega)]; exact h.2.2.2.2.2 k hk⟩
    by_cases z : (q : Int) = p
    · rw [z, st1_s]; exact hv
    · rw [e _ (by omega)]; exact h.2.2.1
  · rw [e 7 (by omega)] at hk
    rw [e 6 (by omega), e (160 + 2 * k) (by omega), e (161 + 2 * k) (by omega)]
    exact hQ k hk
theorem nfT_1 {A : Int → Int} (h : A 0 = 2) : nfT A 0 1 = 1 := by
  unfold nfT
  rw [if_neg (by omega), if_neg (by omega), if_pos (by omega)]
theorem nfT_m {A : Int → Int} {d : Int} (h : A 0 = d) (d1 : d < 2) : nfT A 0 (-1) = d := by
  unfold nfT
  rw [if_neg (by omega), if_pos rfl, if_pos (by omega)]
  exact h
theorem atT_in {A : Int → Int} {n d r : Int} {Q : (Int → Int) → Int → Prop} (h : atT A n d Q r) (n0 : 0 ≤ n) (n1 : n < A 0) : Q (tw A n) r := h.2 n0 n1
theorem atB_in {A : Int → Int} {n b d r : Int} {Q : (Int → Int) → (Int → Int) → Int → Prop} (h : atB A n b d Q r) (n0 : 0 ≤ n ∧ n < A 0) (b0 : 0 ≤ b ∧ b < A 1) : Q (tw A n) (bk A b) r := h.2 ⟨n0, b0⟩
