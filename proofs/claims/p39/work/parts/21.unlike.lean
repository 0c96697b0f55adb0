/-! a plan made unlike -/
def mS (C : Cf) (i v : Int) : Cf := (fun j => if j = i then v else cS C j, C.2)
def mGl (C : Cf) (f : Int → Bool) : Cf := (C.1, f, C.2.2)
def mOp (C : Cf) (f : Int → Int → Bool) : Cf := (C.1, C.2.1, C.2.2.1, f, C.2.2.2.2)
def mWh (C : Cf) (f : Int → Int → Int) : Cf := (C.1, C.2.1, C.2.2.1, C.2.2.2.1, f, C.2.2.2.2.2)
def mSt (C : Cf) (f : Int → Int) : Cf := (C.1, C.2.1, C.2.2.1, C.2.2.2.1, C.2.2.2.2.1, f)
def whSend (C : Cf) (h p c : Int) : Int → Int → Int := fun h2 p2 => if h2 = h ∧ p2 = p then c else cWh C h2 p2
def whFeast (C : Cf) (h c : Int) : Int → Int → Int := fun h2 p2 => if h2 = h then c else cWh C h2 p2
def whSwap (C : Cf) (a b : Int) : Int → Int → Int := fun h2 p2 => if p2 = a then cWh C h2 b else if p2 = b then cWh C h2 a else cWh C h2 p2
def mLoaf (C : Cf) (p h n : Int) : Cf := mS (mS (mS C 5 p) 6 h) 7 n
theorem PlanR.send {σ : xS} {C : Cf} {h p c : Int} (H : PlanR σ C) (h0 : 0 ≤ h) (p0 : 0 ≤ p) (p1 : p < 8) (hP : cS C 0 ≤ 8) : PlanR (up σ 142 (8 * h + p) c) (mWh C (whSend C h p c)) := by
  obtain ⟨b0, b1, b2, b3, b4, b5, b6, b7, b8, b9, b10, b11, b12⟩ := H
  refine ⟨by rw [up_nk (by decide)]; exact b0, by rw [up_nk (by decide)]; exact b1, by rw [up_nk (by decide)]; exact b2, by rw [up_nk (by decide)]; exact b3, by rw [up_nk (by decide)]; exact b4, by rw [up_nk (by decide)]; exact b5, by rw [up_nk (by decide)]; exact b6, by rw [up_nk (by decide)]; exact b7, by rw [up_nk (by decide)]; exact b8, fun q q0 q1 => by rw [up_nk (by decide)]; exact b9 q q0 q1, fun a b a0 ab b1 => by rw [up_ne (by decide)]; exact b10 a b a0 ab b1, fun a a0 a1 => by rw [up_ne (by decide)]; exact b11 a a0 a1, fun h2 p2 r0 r1 r2 r3 => ?_⟩
  show up σ 142 (8 * h + p) c 142 (8 * h2 + p2) = whSend C h p c h2 p2
  unfold whSend
  have r4 : p2 < cS C 0 := r3
  by_cases e : h2 = h ∧ p2 = p
  · rw [if_pos e, e.1, e.2, up_s]
  · rw [if_neg e, up_ni (by omega)]
    exact b12 h2 p2 r0 r1 r2 r3
theorem PlanR.congr {σ : xS} {C C' : Cf} (H : PlanR σ C) (e0 : ∀ i : Int, cS C' i = cS C i) (eg : ∀ p : Int, 0 ≤ p → p < cS C 0 → cGl C' p = cGl C p) (er : ∀ a b : Int, 0 ≤ a → a < b → b < cS C 0 → cGr C' a b = cGr C a b) (eo : ∀ a b : Int, 0 ≤ a → a < b → b < cS C 0 → cOp C' a b = cOp C a b) (ew : ∀ h p : Int, 0 ≤ h → h < cS C 1 → 0 ≤ p → p < cS C 0 → cWh C' h p = cWh C h p) (es : ∀ p : Int, 0 ≤ p → p < cS C 0 → cSt C' p = cSt C p) : PlanR σ C' := by
  obtain ⟨b0, b1, b2, b3, b4, b5, b6, b7, b8, b9, b10, b11, b12⟩ := H
  unfold PlanR
  simp only [e0]
  exact ⟨b0, b1, b2, b3, b4, ⟨b5.1, b5.2.1, fun p p0 p1 => by rw [eg p p0 p1]; exact b5.2.2 p p0 p1⟩, b6, b7, b8, fun p p0 p1 => by rw [es p p0 p1]; exact b9 p p0 p1, fun a b a0 ab b1 => by rw [er a b a0 ab b1]; exact b10 a b a0 ab b1, fun a a0 a1 => ⟨(b11 a a0 a1).1, (b11 a a0 a1).2.1, fun b ab b1 => by rw [eo a b a0 ab b1]; exact (b11 a a0 a1).2.2 b ab b1⟩, fun h p h0 h1 p0 p1 => by rw [ew h p h0 h1 p0 p1]; exact b12 h p h0 h1 p0 p1⟩
theorem sp_Pl_send {g : xG} {K : Option MV → xS → Prop} {σ : xS} {h p c : Int} (h0 : 0 ≤ h) (h1 : h < 24) (p0 : 0 ≤ p) (p1 : p < 8) (k : K none (up σ 142 (8 * h + p) c)) : Mt g y_Pl_send [vR 138, vI h, vI p, vI c] σ K := by
  refine x_enter 1 rfl rfl rfl (fun Z => ?_)
  show Wx g y_Pl_send Z K 0 [vR 138, vI h, vI p, vI c, vU] [] σ
  refine x_iload_n (dat d_Pl_send 0 rfl) rfl rfl ?_
  refine x_bipush (dat d_Pl_send 1 rfl) (by decide) (by decide) ?_
  refine x_imul (v := 8 * h) (dat d_Pl_send 2 rfl) (by omega) (by omega) ?_
  refine x_iload_n (dat d_Pl_send 3 rfl) rfl rfl ?_
  refine x_iadd (v := (8 * h) + p) (dat d_Pl_send 4 rfl) rfl (by omega) ?_
  refine x_istore (L' := [vR 138, vI h, vI p, vI c, vI ((8 * h) + p)]) (dat d_Pl_send 5 rfl) (by decide) rfl rfl ?_
  refine x_iload (dat d_Pl_send 6 rfl) rfl ?_
  refine x_if_lt (tgt := 31) (dat d_Pl_send 7 rfl) (by decide) (fun c_10 => (by omega)) (fun c_10 => ?_)
  refine x_iload (dat d_Pl_send 8 rfl) rfl ?_
  refine x_aload_n (dat d_Pl_send 9 rfl) rfl rfl ?_
  refine x_getr (r := 142) (dat d_Pl_send 10 rfl) rfl f_Pl_21 (or_mk (by decide +kernel)) ?_
  refine x_alen (n := 192) (t := 20) (dat d_Pl_send 11 rfl) (ai_mk (by decide +kernel)) (by decide) ?_
  refine x_icmp_ge (tgt := 31) (dat d_Pl_send 12 rfl) (by decide) (fun c_20 => (by omega)) (fun c_20 => ?_)
  refine x_aload_n (dat d_Pl_send 13 rfl) rfl rfl ?_
  refine x_getr (r := 142) (dat d_Pl_send 14 rfl) rfl f_Pl_21 (or_mk (by decide +kernel)) ?_
  refine x_iload (dat d_Pl_send 15 rfl) rfl ?_
  refine x_iload_n (dat d_Pl_send 16 rfl) rfl rfl ?_
  refine x_iast (n := 192) (dat d_Pl_send 17 rfl) (ai_mk (by decide +kernel)) (by omega) (by omega) ?_
  refine x_ret (dat d_Pl_send 18 rfl) rfl ?_
  exact k
theorem PlanR.sc {σ σ' : xS} {C C' : Cf} (H : PlanR σ C) (e1 : C'.2 = C.2) (e2 : cS C' 0 = cS C 0 ∧ cS C' 1 = cS C 1) (s0 : σ' 138 0 = cS C' 0) (s1 : σ' 138 1 = cS C' 1) (s2 : σ' 138 2 = cS C' 2) (s3 : σ' 138 3 = cS C' 3) (s4 : σ' 138 4 = cS C' 4) (s5 : σ' 138 5 = σ 138 5) (s6 : σ' 138 6 = cS C' 5) (s7 : σ' 138 7 = cS C' 6) (s8 : σ' 138 8 = cS C' 7) (hf : ∀ o : Nat, o ≠ 138 → σ' o = σ o) : PlanR σ' C' := by
  obtain ⟨b0, b1, b2, b3, b4, b5, b6, b7, b8, b9, b10, b11, b12⟩ := H
  unfold PlanR
  rw [hf 139 (by decide), hf 140 (by decide), hf 141 (by decide), hf 142 (by decide), s5, e2.1, e2.2]
  have g1 : cGl C' = cGl C := by unfold cGl; rw [e1]
  have g2 : cGr C' = cGr C := by unfold cGr; rw [e1]
  have g3 : cOp C' = cOp C := by unfold cOp; rw [e1]
  have g4 : cWh C' = cWh C := by unfold cWh; rw [e1]
  have g5 : cSt C' = cSt C := by unfold cSt; rw [e1]
  rw [g1, g2, g3, g4, g5]
  exact ⟨by rw [s0, e2.1], by rw [s1, e2.2], s2, s3, s4, b5, s6, s7, s8, b9, b10, b11, b12⟩
theorem sp_Pl_letIn {g : xG} {K : Option MV → xS → Prop} {σ : xS} {C : Cf} {p h n : Int} (hp : PlanR σ C) (k : ∀ σ' : xS, PlanR σ' (mLoaf C p h n) → (∀ o : Nat, o ≠ 138 → σ' o = σ o) → K none σ') : Mt g y_Pl_letIn [vR 138, vI p, vI h, vI n] σ K := by
  have hp' := hp
  obtain ⟨b0, b1, b2, b3, b4, -⟩ := hp'
  refine x_enter 0 rfl rfl rfl (fun Z => ?_)
  show Wx g y_Pl_letIn Z K 0 [vR 138, vI p, vI h, vI n] [] σ
  refine x_aload_n (dat d_Pl_letIn 0 rfl) rfl rfl ?_
  refine x_iload_n (dat d_Pl_letIn 1 rfl) rfl rfl ?_
  refine x_puti (ji := 6) (x := p) (dat d_Pl_letIn 2 rfl) rfl f_Pl_56w (oi_mk (by decide +kernel)) (fun h => absurd h (by decide)) (by decide) ?_
  refine x_aload_n (dat d_Pl_letIn 3 rfl) rfl rfl ?_
  refine x_iload_n (dat d_Pl_letIn 4 rfl) rfl rfl ?_
  refine x_puti (ji := 7) (x := h) (dat d_Pl_letIn 5 rfl) rfl f_Pl_59w (oi_mk (by decide +kernel)) (fun h => absurd h (by decide)) (by decide) ?_
  refine x_aload_n (dat d_Pl_letIn 6 rfl) rfl rfl ?_
  refine x_iload_n (dat d_Pl_letIn 7 rfl) rfl rfl ?_
  refine x_puti (ji := 8) (x := n) (dat d_Pl_letIn 8 rfl) rfl f_Pl_62w (oi_mk (by decide +kernel)) (fun h => absurd h (by decide)) (by decide) ?_
  refine x_ret (dat d_Pl_letIn 9 rfl) rfl ?_
  refine k _ (hp.sc rfl ⟨rfl, rfl⟩ ?_ ?_ ?_ ?_ ?_ ?_ ?_ ?_ ?_ (fun o q => ?_)) (fun o q => ?_)
  · rw [up_ni (by decide), up_ni (by decide), up_ni (by decide)]; exact b0
  · rw [up_ni (by decide), up_ni (by decide), up_ni (by decide)]; exact b1
  · rw [up_ni (by decide), up_ni (by decide), up_ni (by decide)]; exact b2
  · rw [up_ni (by decide), up_ni (by decide), up_ni (by decide)]; exact b3
  · rw [up_ni (by decide), up_ni (by decide), up_ni (by decide)]; exact b4
  · rw [up_ni (by decide), up_ni (by decide), up_ni (by decide)]
  · rw [up_ni (by decide), up_ni (by decide), up_s]; rfl
  · rw [up_ni (by decide), up_s]; rfl
  · rw [up_s]; rfl
  · rw [up_ne q, up_ne q, up_ne q]
  · rw [up_ne q, up_ne q, up_ne q]
