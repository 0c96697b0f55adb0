/-! the twin's reader: what is taken, what is blamed */ -/
def alsoF (fp : Int × Int) (k a : Int) : Int × Int := if fp.1 ≠ 0 ∧ (fp.2 < a ∨ fp.2 = a ∧ fp.1 ≤ k) then fp else (k, a)
/-- broken off or not, the place, the fault and its place -/
abbrev Rx : Type := Bool × Int × (Int × Int)
def RX (σ : xS) (T : Int → Int) (n : Int) (x : Rx) : Prop := (RtM σ T n ∧ 0 ≤ x.2.1 ∧ x.2.1 ≤ n) ∧ (x.1 = false → RdM σ T n x.2.1 ∧ σ 174 8 = 0 ∧ σ 175 3 = x.2.2.1 ∧ σ 175 4 = x.2.2.2) ∧ (x.1 = true → σ 174 8 = 1 ∧ σ 175 3 = 1 ∧ σ 175 4 = x.2.1)
def RxF (σ' σ : xS) : Prop := (∀ i : Int, (i < 3 ∨ 8 < i) → σ' 174 i = σ 174 i) ∧ (∀ j : Int, j ≠ 3 → j ≠ 4 → σ' 175 j = σ 175 j) ∧ ∀ o : Nat, o ≠ 174 → o ≠ 175 → σ' o = σ o
theorem RxF.rfl (σ : xS) : RxF σ σ := ⟨fun _ _ => Eq.refl _, fun _ _ _ => Eq.refl _, fun _ _ _ => Eq.refl _⟩
theorem RxF.trans {σ σ' σ'' : xS} (h : RxF σ' σ) (h2 : RxF σ'' σ') : RxF σ'' σ := ⟨fun i hi => by rw [h2.1 i hi]; exact h.1 i hi, fun j a b => by rw [h2.2.1 j a b]; exact h.2.1 j a b, fun o a b => by rw [h2.2.2 o a b]; exact h.2.2 o a b⟩
theorem AvF.rx {σ σ' : xS} (h : AvF σ' σ) : RxF σ' σ := ⟨fun i hi => h.1 i (by omega), fun j _ _ => by rw [h.2 175 (by decide)], fun o a _ => h.2 o a⟩
theorem RtM.rx {σ σ' : xS} {T : Int → Int} {n : Int} (H : RtM σ T n) (F : RxF σ' σ) : RtM σ' T n := ⟨by rw [F.1 2 (by decide)]; exact H.1, H.2.1, fun i i0 i1 => ⟨(H.2.2 i i0 i1).1, by rw [F.2.1 _ (by omega) (by omega)]; exact (H.2.2 i i0 i1).2⟩⟩
def brX (x : Rx) : Rx := (true, x.2.1, x.2.2)
def alX (k a : Int) (x : Rx) : Rx := if x.1 = true then x else (false, x.2.1, alsoF x.2.2 k a)
def nuX (T : Int → Int) (n lo hi : Int) (x : Rx) : Rx := if x.1 = true ∨ tkK T n x.2.1 ≠ 1 then brX x else (false, nxt T n x.2.1, if lo ≤ tkV T n x.2.1 ∧ tkV T n x.2.1 ≤ hi then x.2.2 else alsoF x.2.2 2 x.2.1)
def nuV (T : Int → Int) (n lo hi : Int) (x : Rx) : Int := if x.1 = false ∧ tkK T n x.2.1 = 1 ∧ (lo ≤ tkV T n x.2.1 ∧ tkV T n x.2.1 ≤ hi) then tkV T n x.2.1 else lo
def taX (T : Int → Int) (n lo hi : Int) (x : Rx) : Rx := if x.1 = true ∨ ¬ (tkK T n x.2.1 = 3 ∧ lo ≤ wrd T n x.2.1 ∧ wrd T n x.2.1 ≤ hi) then brX x else (false, nxt T n x.2.1, x.2.2)
def taV (T : Int → Int) (n lo hi : Int) (x : Rx) : Int := if x.1 = true ∨ ¬ (tkK T n x.2.1 = 3 ∧ lo ≤ wrd T n x.2.1 ∧ wrd T n x.2.1 ≤ hi) then 0 else wrd T n x.2.1
def eoX (T : Int → Int) (n : Int) (x : Rx) : Rx := if x.1 = true ∨ tkK T n x.2.1 ≠ 2 then brX x else (false, nxt T n x.2.1, x.2.2)
theorem nuV_in {T : Int → Int} {n lo hi : Int} (h : lo ≤ hi) (x : Rx) : lo ≤ nuV T n lo hi x ∧ nuV T n lo hi x ≤ hi := by
  unfold nuV
  split
  · rename_i w; exact w.2.2
  · exact ⟨Int.le_refl _, h⟩
section
variable {g : xG} {K : Option MV → xS → Prop} {σ σ0 : xS} {T : Int → Int} {n : Int} {x : Rx}
theorem sp_Mo_ends (H : RX σ T n x) (k : ∀ σ' : xS, RX σ' T n (brX x) → RxF σ' σ → K none σ') : Mt g y_Mo_ends [vR 174] σ K := by
  obtain ⟨⟨R, q0, q1⟩, hf, ht⟩ := H
  obtain ⟨b, q, fp⟩ := x
  have q0 : 0 ≤ q := q0
  have q1 : q ≤ n := q1
  cases b with
  | true =>
    obtain ⟨e8, e3, e4⟩ := ht rfl
    refine x_enter 0 rfl rfl rfl (fun Z => ?_)
    show Wx g y_Mo_ends Z K 0 [vR 174] [] σ
    refine x_aload_n (dat d_Mo_ends 0 rfl) rfl rfl ?_
    refine x_geti (ji := 8) (v := 1) (dat d_Mo_ends 1 rfl) rfl f_Mo_129 (oi_mk (by decide +kernel)) (e8) ?_
    refine x_if_eq (tgt := 8) (dat d_Mo_ends 2 rfl) (by decide) (fun h => absurd h (by decide)) (fun c_4 => ?_)
    refine x_ret (dat d_Mo_ends 3 rfl) rfl ?_
    exact k σ ⟨⟨R, q0, q1⟩, fun z => Bool.noConfusion z, fun _ => ⟨e8, e3, e4⟩⟩ (RxF.rfl σ)
  | false =>
    obtain ⟨D, e8, e3, e4⟩ := hf rfl
    have eq : σ 174 4 = q := D.1.1
    refine x_enter 0 rfl rfl rfl (fun Z => ?_)
    show Wx g y_Mo_ends Z K 0 [vR 174] [] σ
    refine x_aload_n (dat d_Mo_ends 0 rfl) rfl rfl ?_
    refine x_geti (ji := 8) (v := 0) (dat d_Mo_ends 1 rfl) rfl f_Mo_129 (oi_mk (by decide +kernel)) (e8) ?_
    refine x_if_eq (tgt := 8) (dat d_Mo_ends 2 rfl) (by decide) (fun c_4 => ?_) (fun h => absurd h (by decide))
    refine x_aload_n (dat d_Mo_ends 4 rfl) rfl rfl ?_
    refine x_iconst (dat d_Mo_ends 5 rfl) (by decide) ?_
    refine x_puti (ji := 8) (x := (1)) (dat d_Mo_ends 6 rfl) rfl f_Mo_129w (oi_mk (by decide +kernel)) (fun _ => by decide) (by decide) ?_
    refine x_aload_n (dat d_Mo_ends 7 rfl) rfl rfl ?_
    refine x_getr (r := 175) (dat d_Mo_ends 8 rfl) rfl f_Mo_7 (or_mk (by decide +kernel)) ?_
    refine x_iconst (dat d_Mo_ends 9 rfl) (by decide) ?_
    refine x_iconst (dat d_Mo_ends 10 rfl) (by decide) ?_
    refine x_iast (n := 3888) (dat d_Mo_ends 11 rfl) (ai_mk (by decide +kernel)) (by omega) (by omega) ?_
    refine x_aload_n (dat d_Mo_ends 12 rfl) rfl rfl ?_
    refine x_getr (r := 175) (dat d_Mo_ends 13 rfl) rfl f_Mo_7 (or_mk (by decide +kernel)) ?_
    refine x_iconst (dat d_Mo_ends 14 rfl) (by decide) ?_
    refine x_aload_n (dat d_Mo_ends 15 rfl) rfl rfl ?_
    refine x_geti (ji := 4) (v := q) (dat d_Mo_ends 16 rfl) rfl f_Mo_102 (oi_mk (by decide +kernel)) ((up_nk (by decide)).trans ((up_ni (by decide)).trans eq)) ?_
    refine x_iast (n := 3888) (dat d_Mo_ends 17 rfl) (ai_mk (by decide +kernel)) (by omega) (by omega) ?_
    refine x_ret (dat d_Mo_ends 18 rfl) rfl ?_
    have F : RxF (up (up (up σ 174 8 1) 175 3 1) 175 4 q) σ := ⟨fun i hi => by rw [up_ne (by decide), up_ne (by decide), up_ni (by omega)], fun j a b => by rw [up_ni (by omega), up_ni (by omega), up_ne (by decide)], fun o a b => by rw [up_ne b, up_ne b, up_ne a]⟩
    exact k _ ⟨⟨R.rx F, q0, q1⟩, fun z => Bool.noConfusion z, fun _ => ⟨by rw [up_ne (by decide), up_ne (by decide), up_s], by rw [up_ni (by decide), up_s], up_s⟩⟩ F
theorem sp_Mo_also {kd at_ : Int} (H : RX σ T n x) (hk : 1 ≤ kd) (k : ∀ σ' : xS, RX σ' T n (alX kd at_ x) → RxF σ' σ → K none σ') : Mt g y_Mo_also [vR 174, vI kd, vI at_] σ K := by
  obtain ⟨⟨R, q0, q1⟩, hf, ht⟩ := H
  obtain ⟨b, q, fp⟩ := x
  obtain ⟨f, p⟩ := fp
  have q0 : 0 ≤ q := q0
  have q1 : q ≤ n := q1
  cases b with
  | true =>
    obtain ⟨e8, e3, e4⟩ := ht rfl
    refine x_enter 0 rfl rfl rfl (fun Z => ?_)
    show Wx g y_Mo_also Z K 0 [vR 174, vI kd, vI at_] [] σ
    refine x_aload_n (dat d_Mo_also 0 rfl) rfl rfl ?_
    refine x_geti (ji := 8) (v := 1) (dat d_Mo_also 1 rfl) rfl f_Mo_129 (oi_mk (by decide +kernel)) (e8) ?_
    refine x_if_ne (tgt := 46) (dat d_Mo_also 2 rfl) (by decide) (fun c_4 => ?_) (fun h => absurd h (by decide))
    refine x_ret (dat d_Mo_also 26 rfl) rfl ?_
    exact k σ ⟨⟨R, q0, q1⟩, fun z => Bool.noConfusion z, fun _ => ⟨e8, e3, e4⟩⟩ (RxF.rfl σ)
  | false =>
    obtain ⟨D, e8, e3, e4⟩ := hf rfl
    have e3 : σ 175 3 = f := e3
    have e4 : σ 175 4 = p := e4
    have same : (f ≠ 0 ∧ (p < at_ ∨ p = at_ ∧ f ≤ kd)) → K none σ := fun z => by
      have e : alX kd at_ (false, q, (f, p)) = (false, q, (f, p)) := by
        show (false, q, alsoF (f, p) kd at_) = (false, q, (f, p))
        unfold alsoF
        rw [if_pos z]
      have := k σ
      rw [e] at this
      exact this ⟨⟨R, q0, q1⟩, fun _ => ⟨D, e8, e3, e4⟩, fun z => Bool.noConfusion z⟩ (RxF.rfl σ)
    have new : ¬ (f ≠ 0 ∧ (p < at_ ∨ p = at_ ∧ f ≤ kd)) → ∀ σ' : xS, σ' 175 3 = kd → σ' 175 4 = at_ → σ' 174 = σ 174 → RxF σ' σ → K none σ' := fun z σ' g3 g4 g5 F => by
      have e : alX kd at_ (false, q, (f, p)) = (false, q, (kd, at_)) := by
        show (false, q, alsoF (f, p) kd at_) = (false, q, (kd, at_))
        unfold alsoF
        rw [if_neg z]
      have := k σ'
      rw [e] at this
      refine this ⟨⟨R.rx F, q0, q1⟩, fun _ => ⟨?_, by rw [g5]; exact e8, g3, g4⟩, fun z => Bool.noConfusion z⟩ F
      unfold RdM at D ⊢
      rw [g5]
      exact D
    refine x_enter 0 rfl rfl rfl (fun Z => ?_)
    show Wx g y_Mo_also Z K 0 [vR 174, vI kd, vI at_] [] σ
    refine x_aload_n (dat d_Mo_also 0 rfl) rfl rfl ?_
    refine x_geti (ji := 8) (v := 0) (dat d_Mo_also 1 rfl) rfl f_Mo_129 (oi_mk (by decide +kernel)) (e8) ?_
    refine x_if_ne (tgt := 46) (dat d_Mo_also 2 rfl) (by decide) (fun h => absurd h (by decide)) (fun c_4 => ?_)
    refine x_aload_n (dat d_Mo_also 3 rfl) rfl rfl ?_
    refine x_getr (r := 175) (dat d_Mo_also 4 rfl) rfl f_Mo_7 (or_mk (by decide +kernel)) ?_
    refine x_iconst (dat d_Mo_also 5 rfl) (by decide) ?_
    refine x_iald (n := 3888) (v := f) (dat d_Mo_also 6 rfl) (ai_mk (by decide +kernel)) (by omega) (by omega) (e3) ?_
    refine x_if_eq (tgt := 47) (dat d_Mo_also 7 rfl) (by decide) (fun c_13 => ?_) (fun c_13 => ?_)
    · refine x_aload_n (dat d_Mo_also 27 rfl) rfl rfl ?_
      refine x_getr (r := 175) (dat d_Mo_also 28 rfl) rfl f_Mo_7 (or_mk (by decide +kernel)) ?_
      refine x_iconst (dat d_Mo_also 29 rfl) (by decide) ?_
      refine x_iload_n (dat d_Mo_also 30 rfl) rfl rfl ?_
      refine x_iast (n := 3888) (dat d_Mo_also 31 rfl) (ai_mk (by decide +kernel)) (by omega) (by omega) ?_
      refine x_aload_n (dat d_Mo_also 32 rfl) rfl rfl ?_
      refine x_getr (r := 175) (dat d_Mo_also 33 rfl) rfl f_Mo_7 (or_mk (by decide +kernel)) ?_
      refine x_iconst (dat d_Mo_also 34 rfl) (by decide) ?_
      refine x_iload_n (dat d_Mo_also 35 rfl) rfl rfl ?_
      refine x_iast (n := 3888) (dat d_Mo_also 36 rfl) (ai_mk (by decide +kernel)) (by omega) (by omega) ?_
      refine x_ret (dat d_Mo_also 37 rfl) rfl ?_
      first
      | exact same (by omega)
      | exact new (by omega) _ (by rw [up_ni (by decide), up_s]) up_s (by rw [up_ne (by decide), up_ne (by decide)]) ⟨fun i hi => by rw [up_ne (by decide), up_ne (by decide)], fun j a b => by rw [up_ni (by omega), up_ni (by omega)], fun o a b => by rw [up_ne b, up_ne b]⟩
    · refine x_aload_n (dat d_Mo_also 8 rfl) rfl rfl ?_
      refine x_getr (r := 175) (dat d_Mo_also 9 rfl) rfl f_Mo_7 (or_mk (by decide +kernel)) ?_
      refine x_iconst (dat d_Mo_also 10 rfl) (by decide) ?_
      refine x_iald (n := 3888) (v := p) (dat d_Mo_also 11 rfl) (ai_mk (by decide +kernel)) (by omega) (by omega) (e4) ?_
      refine x_iload_n (dat d_Mo_also 12 rfl) rfl rfl ?_
      refine x_icmp_lt (tgt := 46) (dat d_Mo_also 13 rfl) (by decide) (fun c_23 => ?_) (fun c_23 => ?_)
      · refine x_ret (dat d_Mo_also 26 rfl) rfl ?_
        first
        | exact same (by omega)
        | exact new (by omega) _ (by rw [up_ni (by decide), up_s]) up_s (by rw [up_ne (by decide), up_ne (by decide)]) ⟨fun i hi => by rw [up_ne (by decide), up_ne (by decide)], fun j a b => by rw [up_ni (by omega), up_ni (by omega)], fun o a b => by rw [up_ne b, up_ne b]⟩
      · refine x_aload_n (dat d_Mo_also 14 rfl) rfl rfl ?_
        refine x_getr (r := 175) (dat d_Mo_also 15 rfl) rfl f_Mo_7 (or_mk (by decide +kernel)) ?_
        refine x_iconst (dat d_Mo_also 16 rfl) (by decide) ?_
        refine x_iald (n := 3888) (v := p) (dat d_Mo_also 17 rfl) (ai_mk (by decide +kernel)) (by omega) (by omega) (e4) ?_
        refine x_iload_n (dat d_Mo_also 18 rfl) rfl rfl ?_
        refine x_icmp_ne (tgt := 47) (dat d_Mo_also 19 rfl) (by decide) (fun c_33 => ?_) (fun c_33 => ?_)
        · refine x_aload_n (dat d_Mo_also 27 rfl) rfl rfl ?_
          refine x_getr (r := 175) (dat d_Mo_also 28 rfl) rfl f_Mo_7 (or_mk (by decide +kernel)) ?_
          refine x_iconst (dat d_Mo_also 29 rfl) (by decide) ?_
          refine x_iload_n (dat d_Mo_also 30 rfl) rfl rfl ?_
          refine x_iast (n := 3888) (dat d_Mo_also 31 rfl) (ai_mk (by decide +kernel)) (by omega) (by omega) ?_
          refine x_aload_n (dat d_Mo_also 32 rfl) rfl rfl ?_
          refine x_getr (r := 175) (dat d_Mo_also 33 rfl) rfl f_Mo_7 (or_mk (by decide +kernel)) ?_
          refine x_iconst (dat d_Mo_also 34 rfl) (by decide) ?_
          refine x_iload_n (dat d_Mo_also 35 rfl) rfl rfl ?_
          refine x_iast (n := 3888) (dat d_Mo_also 36 rfl) (ai_mk (by decide +kernel)) (by omega) (by omega) ?_
          refine x_ret (dat d_Mo_also 37 rfl) rfl ?_
          first
          | exact same (by omega)
          | exact new (by omega) _ (by rw [up_ni (by decide), up_s]) up_s (by rw [up_ne (by decide), up_ne (by decide)]) ⟨fun i hi => by rw [up_ne (by decide), up_ne (by decide)], fun j a b => by rw [up_ni (by omega), up_ni (by omega)], fun o a b => by rw [up_ne b, up_ne b]⟩
        · refine x_aload_n (dat d_Mo_also 20 rfl) rfl rfl ?_
          refine x_getr (r := 175) (dat d_Mo_also 21 rfl) rfl f_Mo_7 (or_mk (by decide +kernel)) ?_
          refine x_iconst (dat d_Mo_also 22 rfl) (by decide) ?_
          refine x_iald (n := 3888) (v := f) (dat d_Mo_also 23 rfl) (ai_mk (by decide +kernel)) (by omega) (by omega) (e3) ?_
          refine x_iload_n (dat d_Mo_also 24 rfl) rfl rfl ?_
          refine x_icmp_gt (tgt := 47) (dat d_Mo_also 25 rfl) (by decide) (fun c_43 => ?_) (fun c_43 => ?_)
          · refine x_aload_n (dat d_Mo_also 27 rfl) rfl rfl ?_
            refine x_getr (r := 175) (dat d_Mo_also 28 rfl) rfl f_Mo_7 (or_mk (by decide +kernel)) ?_
            refine x_iconst (dat d_Mo_also 29 rfl) (by decide) ?_
            refine x_iload_n (dat d_Mo_also 30 rfl) rfl rfl ?_
            refine x_iast (n := 3888) (dat d_Mo_also 31 rfl) (ai_mk (by decide +kernel)) (by omega) (by omega) ?_
            refine x_aload_n (dat d_Mo_also 32 rfl) rfl rfl ?_
            refine x_getr (r := 175) (dat d_Mo_also 33 rfl) rfl f_Mo_7 (or_mk (by decide +kernel)) ?_
            refine x_iconst (dat d_Mo_also 34 rfl) (by decide) ?_
            refine x_iload_n (dat d_Mo_also 35 rfl) rfl rfl ?_
            refine x_iast (n := 3888) (dat d_Mo_also 36 rfl) (ai_mk (by decide +kernel)) (by omega) (by omega) ?_
            refine x_ret (dat d_Mo_also 37 rfl) rfl ?_
            first
            | exact same (by omega)
            | exact new (by omega) _ (by rw [up_ni (by decide), up_s]) up_s (by rw [up_ne (by decide), up_ne (by decide)]) ⟨fun i hi => by rw [up_ne (by decide), up_ne (by decide)], fun j a b => by rw [up_ni (by omega), up_ni (by omega)], fun o a b => by rw [up_ne b, up_ne b]⟩
          · refine x_ret (dat d_Mo_also 26 rfl) rfl ?_
            first
            | exact same (by omega)
            | exact new (by omega) _ (by rw [up_ni (by decide), up_s]) up_s (by rw [up_ne (by decide), up_ne (by decide)]) ⟨fun i hi => by rw [up_ne (by decide), up_ne (by decide)], fun j a b => by rw [up_ni (by omega), up_ni (by omega)], fun o a b => by rw [up_ne b, up_ne b]⟩
/-- the token behind -/
theorem RX.go {σ' : xS} {q : Int} {fp : Int × Int} (H : RX σ T n (false, q, fp)) (D : RdM σ' T n (rn cBl T n (tkN T n q))) (F : AvF σ' σ) : RX σ' T n (false, nxt T n q, fp) := by
  obtain ⟨⟨R, q0, q1⟩, hf, -⟩ := H
  obtain ⟨D0, e8, e3, e4⟩ := hf rfl
  exact ⟨⟨R.same F, D.2.2.2.1, D.2.2.2.2⟩, fun _ => ⟨D, by rw [F.1 8 (by decide)]; exact e8, by rw [F.2 175 (by decide)]; exact e3, by rw [F.2 175 (by decide)]; exact e4⟩, fun z => Bool.noConfusion z⟩
theorem RX.at {q : Int} {fp : Int × Int} (H : RX σ T n (false, q, fp)) : RtM σ T n ∧ (0 ≤ q ∧ q ≤ n) ∧ RdM σ T n q ∧ σ 174 8 = 0 ∧ (0 ≤ tkN T n q ∧ tkN T n q ≤ n) := by
  obtain ⟨⟨R, q0, q1⟩, hf, -⟩ := H
  obtain ⟨D0, e8, e3, e4⟩ := hf rfl
  have q0 : 0 ≤ q := q0
  have q1 : q ≤ n := q1
  have tl := tkN_le (T := T) q1
  refine ⟨R, ⟨q0, q1⟩, D0, e8, ?_, tl⟩
  by_cases z : tkK T n q = 0
  · by_cases y : n ≤ q
    · rw [(tk_end (T := T) y).2]; exact q0
    · unfold tkK at z
      rw [if_neg y] at z
      repeat' split at z
      all_goals omega
  · have := (tkN_gt z).1
    omega
theorem sp_Mo_numbered {lo hi : Int} (H : RX σ T n x) (hlh : lo ≤ hi) (k : ∀ σ' : xS, RX σ' T n (nuX T n lo hi x) → RxF σ' σ → K (some (vI (nuV T n lo hi x))) σ') : Mt g y_Mo_numbered [vR 174, vI lo, vI hi] σ K := by
  have H0 := H
  obtain ⟨⟨R, q0, q1⟩, hf, ht⟩ := H
  obtain ⟨b, q, fp⟩ := x
  have brk : (b = true ∨ tkK T n q ≠ 1) → ∀ σ' : xS, RX σ' T n (brX (b, q, fp)) → RxF σ' σ → K (some (vI lo)) σ' := fun z σ' g1 g2 => by
    have e1 : nuX T n lo hi (b, q, fp) = brX (b, q, fp) := if_pos z
    have e2 : nuV T n lo hi (b, q, fp) = lo := if_neg (fun w => by
      have w1 : b = false := w.1
      have w2 : tkK T n q = 1 := w.2.1
      rcases z with y | y
      · rw [w1] at y; exact Bool.noConfusion y
      · exact y w2)
    have := k σ'
    rw [e1, e2] at this
    exact this g1 g2
  cases b with
  | true =>
    obtain ⟨e8, e3, e4⟩ := ht rfl
    refine x_enter 1 rfl rfl rfl (fun Z => ?_)
    show Wx g y_Mo_numbered Z K 0 [vR 174, vI lo, vI hi, vU] [] σ
    refine x_aload_n (dat d_Mo_numbered 0 rfl) rfl rfl ?_
    refine x_geti (ji := 8) (v := 1) (dat d_Mo_numbered 1 rfl) rfl f_Mo_129 (oi_mk (by decide +kernel)) (e8) ?_
    refine x_if_ne (tgt := 15) (dat d_Mo_numbered 2 rfl) (by decide) (fun c_4 => ?_) (fun h => absurd h (by decide))
    refine x_aload_n (dat d_Mo_numbered 7 rfl) rfl rfl ?_
    refine x_inv (As := []) (dat d_Mo_numbered 8 rfl) rfl c_Mo_ends l_Mo_133 (by decide) (rv_mo (by decide +kernel)) rfl rfl (Nat.le_of_ble_eq_true rfl) ?_
    refine sp_Mo_ends H0 (fun σ1 H1 F1 => ?_)
    show Wx g y_Mo_numbered Z K 19 [vR 174, vI lo, vI hi, vU] [] σ1
    refine x_iload_n (dat d_Mo_numbered 9 rfl) rfl rfl ?_
    refine x_iret (dat d_Mo_numbered 10 rfl) rfl ?_
    exact brk (Or.inl rfl) σ1 H1 F1
  | false =>
    obtain ⟨-, -, D, e8, t0, t1⟩ := H0.at
    have e5 : σ 174 5 = tkK T n q := D.1.2.1
    by_cases hk : tkK T n q = 1
    · have e6 : σ 174 6 = tkV T n q := D.2.1 hk
      have ew : σ 174 4 = q := D.1.1
      have e1 : nuX T n lo hi (false, q, fp) = (false, nxt T n q, if lo ≤ tkV T n q ∧ tkV T n q ≤ hi then fp else alsoF fp 2 q) := if_neg (fun w => w.elim (fun y => Bool.noConfusion y) (fun y => y hk))
      have yes : (lo ≤ tkV T n q ∧ tkV T n q ≤ hi) → ∀ σ' : xS, RX σ' T n (false, nxt T n q, fp) → RxF σ' σ → K (some (vI (tkV T n q))) σ' := fun z σ' g1 g2 => by
        have e2 : nuV T n lo hi (false, q, fp) = tkV T n q := if_pos ⟨rfl, hk, z⟩
        have := k σ'
        rw [e1, e2, if_pos z] at this
        exact this g1 g2
      have no : ¬ (lo ≤ tkV T n q ∧ tkV T n q ≤ hi) → ∀ σ' : xS, RX σ' T n (false, nxt T n q, alsoF fp 2 q) → RxF σ' σ → K (some (vI lo)) σ' := fun z σ' g1 g2 => by
        have e2 : nuV T n lo hi (false, q, fp) = lo := if_neg (fun w => z w.2.2)
        have := k σ'
        rw [e1, e2, if_neg z] at this
        exact this g1 g2
      have tb := tkV_bd hk
      generalize tkV T n q = v at e6 yes no tb
      by_cases hi2 : lo ≤ v ∧ v ≤ hi
      · have e3' : σ 174 3 = tkN T n q := D.1.2.2
        refine x_enter 1 rfl rfl rfl (fun Z => ?_)
        show Wx g y_Mo_numbered Z K 0 [vR 174, vI lo, vI hi, vU] [] σ
        refine x_aload_n (dat d_Mo_numbered 0 rfl) rfl rfl ?_
        refine x_geti (ji := 8) (v := 0) (dat d_Mo_numbered 1 rfl) rfl f_Mo_129 (oi_mk (by decide +kernel)) (e8) ?_
        refine x_if_ne (tgt := 15) (dat d_Mo_numbered 2 rfl) (by decide) (fun h => absurd h (by decide)) (fun c_4 => ?_)
        refine x_aload_n (dat d_Mo_numbered 3 rfl) rfl rfl ?_
        refine x_geti (ji := 5) (v := tkK T n q) (dat d_Mo_numbered 4 rfl) rfl f_Mo_105 (oi_mk (by decide +kernel)) (e5) ?_
        refine x_iconst (dat d_Mo_numbered 5 rfl) (by decide) ?_
        refine x_icmp_eq (tgt := 21) (dat d_Mo_numbered 6 rfl) (by decide) (fun c_12 => ?_) (fun c_12 => (by omega))
        refine x_aload_n (dat d_Mo_numbered 11 rfl) rfl rfl ?_
        refine x_geti (ji := 6) (v := v) (dat d_Mo_numbered 12 rfl) rfl f_Mo_126 (oi_mk (by decide +kernel)) (e6) ?_
        refine x_istore_n (L' := [vR 174, vI lo, vI hi, vI v]) (dat d_Mo_numbered 13 rfl) rfl (by decide) rfl rfl ?_
        refine x_iload_n (dat d_Mo_numbered 14 rfl) rfl rfl ?_
        refine x_iload_n (dat d_Mo_numbered 15 rfl) rfl rfl ?_
        refine x_iload_n (dat d_Mo_numbered 16 rfl) rfl rfl ?_
        refine x_invs (As := [vI v, vI lo, vI hi]) (dat d_Mo_numbered 17 rfl) rfl c_Mo_isIn l_Mo_136 (by decide) rfl rfl (Nat.le_of_ble_eq_true rfl) ?_
        refine sp_Mo_isIn (fun _ _ => ?_) (fun w => absurd hi2 w)
        show Wx g y_Mo_numbered Z K 32 [vR 174, vI lo, vI hi, vI v] [vI 1] σ
        refine x_if_ne (tgt := 44) (dat d_Mo_numbered 18 rfl) (by decide) (fun c_32 => ?_) (fun h => absurd h (by decide))
        refine x_aload_n (dat d_Mo_numbered 24 rfl) rfl rfl ?_
        refine x_inv (As := []) (dat d_Mo_numbered 25 rfl) rfl c_Mo_advance l_Mo_144 (by decide) (rv_mo (by decide +kernel)) rfl rfl (Nat.le_of_ble_eq_true rfl) ?_
        refine sp_Mo_advance R t0 t1 e3' (fun σ1 D1 F1 => ?_)
        show Wx g y_Mo_numbered Z K 48 [vR 174, vI lo, vI hi, vI v] [] σ1
        refine x_iload_n (dat d_Mo_numbered 26 rfl) rfl rfl ?_
        refine x_iload_n (dat d_Mo_numbered 27 rfl) rfl rfl ?_
        refine x_iload_n (dat d_Mo_numbered 28 rfl) rfl rfl ?_
        refine x_invs (As := [vI v, vI lo, vI hi]) (dat d_Mo_numbered 29 rfl) rfl c_Mo_isIn l_Mo_136 (by decide) rfl rfl (Nat.le_of_ble_eq_true rfl) ?_
        refine sp_Mo_isIn (fun _ _ => ?_) (fun w => absurd hi2 w)
        show Wx g y_Mo_numbered Z K 54 [vR 174, vI lo, vI hi, vI v] [vI 1] σ1
        refine x_if_eq (tgt := 61) (dat d_Mo_numbered 30 rfl) (by decide) (fun h => absurd h (by decide)) (fun c_54 => ?_)
        refine x_iload_n (dat d_Mo_numbered 31 rfl) rfl rfl ?_
        refine x_goto (tgt := 62) (dat d_Mo_numbered 32 rfl) (by decide) ?_
        refine x_iret (dat d_Mo_numbered 34 rfl) rfl ?_
        exact yes hi2 σ1 (H0.go D1 F1) F1.rx
      · refine x_enter 1 rfl rfl rfl (fun Z => ?_)
        show Wx g y_Mo_numbered Z K 0 [vR 174, vI lo, vI hi, vU] [] σ
        refine x_aload_n (dat d_Mo_numbered 0 rfl) rfl rfl ?_
        refine x_geti (ji := 8) (v := 0) (dat d_Mo_numbered 1 rfl) rfl f_Mo_129 (oi_mk (by decide +kernel)) (e8) ?_
        refine x_if_ne (tgt := 15) (dat d_Mo_numbered 2 rfl) (by decide) (fun h => absurd h (by decide)) (fun c_4 => ?_)
        refine x_aload_n (dat d_Mo_numbered 3 rfl) rfl rfl ?_
        refine x_geti (ji := 5) (v := tkK T n q) (dat d_Mo_numbered 4 rfl) rfl f_Mo_105 (oi_mk (by decide +kernel)) (e5) ?_
        refine x_iconst (dat d_Mo_numbered 5 rfl) (by decide) ?_
        refine x_icmp_eq (tgt := 21) (dat d_Mo_numbered 6 rfl) (by decide) (fun c_12 => ?_) (fun c_12 => (by omega))
        refine x_aload_n (dat d_Mo_numbered 11 rfl) rfl rfl ?_
        refine x_geti (ji := 6) (v := v) (dat d_Mo_numbered 12 rfl) rfl f_Mo_126 (oi_mk (by decide +kernel)) (e6) ?_
        refine x_istore_n (L' := [vR 174, vI lo, vI hi, vI v]) (dat d_Mo_numbered 13 rfl) rfl (by decide) rfl rfl ?_
        refine x_iload_n (dat d_Mo_numbered 14 rfl) rfl rfl ?_
        refine x_iload_n (dat d_Mo_numbered 15 rfl) rfl rfl ?_
        refine x_iload_n (dat d_Mo_numbered 16 rfl) rfl rfl ?_
        refine x_invs (As := [vI v, vI lo, vI hi]) (dat d_Mo_numbered 17 rfl) rfl c_Mo_isIn l_Mo_136 (by decide) rfl rfl (Nat.le_of_ble_eq_true rfl) ?_
        refine sp_Mo_isIn (fun a b => absurd ⟨a, b⟩ hi2) (fun _ => ?_)
        show Wx g y_Mo_numbered Z K 32 [vR 174, vI lo, vI hi, vI v] [vI 0] σ
        refine x_if_ne (tgt := 44) (dat d_Mo_numbered 18 rfl) (by decide) (fun h => absurd h (by decide)) (fun c_32 => ?_)
        refine x_aload_n (dat d_Mo_numbered 19 rfl) rfl rfl ?_
        refine x_iconst (dat d_Mo_numbered 20 rfl) (by decide) ?_
        refine x_aload_n (dat d_Mo_numbered 21 rfl) rfl rfl ?_
        refine x_geti (ji := 4) (v := q) (dat d_Mo_numbered 22 rfl) rfl f_Mo_102 (oi_mk (by decide +kernel)) (ew) ?_
        refine x_inv (As := [vI 2, vI q]) (dat d_Mo_numbered 23 rfl) rfl c_Mo_also l_Mo_140 (by decide) (rv_mo (by decide +kernel)) rfl rfl (Nat.le_of_ble_eq_true rfl) ?_
        refine sp_Mo_also H0 (by decide) (fun σ1 H1 F1 => ?_)
        have H1 : RX σ1 T n (false, q, alsoF fp 2 q) := H1
        show Wx g y_Mo_numbered Z K 44 [vR 174, vI lo, vI hi, vI v] [] σ1
        refine x_aload_n (dat d_Mo_numbered 24 rfl) rfl rfl ?_
        refine x_inv (As := []) (dat d_Mo_numbered 25 rfl) rfl c_Mo_advance l_Mo_144 (by decide) (rv_mo (by decide +kernel)) rfl rfl (Nat.le_of_ble_eq_true rfl) ?_
        refine sp_Mo_advance H1.at.1 t0 t1 H1.at.2.2.1.1.2.2 (fun σ2 D2 F2 => ?_)
        show Wx g y_Mo_numbered Z K 48 [vR 174, vI lo, vI hi, vI v] [] σ2
        refine x_iload_n (dat d_Mo_numbered 26 rfl) rfl rfl ?_
        refine x_iload_n (dat d_Mo_numbered 27 rfl) rfl rfl ?_
        refine x_iload_n (dat d_Mo_numbered 28 rfl) rfl rfl ?_
        refine x_invs (As := [vI v, vI lo, vI hi]) (dat d_Mo_numbered 29 rfl) rfl c_Mo_isIn l_Mo_136 (by decide) rfl rfl (Nat.le_of_ble_eq_true rfl) ?_
        refine sp_Mo_isIn (fun a b => absurd ⟨a, b⟩ hi2) (fun _ => ?_)
        show Wx g y_Mo_numbered Z K 54 [vR 174, vI lo, vI hi, vI v] [vI 0] σ2
        refine x_if_eq (tgt := 61) (dat d_Mo_numbered 30 rfl) (by decide) (fun c_54 => ?_) (fun h => absurd h (by decide))
        refine x_iload_n (dat d_Mo_numbered 33 rfl) rfl rfl ?_
        refine x_iret (dat d_Mo_numbered 34 rfl) rfl ?_
        exact no hi2 σ2 (H1.go D2 F2) (F1.trans F2.rx)
    · refine x_enter 1 rfl rfl rfl (fun Z => ?_)
      show Wx g y_Mo_numbered Z K 0 [vR 174, vI lo, vI hi, vU] [] σ
      refine x_aload_n (dat d_Mo_numbered 0 rfl) rfl rfl ?_
      refine x_geti (ji := 8) (v := 0) (dat d_Mo_numbered 1 rfl) rfl f_Mo_129 (oi_mk (by decide +kernel)) (e8) ?_
      refine x_if_ne (tgt := 15) (dat d_Mo_numbered 2 rfl) (by decide) (fun h => absurd h (by decide)) (fun c_4 => ?_)
      refine x_aload_n (dat d_Mo_numbered 3 rfl) rfl rfl ?_
      refine x_geti (ji := 5) (v := tkK T n q) (dat d_Mo_numbered 4 rfl) rfl f_Mo_105 (oi_mk (by decide +kernel)) (e5) ?_
      refine x_iconst (dat d_Mo_numbered 5 rfl) (by decide) ?_
      refine x_icmp_eq (tgt := 21) (dat d_Mo_numbered 6 rfl) (by decide) (fun c_12 => (by omega)) (fun c_12 => ?_)
      refine x_aload_n (dat d_Mo_numbered 7 rfl) rfl rfl ?_
      refine x_inv (As := []) (dat d_Mo_numbered 8 rfl) rfl c_Mo_ends l_Mo_133 (by decide) (rv_mo (by decide +kernel)) rfl rfl (Nat.le_of_ble_eq_true rfl) ?_
      refine sp_Mo_ends H0 (fun σ1 H1 F1 => ?_)
      show Wx g y_Mo_numbered Z K 19 [vR 174, vI lo, vI hi, vU] [] σ1
      refine x_iload_n (dat d_Mo_numbered 9 rfl) rfl rfl ?_
      refine x_iret (dat d_Mo_numbered 10 rfl) rfl ?_
      exact brk (Or.inr hk) σ1 H1 F1
theorem sp_Mo_takes {lo hi : Int} (H : RX σ T n x) (k : ∀ σ' : xS, RX σ' T n (taX T n lo hi x) → RxF σ' σ → K (some (vI (taV T n lo hi x))) σ') : Mt g y_Mo_takes [vR 174, vI lo, vI hi] σ K := by
  have H0 := H
  obtain ⟨⟨R, q0, q1⟩, hf, ht⟩ := H
  obtain ⟨b, q, fp⟩ := x
  have brk : (b = true ∨ ¬ (tkK T n q = 3 ∧ lo ≤ wrd T n q ∧ wrd T n q ≤ hi)) → ∀ σ' : xS, RX σ' T n (brX (b, q, fp)) → RxF σ' σ → K (some (vI 0)) σ' := fun z σ' g1 g2 => by
    have e1 : taX T n lo hi (b, q, fp) = brX (b, q, fp) := if_pos z
    have e2 : taV T n lo hi (b, q, fp) = 0 := if_pos z
    have := k σ'
    rw [e1, e2] at this
    exact this g1 g2
  cases b with
  | true =>
    obtain ⟨e8, e3, e4⟩ := ht rfl
    refine x_enter 1 rfl rfl rfl (fun Z => ?_)
    show Wx g y_Mo_takes Z K 0 [vR 174, vI lo, vI hi, vU] [] σ
    refine x_aload_n (dat d_Mo_takes 0 rfl) rfl rfl ?_
    refine x_geti (ji := 8) (v := 1) (dat d_Mo_takes 1 rfl) rfl f_Mo_129 (oi_mk (by decide +kernel)) (e8) ?_
    refine x_if_ne (tgt := 27) (dat d_Mo_takes 2 rfl) (by decide) (fun c_4 => ?_) (fun h => absurd h (by decide))
    refine x_aload_n (dat d_Mo_takes 13 rfl) rfl rfl ?_
    refine x_inv (As := []) (dat d_Mo_takes 14 rfl) rfl c_Mo_ends l_Mo_133 (by decide) (rv_mo (by decide +kernel)) rfl rfl (Nat.le_of_ble_eq_true rfl) ?_
    refine sp_Mo_ends H0 (fun σ1 H1 F1 => ?_)
    show Wx g y_Mo_takes Z K 31 [vR 174, vI lo, vI hi, vU] [] σ1
    refine x_iconst (dat d_Mo_takes 15 rfl) (by decide) ?_
    refine x_iret (dat d_Mo_takes 16 rfl) rfl ?_
    exact brk (Or.inl rfl) σ1 H1 F1
  | false =>
    obtain ⟨-, -, D, e8, t0, t1⟩ := H0.at
    have e5 : σ 174 5 = tkK T n q := D.1.2.1
    by_cases hk : tkK T n q = 3
    · have e7 : σ 174 7 = wrd T n q := D.2.2.1 hk
      have e3' : σ 174 3 = tkN T n q := D.1.2.2
      have yes : (lo ≤ wrd T n q ∧ wrd T n q ≤ hi) → ∀ σ' : xS, RX σ' T n (false, nxt T n q, fp) → RxF σ' σ → K (some (vI (wrd T n q))) σ' := fun z σ' g1 g2 => by
        have nz : ¬ (false = true ∨ ¬ (tkK T n q = 3 ∧ lo ≤ wrd T n q ∧ wrd T n q ≤ hi)) := fun w => w.elim (fun y => Bool.noConfusion y) (fun y => y ⟨hk, z⟩)
        have e1 : taX T n lo hi (false, q, fp) = (false, nxt T n q, fp) := if_neg nz
        have e2 : taV T n lo hi (false, q, fp) = wrd T n q := if_neg nz
        have := k σ'
        rw [e1, e2] at this
        exact this g1 g2
      have wb := wrd_bd T n q
      have brk2 := fun z : ¬ (lo ≤ wrd T n q ∧ wrd T n q ≤ hi) => brk (Or.inr (fun w => z w.2))
      generalize wrd T n q = v at e7 yes wb brk2
      refine x_enter 1 rfl rfl rfl (fun Z => ?_)
      show Wx g y_Mo_takes Z K 0 [vR 174, vI lo, vI hi, vU] [] σ
      refine x_aload_n (dat d_Mo_takes 0 rfl) rfl rfl ?_
      refine x_geti (ji := 8) (v := 0) (dat d_Mo_takes 1 rfl) rfl f_Mo_129 (oi_mk (by decide +kernel)) (e8) ?_
      refine x_if_ne (tgt := 27) (dat d_Mo_takes 2 rfl) (by decide) (fun h => absurd h (by decide)) (fun c_4 => ?_)
      refine x_aload_n (dat d_Mo_takes 3 rfl) rfl rfl ?_
      refine x_geti (ji := 5) (v := tkK T n q) (dat d_Mo_takes 4 rfl) rfl f_Mo_105 (oi_mk (by decide +kernel)) (e5) ?_
      refine x_iconst (dat d_Mo_takes 5 rfl) (by decide) ?_
      refine x_icmp_ne (tgt := 27) (dat d_Mo_takes 6 rfl) (by decide) (fun c_12 => (by omega)) (fun c_12 => ?_)
      refine x_aload_n (dat d_Mo_takes 7 rfl) rfl rfl ?_
      refine x_geti (ji := 7) (v := v) (dat d_Mo_takes 8 rfl) rfl f_Mo_120 (oi_mk (by decide +kernel)) (e7) ?_
      refine x_iload_n (dat d_Mo_takes 9 rfl) rfl rfl ?_
      refine x_iload_n (dat d_Mo_takes 10 rfl) rfl rfl ?_
      refine x_invs (As := [vI v, vI lo, vI hi]) (dat d_Mo_takes 11 rfl) rfl c_Mo_isIn l_Mo_136 (by decide) rfl rfl (Nat.le_of_ble_eq_true rfl) ?_
      refine sp_Mo_isIn (fun a b => ?_) (fun c => ?_)
      · show Wx g y_Mo_takes Z K 24 [vR 174, vI lo, vI hi, vU] [vI 1] σ
        refine x_if_ne (tgt := 33) (dat d_Mo_takes 12 rfl) (by decide) (fun c_24 => ?_) (fun h => absurd h (by decide))
        refine x_aload_n (dat d_Mo_takes 17 rfl) rfl rfl ?_
        refine x_geti (ji := 7) (v := v) (dat d_Mo_takes 18 rfl) rfl f_Mo_120 (oi_mk (by decide +kernel)) (e7) ?_
        refine x_istore_n (L' := [vR 174, vI lo, vI hi, vI v]) (dat d_Mo_takes 19 rfl) rfl (by decide) rfl rfl ?_
        refine x_aload_n (dat d_Mo_takes 20 rfl) rfl rfl ?_
        refine x_inv (As := []) (dat d_Mo_takes 21 rfl) rfl c_Mo_advance l_Mo_144 (by decide) (rv_mo (by decide +kernel)) rfl rfl (Nat.le_of_ble_eq_true rfl) ?_
        refine sp_Mo_advance R t0 t1 e3' (fun σ1 D1 F1 => ?_)
        show Wx g y_Mo_takes Z K 42 [vR 174, vI lo, vI hi, vI v] [] σ1
        refine x_iload_n (dat d_Mo_takes 22 rfl) rfl rfl ?_
        refine x_iret (dat d_Mo_takes 23 rfl) rfl ?_
        first
        | exact yes ⟨a, b⟩ σ1 (H0.go D1 F1) F1.rx
        | exact brk2 c σ1 H1 F1
      · show Wx g y_Mo_takes Z K 24 [vR 174, vI lo, vI hi, vU] [vI 0] σ
        refine x_if_ne (tgt := 33) (dat d_Mo_takes 12 rfl) (by decide) (fun h => absurd h (by decide)) (fun c_24 => ?_)
        refine x_aload_n (dat d_Mo_takes 13 rfl) rfl rfl ?_
        refine x_inv (As := []) (dat d_Mo_takes 14 rfl) rfl c_Mo_ends l_Mo_133 (by decide) (rv_mo (by decide +kernel)) rfl rfl (Nat.le_of_ble_eq_true rfl) ?_
        refine sp_Mo_ends H0 (fun σ1 H1 F1 => ?_)
        show Wx g y_Mo_takes Z K 31 [vR 174, vI lo, vI hi, vU] [] σ1
        refine x_iconst (dat d_Mo_takes 15 rfl) (by decide) ?_
        refine x_iret (dat d_Mo_takes 16 rfl) rfl ?_
        first
        | exact yes ⟨a, b⟩ σ1 (H0.go D1 F1) F1.rx
        | exact brk2 c σ1 H1 F1
    · refine x_enter 1 rfl rfl rfl (fun Z => ?_)
      show Wx g y_Mo_takes Z K 0 [vR 174, vI lo, vI hi, vU] [] σ
      refine x_aload_n (dat d_Mo_takes 0 rfl) rfl rfl ?_
      refine x_geti (ji := 8) (v := 0) (dat d_Mo_takes 1 rfl) rfl f_Mo_129 (oi_mk (by decide +kernel)) (e8) ?_
      refine x_if_ne (tgt := 27) (dat d_Mo_takes 2 rfl) (by decide) (fun h => absurd h (by decide)) (fun c_4 => ?_)
      refine x_aload_n (dat d_Mo_takes 3 rfl) rfl rfl ?_
      refine x_geti (ji := 5) (v := tkK T n q) (dat d_Mo_takes 4 rfl) rfl f_Mo_105 (oi_mk (by decide +kernel)) (e5) ?_
      refine x_iconst (dat d_Mo_takes 5 rfl) (by decide) ?_
      refine x_icmp_ne (tgt := 27) (dat d_Mo_takes 6 rfl) (by decide) (fun c_12 => ?_) (fun c_12 => (by omega))
      refine x_aload_n (dat d_Mo_takes 13 rfl) rfl rfl ?_
      refine x_inv (As := []) (dat d_Mo_takes 14 rfl) rfl c_Mo_ends l_Mo_133 (by decide) (rv_mo (by decide +kernel)) rfl rfl (Nat.le_of_ble_eq_true rfl) ?_
      refine sp_Mo_ends H0 (fun σ1 H1 F1 => ?_)
      show Wx g y_Mo_takes Z K 31 [vR 174, vI lo, vI hi, vU] [] σ1
      refine x_iconst (dat d_Mo_takes 15 rfl) (by decide) ?_
      refine x_iret (dat d_Mo_takes 16 rfl) rfl ?_
      exact brk (Or.inr (fun w => hk w.1)) σ1 H1 F1
theorem sp_Mo_endsLine (H : RX σ T n x) (k : ∀ σ' : xS, RX σ' T n (eoX T n x) → RxF σ' σ → K none σ') : Mt g y_Mo_endsLine [vR 174] σ K := by
  have H0 := H
  obtain ⟨⟨R, q0, q1⟩, hf, ht⟩ := H
  obtain ⟨b, q, fp⟩ := x
  have brk : (b = true ∨ tkK T n q ≠ 2) → ∀ σ' : xS, RX σ' T n (brX (b, q, fp)) → RxF σ' σ → K none σ' := fun z σ' g1 g2 => by
    have e1 : eoX T n (b, q, fp) = brX (b, q, fp) := if_pos z
    have := k σ'
    rw [e1] at this
    exact this g1 g2
  cases b with
  | true =>
    obtain ⟨e8, e3, e4⟩ := ht rfl
    refine x_enter 0 rfl rfl rfl (fun Z => ?_)
    show Wx g y_Mo_endsLine Z K 0 [vR 174] [] σ
    refine x_aload_n (dat d_Mo_endsLine 0 rfl) rfl rfl ?_
    refine x_geti (ji := 8) (v := 1) (dat d_Mo_endsLine 1 rfl) rfl f_Mo_129 (oi_mk (by decide +kernel)) (e8) ?_
    refine x_if_ne (tgt := 22) (dat d_Mo_endsLine 2 rfl) (by decide) (fun c_4 => ?_) (fun h => absurd h (by decide))
    refine x_aload_n (dat d_Mo_endsLine 10 rfl) rfl rfl ?_
    refine x_inv (As := []) (dat d_Mo_endsLine 11 rfl) rfl c_Mo_ends l_Mo_133 (by decide) (rv_mo (by decide +kernel)) rfl rfl (Nat.le_of_ble_eq_true rfl) ?_
    refine sp_Mo_ends H0 (fun σ1 H1 F1 => ?_)
    show Wx g y_Mo_endsLine Z K 26 [vR 174] [] σ1
    refine x_ret (dat d_Mo_endsLine 12 rfl) rfl ?_
    exact brk (Or.inl rfl) σ1 H1 F1
  | false =>
    obtain ⟨-, -, D, e8, t0, t1⟩ := H0.at
    have e5 : σ 174 5 = tkK T n q := D.1.2.1
    have e3' : σ 174 3 = tkN T n q := D.1.2.2
    by_cases hk : tkK T n q = 2
    · have yes : ∀ σ' : xS, RX σ' T n (false, nxt T n q, fp) → RxF σ' σ → K none σ' := fun σ' g1 g2 => by
        have e1 : eoX T n (false, q, fp) = (false, nxt T n q, fp) := if_neg (fun w => w.elim (fun y => Bool.noConfusion y) (fun y => y hk))
        have := k σ'
        rw [e1] at this
        exact this g1 g2
      refine x_enter 0 rfl rfl rfl (fun Z => ?_)
      show Wx g y_Mo_endsLine Z K 0 [vR 174] [] σ
      refine x_aload_n (dat d_Mo_endsLine 0 rfl) rfl rfl ?_
      refine x_geti (ji := 8) (v := 0) (dat d_Mo_endsLine 1 rfl) rfl f_Mo_129 (oi_mk (by decide +kernel)) (e8) ?_
      refine x_if_ne (tgt := 22) (dat d_Mo_endsLine 2 rfl) (by decide) (fun h => absurd h (by decide)) (fun c_4 => ?_)
      refine x_aload_n (dat d_Mo_endsLine 3 rfl) rfl rfl ?_
      refine x_geti (ji := 5) (v := tkK T n q) (dat d_Mo_endsLine 4 rfl) rfl f_Mo_105 (oi_mk (by decide +kernel)) (e5) ?_
      refine x_iconst (dat d_Mo_endsLine 5 rfl) (by decide) ?_
      refine x_icmp_ne (tgt := 22) (dat d_Mo_endsLine 6 rfl) (by decide) (fun c_12 => (by omega)) (fun c_12 => ?_)
      refine x_aload_n (dat d_Mo_endsLine 7 rfl) rfl rfl ?_
      refine x_inv (As := []) (dat d_Mo_endsLine 8 rfl) rfl c_Mo_advance l_Mo_144 (by decide) (rv_mo (by decide +kernel)) rfl rfl (Nat.le_of_ble_eq_true rfl) ?_
      refine sp_Mo_advance R t0 t1 e3' (fun σ1 D1 F1 => ?_)
      show Wx g y_Mo_endsLine Z K 19 [vR 174] [] σ1
      refine x_goto (tgt := 26) (dat d_Mo_endsLine 9 rfl) (by decide) ?_
      refine x_ret (dat d_Mo_endsLine 12 rfl) rfl ?_
      exact yes σ1 (H0.go D1 F1) F1.rx
    · refine x_enter 0 rfl rfl rfl (fun Z => ?_)
      show Wx g y_Mo_endsLine Z K 0 [vR 174] [] σ
      refine x_aload_n (dat d_Mo_endsLine 0 rfl) rfl rfl ?_
      refine x_geti (ji := 8) (v := 0) (dat d_Mo_endsLine 1 rfl) rfl f_Mo_129 (oi_mk (by decide +kernel)) (e8) ?_
      refine x_if_ne (tgt := 22) (dat d_Mo_endsLine 2 rfl) (by decide) (fun h => absurd h (by decide)) (fun c_4 => ?_)
      refine x_aload_n (dat d_Mo_endsLine 3 rfl) rfl rfl ?_
      refine x_geti (ji := 5) (v := tkK T n q) (dat d_Mo_endsLine 4 rfl) rfl f_Mo_105 (oi_mk (by decide +kernel)) (e5) ?_
      refine x_iconst (dat d_Mo_endsLine 5 rfl) (by decide) ?_
      refine x_icmp_ne (tgt := 22) (dat d_Mo_endsLine 6 rfl) (by decide) (fun c_12 => ?_) (fun c_12 => (by omega))
      refine x_aload_n (dat d_Mo_endsLine 10 rfl) rfl rfl ?_
      refine x_inv (As := []) (dat d_Mo_endsLine 11 rfl) rfl c_Mo_ends l_Mo_133 (by decide) (rv_mo (by decide +kernel)) rfl rfl (Nat.le_of_ble_eq_true rfl) ?_
      refine sp_Mo_ends H0 (fun σ1 H1 F1 => ?_)
      show Wx g y_Mo_endsLine Z K 26 [vR 174] [] σ1
      refine x_ret (dat d_Mo_endsLine 12 rfl) rfl ?_
      exact brk (Or.inr hk) σ1 H1 F1
/-- within a line: the highest one and cell told may change, too -/
def RyF (σ' σ : xS) : Prop := (∀ i : Int, (i < 3 ∨ 10 < i) → σ' 174 i = σ 174 i) ∧ (∀ j : Int, j ≠ 3 → j ≠ 4 → σ' 175 j = σ 175 j) ∧ ∀ o : Nat, o ≠ 174 → o ≠ 175 → σ' o = σ o
theorem RxF.ry {σ' : xS} (h : RxF σ' σ) : RyF σ' σ := ⟨fun i hi => h.1 i (by omega), h.2⟩
theorem RyF.trans {σ' σ'' : xS} (h : RyF σ' σ) (h2 : RyF σ'' σ') : RyF σ'' σ := ⟨fun i hi => by rw [h2.1 i hi]; exact h.1 i hi, fun j a b => by rw [h2.2.1 j a b]; exact h.2.1 j a b, fun o a b => by rw [h2.2.2 o a b]; exact h.2.2 o a b⟩
theorem RX.put {i v : Int} (H : RX σ T n x) (hi : 9 ≤ i) : RX (up σ 174 i v) T n x := by
  have q : ∀ j : Int, j ≤ 8 → up σ 174 i v 174 j = σ 174 j := fun j hj => up_ni (by omega)
  have e5 : up σ 174 i v 175 = σ 175 := up_ne (by decide)
  unfold RX RtM RdM at H ⊢
  rw [e5, q 2 (by decide), q 3 (by decide), q 4 (by decide), q 5 (by decide), q 6 (by decide), q 7 (by decide), q 8 (by decide)]
  exact H
theorem RX.row {o : Nat} {i v : Int} (H : RX σ T n x) (h4 : o ≠ 174) (h5 : o ≠ 175) : RX (up σ o i v) T n x := by
  have e4 : up σ o i v 174 = σ 174 := up_ne (Ne.symm h4)
  have e5 : up σ o i v 175 = σ 175 := up_ne (Ne.symm h5)
  unfold RX RtM RdM at H ⊢
  rw [e5, e4]
  exact H
theorem sp_Mo_who (H : RX σ T n x) (k : ∀ σ' : xS, RX σ' T n (nuX T n 0 7 x) → σ' 174 9 = imax (σ 174 9) (nuV T n 0 7 x) → σ' 174 10 = σ 174 10 → RyF σ' σ → K (some (vI (nuV T n 0 7 x))) σ') : Mt g y_Mo_who [vR 174] σ K := by
  have nb := nuV_in (T := T) (n := n) (lo := 0) (hi := 7) (by decide) x
  have kk : ∀ (σ1 : xS) (v w : Int), RX σ1 T n (nuX T n 0 7 x) → RxF σ1 σ → v = nuV T n 0 7 x → w = imax (σ 174 9) v → K (some (vI v)) (up σ1 174 9 w) := fun σ1 v w H1 F1 e1 e2 => by
    rw [e1]
    refine k _ (H1.put (by decide)) (by rw [up_s, e2, e1]) (by rw [up_ni (by decide)]; exact F1.1 10 (by decide)) ⟨fun i hi => by rw [up_ni (by omega)]; exact F1.1 i (by omega), fun j a b => by rw [up_ne (by decide)]; exact F1.2.1 j a b, fun o a b => by rw [up_ne a]; exact F1.2.2 o a b⟩
  refine x_enter 1 rfl rfl rfl (fun Z => ?_)
  show Wx g y_Mo_who Z K 0 [vR 174, vU] [] σ
  refine x_aload_n (dat d_Mo_who 0 rfl) rfl rfl ?_
  refine x_iconst (dat d_Mo_who 1 rfl) (by decide) ?_
  refine x_bipush (dat d_Mo_who 2 rfl) (by decide) (by decide) ?_
  refine x_inv (As := [vI 0, vI 7]) (dat d_Mo_who 3 rfl) rfl c_Mo_numbered l_Mo_147 (by decide) (rv_mo (by decide +kernel)) rfl rfl (Nat.le_of_ble_eq_true rfl) ?_
  refine sp_Mo_numbered H (by decide) (fun σ1 H1 F1 => ?_)
  have e9 := F1.1 9 (by decide)
  generalize hv : nuV T n 0 7 x = v at nb
  show Wx g y_Mo_who Z K 7 [vR 174, vU] [vI v] σ1
  refine x_istore_n (L' := [vR 174, vI v]) (dat d_Mo_who 4 rfl) rfl (by decide) rfl rfl ?_
  refine x_aload_n (dat d_Mo_who 5 rfl) rfl rfl ?_
  refine x_iload_n (dat d_Mo_who 6 rfl) rfl rfl ?_
  refine x_aload_n (dat d_Mo_who 7 rfl) rfl rfl ?_
  refine x_geti (ji := 9) (v := σ 174 9) (dat d_Mo_who 8 rfl) rfl f_Mo_151 (oi_mk (by decide +kernel)) (e9) ?_
  refine x_icmp_le (tgt := 21) (dat d_Mo_who 9 rfl) (by decide) (fun c_14 => ?_) (fun c_14 => ?_)
  · refine x_aload_n (dat d_Mo_who 12 rfl) rfl rfl ?_
    refine x_geti (ji := 9) (v := σ 174 9) (dat d_Mo_who 13 rfl) rfl f_Mo_151 (oi_mk (by decide +kernel)) (e9) ?_
    refine x_puti (ji := 9) (x := (σ 174 9)) (dat d_Mo_who 14 rfl) rfl f_Mo_151w (oi_mk (by decide +kernel)) (fun h => absurd h (by decide)) (by decide) ?_
    refine x_iload_n (dat d_Mo_who 15 rfl) rfl rfl ?_
    refine x_iret (dat d_Mo_who 16 rfl) rfl ?_
    refine kk _ _ _ H1 F1 hv.symm ?_
    unfold imax
    first
    | rw [if_pos (by omega)]
    | rw [if_neg (by omega)]
  · refine x_iload_n (dat d_Mo_who 10 rfl) rfl rfl ?_
    refine x_goto (tgt := 25) (dat d_Mo_who 11 rfl) (by decide) ?_
    refine x_puti (ji := 9) (x := (v)) (dat d_Mo_who 14 rfl) rfl f_Mo_151w (oi_mk (by decide +kernel)) (fun h => absurd h (by decide)) (by decide) ?_
    refine x_iload_n (dat d_Mo_who 15 rfl) rfl rfl ?_
    refine x_iret (dat d_Mo_who 16 rfl) rfl ?_
    refine kk _ _ _ H1 F1 hv.symm ?_
    unfold imax
    first
    | rw [if_pos (by omega)]
    | rw [if_neg (by omega)]
theorem sp_Mo_cellTold (H : RX σ T n x) (k : ∀ σ' : xS, RX σ' T n (nuX T n 0 35 x) → σ' 174 10 = imax (σ 174 10) (nuV T n 0 35 x) → σ' 174 9 = σ 174 9 → RyF σ' σ → K (some (vI (nuV T n 0 35 x))) σ') : Mt g y_Mo_cellTold [vR 174] σ K := by
  have nb := nuV_in (T := T) (n := n) (lo := 0) (hi := 35) (by decide) x
  have kk : ∀ (σ1 : xS) (v w : Int), RX σ1 T n (nuX T n 0 35 x) → RxF σ1 σ → v = nuV T n 0 35 x → w = imax (σ 174 10) v → K (some (vI v)) (up σ1 174 10 w) := fun σ1 v w H1 F1 e1 e2 => by
    rw [e1]
    refine k _ (H1.put (by decide)) (by rw [up_s, e2, e1]) (by rw [up_ni (by decide)]; exact F1.1 9 (by decide)) ⟨fun i hi => by rw [up_ni (by omega)]; exact F1.1 i (by omega), fun j a b => by rw [up_ne (by decide)]; exact F1.2.1 j a b, fun o a b => by rw [up_ne a]; exact F1.2.2 o a b⟩
  refine x_enter 1 rfl rfl rfl (fun Z => ?_)
  show Wx g y_Mo_cellTold Z K 0 [vR 174, vU] [] σ
  refine x_aload_n (dat d_Mo_cellTold 0 rfl) rfl rfl ?_
  refine x_iconst (dat d_Mo_cellTold 1 rfl) (by decide) ?_
  refine x_bipush (dat d_Mo_cellTold 2 rfl) (by decide) (by decide) ?_
  refine x_inv (As := [vI 0, vI 35]) (dat d_Mo_cellTold 3 rfl) rfl c_Mo_numbered l_Mo_147 (by decide) (rv_mo (by decide +kernel)) rfl rfl (Nat.le_of_ble_eq_true rfl) ?_
  refine sp_Mo_numbered H (by decide) (fun σ1 H1 F1 => ?_)
  have e9 := F1.1 10 (by decide)
  generalize hv : nuV T n 0 35 x = v at nb
  show Wx g y_Mo_cellTold Z K 7 [vR 174, vU] [vI v] σ1
  refine x_istore_n (L' := [vR 174, vI v]) (dat d_Mo_cellTold 4 rfl) rfl (by decide) rfl rfl ?_
  refine x_aload_n (dat d_Mo_cellTold 5 rfl) rfl rfl ?_
  refine x_iload_n (dat d_Mo_cellTold 6 rfl) rfl rfl ?_
  refine x_aload_n (dat d_Mo_cellTold 7 rfl) rfl rfl ?_
  refine x_geti (ji := 10) (v := σ 174 10) (dat d_Mo_cellTold 8 rfl) rfl f_Mo_154 (oi_mk (by decide +kernel)) (e9) ?_
  refine x_icmp_le (tgt := 21) (dat d_Mo_cellTold 9 rfl) (by decide) (fun c_14 => ?_) (fun c_14 => ?_)
  · refine x_aload_n (dat d_Mo_cellTold 12 rfl) rfl rfl ?_
    refine x_geti (ji := 10) (v := σ 174 10) (dat d_Mo_cellTold 13 rfl) rfl f_Mo_154 (oi_mk (by decide +kernel)) (e9) ?_
    refine x_puti (ji := 10) (x := (σ 174 10)) (dat d_Mo_cellTold 14 rfl) rfl f_Mo_154w (oi_mk (by decide +kernel)) (fun h => absurd h (by decide)) (by decide) ?_
    refine x_iload_n (dat d_Mo_cellTold 15 rfl) rfl rfl ?_
    refine x_iret (dat d_Mo_cellTold 16 rfl) rfl ?_
    refine kk _ _ _ H1 F1 hv.symm ?_
    unfold imax
    first
    | rw [if_pos (by omega)]
    | rw [if_neg (by omega)]
  · refine x_iload_n (dat d_Mo_cellTold 10 rfl) rfl rfl ?_
    refine x_goto (tgt := 25) (dat d_Mo_cellTold 11 rfl) (by decide) ?_
    refine x_puti (ji := 10) (x := (v)) (dat d_Mo_cellTold 14 rfl) rfl f_Mo_154w (oi_mk (by decide +kernel)) (fun h => absurd h (by decide)) (by decide) ?_
    refine x_iload_n (dat d_Mo_cellTold 15 rfl) rfl rfl ?_
    refine x_iret (dat d_Mo_cellTold 16 rfl) rfl ?_
    refine kk _ _ _ H1 F1 hv.symm ?_
    unfold imax
    first
    | rw [if_pos (by omega)]
    | rw [if_neg (by omega)]
end
