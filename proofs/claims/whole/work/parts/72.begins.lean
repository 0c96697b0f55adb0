/-! the twin: a run begins; the hands of an hour -/
def BgS (σ0 σ : xS) (t : Int → Int) (n : Int) : Prop := (∀ p : Int, 0 ≤ p → p < n → (p < t 6 → σ 180 p = t (22 + 17 * p) + σ0 179 p) ∧ σ 191 p = -1 ∧ σ 192 p = 0 ∧ σ 193 p = 0 ∧ σ 194 p = 0) ∧ ∀ o : Nat, o ≠ 180 → o ≠ 191 → o ≠ 192 → o ≠ 193 → o ≠ 194 → σ o = σ0 o
theorem sp_Mo_begins {g : xG} {K : Option MV → xS → Prop} {σ : xS} {t : Int → Int} {t0 : Int} {C : Cf} (H0 : MoC σ t t0 C)
    (k : ∀ σ' : xS, Msk 8 (σ' 174 35) (rst C 0).2 → σ' 174 38 = -1 → (∀ p : Int, 0 ≤ p → p < t 6 → σ' 180 p = (rst C 0).1 p ∧ σ' 191 p = -1 ∧ σ' 192 p = 0 ∧ σ' 193 p = 0 ∧ σ' 194 p = 0) → (∀ i : Int, i ≠ 35 → i ≠ 38 → σ' 174 i = σ 174 i) → (∀ o : Nat, o ≠ 174 → o ≠ 180 → o ≠ 191 → o ≠ 192 → o ≠ 193 → o ≠ 194 → σ' o = σ o) → K none σ') : Mt g y_Mo_begins [vR 174] σ K := by
  have h6 := H0.1.2.2.2.2.2.2.2.1
  have hC := H0.2.1.2
  have e0 := H0.P.1
  have eS : ∀ p : Int, 0 ≤ p → p < 8 → cSt C p = t (22 + 17 * p) + σ 179 p := fun p p0 p1 => by
    rw [H0.2.1.1]
    show t (22 + 17 * p) + (if 0 ≤ p ∧ p < 8 then σ 179 p else 0) = _
    rw [if_pos ⟨p0, p1⟩]
  have bS : ∀ p : Int, 0 ≤ p → p < t 6 → 0 ≤ t (22 + 17 * p) + σ 179 p ∧ t (22 + 17 * p) + σ 179 p ≤ 33 := fun p p0 p1 => by rw [← eS p p0 (by omega)]; exact hC.2.2.2.2.2.2.2.2.2.2.2.2 p p0 (by omega)
  have M0 : ∀ σ1 : xS, (∀ o : Nat, o ≠ 174 → o ≠ 180 → o ≠ 191 → o ≠ 192 → o ≠ 193 → o ≠ 194 → σ1 o = σ o) → σ1 174 12 = σ 174 12 → MoT σ1 t t0 := fun σ1 h1 h2 => H0.1.1.same h2 (h1 175 (by decide) (by decide) (by decide) (by decide) (by decide) (by decide))
  have hal : Msk 8 (ishl 1 (t 6) - 1) (rst C 0).2 := (Msk.full (n := 8) (p := t 6) (by decide) (by omega) (by omega)).congr (fun q q0 q1 => by
    show decide (q < t 6) = decide (0 ≤ q ∧ q < cS C 0)
    rw [e0]
    by_cases z : q < t 6
    · rw [decide_eq_true z, decide_eq_true ⟨q0, z⟩]
    · rw [decide_eq_false z, decide_eq_false (fun w => z w.2)])
  have hl2 : 0 ≤ ishl 1 (t 6) - 1 ∧ ishl 1 (t 6) - 1 < 256 := ⟨hal.1, hal.2.1⟩
  have lp : ∀ (Z : xZ) (σb : xS), Msk 8 (σb 174 35) (rst C 0).2 → σb 174 38 = -1 → (∀ i : Int, i ≠ 35 → i ≠ 38 → σb 174 i = σ 174 i) → (∀ o : Nat, o ≠ 174 → σb o = σ o) → ∀ (d n : Nat) (σ1 : xS), n + d = 8 → BgS σb σ1 t n → Wx g y_Mo_begins Z K 19 [vR 174, vI (n : Int)] [] σ1 := by
    intro Z σb b1 b2 b3 b4 d
    induction d with
    | zero =>
      intro n σ1 hd S
      have e : n = 8 := by omega
      subst e
      refine x_iload_n (dat d_Mo_begins 13 rfl) rfl rfl ?_
      refine x_bipush (dat d_Mo_begins 14 rfl) (by decide) (by decide) ?_
      refine x_icmp_ge (tgt := 90) (dat d_Mo_begins 15 rfl) (by decide) (fun c_22 => ?_) (fun c_22 => (by omega))
      refine x_ret (dat d_Mo_begins 57 rfl) rfl ?_
      refine k σ1 (by rw [S.2 174 (by decide) (by decide) (by decide) (by decide) (by decide)]; exact b1) (by rw [S.2 174 (by decide) (by decide) (by decide) (by decide) (by decide)]; exact b2) (fun p p0 p1 => ?_) (fun i i1 i2 => by rw [S.2 174 (by decide) (by decide) (by decide) (by decide) (by decide)]; exact b3 i i1 i2) (fun o o1 o2 o3 o4 o5 o6 => by rw [S.2 o o2 o3 o4 o5 o6]; exact b4 o o1)
      have := S.1 p p0 (by omega)
      refine ⟨?_, this.2⟩
      rw [this.1 p1, b4 179 (by decide)]
      exact (eS p p0 (by omega)).symm
    | succ d ih =>
      intro n σ1 hd S
      have M1 : MoT σ1 t t0 := M0 σ1 (fun o o1 o2 o3 o4 o5 o6 => by rw [S.2 o o2 o3 o4 o5 o6]; exact b4 o o1) (by rw [S.2 174 (by decide) (by decide) (by decide) (by decide) (by decide)]; exact b3 12 (by decide) (by decide))
      have et : t (20 + 17 * (n : Int) + 2) = t (22 + 17 * (n : Int)) := by congr 1; omega
      have bn := bS (n : Int) (by omega)
      have em : σ1 179 (n : Int) = σ 179 (n : Int) := by rw [S.2 179 (by decide) (by decide) (by decide) (by decide) (by decide), b4 179 (by decide)]
      have nx : ∀ v : Int, ((n : Int) < t 6 → v = t (22 + 17 * (n : Int)) + σ 179 (n : Int)) → Wx g y_Mo_begins Z K 19 [vR 174, vI ((n + 1 : Nat) : Int)] [] (up (up (up (up (up σ1 180 n v) 191 n (-1)) 192 n 0) 193 n 0) 194 n 0) := by
        intro v hv
        refine ih (n + 1) _ (by omega) ⟨fun p p0 p1 => ?_, fun o o1 o2 o3 o4 o5 => by rw [up_ne o5, up_ne o4, up_ne o3, up_ne o2, up_ne o1]; exact S.2 o o1 o2 o3 o4 o5⟩
        by_cases z : p = (n : Int)
        · subst z
          refine ⟨fun w => ?_, ?_, ?_, ?_, ?_⟩
          · rw [up_ne (by decide), up_ne (by decide), up_ne (by decide), up_ne (by decide), up_s, hv w, b4 179 (by decide)]
          · rw [up_ne (by decide), up_ne (by decide), up_ne (by decide), up_s]
          · rw [up_ne (by decide), up_ne (by decide), up_s]
          · rw [up_ne (by decide), up_s]
          · rw [up_s]
        · have := S.1 p p0 (by omega)
          refine ⟨fun w => ?_, ?_, ?_, ?_, ?_⟩
          · rw [up_ne (by decide), up_ne (by decide), up_ne (by decide), up_ne (by decide), up_ni (Ne.symm z)]; exact this.1 w
          · rw [up_ne (by decide), up_ne (by decide), up_ne (by decide), up_ni (Ne.symm z), up_ne (by decide)]; exact this.2.1
          · rw [up_ne (by decide), up_ne (by decide), up_ni (Ne.symm z), up_ne (by decide), up_ne (by decide)]; exact this.2.2.1
          · rw [up_ne (by decide), up_ni (Ne.symm z), up_ne (by decide), up_ne (by decide), up_ne (by decide)]; exact this.2.2.2.1
          · rw [up_ni (Ne.symm z), up_ne (by decide), up_ne (by decide), up_ne (by decide), up_ne (by decide)]; exact this.2.2.2.2
      refine x_iload_n (dat d_Mo_begins 13 rfl) rfl rfl ?_
      refine x_bipush (dat d_Mo_begins 14 rfl) (by decide) (by decide) ?_
      refine x_icmp_ge (tgt := 90) (dat d_Mo_begins 15 rfl) (by decide) (fun c_22 => (by omega)) (fun c_22 => ?_)
      refine x_aload_n (dat d_Mo_begins 16 rfl) rfl rfl ?_
      refine x_getr (r := 180) (dat d_Mo_begins 17 rfl) rfl f_Mo_26 (or_mk (by decide +kernel)) ?_
      refine x_iload_n (dat d_Mo_begins 18 rfl) rfl rfl ?_
      refine x_iload_n (dat d_Mo_begins 19 rfl) rfl rfl ?_
      refine x_aload_n (dat d_Mo_begins 20 rfl) rfl rfl ?_
      refine x_inv (As := []) (dat d_Mo_begins 21 rfl) rfl c_Mo_people l_Mo_202 (by decide) (rv_mo (by decide +kernel)) rfl rfl (Nat.le_of_ble_eq_true rfl) ?_
      refine sp_Mo_people M1 ?_
      show Wx g y_Mo_begins Z K 35 [vR 174, vI (n : Int)] [vI (t 6), vI (n : Int), vI (n : Int), vR 180] σ1
      refine x_icmp_ge (tgt := 54) (dat d_Mo_begins 22 rfl) (by decide) (fun c_35 => ?_) (fun c_35 => ?_)
      · refine x_iconst (dat d_Mo_begins 33 rfl) (by decide) ?_
        refine x_iast (n := 8) (dat d_Mo_begins 34 rfl) (ai_mk (by decide +kernel)) (by omega) (by omega) ?_
        refine x_aload_n (dat d_Mo_begins 35 rfl) rfl rfl ?_
        refine x_getr (r := 191) (dat d_Mo_begins 36 rfl) rfl f_Mo_59 (or_mk (by decide +kernel)) ?_
        refine x_iload_n (dat d_Mo_begins 37 rfl) rfl rfl ?_
        refine x_iconst (dat d_Mo_begins 38 rfl) (by decide) ?_
        refine x_iast (n := 8) (dat d_Mo_begins 39 rfl) (ai_mk (by decide +kernel)) (by omega) (by omega) ?_
        refine x_aload_n (dat d_Mo_begins 40 rfl) rfl rfl ?_
        refine x_getr (r := 192) (dat d_Mo_begins 41 rfl) rfl f_Mo_62 (or_mk (by decide +kernel)) ?_
        refine x_iload_n (dat d_Mo_begins 42 rfl) rfl rfl ?_
        refine x_iconst (dat d_Mo_begins 43 rfl) (by decide) ?_
        refine x_iast (n := 8) (dat d_Mo_begins 44 rfl) (ai_mk (by decide +kernel)) (by omega) (by omega) ?_
        refine x_aload_n (dat d_Mo_begins 45 rfl) rfl rfl ?_
        refine x_getr (r := 193) (dat d_Mo_begins 46 rfl) rfl f_Mo_65 (or_mk (by decide +kernel)) ?_
        refine x_iload_n (dat d_Mo_begins 47 rfl) rfl rfl ?_
        refine x_iconst (dat d_Mo_begins 48 rfl) (by decide) ?_
        refine x_iast (n := 8) (dat d_Mo_begins 49 rfl) (ai_mk (by decide +kernel)) (by omega) (by omega) ?_
        refine x_aload_n (dat d_Mo_begins 50 rfl) rfl rfl ?_
        refine x_getr (r := 194) (dat d_Mo_begins 51 rfl) rfl f_Mo_68 (or_mk (by decide +kernel)) ?_
        refine x_iload_n (dat d_Mo_begins 52 rfl) rfl rfl ?_
        refine x_iconst (dat d_Mo_begins 53 rfl) (by decide) ?_
        refine x_iast (n := 8) (dat d_Mo_begins 54 rfl) (ai_mk (by decide +kernel)) (by omega) (by omega) ?_
        refine x_iinc (v' := ((n + 1 : Nat) : Int)) (L' := [vR 174, vI ((n + 1 : Nat) : Int)]) (dat d_Mo_begins 55 rfl) rfl (by decide) rfl (by omega) (by omega) rfl ?_
        refine x_goto (tgt := 19) (dat d_Mo_begins 56 rfl) (by decide) ?_
        first
        | exact nx _ (fun _ => rfl)
        | exact nx _ (fun w => by omega)
      · refine x_aload_n (dat d_Mo_begins 23 rfl) rfl rfl ?_
        refine x_iload_n (dat d_Mo_begins 24 rfl) rfl rfl ?_
        refine x_iconst (dat d_Mo_begins 25 rfl) (by decide) ?_
        refine x_inv (As := [vI (n : Int), vI 2]) (dat d_Mo_begins 26 rfl) rfl c_Mo_personOf l_Mo_211 (by decide) (rv_mo (by decide +kernel)) rfl rfl (Nat.le_of_ble_eq_true rfl) ?_
        refine sp_Mo_personOf M1 (by omega) (by omega) (by decide) (by decide) ?_
        show Wx g y_Mo_begins Z K 44 [vR 174, vI (n : Int)] [vI (t (20 + 17 * (n : Int) + 2)), vI (n : Int), vR 180] σ1
        refine x_aload_n (dat d_Mo_begins 27 rfl) rfl rfl ?_
        refine x_getr (r := 179) (dat d_Mo_begins 28 rfl) rfl f_Mo_23 (or_mk (by decide +kernel)) ?_
        refine x_iload_n (dat d_Mo_begins 29 rfl) rfl rfl ?_
        refine x_iald (n := 8) (v := σ 179 (n : Int)) (dat d_Mo_begins 30 rfl) (ai_mk (by decide +kernel)) (by omega) (by omega) (em) ?_
        refine x_iadd (v := t (22 + 17 * (n : Int)) + σ 179 (n : Int)) (dat d_Mo_begins 31 rfl) (by omega) (by omega) ?_
        refine x_goto (tgt := 55) (dat d_Mo_begins 32 rfl) (by decide) ?_
        refine x_iast (n := 8) (dat d_Mo_begins 34 rfl) (ai_mk (by decide +kernel)) (by omega) (by omega) ?_
        refine x_aload_n (dat d_Mo_begins 35 rfl) rfl rfl ?_
        refine x_getr (r := 191) (dat d_Mo_begins 36 rfl) rfl f_Mo_59 (or_mk (by decide +kernel)) ?_
        refine x_iload_n (dat d_Mo_begins 37 rfl) rfl rfl ?_
        refine x_iconst (dat d_Mo_begins 38 rfl) (by decide) ?_
        refine x_iast (n := 8) (dat d_Mo_begins 39 rfl) (ai_mk (by decide +kernel)) (by omega) (by omega) ?_
        refine x_aload_n (dat d_Mo_begins 40 rfl) rfl rfl ?_
        refine x_getr (r := 192) (dat d_Mo_begins 41 rfl) rfl f_Mo_62 (or_mk (by decide +kernel)) ?_
        refine x_iload_n (dat d_Mo_begins 42 rfl) rfl rfl ?_
        refine x_iconst (dat d_Mo_begins 43 rfl) (by decide) ?_
        refine x_iast (n := 8) (dat d_Mo_begins 44 rfl) (ai_mk (by decide +kernel)) (by omega) (by omega) ?_
        refine x_aload_n (dat d_Mo_begins 45 rfl) rfl rfl ?_
        refine x_getr (r := 193) (dat d_Mo_begins 46 rfl) rfl f_Mo_65 (or_mk (by decide +kernel)) ?_
        refine x_iload_n (dat d_Mo_begins 47 rfl) rfl rfl ?_
        refine x_iconst (dat d_Mo_begins 48 rfl) (by decide) ?_
        refine x_iast (n := 8) (dat d_Mo_begins 49 rfl) (ai_mk (by decide +kernel)) (by omega) (by omega) ?_
        refine x_aload_n (dat d_Mo_begins 50 rfl) rfl rfl ?_
        refine x_getr (r := 194) (dat d_Mo_begins 51 rfl) rfl f_Mo_68 (or_mk (by decide +kernel)) ?_
        refine x_iload_n (dat d_Mo_begins 52 rfl) rfl rfl ?_
        refine x_iconst (dat d_Mo_begins 53 rfl) (by decide) ?_
        refine x_iast (n := 8) (dat d_Mo_begins 54 rfl) (ai_mk (by decide +kernel)) (by omega) (by omega) ?_
        refine x_iinc (v' := ((n + 1 : Nat) : Int)) (L' := [vR 174, vI ((n + 1 : Nat) : Int)]) (dat d_Mo_begins 55 rfl) rfl (by decide) rfl (by omega) (by omega) rfl ?_
        refine x_goto (tgt := 19) (dat d_Mo_begins 56 rfl) (by decide) ?_
        first
        | exact nx _ (fun _ => rfl)
        | exact nx _ (fun w => by omega)
  refine x_enter 1 rfl rfl rfl (fun Z => ?_)
  show Wx g y_Mo_begins Z K 0 [vR 174, vU] [] σ
  refine x_aload_n (dat d_Mo_begins 0 rfl) rfl rfl ?_
  refine x_iconst (dat d_Mo_begins 1 rfl) (by decide) ?_
  refine x_aload_n (dat d_Mo_begins 2 rfl) rfl rfl ?_
  refine x_inv (As := []) (dat d_Mo_begins 3 rfl) rfl c_Mo_people l_Mo_202 (by decide) (rv_mo (by decide +kernel)) rfl rfl (Nat.le_of_ble_eq_true rfl) ?_
  refine sp_Mo_people H0.1.1 ?_
  show Wx g y_Mo_begins Z K 6 [vR 174, vU] [vI (t 6), vI 1, vR 174] σ
  refine x_ishl (v := ishl 1 (t 6)) (dat d_Mo_begins 4 rfl) rfl ?_
  refine x_iconst (dat d_Mo_begins 5 rfl) (by decide) ?_
  refine x_isub (v := (ishl 1 (t 6)) - 1) (dat d_Mo_begins 6 rfl) rfl (by omega) ?_
  refine x_puti (ji := 35) (x := ((ishl 1 (t 6)) - 1)) (dat d_Mo_begins 7 rfl) rfl f_Mo_286w (oi_mk (by decide +kernel)) (fun h => absurd h (by decide)) (by decide) ?_
  refine x_aload_n (dat d_Mo_begins 8 rfl) rfl rfl ?_
  refine x_iconst (dat d_Mo_begins 9 rfl) (by decide) ?_
  refine x_puti (ji := 38) (x := ((-1))) (dat d_Mo_begins 10 rfl) rfl f_Mo_314w (oi_mk (by decide +kernel)) (fun h => absurd h (by decide)) (by decide) ?_
  refine x_iconst (dat d_Mo_begins 11 rfl) (by decide) ?_
  refine x_istore_n (L' := [vR 174, vI 0]) (dat d_Mo_begins 12 rfl) rfl (by decide) rfl rfl ?_
  refine lp Z _ (by rw [up_ni (by decide), up_s]; exact hal) (by rw [up_s]) (fun i i1 i2 => by rw [up_ni (Ne.symm i2), up_ni (Ne.symm i1)]) (fun o o1 => by rw [up_ne o1, up_ne o1]) 8 0 _ (by omega) ⟨fun p p0 p1 => by omega, fun _ _ _ _ _ _ => rfl⟩
theorem EvLt.nxt {l : List Ev} {a b a' b' : Int} (h : EvLt l a b) (e : a < a' ∨ (a = a' ∧ b ≤ b')) : EvLt l a' b' := fun x hx => ⟨(h x hx).1, by have := (h x hx).2; omega⟩
theorem EvLt.cons {l : List Ev} {a b x : Int} (h : EvLt l a b) (ab : a < b) : EvLt ((a, b, x) :: l) a (b + 1) := fun e he => by
  rcases List.mem_cons.mp he with rfl | he
  · exact ⟨ab, Or.inr ⟨rfl, by show b < b + 1; omega⟩⟩
  · have := h e he
    exact ⟨this.1, by omega⟩
/-- within an hour that began with bread b0, paint p0, fevers i0, news n0 -/
def TwH (σ0 σ : xS) (P h : Int) (hd : Int → Int) (b0 : Int → Int) (p0 : Int → Bool) (i0 : Int × (Int → Bool)) (n0 : Int → Bool) (dr : Bool) (gl : Int → Bool) (kc : Int) (cum : List Ev) (s : Hs) : Prop :=
  MhX σ0 σ P h hd s.1 s.2 s.2 cum (pev s.2 (b0, p0)).2 (s.2.foldr (ilE dr gl kc) i0) (s.2.foldr (rchE (fun _ => false)) n0) ∧ (pev s.2 (b0, p0)).1 = s.1
theorem TwH.moc {σ0 σ : xS} {t : Int → Int} {t0 : Int} {C : Cf} {P h : Int} {hd : Int → Int} {b0 : Int → Int} {p0 : Int → Bool} {i0 : Int × (Int → Bool)} {n0 : Int → Bool} {dr : Bool} {gl : Int → Bool} {kc : Int} {cum : List Ev} {s : Hs} (H : TwH σ0 σ P h hd b0 p0 i0 n0 dr gl kc cum s) (H0 : MoC σ0 t t0 C) : MoC σ t t0 C :=
  H0.same ⟨fun i _ i2 i3 _ i5 i6 => H.1.2.2.1 i i2 i3 i5 i6, fun o ho => H.1.2.2.2.2.2 o (by omega) (by omega) (by omega) (by omega) (by omega) (by omega) (by omega) (by omega)⟩
theorem lp_Mo_inn {g : xG} {Z : xZ} {K : Option MV → xS → Prop} {σ0 : xS} {t : Int → Int} {t0 : Int} {C : Cf} {h a kc T : Int} {hd b0 : Int → Int} {p0 al n0 : Int → Bool} {i0 : Int × (Int → Bool)} {dr : Bool} {cum : List Ev} (H0 : MoC σ0 t t0 C) (h0 : 0 ≤ h) (h1 : h < 24) (ha : 0 ≤ a) (haP : a < t 6) (hT : T ≤ 1000) (hal : Msk 8 (σ0 174 35) al) (hhd : ∀ p : Int, 0 ≤ p → p < t 6 → 0 ≤ hd p ∧ hd p ≤ 1000) (hdr : σ0 174 39 = if dr = true then 1 else 0) (hkc : σ0 174 41 = kc) : ∀ (n : Nat) (b : Int) (σ : xS) (s : Hs), a < b → b + n = t 6 → TwH σ0 σ (t 6) h hd b0 p0 i0 n0 dr (cGl C) kc cum s → BdOk (cS C 0) T s.1 → EvsOk (cS C 0) s.2 → EvLt s.2 a b → s.2.length + n ≤ 28 →
    (∀ (σ' : xS) (w : MV), TwH σ0 σ' (t 6) h hd b0 p0 i0 n0 dr (cGl C) kc cum (inn (stp C h al a) n b s) → EvLt (inn (stp C h al a) n b s).2 a (t 6) → Wx g y_Mo_runs Z K 143 [vR 174, vI h, vI a, w] [] σ') →
    Wx g y_Mo_runs Z K 112 [vR 174, vI h, vI a, vI b] [] σ := by
  have h6 := H0.1.2.2.2.2.2.2.2.1
  have eP := H0.P.1
  intro n
  induction n with
  | zero =>
    intro b σ s hab hb H hB hE hL hl k
    have M1 := (H.moc H0).1.1
    refine x_iload_n (dat d_Mo_runs 73 rfl) rfl rfl ?_
    refine x_aload_n (dat d_Mo_runs 74 rfl) rfl rfl ?_
    refine x_inv (As := []) (dat d_Mo_runs 75 rfl) rfl c_Mo_people l_Mo_202 (by decide) (rv_mo (by decide +kernel)) rfl rfl (Nat.le_of_ble_eq_true rfl) ?_
    refine sp_Mo_people M1 ?_
    show Wx g y_Mo_runs Z K 117 [vR 174, vI h, vI a, vI b] [vI (t 6), vI b] σ
    refine x_icmp_ge (tgt := 143) (dat d_Mo_runs 76 rfl) (by decide) (fun c_117 => ?_) (fun c_117 => (by omega))
    exact k _ _ H (hL.nxt (Or.inr ⟨rfl, by omega⟩))
  | succ n ih =>
    intro b σ s hab hb H hB hE hL hl k
    have M1 := H.moc H0
    have hl1 : Msk 8 (σ 174 35) al := by rw [H.1.2.2.1 35 (by decide) (by decide) (by decide) (by decide)]; exact hal
    obtain ⟨g1, g2, g3⟩ := stp_ok (C := C) (h := h) (al := al) (s := s) hB hE ha hab (show b < cS C 0 by omega)
    have nx : ∀ σ2 : xS, TwH σ0 σ2 (t 6) h hd b0 p0 i0 n0 dr (cGl C) kc cum (stp C h al a b s) → EvLt (stp C h al a b s).2 a (b + 1) → Wx g y_Mo_runs Z K 112 [vR 174, vI h, vI a, vI (b + 1)] [] σ2 := fun σ2 H2 L2 => ih (b + 1) σ2 _ (by omega) (by omega) H2 g1 g2 L2 (by omega) k
    by_cases hs : shk C h al a b = true
    · have es : stp C h al a b s = (mvb s.1 a b (gvr C s.1 a b), (a, b, gvr C s.1 a b) :: s.2) := by
        unfold stp
        rw [if_pos hs]
      rw [es] at nx
      have fin : ∀ σ2 : xS, MhX σ0 σ2 (t 6) h hd (mvb s.1 a b (gvr C s.1 a b)) ((a, b, gvr C s.1 a b) :: s.2) ((a, b, gvr C s.1 a b) :: s.2) cum (pvE (a, b, gvr C s.1 a b) (s.1, (pev s.2 (b0, p0)).2)).2 (ilE dr (cGl C) kc (a, b, gvr C s.1 a b) (s.2.foldr (ilE dr (cGl C) kc) i0)) (rchE (fun _ => false) (a, b, gvr C s.1 a b) (s.2.foldr (rchE (fun _ => false)) n0)) → Wx g y_Mo_runs Z K 112 [vR 174, vI h, vI a, vI (b + 1)] [] σ2 := by
        intro σ2 N
        have ep : pev ((a, b, gvr C s.1 a b) :: s.2) (b0, p0) = pvE (a, b, gvr C s.1 a b) (s.1, (pev s.2 (b0, p0)).2) := by
          rw [pev_c, ← H.2]
        refine nx σ2 ⟨?_, ?_⟩ (hL.cons hab)
        · show MhX σ0 σ2 (t 6) h hd (mvb s.1 a b (gvr C s.1 a b)) ((a, b, gvr C s.1 a b) :: s.2) ((a, b, gvr C s.1 a b) :: s.2) cum (pev ((a, b, gvr C s.1 a b) :: s.2) (b0, p0)).2 _ _
          rw [ep]
          exact N
        · show (pev ((a, b, gvr C s.1 a b) :: s.2) (b0, p0)).1 = mvb s.1 a b (gvr C s.1 a b)
          rw [ep]
          unfold pvE
          by_cases z : gvr C s.1 a b = -1
          · rw [if_pos z]
            unfold mvb
            rw [if_pos z]
          · rw [if_neg z]
      refine x_iload_n (dat d_Mo_runs 73 rfl) rfl rfl ?_
      refine x_aload_n (dat d_Mo_runs 74 rfl) rfl rfl ?_
      refine x_inv (As := []) (dat d_Mo_runs 75 rfl) rfl c_Mo_people l_Mo_202 (by decide) (rv_mo (by decide +kernel)) rfl rfl (Nat.le_of_ble_eq_true rfl) ?_
      refine sp_Mo_people M1.1.1 ?_
      show Wx g y_Mo_runs Z K 117 [vR 174, vI h, vI a, vI b] [vI (t 6), vI b] σ
      refine x_icmp_ge (tgt := 143) (dat d_Mo_runs 76 rfl) (by decide) (fun c_117 => (by omega)) (fun c_117 => ?_)
      refine x_aload_n (dat d_Mo_runs 77 rfl) rfl rfl ?_
      refine x_iload_n (dat d_Mo_runs 78 rfl) rfl rfl ?_
      refine x_iload_n (dat d_Mo_runs 79 rfl) rfl rfl ?_
      refine x_iload_n (dat d_Mo_runs 80 rfl) rfl rfl ?_
      refine x_inv (As := [vI a, vI b, vI h]) (dat d_Mo_runs 81 rfl) rfl c_Mo_areShaking l_Mo_326 (by decide) (rv_mo (by decide +kernel)) rfl rfl (Nat.le_of_ble_eq_true rfl) ?_
      refine sp_Mo_areShaking M1 ha hab (by omega) h0 h1 hl1 (fun _ => ?_) (fun w => absurd hs w)
      show Wx g y_Mo_runs Z K 127 [vR 174, vI h, vI a, vI b] [vI 1] σ
      refine x_if_eq (tgt := 137) (dat d_Mo_runs 82 rfl) (by decide) (fun h => absurd h (by decide)) (fun c_127 => ?_)
      refine x_aload_n (dat d_Mo_runs 83 rfl) rfl rfl ?_
      refine x_iload_n (dat d_Mo_runs 84 rfl) rfl rfl ?_
      refine x_iload_n (dat d_Mo_runs 85 rfl) rfl rfl ?_
      refine x_iload_n (dat d_Mo_runs 86 rfl) rfl rfl ?_
      refine x_inv (As := [vI a, vI b, vI h]) (dat d_Mo_runs 87 rfl) rfl c_Mo_shake l_Mo_329 (by decide) (rv_mo (by decide +kernel)) rfl rfl (Nat.le_of_ble_eq_true rfl) ?_
      refine sp_Mo_shake H0 rfl h0 h1 ha hab (by omega) H.1 hL (by omega) hhd (fun p q0 q1 => by have := hB.le q0 (by omega); omega) hdr hkc (fun σ2 N => ?_)
      show Wx g y_Mo_runs Z K 137 [vR 174, vI h, vI a, vI b] [] σ2
      refine x_iinc (v' := b + 1) (L' := [vR 174, vI h, vI a, vI (b + 1)]) (dat d_Mo_runs 88 rfl) rfl (by decide) rfl rfl (by omega) rfl ?_
      refine x_goto (tgt := 112) (dat d_Mo_runs 89 rfl) (by decide) ?_
      exact fin _ N
    · have es : stp C h al a b s = s := by
        unfold stp
        rw [if_neg hs]
      rw [es] at nx
      refine x_iload_n (dat d_Mo_runs 73 rfl) rfl rfl ?_
      refine x_aload_n (dat d_Mo_runs 74 rfl) rfl rfl ?_
      refine x_inv (As := []) (dat d_Mo_runs 75 rfl) rfl c_Mo_people l_Mo_202 (by decide) (rv_mo (by decide +kernel)) rfl rfl (Nat.le_of_ble_eq_true rfl) ?_
      refine sp_Mo_people M1.1.1 ?_
      show Wx g y_Mo_runs Z K 117 [vR 174, vI h, vI a, vI b] [vI (t 6), vI b] σ
      refine x_icmp_ge (tgt := 143) (dat d_Mo_runs 76 rfl) (by decide) (fun c_117 => (by omega)) (fun c_117 => ?_)
      refine x_aload_n (dat d_Mo_runs 77 rfl) rfl rfl ?_
      refine x_iload_n (dat d_Mo_runs 78 rfl) rfl rfl ?_
      refine x_iload_n (dat d_Mo_runs 79 rfl) rfl rfl ?_
      refine x_iload_n (dat d_Mo_runs 80 rfl) rfl rfl ?_
      refine x_inv (As := [vI a, vI b, vI h]) (dat d_Mo_runs 81 rfl) rfl c_Mo_areShaking l_Mo_326 (by decide) (rv_mo (by decide +kernel)) rfl rfl (Nat.le_of_ble_eq_true rfl) ?_
      refine sp_Mo_areShaking M1 ha hab (by omega) h0 h1 hl1 (fun w => absurd w hs) (fun _ => ?_)
      show Wx g y_Mo_runs Z K 127 [vR 174, vI h, vI a, vI b] [vI 0] σ
      refine x_if_eq (tgt := 137) (dat d_Mo_runs 82 rfl) (by decide) (fun c_127 => ?_) (fun h => absurd h (by decide))
      refine x_iinc (v' := b + 1) (L' := [vR 174, vI h, vI a, vI (b + 1)]) (dat d_Mo_runs 88 rfl) rfl (by decide) rfl rfl (by omega) rfl ?_
      refine x_goto (tgt := 112) (dat d_Mo_runs 89 rfl) (by decide) ?_
      exact nx _ H (hL.nxt (Or.inr ⟨rfl, by omega⟩))
theorem lp_Mo_out {g : xG} {Z : xZ} {K : Option MV → xS → Prop} {σ0 : xS} {t : Int → Int} {t0 : Int} {C : Cf} {h kc T : Int} {hd b0 : Int → Int} {p0 al n0 : Int → Bool} {i0 : Int × (Int → Bool)} {dr : Bool} {cum : List Ev} (H0 : MoC σ0 t t0 C) (h0 : 0 ≤ h) (h1 : h < 24) (hT : T ≤ 1000) (hal : Msk 8 (σ0 174 35) al) (hhd : ∀ p : Int, 0 ≤ p → p < t 6 → 0 ≤ hd p ∧ hd p ≤ 1000) (hdr : σ0 174 39 = if dr = true then 1 else 0) (hkc : σ0 174 41 = kc) : ∀ (n k0 : Nat) (σ : xS) (s : Hs) (w3 : MV), (k0 : Int) + n = t 6 → TwH σ0 σ (t 6) h hd b0 p0 i0 n0 dr (cGl C) kc cum s → BdOk (cS C 0) T s.1 → EvsOk (cS C 0) s.2 → EvLt s.2 k0 (k0 + 1) → s.2.length ≤ pbN k0 →
    (∀ (σ' : xS) (w2 w3 : MV), TwH σ0 σ' (t 6) h hd b0 p0 i0 n0 dr (cGl C) kc cum (outr C h al n k0 s) → Wx g y_Mo_runs Z K 149 [vR 174, vI h, w2, w3] [] σ') →
    Wx g y_Mo_runs Z K 100 [vR 174, vI h, vI (k0 : Int), w3] [] σ := by
  have h6 := H0.1.2.2.2.2.2.2.2.1
  have eP := H0.P.1
  intro n
  induction n with
  | zero =>
    intro k0 σ s w3 hk H hB hE hL hl k
    have M1 := (H.moc H0).1.1
    refine x_iload_n (dat d_Mo_runs 65 rfl) rfl rfl ?_
    refine x_aload_n (dat d_Mo_runs 66 rfl) rfl rfl ?_
    refine x_inv (As := []) (dat d_Mo_runs 67 rfl) rfl c_Mo_people l_Mo_202 (by decide) (rv_mo (by decide +kernel)) rfl rfl (Nat.le_of_ble_eq_true rfl) ?_
    refine sp_Mo_people M1 ?_
    show Wx g y_Mo_runs Z K 105 [vR 174, vI h, vI (k0 : Int), w3] [vI (t 6), vI (k0 : Int)] σ
    refine x_icmp_ge (tgt := 149) (dat d_Mo_runs 68 rfl) (by decide) (fun c_105 => ?_) (fun c_105 => (by omega))
    exact k _ _ _ H
  | succ n ih =>
    intro k0 σ s w3 hk H hB hE hL hl k
    have M1 := (H.moc H0).1.1
    obtain ⟨g1, g2, g3⟩ := inn_ok (h := h) (al := al) (a := (k0 : Int)) (by omega) (cS C 0 - (k0 + 1)).toNat ((k0 : Int) + 1) s (by omega) (by omega) hB hE
    have hl2 : (inn (stp C h al k0) (cS C 0 - (k0 + 1)).toNat (k0 + 1) s).2.length ≤ pbN (k0 + 1) := by
      simp only [pbN]
      omega
    have hl3 : pbN (k0 + 1) ≤ 28 := pbN_8 _ (by omega)
    have hl4 : pbN k0 + (7 - k0) ≤ 28 := hl3
    have nx : ∀ (σ2 : xS) (w : MV), TwH σ0 σ2 (t 6) h hd b0 p0 i0 n0 dr (cGl C) kc cum (inn (stp C h al k0) (cS C 0 - (k0 + 1)).toNat ((k0 : Int) + 1) s) → EvLt (inn (stp C h al k0) (cS C 0 - (k0 + 1)).toNat ((k0 : Int) + 1) s).2 k0 (t 6) → Wx g y_Mo_runs Z K 143 [vR 174, vI h, vI (k0 : Int), w] [] σ2 := by
      intro σ2 w H2 L2
      refine x_iinc (v' := ((k0 + 1 : Nat) : Int)) (L' := [vR 174, vI h, vI ((k0 + 1 : Nat) : Int), w]) (dat d_Mo_runs 90 rfl) rfl (by decide) rfl (by omega) (by omega) rfl ?_
      refine x_goto (tgt := 100) (dat d_Mo_runs 91 rfl) (by decide) ?_
      refine ih (k0 + 1) σ2 _ _ (by omega) H2 g1 g2 (L2.nxt (Or.inl (by omega))) hl2 ?_
      have e : outr C h al (n + 1) k0 s = outr C h al n ((k0 + 1 : Nat) : Int) (inn (stp C h al k0) (cS C 0 - (k0 + 1)).toNat (k0 + 1) s) := rfl
      rw [← e]
      exact k
    refine x_iload_n (dat d_Mo_runs 65 rfl) rfl rfl ?_
    refine x_aload_n (dat d_Mo_runs 66 rfl) rfl rfl ?_
    refine x_inv (As := []) (dat d_Mo_runs 67 rfl) rfl c_Mo_people l_Mo_202 (by decide) (rv_mo (by decide +kernel)) rfl rfl (Nat.le_of_ble_eq_true rfl) ?_
    refine sp_Mo_people M1 ?_
    show Wx g y_Mo_runs Z K 105 [vR 174, vI h, vI (k0 : Int), w3] [vI (t 6), vI (k0 : Int)] σ
    refine x_icmp_ge (tgt := 149) (dat d_Mo_runs 68 rfl) (by decide) (fun c_105 => (by omega)) (fun c_105 => ?_)
    refine x_iload_n (dat d_Mo_runs 69 rfl) rfl rfl ?_
    refine x_iconst (dat d_Mo_runs 70 rfl) (by decide) ?_
    refine x_iadd (v := (k0 : Int) + 1) (dat d_Mo_runs 71 rfl) rfl (by omega) ?_
    refine x_istore_n (L' := [vR 174, vI h, vI (k0 : Int), vI ((k0 : Int) + 1)]) (dat d_Mo_runs 72 rfl) rfl (by decide) rfl rfl ?_
    exact lp_Mo_inn H0 h0 h1 (by omega) (by omega) hT hal hhd hdr hkc (cS C 0 - (k0 + 1)).toNat ((k0 : Int) + 1) σ s (by omega) (by omega) H hB hE hL (by omega) nx
