/-! a town told as a text -/
theorem nmB_len : ∀ (vs tl : List Int), (nmB vs tl).length ≤ 4 * vs.length + tl.length
  | [], tl => by simp [nmB]
  | [v], tl => by
    have := dgB_len v
    simp only [nmB, List.length_append, List.length_cons, List.length_nil]
    omega
  | v :: u :: vs, tl => by
    have := dgB_len v
    have := nmB_len (u :: vs) tl
    simp only [nmB, List.length_append, List.length_cons] at *
    omega
theorem perX_len {t : Int → Int} (hT : TRg t) {p : Nat} (hp : (p : Int) < t 6) (tl : List Int) : (perX t p tl).length ≤ 57 + tl.length := by
  obtain ⟨a1, a2, a3, a4, a5, a6⟩ := hT.2.1 p hp
  have e1 : (extX t p tl).length ≤ 15 + tl.length := by
    unfold extX
    split
    · have := nmB_len [(p : Int), t (13 + 4 * p)] (59 :: tl)
      simp only [List.length_append, List.length_cons, List.length_nil] at *
      omega
    · omega
  have e2 : (errX t p (extX t p tl)).length ≤ 24 + (extX t p tl).length := by
    unfold errX
    split
    · have h1 := nmB_len ((p : Int) :: cellL t p) (59 :: extX t p tl)
      have h2 := cellL_len (t := t) p
      simp only [List.length_append, List.length_cons, List.length_nil] at *
      omega
    · omega
  have e3 := nmB_len [t (11 + 4 * p), t (12 + 4 * p)] (59 :: errX t p (extX t p tl))
  have e4 := wB_len ((lgV.getD 1 []).getD (t (10 + 4 * p)).toNat 0)
  unfold perX manW
  simp only [List.length_append, List.length_cons, List.length_nil] at *
  omega
theorem psX_len {t : Int → Int} (hT : TRg t) (tl : List Int) : ∀ m p : Nat, ((p + m : Nat) : Int) ≤ t 6 → (psX t m p tl).length ≤ 57 * m + tl.length
  | 0, p, h => by simp [psX]
  | m + 1, p, h => by
    have h1 := psX_len hT tl m (p + 1) (by omega)
    have h2 := perX_len hT (p := p) (by omega) (psX t m (p + 1) tl)
    simp only [psX]
    omega
theorem qsX_len {t : Int → Int} : ∀ m k : Nat, (qsX t m k []).length ≤ 17 * m
  | 0, k => by simp [qsX]
  | m + 1, k => by
    have h1 := qsX_len (t := t) m (k + 1)
    have h2 := nmB_len [t (160 + 2 * k), t (161 + 2 * k)] (59 :: qsX t m (k + 1) [])
    simp only [qsX, quX]
    simp only [List.length_append, List.length_cons, List.length_nil] at *
    omega
theorem twX_len {t : Int → Int} (hT : TRg t) : (twX t).length ≤ 600 := by
  have h6 := hT.1.2.2.2.2.2.2.1
  have h7 := hT.1.2.2.2.2.2.2.2
  have h1 := psX_len hT (qsX t (t 7).toNat 0 []) (t 6).toNat 0 (by omega)
  have h2 := qsX_len (t := t) (t 7).toNat 0
  have e1 := nmB_len [t 4, t 5] (59 :: psX t (t 6).toNat 0 (qsX t (t 7).toNat 0 []))
  have e2 := nmB_len [t 3] (59 :: ([101, 97, 116] ++ 32 :: nmB [t 4, t 5] (59 :: psX t (t 6).toNat 0 (qsX t (t 7).toNat 0 []))))
  have e3 := wB_len ((lgV.getD 0 []).getD (t 2).toNat 0)
  have e4 := nmB_len [t 0, t 1] (59 :: ([108, 97, 119] ++ 32 :: (lawW (t 2).toNat ++ 59 :: ([104, 111, 117, 114, 115] ++ 32 :: nmB [t 3] (59 :: ([101, 97, 116] ++ 32 :: nmB [t 4, t 5] (59 :: psX t (t 6).toNat 0 (qsX t (t 7).toNat 0 []))))))))
  unfold twX hdX lawW at *
  simp only [List.length_append, List.length_cons, List.length_nil] at *
  omega
/-- on the way: rest is what is still to be put of T -/
def PtE (σ : xS) (a : Int → Int) (im : Nat → Int → Int) (T rest : List Int) : Prop := T.length ≤ 600 ∧ ∃ bs, PtS σ a im bs ∧ bs ++ rest = T
theorem sp_put' {g : xG} {K : Option MV → xS → Prop} {σ : xS} {a : Int → Int} {im : Nat → Int → Int} {T rest : List Int} {x : Int} (H : PtE σ a im T (x :: rest)) (hx : 0 ≤ x ∧ x ≤ 255) (k : ∀ σ' : xS, PtE σ' a im T rest → LwF σ' σ → K none σ') : Mt g y_Lw_put [vR 0, vR 174, vI x] σ K := by
  obtain ⟨hl, bs, H1, e⟩ := H
  exact sp_Lw_put H1 hx (by rw [← e, List.length_append, List.length_cons] at hl; omega) (fun σ1 H2 F => k σ1 ⟨hl, _, H2, by rw [List.append_assoc]; exact e⟩ F)
theorem sp_word' {g : xG} {K : Option MV → xS → Prop} {σ : xS} {a : Int → Int} {im : Nat → Int → Int} {T rest : List Int} {w : Int} (H : PtE σ a im T (wB w ++ rest)) (hw : 0 ≤ w ∧ w < 9223372036854775808) (k : ∀ σ' : xS, PtE σ' a im T rest → LwF σ' σ → K none σ') : Mt g y_Lw_word [vR 0, vR 174, vL w] σ K := by
  obtain ⟨hl, bs, H1, e⟩ := H
  exact sp_Lw_word H1 hw (by rw [← e, List.length_append, List.length_append] at hl; omega) (fun σ1 H2 F => k σ1 ⟨hl, _, H2, by rw [List.append_assoc]; exact e⟩ F)
theorem sp_more' {g : xG} {K : Option MV → xS → Prop} {σ : xS} {a : Int → Int} {im : Nat → Int → Int} {T rest : List Int} {v : Int} (H : PtE σ a im T (mB v ++ rest)) (hv : 0 ≤ v ∧ v < 100) (k : ∀ σ' : xS, PtE σ' a im T rest → LwF σ' σ → K none σ') : Mt g y_Lw_more [vR 0, vR 174, vI v] σ K := by
  obtain ⟨hl, bs, H1, e⟩ := H
  exact sp_Lw_more H1 hv (by rw [← e, List.length_append, List.length_append] at hl; omega) (fun σ1 H2 F => k σ1 ⟨hl, _, H2, by rw [List.append_assoc]; exact e⟩ F)
theorem PtE.eq {σ : xS} {a : Int → Int} {im : Nat → Int → Int} {T r r' : List Int} (H : PtE σ a im T r) (e : r = r') : PtE σ a im T r' := e ▸ H
def cF (t : Int → Int) (p : Nat) : Nat → Nat → List Int → List Int
  | 0, _, tl => tl
  | m + 1, k, tl => mB (t (60 + 12 * p + k)) ++ cF t p m (k + 1) tl
theorem nm_mB : ∀ (v : Int) (vs tl : List Int), 32 :: nmB (v :: vs) tl = mB v ++ vs.foldr (fun x l => mB x ++ l) tl
  | v, [], tl => by simp [nmB, mB, nB]
  | v, u :: vs, tl => by
    have := nm_mB u vs tl
    simp only [nmB, mB, nB, List.foldr_cons, List.append_assoc, List.cons_append, List.nil_append] at this ⊢
    rw [this]
theorem cF_eq {t : Int → Int} {p : Nat} {tl : List Int} : ∀ (m k : Nat), ((List.range' k m).map (fun j => t (60 + 12 * p + (j : Nat)))).foldr (fun x l => mB x ++ l) tl = cF t p m k tl
  | 0, k => rfl
  | m + 1, k => by
    simp only [List.range'_succ, List.map_cons, List.foldr_cons, cF]
    rw [cF_eq m (k + 1)]
theorem errX_eq {t : Int → Int} {p : Nat} {tl : List Int} (h : 0 < t (50 + p)) : errX t p tl = wB 111542219664996 ++ (mB p ++ cF t p (t (50 + p)).toNat 0 (59 :: tl)) := by
  unfold errX
  rw [if_pos h, nm_mB, show wB 111542219664996 = [101, 114, 114, 97, 110, 100] by decide +kernel]
  unfold cellL
  rw [List.range_eq_range', cF_eq]
theorem extX_eq {t : Int → Int} {p : Nat} {tl : List Int} (h : 0 < t (13 + 4 * p)) : extX t p tl = wB 435812594273 ++ (mB p ++ (mB (t (13 + 4 * p)) ++ 59 :: tl)) := by
  unfold extX
  rw [if_pos h, nm_mB, show wB 435812594273 = [101, 120, 116, 114, 97] by decide +kernel]
  rfl
theorem perX_eq {t : Int → Int} {p : Nat} {tl : List Int} : perX t p tl = wB ((lgV.getD 1 []).getD (t (10 + 4 * p)).toNat 0) ++ (mB (t (11 + 4 * p)) ++ (mB (t (12 + 4 * p)) ++ 59 :: errX t p (extX t p tl))) := by
  unfold perX manW
  rw [nm_mB]
  rfl
theorem quX_eq {t : Int → Int} {k : Nat} {tl : List Int} : quX t k tl = wB 31935733760681324 ++ (mB (t (160 + 2 * k)) ++ (mB (t (161 + 2 * k)) ++ 59 :: tl)) := by
  unfold quX
  rw [nm_mB, show wB 31935733760681324 = [113, 117, 97, 114, 114, 101, 108] by decide +kernel]
  rfl
theorem hdX_eq {t : Int → Int} {tl : List Int} : hdX t tl = wB 1936292453 ++ (mB (t 0) ++ (mB (t 1) ++ (wB 996958583 ++ (32 :: (wB ((lgV.getD 0 []).getD (t 2).toNat 0) ++ (wB 65319732605555 ++ (mB (t 3) ++ (wB 996499828 ++ (mB (t 4) ++ (mB (t 5) ++ 59 :: tl)))))))))) := by
  unfold hdX lawW
  rw [nm_mB, nm_mB, nm_mB, show wB 1936292453 = [115, 105, 122, 101] by decide +kernel, show wB 996958583 = [59, 108, 97, 119] by decide +kernel, show wB 65319732605555 = [59, 104, 111, 117, 114, 115] by decide +kernel, show wB 996499828 = [59, 101, 97, 116] by decide +kernel]
  simp only [List.foldr_cons, List.foldr_nil, List.cons_append, List.nil_append]
theorem lg_rng : ∀ q : Nat, q < 2 → ∀ m : Nat, m < 4 → 0 ≤ (lgV.getD q []).getD m 0 ∧ (lgV.getD q []).getD m 0 < 9223372036854775808 := by decide +kernel
/-- what a town told makes of all that is told -/
def NwT (a a' : Int → Int) (d : Int) (t : Int → Int) : Prop := (a' 0 = (if a 0 < d + 1 then d + 1 else a 0) ∧ a' 1 = a 1) ∧ RwQ t (t 7).toNat (tw a' d) ∧ (∀ n : Int, 0 ≤ n → n ≠ d → n < 2 → tw a' n = tw a n) ∧ ∀ n : Int, 0 ≤ n → bk a' n = bk a n
theorem RwQ.cg {t r r' : Int → Int} {k : Nat} (hT : TRg t) (h : RwQ t k r) (hk : k ≤ 3) (e : ∀ x : Int, 0 ≤ x → x < 156 → r' x = r x) : RwQ t k r' := by
  have h6 := hT.1.2.2.2.2.2.2.1
  obtain ⟨hH, ⟨r6, r7⟩, hP, hQ⟩ := h
  refine ⟨?_, ⟨by rw [e 6 (by decide) (by decide)]; exact r6, by rw [e 7 (by decide) (by decide)]; exact r7⟩, fun i hi => (hP i hi).cg (fun x h1 h2 => e x (by omega) (by omega)) (by have := (hT.2.1 i hi).2.2.2.2.1; omega), fun i hi => ?_⟩
  · obtain ⟨g0, g1, g2, g3, g4, g5⟩ := hH
    exact ⟨by rw [e 0 (by decide) (by decide)]; exact g0, by rw [e 1 (by decide) (by decide)]; exact g1, by rw [e 2 (by decide) (by decide)]; exact g2, by rw [e 3 (by decide) (by decide)]; exact g3, by rw [e 4 (by decide) (by decide)]; exact g4, by rw [e 5 (by decide) (by decide)]; exact g5⟩
  · rw [e _ (by omega) (by omega), e _ (by omega) (by omega)]
    exact hQ i hi
theorem sp_Lw_town {g : xG} {K : Option MV → xS → Prop} {σ : xS} {a t : Int → Int} {im : Nat → Int → Int} {w d : Int} (H : PtS σ a im []) (hT : TRg t) (ht : ∀ i : Int, 0 ≤ i → i < 180 → σ 175 i = t i) (hd : nfT a 0 w = d) (d0 : 0 ≤ d ∧ d < 2) (k : ∀ (σ' : xS) (a' : Int → Int), PtS σ' a' im [] → NwT a a' d t → LwF σ' σ → K (some (vI 1)) σ') : Mt g y_Lw_town [vR 0, vR 174, vR 175, vI w, vI d] σ K := by
  obtain ⟨⟨t0, t1, t2, t3, t4, t5, t6, t7⟩, hP, hQ⟩ := hT
  have hT : TRg t := ⟨⟨t0, t1, t2, t3, t4, t5, t6, t7⟩, hP, hQ⟩
  have H0 : PtE σ a im (twX t) (twX t) := ⟨twX_len hT, [], H, rfl⟩
  have HS := H0.eq (hdX_eq (t := t))
  -- the end
  have fin : ∀ (Z : xZ) (w5 w6 : MV) (σ1 : xS), PtE σ1 a im (twX t) [] → LwF σ1 σ → Wx g y_Lw_town Z K 349 [vR 0, vR 174, vR 175, vI w, vI d, w5, w6] [] σ1 := fun Z w5 w6 σ1 H1 F1 => by
    obtain ⟨hl, bs, H2, e⟩ := H1
    rw [List.append_nil] at e
    subst e
    refine x_aload_n (dat d_Lw_town 213 rfl) rfl rfl ?_
    refine x_aload_n (dat d_Lw_town 214 rfl) rfl rfl ?_
    refine x_invs (As := [vR 0, vR 174]) (dat d_Lw_town 215 rfl) rfl c_Lw_ends l_Lw_60 (by decide) rfl rfl (Nat.le_of_ble_eq_true rfl) ?_
    refine sp_Lw_ends H2 hl (fun σ2 H3 F2 => ?_)
    obtain ⟨⟨q5, q6⟩, a2, S2, st2, e2, tx⟩ := H3
    have hx : Tx (fun i => a2 (10 + i)) (a2 2) 0 (twX t) := ⟨by rw [e2]; omega, fun i hi => by show a2 (10 + (0 + (i : Int))) = _; rw [Int.zero_add]; exact tx i hi⟩
    obtain ⟨f0, fr⟩ := town_read hT hx
    have hn : nfT a2 0 w = d := by rw [← hd]; unfold nfT; rw [st2 0 (by omega)]
    have eA : textA a2 0 w = putT (st3 a2 0 0 (-1)) d (rowP (fun i => a2 (10 + i)) (a2 2) 0) := by
      unfold textA
      rw [if_neg (by rw [hn]; omega), f0, if_neg (by decide), if_pos rfl, hn]
    have eR : textR a2 0 w = d := by
      unfold textR
      rw [if_neg (by rw [hn]; omega), f0, if_neg (by decide), hn]
    show Wx g y_Lw_town Z K 354 [vR 0, vR 174, vR 175, vI w, vI d, w5, w6] [vI 1] σ2
    refine x_if_eq (tgt := 380) (dat d_Lw_town 216 rfl) (by decide) (fun h => absurd h (by decide)) (fun c_354 => ?_)
    refine x_aload_n (dat d_Lw_town 217 rfl) rfl rfl ?_
    refine x_iconst (dat d_Lw_town 218 rfl) (by decide) ?_
    refine x_iload_n (dat d_Lw_town 219 rfl) rfl rfl ?_
    refine x_inv (As := [vI 0, vI w]) (dat d_Lw_town 220 rfl) rfl c_Sb_text l_Lw_64 (by decide) (rv_sb (by decide +kernel)) rfl rfl (Nat.le_of_ble_eq_true rfl) ?_
    refine sp_Sb_text S2 (fun σ3 S3 _ F3 => ?_)
    rw [eA] at S3
    rw [eR]
    show Wx g y_Lw_town Z K 363 [vR 0, vR 174, vR 175, vI w, vI d, w5, w6] [vI d] σ3
    refine x_iload (dat d_Lw_town 221 rfl) rfl ?_
    refine x_icmp_ne (tgt := 380) (dat d_Lw_town 222 rfl) (by decide) (fun h => (by omega)) (fun c_365 => ?_)
    refine x_aload_n (dat d_Lw_town 223 rfl) rfl rfl ?_
    refine x_iconst (dat d_Lw_town 224 rfl) (by decide) ?_
    refine x_inv (As := [vI 0]) (dat d_Lw_town 225 rfl) rfl c_Sb_fault l_Lw_68 (by decide) (rv_sb (by decide +kernel)) rfl rfl (Nat.le_of_ble_eq_true rfl) ?_
    refine sp_Sb_fault S3 ?_
    have e3 : putT (st3 a2 0 0 (-1)) d (rowP (fun i => a2 (10 + i)) (a2 2) 0) 3 = 0 := by
      unfold putT
      rw [if_neg (by decide), if_neg (by omega)]
      rfl
    rw [if_pos rfl, e3]
    show Wx g y_Lw_town Z K 373 [vR 0, vR 174, vR 175, vI w, vI d, w5, w6] [vI 0] σ3
    refine x_if_ne (tgt := 380) (dat d_Lw_town 226 rfl) (by decide) (fun h => absurd h (by decide)) (fun c_373 => ?_)
    refine x_iconst (dat d_Lw_town 227 rfl) (by decide) ?_
    refine x_goto (tgt := 381) (dat d_Lw_town 228 rfl) (by decide) ?_
    refine x_zret (dat d_Lw_town 230 rfl) rfl (by decide) ?_
    refine k σ3 _ ⟨fun x hx => absurd hx List.not_mem_nil, ⟨by rw [F3 174 (by decide)]; exact q5, by rw [F3 174 (by decide)]; exact q6⟩, fun i _ hi => absurd hi (Nat.not_lt_zero i), _, S3, fun i _ => rfl, ?_, fun i hi => absurd hi (Nat.not_lt_zero i)⟩ ⟨⟨?_, ?_⟩, ?_, fun n n0 n1 n2 => ?_, fun n n0 => ?_⟩ (fun o ho => by rw [F3 o (by omega), F2 o ho, F1 o ho])
    · unfold putT
      rw [if_neg (by decide), if_neg (by omega)]
      rfl
    · unfold putT
      rw [if_pos rfl, show st3 a2 0 0 (-1) 0 = a2 0 from rfl, st2 0 (by omega)]
    · unfold putT
      rw [if_neg (by decide), if_neg (by omega), show st3 a2 0 0 (-1) 1 = a2 1 from rfl, st2 1 (by omega)]
    · refine RwQ.cg hT fr (by omega) (fun x x0 x1 => ?_)
      rw [tw_at x0 x1]
      exact putT_self d0.1 x0 x1
    · have e : ∀ i : Int, 0 ≤ i → i < 156 → putT (st3 a2 0 0 (-1)) d (rowP (fun i => a2 (10 + i)) (a2 2) 0) (610 + 156 * n + i) = a (610 + 156 * n + i) := fun i i0 i1 => by
        unfold putT
        rw [if_neg (by omega), if_neg (by omega)]
        unfold st3
        rw [if_neg (by omega), if_neg (by omega), if_neg (by omega)]
        exact st2 _ (by omega)
      exact tw_eq e
    · have e : ∀ i : Int, 0 ≤ i → i < 25 → putT (st3 a2 0 0 (-1)) d (rowP (fun i => a2 (10 + i)) (a2 2) 0) (922 + 25 * n + i) = a (922 + 25 * n + i) := fun i i0 i1 => by
        unfold putT
        rw [if_neg (by omega), if_neg (by omega)]
        unfold st3
        rw [if_neg (by omega), if_neg (by omega), if_neg (by omega)]
        exact st2 _ (by omega)
      exact bk_eq e
  -- quarrels
  have lq : ∀ (Z : xZ) (w6 : MV) (m k : Nat) (σ1 : xS), ((k + m : Nat) : Int) = t 7 → PtE σ1 a im (twX t) (qsX t m k []) → LwF σ1 σ → Wx g y_Lw_town Z K 293 [vR 0, vR 174, vR 175, vI w, vI d, vI (160 + 2 * (k : Int)), w6] [] σ1 := by
    intro Z w6 m
    induction m with
    | zero =>
      intro k σ1 hk H1 F1
      have eT : ∀ i : Int, 0 ≤ i → i < 180 → σ1 175 i = t i := fun i i0 i1 => by rw [F1 175 (by decide)]; exact ht i i0 i1
      refine x_iload (dat d_Lw_town 180 rfl) rfl ?_
      refine x_sipush (dat d_Lw_town 181 rfl) (by decide) (by decide) ?_
      refine x_iconst (dat d_Lw_town 182 rfl) (by decide) ?_
      refine x_aload_n (dat d_Lw_town 183 rfl) rfl rfl ?_
      refine x_bipush (dat d_Lw_town 184 rfl) (by decide) (by decide) ?_
      refine x_iald (n := 180) (v := t 7) (dat d_Lw_town 185 rfl) (ai_mk (by decide +kernel)) (by omega) (by omega) (by exact eT 7 (by decide) (by decide)) ?_
      refine x_imul (v := 2 * (t 7)) (dat d_Lw_town 186 rfl) rfl (by omega) ?_
      refine x_iadd (v := 160 + (2 * (t 7))) (dat d_Lw_town 187 rfl) rfl (by omega) ?_
      refine x_icmp_ge (tgt := 349) (dat d_Lw_town 188 rfl) (by decide) (fun c_305 => ?_) (fun c_305 => (by omega))
      exact fin Z _ _ σ1 H1 F1
    | succ m ih =>
      intro k σ1 hk H1 F1
      have eT : ∀ i : Int, 0 ≤ i → i < 180 → σ1 175 i = t i := fun i i0 i1 => by rw [F1 175 (by decide)]; exact ht i i0 i1
      obtain ⟨b1, b2, b3⟩ := hQ k (by omega)
      have HS := H1.eq (show qsX t (m + 1) k [] = _ from quX_eq (t := t))
      refine x_iload (dat d_Lw_town 180 rfl) rfl ?_
      refine x_sipush (dat d_Lw_town 181 rfl) (by decide) (by decide) ?_
      refine x_iconst (dat d_Lw_town 182 rfl) (by decide) ?_
      refine x_aload_n (dat d_Lw_town 183 rfl) rfl rfl ?_
      refine x_bipush (dat d_Lw_town 184 rfl) (by decide) (by decide) ?_
      refine x_iald (n := 180) (v := t 7) (dat d_Lw_town 185 rfl) (ai_mk (by decide +kernel)) (by omega) (by omega) (by exact eT 7 (by decide) (by decide)) ?_
      refine x_imul (v := 2 * (t 7)) (dat d_Lw_town 186 rfl) rfl (by omega) ?_
      refine x_iadd (v := 160 + (2 * (t 7))) (dat d_Lw_town 187 rfl) rfl (by omega) ?_
      refine x_icmp_ge (tgt := 349) (dat d_Lw_town 188 rfl) (by decide) (fun c_305 => (by omega)) (fun c_305 => ?_)
      refine x_aload_n (dat d_Lw_town 189 rfl) rfl rfl ?_
      refine x_aload_n (dat d_Lw_town 190 rfl) rfl rfl ?_
      refine x_ldc2 (own := "ShakenBreadLaw") (n := 31935733760681324) (dat d_Lw_town 191 rfl) rfl (gw_4 (i := 233) rfl rfl) (by decide) ?_
      refine x_invs (As := [vR 0, vR 174, vL 31935733760681324]) (dat d_Lw_town 192 rfl) rfl c_Lw_word l_Lw_34 (by decide) rfl rfl (Nat.le_of_ble_eq_true rfl) ?_
      refine sp_word' HS (by decide) (fun σ2 HS F2 => ?_)
      have eT : ∀ i : Int, 0 ≤ i → i < 180 → σ2 175 i = t i := fun i i0 i1 => by rw [F2 175 (by decide)]; exact eT i i0 i1
      show Wx g y_Lw_town Z K 316 [vR 0, vR 174, vR 175, vI w, vI d, vI (160 + 2 * (k : Int)), w6] [] σ2
      refine x_aload_n (dat d_Lw_town 193 rfl) rfl rfl ?_
      refine x_aload_n (dat d_Lw_town 194 rfl) rfl rfl ?_
      refine x_aload_n (dat d_Lw_town 195 rfl) rfl rfl ?_
      refine x_iload (dat d_Lw_town 196 rfl) rfl ?_
      refine x_iald (n := 180) (v := t (160 + 2 * (k : Int))) (dat d_Lw_town 197 rfl) (ai_mk (by decide +kernel)) (by omega) (by omega) (by exact eT _ (by omega) (by omega)) ?_
      refine x_invs (As := [vR 0, vR 174, vI (t (160 + 2 * (k : Int)))]) (dat d_Lw_town 198 rfl) rfl c_Lw_more l_Lw_38 (by decide) rfl rfl (Nat.le_of_ble_eq_true rfl) ?_
      refine sp_more' HS (by omega) (fun σ3 HS F3 => ?_)
      have eT : ∀ i : Int, 0 ≤ i → i < 180 → σ3 175 i = t i := fun i i0 i1 => by rw [F3 175 (by decide)]; exact eT i i0 i1
      show Wx g y_Lw_town Z K 325 [vR 0, vR 174, vR 175, vI w, vI d, vI (160 + 2 * (k : Int)), w6] [] σ3
      refine x_aload_n (dat d_Lw_town 199 rfl) rfl rfl ?_
      refine x_aload_n (dat d_Lw_town 200 rfl) rfl rfl ?_
      refine x_aload_n (dat d_Lw_town 201 rfl) rfl rfl ?_
      refine x_iload (dat d_Lw_town 202 rfl) rfl ?_
      refine x_iconst (dat d_Lw_town 203 rfl) (by decide) ?_
      refine x_iadd (v := 161 + 2 * (k : Int)) (dat d_Lw_town 204 rfl) (by omega) (by omega) ?_
      refine x_iald (n := 180) (v := t (161 + 2 * (k : Int))) (dat d_Lw_town 205 rfl) (ai_mk (by decide +kernel)) (by omega) (by omega) (by exact eT _ (by omega) (by omega)) ?_
      refine x_invs (As := [vR 0, vR 174, vI (t (161 + 2 * (k : Int)))]) (dat d_Lw_town 206 rfl) rfl c_Lw_more l_Lw_38 (by decide) rfl rfl (Nat.le_of_ble_eq_true rfl) ?_
      refine sp_more' HS (by omega) (fun σ4 HS F4 => ?_)
      show Wx g y_Lw_town Z K 336 [vR 0, vR 174, vR 175, vI w, vI d, vI (160 + 2 * (k : Int)), w6] [] σ4
      refine x_aload_n (dat d_Lw_town 207 rfl) rfl rfl ?_
      refine x_aload_n (dat d_Lw_town 208 rfl) rfl rfl ?_
      refine x_bipush (dat d_Lw_town 209 rfl) (by decide) (by decide) ?_
      refine x_invs (As := [vR 0, vR 174, vI 59]) (dat d_Lw_town 210 rfl) rfl c_Lw_put l_Lw_13 (by decide) rfl rfl (Nat.le_of_ble_eq_true rfl) ?_
      refine sp_put' HS (by decide) (fun σ5 HS F5 => ?_)
      show Wx g y_Lw_town Z K 343 [vR 0, vR 174, vR 175, vI w, vI d, vI (160 + 2 * (k : Int)), w6] [] σ5
      refine x_iinc (v' := 160 + 2 * ((k + 1 : Nat) : Int)) (L' := [vR 0, vR 174, vR 175, vI w, vI d, vI (160 + 2 * ((k + 1 : Nat) : Int)), w6]) (dat d_Lw_town 211 rfl) rfl (by decide) rfl (by omega) (by omega) rfl ?_
      refine x_goto (tgt := 293) (dat d_Lw_town 212 rfl) (by decide) ?_
      exact ih (k + 1) σ5 (by omega) HS (F5.trans (F4.trans (F3.trans (F2.trans F1))))
  -- an errand's cells
  have le : ∀ (Z : xZ) (p : Nat) (tl : List Int), (p : Int) < t 6 → (∀ (w6 : MV) (σ1 : xS), PtE σ1 a im (twX t) tl → LwF σ1 σ → Wx g y_Lw_town Z K 234 [vR 0, vR 174, vR 175, vI w, vI d, vI (p : Int), w6] [] σ1) → ∀ (m k : Nat) (σ1 : xS), ((k + m : Nat) : Int) = t (50 + p) → PtE σ1 a im (twX t) (cF t p m k (59 :: tl)) → LwF σ1 σ → Wx g y_Lw_town Z K 191 [vR 0, vR 174, vR 175, vI w, vI d, vI (p : Int), vI (k : Int)] [] σ1 := by
    intro Z p tl hp kk m
    obtain ⟨b1, b2, b3, b4, b5, b6⟩ := hP p hp
    induction m with
    | zero =>
      intro k σ1 hk H1 F1
      have eT : ∀ i : Int, 0 ≤ i → i < 180 → σ1 175 i = t i := fun i i0 i1 => by rw [F1 175 (by decide)]; exact ht i i0 i1
      refine x_iload (dat d_Lw_town 121 rfl) rfl ?_
      refine x_aload_n (dat d_Lw_town 122 rfl) rfl rfl ?_
      refine x_bipush (dat d_Lw_town 123 rfl) (by decide) (by decide) ?_
      refine x_iload (dat d_Lw_town 124 rfl) rfl ?_
      refine x_iadd (v := 50 + (p : Int)) (dat d_Lw_town 125 rfl) rfl (by omega) ?_
      refine x_iald (n := 180) (v := t (50 + (p : Int))) (dat d_Lw_town 126 rfl) (ai_mk (by decide +kernel)) (by omega) (by omega) (by exact eT _ (by omega) (by omega)) ?_
      refine x_icmp_ge (tgt := 227) (dat d_Lw_town 127 rfl) (by decide) (fun c_200 => ?_) (fun c_200 => (by omega))
      refine x_aload_n (dat d_Lw_town 142 rfl) rfl rfl ?_
      refine x_aload_n (dat d_Lw_town 143 rfl) rfl rfl ?_
      refine x_bipush (dat d_Lw_town 144 rfl) (by decide) (by decide) ?_
      refine x_invs (As := [vR 0, vR 174, vI 59]) (dat d_Lw_town 145 rfl) rfl c_Lw_put l_Lw_13 (by decide) rfl rfl (Nat.le_of_ble_eq_true rfl) ?_
      refine sp_put' H1 (by decide) (fun σ2 HS F2 => ?_)
      show Wx g y_Lw_town Z K 234 [vR 0, vR 174, vR 175, vI w, vI d, vI (p : Int), vI (k : Int)] [] σ2
      exact kk _ σ2 HS (F2.trans F1)
    | succ m ih =>
      intro k σ1 hk H1 F1
      have eT : ∀ i : Int, 0 ≤ i → i < 180 → σ1 175 i = t i := fun i i0 i1 => by rw [F1 175 (by decide)]; exact ht i i0 i1
      have := b6 k (by omega)
      refine x_iload (dat d_Lw_town 121 rfl) rfl ?_
      refine x_aload_n (dat d_Lw_town 122 rfl) rfl rfl ?_
      refine x_bipush (dat d_Lw_town 123 rfl) (by decide) (by decide) ?_
      refine x_iload (dat d_Lw_town 124 rfl) rfl ?_
      refine x_iadd (v := 50 + (p : Int)) (dat d_Lw_town 125 rfl) rfl (by omega) ?_
      refine x_iald (n := 180) (v := t (50 + (p : Int))) (dat d_Lw_town 126 rfl) (ai_mk (by decide +kernel)) (by omega) (by omega) (by exact eT _ (by omega) (by omega)) ?_
      refine x_icmp_ge (tgt := 227) (dat d_Lw_town 127 rfl) (by decide) (fun c_200 => (by omega)) (fun c_200 => ?_)
      refine x_aload_n (dat d_Lw_town 128 rfl) rfl rfl ?_
      refine x_aload_n (dat d_Lw_town 129 rfl) rfl rfl ?_
      refine x_aload_n (dat d_Lw_town 130 rfl) rfl rfl ?_
      refine x_bipush (dat d_Lw_town 131 rfl) (by decide) (by decide) ?_
      refine x_bipush (dat d_Lw_town 132 rfl) (by decide) (by decide) ?_
      refine x_iload (dat d_Lw_town 133 rfl) rfl ?_
      refine x_imul (v := 12 * (p : Int)) (dat d_Lw_town 134 rfl) rfl (by omega) ?_
      refine x_iadd (v := 60 + (12 * (p : Int))) (dat d_Lw_town 135 rfl) rfl (by omega) ?_
      refine x_iload (dat d_Lw_town 136 rfl) rfl ?_
      refine x_iadd (v := (60 + (12 * (p : Int))) + (k : Int)) (dat d_Lw_town 137 rfl) rfl (by omega) ?_
      refine x_iald (n := 180) (v := t (60 + 12 * (p : Int) + (k : Int))) (dat d_Lw_town 138 rfl) (ai_mk (by decide +kernel)) (by omega) (by omega) (by exact eT _ (by omega) (by omega)) ?_
      refine x_invs (As := [vR 0, vR 174, vI (t (60 + 12 * (p : Int) + (k : Int)))]) (dat d_Lw_town 139 rfl) rfl c_Lw_more l_Lw_38 (by decide) rfl rfl (Nat.le_of_ble_eq_true rfl) ?_
      refine sp_more' H1 (by omega) (fun σ2 HS F2 => ?_)
      show Wx g y_Lw_town Z K 221 [vR 0, vR 174, vR 175, vI w, vI d, vI (p : Int), vI (k : Int)] [] σ2
      refine x_iinc (v' := ((k + 1 : Nat) : Int)) (L' := [vR 0, vR 174, vR 175, vI w, vI d, vI (p : Int), vI ((k + 1 : Nat) : Int)]) (dat d_Lw_town 140 rfl) rfl (by decide) rfl (by omega) (by omega) rfl ?_
      refine x_goto (tgt := 191) (dat d_Lw_town 141 rfl) (by decide) ?_
      exact ih (k + 1) σ2 (by omega) HS (F2.trans F1)
  -- people
  have lp : ∀ (Z : xZ) (m p : Nat) (w6 : MV) (σ1 : xS), ((p + m : Nat) : Int) = t 6 → PtE σ1 a im (twX t) (psX t m p (qsX t (t 7).toNat 0 [])) → LwF σ1 σ → Wx g y_Lw_town Z K 101 [vR 0, vR 174, vR 175, vI w, vI d, vI (p : Int), w6] [] σ1 := by
    intro Z m
    induction m with
    | zero =>
      intro p w6 σ1 hp H1 F1
      have eT : ∀ i : Int, 0 ≤ i → i < 180 → σ1 175 i = t i := fun i i0 i1 => by rw [F1 175 (by decide)]; exact ht i i0 i1
      refine x_iload (dat d_Lw_town 64 rfl) rfl ?_
      refine x_aload_n (dat d_Lw_town 65 rfl) rfl rfl ?_
      refine x_bipush (dat d_Lw_town 66 rfl) (by decide) (by decide) ?_
      refine x_iald (n := 180) (v := t 6) (dat d_Lw_town 67 rfl) (ai_mk (by decide +kernel)) (by omega) (by omega) (by exact eT 6 (by decide) (by decide)) ?_
      refine x_icmp_ge (tgt := 288) (dat d_Lw_town 68 rfl) (by decide) (fun c_107 => ?_) (fun c_107 => (by omega))
      refine x_sipush (dat d_Lw_town 178 rfl) (by decide) (by decide) ?_
      refine x_istore (L' := [vR 0, vR 174, vR 175, vI w, vI d, vI 160, w6]) (dat d_Lw_town 179 rfl) (by decide) rfl rfl ?_
      exact lq Z _ (t 7).toNat 0 σ1 (by omega) H1 F1
    | succ m ih =>
      intro p w6 σ1 hp H1 F1
      have hp1 : (p : Int) < t 6 := by omega
      obtain ⟨b1, b2, b3, b4, b5, b6⟩ := hP p hp1
      have eT : ∀ i : Int, 0 ≤ i → i < 180 → σ1 175 i = t i := fun i i0 i1 => by rw [F1 175 (by decide)]; exact ht i i0 i1
      have HS := H1.eq (show psX t (m + 1) p (qsX t (t 7).toNat 0 []) = _ from perX_eq (t := t))
      have lg := lg_rng 1 (by decide) (t (10 + 4 * (p : Int))).toNat (by omega)
      have nx : ∀ (w6 : MV) (σ2 : xS), PtE σ2 a im (twX t) (psX t m (p + 1) (qsX t (t 7).toNat 0 [])) → LwF σ2 σ → Wx g y_Lw_town Z K 282 [vR 0, vR 174, vR 175, vI w, vI d, vI (p : Int), w6] [] σ2 := fun w6 σ2 H2 F2 => by
        refine x_iinc (v' := ((p + 1 : Nat) : Int)) (L' := [vR 0, vR 174, vR 175, vI w, vI d, vI ((p + 1 : Nat) : Int), w6]) (dat d_Lw_town 176 rfl) rfl (by decide) rfl (by omega) (by omega) rfl ?_
        refine x_goto (tgt := 101) (dat d_Lw_town 177 rfl) (by decide) ?_
        exact ih (p + 1) _ σ2 (by omega) H2 F2
      have ex : ∀ (w6 : MV) (σ2 : xS), PtE σ2 a im (twX t) (extX t p (psX t m (p + 1) (qsX t (t 7).toNat 0 []))) → LwF σ2 σ → Wx g y_Lw_town Z K 234 [vR 0, vR 174, vR 175, vI w, vI d, vI (p : Int), w6] [] σ2 := fun w6 σ2 H2 F2 => by
        have eT : ∀ i : Int, 0 ≤ i → i < 180 → σ2 175 i = t i := fun i i0 i1 => by rw [F2 175 (by decide)]; exact ht i i0 i1
        by_cases z : 0 < t (13 + 4 * (p : Int))
        · have HS := H2.eq (extX_eq (t := t) z)
          refine x_aload_n (dat d_Lw_town 146 rfl) rfl rfl ?_
          refine x_bipush (dat d_Lw_town 147 rfl) (by decide) (by decide) ?_
          refine x_iconst (dat d_Lw_town 148 rfl) (by decide) ?_
          refine x_iload (dat d_Lw_town 149 rfl) rfl ?_
          refine x_imul (v := 4 * (p : Int)) (dat d_Lw_town 150 rfl) rfl (by omega) ?_
          refine x_iadd (v := 13 + (4 * (p : Int))) (dat d_Lw_town 151 rfl) rfl (by omega) ?_
          refine x_iald (n := 180) (v := t (13 + 4 * (p : Int))) (dat d_Lw_town 152 rfl) (ai_mk (by decide +kernel)) (by omega) (by omega) (by exact eT _ (by omega) (by omega)) ?_
          refine x_if_le (tgt := 282) (dat d_Lw_town 153 rfl) (by decide) (fun c_243 => (by omega)) (fun c_243 => ?_)
          refine x_aload_n (dat d_Lw_town 154 rfl) rfl rfl ?_
          refine x_aload_n (dat d_Lw_town 155 rfl) rfl rfl ?_
          refine x_ldc2 (own := "ShakenBreadLaw") (n := 435812594273) (dat d_Lw_town 156 rfl) rfl (gw_4 (i := 232) rfl rfl) (by decide) ?_
          refine x_invs (As := [vR 0, vR 174, vL 435812594273]) (dat d_Lw_town 157 rfl) rfl c_Lw_word l_Lw_34 (by decide) rfl rfl (Nat.le_of_ble_eq_true rfl) ?_
          refine sp_word' HS (by decide) (fun σ3 HS F3 => ?_)
          have eT : ∀ i : Int, 0 ≤ i → i < 180 → σ3 175 i = t i := fun i i0 i1 => by rw [F3 175 (by decide)]; exact eT i i0 i1
          show Wx g y_Lw_town Z K 254 [vR 0, vR 174, vR 175, vI w, vI d, vI (p : Int), w6] [] σ3
          refine x_aload_n (dat d_Lw_town 158 rfl) rfl rfl ?_
          refine x_aload_n (dat d_Lw_town 159 rfl) rfl rfl ?_
          refine x_iload (dat d_Lw_town 160 rfl) rfl ?_
          refine x_invs (As := [vR 0, vR 174, vI (p : Int)]) (dat d_Lw_town 161 rfl) rfl c_Lw_more l_Lw_38 (by decide) rfl rfl (Nat.le_of_ble_eq_true rfl) ?_
          refine sp_more' HS (by omega) (fun σ4 HS F4 => ?_)
          have eT : ∀ i : Int, 0 ≤ i → i < 180 → σ4 175 i = t i := fun i i0 i1 => by rw [F4 175 (by decide)]; exact eT i i0 i1
          show Wx g y_Lw_town Z K 261 [vR 0, vR 174, vR 175, vI w, vI d, vI (p : Int), w6] [] σ4
          refine x_aload_n (dat d_Lw_town 162 rfl) rfl rfl ?_
          refine x_aload_n (dat d_Lw_town 163 rfl) rfl rfl ?_
          refine x_aload_n (dat d_Lw_town 164 rfl) rfl rfl ?_
          refine x_bipush (dat d_Lw_town 165 rfl) (by decide) (by decide) ?_
          refine x_iconst (dat d_Lw_town 166 rfl) (by decide) ?_
          refine x_iload (dat d_Lw_town 167 rfl) rfl ?_
          refine x_imul (v := 4 * (p : Int)) (dat d_Lw_town 168 rfl) rfl (by omega) ?_
          refine x_iadd (v := 13 + (4 * (p : Int))) (dat d_Lw_town 169 rfl) rfl (by omega) ?_
          refine x_iald (n := 180) (v := t (13 + 4 * (p : Int))) (dat d_Lw_town 170 rfl) (ai_mk (by decide +kernel)) (by omega) (by omega) (by exact eT _ (by omega) (by omega)) ?_
          refine x_invs (As := [vR 0, vR 174, vI (t (13 + 4 * (p : Int)))]) (dat d_Lw_town 171 rfl) rfl c_Lw_more l_Lw_38 (by decide) rfl rfl (Nat.le_of_ble_eq_true rfl) ?_
          refine sp_more' HS (by omega) (fun σ5 HS F5 => ?_)
          show Wx g y_Lw_town Z K 275 [vR 0, vR 174, vR 175, vI w, vI d, vI (p : Int), w6] [] σ5
          refine x_aload_n (dat d_Lw_town 172 rfl) rfl rfl ?_
          refine x_aload_n (dat d_Lw_town 173 rfl) rfl rfl ?_
          refine x_bipush (dat d_Lw_town 174 rfl) (by decide) (by decide) ?_
          refine x_invs (As := [vR 0, vR 174, vI 59]) (dat d_Lw_town 175 rfl) rfl c_Lw_put l_Lw_13 (by decide) rfl rfl (Nat.le_of_ble_eq_true rfl) ?_
          refine sp_put' HS (by decide) (fun σ6 HS F6 => ?_)
          show Wx g y_Lw_town Z K 282 [vR 0, vR 174, vR 175, vI w, vI d, vI (p : Int), w6] [] σ6
          exact nx _ σ6 HS (F6.trans (F5.trans (F4.trans (F3.trans F2))))
        · have HS := H2.eq (show extX t p (psX t m (p + 1) (qsX t (t 7).toNat 0 [])) = _ from if_neg z)
          refine x_aload_n (dat d_Lw_town 146 rfl) rfl rfl ?_
          refine x_bipush (dat d_Lw_town 147 rfl) (by decide) (by decide) ?_
          refine x_iconst (dat d_Lw_town 148 rfl) (by decide) ?_
          refine x_iload (dat d_Lw_town 149 rfl) rfl ?_
          refine x_imul (v := 4 * (p : Int)) (dat d_Lw_town 150 rfl) rfl (by omega) ?_
          refine x_iadd (v := 13 + (4 * (p : Int))) (dat d_Lw_town 151 rfl) rfl (by omega) ?_
          refine x_iald (n := 180) (v := t (13 + 4 * (p : Int))) (dat d_Lw_town 152 rfl) (ai_mk (by decide +kernel)) (by omega) (by omega) (by exact eT _ (by omega) (by omega)) ?_
          refine x_if_le (tgt := 282) (dat d_Lw_town 153 rfl) (by decide) (fun c_243 => ?_) (fun c_243 => (by omega))
          exact nx _ σ2 HS F2
      refine x_iload (dat d_Lw_town 64 rfl) rfl ?_
      refine x_aload_n (dat d_Lw_town 65 rfl) rfl rfl ?_
      refine x_bipush (dat d_Lw_town 66 rfl) (by decide) (by decide) ?_
      refine x_iald (n := 180) (v := t 6) (dat d_Lw_town 67 rfl) (ai_mk (by decide +kernel)) (by omega) (by omega) (by exact eT 6 (by decide) (by decide)) ?_
      refine x_icmp_ge (tgt := 288) (dat d_Lw_town 68 rfl) (by decide) (fun c_107 => (by omega)) (fun c_107 => ?_)
      refine x_aload_n (dat d_Lw_town 69 rfl) rfl rfl ?_
      refine x_aload_n (dat d_Lw_town 70 rfl) rfl rfl ?_
      refine x_lgets (own := "ShakenBreadLaw") (q := 1) (dat d_Lw_town 71 rfl) rfl (by decide) (gw_4 (i := 229) rfl rfl) ?_
      refine x_aload_n (dat d_Lw_town 72 rfl) rfl rfl ?_
      refine x_bipush (dat d_Lw_town 73 rfl) (by decide) (by decide) ?_
      refine x_iconst (dat d_Lw_town 74 rfl) (by decide) ?_
      refine x_iload (dat d_Lw_town 75 rfl) rfl ?_
      refine x_imul (v := 4 * (p : Int)) (dat d_Lw_town 76 rfl) rfl (by omega) ?_
      refine x_iadd (v := 10 + (4 * (p : Int))) (dat d_Lw_town 77 rfl) rfl (by omega) ?_
      refine x_iald (n := 180) (v := t (10 + 4 * (p : Int))) (dat d_Lw_town 78 rfl) (ai_mk (by decide +kernel)) (by omega) (by omega) (by exact eT _ (by omega) (by omega)) ?_
      refine x_lgald (q := 1) (v := (lgV.getD 1 []).getD (t (10 + 4 * (p : Int))).toNat 0) (dat d_Lw_town 79 rfl) (by decide) (by omega) (by omega) (by rfl) (by omega) ?_
      refine x_invs (As := [vR 0, vR 174, vL ((lgV.getD 1 []).getD (t (10 + 4 * (p : Int))).toNat 0)]) (dat d_Lw_town 80 rfl) rfl c_Lw_word l_Lw_34 (by decide) rfl rfl (Nat.le_of_ble_eq_true rfl) ?_
      refine sp_word' HS lg (fun σ2 HS F2 => ?_)
      have eT : ∀ i : Int, 0 ≤ i → i < 180 → σ2 175 i = t i := fun i i0 i1 => by rw [F2 175 (by decide)]; exact eT i i0 i1
      show Wx g y_Lw_town Z K 128 [vR 0, vR 174, vR 175, vI w, vI d, vI (p : Int), w6] [] σ2
      refine x_aload_n (dat d_Lw_town 81 rfl) rfl rfl ?_
      refine x_aload_n (dat d_Lw_town 82 rfl) rfl rfl ?_
      refine x_aload_n (dat d_Lw_town 83 rfl) rfl rfl ?_
      refine x_bipush (dat d_Lw_town 84 rfl) (by decide) (by decide) ?_
      refine x_iconst (dat d_Lw_town 85 rfl) (by decide) ?_
      refine x_iload (dat d_Lw_town 86 rfl) rfl ?_
      refine x_imul (v := 4 * (p : Int)) (dat d_Lw_town 87 rfl) rfl (by omega) ?_
      refine x_iadd (v := 11 + (4 * (p : Int))) (dat d_Lw_town 88 rfl) rfl (by omega) ?_
      refine x_iald (n := 180) (v := t (11 + 4 * (p : Int))) (dat d_Lw_town 89 rfl) (ai_mk (by decide +kernel)) (by omega) (by omega) (by exact eT _ (by omega) (by omega)) ?_
      refine x_invs (As := [vR 0, vR 174, vI (t (11 + 4 * (p : Int)))]) (dat d_Lw_town 90 rfl) rfl c_Lw_more l_Lw_38 (by decide) rfl rfl (Nat.le_of_ble_eq_true rfl) ?_
      refine sp_more' HS (by omega) (fun σ3 HS F3 => ?_)
      have eT : ∀ i : Int, 0 ≤ i → i < 180 → σ3 175 i = t i := fun i i0 i1 => by rw [F3 175 (by decide)]; exact eT i i0 i1
      show Wx g y_Lw_town Z K 142 [vR 0, vR 174, vR 175, vI w, vI d, vI (p : Int), w6] [] σ3
      refine x_aload_n (dat d_Lw_town 91 rfl) rfl rfl ?_
      refine x_aload_n (dat d_Lw_town 92 rfl) rfl rfl ?_
      refine x_aload_n (dat d_Lw_town 93 rfl) rfl rfl ?_
      refine x_bipush (dat d_Lw_town 94 rfl) (by decide) (by decide) ?_
      refine x_iconst (dat d_Lw_town 95 rfl) (by decide) ?_
      refine x_iload (dat d_Lw_town 96 rfl) rfl ?_
      refine x_imul (v := 4 * (p : Int)) (dat d_Lw_town 97 rfl) rfl (by omega) ?_
      refine x_iadd (v := 12 + (4 * (p : Int))) (dat d_Lw_town 98 rfl) rfl (by omega) ?_
      refine x_iald (n := 180) (v := t (12 + 4 * (p : Int))) (dat d_Lw_town 99 rfl) (ai_mk (by decide +kernel)) (by omega) (by omega) (by exact eT _ (by omega) (by omega)) ?_
      refine x_invs (As := [vR 0, vR 174, vI (t (12 + 4 * (p : Int)))]) (dat d_Lw_town 100 rfl) rfl c_Lw_more l_Lw_38 (by decide) rfl rfl (Nat.le_of_ble_eq_true rfl) ?_
      refine sp_more' HS (by omega) (fun σ4 HS F4 => ?_)
      have eT : ∀ i : Int, 0 ≤ i → i < 180 → σ4 175 i = t i := fun i i0 i1 => by rw [F4 175 (by decide)]; exact eT i i0 i1
      show Wx g y_Lw_town Z K 156 [vR 0, vR 174, vR 175, vI w, vI d, vI (p : Int), w6] [] σ4
      refine x_aload_n (dat d_Lw_town 101 rfl) rfl rfl ?_
      refine x_aload_n (dat d_Lw_town 102 rfl) rfl rfl ?_
      refine x_bipush (dat d_Lw_town 103 rfl) (by decide) (by decide) ?_
      refine x_invs (As := [vR 0, vR 174, vI 59]) (dat d_Lw_town 104 rfl) rfl c_Lw_put l_Lw_13 (by decide) rfl rfl (Nat.le_of_ble_eq_true rfl) ?_
      refine sp_put' HS (by decide) (fun σ5 HS F5 => ?_)
      have eT : ∀ i : Int, 0 ≤ i → i < 180 → σ5 175 i = t i := fun i i0 i1 => by rw [F5 175 (by decide)]; exact eT i i0 i1
      have F15 := F5.trans (F4.trans (F3.trans (F2.trans F1)))
      show Wx g y_Lw_town Z K 163 [vR 0, vR 174, vR 175, vI w, vI d, vI (p : Int), w6] [] σ5
      refine x_aload_n (dat d_Lw_town 105 rfl) rfl rfl ?_
      refine x_bipush (dat d_Lw_town 106 rfl) (by decide) (by decide) ?_
      refine x_iload (dat d_Lw_town 107 rfl) rfl ?_
      refine x_iadd (v := 50 + (p : Int)) (dat d_Lw_town 108 rfl) rfl (by omega) ?_
      refine x_iald (n := 180) (v := t (50 + (p : Int))) (dat d_Lw_town 109 rfl) (ai_mk (by decide +kernel)) (by omega) (by omega) (by exact eT _ (by omega) (by omega)) ?_
      refine x_if_le (tgt := 234) (dat d_Lw_town 110 rfl) (by decide) (fun c_170 => ?_) (fun c_170 => ?_)
      · have HS := HS.eq (show errX t p _ = _ from if_neg (by omega))
        exact ex _ σ5 HS F15
      · refine x_aload_n (dat d_Lw_town 111 rfl) rfl rfl ?_
        refine x_aload_n (dat d_Lw_town 112 rfl) rfl rfl ?_
        refine x_ldc2 (own := "ShakenBreadLaw") (n := 111542219664996) (dat d_Lw_town 113 rfl) rfl (gw_4 (i := 231) rfl rfl) (by decide) ?_
        refine x_invs (As := [vR 0, vR 174, vL 111542219664996]) (dat d_Lw_town 114 rfl) rfl c_Lw_word l_Lw_34 (by decide) rfl rfl (Nat.le_of_ble_eq_true rfl) ?_
        have HS := HS.eq (errX_eq (t := t) (by omega))
        refine sp_word' HS (by decide) (fun σ6 HS F6 => ?_)
        show Wx g y_Lw_town Z K 181 [vR 0, vR 174, vR 175, vI w, vI d, vI (p : Int), w6] [] σ6
        refine x_aload_n (dat d_Lw_town 115 rfl) rfl rfl ?_
        refine x_aload_n (dat d_Lw_town 116 rfl) rfl rfl ?_
        refine x_iload (dat d_Lw_town 117 rfl) rfl ?_
        refine x_invs (As := [vR 0, vR 174, vI (p : Int)]) (dat d_Lw_town 118 rfl) rfl c_Lw_more l_Lw_38 (by decide) rfl rfl (Nat.le_of_ble_eq_true rfl) ?_
        refine sp_more' HS (by omega) (fun σ7 HS F7 => ?_)
        show Wx g y_Lw_town Z K 188 [vR 0, vR 174, vR 175, vI w, vI d, vI (p : Int), w6] [] σ7
        refine x_iconst (dat d_Lw_town 119 rfl) (by decide) ?_
        refine x_istore (L' := [vR 0, vR 174, vR 175, vI w, vI d, vI (p : Int), vI 0]) (dat d_Lw_town 120 rfl) (by decide) rfl rfl ?_
        exact le Z p _ hp1 ex (t (50 + (p : Int))).toNat 0 σ7 (by omega) HS (F7.trans (F6.trans F15))
  have lg := lg_rng 0 (by decide) (t 2).toNat (by omega)
  refine x_enter 2 rfl rfl rfl (fun Z => ?_)
  show Wx g y_Lw_town Z K 0 [vR 0, vR 174, vR 175, vI w, vI d, vU, vU] [] σ
  have eT := ht
  refine x_aload_n (dat d_Lw_town 0 rfl) rfl rfl ?_
  refine x_aload_n (dat d_Lw_town 1 rfl) rfl rfl ?_
  refine x_ldc2 (own := "ShakenBreadLaw") (n := 1936292453) (dat d_Lw_town 2 rfl) rfl (gw_4 (i := 211) rfl rfl) (by decide) ?_
  refine x_invs (As := [vR 0, vR 174, vL 1936292453]) (dat d_Lw_town 3 rfl) rfl c_Lw_word l_Lw_34 (by decide) rfl rfl (Nat.le_of_ble_eq_true rfl) ?_
  refine sp_word' HS (by decide) (fun σ5 HS F5 => ?_)
  have eT : ∀ i : Int, 0 ≤ i → i < 180 → σ5 175 i = t i := fun i i0 i1 => by rw [F5 175 (by decide)]; exact eT i i0 i1
  have FA := F5
  show Wx g y_Lw_town Z K 8 [vR 0, vR 174, vR 175, vI w, vI d, vU, vU] [] σ5
  refine x_aload_n (dat d_Lw_town 4 rfl) rfl rfl ?_
  refine x_aload_n (dat d_Lw_town 5 rfl) rfl rfl ?_
  refine x_aload_n (dat d_Lw_town 6 rfl) rfl rfl ?_
  refine x_iconst (dat d_Lw_town 7 rfl) (by decide) ?_
  refine x_iald (n := 180) (v := t 0) (dat d_Lw_town 8 rfl) (ai_mk (by decide +kernel)) (by omega) (by omega) (by exact eT 0 (by decide) (by decide)) ?_
  refine x_invs (As := [vR 0, vR 174, vI (t 0)]) (dat d_Lw_town 9 rfl) rfl c_Lw_more l_Lw_38 (by decide) rfl rfl (Nat.le_of_ble_eq_true rfl) ?_
  refine sp_more' HS (by omega) (fun σ13 HS F13 => ?_)
  have eT : ∀ i : Int, 0 ≤ i → i < 180 → σ13 175 i = t i := fun i i0 i1 => by rw [F13 175 (by decide)]; exact eT i i0 i1
  have FA := F13.trans FA
  show Wx g y_Lw_town Z K 16 [vR 0, vR 174, vR 175, vI w, vI d, vU, vU] [] σ13
  refine x_aload_n (dat d_Lw_town 10 rfl) rfl rfl ?_
  refine x_aload_n (dat d_Lw_town 11 rfl) rfl rfl ?_
  refine x_aload_n (dat d_Lw_town 12 rfl) rfl rfl ?_
  refine x_iconst (dat d_Lw_town 13 rfl) (by decide) ?_
  refine x_iald (n := 180) (v := t 1) (dat d_Lw_town 14 rfl) (ai_mk (by decide +kernel)) (by omega) (by omega) (by exact eT 1 (by decide) (by decide)) ?_
  refine x_invs (As := [vR 0, vR 174, vI (t 1)]) (dat d_Lw_town 15 rfl) rfl c_Lw_more l_Lw_38 (by decide) rfl rfl (Nat.le_of_ble_eq_true rfl) ?_
  refine sp_more' HS (by omega) (fun σ21 HS F21 => ?_)
  have eT : ∀ i : Int, 0 ≤ i → i < 180 → σ21 175 i = t i := fun i i0 i1 => by rw [F21 175 (by decide)]; exact eT i i0 i1
  have FA := F21.trans FA
  show Wx g y_Lw_town Z K 24 [vR 0, vR 174, vR 175, vI w, vI d, vU, vU] [] σ21
  refine x_aload_n (dat d_Lw_town 16 rfl) rfl rfl ?_
  refine x_aload_n (dat d_Lw_town 17 rfl) rfl rfl ?_
  refine x_ldc2 (own := "ShakenBreadLaw") (n := 996958583) (dat d_Lw_town 18 rfl) rfl (gw_4 (i := 224) rfl rfl) (by decide) ?_
  refine x_invs (As := [vR 0, vR 174, vL 996958583]) (dat d_Lw_town 19 rfl) rfl c_Lw_word l_Lw_34 (by decide) rfl rfl (Nat.le_of_ble_eq_true rfl) ?_
  refine sp_word' HS (by decide) (fun σ29 HS F29 => ?_)
  have eT : ∀ i : Int, 0 ≤ i → i < 180 → σ29 175 i = t i := fun i i0 i1 => by rw [F29 175 (by decide)]; exact eT i i0 i1
  have FA := F29.trans FA
  show Wx g y_Lw_town Z K 32 [vR 0, vR 174, vR 175, vI w, vI d, vU, vU] [] σ29
  refine x_aload_n (dat d_Lw_town 20 rfl) rfl rfl ?_
  refine x_aload_n (dat d_Lw_town 21 rfl) rfl rfl ?_
  refine x_bipush (dat d_Lw_town 22 rfl) (by decide) (by decide) ?_
  refine x_invs (As := [vR 0, vR 174, vI 32]) (dat d_Lw_town 23 rfl) rfl c_Lw_put l_Lw_13 (by decide) rfl rfl (Nat.le_of_ble_eq_true rfl) ?_
  refine sp_put' HS (by decide) (fun σ36 HS F36 => ?_)
  have eT : ∀ i : Int, 0 ≤ i → i < 180 → σ36 175 i = t i := fun i i0 i1 => by rw [F36 175 (by decide)]; exact eT i i0 i1
  have FA := F36.trans FA
  show Wx g y_Lw_town Z K 39 [vR 0, vR 174, vR 175, vI w, vI d, vU, vU] [] σ36
  refine x_aload_n (dat d_Lw_town 24 rfl) rfl rfl ?_
  refine x_aload_n (dat d_Lw_town 25 rfl) rfl rfl ?_
  refine x_lgets (own := "ShakenBreadLaw") (q := 0) (dat d_Lw_town 26 rfl) rfl (by decide) (gw_4 (i := 225) rfl rfl) ?_
  refine x_aload_n (dat d_Lw_town 27 rfl) rfl rfl ?_
  refine x_iconst (dat d_Lw_town 28 rfl) (by decide) ?_
  refine x_iald (n := 180) (v := t 2) (dat d_Lw_town 29 rfl) (ai_mk (by decide +kernel)) (by omega) (by omega) (by exact eT 2 (by decide) (by decide)) ?_
  refine x_lgald (q := 0) (v := (lgV.getD 0 []).getD (t 2).toNat 0) (dat d_Lw_town 30 rfl) (by decide) (by omega) (by omega) (by rfl) (by omega) ?_
  refine x_invs (As := [vR 0, vR 174, vL ((lgV.getD 0 []).getD (t 2).toNat 0)]) (dat d_Lw_town 31 rfl) rfl c_Lw_word l_Lw_34 (by decide) rfl rfl (Nat.le_of_ble_eq_true rfl) ?_
  refine sp_word' HS lg (fun σ48 HS F48 => ?_)
  have eT : ∀ i : Int, 0 ≤ i → i < 180 → σ48 175 i = t i := fun i i0 i1 => by rw [F48 175 (by decide)]; exact eT i i0 i1
  have FA := F48.trans FA
  show Wx g y_Lw_town Z K 51 [vR 0, vR 174, vR 175, vI w, vI d, vU, vU] [] σ48
  refine x_aload_n (dat d_Lw_town 32 rfl) rfl rfl ?_
  refine x_aload_n (dat d_Lw_town 33 rfl) rfl rfl ?_
  refine x_ldc2 (own := "ShakenBreadLaw") (n := 65319732605555) (dat d_Lw_town 34 rfl) rfl (gw_4 (i := 227) rfl rfl) (by decide) ?_
  refine x_invs (As := [vR 0, vR 174, vL 65319732605555]) (dat d_Lw_town 35 rfl) rfl c_Lw_word l_Lw_34 (by decide) rfl rfl (Nat.le_of_ble_eq_true rfl) ?_
  refine sp_word' HS (by decide) (fun σ56 HS F56 => ?_)
  have eT : ∀ i : Int, 0 ≤ i → i < 180 → σ56 175 i = t i := fun i i0 i1 => by rw [F56 175 (by decide)]; exact eT i i0 i1
  have FA := F56.trans FA
  show Wx g y_Lw_town Z K 59 [vR 0, vR 174, vR 175, vI w, vI d, vU, vU] [] σ56
  refine x_aload_n (dat d_Lw_town 36 rfl) rfl rfl ?_
  refine x_aload_n (dat d_Lw_town 37 rfl) rfl rfl ?_
  refine x_aload_n (dat d_Lw_town 38 rfl) rfl rfl ?_
  refine x_iconst (dat d_Lw_town 39 rfl) (by decide) ?_
  refine x_iald (n := 180) (v := t 3) (dat d_Lw_town 40 rfl) (ai_mk (by decide +kernel)) (by omega) (by omega) (by exact eT 3 (by decide) (by decide)) ?_
  refine x_invs (As := [vR 0, vR 174, vI (t 3)]) (dat d_Lw_town 41 rfl) rfl c_Lw_more l_Lw_38 (by decide) rfl rfl (Nat.le_of_ble_eq_true rfl) ?_
  refine sp_more' HS (by omega) (fun σ64 HS F64 => ?_)
  have eT : ∀ i : Int, 0 ≤ i → i < 180 → σ64 175 i = t i := fun i i0 i1 => by rw [F64 175 (by decide)]; exact eT i i0 i1
  have FA := F64.trans FA
  show Wx g y_Lw_town Z K 67 [vR 0, vR 174, vR 175, vI w, vI d, vU, vU] [] σ64
  refine x_aload_n (dat d_Lw_town 42 rfl) rfl rfl ?_
  refine x_aload_n (dat d_Lw_town 43 rfl) rfl rfl ?_
  refine x_ldc2 (own := "ShakenBreadLaw") (n := 996499828) (dat d_Lw_town 44 rfl) rfl (gw_4 (i := 228) rfl rfl) (by decide) ?_
  refine x_invs (As := [vR 0, vR 174, vL 996499828]) (dat d_Lw_town 45 rfl) rfl c_Lw_word l_Lw_34 (by decide) rfl rfl (Nat.le_of_ble_eq_true rfl) ?_
  refine sp_word' HS (by decide) (fun σ72 HS F72 => ?_)
  have eT : ∀ i : Int, 0 ≤ i → i < 180 → σ72 175 i = t i := fun i i0 i1 => by rw [F72 175 (by decide)]; exact eT i i0 i1
  have FA := F72.trans FA
  show Wx g y_Lw_town Z K 75 [vR 0, vR 174, vR 175, vI w, vI d, vU, vU] [] σ72
  refine x_aload_n (dat d_Lw_town 46 rfl) rfl rfl ?_
  refine x_aload_n (dat d_Lw_town 47 rfl) rfl rfl ?_
  refine x_aload_n (dat d_Lw_town 48 rfl) rfl rfl ?_
  refine x_iconst (dat d_Lw_town 49 rfl) (by decide) ?_
  refine x_iald (n := 180) (v := t 4) (dat d_Lw_town 50 rfl) (ai_mk (by decide +kernel)) (by omega) (by omega) (by exact eT 4 (by decide) (by decide)) ?_
  refine x_invs (As := [vR 0, vR 174, vI (t 4)]) (dat d_Lw_town 51 rfl) rfl c_Lw_more l_Lw_38 (by decide) rfl rfl (Nat.le_of_ble_eq_true rfl) ?_
  refine sp_more' HS (by omega) (fun σ80 HS F80 => ?_)
  have eT : ∀ i : Int, 0 ≤ i → i < 180 → σ80 175 i = t i := fun i i0 i1 => by rw [F80 175 (by decide)]; exact eT i i0 i1
  have FA := F80.trans FA
  show Wx g y_Lw_town Z K 83 [vR 0, vR 174, vR 175, vI w, vI d, vU, vU] [] σ80
  refine x_aload_n (dat d_Lw_town 52 rfl) rfl rfl ?_
  refine x_aload_n (dat d_Lw_town 53 rfl) rfl rfl ?_
  refine x_aload_n (dat d_Lw_town 54 rfl) rfl rfl ?_
  refine x_iconst (dat d_Lw_town 55 rfl) (by decide) ?_
  refine x_iald (n := 180) (v := t 5) (dat d_Lw_town 56 rfl) (ai_mk (by decide +kernel)) (by omega) (by omega) (by exact eT 5 (by decide) (by decide)) ?_
  refine x_invs (As := [vR 0, vR 174, vI (t 5)]) (dat d_Lw_town 57 rfl) rfl c_Lw_more l_Lw_38 (by decide) rfl rfl (Nat.le_of_ble_eq_true rfl) ?_
  refine sp_more' HS (by omega) (fun σ88 HS F88 => ?_)
  have eT : ∀ i : Int, 0 ≤ i → i < 180 → σ88 175 i = t i := fun i i0 i1 => by rw [F88 175 (by decide)]; exact eT i i0 i1
  have FA := F88.trans FA
  show Wx g y_Lw_town Z K 91 [vR 0, vR 174, vR 175, vI w, vI d, vU, vU] [] σ88
  refine x_aload_n (dat d_Lw_town 58 rfl) rfl rfl ?_
  refine x_aload_n (dat d_Lw_town 59 rfl) rfl rfl ?_
  refine x_bipush (dat d_Lw_town 60 rfl) (by decide) (by decide) ?_
  refine x_invs (As := [vR 0, vR 174, vI 59]) (dat d_Lw_town 61 rfl) rfl c_Lw_put l_Lw_13 (by decide) rfl rfl (Nat.le_of_ble_eq_true rfl) ?_
  refine sp_put' HS (by decide) (fun σ95 HS F95 => ?_)
  have eT : ∀ i : Int, 0 ≤ i → i < 180 → σ95 175 i = t i := fun i i0 i1 => by rw [F95 175 (by decide)]; exact eT i i0 i1
  have FA := F95.trans FA
  show Wx g y_Lw_town Z K 98 [vR 0, vR 174, vR 175, vI w, vI d, vU, vU] [] σ95
  refine x_iconst (dat d_Lw_town 62 rfl) (by decide) ?_
  refine x_istore (L' := [vR 0, vR 174, vR 175, vI w, vI d, vI 0, vU]) (dat d_Lw_town 63 rfl) (by decide) rfl rfl ?_
  exact lp Z (t 6).toNat 0 _ _ (by omega) HS FA
