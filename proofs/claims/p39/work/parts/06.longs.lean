section XB
variable {g : xG} {y : xM} {Z : xZ} {K : Option MV → xS → Prop} {pc pc' : Nat} {L S : List MV} {σ : xS}
/-- a row of numbers goes into another -/
def cpy (σ : xS) (a b : Nat) (sp dp n : Int) : xS := fun k i => if k = b ∧ dp ≤ i ∧ i < dp + n then σ a (sp + (i - dp)) else σ k i
theorem cpy_ne {a b : Nat} {sp dp n : Int} {k : Nat} (h : k ≠ b) : cpy σ a b sp dp n k = σ k := by
  funext i
  simp [cpy, h]
theorem cpy_in {a b : Nat} {sp dp n i : Int} (h1 : dp ≤ i) (h2 : i < dp + n) : cpy σ a b sp dp n b i = σ a (sp + (i - dp)) := by
  unfold cpy
  rw [if_pos ⟨rfl, h1, h2⟩]
theorem cpy_out {a b : Nat} {sp dp n i : Int} (h : i < dp ∨ dp + n ≤ i) : cpy σ a b sp dp n b i = σ b i := by
  unfold cpy
  rw [if_neg (by omega)]
theorem cpy_va {a b : Nat} {sp dp n : Int} (h1 : 0 ≤ sp) (h2 : 0 ≤ dp) (h3 : 0 ≤ n) : va_cpy (fun i : Nat => Int32.ofInt (σ a i)) (fun i : Nat => Int32.ofInt (σ b i)) sp.toNat dp.toNat n.toNat = (fun i : Nat => Int32.ofInt (cpy σ a b sp dp n b i)) := by
  funext i
  unfold va_cpy cpy
  by_cases h : dp.toNat ≤ i ∧ i < dp.toNat + n.toNat
  · rw [if_pos h, if_pos ⟨rfl, by omega, by omega⟩]
    show Int32.ofInt (σ a ((sp.toNat + (i - dp.toNat) : Nat) : Int)) = _
    rw [show ((sp.toNat + (i - dp.toNat) : Nat) : Int) = sp + ((i : Int) - dp) by omega]
  · rw [if_neg h, if_neg (by omega)]
def AC (own : String) (idx : Nat) : Prop := Cond.methodLink own idx arraycopyName ∈ gw ∧ Cond.native arraycopyName ∈ gw ∧ Cond.static arraycopyName ∈ gw ∧ Cond.initialized "java/lang/System" ∈ gw
theorem ac_words : nativeFrameWords "java/lang/System" "arraycopy" 5 + 11 ≤ 32 := by decide +kernel
theorem byte_fits {x : Int} (h : -128 ≤ x ∧ x < 128) : fits .byte (.int (Int32.ofInt x)) = true := by
  have h1 := byte_nar h
  rw [vp_nar_byte] at h1
  rw [← h1]
  exact pk_fb _
theorem x_copy {own : String} {idx a b t na nb : Nat} {sp dp n : Int} (hd : xd y.2.1 pc (.invokestatic idx) 3 pc') (ho : y.1.cls = own) (hw : AC own idx) (h1d : 1 ≤ y.2.2.2.2) (ht : t = 20 ∨ t = 21) (ha : AI a t na) (hb : AI b t nb) (h1 : 0 ≤ sp) (h2 : 0 ≤ dp) (h3 : 0 ≤ n) (h4 : sp + n ≤ na) (h5 : dp + n ≤ nb) (h8 : ((S.map (cv g)).map (fun v => v.category)).sum ≤ 8)
    (kk : Wx g y Z K pc' L S (cpy σ a b sp dp n)) : Wx g y Z K pc L (vI n :: vI dp :: vR b :: vI sp :: vR a :: S) σ := by
  obtain ⟨a1, a2, a3, a4⟩ := ha
  obtain ⟨b1, b2, b3, b4⟩ := hb
  obtain ⟨w1, w2, w3, w4⟩ := hw
  intro F hL hS hσ H locs ls hH hs hl
  have hI : xInj g := F.2.2.2.2.2.2.2.2.1
  have hts := F.2.2.2.2.2.2.1
  have hxa := xws_get (g := g) (σ := σ) a3
  rw [xcell_i (by omega) a2, a1] at hxa
  have hxb := xws_get (g := g) (σ := σ) b3
  rw [xcell_i (by omega) b2, b1] at hxb
  have cs : (Int32.ofInt sp).toNatClampNeg = sp.toNat := i32_cl h1 (by omega)
  have cd : (Int32.ofInt dp).toNatClampNeg = dp.toNat := i32_cl h2 (by omega)
  have cn : (Int32.ofInt n).toNatClampNeg = n.toNat := i32_cl h3 (by omega)
  have nn : ∀ x : Int, 0 ≤ x → x < 2147483648 → ¬ Int32.ofInt x < 0 := fun x hx hx2 h => by
    rw [← i32_0, i32_lt (by omega) (by omega)] at h
    omega
  have hok : ∀ k i, okv k i (cpy σ a b sp dp n k i) := fun k i => by
    unfold cpy
    by_cases h : k = b ∧ dp ≤ i ∧ i < dp + n
    · rw [if_pos h]
      have := hσ a (sp + (i - dp))
      exact ⟨this.1, fun hk => this.2.1 (by rw [a1]; rw [h.1] at hk; omega), fun hk => by rw [h.1] at hk; omega, fun hk _ => by rw [h.1] at hk; omega⟩
    · rw [if_neg h]; exact hσ k i
  have e : (xws g σ).set b (g.2.1 b, .inl (g.2.2.2 t, nb, .inl (va_cpy (fun i : Nat => Int32.ofInt (σ a i)) (fun i : Nat => Int32.ofInt (σ b i)) (Int32.ofInt sp).toNatClampNeg (Int32.ofInt dp).toNatClampNeg (Int32.ofInt n).toNatClampNeg))) = xws g (cpy σ a b sp dp n) := by
    rw [cs, cd, cn, cpy_va h1 h2 h3]
    exact xws_set b3 (by rw [xcell_i (by omega) b2, b1]) (fun i hi => cpy_ne hi)
  have hcat : ((S.map (cv g)).map fun v => v.category).sum + (nativeFrameWords "java/lang/System" "arraycopy" 5 + 11) ≤ (xRm y.2.2.2.2).locals := by
    have := ac_words
    show _ ≤ 40 * y.2.2.2.2
    omega
  have fin : ∀ (H1 : Heap) (locs1 : List Loc), va_P g.2.2.1 classes ((xws g σ).set b (g.2.1 b, .inl (g.2.2.2 t, nb, .inl (va_cpy (fun i : Nat => Int32.ofInt (σ a i)) (fun i : Nat => Int32.ofInt (σ b i)) (Int32.ofInt sp).toNatClampNeg (Int32.ofInt dp).toNatClampNeg (Int32.ofInt n).toNatClampNeg)))) H1 → va_S (xA g) Z.2.2.1.heap H1 locs1 → W Z.1 g.1 Z.2.1 (xRm y.2.2.2.2) Z.2.2.1 Z.2.2.2.1 Z.2.2.2.2.1 Z.2.2.2.2.2.1 Z.2.2.2.2.2.2.1 Z.2.2.2.2.2.2.2 H1 locs1 0 0 (MQ Z.2.2.2.2.2.1 (xQ g K) Z.2.2.2.2.1 Z.2.2.1 0 0 (xA g)) (F0 Z.2.2.2.1 (pc + 3) ls (S.map (cv g))) := by
    intro H1 locs1 hP hS1
    rw [e] at hP
    have k0 := kk F hL (xok_tl (xok_tl (xok_tl (xok_tl (xok_tl hS))))) hok H1 locs1 ls hP hS1 hl
    rw [← hd.2] at k0
    exact k0
  have f20 : ∀ x : Int32, fits .int (.int x) = true := fun _ => rfl
  rcases ht with rfl | rfl
  · exact va_copyi (own := own) (A := xA g) (H0 := Z.2.2.1.heap) F.1 F.2.1 (by rw [F.2.2.1, hl.1]) (by rw [← ho]; exact F.2.2.2.2.2.1) (hts _ (List.mem_cons_of_mem _ w1)) (hts _ (List.mem_cons_of_mem _ w2)) (hts _ (List.mem_cons_of_mem _ w3)) (hts _ (List.mem_cons_of_mem _ w4)) F.2.2.2.2.2.2.2.1 hH (xD hI) hs a b 0 0 (ty := .int) hxa hxb rfl rfl rfl (nn sp h1 (by omega)) (nn dp h2 (by omega)) (nn n h3 (by omega)) (by omega) (by omega) (fun i _ => f20 _) h1d hcat hd.1 (fun H1 locs1 hP _ hS1 => fin H1 locs1 hP hS1)
  · exact va_copyi (own := own) (A := xA g) (H0 := Z.2.2.1.heap) F.1 F.2.1 (by rw [F.2.2.1, hl.1]) (by rw [← ho]; exact F.2.2.2.2.2.1) (hts _ (List.mem_cons_of_mem _ w1)) (hts _ (List.mem_cons_of_mem _ w2)) (hts _ (List.mem_cons_of_mem _ w3)) (hts _ (List.mem_cons_of_mem _ w4)) F.2.2.2.2.2.2.2.1 hH (xD hI) hs a b 1 1 (ty := .byte) hxa hxb rfl rfl rfl (nn sp h1 (by omega)) (nn dp h2 (by omega)) (nn n h3 (by omega)) (by omega) (by omega) (fun i _ => byte_fits ((hσ a _).2.1 a1)) h1d hcat hd.1 (fun H1 locs1 hP _ hS1 => fin H1 locs1 hP hS1)
/-! longs -/
theorem i64 {x : Int} (h1 : -9223372036854775808 ≤ x) (h2 : x < 9223372036854775808) : (Int64.ofInt x).toInt = x := Int64.toInt_ofInt_of_le (by omega) (by omega)
theorem x_lconst {n : Fin 2} {v : Int} (hd : xd y.2.1 pc (.lconst n) 1 pc') (hv : ((n : Nat) : Int) = v) (kk : Wx g y Z K pc' L (vL v :: S) σ) : Wx g y Z K pc L S σ := by
  subst hv
  intro F hL hS hσ H locs ls hH hs hl
  have k := kk F hL (xok_cons hS (show ok (vL ((n : Nat) : Int)) from ⟨by omega, by omega⟩)) hσ H locs ls hH hs hl
  rw [← hd.2] at k
  exact lv_lconst F.1 F.2.1 hd.1 Int64.ofInt_eq_ofNat.symm k
theorem x_i2l {a : Int} (hd : xd y.2.1 pc .i2l 1 pc') (kk : Wx g y Z K pc' L (vL a :: S) σ) : Wx g y Z K pc L (vI a :: S) σ := by
  intro F hL hS hσ H locs ls hH hs hl
  have ha := xok_hd hS
  simp only [ok, vI] at ha
  have k := kk F hL (xok_cons (xok_tl hS) (show ok (vL a) from ⟨by omega, by omega⟩)) hσ H locs ls hH hs hl
  rw [← hd.2] at k
  refine lv_i2l F.1 F.2.1 hd.1 (v := Int64.ofInt a) ?_ k
  rw [← Int64.toInt_inj, Int32.toInt_toInt64, i32 ha.1 ha.2, i64 (by omega) (by omega)]

theorem x_ladd {a b v : Int} (hd : xd y.2.1 pc .ladd 1 pc') (he : a + b = v) (h1 : -9223372036854775808 ≤ v ∧ v < 9223372036854775808) (kk : Wx g y Z K pc' L (vL v :: S) σ) : Wx g y Z K pc L (vL b :: vL a :: S) σ := by
  subst he
  intro F hL hS hσ H locs ls hH hs hl
  have k := kk F hL (xok_cons (xok_tl (xok_tl hS)) h1) hσ H locs ls hH hs hl
  rw [← hd.2] at k
  refine lv_ladd F.1 F.2.1 hd.1 ?_
  rw [← Int64.ofInt_add]
  exact k
theorem x_lsub {a b v : Int} (hd : xd y.2.1 pc .lsub 1 pc') (he : a - b = v) (h1 : -9223372036854775808 ≤ v ∧ v < 9223372036854775808) (kk : Wx g y Z K pc' L (vL v :: S) σ) : Wx g y Z K pc L (vL b :: vL a :: S) σ := by
  subst he
  intro F hL hS hσ H locs ls hH hs hl
  have k := kk F hL (xok_cons (xok_tl (xok_tl hS)) h1) hσ H locs ls hH hs hl
  rw [← hd.2] at k
  refine lv_lsub F.1 F.2.1 hd.1 ?_
  rw [← Int64.ofInt_sub]
  exact k
theorem x_lmul {a b v : Int} (hd : xd y.2.1 pc .lmul 1 pc') (he : a * b = v) (h1 : -9223372036854775808 ≤ v ∧ v < 9223372036854775808) (kk : Wx g y Z K pc' L (vL v :: S) σ) : Wx g y Z K pc L (vL b :: vL a :: S) σ := by
  subst he
  intro F hL hS hσ H locs ls hH hs hl
  have k := kk F hL (xok_cons (xok_tl (xok_tl hS)) h1) hσ H locs ls hH hs hl
  rw [← hd.2] at k
  refine lv_lmul F.1 F.2.1 hd.1 ?_
  rw [← Int64.ofInt_mul]
  exact k
theorem x_lcmp {a b : Int} (hd : xd y.2.1 pc .lcmp 1 pc') (kk : ∀ r : Int, (r = 0 ↔ a = b) → -1 ≤ r ∧ r ≤ 1 → Wx g y Z K pc' L (vI r :: S) σ) : Wx g y Z K pc L (vL b :: vL a :: S) σ := by
  intro F hL hS hσ H locs ls hH hs hl
  have hb := xok_hd hS
  have ha := xok_hd (xok_tl hS)
  simp only [ok, vL] at ha hb
  have he : Int64.ofInt a = Int64.ofInt b ↔ a = b := by
    rw [← Int64.toInt_inj, i64 ha.1 ha.2, i64 hb.1 hb.2]
  have hr : (lg_cmp (Int64.ofInt a) (Int64.ofInt b)) = Int32.ofInt (lg_cmp (Int64.ofInt a) (Int64.ofInt b)).toInt := (Int32.ofInt_toInt _).symm
  have h0 : ((lg_cmp (Int64.ofInt a) (Int64.ofInt b)).toInt = 0 ↔ a = b) ∧ (-1 ≤ (lg_cmp (Int64.ofInt a) (Int64.ofInt b)).toInt ∧ (lg_cmp (Int64.ofInt a) (Int64.ofInt b)).toInt ≤ 1) := by
    unfold lg_cmp
    by_cases c1 : Int64.ofInt a > Int64.ofInt b
    · rw [if_pos c1]
      refine ⟨⟨(fun h => by cases h), (fun h => ?_)⟩, by decide⟩
      rw [h] at c1
      exact (Int64.lt_irrefl c1).elim
    · rw [if_neg c1]
      by_cases c2 : Int64.ofInt a = Int64.ofInt b
      · rw [if_pos c2]
        exact ⟨⟨fun _ => he.mp c2, fun _ => rfl⟩, by decide⟩
      · rw [if_neg c2]
        exact ⟨⟨(fun h => by cases h), (fun h => absurd (he.mpr h) c2)⟩, by decide⟩
  have k := kk _ h0.1 h0.2 F hL (xok_cons (xok_tl (xok_tl hS)) (toInt_ok _)) hσ H locs ls hH hs hl
  rw [← hd.2] at k
  refine W.lcmp F.1 F.2.1 hd.1 ?_
  rw [hr]
  exact k
theorem lvl_set2 {ls : Array Slot} {n i : Nat} {L : List MV} {v : MV} {w : Value} (hw : w = cv g v) (h : lv_has ls n ((i, w) :: (lvl g 0 L).filter (fun q => !(q.1 == i) && (!(q.1 == i + 1) && !(q.1 + 1 == i && q.2.category == 2))))) (hl : xnl L i = true) : lv_has ls n (lvl g 0 ((L.set i v).set (i + 1) vU)) := by
  refine ⟨h.1, h.2.1, fun q hq => ?_⟩
  obtain ⟨j, u, h1, h2, h3⟩ := lvl_of hq
  rw [Nat.zero_add] at h1
  subst h1
  by_cases hj2 : j = i + 1
  · subst hj2
    by_cases hlt : i + 1 < L.length
    · rw [List.getElem?_set_self (by rw [List.length_set]; exact hlt)] at h2
      cases h2
      cases h3
    · rw [List.getElem?_eq_none (by rw [List.length_set, List.length_set]; omega)] at h2
      cases h2
  · rw [List.getElem?_set_ne (Ne.symm hj2)] at h2
    by_cases hji : j = i
    · subst hji
      by_cases hlt : j < L.length
      · rw [List.getElem?_set_self hlt] at h2
        cases h2
        have := h.2.2 (j, w) List.mem_cons_self
        rw [hw] at this
        exact this
      · rw [List.getElem?_eq_none (by rw [List.length_set]; omega)] at h2
        cases h2
    · rw [List.getElem?_set_ne (Ne.symm hji)] at h2
      refine h.2.2 (j, cv g u) (List.mem_cons_of_mem _ (List.mem_filter.mpr ⟨?_, ?_⟩))
      · have := lvl_mem (g := g) (j := 0) h2 h3
        simpa using this
      · simp only [Bool.and_eq_true, Bool.not_eq_true', beq_eq_false_iff_ne, ne_eq, Bool.and_eq_false_iff]
        refine ⟨hji, hj2, ?_⟩
        by_cases hc : (cv g u).category = 2
        · left
          intro hi
          have hu := cv_cat hc
          cases i with
          | zero => omega
          | succ k =>
            have : j = k := by omega
            subst this
            simp [xnl, h2, hu] at hl
        · right; exact hc
theorem x_lstore_n {k : Fin 4} {i : Nat} {v : Int} {L' : List MV} (hd : xd y.2.1 pc (.lstore_n k) 1 pc') (hi : (k : Nat) = i) (hn : i + 1 < y.2.2.1) (hx : xnl L i = true) (hL' : (L.set i (vL v)).set (i + 1) vU = L') (kk : Wx g y Z K pc' L' S σ) : Wx g y Z K pc L (vL v :: S) σ := by
  subst hL'
  intro F hL hS hσ H locs ls hH hs hl
  refine lv_lstore_n F.1 F.2.1 hd.1 hi hl hn rfl (fun ls' hl' => ?_)
  have k := kk F (xok_set (xok_set hL (xok_hd hS)) trivial) (xok_tl hS) hσ H locs ls' hH hs (lvl_set2 (v := vL v) rfl hl' hx)
  rw [← hd.2] at k
  exact k
/-- entering a static method with one long -/
theorem x_enterL {v : Int} (n : Nat) (hy : plainName y.1.cls = true) (hn : n + 2 = y.2.2.1) (k : ∀ Z : xZ, Wx g y Z K 0 (vL v :: List.replicate (n + 1) vU) [] σ) : Mt g y [vL v] σ K := by
  intro hok
  refine Met.ofW (cc := y.2.1) (maxL := y.2.2.1) (ret := y.2.2.2.1) hy rfl ?_
  intro p e s m args below meth c s₁ B hml hv
  obtain ⟨rfl, hH, hK, hI, hRO, hNs, hσ⟩ := hv
  have hl := lv_entry ([vL v].map (cv g)) (n := y.2.2.1) (by show 2 ≤ _; omega)
  rw [lg_entry_eq]
  have hl2 : lv_has ((lg_sl ([vL v].map (cv g)) ++ List.replicate (y.2.2.1 - (lg_sl ([vL v].map (cv g))).length) Slot.unset).toArray) y.2.2.1 (lvl g 0 (vL v :: List.replicate (n + 1) vU)) := by
    refine ⟨hl.1, hl.2.1, fun q hq => ?_⟩
    obtain ⟨i, u, h1, h2, h3⟩ := lvl_of hq
    rw [Nat.zero_add] at h1
    refine hl.2.2 q ?_
    rw [h1]
    cases i with
    | zero =>
      simp only [List.getElem?_cons_zero, Option.some.injEq] at h2
      subst h2
      exact List.mem_cons_self
    | succ i =>
      rw [List.getElem?_cons_succ] at h2
      rw [(List.mem_replicate.mp (List.mem_of_getElem? h2)).2] at h3
      cases h3
  have hF : xF g y (p, e, s, m, ([vL v].map (cv g)).toArray, below, meth, c) := ⟨B.exec, B.bytes, hml, B.returns, B.notSynchronized, findClass_of_methodNamed B.named, atoms_spec (ws := xWs y) B.pre, hK, hI, hRO, hNs⟩
  refine k (p, e, s, m, ([vL v].map (cv g)).toArray, below, meth, c) hF ?_ (fun v h => by cases h) hσ s.heap [] _ hH va_S.rf hl2
  intro u hu
  rcases List.mem_cons.mp hu with rfl | h
  · exact hok _ List.mem_cons_self
  · rw [(List.mem_replicate.mp h).2]; trivial
/-- what a world's int can be -/
theorem x_range (k : Nat) (i : Int) (kk : (-2147483648 ≤ σ k i ∧ σ k i < 2147483648) → Wx g y Z K pc L S σ) : Wx g y Z K pc L S σ := fun F hL hS hσ => kk (hσ k i).1 F hL hS hσ
theorem x_okS (kk : okS σ → Wx g y Z K pc L S σ) : Wx g y Z K pc L S σ := fun F hL hS hσ => kk hσ F hL hS hσ
/-- the same world, otherwise written -/
theorem x_eq {σ' : xS} (h : σ = σ') (kk : Wx g y Z K pc L S σ') : Wx g y Z K pc L S σ := h ▸ kk
theorem x_post {K' : Option MV → xS → Prop} {as : List MV} (h : Mt g y as σ K') (hk : ∀ r σ', K' r σ' → K r σ') : Mt g y as σ K := by
  intro hok
  intro p e ha hc hk2 s m args below hf happ hP hK
  obtain ⟨n, o, h1, h2, h3, ⟨⟨r, σ', e1, e2, e3, e4⟩, q2⟩, q3⟩ := h hok p e ha hc hk2 s m args below hf happ hP hK
  exact ⟨n, o, h1, h2, h3, ⟨⟨r, σ', e1, e2, hk r σ' e3, e4⟩, q2⟩, q3⟩
end XB

