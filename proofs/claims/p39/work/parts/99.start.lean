/-! the law ahead of its town: the object made, the row of words, the script's first cell, the draw -/
theorem gw_tbl {yc : xM} (h : Cond.code yc.1 yc.2.1 yc.2.2.1 yc.2.2.2.1 ∈ gw) : GoodIn lw_tbl (xWs yc) := fun w hw => by
  rcases List.mem_cons.mp hw with rfl | h1
  · exact ⟨(List.mem_filter.mp h).1, gw_good _ h⟩
  · exact ⟨(List.mem_filter.mp h1).1, gw_good _ h1⟩
theorem n_Lw_8 : CN "ShakenBreadLaw" 8 9 df_Sb := ⟨RX9, TX9, 11, tyX9, rfl, uX9, (gw_1 (i := 19) rfl rfl), (gw_1 (i := 20) rfl rfl), (gw_1 (i := 1) rfl rfl), tyX9_ok, rfl, dv_Sb⟩
theorem cc_Lw_109 : CC "ShakenBreadLaw" 109 y_Sb_init 0 := ⟨(gw_1 (i := 1) rfl rfl), (gw_1 (i := 23) rfl rfl), rfl, rfl, (gw_1 (i := 22) rfl rfl), Or.inl (gw_1 (i := 21) rfl rfl), by decide, by decide, by decide, by decide +kernel⟩
def sF (g : xG) (p : Program) (s : State) (m : MethodId) (meth : Method) (c : Code) (b L : Nat) (xs : Nat → Int32) : Prop := lw_At p s m meth c b L xs ∧ xK g s ∧ aO s
def Sx (g : xG) (p : Program) (e : Env) (s : State) (m : MethodId) (below : List Frame) (meth : Method) (c : Code) (b cells slots pc : Nat) (V : List (Nat × Value)) (S : List Value) (es : List va_E) : Prop :=
  ∀ (H : Heap) (locs : List Loc) (ls : Array Slot), cHp g s.heap.size es H → va_S (cA s.heap.size) s.heap H locs → lv_has ls 16 V →
    W p g.1 e room_1 s m #[Value.ref b] below meth c H locs cells slots (lw_Z below #[Value.ref b] s) (F0 m pc ls S)
section SXS
variable {g : xG} {p : Program} {e : Env} {s : State} {m : MethodId} {below : List Frame} {meth : Method} {c : Code} {b L cells slots pc pc' : Nat} {xs : Nat → Int32} {V : List (Nat × Value)} {S : List Value} {es es' : List va_E}
theorem s_new {idx ci k c2 s2 : Nat} {fs : List Value} (F : sF g p s m meth c b L xs) (hd : xd code pc (.new idx) 3 pc') (hn : CN "ShakenBreadLaw" idx ci fs) (hc : cells + 1 ≤ 600000) (hsl : slots + fs.length ≤ 7302250) (hk : es.length = k) (ec : cells + 1 = c2) (eS : slots + fs.length = s2) (kk : Sx g p e s m below meth c b c2 s2 pc' V (.ref (s.heap.size + k) :: S) (es ++ [.inr (ci, fs)])) : Sx g p e s m below meth c b cells slots pc V S es := by
  subst ec eS hk
  intro H locs ls hH hs hls
  obtain ⟨C, T, N, ty0, n1, n2, n3, n4, n5, n6, n7, n8⟩ := hn
  have hts := F.1.2.2.2.2.2.1
  have hw : ∀ {w : Cond}, w ∈ gw → w.before #[Value.ref b] s = true := fun h => hts _ (List.mem_filter.mp h).1
  have hKn := F.2.1.1 ci _ n1
  refine W.newcK (n := N) F.1.1 F.1.2.1 (own := "ShakenBreadLaw") F.1.2.2.2.2.1 (hw n3) (hw n4) (hw n5) rfl hd.1 hc (by rw [← n7]; exact hsl) hKn.2.1 hH.1 (fun H1 kC hkC e1 z1 o1 => ?_)
  have hat : va_at g.2.2.1 classes (s.heap.size + es.length, .inr (ci, fs)) H1 := ⟨_, n1, (u_born ty0 (fun w h => hw h) n2 hKn hkC e1 n6).to n8⟩
  have hH1 := cHp_push hH z1 o1 hat
  have hs1 : va_S (cA s.heap.size) s.heap H1 locs := ⟨by have := hs.1; have := hH.1; omega, fun q q1 q2 => (o1 q (by have := hs.1; have := hH.1; omega)).trans (hs.2.1 q q1 q2), hs.2.2⟩
  have k0 := kk H1 locs ls hH1 hs1 hls
  rw [← hd.2, n7] at k0
  exact k0
theorem s_dup {v : Value} (F : sF g p s m meth c b L xs) (hd : xd code pc .dup 1 pc') (hv : v.category = 1) (kk : Sx g p e s m below meth c b cells slots pc' V (v :: v :: S) es) : Sx g p e s m below meth c b cells slots pc V (v :: S) es := by
  intro H locs ls hH hs hls
  have k0 := kk H locs ls hH hs hls
  rw [← hd.2] at k0
  exact lv_dup F.1.1 F.1.2.1 hd.1 hv k0
theorem s_ast {k : Fin 4} {i q : Nat} {V' : List (Nat × Value)} (F : sF g p s m meth c b L xs) (hd : xd code pc (.astore_n k) 1 pc') (hi : (k : Nat) = i) (hn : i < 16) (hl : (i, Value.ref q) :: V.filter (fun z => !(z.1 == i) && !(z.1 + 1 == i && z.2.category == 2)) = V') (kk : Sx g p e s m below meth c b cells slots pc' V' S es) : Sx g p e s m below meth c b cells slots pc V (.ref q :: S) es := by
  intro H locs ls hH hs hls
  refine lv_astore_n F.1.1 F.1.2.1 hd.1 hi hls hn hl (fun ls' hls' => ?_)
  have k0 := kk H locs ls' hH hs hls'
  rw [← hd.2] at k0
  exact k0
theorem s_bip {n : Int} {v : Int32} (F : sF g p s m meth c b L xs) (hd : xd code pc (.bipush n) 2 pc') (hv : (Int8.ofInt n).toInt32 = v) (kk : Sx g p e s m below meth c b cells slots pc' V (.int v :: S) es) : Sx g p e s m below meth c b cells slots pc V S es := by
  intro H locs ls hH hs hls
  have k0 := kk H locs ls hH hs hls
  rw [← hd.2] at k0
  exact lv_bipush F.1.1 F.1.2.1 hd.1 hv k0
theorem s_newa {N k c2 s2 : Nat} {v : Int32} (F : sF g p s m meth c b L xs) (hd : xd code pc (.newarray .int) 2 pc') (hv : ¬ v < 0) (hN : v.toNatClampNeg = N) (hb : N ≤ 100000) (hc : cells + 1 ≤ 600000) (hsl : slots + N ≤ 7302250) (hk : es.length = k) (ec : cells + 1 = c2) (eS : slots + N = s2) (kk : Sx g p e s m below meth c b c2 s2 pc' V (.ref (s.heap.size + k) :: S) (es ++ [.inl (g.2.2.2 20, N, .inl (fun _ => 0))])) : Sx g p e s m below meth c b cells slots pc V (.int v :: S) es := by
  subst ec eS hk
  intro H locs ls hH hs hls
  have hts := F.1.2.2.2.2.2.1
  refine va_newaK (atype := .int) F.1.1 F.1.2.1 (hts _ (List.mem_filter.mp aw_20).1) rfl hd.1 rfl hv hN (Nat.le_trans (Nat.mul_le_mul hb (show componentBytes (newarray.typeOf .int) ≤ 4 by decide)) (by decide)) hc hsl hH.1 (fun H1 cA1 e1 z1 o1 hAr hNm => ?_)
  have hca : cA1 = g.2.2.2 20 := Option.some.inj (hNm.symm.trans (F.2.1.2 0 _ rfl).2)
  subst hca
  have hat : va_at g.2.2.1 classes (s.heap.size + es.length, .inl (g.2.2.2 20, N, .inl (fun _ => 0))) H1 := e1
  have hH1 := cHp_push hH z1 o1 hat
  have hs1 : va_S (cA s.heap.size) s.heap H1 locs := ⟨by have := hs.1; have := hH.1; omega, fun q q1 q2 => (o1 q (by have := hs.1; have := hH.1; omega)).trans (hs.2.1 q q1 q2), hs.2.2⟩
  have k0 := kk H1 locs ls hH1 hs1 hls
  rw [← hd.2] at k0
  exact k0
theorem s_init {idx mc2 ms2 c2 s2 q : Nat} {yc : xM} (F : sF g p s m meth c b L xs) (hd : xd code pc (.invokespecial idx) 3 pc') (hc : CC "ShakenBreadLaw" idx yc 0) (hl : Cond.methodLink "ShakenBreadLaw" idx yc.1 ∈ gw) (hdep : yc.2.2.2.2 ≤ 11) (hcl : cells + mc2 ≤ 600000) (hsl : slots + ms2 ≤ 7302250) (ec : cells + mc2 = c2) (eS : slots + ms2 = s2)
    (hM : Mc g s.heap.size yc [.ref q] es es' mc2 ms2) (kk : Sx g p e s m below meth c b c2 s2 pc' V [.ref q] es') : Sx g p e s m below meth c b cells slots pc V [.ref q, .ref q] es := by
  subst ec eS
  intro H locs ls hH hs hls
  obtain ⟨c1, c2, c3, c4, c5, -, c7, c8⟩ := hc
  have hts := F.1.2.2.2.2.2.1
  have hw : ∀ {w : Cond}, w ∈ gw → w.before #[Value.ref b] s = true := fun h => hts _ (List.mem_filter.mp h).1
  have cb := callB_of (ret := yc.2.2.2.1) (own := "ShakenBreadLaw") (index := idx) (R := room_1) (rm := cRm yc.2.2.2.2 mc2 ms2) (mc := mc2) (ms := ms2) 0 hts (gw_tbl c2) rfl rfl rfl (hw c1) (hw hl) c8 ⟨by show yc.2.2.2.2 + 1 ≤ 15; omega, by show 8 + (yc.2.2.1 + 11) + 40 * yc.2.2.2.2 ≤ 598; omega⟩
  rw [c3] at cb
  have hr := va_runI (l := g.1) (e := e) (below := below) (meth := meth) (locs := locs) (cells := cells) (slots := slots) (As := []) (rest := [.ref q]) (g := F0 m pc ls [.ref q, .ref q]) ⟨F.1.1, F.1.2.1, F.1.2.2.2.1, F.1.2.2.2.2.1, hts⟩ hM ⟨cb, c4, hw c5⟩ ⟨cPre_blind, fun U hU hW => ⟨rfl, by rw [hU]; exact hH, xK_moved hW.alike F.2.1, aO_warm hW F.2.2⟩⟩ rfl rfl hls.1 rfl (by show 2 * 0 + 1 ≤ 8; omega) hd.1 ⟨hcl, hsl⟩
  intro T hT X9
  obtain ⟨v, st₀, t, T', Lc, h0, X', hLc, e1, e2, ⟨⟨hv, hH2⟩, hz2, hk2⟩, st⟩ := hr T hT X9
  have hv' : v = none := by cases hv; rfl
  subst hv'
  rw [h0] at hz2 hk2
  have hs1 : va_S (cA s.heap.size) s.heap T'.heap (locs ++ Lc) := ⟨Nat.le_trans hs.1 (by rw [e1]; exact hz2), fun q h1 h2 => by rw [e1, hk2 q (Nat.lt_of_lt_of_le h1 hs.1) h2]; exact hs.2.1 q h1 h2, fun q hq => by
    rcases List.mem_append.mp hq with h | h
    · exact hs.2.2 q h
    · exact hLc q h⟩
  rw [← e1] at hH2
  have k0 := kk T'.heap (locs ++ Lc) ls hH2 hs1 hls
  rw [← hd.2] at k0
  obtain ⟨t2, a1, b1⟩ := k0 T' rfl X'
  exact ⟨t2, st t2 a1, b1⟩
set_option maxRecDepth 20000 in
set_option maxHeartbeats 3000000 in
theorem len_Sb {B : Nat} : (mkSb g B 0).length = 174 := by
  simp only [mkSb, mkTo, mkTw, mkBk, mkHa, mkPl, mkRe, mkRu, mkTr, mkWo, ap, List.nil_append, List.cons_append, List.set_cons_succ, List.set_cons_zero, List.length_cons, List.length_nil, Nat.reduceAdd, Nat.zero_add]
theorem s_half2 (F : sF g p s m meth c b L xs) (h1 : es.length = 174) (fin : Sx g p e s m below meth c b 175 60787 13 [(2, .ref (s.heap.size + 174)), (1, .ref (s.heap.size + 0)), (0, .ref b)] [] (es ++ [.inl (g.2.2.2 20, 8, .inl (fun _ => 0))])) : Sx g p e s m below meth c b 174 60779 8 [(1, .ref (s.heap.size + 0)), (0, .ref b)] [] es := by
  refine s_bip (v := 8) F (dat d_Lw_law_0 4 rfl) (by decide) ?_
  refine s_newa (N := 8) (k := 174) (c2 := 175) (s2 := 60787) F (dat d_Lw_law_0 5 rfl) (by decide) (by decide) (by decide) (by decide) (by decide) h1 rfl rfl ?_
  exact s_ast (i := 2) F (dat d_Lw_law_0 6 rfl) rfl (by decide) rfl fin
theorem s_half1 (F : sF g p s m meth c b L xs) (fin : Sx g p e s m below meth c b 174 60779 8 [(1, .ref (s.heap.size + 0)), (0, .ref b)] [] (mkSb g s.heap.size 0)) : Sx g p e s m below meth c b 0 0 0 [(0, .ref b)] [] [] := by
  refine s_new (k := 0) (c2 := 1) (s2 := 11) F (dat d_Lw_law_0 0 rfl) n_Lw_8 (by decide) (by decide) rfl rfl rfl ?_
  refine s_dup F (dat d_Lw_law_0 1 rfl) rfl ?_
  refine s_init (es' := mkSb g s.heap.size 0) (c2 := 174) (s2 := 60779) F (dat d_Lw_law_0 2 rfl) cc_Lw_109 (gw_1 (i := 21) rfl rfl) (by decide) (by decide) (by decide) rfl rfl (k_Sb (es0 := [])) ?_
  exact s_ast (i := 1) F (dat d_Lw_law_0 3 rfl) rfl (by decide) rfl fin
end SXS
section LAW5
variable {p : Program} {e : Env} {s : State} {m : MethodId} {below : List Frame} {meth : Method} {c : Code} {b : Nat} {g : xG} {a : Int} {N : Nat} {xs : Nat → Int32}
theorem lw_27 (hX : aX g (lY p e s m below meth c b) N xs) (hRO : xROA (cA s.heap.size) g s s.heap) (hNs : xNs g s) (hk : ∀ k, k < 175 → s.heap.size ≤ g.2.1 k) (ha : -2147483648 ≤ a ∧ a < 2147483648) : Ax g y_Lw_law (lY p e s m below meth c b) (List.range 175) 175 60787 27 [vR 500, vR 0, vR 174, vU, vU, vU, vU, vU, vU, vU, vU, vU, vU, vU, vU, vU] [vI a] sZ := by
  have h7 := ia7 a
  have hq0 := ia3 (ishr a 3)
  obtain ⟨P, hP⟩ : ∃ P : Int, P = 1 + iand a 7 := ⟨_, rfl⟩
  have hPb : 1 ≤ P ∧ P ≤ 8 := by omega
  refine a_istore_n (L' := [vR 500, vR 0, vR 174, vI a, vU, vU, vU, vU, vU, vU, vU, vU, vU, vU, vU, vU]) (dat d_Lw_law_0 15 rfl) rfl (by decide) rfl rfl ?_
  refine a_iconst (dat d_Lw_law_0 16 rfl) (by decide) ?_
  refine a_iload_n (dat d_Lw_law_0 17 rfl) rfl rfl ?_
  refine a_bipush (dat d_Lw_law_0 18 rfl) (by decide) (by decide) ?_
  refine a_iand (v := iand a 7) (dat d_Lw_law_0 19 rfl) rfl ?_
  refine a_iadd (v := P) (dat d_Lw_law_0 20 rfl) (by exact hP.symm) (by omega) ?_
  refine a_istore (L' := [vR 500, vR 0, vR 174, vI a, vI P, vU, vU, vU, vU, vU, vU, vU, vU, vU, vU, vU]) (dat d_Lw_law_0 21 rfl) (by decide) rfl rfl ?_
  refine a_aload_n (dat d_Lw_law_0 22 rfl) rfl rfl ?_
  refine a_iconst (dat d_Lw_law_0 23 rfl) (by decide) ?_
  refine a_iload (dat d_Lw_law_0 24 rfl) rfl ?_
  refine a_bipush (dat d_Lw_law_0 25 rfl) (by decide) (by decide) ?_
  refine a_mmin (own := "ShakenBreadLaw") (dat d_Lw_law_0 26 rfl) rfl l_Lw_80 (by decide) (Nat.le_of_ble_eq_true rfl) (fun m_42 h1_42 h2_42 h3_42 => ?_)
  have h42 : m_42 = P := by omega
  subst h42
  refine a_iload_n (dat d_Lw_law_0 27 rfl) rfl rfl ?_
  refine a_iconst (dat d_Lw_law_0 28 rfl) (by decide) ?_
  refine a_ishr (v := ishr a 3) (dat d_Lw_law_0 29 rfl) rfl ?_
  refine a_iconst (dat d_Lw_law_0 30 rfl) (by decide) ?_
  refine a_iand (v := iand (ishr a 3) 3) (dat d_Lw_law_0 31 rfl) rfl ?_
  refine a_draw (q := if m_42 < 2 then 0 else iand (ishr a 3) 3) hX rfl hPb hq0 rfl (dat d_Lw_law_0 32 rfl) rfl l_Lw_110 (by decide) (Nat.le_of_ble_eq_true rfl) ⟨Nat.le_of_ble_eq_true rfl, Nat.le_of_ble_eq_true rfl⟩ rfl rfl (fun r f hr hf => ?_)
  obtain ⟨hT, h6⟩ := dr_rg hPb hq0 rfl hf
  have ej : ∀ j, j ≠ 175 → (sg g 175 r).2.1 j = g.2.1 j := fun j hj => show (if j = 175 then r else g.2.1 j) = g.2.1 j from if_neg hj
  have ek : (sg g 175 r).2.1 175 = r := show (if 175 = 175 then r else g.2.1 175) = r from if_pos rfl
  have hG : aG (sg g 175 r) (lY p e s m below meth c b) := ⟨hRO.rd (fun j hj => ej j (by omega)), xNs_rd hNs (fun j hj => ej j (by omega)), fun k hkk => by
    show s.heap.size ≤ (sg g 175 r).2.1 k
    by_cases z : k = 175
    · rw [z, ek]; exact hr
    · have hkk : k < 176 := hkk
      rw [ej k z]; exact hk k (by omega)⟩
  rw [← h6]
  refine a_astore (L' := [vR 500, vR 0, vR 174, vI a, vI (f 6), vR 175, vU, vU, vU, vU, vU, vU, vU, vU, vU, vU]) (dat d_Lw_law_0 33 rfl) (by decide) rfl rfl ?_
  exact lw_55 (A := aZ) (im := fun _ _ => 0) (t := f) hG (ws_Z.pts.same (fun o ho => by funext i; exact if_neg (by omega))) rfl rfl hT (fun i _ _ => if_pos rfl) ha ⟨by decide, by decide⟩
theorem lw_13 (hX : aX g (lY p e s m below meth c b) N xs) (hRO : xROA (cA s.heap.size) g s s.heap) (hNs : xNs g s) (hk : ∀ k, k < 175 → s.heap.size ≤ g.2.1 k) : Ax g y_Lw_law (lY p e s m below meth c b) (List.range 175) 175 60787 13 [vR 500, vR 0, vR 174, vU, vU, vU, vU, vU, vU, vU, vU, vU, vU, vU, vU, vU] [] sZ := by
  refine a_aload_n (dat d_Lw_law_0 7 rfl) rfl rfl ?_
  refine a_slen hX (dat d_Lw_law_0 8 rfl) ?_
  refine a_if_le (tgt := 24) (dat d_Lw_law_0 9 rfl) (by decide) (fun c_15 => ?_) (fun c_15 => ?_)
  · refine a_sipush (dat d_Lw_law_0 14 rfl) (by decide) (by decide) ?_
    first
    | exact lw_27 hX hRO hNs hk ⟨by decide, by decide⟩
    | exact lw_27 hX hRO hNs hk (toInt_ok _)
  · refine a_aload_n (dat d_Lw_law_0 10 rfl) rfl rfl ?_
    refine a_iconst (dat d_Lw_law_0 11 rfl) (by decide) ?_
    refine a_sld hX (dat d_Lw_law_0 12 rfl) (by omega) (by omega) ?_
    refine a_goto (tgt := 27) (dat d_Lw_law_0 13 rfl) (by decide) ?_
    first
    | exact lw_27 hX hRO hNs hk ⟨by decide, by decide⟩
    | exact lw_27 hX hRO hNs hk (toInt_ok _)
end LAW5
theorem whole_start {p : Program} {e : Env} {s : State} {m : MethodId} {below : List Frame} {meth : Method} {c : Code} (l : Launch) (hflags : l.flags = flags0) {b L : Nat} {xs : Nat → Int32} (hL : L ≤ 260) (C0 : lw_At p s m meth c b L xs) : W p l e room_1 s m #[Value.ref b] below meth c s.heap [] 0 0 (lw_Z below #[Value.ref b] s) (entryFrame m ([Value.ref b] : List Value).toArray 16) := by
  have hts := C0.2.2.2.2.2.1
  have hnw : ∀ w ∈ nwL, w.before #[Value.ref b] s = true := flat_of_before _ C0.2.2.2.2.2.2.2.2.2
  obtain ⟨D, ca, hK⟩ := start_k l hts
  obtain ⟨st, hb5, hS⟩ := start_ro l b hts hnw
  have hRO := (hS D ca).1
  have hNs := (hS D ca).2
  have F : sF (gZ l s.heap.size st D ca) p s m meth c b L xs := ⟨C0, hK st, start_o hts⟩
  have hl := lv_entry ([Value.ref b]) (n := 16) (Nat.le_of_ble_eq_true rfl)
  have hg5 : (gZ l s.heap.size st D ca).2.1 500 = b := (gZ_st (by decide)).trans hb5
  have hX : aX (gZ l s.heap.size st D ca) (lY p e s m below meth c b) L xs := ⟨hL, by rw [hg5]; exact C0.2.2.2.2.2.2.1, by rw [hg5]; exact C0.2.2.2.2.2.2.2.1, by rw [hg5]; exact Nat.not_le.mpr C0.2.2.2.2.2.2.2.1⟩
  rw [lg_entry_eq]
  refine s_half1 F (s_half2 F len_Sb ?_) s.heap [] _ ⟨rfl, fun k q h => by cases h⟩ va_S.rf hl
  rw [wz_eq]
  intro H locs ls hH hs hls
  rw [← hg5] at hls
  refine lw_13 hX hRO hNs (fun k hk => gZ_at hk) ⟨C0.1, C0.2.1, C0.2.2.2.1, C0.2.2.1, C0.2.2.2.2.2.2.2.2.1, C0.2.2.2.2.1, fun w hw => hts _ (List.mem_filter.mp hw).1, hK st, fun q h => h, Nat.le_of_ble_eq_true rfl, Nat.le_of_ble_eq_true rfl⟩ ⟨fun i j p q hp hq h => gZ_inj hp hq h, fun k hk => gZ_at (List.mem_range.mp hk), Nat.le_of_ble_eq_true rfl, Nat.le_of_ble_eq_true rfl⟩ ?_ (fun v h => absurd h List.not_mem_nil) sZ_ok H locs ls (first_world hH) hs (lv_sub hls [2, 1, 0] rfl)
  repeat (first | exact (fun v hv => absurd hv List.not_mem_nil) | refine List.forall_mem_cons.mpr ⟨trivial, ?_⟩)
