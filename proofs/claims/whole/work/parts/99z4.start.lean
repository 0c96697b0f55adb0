/-! the law ahead of its loop: both objects made -/
theorem n_Lw_7 : CN "ShakenBreadLaw" 7 9 df_Sb := ⟨RX9, TX9, 11, tyX9, rfl, uX9, (gw_1 (i := 20) rfl rfl), (gw_1 (i := 21) rfl rfl), (gw_1 (i := 1) rfl rfl), tyX9_ok, rfl, dv_Sb⟩
theorem cc_Lw_9 : CC "ShakenBreadLaw" 9 y_Sb_init 0 := ⟨(gw_1 (i := 1) rfl rfl), (gw_1 (i := 24) rfl rfl), rfl, rfl, (gw_1 (i := 23) rfl rfl), Or.inl (gw_1 (i := 22) rfl rfl), by decide, by decide, by decide, by decide +kernel⟩
theorem n_Lw_10 : CN "ShakenBreadLaw" 10 10 df_Mo := ⟨RX10, TX10, 66, tyX10, rfl, uX10, (gw_6 (i := 62) rfl rfl), (gw_6 (i := 63) rfl rfl), (gw_1 (i := 11) rfl rfl), tyX10_ok, rfl, dv_Mo⟩
theorem cc_Lw_12 : CC "ShakenBreadLaw" 12 y_Mo_init 0 := ⟨(gw_1 (i := 11) rfl rfl), (gw_6 (i := 66) rfl rfl), rfl, rfl, (gw_6 (i := 65) rfl rfl), Or.inl (gw_6 (i := 64) rfl rfl), by decide, by decide, by decide, by decide +kernel⟩
def sF (g : xG) (p : Program) (s : State) (m : MethodId) (meth : Method) (c : Code) (b L : Nat) (xs : Nat → Int32) : Prop := lw_At p s m meth c b L xs ∧ xK g s ∧ aO s
def Sx (g : xG) (p : Program) (e : Env) (s : State) (m : MethodId) (below : List Frame) (meth : Method) (c : Code) (b cells slots pc : Nat) (V : List (Nat × Value)) (S : List Value) (es : List va_E) : Prop :=
  ∀ (H : Heap) (locs : List Loc) (ls : Array Slot), cHp g s.heap.size es H → va_S (cA s.heap.size) s.heap H locs → lv_has ls 4 V →
    W p g.1 e room_1 s m #[Value.ref b] below meth c H locs cells slots (lw_Z below #[Value.ref b] s) (F0 m pc ls S)
section SXS
variable {g : xG} {p : Program} {e : Env} {s : State} {m : MethodId} {below : List Frame} {meth : Method} {c : Code} {b L cells slots pc pc' : Nat} {xs : Nat → Int32} {V : List (Nat × Value)} {S : List Value} {es es' : List va_E}
theorem s_new {idx ci k c2 s2 : Nat} {fs : List Value} (F : sF g p s m meth c b L xs) (hd : xd code pc (.new idx) 3 pc') (hn : CN "ShakenBreadLaw" idx ci fs) (hc : cells + 1 ≤ 600000) (hsl : slots + fs.length ≤ 7302250) (hk : es.length = k) (ec : cells + 1 = c2) (eS : slots + fs.length = s2) (kk : Sx g p e s m below meth c b c2 s2 pc' V (.ref (s.heap.size + k) :: S) (es ++ [.inr (ci, fs)])) : Sx g p e s m below meth c b cells slots pc V S es := by
  subst ec eS hk
  intro H locs ls hH hs hls
  obtain ⟨C, T, N, ty0, n1, n2, n3, n4, n5, n6, n7, n8⟩ := hn
  have hts := F.1.2.2.2.2.2.1
  have hw : ∀ {w : Cond}, w ∈ gw → w.before #[Value.ref b] s = true := fun h => hts _ (List.mem_filter.mp h).1
  have hKn := F.2.1.1 ci _ n1
  refine W.newcK (n := N) F.1.1 F.1.2.1 (own := "ShakenBreadLaw") F.1.2.2.2.2.1 (hw n3) (hw n4) (hw n5) rfl hd.1 hc (by rw [← n7]; exact hsl) hKn.2.1 hH.1 (fun H1 kC hkC e1 z1 o1 => ?_)
  have hat : va_at g.2.2.1 classes (s.heap.size + es.length, .inr (ci, fs)) H1 := ⟨_, n1, (u_born ty0 (fun w h => hw h) n2 hKn hkC e1 n6).to n8⟩
  have hH1 := cHp_push hH z1 o1 hat
  have hs1 : va_S (cA s.heap.size) s.heap H1 locs := ⟨by have := hs.1; have := hH.1; omega, fun q q1 q2 => (o1 q (by have := hs.1; have := hH.1; omega)).trans (hs.2.1 q q1 q2), hs.2.2⟩
  have k0 := kk H1 locs ls hH1 hs1 hls
  rw [← hd.2, n7] at k0
  exact k0
theorem s_dup {v : Value} (F : sF g p s m meth c b L xs) (hd : xd code pc .dup 1 pc') (hv : v.category = 1) (kk : Sx g p e s m below meth c b cells slots pc' V (v :: v :: S) es) : Sx g p e s m below meth c b cells slots pc V (v :: S) es := by
  intro H locs ls hH hs hls
  have k0 := kk H locs ls hH hs hls
  rw [← hd.2] at k0
  exact lv_dup F.1.1 F.1.2.1 hd.1 hv k0
theorem s_ast {k : Fin 4} {i q : Nat} {V' : List (Nat × Value)} (F : sF g p s m meth c b L xs) (hd : xd code pc (.astore_n k) 1 pc') (hi : (k : Nat) = i) (hn : i < 4) (hl : (i, Value.ref q) :: V.filter (fun z => !(z.1 == i) && !(z.1 + 1 == i && z.2.category == 2)) = V') (kk : Sx g p e s m below meth c b cells slots pc' V' S es) : Sx g p e s m below meth c b cells slots pc V (.ref q :: S) es := by
  intro H locs ls hH hs hls
  refine lv_astore_n F.1.1 F.1.2.1 hd.1 hi hls hn hl (fun ls' hls' => ?_)
  have k0 := kk H locs ls' hH hs hls'
  rw [← hd.2] at k0
  exact k0
theorem s_ist {k : Fin 4} {i : Nat} {v : Int32} {V' : List (Nat × Value)} (F : sF g p s m meth c b L xs) (hd : xd code pc (.istore_n k) 1 pc') (hi : (k : Nat) = i) (hn : i < 4) (hl : (i, Value.int v) :: V.filter (fun z => !(z.1 == i) && !(z.1 + 1 == i && z.2.category == 2)) = V') (kk : Sx g p e s m below meth c b cells slots pc' V' S es) : Sx g p e s m below meth c b cells slots pc V (.int v :: S) es := by
  intro H locs ls hH hs hls
  refine lv_istore_n F.1.1 F.1.2.1 hd.1 hi hls hn hl (fun ls' hls' => ?_)
  have k0 := kk H locs ls' hH hs hls'
  rw [← hd.2] at k0
  exact k0
theorem s_ic {n : Int} {v : Int32} (F : sF g p s m meth c b L xs) (hd : xd code pc (.iconst n) 1 pc') (hv : Int32.ofInt n = v) (kk : Sx g p e s m below meth c b cells slots pc' V (.int v :: S) es) : Sx g p e s m below meth c b cells slots pc V S es := by
  intro H locs ls hH hs hls
  have k0 := kk H locs ls hH hs hls
  rw [← hd.2] at k0
  exact lv_iconst F.1.1 F.1.2.1 hd.1 hv k0
theorem s_init {idx mc2 ms2 c2 s2 q : Nat} {yc : xM} (F : sF g p s m meth c b L xs) (hd : xd code pc (.invokespecial idx) 3 pc') (hc : CC "ShakenBreadLaw" idx yc 0) (hl : Cond.methodLink "ShakenBreadLaw" idx yc.1 ∈ gw) (hdep : yc.2.2.2.2 ≤ 11) (hcl : cells + mc2 ≤ 600000) (hsl : slots + ms2 ≤ 7302250) (ec : cells + mc2 = c2) (eS : slots + ms2 = s2)
    (hM : Mc g s.heap.size yc [.ref q] es es' mc2 ms2) (kk : Sx g p e s m below meth c b c2 s2 pc' V [.ref q] es') : Sx g p e s m below meth c b cells slots pc V [.ref q, .ref q] es := by
  subst ec eS
  intro H locs ls hH hs hls
  obtain ⟨c1, c2, c3, c4, c5, -, c7, c8⟩ := hc
  have hts := F.1.2.2.2.2.2.1
  have hw : ∀ {w : Cond}, w ∈ gw → w.before #[Value.ref b] s = true := fun h => hts _ (List.mem_filter.mp h).1
  have cb := callB_of (ret := yc.2.2.2.1) (own := "ShakenBreadLaw") (index := idx) (R := room_1) (rm := cRm yc.2.2.2.2 mc2 ms2) (mc := mc2) (ms := ms2) 0 hts (gw_tbl c2) rfl rfl rfl (hw c1) (hw hl) c8 ⟨by show yc.2.2.2.2 + 1 ≤ 13; omega, by show 8 + (yc.2.2.1 + 11) + 40 * yc.2.2.2.2 ≤ 480; omega⟩
  rw [c3] at cb
  have hr := va_runI (l := g.1) (e := e) (below := below) (meth := meth) (locs := locs) (cells := cells) (slots := slots) (As := []) (rest := [.ref q]) (g := F0 m pc ls [.ref q, .ref q]) ⟨F.1.1, F.1.2.1, F.1.2.2.2.1, F.1.2.2.2.2.1, hts⟩ hM ⟨cb, c4, hw c5⟩ ⟨cPre_blind, fun U hU hW => ⟨rfl, by rw [hU]; exact hH, xK_moved hW.alike F.2.1, aO_warm hW F.2.2⟩⟩ rfl rfl hls.1 rfl (by show 2 * 0 + 1 ≤ 8; omega) hd.1 ⟨hcl, hsl⟩
  intro T hT X9
  obtain ⟨v, st₀, t, T', Lc, h0, X', hLc, e1, e2, ⟨⟨hv, hH2⟩, hz2, hk2⟩, st⟩ := hr T hT X9
  have hv' : v = none := by cases hv; rfl
  subst hv'
  rw [h0] at hz2 hk2
  have hs1 : va_S (cA s.heap.size) s.heap T'.heap (locs ++ Lc) := ⟨Nat.le_trans hs.1 (by rw [e1]; exact hz2), fun q h1 h2 => by rw [e1, hk2 q (Nat.lt_of_lt_of_le h1 hs.1) h2]; exact hs.2.1 q h1 h2, fun q hq => by
    rcases List.mem_append.mp hq with h | h
    · exact hs.2.2 q h
    · exact hLc q h⟩
  rw [← e1] at hH2
  have k0 := kk T'.heap (locs ++ Lc) ls hH2 hs1 hls
  rw [← hd.2] at k0
  obtain ⟨t2, a1, b1⟩ := k0 T' rfl X'
  exact ⟨t2, st t2 a1, b1⟩
/-- the twin is made behind a class that stands -/
theorem s_half2 (F : sF g p s m meth c b L xs) (h1 : es.length = 174) (fin : Sx g p e s m below meth c b 198 118498 18 [(3, .int (nI 0)), (2, .ref (s.heap.size + 174)), (1, .ref (s.heap.size + 0)), (0, .ref b)] [] (es ++ mkMo g s.heap.size 174)) : Sx g p e s m below meth c b 174 60779 8 [(1, .ref (s.heap.size + 0)), (0, .ref b)] [] es := by
  refine s_new (k := 174) (c2 := 175) (s2 := 60845) F (dat d_Lw_h 4 rfl) n_Lw_10 (by decide) (by decide) h1 rfl rfl ?_
  refine s_dup F (dat d_Lw_h 5 rfl) rfl ?_
  have hM := k_Mo (g := g) (B := s.heap.size) (es0 := es)
  rw [h1] at hM
  refine s_init (c2 := 198) (s2 := 118498) F (dat d_Lw_h 6 rfl) cc_Lw_12 (gw_6 (i := 64) rfl rfl) (by decide) (by decide) (by decide) rfl rfl hM ?_
  refine s_ast (i := 2) F (dat d_Lw_h 7 rfl) rfl (by decide) rfl ?_
  refine s_ic (v := nI 0) F (dat d_Lw_h 8 rfl) (by decide) ?_
  exact s_ist (i := 3) F (dat d_Lw_h 9 rfl) rfl (by decide) rfl fin
set_option maxRecDepth 20000 in
set_option maxHeartbeats 3000000 in
theorem len_Sb {B : Nat} : (mkSb g B 0).length = 174 := by
  simp only [mkSb, mkTo, mkTw, mkBk, mkHa, mkPl, mkRe, mkRu, mkTr, mkWo, ap, List.nil_append, List.cons_append, List.set_cons_succ, List.set_cons_zero, List.length_cons, List.length_nil, Nat.reduceAdd, Nat.zero_add]
theorem s_half1 (F : sF g p s m meth c b L xs) (fin : Sx g p e s m below meth c b 174 60779 8 [(1, .ref (s.heap.size + 0)), (0, .ref b)] [] (mkSb g s.heap.size 0)) : Sx g p e s m below meth c b 0 0 0 [(0, .ref b)] [] [] := by
  refine s_new (k := 0) (c2 := 1) (s2 := 11) F (dat d_Lw_h 0 rfl) n_Lw_7 (by decide) (by decide) rfl rfl rfl ?_
  refine s_dup F (dat d_Lw_h 1 rfl) rfl ?_
  refine s_init (es' := mkSb g s.heap.size 0) (c2 := 174) (s2 := 60779) F (dat d_Lw_h 2 rfl) cc_Lw_9 (gw_1 (i := 22) rfl rfl) (by decide) (by decide) (by decide) rfl rfl (k_Sb (es0 := [])) ?_
  exact s_ast (i := 1) F (dat d_Lw_h 3 rfl) rfl (by decide) rfl fin
end SXS
theorem whole_start {p : Program} {e : Env} {s : State} {m : MethodId} {below : List Frame} {meth : Method} {c : Code} (l : Launch) (hflags : l.flags = flags0) {b L : Nat} {xs : Nat → Int32} (hL : L ≤ 3072) (C0 : lw_At p s m meth c b L xs) : W p l e room_1 s m #[Value.ref b] below meth c s.heap [] 0 0 (lw_Z below #[Value.ref b] s) (entryFrame m ([Value.ref b] : List Value).toArray 4) := by
  have hts := C0.2.2.2.2.2.1
  have hnw : ∀ w ∈ nwL, w.before #[Value.ref b] s = true := flat_of_before _ C0.2.2.2.2.2.2.2.2.2
  obtain ⟨D, ca, hK⟩ := start_k l hts
  obtain ⟨st, hS⟩ := start_ro l hts hnw
  have hRO := (hS D ca).1
  have hNs := (hS D ca).2
  have F : sF (gZ l s.heap.size st D ca) p s m meth c b L xs := ⟨C0, hK st, start_o hts⟩
  have F2 : lF (gZ l s.heap.size st D ca) p s m meth c b L xs 198 118498 := ⟨C0, hL, ⟨by decide, by decide⟩, hK st, gZ_inj, hRO, hNs, fun k hk => gZ_at hk⟩
  have hl := lv_entry ([Value.ref b]) (n := 4) (Nat.le_of_ble_eq_true rfl)
  rw [lg_entry_eq]
  refine s_half1 F (s_half2 F len_Sb ?_) s.heap [] _ ⟨rfl, fun k q h => by cases h⟩ va_S.rf hl
  rw [wz_eq]
  intro H locs ls hH hs hls
  exact law_loop (L + 1) 0 sZ F2 (Nat.zero_le _) (by omega) inv_Z (fun v h => by cases h) sZ_ok H locs ls (first_world hH) hs (lv_sub hls [3, 2, 1, 0] rfl)
