/-! the law's frame: its script, both objects, its counter; the world as numbers -/
def lA (s : State) : Nat → Prop := fun q => s.heap.size ≤ q
/-- what stands at the law's entry and stays -/
def lF (g : xG) (p : Program) (s : State) (m : MethodId) (meth : Method) (c : Code) (b L : Nat) (xs : Nat → Int32) (cc ss : Nat) : Prop :=
  lw_At p s m meth c b L xs ∧ L ≤ 3072 ∧ (cc ≤ 600000 ∧ ss ≤ 7302250) ∧ xK g s ∧ xInj g ∧ xRO g s s.heap ∧ xNs g s ∧ ∀ k, k < NB → s.heap.size ≤ g.2.1 k
def Lx (g : xG) (p : Program) (e : Env) (s : State) (m : MethodId) (below : List Frame) (meth : Method) (c : Code) (b cc ss i pc : Nat) (S : List MV) (σ : xS) : Prop :=
  (∀ v ∈ S, ok v) → okS σ → ∀ (H : Heap) (locs : List Loc) (ls : Array Slot), xHp g σ H → va_S (lA s) s.heap H locs → lv_has ls 4 [(0, .ref b), (1, .ref (g.2.1 0)), (2, .ref (g.2.1 174)), (3, .int (nI i))] →
    W p g.1 e room_1 s m #[Value.ref b] below meth c H locs cc ss (lw_Z below #[Value.ref b] s) (F0 m pc ls (S.map (cv g)))
def xv (xs : Nat → Int32) (k : Nat) : Int := (xs k).toInt
theorem xv_ok (xs : Nat → Int32) (k : Nat) : ok (vI (xv xs k)) := toInt_ok _
theorem xv_cv {g : xG} (xs : Nat → Int32) (k : Nat) : cv g (vI (xv xs k)) = .int (xs k) := congrArg Value.int (Int32.ofInt_toInt _)
section LXS
variable {g : xG} {p : Program} {e : Env} {s : State} {m : MethodId} {below : List Frame} {meth : Method} {c : Code} {b L cc ss i pc pc' : Nat} {xs : Nat → Int32} {S : List MV} {σ : xS}
theorem lF_b (F : lF g p s m meth c b L xs cc ss) : ¬ lA s b := Nat.not_le.mpr F.1.2.2.2.2.2.2.2.1
theorem lx_x (F : lF g p s m meth c b L xs cc ss) (hd : xd code pc (.aload_n 1) 1 pc') (kk : Lx g p e s m below meth c b cc ss i pc' (vR 0 :: S) σ) : Lx g p e s m below meth c b cc ss i pc S σ := by
  intro hS hσ H locs ls hH hs hl
  have k0 := kk (xok_cons hS trivial) hσ H locs ls hH hs hl
  rw [← hd.2] at k0
  exact lv_aload_n F.1.1 F.1.2.1 hd.1 rfl (lv_at hl 1 rfl) k0
theorem lx_m (F : lF g p s m meth c b L xs cc ss) (hd : xd code pc (.aload_n 2) 1 pc') (kk : Lx g p e s m below meth c b cc ss i pc' (vR 174 :: S) σ) : Lx g p e s m below meth c b cc ss i pc S σ := by
  intro hS hσ H locs ls hH hs hl
  have k0 := kk (xok_cons hS trivial) hσ H locs ls hH hs hl
  rw [← hd.2] at k0
  exact lv_aload_n F.1.1 F.1.2.1 hd.1 rfl (lv_at hl 2 rfl) k0
/-- script[i + j] -/
theorem lx_arg {p1 p2 p3 p4 j : Nat} (F : lF g p s m meth c b L xs cc ss) (hi : i + 6 ≤ L) (d0 : xd code pc (.aload_n 0) 1 p1) (d1 : xd code p1 (.iload_n 3) 1 p2) (d2 : xd code p2 (.iconst (j : Int)) 1 p3) (d3 : xd code p3 .iadd 1 p4) (d4 : xd code p4 .iaload 1 pc') (hj : j < 6)
    (kk : Lx g p e s m below meth c b cc ss i pc' (vI (xv xs (i + j)) :: S) σ) : Lx g p e s m below meth c b cc ss i pc S σ := by
  intro hS hσ H locs ls hH hs hl
  have hL := F.2.1
  have k0 := kk (xok_cons hS (xv_ok xs _)) hσ H locs ls hH hs hl
  rw [List.map_cons, xv_cv] at k0
  refine lv_aload_n F.1.1 F.1.2.1 d0.1 rfl (lv_at hl 0 rfl) ?_
  rw [d0.2]
  refine lv_iload_n F.1.1 F.1.2.1 d1.1 rfl (lv_at hl 3 rfl) ?_
  rw [d1.2]
  refine lv_iconst (v := nI j) F.1.1 F.1.2.1 d2.1 Int32.ofInt_eq_ofNat ?_
  rw [d2.2]
  refine lv_iadd F.1.1 F.1.2.1 d3.1 ?_
  rw [d3.2, nI_add]
  refine va_sld F.1.1 F.1.2.1 F.1.2.2.2.2.2.2.1 F.1.2.2.2.2.2.2.2.1 (lF_b F) hs (vp_in_nI (by omega) (by omega)) d4.1 ?_
  rw [d4.2, nI_clamp (by omega)]
  exact k0
/-- is it other than 0 -/
theorem lx_ne0 {p1 p2 p3 t : Nat} {o1 o2 v : Int} (F : lF g p s m meth c b L xs cc ss) (d0 : xd code pc (.ifCond .eq o1) 3 p1) (t0 : (pc : Int) + o1 = t) (d1 : xd code p1 (.iconst 1) 1 p2) (d2 : xd code p2 (.goto o2) 3 p3) (t2 : (p2 : Int) + o2 = pc') (d3 : xd code t (.iconst 0) 1 pc')
    (kk : Lx g p e s m below meth c b cc ss i pc' (vI (if v = 0 then 0 else 1) :: S) σ) : Lx g p e s m below meth c b cc ss i pc (vI v :: S) σ := by
  intro hS hσ H locs ls hH hs hl
  have hv := xok_hd hS
  simp only [ok, vI] at hv
  have k0 := kk (xok_cons (xok_tl hS) (show ok (vI (if v = 0 then 0 else 1)) by by_cases z : v = 0 <;> simp only [z, if_true, if_false] <;> exact ⟨by decide, by decide⟩)) hσ H locs ls hH hs hl
  refine lv_if_eq (tgt := t) F.1.1 F.1.2.1 d0.1 t0 (fun z => ?_) (fun z => ?_)
  · have e0 : v = 0 := (i32_eq hv ⟨by decide, by decide⟩).mp (by rw [i32_0]; exact z)
    refine lv_iconst (v := 0) F.1.1 F.1.2.1 d3.1 (by decide) ?_
    rw [d3.2]
    rw [if_pos e0] at k0
    exact k0
  · have e0 : ¬ v = 0 := fun q => z (by rw [q]; rfl)
    rw [d0.2]
    refine lv_iconst (v := 1) F.1.1 F.1.2.1 d1.1 (by decide) ?_
    rw [d1.2]
    refine lv_goto (tgt := pc') F.1.1 F.1.2.1 d2.1 t2 ?_
    rw [if_neg e0] at k0
    exact k0
/-- behind the comparison -/
theorem lx_cmp {o1 v : Int} {t : Nat} (F : lF g p s m meth c b L xs cc ss) (d0 : xd code pc (.if_icmp .eq o1) 3 pc') (t0 : (pc : Int) + o1 = t) (kk : Lx g p e s m below meth c b cc ss i t S σ) : Lx g p e s m below meth c b cc ss i pc (vI v :: vI v :: S) σ := by
  intro hS hσ H locs ls hH hs hl
  exact lv_icmp_eq (tgt := t) F.1.1 F.1.2.1 d0.1 t0 (fun _ => kk (xok_tl (xok_tl hS)) hσ H locs ls hH hs hl) (fun z => absurd rfl z)
theorem lx_recv (F : lF g p s m meth c b L xs cc ss) {H : Heap} (hH : xHp g σ H) {k : Nat} {C : String} (h : k < NB ∧ ∃ (T : u_T) (N : Nat), classes[kd k]? = some (C, T, N) ∧ kd k < 20) : ∃ cellB : Cell, H[g.2.1 k]? = some cellB ∧ cellB.vm.isStatics = false ∧ s.vm.findClass C = some cellB.cls := by
  obtain ⟨h1, T, N, h2, h3⟩ := h
  have hx := xws_get (g := g) (σ := σ) h1
  rw [xcell_o rfl h3] at hx
  exact va_recv F.2.2.2.1 hH h2 hx
theorem gw_tbl {yc : xM} (h : Cond.code yc.1 yc.2.1 yc.2.2.1 yc.2.2.2.1 ∈ gw) : GoodIn lw_tbl (xWs yc) := fun w hw => by
  rcases List.mem_cons.mp hw with rfl | h1
  · exact ⟨(List.mem_filter.mp h).1, gw_good _ h⟩
  · exact ⟨(List.mem_filter.mp h1).1, gw_good _ h1⟩
/-- a call of the class or of its twin -/
theorem lx_call {idx n k : Nat} {yc : xM} {As S0 : List MV} {K : Option MV → xS → Prop} (F : lF g p s m meth c b L xs cc ss) (hd : xd code pc (.invokevirtual idx) 3 pc') (hc : CV yc n) (hl : Cond.methodLink "ShakenBreadLaw" idx yc.1 ∈ gw) (hdep : yc.2.2.2.2 ≤ 11) (hb : k < NB ∧ ∃ (T : u_T) (N : Nat), classes[kd k]? = some (yc.1.cls, T, N) ∧ kd k < 20) (hn : As.length = n) (hst : S0 = As.reverse ++ vR k :: S) (h8 : S.length ≤ 2) (hS1 : ∀ v ∈ S, isL v = false)
    (kM : Mt g yc (vR k :: As) σ K) (kk : ∀ (r : Option MV) (σ' : xS), K r σ' → Lx g p e s m below meth c b cc ss i pc' (r.toList ++ S) σ') : Lx g p e s m below meth c b cc ss i pc S0 σ := by
  subst hst
  intro hS hσ H locs ls hH hs hll
  have hSt : ∀ v ∈ S, ok v := fun v hv => hS v (List.mem_append_right _ (List.mem_cons_of_mem _ hv))
  have hM := kM (fun v hv => by
    rcases List.mem_cons.mp hv with rfl | h
    · trivial
    · exact hS v (List.mem_append_left _ (List.mem_reverse.mpr h)))
  obtain ⟨⟨c1, c2, c3, c4⟩, c5, c6⟩ := hc
  have hts := F.1.2.2.2.2.2.1
  have inn : ∀ {w : Cond}, w ∈ gw → w ∈ lw_tbl := fun h => (List.mem_filter.mp h).1
  have hAx : ∀ q, xA g q → lA s q := fun q h => by
    obtain ⟨j, h1, rfl⟩ := h
    exact F.2.2.2.2.2.2.2 j h1
  have hs0 : ∀ q : Nat, q < s.heap.size → ¬ xA g q → H[q]? = s.heap[q]? := fun q h1 _ => hs.2.1 q h1 (Nat.not_le.mpr h1)
  have h8' : ((S.map (cv g)).map (fun v => v.category)).sum ≤ 8 := by
    have : ∀ v : Value, v.category ≤ 2 := fun v => by cases v <;> simp [Value.category]
    rcases S with _ | ⟨a1, _ | ⟨a2, _ | ⟨a3, t⟩⟩⟩
    · simp
    · simp only [List.map_cons, List.map_nil, List.sum_cons, List.sum_nil]; have z1 := this (cv g a1); omega
    · simp only [List.map_cons, List.map_nil, List.sum_cons, List.sum_nil]; have z1 := this (cv g a1); have z2 := this (cv g a2); omega
    · simp only [List.length_cons] at h8; omega
  have cb := callB_of (ret := yc.2.2.2.1) (own := "ShakenBreadLaw") (index := idx) (R := room_1) (rm := xRm yc.2.2.2.2) (mc := 0) (ms := 0) n hts (gw_tbl c2) rfl rfl rfl (hts _ (inn c1)) (hts _ (inn hl)) c4 ⟨by show yc.2.2.2.2 + 1 ≤ 13; omega, by show 8 + (yc.2.2.1 + 11) + 40 * yc.2.2.2.2 ≤ 480; omega⟩
  have hr := va_runV (e := e) (below := below) (meth := meth) (locs := locs) (cells := cc) (slots := ss) (As := As.map (cv g)) (rest := S.map (cv g)) (g := F0 m pc ls ((As.reverse ++ vR k :: S).map (cv g))) ⟨F.1.1, F.1.2.1, F.1.2.2.2.1, F.1.2.2.2.2.1, hts⟩ hM ⟨cb, hts _ (inn c5), hts _ (inn c6)⟩ ⟨xWd_blind, lx_recv F hH hb, fun U hU hW => ⟨rfl, by rw [hU]; exact hH, xK_moved hW.alike F.2.2.2.1, F.2.2.2.2.1, by rw [hU]; exact xRO_moved hW.alike hs0 F.2.2.2.2.2.1, xNs_warm hW F.2.2.2.2.2.2.1, hσ⟩⟩ rfl (by rw [List.length_map]; exact hn) hll.1 (by simp only [List.map_append, List.map_reverse, List.map_cons]; rfl) (by show 2 * 0 + _ ≤ 8; omega) hd.1 ⟨by show cc + 0 ≤ 600000; have := F.2.2.1.1; omega, by show ss + 0 ≤ 7302250; have := F.2.2.1.2; omega⟩
  intro T hT X
  obtain ⟨v, st₀, t, T', Lc, h0, X', hLc, e1, e2, ⟨⟨r, σ', hv, hro, hw, hH', hσ'⟩, hz, hk⟩, st⟩ := hr T hT X
  have hv' : v = r.map (cv g) := by cases hv; rfl
  subst hv'
  rw [h0] at hz hk
  have hSr : ∀ u ∈ r.toList ++ S, ok u := fun u hu => by
    rcases List.mem_append.mp hu with h | h
    · exact hro u (by cases r with | none => cases h | some x => simp at h; rw [h])
    · exact hSt u h
  have hs1 : va_S (lA s) s.heap T'.heap (locs ++ Lc) := ⟨Nat.le_trans hs.1 (by rw [e1]; exact hz), fun q h1 h2 => by rw [e1, hk q (Nat.lt_of_lt_of_le h1 hs.1) (fun h => h2 (hAx q h))]; exact hs.2.1 q h1 h2, fun q hq => by
    rcases List.mem_append.mp hq with h | h
    · exact hs.2.2 q h
    · exact hAx _ (hLc q h)⟩
  have k0 := kk r σ' hw hSr hσ' T'.heap (locs ++ Lc) ls (by rw [e1]; exact hH') hs1 hll
  rw [← hd.2] at k0
  obtain ⟨t2, a1, b1⟩ := k0 T' rfl X'
  refine ⟨t2, st t2 ?_, b1⟩
  have e3 : (r.toList ++ S).map (cv g) = (r.map (cv g)).toList ++ S.map (cv g) := by cases r <;> rfl
  rw [e3] at a1
  exact a1
/-- the next six cells -/
theorem lx_next (F : lF g p s m meth c b L xs cc ss) (kk : Lx g p e s m below meth c b cc ss (i + 6) 18 S σ) : Lx g p e s m below meth c b cc ss i 1710 S σ := by
  intro hS hσ H locs ls hH hs hl
  refine lv_iinc (v := nI (i + 6)) (lv' := [(3, .int (nI (i + 6))), (0, .ref b), (1, .ref (g.2.1 0)), (2, .ref (g.2.1 174))]) F.1.1 F.1.2.1 (dat d_Lw_t 0 rfl).1 hl (k := 3) rfl (nI_add i 6) (by decide) rfl (fun ls1 hl1 => ?_)
  refine lv_goto (tgt := 18) F.1.1 F.1.2.1 (dat d_Lw_t 1 rfl).1 (by decide) ?_
  exact kk hS hσ H locs ls1 hH hs (lv_sub hl1 [1, 2, 3, 0] rfl)
theorem lx_end (F : lF g p s m meth c b L xs cc ss) : Lx g p e s m below meth c b cc ss i 1716 [] σ := by
  intro hS hσ H locs ls hH hs hl
  refine lv_iconst (v := 1) F.1.1 F.1.2.1 (dat d_Lw_t 2 rfl).1 (by decide) ?_
  refine va_forget (fun q hq => hs.2.2 q hq) ?_
  refine W.widen (k := 600000) (n := 7302250) F.2.2.1.1 F.2.2.1.2 ?_
  exact lw_ret F.1.1 F.1.2.1 F.1.2.2.1 F.1.2.2.2.2.2.2.2.2.1 (dat d_Lw_t 3 rfl).1
end LXS
