/-! calls of the class from such frames; the town told out of another row; a copy taken -/
theorem rf_lt (k j : Nat) : rf k j < 176 := by
  have h : ∀ l ∈ rfL, ∀ r ∈ l, r < 176 := by decide +kernel
  unfold rf
  by_cases z : k < rfL.length
  · have hl : rfL.getD k [] ∈ rfL := by
      rw [List.getD_eq_getElem?_getD, List.getElem?_eq_getElem z]
      exact List.getElem_mem _
    generalize rfL.getD k [] = l at hl ⊢
    by_cases y : j < l.length
    · refine h _ hl _ ?_
      rw [List.getD_eq_getElem?_getD, List.getElem?_eq_getElem y]
      exact List.getElem_mem _
    · rw [List.getD_eq_getElem?_getD, List.getElem?_eq_none (by omega)]
      decide
  · have e : rfL.getD k [] = [] := by
      rw [List.getD_eq_getElem?_getD, List.getElem?_eq_none (by omega)]
      rfl
    rw [e]
    simp
theorem rf_1 {k j : Nat} (h1 : rf k j = 1) : kd k = 3 ∧ j = 5 := by
  have h : ∀ k, k < 179 → (rfL.getD k []).length ≤ 20 ∧ ∀ j, j < 20 → rf k j = 1 → kd k = 3 ∧ j = 5 := by decide +kernel
  have hl : rfL.length = 179 := by decide +kernel
  by_cases z : k < 179
  · by_cases y : j < 20
    · exact (h k z).2 j y h1
    · have := (h k z).1
      unfold rf at h1
      generalize rfL.getD k [] = l at h1 this
      rw [List.getD_eq_getElem?_getD, List.getElem?_eq_none (by omega)] at h1
      exact absurd h1 (by decide)
  · have e : rfL.getD k [] = [] := by
      rw [List.getD_eq_getElem?_getD, List.getElem?_eq_none (by omega)]
      rfl
    unfold rf at h1
    rw [e] at h1
    simp at h1
/-- a cell doesn't ask where the rows are -/
theorem xcell_rd {g g' : xG} {σ σ' : xS} {k : Nat} (h2 : g'.2.2 = g.2.2) (hg : ∀ j, j < 174 → g'.2.1 j = g.2.1 j) (hσ : okS σ) (hs : σ' k = σ k) : xcell g' σ' k = xcell g σ k := by
  unfold xcell
  rw [hs, h2]
  split
  · congr 2
    refine List.map_congr_left (fun j _ => ?_)
    unfold fvs
    rw [hs]
    have hlt := rf_lt k j
    cases hr : rf k j with
    | zero => rfl
    | succ r =>
      cases r with
      | zero =>
        obtain ⟨k3, j5⟩ := rf_1 hr
        subst j5
        show (if σ k ((5 : Nat) : Int) < 0 then Value.null else Value.ref (g'.2.1 (σ k ((5 : Nat) : Int)).toNat)) = (if σ k ((5 : Nat) : Int) < 0 then Value.null else Value.ref (g.2.1 (σ k ((5 : Nat) : Int)).toNat))
        have h5 : σ k ((5 : Nat) : Int) < 170 := (hσ k ((5 : Nat) : Int)).2.2.2 k3 rfl
        rw [hg _ (by omega)]
      | succ r =>
        show Value.ref (g'.2.1 r) = Value.ref (g.2.1 r)
        rw [hg r (by omega)]
  · split
    · rfl
    · have ef : (fun i => some (g'.2.1 (rf k i - 2))) = (fun i => some (g.2.1 (rf k i - 2))) := funext (fun i => by
        have hlt := rf_lt k i
        rw [hg _ (by omega)])
      rw [ef]
def xFmA (A : Nat → Prop) (g : xG) (U : State) (H : Heap) : Prop := va_Z "jdk/internal/util/Preconditions" "SIOOBE_FORMATTER" "Ljava/util/function/BiFunction;" .null A U H ∨ va_Z "jdk/internal/util/Preconditions" "SIOOBE_FORMATTER" "Ljava/util/function/BiFunction;" (.ref (g.2.1 399)) A U H
def xLgA (A : Nat → Prop) (g : xG) (U : State) (H : Heap) : Prop := ∀ i, i < 2 → va_Z "ShakenBreadLaw" (lgN.getD i "") "[J" (.ref (g.2.1 (305 + i))) A U H ∧ va_T .long (g.2.1 (305 + i)) ((lgV.getD i []).length) (fun j => .long (Int64.ofInt ((lgV.getD i []).getD j 0))) A U H
/-- what stands at the start: outside of A -/
def xROA (A : Nat → Prop) (g : xG) (U : State) (H : Heap) : Prop :=
  (∀ i, i < 5 → va_Z (stC.getD i "") (stN.getD i "") "[I" (.ref (g.2.1 (300 + i))) A U H ∧ va_T .int (g.2.1 (300 + i)) ((stV.getD i []).length) (fun j => .int (Int32.ofInt ((stV.getD i []).getD j 0))) A U H) ∧
  (va_Z "java/lang/String" "COMPACT_STRINGS" "Z" (.int 1) A U H ∧ xFmA A g U H ∧ xLgA A g U H) ∧ vk_S 16 srL srB (fun i => g.2.1 (310 + i)) (fun i => g.2.1 (340 + i)) A U H
theorem xROA.nar {A B : Nat → Prop} {g : xG} {U : State} {H : Heap} (h : xROA A g U H) (hAB : ∀ q, B q → A q) : xROA B g U H :=
  ⟨fun i hi => ⟨(h.1 i hi).1.narrow hAB, (h.1 i hi).2.narrow hAB⟩, ⟨h.2.1.1.narrow hAB, h.2.1.2.1.imp (fun z => z.narrow hAB) (fun z => z.narrow hAB), fun i hi => ⟨(h.2.1.2.2 i hi).1.narrow hAB, (h.2.1.2.2 i hi).2.narrow hAB⟩⟩, h.2.2.narrow hAB⟩
theorem xROA.ro {A : Nat → Prop} {g : xG} {U : State} {H : Heap} (h : xROA A g U H) (hAB : ∀ q, xA g q → A q) : xRO g U H := h.nar hAB
theorem xROA.mvd {A : Nat → Prop} {g : xG} {u U : State} {H H1 : Heap} (h : xROA A g u H) (hvm : u.vm.Alike U.vm) (hq : ∀ a : Nat, a < H.size → ¬ A a → H1[a]? = H[a]?) : xROA A g U H1 :=
  ⟨fun i hi => ⟨va_Z.kept (va_Z.moved hvm (h.1 i hi).1) hq, va_T.kept (va_T.moved hvm (h.1 i hi).2) hq⟩, ⟨va_Z.kept (va_Z.moved hvm h.2.1.1) hq, h.2.1.2.1.imp (fun z => va_Z.kept (va_Z.moved hvm z) hq) (fun z => va_Z.kept (va_Z.moved hvm z) hq), fun i hi => ⟨va_Z.kept (va_Z.moved hvm (h.2.1.2.2 i hi).1) hq, va_T.kept (va_T.moved hvm (h.2.1.2.2 i hi).2) hq⟩⟩, vk_S.kept (vk_S.moved hvm h.2.2) hq⟩
theorem xROA.rd {A : Nat → Prop} {g g' : xG} {U : State} {H : Heap} (h : xROA A g U H) (hg : ∀ j, 300 ≤ j → g'.2.1 j = g.2.1 j) : xROA A g' U H := by
  obtain ⟨h1, ⟨h2, h3, h4⟩, h5⟩ := h
  refine ⟨fun i hi => ?_, ⟨h2, ?_, fun i hi => ?_⟩, ?_⟩
  · rw [hg _ (by omega)]; exact h1 i hi
  · unfold xFmA at h3 ⊢
    rw [hg 399 (by omega)]; exact h3
  · rw [hg _ (by omega)]; exact h4 i hi
  · rw [show (fun i => g'.2.1 (310 + i)) = (fun i => g.2.1 (310 + i)) from funext (fun i => hg _ (by omega)), show (fun i => g'.2.1 (340 + i)) = (fun i => g.2.1 (340 + i)) from funext (fun i => hg _ (by omega))]
    exact h5
theorem xNs_rd {g g' : xG} {U : State} (h : xNs g U) (hg : ∀ j, 300 ≤ j → g'.2.1 j = g.2.1 j) : xNs g' U := fun i hi => by
  rw [hg _ (by omega)]
  exact h i hi
def aG (g : xG) (Y : aY) : Prop := xROA Y.2.2.1 g Y.1.2.2.1 Y.1.2.2.1.heap ∧ xNs g Y.1.2.2.1 ∧ ∀ k, k < NB → Y.2.2.1 (g.2.1 k)
theorem aG.rd {g g' : xG} {Y : aY} (h : aG g Y) (hg : ∀ j, 300 ≤ j → g'.2.1 j = g.2.1 j) (hk : ∀ k, k < NB → Y.2.2.1 (g'.2.1 k)) : aG g' Y := ⟨h.1.rd hg, xNs_rd h.2.1 hg, hk⟩
section AXW
variable {g : xG} {y : xM} {Y : aY} {T : List Nat} {cc ss pc pc' : Nat} {L S : List MV} {σ : xS}
theorem ws_fst {k : Nat} (h : k < NB) (T : List Nat) : (List.range NB ++ T)[k]? = some k := by
  rw [List.getElem?_append_left (by rw [List.length_range]; exact h), List.getElem?_range h]
theorem aHp_x {H : Heap} (hH : aHp g σ (List.range NB ++ T) H) : xHp g σ H := fun k q hq => by
  have hk : k < NB := by have := (List.getElem?_eq_some_iff.mp hq).1; rw [xws_len] at this; exact this
  rw [xws_get hk] at hq
  cases hq
  exact hH k _ (aws_get (ws_fst hk T))
theorem aA_inj (hA : aA g (List.range NB ++ T) cc ss Y) : xInj g := fun i j hi hj e => hA.1 i j i j (ws_fst hi T) (ws_fst hj T) e
theorem aA_ne (hA : aA g (List.range NB ++ T) cc ss Y) {k o : Nat} (hk : k < NB) (ho : o ∈ T) : g.2.1 o ≠ g.2.1 k := fun e => by
  obtain ⟨i, hi⟩ := List.getElem?_of_mem ho
  have h1 : (List.range NB ++ T)[NB + i]? = some o := by
    rw [List.getElem?_append_right (by rw [List.length_range]; omega), List.length_range, show NB + i - NB = i by omega]
    exact hi
  have := hA.1 (NB + i) k o k h1 (ws_fst hk T) e
  omega
theorem ws_of {i o : Nat} (h : (List.range NB ++ T)[i]? = some o) : (i < NB ∧ o = i) ∨ (NB ≤ i ∧ o ∈ T) := by
  by_cases hi : i < NB
  · rw [ws_fst hi] at h
    cases h
    exact Or.inl ⟨hi, rfl⟩
  · rw [List.getElem?_append_right (by rw [List.length_range]; omega)] at h
    exact Or.inr ⟨by omega, List.mem_of_getElem? h⟩
theorem a_pre (hG : aG g Y) (F : aF g y Y) (hA : aA g (List.range NB ++ T) cc ss Y) (hσ : okS σ) {H : Heap} {locs : List Loc} (hH : aHp g σ (List.range NB ++ T) H) (hs : va_S Y.2.2.1 Y.1.2.2.1.heap H locs) (U : State) (hU : U.heap = H) (hW : Y.1.2.2.1.WarmedH U.vm) : xWd g σ U :=
  ⟨by rw [hU]; exact aHp_x hH, xK_moved hW.alike F.2.2.2.2.2.2.2.1, aA_inj hA, (hG.1.mvd hW.alike (by rw [hU]; exact hs.2.1)).ro (fun q h => by obtain ⟨j, h1, rfl⟩ := h; exact hG.2.2 j h1), xNs_warm hW hG.2.1, hσ⟩
theorem a_after {S0 : List MV} {av : Array Value} {H : Heap} {locs : List Loc} {ls : Array Slot} (hG : aG g Y) (F : aF g y Y) (hA : aA g (List.range NB ++ T) cc ss Y) (hL : ∀ v ∈ L, ok v) (hS : ∀ v ∈ S, ok v) (hσ : okS σ) (hH : aHp g σ (List.range NB ++ T) H) (hs : va_S Y.2.2.1 Y.1.2.2.1.heap H locs) (hl : lv_has ls y.2.2.1 (lvl g 0 L)) (hp : pc + 3 = pc')
    (hr : va_Run Y.1.1 g.1 Y.1.2.1 Y.2.1 Y.1.2.2.1 Y.1.2.2.2.1 Y.1.2.2.2.2.1 Y.1.2.2.2.2.2.1 Y.1.2.2.2.2.2.2.1 Y.1.2.2.2.2.2.2.2 H locs cc ss 0 0 (F0 Y.1.2.2.2.1 pc ls (S0.map (cv g))) (S.map (cv g)) (xQ g (fun r σ' => (∀ o ∈ T, σ' o = σ o) ∧ Ax g y Y (List.range NB ++ T) cc ss pc' L (r.toList ++ S) σ') av) (xA g)) :
    W Y.1.1 g.1 Y.1.2.1 Y.2.1 Y.1.2.2.1 Y.1.2.2.2.1 Y.1.2.2.2.2.1 Y.1.2.2.2.2.2.1 Y.1.2.2.2.2.2.2.1 Y.1.2.2.2.2.2.2.2 H locs cc ss Y.2.2.2 (F0 Y.1.2.2.2.1 pc ls (S0.map (cv g))) := by
  intro Tt hT X
  obtain ⟨v, st₀, t, T', Lc, h0, X', hLc, e1, e2, ⟨⟨r, σ', hv, hro, ⟨hw1, hw⟩, hH', hσ'⟩, hz, hk⟩, st⟩ := hr Tt hT X
  have hv' : v = r.map (cv g) := by cases hv; rfl
  subst hv'
  rw [h0] at hz hk
  have hxA : ∀ q, xA g q → Y.2.2.1 q := fun q h => by obtain ⟨j, h1, rfl⟩ := h; exact hG.2.2 j h1
  have hSr : ∀ u ∈ r.toList ++ S, ok u := fun u hu => by
    rcases List.mem_append.mp hu with h | h
    · exact hro u (by cases r with | none => cases h | some x => simp at h; rw [h])
    · exact hS u h
  have hs1 : va_S Y.2.2.1 Y.1.2.2.1.heap T'.heap (locs ++ Lc) := ⟨Nat.le_trans hs.1 (by rw [e1]; exact hz), fun q h1 h2 => by rw [e1, hk q (Nat.lt_of_lt_of_le h1 hs.1) (fun h => h2 (hxA q h))]; exact hs.2.1 q h1 h2, fun q hq => by
    rcases List.mem_append.mp hq with h | h
    · exact hs.2.2 q h
    · exact hxA _ (hLc q h)⟩
  have hH1 : aHp g σ' (List.range NB ++ T) T'.heap := fun i q hq => by
    obtain ⟨o, ho, rfl⟩ := aws_of hq
    rcases ws_of ho with ⟨hi, rfl⟩ | ⟨hi, hoT⟩
    · rw [e1]
      exact hH' o _ (xws_get hi)
    · have h1 := hH i _ (aws_get ho)
      rw [← xcell_rd (g := g) (g' := g) (σ' := σ') rfl (fun _ _ => rfl) hσ (hw1 o hoT)] at h1
      refine h1.kept ?_
      rw [e1]
      exact hk _ h1.lt (fun h => by obtain ⟨j, j1, j2⟩ := h; exact aA_ne hA j1 hoT j2)
  have k0 := hw F hA hL hSr hσ' T'.heap (locs ++ Lc) ls hH1 hs1 hl
  rw [← hp] at k0
  obtain ⟨t2, a1, b1⟩ := k0 T' rfl X'
  refine ⟨t2, st t2 ?_, b1⟩
  have e3 : (r.toList ++ S).map (cv g) = (r.map (cv g)).toList ++ S.map (cv g) := by cases r <;> rfl
  rw [e3] at a1
  exact a1
theorem rv_0 : 0 < NB ∧ ∃ (T : u_T) (N : Nat), classes[kd 0]? = some ("ShakenBread", T, N) ∧ kd 0 < 20 := ⟨by decide, TX9, 11, rfl, by decide⟩
theorem a_inv {own : String} {idx n b : Nat} {yc : xM} {As S0 : List MV} (hG : aG g Y) (hd : xd y.2.1 pc (.invokevirtual idx) 3 pc') (ho : y.1.cls = own) (hc : CV yc n) (hl : Cond.methodLink own idx yc.1 ∈ gw) (hdep : yc.2.2.2.2 + 1 ≤ y.2.2.2.2) (hb : b < NB ∧ ∃ (T : u_T) (N : Nat), classes[kd b]? = some (yc.1.cls, T, N) ∧ kd b < 20) (hn : As.length = n) (hst : S0 = As.reverse ++ vR b :: S) (h8 : ((S.map (cv g)).map (fun v => v.category)).sum ≤ 8)
    (k : Mt g yc (vR b :: As) σ (fun r σ' => (∀ o ∈ T, σ' o = σ o) ∧ Ax g y Y (List.range NB ++ T) cc ss pc' L (r.toList ++ S) σ')) : Ax g y Y (List.range NB ++ T) cc ss pc L S0 σ := by
  subst hst
  intro F hA hL hS hσ H locs ls hH hs hll
  have hSt : ∀ v ∈ S, ok v := fun v hv => hS v (List.mem_append_right _ (List.mem_cons_of_mem _ hv))
  have hM := k (fun v hv => by
    rcases List.mem_cons.mp hv with rfl | h
    · trivial
    · exact hS v (List.mem_append_left _ (List.mem_reverse.mpr h)))
  obtain ⟨⟨c1, c2, c3, c4⟩, c5, c6⟩ := hc
  have hts := F.2.2.2.2.2.2.1
  have f1 := F.2.2.2.2.2.2.2.2.2.1
  have f2 := F.2.2.2.2.2.2.2.2.2.2
  have cb := callB_of (ret := yc.2.2.2.1) (own := own) (index := idx) (R := Y.2.1) (rm := xRm yc.2.2.2.2) (mc := 0) (ms := 0) n hts (gw_gd c2) rfl rfl rfl (hts _ c1) (hts _ hl) c4 ⟨by show yc.2.2.2.2 + 1 ≤ Y.2.1.frames; omega, by show 8 + (yc.2.2.1 + 11) + 40 * yc.2.2.2.2 ≤ Y.2.1.locals; omega⟩
  have hrec : ∃ cellB : Cell, H[g.2.1 b]? = some cellB ∧ cellB.vm.isStatics = false ∧ Y.1.2.2.1.vm.findClass yc.1.cls = some cellB.cls := by
    obtain ⟨h1, T9, N9, h2, h3⟩ := hb
    have hx := xws_get (g := g) (σ := σ) h1
    rw [xcell_o rfl h3] at hx
    exact va_recv F.2.2.2.2.2.2.2.1 (aHp_x hH) h2 hx
  have hr := va_runV (e := Y.1.2.1) (below := Y.1.2.2.2.2.2.1) (meth := Y.1.2.2.2.2.2.2.1) (locs := locs) (cells := cc) (slots := ss) (As := As.map (cv g)) (rest := S.map (cv g)) (g := F0 Y.1.2.2.2.1 pc ls ((As.reverse ++ vR b :: S).map (cv g))) ⟨F.1, F.2.1, F.2.2.1, (by rw [← ho]; exact F.2.2.2.2.2.1), hts⟩ hM ⟨cb, hts _ c5, hts _ c6⟩ ⟨xWd_blind, hrec, fun U hU hW => ⟨rfl, a_pre hG F hA hσ hH hs U hU hW⟩⟩ rfl (by rw [List.length_map]; exact hn) hll.1 (by simp only [List.map_append, List.map_reverse, List.map_cons]; rfl) (by show 2 * 0 + _ ≤ 8; omega) hd.1 ⟨hA.2.2.1, hA.2.2.2⟩
  exact a_after hG F hA hL hSt hσ hH hs hll hd.2 hr
theorem a_invs {own : String} {idx n : Nat} {yc : xM} {As S0 : List MV} (hG : aG g Y) (hd : xd y.2.1 pc (.invokestatic idx) 3 pc') (ho : y.1.cls = own) (hc : CS yc n) (hl : Cond.methodLink own idx yc.1 ∈ gw) (hdep : yc.2.2.2.2 + 1 ≤ y.2.2.2.2) (hn : As.length = n) (hst : S0 = As.reverse ++ S) (h8 : ((S.map (cv g)).map (fun v => v.category)).sum ≤ 8)
    (k : Mt g yc As σ (fun r σ' => (∀ o ∈ T, σ' o = σ o) ∧ Ax g y Y (List.range NB ++ T) cc ss pc' L (r.toList ++ S) σ')) : Ax g y Y (List.range NB ++ T) cc ss pc L S0 σ := by
  subst hst
  intro F hA hL hS hσ H locs ls hH hs hll
  have hSt : ∀ v ∈ S, ok v := fun v hv => hS v (List.mem_append_right _ hv)
  have hM := k (fun v hv => hS v (List.mem_append_left _ (List.mem_reverse.mpr hv)))
  obtain ⟨⟨c1, c2, c3, c4⟩, c5⟩ := hc
  have hts := F.2.2.2.2.2.2.1
  have f1 := F.2.2.2.2.2.2.2.2.2.1
  have f2 := F.2.2.2.2.2.2.2.2.2.2
  have cb := callB_of (ret := yc.2.2.2.1) (own := own) (index := idx) (R := Y.2.1) (rm := xRm yc.2.2.2.2) (mc := 0) (ms := 0) n hts (gw_gd c2) rfl rfl rfl (hts _ c1) (hts _ hl) c4 ⟨by show yc.2.2.2.2 + 1 ≤ Y.2.1.frames; omega, by show 8 + (yc.2.2.1 + 11) + 40 * yc.2.2.2.2 ≤ Y.2.1.locals; omega⟩
  have hr := va_runS (e := Y.1.2.1) (below := Y.1.2.2.2.2.2.1) (meth := Y.1.2.2.2.2.2.2.1) (locs := locs) (cells := cc) (slots := ss) (As := As.map (cv g)) (rest := S.map (cv g)) (g := F0 Y.1.2.2.2.1 pc ls ((As.reverse ++ S).map (cv g))) ⟨F.1, F.2.1, F.2.2.1, (by rw [← ho]; exact F.2.2.2.2.2.1), hts⟩ hM ⟨cb, hts _ c5⟩ ⟨xWd_blind, fun U hU hW => ⟨rfl, a_pre hG F hA hσ hH hs U hU hW⟩⟩ rfl (by rw [List.length_map]; exact hn) hll.1 (by simp only [List.map_append, List.map_reverse]) (by show 2 * 0 + _ ≤ 8; omega) hd.1 ⟨hA.2.2.1, hA.2.2.2⟩
  exact a_after hG F hA hL hSt hσ hH hs hll hd.2 hr
theorem PtS.same {σ σ' : xS} {a : Int → Int} {im : Nat → Int → Int} {bs : List Int} (h : PtS σ a im bs) (e : ∀ o : Nat, o ≤ 174 → σ' o = σ o) : PtS σ' a im bs := by
  obtain ⟨h1, h2, h3, a', hS, h4⟩ := h
  refine ⟨h1, ?_, fun i i0 i1 => ?_, a', hS.same (fun o ho => e o (by omega)) (e 171 (by decide)) (e 173 (by decide)), h4⟩
  · rw [e 174 (by decide)]; exact h2
  · rw [e 174 (by decide)]; exact h3 i i0 i1
/-- the town told out of the row kT -/
theorem a_town {kT idx : Nat} {a t1 : Int → Int} {im : Nat → Int → Int} {w d : Int} (hG : aG g Y) (hkT : kT ∈ T) (hk : kd kT = 20 ∧ ln kT = 180) (hT : ∀ o ∈ T, 176 ≤ o ∧ o < 300 ∧ kd o = 20) (hd : xd y.2.1 pc (.invokestatic idx) 3 pc') (ho : y.1.cls = "ShakenBreadLaw") (hl : Cond.methodLink "ShakenBreadLaw" idx y_Lw_town.1 ∈ gw) (hdep : y_Lw_town.2.2.2.2 + 1 ≤ y.2.2.2.2) (h8 : ((S.map (cv g)).map (fun v => v.category)).sum ≤ 8)
    (H1 : PtS σ a im []) (hTg : TRg t1) (ht : ∀ i : Int, 0 ≤ i → i < 180 → σ kT i = t1 i) (hn : nfT a 0 w = d) (d0 : 0 ≤ d ∧ d < 2)
    (kk : ∀ (σ' : xS) (a' : Int → Int), PtS σ' a' im [] → NwT a a' d t1 → σ' 175 = σ 175 → (∀ o ∈ T, σ' o = σ o) → Ax g y Y (List.range NB ++ T) cc ss pc' L (vI 1 :: S) σ') : Ax g y Y (List.range NB ++ T) cc ss pc L (vI d :: vI w :: vR kT :: vR 174 :: vR 0 :: S) σ := by
  intro F hA hL hS hσ H locs ls hH hs hll
  have hSt : ∀ v ∈ S, ok v := fun v hv => hS v (by simp [hv])
  obtain ⟨⟨c1, c2, c3, c4⟩, c5⟩ := c_Lw_town
  have hts := F.2.2.2.2.2.2.1
  have f1 := F.2.2.2.2.2.2.2.2.2.1
  have f2 := F.2.2.2.2.2.2.2.2.2.2
  obtain ⟨g', hg'⟩ : ∃ g', g' = sg g 175 (g.2.1 kT) := ⟨_, rfl⟩
  have e175 : g'.2.1 175 = g.2.1 kT := by
    rw [hg']
    show (if 175 = 175 then g.2.1 kT else g.2.1 175) = _
    rw [if_pos rfl]
  have eoth : ∀ j, j ≠ 175 → g'.2.1 j = g.2.1 j := fun j hj => by rw [hg']; exact if_neg hj
  have e22 : g'.2.2 = g.2.2 := by rw [hg']; rfl
  have e1g : g'.1 = g.1 := by rw [hg']; rfl
  obtain ⟨σi, hσi⟩ : ∃ σi : xS, σi = (fun k i => if k = 175 then σ kT i else σ k i) := ⟨_, rfl⟩
  have s175 : σi 175 = σ kT := by rw [hσi]; rfl
  have soth : ∀ k, k ≠ 175 → σi k = σ k := fun k hk => by rw [hσi]; funext i; exact if_neg hk
  have hkT2 := hT kT hkT
  have okI : ∀ (σ1 : xS), okS σ1 → okS (fun k i => if k = 175 then σ kT i else if 176 ≤ k then σ k i else σ1 k i) := fun σ1 h1 k i => by
    show okv k i (if k = 175 then σ kT i else if 176 ≤ k then σ k i else σ1 k i)
    by_cases z : k = 175
    · rw [if_pos z]
      subst z
      exact ⟨(hσ kT i).1, fun h => absurd h (by decide +kernel), fun h => by rcases h with h | ⟨h, -⟩ <;> exact absurd h (by decide +kernel), fun h => absurd h (by decide +kernel)⟩
    · rw [if_neg z]
      by_cases x : 176 ≤ k
      · rw [if_pos x]; exact hσ k i
      · rw [if_neg x]; exact h1 k i
  have hσi2 : okS σi := by
    have := okI σ hσ
    rw [hσi]
    intro k i
    have h := this k i
    have e : (if k = 175 then σ kT i else if 176 ≤ k then σ k i else σ k i) = (if k = 175 then σ kT i else σ k i) := by
      by_cases z : k = 175
      · rw [if_pos z, if_pos z]
      · rw [if_neg z, if_neg z]; split <;> rfl
    have h' : okv k i (if k = 175 then σ kT i else if 176 ≤ k then σ k i else σ k i) := h
    rw [e] at h'
    exact h'
  have c175 : ∀ (g : xG) (σ : xS), xcell g σ 175 = .inl (g.2.2.2 20, 180, .inl (fun i => Int32.ofInt (σ 175 i))) := fun g σ => xcell_i (n := 180) (Or.inl (by decide +kernel)) (by decide +kernel)
  have ckT : ∀ (g : xG) (σ : xS), xcell g σ kT = .inl (g.2.2.2 20, 180, .inl (fun i => Int32.ofInt (σ kT i))) := fun g σ => by rw [xcell_i (n := 180) (Or.inl hk.1) hk.2, hk.1]
  have hxA' : ∀ q, xA g' q → Y.2.2.1 q := fun q h => by
    obtain ⟨j, h1, rfl⟩ := h
    by_cases z : j = 175
    · rw [z, e175]; exact hA.2.1 kT (List.mem_append_right _ hkT)
    · rw [eoth j z]; exact hG.2.2 j h1
  have hI' : xInj g' := fun i j hi hj e => by
    by_cases zi : i = 175
    · by_cases zj : j = 175
      · omega
      · rw [zi, e175, eoth j zj] at e
        exact absurd e (aA_ne hA hj hkT)
    · by_cases zj : j = 175
      · rw [zj, e175, eoth i zi] at e
        exact absurd e.symm (aA_ne hA hi hkT)
      · rw [eoth i zi, eoth j zj] at e
        exact aA_inj hA i j hi hj e
  have hM : Met g.1 y_Lw_town.1 (xWs y_Lw_town) (xRm y_Lw_town.2.2.2.2) (va_Pc ([vR 0, vR 174, vR 175, vI w, vI d].map (cv g')) (xWd g' σi)) (xQ g' (fun r σ2 => r = some (vI 1) ∧ ∃ a', PtS σ2 a' im [] ∧ NwT a a' d t1 ∧ LwF σ2 σi)) 0 0 (xA g') := by
    rw [← e1g]
    refine sp_Lw_town (H1.same (fun o ho => soth o (by omega))) hTg (fun i i0 i1 => by rw [s175]; exact ht i i0 i1) hn d0 (fun σ2 a' h1 h2 h3 => ⟨rfl, a', h1, h2, h3⟩) (fun v hv => ?_)
    simp only [List.mem_cons, List.not_mem_nil, or_false] at hv
    rcases hv with rfl | rfl | rfl | rfl | rfl
    · trivial
    · trivial
    · trivial
    · exact hS (vI w) (by simp)
    · exact hS (vI d) (by simp)
  have hmap : [vR 0, vR 174, vR 175, vI w, vI d].map (cv g') = [vR 0, vR 174, vR kT, vI w, vI d].map (cv g) := by
    show [Value.ref (g'.2.1 0), Value.ref (g'.2.1 174), Value.ref (g'.2.1 175), _, _] = [Value.ref (g.2.1 0), Value.ref (g.2.1 174), Value.ref (g.2.1 kT), _, _]
    rw [e175, eoth 0 (by decide), eoth 174 (by decide)]
    rfl
  rw [hmap] at hM
  have cb := callB_of (ret := y_Lw_town.2.2.2.1) (own := "ShakenBreadLaw") (index := idx) (R := Y.2.1) (rm := xRm y_Lw_town.2.2.2.2) (mc := 0) (ms := 0) 5 hts (gw_gd c2) rfl rfl rfl (hts _ c1) (hts _ hl) c4 ⟨by show y_Lw_town.2.2.2.2 + 1 ≤ Y.2.1.frames; omega, by show 8 + (y_Lw_town.2.2.1 + 11) + 40 * y_Lw_town.2.2.2.2 ≤ Y.2.1.locals; have : y_Lw_town.2.2.1 ≤ 21 := c3; omega⟩
  have hHp : ∀ U : State, U.heap = H → xHp g' σi U.heap := fun U hU i q hq => by
    have hi : i < NB := by have := (List.getElem?_eq_some_iff.mp hq).1; rw [xws_len] at this; exact this
    rw [xws_get hi] at hq
    cases hq
    rw [hU]
    by_cases z : i = 175
    · subst z
      obtain ⟨j, hj⟩ := List.getElem?_of_mem (List.mem_append_right (List.range NB) hkT)
      have h1 := hH j _ (aws_get hj)
      rw [ckT] at h1
      rw [c175, e175, s175, e22]
      exact h1
    · have h1 := hH i _ (aws_get (ws_fst hi T))
      rw [xcell_rd (g := g) (σ := σ) e22 (fun j hj => eoth j (by omega)) hσ (soth i z), eoth i z, e22]
      exact h1
  have hr := va_runS (e := Y.1.2.1) (below := Y.1.2.2.2.2.2.1) (meth := Y.1.2.2.2.2.2.2.1) (locs := locs) (cells := cc) (slots := ss) (As := [vR 0, vR 174, vR kT, vI w, vI d].map (cv g)) (rest := S.map (cv g)) (g := F0 Y.1.2.2.2.1 pc ls ((vI d :: vI w :: vR kT :: vR 174 :: vR 0 :: S).map (cv g))) ⟨F.1, F.2.1, F.2.2.1, (by rw [← ho]; exact F.2.2.2.2.2.1), hts⟩ hM ⟨cb, hts _ c5⟩ ⟨xWd_blind, fun U hU hW => ⟨rfl, hHp U hU, by
    have := xK_moved hW.alike F.2.2.2.2.2.2.2.1
    unfold xK xTys at this ⊢
    rw [e22]
    exact this, hI', ((hG.1.rd (fun j hj => eoth j (by omega))).mvd hW.alike (by rw [hU]; exact hs.2.1)).ro hxA', xNs_warm hW (xNs_rd hG.2.1 (fun j hj => eoth j (by omega))), hσi2⟩⟩ rfl rfl hll.1 rfl (by show 2 * 0 + _ ≤ 8; omega) hd.1 ⟨hA.2.2.1, hA.2.2.2⟩
  intro Tt hTt X
  obtain ⟨v, st₀, t, T', Lc, h0, X', hLc, e1, e2, ⟨⟨r, σ2, hv, hro, ⟨hr1, a', p1, p2, p3⟩, hH', hσ2⟩, hz, hkp⟩, st⟩ := hr Tt hTt X
  subst hr1
  cases hv
  rw [h0] at hz hkp
  have hs1 : va_S Y.2.2.1 Y.1.2.2.1.heap T'.heap (locs ++ Lc) := ⟨Nat.le_trans hs.1 (by rw [e1]; exact hz), fun q h1 h2 => by rw [e1, hkp q (Nat.lt_of_lt_of_le h1 hs.1) (fun h => h2 (hxA' q h))]; exact hs.2.1 q h1 h2, fun q hq => by
    rcases List.mem_append.mp hq with h | h
    · exact hs.2.2 q h
    · exact hxA' _ (hLc q h)⟩
  obtain ⟨σo, hσo⟩ : ∃ σo : xS, σo = (fun k i => if 175 ≤ k then σ k i else σ2 k i) := ⟨_, rfl⟩
  have so1 : ∀ k, 175 ≤ k → σo k = σ k := fun k hk => by rw [hσo]; funext i; exact if_pos hk
  have so2 : ∀ k, k < 175 → σo k = σ2 k := fun k hk => by rw [hσo]; funext i; exact if_neg (by omega)
  have hoko : okS σo := fun k i => by
    by_cases z : 175 ≤ k
    · rw [so1 k z]; exact hσ k i
    · rw [so2 k (by omega)]; exact hσ2 k i
  have hstay : ∀ (i o : Nat), (List.range NB ++ T)[i]? = some o → (∀ j, j < NB → g'.2.1 j ≠ g.2.1 o) → va_at g.2.2.1 classes (g.2.1 o, xcell g σ o) T'.heap := fun i o hio hne => by
    have h1 := hH i _ (aws_get hio)
    refine h1.kept ?_
    rw [e1]
    exact hkp _ h1.lt (fun h => by obtain ⟨j, j1, j2⟩ := h; exact hne j j1 j2.symm)
  have hH1 : aHp g σo (List.range NB ++ T) T'.heap := fun i q hq => by
    obtain ⟨o, hio, rfl⟩ := aws_of hq
    have hco : 175 ≤ o → xcell g σo o = xcell g σ o := fun z => xcell_rd rfl (fun _ _ => rfl) hσ (so1 o z)
    rcases ws_of hio with ⟨hi, rfl⟩ | ⟨hi, hoT⟩
    · by_cases z : o = 175
      · subst z
        rw [hco (Nat.le_refl _)]
        refine hstay 175 175 hio (fun j hj e => ?_)
        by_cases x : j = 175
        · rw [x, e175] at e
          exact aA_ne hA (by decide) hkT e
        · rw [eoth j x] at e
          exact x (aA_inj hA j 175 hj (by decide) e)
      · have hlt : o < 175 := by have : o < 176 := hi; omega
        have h1 := hH' o _ (xws_get hi)
        rw [← e1, eoth o z, e22] at h1
        rw [xcell_rd (g := g') (g' := g) (σ := σ2) e22.symm (fun j hj => (eoth j (by omega)).symm) hσ2 (so2 o hlt)]
        exact h1
    · have ho2 := hT o hoT
      rw [hco (by omega)]
      by_cases z : o = kT
      · subst z
        have h1 := hH' 175 _ (xws_get (g := g') (σ := σ2) (by decide))
        rw [← e1, e175, c175, p3 175 (by decide), s175, e22] at h1
        rw [ckT]
        exact h1
      · refine hstay i o hio (fun j hj e => ?_)
        by_cases x : j = 175
        · rw [x, e175] at e
          obtain ⟨j2, hj2⟩ := List.getElem?_of_mem (List.mem_append_right (List.range NB) hkT)
          have := hA.1 j2 i kT o hj2 hio e
          subst this
          rw [hio] at hj2
          cases hj2
          exact z rfl
        · rw [eoth j x] at e
          exact aA_ne hA hj hoT e.symm
  have k0 := kk σo a' (p1.same (fun o ho => so2 o (by omega))) p2 (so1 175 (Nat.le_refl _)) (fun o ho => so1 o (by have := hT o ho; omega)) F hA hL (xok_cons hSt (show ok (vI 1) from ⟨by decide, by decide⟩)) hoko T'.heap (locs ++ Lc) ls hH1 hs1 hll
  rw [← hd.2] at k0
  obtain ⟨t2, a1, b1⟩ := k0 T' rfl X'
  exact ⟨t2, st t2 a1, b1⟩
/-- a copy of the row told -/
theorem a_copy {k idx B : Nat} (hG : aG g Y) (hk : kd k = 20 ∧ ln k = 180 ∧ 176 ≤ k ∧ k < 300 ∧ k ∉ T) (hYA : Y.2.2.1 = bA B) (hB : B ≤ Y.1.2.2.1.heap.size) (hT : ∀ o ∈ T, kd o = 20) (hd : xd y.2.1 pc (.invokestatic idx) 3 pc') (ho : y.1.cls = "ShakenBreadLaw") (hl : Cond.methodLink "ShakenBreadLaw" idx y_Lw_copy.1 ∈ gw) (hdep : y_Lw_copy.2.2.2.2 + 1 ≤ y.2.2.2.2) (h8 : ((S.map (cv g)).map (fun v => v.category)).sum ≤ 8) (hcs : cc + 1 ≤ Y.2.1.cells ∧ ss + 180 ≤ Y.2.1.slots) (hok175 : ∀ i : Int, -2147483648 ≤ σ 175 i ∧ σ 175 i < 2147483648) (hL2 : L.all (nR k) = true) (hS2 : S.all (nR k) = true)
    (kk : ∀ (r : Nat) (f : Int → Int), (∀ i : Int, 0 ≤ i → i < 180 → f i = σ 175 i) → aG (sg g k r) Y → Ax (sg g k r) y Y (List.range NB ++ (T ++ [k])) (cc + 1) (ss + 180) pc' L (vR k :: S) (fun k' i => if k' = k then f i else σ k' i)) : Ax g y Y (List.range NB ++ T) cc ss pc L (vR 175 :: S) σ := by
  have c175 : ∀ (g : xG) (σ : xS), xcell g σ 175 = .inl (g.2.2.2 20, 180, .inl (fun i => Int32.ofInt (σ 175 i))) := fun g σ => xcell_i (n := 180) (Or.inl (by decide +kernel)) (by decide +kernel)
  have hB175 : B ≤ g.2.1 175 := by
    have := hG.2.2 175 (by decide)
    rw [hYA] at this
    exact this
  refine a_raw (As := [vR 175]) hd ho c_Lw_copy hl hdep rfl rfl h8 hcs (fun q hq => by rw [hYA]; exact hq) cpB_blind (sp_copy (B := B) (f := σ 175) hB175 hok175) (fun st t oc h => ?_) (fun F H locs hA hσ hH hs U hU hW => ?_) (fun F hA hL hS hσ H locs locs1 ls st t v hH hs hl hst hQ hs1 => ?_)
  · exact ⟨h.2.1, fun q h1 _ => h.2.2 q h1 (Nat.not_le.mpr h1)⟩
  · refine ⟨xK_moved hW.alike F.2.2.2.2.2.2.2.1, ?_, by rw [hU]; exact Nat.le_trans hB hs.1⟩
    have h1 := hH 175 _ (aws_get (ws_fst (by decide) T))
    rw [c175] at h1
    rw [hU]
    exact h1
  · obtain ⟨⟨r, f, he, hr, hf, hfr, hat⟩, hF⟩ := hQ
    cases he
    have ek : (sg g k r).2.1 k = r := if_pos rfl
    have ej : ∀ j, j ≠ k → (sg g k r).2.1 j = g.2.1 j := fun j hj => if_neg hj
    have hold : ∀ (i o : Nat), (List.range NB ++ T)[i]? = some o → o ≠ k ∧ g.2.1 o < st.heap.size := fun i o hio => by
      refine ⟨fun e => ?_, ?_⟩
      · rcases ws_of hio with ⟨h1, h2⟩ | ⟨h1, h2⟩
        · have : i < 176 := h1
          omega
        · exact hk.2.2.2.2 (by rw [← e]; exact h2)
      · rw [hst]
        exact (hH i _ (aws_get hio)).lt
    have key : ∀ (i p : Nat), (List.range NB ++ (T ++ [k]))[i]? = some p → ((List.range NB ++ T)[i]? = some p ∧ i < (List.range NB ++ T).length) ∨ (i = (List.range NB ++ T).length ∧ p = k) := fun i p h => by
      rw [← List.append_assoc] at h
      by_cases hi : i < (List.range NB ++ T).length
      · rw [List.getElem?_append_left hi] at h
        exact Or.inl ⟨h, hi⟩
      · rw [List.getElem?_append_right (by omega)] at h
        have hz : i - (List.range NB ++ T).length < 1 := (List.getElem?_eq_some_iff.mp h).1
        rw [show i - (List.range NB ++ T).length = 0 by omega] at h
        cases h
        exact Or.inr ⟨by omega, rfl⟩
    have hrA : Y.2.2.1 r := by
      rw [hYA]
      show B ≤ r
      have := hs.1
      rw [← hst] at this
      omega
    have hA2 : aA (sg g k r) (List.range NB ++ (T ++ [k])) (cc + 1) (ss + 180) Y := by
      refine ⟨fun i j p q hp hq e => ?_, fun p hp => ?_, hcs⟩
      · rcases key i p hp with ⟨h1, h1l⟩ | ⟨h1, rfl⟩
        · rcases key j q hq with ⟨h2, h2l⟩ | ⟨h2, rfl⟩
          · rw [ej p (hold i p h1).1, ej q (hold j q h2).1] at e
            exact hA.1 i j p q h1 h2 e
          · rw [ej p (hold i p h1).1, ek] at e
            have := (hold i p h1).2
            omega
        · rcases key j q hq with ⟨h2, h2l⟩ | ⟨h2, rfl⟩
          · rw [ej q (hold j q h2).1, ek] at e
            have := (hold j q h2).2
            omega
          · omega
      · obtain ⟨i, hi⟩ := List.getElem?_of_mem hp
        rcases key i p hi with ⟨h1, -⟩ | ⟨-, rfl⟩
        · rw [ej p (hold i p h1).1]
          exact hA.2.1 p (List.mem_of_getElem? h1)
        · rw [ek]; exact hrA
    obtain ⟨σ', hσ'⟩ : ∃ σ' : xS, σ' = (fun k' i => if k' = k then f i else σ k' i) := ⟨_, rfl⟩
    have s1 : σ' k = f := by rw [hσ']; funext i; exact if_pos rfl
    have s2 : ∀ o, o ≠ k → σ' o = σ o := fun o ho => by rw [hσ']; funext i; exact if_neg ho
    have hoks : okS σ' := fun o i => by
      by_cases z : o = k
      · rw [z, s1]
        exact ⟨hfr i, fun h => by omega, fun h => by rcases h with h | ⟨h, -⟩ <;> omega, fun h => by omega⟩
      · rw [s2 o z]; exact hσ o i
    have hH2 : aHp (sg g k r) σ' (List.range NB ++ (T ++ [k])) t.heap := fun i q hq => by
      obtain ⟨o, hio, rfl⟩ := aws_of hq
      rcases key i o hio with ⟨h1, -⟩ | ⟨-, rfl⟩
      · have hh := hold i o h1
        rw [ej o hh.1, xcell_rd (g := g) (g' := sg g k r) (σ := σ) rfl (fun j hj => ej j (by omega)) hσ (s2 o hh.1)]
        exact (hH i _ (aws_get h1)).kept (by rw [← hst]; exact hF.2 _ hh.2 (Nat.not_le.mpr hh.2))
      · rw [ek, xcell_i (n := 180) (Or.inl hk.1) hk.2.1, hk.1, s1]
        exact hat
    have hG2 : aG (sg g k r) Y := hG.rd (fun j hj => ej j (by omega)) (fun j hj => by
      rw [ej j (by have : j < 176 := hj; omega)]
      exact hG.2.2 j hj)
    have hl1 : lv_has ls y.2.2.1 (lvl (sg g k r) 0 L) := by rw [lvl_sg L 0 hL2]; exact hl
    have k0 := kk r f hf hG2 F hA2 hL (xok_cons hS trivial) (by rw [← hσ']; exact hoks) t.heap locs1 ls (by rw [← hσ']; exact hH2) hs1 hl1
    rw [List.map_cons, map_sg S hS2, show cv (sg g k r) (vR k) = .ref r from congrArg Value.ref ek] at k0
    exact k0
end AXW
