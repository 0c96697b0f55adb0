/-! such frames: entering, leaving, calling -/
def cRm (d mc ms : Nat) : Room := { frames := d, cells := mc, slots := ms, locals := 40 * d }
def nA (U : State) : Nat → Prop := fun q => U.heap.size ≤ q
def bA (B : Nat) : Nat → Prop := fun q => B ≤ q
section AXC
variable {g : xG} {y : xM} {Y : aY} {D : List Nat} {cc ss pc pc' : Nat} {L S : List MV} {σ : xS}
theorem a_iret {v : Int} {Qc : Array Value → State → Outcome → State → Prop} {free : Addr → Prop} (hd : xd y.2.1 pc .ireturn 1 pc') (hr : y.2.2.2.1 = some .int) (hQ : Y.2.2.2 = MQ Y.1.2.2.2.2.2.1 Qc Y.1.2.2.2.2.1 Y.1.2.2.1 cc ss free) (hf : ∀ q, Y.2.2.1 q → free q) (k : ∀ t : State, (-2147483648 ≤ v ∧ v < 2147483648) → aHp g σ D t.heap → va_F Y.2.2.1 Y.1.2.2.1 t → Qc Y.1.2.2.2.2.1 Y.1.2.2.1 (.returned (some (.int (Int32.ofInt v)))) t) : Ax g y Y D cc ss pc L [vI v] σ := by
  intro F hA hL hS hσ H locs ls hH hs hl
  rw [hQ]
  exact W.iret (v := Int32.ofInt v) F.1 F.2.1 (by rw [F.2.2.2.1, hr]) (fun t ht hW => k t (xok_hd hS) (by rw [ht]; exact hH) (hs.F ht)) (fun q hq => hf _ (hs.2.2 q hq)) hd.1 F.2.2.2.2.1
theorem a_zret {v : Int} {Qc : Array Value → State → Outcome → State → Prop} {free : Addr → Prop} (hd : xd y.2.1 pc .ireturn 1 pc') (hr : y.2.2.2.1 = some .boolean) (hv : v = 0 ∨ v = 1) (hQ : Y.2.2.2 = MQ Y.1.2.2.2.2.2.1 Qc Y.1.2.2.2.2.1 Y.1.2.2.1 cc ss free) (hf : ∀ q, Y.2.2.1 q → free q) (k : ∀ t : State, aHp g σ D t.heap → va_F Y.2.2.1 Y.1.2.2.1 t → Qc Y.1.2.2.2.2.1 Y.1.2.2.1 (.returned (some (.int (Int32.ofInt v)))) t) : Ax g y Y D cc ss pc L [vI v] σ := by
  intro F hA hL hS hσ H locs ls hH hs hl
  rw [hQ]
  exact W.zret (v := Int32.ofInt v) F.1 F.2.1 (ty := .boolean) (by rw [F.2.2.2.1, hr]) (by rcases hv with rfl | rfl <;> rfl) (fun t ht hW => k t (by rw [ht]; exact hH) (hs.F ht)) (fun q hq => hf _ (hs.2.2 q hq)) hd.1 F.2.2.2.2.1
theorem a_aret {r : Nat} {ty : FieldType} {Qc : Array Value → State → Outcome → State → Prop} {free : Addr → Prop} (hd : xd y.2.1 pc .areturn 1 pc') (hr : y.2.2.2.1 = some (.array ty)) (hQ : Y.2.2.2 = MQ Y.1.2.2.2.2.2.1 Qc Y.1.2.2.2.2.1 Y.1.2.2.1 cc ss free) (hf : ∀ q, Y.2.2.1 q → free q) (k : ∀ t : State, okS σ → aHp g σ D t.heap → va_F Y.2.2.1 Y.1.2.2.1 t → Qc Y.1.2.2.2.2.1 Y.1.2.2.1 (.returned (some (.ref (g.2.1 r)))) t) : Ax g y Y D cc ss pc L [vR r] σ := by
  intro F hA hL hS hσ H locs ls hH hs hl
  rw [hQ]
  exact W.aret (v := .ref (g.2.1 r)) F.1 F.2.1 (rt := .array ty) (by rw [F.2.2.2.1, hr]) (Or.inr ⟨ty, rfl⟩) (Or.inr ⟨_, rfl⟩) (fun t ht hW => k t hσ (by rw [ht]; exact hH) (hs.F ht)) (fun q hq => hf _ (hs.2.2 q hq)) hd.1 F.2.2.2.2.1
/-- entering a static method without longs -/
theorem a_enter {as : List MV} {Bp : State → Prop} {Qc : Array Value → State → Outcome → State → Prop} {mc ms : Nat} {free : Addr → Prop} (n : Nat) (A : State → Nat → Prop) (D : List Nat) (σ : xS) (hy : plainName y.1.cls = true) (hr : as.all (fun v => !isL v && !isU v) = true) (hn : as.length + n = y.2.2.1) (hok : ∀ v ∈ as, ok v) (hσ : okS σ) (hB : ∀ U : State, Bp U → xK g U ∧ aHp g σ D U.heap ∧ (∀ (i j p q : Nat), D[i]? = some p → D[j]? = some q → g.2.1 p = g.2.1 q → i = j) ∧ (∀ k ∈ D, A U (g.2.1 k)) ∧ ∀ q, U.heap.size ≤ q → A U q)
    (k : ∀ Z : xZ, Bp Z.2.2.1 → Ax g y (Z, cRm y.2.2.2.2 mc ms, A Z.2.2.1, MQ Z.2.2.2.2.2.1 Qc Z.2.2.2.2.1 Z.2.2.1 mc ms free) D 0 0 0 (as ++ List.replicate n vU) [] σ) : Met g.1 y.1 (xWs y) (cRm y.2.2.2.2 mc ms) (va_Pc (as.map (cv g)) Bp) Qc mc ms free := by
  refine Met.ofW (cc := y.2.1) (maxL := y.2.2.1) (ret := y.2.2.2.1) hy rfl ?_
  intro p e s m args below meth c s₁ B hml hv
  obtain ⟨rfl, hBp⟩ := hv
  obtain ⟨hK, hH, hI, hAm, hAn⟩ := hB s hBp
  have hcat : ∀ v ∈ as, (cv g v).category ≠ 2 := fun v hv h2 => by
    have := List.all_eq_true.mp hr v hv
    rw [cv_cat h2] at this
    simp at this
  have hsl : ∀ l : List MV, (∀ v ∈ l, (cv g v).category ≠ 2) → lg_sl (l.map (cv g)) = l.map (fun v => Slot.val (cv g v)) := by
    intro l
    induction l with
    | nil => intro _; rfl
    | cons v t ih =>
      intro h
      have h1 := h v List.mem_cons_self
      have h2 := ih (fun w hw => h w (List.mem_cons_of_mem _ hw))
      unfold lg_sl at h2 ⊢
      rw [List.map_cons, List.flatMap_cons, h2, if_neg h1]
      rfl
  have hlen : (lg_sl (as.map (cv g))).length = as.length := by rw [hsl as hcat, List.length_map]
  have hl := lv_entry (as.map (cv g)) (n := y.2.2.1) (by rw [hlen]; omega)
  rw [lg_entry_eq]
  have hargs : ∀ (l : List MV) (i : Nat), (∀ v ∈ l, (cv g v).category ≠ 2) → lv_args i (l.map (cv g)) = (l.zipIdx i).map (fun q => (q.2, cv g q.1)) := by
    intro l
    induction l with
    | nil => intro i _; rfl
    | cons v t ih =>
      intro i h
      have h1 := h v List.mem_cons_self
      have h2 := ih (i + 1) (fun w hw => h w (List.mem_cons_of_mem _ hw))
      simp only [List.map_cons, lv_args, h1, if_false, List.zipIdx_cons]
      rw [h2]
  have hl2 : lv_has ((lg_sl (as.map (cv g)) ++ List.replicate (y.2.2.1 - (lg_sl (as.map (cv g))).length) Slot.unset).toArray) y.2.2.1 (lvl g 0 (as ++ List.replicate n vU)) := by
    refine ⟨hl.1, hl.2.1, fun q hq => ?_⟩
    obtain ⟨i, v, h1, h2, h3⟩ := lvl_of hq
    rw [Nat.zero_add] at h1
    refine hl.2.2 q ?_
    rw [hargs as 0 hcat, h1]
    by_cases hi : i < as.length
    · rw [List.getElem?_append_left hi] at h2
      exact List.mem_map.mpr ⟨(v, i), List.mem_iff_getElem?.mpr ⟨i, by rw [List.getElem?_zipIdx, h2]; simp⟩, rfl⟩
    · rw [List.getElem?_append_right (by omega)] at h2
      have hv := List.mem_of_getElem? h2
      rw [(List.mem_replicate.mp hv).2] at h3
      cases h3
  have hws := atoms_spec (ws := xWs y) B.pre
  refine k (p, e, s, m, (as.map (cv g)).toArray, below, meth, c) hBp ⟨B.exec, B.bytes, hml, B.returns, B.notSynchronized, findClass_of_methodNamed B.named, fun w hw => hws w (List.mem_cons_of_mem _ hw), hK, hAn, Nat.le_refl _, Nat.le_refl _⟩ ⟨hI, hAm, Nat.zero_le _, Nat.zero_le _⟩ ?_ (fun v h => by cases h) hσ s.heap [] _ hH va_S.rf hl2
  intro v hv
  rcases List.mem_append.mp hv with h | h
  · exact hok v h
  · rw [(List.mem_replicate.mp h).2]; trivial
theorem gw_gd {yc : xM} (h : Cond.code yc.1 yc.2.1 yc.2.2.1 yc.2.2.2.1 ∈ gw) : GoodIn gw (xWs yc) := fun w hw => by
  rcases List.mem_cons.mp hw with rfl | h1
  · exact ⟨h, gw_good _ h⟩
  · exact ⟨h1, gw_good _ h1⟩
/-- a static call, its answer as it comes -/
theorem a_raw {own : String} {idx n : Nat} {yc : xM} {As S0 : List MV} {Bp : State → Prop} {Qc : Array Value → State → Outcome → State → Prop} {mc ms : Nat} {free : Addr → Prop} (hd : xd y.2.1 pc (.invokestatic idx) 3 pc') (ho : y.1.cls = own) (hc : CS yc n) (hl : Cond.methodLink own idx yc.1 ∈ gw) (hdep : yc.2.2.2.2 + 1 ≤ y.2.2.2.2) (hn : As.length = n) (hst : S0 = As.reverse ++ S) (h8 : ((S.map (cv g)).map (fun v => v.category)).sum ≤ 8)
    (hcs : cc + mc ≤ Y.2.1.cells ∧ ss + ms ≤ Y.2.1.slots) (hfr : ∀ q, free q → Y.2.2.1 q) (hbl : FrameBlind (va_Pc (As.map (cv g)) Bp)) (hM : Met g.1 yc.1 (xWs yc) (cRm yc.2.2.2.2 mc ms) (va_Pc (As.map (cv g)) Bp) Qc mc ms free)
    (hQ : ∀ (st t : State) (oc : Outcome), Qc (As.map (cv g)).toArray st oc t → va_F Y.2.2.1 st t)
    (pre : aF g y Y → ∀ (H : Heap) (locs : List Loc), aA g D cc ss Y → okS σ → aHp g σ D H → va_S Y.2.2.1 Y.1.2.2.1.heap H locs → ∀ U : State, U.heap = H → Y.1.2.2.1.WarmedH U.vm → Bp U)
    (kk : aF g y Y → aA g D cc ss Y → (∀ v ∈ L, ok v) → (∀ v ∈ S, ok v) → okS σ → ∀ (H : Heap) (locs locs1 : List Loc) (ls : Array Slot) (st t : State) (v : Option Value), aHp g σ D H → va_S Y.2.2.1 Y.1.2.2.1.heap H locs → lv_has ls y.2.2.1 (lvl g 0 L) → st.heap = H → Qc (As.map (cv g)).toArray st (.returned v) t → va_S Y.2.2.1 Y.1.2.2.1.heap t.heap locs1 →
      W Y.1.1 g.1 Y.1.2.1 Y.2.1 Y.1.2.2.1 Y.1.2.2.2.1 Y.1.2.2.2.2.1 Y.1.2.2.2.2.2.1 Y.1.2.2.2.2.2.2.1 Y.1.2.2.2.2.2.2.2 t.heap locs1 (cc + mc) (ss + ms) Y.2.2.2 (F0 Y.1.2.2.2.1 pc' ls (v.toList ++ S.map (cv g)))) : Ax g y Y D cc ss pc L S0 σ := by
  subst hst
  intro F hA hL hS hσ H locs ls hH hs hll
  have hSt : ∀ v ∈ S, ok v := fun v hv => hS v (List.mem_append_right _ hv)
  obtain ⟨⟨c1, c2, c3, c4⟩, c5⟩ := hc
  have hts := F.2.2.2.2.2.2.1
  have f1 := F.2.2.2.2.2.2.2.2.2.1
  have f2 := F.2.2.2.2.2.2.2.2.2.2
  have cb := callB_of (ret := yc.2.2.2.1) (own := own) (index := idx) (R := Y.2.1) (rm := cRm yc.2.2.2.2 mc ms) (mc := mc) (ms := ms) n hts (gw_gd c2) rfl rfl rfl (hts _ c1) (hts _ hl) c4 ⟨by show yc.2.2.2.2 + 1 ≤ Y.2.1.frames; omega, by show 8 + (yc.2.2.1 + 11) + 40 * yc.2.2.2.2 ≤ Y.2.1.locals; omega⟩
  have hr := va_runS (e := Y.1.2.1) (below := Y.1.2.2.2.2.2.1) (meth := Y.1.2.2.2.2.2.2.1) (locs := locs) (cells := cc) (slots := ss) (As := As.map (cv g)) (rest := S.map (cv g)) (g := F0 Y.1.2.2.2.1 pc ls ((As.reverse ++ S).map (cv g))) ⟨F.1, F.2.1, F.2.2.1, (by rw [← ho]; exact F.2.2.2.2.2.1), hts⟩ hM ⟨cb, hts _ c5⟩ ⟨hbl, fun U hU hW => ⟨rfl, pre F H locs hA hσ hH hs U hU hW⟩⟩ rfl (by rw [List.length_map]; exact hn) hll.1 (by simp only [List.map_append, List.map_reverse]) (by show 2 * 0 + _ ≤ 8; omega) hd.1 hcs
  intro T hT X
  obtain ⟨v, st₀, t, T', Lc, h0, X', hLc, e1, e2, QC, st⟩ := hr T hT X
  obtain ⟨hz, hk⟩ := hQ _ _ _ QC
  rw [h0] at hz hk
  have hs1 : va_S Y.2.2.1 Y.1.2.2.1.heap t.heap (locs ++ Lc) := ⟨Nat.le_trans hs.1 hz, fun q h1 h2 => by rw [hk q (Nat.lt_of_lt_of_le h1 hs.1) h2]; exact hs.2.1 q h1 h2, fun q hq => by
    rcases List.mem_append.mp hq with h | h
    · exact hs.2.2 q h
    · exact hfr _ (hLc q h)⟩
  have k0 := kk F hA hL hSt hσ H locs (locs ++ Lc) ls st₀ t v hH hs hll h0 QC hs1
  rw [← hd.2, ← e1] at k0
  obtain ⟨t2, a1, b1⟩ := k0 T' rfl X'
  exact ⟨t2, st t2 a1, b1⟩
/-- cells that are there stay, where nothing old was changed -/
theorem aHp_kept {g : xG} {σ : xS} {D : List Nat} {st t : State} {P : Nat → Prop} (h : aHp g σ D st.heap) (hs : ∀ q : Nat, q < st.heap.size → ¬ P q → t.heap[q]? = st.heap[q]?) (hP : ∀ k ∈ D, ¬ P (g.2.1 k)) : aHp g σ D t.heap := fun i q hq => by
  have h1 := h i q hq
  obtain ⟨k, hk, rfl⟩ := aws_of hq
  have hlt : g.2.1 k < st.heap.size := h1.lt
  exact h1.kept (hs _ hlt (hP k (List.mem_of_getElem? hk)))
end AXC
