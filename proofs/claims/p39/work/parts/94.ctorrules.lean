/-! constructors: the heap from B on, cell by cell, as a list; a constructor's contract; one rule an instruction -/
/-- the private constructors that a nest mate calls -/
def nsL : List (String × Nat × MethodName) := [("ShakenBread$Told", 17, ⟨"ShakenBread$Town", "<init>", "()V"⟩), ("ShakenBread$Told", 24, ⟨"ShakenBread$Book", "<init>", "()V"⟩), ("ShakenBread", 26, ⟨"ShakenBread$Reader", "<init>", "()V"⟩), ("ShakenBread$Reader", 11, ⟨"ShakenBread$Town", "<init>", "()V"⟩), ("ShakenBread$Reader", 20, ⟨"ShakenBread$Book", "<init>", "()V"⟩), ("ShakenBread", 33, ⟨"ShakenBread$Plan", "<init>", "()V"⟩), ("ShakenBread", 40, ⟨"ShakenBread$Run", "<init>", "()V"⟩), ("ShakenBread$Run", 11, ⟨"ShakenBread$Hands", "<init>", "()V"⟩)]
def aO (U : State) : Prop := (va_AO "ShakenBread$Town" U ∧ va_AO "ShakenBread$Book" U ∧ va_AO "ShakenBread$Told" U) ∧ ∀ q ∈ nsL, va_Nw (.methodLinkNest q.1 q.2.1 q.2.2 "ShakenBread") U
theorem aO_warm {s U : State} (hW : s.WarmedH U.vm) (h : aO s) : aO U := ⟨⟨va_AO.moved hW.alike h.1.1, va_AO.moved hW.alike h.1.2.1, va_AO.moved hW.alike h.1.2.2⟩, fun q hq => va_Nw.warmM hW (h.2 q hq)⟩
theorem aO_same {u U : State} (hv : u.vm = U.vm) (h : aO u) : aO U := by
  have ha : u.vm.Alike U.vm := by rw [hv]; exact Vm.Alike.refl _
  exact ⟨⟨va_AO.moved ha h.1.1, va_AO.moved ha h.1.2.1, va_AO.moved ha h.1.2.2⟩, fun q hq => va_Nw.same rfl hv (h.2 q hq)⟩
def cw (B : Nat) (es : List va_E) : va_W := es.mapIdx (fun i x => (B + i, x))
theorem cw_get {B k : Nat} {es : List va_E} : (cw B es)[k]? = (es[k]?).map (fun x => (B + k, x)) := by
  unfold cw
  rw [List.getElem?_mapIdx]
theorem cw_len {B : Nat} {es : List va_E} : (cw B es).length = es.length := by
  unfold cw
  rw [List.length_mapIdx]
theorem cw_set {B k : Nat} {es : List va_E} {x : va_E} : (cw B es).set k (B + k, x) = cw B (es.set k x) := by
  refine List.ext_getElem? (fun i => ?_)
  by_cases hik : i = k
  · subst hik
    by_cases hl : i < es.length
    · rw [List.getElem?_set_self (by rw [cw_len]; exact hl), cw_get, List.getElem?_set_self hl]
      rfl
    · rw [List.getElem?_eq_none (by rw [List.length_set, cw_len]; omega), List.getElem?_eq_none (by rw [cw_len, List.length_set]; omega)]
  · rw [List.getElem?_set_ne (Ne.symm hik), cw_get, cw_get, List.getElem?_set_ne (Ne.symm hik)]
def cA (B : Nat) : Nat → Prop := fun q => B ≤ q
def cHp (g : xG) (B : Nat) (es : List va_E) (H : Heap) : Prop := H.size = B + es.length ∧ va_P g.2.2.1 classes (cw B es) H
theorem cw_D {B : Nat} {es : List va_E} : va_D (cA B) (cw B es) := by
  refine ⟨fun i j p q hp hq h => ?_, fun k q h => ?_⟩
  · rw [cw_get] at hp hq
    obtain ⟨a1, _, rfl⟩ := Option.map_eq_some_iff.mp hp
    obtain ⟨a2, _, rfl⟩ := Option.map_eq_some_iff.mp hq
    simp only at h
    omega
  · rw [cw_get] at h
    obtain ⟨a1, _, rfl⟩ := Option.map_eq_some_iff.mp h
    exact Nat.le_add_right _ _
theorem cHp_push {g : xG} {B : Nat} {es : List va_E} {x : va_E} {H H1 : Heap} (h : cHp g B es H) (z : H1.size = B + es.length + 1) (o : ∀ q : Nat, q < B + es.length → H1[q]? = H[q]?) (hx : va_at g.2.2.1 classes (B + es.length, x) H1) : cHp g B (es ++ [x]) H1 := by
  refine ⟨by rw [z, List.length_append]; rfl, fun k q hk => ?_⟩
  rw [cw_get] at hk
  obtain ⟨x', h1, rfl⟩ := Option.map_eq_some_iff.mp hk
  by_cases hl : k < es.length
  · rw [List.getElem?_append_left hl] at h1
    have h2 : (cw B es)[k]? = some (B + k, x') := by rw [cw_get, h1]; rfl
    exact (h.2 k _ h2).kept (o _ (by show B + k < _; omega))
  · rw [List.getElem?_append_right (by omega)] at h1
    have hz : k - es.length < 1 := (List.getElem?_eq_some_iff.mp h1).1
    have hk0 : k = es.length := by omega
    subst hk0
    rw [Nat.sub_self] at h1
    cases h1
    exact hx
theorem cHp_set {g : xG} {B k : Nat} {es : List va_E} {x : va_E} {H1 : Heap} (hz : H1.size = B + es.length) (h : va_P g.2.2.1 classes ((cw B es).set k (B + k, x)) H1) : cHp g B (es.set k x) H1 := ⟨by rw [List.length_set]; exact hz, by rw [← cw_set]; exact h⟩
def cPre (g : xG) (B : Nat) (es : List va_E) (U : State) : Prop := cHp g B es U.heap ∧ xK g U ∧ aO U
def cQ (g : xG) (B : Nat) (es : List va_E) : Array Value → State → Outcome → State → Prop := fun _ st oc t => (oc = .returned none ∧ cHp g B es t.heap) ∧ va_F (cA B) st t
/-- a constructor's contract: from the cells es to the cells es' -/
def Mc (g : xG) (B : Nat) (y : xM) (as : List Value) (es es' : List va_E) (mc ms : Nat) : Prop := Met g.1 y.1 (xWs y) (cRm y.2.2.2.2 mc ms) (va_Pc as (cPre g B es)) (cQ g B es') mc ms (cA B)
def kF9 (g : xG) (B : Nat) (y : xM) (Z : xZ) : Prop :=
  Z.1.tables.exec = Jvm.exec ∧ Z.2.2.2.2.2.2.2.code = y.2.1 ∧ Z.2.2.2.2.2.2.2.maxLocals = y.2.2.1 ∧ Z.2.2.2.2.2.2.1.sig.returnType = none ∧ Z.2.2.2.2.2.2.1.locks = false ∧ Z.2.2.1.vm.findClass y.1.cls = some Z.2.2.2.1.cls ∧
  (∀ w ∈ xWs y, w.before Z.2.2.2.2.1 Z.2.2.1 = true) ∧ xK g Z.2.2.1 ∧ aO Z.2.2.1 ∧ Z.2.2.2.2.2.2.1.name = y.1.name ∧ B ≤ Z.2.2.1.heap.size
def Cx (g : xG) (B : Nat) (y : xM) (mc ms : Nat) (es' : List va_E) (Z : xZ) (cells slots pc : Nat) (L : List (Nat × Value)) (S : List Value) (es : List va_E) : Prop :=
  kF9 g B y Z → Z.2.2.1.heap.size + cells = B + es.length → ∀ (H : Heap) (locs : List Loc) (ls : Array Slot), cHp g B es H → va_S (cA B) Z.2.2.1.heap H locs → lv_has ls y.2.2.1 L →
    W Z.1 g.1 Z.2.1 (cRm y.2.2.2.2 mc ms) Z.2.2.1 Z.2.2.2.1 Z.2.2.2.2.1 Z.2.2.2.2.2.1 Z.2.2.2.2.2.2.1 Z.2.2.2.2.2.2.2 H locs cells slots (MQ Z.2.2.2.2.2.1 (cQ g B es') Z.2.2.2.2.1 Z.2.2.1 mc ms (cA B)) (F0 Z.2.2.2.1 pc ls S)
theorem cPre_blind {g : xG} {B : Nat} {es : List va_E} {av : List Value} : FrameBlind (va_Pc av (cPre g B es)) := fun a U gf mk q => by
  obtain ⟨q0, hH, hK, hO⟩ := q
  exact ⟨q0, hH, xK_moved (u := U) (U := U.calling gf mk a) (Vm.Alike.refl U.vm) hK, aO_same (u := U) (U := U.calling gf mk a) rfl hO⟩
theorem c_enter {g : xG} {B : Nat} {y : xM} {as : List Value} {es es' : List va_E} {mc ms : Nat} (hy : plainName y.1.cls = true) (hr : y.2.2.2.1 = none) (hn : (lg_sl as).length ≤ y.2.2.1) (k : ∀ Z : xZ, Cx g B y mc ms es' Z 0 0 0 (lv_args 0 as) [] es) : Mc g B y as es es' mc ms := by
  refine Met.ofW (cc := y.2.1) (maxL := y.2.2.1) (ret := y.2.2.2.1) hy rfl ?_
  intro p e s m args below meth c s₁ D0 hml hv
  obtain ⟨rfl, hH, hK, hO⟩ := hv
  have hl := lv_entry as (n := y.2.2.1) hn
  rw [lg_entry_eq]
  have hsz : B ≤ s.heap.size := by have := hH.1; omega
  refine k (p, e, s, m, as.toArray, below, meth, c) ⟨D0.exec, D0.bytes, hml, by rw [D0.returns, hr], D0.notSynchronized, findClass_of_methodNamed D0.named, atoms_spec (ws := xWs y) D0.pre, hK, hO, (name_of_methodNamed D0.named D0.method).1, hsz⟩ hH.1 s.heap [] _ hH va_S.rf hl
section CR
variable {g : xG} {B : Nat} {y : xM} {mc ms : Nat} {es' : List va_E} {Z : xZ} {cells slots pc pc' : Nat} {L : List (Nat × Value)} {S : List Value} {es : List va_E}
theorem c_aload_n {k : Fin 4} {i a : Nat} (hd : xd y.2.1 pc (.aload_n k) 1 pc') (hi : (k : Nat) = i) (n : Nat) (hl : L[n]? = some (i, .ref a)) (kk : Cx g B y mc ms es' Z cells slots pc' L (.ref a :: S) es) : Cx g B y mc ms es' Z cells slots pc L S es := by
  intro F hz H locs ls hH hs hls
  have k0 := kk F hz H locs ls hH hs hls
  rw [← hd.2] at k0
  exact lv_aload_n F.1 F.2.1 hd.1 hi (lv_at hls n hl) k0
theorem c_dup {v : Value} (hd : xd y.2.1 pc .dup 1 pc') (hv : v.category = 1) (kk : Cx g B y mc ms es' Z cells slots pc' L (v :: v :: S) es) : Cx g B y mc ms es' Z cells slots pc L (v :: S) es := by
  intro F hz H locs ls hH hs hls
  have k0 := kk F hz H locs ls hH hs hls
  rw [← hd.2] at k0
  exact lv_dup F.1 F.2.1 hd.1 hv k0
theorem c_iconst {n : Int} {v : Int32} (hd : xd y.2.1 pc (.iconst n) 1 pc') (hv : Int32.ofInt n = v) (kk : Cx g B y mc ms es' Z cells slots pc' L (.int v :: S) es) : Cx g B y mc ms es' Z cells slots pc L S es := by
  intro F hz H locs ls hH hs hls
  have k0 := kk F hz H locs ls hH hs hls
  rw [← hd.2] at k0
  exact lv_iconst F.1 F.2.1 hd.1 hv k0
theorem c_bipush {n : Int} {v : Int32} (hd : xd y.2.1 pc (.bipush n) 2 pc') (hv : (Int8.ofInt n).toInt32 = v) (kk : Cx g B y mc ms es' Z cells slots pc' L (.int v :: S) es) : Cx g B y mc ms es' Z cells slots pc L S es := by
  intro F hz H locs ls hH hs hls
  have k0 := kk F hz H locs ls hH hs hls
  rw [← hd.2] at k0
  exact lv_bipush F.1 F.2.1 hd.1 hv k0
theorem c_sipush {n : Int} {v : Int32} (hd : xd y.2.1 pc (.sipush n) 3 pc') (hv : (Int16.ofInt n).toInt32 = v) (kk : Cx g B y mc ms es' Z cells slots pc' L (.int v :: S) es) : Cx g B y mc ms es' Z cells slots pc L S es := by
  intro F hz H locs ls hH hs hls
  have k0 := kk F hz H locs ls hH hs hls
  rw [← hd.2] at k0
  exact lv_sipush F.1 F.2.1 hd.1 hv k0
theorem c_ldc {idx : Nat} {v : Int32} {own : String} (hd : xd y.2.1 pc (.ldc idx) 2 pc') (ho : y.1.cls = own) (hw : Cond.constant own idx v ∈ gw) (kk : Cx g B y mc ms es' Z cells slots pc' L (.int v :: S) es) : Cx g B y mc ms es' Z cells slots pc L S es := by
  intro F hz H locs ls hH hs hls
  have k0 := kk F hz H locs ls hH hs hls
  rw [← hd.2] at k0
  exact lv_ldc F.1 F.2.1 (own := own) (by rw [← ho]; exact F.2.2.2.2.2.1) (F.2.2.2.2.2.2.1 _ (List.mem_cons_of_mem _ hw)) hd.1 k0
/-- Object's own constructor -/
def CO (own : String) (idx : Nat) : Prop := Cond.methodLink own idx Lib.objectInit ∈ gw ∧ Cond.instanceMethod Lib.objectInit ∈ gw ∧ Cond.code Lib.objectInit ⟨#[0xb1]⟩ 1 none ∈ gw
theorem c_objinit {idx a : Nat} {own : String} (hd : xd y.2.1 pc (.invokespecial idx) 3 pc') (ho : y.1.cls = own) (hw : CO own idx) (hdp : 1 ≤ y.2.2.2.2) (kk : Cx g B y mc ms es' Z cells slots pc' L [] es) : Cx g B y mc ms es' Z cells slots pc L [.ref a] es := by
  intro F hz H locs ls hH hs hls
  have k0 := kk F hz H locs ls hH hs hls
  rw [← hd.2] at k0
  have hts := F.2.2.2.2.2.2.1
  exact W.objInit F.1 F.2.1 (own := own) (by rw [← ho]; exact F.2.2.2.2.2.1) (hts _ (List.mem_cons_of_mem _ hw.1)) (hts _ (List.mem_cons_of_mem _ hw.2.1)) (hts _ (List.mem_cons_of_mem _ hw.2.2)) rfl (by rw [F.2.2.1]; exact hls.1) rfl hd.1 hdp (by show 2 * 0 + 0 + 12 ≤ 40 * y.2.2.2.2; omega) k0
def CN (own : String) (idx ci : Nat) (fs : List Value) : Prop := ∃ (C : String) (T : u_T) (N : Nat) (ty0 : Nat → FieldType), classes[ci]? = some (C, T, N) ∧ (∀ w ∈ u_ws C T N, w ∈ gw) ∧ Cond.classLink own idx C ∈ gw ∧ Cond.instantiable C N ∈ gw ∧ Cond.initialized C ∈ gw ∧
  (∀ k, k < N → parseFieldDescriptor (T k).2.2.1 = some (ty0 k)) ∧ fs.length = N ∧ ∀ j, j < N → defaultValue (ty0 j) = vp_V fs j
theorem c_new {idx ci k : Nat} {own : String} {fs : List Value} {es0 X X' : List va_E} (hd : xd y.2.1 pc (.new idx) 3 pc') (ho : y.1.cls = own) (hn : CN own idx ci fs) (hc : cells + 1 ≤ mc) (hsl : slots + fs.length ≤ ms) (hk : X.length = k) (hX : X ++ [.inr (ci, fs)] = X') (kk : Cx g B y mc ms es' Z (cells + 1) (slots + fs.length) pc' L (.ref (B + (es0.length + k)) :: S) (es0 ++ X')) : Cx g B y mc ms es' Z cells slots pc L S (es0 ++ X) := by
  subst hk
  intro F hz H locs ls hH hs hls
  obtain ⟨C, T, N, ty0, n1, n2, n3, n4, n5, n6, n7, n8⟩ := hn
  have hts := F.2.2.2.2.2.2.1
  have hw : ∀ {w : Cond}, w ∈ gw → w.before Z.2.2.2.2.1 Z.2.2.1 = true := fun h => hts _ (List.mem_cons_of_mem _ h)
  have hKn := F.2.2.2.2.2.2.2.1.1 ci _ n1
  refine W.newcK (n := N) F.1 F.2.1 (own := own) (by rw [← ho]; exact F.2.2.2.2.2.1) (hw n3) (hw n4) (hw n5) rfl hd.1 hc (by rw [← n7]; exact hsl) hKn.2.1 hH.1 (fun H1 kC hkC e1 z1 o1 => ?_)
  have hat : va_at g.2.2.1 classes (B + (es0 ++ X).length, .inr (ci, fs)) H1 := ⟨_, n1, (u_born ty0 (fun w h => hw h) n2 hKn hkC e1 n6).to n8⟩
  have hH1 := cHp_push hH z1 o1 hat
  rw [List.append_assoc, hX] at hH1
  have hs1 : va_S (cA B) Z.2.2.1.heap H1 locs := ⟨by have := hs.1; have := hH.1; omega, fun q q1 q2 => (o1 q (by have := hs.1; have := hH.1; omega)).trans (hs.2.1 q q1 q2), hs.2.2⟩
  have k0 := kk F (by have e0 := hH1.1; rw [z1] at e0; omega) H1 locs ls hH1 hs1 hls
  rw [← hd.2, n7, ← List.length_append] at k0
  exact k0
theorem c_newa {atype : ArrayType} {ti N k : Nat} {v : Int32} {es0 X X' : List va_E} (hd : xd y.2.1 pc (.newarray atype) 2 pc') (hw : Cond.arrayClass (newarray.typeOf atype) ∈ gw) (ht : ∀ s : State, xK g s → s.vm.findClass ("[" ++ (newarray.typeOf atype).toString) = some (g.2.2.2 ti)) (hdef : defaultValue (newarray.typeOf atype) = .int 0) (hcb : componentBytes (newarray.typeOf atype) ≤ 4) (hv : ¬ v < 0) (hN : v.toNatClampNeg = N) (hb : N ≤ 100000) (hc : cells + 1 ≤ mc) (hsl : slots + N ≤ ms) (hk : X.length = k) (hX : X ++ [.inl (g.2.2.2 ti, N, .inl (fun _ => 0))] = X') (kk : Cx g B y mc ms es' Z (cells + 1) (slots + N) pc' L (.ref (B + (es0.length + k)) :: S) (es0 ++ X')) : Cx g B y mc ms es' Z cells slots pc L (.int v :: S) (es0 ++ X) := by
  subst hk
  intro F hz H locs ls hH hs hls
  have hts := F.2.2.2.2.2.2.1
  refine va_newaK F.1 F.2.1 (hts _ (List.mem_cons_of_mem _ hw)) rfl hd.1 rfl hv hN (Nat.le_trans (Nat.mul_le_mul hb hcb) (by decide)) hc hsl hH.1 (fun H1 cA1 e1 z1 o1 hAr hNm => ?_)
  have hca : cA1 = g.2.2.2 ti := Option.some.inj (hNm.symm.trans (ht _ F.2.2.2.2.2.2.2.1))
  subst hca
  have hat : va_at g.2.2.1 classes (B + (es0 ++ X).length, .inl (g.2.2.2 ti, N, .inl (fun _ => 0))) H1 := by
    show H1[_]? = some (arrV (g.2.2.2 ti) N (fun _ => .int 0))
    rw [← hdef]
    exact e1
  have hH1 := cHp_push hH z1 o1 hat
  rw [List.append_assoc, hX] at hH1
  have hs1 : va_S (cA B) Z.2.2.1.heap H1 locs := ⟨by have := hs.1; have := hH.1; omega, fun q q1 q2 => (o1 q (by have := hs.1; have := hH.1; omega)).trans (hs.2.1 q q1 q2), hs.2.2⟩
  have k0 := kk F (by have e0 := hH1.1; rw [z1] at e0; omega) H1 locs ls hH1 hs1 hls
  rw [← hd.2, ← List.length_append] at k0
  exact k0
theorem c_anew {idx ti N k : Nat} {v : Int32} {own C : String} {es0 X X' : List va_E} (hd : xd y.2.1 pc (.anewarray idx) 3 pc') (ho : y.1.cls = own) (hw : Cond.classLink own idx C ∈ gw) (hao : ∀ s : State, aO s → va_AO C s) (ht : ∀ s : State, xK g s → s.vm.findClass ("[" ++ (FieldType.object C).toString) = some (g.2.2.2 ti)) (hv : ¬ v < 0) (hN : v.toNatClampNeg = N) (hb : N ≤ 100000) (hc : cells + 1 ≤ mc) (hsl : slots + N ≤ ms) (hk : X.length = k) (hX : X ++ [.inl (g.2.2.2 ti, N, .inr (.inr (.inr (.inr (fun _ => none)))))] = X') (kk : Cx g B y mc ms es' Z (cells + 1) (slots + N) pc' L (.ref (B + (es0.length + k)) :: S) (es0 ++ X')) : Cx g B y mc ms es' Z cells slots pc L (.int v :: S) (es0 ++ X) := by
  subst hk
  intro F hz H locs ls hH hs hls
  subst hN
  have hts := F.2.2.2.2.2.2.1
  refine W.anew F.1 F.2.1 (own := own) (by rw [← ho]; exact F.2.2.2.2.2.1) (hts _ (List.mem_cons_of_mem _ hw)) (va_AO.use (hao _ F.2.2.2.2.2.2.2.2.1)) rfl hd.1 rfl hv (by omega) hc hsl (fun cA1 kA comp f1 f2 f3 f4 => ?_)
  have hca : cA1 = g.2.2.2 ti := Option.some.inj (f1.symm.trans (ht _ F.2.2.2.2.2.2.2.1))
  subst hca
  generalize hH1e : H.push ({ cls := g.2.2.2 ti, slots := Array.replicate v.toNatClampNeg .null, vm := .none } : Cell) = H1
  have z1 : H1.size = B + (es0 ++ X).length + 1 := by rw [← hH1e, Array.size_push, hH.1]
  have e1 : H1[B + (es0 ++ X).length]? = some (arrV (g.2.2.2 ti) v.toNatClampNeg (fun _ => .null)) := by rw [← hH1e, ← hH.1, Array.getElem?_push_size, ← arrV_new]
  have o1 : ∀ q : Nat, q < B + (es0 ++ X).length → H1[q]? = H[q]? := fun q hq => by rw [← hH1e, Array.getElem?_push, if_neg (by rw [hH.1]; omega)]
  have hat : va_at g.2.2.1 classes (B + (es0 ++ X).length, .inl (g.2.2.2 ti, v.toNatClampNeg, .inr (.inr (.inr (.inr (fun _ => none)))))) H1 := e1
  have hHH := cHp_push hH z1 o1 hat
  rw [List.append_assoc, hX] at hHH
  have hs1 : va_S (cA B) Z.2.2.1.heap H1 locs := ⟨by have := hs.1; have := hH.1; omega, fun q q1 q2 => (o1 q (by have := hs.1; have := hH.1; omega)).trans (hs.2.1 q q1 q2), hs.2.2⟩
  have k0 := kk F (by have e0 := hHH.1; rw [z1] at e0; omega) H1 locs ls hHH hs1 hls
  rw [← hd.2, ← List.length_append, ← hH.1] at k0
  exact k0
/-- behind a store no cell came -/
theorem c_size {B k : Nat} {es : List va_E} {D : va_G} {H1 : Heap} {x x0 : va_E} (hu : H1.size ≤ B + es.length) (hx : (cw B es)[k]? = some (B + k, x0)) (hP : va_P D classes ((cw B es).set k (B + k, x)) H1) : H1.size = B + es.length := by
  rw [cw_set] at hP
  have hl : k < es.length := by
    have := (List.getElem?_eq_some_iff.mp hx).1
    rw [cw_len] at this
    exact this
  have h0 : es.length - 1 < (es.set k x).length := by rw [List.length_set]; omega
  have h1 : (cw B (es.set k x))[es.length - 1]? = some (B + (es.length - 1), (es.set k x)[es.length - 1]) := by
    rw [cw_get, List.getElem?_eq_getElem h0]
    rfl
  have := (hP _ _ h1).lt
  simp only at this
  omega
theorem app_set {es0 X : List va_E} {i : Nat} {x : va_E} : (es0 ++ X).set (es0.length + i) x = es0 ++ X.set i x := by
  rw [List.set_append_right _ _ (by omega), Nat.add_sub_cancel_left]
theorem app_get {es0 X : List va_E} {i : Nat} : (es0 ++ X)[es0.length + i]? = X[i]? := by
  rw [List.getElem?_append_right (by omega), Nat.add_sub_cancel_left]
theorem c_put {idx ci j i : Nat} {own : String} {v : Value} {fs : List Value} {es0 X X' : List va_E} (hd : xd y.2.1 pc (.putfield idx) 3 pc') (ho : y.1.cls = own) (fl : FL own idx ci j false) (he : X[i]? = some (.inr (ci, fs))) (ty : FieldType) (hf : ∀ (C : String) (T : u_T) (N : Nat), classes[ci]? = some (C, T, N) → parseFieldDescriptor (T j).2.2.1 = some ty ∧ ((T j).2.2.2 = true → C = own ∧ y.1.name = "<init>")) (hnv : narrow ty v = v) (hfit : fits ty v = true) (hj : j < fs.length) (hX : X.set i (.inr (ci, fs.set j v)) = X') (kk : Cx g B y mc ms es' Z cells slots pc' L S (es0 ++ X')) : Cx g B y mc ms es' Z cells slots pc L (v :: .ref (B + (es0.length + i)) :: S) (es0 ++ X) := by
  intro F hz H locs ls hH hs hls
  obtain ⟨C, T, N, ty0, f1, f2, f3, f4, f5, f6, f7, f8, f9, f10⟩ := fl
  obtain ⟨g1, g2⟩ := hf C T N f1
  have hts := F.2.2.2.2.2.2.1
  have hw : ∀ {w : Cond}, w ∈ gw → w.before Z.2.2.2.2.1 Z.2.2.1 = true := fun h => hts _ (List.mem_cons_of_mem _ h)
  have hx : (cw B (es0 ++ X))[es0.length + i]? = some (B + (es0.length + i), .inr (ci, fs)) := by rw [cw_get, app_get, he]; rfl
  have fin : ∀ (H1 : Heap) (locs1 : List Loc), va_P g.2.2.1 classes ((cw B (es0 ++ X)).set (es0.length + i) (B + (es0.length + i), .inr (ci, fs.set j v))) H1 → va_S (cA B) Z.2.2.1.heap H1 locs1 → W Z.1 g.1 Z.2.1 (cRm y.2.2.2.2 mc ms) Z.2.2.1 Z.2.2.2.1 Z.2.2.2.2.1 Z.2.2.2.2.2.1 Z.2.2.2.2.2.2.1 Z.2.2.2.2.2.2.2 H1 locs1 cells slots (MQ Z.2.2.2.2.2.1 (cQ g B es') Z.2.2.2.2.1 Z.2.2.1 mc ms (cA B)) (F0 Z.2.2.2.1 (pc + 3) ls S) := fun H1 locs1 hP hS1 => by
    intro T9 hT X9
    have h1 := cHp_set (c_size (by rw [← hT, ← hz]; exact X9.same.2.2.1) hx hP) hP
    rw [app_set, hX] at h1
    have k0 := kk F (by have e0 := h1.1; rw [← hX, List.length_append, List.length_set, ← List.length_append]; exact hz) H1 locs1 ls h1 hS1 hls
    rw [← hd.2] at k0
    exact k0 T9 hT X9
  by_cases hq : (T j).2.2.2 = true
  · refine va_putF (A := cA B) (H0 := Z.2.2.1.heap) (D := g.2.2.1) (T := T) (C := C) (N := N) F.1 F.2.1 (own := own) (ref := C) hts (fun w hw => List.mem_cons_of_mem _ (f5 w hw)) ty0 f8 f9 (by rw [← ho]; exact F.2.2.2.2.2.1) F.2.2.2.2.2.2.2.1 hH.2 cw_D hs _ hx f1 j f2 (hw f6) (fun x hx => by rw [f7] at hx; exact hx) hq (by rw [F.2.2.2.2.2.2.2.2.2.1, (g2 hq).2]) (by rw [f7]; exact (g2 hq).1) g1 hnv hfit hj hd.1 (fun H1 locs1 hP hD1 hS1 => ?_)
    exact fin H1 locs1 hP hS1
  · refine va_put (A := cA B) (H0 := Z.2.2.1.heap) (D := g.2.2.1) (T := T) (C := C) (N := N) F.1 F.2.1 (own := own) (ref := C) hts (fun w hw => List.mem_cons_of_mem _ (f5 w hw)) ty0 f8 f9 (by rw [← ho]; exact F.2.2.2.2.2.1) F.2.2.2.2.2.2.2.1 hH.2 cw_D hs _ hx f1 j f2 (hw f6) (fun x hx => by rw [f7] at hx; exact hx) (by simpa using hq) g1 hnv hfit hj hd.1 (fun H1 locs1 hP hD1 hS1 => ?_)
    exact fin H1 locs1 hP hS1
theorem c_get {idx ci j i : Nat} {own : String} {v : Value} {fs : List Value} {es0 X : List va_E} (hd : xd y.2.1 pc (.getfield idx) 3 pc') (ho : y.1.cls = own) (fl : FL own idx ci j false) (he : X[i]? = some (.inr (ci, fs))) (hv : fs[j]? = some v) (kk : Cx g B y mc ms es' Z cells slots pc' L (v :: S) (es0 ++ X)) : Cx g B y mc ms es' Z cells slots pc L (.ref (B + (es0.length + i)) :: S) (es0 ++ X) := by
  intro F hz H locs ls hH hs hls
  obtain ⟨C, T, N, ty0, f1, f2, f3, f4, f5, f6, f7, f8, f9, f10⟩ := fl
  have hts := F.2.2.2.2.2.2.1
  have hw : ∀ {w : Cond}, w ∈ gw → w.before Z.2.2.2.2.1 Z.2.2.1 = true := fun h => hts _ (List.mem_cons_of_mem _ h)
  have hx : (cw B (es0 ++ X))[es0.length + i]? = some (B + (es0.length + i), .inr (ci, fs)) := by rw [cw_get, app_get, he]; rfl
  have k0 := kk F hz H locs ls hH hs hls
  rw [← hd.2] at k0
  exact va_get (D := g.2.2.1) (T := T) (C := C) (N := N) F.1 F.2.1 (own := own) (ref := C) hts (fun w hw => List.mem_cons_of_mem _ (f5 w hw)) (by rw [← ho]; exact F.2.2.2.2.2.1) F.2.2.2.2.2.2.2.1 hH.2 _ hx f1 j f2 (hw f6) (fun x hx => by rw [f7] at hx; exact hx) hv hd.1 k0
theorem c_aast {i k ti ci N a : Nat} {v : Int32} {r : vw_C} {vs : List Value} {f : Nat → Option Nat} {es0 X X' : List va_E} (hd : xd y.2.1 pc .aastore 1 pc') (he : X[i]? = some (.inl (g.2.2.2 ti, N, .inr (.inr (.inr (.inr f)))))) (t0 : Nat) (ht : (xTys g)[t0]? = some (g.2.2.2 ti, .object r.1)) (hc : classes[ci]? = some r) (hv : X[k]? = some (.inr (ci, vs))) (hin : vp_in v N) (hX : X.set i (.inl (g.2.2.2 ti, N, .inr (.inr (.inr (.inr (va_up f v.toNatClampNeg (some (B + (es0.length + k)))))))))= X') (ha : a = B + (es0.length + i)) (kk : Cx g B y mc ms es' Z cells slots pc' L S (es0 ++ X')) : Cx g B y mc ms es' Z cells slots pc L (.ref (B + (es0.length + k)) :: .int v :: .ref a :: S) (es0 ++ X) := by
  subst ha
  intro F hz H locs ls hH hs hls
  have hx : (cw B (es0 ++ X))[es0.length + i]? = some (B + (es0.length + i), .inl (g.2.2.2 ti, N, .inr (.inr (.inr (.inr f))))) := by rw [cw_get, app_get, he]; rfl
  have hxv : (cw B (es0 ++ X))[es0.length + k]? = some (B + (es0.length + k), .inr (ci, vs)) := by rw [cw_get, app_get, hv]; rfl
  refine va_astq (A := cA B) (H0 := Z.2.2.1.heap) F.1 F.2.1 F.2.2.2.2.2.2.2.1 hH.2 cw_D hs _ t0 _ ci hx ht hxv hc hin hd.1 (fun H1 locs1 hP hD1 hS1 => ?_)
  intro T9 hT X9
  have h1 := cHp_set (c_size (by rw [← hT, ← hz]; exact X9.same.2.2.1) hx hP) hP
  rw [app_set, hX] at h1
  have k0 := kk F (by rw [← hX, List.length_append, List.length_set, ← List.length_append]; exact hz) H1 locs1 ls h1 hS1 hls
  rw [← hd.2] at k0
  exact k0 T9 hT X9
theorem c_iast {i N a : Nat} {v x : Int32} {f : Nat → Int32} {es0 X X' : List va_E} (hd : xd y.2.1 pc .iastore 1 pc') (he : X[i]? = some (.inl (g.2.2.2 20, N, .inl f))) (hin : vp_in v N) (hX : X.set i (.inl (g.2.2.2 20, N, .inl (upd f v.toNatClampNeg x))) = X') (ha : a = B + (es0.length + i)) (kk : Cx g B y mc ms es' Z cells slots pc' L S (es0 ++ X')) : Cx g B y mc ms es' Z cells slots pc L (.int x :: .int v :: .ref a :: S) (es0 ++ X) := by
  subst ha
  intro F hz H locs ls hH hs hls
  have hx : (cw B (es0 ++ X))[es0.length + i]? = some (B + (es0.length + i), .inl (g.2.2.2 20, N, .inl f)) := by rw [cw_get, app_get, he]; rfl
  refine va_iast (A := cA B) (H0 := Z.2.2.1.heap) F.1 F.2.1 F.2.2.2.2.2.2.2.1 hH.2 cw_D hs _ 0 hx rfl hin hd.1 (fun H1 locs1 hP hD1 hS1 => ?_)
  intro T9 hT X9
  have h1 := cHp_set (c_size (by rw [← hT, ← hz]; exact X9.same.2.2.1) hx hP) hP
  rw [app_set, hX] at h1
  have k0 := kk F (by rw [← hX, List.length_append, List.length_set, ← List.length_append]; exact hz) H1 locs1 ls h1 hS1 hls
  rw [← hd.2] at k0
  exact k0 T9 hT X9
theorem c_ret (hd : xd y.2.1 pc .return_ 1 pc') (hc : cells ≤ mc) (hsl : slots ≤ ms) (he : es = es') : Cx g B y mc ms es' Z cells slots pc L [] es := by
  subst he
  intro F hz H locs ls hH hs hls
  refine W.widen (k := mc) (n := ms) hc hsl ?_
  exact W.vret F.1 F.2.1 F.2.2.2.1 (fun t ht hW => ⟨⟨rfl, by rw [ht]; exact hH⟩, hs.F ht⟩) hs.2.2 hd.1 F.2.2.2.2.1
/-- a constructor that a constructor calls -/
def CC (own : String) (idx : Nat) (yc : xM) (n : Nat) : Prop := Cond.initialized yc.1.cls ∈ gw ∧ Cond.code yc.1 yc.2.1 yc.2.2.1 yc.2.2.2.1 ∈ gw ∧ yc.2.2.2.1 = none ∧ yc.1.name = "<init>" ∧ Cond.instanceMethod yc.1 ∈ gw ∧ (Cond.methodLink own idx yc.1 ∈ gw ∨ (own, idx, yc.1) ∈ nsL) ∧ yc.2.2.1 ≤ 21 ∧ (yc.1.cls ≠ "java/lang/invoke/MethodHandle" ∧ yc.1.cls ≠ "java/lang/invoke/VarHandle" ∧ (parseMethodDescriptor yc.1.desc).map (fun d => d.parameters.length) = some n)
theorem c_init {idx n mc2 ms2 k a : Nat} {own : String} {yc : xM} {As S0 : List Value} {d0 : va_E} {F2 : Nat → List va_E} {es0 X X1 X2 : List va_E} (hd : xd y.2.1 pc (.invokespecial idx) 3 pc') (ho : y.1.cls = own) (hc : CC own idx yc n) (hdep : yc.2.2.2.2 + 1 ≤ y.2.2.2.2) (hn : As.length = n) (hX1 : X1 = X ++ [d0]) (hk : X.length = k) (ha : a = B + (es0.length + k)) (hst : S0 = As.reverse ++ .ref a :: S) (h8 : (S.map (fun v => v.category)).sum ≤ 8) (hcl : cells + mc2 ≤ mc) (hsl : slots + ms2 ≤ ms)
    (hM : ∀ es : List va_E, Mc g B yc (.ref (B + es.length) :: As) (es ++ [d0]) (es ++ F2 es.length) mc2 ms2) (hF2 : ∀ i, (F2 i).length = mc2 + 1) (hX2 : X ++ F2 (es0.length + k) = X2) (kk : Cx g B y mc ms es' Z (cells + mc2) (slots + ms2) pc' L S (es0 ++ X2)) : Cx g B y mc ms es' Z cells slots pc L S0 (es0 ++ X1) := by
  subst hst hX1 ha hk
  intro F hz H locs ls hH hs hls
  have hM := hM (es0 ++ X)
  rw [List.append_assoc, List.length_append] at hM
  obtain ⟨c1, c2, c3, c4, c5, c6, c7, c8⟩ := hc
  have hts := F.2.2.2.2.2.2.1
  have hw : ∀ {w : Cond}, w ∈ gw → w.before Z.2.2.2.2.1 Z.2.2.1 = true := fun h => hts _ (List.mem_cons_of_mem _ h)
  have hr : va_Run Z.1 g.1 Z.2.1 (cRm y.2.2.2.2 mc ms) Z.2.2.1 Z.2.2.2.1 Z.2.2.2.2.1 Z.2.2.2.2.2.1 Z.2.2.2.2.2.2.1 Z.2.2.2.2.2.2.2 H locs cells slots mc2 ms2 (F0 Z.2.2.2.1 pc ls (As.reverse ++ .ref (B + (es0.length + X.length)) :: S)) S (cQ g B (es0 ++ X ++ F2 (es0.length + X.length)) (Value.ref (B + (es0.length + X.length)) :: As).toArray) (cA B) := by
    rcases c6 with c6 | c6
    · have cb := callB_of (ret := yc.2.2.2.1) (own := own) (index := idx) (R := cRm y.2.2.2.2 mc ms) (rm := cRm yc.2.2.2.2 mc2 ms2) (mc := mc2) (ms := ms2) n hts (gw_goodIn (y := y) c2) rfl rfl rfl (hw c1) (hw c6) c8 ⟨hdep, by show 8 + (yc.2.2.1 + 11) + 40 * yc.2.2.2.2 ≤ 40 * y.2.2.2.2; omega⟩
      rw [c3] at cb
      exact va_runI (e := Z.2.1) (below := Z.2.2.2.2.2.1) (meth := Z.2.2.2.2.2.2.1) (locs := locs) (cells := cells) (slots := slots) (As := As) (rest := S) (g := F0 Z.2.2.2.1 pc ls (As.reverse ++ .ref (B + (es0.length + X.length)) :: S)) ⟨F.1, F.2.1, F.2.2.1, (by rw [← ho]; exact F.2.2.2.2.2.1), hts⟩ hM ⟨cb, c4, hw c5⟩ ⟨cPre_blind, fun U hU hW => ⟨rfl, by rw [hU]; exact hH, xK_moved hW.alike F.2.2.2.2.2.2.2.1, aO_warm hW F.2.2.2.2.2.2.2.2.1⟩⟩ rfl hn hls.1 rfl (by show 2 * 0 + _ ≤ 8; omega) hd.1 ⟨hcl, hsl⟩
    · have cb := va_cnB (ret := yc.2.2.2.1) (own := own) (index := idx) (host := "ShakenBread") (R := cRm y.2.2.2.2 mc ms) (rm := cRm yc.2.2.2.2 mc2 ms2) (mc := mc2) (ms := ms2) n hts (gw_goodIn (y := y) c2) rfl rfl rfl (F.2.2.2.2.2.2.2.2.1.2 _ c6) (hw c1) c8 ⟨hdep, by show 8 + (yc.2.2.1 + 11) + 40 * yc.2.2.2.2 ≤ 40 * y.2.2.2.2; omega⟩
      rw [c3] at cb
      exact va_runIN (e := Z.2.1) (below := Z.2.2.2.2.2.1) (meth := Z.2.2.2.2.2.2.1) (locs := locs) (cells := cells) (slots := slots) (As := As) (rest := S) (g := F0 Z.2.2.2.1 pc ls (As.reverse ++ .ref (B + (es0.length + X.length)) :: S)) ⟨F.1, F.2.1, F.2.2.1, (by rw [← ho]; exact F.2.2.2.2.2.1), hts⟩ hM ⟨cb, c4, hw c5⟩ ⟨cPre_blind, fun U hU hW => ⟨rfl, by rw [hU]; exact hH, xK_moved hW.alike F.2.2.2.2.2.2.2.1, aO_warm hW F.2.2.2.2.2.2.2.2.1⟩⟩ rfl hn hls.1 rfl (by show 2 * 0 + _ ≤ 8; omega) hd.1 ⟨hcl, hsl⟩
  intro T hT X9
  obtain ⟨v, st₀, t, T', Lc, h0, X', hLc, e1, e2, ⟨⟨hv, hH2⟩, hz2, hk2⟩, st⟩ := hr T hT X9
  have hv' : v = none := by cases hv; rfl
  subst hv'
  rw [h0] at hz2 hk2
  have hs1 : va_S (cA B) Z.2.2.1.heap T'.heap (locs ++ Lc) := ⟨Nat.le_trans hs.1 (by rw [e1]; exact hz2), fun q h1 h2 => by rw [e1, hk2 q (Nat.lt_of_lt_of_le h1 hs.1) h2]; exact hs.2.1 q h1 h2, fun q hq => by
    rcases List.mem_append.mp hq with h | h
    · exact hs.2.2 q h
    · exact hLc q h⟩
  rw [← e1, List.append_assoc, hX2] at hH2
  have hz3 : Z.2.2.1.heap.size + (cells + mc2) = B + (es0 ++ X2).length := by
    rw [← hX2, List.length_append, List.length_append, hF2]
    rw [List.length_append, List.length_append] at hz
    simp only [List.length_cons, List.length_nil] at hz
    omega
  have k0 := kk F hz3 T'.heap (locs ++ Lc) ls hH2 hs1 hls
  rw [← hd.2] at k0
  obtain ⟨t2, a1, b1⟩ := k0 T' rfl X'
  exact ⟨t2, st t2 a1, b1⟩
/-- a method that a constructor calls: it makes no cell -/
theorem c_vcall {idx n k a ci : Nat} {own : String} {yc : xM} {As S0 : List Value} {fs : List Value} {T : u_T} {N : Nat} {es0 X X2 : List va_E} (hd : xd y.2.1 pc (.invokevirtual idx) 3 pc') (ho : y.1.cls = own) (hc : CV yc n) (hl : Cond.methodLink own idx yc.1 ∈ gw) (hr0 : yc.2.2.2.1 = none) (hcl0 : classes[ci]? = some (yc.1.cls, T, N)) (he : X[k]? = some (.inr (ci, fs))) (hdep : yc.2.2.2.2 + 1 ≤ y.2.2.2.2) (hn : As.length = n) (ha : a = B + (es0.length + k)) (hst : S0 = As.reverse ++ .ref a :: S) (h8 : (S.map (fun v => v.category)).sum ≤ 8) (hcl : cells ≤ mc) (hsl : slots ≤ ms)
    (hM : Mc g B yc (.ref (B + (es0.length + k)) :: As) (es0 ++ X) (es0 ++ X2) 0 0) (hlen : X2.length = X.length) (kk : Cx g B y mc ms es' Z cells slots pc' L S (es0 ++ X2)) : Cx g B y mc ms es' Z cells slots pc L S0 (es0 ++ X) := by
  subst hst ha
  intro F hz H locs ls hH hs hls
  obtain ⟨⟨c1, c2, c7, c8⟩, c5, c9⟩ := hc
  have hts := F.2.2.2.2.2.2.1
  have hw : ∀ {w : Cond}, w ∈ gw → w.before Z.2.2.2.2.1 Z.2.2.1 = true := fun h => hts _ (List.mem_cons_of_mem _ h)
  have cb := callB_of (ret := yc.2.2.2.1) (own := own) (index := idx) (R := cRm y.2.2.2.2 mc ms) (rm := cRm yc.2.2.2.2 0 0) (mc := 0) (ms := 0) n hts (gw_goodIn (y := y) c2) rfl rfl rfl (hw c1) (hw hl) c8 ⟨hdep, by show 8 + (yc.2.2.1 + 11) + 40 * yc.2.2.2.2 ≤ 40 * y.2.2.2.2; omega⟩
  have hx : (cw B (es0 ++ X))[es0.length + k]? = some (B + (es0.length + k), .inr (ci, fs)) := by rw [cw_get, app_get, he]; rfl
  have hr := va_runV (e := Z.2.1) (below := Z.2.2.2.2.2.1) (meth := Z.2.2.2.2.2.2.1) (locs := locs) (cells := cells) (slots := slots) (As := As) (rest := S) (g := F0 Z.2.2.2.1 pc ls (As.reverse ++ .ref (B + (es0.length + k)) :: S)) ⟨F.1, F.2.1, F.2.2.1, (by rw [← ho]; exact F.2.2.2.2.2.1), hts⟩ hM ⟨cb, hw c5, hw c9⟩ ⟨cPre_blind, va_recv F.2.2.2.2.2.2.2.1 hH.2 hcl0 hx, fun U hU hW => ⟨rfl, by rw [hU]; exact hH, xK_moved hW.alike F.2.2.2.2.2.2.2.1, aO_warm hW F.2.2.2.2.2.2.2.2.1⟩⟩ rfl hn hls.1 rfl (by show 2 * 0 + _ ≤ 8; omega) hd.1 ⟨hcl, hsl⟩
  intro T hT X9
  obtain ⟨v, st₀, t, T', Lc, h0, X', hLc, e1, e2, ⟨⟨hv, hH2⟩, hz2, hk2⟩, st⟩ := hr T hT X9
  have hv' : v = none := by cases hv; rfl
  subst hv'
  rw [h0] at hz2 hk2
  have hs1 : va_S (cA B) Z.2.2.1.heap T'.heap (locs ++ Lc) := ⟨Nat.le_trans hs.1 (by rw [e1]; exact hz2), fun q h1 h2 => by rw [e1, hk2 q (Nat.lt_of_lt_of_le h1 hs.1) h2]; exact hs.2.1 q h1 h2, fun q hq => by
    rcases List.mem_append.mp hq with h | h
    · exact hs.2.2 q h
    · exact hLc q h⟩
  rw [← e1] at hH2
  have hz3 : Z.2.2.1.heap.size + cells = B + (es0 ++ X2).length := by
    rw [List.length_append, hlen, ← List.length_append]
    exact hz
  have k0 := kk F hz3 T'.heap (locs ++ Lc) ls hH2 hs1 hls
  rw [← hd.2] at k0
  obtain ⟨t2, a1, b1⟩ := k0 T' rfl X'
  exact ⟨t2, st t2 a1, b1⟩
end CR
