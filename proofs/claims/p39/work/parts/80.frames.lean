/-! frames that make cells: the same rules over a list of objects that are there, with cells and slots counted -/
abbrev aY : Type := xZ × Room × (Nat → Prop) × (State → Prop)
def aws (g : xG) (σ : xS) (D : List Nat) : va_W := D.map (fun k => (g.2.1 k, xcell g σ k))
def aHp (g : xG) (σ : xS) (D : List Nat) (H : Heap) : Prop := va_P g.2.2.1 classes (aws g σ D) H
def aF (g : xG) (y : xM) (Y : aY) : Prop :=
  Y.1.1.tables.exec = Jvm.exec ∧ Y.1.2.2.2.2.2.2.2.code = y.2.1 ∧ Y.1.2.2.2.2.2.2.2.maxLocals = y.2.2.1 ∧ Y.1.2.2.2.2.2.2.1.sig.returnType = y.2.2.2.1 ∧ Y.1.2.2.2.2.2.2.1.locks = false ∧ Y.1.2.2.1.vm.findClass y.1.cls = some Y.1.2.2.2.1.cls ∧
  (∀ w ∈ gw, w.before Y.1.2.2.2.2.1 Y.1.2.2.1 = true) ∧ xK g Y.1.2.2.1 ∧ (∀ q, Y.1.2.2.1.heap.size ≤ q → Y.2.2.1 q) ∧ y.2.2.2.2 ≤ Y.2.1.frames ∧ 40 * y.2.2.2.2 ≤ Y.2.1.locals
def aA (g : xG) (D : List Nat) (cc ss : Nat) (Y : aY) : Prop := (∀ (i j p q : Nat), D[i]? = some p → D[j]? = some q → g.2.1 p = g.2.1 q → i = j) ∧ (∀ k ∈ D, Y.2.2.1 (g.2.1 k)) ∧ cc ≤ Y.2.1.cells ∧ ss ≤ Y.2.1.slots
def Ax (g : xG) (y : xM) (Y : aY) (D : List Nat) (cc ss pc : Nat) (L S : List MV) (σ : xS) : Prop :=
  aF g y Y → aA g D cc ss Y → (∀ v ∈ L, ok v) → (∀ v ∈ S, ok v) → okS σ → ∀ (H : Heap) (locs : List Loc) (ls : Array Slot), aHp g σ D H → va_S Y.2.2.1 Y.1.2.2.1.heap H locs → lv_has ls y.2.2.1 (lvl g 0 L) →
    W Y.1.1 g.1 Y.1.2.1 Y.2.1 Y.1.2.2.1 Y.1.2.2.2.1 Y.1.2.2.2.2.1 Y.1.2.2.2.2.2.1 Y.1.2.2.2.2.2.2.1 Y.1.2.2.2.2.2.2.2 H locs cc ss Y.2.2.2 (F0 Y.1.2.2.2.1 pc ls (S.map (cv g)))
theorem aws_get {g : xG} {σ : xS} {D : List Nat} {i k : Nat} (h : D[i]? = some k) : (aws g σ D)[i]? = some (g.2.1 k, xcell g σ k) := by
  unfold aws
  rw [List.getElem?_map, h]
  rfl
theorem aws_of {g : xG} {σ : xS} {D : List Nat} {i : Nat} {q : Nat × va_E} (h : (aws g σ D)[i]? = some q) : ∃ k, D[i]? = some k ∧ q = (g.2.1 k, xcell g σ k) := by
  unfold aws at h
  rw [List.getElem?_map] at h
  obtain ⟨k, h1, h2⟩ := Option.map_eq_some_iff.mp h
  exact ⟨k, h1, h2.symm⟩
theorem aws_D {g : xG} {σ : xS} {D : List Nat} {cc ss : Nat} {Y : aY} (hA : aA g D cc ss Y) : va_D Y.2.2.1 (aws g σ D) := by
  refine ⟨fun i j p q hp hq e => ?_, fun k q h => ?_⟩
  · obtain ⟨x, h1, rfl⟩ := aws_of hp
    obtain ⟨z, h2, rfl⟩ := aws_of hq
    exact hA.1 i j x z h1 h2 e
  · obtain ⟨x, h1, rfl⟩ := aws_of h
    exact hA.2.1 x (List.mem_of_getElem? h1)
theorem aws_set {g : xG} {σ σ' : xS} {D : List Nat} {cc ss : Nat} {Y : aY} {i k : Nat} {e : va_E} (hA : aA g D cc ss Y) (hk : D[i]? = some k) (he : e = xcell g σ' k) (ho : ∀ j, j ≠ k → σ' j = σ j) : (aws g σ D).set i (g.2.1 k, e) = aws g σ' D := by
  refine List.ext_getElem? (fun j => ?_)
  by_cases hj : j = i
  · subst hj
    rw [List.getElem?_set_self (by unfold aws; rw [List.length_map]; exact (List.getElem?_eq_some_iff.mp hk).1), aws_get hk, he]
  · rw [List.getElem?_set_ne (Ne.symm hj)]
    cases hz : D[j]? with
    | none =>
      unfold aws
      rw [List.getElem?_map, List.getElem?_map, hz]
      rfl
    | some z =>
      rw [aws_get hz, aws_get hz]
      have hzk : z ≠ k := fun e => hj (by subst e; exact hA.1 j i z z hz hk rfl)
      have : xcell g σ z = xcell g σ' z := by
        unfold xcell fvs
        rw [ho z hzk]
      rw [this]
section AXR
variable {g : xG} {y : xM} {Y : aY} {D : List Nat} {cc ss pc pc' : Nat} {L S : List MV} {σ : xS}
theorem a_iconst {n : Int} (hd : xd y.2.1 pc (.iconst n) 1 pc') (h1 : -2147483648 ≤ n ∧ n < 2147483648) (kk : Ax g y Y D cc ss pc' L (vI n :: S) σ) : Ax g y Y D cc ss pc L S σ := by
  intro F hA hL hS hσ H locs ls hH hs hl
  have k := kk F hA hL (xok_cons hS h1) hσ H locs ls hH hs hl
  rw [← hd.2] at k
  exact lv_iconst F.1 F.2.1 hd.1 rfl k
theorem a_bipush {n : Int} (hd : xd y.2.1 pc (.bipush n) 2 pc') (hv : (Int8.ofInt n).toInt32 = Int32.ofInt n) (h1 : -2147483648 ≤ n ∧ n < 2147483648) (kk : Ax g y Y D cc ss pc' L (vI n :: S) σ) : Ax g y Y D cc ss pc L S σ := by
  intro F hA hL hS hσ H locs ls hH hs hl
  have k := kk F hA hL (xok_cons hS h1) hσ H locs ls hH hs hl
  rw [← hd.2] at k
  exact lv_bipush F.1 F.2.1 hd.1 hv k
theorem a_sipush {n : Int} (hd : xd y.2.1 pc (.sipush n) 3 pc') (hv : (Int16.ofInt n).toInt32 = Int32.ofInt n) (h1 : -2147483648 ≤ n ∧ n < 2147483648) (kk : Ax g y Y D cc ss pc' L (vI n :: S) σ) : Ax g y Y D cc ss pc L S σ := by
  intro F hA hL hS hσ H locs ls hH hs hl
  have k := kk F hA hL (xok_cons hS h1) hσ H locs ls hH hs hl
  rw [← hd.2] at k
  exact lv_sipush F.1 F.2.1 hd.1 hv k
theorem a_ldc {own : String} {idx : Nat} {n : Int} (hd : xd y.2.1 pc (.ldc idx) 2 pc') (ho : y.1.cls = own) (hw : Cond.constant own idx (Int32.ofInt n) ∈ gw) (h1 : -2147483648 ≤ n ∧ n < 2147483648) (kk : Ax g y Y D cc ss pc' L (vI n :: S) σ) : Ax g y Y D cc ss pc L S σ := by
  intro F hA hL hS hσ H locs ls hH hs hl
  have k := kk F hA hL (xok_cons hS h1) hσ H locs ls hH hs hl
  rw [← hd.2] at k
  exact lv_ldc F.1 F.2.1 (own := own) (by rw [← ho]; exact F.2.2.2.2.2.1) (F.2.2.2.2.2.2.1 _ hw) hd.1 k
theorem a_iload_n {k : Fin 4} {i : Nat} {v : Int} (hd : xd y.2.1 pc (.iload_n k) 1 pc') (hi : (k : Nat) = i) (hv : L[i]? = some (vI v)) (kk : Ax g y Y D cc ss pc' L (vI v :: S) σ) : Ax g y Y D cc ss pc L S σ := by
  intro F hA hL hS hσ H locs ls hH hs hl
  have k := kk F hA hL (xok_cons hS (xok_at hL hv)) hσ H locs ls hH hs hl
  rw [← hd.2] at k
  exact lv_iload_n F.1 F.2.1 hd.1 hi (lvl_at hl hv rfl) k
theorem a_iload {i : Nat} {v : Int} (hd : xd y.2.1 pc (.iload i) 2 pc') (hv : L[i]? = some (vI v)) (kk : Ax g y Y D cc ss pc' L (vI v :: S) σ) : Ax g y Y D cc ss pc L S σ := by
  intro F hA hL hS hσ H locs ls hH hs hl
  have k := kk F hA hL (xok_cons hS (xok_at hL hv)) hσ H locs ls hH hs hl
  rw [← hd.2] at k
  exact lv_iload F.1 F.2.1 hd.1 (lvl_at hl hv rfl) k
theorem a_aload_n {k : Fin 4} {i : Nat} {v : Nat} (hd : xd y.2.1 pc (.aload_n k) 1 pc') (hi : (k : Nat) = i) (hv : L[i]? = some (vR v)) (kk : Ax g y Y D cc ss pc' L (vR v :: S) σ) : Ax g y Y D cc ss pc L S σ := by
  intro F hA hL hS hσ H locs ls hH hs hl
  have k := kk F hA hL (xok_cons hS (xok_at hL hv)) hσ H locs ls hH hs hl
  rw [← hd.2] at k
  exact lv_aload_n F.1 F.2.1 hd.1 hi (lvl_at hl hv rfl) k
theorem a_aload {i : Nat} {v : Nat} (hd : xd y.2.1 pc (.aload i) 2 pc') (hv : L[i]? = some (vR v)) (kk : Ax g y Y D cc ss pc' L (vR v :: S) σ) : Ax g y Y D cc ss pc L S σ := by
  intro F hA hL hS hσ H locs ls hH hs hl
  have k := kk F hA hL (xok_cons hS (xok_at hL hv)) hσ H locs ls hH hs hl
  rw [← hd.2] at k
  exact lv_aload F.1 F.2.1 hd.1 (lvl_at hl hv rfl) k
theorem a_istore_n {k : Fin 4} {i : Nat} {v : Int} {L' : List MV} (hd : xd y.2.1 pc (.istore_n k) 1 pc') (hi : (k : Nat) = i) (hn : i < y.2.2.1) (hx : xnl L i = true) (hL' : L.set i (vI v) = L') (kk : Ax g y Y D cc ss pc' L' S σ) : Ax g y Y D cc ss pc L (vI v :: S) σ := by
  subst hL'
  intro F hA hL hS hσ H locs ls hH hs hl
  refine lv_istore_n F.1 F.2.1 hd.1 hi hl hn rfl (fun ls' hl' => ?_)
  have k := kk F hA (xok_set hL (xok_hd hS)) (xok_tl hS) hσ H locs ls' hH hs (lvl_set (v := vI v) rfl hl' hx)
  rw [← hd.2] at k
  exact k
theorem a_istore {i : Nat} {v : Int} {L' : List MV} (hd : xd y.2.1 pc (.istore i) 2 pc') (hn : i < y.2.2.1) (hx : xnl L i = true) (hL' : L.set i (vI v) = L') (kk : Ax g y Y D cc ss pc' L' S σ) : Ax g y Y D cc ss pc L (vI v :: S) σ := by
  subst hL'
  intro F hA hL hS hσ H locs ls hH hs hl
  refine lv_istore F.1 F.2.1 hd.1 hl hn rfl (fun ls' hl' => ?_)
  have k := kk F hA (xok_set hL (xok_hd hS)) (xok_tl hS) hσ H locs ls' hH hs (lvl_set (v := vI v) rfl hl' hx)
  rw [← hd.2] at k
  exact k
theorem a_astore_n {k : Fin 4} {i : Nat} {v : Nat} {L' : List MV} (hd : xd y.2.1 pc (.astore_n k) 1 pc') (hi : (k : Nat) = i) (hn : i < y.2.2.1) (hx : xnl L i = true) (hL' : L.set i (vR v) = L') (kk : Ax g y Y D cc ss pc' L' S σ) : Ax g y Y D cc ss pc L (vR v :: S) σ := by
  subst hL'
  intro F hA hL hS hσ H locs ls hH hs hl
  refine lv_astore_n F.1 F.2.1 hd.1 hi hl hn rfl (fun ls' hl' => ?_)
  have k := kk F hA (xok_set hL (xok_hd hS)) (xok_tl hS) hσ H locs ls' hH hs (lvl_set (v := vR v) rfl hl' hx)
  rw [← hd.2] at k
  exact k
theorem a_astore {i : Nat} {v : Nat} {L' : List MV} (hd : xd y.2.1 pc (.astore i) 2 pc') (hn : i < y.2.2.1) (hx : xnl L i = true) (hL' : L.set i (vR v) = L') (kk : Ax g y Y D cc ss pc' L' S σ) : Ax g y Y D cc ss pc L (vR v :: S) σ := by
  subst hL'
  intro F hA hL hS hσ H locs ls hH hs hl
  refine lv_astore F.1 F.2.1 hd.1 hl hn rfl (fun ls' hl' => ?_)
  have k := kk F hA (xok_set hL (xok_hd hS)) (xok_tl hS) hσ H locs ls' hH hs (lvl_set (v := vR v) rfl hl' hx)
  rw [← hd.2] at k
  exact k
theorem a_iinc {i : Nat} {n v v' : Int} {L' : List MV} (hd : xd y.2.1 pc (.iinc i n) 3 pc') (hv : L[i]? = some (vI v)) (hn : i < y.2.2.1) (hx : xnl L i = true) (he : v + n = v') (h1 : -2147483648 ≤ v' ∧ v' < 2147483648) (hL' : L.set i (vI v') = L') (kk : Ax g y Y D cc ss pc' L' S σ) : Ax g y Y D cc ss pc L S σ := by
  subst hL'
  subst he
  intro F hA hL hS hσ H locs ls hH hs hl
  have hm := lvl_mem (g := g) (j := 0) hv rfl
  obtain ⟨k0, hk0⟩ := List.getElem?_of_mem hm
  rw [Nat.zero_add] at hk0
  refine lv_iinc F.1 F.2.1 hd.1 hl hk0 (v := Int32.ofInt (v + n)) (Int32.ofInt_add v n).symm hn rfl (fun ls' hl' => ?_)
  have k := kk F hA (xok_set hL h1) hS hσ H locs ls' hH hs (lvl_set (v := vI (v + n)) rfl hl' hx)
  rw [← hd.2] at k
  exact k
theorem a_iadd {a b v : Int} (hd : xd y.2.1 pc .iadd 1 pc') (he : a + b = v) (h1 : -2147483648 ≤ v ∧ v < 2147483648) (kk : Ax g y Y D cc ss pc' L (vI v :: S) σ) : Ax g y Y D cc ss pc L (vI b :: vI a :: S) σ := by
  subst he
  intro F hA hL hS hσ H locs ls hH hs hl
  have k := kk F hA hL (xok_cons (xok_tl (xok_tl hS)) h1) hσ H locs ls hH hs hl
  rw [← hd.2] at k
  refine lv_iadd F.1 F.2.1 hd.1 ?_
  rw [← Int32.ofInt_add]
  exact k
theorem a_isub {a b v : Int} (hd : xd y.2.1 pc .isub 1 pc') (he : a - b = v) (h1 : -2147483648 ≤ v ∧ v < 2147483648) (kk : Ax g y Y D cc ss pc' L (vI v :: S) σ) : Ax g y Y D cc ss pc L (vI b :: vI a :: S) σ := by
  subst he
  intro F hA hL hS hσ H locs ls hH hs hl
  have k := kk F hA hL (xok_cons (xok_tl (xok_tl hS)) h1) hσ H locs ls hH hs hl
  rw [← hd.2] at k
  refine lv_isub F.1 F.2.1 hd.1 ?_
  rw [← Int32.ofInt_sub]
  exact k
theorem a_imul {a b v : Int} (hd : xd y.2.1 pc .imul 1 pc') (he : a * b = v) (h1 : -2147483648 ≤ v ∧ v < 2147483648) (kk : Ax g y Y D cc ss pc' L (vI v :: S) σ) : Ax g y Y D cc ss pc L (vI b :: vI a :: S) σ := by
  subst he
  intro F hA hL hS hσ H locs ls hH hs hl
  have k := kk F hA hL (xok_cons (xok_tl (xok_tl hS)) h1) hσ H locs ls hH hs hl
  rw [← hd.2] at k
  refine lv_imul F.1 F.2.1 hd.1 ?_
  rw [← Int32.ofInt_mul]
  exact k
theorem a_irem {a b v : Int} (hd : xd y.2.1 pc .irem 1 pc') (h0 : 0 ≤ a ∧ 0 < b) (he : a % b = v) (kk : Ax g y Y D cc ss pc' L (vI v :: S) σ) : Ax g y Y D cc ss pc L (vI b :: vI a :: S) σ := by
  subst he
  intro F hA hL hS hσ H locs ls hH hs hl
  have hb := xok_hd hS
  have ha := xok_hd (xok_tl hS)
  simp only [ok, vI] at ha hb
  have hq : 0 ≤ a / b ∧ a / b ≤ a := ⟨Int.ediv_nonneg h0.1 (by omega), Int.ediv_le_self b h0.1⟩
  have hm : 0 ≤ a % b ∧ a % b < b := ⟨Int.emod_nonneg _ (by omega), Int.emod_lt_of_pos _ h0.2⟩
  have k := kk F hA hL (xok_cons (xok_tl (xok_tl hS)) (show ok (vI (a % b)) from ⟨by omega, by omega⟩)) hσ H locs ls hH hs hl
  rw [← hd.2] at k
  refine lv_irem F.1 F.2.1 hd.1 (fun h => ?_) ?_
  · rw [← i32_0, i32_eq hb (by omega)] at h
    omega
  · have e : Int32.ofInt a / Int32.ofInt b = Int32.ofInt (a / b) := by
      rw [← Int32.toInt_inj, Int32.toInt_div, i32 ha.1 ha.2, i32 hb.1 hb.2, Int.tdiv_eq_ediv_of_nonneg h0.1, Int32.toInt_ofInt]
    have e2 : Int32.ofInt a - Int32.ofInt a / Int32.ofInt b * Int32.ofInt b = Int32.ofInt (a % b) := by
      rw [e, ← Int32.ofInt_mul, ← Int32.ofInt_sub, show a - a / b * b = a % b by rw [Int.emod_def, Int.mul_comm]]
    rw [e2]
    exact k
theorem a_iand {a b v : Int} (hd : xd y.2.1 pc .iand 1 pc') (he : iand a b = v) (kk : Ax g y Y D cc ss pc' L (vI v :: S) σ) : Ax g y Y D cc ss pc L (vI b :: vI a :: S) σ := by
  subst he
  intro F hA hL hS hσ H locs ls hH hs hl
  have k := kk F hA hL (xok_cons (xok_tl (xok_tl hS)) (toInt_ok _)) hσ H locs ls hH hs hl
  rw [← hd.2] at k
  refine lv_iand F.1 F.2.1 hd.1 ?_
  rw [← Int32.ofInt_toInt (Int32.ofInt a &&& Int32.ofInt b)]
  exact k
theorem a_ixor {a b v : Int} (hd : xd y.2.1 pc .ixor 1 pc') (he : ixor a b = v) (kk : Ax g y Y D cc ss pc' L (vI v :: S) σ) : Ax g y Y D cc ss pc L (vI b :: vI a :: S) σ := by
  subst he
  intro F hA hL hS hσ H locs ls hH hs hl
  have k := kk F hA hL (xok_cons (xok_tl (xok_tl hS)) (toInt_ok _)) hσ H locs ls hH hs hl
  rw [← hd.2] at k
  refine lv_ixor F.1 F.2.1 hd.1 ?_
  rw [← Int32.ofInt_toInt (Int32.ofInt a ^^^ Int32.ofInt b)]
  exact k
theorem a_ishl {a b v : Int} (hd : xd y.2.1 pc .ishl 1 pc') (he : ishl a b = v) (kk : Ax g y Y D cc ss pc' L (vI v :: S) σ) : Ax g y Y D cc ss pc L (vI b :: vI a :: S) σ := by
  subst he
  intro F hA hL hS hσ H locs ls hH hs hl
  have k := kk F hA hL (xok_cons (xok_tl (xok_tl hS)) (toInt_ok _)) hσ H locs ls hH hs hl
  rw [← hd.2] at k
  refine lv_ishl F.1 F.2.1 hd.1 ?_
  rw [← Int32.ofInt_toInt (Int32.ofInt a <<< (Int32.ofInt b &&& 31))]
  exact k
theorem a_ishr {a b v : Int} (hd : xd y.2.1 pc .ishr 1 pc') (he : ishr a b = v) (kk : Ax g y Y D cc ss pc' L (vI v :: S) σ) : Ax g y Y D cc ss pc L (vI b :: vI a :: S) σ := by
  subst he
  intro F hA hL hS hσ H locs ls hH hs hl
  have k := kk F hA hL (xok_cons (xok_tl (xok_tl hS)) (toInt_ok _)) hσ H locs ls hH hs hl
  rw [← hd.2] at k
  refine lv_ishr F.1 F.2.1 hd.1 ?_
  rw [← Int32.ofInt_toInt (Int32.ofInt a >>> (Int32.ofInt b &&& 31))]
  exact k
theorem a_icmp_eq {a b off : Int} {tgt : Nat} (hd : xd y.2.1 pc (.if_icmp .eq off) 3 pc') (ht : (pc : Int) + off = (tgt : Int)) (kt : a = b → Ax g y Y D cc ss tgt L S σ) (kf : ¬ a = b → Ax g y Y D cc ss pc' L S σ) : Ax g y Y D cc ss pc L (vI b :: vI a :: S) σ := by
  intro F hA hL hS hσ H locs ls hH hs hl
  have hb := xok_hd hS
  have ha := xok_hd (xok_tl hS)
  simp only [ok, vI] at ha hb
  refine lv_icmp_eq F.1 F.2.1 hd.1 ht (fun h => ?_) (fun h => ?_)
  · rw [i32_eq ha hb] at h
    exact kt (by omega) F hA hL (xok_tl (xok_tl hS)) hσ H locs ls hH hs hl
  · rw [i32_eq ha hb] at h
    have k := kf (by omega) F hA hL (xok_tl (xok_tl hS)) hσ H locs ls hH hs hl
    rw [← hd.2] at k
    exact k
theorem a_if_eq {a off : Int} {tgt : Nat} (hd : xd y.2.1 pc (.ifCond .eq off) 3 pc') (ht : (pc : Int) + off = (tgt : Int)) (kt : a = 0 → Ax g y Y D cc ss tgt L S σ) (kf : ¬ a = 0 → Ax g y Y D cc ss pc' L S σ) : Ax g y Y D cc ss pc L (vI a :: S) σ := by
  intro F hA hL hS hσ H locs ls hH hs hl
  have ha := xok_hd hS
  simp only [ok, vI] at ha
  have h0 : -2147483648 ≤ (0 : Int) ∧ (0 : Int) < 2147483648 := by omega
  refine lv_if_eq F.1 F.2.1 hd.1 ht (fun h => ?_) (fun h => ?_)
  · rw [← i32_0, i32_eq ha h0] at h
    exact kt (by omega) F hA hL (xok_tl hS) hσ H locs ls hH hs hl
  · rw [← i32_0, i32_eq ha h0] at h
    have k := kf (by omega) F hA hL (xok_tl hS) hσ H locs ls hH hs hl
    rw [← hd.2] at k
    exact k
theorem a_icmp_ne {a b off : Int} {tgt : Nat} (hd : xd y.2.1 pc (.if_icmp .ne off) 3 pc') (ht : (pc : Int) + off = (tgt : Int)) (kt : ¬ a = b → Ax g y Y D cc ss tgt L S σ) (kf : a = b → Ax g y Y D cc ss pc' L S σ) : Ax g y Y D cc ss pc L (vI b :: vI a :: S) σ := by
  intro F hA hL hS hσ H locs ls hH hs hl
  have hb := xok_hd hS
  have ha := xok_hd (xok_tl hS)
  simp only [ok, vI] at ha hb
  refine lv_icmp_ne F.1 F.2.1 hd.1 ht (fun h => ?_) (fun h => ?_)
  · rw [i32_eq ha hb] at h
    exact kt (by omega) F hA hL (xok_tl (xok_tl hS)) hσ H locs ls hH hs hl
  · rw [i32_eq ha hb] at h
    have k := kf (by omega) F hA hL (xok_tl (xok_tl hS)) hσ H locs ls hH hs hl
    rw [← hd.2] at k
    exact k
theorem a_if_ne {a off : Int} {tgt : Nat} (hd : xd y.2.1 pc (.ifCond .ne off) 3 pc') (ht : (pc : Int) + off = (tgt : Int)) (kt : ¬ a = 0 → Ax g y Y D cc ss tgt L S σ) (kf : a = 0 → Ax g y Y D cc ss pc' L S σ) : Ax g y Y D cc ss pc L (vI a :: S) σ := by
  intro F hA hL hS hσ H locs ls hH hs hl
  have ha := xok_hd hS
  simp only [ok, vI] at ha
  have h0 : -2147483648 ≤ (0 : Int) ∧ (0 : Int) < 2147483648 := by omega
  refine lv_if_ne F.1 F.2.1 hd.1 ht (fun h => ?_) (fun h => ?_)
  · rw [← i32_0, i32_eq ha h0] at h
    exact kt (by omega) F hA hL (xok_tl hS) hσ H locs ls hH hs hl
  · rw [← i32_0, i32_eq ha h0] at h
    have k := kf (by omega) F hA hL (xok_tl hS) hσ H locs ls hH hs hl
    rw [← hd.2] at k
    exact k
theorem a_icmp_lt {a b off : Int} {tgt : Nat} (hd : xd y.2.1 pc (.if_icmp .lt off) 3 pc') (ht : (pc : Int) + off = (tgt : Int)) (kt : a < b → Ax g y Y D cc ss tgt L S σ) (kf : b ≤ a → Ax g y Y D cc ss pc' L S σ) : Ax g y Y D cc ss pc L (vI b :: vI a :: S) σ := by
  intro F hA hL hS hσ H locs ls hH hs hl
  have hb := xok_hd hS
  have ha := xok_hd (xok_tl hS)
  simp only [ok, vI] at ha hb
  refine lv_icmp_lt F.1 F.2.1 hd.1 ht (fun h => ?_) (fun h => ?_)
  · rw [i32_lt ha hb] at h
    exact kt (by omega) F hA hL (xok_tl (xok_tl hS)) hσ H locs ls hH hs hl
  · rw [i32_lt ha hb] at h
    have k := kf (by omega) F hA hL (xok_tl (xok_tl hS)) hσ H locs ls hH hs hl
    rw [← hd.2] at k
    exact k
theorem a_if_lt {a off : Int} {tgt : Nat} (hd : xd y.2.1 pc (.ifCond .lt off) 3 pc') (ht : (pc : Int) + off = (tgt : Int)) (kt : a < 0 → Ax g y Y D cc ss tgt L S σ) (kf : 0 ≤ a → Ax g y Y D cc ss pc' L S σ) : Ax g y Y D cc ss pc L (vI a :: S) σ := by
  intro F hA hL hS hσ H locs ls hH hs hl
  have ha := xok_hd hS
  simp only [ok, vI] at ha
  have h0 : -2147483648 ≤ (0 : Int) ∧ (0 : Int) < 2147483648 := by omega
  refine lv_if_lt F.1 F.2.1 hd.1 ht (fun h => ?_) (fun h => ?_)
  · rw [← i32_0, i32_lt ha h0] at h
    exact kt (by omega) F hA hL (xok_tl hS) hσ H locs ls hH hs hl
  · rw [← i32_0, i32_lt ha h0] at h
    have k := kf (by omega) F hA hL (xok_tl hS) hσ H locs ls hH hs hl
    rw [← hd.2] at k
    exact k
theorem a_icmp_ge {a b off : Int} {tgt : Nat} (hd : xd y.2.1 pc (.if_icmp .ge off) 3 pc') (ht : (pc : Int) + off = (tgt : Int)) (kt : b ≤ a → Ax g y Y D cc ss tgt L S σ) (kf : a < b → Ax g y Y D cc ss pc' L S σ) : Ax g y Y D cc ss pc L (vI b :: vI a :: S) σ := by
  intro F hA hL hS hσ H locs ls hH hs hl
  have hb := xok_hd hS
  have ha := xok_hd (xok_tl hS)
  simp only [ok, vI] at ha hb
  refine lv_icmp_ge F.1 F.2.1 hd.1 ht (fun h => ?_) (fun h => ?_)
  · rw [i32_le hb ha] at h
    exact kt (by omega) F hA hL (xok_tl (xok_tl hS)) hσ H locs ls hH hs hl
  · rw [i32_le hb ha] at h
    have k := kf (by omega) F hA hL (xok_tl (xok_tl hS)) hσ H locs ls hH hs hl
    rw [← hd.2] at k
    exact k
theorem a_if_ge {a off : Int} {tgt : Nat} (hd : xd y.2.1 pc (.ifCond .ge off) 3 pc') (ht : (pc : Int) + off = (tgt : Int)) (kt : 0 ≤ a → Ax g y Y D cc ss tgt L S σ) (kf : a < 0 → Ax g y Y D cc ss pc' L S σ) : Ax g y Y D cc ss pc L (vI a :: S) σ := by
  intro F hA hL hS hσ H locs ls hH hs hl
  have ha := xok_hd hS
  simp only [ok, vI] at ha
  have h0 : -2147483648 ≤ (0 : Int) ∧ (0 : Int) < 2147483648 := by omega
  refine lv_if_ge F.1 F.2.1 hd.1 ht (fun h => ?_) (fun h => ?_)
  · rw [← i32_0, i32_le h0 ha] at h
    exact kt (by omega) F hA hL (xok_tl hS) hσ H locs ls hH hs hl
  · rw [← i32_0, i32_le h0 ha] at h
    have k := kf (by omega) F hA hL (xok_tl hS) hσ H locs ls hH hs hl
    rw [← hd.2] at k
    exact k
theorem a_icmp_gt {a b off : Int} {tgt : Nat} (hd : xd y.2.1 pc (.if_icmp .gt off) 3 pc') (ht : (pc : Int) + off = (tgt : Int)) (kt : b < a → Ax g y Y D cc ss tgt L S σ) (kf : a ≤ b → Ax g y Y D cc ss pc' L S σ) : Ax g y Y D cc ss pc L (vI b :: vI a :: S) σ := by
  intro F hA hL hS hσ H locs ls hH hs hl
  have hb := xok_hd hS
  have ha := xok_hd (xok_tl hS)
  simp only [ok, vI] at ha hb
  refine lv_icmp_gt F.1 F.2.1 hd.1 ht (fun h => ?_) (fun h => ?_)
  · rw [i32_lt hb ha] at h
    exact kt (by omega) F hA hL (xok_tl (xok_tl hS)) hσ H locs ls hH hs hl
  · rw [i32_lt hb ha] at h
    have k := kf (by omega) F hA hL (xok_tl (xok_tl hS)) hσ H locs ls hH hs hl
    rw [← hd.2] at k
    exact k
theorem a_if_gt {a off : Int} {tgt : Nat} (hd : xd y.2.1 pc (.ifCond .gt off) 3 pc') (ht : (pc : Int) + off = (tgt : Int)) (kt : 0 < a → Ax g y Y D cc ss tgt L S σ) (kf : a ≤ 0 → Ax g y Y D cc ss pc' L S σ) : Ax g y Y D cc ss pc L (vI a :: S) σ := by
  intro F hA hL hS hσ H locs ls hH hs hl
  have ha := xok_hd hS
  simp only [ok, vI] at ha
  have h0 : -2147483648 ≤ (0 : Int) ∧ (0 : Int) < 2147483648 := by omega
  refine lv_if_gt F.1 F.2.1 hd.1 ht (fun h => ?_) (fun h => ?_)
  · rw [← i32_0, i32_lt h0 ha] at h
    exact kt (by omega) F hA hL (xok_tl hS) hσ H locs ls hH hs hl
  · rw [← i32_0, i32_lt h0 ha] at h
    have k := kf (by omega) F hA hL (xok_tl hS) hσ H locs ls hH hs hl
    rw [← hd.2] at k
    exact k
theorem a_icmp_le {a b off : Int} {tgt : Nat} (hd : xd y.2.1 pc (.if_icmp .le off) 3 pc') (ht : (pc : Int) + off = (tgt : Int)) (kt : a ≤ b → Ax g y Y D cc ss tgt L S σ) (kf : b < a → Ax g y Y D cc ss pc' L S σ) : Ax g y Y D cc ss pc L (vI b :: vI a :: S) σ := by
  intro F hA hL hS hσ H locs ls hH hs hl
  have hb := xok_hd hS
  have ha := xok_hd (xok_tl hS)
  simp only [ok, vI] at ha hb
  refine lv_icmp_le F.1 F.2.1 hd.1 ht (fun h => ?_) (fun h => ?_)
  · rw [i32_le ha hb] at h
    exact kt (by omega) F hA hL (xok_tl (xok_tl hS)) hσ H locs ls hH hs hl
  · rw [i32_le ha hb] at h
    have k := kf (by omega) F hA hL (xok_tl (xok_tl hS)) hσ H locs ls hH hs hl
    rw [← hd.2] at k
    exact k
theorem a_if_le {a off : Int} {tgt : Nat} (hd : xd y.2.1 pc (.ifCond .le off) 3 pc') (ht : (pc : Int) + off = (tgt : Int)) (kt : a ≤ 0 → Ax g y Y D cc ss tgt L S σ) (kf : 0 < a → Ax g y Y D cc ss pc' L S σ) : Ax g y Y D cc ss pc L (vI a :: S) σ := by
  intro F hA hL hS hσ H locs ls hH hs hl
  have ha := xok_hd hS
  simp only [ok, vI] at ha
  have h0 : -2147483648 ≤ (0 : Int) ∧ (0 : Int) < 2147483648 := by omega
  refine lv_if_le F.1 F.2.1 hd.1 ht (fun h => ?_) (fun h => ?_)
  · rw [← i32_0, i32_le ha h0] at h
    exact kt (by omega) F hA hL (xok_tl hS) hσ H locs ls hH hs hl
  · rw [← i32_0, i32_le ha h0] at h
    have k := kf (by omega) F hA hL (xok_tl hS) hσ H locs ls hH hs hl
    rw [← hd.2] at k
    exact k
theorem a_goto {off : Int} {tgt : Nat} (hd : xd y.2.1 pc (.goto off) 3 pc') (ht : (pc : Int) + off = (tgt : Int)) (kk : Ax g y Y D cc ss tgt L S σ) : Ax g y Y D cc ss pc L S σ := by
  intro F hA hL hS hσ H locs ls hH hs hl
  exact lv_goto F.1 F.2.1 hd.1 ht (kk F hA hL hS hσ H locs ls hH hs hl)
theorem a_dup2 {v u : MV} (hd : xd y.2.1 pc .dup2 1 pc') (hv : isL v = false) (hu : isL u = false) (kk : Ax g y Y D cc ss pc' L (v :: u :: v :: u :: S) σ) : Ax g y Y D cc ss pc L (v :: u :: S) σ := by
  intro F hA hL hS hσ H locs ls hH hs hl
  have k := kk F hA hL (xok_cons (xok_cons hS (xok_hd (xok_tl hS))) (xok_hd hS)) hσ H locs ls hH hs hl
  rw [← hd.2] at k
  refine lv_dup2_11 F.1 F.2.1 hd.1 ?_ ?_ k
  · rcases lv_cat (cv g v) with h | h
    · exact h
    · rw [cv_cat h] at hv; cases hv
  · rcases lv_cat (cv g u) with h | h
    · exact h
    · rw [cv_cat h] at hu; cases hu
theorem a_weak {L' : List MV} (h : ∀ (i : Nat) (v : MV), L'[i]? = some v → isU v = false → L[i]? = some v) (hu : ∀ v ∈ L', ok v ∨ isU v = true) (kk : Ax g y Y D cc ss pc L' S σ) : Ax g y Y D cc ss pc L S σ := by
  intro F hA hL hS hσ H locs ls hH hs hl
  refine kk F hA ?_ hS hσ H locs ls hH hs ⟨hl.1, hl.2.1, fun q hq => ?_⟩
  · intro v hv
    obtain ⟨i, hi⟩ := List.getElem?_of_mem hv
    by_cases hx : isU v = true
    · rcases v with x | k | x | b
      · trivial
      · trivial
      · cases hx
      · trivial
    · exact xok_at hL (h i v hi (by simpa using hx))
  · obtain ⟨i, v, h1, h2, h3⟩ := lvl_of hq
    rw [Nat.zero_add] at h1
    subst h1
    exact lvl_at hl (h i v h2 h3) h3
theorem a_iaddw {a b : Int} (hd : xd y.2.1 pc .iadd 1 pc') (kk : Ax g y Y D cc ss pc' L (vI (wr (a + b)) :: S) σ) : Ax g y Y D cc ss pc L (vI b :: vI a :: S) σ := by
  intro F hA hL hS hσ H locs ls hH hs hl
  have k := kk F hA hL (xok_cons (xok_tl (xok_tl hS)) (wr_ok _)) hσ H locs ls hH hs hl
  rw [← hd.2] at k
  refine lv_iadd F.1 F.2.1 hd.1 ?_
  rw [← Int32.ofInt_add, ← wr_of]
  exact k
theorem a_imulw {a b : Int} (hd : xd y.2.1 pc .imul 1 pc') (kk : Ax g y Y D cc ss pc' L (vI (wr (a * b)) :: S) σ) : Ax g y Y D cc ss pc L (vI b :: vI a :: S) σ := by
  intro F hA hL hS hσ H locs ls hH hs hl
  have k := kk F hA hL (xok_cons (xok_tl (xok_tl hS)) (wr_ok _)) hσ H locs ls hH hs hl
  rw [← hd.2] at k
  refine lv_imul F.1 F.2.1 hd.1 ?_
  rw [← Int32.ofInt_mul, ← wr_of]
  exact k
theorem a_mmin {own : String} {idx : Nat} {a b : Int} (hd : xd y.2.1 pc (.invokestatic idx) 3 pc') (ho : y.1.cls = own) (hl : Cond.methodLink own idx y_Ma_min.1 ∈ gw) (h1d : 1 ≤ y.2.2.2.2) (h8 : ((S.map (cv g)).map (fun v => v.category)).sum ≤ 8) (kk : ∀ v : Int, v ≤ a → v ≤ b → (v = a ∨ v = b) → Ax g y Y D cc ss pc' L (vI v :: S) σ) : Ax g y Y D cc ss pc L (vI b :: vI a :: S) σ := by
  intro F hA hL hS hσ H locs ls hH hs hll
  have hb := xok_hd hS
  have ha := xok_hd (xok_tl hS)
  simp only [ok, vI] at ha hb
  have hts := F.2.2.2.2.2.2.1
  obtain ⟨⟨c1, c2, -, -⟩, c5⟩ := c_Ma_min
  have ec : Lib.Math.min.code = y_Ma_min.2.1 := by rfl
  refine va_mmin (rest := S.map (cv g)) F.1 F.2.1 (by rw [F.2.2.1, hll.1]) (own := own) (by rw [← ho]; exact F.2.2.2.2.2.1) (hts _ hl) (hts _ c5) (hts _ c1) (by rw [ec]; exact hts _ c2) (by have := F.2.2.2.2.2.2.2.2.2.1; omega) (by have := F.2.2.2.2.2.2.2.2.2.2; show _ ≤ Y.2.1.locals; omega) hA.2.2.1 hA.2.2.2 hd.1 ?_
  by_cases h : b < a
  · rw [if_pos ((i32_lt hb ha).mpr h)]
    have k := kk b (by omega) (by omega) (Or.inr rfl) F hA hL (xok_cons (xok_tl (xok_tl hS)) hb) hσ H locs ls hH hs hll
    rw [← hd.2] at k
    exact k
  · rw [if_neg (fun q => h ((i32_lt hb ha).mp q))]
    have k := kk a (by omega) (by omega) (Or.inl rfl) F hA hL (xok_cons (xok_tl (xok_tl hS)) ha) hσ H locs ls hH hs hll
    rw [← hd.2] at k
    exact k
theorem a_mmax {own : String} {idx : Nat} {a b : Int} (hd : xd y.2.1 pc (.invokestatic idx) 3 pc') (ho : y.1.cls = own) (hl : Cond.methodLink own idx y_Ma_max.1 ∈ gw) (h1d : 1 ≤ y.2.2.2.2) (h8 : ((S.map (cv g)).map (fun v => v.category)).sum ≤ 8) (kk : ∀ v : Int, a ≤ v → b ≤ v → (v = a ∨ v = b) → Ax g y Y D cc ss pc' L (vI v :: S) σ) : Ax g y Y D cc ss pc L (vI b :: vI a :: S) σ := by
  intro F hA hL hS hσ H locs ls hH hs hll
  have hb := xok_hd hS
  have ha := xok_hd (xok_tl hS)
  simp only [ok, vI] at ha hb
  have hts := F.2.2.2.2.2.2.1
  obtain ⟨⟨c1, c2, -, -⟩, c5⟩ := c_Ma_max
  have ec : Lib.Math.max.code = y_Ma_max.2.1 := by rfl
  refine va_mmax (rest := S.map (cv g)) F.1 F.2.1 (by rw [F.2.2.1, hll.1]) (own := own) (by rw [← ho]; exact F.2.2.2.2.2.1) (hts _ hl) (hts _ c5) (hts _ c1) (by rw [ec]; exact hts _ c2) (by have := F.2.2.2.2.2.2.2.2.2.1; omega) (by have := F.2.2.2.2.2.2.2.2.2.2; show _ ≤ Y.2.1.locals; omega) hA.2.2.1 hA.2.2.2 hd.1 ?_
  by_cases h : a < b
  · rw [if_pos ((i32_lt ha hb).mpr h)]
    have k := kk b (by omega) (by omega) (Or.inr rfl) F hA hL (xok_cons (xok_tl (xok_tl hS)) hb) hσ H locs ls hH hs hll
    rw [← hd.2] at k
    exact k
  · rw [if_neg (fun q => h ((i32_lt ha hb).mp q))]
    have k := kk a (by omega) (by omega) (Or.inl rfl) F hA hL (xok_cons (xok_tl (xok_tl hS)) ha) hσ H locs ls hH hs hll
    rw [← hd.2] at k
    exact k
theorem a_eq {σ' : xS} (h : σ = σ') (kk : Ax g y Y D cc ss pc L S σ') : Ax g y Y D cc ss pc L S σ := h ▸ kk
theorem a_okS (kk : okS σ → Ax g y Y D cc ss pc L S σ) : Ax g y Y D cc ss pc L S σ := fun F hA hL hS hσ => kk hσ F hA hL hS hσ
/-- an int array of n cells that is there -/
def aI (D : List Nat) (k n : Nat) : Prop := k ∈ D ∧ kd k = 20 ∧ ln k = n ∧ n ≤ 100000
theorem a_iald {k n : Nat} {i v : Int} (hd : xd y.2.1 pc .iaload 1 pc') (hk : aI D k n) (h0 : 0 ≤ i) (h1 : i < (n : Int)) (hv : σ k i = v) (kk : Ax g y Y D cc ss pc' L (vI v :: S) σ) : Ax g y Y D cc ss pc L (vI i :: vR k :: S) σ := by
  subst hv
  obtain ⟨k3, k1, k2, k4⟩ := hk
  intro F hA hL hS hσ H locs ls hH hs hl
  have k0 := kk F hA hL (xok_cons (xok_tl (xok_tl hS)) (hσ k i).1) hσ H locs ls hH hs hl
  rw [← hd.2] at k0
  obtain ⟨q0, hq⟩ := List.getElem?_of_mem k3
  have hx := aws_get (g := g) (σ := σ) hq
  rw [xcell_i (by omega) k2, k1] at hx
  refine va_iald F.1 F.2.1 F.2.2.2.2.2.2.2.1 hH q0 0 hx rfl (i32_in h0 h1 (ilt i h1 k4)) hd.1 ?_
  rw [i32_cl h0 (ilt i h1 k4), nat_of h0]
  exact k0
theorem a_iast {k n : Nat} {i x : Int} (hd : xd y.2.1 pc .iastore 1 pc') (hk : aI D k n) (h0 : 0 ≤ i) (h1 : i < (n : Int)) (kk : Ax g y Y D cc ss pc' L S (up σ k i x)) : Ax g y Y D cc ss pc L (vI x :: vI i :: vR k :: S) σ := by
  obtain ⟨k3, k1, k2, k4⟩ := hk
  intro F hA hL hS hσ H locs ls hH hs hl
  have hx9 := xok_hd hS
  simp only [ok, vI] at hx9
  obtain ⟨q0, hq⟩ := List.getElem?_of_mem k3
  have hx := aws_get (g := g) (σ := σ) hq
  rw [xcell_i (by omega) k2, k1] at hx
  refine va_iast F.1 F.2.1 F.2.2.2.2.2.2.2.1 hH (aws_D hA) hs q0 0 hx rfl (i32_in h0 h1 (ilt i h1 k4)) hd.1 (fun H1 locs1 hP hD hS1 => ?_)
  rw [i32_cl h0 (ilt i h1 k4), upd_up h0] at hP
  have e := aws_set (g := g) (σ := σ) (σ' := up σ k i x) (e := .inl (g.2.2.2 20, n, .inl (fun j : Nat => Int32.ofInt (up σ k i x k j)))) hA hq (by rw [xcell_i (by omega) k2, k1]) (fun i hi => up_ne hi)
  rw [e] at hP
  have k0 := kk F hA hL (xok_tl (xok_tl (xok_tl hS))) (okS_up hσ (show okv k i x from ⟨hx9, fun h => by omega, fun h => by omega, fun h _ => by omega⟩)) H1 locs1 ls hP hS1 hl
  rw [← hd.2] at k0
  exact k0
theorem a_alen {k n : Nat} (hd : xd y.2.1 pc .arraylength 1 pc') (hk : aI D k n) (kk : Ax g y Y D cc ss pc' L (vI n :: S) σ) : Ax g y Y D cc ss pc L (vR k :: S) σ := by
  obtain ⟨k3, k1, k2, k4⟩ := hk
  intro F hA hL hS hσ H locs ls hH hs hl
  have k0 := kk F hA hL (xok_cons (xok_tl hS) (show ok (vI n) from ⟨by omega, by omega⟩)) hσ H locs ls hH hs hl
  rw [← hd.2] at k0
  obtain ⟨q0, hq⟩ := List.getElem?_of_mem k3
  have hx := aws_get (g := g) (σ := σ) hq
  rw [xcell_i (by omega) k2, k1] at hx
  have e : Int32.ofNat n = Int32.ofInt (n : Int) := Int32.ofInt_eq_ofNat.symm
  exact va_alen F.1 F.2.1 F.2.2.2.2.2.2.2.1 hH q0 0 hx rfl e hd.1 k0
/-- the script, at the number 500 -/
def aX (g : xG) (Y : aY) (N : Nat) (xs : Nat → Int32) : Prop := N ≤ 260 ∧ va_X (g.2.1 500) N xs Y.1.2.2.1 Y.1.2.2.1.heap ∧ g.2.1 500 < Y.1.2.2.1.heap.size ∧ ¬ Y.2.2.1 (g.2.1 500)
theorem a_sld {N : Nat} {xs : Nat → Int32} {i : Int} (hX : aX g Y N xs) (hd : xd y.2.1 pc .iaload 1 pc') (h0 : 0 ≤ i) (h1 : i < (N : Int)) (kk : Ax g y Y D cc ss pc' L (vI (xs i.toNat).toInt :: S) σ) : Ax g y Y D cc ss pc L (vI i :: vR 500 :: S) σ := by
  intro F hA hL hS hσ H locs ls hH hs hl
  have hN := hX.1
  have k0 := kk F hA hL (xok_cons (xok_tl (xok_tl hS)) (toInt_ok _)) hσ H locs ls hH hs hl
  rw [← hd.2, List.map_cons, show cv g (vI (xs i.toNat).toInt) = .int (xs i.toNat) from congrArg Value.int (Int32.ofInt_toInt _)] at k0
  refine va_sld F.1 F.2.1 hX.2.1 hX.2.2.1 hX.2.2.2 hs (i32_in h0 h1 (by omega)) hd.1 ?_
  rw [i32_cl h0 (by omega)]
  exact k0
theorem a_slen {N : Nat} {xs : Nat → Int32} (hX : aX g Y N xs) (hd : xd y.2.1 pc .arraylength 1 pc') (kk : Ax g y Y D cc ss pc' L (vI (N : Int) :: S) σ) : Ax g y Y D cc ss pc L (vR 500 :: S) σ := by
  intro F hA hL hS hσ H locs ls hH hs hl
  have hN := hX.1
  have k0 := kk F hA hL (xok_cons (xok_tl hS) (show ok (vI (N : Int)) from ⟨by omega, by omega⟩)) hσ H locs ls hH hs hl
  rw [← hd.2] at k0
  have e : Int32.ofNat N = Int32.ofInt (N : Int) := Int32.ofInt_eq_ofNat.symm
  refine va_slen F.1 F.2.1 hX.2.1 hX.2.2.1 hX.2.2.2 hs hd.1 ?_
  have k1 : W Y.1.1 g.1 Y.1.2.1 Y.2.1 Y.1.2.2.1 Y.1.2.2.2.1 Y.1.2.2.2.2.1 Y.1.2.2.2.2.2.1 Y.1.2.2.2.2.2.2.1 Y.1.2.2.2.2.2.2.2 H locs cc ss Y.2.2.2 (F0 Y.1.2.2.2.1 (pc + 1) ls (.int (Int32.ofInt (N : Int)) :: S.map (cv g))) := k0
  rw [← e] at k1
  exact k1
/-- an address given to a number -/
def sg (g : xG) (k r : Nat) : xG := (g.1, fun j => if j = k then r else g.2.1 j, g.2.2)
def nR (k : Nat) : MV → Bool
  | .inr (.inl j) => !(j == k)
  | _ => true
theorem cv_sg {g : xG} {k r : Nat} {v : MV} (h : nR k v = true) : cv (sg g k r) v = cv g v := by
  rcases v with x | j | x | b
  · rfl
  · have hj : j ≠ k := by simpa [nR] using h
    show Value.ref (if j = k then r else g.2.1 j) = Value.ref (g.2.1 j)
    rw [if_neg hj]
  · rfl
  · rfl
theorem lvl_sg {g : xG} {k r : Nat} : ∀ (L : List MV) (i : Nat), L.all (nR k) = true → lvl (sg g k r) i L = lvl g i L
  | [], i, _ => rfl
  | v :: L, i, h => by
    have h2 := Bool.and_eq_true_iff.mp h
    simp only [lvl]
    rw [lvl_sg L (i + 1) h2.2, cv_sg h2.1]
theorem map_sg {g : xG} {k r : Nat} : ∀ (S : List MV), S.all (nR k) = true → S.map (cv (sg g k r)) = S.map (cv g)
  | [], _ => rfl
  | v :: S, h => by
    have h2 := Bool.and_eq_true_iff.mp h
    rw [List.map_cons, List.map_cons, map_sg S h2.2, cv_sg h2.1]
def nw0 (σ : xS) (k : Nat) : xS := fun k' i => if k' = k then 0 else σ k' i
theorem okS_nw0 {σ : xS} (k : Nat) (h : okS σ) : okS (nw0 σ k) := fun k' i => by
  unfold nw0
  split
  · exact ⟨⟨by decide, by decide⟩, fun _ => ⟨by decide, by decide⟩, fun _ => Or.inl rfl, fun _ _ => by decide⟩
  · exact h k' i
/-- a new array of ints, given the number k -/
theorem a_newa {k N : Nat} (hd : xd y.2.1 pc (.newarray .int) 2 pc') (hk : kd k = 20 ∧ ln k = N ∧ N ≤ 1000) (hw : Cond.arrayClass .int ∈ gw) (hD : ∀ j ∈ D, kd j = 20 ∧ j ≠ k) (hL2 : L.all (nR k) = true) (hS2 : S.all (nR k) = true) (hc : cc + 1 ≤ Y.2.1.cells) (hsl : ss + N ≤ Y.2.1.slots)
    (kk : ∀ r : Nat, Y.1.2.2.1.heap.size ≤ r → Ax (sg g k r) y Y (D ++ [k]) (cc + 1) (ss + N) pc' L (vR k :: S) (nw0 σ k)) : Ax g y Y D cc ss pc L (vI (N : Int) :: S) σ := by
  obtain ⟨k1, k2, k3⟩ := hk
  intro F hA hL hS hσ H locs ls hH hs hl
  have hN : (Int32.ofInt (N : Int)).toNatClampNeg = N := by
    rw [i32_cl (by omega) (by omega), Int.toNat_natCast]
  refine va_newaK (atype := .int) F.1 F.2.1 (F.2.2.2.2.2.2.1 _ hw) rfl hd.1 rfl (fun z => by
    have z2 : Int32.ofInt (N : Int) < Int32.ofInt 0 := z
    rw [i32_lt ⟨by omega, by omega⟩ ⟨by decide, by decide⟩] at z2
    omega) hN (by show N * 4 ≤ _; omega) hc hsl rfl (fun H1 cA1 e1 z1 o1 hAr hNm => ?_)
  have hr : Y.1.2.2.1.heap.size ≤ H.size := hs.1
  have hca : cA1 = g.2.2.2 20 := Option.some.inj (hNm.symm.trans (F.2.2.2.2.2.2.2.1.2 0 (g.2.2.2 20, .int) rfl).2)
  subst hca
  have hold : ∀ (i j : Nat), D[i]? = some j → g.2.1 j < H.size := fun i j hj => by
    have h1 := hH i _ (aws_get hj)
    rw [xcell_i (by have := (hD j (List.mem_of_getElem? hj)).1; omega) rfl] at h1
    have h2 : H[g.2.1 j]? = some _ := h1
    exact (Array.getElem?_eq_some_iff.mp h2).1
  have hA2 : aA (sg g k H.size) (D ++ [k]) (cc + 1) (ss + N) Y := by
    have ek : (sg g k H.size).2.1 k = H.size := if_pos rfl
    have ej : ∀ (i j : Nat), D[i]? = some j → (sg g k H.size).2.1 j = g.2.1 j := fun i j hj => if_neg (hD j (List.mem_of_getElem? hj)).2
    have key : ∀ (i p : Nat), (D ++ [k])[i]? = some p → (D[i]? = some p ∧ i < D.length) ∨ (i = D.length ∧ p = k) := fun i p h => by
      by_cases hi : i < D.length
      · rw [List.getElem?_append_left hi] at h
        exact Or.inl ⟨h, hi⟩
      · rw [List.getElem?_append_right (by omega)] at h
        have hz : i - D.length < 1 := (List.getElem?_eq_some_iff.mp h).1
        rw [show i - D.length = 0 by omega] at h
        cases h
        exact Or.inr ⟨by omega, rfl⟩
    refine ⟨fun i j p q hp hq e => ?_, fun p hp => ?_, hc, hsl⟩
    · rcases key i p hp with ⟨h1, h1l⟩ | ⟨h1, rfl⟩
      · rcases key j q hq with ⟨h2, h2l⟩ | ⟨h2, rfl⟩
        · rw [ej i p h1, ej j q h2] at e
          exact hA.1 i j p q h1 h2 e
        · rw [ej i p h1, ek] at e
          have := hold i p h1
          omega
      · rcases key j q hq with ⟨h2, h2l⟩ | ⟨h2, rfl⟩
        · rw [ej j q h2, ek] at e
          have := hold j q h2
          omega
        · omega
    · rcases List.mem_append.mp hp with h | h
      · obtain ⟨i, hi⟩ := List.getElem?_of_mem h
        rw [ej i p hi]
        exact hA.2.1 p h
      · rw [List.mem_singleton.mp h, ek]
        exact F.2.2.2.2.2.2.2.2.1 _ hr
  have hH2 : aHp (sg g k H.size) (nw0 σ k) (D ++ [k]) H1 := by
    refine va_P.app (w1 := aws (sg g k H.size) (nw0 σ k) D) (w2 := [((sg g k H.size).2.1 k, xcell (sg g k H.size) (nw0 σ k) k)]) ?_ ?_ |> fun h => by
      unfold aHp aws
      rw [List.map_append]
      exact h
    · intro i q hq
      obtain ⟨j, hj, rfl⟩ := aws_of hq
      have hd20 := (hD j (List.mem_of_getElem? hj))
      have h1 := hH i _ (aws_get hj)
      have ec : xcell (sg g k H.size) (nw0 σ k) j = xcell g σ j := by
        rw [xcell_i (by omega) rfl, xcell_i (by omega) rfl]
        have : (nw0 σ k) j = σ j := by
          funext x
          unfold nw0
          rw [if_neg hd20.2]
        rw [this]
        rfl
      have ej : (sg g k H.size).2.1 j = g.2.1 j := if_neg hd20.2
      rw [ec, ej]
      exact h1.kept (o1 _ (hold i j hj))
    · intro i q hq
      cases i with
      | succ i => cases hq
      | zero =>
        cases hq
        rw [xcell_i (by omega) k2, k1, show (sg g k H.size).2.1 k = H.size from if_pos rfl]
        have ef : (fun j : Nat => Int32.ofInt (nw0 σ k k (j : Int))) = (fun _ => 0) := by
          funext j
          unfold nw0
          rw [if_pos rfl]
          rfl
        rw [ef]
        show H1[_]? = some (arrV (g.2.2.2 20) N (fun _ => .int 0))
        exact e1
  have hs1 : va_S Y.2.2.1 Y.1.2.2.1.heap H1 locs := ⟨by omega, fun q q1 q2 => (o1 q (by omega)).trans (hs.2.1 q q1 q2), hs.2.2⟩
  have hl1 : lv_has ls y.2.2.1 (lvl (sg g k H.size) 0 L) := by rw [lvl_sg L 0 hL2]; exact hl
  have k0 := kk H.size hr F hA2 hL (xok_cons (xok_tl hS) trivial) (okS_nw0 k hσ) H1 locs ls hH2 hs1 hl1
  rw [← hd.2, List.map_cons, map_sg S hS2, show cv (sg g k H.size) (vR k) = .ref H.size from congrArg Value.ref (if_pos rfl)] at k0
  exact k0
end AXR
