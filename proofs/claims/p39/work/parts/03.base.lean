/-! THE HEAP AS NUMBERS: one world of fixed objects, every int of it a whole number; a method's contract in continuation form (Mt), a frame's (Wx) -/
abbrev xM : Type := MethodName × ByteArray × Nat × Option FieldType × Nat
abbrev xG : Type := Launch × (Nat → Nat) × va_G × (Nat → ClassId)
abbrev xS : Type := Nat → Int → Int
abbrev MV : Type := Int ⊕ Nat ⊕ Int ⊕ Bool
abbrev xZ : Type := Program × Env × State × MethodId × Array Value × List Frame × Method × Code
def vI (x : Int) : MV := .inl x
def vR (k : Nat) : MV := .inr (.inl k)
def vL (x : Int) : MV := .inr (.inr (.inl x))
def vN : MV := .inr (.inr (.inr true))
def vU : MV := .inr (.inr (.inr false))
def cv (g : xG) : MV → Value
  | .inl x => .int (Int32.ofInt x)
  | .inr (.inl k) => .ref (g.2.1 k)
  | .inr (.inr (.inl x)) => .long (Int64.ofInt x)
  | .inr (.inr (.inr _)) => .null
def ok : MV → Prop
  | .inl x => -2147483648 ≤ x ∧ x < 2147483648
  | .inr (.inl _) => True
  | .inr (.inr (.inl x)) => -9223372036854775808 ≤ x ∧ x < 9223372036854775808
  | .inr (.inr (.inr _)) => True
def isU : MV → Bool
  | .inr (.inr (.inr false)) => true
  | _ => false
def isL : MV → Bool
  | .inr (.inr (.inl _)) => true
  | _ => false
/-- writing one number -/
def up (σ : xS) (k : Nat) (i v : Int) : xS := fun k' i' => if k' = k ∧ i' = i then v else σ k' i'
def fvs (g : xG) (σ : xS) (k j : Nat) : Value := match rf k j with
  | 0 => .int (Int32.ofInt (σ k j))
  | 1 => if σ k j < 0 then .null else .ref (g.2.1 (σ k j).toNat)
  | r + 2 => .ref (g.2.1 r)
def xcell (g : xG) (σ : xS) (k : Nat) : va_E :=
  if kd k < 20 then .inr (kd k, (List.range (nf (kd k))).map (fvs g σ k))
  else if kd k < 23 then .inl (g.2.2.2 (kd k), ln k, .inl (fun i => Int32.ofInt (σ k i)))
  else .inl (g.2.2.2 (kd k), ln k, .inr (.inr (.inr (.inr (fun i => some (g.2.1 (rf k i - 2)))))))
def xws (g : xG) (σ : xS) : va_W := (List.range NB).map (fun k => (g.2.1 k, xcell g σ k))
def xHp (g : xG) (σ : xS) (H : Heap) : Prop := va_P g.2.2.1 classes (xws g σ) H
def xTys (g : xG) : List (ClassId × FieldType) := [(g.2.2.2 20, .int), (g.2.2.2 21, .byte), (g.2.2.2 22, .boolean), (g.2.2.2 23, .object "ShakenBread$Town"), (g.2.2.2 24, .object "ShakenBread$Book"), (g.2.2.2 25, .object "ShakenBread$Told")]
def xK (g : xG) (U : State) : Prop := va_K g.2.2.1 classes (xTys g) U
def xA (g : xG) : Nat → Prop := fun q => ∃ k, k < NB ∧ q = g.2.1 k
def xInj (g : xG) : Prop := ∀ i j, i < NB → j < NB → g.2.1 i = g.2.1 j → i = j
def okv (k : Nat) (i x : Int) : Prop := (-2147483648 ≤ x ∧ x < 2147483648) ∧ (kd k = 21 → -128 ≤ x ∧ x < 128) ∧ ((kd k = 22 ∨ kd k = 10 ∧ (i = 8 ∨ i = 39)) → x = 0 ∨ x = 1) ∧ (kd k = 3 → i = 5 → x < 170)
def okS (σ : xS) : Prop := ∀ k i, okv k i (σ k i)
/-- the JDK's own static that checkIndex hands on: null, or a reference -/
def xFm (g : xG) (U : State) (H : Heap) : Prop := va_Z "jdk/internal/util/Preconditions" "SIOOBE_FORMATTER" "Ljava/util/function/BiFunction;" .null (xA g) U H ∨ va_Z "jdk/internal/util/Preconditions" "SIOOBE_FORMATTER" "Ljava/util/function/BiFunction;" (.ref (g.2.1 399)) (xA g) U H
theorem xFm_moved {g : xG} {u U : State} {H H1 : Heap} (hvm : u.vm.Alike U.vm) (hq : ∀ a : Nat, a < H.size → ¬ xA g a → H1[a]? = H[a]?) (h : xFm g u H) : xFm g U H1 := h.elim (fun h => Or.inl (va_Z.kept (va_Z.moved hvm h) hq)) (fun h => Or.inr (va_Z.kept (va_Z.moved hvm h) hq))
/-- the law's rows of words -/
def lgN : List String := ["LAWS", "MANNERS"]
def lgV : List (List Int) := [[1836020325, 439855772532, 1818588019, 1818325876], [482854660462, 123623862531173, 7563385, 113715424159076]]
def xLg (g : xG) (U : State) (H : Heap) : Prop := ∀ i, i < 2 → va_Z "ShakenBreadLaw" (lgN.getD i "") "[J" (.ref (g.2.1 (305 + i))) (xA g) U H ∧ va_T .long (g.2.1 (305 + i)) ((lgV.getD i []).length) (fun j => .long (Int64.ofInt ((lgV.getD i []).getD j 0))) (xA g) U H
theorem xLg_moved {g : xG} {u U : State} {H H1 : Heap} (hvm : u.vm.Alike U.vm) (hq : ∀ a : Nat, a < H.size → ¬ xA g a → H1[a]? = H[a]?) (h : xLg g u H) : xLg g U H1 := fun i hi => ⟨va_Z.kept (va_Z.moved hvm (h i hi).1) hq, va_T.kept (va_T.moved hvm (h i hi).2) hq⟩
def xRO (g : xG) (U : State) (H : Heap) : Prop :=
  (∀ i, i < 5 → va_Z (stC.getD i "") (stN.getD i "") "[I" (.ref (g.2.1 (300 + i))) (xA g) U H ∧ va_T .int (g.2.1 (300 + i)) ((stV.getD i []).length) (fun j => .int (Int32.ofInt ((stV.getD i []).getD j 0))) (xA g) U H) ∧
  (va_Z "java/lang/String" "COMPACT_STRINGS" "Z" (.int 1) (xA g) U H ∧ xFm g U H ∧ xLg g U H) ∧ vk_S 16 srL srB (fun i => g.2.1 (310 + i)) (fun i => g.2.1 (340 + i)) (xA g) U H
def xNs (g : xG) (U : State) : Prop := ∀ i, i < 16 → vk_R "ShakenBread$Reader" (srK.getD i 0) (srT.getD i "") (g.2.1 (310 + i)) U
def xWd (g : xG) (σ : xS) (U : State) : Prop := xHp g σ U.heap ∧ xK g U ∧ xInj g ∧ xRO g U U.heap ∧ xNs g U ∧ okS σ
def xRm (d : Nat) : Room := { frames := d, cells := 0, slots := 0, locals := 40 * d }
def xWs (y : xM) : List Cond := .code y.1 y.2.1 y.2.2.1 y.2.2.2.1 :: gw
def xQ (g : xG) (K : Option MV → xS → Prop) : Array Value → State → Outcome → State → Prop := fun _ st oc t =>
  (∃ (r : Option MV) (σ' : xS), oc = .returned (r.map (cv g)) ∧ (∀ v, r = some v → ok v) ∧ K r σ' ∧ xHp g σ' t.heap ∧ okS σ') ∧ va_F (xA g) st t
/-- a method's contract: from the world σ with the arguments as it returns, with an answer and a world of which K holds -/
def Mt (g : xG) (y : xM) (as : List MV) (σ : xS) (K : Option MV → xS → Prop) : Prop :=
  (∀ v ∈ as, ok v) → Met g.1 y.1 (xWs y) (xRm y.2.2.2.2) (va_Pc (as.map (cv g)) (xWd g σ)) (xQ g K) 0 0 (xA g)
def xF (g : xG) (y : xM) (Z : xZ) : Prop :=
  Z.1.tables.exec = Jvm.exec ∧ Z.2.2.2.2.2.2.2.code = y.2.1 ∧ Z.2.2.2.2.2.2.2.maxLocals = y.2.2.1 ∧ Z.2.2.2.2.2.2.1.sig.returnType = y.2.2.2.1 ∧ Z.2.2.2.2.2.2.1.locks = false ∧ Z.2.2.1.vm.findClass y.1.cls = some Z.2.2.2.1.cls ∧
  (∀ w ∈ xWs y, w.before Z.2.2.2.2.1 Z.2.2.1 = true) ∧ xK g Z.2.2.1 ∧ xInj g ∧ xRO g Z.2.2.1 Z.2.2.1.heap ∧ xNs g Z.2.2.1
def lvl (g : xG) : Nat → List MV → List (Nat × Value)
  | _, [] => []
  | i, v :: t => if isU v then lvl g (i + 1) t else (i, cv g v) :: lvl g (i + 1) t
def Wx (g : xG) (y : xM) (Z : xZ) (K : Option MV → xS → Prop) (pc : Nat) (L S : List MV) (σ : xS) : Prop :=
  xF g y Z → (∀ v ∈ L, ok v) → (∀ v ∈ S, ok v) → okS σ → ∀ (H : Heap) (locs : List Loc) (ls : Array Slot), xHp g σ H → va_S (xA g) Z.2.2.1.heap H locs → lv_has ls y.2.2.1 (lvl g 0 L) →
    W Z.1 g.1 Z.2.1 (xRm y.2.2.2.2) Z.2.2.1 Z.2.2.2.1 Z.2.2.2.2.1 Z.2.2.2.2.2.1 Z.2.2.2.2.2.2.1 Z.2.2.2.2.2.2.2 H locs 0 0 (MQ Z.2.2.2.2.2.1 (xQ g K) Z.2.2.2.2.1 Z.2.2.1 0 0 (xA g)) (F0 Z.2.2.2.1 pc ls (S.map (cv g)))
/-- one instruction's row of decode, with the pc behind it -/
def xd (b : ByteArray) (pc : Nat) (o : Instr) (n pc' : Nat) : Prop := decode b pc = .ok (o, n) ∧ pc + n = pc'
theorem lvl_mem {g : xG} {v : MV} : ∀ {L : List MV} {i j : Nat}, L[i]? = some v → isU v = false → (j + i, cv g v) ∈ lvl g j L
  | [], i, j, h, _ => by simp at h
  | u :: t, 0, j, h, hu => by
    simp only [List.getElem?_cons_zero, Option.some.injEq] at h
    subst h
    simp [lvl, hu]
  | u :: t, i + 1, j, h, hu => by
    simp only [List.getElem?_cons_succ] at h
    have h1 := lvl_mem (g := g) (j := j + 1) h hu
    rw [show j + 1 + i = j + (i + 1) by omega] at h1
    simp only [lvl]
    by_cases hx : isU u = true
    · rw [if_pos hx]; exact h1
    · rw [if_neg hx]; exact List.mem_cons_of_mem _ h1
theorem lvl_of {g : xG} : ∀ {L : List MV} {j : Nat} {q : Nat × Value}, q ∈ lvl g j L → ∃ (i : Nat) (v : MV), q = (j + i, cv g v) ∧ L[i]? = some v ∧ isU v = false
  | [], j, q, h => by simp [lvl] at h
  | u :: t, j, q, h => by
    simp only [lvl] at h
    by_cases hx : isU u = true
    · rw [if_pos hx] at h
      obtain ⟨i, v, h1, h2, h3⟩ := lvl_of h
      exact ⟨i + 1, v, by rw [h1, show j + 1 + i = j + (i + 1) by omega], by simpa using h2, h3⟩
    · rw [if_neg hx] at h
      rcases List.mem_cons.mp h with rfl | h
      · exact ⟨0, u, rfl, rfl, by simpa using hx⟩
      · obtain ⟨i, v, h1, h2, h3⟩ := lvl_of h
        exact ⟨i + 1, v, by rw [h1, show j + 1 + i = j + (i + 1) by omega], by simpa using h2, h3⟩
theorem lvl_at {g : xG} {ls : Array Slot} {n i : Nat} {L : List MV} {v : MV} (h : lv_has ls n (lvl g 0 L)) (hv : L[i]? = some v) (hu : isU v = false) : ls[i]? = some (.val (cv g v)) := by
  have := h.2.2 _ (lvl_mem (g := g) (j := 0) hv hu)
  simpa using this
/-- the place ahead of i holds no long -/
def xnl (L : List MV) (i : Nat) : Bool := match i with
  | 0 => true
  | k + 1 => match L[k]? with
    | some v => !isL v
    | none => true
theorem cv_cat {g : xG} {v : MV} (h : (cv g v).category = 2) : isL v = true := by
  rcases v with x | k | x | b <;> simp [cv, Value.category] at h ⊢ <;> rfl
theorem lvl_set {g : xG} {ls : Array Slot} {n i : Nat} {L : List MV} {v : MV} {w : Value} (hw : w = cv g v) (h : lv_has ls n ((i, w) :: (lvl g 0 L).filter (fun q => !(q.1 == i) && !(q.1 + 1 == i && q.2.category == 2)))) (hl : xnl L i = true) : lv_has ls n (lvl g 0 (L.set i v)) := by
  refine ⟨h.1, h.2.1, fun q hq => ?_⟩
  obtain ⟨j, u, h1, h2, h3⟩ := lvl_of hq
  rw [Nat.zero_add] at h1
  subst h1
  by_cases hji : j = i
  · subst hji
    by_cases hlt : j < L.length
    · rw [List.getElem?_set_self hlt] at h2
      cases h2
      have := h.2.2 (j, w) List.mem_cons_self
      rw [hw] at this
      exact this
    · rw [List.getElem?_eq_none (by rw [List.length_set]; omega)] at h2
      cases h2
  · rw [List.getElem?_set_ne (Ne.symm hji)] at h2
    refine h.2.2 (j, cv g u) (List.mem_cons_of_mem _ (List.mem_filter.mpr ⟨?_, ?_⟩))
    · have := lvl_mem (g := g) (j := 0) h2 h3
      simpa using this
    · simp only [Bool.and_eq_true, Bool.not_eq_true', beq_eq_false_iff_ne, ne_eq, Bool.and_eq_false_iff]
      refine ⟨hji, ?_⟩
      by_cases hc : (cv g u).category = 2
      · left
        intro hi
        have hu := cv_cat hc
        cases i with
        | zero => omega
        | succ k =>
          have : j = k := by omega
          subst this
          simp [xnl, h2, hu] at hl
      · right; exact hc
theorem xok_set {L : List MV} {i : Nat} {v : MV} (h : ∀ u ∈ L, ok u) (hv : ok v) : ∀ u ∈ L.set i v, ok u := fun u hu => by
  rcases List.mem_or_eq_of_mem_set hu with h1 | h1
  · exact h u h1
  · rw [h1]; exact hv
theorem xok_cons {S : List MV} {v : MV} (h : ∀ u ∈ S, ok u) (hv : ok v) : ∀ u ∈ v :: S, ok u := fun u hu => by
  rcases List.mem_cons.mp hu with rfl | hu
  · exact hv
  · exact h u hu
theorem i32 {x : Int} (h1 : -2147483648 ≤ x) (h2 : x < 2147483648) : (Int32.ofInt x).toInt = x := Int32.toInt_ofInt_of_le (by omega) (by omega)
theorem i32_lt {a b : Int} (ha : -2147483648 ≤ a ∧ a < 2147483648) (hb : -2147483648 ≤ b ∧ b < 2147483648) : Int32.ofInt a < Int32.ofInt b ↔ a < b := by
  rw [Int32.lt_iff_toInt_lt, i32 ha.1 ha.2, i32 hb.1 hb.2]
theorem i32_le {a b : Int} (ha : -2147483648 ≤ a ∧ a < 2147483648) (hb : -2147483648 ≤ b ∧ b < 2147483648) : Int32.ofInt a ≤ Int32.ofInt b ↔ a ≤ b := by
  rw [Int32.le_iff_toInt_le, i32 ha.1 ha.2, i32 hb.1 hb.2]
theorem i32_eq {a b : Int} (ha : -2147483648 ≤ a ∧ a < 2147483648) (hb : -2147483648 ≤ b ∧ b < 2147483648) : Int32.ofInt a = Int32.ofInt b ↔ a = b := by
  rw [← Int32.toInt_inj, i32 ha.1 ha.2, i32 hb.1 hb.2]
theorem i32_0 : Int32.ofInt 0 = 0 := rfl
theorem i32_cl {a : Int} (h0 : 0 ≤ a) (h1 : a < 2147483648) : (Int32.ofInt a).toNatClampNeg = a.toNat := by
  show (Int32.ofInt a).toInt.toNat = a.toNat
  rw [i32 (by omega) h1]
theorem i32_in {a : Int} {n : Nat} (h0 : 0 ≤ a) (h1 : a < n) (hn : a < 2147483648) : vp_in (Int32.ofInt a) n := by
  rw [vp_in_iff, i32 (by omega) hn]
  exact ⟨h0, h1⟩
/-- what an int is when it wraps around -/
def wr (x : Int) : Int := (Int32.ofInt x).toInt
theorem wr_ok (x : Int) : -2147483648 ≤ wr x ∧ wr x < 2147483648 := ⟨by have := Int32.le_toInt (Int32.ofInt x); unfold wr; omega, by have := Int32.toInt_lt (Int32.ofInt x); unfold wr; omega⟩
theorem wr_eq {x : Int} (h1 : -2147483648 ≤ x) (h2 : x < 2147483648) : wr x = x := i32 h1 h2
theorem wr_of (x : Int) : Int32.ofInt (wr x) = Int32.ofInt x := Int32.ofInt_toInt _
/-! the world's cells -/
theorem xws_get {g : xG} {σ : xS} {k : Nat} (hk : k < NB) : (xws g σ)[k]? = some (g.2.1 k, xcell g σ k) := by
  simp [xws, hk]
theorem xws_len {g : xG} {σ : xS} : (xws g σ).length = NB := by simp [xws]
theorem xD {g : xG} {σ : xS} (hi : xInj g) : va_D (xA g) (xws g σ) := by
  have key : ∀ (k : Nat) (q : Nat × va_E), (xws g σ)[k]? = some q → k < NB ∧ q.1 = g.2.1 k := by
    intro k q h
    have hk : k < NB := by have := (List.getElem?_eq_some_iff.mp h).1; rw [xws_len] at this; exact this
    rw [xws_get hk] at h
    cases h
    exact ⟨hk, rfl⟩
  refine ⟨fun i j p q hp hq e => ?_, fun k q h => ⟨k, key k q h⟩⟩
  obtain ⟨a1, a2⟩ := key i p hp
  obtain ⟨b1, b2⟩ := key j q hq
  exact hi i j a1 b1 (by rw [← a2, ← b2]; exact e)
theorem xws_set {g : xG} {σ σ' : xS} {k : Nat} {e : va_E} (hk : k < NB) (he : e = xcell g σ' k) (ho : ∀ j, j ≠ k → σ' j = σ j) : (xws g σ).set k (g.2.1 k, e) = xws g σ' := by
  refine List.ext_getElem? (fun i => ?_)
  by_cases hi : i < NB
  · by_cases hik : i = k
    · subst hik
      rw [List.getElem?_set_self (by rw [xws_len]; exact hi), xws_get hi, he]
    · rw [List.getElem?_set_ne (Ne.symm hik), xws_get hi, xws_get hi]
      have : xcell g σ i = xcell g σ' i := by
        unfold xcell fvs
        rw [ho i hik]
      rw [this]
  · rw [List.getElem?_eq_none (by rw [List.length_set, xws_len]; omega), List.getElem?_eq_none (by rw [xws_len]; omega)]
theorem up_ne {σ : xS} {k : Nat} {i v : Int} {j : Nat} (h : j ≠ k) : up σ k i v j = σ j := by
  funext i'
  simp [up, h]
theorem okS_up {σ : xS} {k : Nat} {i v : Int} (h : okS σ) (hv : okv k i v) : okS (up σ k i v) := by
  intro k' i'
  unfold up
  by_cases hc : k' = k ∧ i' = i
  · rw [if_pos hc, hc.1, hc.2]; exact hv
  · rw [if_neg hc]; exact h k' i'
theorem xK_moved {g : xG} {u U : State} (hvm : u.vm.Alike U.vm) (h : xK g u) : xK g U := va_K.moved hvm h
theorem xRO_moved {g : xG} {u U : State} {H H1 : Heap} (hvm : u.vm.Alike U.vm) (hq : ∀ a : Nat, a < H.size → ¬ xA g a → H1[a]? = H[a]?) (h : xRO g u H) : xRO g U H1 :=
  ⟨fun i hi => ⟨va_Z.kept (va_Z.moved hvm (h.1 i hi).1) hq, va_T.kept (va_T.moved hvm (h.1 i hi).2) hq⟩, ⟨va_Z.kept (va_Z.moved hvm h.2.1.1) hq, xFm_moved hvm hq h.2.1.2.1, xLg_moved hvm hq h.2.1.2.2⟩, vk_S.kept (vk_S.moved hvm h.2.2) hq⟩
theorem xNs_warm {g : xG} {s U : State} (hW : s.WarmedH U.vm) (h : xNs g s) : xNs g U := fun i hi => vk_R.warm hW (h i hi)
theorem xNs_same {g : xG} {u U : State} (hv : u.vm = U.vm) (h : xNs g u) : xNs g U := fun i hi => vk_R.same hv.symm (h i hi)
theorem xWd_blind {g : xG} {σ : xS} {av : List Value} : FrameBlind (va_Pc av (xWd g σ)) := fun a U gf mk q => by
  obtain ⟨q0, hH, hK, hI, hR, hN, hs⟩ := q
  exact ⟨q0, hH, xK_moved (u := U) (U := U.calling gf mk a) (Vm.Alike.refl U.vm) hK, hI, xRO_moved (u := U) (U := U.calling gf mk a) (Vm.Alike.refl U.vm) (fun _ _ _ => rfl) hR, xNs_same (u := U) (U := U.calling gf mk a) rfl hN, hs⟩
theorem gw_good : ∀ w ∈ gw, (w.onTables && w.keeps) = true ∨ ∃ ty, w = .arrayClass ty := fun w h => good_of_word (List.mem_filter.mp h).2
theorem gw_in {w : Cond} {i : Nat} (h : gw[i]? = some w) : w ∈ gw := List.mem_of_getElem? h
/-- entering a method -/
theorem x_enter {g : xG} {y : xM} {as : List MV} {σ : xS} {K : Option MV → xS → Prop} (n : Nat) (hy : plainName y.1.cls = true) (hr : as.all (fun v => !isL v && !isU v) = true) (hn : as.length + n = y.2.2.1) (k : ∀ Z : xZ, Wx g y Z K 0 (as ++ List.replicate n vU) [] σ) : Mt g y as σ K := by
  intro hok
  refine Met.ofW (cc := y.2.1) (maxL := y.2.2.1) (ret := y.2.2.2.1) hy rfl ?_
  intro p e s m args below meth c s₁ B hml hv
  obtain ⟨rfl, hH, hK, hI, hRO, hNs, hσ⟩ := hv
  have hcat : ∀ v ∈ as, (cv g v).category ≠ 2 := fun v hv h2 => by
    have := List.all_eq_true.mp hr v hv
    rw [cv_cat h2] at this
    simp at this
  have hsl : ∀ l : List MV, (∀ v ∈ l, (cv g v).category ≠ 2) → lg_sl (l.map (cv g)) = l.map (fun v => Slot.val (cv g v)) := by
    intro l
    induction l with
    | nil => intro _; rfl
    | cons v t ih =>
      intro h
      have h1 := h v List.mem_cons_self
      have h2 := ih (fun w hw => h w (List.mem_cons_of_mem _ hw))
      unfold lg_sl at h2 ⊢
      rw [List.map_cons, List.flatMap_cons, h2, if_neg h1]
      rfl
  have hlen : (lg_sl (as.map (cv g))).length = as.length := by rw [hsl as hcat, List.length_map]
  have hl := lv_entry (as.map (cv g)) (n := y.2.2.1) (by rw [hlen]; omega)
  rw [lg_entry_eq]
  have hargs : ∀ (l : List MV) (i : Nat), (∀ v ∈ l, (cv g v).category ≠ 2) → lv_args i (l.map (cv g)) = (l.zipIdx i).map (fun q => (q.2, cv g q.1)) := by
    intro l
    induction l with
    | nil => intro i _; rfl
    | cons v t ih =>
      intro i h
      have h1 := h v List.mem_cons_self
      have h2 := ih (i + 1) (fun w hw => h w (List.mem_cons_of_mem _ hw))
      simp only [List.map_cons, lv_args, h1, if_false, List.zipIdx_cons]
      rw [h2]
  have hl2 : lv_has ((lg_sl (as.map (cv g)) ++ List.replicate (y.2.2.1 - (lg_sl (as.map (cv g))).length) Slot.unset).toArray) y.2.2.1 (lvl g 0 (as ++ List.replicate n vU)) := by
    refine ⟨hl.1, hl.2.1, fun q hq => ?_⟩
    obtain ⟨i, v, h1, h2, h3⟩ := lvl_of hq
    rw [Nat.zero_add] at h1
    refine hl.2.2 q ?_
    rw [hargs as 0 hcat, h1]
    by_cases hi : i < as.length
    · rw [List.getElem?_append_left hi] at h2
      exact List.mem_map.mpr ⟨(v, i), List.mem_iff_getElem?.mpr ⟨i, by rw [List.getElem?_zipIdx, h2]; simp⟩, rfl⟩
    · rw [List.getElem?_append_right (by omega)] at h2
      have hv := List.mem_of_getElem? h2
      rw [(List.mem_replicate.mp hv).2] at h3
      cases h3
  have hF : xF g y (p, e, s, m, (as.map (cv g)).toArray, below, meth, c) := ⟨B.exec, B.bytes, hml, B.returns, B.notSynchronized, findClass_of_methodNamed B.named, atoms_spec (ws := xWs y) B.pre, hK, hI, hRO, hNs⟩
  refine k (p, e, s, m, (as.map (cv g)).toArray, below, meth, c) hF ?_ (fun v h => by cases h) hσ s.heap [] _ hH va_S.rf hl2
  intro v hv
  rcases List.mem_append.mp hv with h | h
  · exact hok v h
  · rw [(List.mem_replicate.mp h).2]; trivial

