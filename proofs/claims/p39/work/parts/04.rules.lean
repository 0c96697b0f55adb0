section XR
variable {g : xG} {y : xM} {Z : xZ} {K : Option MV → xS → Prop} {pc pc' : Nat} {L S : List MV} {σ : xS}
theorem xok_tl {v : MV} {S : List MV} (h : ∀ u ∈ v :: S, ok u) : ∀ u ∈ S, ok u := fun u hu => h u (List.mem_cons_of_mem _ hu)
theorem xok_hd {v : MV} {S : List MV} (h : ∀ u ∈ v :: S, ok u) : ok v := h v List.mem_cons_self
theorem xok_at {L : List MV} {i : Nat} {v : MV} (h : ∀ u ∈ L, ok u) (hl : L[i]? = some v) : ok v := h v (List.mem_of_getElem? hl)
def iand (a b : Int) : Int := (Int32.ofInt a &&& Int32.ofInt b).toInt
def ior (a b : Int) : Int := (Int32.ofInt a ||| Int32.ofInt b).toInt
def ixor (a b : Int) : Int := (Int32.ofInt a ^^^ Int32.ofInt b).toInt
def ishl (a b : Int) : Int := (Int32.ofInt a <<< (Int32.ofInt b &&& 31)).toInt
def ishr (a b : Int) : Int := (Int32.ofInt a >>> (Int32.ofInt b &&& 31)).toInt
def iushr (a b : Int) : Int := ((Int32.ofInt a).toUInt32 >>> ((Int32.ofInt b).toUInt32 &&& Int32.toUInt32 31)).toInt32.toInt
def i2b (a : Int) : Int := (Int32.ofInt a).toInt8.toInt32.toInt
theorem toInt_ok (x : Int32) : -2147483648 ≤ x.toInt ∧ x.toInt < 2147483648 := ⟨by have := Int32.le_toInt x; omega, by have := Int32.toInt_lt x; omega⟩

theorem x_iconst {n : Int} (hd : xd y.2.1 pc (.iconst n) 1 pc') (h1 : -2147483648 ≤ n ∧ n < 2147483648) (kk : Wx g y Z K pc' L (vI n :: S) σ) : Wx g y Z K pc L S σ := by
  intro F hL hS hσ H locs ls hH hs hl
  have k := kk F hL (xok_cons hS h1) hσ H locs ls hH hs hl
  rw [← hd.2] at k
  exact lv_iconst F.1 F.2.1 hd.1 rfl k
theorem x_bipush {n : Int} (hd : xd y.2.1 pc (.bipush n) 2 pc') (hv : (Int8.ofInt n).toInt32 = Int32.ofInt n) (h1 : -2147483648 ≤ n ∧ n < 2147483648) (kk : Wx g y Z K pc' L (vI n :: S) σ) : Wx g y Z K pc L S σ := by
  intro F hL hS hσ H locs ls hH hs hl
  have k := kk F hL (xok_cons hS h1) hσ H locs ls hH hs hl
  rw [← hd.2] at k
  exact lv_bipush F.1 F.2.1 hd.1 hv k
theorem x_sipush {n : Int} (hd : xd y.2.1 pc (.sipush n) 3 pc') (hv : (Int16.ofInt n).toInt32 = Int32.ofInt n) (h1 : -2147483648 ≤ n ∧ n < 2147483648) (kk : Wx g y Z K pc' L (vI n :: S) σ) : Wx g y Z K pc L S σ := by
  intro F hL hS hσ H locs ls hH hs hl
  have k := kk F hL (xok_cons hS h1) hσ H locs ls hH hs hl
  rw [← hd.2] at k
  exact lv_sipush F.1 F.2.1 hd.1 hv k
theorem x_ldc {own : String} {idx : Nat} {n : Int} (hd : xd y.2.1 pc (.ldc idx) 2 pc') (ho : y.1.cls = own) (hw : Cond.constant own idx (Int32.ofInt n) ∈ gw) (h1 : -2147483648 ≤ n ∧ n < 2147483648) (kk : Wx g y Z K pc' L (vI n :: S) σ) : Wx g y Z K pc L S σ := by
  intro F hL hS hσ H locs ls hH hs hl
  have k := kk F hL (xok_cons hS h1) hσ H locs ls hH hs hl
  rw [← hd.2] at k
  exact lv_ldc F.1 F.2.1 (own := own) (by rw [← ho]; exact F.2.2.2.2.2.1) (F.2.2.2.2.2.2.1 _ (List.mem_cons_of_mem _ hw)) hd.1 k
theorem x_ldcw {own : String} {idx : Nat} {n : Int} (hd : xd y.2.1 pc (.ldc_w idx) 3 pc') (ho : y.1.cls = own) (hw : Cond.constant own idx (Int32.ofInt n) ∈ gw) (h1 : -2147483648 ≤ n ∧ n < 2147483648) (kk : Wx g y Z K pc' L (vI n :: S) σ) : Wx g y Z K pc L S σ := by
  intro F hL hS hσ H locs ls hH hs hl
  have k := kk F hL (xok_cons hS h1) hσ H locs ls hH hs hl
  rw [← hd.2] at k
  exact lv_ldcw F.1 F.2.1 (own := own) (by rw [← ho]; exact F.2.2.2.2.2.1) (F.2.2.2.2.2.2.1 _ (List.mem_cons_of_mem _ hw)) hd.1 k
theorem x_ldc2 {own : String} {idx : Nat} {n : Int} (hd : xd y.2.1 pc (.ldc2_w idx) 3 pc') (ho : y.1.cls = own) (hw : Cond.constantLong own idx (Int64.ofInt n) ∈ gw) (h1 : -9223372036854775808 ≤ n ∧ n < 9223372036854775808) (kk : Wx g y Z K pc' L (vL n :: S) σ) : Wx g y Z K pc L S σ := by
  intro F hL hS hσ H locs ls hH hs hl
  have k := kk F hL (xok_cons hS h1) hσ H locs ls hH hs hl
  rw [← hd.2] at k
  exact lv_ldc2 F.1 F.2.1 (own := own) (by rw [← ho]; exact F.2.2.2.2.2.1) (F.2.2.2.2.2.2.1 _ (List.mem_cons_of_mem _ hw)) hd.1 k
theorem x_ldcS {i idx : Nat} (hd : xd y.2.1 pc (.ldc idx) 2 pc') (ho : y.1.cls = "ShakenBread$Reader") (hi : i < 16 ∧ srK.getD i 0 = idx) (kk : Wx g y Z K pc' L (vR (310 + i) :: S) σ) : Wx g y Z K pc L S σ := by
  intro F hL hS hσ H locs ls hH hs hl
  have k := kk F hL (xok_cons hS trivial) hσ H locs ls hH hs hl
  rw [← hd.2] at k
  have hz := F.2.2.2.2.2.2.2.2.2.2 i hi.1
  rw [hi.2] at hz
  exact va_ldcS F.1 F.2.1 (own := "ShakenBread$Reader") (by rw [← ho]; exact F.2.2.2.2.2.1) hz hd.1 k
theorem x_null (hd : xd y.2.1 pc .aconst_null 1 pc') (kk : Wx g y Z K pc' L (vN :: S) σ) : Wx g y Z K pc L S σ := by
  intro F hL hS hσ H locs ls hH hs hl
  have k := kk F hL (xok_cons hS trivial) hσ H locs ls hH hs hl
  rw [← hd.2] at k
  exact lv_null F.1 F.2.1 hd.1 k

theorem x_iload_n {k : Fin 4} {i : Nat} {v : Int} (hd : xd y.2.1 pc (.iload_n k) 1 pc') (hi : (k : Nat) = i) (hv : L[i]? = some (vI v)) (kk : Wx g y Z K pc' L (vI v :: S) σ) : Wx g y Z K pc L S σ := by
  intro F hL hS hσ H locs ls hH hs hl
  have k := kk F hL (xok_cons hS (xok_at hL hv)) hσ H locs ls hH hs hl
  rw [← hd.2] at k
  exact lv_iload_n F.1 F.2.1 hd.1 hi (lvl_at hl hv rfl) k
theorem x_iload {i : Nat} {v : Int} (hd : xd y.2.1 pc (.iload i) 2 pc') (hv : L[i]? = some (vI v)) (kk : Wx g y Z K pc' L (vI v :: S) σ) : Wx g y Z K pc L S σ := by
  intro F hL hS hσ H locs ls hH hs hl
  have k := kk F hL (xok_cons hS (xok_at hL hv)) hσ H locs ls hH hs hl
  rw [← hd.2] at k
  exact lv_iload F.1 F.2.1 hd.1 (lvl_at hl hv rfl) k
theorem x_aload_n {k : Fin 4} {i : Nat} {v : Nat} (hd : xd y.2.1 pc (.aload_n k) 1 pc') (hi : (k : Nat) = i) (hv : L[i]? = some (vR v)) (kk : Wx g y Z K pc' L (vR v :: S) σ) : Wx g y Z K pc L S σ := by
  intro F hL hS hσ H locs ls hH hs hl
  have k := kk F hL (xok_cons hS (xok_at hL hv)) hσ H locs ls hH hs hl
  rw [← hd.2] at k
  exact lv_aload_n F.1 F.2.1 hd.1 hi (lvl_at hl hv rfl) k
theorem x_aload {i : Nat} {v : Nat} (hd : xd y.2.1 pc (.aload i) 2 pc') (hv : L[i]? = some (vR v)) (kk : Wx g y Z K pc' L (vR v :: S) σ) : Wx g y Z K pc L S σ := by
  intro F hL hS hσ H locs ls hH hs hl
  have k := kk F hL (xok_cons hS (xok_at hL hv)) hσ H locs ls hH hs hl
  rw [← hd.2] at k
  exact lv_aload F.1 F.2.1 hd.1 (lvl_at hl hv rfl) k
theorem x_lload_n {k : Fin 4} {i : Nat} {v : Int} (hd : xd y.2.1 pc (.lload_n k) 1 pc') (hi : (k : Nat) = i) (hv : L[i]? = some (vL v)) (kk : Wx g y Z K pc' L (vL v :: S) σ) : Wx g y Z K pc L S σ := by
  intro F hL hS hσ H locs ls hH hs hl
  have k := kk F hL (xok_cons hS (xok_at hL hv)) hσ H locs ls hH hs hl
  rw [← hd.2] at k
  exact lv_lload_n F.1 F.2.1 hd.1 hi (lvl_at hl hv rfl) k
theorem x_lload {i : Nat} {v : Int} (hd : xd y.2.1 pc (.lload i) 2 pc') (hv : L[i]? = some (vL v)) (kk : Wx g y Z K pc' L (vL v :: S) σ) : Wx g y Z K pc L S σ := by
  intro F hL hS hσ H locs ls hH hs hl
  have k := kk F hL (xok_cons hS (xok_at hL hv)) hσ H locs ls hH hs hl
  rw [← hd.2] at k
  exact lv_lload F.1 F.2.1 hd.1 (lvl_at hl hv rfl) k
theorem x_aload_nN {k : Fin 4} {i : Nat} (hd : xd y.2.1 pc (.aload_n k) 1 pc') (hi : (k : Nat) = i) (hv : L[i]? = some vN) (kk : Wx g y Z K pc' L (vN :: S) σ) : Wx g y Z K pc L S σ := by
  intro F hL hS hσ H locs ls hH hs hl
  have k := kk F hL (xok_cons hS trivial) hσ H locs ls hH hs hl
  rw [← hd.2] at k
  exact lv_aload_nN F.1 F.2.1 hd.1 hi (lvl_at hl hv rfl) k
theorem x_aloadN {i : Nat} (hd : xd y.2.1 pc (.aload i) 2 pc') (hv : L[i]? = some vN) (kk : Wx g y Z K pc' L (vN :: S) σ) : Wx g y Z K pc L S σ := by
  intro F hL hS hσ H locs ls hH hs hl
  have k := kk F hL (xok_cons hS trivial) hσ H locs ls hH hs hl
  rw [← hd.2] at k
  exact lv_aloadN F.1 F.2.1 hd.1 (lvl_at hl hv rfl) k
theorem x_istore_n {k : Fin 4} {i : Nat} {v : Int} {L' : List MV} (hd : xd y.2.1 pc (.istore_n k) 1 pc') (hi : (k : Nat) = i) (hn : i < y.2.2.1) (hx : xnl L i = true) (hL' : L.set i (vI v) = L') (kk : Wx g y Z K pc' L' S σ) : Wx g y Z K pc L (vI v :: S) σ := by
  subst hL'
  intro F hL hS hσ H locs ls hH hs hl
  refine lv_istore_n F.1 F.2.1 hd.1 hi hl hn rfl (fun ls' hl' => ?_)
  have k := kk F (xok_set hL (xok_hd hS)) (xok_tl hS) hσ H locs ls' hH hs (lvl_set (v := vI v) rfl hl' hx)
  rw [← hd.2] at k
  exact k
theorem x_istore {i : Nat} {v : Int} {L' : List MV} (hd : xd y.2.1 pc (.istore i) 2 pc') (hn : i < y.2.2.1) (hx : xnl L i = true) (hL' : L.set i (vI v) = L') (kk : Wx g y Z K pc' L' S σ) : Wx g y Z K pc L (vI v :: S) σ := by
  subst hL'
  intro F hL hS hσ H locs ls hH hs hl
  refine lv_istore F.1 F.2.1 hd.1 hl hn rfl (fun ls' hl' => ?_)
  have k := kk F (xok_set hL (xok_hd hS)) (xok_tl hS) hσ H locs ls' hH hs (lvl_set (v := vI v) rfl hl' hx)
  rw [← hd.2] at k
  exact k
theorem x_astore_n {k : Fin 4} {i : Nat} {v : Nat} {L' : List MV} (hd : xd y.2.1 pc (.astore_n k) 1 pc') (hi : (k : Nat) = i) (hn : i < y.2.2.1) (hx : xnl L i = true) (hL' : L.set i (vR v) = L') (kk : Wx g y Z K pc' L' S σ) : Wx g y Z K pc L (vR v :: S) σ := by
  subst hL'
  intro F hL hS hσ H locs ls hH hs hl
  refine lv_astore_n F.1 F.2.1 hd.1 hi hl hn rfl (fun ls' hl' => ?_)
  have k := kk F (xok_set hL (xok_hd hS)) (xok_tl hS) hσ H locs ls' hH hs (lvl_set (v := vR v) rfl hl' hx)
  rw [← hd.2] at k
  exact k
theorem x_astore {i : Nat} {v : Nat} {L' : List MV} (hd : xd y.2.1 pc (.astore i) 2 pc') (hn : i < y.2.2.1) (hx : xnl L i = true) (hL' : L.set i (vR v) = L') (kk : Wx g y Z K pc' L' S σ) : Wx g y Z K pc L (vR v :: S) σ := by
  subst hL'
  intro F hL hS hσ H locs ls hH hs hl
  refine lv_astore F.1 F.2.1 hd.1 hl hn rfl (fun ls' hl' => ?_)
  have k := kk F (xok_set hL (xok_hd hS)) (xok_tl hS) hσ H locs ls' hH hs (lvl_set (v := vR v) rfl hl' hx)
  rw [← hd.2] at k
  exact k
theorem x_astore_nN {k : Fin 4} {i : Nat} {L' : List MV} (hd : xd y.2.1 pc (.astore_n k) 1 pc') (hi : (k : Nat) = i) (hn : i < y.2.2.1) (hx : xnl L i = true) (hL' : L.set i vN = L') (kk : Wx g y Z K pc' L' S σ) : Wx g y Z K pc L (vN :: S) σ := by
  subst hL'
  intro F hL hS hσ H locs ls hH hs hl
  refine lv_astore_nN F.1 F.2.1 hd.1 hi hl hn rfl (fun ls' hl' => ?_)
  have k := kk F (xok_set hL (xok_hd hS)) (xok_tl hS) hσ H locs ls' hH hs (lvl_set (v := vN) rfl hl' hx)
  rw [← hd.2] at k
  exact k
theorem x_astoreN {i : Nat} {L' : List MV} (hd : xd y.2.1 pc (.astore i) 2 pc') (hn : i < y.2.2.1) (hx : xnl L i = true) (hL' : L.set i vN = L') (kk : Wx g y Z K pc' L' S σ) : Wx g y Z K pc L (vN :: S) σ := by
  subst hL'
  intro F hL hS hσ H locs ls hH hs hl
  refine lv_astoreN F.1 F.2.1 hd.1 hl hn rfl (fun ls' hl' => ?_)
  have k := kk F (xok_set hL (xok_hd hS)) (xok_tl hS) hσ H locs ls' hH hs (lvl_set (v := vN) rfl hl' hx)
  rw [← hd.2] at k
  exact k
theorem x_iinc {i : Nat} {n v v' : Int} {L' : List MV} (hd : xd y.2.1 pc (.iinc i n) 3 pc') (hv : L[i]? = some (vI v)) (hn : i < y.2.2.1) (hx : xnl L i = true) (he : v + n = v') (h1 : -2147483648 ≤ v' ∧ v' < 2147483648) (hL' : L.set i (vI v') = L') (kk : Wx g y Z K pc' L' S σ) : Wx g y Z K pc L S σ := by
  subst hL'
  subst he
  intro F hL hS hσ H locs ls hH hs hl
  have hm := lvl_mem (g := g) (j := 0) hv rfl
  obtain ⟨k0, hk0⟩ := List.getElem?_of_mem hm
  rw [Nat.zero_add] at hk0
  refine lv_iinc F.1 F.2.1 hd.1 hl hk0 (v := Int32.ofInt (v + n)) (Int32.ofInt_add v n).symm hn rfl (fun ls' hl' => ?_)
  have k := kk F (xok_set hL h1) hS hσ H locs ls' hH hs (lvl_set (v := vI (v + n)) rfl hl' hx)
  rw [← hd.2] at k
  exact k

theorem x_iadd {a b v : Int} (hd : xd y.2.1 pc .iadd 1 pc') (he : a + b = v) (h1 : -2147483648 ≤ v ∧ v < 2147483648) (kk : Wx g y Z K pc' L (vI v :: S) σ) : Wx g y Z K pc L (vI b :: vI a :: S) σ := by
  subst he
  intro F hL hS hσ H locs ls hH hs hl
  have k := kk F hL (xok_cons (xok_tl (xok_tl hS)) h1) hσ H locs ls hH hs hl
  rw [← hd.2] at k
  refine lv_iadd F.1 F.2.1 hd.1 ?_
  rw [← Int32.ofInt_add]
  exact k
theorem x_iaddw {a b : Int} (hd : xd y.2.1 pc .iadd 1 pc') (kk : Wx g y Z K pc' L (vI (wr (a + b)) :: S) σ) : Wx g y Z K pc L (vI b :: vI a :: S) σ := by
  intro F hL hS hσ H locs ls hH hs hl
  have k := kk F hL (xok_cons (xok_tl (xok_tl hS)) (wr_ok _)) hσ H locs ls hH hs hl
  rw [← hd.2] at k
  refine lv_iadd F.1 F.2.1 hd.1 ?_
  rw [← Int32.ofInt_add, ← wr_of]
  exact k
theorem x_isub {a b v : Int} (hd : xd y.2.1 pc .isub 1 pc') (he : a - b = v) (h1 : -2147483648 ≤ v ∧ v < 2147483648) (kk : Wx g y Z K pc' L (vI v :: S) σ) : Wx g y Z K pc L (vI b :: vI a :: S) σ := by
  subst he
  intro F hL hS hσ H locs ls hH hs hl
  have k := kk F hL (xok_cons (xok_tl (xok_tl hS)) h1) hσ H locs ls hH hs hl
  rw [← hd.2] at k
  refine lv_isub F.1 F.2.1 hd.1 ?_
  rw [← Int32.ofInt_sub]
  exact k
theorem x_isubw {a b : Int} (hd : xd y.2.1 pc .isub 1 pc') (kk : Wx g y Z K pc' L (vI (wr (a - b)) :: S) σ) : Wx g y Z K pc L (vI b :: vI a :: S) σ := by
  intro F hL hS hσ H locs ls hH hs hl
  have k := kk F hL (xok_cons (xok_tl (xok_tl hS)) (wr_ok _)) hσ H locs ls hH hs hl
  rw [← hd.2] at k
  refine lv_isub F.1 F.2.1 hd.1 ?_
  rw [← Int32.ofInt_sub, ← wr_of]
  exact k
theorem x_imul {a b v : Int} (hd : xd y.2.1 pc .imul 1 pc') (he : a * b = v) (h1 : -2147483648 ≤ v ∧ v < 2147483648) (kk : Wx g y Z K pc' L (vI v :: S) σ) : Wx g y Z K pc L (vI b :: vI a :: S) σ := by
  subst he
  intro F hL hS hσ H locs ls hH hs hl
  have k := kk F hL (xok_cons (xok_tl (xok_tl hS)) h1) hσ H locs ls hH hs hl
  rw [← hd.2] at k
  refine lv_imul F.1 F.2.1 hd.1 ?_
  rw [← Int32.ofInt_mul]
  exact k
theorem x_imulw {a b : Int} (hd : xd y.2.1 pc .imul 1 pc') (kk : Wx g y Z K pc' L (vI (wr (a * b)) :: S) σ) : Wx g y Z K pc L (vI b :: vI a :: S) σ := by
  intro F hL hS hσ H locs ls hH hs hl
  have k := kk F hL (xok_cons (xok_tl (xok_tl hS)) (wr_ok _)) hσ H locs ls hH hs hl
  rw [← hd.2] at k
  refine lv_imul F.1 F.2.1 hd.1 ?_
  rw [← Int32.ofInt_mul, ← wr_of]
  exact k
theorem x_idiv {a b v : Int} (hd : xd y.2.1 pc .idiv 1 pc') (h0 : 0 ≤ a ∧ 0 < b) (he : a / b = v) (kk : Wx g y Z K pc' L (vI v :: S) σ) : Wx g y Z K pc L (vI b :: vI a :: S) σ := by
  subst he
  intro F hL hS hσ H locs ls hH hs hl
  have hb := xok_hd hS
  have ha := xok_hd (xok_tl hS)
  simp only [ok, vI] at ha hb
  have hq : 0 ≤ a / b ∧ a / b ≤ a := ⟨Int.ediv_nonneg h0.1 (by omega), Int.ediv_le_self b h0.1⟩
  have k := kk F hL (xok_cons (xok_tl (xok_tl hS)) (show ok (vI (a / b)) from ⟨by omega, by omega⟩)) hσ H locs ls hH hs hl
  rw [← hd.2] at k
  refine lv_idiv F.1 F.2.1 hd.1 (fun h => ?_) ?_
  · rw [← i32_0, i32_eq hb (by omega)] at h
    omega
  · have e : Int32.ofInt a / Int32.ofInt b = Int32.ofInt (a / b) := by
      rw [← Int32.toInt_inj, Int32.toInt_div, i32 ha.1 ha.2, i32 hb.1 hb.2, Int.tdiv_eq_ediv_of_nonneg h0.1, Int32.toInt_ofInt]
    rw [e]
    exact k
theorem x_irem {a b v : Int} (hd : xd y.2.1 pc .irem 1 pc') (h0 : 0 ≤ a ∧ 0 < b) (he : a % b = v) (kk : Wx g y Z K pc' L (vI v :: S) σ) : Wx g y Z K pc L (vI b :: vI a :: S) σ := by
  subst he
  intro F hL hS hσ H locs ls hH hs hl
  have hb := xok_hd hS
  have ha := xok_hd (xok_tl hS)
  simp only [ok, vI] at ha hb
  have hq : 0 ≤ a / b ∧ a / b ≤ a := ⟨Int.ediv_nonneg h0.1 (by omega), Int.ediv_le_self b h0.1⟩
  have hm : 0 ≤ a % b ∧ a % b < b := ⟨Int.emod_nonneg _ (by omega), Int.emod_lt_of_pos _ h0.2⟩
  have k := kk F hL (xok_cons (xok_tl (xok_tl hS)) (show ok (vI (a % b)) from ⟨by omega, by omega⟩)) hσ H locs ls hH hs hl
  rw [← hd.2] at k
  refine lv_irem F.1 F.2.1 hd.1 (fun h => ?_) ?_
  · rw [← i32_0, i32_eq hb (by omega)] at h
    omega
  · have e : Int32.ofInt a / Int32.ofInt b = Int32.ofInt (a / b) := by
      rw [← Int32.toInt_inj, Int32.toInt_div, i32 ha.1 ha.2, i32 hb.1 hb.2, Int.tdiv_eq_ediv_of_nonneg h0.1, Int32.toInt_ofInt]
    have e2 : Int32.ofInt a - Int32.ofInt a / Int32.ofInt b * Int32.ofInt b = Int32.ofInt (a % b) := by
      rw [e, ← Int32.ofInt_mul, ← Int32.ofInt_sub, show a - a / b * b = a % b by rw [Int.emod_def, Int.mul_comm]]
    rw [e2]
    exact k

theorem x_iand {a b v : Int} (hd : xd y.2.1 pc .iand 1 pc') (he : iand a b = v) (kk : Wx g y Z K pc' L (vI v :: S) σ) : Wx g y Z K pc L (vI b :: vI a :: S) σ := by
  subst he
  intro F hL hS hσ H locs ls hH hs hl
  have k := kk F hL (xok_cons (xok_tl (xok_tl hS)) (toInt_ok _)) hσ H locs ls hH hs hl
  rw [← hd.2] at k
  refine lv_iand F.1 F.2.1 hd.1 ?_
  rw [← Int32.ofInt_toInt (Int32.ofInt a &&& Int32.ofInt b)]
  exact k
theorem x_ior {a b v : Int} (hd : xd y.2.1 pc .ior 1 pc') (he : ior a b = v) (kk : Wx g y Z K pc' L (vI v :: S) σ) : Wx g y Z K pc L (vI b :: vI a :: S) σ := by
  subst he
  intro F hL hS hσ H locs ls hH hs hl
  have k := kk F hL (xok_cons (xok_tl (xok_tl hS)) (toInt_ok _)) hσ H locs ls hH hs hl
  rw [← hd.2] at k
  refine lv_ior F.1 F.2.1 hd.1 ?_
  rw [← Int32.ofInt_toInt (Int32.ofInt a ||| Int32.ofInt b)]
  exact k
theorem x_ixor {a b v : Int} (hd : xd y.2.1 pc .ixor 1 pc') (he : ixor a b = v) (kk : Wx g y Z K pc' L (vI v :: S) σ) : Wx g y Z K pc L (vI b :: vI a :: S) σ := by
  subst he
  intro F hL hS hσ H locs ls hH hs hl
  have k := kk F hL (xok_cons (xok_tl (xok_tl hS)) (toInt_ok _)) hσ H locs ls hH hs hl
  rw [← hd.2] at k
  refine lv_ixor F.1 F.2.1 hd.1 ?_
  rw [← Int32.ofInt_toInt (Int32.ofInt a ^^^ Int32.ofInt b)]
  exact k
theorem x_ishl {a b v : Int} (hd : xd y.2.1 pc .ishl 1 pc') (he : ishl a b = v) (kk : Wx g y Z K pc' L (vI v :: S) σ) : Wx g y Z K pc L (vI b :: vI a :: S) σ := by
  subst he
  intro F hL hS hσ H locs ls hH hs hl
  have k := kk F hL (xok_cons (xok_tl (xok_tl hS)) (toInt_ok _)) hσ H locs ls hH hs hl
  rw [← hd.2] at k
  refine lv_ishl F.1 F.2.1 hd.1 ?_
  rw [← Int32.ofInt_toInt (Int32.ofInt a <<< (Int32.ofInt b &&& 31))]
  exact k
theorem x_ishr {a b v : Int} (hd : xd y.2.1 pc .ishr 1 pc') (he : ishr a b = v) (kk : Wx g y Z K pc' L (vI v :: S) σ) : Wx g y Z K pc L (vI b :: vI a :: S) σ := by
  subst he
  intro F hL hS hσ H locs ls hH hs hl
  have k := kk F hL (xok_cons (xok_tl (xok_tl hS)) (toInt_ok _)) hσ H locs ls hH hs hl
  rw [← hd.2] at k
  refine lv_ishr F.1 F.2.1 hd.1 ?_
  rw [← Int32.ofInt_toInt (Int32.ofInt a >>> (Int32.ofInt b &&& 31))]
  exact k
theorem x_iushr {a b v : Int} (hd : xd y.2.1 pc .iushr 1 pc') (he : iushr a b = v) (kk : Wx g y Z K pc' L (vI v :: S) σ) : Wx g y Z K pc L (vI b :: vI a :: S) σ := by
  subst he
  intro F hL hS hσ H locs ls hH hs hl
  have k := kk F hL (xok_cons (xok_tl (xok_tl hS)) (toInt_ok _)) hσ H locs ls hH hs hl
  rw [← hd.2] at k
  exact lv_iushr F.1 F.2.1 hd.1 (v := Int32.ofInt (iushr a b)) (by unfold iushr; rw [Int32.ofInt_toInt]) k
theorem x_i2b {a v : Int} (hd : xd y.2.1 pc .i2b 1 pc') (he : i2b a = v) (kk : Wx g y Z K pc' L (vI v :: S) σ) : Wx g y Z K pc L (vI a :: S) σ := by
  subst he
  intro F hL hS hσ H locs ls hH hs hl
  have k := kk F hL (xok_cons (xok_tl hS) (toInt_ok _)) hσ H locs ls hH hs hl
  rw [← hd.2] at k
  exact lv_i2b F.1 F.2.1 hd.1 (v := Int32.ofInt (i2b a)) (by unfold i2b; rw [Int32.ofInt_toInt]) k

theorem x_icmp_eq {a b off : Int} {tgt : Nat} (hd : xd y.2.1 pc (.if_icmp .eq off) 3 pc') (ht : (pc : Int) + off = (tgt : Int)) (kt : a = b → Wx g y Z K tgt L S σ) (kf : ¬ a = b → Wx g y Z K pc' L S σ) : Wx g y Z K pc L (vI b :: vI a :: S) σ := by
  intro F hL hS hσ H locs ls hH hs hl
  have hb := xok_hd hS
  have ha := xok_hd (xok_tl hS)
  simp only [ok, vI] at ha hb
  refine lv_icmp_eq F.1 F.2.1 hd.1 ht (fun h => ?_) (fun h => ?_)
  · rw [i32_eq ha hb] at h
    exact kt (by omega) F hL (xok_tl (xok_tl hS)) hσ H locs ls hH hs hl
  · rw [i32_eq ha hb] at h
    have k := kf (by omega) F hL (xok_tl (xok_tl hS)) hσ H locs ls hH hs hl
    rw [← hd.2] at k
    exact k
theorem x_if_eq {a off : Int} {tgt : Nat} (hd : xd y.2.1 pc (.ifCond .eq off) 3 pc') (ht : (pc : Int) + off = (tgt : Int)) (kt : a = 0 → Wx g y Z K tgt L S σ) (kf : ¬ a = 0 → Wx g y Z K pc' L S σ) : Wx g y Z K pc L (vI a :: S) σ := by
  intro F hL hS hσ H locs ls hH hs hl
  have ha := xok_hd hS
  simp only [ok, vI] at ha
  have h0 : -2147483648 ≤ (0 : Int) ∧ (0 : Int) < 2147483648 := by omega
  refine lv_if_eq F.1 F.2.1 hd.1 ht (fun h => ?_) (fun h => ?_)
  · rw [← i32_0, i32_eq ha h0] at h
    exact kt (by omega) F hL (xok_tl hS) hσ H locs ls hH hs hl
  · rw [← i32_0, i32_eq ha h0] at h
    have k := kf (by omega) F hL (xok_tl hS) hσ H locs ls hH hs hl
    rw [← hd.2] at k
    exact k
theorem x_icmp_ne {a b off : Int} {tgt : Nat} (hd : xd y.2.1 pc (.if_icmp .ne off) 3 pc') (ht : (pc : Int) + off = (tgt : Int)) (kt : ¬ a = b → Wx g y Z K tgt L S σ) (kf : a = b → Wx g y Z K pc' L S σ) : Wx g y Z K pc L (vI b :: vI a :: S) σ := by
  intro F hL hS hσ H locs ls hH hs hl
  have hb := xok_hd hS
  have ha := xok_hd (xok_tl hS)
  simp only [ok, vI] at ha hb
  refine lv_icmp_ne F.1 F.2.1 hd.1 ht (fun h => ?_) (fun h => ?_)
  · rw [i32_eq ha hb] at h
    exact kt (by omega) F hL (xok_tl (xok_tl hS)) hσ H locs ls hH hs hl
  · rw [i32_eq ha hb] at h
    have k := kf (by omega) F hL (xok_tl (xok_tl hS)) hσ H locs ls hH hs hl
    rw [← hd.2] at k
    exact k
theorem x_if_ne {a off : Int} {tgt : Nat} (hd : xd y.2.1 pc (.ifCond .ne off) 3 pc') (ht : (pc : Int) + off = (tgt : Int)) (kt : ¬ a = 0 → Wx g y Z K tgt L S σ) (kf : a = 0 → Wx g y Z K pc' L S σ) : Wx g y Z K pc L (vI a :: S) σ := by
  intro F hL hS hσ H locs ls hH hs hl
  have ha := xok_hd hS
  simp only [ok, vI] at ha
  have h0 : -2147483648 ≤ (0 : Int) ∧ (0 : Int) < 2147483648 := by omega
  refine lv_if_ne F.1 F.2.1 hd.1 ht (fun h => ?_) (fun h => ?_)
  · rw [← i32_0, i32_eq ha h0] at h
    exact kt (by omega) F hL (xok_tl hS) hσ H locs ls hH hs hl
  · rw [← i32_0, i32_eq ha h0] at h
    have k := kf (by omega) F hL (xok_tl hS) hσ H locs ls hH hs hl
    rw [← hd.2] at k
    exact k
theorem x_icmp_lt {a b off : Int} {tgt : Nat} (hd : xd y.2.1 pc (.if_icmp .lt off) 3 pc') (ht : (pc : Int) + off = (tgt : Int)) (kt : a < b → Wx g y Z K tgt L S σ) (kf : b ≤ a → Wx g y Z K pc' L S σ) : Wx g y Z K pc L (vI b :: vI a :: S) σ := by
  intro F hL hS hσ H locs ls hH hs hl
  have hb := xok_hd hS
  have ha := xok_hd (xok_tl hS)
  simp only [ok, vI] at ha hb
  refine lv_icmp_lt F.1 F.2.1 hd.1 ht (fun h => ?_) (fun h => ?_)
  · rw [i32_lt ha hb] at h
    exact kt (by omega) F hL (xok_tl (xok_tl hS)) hσ H locs ls hH hs hl
  · rw [i32_lt ha hb] at h
    have k := kf (by omega) F hL (xok_tl (xok_tl hS)) hσ H locs ls hH hs hl
    rw [← hd.2] at k
    exact k
theorem x_if_lt {a off : Int} {tgt : Nat} (hd : xd y.2.1 pc (.ifCond .lt off) 3 pc') (ht : (pc : Int) + off = (tgt : Int)) (kt : a < 0 → Wx g y Z K tgt L S σ) (kf : 0 ≤ a → Wx g y Z K pc' L S σ) : Wx g y Z K pc L (vI a :: S) σ := by
  intro F hL hS hσ H locs ls hH hs hl
  have ha := xok_hd hS
  simp only [ok, vI] at ha
  have h0 : -2147483648 ≤ (0 : Int) ∧ (0 : Int) < 2147483648 := by omega
  refine lv_if_lt F.1 F.2.1 hd.1 ht (fun h => ?_) (fun h => ?_)
  · rw [← i32_0, i32_lt ha h0] at h
    exact kt (by omega) F hL (xok_tl hS) hσ H locs ls hH hs hl
  · rw [← i32_0, i32_lt ha h0] at h
    have k := kf (by omega) F hL (xok_tl hS) hσ H locs ls hH hs hl
    rw [← hd.2] at k
    exact k
theorem x_icmp_ge {a b off : Int} {tgt : Nat} (hd : xd y.2.1 pc (.if_icmp .ge off) 3 pc') (ht : (pc : Int) + off = (tgt : Int)) (kt : b ≤ a → Wx g y Z K tgt L S σ) (kf : a < b → Wx g y Z K pc' L S σ) : Wx g y Z K pc L (vI b :: vI a :: S) σ := by
  intro F hL hS hσ H locs ls hH hs hl
  have hb := xok_hd hS
  have ha := xok_hd (xok_tl hS)
  simp only [ok, vI] at ha hb
  refine lv_icmp_ge F.1 F.2.1 hd.1 ht (fun h => ?_) (fun h => ?_)
  · rw [i32_le hb ha] at h
    exact kt (by omega) F hL (xok_tl (xok_tl hS)) hσ H locs ls hH hs hl
  · rw [i32_le hb ha] at h
    have k := kf (by omega) F hL (xok_tl (xok_tl hS)) hσ H locs ls hH hs hl
    rw [← hd.2] at k
    exact k
theorem x_if_ge {a off : Int} {tgt : Nat} (hd : xd y.2.1 pc (.ifCond .ge off) 3 pc') (ht : (pc : Int) + off = (tgt : Int)) (kt : 0 ≤ a → Wx g y Z K tgt L S σ) (kf : a < 0 → Wx g y Z K pc' L S σ) : Wx g y Z K pc L (vI a :: S) σ := by
  intro F hL hS hσ H locs ls hH hs hl
  have ha := xok_hd hS
  simp only [ok, vI] at ha
  have h0 : -2147483648 ≤ (0 : Int) ∧ (0 : Int) < 2147483648 := by omega
  refine lv_if_ge F.1 F.2.1 hd.1 ht (fun h => ?_) (fun h => ?_)
  · rw [← i32_0, i32_le h0 ha] at h
    exact kt (by omega) F hL (xok_tl hS) hσ H locs ls hH hs hl
  · rw [← i32_0, i32_le h0 ha] at h
    have k := kf (by omega) F hL (xok_tl hS) hσ H locs ls hH hs hl
    rw [← hd.2] at k
    exact k
theorem x_icmp_gt {a b off : Int} {tgt : Nat} (hd : xd y.2.1 pc (.if_icmp .gt off) 3 pc') (ht : (pc : Int) + off = (tgt : Int)) (kt : b < a → Wx g y Z K tgt L S σ) (kf : a ≤ b → Wx g y Z K pc' L S σ) : Wx g y Z K pc L (vI b :: vI a :: S) σ := by
  intro F hL hS hσ H locs ls hH hs hl
  have hb := xok_hd hS
  have ha := xok_hd (xok_tl hS)
  simp only [ok, vI] at ha hb
  refine lv_icmp_gt F.1 F.2.1 hd.1 ht (fun h => ?_) (fun h => ?_)
  · rw [i32_lt hb ha] at h
    exact kt (by omega) F hL (xok_tl (xok_tl hS)) hσ H locs ls hH hs hl
  · rw [i32_lt hb ha] at h
    have k := kf (by omega) F hL (xok_tl (xok_tl hS)) hσ H locs ls hH hs hl
    rw [← hd.2] at k
    exact k
theorem x_if_gt {a off : Int} {tgt : Nat} (hd : xd y.2.1 pc (.ifCond .gt off) 3 pc') (ht : (pc : Int) + off = (tgt : Int)) (kt : 0 < a → Wx g y Z K tgt L S σ) (kf : a ≤ 0 → Wx g y Z K pc' L S σ) : Wx g y Z K pc L (vI a :: S) σ := by
  intro F hL hS hσ H locs ls hH hs hl
  have ha := xok_hd hS
  simp only [ok, vI] at ha
  have h0 : -2147483648 ≤ (0 : Int) ∧ (0 : Int) < 2147483648 := by omega
  refine lv_if_gt F.1 F.2.1 hd.1 ht (fun h => ?_) (fun h => ?_)
  · rw [← i32_0, i32_lt h0 ha] at h
    exact kt (by omega) F hL (xok_tl hS) hσ H locs ls hH hs hl
  · rw [← i32_0, i32_lt h0 ha] at h
    have k := kf (by omega) F hL (xok_tl hS) hσ H locs ls hH hs hl
    rw [← hd.2] at k
    exact k
theorem x_icmp_le {a b off : Int} {tgt : Nat} (hd : xd y.2.1 pc (.if_icmp .le off) 3 pc') (ht : (pc : Int) + off = (tgt : Int)) (kt : a ≤ b → Wx g y Z K tgt L S σ) (kf : b < a → Wx g y Z K pc' L S σ) : Wx g y Z K pc L (vI b :: vI a :: S) σ := by
  intro F hL hS hσ H locs ls hH hs hl
  have hb := xok_hd hS
  have ha := xok_hd (xok_tl hS)
  simp only [ok, vI] at ha hb
  refine lv_icmp_le F.1 F.2.1 hd.1 ht (fun h => ?_) (fun h => ?_)
  · rw [i32_le ha hb] at h
    exact kt (by omega) F hL (xok_tl (xok_tl hS)) hσ H locs ls hH hs hl
  · rw [i32_le ha hb] at h
    have k := kf (by omega) F hL (xok_tl (xok_tl hS)) hσ H locs ls hH hs hl
    rw [← hd.2] at k
    exact k
theorem x_if_le {a off : Int} {tgt : Nat} (hd : xd y.2.1 pc (.ifCond .le off) 3 pc') (ht : (pc : Int) + off = (tgt : Int)) (kt : a ≤ 0 → Wx g y Z K tgt L S σ) (kf : 0 < a → Wx g y Z K pc' L S σ) : Wx g y Z K pc L (vI a :: S) σ := by
  intro F hL hS hσ H locs ls hH hs hl
  have ha := xok_hd hS
  simp only [ok, vI] at ha
  have h0 : -2147483648 ≤ (0 : Int) ∧ (0 : Int) < 2147483648 := by omega
  refine lv_if_le F.1 F.2.1 hd.1 ht (fun h => ?_) (fun h => ?_)
  · rw [← i32_0, i32_le ha h0] at h
    exact kt (by omega) F hL (xok_tl hS) hσ H locs ls hH hs hl
  · rw [← i32_0, i32_le ha h0] at h
    have k := kf (by omega) F hL (xok_tl hS) hσ H locs ls hH hs hl
    rw [← hd.2] at k
    exact k
theorem x_goto {off : Int} {tgt : Nat} (hd : xd y.2.1 pc (.goto off) 3 pc') (ht : (pc : Int) + off = (tgt : Int)) (kk : Wx g y Z K tgt L S σ) : Wx g y Z K pc L S σ := by
  intro F hL hS hσ H locs ls hH hs hl
  exact lv_goto F.1 F.2.1 hd.1 ht (kk F hL hS hσ H locs ls hH hs hl)
theorem x_ifnull {off : Int} {k : Nat} (hd : xd y.2.1 pc (.ifnull off) 3 pc') (kk : Wx g y Z K pc' L S σ) : Wx g y Z K pc L (vR k :: S) σ := by
  intro F hL hS hσ H locs ls hH hs hl
  have k := kk F hL (xok_tl hS) hσ H locs ls hH hs hl
  rw [← hd.2] at k
  exact lv_ifnull F.1 F.2.1 hd.1 k
theorem x_ifnonnull {off : Int} {k tgt : Nat} (hd : xd y.2.1 pc (.ifnonnull off) 3 pc') (ht : (pc : Int) + off = (tgt : Int)) (kk : Wx g y Z K tgt L S σ) : Wx g y Z K pc L (vR k :: S) σ := by
  intro F hL hS hσ H locs ls hH hs hl
  exact lv_ifnonnull F.1 F.2.1 hd.1 ht (kk F hL (xok_tl hS) hσ H locs ls hH hs hl)
theorem x_ifnullN {off : Int} {tgt : Nat} (hd : xd y.2.1 pc (.ifnull off) 3 pc') (ht : (pc : Int) + off = (tgt : Int)) (kk : Wx g y Z K tgt L S σ) : Wx g y Z K pc L (vN :: S) σ := by
  intro F hL hS hσ H locs ls hH hs hl
  exact lv_ifnullN F.1 F.2.1 hd.1 ht (kk F hL (xok_tl hS) hσ H locs ls hH hs hl)
theorem x_ifnonnullN {off : Int} (hd : xd y.2.1 pc (.ifnonnull off) 3 pc') (kk : Wx g y Z K pc' L S σ) : Wx g y Z K pc L (vN :: S) σ := by
  intro F hL hS hσ H locs ls hH hs hl
  have k := kk F hL (xok_tl hS) hσ H locs ls hH hs hl
  rw [← hd.2] at k
  exact lv_ifnonnullN F.1 F.2.1 hd.1 k
theorem x_tableOut {dflt lo hi a : Int} {offs : Array Int} {len tgt : Nat} (hd : decode y.2.1 pc = .ok (.tableswitch dflt lo hi offs, len)) (h : a < lo ∨ hi < a) (ht : (pc : Int) + dflt = (tgt : Int)) (kk : Wx g y Z K tgt L S σ) : Wx g y Z K pc L (vI a :: S) σ := by
  intro F hL hS hσ H locs ls hH hs hl
  have ha := xok_hd hS
  simp only [ok, vI] at ha
  exact lv_tableOut F.1 F.2.1 hd (by rw [i32 ha.1 ha.2]; exact h) ht (kk F hL (xok_tl hS) hσ H locs ls hH hs hl)
theorem x_tableIn {dflt lo hi a off : Int} {offs : Array Int} {len tgt : Nat} (hd : decode y.2.1 pc = .ok (.tableswitch dflt lo hi offs, len)) (i : Nat) (ho : offs[i]? = some off) (hi : a = lo + i ∧ a ≤ hi) (ht : (pc : Int) + off = (tgt : Int)) (kk : Wx g y Z K tgt L S σ) : Wx g y Z K pc L (vI a :: S) σ := by
  intro F hL hS hσ H locs ls hH hs hl
  have ha := xok_hd hS
  simp only [ok, vI] at ha
  refine lv_tableIn F.1 F.2.1 hd (off := off) (by rw [i32 ha.1 ha.2]; omega) (by rw [i32 ha.1 ha.2]; omega) ?_ ht (kk F hL (xok_tl hS) hσ H locs ls hH hs hl)
  rw [i32 ha.1 ha.2, show (a - lo).toNat = i by omega]
  exact ho
theorem x_lookup {dflt a off : Int} {ps : Array (Int × Int)} {len tgt : Nat} (hd : decode y.2.1 pc = .ok (.lookupswitch dflt ps, len)) (hp : (ps.toList.zip (ps.toList.drop 1)).all (fun (a, next) => a.1 < next.1) = true) (ho : Op.lookupswitch.offset ps.toList dflt a = off) (ht : (pc : Int) + off = (tgt : Int)) (kk : Wx g y Z K tgt L S σ) : Wx g y Z K pc L (vI a :: S) σ := by
  intro F hL hS hσ H locs ls hH hs hl
  have ha := xok_hd hS
  simp only [ok, vI] at ha
  exact lv_lookup F.1 F.2.1 hd hp (off := off) (by rw [i32 ha.1 ha.2]; exact ho) ht (kk F hL (xok_tl hS) hσ H locs ls hH hs hl)
theorem x_dup {v : MV} (hd : xd y.2.1 pc .dup 1 pc') (hv : isL v = false) (kk : Wx g y Z K pc' L (v :: v :: S) σ) : Wx g y Z K pc L (v :: S) σ := by
  intro F hL hS hσ H locs ls hH hs hl
  have k := kk F hL (xok_cons hS (xok_hd hS)) hσ H locs ls hH hs hl
  rw [← hd.2] at k
  refine lv_dup F.1 F.2.1 hd.1 ?_ k
  rcases lv_cat (cv g v) with h | h
  · exact h
  · rw [cv_cat h] at hv; cases hv
theorem x_dup2 {v u : MV} (hd : xd y.2.1 pc .dup2 1 pc') (hv : isL v = false) (hu : isL u = false) (kk : Wx g y Z K pc' L (v :: u :: v :: u :: S) σ) : Wx g y Z K pc L (v :: u :: S) σ := by
  intro F hL hS hσ H locs ls hH hs hl
  have k := kk F hL (xok_cons (xok_cons hS (xok_hd (xok_tl hS))) (xok_hd hS)) hσ H locs ls hH hs hl
  rw [← hd.2] at k
  refine lv_dup2_11 F.1 F.2.1 hd.1 ?_ ?_ k
  · rcases lv_cat (cv g v) with h | h
    · exact h
    · rw [cv_cat h] at hv; cases hv
  · rcases lv_cat (cv g u) with h | h
    · exact h
    · rw [cv_cat h] at hu; cases hu
theorem x_pop {v : MV} (hd : xd y.2.1 pc .pop 1 pc') (hv : isL v = false) (kk : Wx g y Z K pc' L S σ) : Wx g y Z K pc L (v :: S) σ := by
  intro F hL hS hσ H locs ls hH hs hl
  have k := kk F hL (xok_tl hS) hσ H locs ls hH hs hl
  rw [← hd.2] at k
  refine lv_pop F.1 F.2.1 hd.1 ?_ k
  rcases lv_cat (cv g v) with h | h
  · exact h
  · rw [cv_cat h] at hv; cases hv
/-- dead locals are forgotten -/
theorem x_weak {L' : List MV} (h : ∀ (i : Nat) (v : MV), L'[i]? = some v → isU v = false → L[i]? = some v) (hu : ∀ v ∈ L', ok v ∨ isU v = true) (kk : Wx g y Z K pc L' S σ) : Wx g y Z K pc L S σ := by
  intro F hL hS hσ H locs ls hH hs hl
  refine kk F ?_ hS hσ H locs ls hH hs ⟨hl.1, hl.2.1, fun q hq => ?_⟩
  · intro v hv
    obtain ⟨i, hi⟩ := List.getElem?_of_mem hv
    by_cases hx : isU v = true
    · rcases v with x | k | x | b
      · trivial
      · trivial
      · cases hx
      · trivial
    · exact xok_at hL (h i v hi (by simpa using hx))
  · obtain ⟨i, v, h1, h2, h3⟩ := lvl_of hq
    rw [Nat.zero_add] at h1
    subst h1
    exact lvl_at hl (h i v h2 h3) h3
/-! fields -/
def FL (own : String) (idx ci j : Nat) (b : Bool) : Prop := ∃ (C : String) (T : u_T) (N : Nat) (ty0 : Nat → FieldType), classes[ci]? = some (C, T, N) ∧ j < N ∧ nf ci = N ∧ ci < 20 ∧ (∀ w ∈ u_ws C T N, w ∈ gw) ∧ Cond.fieldLink own idx C (T j).2.1 (T j).2.2.1 ∈ gw ∧ (T j).1 = C ∧
  (∀ k, k < N → parseFieldDescriptor (T k).2.2.1 = some (ty0 k)) ∧ (∀ a, a < N → ∀ b, b < N → a ≠ b → (T a).2.1 ≠ (T b).2.1) ∧ (b = true → (T j).2.2.2 = false ∧ (ty0 j = .int ∨ ty0 j = .boolean ∨ ty0 j = .array .byte) ∧ (ty0 j = .boolean → ci = 10 ∧ (j = 8 ∨ j = 39)) ∧ (ty0 j = .array .byte ↔ ci = 3 ∧ j = 5))
def OI (k ci j : Nat) (ji : Int) : Prop := kd k = ci ∧ rf k j = 0 ∧ k < NB ∧ (j : Int) = ji
def OR (k ci j r : Nat) : Prop := kd k = ci ∧ rf k j = r + 2 ∧ k < NB
theorem xcell_o {k ci : Nat} (h : kd k = ci) (hc : ci < 20) : xcell g σ k = .inr (ci, (List.range (nf ci)).map (fvs g σ k)) := by
  unfold xcell
  rw [h, if_pos hc]
theorem xcell_i {k n : Nat} (h : kd k = 20 ∨ kd k = 21 ∨ kd k = 22) (hn : ln k = n) : xcell g σ k = .inl (g.2.2.2 (kd k), n, .inl (fun i => Int32.ofInt (σ k i))) := by
  unfold xcell
  rw [if_neg (by omega), if_pos (by omega), hn]
theorem x_getv {own : String} {idx ci j k : Nat} {v : MV} (hd : xd y.2.1 pc (.getfield idx) 3 pc') (ho : y.1.cls = own) (fl : FL own idx ci j false) (hk : kd k = ci) (hkb : k < NB) (hv : fvs g σ k j = cv g v) (hok : okS σ → ok v) (kk : Wx g y Z K pc' L (v :: S) σ) : Wx g y Z K pc L (vR k :: S) σ := by
  obtain ⟨C, T, N, ty0, f1, f2, f3, f4, f5, f6, f7, f8, f9, -⟩ := fl
  intro F hL hS hσ H locs ls hH hs hl
  have k0 := kk F hL (xok_cons (xok_tl hS) (hok hσ)) hσ H locs ls hH hs hl
  rw [← hd.2] at k0
  have hx := xws_get (g := g) (σ := σ) hkb
  rw [xcell_o hk f4] at hx
  refine va_get (C := C) (T := T) (N := N) (ref := C) (own := own) (Ts := xWs y) F.1 F.2.1 F.2.2.2.2.2.2.1 (fun w hw => List.mem_cons_of_mem _ (f5 w hw)) (by rw [← ho]; exact F.2.2.2.2.2.1) F.2.2.2.2.2.2.2.1 hH k hx f1 j f2 (F.2.2.2.2.2.2.1 _ (List.mem_cons_of_mem _ f6)) (by rw [f7]; exact fun _ h => h) (v := cv g v) ?_ hd.1 k0
  rw [f3, List.getElem?_map, List.getElem?_range f2, ← hv]
  rfl
theorem x_geti {own : String} {idx ci j k : Nat} {ji v : Int} (hd : xd y.2.1 pc (.getfield idx) 3 pc') (ho : y.1.cls = own) (fl : FL own idx ci j false) (hk : OI k ci j ji) (hv : σ k ji = v) (kk : Wx g y Z K pc' L (vI v :: S) σ) : Wx g y Z K pc L (vR k :: S) σ := by
  subst hv
  refine x_getv hd ho fl hk.1 hk.2.2.1 ?_ (fun hσ => ?_) kk
  · unfold fvs
    rw [hk.2.1, hk.2.2.2]
    rfl
  · exact (hσ k ji).1
theorem x_getr {own : String} {idx ci j k r : Nat} (hd : xd y.2.1 pc (.getfield idx) 3 pc') (ho : y.1.cls = own) (fl : FL own idx ci j false) (hk : OR k ci j r) (kk : Wx g y Z K pc' L (vR r :: S) σ) : Wx g y Z K pc L (vR k :: S) σ := by
  refine x_getv (v := vR r) hd ho fl hk.1 hk.2.2 ?_ (fun _ => trivial) kk
  unfold fvs
  rw [hk.2.1]
  rfl
theorem x_getd {own : String} {idx ci j k r : Nat} {ji : Int} (hd : xd y.2.1 pc (.getfield idx) 3 pc') (ho : y.1.cls = own) (fl : FL own idx ci j false) (hk : kd k = ci ∧ rf k j = 1 ∧ k < NB ∧ (j : Int) = ji) (hr : σ k ji = (r : Int)) (kk : Wx g y Z K pc' L (vR r :: S) σ) : Wx g y Z K pc L (vR k :: S) σ := by
  refine x_getv (v := vR r) hd ho fl hk.1 hk.2.2.1 ?_ (fun _ => trivial) kk
  unfold fvs
  rw [hk.2.1, hk.2.2.2, hr]
  show (if ((r : Int) < 0) then Value.null else Value.ref (g.2.1 ((r : Int)).toNat)) = _
  rw [if_neg (by omega), Int.toNat_natCast]
  rfl
theorem fvs_set {k j N : Nat} {x : Int} {v : Value} (hr : rf k j < 2) (hj : j < N) (hv : v = fvs g (up σ k j x) k j) : ((List.range N).map (fvs g σ k)).set j v = (List.range N).map (fvs g (up σ k j x) k) := by
  refine List.ext_getElem? (fun i => ?_)
  by_cases hi : i < N
  · by_cases hij : i = j
    · subst hij
      rw [List.getElem?_set_self (by simpa using hi), List.getElem?_map, List.getElem?_range hi, hv]
      rfl
    · rw [List.getElem?_set_ne (Ne.symm hij), List.getElem?_map, List.getElem?_map, List.getElem?_range hi]
      have e : up σ k j x k i = σ k i := by
        unfold up
        rw [if_neg (by omega)]
      simp only [Option.map_some, fvs, e]
  · rw [List.getElem?_eq_none (by simp; omega), List.getElem?_eq_none (by simp; omega)]
theorem x_putv {own : String} {idx ci j k : Nat} {x : Int} {v : MV} (hd : xd y.2.1 pc (.putfield idx) 3 pc') (ho : y.1.cls = own) (fl : FL own idx ci j true) (hk : kd k = ci) (hkb : k < NB) (hr : rf k j < 2) (hv : cv g v = fvs g (up σ k j x) k j) (hx : okv k j x)
    (hty : ∀ ty : FieldType, (ty = .int ∨ (ty = .boolean ∧ (x = 0 ∨ x = 1)) ∨ ty = .array .byte) → (ty = .array .byte ↔ rf k j = 1) → narrow ty (cv g v) = cv g v ∧ fits ty (cv g v) = true) (hb : rf k j = 1 ↔ (ci = 3 ∧ j = 5)) (kk : Wx g y Z K pc' L S (up σ k j x)) : Wx g y Z K pc L (v :: vR k :: S) σ := by
  obtain ⟨C, T, N, ty0, f1, f2, f3, f4, f5, f6, f7, f8, f9, f10⟩ := fl
  obtain ⟨g1, g2, g3, g4⟩ := f10 rfl
  intro F hL hS hσ H locs ls hH hs hl
  have hI : xInj g := F.2.2.2.2.2.2.2.2.1
  have hx0 := xws_get (g := g) (σ := σ) hkb
  rw [xcell_o hk f4] at hx0
  have hq := hty (ty0 j) (by
    rcases g2 with h | h | h
    · exact Or.inl h
    · obtain ⟨e1, e2⟩ := g3 h
      exact Or.inr (Or.inl ⟨h, hx.2.2.1 (Or.inr ⟨by rw [hk, e1], by omega⟩)⟩)
    · exact Or.inr (Or.inr h)) (g4.trans hb.symm)
  refine va_put (C := C) (T := T) (N := N) (ref := C) (own := own) (Ts := xWs y) (A := xA g) (H0 := Z.2.2.1.heap) F.1 F.2.1 F.2.2.2.2.2.2.1 (fun w hw => List.mem_cons_of_mem _ (f5 w hw)) ty0 f8 f9 (by rw [← ho]; exact F.2.2.2.2.2.1) F.2.2.2.2.2.2.2.1 hH (xD hI) hs k hx0 f1 j f2 (F.2.2.2.2.2.2.1 _ (List.mem_cons_of_mem _ f6)) (by rw [f7]; exact fun _ h => h) g1 (ty := ty0 j) (v := cv g v) (f8 j f2) hq.1 hq.2 (by simp [f3, f2]) hd.1 (fun H1 locs1 hP hD hS1 => ?_)
  have e : (xws g σ).set k (g.2.1 k, .inr (ci, ((List.range (nf ci)).map (fvs g σ k)).set j (cv g v))) = xws g (up σ k j x) := by
    refine xws_set hkb ?_ (fun i hi => up_ne hi)
    rw [xcell_o hk f4, f3, fvs_set hr f2 hv]
  rw [e] at hP
  have k0 := kk F hL (xok_tl (xok_tl hS)) (okS_up hσ hx) H1 locs1 ls hP hS1 hl
  rw [← hd.2] at k0
  exact k0
theorem x_puti {own : String} {idx ci j k : Nat} {ji x : Int} (hd : xd y.2.1 pc (.putfield idx) 3 pc') (ho : y.1.cls = own) (fl : FL own idx ci j true) (hk : OI k ci j ji) (hb : ci = 10 ∧ (ji = 8 ∨ ji = 39) → x = 0 ∨ x = 1) (hn : ¬ (ci = 3 ∧ j = 5)) (kk : Wx g y Z K pc' L S (up σ k ji x)) : Wx g y Z K pc L (vI x :: vR k :: S) σ := by
  intro F hL hS
  have hx := xok_hd hS
  simp only [ok, vI] at hx
  revert F hL hS
  obtain ⟨h1, h2, h3, rfl⟩ := hk
  have fl' := fl
  obtain ⟨C, T, N, ty0, f1, f2, f3, f4, f5, f6, f7, f8, f9, f10⟩ := fl'
  refine x_putv hd ho fl h1 h3 (by omega) ?_ ⟨hx, fun h => by omega, fun h => ?_, fun h3k h5k => absurd ⟨by omega, by omega⟩ hn⟩ (fun ty ht hty => ?_) ⟨fun h => by omega, fun h => absurd h hn⟩ kk
  · unfold fvs
    rw [h2]
    unfold up
    rw [if_pos ⟨rfl, rfl⟩]
    rfl
  · rcases h with h | h
    · omega
    · exact hb ⟨by omega, h.2⟩
  · rcases ht with rfl | ⟨rfl, h⟩ | rfl
    · exact ⟨rfl, rfl⟩
    · rcases h with rfl | rfl
      · exact ⟨rfl, rfl⟩
      · exact ⟨rfl, rfl⟩
    · have := hty.mp rfl
      omega
/-- the reader's tape, the one reference that changes -/
theorem x_putd {own : String} {idx k r : Nat} (hd : xd y.2.1 pc (.putfield idx) 3 pc') (ho : y.1.cls = own) (fl : FL own idx 3 5 true) (hk : kd k = 3 ∧ rf k 5 = 1 ∧ k < NB) (hr : r < 170) (kk : Wx g y Z K pc' L S (up σ k 5 r)) : Wx g y Z K pc L (vR r :: vR k :: S) σ := by
  refine x_putv (x := r) hd ho fl hk.1 hk.2.2 (by omega) ?_ ⟨by omega, fun h => by omega, fun h => by omega, fun _ _ => by omega⟩ (fun ty ht hty => ?_) ⟨fun h => by decide, fun h => hk.2.1⟩ kk
  · have e : up σ k ((5 : Nat) : Int) (r : Int) k ((5 : Nat) : Int) = (r : Int) := by
      unfold up
      exact if_pos ⟨rfl, rfl⟩
    unfold fvs
    rw [hk.2.1]
    show _ = (if (up σ k ((5 : Nat) : Int) (r : Int) k ((5 : Nat) : Int) < 0) then Value.null else Value.ref (g.2.1 (up σ k ((5 : Nat) : Int) (r : Int) k ((5 : Nat) : Int)).toNat))
    rw [e, if_neg (by omega), Int.toNat_natCast]
    rfl
  · rcases ht with rfl | ⟨rfl, h⟩ | rfl
    · have := hty.mpr hk.2.1
      cases this
    · have := hty.mpr hk.2.1
      cases this
    · exact ⟨rfl, rfl⟩
end XR

