section XA
variable {g : xG} {y : xM} {Z : xZ} {K : Option MV → xS → Prop} {pc pc' : Nat} {L S : List MV} {σ : xS}
theorem nat_of {i : Int} (h : 0 ≤ i) : ((i.toNat : Nat) : Int) = i := by omega
theorem ilt {n : Nat} (i : Int) (h : i < (n : Int)) (hn : n ≤ 100000) : i < 2147483648 := by omega
def AI (k t n : Nat) : Prop := kd k = t ∧ ln k = n ∧ k < NB ∧ n ≤ 100000

theorem x_iald {k n : Nat} {i v : Int} (hd : xd y.2.1 pc .iaload 1 pc') (hk : AI k 20 n) (h0 : 0 ≤ i) (h1 : i < (n : Int)) (hv : σ k i = v) (kk : Wx g y Z K pc' L (vI v :: S) σ) : Wx g y Z K pc L (vI i :: vR k :: S) σ := by
  subst hv
  obtain ⟨k1, k2, k3, k4⟩ := hk
  intro F hL hS hσ H locs ls hH hs hl
  have k0 := kk F hL (xok_cons (xok_tl (xok_tl hS)) (hσ k i).1) hσ H locs ls hH hs hl
  rw [← hd.2] at k0
  have hx := xws_get (g := g) (σ := σ) k3
  rw [xcell_i (by omega) k2, k1] at hx
  refine va_iald F.1 F.2.1 F.2.2.2.2.2.2.2.1 hH k 0 hx rfl (i32_in h0 h1 (ilt i h1 k4)) hd.1 ?_
  rw [i32_cl h0 (ilt i h1 k4), nat_of h0]
  exact k0
theorem x_bald {k n : Nat} {i v : Int} (hd : xd y.2.1 pc .baload 1 pc') (hk : AI k 21 n) (h0 : 0 ≤ i) (h1 : i < (n : Int)) (hv : σ k i = v) (kk : Wx g y Z K pc' L (vI v :: S) σ) : Wx g y Z K pc L (vI i :: vR k :: S) σ := by
  subst hv
  obtain ⟨k1, k2, k3, k4⟩ := hk
  intro F hL hS hσ H locs ls hH hs hl
  have k0 := kk F hL (xok_cons (xok_tl (xok_tl hS)) (hσ k i).1) hσ H locs ls hH hs hl
  rw [← hd.2] at k0
  have hx := xws_get (g := g) (σ := σ) k3
  rw [xcell_i (by omega) k2, k1] at hx
  refine va_bald F.1 F.2.1 F.2.2.2.2.2.2.2.1 hH k 1 hx rfl (i32_in h0 h1 (ilt i h1 k4)) hd.1 ?_
  rw [i32_cl h0 (ilt i h1 k4), nat_of h0]
  exact k0
theorem x_zald {k n : Nat} {i v : Int} (hd : xd y.2.1 pc .baload 1 pc') (hk : AI k 22 n) (h0 : 0 ≤ i) (h1 : i < (n : Int)) (hv : σ k i = v) (kk : Wx g y Z K pc' L (vI v :: S) σ) : Wx g y Z K pc L (vI i :: vR k :: S) σ := by
  subst hv
  obtain ⟨k1, k2, k3, k4⟩ := hk
  intro F hL hS hσ H locs ls hH hs hl
  have k0 := kk F hL (xok_cons (xok_tl (xok_tl hS)) (hσ k i).1) hσ H locs ls hH hs hl
  rw [← hd.2] at k0
  have hx := xws_get (g := g) (σ := σ) k3
  rw [xcell_i (by omega) k2, k1] at hx
  refine va_zald F.1 F.2.1 F.2.2.2.2.2.2.2.1 hH k 2 hx rfl (i32_in h0 h1 (ilt i h1 k4)) hd.1 ?_
  rw [i32_cl h0 (ilt i h1 k4), nat_of h0]
  exact k0
theorem x_alen {k n t : Nat} (hd : xd y.2.1 pc .arraylength 1 pc') (hk : AI k t n) (ht : 20 ≤ t ∧ t < 23) (kk : Wx g y Z K pc' L (vI n :: S) σ) : Wx g y Z K pc L (vR k :: S) σ := by
  obtain ⟨k1, k2, k3, k4⟩ := hk
  intro F hL hS hσ H locs ls hH hs hl
  have k0 := kk F hL (xok_cons (xok_tl hS) (show ok (vI n) from ⟨by omega, by omega⟩)) hσ H locs ls hH hs hl
  rw [← hd.2] at k0
  have hx := xws_get (g := g) (σ := σ) k3
  rw [xcell_i (by omega) k2, k1] at hx
  have e : Int32.ofNat n = Int32.ofInt (n : Int) := Int32.ofInt_eq_ofNat.symm
  rcases (show t = 20 ∨ t = 21 ∨ t = 22 by omega) with rfl | rfl | rfl
  · exact va_alen F.1 F.2.1 F.2.2.2.2.2.2.2.1 hH k 0 hx rfl e hd.1 k0
  · exact va_alen F.1 F.2.1 F.2.2.2.2.2.2.2.1 hH k 1 hx rfl e hd.1 k0
  · exact va_alen F.1 F.2.1 F.2.2.2.2.2.2.2.1 hH k 2 hx rfl e hd.1 k0
theorem x_aald {k r t : Nat} {i : Int} (hd : xd y.2.1 pc .aaload 1 pc') (hk : kd k = t ∧ k < NB) (ht : 23 ≤ t ∧ t ≤ 25) (h0 : 0 ≤ i) (h1 : i < (ln k : Int)) (hr : rf k i.toNat = r + 2) (kk : Wx g y Z K pc' L (vR r :: S) σ) : Wx g y Z K pc L (vI i :: vR k :: S) σ := by
  obtain ⟨k1, k3⟩ := hk
  have hln : ∀ k, k < 176 → ln k ≤ 100000 := by decide +kernel
  have hl1 : i < 2147483648 := by
    have := hln k k3
    omega
  intro F hL hS hσ H locs ls hH hs hl
  have k0 := kk F hL (xok_cons (xok_tl (xok_tl hS)) trivial) hσ H locs ls hH hs hl
  rw [← hd.2] at k0
  have hx := xws_get (g := g) (σ := σ) k3
  have hx2 : xcell g σ k = .inl (g.2.2.2 t, ln k, .inr (.inr (.inr (.inr (fun i => some (g.2.1 (rf k i - 2))))))) := by
    unfold xcell
    rw [if_neg (by omega), if_neg (by omega), k1]
  rw [hx2] at hx
  have e : va_rf (some (g.2.1 (rf k (Int32.ofInt i).toNatClampNeg - 2))) = cv g (vR r) := by
    rw [i32_cl h0 hl1, hr]
    rfl
  rcases (show t = 23 ∨ t = 24 ∨ t = 25 by omega) with rfl | rfl | rfl
  · refine va_aldq F.1 F.2.1 F.2.2.2.2.2.2.2.1 hH k 3 hx rfl (i32_in h0 h1 hl1) hd.1 ?_
    rw [e]; exact k0
  · refine va_aldq F.1 F.2.1 F.2.2.2.2.2.2.2.1 hH k 4 hx rfl (i32_in h0 h1 hl1) hd.1 ?_
    rw [e]; exact k0
  · refine va_aldq F.1 F.2.1 F.2.2.2.2.2.2.2.1 hH k 5 hx rfl (i32_in h0 h1 hl1) hd.1 ?_
    rw [e]; exact k0
theorem upd_up {k : Nat} {i x : Int} (h0 : 0 ≤ i) : upd (fun j : Nat => Int32.ofInt (σ k j)) i.toNat (Int32.ofInt x) = (fun j : Nat => Int32.ofInt (up σ k i x k j)) := by
  funext j
  unfold upd up
  by_cases h : j = i.toNat
  · rw [if_pos h, if_pos ⟨rfl, by omega⟩]
  · rw [if_neg h, if_neg (by omega)]
theorem byte_nar {x : Int} (h : -128 ≤ x ∧ x < 128) : vp_nar .byte (Int32.ofInt x) = Int32.ofInt x := by
  rw [vp_nar_byte, ← Int32.toInt_inj, Int8.toInt_toInt32, Int32.toInt_toInt8, i32 (by omega) (by omega)]
  rw [Int.bmod_eq_of_le] <;> omega
theorem bool_nar {x : Int} (h : x = 0 ∨ x = 1) : vp_nar .boolean (Int32.ofInt x) = Int32.ofInt x := by
  rcases h with rfl | rfl <;> rfl

theorem x_iast {k n : Nat} {i x : Int} (hd : xd y.2.1 pc .iastore 1 pc') (hk : AI k 20 n) (h0 : 0 ≤ i) (h1 : i < (n : Int)) (kk : Wx g y Z K pc' L S (up σ k i x)) : Wx g y Z K pc L (vI x :: vI i :: vR k :: S) σ := by
  obtain ⟨k1, k2, k3, k4⟩ := hk
  intro F hL hS hσ H locs ls hH hs hl
  have hx9 := xok_hd hS
  simp only [ok, vI] at hx9
  have hI : xInj g := F.2.2.2.2.2.2.2.2.1
  have hx := xws_get (g := g) (σ := σ) k3
  rw [xcell_i (by omega) k2, k1] at hx
  refine va_iast (A := xA g) (H0 := Z.2.2.1.heap) F.1 F.2.1 F.2.2.2.2.2.2.2.1 hH (xD hI) hs k 0 hx rfl (i32_in h0 h1 (ilt i h1 k4)) hd.1 (fun H1 locs1 hP hD hS1 => ?_)
  rw [i32_cl h0 (ilt i h1 k4), upd_up h0] at hP
  have e := xws_set (g := g) (σ := σ) (σ' := up σ k i x) (e := .inl (g.2.2.2 20, n, .inl (fun j : Nat => Int32.ofInt (up σ k i x k j)))) k3 (by rw [xcell_i (by omega) k2, k1]) (fun i hi => up_ne hi)
  rw [e] at hP
  have k0 := kk F hL (xok_tl (xok_tl (xok_tl hS))) (okS_up hσ (show okv k i x from ⟨hx9, fun h => by omega, fun h => by omega, fun h _ => by omega⟩)) H1 locs1 ls hP hS1 hl
  rw [← hd.2] at k0
  exact k0
theorem x_bast {k n : Nat} {i x : Int} (hd : xd y.2.1 pc .bastore 1 pc') (hk : AI k 21 n) (h0 : 0 ≤ i) (h1 : i < (n : Int)) (hb : -128 ≤ x ∧ x < 128) (kk : Wx g y Z K pc' L S (up σ k i x)) : Wx g y Z K pc L (vI x :: vI i :: vR k :: S) σ := by
  obtain ⟨k1, k2, k3, k4⟩ := hk
  intro F hL hS hσ H locs ls hH hs hl
  have hx9 := xok_hd hS
  simp only [ok, vI] at hx9
  have hI : xInj g := F.2.2.2.2.2.2.2.2.1
  have hx := xws_get (g := g) (σ := σ) k3
  rw [xcell_i (by omega) k2, k1] at hx
  refine va_bast (A := xA g) (H0 := Z.2.2.1.heap) F.1 F.2.1 F.2.2.2.2.2.2.2.1 hH (xD hI) hs k 1 hx rfl (i32_in h0 h1 (ilt i h1 k4)) hd.1 (fun H1 locs1 hP hD hS1 => ?_)
  rw [i32_cl h0 (ilt i h1 k4), byte_nar hb, upd_up h0] at hP
  have e := xws_set (g := g) (σ := σ) (σ' := up σ k i x) (e := .inl (g.2.2.2 21, n, .inl (fun j : Nat => Int32.ofInt (up σ k i x k j)))) k3 (by rw [xcell_i (by omega) k2, k1]) (fun i hi => up_ne hi)
  rw [e] at hP
  have k0 := kk F hL (xok_tl (xok_tl (xok_tl hS))) (okS_up hσ (show okv k i x from ⟨hx9, fun h => hb, fun h => by omega, fun h _ => by omega⟩)) H1 locs1 ls hP hS1 hl
  rw [← hd.2] at k0
  exact k0
theorem x_zast {k n : Nat} {i x : Int} (hd : xd y.2.1 pc .bastore 1 pc') (hk : AI k 22 n) (h0 : 0 ≤ i) (h1 : i < (n : Int)) (hb : x = 0 ∨ x = 1) (kk : Wx g y Z K pc' L S (up σ k i x)) : Wx g y Z K pc L (vI x :: vI i :: vR k :: S) σ := by
  obtain ⟨k1, k2, k3, k4⟩ := hk
  intro F hL hS hσ H locs ls hH hs hl
  have hx9 := xok_hd hS
  simp only [ok, vI] at hx9
  have hI : xInj g := F.2.2.2.2.2.2.2.2.1
  have hx := xws_get (g := g) (σ := σ) k3
  rw [xcell_i (by omega) k2, k1] at hx
  refine va_zast (A := xA g) (H0 := Z.2.2.1.heap) F.1 F.2.1 F.2.2.2.2.2.2.2.1 hH (xD hI) hs k 2 hx rfl (i32_in h0 h1 (ilt i h1 k4)) hd.1 (fun H1 locs1 hP hD hS1 => ?_)
  rw [i32_cl h0 (ilt i h1 k4), bool_nar hb, upd_up h0] at hP
  have e := xws_set (g := g) (σ := σ) (σ' := up σ k i x) (e := .inl (g.2.2.2 22, n, .inl (fun j : Nat => Int32.ofInt (up σ k i x k j)))) k3 (by rw [xcell_i (by omega) k2, k1]) (fun i hi => up_ne hi)
  rw [e] at hP
  have k0 := kk F hL (xok_tl (xok_tl (xok_tl hS))) (okS_up hσ (show okv k i x from ⟨hx9, fun h => by omega, fun h => hb, fun h _ => by omega⟩)) H1 locs1 ls hP hS1 hl
  rw [← hd.2] at k0
  exact k0
/-! static arrays -/
theorem x_gets {own : String} {q idx : Nat} (hd : xd y.2.1 pc (.getstatic idx) 3 pc') (ho : y.1.cls = own) (hq : q < 5) (hw : Cond.fieldLink own idx (stC.getD q "") (stN.getD q "") "[I" ∈ gw) (kk : Wx g y Z K pc' L (vR (300 + q) :: S) σ) : Wx g y Z K pc L S σ := by
  intro F hL hS hσ H locs ls hH hs hl
  have k0 := kk F hL (xok_cons hS trivial) hσ H locs ls hH hs hl
  rw [← hd.2] at k0
  exact va_gets F.1 F.2.1 (own := own) (F.2.2.2.2.2.2.2.2.2.1.1 q hq).1 hs (by rw [← ho]; exact F.2.2.2.2.2.1) (F.2.2.2.2.2.2.1 _ (List.mem_cons_of_mem _ hw)) (fun _ h => h) hd.1 k0
theorem x_stald {q : Nat} {i v : Int} (hd : xd y.2.1 pc .iaload 1 pc') (hq : q < 5) (h0 : 0 ≤ i) (h1 : i < ((stV.getD q []).length : Int)) (hv : (stV.getD q []).getD i.toNat 0 = v) (hok : -2147483648 ≤ v ∧ v < 2147483648) (kk : Wx g y Z K pc' L (vI v :: S) σ) : Wx g y Z K pc L (vI i :: vR (300 + q) :: S) σ := by
  have hb : ∀ q, q < 5 → (stV.getD q []).length ≤ 100 := by decide +kernel
  have hl1 : i < 2147483648 := by
    have := hb q hq
    omega
  intro F hL hS hσ H locs ls hH hs hl
  have k0 := kk F hL (xok_cons (xok_tl (xok_tl hS)) hok) hσ H locs ls hH hs hl
  rw [← hd.2] at k0
  exact va_ti F.1 F.2.1 (F.2.2.2.2.2.2.2.2.2.1.1 q hq).2 hs (i32_in h0 h1 hl1) (v := cv g (vI v)) (by rw [i32_cl h0 hl1, hv]; rfl) hd.1 k0
theorem x_stlen {q n : Nat} (hd : xd y.2.1 pc .arraylength 1 pc') (hq : q < 5) (hn : (stV.getD q []).length = n) (hn2 : n ≤ 100) (kk : Wx g y Z K pc' L (vI n :: S) σ) : Wx g y Z K pc L (vR (300 + q) :: S) σ := by
  intro F hL hS hσ H locs ls hH hs hl
  have k0 := kk F hL (xok_cons (xok_tl hS) (show ok (vI n) from ⟨by omega, by omega⟩)) hσ H locs ls hH hs hl
  rw [← hd.2] at k0
  exact va_tlen F.1 F.2.1 (F.2.2.2.2.2.2.2.2.2.1.1 q hq).2 hs (v := Int32.ofInt (n : Int)) (by rw [hn]; exact Int32.ofInt_eq_ofNat.symm) hd.1 k0
/-! strings -/
theorem x_getC {own : String} {idx : Nat} (hd : xd y.2.1 pc (.getstatic idx) 3 pc') (ho : y.1.cls = own) (hw : Cond.fieldLink own idx "java/lang/String" "COMPACT_STRINGS" "Z" ∈ gw) (kk : Wx g y Z K pc' L (vI 1 :: S) σ) : Wx g y Z K pc L S σ := by
  intro F hL hS hσ H locs ls hH hs hl
  have k0 := kk F hL (xok_cons hS (show ok (vI 1) from ⟨by omega, by omega⟩)) hσ H locs ls hH hs hl
  rw [← hd.2] at k0
  exact va_gets F.1 F.2.1 (own := own) F.2.2.2.2.2.2.2.2.2.1.2.1.1 hs (by rw [← ho]; exact F.2.2.2.2.2.1) (F.2.2.2.2.2.2.1 _ (List.mem_cons_of_mem _ hw)) (fun _ h => h) hd.1 k0
theorem x_getSc {own : String} {idx i : Nat} (hd : xd y.2.1 pc (.getfield idx) 3 pc') (ho : y.1.cls = own) (hi : i < 16) (hw : Cond.fieldLink own idx "java/lang/String" "coder" "B" ∈ gw) (kk : Wx g y Z K pc' L (vI 0 :: S) σ) : Wx g y Z K pc L (vR (310 + i) :: S) σ := by
  intro F hL hS hσ H locs ls hH hs hl
  have k0 := kk F hL (xok_cons (xok_tl hS) (show ok (vI 0) from ⟨by omega, by omega⟩)) hσ H locs ls hH hs hl
  rw [← hd.2] at k0
  exact vk_getf F.1 F.2.1 (own := own) (F.2.2.2.2.2.2.2.2.2.1.2.2.1 i hi).2.1 hs (by rw [← ho]; exact F.2.2.2.2.2.1) (F.2.2.2.2.2.2.1 _ (List.mem_cons_of_mem _ hw)) (fun _ h => h) hd.1 k0
theorem x_getSv {own : String} {idx i : Nat} (hd : xd y.2.1 pc (.getfield idx) 3 pc') (ho : y.1.cls = own) (hi : i < 16) (hw : Cond.fieldLink own idx "java/lang/String" "value" "[B" ∈ gw) (kk : Wx g y Z K pc' L (vR (340 + i) :: S) σ) : Wx g y Z K pc L (vR (310 + i) :: S) σ := by
  intro F hL hS hσ H locs ls hH hs hl
  have k0 := kk F hL (xok_cons (xok_tl hS) trivial) hσ H locs ls hH hs hl
  rw [← hd.2] at k0
  exact vk_getf F.1 F.2.1 (own := own) (F.2.2.2.2.2.2.2.2.2.1.2.2.1 i hi).2.2.1 hs (by rw [← ho]; exact F.2.2.2.2.2.1) (F.2.2.2.2.2.2.1 _ (List.mem_cons_of_mem _ hw)) (fun _ h => h) hd.1 k0
theorem x_sblen {i n : Nat} (hd : xd y.2.1 pc .arraylength 1 pc') (hi : i < 16) (hn : srL.getD i 0 = n) (hn2 : n ≤ 100) (kk : Wx g y Z K pc' L (vI n :: S) σ) : Wx g y Z K pc L (vR (340 + i) :: S) σ := by
  intro F hL hS hσ H locs ls hH hs hl
  have k0 := kk F hL (xok_cons (xok_tl hS) (show ok (vI n) from ⟨by omega, by omega⟩)) hσ H locs ls hH hs hl
  rw [← hd.2] at k0
  exact va_tlen F.1 F.2.1 (F.2.2.2.2.2.2.2.2.2.1.2.2.1 i hi).2.2.2 hs (v := Int32.ofInt (n : Int)) (by rw [hn]; exact Int32.ofInt_eq_ofNat.symm) hd.1 k0
def srI (i : Nat) (j : Int) : Int := ((srB.getD i []).getD j.toNat 0).toInt
theorem x_sbld {i : Nat} {j v : Int} (hd : xd y.2.1 pc .baload 1 pc') (hi : i < 16) (h0 : 0 ≤ j) (h1 : j < (srL.getD i 0 : Int)) (hv : srI i j = v) (kk : Wx g y Z K pc' L (vI v :: S) σ) : Wx g y Z K pc L (vI j :: vR (340 + i) :: S) σ := by
  subst hv
  have hb : ∀ q, q < 16 → srL.getD q 0 ≤ 100 := by decide +kernel
  have hl1 : j < 2147483648 := by
    have := hb i hi
    omega
  intro F hL hS hσ H locs ls hH hs hl
  have k0 := kk F hL (xok_cons (xok_tl (xok_tl hS)) (toInt_ok _)) hσ H locs ls hH hs hl
  rw [← hd.2] at k0
  exact va_tb F.1 F.2.1 (F.2.2.2.2.2.2.2.2.2.1.2.2.1 i hi).2.2.2 hs (i32_in h0 h1 hl1) (v := cv g (vI (srI i j))) (by rw [i32_cl h0 hl1]; exact congrArg Value.int (Int32.ofInt_toInt _).symm) hd.1 k0
/-! ends -/
theorem x_iret {v : Int} (hd : xd y.2.1 pc .ireturn 1 pc') (hr : y.2.2.2.1 = some .int) (k : K (some (vI v)) σ) : Wx g y Z K pc L [vI v] σ := by
  intro F hL hS hσ H locs ls hH hs hl
  exact W.iret (v := Int32.ofInt v) F.1 F.2.1 (by rw [F.2.2.2.1, hr]) (fun t ht hW => ⟨⟨some (vI v), σ, rfl, fun u hu => by cases hu; exact xok_hd hS, k, by rw [ht]; exact hH, hσ⟩, hs.F ht⟩) hs.2.2 hd.1 F.2.2.2.2.1
theorem x_zret {v : Int} (hd : xd y.2.1 pc .ireturn 1 pc') (hr : y.2.2.2.1 = some .boolean) (hv : v = 0 ∨ v = 1) (k : K (some (vI v)) σ) : Wx g y Z K pc L [vI v] σ := by
  intro F hL hS hσ H locs ls hH hs hl
  exact W.zret (v := Int32.ofInt v) F.1 F.2.1 (ty := .boolean) (by rw [F.2.2.2.1, hr]) (by rcases hv with rfl | rfl <;> rfl) (fun t ht hW => ⟨⟨some (vI v), σ, rfl, fun u hu => by cases hu; exact xok_hd hS, k, by rw [ht]; exact hH, hσ⟩, hs.F ht⟩) hs.2.2 hd.1 F.2.2.2.2.1
theorem x_ret (hd : xd y.2.1 pc .return_ 1 pc') (hr : y.2.2.2.1 = none) (k : K none σ) : Wx g y Z K pc L [] σ := by
  intro F hL hS hσ H locs ls hH hs hl
  exact W.vret F.1 F.2.1 (by rw [F.2.2.2.1, hr]) (fun t ht hW => ⟨⟨none, σ, rfl, (fun u hu => by cases hu), k, by rw [ht]; exact hH, hσ⟩, hs.F ht⟩) hs.2.2 hd.1 F.2.2.2.2.1
theorem x_aret {r : Nat} {C : String} (hd : xd y.2.1 pc .areturn 1 pc') (hr : y.2.2.2.1 = some (.object C)) (k : K (some (vR r)) σ) : Wx g y Z K pc L [vR r] σ := by
  intro F hL hS hσ H locs ls hH hs hl
  exact W.aret (v := .ref (g.2.1 r)) F.1 F.2.1 (rt := .object C) (by rw [F.2.2.2.1, hr]) (Or.inl ⟨C, rfl⟩) (Or.inr ⟨_, rfl⟩) (fun t ht hW => ⟨⟨some (vR r), σ, rfl, fun u hu => by cases hu; trivial, k, by rw [ht]; exact hH, hσ⟩, hs.F ht⟩) hs.2.2 hd.1 F.2.2.2.2.1
theorem x_aretN {C : String} (hd : xd y.2.1 pc .areturn 1 pc') (hr : y.2.2.2.1 = some (.object C)) (k : K (some vN) σ) : Wx g y Z K pc L [vN] σ := by
  intro F hL hS hσ H locs ls hH hs hl
  exact W.aret (v := .null) F.1 F.2.1 (rt := .object C) (by rw [F.2.2.2.1, hr]) (Or.inl ⟨C, rfl⟩) (Or.inl rfl) (fun t ht hW => ⟨⟨some vN, σ, rfl, fun u hu => by cases hu; trivial, k, by rw [ht]; exact hH, hσ⟩, hs.F ht⟩) hs.2.2 hd.1 F.2.2.2.2.1
theorem x_lret {v : Int} (hd : xd y.2.1 pc .lreturn 1 pc') (hr : y.2.2.2.1 = some .long) (k : K (some (vL v)) σ) : Wx g y Z K pc L [vL v] σ := by
  intro F hL hS hσ H locs ls hH hs hl
  exact W.lret (v := Int64.ofInt v) F.1 F.2.1 (by rw [F.2.2.2.1, hr]) (fun t ht hW => ⟨⟨some (vL v), σ, rfl, fun u hu => by cases hu; exact xok_hd hS, k, by rw [ht]; exact hH, hσ⟩, hs.F ht⟩) hs.2.2 hd.1 F.2.2.2.2.1
/-! calls -/
def CI (yc : xM) (n : Nat) : Prop := Cond.initialized yc.1.cls ∈ gw ∧ Cond.code yc.1 yc.2.1 yc.2.2.1 yc.2.2.2.1 ∈ gw ∧ yc.2.2.1 ≤ 21 ∧ (yc.1.cls ≠ "java/lang/invoke/MethodHandle" ∧ yc.1.cls ≠ "java/lang/invoke/VarHandle" ∧ (parseMethodDescriptor yc.1.desc).map (fun d => d.parameters.length) = some n)
def CV (yc : xM) (n : Nat) : Prop := CI yc n ∧ Cond.instanceMethod yc.1 ∈ gw ∧ Cond.selects yc.1.cls yc.1 yc.1 ∈ gw
def CS (yc : xM) (n : Nat) : Prop := CI yc n ∧ Cond.static yc.1 ∈ gw
theorem x_after {S0 : List MV} {a : Array Value} {H : Heap} {locs : List Loc} {ls : Array Slot} (F : xF g y Z) (hL : ∀ v ∈ L, ok v) (hS : ∀ v ∈ S, ok v) (hs : va_S (xA g) Z.2.2.1.heap H locs) (hl : lv_has ls y.2.2.1 (lvl g 0 L)) (hp : pc + 3 = pc')
    (hr : va_Run Z.1 g.1 Z.2.1 (xRm y.2.2.2.2) Z.2.2.1 Z.2.2.2.1 Z.2.2.2.2.1 Z.2.2.2.2.2.1 Z.2.2.2.2.2.2.1 Z.2.2.2.2.2.2.2 H locs 0 0 0 0 (F0 Z.2.2.2.1 pc ls (S0.map (cv g))) (S.map (cv g)) (xQ g (fun r σ' => Wx g y Z K pc' L (r.toList ++ S) σ') a) (xA g)) :
    W Z.1 g.1 Z.2.1 (xRm y.2.2.2.2) Z.2.2.1 Z.2.2.2.1 Z.2.2.2.2.1 Z.2.2.2.2.2.1 Z.2.2.2.2.2.2.1 Z.2.2.2.2.2.2.2 H locs 0 0 (MQ Z.2.2.2.2.2.1 (xQ g K) Z.2.2.2.2.1 Z.2.2.1 0 0 (xA g)) (F0 Z.2.2.2.1 pc ls (S0.map (cv g))) := by
  intro T hT X
  obtain ⟨v, st₀, t, T', Lc, h0, X', hLc, e1, e2, ⟨⟨r, σ', hv, hro, hw, hH, hσ'⟩, hz, hk⟩, st⟩ := hr T hT X
  have hv' : v = r.map (cv g) := by cases hv; rfl
  subst hv'
  rw [h0] at hz hk
  have hSr : ∀ u ∈ r.toList ++ S, ok u := fun u hu => by
    rcases List.mem_append.mp hu with h | h
    · exact hro u (by cases r with | none => cases h | some x => simp at h; rw [h])
    · exact hS u h
  have hs1 : va_S (xA g) Z.2.2.1.heap T'.heap (locs ++ Lc) := ⟨Nat.le_trans hs.1 (by rw [e1]; exact hz), fun q h1 h2 => by rw [e1, hk q (Nat.lt_of_lt_of_le h1 hs.1) h2]; exact hs.2.1 q h1 h2, fun q hq => by
    rcases List.mem_append.mp hq with h | h
    · exact hs.2.2 q h
    · exact hLc q h⟩
  have k0 := hw F hL hSr hσ' T'.heap (locs ++ Lc) ls (by rw [e1]; exact hH) hs1 hl
  rw [← hp] at k0
  obtain ⟨t2, a1, b1⟩ := k0 T' rfl X'
  refine ⟨t2, st t2 ?_, b1⟩
  have e3 : (r.toList ++ S).map (cv g) = (r.map (cv g)).toList ++ S.map (cv g) := by cases r <;> rfl
  rw [e3] at a1
  exact a1
theorem x_pre (F : xF g y Z) (hσ : okS σ) {H : Heap} {locs : List Loc} (hH : xHp g σ H) (hs : va_S (xA g) Z.2.2.1.heap H locs) {av : List Value} (U : State) (hU : U.heap = H) (hW : Z.2.2.1.WarmedH U.vm) : va_Pc av (xWd g σ) av.toArray U :=
  ⟨rfl, by rw [hU]; exact hH, xK_moved hW.alike F.2.2.2.2.2.2.2.1, F.2.2.2.2.2.2.2.2.1, by rw [hU]; exact xRO_moved hW.alike hs.2.1 F.2.2.2.2.2.2.2.2.2.1, xNs_warm hW F.2.2.2.2.2.2.2.2.2.2, hσ⟩
theorem gw_goodIn {y yc : xM} (h : Cond.code yc.1 yc.2.1 yc.2.2.1 yc.2.2.2.1 ∈ gw) : GoodIn (xWs y) (xWs yc) := fun w hw => by
  rcases List.mem_cons.mp hw with rfl | h1
  · exact ⟨List.mem_cons_of_mem _ h, gw_good _ h⟩
  · exact ⟨List.mem_cons_of_mem _ h1, gw_good _ h1⟩
/-- the receiver is an object of the world or a string -/
def RV (b : Nat) (C : String) : Prop := (b < NB ∧ ∃ (T : u_T) (N : Nat), classes[kd b]? = some (C, T, N) ∧ kd b < 20) ∨ (310 ≤ b ∧ b < 326 ∧ C = "java/lang/String")
theorem x_recv (F : xF g y Z) {H : Heap} {locs : List Loc} (hH : xHp g σ H) (hs : va_S (xA g) Z.2.2.1.heap H locs) {b : Nat} {C : String} (h : RV b C) : ∃ cellB : Cell, H[g.2.1 b]? = some cellB ∧ cellB.vm.isStatics = false ∧ Z.2.2.1.vm.findClass C = some cellB.cls := by
  rcases h with ⟨h1, T, N, h2, h3⟩ | ⟨h1, h2, rfl⟩
  · have hx := xws_get (g := g) (σ := σ) h1
    rw [xcell_o rfl h3] at hx
    exact va_recv F.2.2.2.2.2.2.2.1 hH h2 hx
  · have := vk_recv (F.2.2.2.2.2.2.2.2.2.1.2.2) (i := b - 310) (by omega) hs
    rw [show 310 + (b - 310) = b by omega] at this
    exact this
theorem x_inv {own : String} {idx n b : Nat} {yc : xM} {As S0 : List MV} (hd : xd y.2.1 pc (.invokevirtual idx) 3 pc') (ho : y.1.cls = own) (hc : CV yc n) (hl : Cond.methodLink own idx yc.1 ∈ gw) (hdep : yc.2.2.2.2 + 1 ≤ y.2.2.2.2) (hb : RV b yc.1.cls) (hn : As.length = n) (hst : S0 = As.reverse ++ vR b :: S) (h8 : ((S.map (cv g)).map (fun v => v.category)).sum ≤ 8)
    (k : Mt g yc (vR b :: As) σ (fun r σ' => Wx g y Z K pc' L (r.toList ++ S) σ')) : Wx g y Z K pc L S0 σ := by
  subst hst
  intro F hL hS hσ H locs ls hH hs hll
  have hSt : ∀ v ∈ S, ok v := fun v hv => hS v (List.mem_append_right _ (List.mem_cons_of_mem _ hv))
  have hM := k (fun v hv => by
    rcases List.mem_cons.mp hv with rfl | h
    · trivial
    · exact hS v (List.mem_append_left _ (List.mem_reverse.mpr h)))
  obtain ⟨⟨c1, c2, c3, c4⟩, c5, c6⟩ := hc
  have hts := F.2.2.2.2.2.2.1
  have cb := callB_of (ret := yc.2.2.2.1) (own := own) (index := idx) (R := xRm y.2.2.2.2) (rm := xRm yc.2.2.2.2) (mc := 0) (ms := 0) n hts (gw_goodIn (y := y) c2) rfl rfl rfl (hts _ (List.mem_cons_of_mem _ c1)) (hts _ (List.mem_cons_of_mem _ hl)) c4 ⟨hdep, by show 8 + (yc.2.2.1 + 11) + 40 * yc.2.2.2.2 ≤ 40 * y.2.2.2.2; omega⟩
  have hr := va_runV (e := Z.2.1) (below := Z.2.2.2.2.2.1) (meth := Z.2.2.2.2.2.2.1) (locs := locs) (cells := 0) (slots := 0) (As := As.map (cv g)) (rest := S.map (cv g)) (g := F0 Z.2.2.2.1 pc ls ((As.reverse ++ vR b :: S).map (cv g))) ⟨F.1, F.2.1, F.2.2.1, (by rw [← ho]; exact F.2.2.2.2.2.1), hts⟩ hM ⟨cb, hts _ (List.mem_cons_of_mem _ c5), hts _ (List.mem_cons_of_mem _ c6)⟩ ⟨xWd_blind, x_recv F hH hs hb, fun U hU hW => x_pre F hσ hH hs U hU hW⟩ rfl (by rw [List.length_map]; exact hn) hll.1 (by simp only [List.map_append, List.map_reverse, List.map_cons]; rfl) (by show 2 * 0 + _ ≤ 8; omega) hd.1 ⟨Nat.le_refl _, Nat.le_refl _⟩
  exact x_after F hL hSt hs hll hd.2 hr
theorem x_invs {own : String} {idx n : Nat} {yc : xM} {As S0 : List MV} (hd : xd y.2.1 pc (.invokestatic idx) 3 pc') (ho : y.1.cls = own) (hc : CS yc n) (hl : Cond.methodLink own idx yc.1 ∈ gw) (hdep : yc.2.2.2.2 + 1 ≤ y.2.2.2.2) (hn : As.length = n) (hst : S0 = As.reverse ++ S) (h8 : ((S.map (cv g)).map (fun v => v.category)).sum ≤ 8)
    (k : Mt g yc As σ (fun r σ' => Wx g y Z K pc' L (r.toList ++ S) σ')) : Wx g y Z K pc L S0 σ := by
  subst hst
  intro F hL hS hσ H locs ls hH hs hll
  have hSt : ∀ v ∈ S, ok v := fun v hv => hS v (List.mem_append_right _ hv)
  have hM := k (fun v hv => hS v (List.mem_append_left _ (List.mem_reverse.mpr hv)))
  obtain ⟨⟨c1, c2, c3, c4⟩, c5⟩ := hc
  have hts := F.2.2.2.2.2.2.1
  have cb := callB_of (ret := yc.2.2.2.1) (own := own) (index := idx) (R := xRm y.2.2.2.2) (rm := xRm yc.2.2.2.2) (mc := 0) (ms := 0) n hts (gw_goodIn (y := y) c2) rfl rfl rfl (hts _ (List.mem_cons_of_mem _ c1)) (hts _ (List.mem_cons_of_mem _ hl)) c4 ⟨hdep, by show 8 + (yc.2.2.1 + 11) + 40 * yc.2.2.2.2 ≤ 40 * y.2.2.2.2; omega⟩
  have hr := va_runS (e := Z.2.1) (below := Z.2.2.2.2.2.1) (meth := Z.2.2.2.2.2.2.1) (locs := locs) (cells := 0) (slots := 0) (As := As.map (cv g)) (rest := S.map (cv g)) (g := F0 Z.2.2.2.1 pc ls ((As.reverse ++ S).map (cv g))) ⟨F.1, F.2.1, F.2.2.1, (by rw [← ho]; exact F.2.2.2.2.2.1), hts⟩ hM ⟨cb, hts _ (List.mem_cons_of_mem _ c5)⟩ ⟨xWd_blind, fun U hU hW => x_pre F hσ hH hs U hU hW⟩ rfl (by rw [List.length_map]; exact hn) hll.1 (by simp only [List.map_append, List.map_reverse]) (by show 2 * 0 + _ ≤ 8; omega) hd.1 ⟨Nat.le_refl _, Nat.le_refl _⟩
  exact x_after F hL hSt hs hll hd.2 hr
end XA


