/-! the law's words: rules for long numbers, its two rows of words -/
section
variable {g : xG} {y : xM} {Z : xZ} {K : Option MV → xS → Prop} {pc pc' : Nat} {L S : List MV} {σ : xS}
theorem x_lcmps {a b : Int} (hd : xd y.2.1 pc .lcmp 1 pc') (kk : ∀ r : Int, (r = 0 ↔ a = b) → (r < 0 ↔ a < b) → -1 ≤ r ∧ r ≤ 1 → Wx g y Z K pc' L (vI r :: S) σ) : Wx g y Z K pc L (vL b :: vL a :: S) σ := by
  intro F hL hS hσ H locs ls hH hs hl
  have hb := xok_hd hS
  have ha := xok_hd (xok_tl hS)
  simp only [ok, vL] at ha hb
  have he : Int64.ofInt a = Int64.ofInt b ↔ a = b := by
    rw [← Int64.toInt_inj, i64 ha.1 ha.2, i64 hb.1 hb.2]
  have hgt : Int64.ofInt a > Int64.ofInt b ↔ b < a := by
    show Int64.ofInt b < Int64.ofInt a ↔ _
    rw [Int64.lt_iff_toInt_lt, i64 ha.1 ha.2, i64 hb.1 hb.2]
  have hr : (lg_cmp (Int64.ofInt a) (Int64.ofInt b)) = Int32.ofInt (lg_cmp (Int64.ofInt a) (Int64.ofInt b)).toInt := (Int32.ofInt_toInt _).symm
  have h0 : (lg_cmp (Int64.ofInt a) (Int64.ofInt b)).toInt = if b < a then 1 else if a = b then 0 else -1 := by
    unfold lg_cmp
    by_cases c1 : b < a
    · rw [if_pos (hgt.mpr c1), if_pos c1]; decide
    · rw [if_neg (fun h => c1 (hgt.mp h)), if_neg c1]
      by_cases c2 : a = b
      · rw [if_pos (he.mpr c2), if_pos c2]; decide
      · rw [if_neg (fun h => c2 (he.mp h)), if_neg c2]; decide
  have h1 : ((lg_cmp (Int64.ofInt a) (Int64.ofInt b)).toInt = 0 ↔ a = b) ∧ ((lg_cmp (Int64.ofInt a) (Int64.ofInt b)).toInt < 0 ↔ a < b) ∧ (-1 ≤ (lg_cmp (Int64.ofInt a) (Int64.ofInt b)).toInt ∧ (lg_cmp (Int64.ofInt a) (Int64.ofInt b)).toInt ≤ 1) := by
    rw [h0]
    split
    · omega
    · split <;> omega
  have k := kk _ h1.1 h1.2.1 h1.2.2 F hL (xok_cons (xok_tl (xok_tl hS)) (toInt_ok _)) hσ H locs ls hH hs hl
  rw [← hd.2] at k
  refine W.lcmp F.1 F.2.1 hd.1 ?_
  rw [hr]
  exact k
theorem x_ldiv {a b v : Int} (hd : xd y.2.1 pc .ldiv 1 pc') (h0 : 0 ≤ a ∧ 0 < b) (he : a / b = v) (kk : Wx g y Z K pc' L (vL v :: S) σ) : Wx g y Z K pc L (vL b :: vL a :: S) σ := by
  subst he
  intro F hL hS hσ H locs ls hH hs hl
  have hb := xok_hd hS
  have ha := xok_hd (xok_tl hS)
  simp only [ok, vL] at ha hb
  have hq : 0 ≤ a / b ∧ a / b ≤ a := ⟨Int.ediv_nonneg h0.1 (by omega), Int.ediv_le_self b h0.1⟩
  have k := kk F hL (xok_cons (xok_tl (xok_tl hS)) (show ok (vL (a / b)) from ⟨by omega, by omega⟩)) hσ H locs ls hH hs hl
  rw [← hd.2] at k
  refine lv_ldiv F.1 F.2.1 hd.1 (fun h => ?_) ?_
  · have h2 := congrArg Int64.toInt h
    rw [i64 hb.1 hb.2] at h2
    have : (0 : Int64).toInt = 0 := by decide
    omega
  · have e : Int64.ofInt a / Int64.ofInt b = Int64.ofInt (a / b) := by
      rw [← Int64.toInt_inj, lg_ldiv_nonneg (by rw [i64 ha.1 ha.2]; omega) (by rw [i64 hb.1 hb.2]; omega), i64 ha.1 ha.2, i64 hb.1 hb.2, i64 (by omega) (by omega)]
    rw [e]
    exact k
theorem x_lrem {a b v : Int} (hd : xd y.2.1 pc .lrem 1 pc') (h0 : 0 ≤ a ∧ 0 < b) (he : a % b = v) (kk : Wx g y Z K pc' L (vL v :: S) σ) : Wx g y Z K pc L (vL b :: vL a :: S) σ := by
  subst he
  intro F hL hS hσ H locs ls hH hs hl
  have hb := xok_hd hS
  have ha := xok_hd (xok_tl hS)
  simp only [ok, vL] at ha hb
  have hq : 0 ≤ a / b ∧ a / b ≤ a := ⟨Int.ediv_nonneg h0.1 (by omega), Int.ediv_le_self b h0.1⟩
  have hm : 0 ≤ a % b ∧ a % b < b := ⟨Int.emod_nonneg _ (by omega), Int.emod_lt_of_pos _ h0.2⟩
  have k := kk F hL (xok_cons (xok_tl (xok_tl hS)) (show ok (vL (a % b)) from ⟨by omega, by omega⟩)) hσ H locs ls hH hs hl
  rw [← hd.2] at k
  refine lv_lrem F.1 F.2.1 hd.1 (fun h => ?_) ?_
  · have h2 := congrArg Int64.toInt h
    rw [i64 hb.1 hb.2] at h2
    have : (0 : Int64).toInt = 0 := by decide
    omega
  · have e : Int64.ofInt a / Int64.ofInt b = Int64.ofInt (a / b) := by
      rw [← Int64.toInt_inj, lg_ldiv_nonneg (by rw [i64 ha.1 ha.2]; omega) (by rw [i64 hb.1 hb.2]; omega), i64 ha.1 ha.2, i64 hb.1 hb.2, i64 (by omega) (by omega)]
    have e2 : Int64.ofInt a - Int64.ofInt a / Int64.ofInt b * Int64.ofInt b = Int64.ofInt (a % b) := by
      rw [e, ← Int64.ofInt_mul, ← Int64.ofInt_sub, show a - a / b * b = a % b by rw [Int.emod_def, Int.mul_comm]]
    rw [e2]
    exact k
theorem x_l2i {a v : Int} (hd : xd y.2.1 pc .l2i 1 pc') (he : wr a = v) (kk : Wx g y Z K pc' L (vI v :: S) σ) : Wx g y Z K pc L (vL a :: S) σ := by
  subst he
  intro F hL hS hσ H locs ls hH hs hl
  have k := kk F hL (xok_cons (xok_tl hS) (wr_ok _)) hσ H locs ls hH hs hl
  rw [← hd.2] at k
  refine lv_l2i F.1 F.2.1 hd.1 (v := Int32.ofInt (wr a)) ?_ k
  rw [wr_of]
  exact Int64.toInt32_ofInt
theorem sh64 : ∀ k : Nat, k < 64 → ((Int32.ofInt (k : Int)).toInt64 &&& 63).toBitVec.toNat = k := by decide +kernel
theorem x_lshr {a b v : Int} (hd : xd y.2.1 pc .lshr 1 pc') (h0 : 0 ≤ a ∧ (0 ≤ b ∧ b < 64)) (he : a / 2 ^ b.toNat = v) (kk : Wx g y Z K pc' L (vL v :: S) σ) : Wx g y Z K pc L (vI b :: vL a :: S) σ := by
  subst he
  intro F hL hS hσ H locs ls hH hs hl
  have ha := xok_hd (xok_tl hS)
  simp only [ok, vL] at ha
  have hp : (0 : Int) < 2 ^ b.toNat := Int.pow_pos (by decide)
  have hq : 0 ≤ a / 2 ^ b.toNat ∧ a / 2 ^ b.toNat ≤ a := ⟨Int.ediv_nonneg h0.1 (by omega), Int.ediv_le_self _ h0.1⟩
  have k := kk F hL (xok_cons (xok_tl (xok_tl hS)) (show ok (vL (a / 2 ^ b.toNat)) from ⟨by omega, by omega⟩)) hσ H locs ls hH hs hl
  rw [← hd.2] at k
  refine lv_lshr F.1 F.2.1 hd.1 (v := Int64.ofInt (a / 2 ^ b.toNat)) ?_ k
  have e := sh64 b.toNat (by omega)
  rw [show ((b.toNat : Nat) : Int) = b by omega] at e
  rw [← Int64.toInt_inj, i64 (by omega) (by omega)]
  show BitVec.toInt (BitVec.sshiftRight' _ (BitVec.smod _ 64)) = _
  have e1 : BitVec.smod ((Int32.ofInt b).toInt64 &&& 63).toBitVec 64 = ((Int32.ofInt b).toInt64 &&& 63).toBitVec := by
    have hlt : ((Int32.ofInt b).toInt64 &&& 63).toBitVec.toNat < 64 := by rw [e]; omega
    apply BitVec.toInt_inj.mp
    rw [BitVec.toInt_smod]
    have : ((Int32.ofInt b).toInt64 &&& 63).toBitVec.toInt = (((Int32.ofInt b).toInt64 &&& 63).toBitVec.toNat : Int) := BitVec.toInt_eq_toNat_of_lt (by omega)
    rw [this, e]
    show Int.fmod _ 64 = _
    rw [Int.fmod_eq_emod_of_nonneg _ (by decide)]
    omega
  rw [e1, BitVec.sshiftRight', BitVec.toInt_sshiftRight, e, Int.shiftRight_eq_div_pow]
  show (Int64.ofInt a).toInt / _ = _
  rw [i64 ha.1 ha.2]
  simp
theorem x_lstore {i : Nat} {v : Int} {L' : List MV} (hd : xd y.2.1 pc (.lstore i) 2 pc') (hn : i + 1 < y.2.2.1) (hx : xnl L i = true) (hL' : (L.set i (vL v)).set (i + 1) vU = L') (kk : Wx g y Z K pc' L' S σ) : Wx g y Z K pc L (vL v :: S) σ := by
  subst hL'
  intro F hL hS hσ H locs ls hH hs hl
  refine lv_lstore F.1 F.2.1 hd.1 hl hn rfl (fun ls' hl' => ?_)
  have k := kk F (xok_set (xok_set hL (xok_hd hS)) trivial) (xok_tl hS) hσ H locs ls' hH hs (lvl_set2 (v := vL v) rfl hl' hx)
  rw [← hd.2] at k
  exact k
theorem x_lgets {own : String} {q idx : Nat} (hd : xd y.2.1 pc (.getstatic idx) 3 pc') (ho : y.1.cls = own) (hq : q < 2) (hw : Cond.fieldLink own idx "ShakenBreadLaw" (lgN.getD q "") "[J" ∈ gw) (kk : Wx g y Z K pc' L (vR (305 + q) :: S) σ) : Wx g y Z K pc L S σ := by
  intro F hL hS hσ H locs ls hH hs hl
  have k0 := kk F hL (xok_cons hS trivial) hσ H locs ls hH hs hl
  rw [← hd.2] at k0
  exact va_gets F.1 F.2.1 (own := own) (F.2.2.2.2.2.2.2.2.2.1.2.1.2.2 q hq).1 hs (by rw [← ho]; exact F.2.2.2.2.2.1) (F.2.2.2.2.2.2.1 _ (List.mem_cons_of_mem _ hw)) (fun _ h => h) hd.1 k0
theorem x_lgald {q : Nat} {i v : Int} (hd : xd y.2.1 pc .laload 1 pc') (hq : q < 2) (h0 : 0 ≤ i) (h1 : i < 4) (hv : (lgV.getD q []).getD i.toNat 0 = v) (hok : -9223372036854775808 ≤ v ∧ v < 9223372036854775808) (kk : Wx g y Z K pc' L (vL v :: S) σ) : Wx g y Z K pc L (vI i :: vR (305 + q) :: S) σ := by
  have hb : ∀ q, q < 2 → (lgV.getD q []).length = 4 := by decide +kernel
  intro F hL hS hσ H locs ls hH hs hl
  have k0 := kk F hL (xok_cons (xok_tl (xok_tl hS)) hok) hσ H locs ls hH hs hl
  rw [← hd.2] at k0
  exact va_tl F.1 F.2.1 (F.2.2.2.2.2.2.2.2.2.1.2.1.2.2 q hq).2 hs (i32_in h0 (by rw [hb q hq]; omega) (by omega)) (v := cv g (vL v)) (by rw [i32_cl h0 (by omega), hv]; rfl) hd.1 k0
theorem x_enterW {a b : Nat} {v : Int} (n : Nat) (hy : plainName y.1.cls = true) (hn : n + 4 = y.2.2.1) (k : ∀ Z : xZ, Wx g y Z K 0 (vR a :: vR b :: vL v :: List.replicate (n + 1) vU) [] σ) : Mt g y [vR a, vR b, vL v] σ K := by
  intro hok
  refine Met.ofW (cc := y.2.1) (maxL := y.2.2.1) (ret := y.2.2.2.1) hy rfl ?_
  intro p e s m args below meth c s₁ B hml hv
  obtain ⟨rfl, hH, hK, hI, hRO, hNs, hσ⟩ := hv
  have hl := lv_entry ([vR a, vR b, vL v].map (cv g)) (n := y.2.2.1) (by show 4 ≤ _; omega)
  rw [lg_entry_eq]
  have hl2 : lv_has ((lg_sl ([vR a, vR b, vL v].map (cv g)) ++ List.replicate (y.2.2.1 - (lg_sl ([vR a, vR b, vL v].map (cv g))).length) Slot.unset).toArray) y.2.2.1 (lvl g 0 (vR a :: vR b :: vL v :: List.replicate (n + 1) vU)) := by
    refine ⟨hl.1, hl.2.1, fun q hq => ?_⟩
    obtain ⟨i, u, h1, h2, h3⟩ := lvl_of hq
    rw [Nat.zero_add] at h1
    refine hl.2.2 q ?_
    rw [h1]
    rcases i with _ | _ | _ | i
    · simp only [List.getElem?_cons_zero, Option.some.injEq] at h2
      subst h2
      exact List.mem_cons_self
    · simp only [List.getElem?_cons_succ, List.getElem?_cons_zero, Option.some.injEq] at h2
      subst h2
      exact List.mem_cons_of_mem _ List.mem_cons_self
    · simp only [List.getElem?_cons_succ, List.getElem?_cons_zero, Option.some.injEq] at h2
      subst h2
      exact List.mem_cons_of_mem _ (List.mem_cons_of_mem _ List.mem_cons_self)
    · rw [List.getElem?_cons_succ, List.getElem?_cons_succ, List.getElem?_cons_succ] at h2
      rw [(List.mem_replicate.mp (List.mem_of_getElem? h2)).2] at h3
      cases h3
  have hF : xF g y (p, e, s, m, ([vR a, vR b, vL v].map (cv g)).toArray, below, meth, c) := ⟨B.exec, B.bytes, hml, B.returns, B.notSynchronized, findClass_of_methodNamed B.named, atoms_spec (ws := xWs y) B.pre, hK, hI, hRO, hNs⟩
  refine k (p, e, s, m, ([vR a, vR b, vL v].map (cv g)).toArray, below, meth, c) hF ?_ (fun v h => by cases h) hσ s.heap [] _ hH va_S.rf hl2
  intro u hu
  rcases List.mem_cons.mp hu with rfl | hu
  · trivial
  rcases List.mem_cons.mp hu with rfl | hu
  · trivial
  rcases List.mem_cons.mp hu with rfl | hu
  · exact hok _ (List.mem_cons_of_mem _ (List.mem_cons_of_mem _ List.mem_cons_self))
  · rw [(List.mem_replicate.mp hu).2]; trivial
end
