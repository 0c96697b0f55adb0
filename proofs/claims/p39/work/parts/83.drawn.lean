/-! a drawn town: its numbers are in their ranges, whatever the script's cells are -/
section AXD
variable {g : xG} {y : xM} {Y : aY} {D : List Nat} {cc ss pc pc' : Nat} {L S : List MV} {σ : xS}
theorem a_cellOf {N idx : Nat} {xs : Nat → Int32} {k : Int} (hX : aX g Y N xs) (hYA : Y.2.2.1 = nA Y.1.2.2.1) (hk : 0 ≤ k ∧ k ≤ 100) (hcs : cc ≤ Y.2.1.cells ∧ ss ≤ Y.2.1.slots) (hd : xd y.2.1 pc (.invokestatic idx) 3 pc') (ho : y.1.cls = "ShakenBreadLaw") (hl : Cond.methodLink "ShakenBreadLaw" idx y_Lw_cellOf.1 ∈ gw) (hdep : y_Lw_cellOf.2.2.2.2 + 1 ≤ y.2.2.2.2) (h8 : ((S.map (cv g)).map (fun v => v.category)).sum ≤ 8) (kk : ∀ v : Int, (-2147483648 ≤ v ∧ v < 2147483648) → Ax g y Y D cc ss pc' L (vI v :: S) σ) : Ax g y Y D cc ss pc L (vI k :: vR 500 :: S) σ := by
  refine a_raw (As := [vR 500, vI k]) hd ho c_Lw_cellOf hl hdep rfl rfl h8 hcs (fun q hq => by rw [hYA]; exact hq) clB_blind (sp_cellOf (xs := xs) (B := Y.1.2.2.1.heap.size) hX.1 hk) (fun st t oc h => ?_) (fun F H locs hA hσ hH hs U hU hW => ?_) (fun F hA hL hS hσ H locs locs1 ls st t v hH hs hl hst hQ hs1 => ?_)
  · exact ⟨h.2.1, fun q h1 _ => h.2.2 q h1 (Nat.not_le.mpr h1)⟩
  · have hb := hX.2.2.1
    refine ⟨xK_moved hW.alike F.2.2.2.2.2.2.2.1, ?_, by rw [hU]; have := hs.1; omega, by rw [hU]; exact hs.1⟩
    rw [hU]
    exact (va_X.moved hW.alike hX.2.1).kept (hs.2.1 _ hb hX.2.2.2)
  · obtain ⟨⟨v', hv', he⟩, hF⟩ := hQ
    cases he
    exact kk v' hv' F hA hL (xok_cons hS hv') hσ t.heap locs1 ls (aHp_kept (st := st) (P := nA st) (by rw [hst]; exact hH) hF.2 (fun k hk => by
      obtain ⟨i, hi⟩ := List.getElem?_of_mem hk
      rw [← hst] at hH
      exact Nat.not_le.mpr (hH i _ (aws_get hi)).lt)) hs1 hl
end AXD
theorem ia_bd {x m : Int} (hm : (Int32.ofInt m).toBitVec.toNat = m.toNat) (h0 : 0 ≤ m) (h1 : m ≤ 1000) : 0 ≤ iand x m ∧ iand x m ≤ m := by
  unfold iand
  have e1 : (Int32.ofInt x &&& Int32.ofInt m).toBitVec.toNat ≤ m.toNat := by
    rw [Int32.toBitVec_and, BitVec.toNat_and, ← hm]
    exact Nat.and_le_right
  show 0 ≤ (Int32.ofInt x &&& Int32.ofInt m).toBitVec.toInt ∧ (Int32.ofInt x &&& Int32.ofInt m).toBitVec.toInt ≤ m
  rw [BitVec.toInt_eq_toNat_cond]
  split <;> omega
theorem ia1 (x : Int) : 0 ≤ iand x 1 ∧ iand x 1 ≤ 1 := ia_bd (by decide) (by decide) (by decide)
theorem ia3 (x : Int) : 0 ≤ iand x 3 ∧ iand x 3 ≤ 3 := ia_bd (by decide) (by decide) (by decide)
theorem ia7 (x : Int) : 0 ≤ iand x 7 ∧ iand x 7 ≤ 7 := ia_bd (by decide) (by decide) (by decide)
theorem ia15 (x : Int) : 0 ≤ iand x 15 ∧ iand x 15 ≤ 15 := ia_bd (by decide) (by decide) (by decide)
theorem em_bd {x P : Int} (hP : 0 < P) : 0 ≤ x % P ∧ x % P < P := ⟨Int.emod_nonneg _ (by omega), Int.emod_lt_of_pos _ hP⟩
theorem em_ne {x e P : Int} (x0 : 0 ≤ x ∧ x < P) (e0 : 0 ≤ e ∧ e < P - 1) : (x + 1 + e) % P ≠ x := by
  by_cases z : x + 1 + e < P
  · rw [Int.emod_eq_of_lt (by omega) z]; omega
  · have h := Int.add_mul_emod_self_left (x + 1 + e - P) P 1
    rw [show x + 1 + e - P + P * 1 = x + 1 + e by omega] at h
    rw [h, Int.emod_eq_of_lt (by omega) (by omega)]
    omega
theorem up_f {σ : xS} {k : Nat} {i v : Int} : (up σ k i v) k = st1 (σ k) i v := by
  funext j
  unfold up st1
  by_cases z : j = i
  · rw [if_pos ⟨rfl, z⟩, if_pos z]
  · rw [if_neg (fun w => z w.2), if_neg z]
def DrB (P q : Int) (f : Int → Int) : Prop := f 0 = 2 ∧ (2 ≤ f 1 ∧ f 1 ≤ 3) ∧ (0 ≤ f 2 ∧ f 2 ≤ 3) ∧ (1 ≤ f 3 ∧ f 3 ≤ 10) ∧ (0 ≤ f 4 ∧ f 4 ≤ 2) ∧ (1 ≤ f 5 ∧ f 5 ≤ 4) ∧ f 6 = P ∧ f 7 = q
def DrP (p : Nat) (f : Int → Int) : Prop := ∀ i : Nat, i < p → (0 ≤ f (10 + 4 * i) ∧ f (10 + 4 * i) ≤ 3) ∧ (0 ≤ f (11 + 4 * i) ∧ f (11 + 4 * i) ≤ 2) ∧ (0 ≤ f (12 + 4 * i) ∧ f (12 + 4 * i) ≤ 30) ∧ (0 ≤ f (13 + 4 * i) ∧ f (13 + 4 * i) ≤ 3) ∧ (0 ≤ f (50 + i) ∧ f (50 + i) ≤ 3) ∧ ∀ k : Nat, (k : Int) < f (50 + i) → 0 ≤ f (60 + 12 * i + k) ∧ f (60 + 12 * i + k) ≤ 2
def DrQ (P : Int) (k : Nat) (f : Int → Int) : Prop := ∀ i : Nat, i < k → (0 ≤ f (160 + 2 * i) ∧ f (160 + 2 * i) < P) ∧ (0 ≤ f (161 + 2 * i) ∧ f (161 + 2 * i) < P) ∧ f (161 + 2 * i) ≠ f (160 + 2 * i)
theorem DrB.st {P q : Int} {f : Int → Int} {i v : Int} (h : DrB P q f) (hi : 8 ≤ i) : DrB P q (st1 f i v) := by
  unfold DrB
  rw [st1_n (by omega), st1_n (by omega), st1_n (by omega), st1_n (by omega), st1_n (by omega), st1_n (by omega), st1_n (by omega), st1_n (by omega)]
  exact h
theorem DrP.st {p : Nat} {f : Int → Int} {i v : Int} (h : DrP p f) (p8 : p ≤ 8) (hi : (10 + 4 * p ≤ i ∧ i < 42) ∨ (50 + p ≤ i ∧ i < 58) ∨ 60 + 12 * p ≤ i) : DrP p (st1 f i v) := fun j hj => by
  obtain ⟨h1, h2, h3, h4, h5, h6⟩ := h j hj
  rw [st1_n (by omega), st1_n (by omega), st1_n (by omega), st1_n (by omega), st1_n (x := 50 + (j : Int)) (by omega)]
  refine ⟨h1, h2, h3, h4, h5, fun k hk => ?_⟩
  rw [st1_n (by omega)]
  exact h6 k hk
theorem DrQ.st {P : Int} {k : Nat} {f : Int → Int} {i v : Int} (h : DrQ P k f) (hi : 160 + 2 * k ≤ i) : DrQ P k (st1 f i v) := fun j hj => by
  rw [st1_n (by omega), st1_n (by omega)]
  exact h j hj
def dwB (g : xG) (B N : Nat) (xs : Nat → Int32) (U : State) : Prop := clB g B N xs U
/-- an array of 180 ints, new -/
def dwQ (g : xG) (P q : Int) : Array Value → State → Outcome → State → Prop := fun _ st oc t => (∃ (r : Nat) (f : Int → Int), oc = .returned (some (.ref r)) ∧ st.heap.size ≤ r ∧ (DrB P q f ∧ DrP P.toNat f ∧ DrQ P q.toNat f) ∧ (∀ i : Int, -2147483648 ≤ f i ∧ f i < 2147483648) ∧ va_at g.2.2.1 classes (r, .inl (g.2.2.2 20, 180, .inl (fun i => Int32.ofInt (f i)))) t.heap) ∧ va_F (nA st) st t
theorem sp_draw {g : xG} {B N : Nat} {xs : Nat → Int32} {P q q0 : Int} (hN : N ≤ 260) (hP : 1 ≤ P ∧ P ≤ 8) (hq : 0 ≤ q0 ∧ q0 ≤ 3) (hqq : q = if P < 2 then 0 else q0) : Met g.1 y_Lw_draw.1 (xWs y_Lw_draw) (cRm y_Lw_draw.2.2.2.2 1 180) (va_Pc ([vR 500, vI 1, vI P, vI q0].map (cv g)) (clB g B N xs)) (dwQ g P q) 1 180 (bA B) := by
  refine a_enter 5 (fun U => nA U) [] (fun _ _ => 0) rfl rfl rfl (fun v hv => ?_) okS_0 (fun U hU => ⟨hU.1, (fun i q h => by cases h), (fun i j p q h => by cases h), (fun k h => by cases h), fun q h => h⟩) (fun Z hB => ?_)
  · simp only [List.mem_cons, List.not_mem_nil, or_false] at hv
    rcases hv with rfl | rfl | rfl | rfl
    · trivial
    · exact ⟨by decide, by decide⟩
    · exact ⟨by omega, by omega⟩
    · exact ⟨by omega, by omega⟩
  obtain ⟨Y, hY⟩ : ∃ Y : aY, Y = (Z, cRm y_Lw_draw.2.2.2.2 1 180, nA Z.2.2.1, MQ Z.2.2.2.2.2.1 (dwQ g P q) Z.2.2.2.2.1 Z.2.2.1 1 180 (bA B)) := ⟨_, rfl⟩
  rw [← hY]
  have hfr : ∀ q, Y.2.2.1 q → bA B q := fun q hq => by
    rw [hY] at hq
    exact Nat.le_trans hB.2.2.2 hq
  have hYA : Y.2.2.1 = nA Y.1.2.2.1 := by rw [hY]
  have hcs : 1 ≤ Y.2.1.cells ∧ 180 ≤ Y.2.1.slots := by rw [hY]; exact ⟨Nat.le_refl _, Nat.le_refl _⟩
  show Ax g y_Lw_draw Y [] 0 0 0 [vR 500, vI 1, vI P, vI q0, vU, vU, vU, vU, vU] [] (fun _ _ => 0)
  refine a_sipush (dat d_Lw_draw 0 rfl) (by decide) (by decide) ?_
  refine a_newa (k := 175) (N := 180) (dat d_Lw_draw 1 rfl) (by decide +kernel) (gw_1 (i := 117) rfl rfl) (fun j hj => absurd hj List.not_mem_nil) rfl rfl (by rw [hY]; exact Nat.le_refl _) (by rw [hY]; exact Nat.le_refl _) (fun r hr => ?_)
  obtain ⟨g1, hg1⟩ : ∃ g1, g1 = sg g 175 r := ⟨_, rfl⟩
  rw [← hg1]
  have hX : aX g1 Y N xs := by
    rw [hg1, hY]
    exact ⟨hN, hB.2.1, hB.2.2.1, Nat.not_le.mpr hB.2.2.1⟩
  have hI : aI [175] 175 180 := ⟨List.mem_cons_self, by decide +kernel, by decide +kernel, by decide⟩
  show Ax g1 y_Lw_draw Y [175] 1 180 5 [vR 500, vI 1, vI P, vI q0, vU, vU, vU, vU, vU] [vR 175] (nw0 (fun _ _ => 0) 175)
  -- the end
  have fin : ∀ (x5 : Int) (w6 w7 w8 : MV) (σ1 : xS), DrB P q (σ1 175) → DrP P.toNat (σ1 175) → DrQ P q.toNat (σ1 175) → Ax g1 y_Lw_draw Y [175] 1 180 402 [vR 500, vI 1, vI P, vI q0, vR 175, vI x5, w6, w7, w8] [] σ1 := fun x5 w6 w7 w8 σ1 hb hp hq => by
    refine a_aload (dat d_Lw_draw 265 rfl) rfl ?_
    refine a_aret (Qc := dwQ g P q) (free := bA B) (dat d_Lw_draw 266 rfl) rfl (by rw [hY]) hfr (fun t ho hH hF => ⟨⟨r, σ1 175, by rw [hg1]; rfl, hr, ⟨hb, hp, hq⟩, fun i => (ho 175 i).1, ?_⟩, by rw [hY] at hF ⊢; exact hF⟩)
    have h := hH 0 _ (aws_get (g := g1) (σ := σ1) (D := [175]) (i := 0) rfl)
    rw [xcell_i (n := 180) (Or.inl (by decide +kernel)) (by decide +kernel)] at h
    rw [hg1] at h
    exact h
  -- quarrels
  have lq : ∀ (m k : Nat) (x5 : Int) (w7 w8 : MV) (σ1 : xS), ((k + m : Nat) : Int) = q → DrB P q (σ1 175) → DrP P.toNat (σ1 175) → DrQ P k (σ1 175) → Ax g1 y_Lw_draw Y [175] 1 180 317 [vR 500, vI 1, vI P, vI q0, vR 175, vI x5, vI (k : Int), w7, w8] [] σ1 := by
    intro m
    induction m with
    | zero =>
      intro k x5 w7 w8 σ1 hk hb hp hq1
      have e7 := hb.2.2.2.2.2.2.2
      refine a_iload (dat d_Lw_draw 210 rfl) rfl ?_
      refine a_aload (dat d_Lw_draw 211 rfl) rfl ?_
      refine a_bipush (dat d_Lw_draw 212 rfl) (by decide) (by decide) ?_
      refine a_iald (n := 180) (v := σ1 175 7) (dat d_Lw_draw 213 rfl) hI (by omega) (by omega) rfl ?_
      refine a_icmp_ge (tgt := 402) (dat d_Lw_draw 214 rfl) (by decide) (fun c_324 => ?_) (fun c_324 => (by omega))
      exact fin _ _ _ _ σ1 hb hp (by rw [show q.toNat = k by omega]; exact hq1)
    | succ m ih =>
      intro k x5 w7 w8 σ1 hk hb hp hq1
      have e7 := hb.2.2.2.2.2.2.2
      have hP2 : 2 ≤ P := by
        by_cases z : P < 2
        · rw [if_pos z] at hqq; omega
        · omega
      have hq3 : q ≤ 3 := by
        split at hqq <;> omega
      refine a_iload (dat d_Lw_draw 210 rfl) rfl ?_
      refine a_aload (dat d_Lw_draw 211 rfl) rfl ?_
      refine a_bipush (dat d_Lw_draw 212 rfl) (by decide) (by decide) ?_
      refine a_iald (n := 180) (v := σ1 175 7) (dat d_Lw_draw 213 rfl) hI (by omega) (by omega) rfl ?_
      refine a_icmp_ge (tgt := 402) (dat d_Lw_draw 214 rfl) (by decide) (fun c_324 => (by omega)) (fun c_324 => ?_)
      refine a_aload_n (dat d_Lw_draw 215 rfl) rfl rfl ?_
      refine a_iload_n (dat d_Lw_draw 216 rfl) rfl rfl ?_
      refine a_bipush (dat d_Lw_draw 217 rfl) (by decide) (by decide) ?_
      refine a_iadd (v := 9) (dat d_Lw_draw 218 rfl) (by decide) (by omega) ?_
      refine a_iload (dat d_Lw_draw 219 rfl) rfl ?_
      refine a_iadd (v := 9 + (k : Int)) (dat d_Lw_draw 220 rfl) rfl (by omega) ?_
      refine a_cellOf hX hYA (by omega) hcs (dat d_Lw_draw 221 rfl) rfl l_Lw_72 (by decide) (Nat.le_of_ble_eq_true rfl) (fun x hx => ?_)
      have b7 := ia7 x
      have b37 := ia7 (ishr x 3)
      have m1 := em_bd (x := iand x 7) (P := P) (by omega)
      have m2 := em_bd (x := iand (ishr x 3) 7) (P := P - 1) (by omega)
      show Ax g1 y_Lw_draw Y [175] 1 180 338 [vR 500, vI 1, vI P, vI q0, vR 175, vI x5, vI (k : Int), w7, w8] [vI x] σ1
      refine a_istore (L' := [vR 500, vI 1, vI P, vI q0, vR 175, vI x5, vI (k : Int), vI x, w8]) (dat d_Lw_draw 222 rfl) (by decide) rfl rfl ?_
      refine a_aload (dat d_Lw_draw 223 rfl) rfl ?_
      refine a_sipush (dat d_Lw_draw 224 rfl) (by decide) (by decide) ?_
      refine a_iconst (dat d_Lw_draw 225 rfl) (by decide) ?_
      refine a_iload (dat d_Lw_draw 226 rfl) rfl ?_
      refine a_imul (v := 2 * (k : Int)) (dat d_Lw_draw 227 rfl) rfl (by omega) ?_
      refine a_iadd (v := 160 + (2 * (k : Int))) (dat d_Lw_draw 228 rfl) rfl (by omega) ?_
      refine a_iload (dat d_Lw_draw 229 rfl) rfl ?_
      refine a_bipush (dat d_Lw_draw 230 rfl) (by decide) (by decide) ?_
      refine a_iand (v := iand x 7) (dat d_Lw_draw 231 rfl) rfl ?_
      refine a_iload_n (dat d_Lw_draw 232 rfl) rfl rfl ?_
      refine a_irem (v := (iand x 7) % P) (dat d_Lw_draw 233 rfl) (by omega) rfl ?_
      refine a_iast (n := 180) (dat d_Lw_draw 234 rfl) hI (by omega) (by omega) ?_
      refine a_aload (dat d_Lw_draw 235 rfl) rfl ?_
      refine a_sipush (dat d_Lw_draw 236 rfl) (by decide) (by decide) ?_
      refine a_iconst (dat d_Lw_draw 237 rfl) (by decide) ?_
      refine a_iload (dat d_Lw_draw 238 rfl) rfl ?_
      refine a_imul (v := 2 * (k : Int)) (dat d_Lw_draw 239 rfl) rfl (by omega) ?_
      refine a_iadd (v := 161 + (2 * (k : Int))) (dat d_Lw_draw 240 rfl) rfl (by omega) ?_
      refine a_aload (dat d_Lw_draw 241 rfl) rfl ?_
      refine a_sipush (dat d_Lw_draw 242 rfl) (by decide) (by decide) ?_
      refine a_iconst (dat d_Lw_draw 243 rfl) (by decide) ?_
      refine a_iload (dat d_Lw_draw 244 rfl) rfl ?_
      refine a_imul (v := 2 * (k : Int)) (dat d_Lw_draw 245 rfl) rfl (by omega) ?_
      refine a_iadd (v := 160 + (2 * (k : Int))) (dat d_Lw_draw 246 rfl) rfl (by omega) ?_
      refine a_iald (n := 180) (v := (iand x 7) % P) (dat d_Lw_draw 247 rfl) hI (by omega) (by omega) (up_s) ?_
      refine a_iconst (dat d_Lw_draw 248 rfl) (by decide) ?_
      refine a_iadd (v := ((iand x 7) % P) + 1) (dat d_Lw_draw 249 rfl) rfl (by omega) ?_
      refine a_iload (dat d_Lw_draw 250 rfl) rfl ?_
      refine a_iconst (dat d_Lw_draw 251 rfl) (by decide) ?_
      refine a_ishr (v := ishr x 3) (dat d_Lw_draw 252 rfl) rfl ?_
      refine a_bipush (dat d_Lw_draw 253 rfl) (by decide) (by decide) ?_
      refine a_iand (v := iand (ishr x 3) 7) (dat d_Lw_draw 254 rfl) rfl ?_
      refine a_iload_n (dat d_Lw_draw 255 rfl) rfl rfl ?_
      refine a_iconst (dat d_Lw_draw 256 rfl) (by decide) ?_
      refine a_isub (v := P - 1) (dat d_Lw_draw 257 rfl) rfl (by omega) ?_
      refine a_irem (v := (iand (ishr x 3) 7) % (P - 1)) (dat d_Lw_draw 258 rfl) (by omega) rfl ?_
      refine a_iadd (v := (((iand x 7) % P) + 1) + ((iand (ishr x 3) 7) % (P - 1))) (dat d_Lw_draw 259 rfl) rfl (by omega) ?_
      refine a_iload_n (dat d_Lw_draw 260 rfl) rfl rfl ?_
      refine a_irem (v := ((((iand x 7) % P) + 1) + ((iand (ishr x 3) 7) % (P - 1))) % P) (dat d_Lw_draw 261 rfl) (by omega) rfl ?_
      refine a_iast (n := 180) (dat d_Lw_draw 262 rfl) hI (by omega) (by omega) ?_
      refine a_iinc (v' := ((k + 1 : Nat) : Int)) (L' := [vR 500, vI 1, vI P, vI q0, vR 175, vI x5, vI ((k + 1 : Nat) : Int), vI x, w8]) (dat d_Lw_draw 263 rfl) rfl (by decide) rfl (by omega) (by omega) rfl ?_
      refine a_goto (tgt := 317) (dat d_Lw_draw 264 rfl) (by decide) ?_
      have m3 := em_bd (x := iand x 7 % P + 1 + iand (ishr x 3) 7 % (P - 1)) (P := P) (by omega)
      have m4 := em_ne (x := iand x 7 % P) (e := iand (ishr x 3) 7 % (P - 1)) (P := P) m1 m2
      refine ih (k + 1) _ _ _ _ (by omega) ?_ ?_ ?_
      · rw [up_f, up_f]; exact (hb.st (by omega)).st (by omega)
      · rw [up_f, up_f]; exact (hp.st (by omega) (by omega)).st (by omega) (by omega)
      · rw [up_f, up_f]
        intro j hj
        by_cases z : j = k
        · subst z
          rw [st1_s, st1_n (by omega), st1_s]
          exact ⟨m1, m3, m4⟩
        · rw [st1_n (by omega), st1_n (by omega), st1_n (by omega), st1_n (by omega)]
          exact hq1 j (by omega)
  -- one of the people: what is told of him ahead of his errand
  have le : ∀ (p : Nat), (p : Int) < P → (∀ (x5 : Int) (w7 w8 : MV) (σ1 : xS), DrB P q (σ1 175) → DrP (p + 1) (σ1 175) → Ax g1 y_Lw_draw Y [175] 1 180 308 [vR 500, vI 1, vI P, vI q0, vR 175, vI x5, vI (p : Int), w7, w8] [] σ1) → ∀ (m k : Nat) (x5 : Int) (x : Int) (σ1 : xS), (-2147483648 ≤ x ∧ x < 2147483648) → ((k + m : Nat) : Int) = σ1 175 (50 + p) → σ1 175 (50 + p) ≤ 3 → DrB P q (σ1 175) → DrP p (σ1 175) → ((0 ≤ σ1 175 (10 + 4 * p) ∧ σ1 175 (10 + 4 * p) ≤ 3) ∧ (0 ≤ σ1 175 (11 + 4 * p) ∧ σ1 175 (11 + 4 * p) ≤ 2) ∧ (0 ≤ σ1 175 (12 + 4 * p) ∧ σ1 175 (12 + 4 * p) ≤ 30) ∧ (0 ≤ σ1 175 (13 + 4 * p) ∧ σ1 175 (13 + 4 * p) ≤ 3)) → (∀ j : Nat, j < k → 0 ≤ σ1 175 (60 + 12 * p + j) ∧ σ1 175 (60 + 12 * p + j) ≤ 2) → Ax g1 y_Lw_draw Y [175] 1 180 261 [vR 500, vI 1, vI P, vI q0, vR 175, vI x5, vI (p : Int), vI x, vI (k : Int)] [] σ1 := by
    intro p hp kk m
    induction m with
    | zero =>
      intro k x5 x σ1 hx hk h50 hb hpp hh hc
      refine a_iload (dat d_Lw_draw 177 rfl) rfl ?_
      refine a_aload (dat d_Lw_draw 178 rfl) rfl ?_
      refine a_bipush (dat d_Lw_draw 179 rfl) (by decide) (by decide) ?_
      refine a_iload (dat d_Lw_draw 180 rfl) rfl ?_
      refine a_iadd (v := 50 + (p : Int)) (dat d_Lw_draw 181 rfl) rfl (by omega) ?_
      refine a_iald (n := 180) (v := σ1 175 (50 + (p : Int))) (dat d_Lw_draw 182 rfl) hI (by omega) (by omega) rfl ?_
      refine a_icmp_ge (tgt := 308) (dat d_Lw_draw 183 rfl) (by decide) (fun c_271 => ?_) (fun c_271 => (by omega))
      refine kk _ _ _ σ1 hb (fun j hj => ?_)
      by_cases z : j = p
      · subst z
        exact ⟨hh.1, hh.2.1, hh.2.2.1, hh.2.2.2, ⟨by omega, h50⟩, fun k2 hk2 => hc k2 (by omega)⟩
      · exact hpp j (by omega)
    | succ m ih =>
      intro k x5 x σ1 hx hk h50 hb hpp hh hc
      have b3 := ia3 (ishr x (15 + 2 * (k : Int)))
      refine a_iload (dat d_Lw_draw 177 rfl) rfl ?_
      refine a_aload (dat d_Lw_draw 178 rfl) rfl ?_
      refine a_bipush (dat d_Lw_draw 179 rfl) (by decide) (by decide) ?_
      refine a_iload (dat d_Lw_draw 180 rfl) rfl ?_
      refine a_iadd (v := 50 + (p : Int)) (dat d_Lw_draw 181 rfl) rfl (by omega) ?_
      refine a_iald (n := 180) (v := σ1 175 (50 + (p : Int))) (dat d_Lw_draw 182 rfl) hI (by omega) (by omega) rfl ?_
      refine a_icmp_ge (tgt := 308) (dat d_Lw_draw 183 rfl) (by decide) (fun c_271 => (by omega)) (fun c_271 => ?_)
      refine a_aload (dat d_Lw_draw 184 rfl) rfl ?_
      refine a_bipush (dat d_Lw_draw 185 rfl) (by decide) (by decide) ?_
      refine a_bipush (dat d_Lw_draw 186 rfl) (by decide) (by decide) ?_
      refine a_iload (dat d_Lw_draw 187 rfl) rfl ?_
      refine a_imul (v := 12 * (p : Int)) (dat d_Lw_draw 188 rfl) rfl (by omega) ?_
      refine a_iadd (v := 60 + (12 * (p : Int))) (dat d_Lw_draw 189 rfl) rfl (by omega) ?_
      refine a_iload (dat d_Lw_draw 190 rfl) rfl ?_
      refine a_iadd (v := (60 + (12 * (p : Int))) + (k : Int)) (dat d_Lw_draw 191 rfl) rfl (by omega) ?_
      refine a_iload (dat d_Lw_draw 192 rfl) rfl ?_
      refine a_bipush (dat d_Lw_draw 193 rfl) (by decide) (by decide) ?_
      refine a_iconst (dat d_Lw_draw 194 rfl) (by decide) ?_
      refine a_iload (dat d_Lw_draw 195 rfl) rfl ?_
      refine a_imul (v := 2 * (k : Int)) (dat d_Lw_draw 196 rfl) rfl (by omega) ?_
      refine a_iadd (v := 15 + (2 * (k : Int))) (dat d_Lw_draw 197 rfl) rfl (by omega) ?_
      refine a_ishr (v := ishr x (15 + (2 * (k : Int)))) (dat d_Lw_draw 198 rfl) rfl ?_
      refine a_iconst (dat d_Lw_draw 199 rfl) (by decide) ?_
      refine a_iand (v := iand (ishr x (15 + (2 * (k : Int)))) 3) (dat d_Lw_draw 200 rfl) rfl ?_
      refine a_iconst (dat d_Lw_draw 201 rfl) (by decide) ?_
      refine a_irem (v := (iand (ishr x (15 + (2 * (k : Int)))) 3) % 3) (dat d_Lw_draw 202 rfl) (by omega) rfl ?_
      refine a_iast (n := 180) (dat d_Lw_draw 203 rfl) hI (by omega) (by omega) ?_
      refine a_iinc (v' := ((k + 1 : Nat) : Int)) (L' := [vR 500, vI 1, vI P, vI q0, vR 175, vI x5, vI (p : Int), vI x, vI ((k + 1 : Nat) : Int)]) (dat d_Lw_draw 204 rfl) rfl (by decide) rfl (by omega) (by omega) rfl ?_
      refine a_goto (tgt := 261) (dat d_Lw_draw 205 rfl) (by decide) ?_
      refine ih (k + 1) _ x _ hx ?_ ?_ ?_ ?_ ?_ ?_
      · rw [up_f, st1_n (by omega)]; omega
      · rw [up_f, st1_n (by omega)]; exact h50
      · rw [up_f]; exact hb.st (by omega)
      · rw [up_f]; exact hpp.st (by omega) (by omega)
      · rw [up_f, st1_n (by omega), st1_n (by omega), st1_n (by omega), st1_n (by omega)]; exact hh
      · rw [up_f]
        intro j hj
        by_cases z : j = k
        · subst z
          rw [show 60 + 12 * (p : Int) + (j : Int) = 60 + (12 * (p : Int)) + (j : Int) by omega, st1_s]
          omega
        · rw [st1_n (by omega)]; exact hc j (by omega)
  have l242 : ∀ (p : Nat), (p : Int) < P → (∀ (x5 : Int) (w7 w8 : MV) (σ1 : xS), DrB P q (σ1 175) → DrP (p + 1) (σ1 175) → Ax g1 y_Lw_draw Y [175] 1 180 308 [vR 500, vI 1, vI P, vI q0, vR 175, vI x5, vI (p : Int), w7, w8] [] σ1) → ∀ (x5 : Int) (w8 : MV) (x v : Int) (σ1 : xS), (-2147483648 ≤ x ∧ x < 2147483648) → (0 ≤ v ∧ v ≤ 3) → DrB P q (σ1 175) → DrP p (σ1 175) → ((0 ≤ σ1 175 (10 + 4 * p) ∧ σ1 175 (10 + 4 * p) ≤ 3) ∧ (0 ≤ σ1 175 (11 + 4 * p) ∧ σ1 175 (11 + 4 * p) ≤ 2) ∧ (0 ≤ σ1 175 (12 + 4 * p) ∧ σ1 175 (12 + 4 * p) ≤ 30)) → Ax g1 y_Lw_draw Y [175] 1 180 242 [vR 500, vI 1, vI P, vI q0, vR 175, vI x5, vI (p : Int), vI x, w8] [vI v, vI (13 + (4 * (p : Int))), vR 175] σ1 := fun p hp kk x5 w8 x v σ1 hx hv hb hpp hh => by
    have b3 := ia3 (ishr x 13)
    refine a_iast (n := 180) (dat d_Lw_draw 164 rfl) hI (by omega) (by omega) ?_
    refine a_aload (dat d_Lw_draw 165 rfl) rfl ?_
    refine a_bipush (dat d_Lw_draw 166 rfl) (by decide) (by decide) ?_
    refine a_iload (dat d_Lw_draw 167 rfl) rfl ?_
    refine a_iadd (v := 50 + (p : Int)) (dat d_Lw_draw 168 rfl) rfl (by omega) ?_
    refine a_iload (dat d_Lw_draw 169 rfl) rfl ?_
    refine a_bipush (dat d_Lw_draw 170 rfl) (by decide) (by decide) ?_
    refine a_ishr (v := ishr x 13) (dat d_Lw_draw 171 rfl) rfl ?_
    refine a_iconst (dat d_Lw_draw 172 rfl) (by decide) ?_
    refine a_iand (v := iand (ishr x 13) 3) (dat d_Lw_draw 173 rfl) rfl ?_
    refine a_iast (n := 180) (dat d_Lw_draw 174 rfl) hI (by omega) (by omega) ?_
    refine a_iconst (dat d_Lw_draw 175 rfl) (by decide) ?_
    refine a_istore (L' := [vR 500, vI 1, vI P, vI q0, vR 175, vI x5, vI (p : Int), vI x, vI 0]) (dat d_Lw_draw 176 rfl) (by decide) rfl rfl ?_
    refine le p hp kk (iand (ishr x 13) 3).toNat 0 _ x _ hx ?_ ?_ ?_ ?_ ?_ (fun j hj => absurd hj (Nat.not_lt_zero j))
    · rw [up_f, up_f, st1_s]; omega
    · rw [up_f, up_f, st1_s]; omega
    · rw [up_f, up_f]; exact (hb.st (by omega)).st (by omega)
    · rw [up_f, up_f]; exact (hpp.st (by omega) (by omega)).st (by omega) (by omega)
    · rw [up_f, up_f, st1_n (by omega), st1_n (by omega), st1_n (by omega), st1_n (by omega), st1_n (by omega), st1_n (by omega), st1_n (x := 13 + 4 * (p : Int)) (by omega), st1_s]
      exact ⟨hh.1, hh.2.1, hh.2.2, hv⟩
  have l173 : ∀ (p : Nat), (p : Int) < P → (∀ (x5 : Int) (w7 w8 : MV) (σ1 : xS), DrB P q (σ1 175) → DrP (p + 1) (σ1 175) → Ax g1 y_Lw_draw Y [175] 1 180 308 [vR 500, vI 1, vI P, vI q0, vR 175, vI x5, vI (p : Int), w7, w8] [] σ1) → ∀ (x5 : Int) (w8 : MV) (x v : Int) (σ1 : xS), (-2147483648 ≤ x ∧ x < 2147483648) → (0 ≤ v ∧ v ≤ 3) → DrB P q (σ1 175) → DrP p (σ1 175) → Ax g1 y_Lw_draw Y [175] 1 180 173 [vR 500, vI 1, vI P, vI q0, vR 175, vI x5, vI (p : Int), vI x, w8] [vI v, vI (10 + (4 * (p : Int))), vR 175] σ1 := fun p hp kk x5 w8 x v σ1 hx hv hb hpp => by
    have b1 := ia7 (ishr x 3)
    have b2 := ia7 (ishr x 6)
    have b3 := ia3 (ishr x 9)
    have b4 := ia3 (ishr x 11)
    refine a_iast (n := 180) (dat d_Lw_draw 117 rfl) hI (by omega) (by omega) ?_
    refine a_aload (dat d_Lw_draw 118 rfl) rfl ?_
    refine a_bipush (dat d_Lw_draw 119 rfl) (by decide) (by decide) ?_
    refine a_iconst (dat d_Lw_draw 120 rfl) (by decide) ?_
    refine a_iload (dat d_Lw_draw 121 rfl) rfl ?_
    refine a_imul (v := 4 * (p : Int)) (dat d_Lw_draw 122 rfl) rfl (by omega) ?_
    refine a_iadd (v := 11 + (4 * (p : Int))) (dat d_Lw_draw 123 rfl) rfl (by omega) ?_
    refine a_iload (dat d_Lw_draw 124 rfl) rfl ?_
    refine a_iconst (dat d_Lw_draw 125 rfl) (by decide) ?_
    refine a_ishr (v := ishr x 3) (dat d_Lw_draw 126 rfl) rfl ?_
    refine a_bipush (dat d_Lw_draw 127 rfl) (by decide) (by decide) ?_
    refine a_iand (v := iand (ishr x 3) 7) (dat d_Lw_draw 128 rfl) rfl ?_
    refine a_iconst (dat d_Lw_draw 129 rfl) (by decide) ?_
    refine a_irem (v := (iand (ishr x 3) 7) % 3) (dat d_Lw_draw 130 rfl) (by omega) rfl ?_
    refine a_iast (n := 180) (dat d_Lw_draw 131 rfl) hI (by omega) (by omega) ?_
    refine a_aload (dat d_Lw_draw 132 rfl) rfl ?_
    refine a_bipush (dat d_Lw_draw 133 rfl) (by decide) (by decide) ?_
    refine a_iconst (dat d_Lw_draw 134 rfl) (by decide) ?_
    refine a_iload (dat d_Lw_draw 135 rfl) rfl ?_
    refine a_imul (v := 4 * (p : Int)) (dat d_Lw_draw 136 rfl) rfl (by omega) ?_
    refine a_iadd (v := 12 + (4 * (p : Int))) (dat d_Lw_draw 137 rfl) rfl (by omega) ?_
    refine a_iload (dat d_Lw_draw 138 rfl) rfl ?_
    refine a_bipush (dat d_Lw_draw 139 rfl) (by decide) (by decide) ?_
    refine a_ishr (v := ishr x 6) (dat d_Lw_draw 140 rfl) rfl ?_
    refine a_bipush (dat d_Lw_draw 141 rfl) (by decide) (by decide) ?_
    refine a_iand (v := iand (ishr x 6) 7) (dat d_Lw_draw 142 rfl) rfl ?_
    refine a_iast (n := 180) (dat d_Lw_draw 143 rfl) hI (by omega) (by omega) ?_
    refine a_aload (dat d_Lw_draw 144 rfl) rfl ?_
    refine a_bipush (dat d_Lw_draw 145 rfl) (by decide) (by decide) ?_
    refine a_iconst (dat d_Lw_draw 146 rfl) (by decide) ?_
    refine a_iload (dat d_Lw_draw 147 rfl) rfl ?_
    refine a_imul (v := 4 * (p : Int)) (dat d_Lw_draw 148 rfl) rfl (by omega) ?_
    refine a_iadd (v := 13 + (4 * (p : Int))) (dat d_Lw_draw 149 rfl) rfl (by omega) ?_
    refine a_iload (dat d_Lw_draw 150 rfl) rfl ?_
    refine a_bipush (dat d_Lw_draw 151 rfl) (by decide) (by decide) ?_
    refine a_ishr (v := ishr x 9) (dat d_Lw_draw 152 rfl) rfl ?_
    refine a_iconst (dat d_Lw_draw 153 rfl) (by decide) ?_
    refine a_iand (v := iand (ishr x 9) 3) (dat d_Lw_draw 154 rfl) rfl ?_
    refine a_iconst (dat d_Lw_draw 155 rfl) (by decide) ?_
    refine a_icmp_ne (tgt := 241) (dat d_Lw_draw 156 rfl) (by decide) (fun c_228 => ?_) (fun c_228 => ?_)
    · refine a_iconst (dat d_Lw_draw 163 rfl) (by decide) ?_
      refine l242 p hp kk _ _ x _ _ hx (by omega) ?_ ?_ ?_
      · rw [up_f, up_f, up_f]; exact ((hb.st (by omega)).st (by omega)).st (by omega)
      · rw [up_f, up_f, up_f]; exact ((hpp.st (by omega) (by omega)).st (by omega) (by omega)).st (by omega) (by omega)
      · rw [up_f, up_f, up_f]
        refine ⟨?_, ?_, ?_⟩
        · rw [st1_n (by omega), st1_n (by omega), st1_s]; exact hv
        · rw [st1_n (by omega), st1_s]; omega
        · rw [st1_s]; omega
    · refine a_iload (dat d_Lw_draw 157 rfl) rfl ?_
      refine a_bipush (dat d_Lw_draw 158 rfl) (by decide) (by decide) ?_
      refine a_ishr (v := ishr x 11) (dat d_Lw_draw 159 rfl) rfl ?_
      refine a_iconst (dat d_Lw_draw 160 rfl) (by decide) ?_
      refine a_iand (v := iand (ishr x 11) 3) (dat d_Lw_draw 161 rfl) rfl ?_
      refine a_goto (tgt := 242) (dat d_Lw_draw 162 rfl) (by decide) ?_
      refine l242 p hp kk _ _ x _ _ hx (by omega) ?_ ?_ ?_
      · rw [up_f, up_f, up_f]; exact ((hb.st (by omega)).st (by omega)).st (by omega)
      · rw [up_f, up_f, up_f]; exact ((hpp.st (by omega) (by omega)).st (by omega) (by omega)).st (by omega) (by omega)
      · rw [up_f, up_f, up_f]
        refine ⟨?_, ?_, ?_⟩
        · rw [st1_n (by omega), st1_n (by omega), st1_s]; exact hv
        · rw [st1_n (by omega), st1_s]; omega
        · rw [st1_s]; omega
  -- people
  have lp : ∀ (m p : Nat) (x5 : Int) (w7 w8 : MV) (σ1 : xS), ((p + m : Nat) : Int) = P → DrB P q (σ1 175) → DrP p (σ1 175) → Ax g1 y_Lw_draw Y [175] 1 180 129 [vR 500, vI 1, vI P, vI q0, vR 175, vI x5, vI (p : Int), w7, w8] [] σ1 := by
    intro m
    induction m with
    | zero =>
      intro p x5 w7 w8 σ1 hp hb hpp
      refine a_iload (dat d_Lw_draw 90 rfl) rfl ?_
      refine a_iload_n (dat d_Lw_draw 91 rfl) rfl rfl ?_
      refine a_icmp_ge (tgt := 314) (dat d_Lw_draw 92 rfl) (by decide) (fun c_132 => ?_) (fun c_132 => (by omega))
      refine a_iconst (dat d_Lw_draw 208 rfl) (by decide) ?_
      refine a_istore (L' := [vR 500, vI 1, vI P, vI q0, vR 175, vI x5, vI 0, w7, w8]) (dat d_Lw_draw 209 rfl) (by decide) rfl rfl ?_
      refine lq q.toNat 0 _ _ _ σ1 (by split at hqq <;> omega) hb ?_ (fun j hj => absurd hj (Nat.not_lt_zero j))
      rw [show P.toNat = p by omega]
      exact hpp
    | succ m ih =>
      intro p x5 w7 w8 σ1 hp hb hpp
      have kk : ∀ (x5 : Int) (w7 w8 : MV) (σ1 : xS), DrB P q (σ1 175) → DrP (p + 1) (σ1 175) → Ax g1 y_Lw_draw Y [175] 1 180 308 [vR 500, vI 1, vI P, vI q0, vR 175, vI x5, vI (p : Int), w7, w8] [] σ1 := fun x5 w7 w8 σ2 hb2 hp2 => by
        refine a_iinc (v' := ((p + 1 : Nat) : Int)) (L' := [vR 500, vI 1, vI P, vI q0, vR 175, vI x5, vI ((p + 1 : Nat) : Int), w7, w8]) (dat d_Lw_draw 206 rfl) rfl (by decide) rfl (by omega) (by omega) rfl ?_
        refine a_goto (tgt := 129) (dat d_Lw_draw 207 rfl) (by decide) ?_
        exact ih (p + 1) _ _ _ σ2 (by omega) hb2 hp2
      refine a_iload (dat d_Lw_draw 90 rfl) rfl ?_
      refine a_iload_n (dat d_Lw_draw 91 rfl) rfl rfl ?_
      refine a_icmp_ge (tgt := 314) (dat d_Lw_draw 92 rfl) (by decide) (fun c_132 => (by omega)) (fun c_132 => ?_)
      refine a_aload_n (dat d_Lw_draw 93 rfl) rfl rfl ?_
      refine a_iload_n (dat d_Lw_draw 94 rfl) rfl rfl ?_
      refine a_iconst (dat d_Lw_draw 95 rfl) (by decide) ?_
      refine a_iadd (v := 2) (dat d_Lw_draw 96 rfl) (by decide) (by omega) ?_
      refine a_iload (dat d_Lw_draw 97 rfl) rfl ?_
      refine a_iadd (v := 2 + (p : Int)) (dat d_Lw_draw 98 rfl) rfl (by omega) ?_
      refine a_cellOf hX hYA (by omega) hcs (dat d_Lw_draw 99 rfl) rfl l_Lw_72 (by decide) (Nat.le_of_ble_eq_true rfl) (fun x hx => ?_)
      have b3 := ia3 x
      show Ax g1 y_Lw_draw Y [175] 1 180 145 [vR 500, vI 1, vI P, vI q0, vR 175, vI x5, vI (p : Int), w7, w8] [vI x] σ1
      refine a_istore (L' := [vR 500, vI 1, vI P, vI q0, vR 175, vI x5, vI (p : Int), vI x, w8]) (dat d_Lw_draw 100 rfl) (by decide) rfl rfl ?_
      refine a_aload (dat d_Lw_draw 101 rfl) rfl ?_
      refine a_bipush (dat d_Lw_draw 102 rfl) (by decide) (by decide) ?_
      refine a_iconst (dat d_Lw_draw 103 rfl) (by decide) ?_
      refine a_iload (dat d_Lw_draw 104 rfl) rfl ?_
      refine a_imul (v := 4 * (p : Int)) (dat d_Lw_draw 105 rfl) rfl (by omega) ?_
      refine a_iadd (v := 10 + (4 * (p : Int))) (dat d_Lw_draw 106 rfl) rfl (by omega) ?_
      refine a_iload (dat d_Lw_draw 107 rfl) rfl ?_
      refine a_bipush (dat d_Lw_draw 108 rfl) (by decide) (by decide) ?_
      refine a_iand (v := iand x 7) (dat d_Lw_draw 109 rfl) rfl ?_
      refine a_iconst (dat d_Lw_draw 110 rfl) (by decide) ?_
      refine a_icmp_ge (tgt := 169) (dat d_Lw_draw 111 rfl) (by decide) (fun c_162 => ?_) (fun c_162 => ?_)
      · refine a_iload (dat d_Lw_draw 114 rfl) rfl ?_
        refine a_iconst (dat d_Lw_draw 115 rfl) (by decide) ?_
        refine a_iand (v := iand x 3) (dat d_Lw_draw 116 rfl) rfl ?_
        exact l173 p (by omega) kk _ _ x _ σ1 hx (by omega) hb hpp
      · refine a_iconst (dat d_Lw_draw 112 rfl) (by decide) ?_
        refine a_goto (tgt := 173) (dat d_Lw_draw 113 rfl) (by decide) ?_
        exact l173 p (by omega) kk _ _ x _ σ1 hx (by omega) hb hpp
  -- the head
  have l125 : ∀ (x5 : Int) (w6 w7 w8 : MV) (v : Int) (σ1 : xS), v = q → (∀ z : Int, DrB P z (st1 (σ1 175) 7 z)) → Ax g1 y_Lw_draw Y [175] 1 180 125 [vR 500, vI 1, vI P, vI q0, vR 175, vI x5, w6, w7, w8] [vI v, vI 7, vR 175] σ1 := fun x5 w6 w7 w8 v σ1 hv hb => by
    refine a_iast (n := 180) (dat d_Lw_draw 87 rfl) hI (by omega) (by omega) ?_
    refine a_iconst (dat d_Lw_draw 88 rfl) (by decide) ?_
    refine a_istore (L' := [vR 500, vI 1, vI P, vI q0, vR 175, vI x5, vI 0, w7, w8]) (dat d_Lw_draw 89 rfl) (by decide) rfl rfl ?_
    exact lp P.toNat 0 _ _ _ _ (by omega) (by rw [up_f, hv]; exact hb q) (fun j hj => absurd hj (Nat.not_lt_zero j))
  have l87 : ∀ (w6 w7 w8 : MV) (x v : Int) (σ1 : xS), (0 ≤ v ∧ v ≤ 1) → (σ1 175 0 = 2 ∧ (2 ≤ σ1 175 1 ∧ σ1 175 1 ≤ 3) ∧ (0 ≤ σ1 175 2 ∧ σ1 175 2 ≤ 3) ∧ (1 ≤ σ1 175 3 ∧ σ1 175 3 ≤ 10)) → Ax g1 y_Lw_draw Y [175] 1 180 87 [vR 500, vI 1, vI P, vI q0, vR 175, vI x, w6, w7, w8] [vI v, vI (iand (ishr x 7) 1), vI 4, vR 175] σ1 := fun w6 w7 w8 x v σ1 hv hh => by
    have b1 := ia1 (ishr x 7)
    have b2 := ia7 (ishr x 10)
    refine a_iadd (v := (iand (ishr x 7) 1) + v) (dat d_Lw_draw 61 rfl) rfl (by omega) ?_
    refine a_iast (n := 180) (dat d_Lw_draw 62 rfl) hI (by omega) (by omega) ?_
    refine a_aload (dat d_Lw_draw 63 rfl) rfl ?_
    refine a_iconst (dat d_Lw_draw 64 rfl) (by decide) ?_
    refine a_iconst (dat d_Lw_draw 65 rfl) (by decide) ?_
    refine a_iload (dat d_Lw_draw 66 rfl) rfl ?_
    refine a_bipush (dat d_Lw_draw 67 rfl) (by decide) (by decide) ?_
    refine a_ishr (v := ishr x 10) (dat d_Lw_draw 68 rfl) rfl ?_
    refine a_bipush (dat d_Lw_draw 69 rfl) (by decide) (by decide) ?_
    refine a_iand (v := iand (ishr x 10) 7) (dat d_Lw_draw 70 rfl) rfl ?_
    refine a_iconst (dat d_Lw_draw 71 rfl) (by decide) ?_
    refine a_irem (v := (iand (ishr x 10) 7) % 4) (dat d_Lw_draw 72 rfl) (by omega) rfl ?_
    refine a_iadd (v := 1 + ((iand (ishr x 10) 7) % 4)) (dat d_Lw_draw 73 rfl) rfl (by omega) ?_
    refine a_iast (n := 180) (dat d_Lw_draw 74 rfl) hI (by omega) (by omega) ?_
    refine a_aload (dat d_Lw_draw 75 rfl) rfl ?_
    refine a_bipush (dat d_Lw_draw 76 rfl) (by decide) (by decide) ?_
    refine a_iload_n (dat d_Lw_draw 77 rfl) rfl rfl ?_
    refine a_iast (n := 180) (dat d_Lw_draw 78 rfl) hI (by omega) (by omega) ?_
    refine a_aload (dat d_Lw_draw 79 rfl) rfl ?_
    refine a_bipush (dat d_Lw_draw 80 rfl) (by decide) (by decide) ?_
    refine a_iload_n (dat d_Lw_draw 81 rfl) rfl rfl ?_
    refine a_iconst (dat d_Lw_draw 82 rfl) (by decide) ?_
    refine a_icmp_ge (tgt := 124) (dat d_Lw_draw 83 rfl) (by decide) (fun c_117 => ?_) (fun c_117 => ?_)
    · refine a_iload_n (dat d_Lw_draw 86 rfl) rfl rfl ?_
      refine l125 _ _ _ _ _ _ (by rw [hqq]; first | (rw [if_pos (by omega)]) | (rw [if_neg (by omega)])) (fun z => ?_)
      rw [up_f, up_f, up_f]
      refine ⟨?_, ?_, ?_, ?_, ?_, ?_, ?_, st1_s⟩
      · rw [st1_n (by decide), st1_n (by decide), st1_n (by decide), st1_n (by decide)]; exact hh.1
      · rw [st1_n (by decide), st1_n (by decide), st1_n (by decide), st1_n (by decide)]; exact hh.2.1
      · rw [st1_n (by decide), st1_n (by decide), st1_n (by decide), st1_n (by decide)]; exact hh.2.2.1
      · rw [st1_n (by decide), st1_n (by decide), st1_n (by decide), st1_n (by decide)]; exact hh.2.2.2
      · rw [st1_n (by decide), st1_n (by decide), st1_n (by decide), st1_s]; omega
      · rw [st1_n (by decide), st1_n (by decide), st1_s]; omega
      · rw [st1_n (by decide), st1_s]
    · refine a_iconst (dat d_Lw_draw 84 rfl) (by decide) ?_
      refine a_goto (tgt := 125) (dat d_Lw_draw 85 rfl) (by decide) ?_
      refine l125 _ _ _ _ _ _ (by rw [hqq]; first | (rw [if_pos (by omega)]) | (rw [if_neg (by omega)])) (fun z => ?_)
      rw [up_f, up_f, up_f]
      refine ⟨?_, ?_, ?_, ?_, ?_, ?_, ?_, st1_s⟩
      · rw [st1_n (by decide), st1_n (by decide), st1_n (by decide), st1_n (by decide)]; exact hh.1
      · rw [st1_n (by decide), st1_n (by decide), st1_n (by decide), st1_n (by decide)]; exact hh.2.1
      · rw [st1_n (by decide), st1_n (by decide), st1_n (by decide), st1_n (by decide)]; exact hh.2.2.1
      · rw [st1_n (by decide), st1_n (by decide), st1_n (by decide), st1_n (by decide)]; exact hh.2.2.2
      · rw [st1_n (by decide), st1_n (by decide), st1_n (by decide), st1_s]; omega
      · rw [st1_n (by decide), st1_n (by decide), st1_s]; omega
      · rw [st1_n (by decide), st1_s]
  refine a_astore (L' := [vR 500, vI 1, vI P, vI q0, vR 175, vU, vU, vU, vU]) (dat d_Lw_draw 2 rfl) (by decide) rfl rfl ?_
  refine a_aload_n (dat d_Lw_draw 3 rfl) rfl rfl ?_
  refine a_iload_n (dat d_Lw_draw 4 rfl) rfl rfl ?_
  refine a_cellOf hX hYA (by decide) hcs (dat d_Lw_draw 5 rfl) rfl l_Lw_72 (by decide) (Nat.le_of_ble_eq_true rfl) (fun x hx => ?_)
  have b0 := ia1 x
  have b1 := ia3 (ishr x 1)
  have b2 := ia15 (ishr x 3)
  show Ax g1 y_Lw_draw Y [175] 1 180 12 [vR 500, vI 1, vI P, vI q0, vR 175, vU, vU, vU, vU] [vI x] (nw0 (fun _ _ => 0) 175)
  refine a_istore (L' := [vR 500, vI 1, vI P, vI q0, vR 175, vI x, vU, vU, vU]) (dat d_Lw_draw 6 rfl) (by decide) rfl rfl ?_
  refine a_aload (dat d_Lw_draw 7 rfl) rfl ?_
  refine a_iconst (dat d_Lw_draw 8 rfl) (by decide) ?_
  refine a_iconst (dat d_Lw_draw 9 rfl) (by decide) ?_
  refine a_iast (n := 180) (dat d_Lw_draw 10 rfl) hI (by omega) (by omega) ?_
  refine a_aload (dat d_Lw_draw 11 rfl) rfl ?_
  refine a_iconst (dat d_Lw_draw 12 rfl) (by decide) ?_
  refine a_iconst (dat d_Lw_draw 13 rfl) (by decide) ?_
  refine a_iload (dat d_Lw_draw 14 rfl) rfl ?_
  refine a_iconst (dat d_Lw_draw 15 rfl) (by decide) ?_
  refine a_iand (v := iand x 1) (dat d_Lw_draw 16 rfl) rfl ?_
  refine a_iadd (v := 2 + (iand x 1)) (dat d_Lw_draw 17 rfl) rfl (by omega) ?_
  refine a_iast (n := 180) (dat d_Lw_draw 18 rfl) hI (by omega) (by omega) ?_
  refine a_aload (dat d_Lw_draw 19 rfl) rfl ?_
  refine a_iconst (dat d_Lw_draw 20 rfl) (by decide) ?_
  refine a_iload (dat d_Lw_draw 21 rfl) rfl ?_
  refine a_iconst (dat d_Lw_draw 22 rfl) (by decide) ?_
  refine a_ishr (v := ishr x 1) (dat d_Lw_draw 23 rfl) rfl ?_
  refine a_iconst (dat d_Lw_draw 24 rfl) (by decide) ?_
  refine a_iand (v := iand (ishr x 1) 3) (dat d_Lw_draw 25 rfl) rfl ?_
  refine a_iast (n := 180) (dat d_Lw_draw 26 rfl) hI (by omega) (by omega) ?_
  refine a_aload (dat d_Lw_draw 27 rfl) rfl ?_
  refine a_iconst (dat d_Lw_draw 28 rfl) (by decide) ?_
  refine a_iconst (dat d_Lw_draw 29 rfl) (by decide) ?_
  refine a_iload (dat d_Lw_draw 30 rfl) rfl ?_
  refine a_iconst (dat d_Lw_draw 31 rfl) (by decide) ?_
  refine a_ishr (v := ishr x 3) (dat d_Lw_draw 32 rfl) rfl ?_
  refine a_bipush (dat d_Lw_draw 33 rfl) (by decide) (by decide) ?_
  refine a_iand (v := iand (ishr x 3) 15) (dat d_Lw_draw 34 rfl) rfl ?_
  refine a_bipush (dat d_Lw_draw 35 rfl) (by decide) (by decide) ?_
  refine a_irem (v := (iand (ishr x 3) 15) % 10) (dat d_Lw_draw 36 rfl) (by omega) rfl ?_
  refine a_iadd (v := 1 + ((iand (ishr x 3) 15) % 10)) (dat d_Lw_draw 37 rfl) rfl (by omega) ?_
  refine a_iast (n := 180) (dat d_Lw_draw 38 rfl) hI (by omega) (by omega) ?_
  refine a_aload (dat d_Lw_draw 39 rfl) rfl ?_
  refine a_iconst (dat d_Lw_draw 40 rfl) (by decide) ?_
  refine a_iload (dat d_Lw_draw 41 rfl) rfl ?_
  refine a_bipush (dat d_Lw_draw 42 rfl) (by decide) (by decide) ?_
  refine a_ishr (v := ishr x 7) (dat d_Lw_draw 43 rfl) rfl ?_
  refine a_iconst (dat d_Lw_draw 44 rfl) (by decide) ?_
  refine a_iand (v := iand (ishr x 7) 1) (dat d_Lw_draw 45 rfl) rfl ?_
  refine a_iast (n := 180) (dat d_Lw_draw 46 rfl) hI (by omega) (by omega) ?_
  refine a_aload (dat d_Lw_draw 47 rfl) rfl ?_
  refine a_iconst (dat d_Lw_draw 48 rfl) (by decide) ?_
  refine a_dup2 (dat d_Lw_draw 49 rfl) rfl rfl ?_
  refine a_iald (n := 180) (v := iand (ishr x 7) 1) (dat d_Lw_draw 50 rfl) hI (by omega) (by omega) (up_s) ?_
  refine a_iload (dat d_Lw_draw 51 rfl) rfl ?_
  refine a_bipush (dat d_Lw_draw 52 rfl) (by decide) (by decide) ?_
  refine a_ishr (v := ishr x 8) (dat d_Lw_draw 53 rfl) rfl ?_
  refine a_iconst (dat d_Lw_draw 54 rfl) (by decide) ?_
  refine a_iand (v := iand (ishr x 8) 3) (dat d_Lw_draw 55 rfl) rfl ?_
  refine a_iconst (dat d_Lw_draw 56 rfl) (by decide) ?_
  refine a_icmp_ne (tgt := 86) (dat d_Lw_draw 57 rfl) (by decide) (fun c_79 => ?_) (fun c_79 => ?_)
  · refine a_iconst (dat d_Lw_draw 60 rfl) (by decide) ?_
    refine l87 _ _ _ x _ _ (by decide) ?_
    rw [up_f, up_f, up_f, up_f, up_f]
    refine ⟨?_, ?_, ?_, ?_⟩
    · rw [st1_n (by decide), st1_n (by decide), st1_n (by decide), st1_n (by decide), st1_s]
    · rw [st1_n (by decide), st1_n (by decide), st1_n (by decide), st1_s]; omega
    · rw [st1_n (by decide), st1_n (by decide), st1_s]; exact b1
    · rw [st1_n (by decide), st1_s]; omega
  · refine a_iconst (dat d_Lw_draw 58 rfl) (by decide) ?_
    refine a_goto (tgt := 87) (dat d_Lw_draw 59 rfl) (by decide) ?_
    refine l87 _ _ _ x _ _ (by decide) ?_
    rw [up_f, up_f, up_f, up_f, up_f]
    refine ⟨?_, ?_, ?_, ?_⟩
    · rw [st1_n (by decide), st1_n (by decide), st1_n (by decide), st1_n (by decide), st1_s]
    · rw [st1_n (by decide), st1_n (by decide), st1_n (by decide), st1_s]; omega
    · rw [st1_n (by decide), st1_n (by decide), st1_s]; exact b1
    · rw [st1_n (by decide), st1_s]; omega
