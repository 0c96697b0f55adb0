/-! bytes put one by one: twenty are fed together -/
def LwF (σ' σ : xS) : Prop := ∀ o : Nat, 174 < o → σ' o = σ o
theorem LwF.rfl (σ : xS) : LwF σ σ := fun _ _ => Eq.refl _
theorem LwF.trans {σ2 σ1 σ : xS} (h : LwF σ2 σ1) (h1 : LwF σ1 σ) : LwF σ2 σ := fun o ho => (h o ho).trans (h1 o ho)
def Stay (a' a : Int → Int) : Prop := ∀ i : Int, ((i < 10 ∧ i ≠ 2) ∨ 610 ≤ i) → a' i = a i
/-- bs is put: the tape holds what came in twenties, q the rest -/
def PtS (σ : xS) (a : Int → Int) (im : Nat → Int → Int) (bs : List Int) : Prop :=
  (∀ x ∈ bs, 0 ≤ x ∧ x ≤ 255) ∧ (σ 174 5 = ((bs.length % 20 : Nat) : Int) ∧ σ 174 6 = ((bs.length : Nat) : Int)) ∧
  (∀ i : Nat, 20 * (bs.length / 20) ≤ i → i < bs.length → iand (ishr (σ 174 ((i % 20 / 4 : Nat) : Int)) (8 * ((min (bs.length % 20) (4 * (i % 20 / 4) + 4) - 1 - i % 20 : Nat) : Int))) 255 = bs.getD i 0) ∧
  ∃ a' : Int → Int, SbR σ a' im ∧ Stay a' a ∧ a' 2 = ((20 * (bs.length / 20) : Nat) : Int) ∧ ∀ i : Nat, i < 20 * (bs.length / 20) → a' (10 + i) = bs.getD i 0
theorem ia_255 (x : Int) : iand x 255 = x % 256 := by
  have h := iand_255 x
  unfold iand at h ⊢
  have e := toInt_nat (x := (Int32.ofInt x &&& Int32.ofInt 255).toBitVec) (by rw [← msb_nn]; exact h.1)
  have e1 : (Int32.ofInt x &&& Int32.ofInt 255).toBitVec.toNat = (Int32.ofInt x).toBitVec.toNat % 256 := by
    rw [Int32.toBitVec_and, BitVec.toNat_and]
    exact Nat.and_two_pow_sub_one_eq_mod _ 8
  have e2 : (Int32.ofInt x).toBitVec.toNat = (x % 4294967296).toNat := @BitVec.toNat_ofInt 32 x
  show (Int32.ofInt x &&& Int32.ofInt 255).toBitVec.toInt = _
  rw [e, e1, e2]
  omega
theorem sr_div {a : Int} (h : -2147483648 ≤ a ∧ a < 2147483648) {k : Nat} (hk : k < 31) : ishr a k = a / 2 ^ k := by
  unfold ishr
  have hs : ∀ k : Nat, k < 31 → ((Int32.ofInt (k : Int) &&& 31).toBitVec.smod 32).toNat = k := by decide +kernel
  rw [pk_shr (Int32.ofInt a) (Int32.ofInt (k : Int) &&& 31) k (hs k hk), i32 h.1 h.2, Int.shiftRight_eq_div_pow]
  norm_cast
theorem or_8 {x c : Int} (hc : 0 ≤ c ∧ c ≤ 255) : (ior (ishl x 8) c - (256 * x + c)) % 4294967296 = 0 := by
  unfold ior ishl
  rw [Int32.ofInt_toInt]
  have e1 : (Int32.ofInt x <<< (Int32.ofInt 8 &&& 31)).toBitVec.toNat = (Int32.ofInt x).toBitVec.toNat * 2 ^ 8 % 2 ^ 32 := pk_shl _ _ 8 (by decide +kernel)
  have e2 : (Int32.ofInt x).toBitVec.toNat = (x % 4294967296).toNat := @BitVec.toNat_ofInt 32 x
  have e3 : (Int32.ofInt c).toBitVec.toNat = (c % 4294967296).toNat := @BitVec.toNat_ofInt 32 c
  have e4 : ((Int32.ofInt x <<< (Int32.ofInt 8 &&& 31)) ||| Int32.ofInt c).toBitVec.toNat = 256 * ((x % 4294967296).toNat % 16777216) + c.toNat := by
    rw [Int32.toBitVec_or, BitVec.toNat_or, e1, e2, e3]
    have e5 : (x % 4294967296).toNat * 2 ^ 8 % 2 ^ 32 = ((x % 4294967296).toNat % 16777216) <<< 8 := by
      rw [Nat.shiftLeft_eq]
      omega
    rw [e5, show (c % 4294967296).toNat = c.toNat by omega, ← Nat.shiftLeft_add_eq_or_of_lt (by omega), Nat.shiftLeft_eq]
    omega
  show (((Int32.ofInt x <<< (Int32.ofInt 8 &&& 31)) ||| Int32.ofInt c).toBitVec.toInt - _) % _ = 0
  rw [BitVec.toInt_eq_toNat_cond, e4]
  split <;> omega
theorem by_0 {x c : Int} (hc : 0 ≤ c ∧ c ≤ 255) : iand (ishr (ior (ishl x 8) c) 0) 255 = c := by
  have h := or_8 (x := x) hc
  rw [show (0 : Int) = ((0 : Nat) : Int) from rfl, sr_div (by exact toInt_ok _) (by decide), ia_255]
  omega
theorem by_S {x c : Int} (hx : -2147483648 ≤ x ∧ x < 2147483648) (hc : 0 ≤ c ∧ c ≤ 255) {k : Nat} (hk : k < 3) : iand (ishr (ior (ishl x 8) c) (8 * ((k + 1 : Nat) : Int))) 255 = iand (ishr x (8 * (k : Int))) 255 := by
  have h := or_8 (x := x) hc
  have e : ∀ (y : Int) (j : Nat), (-2147483648 ≤ y ∧ y < 2147483648) → j < 4 → iand (ishr y (8 * (j : Int))) 255 = y / 2 ^ (8 * j) % 256 := fun y j hy hj => by
    rw [show 8 * (j : Int) = ((8 * j : Nat) : Int) by omega, sr_div hy (by omega), ia_255]
  rw [e (ior (ishl x 8) c) (k + 1) (toInt_ok _) (by omega), e x k hx (by omega)]
  show ior (ishl x 8) c / 2 ^ (8 * (k + 1)) % 256 = _
  generalize ior (ishl x 8) c = z at h
  rcases (show k = 0 ∨ k = 1 ∨ k = 2 by omega) with q | q | q <;> subst q
  · show z / 256 % 256 = x / 1 % 256
    omega
  · show z / 65536 % 256 = x / 256 % 256
    omega
  · show z / 16777216 % 256 = x / 65536 % 256
    omega
theorem getD_app {l : List Int} {x : Int} {i : Nat} (h : i < l.length) : (l ++ [x]).getD i 0 = l.getD i 0 := by
  rw [List.getD_eq_getElem?_getD, List.getD_eq_getElem?_getD, List.getElem?_append_left h]
theorem getD_last {l : List Int} {x : Int} : (l ++ [x]).getD l.length 0 = x := by
  rw [List.getD_eq_getElem?_getD, List.getElem?_append_right (Nat.le_refl _)]
  simp
theorem Stay.trans {a2 a1 a : Int → Int} (h : Stay a2 a1) (h1 : Stay a1 a) : Stay a2 a := fun i hi => (h i hi).trans (h1 i hi)
theorem SbR.q {σ : xS} {a : Int → Int} {im : Nat → Int → Int} {i v : Int} (H : SbR σ a im) : SbR (up σ 174 i v) a im := H.same (fun o ho => up_ne (by omega)) (up_ne (by decide)) (up_ne (by decide))
theorem sp_Lw_put {g : xG} {K : Option MV → xS → Prop} {σ : xS} {a : Int → Int} {im : Nat → Int → Int} {bs : List Int} {x : Int} (H : PtS σ a im bs) (hx : 0 ≤ x ∧ x ≤ 255) (hn : bs.length < 600) (k : ∀ σ' : xS, PtS σ' a im (bs ++ [x]) → LwF σ' σ → K none σ') : Mt g y_Lw_put [vR 0, vR 174, vI x] σ K := by
  obtain ⟨hb, ⟨e5, e6⟩, hq, a', hS, hst, h2, ht⟩ := H
  have hb' : ∀ y ∈ bs ++ [x], 0 ≤ y ∧ y ≤ 255 := fun y hy => by
    rcases List.mem_append.mp hy with h | h
    · exact hb y h
    · rw [List.mem_singleton.mp h]; exact hx
  generalize hm : bs.length % 20 = m at e5 hq
  have m20 : m < 20 := by omega
  have len : (bs ++ [x]).length = bs.length + 1 := by simp
  generalize hN : bs.length = n at hq e6 h2 ht hm hn len
  -- what q's words hold with the byte in
  have hw : ∀ ho : okS σ, ∀ i : Nat, 20 * (n / 20) ≤ i → i < n + 1 → iand (ishr ((up σ 174 ((m : Int) / 4) (ior (ishl (σ 174 ((m : Int) / 4)) 8) x)) 174 ((i % 20 / 4 : Nat) : Int)) (8 * ((min (m + 1) (4 * (i % 20 / 4) + 4) - 1 - i % 20 : Nat) : Int))) 255 = (bs ++ [x]).getD i 0 := fun ho i i0 i1 => by
    have ej : (m : Int) / 4 = ((m / 4 : Nat) : Int) := by omega
    rw [ej]
    by_cases z : i = n
    · have e1 : i % 20 = m := by omega
      rw [e1, up_s, show min (m + 1) (4 * (m / 4) + 4) - 1 - m = 0 by omega, z, ← hN, getD_last]
      exact by_0 hx
    · rw [getD_app (by omega), ← hq i i0 (by omega)]
      by_cases y : i % 20 / 4 = m / 4
      · rw [y, up_s, show min (m + 1) (4 * (m / 4) + 4) - 1 - i % 20 = (min m (4 * (m / 4) + 4) - 1 - i % 20) + 1 by omega]
        exact by_S (ho 174 _).1 hx (by omega)
      · rw [up_ni (by omega), show min (m + 1) (4 * (i % 20 / 4) + 4) = min m (4 * (i % 20 / 4) + 4) by omega]
  have fin1 : m + 1 ≠ 20 → okS σ → K none (up (up (up σ 174 ((m : Int) / 4) (ior (ishl (σ 174 ((m : Int) / 4)) 8) x)) 174 5 ((m : Int) + 1)) 174 6 ((n : Int) + 1)) := fun z ho => by
    refine k _ ⟨hb', ⟨?_, ?_⟩, fun i i0 i1 => ?_, a', hS.q.q.q, hst, ?_, fun i hi => ?_⟩ (fun o ho => by rw [up_ne (by omega), up_ne (by omega), up_ne (by omega)])
    · rw [up_ni (by decide), up_s, len]; omega
    · rw [up_s, len]; omega
    · rw [len] at i0 i1 ⊢
      rw [up_ni (by omega), up_ni (by omega), show (n + 1) % 20 = m + 1 by omega]
      exact hw ho i (by omega) i1
    · rw [h2, len]; omega
    · rw [len] at hi
      rw [getD_app (by omega)]
      exact ht i (by omega)
  have fin2 : m + 1 = 20 → okS σ → ∀ (w : Int → Int) (σ2 : xS), w = (up σ 174 ((m : Int) / 4) (ior (ishl (σ 174 ((m : Int) / 4)) 8) x)) 174 → SbR σ2 (feedA a' (w 0) (w 1) (w 2) (w 3) (w 4)) im → SbF σ2 (up (up (up σ 174 ((m : Int) / 4) (ior (ishl (σ 174 ((m : Int) / 4)) 8) x)) 174 5 ((m : Int) + 1)) 174 6 ((n : Int) + 1)) → K none (up σ2 174 5 0) := fun z ho w σ2 hw2 S2 F2 => by
    have hw1 := hw ho
    rw [← hw2] at hw1
    refine k _ ⟨hb', ⟨?_, ?_⟩, fun i i0 i1 => ?_, _, S2.q, fun i hi => ?_, ?_, fun i hi => ?_⟩ (fun o ho => by rw [up_ne (by omega), F2 o (by omega), up_ne (by omega), up_ne (by omega), up_ne (by omega)])
    · rw [up_s, len]; omega
    · rw [up_ni (by decide), F2 174 (by decide), up_s, len]; omega
    · rw [len] at i0 i1; omega
    · unfold feedA
      rw [if_neg (by omega), if_neg (by omega)]
      exact hst i hi
    · show feedA a' (w 0) (w 1) (w 2) (w 3) (w 4) 2 = _
      rw [show feedA a' (w 0) (w 1) (w 2) (w 3) (w 4) 2 = a' 2 + 20 from if_pos rfl, h2, len]
      omega
    · rw [len] at hi
      by_cases y : i < 20 * (n / 20)
      · rw [getD_app (by omega), ← ht i y]
        unfold feedA
        rw [if_neg (by omega), if_neg (by omega)]
      · have hi2 := hw1 i (by omega) (by omega)
        rw [← hi2]
        unfold feedA
        rw [if_neg (by omega), if_pos (by omega), show 10 + (i : Int) - (10 + a' 2) = ((i % 20 : Nat) : Int) by omega]
        unfold fbA
        have e1 : fbX (w 0) (w 1) (w 2) (w 3) (w 4) ((i % 20 : Nat) : Int) = w ((i % 20 / 4 : Nat) : Int) := by
          unfold fbX
          rcases (show i % 20 / 4 = 0 ∨ i % 20 / 4 = 1 ∨ i % 20 / 4 = 2 ∨ i % 20 / 4 = 3 ∨ i % 20 / 4 = 4 by omega) with q | q | q | q | q
          · rw [if_pos (by omega), q]; rfl
          · rw [if_neg (by omega), if_pos (by omega), q]; rfl
          · rw [if_neg (by omega), if_neg (by omega), if_pos (by omega), q]; rfl
          · rw [if_neg (by omega), if_neg (by omega), if_neg (by omega), if_pos (by omega), q]; rfl
          · rw [if_neg (by omega), if_neg (by omega), if_neg (by omega), if_neg (by omega), q]; rfl
        rw [e1, show 24 - 8 * (((i % 20 : Nat) : Int) % 4) = 8 * ((min (m + 1) (4 * (i % 20 / 4) + 4) - 1 - i % 20 : Nat) : Int) by omega]
  refine x_enter 1 rfl rfl rfl (fun Z => ?_)
  show Wx g y_Lw_put Z K 0 [vR 0, vR 174, vI x, vU] [] σ
  refine x_okS (fun ho => ?_)
  refine x_aload_n (dat d_Lw_put 0 rfl) rfl rfl ?_
  refine x_aload_n (dat d_Lw_put 1 rfl) rfl rfl ?_
  refine x_iconst (dat d_Lw_put 2 rfl) (by decide) ?_
  refine x_iald (n := 8) (v := (m : Int)) (dat d_Lw_put 3 rfl) (ai_mk (by decide +kernel)) (by omega) (by omega) (e5) ?_
  refine x_iconst (dat d_Lw_put 4 rfl) (by decide) ?_
  refine x_idiv (v := (m : Int) / 4) (dat d_Lw_put 5 rfl) (by omega) rfl ?_
  refine x_aload_n (dat d_Lw_put 6 rfl) rfl rfl ?_
  refine x_aload_n (dat d_Lw_put 7 rfl) rfl rfl ?_
  refine x_iconst (dat d_Lw_put 8 rfl) (by decide) ?_
  refine x_iald (n := 8) (v := (m : Int)) (dat d_Lw_put 9 rfl) (ai_mk (by decide +kernel)) (by omega) (by omega) (e5) ?_
  refine x_iconst (dat d_Lw_put 10 rfl) (by decide) ?_
  refine x_idiv (v := (m : Int) / 4) (dat d_Lw_put 11 rfl) (by omega) rfl ?_
  refine x_iald (n := 8) (v := σ 174 ((m : Int) / 4)) (dat d_Lw_put 12 rfl) (ai_mk (by decide +kernel)) (by omega) (by omega) rfl ?_
  refine x_bipush (dat d_Lw_put 13 rfl) (by decide) (by decide) ?_
  refine x_ishl (v := ishl (σ 174 ((m : Int) / 4)) 8) (dat d_Lw_put 14 rfl) rfl ?_
  refine x_iload_n (dat d_Lw_put 15 rfl) rfl rfl ?_
  refine x_ior (v := ior (ishl (σ 174 ((m : Int) / 4)) 8) x) (dat d_Lw_put 16 rfl) rfl ?_
  refine x_iast (n := 8) (dat d_Lw_put 17 rfl) (ai_mk (by decide +kernel)) (by omega) (by omega) ?_
  refine x_aload_n (dat d_Lw_put 18 rfl) rfl rfl ?_
  refine x_iconst (dat d_Lw_put 19 rfl) (by decide) ?_
  refine x_dup2 (dat d_Lw_put 20 rfl) rfl rfl ?_
  refine x_iald (n := 8) (v := (m : Int)) (dat d_Lw_put 21 rfl) (ai_mk (by decide +kernel)) (by omega) (by omega) ((up_ni (by omega)).trans e5) ?_
  refine x_iconst (dat d_Lw_put 22 rfl) (by decide) ?_
  refine x_iadd (v := (m : Int) + 1) (dat d_Lw_put 23 rfl) rfl (by omega) ?_
  refine x_iast (n := 8) (dat d_Lw_put 24 rfl) (ai_mk (by decide +kernel)) (by omega) (by omega) ?_
  refine x_aload_n (dat d_Lw_put 25 rfl) rfl rfl ?_
  refine x_bipush (dat d_Lw_put 26 rfl) (by decide) (by decide) ?_
  refine x_dup2 (dat d_Lw_put 27 rfl) rfl rfl ?_
  refine x_iald (n := 8) (v := (n : Int)) (dat d_Lw_put 28 rfl) (ai_mk (by decide +kernel)) (by omega) (by omega) ((up_ni (by decide)).trans ((up_ni (by omega)).trans e6)) ?_
  refine x_iconst (dat d_Lw_put 29 rfl) (by decide) ?_
  refine x_iadd (v := (n : Int) + 1) (dat d_Lw_put 30 rfl) rfl (by omega) ?_
  refine x_iast (n := 8) (dat d_Lw_put 31 rfl) (ai_mk (by decide +kernel)) (by omega) (by omega) ?_
  refine x_aload_n (dat d_Lw_put 32 rfl) rfl rfl ?_
  refine x_iconst (dat d_Lw_put 33 rfl) (by decide) ?_
  refine x_iald (n := 8) (v := (m : Int) + 1) (dat d_Lw_put 34 rfl) (ai_mk (by decide +kernel)) (by omega) (by omega) ((up_ni (by decide)).trans up_s) ?_
  refine x_bipush (dat d_Lw_put 35 rfl) (by decide) (by decide) ?_
  refine x_icmp_ne (tgt := 66) (dat d_Lw_put 36 rfl) (by decide) (fun c_39 => ?_) (fun c_39 => ?_)
  · refine x_ret (dat d_Lw_put 59 rfl) rfl ?_
    first
    | exact fin1 (by omega) ho
    | exact fin2 (by omega) ho _ _ rfl S2 F2
  · refine x_aload_n (dat d_Lw_put 37 rfl) rfl rfl ?_
    refine x_aload_n (dat d_Lw_put 38 rfl) rfl rfl ?_
    refine x_iconst (dat d_Lw_put 39 rfl) (by decide) ?_
    refine x_iald (n := 8) (v := (up σ 174 ((m : Int) / 4) (ior (ishl (σ 174 ((m : Int) / 4)) 8) x)) 174 0) (dat d_Lw_put 40 rfl) (ai_mk (by decide +kernel)) (by omega) (by omega) ((up_ni (by decide)).trans (up_ni (by decide))) ?_
    refine x_aload_n (dat d_Lw_put 41 rfl) rfl rfl ?_
    refine x_iconst (dat d_Lw_put 42 rfl) (by decide) ?_
    refine x_iald (n := 8) (v := (up σ 174 ((m : Int) / 4) (ior (ishl (σ 174 ((m : Int) / 4)) 8) x)) 174 1) (dat d_Lw_put 43 rfl) (ai_mk (by decide +kernel)) (by omega) (by omega) ((up_ni (by decide)).trans (up_ni (by decide))) ?_
    refine x_aload_n (dat d_Lw_put 44 rfl) rfl rfl ?_
    refine x_iconst (dat d_Lw_put 45 rfl) (by decide) ?_
    refine x_iald (n := 8) (v := (up σ 174 ((m : Int) / 4) (ior (ishl (σ 174 ((m : Int) / 4)) 8) x)) 174 2) (dat d_Lw_put 46 rfl) (ai_mk (by decide +kernel)) (by omega) (by omega) ((up_ni (by decide)).trans (up_ni (by decide))) ?_
    refine x_aload_n (dat d_Lw_put 47 rfl) rfl rfl ?_
    refine x_iconst (dat d_Lw_put 48 rfl) (by decide) ?_
    refine x_iald (n := 8) (v := (up σ 174 ((m : Int) / 4) (ior (ishl (σ 174 ((m : Int) / 4)) 8) x)) 174 3) (dat d_Lw_put 49 rfl) (ai_mk (by decide +kernel)) (by omega) (by omega) ((up_ni (by decide)).trans (up_ni (by decide))) ?_
    refine x_aload_n (dat d_Lw_put 50 rfl) rfl rfl ?_
    refine x_iconst (dat d_Lw_put 51 rfl) (by decide) ?_
    refine x_iald (n := 8) (v := (up σ 174 ((m : Int) / 4) (ior (ishl (σ 174 ((m : Int) / 4)) 8) x)) 174 4) (dat d_Lw_put 52 rfl) (ai_mk (by decide +kernel)) (by omega) (by omega) ((up_ni (by decide)).trans (up_ni (by decide))) ?_
    refine x_inv (As := [vI ((up σ 174 ((m : Int) / 4) (ior (ishl (σ 174 ((m : Int) / 4)) 8) x)) 174 0), vI ((up σ 174 ((m : Int) / 4) (ior (ishl (σ 174 ((m : Int) / 4)) 8) x)) 174 1), vI ((up σ 174 ((m : Int) / 4) (ior (ishl (σ 174 ((m : Int) / 4)) 8) x)) 174 2), vI ((up σ 174 ((m : Int) / 4) (ior (ishl (σ 174 ((m : Int) / 4)) 8) x)) 174 3), vI ((up σ 174 ((m : Int) / 4) (ior (ishl (σ 174 ((m : Int) / 4)) 8) x)) 174 4)]) (dat d_Lw_put 53 rfl) rfl c_Sb_feed l_Lw_7 (by decide) (rv_sb (by decide +kernel)) rfl rfl (Nat.le_of_ble_eq_true rfl) ?_
    refine sp_Sb_feed hS.q.q.q (fun h => by omega) (fun h σ2 S2 F2 => ?_)
    show Wx g y_Lw_put Z K 61 [vR 0, vR 174, vI x, vU] [vI (a' 2 + 20)] σ2
    refine x_istore_n (L' := [vR 0, vR 174, vI x, vI (a' 2 + 20)]) (dat d_Lw_put 54 rfl) rfl (by decide) rfl rfl ?_
    refine x_aload_n (dat d_Lw_put 55 rfl) rfl rfl ?_
    refine x_iconst (dat d_Lw_put 56 rfl) (by decide) ?_
    refine x_iconst (dat d_Lw_put 57 rfl) (by decide) ?_
    refine x_iast (n := 8) (dat d_Lw_put 58 rfl) (ai_mk (by decide +kernel)) (by omega) (by omega) ?_
    refine x_ret (dat d_Lw_put 59 rfl) rfl ?_
    first
    | exact fin1 (by omega) ho
    | exact fin2 (by omega) ho _ _ rfl S2 F2
/-- nothing more to put: the text has its own length -/
def EdS (σ : xS) (a : Int → Int) (im : Nat → Int → Int) (bs : List Int) : Prop :=
  (σ 174 5 = 0 ∧ σ 174 6 = 0) ∧ ∃ a' : Int → Int, SbR σ a' im ∧ Stay a' a ∧ a' 2 = ((bs.length : Nat) : Int) ∧ ∀ i : Nat, i < bs.length → a' (10 + i) = bs.getD i 0
theorem getD_rep {l : List Int} {i m : Nat} (h : i < l.length) : (l ++ List.replicate m 0).getD i 0 = l.getD i 0 := by
  rw [List.getD_eq_getElem?_getD, List.getD_eq_getElem?_getD, List.getElem?_append_left h]
theorem sp_Lw_ends {g : xG} {K : Option MV → xS → Prop} {σ : xS} {a : Int → Int} {im : Nat → Int → Int} {bs : List Int} (H : PtS σ a im bs) (hn : bs.length ≤ 600) (k : ∀ σ' : xS, EdS σ' a im bs → LwF σ' σ → K (some (vI 1)) σ') : Mt g y_Lw_ends [vR 0, vR 174] σ K := by
  have e6 := H.2.1.2
  generalize hN : bs.length = n at e6 hn
  have lp : ∀ (Z : xZ) (d m : Nat) (σ1 : xS), m + d = (20 - n % 20) % 20 → PtS σ1 a im (bs ++ List.replicate m 0) → LwF σ1 σ → Wx g y_Lw_ends Z K 5 [vR 0, vR 174, vI (n : Int)] [] σ1 := by
    intro Z d
    induction d with
    | zero =>
      intro m σ1 hm H1 F1
      have len : (bs ++ List.replicate m 0).length = n + m := by simp [hN]
      obtain ⟨hb, ⟨e5, e61⟩, hq, a', hS, hst, h2, ht⟩ := H1
      rw [len] at e5 e61 h2 ht
      have e50 : σ1 174 5 = 0 := by rw [e5]; omega
      refine x_aload_n (dat d_Lw_ends 4 rfl) rfl rfl ?_
      refine x_iconst (dat d_Lw_ends 5 rfl) (by decide) ?_
      refine x_iald (n := 8) (v := 0) (dat d_Lw_ends 6 rfl) (ai_mk (by decide +kernel)) (by omega) (by omega) (e50) ?_
      refine x_if_eq (tgt := 20) (dat d_Lw_ends 7 rfl) (by decide) (fun c_8 => ?_) (fun h => absurd h (by decide))
      refine x_aload_n (dat d_Lw_ends 13 rfl) rfl rfl ?_
      refine x_bipush (dat d_Lw_ends 14 rfl) (by decide) (by decide) ?_
      refine x_iconst (dat d_Lw_ends 15 rfl) (by decide) ?_
      refine x_iast (n := 8) (dat d_Lw_ends 16 rfl) (ai_mk (by decide +kernel)) (by omega) (by omega) ?_
      refine x_aload_n (dat d_Lw_ends 17 rfl) rfl rfl ?_
      refine x_iload_n (dat d_Lw_ends 18 rfl) rfl rfl ?_
      refine x_inv (As := [vI (n : Int)]) (dat d_Lw_ends 19 rfl) rfl c_Sb_end l_Lw_19 (by decide) (rv_sb (by decide +kernel)) rfl rfl (Nat.le_of_ble_eq_true rfl) ?_
      refine sp_Sb_end hS.q (fun h => by omega) (fun n0 n1 σ2 S2 F2 => ?_)
      show Wx g y_Lw_ends Z K 30 [vR 0, vR 174, vI (n : Int)] [vI (n : Int)] σ2
      refine x_iload_n (dat d_Lw_ends 20 rfl) rfl rfl ?_
      refine x_icmp_ne (tgt := 38) (dat d_Lw_ends 21 rfl) (by decide) (fun h => (by omega)) (fun c_31 => ?_)
      refine x_iconst (dat d_Lw_ends 22 rfl) (by decide) ?_
      refine x_goto (tgt := 39) (dat d_Lw_ends 23 rfl) (by decide) ?_
      refine x_zret (dat d_Lw_ends 25 rfl) rfl (by decide) ?_
      refine k _ ⟨⟨?_, ?_⟩, _, S2, fun i hi => ?_, ?_, fun i hi => ?_⟩ (fun o ho => by rw [F2 o (by omega), up_ne (by omega), F1 o ho])
      · rw [F2 174 (by decide), up_ni (by decide), e50]
      · rw [F2 174 (by decide), up_s]
      · rw [st1_n (by omega)]; exact hst i hi
      · rw [st1_s, hN]
      · rw [hN] at hi
        rw [st1_n (by omega), ht i (by omega), getD_rep (by omega)]
    | succ d ih =>
      intro m σ1 hm H1 F1
      have len : (bs ++ List.replicate m 0).length = n + m := by simp [hN]
      have e5 := H1.2.1.1
      rw [len] at e5
      have e51 : ¬ σ1 174 5 = 0 := by rw [e5]; omega
      refine x_aload_n (dat d_Lw_ends 4 rfl) rfl rfl ?_
      refine x_iconst (dat d_Lw_ends 5 rfl) (by decide) ?_
      refine x_iald (n := 8) (v := σ1 174 5) (dat d_Lw_ends 6 rfl) (ai_mk (by decide +kernel)) (by omega) (by omega) rfl ?_
      refine x_if_eq (tgt := 20) (dat d_Lw_ends 7 rfl) (by decide) (fun c_8 => (by omega)) (fun c_8 => ?_)
      refine x_aload_n (dat d_Lw_ends 8 rfl) rfl rfl ?_
      refine x_aload_n (dat d_Lw_ends 9 rfl) rfl rfl ?_
      refine x_iconst (dat d_Lw_ends 10 rfl) (by decide) ?_
      refine x_invs (As := [vR 0, vR 174, vI 0]) (dat d_Lw_ends 11 rfl) rfl c_Lw_put l_Lw_13 (by decide) rfl rfl (Nat.le_of_ble_eq_true rfl) ?_
      refine sp_Lw_put H1 (by decide) (by rw [len]; omega) (fun σ2 H2 F2 => ?_)
      show Wx g y_Lw_ends Z K 17 [vR 0, vR 174, vI (n : Int)] [] σ2
      refine x_goto (tgt := 5) (dat d_Lw_ends 12 rfl) (by decide) ?_
      refine ih (m + 1) σ2 (by omega) ?_ (F2.trans F1)
      rw [List.replicate_succ', ← List.append_assoc]
      exact H2
  refine x_enter 1 rfl rfl rfl (fun Z => ?_)
  show Wx g y_Lw_ends Z K 0 [vR 0, vR 174, vU] [] σ
  refine x_aload_n (dat d_Lw_ends 0 rfl) rfl rfl ?_
  refine x_bipush (dat d_Lw_ends 1 rfl) (by decide) (by decide) ?_
  refine x_iald (n := 8) (v := (n : Int)) (dat d_Lw_ends 2 rfl) (ai_mk (by decide +kernel)) (by omega) (by omega) (e6) ?_
  refine x_istore_n (L' := [vR 0, vR 174, vI (n : Int)]) (dat d_Lw_ends 3 rfl) rfl (by decide) rfl rfl ?_
  exact lp Z ((20 - n % 20) % 20) 0 σ (by omega) (by simpa using H) (LwF.rfl σ)
