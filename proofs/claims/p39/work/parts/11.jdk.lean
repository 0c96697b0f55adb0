/-! the JDK's small ones -/
section XMM
variable {g : xG} {y : xM} {Z : xZ} {K : Option MV → xS → Prop} {pc pc' : Nat} {L S : List MV} {σ : xS}
theorem x_mmin {own : String} {idx : Nat} {a b : Int} (hd : xd y.2.1 pc (.invokestatic idx) 3 pc') (ho : y.1.cls = own) (hl : Cond.methodLink own idx y_Ma_min.1 ∈ gw) (h1d : 1 ≤ y.2.2.2.2) (h8 : ((S.map (cv g)).map (fun v => v.category)).sum ≤ 8) (kk : ∀ v : Int, v ≤ a → v ≤ b → (v = a ∨ v = b) → Wx g y Z K pc' L (vI v :: S) σ) : Wx g y Z K pc L (vI b :: vI a :: S) σ := by
  intro F hL hS hσ H locs ls hH hs hll
  have hb := xok_hd hS
  have ha := xok_hd (xok_tl hS)
  simp only [ok, vI] at ha hb
  have hts := F.2.2.2.2.2.2.1
  obtain ⟨⟨c1, c2, -, -⟩, c5⟩ := c_Ma_min
  have ec : Lib.Math.min.code = y_Ma_min.2.1 := by rfl
  refine va_mmin F.1 F.2.1 (by rw [F.2.2.1, hll.1]) (own := own) (by rw [← ho]; exact F.2.2.2.2.2.1) (hts _ (List.mem_cons_of_mem _ hl)) (hts _ (List.mem_cons_of_mem _ c5)) (hts _ (List.mem_cons_of_mem _ c1)) (by rw [ec]; exact hts _ (List.mem_cons_of_mem _ c2)) h1d (by show _ ≤ 40 * y.2.2.2.2; omega) (Nat.le_refl _) (Nat.le_refl _) hd.1 ?_
  by_cases h : b < a
  · rw [if_pos ((i32_lt hb ha).mpr h)]
    have k := kk b (by omega) (by omega) (Or.inr rfl) F hL (xok_cons (xok_tl (xok_tl hS)) hb) hσ H locs ls hH hs hll
    rw [← hd.2] at k
    exact k
  · rw [if_neg (fun q => h ((i32_lt hb ha).mp q))]
    have k := kk a (by omega) (by omega) (Or.inl rfl) F hL (xok_cons (xok_tl (xok_tl hS)) ha) hσ H locs ls hH hs hll
    rw [← hd.2] at k
    exact k
theorem x_mmax {own : String} {idx : Nat} {a b : Int} (hd : xd y.2.1 pc (.invokestatic idx) 3 pc') (ho : y.1.cls = own) (hl : Cond.methodLink own idx y_Ma_max.1 ∈ gw) (h1d : 1 ≤ y.2.2.2.2) (h8 : ((S.map (cv g)).map (fun v => v.category)).sum ≤ 8) (kk : ∀ v : Int, a ≤ v → b ≤ v → (v = a ∨ v = b) → Wx g y Z K pc' L (vI v :: S) σ) : Wx g y Z K pc L (vI b :: vI a :: S) σ := by
  intro F hL hS hσ H locs ls hH hs hll
  have hb := xok_hd hS
  have ha := xok_hd (xok_tl hS)
  simp only [ok, vI] at ha hb
  have hts := F.2.2.2.2.2.2.1
  obtain ⟨⟨c1, c2, -, -⟩, c5⟩ := c_Ma_max
  have ec : Lib.Math.max.code = y_Ma_max.2.1 := by rfl
  refine va_mmax F.1 F.2.1 (by rw [F.2.2.1, hll.1]) (own := own) (by rw [← ho]; exact F.2.2.2.2.2.1) (hts _ (List.mem_cons_of_mem _ hl)) (hts _ (List.mem_cons_of_mem _ c5)) (hts _ (List.mem_cons_of_mem _ c1)) (by rw [ec]; exact hts _ (List.mem_cons_of_mem _ c2)) h1d (by show _ ≤ 40 * y.2.2.2.2; omega) (Nat.le_refl _) (Nat.le_refl _) hd.1 ?_
  by_cases h : a < b
  · rw [if_pos ((i32_lt ha hb).mpr h)]
    have k := kk b (by omega) (by omega) (Or.inr rfl) F hL (xok_cons (xok_tl (xok_tl hS)) hb) hσ H locs ls hH hs hll
    rw [← hd.2] at k
    exact k
  · rw [if_neg (fun q => h ((i32_lt ha hb).mp q))]
    have k := kk a (by omega) (by omega) (Or.inl rfl) F hL (xok_cons (xok_tl (xok_tl hS)) ha) hσ H locs ls hH hs hll
    rw [← hd.2] at k
    exact k
end XMM
/-- how many bits, as Java counts them -/
def bc1 (m : Int) : Int := wr (m - iand (iushr m 1) 1431655765)
def bc2 (m : Int) : Int := wr (iand (bc1 m) 858993459 + iand (iushr (bc1 m) 2) 858993459)
def bc3 (m : Int) : Int := iand (wr (bc2 m + iushr (bc2 m) 4)) 252645135
def bc4 (m : Int) : Int := wr (bc3 m + iushr (bc3 m) 8)
def bcnt (m : Int) : Int := iand (wr (bc4 m + iushr (bc4 m) 16)) 63
theorem sp_In_bitCount {g : xG} {K : Option MV → xS → Prop} {σ : xS} {m : Int} (k : K (some (vI (bcnt m))) σ) : Mt g y_In_bitCount [vI m] σ K := by
  refine x_enter 0 rfl rfl rfl (fun Z => ?_)
  show Wx g y_In_bitCount Z K 0 [vI m] [] σ
  refine x_iload_n (dat d_In_bitCount 0 rfl) rfl rfl ?_
  refine x_iload_n (dat d_In_bitCount 1 rfl) rfl rfl ?_
  refine x_iconst (dat d_In_bitCount 2 rfl) (by decide) ?_
  refine x_iushr (v := iushr m 1) (dat d_In_bitCount 3 rfl) rfl ?_
  refine x_ldcw (own := "java/lang/Integer") (n := 1431655765) (dat d_In_bitCount 4 rfl) rfl (gw_4 (i := 61) rfl rfl) (by decide) ?_
  refine x_iand (v := iand (iushr m 1) 1431655765) (dat d_In_bitCount 5 rfl) rfl ?_
  refine x_isubw (dat d_In_bitCount 6 rfl) ?_
  refine x_istore_n (L' := [vI (wr (m - (iand (iushr m 1) 1431655765)))]) (dat d_In_bitCount 7 rfl) rfl (by decide) rfl rfl ?_
  refine x_iload_n (dat d_In_bitCount 8 rfl) rfl rfl ?_
  refine x_ldcw (own := "java/lang/Integer") (n := 858993459) (dat d_In_bitCount 9 rfl) rfl (gw_4 (i := 62) rfl rfl) (by decide) ?_
  refine x_iand (v := iand (wr (m - (iand (iushr m 1) 1431655765))) 858993459) (dat d_In_bitCount 10 rfl) rfl ?_
  refine x_iload_n (dat d_In_bitCount 11 rfl) rfl rfl ?_
  refine x_iconst (dat d_In_bitCount 12 rfl) (by decide) ?_
  refine x_iushr (v := iushr (wr (m - (iand (iushr m 1) 1431655765))) 2) (dat d_In_bitCount 13 rfl) rfl ?_
  refine x_ldcw (own := "java/lang/Integer") (n := 858993459) (dat d_In_bitCount 14 rfl) rfl (gw_4 (i := 62) rfl rfl) (by decide) ?_
  refine x_iand (v := iand (iushr (wr (m - (iand (iushr m 1) 1431655765))) 2) 858993459) (dat d_In_bitCount 15 rfl) rfl ?_
  refine x_iaddw (dat d_In_bitCount 16 rfl) ?_
  refine x_istore_n (L' := [vI (wr ((iand (wr (m - (iand (iushr m 1) 1431655765))) 858993459) + (iand (iushr (wr (m - (iand (iushr m 1) 1431655765))) 2) 858993459)))]) (dat d_In_bitCount 17 rfl) rfl (by decide) rfl rfl ?_
  refine x_iload_n (dat d_In_bitCount 18 rfl) rfl rfl ?_
  refine x_iload_n (dat d_In_bitCount 19 rfl) rfl rfl ?_
  refine x_iconst (dat d_In_bitCount 20 rfl) (by decide) ?_
  refine x_iushr (v := iushr (wr ((iand (wr (m - (iand (iushr m 1) 1431655765))) 858993459) + (iand (iushr (wr (m - (iand (iushr m 1) 1431655765))) 2) 858993459))) 4) (dat d_In_bitCount 21 rfl) rfl ?_
  refine x_iaddw (dat d_In_bitCount 22 rfl) ?_
  refine x_ldcw (own := "java/lang/Integer") (n := 252645135) (dat d_In_bitCount 23 rfl) rfl (gw_4 (i := 63) rfl rfl) (by decide) ?_
  refine x_iand (v := iand (wr ((wr ((iand (wr (m - (iand (iushr m 1) 1431655765))) 858993459) + (iand (iushr (wr (m - (iand (iushr m 1) 1431655765))) 2) 858993459))) + (iushr (wr ((iand (wr (m - (iand (iushr m 1) 1431655765))) 858993459) + (iand (iushr (wr (m - (iand (iushr m 1) 1431655765))) 2) 858993459))) 4))) 252645135) (dat d_In_bitCount 24 rfl) rfl ?_
  refine x_istore_n (L' := [vI (iand (wr ((wr ((iand (wr (m - (iand (iushr m 1) 1431655765))) 858993459) + (iand (iushr (wr (m - (iand (iushr m 1) 1431655765))) 2) 858993459))) + (iushr (wr ((iand (wr (m - (iand (iushr m 1) 1431655765))) 858993459) + (iand (iushr (wr (m - (iand (iushr m 1) 1431655765))) 2) 858993459))) 4))) 252645135)]) (dat d_In_bitCount 25 rfl) rfl (by decide) rfl rfl ?_
  refine x_iload_n (dat d_In_bitCount 26 rfl) rfl rfl ?_
  refine x_iload_n (dat d_In_bitCount 27 rfl) rfl rfl ?_
  refine x_bipush (dat d_In_bitCount 28 rfl) (by decide) (by decide) ?_
  refine x_iushr (v := iushr (iand (wr ((wr ((iand (wr (m - (iand (iushr m 1) 1431655765))) 858993459) + (iand (iushr (wr (m - (iand (iushr m 1) 1431655765))) 2) 858993459))) + (iushr (wr ((iand (wr (m - (iand (iushr m 1) 1431655765))) 858993459) + (iand (iushr (wr (m - (iand (iushr m 1) 1431655765))) 2) 858993459))) 4))) 252645135) 8) (dat d_In_bitCount 29 rfl) rfl ?_
  refine x_iaddw (dat d_In_bitCount 30 rfl) ?_
  refine x_istore_n (L' := [vI (wr ((iand (wr ((wr ((iand (wr (m - (iand (iushr m 1) 1431655765))) 858993459) + (iand (iushr (wr (m - (iand (iushr m 1) 1431655765))) 2) 858993459))) + (iushr (wr ((iand (wr (m - (iand (iushr m 1) 1431655765))) 858993459) + (iand (iushr (wr (m - (iand (iushr m 1) 1431655765))) 2) 858993459))) 4))) 252645135) + (iushr (iand (wr ((wr ((iand (wr (m - (iand (iushr m 1) 1431655765))) 858993459) + (iand (iushr (wr (m - (iand (iushr m 1) 1431655765))) 2) 858993459))) + (iushr (wr ((iand (wr (m - (iand (iushr m 1) 1431655765))) 858993459) + (iand (iushr (wr (m - (iand (iushr m 1) 1431655765))) 2) 858993459))) 4))) 252645135) 8)))]) (dat d_In_bitCount 31 rfl) rfl (by decide) rfl rfl ?_
  refine x_iload_n (dat d_In_bitCount 32 rfl) rfl rfl ?_
  refine x_iload_n (dat d_In_bitCount 33 rfl) rfl rfl ?_
  refine x_bipush (dat d_In_bitCount 34 rfl) (by decide) (by decide) ?_
  refine x_iushr (v := iushr (wr ((iand (wr ((wr ((iand (wr (m - (iand (iushr m 1) 1431655765))) 858993459) + (iand (iushr (wr (m - (iand (iushr m 1) 1431655765))) 2) 858993459))) + (iushr (wr ((iand (wr (m - (iand (iushr m 1) 1431655765))) 858993459) + (iand (iushr (wr (m - (iand (iushr m 1) 1431655765))) 2) 858993459))) 4))) 252645135) + (iushr (iand (wr ((wr ((iand (wr (m - (iand (iushr m 1) 1431655765))) 858993459) + (iand (iushr (wr (m - (iand (iushr m 1) 1431655765))) 2) 858993459))) + (iushr (wr ((iand (wr (m - (iand (iushr m 1) 1431655765))) 858993459) + (iand (iushr (wr (m - (iand (iushr m 1) 1431655765))) 2) 858993459))) 4))) 252645135) 8))) 16) (dat d_In_bitCount 35 rfl) rfl ?_
  refine x_iaddw (dat d_In_bitCount 36 rfl) ?_
  refine x_istore_n (L' := [vI (wr ((wr ((iand (wr ((wr ((iand (wr (m - (iand (iushr m 1) 1431655765))) 858993459) + (iand (iushr (wr (m - (iand (iushr m 1) 1431655765))) 2) 858993459))) + (iushr (wr ((iand (wr (m - (iand (iushr m 1) 1431655765))) 858993459) + (iand (iushr (wr (m - (iand (iushr m 1) 1431655765))) 2) 858993459))) 4))) 252645135) + (iushr (iand (wr ((wr ((iand (wr (m - (iand (iushr m 1) 1431655765))) 858993459) + (iand (iushr (wr (m - (iand (iushr m 1) 1431655765))) 2) 858993459))) + (iushr (wr ((iand (wr (m - (iand (iushr m 1) 1431655765))) 858993459) + (iand (iushr (wr (m - (iand (iushr m 1) 1431655765))) 2) 858993459))) 4))) 252645135) 8))) + (iushr (wr ((iand (wr ((wr ((iand (wr (m - (iand (iushr m 1) 1431655765))) 858993459) + (iand (iushr (wr (m - (iand (iushr m 1) 1431655765))) 2) 858993459))) + (iushr (wr ((iand (wr (m - (iand (iushr m 1) 1431655765))) 858993459) + (iand (iushr (wr (m - (iand (iushr m 1) 1431655765))) 2) 858993459))) 4))) 252645135) + (iushr (iand (wr ((wr ((iand (wr (m - (iand (iushr m 1) 1431655765))) 858993459) + (iand (iushr (wr (m - (iand (iushr m 1) 1431655765))) 2) 858993459))) + (iushr (wr ((iand (wr (m - (iand (iushr m 1) 1431655765))) 858993459) + (iand (iushr (wr (m - (iand (iushr m 1) 1431655765))) 2) 858993459))) 4))) 252645135) 8))) 16)))]) (dat d_In_bitCount 37 rfl) rfl (by decide) rfl rfl ?_
  refine x_iload_n (dat d_In_bitCount 38 rfl) rfl rfl ?_
  refine x_bipush (dat d_In_bitCount 39 rfl) (by decide) (by decide) ?_
  refine x_iand (v := iand (wr ((wr ((iand (wr ((wr ((iand (wr (m - (iand (iushr m 1) 1431655765))) 858993459) + (iand (iushr (wr (m - (iand (iushr m 1) 1431655765))) 2) 858993459))) + (iushr (wr ((iand (wr (m - (iand (iushr m 1) 1431655765))) 858993459) + (iand (iushr (wr (m - (iand (iushr m 1) 1431655765))) 2) 858993459))) 4))) 252645135) + (iushr (iand (wr ((wr ((iand (wr (m - (iand (iushr m 1) 1431655765))) 858993459) + (iand (iushr (wr (m - (iand (iushr m 1) 1431655765))) 2) 858993459))) + (iushr (wr ((iand (wr (m - (iand (iushr m 1) 1431655765))) 858993459) + (iand (iushr (wr (m - (iand (iushr m 1) 1431655765))) 2) 858993459))) 4))) 252645135) 8))) + (iushr (wr ((iand (wr ((wr ((iand (wr (m - (iand (iushr m 1) 1431655765))) 858993459) + (iand (iushr (wr (m - (iand (iushr m 1) 1431655765))) 2) 858993459))) + (iushr (wr ((iand (wr (m - (iand (iushr m 1) 1431655765))) 858993459) + (iand (iushr (wr (m - (iand (iushr m 1) 1431655765))) 2) 858993459))) 4))) 252645135) + (iushr (iand (wr ((wr ((iand (wr (m - (iand (iushr m 1) 1431655765))) 858993459) + (iand (iushr (wr (m - (iand (iushr m 1) 1431655765))) 2) 858993459))) + (iushr (wr ((iand (wr (m - (iand (iushr m 1) 1431655765))) 858993459) + (iand (iushr (wr (m - (iand (iushr m 1) 1431655765))) 2) 858993459))) 4))) 252645135) 8))) 16))) 63) (dat d_In_bitCount 40 rfl) rfl ?_
  refine x_iret (dat d_In_bitCount 41 rfl) rfl ?_
  exact k
theorem bcnt_8 : ∀ m : Nat, m < 256 → bcnt (m : Int) = cntN (tb (m : Int)) 8 := by decide +kernel
theorem Msk.bc {m : Int} {f : Int → Bool} (h : Msk 8 m f) : bcnt m = cntN f 8 := by
  have h1 := h.2.1
  have h2 := bcnt_8 m.toNat (by have := h.1; omega)
  rw [Int.toNat_of_nonneg h.1] at h2
  rw [h2]
  exact cntN_congr 8 (fun p h0 h1 => h.2.2 p h0 h1)
/-- a row filled from i on -/
def fil (σ : xS) (a : Nat) (n v : Int) : xS := fun k j => if k = a ∧ 0 ≤ j ∧ j < n then v else σ k j
theorem fil_ne {σ : xS} {a : Nat} {n v : Int} {k : Nat} (h : k ≠ a) : fil σ a n v k = σ k := by
  funext i
  simp [fil, h]
theorem fil_in {σ : xS} {a : Nat} {n v j : Int} (h0 : 0 ≤ j) (h1 : j < n) : fil σ a n v a j = v := by
  unfold fil
  rw [if_pos ⟨rfl, h0, h1⟩]
theorem fil_up {σ : xS} {a : Nat} {i v : Int} (hi : 0 ≤ i) : up (fil σ a i v) a i v = fil σ a (i + 1) v := by
  funext k j
  unfold up fil
  by_cases h : k = a
  · subst h
    by_cases h2 : j = i
    · subst h2
      rw [if_pos ⟨rfl, rfl⟩, if_pos ⟨rfl, hi, by omega⟩]
    · rw [if_neg (fun q => h2 q.2)]
      by_cases h3 : 0 ≤ j ∧ j < i
      · rw [if_pos ⟨rfl, h3⟩, if_pos ⟨rfl, h3.1, by omega⟩]
      · rw [if_neg (fun q => h3 q.2), if_neg (fun q => h3 ⟨q.2.1, by omega⟩)]
  · rw [if_neg (fun q => h q.1), if_neg (fun q => h q.1), if_neg (fun q => h q.1)]
theorem fil_0 {σ : xS} {a : Nat} {v : Int} : fil σ a 0 v = σ := by
  funext k j
  unfold fil
  rw [if_neg (by omega)]
theorem lp_Ar_fill {g : xG} {Z : xZ} {K : Option MV → xS → Prop} {σ : xS} {a N : Nat} {v : Int} (ha : AI a 20 N) (hN : N ≤ 100000) (k : K none (fil σ a N v)) : ∀ (n : Nat) (i : Int), 0 ≤ i → i + n = N → Wx g y_Ar_fill Z K 5 [vR a, vI v, vI i, vI N] [] (fil σ a i v) := by
  intro n
  induction n with
  | zero =>
    intro i h0 hi
    have e : i = N := by omega
    subst e
    refine x_iload_n (dat d_Ar_fill 5 rfl) rfl rfl ?_
    refine x_iload_n (dat d_Ar_fill 6 rfl) rfl rfl ?_
    refine x_icmp_ge (tgt := 20) (dat d_Ar_fill 7 rfl) (by decide) (fun c_7 => ?_) (fun c_7 => (by omega))
    refine x_ret (dat d_Ar_fill 14 rfl) rfl ?_
    exact k
  | succ n ih =>
    intro i h0 hi
    refine x_iload_n (dat d_Ar_fill 5 rfl) rfl rfl ?_
    refine x_iload_n (dat d_Ar_fill 6 rfl) rfl rfl ?_
    refine x_icmp_ge (tgt := 20) (dat d_Ar_fill 7 rfl) (by decide) (fun c_7 => (by omega)) (fun c_7 => ?_)
    refine x_aload_n (dat d_Ar_fill 8 rfl) rfl rfl ?_
    refine x_iload_n (dat d_Ar_fill 9 rfl) rfl rfl ?_
    refine x_iload_n (dat d_Ar_fill 10 rfl) rfl rfl ?_
    refine x_iast (n := N) (dat d_Ar_fill 11 rfl) ha (by omega) (by omega) ?_
    rw [fil_up h0]
    refine x_eq (σ' := fil σ a (i + 1) v) (by rfl) ?_
    refine x_iinc (v' := i + 1) (L' := [vR a, vI v, vI (i + 1), vI (N : Int)]) (dat d_Ar_fill 12 rfl) rfl (by decide) rfl rfl (by omega) rfl ?_
    refine x_goto (tgt := 5) (dat d_Ar_fill 13 rfl) (by decide) ?_
    exact ih (i + 1) (by omega) (by omega)
theorem sp_Ar_fill {g : xG} {K : Option MV → xS → Prop} {σ : xS} {a N : Nat} {v : Int} (ha : AI a 20 N) (k : K none (fil σ a N v)) : Mt g y_Ar_fill [vR a, vI v] σ K := by
  have hN := ha.2.2.2
  refine x_enter 2 rfl rfl rfl (fun Z => ?_)
  show Wx g y_Ar_fill Z K 0 [vR a, vI v, vU, vU] [] σ
  refine x_iconst (dat d_Ar_fill 0 rfl) (by decide) ?_
  refine x_istore_n (L' := [vR a, vI v, vI 0, vU]) (dat d_Ar_fill 1 rfl) rfl (by decide) rfl rfl ?_
  refine x_aload_n (dat d_Ar_fill 2 rfl) rfl rfl ?_
  refine x_alen (n := N) (t := 20) (dat d_Ar_fill 3 rfl) ha (by decide) ?_
  refine x_istore_n (L' := [vR a, vI v, vI 0, vI (N : Int)]) (dat d_Ar_fill 4 rfl) rfl (by decide) rfl rfl ?_
  have h := lp_Ar_fill (g := g) (Z := Z) (K := K) (σ := σ) (v := v) ha hN k N 0 (by omega) (by omega)
  rw [fil_0] at h
  exact h
