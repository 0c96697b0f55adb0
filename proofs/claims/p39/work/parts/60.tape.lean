/-! the class's calls: what it holds; tape, images, texts -/
def tw (a : Int → Int) (n : Int) : Int → Int := fun i => if 0 ≤ i ∧ i < 156 then a (610 + 156 * n + i) else 0
def bk (a : Int → Int) (n : Int) : Int → Int := fun i => if 0 ≤ i ∧ i < 25 then a (922 + 25 * n + i) else 0
theorem tw_at {a : Int → Int} {n i : Int} (h0 : 0 ≤ i) (h1 : i < 156) : tw a n i = a (610 + 156 * n + i) := if_pos ⟨h0, h1⟩
theorem bk_at {a : Int → Int} {n i : Int} (h0 : 0 ≤ i) (h1 : i < 25) : bk a n i = a (922 + 25 * n + i) := if_pos ⟨h0, h1⟩
theorem tw_eq {a a' : Int → Int} {n n' : Int} (h : ∀ i : Int, 0 ≤ i → i < 156 → a' (610 + 156 * n' + i) = a (610 + 156 * n + i)) : tw a' n' = tw a n := by
  funext i
  unfold tw
  by_cases z : 0 ≤ i ∧ i < 156
  · rw [if_pos z, if_pos z]; exact h i z.1 z.2
  · rw [if_neg z, if_neg z]
theorem bk_eq {a a' : Int → Int} {n n' : Int} (h : ∀ i : Int, 0 ≤ i → i < 25 → a' (922 + 25 * n' + i) = a (922 + 25 * n + i)) : bk a' n' = bk a n := by
  funext i
  unfold bk
  by_cases z : 0 ≤ i ∧ i < 25
  · rw [if_pos z, if_pos z]; exact h i z.1 z.2
  · rw [if_neg z, if_neg z]
def LwR (σ : xS) (a : Int → Int) : Prop := σ 0 9 = -1 ∨ ∃ lt lb : Int, (σ 0 9 = lt ∧ σ 0 10 = lb) ∧ (0 ≤ lt ∧ lt < a 0) ∧ (0 ≤ lb ∧ lb < a 1) ∧ LookS σ (tw a lt) (bk a lb)
def SbR (σ : xS) (a : Int → Int) (im : Nat → Int → Int) : Prop := TolR σ 1 a ∧ LwR σ a ∧ ∀ k : Nat, k < 3 → (σ 122 k = 0 ∨ σ 122 k = 1) ∧ (σ 122 k = 1 → TolR σ (31 + 30 * k) (im k))
def SbF (σ' σ : xS) : Prop := ∀ o : Nat, 173 < o → σ' o = σ o
theorem SbF.rfl (σ : xS) : SbF σ σ := fun _ _ => Eq.refl _
theorem SbR.same {σ σ' : xS} {a : Int → Int} {im : Nat → Int → Int} (H : SbR σ a im) (e : ∀ o : Nat, o ≤ 122 → σ' o = σ o) (e1 : σ' 171 = σ 171) (e3 : σ' 173 = σ 173) : SbR σ' a im := by
  obtain ⟨h1, h2, h3⟩ := H
  refine ⟨h1.same (fun k a b => e k (by omega)), ?_, fun k hk => ?_⟩
  · rcases h2 with h | ⟨lt, lb, ⟨g1, g2⟩, g3, g4, g5⟩
    · exact Or.inl (by rw [e 0 (by decide)]; exact h)
    · exact Or.inr ⟨lt, lb, ⟨by rw [e 0 (by decide)]; exact g1, by rw [e 0 (by decide)]; exact g2⟩, g3, g4, g5.same e1 e3⟩
  · rw [e 122 (by decide)]
    exact ⟨(h3 k hk).1, fun w => ((h3 k hk).2 w).same (fun j a b => e j (by omega))⟩
theorem SbR.tr {σ σ' : xS} {a : Int → Int} {im : Nat → Int → Int} (H : SbR σ a im) (e : ∀ o : Nat, o < 138 ∨ 170 < o → σ' o = σ o) : SbR σ' a im := H.same (fun o ho => e o (by omega)) (e 171 (by decide)) (e 173 (by decide))
theorem SbF.tr {σ σ' : xS} (e : ∀ o : Nat, o < 138 ∨ 170 < o → σ' o = σ o) : SbF σ' σ := fun o ho => e o (by omega)
/-- an answer of a town that is there, another one else -/
def atT (a : Int → Int) (n d : Int) (Q : (Int → Int) → Int → Prop) (r : Int) : Prop := (¬ (0 ≤ n ∧ n < a 0) → r = d) ∧ (0 ≤ n → n < a 0 → Q (tw a n) r)
theorem sp_townAt {g : xG} {K : Option MV → xS → Prop} {σ : xS} {a : Int → Int} {n : Int} (H : TolR σ 1 a) (kn : ¬ (0 ≤ n ∧ n < a 0) → K (some vN) σ) (ks : ∀ q : Nat, 0 ≤ n → n < a 0 → IsTw q → q < 30 → TownOk (tw a n) → TownR σ q (tw a n) → K (some (vR q)) σ) : Mt g y_To_townAt [vR 1, vI n] σ K := by
  refine sp_To_townAt H kn (fun q n0 n1 hq q30 hT hR => ?_)
  have e : ∀ i : Int, 0 ≤ i → i < 156 → tw a n i = twn a n i := fun i i0 i1 => tw_at i0 i1
  exact ks q n0 n1 hq q30 (TownOk.congr hT e) (TownR.congr hT hR e)
theorem sp_bookAt {g : xG} {K : Option MV → xS → Prop} {σ : xS} {a : Int → Int} {n : Int} (H : TolR σ 1 a) (kn : ¬ (0 ≤ n ∧ n < a 1) → K (some vN) σ) (ks : ∀ q : Nat, 0 ≤ n → n < a 1 → IsBk q → q < 30 → BookOk (bk a n) → BookR σ q (bk a n) → K (some (vR q)) σ) : Mt g y_To_bookAt [vR 1, vI n] σ K := by
  refine sp_To_bookAt H kn (fun q n0 n1 hq q30 hB hR => ?_)
  have e : ∀ i : Int, 0 ≤ i → i < 25 → bk a n i = bkn a n i := fun i i0 i1 => bk_at i0 i1
  exact ks q n0 n1 hq q30 (BookOk.congr hB e) (BookR.congr hB hR e)
theorem fa_byte_low (x : Int32) : (x &&& 255).toInt8 = x.toInt8 := by
  apply Int8.toBitVec_inj.1
  apply BitVec.eq_of_getLsbD_eq
  intro i hi
  have h2 : (255 : Int32).toBitVec.getLsbD i = true := by
    have : ∀ j : Fin 8, (255 : Int32).toBitVec.getLsbD j.val = true := by decide +kernel
    exact this ⟨i, hi⟩
  have h4 : (x &&& 255).toBitVec.getLsbD i = x.toBitVec.getLsbD i := by
    show (x.toBitVec &&& (255 : Int32).toBitVec).getLsbD i = _
    rw [BitVec.getLsbD_and, h2, Bool.and_true]
  show ((x &&& 255).toBitVec.signExtend 8).getLsbD i = (x.toBitVec.signExtend 8).getLsbD i
  rw [BitVec.getLsbD_signExtend, BitVec.getLsbD_signExtend]
  simp only [show i < 32 by omega, if_true]
  rw [h4]
theorem i2b_255 (y : Int) : i2b (iand y 255) = i2b y := by
  unfold i2b iand
  rw [Int32.ofInt_toInt, show Int32.ofInt 255 = 255 from rfl, fa_byte_low]
theorem iand_255 (y : Int) : 0 ≤ iand y 255 ∧ iand y 255 ≤ 255 := by
  have h : ∀ x : Int32, 0 ≤ (x &&& 255).toInt ∧ (x &&& 255).toInt ≤ 255 := fun x => by
    have e : (x &&& 255 : Int32) = 255 &&& x := Int32.and_comm _ _
    have h0 := iand_nn (a := 255) (b := x.toInt) (by decide)
    have h1 : iand 255 x.toInt = (x &&& 255).toInt := by
      unfold iand
      rw [Int32.ofInt_toInt, show Int32.ofInt 255 = 255 from rfl, e]
    rw [h1] at h0
    refine ⟨h0, ?_⟩
    have h2 := lt_of_tb (a := (x &&& 255).toInt) (n := 8) h0 (fun p hp => by
      rw [← h1]
      by_cases hx : 0 ≤ x.toInt
      · rw [tb_iand (by decide) ⟨hx, by have := Int32.toInt_lt x; omega⟩]
        have : tb 255 p = false := tb_lt (n := 8) (by decide) hp
        rw [this, Bool.false_and]
      · unfold iand
        have hnn : 0 ≤ (Int32.ofInt 255 &&& Int32.ofInt x.toInt).toInt := by rw [show Int32.ofInt 255 = 255 from rfl, Int32.ofInt_toInt, ← e]; exact h0
        rw [tb_bv hnn, Int32.toBitVec_and, BitVec.getLsbD_and]
        have hz : (Int32.ofInt 255).toBitVec.getLsbD p.toNat = false := by
          have := tb_ofInt (a := 255) (p := p) (by decide) (by decide)
          rw [← this]
          exact tb_lt (n := 8) (by decide) hp
        rw [hz, Bool.false_and])
    have : ((2 ^ 8 : Nat) : Int) = 256 := by decide
    omega
  have := h (Int32.ofInt y)
  unfold iand
  exact this
/-- which of five, of which byte -/
def fbX (x0 x1 x2 x3 x4 j : Int) : Int := if j < 4 then x0 else if j < 8 then x1 else if j < 12 then x2 else if j < 16 then x3 else x4
def fbA (x0 x1 x2 x3 x4 j : Int) : Int := iand (ishr (fbX x0 x1 x2 x3 x4 j) (24 - 8 * (j % 4))) 255
def feedA (a : Int → Int) (x0 x1 x2 x3 x4 : Int) : Int → Int := fun i => if i = 2 then a 2 + 20 else if 10 + a 2 ≤ i ∧ i < 30 + a 2 then fbA x0 x1 x2 x3 x4 (i - (10 + a 2)) else a i
theorem wr_stp {σ1 σ2 : xS} {n m x : Int} {f : Int → Int} (h : ∀ i : Int, 0 ≤ i → i < m → σ1 2 (n + i) = f i) (w : σ2 2 (n + m) = i2b (ishr x 24) ∧ σ2 2 (n + m + 1) = i2b (ishr x 16) ∧ σ2 2 (n + m + 2) = i2b (ishr x 8) ∧ σ2 2 (n + m + 3) = i2b (ishr x 0)) (wf : ∀ i : Int, i < n + m → σ2 2 i = σ1 2 i)
    (f0 : f m = i2b (ishr x 24) ∧ f (m + 1) = i2b (ishr x 16) ∧ f (m + 2) = i2b (ishr x 8) ∧ f (m + 3) = i2b (ishr x 0)) : ∀ i : Int, 0 ≤ i → i < m + 4 → σ2 2 (n + i) = f i := by
  intro i i0 i1
  by_cases z : i < m
  · rw [wf _ (by omega)]; exact h i i0 z
  · rcases (show ((i = m ∨ i = m + 1) ∨ i = m + 2) ∨ i = m + 3 by omega) with ((q | q) | q) | q
    · subst q; rw [w.1, f0.1]
    · subst q; rw [show n + (m + 1) = n + m + 1 by omega, w.2.1, f0.2.1]
    · subst q; rw [show n + (m + 2) = n + m + 2 by omega, w.2.2.1, f0.2.2.1]
    · subst q; rw [show n + (m + 3) = n + m + 3 by omega, w.2.2.2, f0.2.2.2]
theorem LwR.rows {σ : xS} {a a' : Int → Int} (h : LwR σ a) (e0 : a' 0 = a 0) (e1 : a' 1 = a 1) (e : ∀ i : Int, 610 ≤ i → a' i = a i) : LwR σ a' := by
  rcases h with h | ⟨lt, lb, g1, g2, g3, g4⟩
  · exact Or.inl h
  · refine Or.inr ⟨lt, lb, g1, by rw [e0]; exact g2, by rw [e1]; exact g3, ?_⟩
    rw [tw_eq (a := a) (n := lt) (fun i i0 i1 => e _ (by omega)), bk_eq (a := a) (n := lb) (fun i i0 i1 => e _ (by omega))]
    exact g4
theorem LwR.same {σ σ' : xS} {a : Int → Int} (h : LwR σ a) (e0 : σ' 0 = σ 0) (e1 : σ' 171 = σ 171) (e3 : σ' 173 = σ 173) : LwR σ' a := by
  unfold LwR LookS HvR at h ⊢
  rw [e0, e1, e3]
  exact h
/-- texts alike, the tape's row otherwise -/
theorem TolR.texts {σ σ' : xS} {a a' : Int → Int} (h : TolR σ 1 a) (e : ∀ i : Int, 610 ≤ i → a' i = a i) (e0 : a' 0 = a 0) (e1 : a' 1 = a 1) (e2 : 0 ≤ a' 2 ∧ a' 2 ≤ 600) (s1 : σ' 1 3 = a' 2 ∧ σ' 1 4 = a' 3 ∧ σ' 1 5 = a' 4) (s6 : σ' 1 6 = σ 1 6) (s7 : σ' 1 7 = σ 1 7)
    (st : ∀ i : Int, 0 ≤ i → i < a' 2 → (0 ≤ a' (10 + i) ∧ a' (10 + i) ≤ 255) ∧ σ' 2 i = i2b (a' (10 + i))) (f : ∀ o : Nat, 3 ≤ o → o ≤ 30 → σ' o = σ o) : TolR σ' 1 a' := by
  obtain ⟨h1, h2, h3, h4, h5⟩ := h
  have b0 := h1.1
  have b1 := h1.2.1
  refine ⟨by rw [e0, e1]; exact ⟨h1.1, h1.2.1, e2⟩, ⟨s1.1, s1.2.1, s1.2.2, by rw [s6, e0]; exact h2.2.2.2.1, by rw [s7, e1]; exact h2.2.2.2.2⟩, st, fun k hk => ?_, fun k hk => ?_⟩
  · rw [e0] at hk
    obtain ⟨g1, g2⟩ := h4 k hk
    have ee : ∀ i : Int, 0 ≤ i → i < 156 → twn a' k i = twn a k i := fun i i0 i1 => e _ (by omega)
    exact ⟨TownOk.congr g1 ee, TownR.congr g1 (g2.same (fun j x y => f j (by omega) (by omega))) ee⟩
  · rw [e1] at hk
    obtain ⟨g1, g2⟩ := h5 k hk
    have ee : ∀ i : Int, 0 ≤ i → i < 25 → bkn a' k i = bkn a k i := fun i i0 i1 => e _ (by omega)
    exact ⟨BookOk.congr g1 ee, BookR.congr g1 (g2.same (fun j x y => f j (by omega) (by omega))) ee⟩
theorem sp_Sb_feed {g : xG} {K : Option MV → xS → Prop} {σ : xS} {a : Int → Int} {im : Nat → Int → Int} {x0 x1 x2 x3 x4 : Int} (H : SbR σ a im) (kn : 600 < a 2 + 20 → K (some (vI (-1))) σ) (k : a 2 + 20 ≤ 600 → ∀ σ' : xS, SbR σ' (feedA a x0 x1 x2 x3 x4) im → SbF σ' σ → K (some (vI (a 2 + 20))) σ') : Mt g y_Sb_feed [vR 0, vI x0, vI x1, vI x2, vI x3, vI x4] σ K := by
  have b2 := H.1.1.2.2
  have e3 : σ 1 3 = a 2 := H.1.2.1.1
  have fX : ∀ j : Int, i2b (fbA x0 x1 x2 x3 x4 j) = i2b (ishr (fbX x0 x1 x2 x3 x4 j) (24 - 8 * (j % 4))) := fun j => i2b_255 _
  have fT : ∀ m x : Int, m % 4 = 0 → fbX x0 x1 x2 x3 x4 m = x → fbX x0 x1 x2 x3 x4 (m + 1) = x → fbX x0 x1 x2 x3 x4 (m + 2) = x → fbX x0 x1 x2 x3 x4 (m + 3) = x → i2b (fbA x0 x1 x2 x3 x4 m) = i2b (ishr x 24) ∧ i2b (fbA x0 x1 x2 x3 x4 (m + 1)) = i2b (ishr x 16) ∧ i2b (fbA x0 x1 x2 x3 x4 (m + 2)) = i2b (ishr x 8) ∧ i2b (fbA x0 x1 x2 x3 x4 (m + 3)) = i2b (ishr x 0) := fun m x hm q0 q1 q2 q3 => by
    rw [fX, fX, fX, fX, q0, q1, q2, q3, show 24 - 8 * (m % 4) = 24 by omega, show 24 - 8 * ((m + 1) % 4) = 16 by omega, show 24 - 8 * ((m + 2) % 4) = 8 by omega, show 24 - 8 * ((m + 3) % 4) = 0 by omega]
    exact ⟨rfl, rfl, rfl, rfl⟩
  refine x_enter 0 rfl rfl rfl (fun Z => ?_)
  show Wx g y_Sb_feed Z K 0 [vR 0, vI x0, vI x1, vI x2, vI x3, vI x4] [] σ
  refine x_aload_n (dat d_Sb_feed 0 rfl) rfl rfl ?_
  refine x_getr (r := 1) (dat d_Sb_feed 1 rfl) rfl f_Sb_10 (or_mk (by decide +kernel)) ?_
  refine x_geti (ji := 3) (v := a 2) (dat d_Sb_feed 2 rfl) rfl f_Sb_69 (oi_mk (by decide +kernel)) (e3) ?_
  refine x_bipush (dat d_Sb_feed 3 rfl) (by decide) (by decide) ?_
  refine x_iadd (v := (a 2) + 20) (dat d_Sb_feed 4 rfl) rfl (by omega) ?_
  refine x_sipush (dat d_Sb_feed 5 rfl) (by decide) (by decide) ?_
  refine x_icmp_le (tgt := 18) (dat d_Sb_feed 6 rfl) (by decide) (fun c_13 => ?_) (fun c_13 => ?_)
  · refine x_aload_n (dat d_Sb_feed 9 rfl) rfl rfl ?_
    refine x_getr (r := 1) (dat d_Sb_feed 10 rfl) rfl f_Sb_10 (or_mk (by decide +kernel)) ?_
    refine x_iload_n (dat d_Sb_feed 11 rfl) rfl rfl ?_
    refine x_inv (As := [vI x0]) (dat d_Sb_feed 12 rfl) rfl c_To_write l_Sb_73 (by decide) (rv_to (by decide +kernel)) rfl rfl (Nat.le_of_ble_eq_true rfl) ?_
    refine sp_To_write e3 b2.1 (by omega) (fun σ1 u3 w1 wf1 wo1 wx1 => ?_)
    show Wx g y_Sb_feed Z K 26 [vR 0, vI x0, vI x1, vI x2, vI x3, vI x4] [] σ1
    refine x_aload_n (dat d_Sb_feed 13 rfl) rfl rfl ?_
    refine x_getr (r := 1) (dat d_Sb_feed 14 rfl) rfl f_Sb_10 (or_mk (by decide +kernel)) ?_
    refine x_iload_n (dat d_Sb_feed 15 rfl) rfl rfl ?_
    refine x_inv (As := [vI x1]) (dat d_Sb_feed 16 rfl) rfl c_To_write l_Sb_73 (by decide) (rv_to (by decide +kernel)) rfl rfl (Nat.le_of_ble_eq_true rfl) ?_
    refine sp_To_write u3 (by omega) (by omega) (fun σ2 v3 w2 wf2 wo2 wx2 => ?_)
    show Wx g y_Sb_feed Z K 34 [vR 0, vI x0, vI x1, vI x2, vI x3, vI x4] [] σ2
    refine x_aload_n (dat d_Sb_feed 17 rfl) rfl rfl ?_
    refine x_getr (r := 1) (dat d_Sb_feed 18 rfl) rfl f_Sb_10 (or_mk (by decide +kernel)) ?_
    refine x_iload_n (dat d_Sb_feed 19 rfl) rfl rfl ?_
    refine x_inv (As := [vI x2]) (dat d_Sb_feed 20 rfl) rfl c_To_write l_Sb_73 (by decide) (rv_to (by decide +kernel)) rfl rfl (Nat.le_of_ble_eq_true rfl) ?_
    refine sp_To_write v3 (by omega) (by omega) (fun σ3 t3 w3 wf3 wo3 wx3 => ?_)
    show Wx g y_Sb_feed Z K 42 [vR 0, vI x0, vI x1, vI x2, vI x3, vI x4] [] σ3
    refine x_aload_n (dat d_Sb_feed 21 rfl) rfl rfl ?_
    refine x_getr (r := 1) (dat d_Sb_feed 22 rfl) rfl f_Sb_10 (or_mk (by decide +kernel)) ?_
    refine x_iload (dat d_Sb_feed 23 rfl) rfl ?_
    refine x_inv (As := [vI x3]) (dat d_Sb_feed 24 rfl) rfl c_To_write l_Sb_73 (by decide) (rv_to (by decide +kernel)) rfl rfl (Nat.le_of_ble_eq_true rfl) ?_
    refine sp_To_write t3 (by omega) (by omega) (fun σ4 s3 w4 wf4 wo4 wx4 => ?_)
    show Wx g y_Sb_feed Z K 51 [vR 0, vI x0, vI x1, vI x2, vI x3, vI x4] [] σ4
    refine x_aload_n (dat d_Sb_feed 25 rfl) rfl rfl ?_
    refine x_getr (r := 1) (dat d_Sb_feed 26 rfl) rfl f_Sb_10 (or_mk (by decide +kernel)) ?_
    refine x_iload (dat d_Sb_feed 27 rfl) rfl ?_
    refine x_inv (As := [vI x4]) (dat d_Sb_feed 28 rfl) rfl c_To_write l_Sb_73 (by decide) (rv_to (by decide +kernel)) rfl rfl (Nat.le_of_ble_eq_true rfl) ?_
    refine sp_To_write s3 (by omega) (by omega) (fun σ5 r3 w5 wf5 wo5 wx5 => ?_)
    have r3 : σ5 1 3 = a 2 + 20 := by rw [r3]; omega
    show Wx g y_Sb_feed Z K 60 [vR 0, vI x0, vI x1, vI x2, vI x3, vI x4] [] σ5
    refine x_aload_n (dat d_Sb_feed 29 rfl) rfl rfl ?_
    refine x_getr (r := 1) (dat d_Sb_feed 30 rfl) rfl f_Sb_10 (or_mk (by decide +kernel)) ?_
    refine x_geti (ji := 3) (v := a 2 + 20) (dat d_Sb_feed 31 rfl) rfl f_Sb_69 (oi_mk (by decide +kernel)) (r3) ?_
    refine x_iret (dat d_Sb_feed 32 rfl) rfl ?_
    have p1 := wr_stp (σ1 := σ) (σ2 := σ1) (n := a 2) (m := 0) (f := fun j => i2b (fbA x0 x1 x2 x3 x4 j)) (fun i i0 i1 => by omega) (by simpa using w1) (fun i hi => wf1 i (by omega)) (by simpa using fT 0 x0 (by decide) rfl rfl rfl rfl)
    have p2 := wr_stp (σ2 := σ2) (n := a 2) (m := 4) p1 w2 wf2 (fT 4 x1 (by decide) rfl rfl rfl rfl)
    have p3 := wr_stp (σ2 := σ3) (n := a 2) (m := 8) p2 (by rw [show a 2 + 8 = a 2 + 4 + 4 by omega]; exact w3) (fun i hi => wf3 i (by omega)) (fT 8 x2 (by decide) rfl rfl rfl rfl)
    have p4 := wr_stp (σ2 := σ4) (n := a 2) (m := 12) p3 (by rw [show a 2 + 12 = a 2 + 4 + 4 + 4 by omega]; exact w4) (fun i hi => wf4 i (by omega)) (fT 12 x3 (by decide) rfl rfl rfl rfl)
    have p5 := wr_stp (σ2 := σ5) (n := a 2) (m := 16) p4 (by rw [show a 2 + 16 = a 2 + 4 + 4 + 4 + 4 by omega]; exact w5) (fun i hi => wf5 i (by omega)) (fT 16 x4 (by decide) rfl rfl rfl rfl)
    have fr : ∀ o : Nat, o ≠ 1 → o ≠ 2 → σ5 o = σ o := fun o h1 h2 => by rw [wx5 o h1 h2, wx4 o h1 h2, wx3 o h1 h2, wx2 o h1 h2, wx1 o h1 h2]
    have f1 : ∀ i : Int, i ≠ 3 → σ5 1 i = σ 1 i := fun i hi => by rw [wo5 i hi, wo4 i hi, wo3 i hi, wo2 i hi, wo1 i hi]
    have f2 : ∀ i : Int, i < a 2 → σ5 2 i = σ 2 i := fun i hi => by rw [wf5 i (by omega), wf4 i (by omega), wf3 i (by omega), wf2 i (by omega), wf1 i (by omega)]
    have eA : ∀ i : Int, i ≠ 2 → (i < 10 + a 2 ∨ 30 + a 2 ≤ i) → feedA a x0 x1 x2 x3 x4 i = a i := fun i h1 h2 => by unfold feedA; rw [if_neg h1, if_neg (by omega)]
    have e2 : feedA a x0 x1 x2 x3 x4 2 = a 2 + 20 := if_pos rfl
    have eB : ∀ j : Int, 0 ≤ j → j < 20 → feedA a x0 x1 x2 x3 x4 (10 + (a 2 + j)) = fbA x0 x1 x2 x3 x4 j := fun j j0 j1 => by
      unfold feedA
      rw [if_neg (by omega), if_pos (by omega), show 10 + (a 2 + j) - (10 + a 2) = j by omega]
    refine k (by omega) σ5 ⟨H.1.texts (fun i hi => eA i (by omega) (by omega)) (eA 0 (by decide) (by omega)) (eA 1 (by decide) (by omega)) (by rw [e2]; omega) ⟨by rw [e2, r3], by rw [f1 4 (by decide), eA 3 (by decide) (by omega)]; exact H.1.2.1.2.1, by rw [f1 5 (by decide), eA 4 (by decide) (by omega)]; exact H.1.2.1.2.2.1⟩ (f1 6 (by decide)) (f1 7 (by decide)) (fun i i0 i1 => ?_) (fun o h1 h2 => fr o (by omega) (by omega)), (H.2.1.same (fr 0 (by decide) (by decide)) (fr 171 (by decide) (by decide)) (fr 173 (by decide) (by decide))).rows (eA 0 (by decide) (by omega)) (eA 1 (by decide) (by omega)) (fun i hi => eA i (by omega) (by omega)), fun j hj => ?_⟩ (fun o ho => fr o (by omega) (by omega))
    · rw [e2] at i1
      by_cases z : i < a 2
      · rw [eA (10 + i) (by omega) (by omega), f2 i z]
        exact H.1.2.2.1 i i0 z
      · have := p5 (i - a 2) (by omega) (by omega)
        have e := eB (i - a 2) (by omega) (by omega)
        rw [show a 2 + (i - a 2) = i by omega] at this e
        rw [e]
        exact ⟨iand_255 _, this⟩
    · rw [fr 122 (by decide) (by decide)]
      exact ⟨(H.2.2 j hj).1, fun w => ((H.2.2 j hj).2 w).same (fun q x y => fr q (by omega) (by omega))⟩
  · refine x_iconst (dat d_Sb_feed 7 rfl) (by decide) ?_
    refine x_iret (dat d_Sb_feed 8 rfl) rfl ?_
    exact kn (by omega)
def st3 (a : Int → Int) (n f p : Int) : Int → Int := fun i => if i = 2 then n else if i = 3 then f else if i = 4 then p else a i
theorem sp_Sb_end {g : xG} {K : Option MV → xS → Prop} {σ : xS} {a : Int → Int} {im : Nat → Int → Int} {n : Int} (H : SbR σ a im) (kn : ¬ (0 ≤ n ∧ n ≤ a 2) → K (some (vI (-1))) σ) (k : 0 ≤ n → n ≤ a 2 → ∀ σ' : xS, SbR σ' (st1 a 2 n) im → SbF σ' σ → K (some (vI n)) σ') : Mt g y_Sb_end [vR 0, vI n] σ K := by
  have b2 := H.1.1.2.2
  have e3 : σ 1 3 = a 2 := H.1.2.1.1
  refine x_enter 0 rfl rfl rfl (fun Z => ?_)
  show Wx g y_Sb_end Z K 0 [vR 0, vI n] [] σ
  refine x_iload_n (dat d_Sb_end 0 rfl) rfl rfl ?_
  refine x_if_lt (tgt := 15) (dat d_Sb_end 1 rfl) (by decide) (fun c_1 => ?_) (fun c_1 => ?_)
  · refine x_iconst (dat d_Sb_end 7 rfl) (by decide) ?_
    refine x_iret (dat d_Sb_end 8 rfl) rfl ?_
    exact kn (by omega)
  · refine x_iload_n (dat d_Sb_end 2 rfl) rfl rfl ?_
    refine x_aload_n (dat d_Sb_end 3 rfl) rfl rfl ?_
    refine x_getr (r := 1) (dat d_Sb_end 4 rfl) rfl f_Sb_10 (or_mk (by decide +kernel)) ?_
    refine x_geti (ji := 3) (v := a 2) (dat d_Sb_end 5 rfl) rfl f_Sb_69 (oi_mk (by decide +kernel)) (e3) ?_
    refine x_icmp_le (tgt := 17) (dat d_Sb_end 6 rfl) (by decide) (fun c_12 => ?_) (fun c_12 => ?_)
    · refine x_aload_n (dat d_Sb_end 9 rfl) rfl rfl ?_
      refine x_getr (r := 1) (dat d_Sb_end 10 rfl) rfl f_Sb_10 (or_mk (by decide +kernel)) ?_
      refine x_iload_n (dat d_Sb_end 11 rfl) rfl rfl ?_
      refine x_puti (ji := 3) (x := (n)) (dat d_Sb_end 12 rfl) rfl f_Sb_69w (oi_mk (by decide +kernel)) (fun h => absurd h (by decide)) (by decide) ?_
      refine x_iload_n (dat d_Sb_end 13 rfl) rfl rfl ?_
      refine x_iret (dat d_Sb_end 14 rfl) rfl ?_
      have eA : ∀ i : Int, i ≠ 2 → st1 a 2 n i = a i := fun i h => st1_n h
      refine k (by omega) (by omega) _ ⟨H.1.texts (fun i hi => eA i (by omega)) (eA 0 (by decide)) (eA 1 (by decide)) (by rw [st1_s]; omega) ⟨by rw [up_s, st1_s], by rw [up_ni (by decide), eA 3 (by decide)]; exact H.1.2.1.2.1, by rw [up_ni (by decide), eA 4 (by decide)]; exact H.1.2.1.2.2.1⟩ (up_ni (by decide)) (up_ni (by decide)) (fun i i0 i1 => ?_) (fun o h1 h2 => up_ne (by omega)), (H.2.1.same (up_ne (by decide)) (up_ne (by decide)) (up_ne (by decide))).rows (eA 0 (by decide)) (eA 1 (by decide)) (fun i hi => eA i (by omega)), fun j hj => ?_⟩ (fun o ho => up_ne (by omega))
      · rw [st1_s] at i1
        rw [eA (10 + i) (by omega), up_ne (by decide)]
        exact H.1.2.2.1 i i0 (by omega)
      · rw [up_ne (by decide)]
        exact ⟨(H.2.2 j hj).1, fun w => ((H.2.2 j hj).2 w).same (fun q x y => up_ne (by omega))⟩
    · refine x_iconst (dat d_Sb_end 7 rfl) (by decide) ?_
      refine x_iret (dat d_Sb_end 8 rfl) rfl ?_
      exact kn (by omega)
theorem sp_Sb_fault {g : xG} {K : Option MV → xS → Prop} {σ : xS} {a : Int → Int} {im : Nat → Int → Int} {w : Int} (H : SbR σ a im) (k : K (some (vI (if w = 0 then a 3 else if w = 1 then a 4 else -1))) σ) : Mt g y_Sb_fault [vR 0, vI w] σ K := by
  have e3 : σ 1 4 = a 3 := H.1.2.1.2.1
  have e4 : σ 1 5 = a 4 := H.1.2.1.2.2.1
  have kk : ∀ v : Int, v = (if w = 0 then a 3 else if w = 1 then a 4 else -1) → K (some (vI v)) σ := fun v h => by rw [h]; exact k
  refine x_enter 0 rfl rfl rfl (fun Z => ?_)
  show Wx g y_Sb_fault Z K 0 [vR 0, vI w] [] σ
  refine x_iload_n (dat d_Sb_fault 0 rfl) rfl rfl ?_
  by_cases l_1_0 : w = 0
  · refine x_lookup (tgt := 28) (dat d_Sb_fault 1 rfl).1 (by decide) (by rw [l_1_0]) (by decide) ?_
    refine x_aload_n (dat d_Sb_fault 2 rfl) rfl rfl ?_
    refine x_getr (r := 1) (dat d_Sb_fault 3 rfl) rfl f_Sb_10 (or_mk (by decide +kernel)) ?_
    refine x_geti (ji := 4) (v := a 3) (dat d_Sb_fault 4 rfl) rfl f_Sb_115 (oi_mk (by decide +kernel)) (e3) ?_
    refine x_iret (dat d_Sb_fault 5 rfl) rfl ?_
    refine kk _ ?_
    first
    | (rw [if_pos (by omega)])
    | (rw [if_neg (by omega), if_pos (by omega)])
    | (rw [if_neg (by omega), if_neg (by omega)])
  by_cases l_1_1 : w = 1
  · refine x_lookup (tgt := 36) (dat d_Sb_fault 1 rfl).1 (by decide) (by rw [l_1_1]) (by decide) ?_
    refine x_aload_n (dat d_Sb_fault 6 rfl) rfl rfl ?_
    refine x_getr (r := 1) (dat d_Sb_fault 7 rfl) rfl f_Sb_10 (or_mk (by decide +kernel)) ?_
    refine x_geti (ji := 5) (v := a 4) (dat d_Sb_fault 8 rfl) rfl f_Sb_116 (oi_mk (by decide +kernel)) (e4) ?_
    refine x_iret (dat d_Sb_fault 9 rfl) rfl ?_
    refine kk _ ?_
    first
    | (rw [if_pos (by omega)])
    | (rw [if_neg (by omega), if_pos (by omega)])
    | (rw [if_neg (by omega), if_neg (by omega)])
  · refine x_lookup (tgt := 44) (off := 43) (dat d_Sb_fault 1 rfl).1 (by decide) (by simp [Op.lookupswitch.offset, Ne.symm l_1_0, Ne.symm l_1_1]) (by decide) ?_
    refine x_iconst (dat d_Sb_fault 10 rfl) (by decide) ?_
    refine x_iret (dat d_Sb_fault 11 rfl) rfl ?_
    refine kk _ ?_
    first
    | (rw [if_pos (by omega)])
    | (rw [if_neg (by omega), if_pos (by omega)])
    | (rw [if_neg (by omega), if_neg (by omega)])
theorem sp_Sb_forgetWorlds {g : xG} {K : Option MV → xS → Prop} {σ : xS} (k : K none (up (up σ 0 9 (-1)) 0 10 (-1))) : Mt g y_Sb_forgetWorlds [vR 0] σ K := by
  refine x_enter 0 rfl rfl rfl (fun Z => ?_)
  show Wx g y_Sb_forgetWorlds Z K 0 [vR 0] [] σ
  refine x_aload_n (dat d_Sb_forgetWorlds 0 rfl) rfl rfl ?_
  refine x_iconst (dat d_Sb_forgetWorlds 1 rfl) (by decide) ?_
  refine x_puti (ji := 9) (x := ((-1))) (dat d_Sb_forgetWorlds 2 rfl) rfl f_Sb_364w (oi_mk (by decide +kernel)) (fun h => absurd h (by decide)) (by decide) ?_
  refine x_aload_n (dat d_Sb_forgetWorlds 3 rfl) rfl rfl ?_
  refine x_iconst (dat d_Sb_forgetWorlds 4 rfl) (by decide) ?_
  refine x_puti (ji := 10) (x := ((-1))) (dat d_Sb_forgetWorlds 5 rfl) rfl f_Sb_367w (oi_mk (by decide +kernel)) (fun h => absurd h (by decide)) (by decide) ?_
  refine x_ret (dat d_Sb_forgetWorlds 6 rfl) rfl ?_
  exact k
