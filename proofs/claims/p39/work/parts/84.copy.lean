/-! a copy of a row of 180 ints -/
def cpB (g : xG) (B : Nat) (f : Int → Int) (U : State) : Prop := xK g U ∧ va_at g.2.2.1 classes (g.2.1 175, .inl (g.2.2.2 20, 180, .inl (fun i => Int32.ofInt (f i)))) U.heap ∧ B ≤ U.heap.size
def cpQ (g : xG) (f : Int → Int) : Array Value → State → Outcome → State → Prop := fun _ st oc t => (∃ (r : Nat) (f' : Int → Int), oc = .returned (some (.ref r)) ∧ st.heap.size ≤ r ∧ (∀ i : Int, 0 ≤ i → i < 180 → f' i = f i) ∧ (∀ i : Int, -2147483648 ≤ f' i ∧ f' i < 2147483648) ∧ va_at g.2.2.1 classes (r, .inl (g.2.2.2 20, 180, .inl (fun i => Int32.ofInt (f' i)))) t.heap) ∧ va_F (nA st) st t
theorem cpB_blind {g : xG} {B : Nat} {f : Int → Int} {av : List Value} : FrameBlind (va_Pc av (cpB g B f)) := fun a U gf mk q => by
  obtain ⟨q0, hK, hX, hB⟩ := q
  exact ⟨q0, xK_moved (u := U) (U := U.calling gf mk a) (Vm.Alike.refl U.vm) hK, hX, hB⟩
theorem sp_copy {g : xG} {B : Nat} {f : Int → Int} (hB1 : B ≤ g.2.1 175) (hf : ∀ i : Int, -2147483648 ≤ f i ∧ f i < 2147483648) : Met g.1 y_Lw_copy.1 (xWs y_Lw_copy) (cRm y_Lw_copy.2.2.2.2 1 180) (va_Pc ([vR 175].map (cv g)) (cpB g B f)) (cpQ g f) 1 180 (bA B) := by
  obtain ⟨σ0, hσ0⟩ : ∃ σ0 : xS, σ0 = (fun k i => if k = 175 then f i else 0) := ⟨_, rfl⟩
  have e175 : σ0 175 = f := by rw [hσ0]; rfl
  have hok : okS σ0 := by
    rw [hσ0]
    intro k i
    by_cases z : k = 175
    · subst z
      show okv 175 i (f i)
      exact ⟨hf i, fun h => absurd h (by decide +kernel), fun h => by rcases h with h | ⟨h, -⟩ <;> exact absurd h (by decide +kernel), fun h => absurd h (by decide +kernel)⟩
    · show okv k i (if k = 175 then f i else 0)
      rw [if_neg z]
      exact ⟨⟨by decide, by decide⟩, fun _ => ⟨by decide, by decide⟩, fun _ => Or.inl rfl, fun _ _ => by decide⟩
  have hcell : ∀ (g : xG) (σ : xS), xcell g σ 175 = .inl (g.2.2.2 20, 180, .inl (fun i => Int32.ofInt (σ 175 i))) := fun g σ => xcell_i (n := 180) (Or.inl (by decide +kernel)) (by decide +kernel)
  refine a_enter 2 (fun U q => U.heap.size ≤ q ∨ q = g.2.1 175) [175] σ0 rfl rfl rfl (fun v hv => by rw [List.mem_singleton.mp hv]; trivial) hok (fun U hU => ⟨hU.1, ?_, ?_, ?_, fun q h => Or.inl h⟩) (fun Z hB => ?_)
  · intro i q hq
    cases i with
    | succ i => cases hq
    | zero =>
      cases hq
      show va_at g.2.2.1 classes (g.2.1 175, xcell g σ0 175) U.heap
      rw [hcell, e175]
      exact hU.2.1
  · intro i j p q hp hq _
    have hi : i < 1 := (List.getElem?_eq_some_iff.mp hp).1
    have hj : j < 1 := (List.getElem?_eq_some_iff.mp hq).1
    omega
  · intro k hk
    rw [List.mem_singleton.mp hk]
    exact Or.inr rfl
  obtain ⟨Y, hY⟩ : ∃ Y : aY, Y = (Z, cRm y_Lw_copy.2.2.2.2 1 180, (fun q => Z.2.2.1.heap.size ≤ q ∨ q = g.2.1 175), MQ Z.2.2.2.2.2.1 (cpQ g f) Z.2.2.2.2.1 Z.2.2.1 1 180 (bA B)) := ⟨_, rfl⟩
  rw [← hY]
  have hfr : ∀ q, Y.2.2.1 q → bA B q := fun q hq => by
    rw [hY] at hq
    rcases hq with h | h
    · exact Nat.le_trans hB.2.2 h
    · rw [h]; exact hB1
  have hI0 : aI [175] 175 180 := ⟨List.mem_cons_self, by decide +kernel, by decide +kernel, by decide⟩
  show Ax g y_Lw_copy Y [175] 0 0 0 [vR 175, vU, vU] [] σ0
  refine a_aload_n (dat d_Lw_copy 0 rfl) rfl rfl ?_
  refine a_alen (n := 180) (dat d_Lw_copy 1 rfl) hI0 ?_
  refine a_newa (k := 176) (N := 180) (dat d_Lw_copy 2 rfl) (by decide +kernel) (gw_1 (i := 117) rfl rfl) (fun j hj => by rw [List.mem_singleton.mp hj]; exact ⟨by decide +kernel, by decide⟩) rfl rfl (by rw [hY]; exact Nat.le_refl _) (by rw [hY]; exact Nat.le_refl _) (fun r hr => ?_)
  obtain ⟨g1, hg1⟩ : ∃ g1, g1 = sg g 176 r := ⟨_, rfl⟩
  rw [← hg1]
  have hI : aI ([175] ++ [176]) 175 180 := ⟨List.mem_cons_self, by decide +kernel, by decide +kernel, by decide⟩
  have hI2 : aI ([175] ++ [176]) 176 180 := ⟨List.mem_cons_of_mem _ List.mem_cons_self, by decide +kernel, by decide +kernel, by decide⟩
  have lp : ∀ (m k : Nat) (σ1 : xS), k + m = 180 → σ1 175 = f → (∀ i : Nat, i < k → σ1 176 i = f i) → Ax g1 y_Lw_copy Y ([175] ++ [176]) 1 180 7 [vR 175, vR 176, vI (k : Int)] [] σ1 := by
    intro m
    induction m with
    | zero =>
      intro k σ1 hk h5 h6
      refine a_iload_n (dat d_Lw_copy 6 rfl) rfl rfl ?_
      refine a_aload_n (dat d_Lw_copy 7 rfl) rfl rfl ?_
      refine a_alen (n := 180) (dat d_Lw_copy 8 rfl) hI ?_
      refine a_icmp_ge (tgt := 25) (dat d_Lw_copy 9 rfl) (by decide) (fun c_10 => ?_) (fun c_10 => (by omega))
      refine a_aload_n (dat d_Lw_copy 18 rfl) rfl rfl ?_
      refine a_aret (Qc := cpQ g f) (free := bA B) (dat d_Lw_copy 19 rfl) rfl (by rw [hY]) hfr (fun t ho hH hF => ⟨⟨r, σ1 176, by rw [hg1]; rfl, by rw [hY] at hr ⊢; exact hr, fun i i0 i1 => ?_, fun i => (ho 176 i).1, ?_⟩, ?_⟩)
      · have := h6 i.toNat (by omega)
        rw [show ((i.toNat : Nat) : Int) = i by omega] at this
        exact this
      · have h := hH 1 _ (aws_get (g := g1) (σ := σ1) (D := [175] ++ [176]) (i := 1) rfl)
        rw [xcell_i (n := 180) (Or.inl (by decide +kernel)) (by decide +kernel)] at h
        rw [hg1] at h
        exact h
      · have h := hH 0 _ (aws_get (g := g1) (σ := σ1) (D := [175] ++ [176]) (i := 0) rfl)
        rw [hcell, h5, hg1] at h
        have h2 := hB.2.1
        rw [hY] at hF ⊢
        refine ⟨hF.1, fun q q1 q2 => ?_⟩
        by_cases z : q = g.2.1 175
        · rw [z]
          have h3 : t.heap[g.2.1 175]? = _ := h
          have h4 : Z.2.2.1.heap[g.2.1 175]? = _ := h2
          rw [h3, h4]
          rfl
        · exact hF.2 q q1 (fun w => w.elim (fun w => Nat.not_le.mpr q1 w) z)
    | succ m ih =>
      intro k σ1 hk h5 h6
      have e5 : ∀ i : Int, σ1 175 i = f i := fun i => by rw [h5]
      refine a_iload_n (dat d_Lw_copy 6 rfl) rfl rfl ?_
      refine a_aload_n (dat d_Lw_copy 7 rfl) rfl rfl ?_
      refine a_alen (n := 180) (dat d_Lw_copy 8 rfl) hI ?_
      refine a_icmp_ge (tgt := 25) (dat d_Lw_copy 9 rfl) (by decide) (fun c_10 => (by omega)) (fun c_10 => ?_)
      refine a_aload_n (dat d_Lw_copy 10 rfl) rfl rfl ?_
      refine a_iload_n (dat d_Lw_copy 11 rfl) rfl rfl ?_
      refine a_aload_n (dat d_Lw_copy 12 rfl) rfl rfl ?_
      refine a_iload_n (dat d_Lw_copy 13 rfl) rfl rfl ?_
      refine a_iald (n := 180) (v := f k) (dat d_Lw_copy 14 rfl) hI (by omega) (by omega) (by exact e5 k) ?_
      refine a_iast (n := 180) (dat d_Lw_copy 15 rfl) hI2 (by omega) (by omega) ?_
      refine a_iinc (v' := ((k + 1 : Nat) : Int)) (L' := [vR 175, vR 176, vI ((k + 1 : Nat) : Int)]) (dat d_Lw_copy 16 rfl) rfl (by decide) rfl (by omega) (by omega) rfl ?_
      refine a_goto (tgt := 7) (dat d_Lw_copy 17 rfl) (by decide) ?_
      refine ih (k + 1) _ (by omega) ?_ (fun i hi => ?_)
      · rw [up_ne (by decide)]; exact h5
      · rw [up_f]
        by_cases z : i = k
        · subst z; rw [st1_s]
        · rw [st1_n (by omega)]; exact h6 i (by omega)
  show Ax g1 y_Lw_copy Y ([175] ++ [176]) 1 180 4 [vR 175, vU, vU] [vR 176] (nw0 σ0 176)
  refine a_astore_n (L' := [vR 175, vR 176, vU]) (dat d_Lw_copy 3 rfl) rfl (by decide) rfl rfl ?_
  refine a_iconst (dat d_Lw_copy 4 rfl) (by decide) ?_
  refine a_istore_n (L' := [vR 175, vR 176, vI 0]) (dat d_Lw_copy 5 rfl) rfl (by decide) rfl rfl ?_
  refine lp 180 0 _ rfl ?_ (fun i hi => absurd hi (Nat.not_lt_zero i))
  rw [← e175]
  funext i
  exact if_neg (by decide)
