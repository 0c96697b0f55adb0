/-! the twin's answers: an end put */ -/
theorem sp_Mo_end {g : xG} {K : Option MV → xS → Prop} {σ : xS} {a : Int → Int} {n : Int} (A : MoA σ a) (kn : ¬ (0 ≤ n ∧ n ≤ a 2) → K (some (vI (-1))) σ) (k : 0 ≤ n → n ≤ a 2 → ∀ σ' : xS, MoA σ' (st1 a 2 n) → (∀ o : Nat, o ≠ 175 → σ' o = σ o) → (∀ j : Int, 972 ≤ j → σ' 175 j = σ 175 j) → K (some (vI n)) σ') : Mt g y_Mo_end [vR 174, vI n] σ K := by
  have e2 : σ 175 2 = a 2 := A.1 2 (by decide) (by decide)
  have b2 := A.2.1.2.2
  have eA : ∀ i : Int, i ≠ 2 → st1 a 2 n i = a i := fun i h => st1_n h
  refine x_enter 0 rfl rfl rfl (fun Z => ?_)
  show Wx g y_Mo_end Z K 0 [vR 174, vI n] [] σ
  refine x_iload_n (dat d_Mo_end 0 rfl) rfl rfl ?_
  refine x_if_lt (tgt := 14) (dat d_Mo_end 1 rfl) (by decide) (fun c_1 => ?_) (fun c_1 => ?_)
  · refine x_iconst (dat d_Mo_end 8 rfl) (by decide) ?_
    refine x_iret (dat d_Mo_end 9 rfl) rfl ?_
    first
    | exact kn (by omega)
    | (refine k (by omega) (by omega) _ ⟨fun i i0 i1 => ?_, ⟨by rw [eA 0 (by decide)]; exact A.2.1.1, by rw [eA 1 (by decide)]; exact A.2.1.2.1, by rw [st1_s]; omega⟩, fun m m0 m1 => ?_, fun m m0 m1 => ?_⟩ (fun o ho => up_ne ho) (fun j hj => up_ni (by omega))
       · by_cases z : i = 2
         · rw [z, up_s, st1_s]
         · rw [up_ni (Ne.symm z), eA i z]; exact A.1 i i0 i1
       · rw [eA 0 (by decide)] at m1
         rw [tw_eq (a := a) (n := m) (fun i i0 i1 => eA _ (by omega))]
         exact A.2.2.1 m m0 m1
       · rw [eA 1 (by decide)] at m1
         rw [bk_eq (a := a) (n := m) (fun i i0 i1 => eA _ (by omega))]
         exact A.2.2.2 m m0 m1)
  · refine x_iload_n (dat d_Mo_end 2 rfl) rfl rfl ?_
    refine x_aload_n (dat d_Mo_end 3 rfl) rfl rfl ?_
    refine x_getr (r := 175) (dat d_Mo_end 4 rfl) rfl f_Mo_7 (or_mk (by decide +kernel)) ?_
    refine x_iconst (dat d_Mo_end 5 rfl) (by decide) ?_
    refine x_iald (n := 3888) (v := a 2) (dat d_Mo_end 6 rfl) (ai_mk (by decide +kernel)) (by omega) (by omega) (e2) ?_
    refine x_icmp_le (tgt := 16) (dat d_Mo_end 7 rfl) (by decide) (fun c_11 => ?_) (fun c_11 => ?_)
    · refine x_aload_n (dat d_Mo_end 10 rfl) rfl rfl ?_
      refine x_getr (r := 175) (dat d_Mo_end 11 rfl) rfl f_Mo_7 (or_mk (by decide +kernel)) ?_
      refine x_iconst (dat d_Mo_end 12 rfl) (by decide) ?_
      refine x_iload_n (dat d_Mo_end 13 rfl) rfl rfl ?_
      refine x_iast (n := 3888) (dat d_Mo_end 14 rfl) (ai_mk (by decide +kernel)) (by omega) (by omega) ?_
      refine x_iload_n (dat d_Mo_end 15 rfl) rfl rfl ?_
      refine x_iret (dat d_Mo_end 16 rfl) rfl ?_
      first
      | exact kn (by omega)
      | (refine k (by omega) (by omega) _ ⟨fun i i0 i1 => ?_, ⟨by rw [eA 0 (by decide)]; exact A.2.1.1, by rw [eA 1 (by decide)]; exact A.2.1.2.1, by rw [st1_s]; omega⟩, fun m m0 m1 => ?_, fun m m0 m1 => ?_⟩ (fun o ho => up_ne ho) (fun j hj => up_ni (by omega))
         · by_cases z : i = 2
           · rw [z, up_s, st1_s]
           · rw [up_ni (Ne.symm z), eA i z]; exact A.1 i i0 i1
         · rw [eA 0 (by decide)] at m1
           rw [tw_eq (a := a) (n := m) (fun i i0 i1 => eA _ (by omega))]
           exact A.2.2.1 m m0 m1
         · rw [eA 1 (by decide)] at m1
           rw [bk_eq (a := a) (n := m) (fun i i0 i1 => eA _ (by omega))]
           exact A.2.2.2 m m0 m1)
    · refine x_iconst (dat d_Mo_end 8 rfl) (by decide) ?_
      refine x_iret (dat d_Mo_end 9 rfl) rfl ?_
      first
      | exact kn (by omega)
      | (refine k (by omega) (by omega) _ ⟨fun i i0 i1 => ?_, ⟨by rw [eA 0 (by decide)]; exact A.2.1.1, by rw [eA 1 (by decide)]; exact A.2.1.2.1, by rw [st1_s]; omega⟩, fun m m0 m1 => ?_, fun m m0 m1 => ?_⟩ (fun o ho => up_ne ho) (fun j hj => up_ni (by omega))
         · by_cases z : i = 2
           · rw [z, up_s, st1_s]
           · rw [up_ni (Ne.symm z), eA i z]; exact A.1 i i0 i1
         · rw [eA 0 (by decide)] at m1
           rw [tw_eq (a := a) (n := m) (fun i i0 i1 => eA _ (by omega))]
           exact A.2.2.1 m m0 m1
         · rw [eA 1 (by decide)] at m1
           rw [bk_eq (a := a) (n := m) (fun i i0 i1 => eA _ (by omega))]
           exact A.2.2.2 m m0 m1)
