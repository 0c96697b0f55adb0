/-! the twin's answers: which pocket to search, the end */ -/
section
variable {g : xG} {K : Option MV → xS → Prop} {σ σ' σ0 : xS} {t b : Int → Int} {t0 : Int} {a : Int → Int} {n : Int} {C : Cf}
def SfR (P bb ll B L : Int) : Prop := (bb = -1 ∧ B = -1) ∨ (0 ≤ bb ∧ 0 ≤ B) ∧ (bb / 8 = B / P ∧ bb % 8 = B % P) ∧ ll = L
theorem lp_Mo_sfind {Z : xZ} {m w cn : Int} {N : Nat} (H : KnX σ t t0 [179]) (P : PtR σ t (wHv t b N)) (c0 : 0 < cn) (k : ∀ (bb ll B L : Int) (w7 w8 w9 : MV), scanMin (gpF (wHv t b N) (t 6)) ((t 3).toNat * (t 6).toNat) = (B, L) → SfR (t 6) bb ll B L → Wx g y_Mo_search Z K 272 [vR 174, vI n, vI m, vI w, vI cn, vI bb, vI ll, w7, w8, w9] [] σ) : ∀ (d i : Nat) (bb ll B L : Int) (w8 w9 : MV), (i : Int) + d = 8 * t 3 → scanMin (gpF (wHv t b N) (t 6)) (ixN (t 6).toNat i) = (B, L) → SfR (t 6) bb ll B L → Wx g y_Mo_search Z K 150 [vR 174, vI n, vI m, vI w, vI cn, vI bb, vI ll, vI (i : Int), w8, w9] [] σ := by
  have hT := H.1.2
  have t6 := hT.2.2.2.2.2.2.1
  have t3 := hT.2.2.2.1
  have eP : (((t 6).toNat : Nat) : Int) = t 6 := by omega
  intro d
  induction d with
  | zero =>
    intro i bb ll B L w8 w9 hd hs hR
    have e : ixN (t 6).toNat i = (t 3).toNat * (t 6).toNat := by
      unfold ixN
      rw [show i / 8 = (t 3).toNat by omega, show i % 8 = 0 by omega]
      split <;> omega
    rw [e] at hs
    refine x_iload (dat d_Mo_search 80 rfl) rfl ?_
    refine x_bipush (dat d_Mo_search 81 rfl) (by decide) (by decide) ?_
    refine x_aload_n (dat d_Mo_search 82 rfl) rfl rfl ?_
    refine x_iconst (dat d_Mo_search 83 rfl) (by decide) ?_
    refine x_inv (As := [vI 3]) (dat d_Mo_search 84 rfl) rfl c_Mo_of l_Mo_199 (by decide) (rv_mo (by decide +kernel)) rfl rfl (Nat.le_of_ble_eq_true rfl) ?_
    refine sp_Mo_of H.1.1 (by decide) (by decide) ?_
    show Wx g y_Mo_search Z K 159 [vR 174, vI n, vI m, vI w, vI cn, vI bb, vI ll, vI (i : Int), w8, w9] [vI (t 3), vI 8, vI (i : Int)] σ
    refine x_imul (v := 8 * t 3) (dat d_Mo_search 85 rfl) (by omega) (by omega) ?_
    refine x_icmp_ge (tgt := 272) (dat d_Mo_search 86 rfl) (by decide) (fun c_160 => ?_) (fun c_160 => (by omega))
    exact k bb ll B L _ _ _ hs hR
  | succ d ih =>
    intro i bb ll B L w8 w9 hd hs hR
    have ix := ixN_s (P := (t 6).toNat) (k := i) (by omega)
    have nx : ∀ (bb ll B L : Int) (w8 w9 : MV), scanMin (gpF (wHv t b N) (t 6)) (ixN (t 6).toNat (i + 1)) = (B, L) → SfR (t 6) bb ll B L → Wx g y_Mo_search Z K 150 [vR 174, vI n, vI m, vI w, vI cn, vI bb, vI ll, vI ((i + 1 : Nat) : Int), w8, w9] [] σ := fun bb ll B L w8 w9 h1 h2 => ih (i + 1) bb ll B L w8 w9 (by omega) h1 h2
    clear ih
    by_cases hq : i % 8 < (t 6).toNat
    · rw [if_pos hq] at ix
      have dm := ixN_dm hq
      rw [eP] at dm
      have st := scanMin_s hs
      have eG : gpF (wHv t b N) (t 6) (ixN (t 6).toNat i) = mxG (fun x => wHv t b N ((i : Int) / 8) ((i : Int) % 8) x) 272 := by
        unfold gpF
        rw [dm.1, dm.2]
        exact (mxG_to (m := 265) (fun x hx => hv_272 hT (by omega) (by omega) (by omega) N) 7).symm
      rw [eG, ← ix] at st
      refine x_iload (dat d_Mo_search 80 rfl) rfl ?_
      refine x_bipush (dat d_Mo_search 81 rfl) (by decide) (by decide) ?_
      refine x_aload_n (dat d_Mo_search 82 rfl) rfl rfl ?_
      refine x_iconst (dat d_Mo_search 83 rfl) (by decide) ?_
      refine x_inv (As := [vI 3]) (dat d_Mo_search 84 rfl) rfl c_Mo_of l_Mo_199 (by decide) (rv_mo (by decide +kernel)) rfl rfl (Nat.le_of_ble_eq_true rfl) ?_
      refine sp_Mo_of H.1.1 (by decide) (by decide) ?_
      show Wx g y_Mo_search Z K 159 [vR 174, vI n, vI m, vI w, vI cn, vI bb, vI ll, vI (i : Int), w8, w9] [vI (t 3), vI 8, vI (i : Int)] σ
      refine x_imul (v := 8 * t 3) (dat d_Mo_search 85 rfl) (by omega) (by omega) ?_
      refine x_icmp_ge (tgt := 272) (dat d_Mo_search 86 rfl) (by decide) (fun c_160 => (by omega)) (fun c_160 => ?_)
      refine x_iload (dat d_Mo_search 87 rfl) rfl ?_
      refine x_if_le (tgt := 272) (dat d_Mo_search 88 rfl) (by decide) (fun c_165 => (by omega)) (fun c_165 => ?_)
      refine x_iload (dat d_Mo_search 89 rfl) rfl ?_
      refine x_bipush (dat d_Mo_search 90 rfl) (by decide) (by decide) ?_
      refine x_irem (v := (i : Int) % 8) (dat d_Mo_search 91 rfl) (by omega) rfl ?_
      refine x_aload_n (dat d_Mo_search 92 rfl) rfl rfl ?_
      refine x_inv (As := []) (dat d_Mo_search 93 rfl) rfl c_Mo_people l_Mo_202 (by decide) (rv_mo (by decide +kernel)) rfl rfl (Nat.le_of_ble_eq_true rfl) ?_
      refine sp_Mo_people H.1.1 ?_
      show Wx g y_Mo_search Z K 177 [vR 174, vI n, vI m, vI w, vI cn, vI bb, vI ll, vI (i : Int), w8, w9] [vI (t 6), vI ((i : Int) % 8)] σ
      refine x_icmp_lt (tgt := 183) (dat d_Mo_search 94 rfl) (by decide) (fun c_177 => ?_) (fun c_177 => (by omega))
      refine x_iconst (dat d_Mo_search 96 rfl) (by decide) ?_
      refine x_istore (L' := [vR 174, vI n, vI m, vI w, vI cn, vI bb, vI ll, vI (i : Int), vI 0, w9]) (dat d_Mo_search 97 rfl) (by decide) rfl rfl ?_
      refine x_iconst (dat d_Mo_search 98 rfl) (by decide) ?_
      refine x_istore (L' := [vR 174, vI n, vI m, vI w, vI cn, vI bb, vI ll, vI (i : Int), vI 0, vI 0]) (dat d_Mo_search 99 rfl) (by decide) rfl rfl ?_
      refine lp_Mo_stop (f := fun x => wHv t b N ((i : Int) / 8) ((i : Int) % 8) x) (i := i) (by omega) (fun x hx => ?_) (fun w9 => ?_) 272 0 (by omega)
      · rw [← P ((i : Int) / 8) ((i : Int) % 8) (x : Int) (by omega) (by omega) (by omega) (by omega) (by omega) (by omega)]
        congr 1
        omega
      · generalize mxG (fun x => wHv t b N ((i : Int) / 8) ((i : Int) % 8) x) 272 = u at st
        have dm1 := dm.1
        have dm2 := dm.2
        generalize ixN (t 6).toNat i = J at st dm1 dm2
        refine x_iload (dat d_Mo_search 126 rfl) rfl ?_
        refine x_if_lt (tgt := 258) (dat d_Mo_search 127 rfl) (by decide) (fun c_245 => ?_) (fun c_245 => ?_)
        · refine x_iload (dat d_Mo_search 132 rfl) rfl ?_
          refine x_istore (L' := [vR 174, vI n, vI m, vI w, vI cn, vI (i : Int), vI ll, vI (i : Int), vI u, w9]) (dat d_Mo_search 133 rfl) (by decide) rfl rfl ?_
          refine x_iload (dat d_Mo_search 134 rfl) rfl ?_
          refine x_istore (L' := [vR 174, vI n, vI m, vI w, vI cn, vI (i : Int), vI u, vI (i : Int), vI u, w9]) (dat d_Mo_search 135 rfl) (by decide) rfl rfl ?_
          refine x_iinc (v' := ((i + 1 : Nat) : Int)) (L' := [vR 174, vI n, vI m, vI w, vI cn, vI (i : Int), vI u, vI ((i + 1 : Nat) : Int), vI u, w9]) (dat d_Mo_search 136 rfl) rfl (by decide) rfl (by omega) (by omega) rfl ?_
          refine x_goto (tgt := 150) (dat d_Mo_search 137 rfl) (by decide) ?_
          rcases hR with ⟨r1, r2⟩ | ⟨⟨r1, r2⟩, ⟨r3, r4⟩, r5⟩
          · first
            | (exfalso; omega)
            | exact nx _ _ _ _ _ _ (by rw [st, if_pos (Or.inl r2)]) (Or.inr ⟨⟨by omega, by omega⟩, ⟨by rw [dm1], by rw [dm2]⟩, rfl⟩)
          · first
            | (exfalso; omega)
            | exact nx _ _ _ _ _ _ (by rw [st, if_pos (Or.inr (by omega))]) (Or.inr ⟨⟨by omega, by omega⟩, ⟨by rw [dm1], by rw [dm2]⟩, rfl⟩)
            | exact nx _ _ _ _ _ _ (by rw [st, if_neg (show ¬ (B = -1 ∨ u < L) by omega)]) (Or.inr ⟨⟨r1, r2⟩, ⟨r3, r4⟩, r5⟩)
        · refine x_iload (dat d_Mo_search 128 rfl) rfl ?_
          refine x_iload (dat d_Mo_search 129 rfl) rfl ?_
          refine x_icmp_lt (tgt := 258) (dat d_Mo_search 130 rfl) (by decide) (fun c_252 => ?_) (fun c_252 => ?_)
          · refine x_iload (dat d_Mo_search 132 rfl) rfl ?_
            refine x_istore (L' := [vR 174, vI n, vI m, vI w, vI cn, vI (i : Int), vI ll, vI (i : Int), vI u, w9]) (dat d_Mo_search 133 rfl) (by decide) rfl rfl ?_
            refine x_iload (dat d_Mo_search 134 rfl) rfl ?_
            refine x_istore (L' := [vR 174, vI n, vI m, vI w, vI cn, vI (i : Int), vI u, vI (i : Int), vI u, w9]) (dat d_Mo_search 135 rfl) (by decide) rfl rfl ?_
            refine x_iinc (v' := ((i + 1 : Nat) : Int)) (L' := [vR 174, vI n, vI m, vI w, vI cn, vI (i : Int), vI u, vI ((i + 1 : Nat) : Int), vI u, w9]) (dat d_Mo_search 136 rfl) rfl (by decide) rfl (by omega) (by omega) rfl ?_
            refine x_goto (tgt := 150) (dat d_Mo_search 137 rfl) (by decide) ?_
            rcases hR with ⟨r1, r2⟩ | ⟨⟨r1, r2⟩, ⟨r3, r4⟩, r5⟩
            · first
              | (exfalso; omega)
              | exact nx _ _ _ _ _ _ (by rw [st, if_pos (Or.inl r2)]) (Or.inr ⟨⟨by omega, by omega⟩, ⟨by rw [dm1], by rw [dm2]⟩, rfl⟩)
            · first
              | (exfalso; omega)
              | exact nx _ _ _ _ _ _ (by rw [st, if_pos (Or.inr (by omega))]) (Or.inr ⟨⟨by omega, by omega⟩, ⟨by rw [dm1], by rw [dm2]⟩, rfl⟩)
              | exact nx _ _ _ _ _ _ (by rw [st, if_neg (show ¬ (B = -1 ∨ u < L) by omega)]) (Or.inr ⟨⟨r1, r2⟩, ⟨r3, r4⟩, r5⟩)
          · refine x_goto (tgt := 266) (dat d_Mo_search 131 rfl) (by decide) ?_
            refine x_iinc (v' := ((i + 1 : Nat) : Int)) (L' := [vR 174, vI n, vI m, vI w, vI cn, vI bb, vI ll, vI ((i + 1 : Nat) : Int), vI u, w9]) (dat d_Mo_search 136 rfl) rfl (by decide) rfl (by omega) (by omega) rfl ?_
            refine x_goto (tgt := 150) (dat d_Mo_search 137 rfl) (by decide) ?_
            rcases hR with ⟨r1, r2⟩ | ⟨⟨r1, r2⟩, ⟨r3, r4⟩, r5⟩
            · first
              | (exfalso; omega)
              | exact nx _ _ _ _ _ _ (by rw [st, if_pos (Or.inl r2)]) (Or.inr ⟨⟨by omega, by omega⟩, ⟨by rw [dm1], by rw [dm2]⟩, rfl⟩)
            · first
              | (exfalso; omega)
              | exact nx _ _ _ _ _ _ (by rw [st, if_pos (Or.inr (by omega))]) (Or.inr ⟨⟨by omega, by omega⟩, ⟨by rw [dm1], by rw [dm2]⟩, rfl⟩)
              | exact nx _ _ _ _ _ _ (by rw [st, if_neg (show ¬ (B = -1 ∨ u < L) by omega)]) (Or.inr ⟨⟨r1, r2⟩, ⟨r3, r4⟩, r5⟩)
    · rw [if_neg hq] at ix
      rw [← ix] at hs
      refine x_iload (dat d_Mo_search 80 rfl) rfl ?_
      refine x_bipush (dat d_Mo_search 81 rfl) (by decide) (by decide) ?_
      refine x_aload_n (dat d_Mo_search 82 rfl) rfl rfl ?_
      refine x_iconst (dat d_Mo_search 83 rfl) (by decide) ?_
      refine x_inv (As := [vI 3]) (dat d_Mo_search 84 rfl) rfl c_Mo_of l_Mo_199 (by decide) (rv_mo (by decide +kernel)) rfl rfl (Nat.le_of_ble_eq_true rfl) ?_
      refine sp_Mo_of H.1.1 (by decide) (by decide) ?_
      show Wx g y_Mo_search Z K 159 [vR 174, vI n, vI m, vI w, vI cn, vI bb, vI ll, vI (i : Int), w8, w9] [vI (t 3), vI 8, vI (i : Int)] σ
      refine x_imul (v := 8 * t 3) (dat d_Mo_search 85 rfl) (by omega) (by omega) ?_
      refine x_icmp_ge (tgt := 272) (dat d_Mo_search 86 rfl) (by decide) (fun c_160 => (by omega)) (fun c_160 => ?_)
      refine x_iload (dat d_Mo_search 87 rfl) rfl ?_
      refine x_if_le (tgt := 272) (dat d_Mo_search 88 rfl) (by decide) (fun c_165 => (by omega)) (fun c_165 => ?_)
      refine x_iload (dat d_Mo_search 89 rfl) rfl ?_
      refine x_bipush (dat d_Mo_search 90 rfl) (by decide) (by decide) ?_
      refine x_irem (v := (i : Int) % 8) (dat d_Mo_search 91 rfl) (by omega) rfl ?_
      refine x_aload_n (dat d_Mo_search 92 rfl) rfl rfl ?_
      refine x_inv (As := []) (dat d_Mo_search 93 rfl) rfl c_Mo_people l_Mo_202 (by decide) (rv_mo (by decide +kernel)) rfl rfl (Nat.le_of_ble_eq_true rfl) ?_
      refine sp_Mo_people H.1.1 ?_
      show Wx g y_Mo_search Z K 177 [vR 174, vI n, vI m, vI w, vI cn, vI bb, vI ll, vI (i : Int), w8, w9] [vI (t 6), vI ((i : Int) % 8)] σ
      refine x_icmp_lt (tgt := 183) (dat d_Mo_search 94 rfl) (by decide) (fun c_177 => (by omega)) (fun c_177 => ?_)
      refine x_goto (tgt := 266) (dat d_Mo_search 95 rfl) (by decide) ?_
      refine x_iinc (v' := ((i + 1 : Nat) : Int)) (L' := [vR 174, vI n, vI m, vI w, vI cn, vI bb, vI ll, vI ((i + 1 : Nat) : Int), w8, w9]) (dat d_Mo_search 136 rfl) rfl (by decide) rfl (by omega) (by omega) rfl ?_
      refine x_goto (tgt := 150) (dat d_Mo_search 137 rfl) (by decide) ?_
      exact nx _ _ _ _ _ _ hs hR
/-- from the worlds' end to the answer -/
theorem lm_Mo_send {Z : xZ} {m w : Int} {w6 w7 w8 w9 : MV} (H : KnX σ t t0 [179]) (P : PtR σ t (wHv t b (runT t).toNat)) (hr : runT t ≤ 1024) (x1 : 0 ≤ w) (x2 : w ≤ 2) (kk : ∀ r : Int, seaA t b w r → K (some (vI r)) σ) : Wx g y_Mo_search Z K 141 [vR 174, vI n, vI m, vI w, vI (wct t b (runT t).toNat), vI (runT t), w6, w7, w8, w9] [] σ := by
  have hT := H.1.2
  have t6 := hT.2.2.2.2.2.2.1
  have t3 := hT.2.2.2.1
  have wb := wct_bd t b (runT t).toNat
  have hp : t 6 = 0 → (t 3).toNat * (t 6).toNat = 0 := fun z => by rw [z]; exact Nat.mul_zero _
  have hp2 : t 6 ≠ 0 → 1 ≤ (t 3).toNat * (t 6).toNat := fun z => Nat.mul_le_mul (show 1 ≤ (t 3).toNat by omega) (show 1 ≤ (t 6).toNat by omega)
  by_cases c0 : 0 < wct t b (runT t).toNat
  · have ed : ∀ (bb ll B L : Int) (w7 w8 w9 : MV), scanMin (gpF (wHv t b (runT t).toNat) (t 6)) ((t 3).toNat * (t 6).toNat) = (B, L) → SfR (t 6) bb ll B L → Wx g y_Mo_search Z K 272 [vR 174, vI n, vI m, vI w, vI (wct t b (runT t).toNat), vI bb, vI ll, w7, w8, w9] [] σ := by
      intro bb ll B L w7 w8 w9 hs hR
      have hin := scanMin_b hs
      have no : bb = -1 → K (some (vI (-1))) σ := fun z => kk _ (by
        unfold seaA
        rw [if_pos (Or.inr (Or.inr (by
          rcases hR with y | y
          · by_cases q : t 6 = 0
            · exact q
            · have := hp2 q; omega
          · omega)))])
      have ye : ∀ r : Int, 0 ≤ bb → (w = 0 → r = bb / 8) → (w = 1 → r = bb % 8) → (w = 2 → r = ll) → K (some (vI r)) σ := fun r z q0 q1 q2 => kk _ (by
        rcases hR with y | ⟨⟨y1, y2⟩, ⟨y3, y4⟩, y5⟩
        · omega
        · have nz : t 6 ≠ 0 := fun q => by have := hp q; omega
          unfold seaA
          rw [if_neg (by omega), hs]
          dsimp only
          by_cases u0 : w = 0
          · rw [if_pos u0, q0 u0]; exact y3
          · rw [if_neg u0]
            by_cases u1 : w = 1
            · rw [if_pos u1, q1 u1]; exact y4
            · rw [if_neg u1, q2 (by omega)]; exact y5)
      have bs : bb = -1 ∨ 0 ≤ bb := by
        rcases hR with y | y
        · exact Or.inl y.1
        · exact Or.inr y.1.1
      generalize wct t b (runT t).toNat = cn
      refine x_iload (dat d_Mo_search 138 rfl) rfl ?_
      refine x_if_ge (tgt := 279) (dat d_Mo_search 139 rfl) (by decide) (fun c_274 => ?_) (fun c_274 => ?_)
      · refine x_iload_n (dat d_Mo_search 142 rfl) rfl rfl ?_
        refine x_if_ne (tgt := 291) (dat d_Mo_search 143 rfl) (by decide) (fun c_280 => ?_) (fun c_280 => ?_)
        · refine x_iload_n (dat d_Mo_search 148 rfl) rfl rfl ?_
          refine x_iconst (dat d_Mo_search 149 rfl) (by decide) ?_
          refine x_icmp_ne (tgt := 304) (dat d_Mo_search 150 rfl) (by decide) (fun c_293 => ?_) (fun c_293 => ?_)
          · refine x_iload (dat d_Mo_search 155 rfl) rfl ?_
            refine x_iret (dat d_Mo_search 156 rfl) rfl ?_
            first
            | exact no (by omega)
            | exact ye _ (by omega) (fun _ => rfl) (fun _ => by omega) (fun _ => by omega)
            | exact ye _ (by omega) (fun _ => by omega) (fun _ => rfl) (fun _ => by omega)
            | exact ye _ (by omega) (fun _ => by omega) (fun _ => by omega) (fun _ => rfl)
          · refine x_iload (dat d_Mo_search 151 rfl) rfl ?_
            refine x_bipush (dat d_Mo_search 152 rfl) (by decide) (by decide) ?_
            refine x_irem (v := bb % 8) (dat d_Mo_search 153 rfl) (by omega) rfl ?_
            refine x_goto (tgt := 306) (dat d_Mo_search 154 rfl) (by decide) ?_
            refine x_iret (dat d_Mo_search 156 rfl) rfl ?_
            first
            | exact no (by omega)
            | exact ye _ (by omega) (fun _ => rfl) (fun _ => by omega) (fun _ => by omega)
            | exact ye _ (by omega) (fun _ => by omega) (fun _ => rfl) (fun _ => by omega)
            | exact ye _ (by omega) (fun _ => by omega) (fun _ => by omega) (fun _ => rfl)
        · refine x_iload (dat d_Mo_search 144 rfl) rfl ?_
          refine x_bipush (dat d_Mo_search 145 rfl) (by decide) (by decide) ?_
          refine x_idiv (v := bb / 8) (dat d_Mo_search 146 rfl) (by omega) rfl ?_
          refine x_goto (tgt := 306) (dat d_Mo_search 147 rfl) (by decide) ?_
          refine x_iret (dat d_Mo_search 156 rfl) rfl ?_
          first
          | exact no (by omega)
          | exact ye _ (by omega) (fun _ => rfl) (fun _ => by omega) (fun _ => by omega)
          | exact ye _ (by omega) (fun _ => by omega) (fun _ => rfl) (fun _ => by omega)
          | exact ye _ (by omega) (fun _ => by omega) (fun _ => by omega) (fun _ => rfl)
      · refine x_iconst (dat d_Mo_search 140 rfl) (by decide) ?_
        refine x_iret (dat d_Mo_search 141 rfl) rfl ?_
        first
        | exact no (by omega)
        | exact ye _ (by omega) (fun _ => rfl) (fun _ => by omega) (fun _ => by omega)
        | exact ye _ (by omega) (fun _ => by omega) (fun _ => rfl) (fun _ => by omega)
        | exact ye _ (by omega) (fun _ => by omega) (fun _ => by omega) (fun _ => rfl)
    have cc := lp_Mo_sfind (g := g) (K := K) (n := n) (Z := Z) (m := m) (w := w) H P c0 ed (8 * t 3).toNat 0 (-1) 0 (-1) 0
    generalize wct t b (runT t).toNat = cn at cc
    refine x_iconst (dat d_Mo_search 74 rfl) (by decide) ?_
    refine x_istore (L' := [vR 174, vI n, vI m, vI w, vI cn, vI (-1), w6, w7, w8, w9]) (dat d_Mo_search 75 rfl) (by decide) rfl rfl ?_
    refine x_iconst (dat d_Mo_search 76 rfl) (by decide) ?_
    refine x_istore (L' := [vR 174, vI n, vI m, vI w, vI cn, vI (-1), vI 0, w7, w8, w9]) (dat d_Mo_search 77 rfl) (by decide) rfl rfl ?_
    refine x_iconst (dat d_Mo_search 78 rfl) (by decide) ?_
    refine x_istore (L' := [vR 174, vI n, vI m, vI w, vI cn, vI (-1), vI 0, vI 0, w8, w9]) (dat d_Mo_search 79 rfl) (by decide) rfl rfl ?_
    refine cc _ _ (by omega) ?_ (Or.inl ⟨rfl, rfl⟩)
    have e0 : ixN (t 6).toNat 0 = 0 := by unfold ixN; split <;> omega
    rw [e0]; rfl
  · have cz : wct t b (runT t).toNat = 0 := by omega
    have kz : K (some (vI (-1))) σ := kk _ (by unfold seaA; rw [if_pos (Or.inr (Or.inl cz))])
    rw [cz]
    refine x_iconst (dat d_Mo_search 74 rfl) (by decide) ?_
    refine x_istore (L' := [vR 174, vI n, vI m, vI w, vI 0, vI (-1), w6, w7, w8, w9]) (dat d_Mo_search 75 rfl) (by decide) rfl rfl ?_
    refine x_iconst (dat d_Mo_search 76 rfl) (by decide) ?_
    refine x_istore (L' := [vR 174, vI n, vI m, vI w, vI 0, vI (-1), vI 0, w7, w8, w9]) (dat d_Mo_search 77 rfl) (by decide) rfl rfl ?_
    refine x_iconst (dat d_Mo_search 78 rfl) (by decide) ?_
    refine x_istore (L' := [vR 174, vI n, vI m, vI w, vI 0, vI (-1), vI 0, vI 0, w8, w9]) (dat d_Mo_search 79 rfl) (by decide) rfl rfl ?_
    refine x_iload (dat d_Mo_search 80 rfl) rfl ?_
    refine x_bipush (dat d_Mo_search 81 rfl) (by decide) (by decide) ?_
    refine x_aload_n (dat d_Mo_search 82 rfl) rfl rfl ?_
    refine x_iconst (dat d_Mo_search 83 rfl) (by decide) ?_
    refine x_inv (As := [vI 3]) (dat d_Mo_search 84 rfl) rfl c_Mo_of l_Mo_199 (by decide) (rv_mo (by decide +kernel)) rfl rfl (Nat.le_of_ble_eq_true rfl) ?_
    refine sp_Mo_of H.1.1 (by decide) (by decide) ?_
    show Wx g y_Mo_search Z K 159 [vR 174, vI n, vI m, vI w, vI 0, vI (-1), vI 0, vI 0, w8, w9] [vI (t 3), vI 8, vI 0] σ
    refine x_imul (v := 8 * (t 3)) (dat d_Mo_search 85 rfl) rfl (by omega) ?_
    refine x_icmp_ge (tgt := 272) (dat d_Mo_search 86 rfl) (by decide) (fun c_160 => (by omega)) (fun c_160 => ?_)
    refine x_iload (dat d_Mo_search 87 rfl) rfl ?_
    refine x_if_le (tgt := 272) (dat d_Mo_search 88 rfl) (by decide) (fun c_165 => ?_) (fun h => absurd h (by decide))
    refine x_iload (dat d_Mo_search 138 rfl) rfl ?_
    refine x_if_ge (tgt := 279) (dat d_Mo_search 139 rfl) (by decide) (fun h => absurd h (by decide)) (fun c_274 => ?_)
    refine x_iconst (dat d_Mo_search 140 rfl) (by decide) ?_
    refine x_iret (dat d_Mo_search 141 rfl) rfl ?_
    exact kz
theorem sp_Mo_search {m w : Int} (A : MoA σ a) (k : ∀ (r : Int) (σ' : xS), atB a n m (-1) (fun t b r => seaA t b w r) r → MoA σ' a → MoF σ' σ → K (some (vI r)) σ') : Mt g y_Mo_search [vR 174, vI n, vI m, vI w] σ K := by
  refine x_enter 6 rfl rfl rfl (fun Z => ?_)
  show Wx g y_Mo_search Z K 0 [vR 174, vI n, vI m, vI w, vU, vU, vU, vU, vU, vU] [] σ
  refine x_aload_n (dat d_Mo_search 0 rfl) rfl rfl ?_
  refine x_iload_n (dat d_Mo_search 1 rfl) rfl rfl ?_
  refine x_iload_n (dat d_Mo_search 2 rfl) rfl rfl ?_
  refine x_inv (As := [vI n, vI m]) (dat d_Mo_search 3 rfl) rfl c_Mo_areWorlds l_Mo_413 (by decide) (rv_mo (by decide +kernel)) rfl rfl (Nat.le_of_ble_eq_true rfl) ?_
  refine sp_Mo_areWorlds A (fun σ1 t0 hn hm hr H B e60 A1 F => ?_) (fun σ1 no A1 F => ?_)
  · show Wx g y_Mo_search Z K 6 [vR 174, vI n, vI m, vI w, vU, vU, vU, vU, vU, vU] [vI 1] σ1
    have kk : ∀ (r : Int) (σ2 : xS), seaA (tw a n) (bk a m) w r → MoF σ2 σ → K (some (vI r)) σ2 := fun r σ2 h F2 => k r σ2 ⟨fun z => absurd ⟨hn, hm⟩ z, fun _ => h⟩ (A.same F2) F2
    refine x_if_eq (tgt := 18) (dat d_Mo_search 4 rfl) (by decide) (fun h => absurd h (by decide)) (fun c_6 => ?_)
    refine x_iload_n (dat d_Mo_search 5 rfl) rfl rfl ?_
    refine x_iconst (dat d_Mo_search 6 rfl) (by decide) ?_
    refine x_iconst (dat d_Mo_search 7 rfl) (by decide) ?_
    refine x_invs (As := [vI w, vI 0, vI 2]) (dat d_Mo_search 8 rfl) rfl c_Mo_isIn l_Mo_136 (by decide) rfl rfl (Nat.le_of_ble_eq_true rfl) ?_
    refine sp_Mo_isIn (fun x1 x2 => ?_) (fun x1 => ?_)
    · show Wx g y_Mo_search Z K 15 [vR 174, vI n, vI m, vI w, vU, vU, vU, vU, vU, vU] [vI 1] σ1
      refine x_if_ne (tgt := 20) (dat d_Mo_search 9 rfl) (by decide) (fun c_15 => ?_) (fun h => absurd h (by decide))
      refine x_iconst (dat d_Mo_search 12 rfl) (by decide) ?_
      refine x_istore (L' := [vR 174, vI n, vI m, vI w, vI 0, vU, vU, vU, vU, vU]) (dat d_Mo_search 13 rfl) (by decide) rfl rfl ?_
      have hT := H.1.2
      have t6 := hT.2.2.2.2.2.2.1
      have t3 := hT.2.2.2.1
      have b8 := prN_b8 hT (p := (tw a n 6).toNat) (by omega)
      have er : runT (tw a n) = prN (tw a n) (tw a n 6).toNat := rfl
      have wb := wct_bd (tw a n) (bk a m) (runT (tw a n)).toNat
      refine lp_Mo_szero (σ := σ1) (fun σ2 S2 F2 => ?_) 52224 0 σ1 (by omega) (fun j j0 j1 => by omega) (fun _ _ => rfl)
      have H2 : KnX σ2 (tw a n) t0 [179] := H.oth (F2 174 (by decide)) (F2 175 (by decide)) (F2 179 (by decide))
      have B2 : BkX σ2 (922 + 25 * m) (bk a m) := B.same (by rw [F2 174 (by decide)]) (F2 175 (by decide))
      have g0 : σ2 174 60 = runT (tw a n) := by rw [F2 174 (by decide)]; exact e60
      have F3 : MoF σ2 σ := F.trans ⟨fun j _ => by rw [F2 174 (by decide)], fun o ho => F2 o (by omega)⟩
      have P2 : PtR σ2 (tw a n) (wHv (tw a n) (bk a m) 0) := fun h p x h0 h1 p0 p1 x0 x1 => by rw [S2 _ (by omega) (by omega)]; rfl
      refine x_iconst (dat d_Mo_search 24 rfl) (by decide) ?_
      refine x_istore (L' := [vR 174, vI n, vI m, vI w, vI 0, vU, vU, vU, vU, vU]) (dat d_Mo_search 25 rfl) (by decide) rfl rfl ?_
      refine x_iconst (dat d_Mo_search 26 rfl) (by decide) ?_
      refine x_istore (L' := [vR 174, vI n, vI m, vI w, vI 0, vI 0, vU, vU, vU, vU]) (dat d_Mo_search 27 rfl) (by decide) rfl rfl ?_
      refine lp_Mo_sall (σ0 := σ) (b := bk a m) hr (fun σ3 w6 H3 P3 F4 => ?_) (runT (tw a n)).toNat 0 σ2 _ (by omega) (by omega) H2 B2 g0 P2 F3
      exact lm_Mo_send H3 P3 hr x1 x2 (fun r h => kk r σ3 h F4)
    · show Wx g y_Mo_search Z K 15 [vR 174, vI n, vI m, vI w, vU, vU, vU, vU, vU, vU] [vI 0] σ1
      refine x_if_ne (tgt := 20) (dat d_Mo_search 9 rfl) (by decide) (fun h => absurd h (by decide)) (fun c_15 => ?_)
      refine x_iconst (dat d_Mo_search 10 rfl) (by decide) ?_
      refine x_iret (dat d_Mo_search 11 rfl) rfl ?_
      first
      | exact kk
      | exact kk _ σ1 (by unfold seaA; rw [if_pos (Or.inl (Or.inl x1))]) F
  · show Wx g y_Mo_search Z K 6 [vR 174, vI n, vI m, vI w, vU, vU, vU, vU, vU, vU] [vI 0] σ1
    have kk : K (some (vI (-1))) σ1 := k _ σ1 (no.elim (fun z => ⟨fun _ => rfl, fun y => absurd y z⟩) (fun z => ⟨fun y => absurd z.1 y, fun _ => by show seaA (tw a n) (bk a m) w (-1); unfold seaA; rw [if_pos (Or.inl (Or.inr z.2))]⟩)) A1 F
    refine x_if_eq (tgt := 18) (dat d_Mo_search 4 rfl) (by decide) (fun c_6 => ?_) (fun h => absurd h (by decide))
    refine x_iconst (dat d_Mo_search 10 rfl) (by decide) ?_
    refine x_iret (dat d_Mo_search 11 rfl) rfl ?_
    first
    | exact kk
    | exact kk _ σ1 (by unfold seaA; rw [if_pos (Or.inl (Or.inl x1))]) F
end
