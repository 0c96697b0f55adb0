/-! the twin's answers: a text -/
def AOk (a : Int → Int) : Prop := ((0 ≤ a 0 ∧ a 0 ≤ 2) ∧ (0 ≤ a 1 ∧ a 1 ≤ 2) ∧ (0 ≤ a 2 ∧ a 2 ≤ 600)) ∧ (∀ n : Int, 0 ≤ n → n < a 0 → TownOk (tw a n)) ∧ ∀ n : Int, 0 ≤ n → n < a 1 → BookOk (bk a n)
/-- what a call may not change, when something is told -/
def TxF (σ' σ : xS) : Prop := (∀ o : Nat, ((o < 174 ∨ 197 < o) ∨ o = 176) → σ' o = σ o) ∧ ∀ j : Int, 972 ≤ j → σ' 175 j = σ 175 j
theorem TxF.trans {σ σ' σ'' : xS} (h : TxF σ' σ) (h2 : TxF σ'' σ') : TxF σ'' σ := ⟨fun o ho => by rw [h2.1 o ho]; exact h.1 o ho, fun j hj => by rw [h2.2 j hj]; exact h.2 j hj⟩
section
variable {g : xG} {K : Option MV → xS → Prop} {σ σ1 : xS} {a : Int → Int} {n s : Int} {Z : xZ}
theorem nf_k {a : Int → Int} (h0 : AOk a) (hs : s = 0 ∨ s = 1) (h : nfT a s n ≠ -1) : (0 ≤ nfT a s n ∧ nfT a s n < 2) ∧ (n = -1 → nfT a s n = a s) ∧ (n ≠ -1 → nfT a s n = n ∧ 0 ≤ n ∧ n < a s) := by
  have b0 := h0.1.1
  have b1 := h0.1.2.1
  have bs : 0 ≤ a s ∧ a s ≤ 2 := by
    rcases hs with z | z
    · rw [z]; exact b0
    · rw [z]; exact b1
  unfold nfT at h ⊢
  rw [if_neg (by omega)] at h ⊢
  by_cases z : n = -1
  · rw [if_pos z] at h ⊢
    by_cases y : a s < 2
    · rw [if_pos y]
      exact ⟨by omega, fun _ => rfl, fun w => absurd z w⟩
    · rw [if_neg y] at h; exact absurd rfl h
  · rw [if_neg z] at h ⊢
    by_cases y : 0 ≤ n ∧ n < a s
    · rw [if_pos y]
      exact ⟨by omega, fun w => absurd w z, fun _ => ⟨rfl, y⟩⟩
    · rw [if_neg y] at h; exact absurd rfl h
/-- read: what stands of it -/
theorem lm_Mo_read {w3 w4 : MV} {T : Int → Int} {N : Int} (hT : T = fun i => a (10 + i)) (hN : N = a 2) (h0 : AOk a) (hs : s = 0 ∨ s = 1) (hnf : nfT a s n ≠ -1) (hO : AOk (textA a s n)) (E : EnR σ1 T N s (endP T N s)) (h1 : ∀ j : Int, 0 ≤ j → j < 972 → j ≠ 3 → j ≠ 4 → σ1 175 j = st3 a 0 0 (-1) j) (F : TxF σ1 σ)
    (k : ∀ σ' : xS, MoA σ' (textA a s n) → TxF σ' σ → K (some (vI (textR a s n))) σ') : Wx g y_Mo_text Z K 189 [vR 174, vI s, vI n, w3, w4] [] σ1 := by
  obtain ⟨kb, kn, kn2⟩ := nf_k h0 hs hnf
  have tA : textA a s n = if (fltP T N s).1 ≠ 0 then st3 a 0 (fltP T N s).1 (fltP T N s).2 else if s = 0 then putT (st3 a 0 0 (fltP T N s).2) (nfT a s n) (rowP T N s) else putB (st3 a 0 0 (fltP T N s).2) (nfT a s n) (rowP T N s) := by
    rw [hT, hN]
    exact if_neg hnf
  have tR : textR a s n = if (fltP T N s).1 ≠ 0 then -1 else nfT a s n := by
    rw [hT, hN]
    exact if_neg hnf
  have fl : fltP T N s = if (endP T N s).2.1.1 ≠ 0 then (endP T N s).2.1 else if s = 0 ∧ ((endP T N s).2.2.2.2 6 ≤ (endP T N s).2.2.1 ∨ (endP T N s).2.2.2.2 0 * (endP T N s).2.2.2.2 1 ≤ (endP T N s).2.2.2.1) then (4, N) else (endP T N s).2.1 := rfl
  have rp : rowP T N s = (endP T N s).2.2.2.2 := rfl
  rw [rp] at tA
  generalize endP T N s = P at E tA fl
  generalize fltP T N s = fp at tA tR fl
  -- a fault
  have bad : fp.1 ≠ 0 → ∀ σ2 : xS, (∀ j : Int, 0 ≤ j → j < 972 → j ≠ 3 → j ≠ 4 → σ2 175 j = st3 a 0 0 (-1) j) → TxF σ2 σ → σ2 175 3 = fp.1 → σ2 175 4 = fp.2 → K (some (vI (-1))) σ2 := fun z σ2 g1 G g3 g4 => by
    rw [if_pos z] at tA tR
    have := k σ2
    rw [tR, tA] at this
    rw [tA] at hO
    refine this ⟨fun i i0 i1 => ?_, hO⟩ G
    by_cases y3 : i = 3
    · rw [y3, g3]; rfl
    · by_cases y4 : i = 4
      · rw [y4, g4]; rfl
      · rw [g1 i i0 i1 y3 y4]
        unfold st3
        rw [if_neg y3, if_neg y4, if_neg y3, if_neg y4]
  -- none
  have good : fp.1 = 0 → fp = P.2.1 → RwE σ1 P.2.2.2.2 → σ1 175 3 = 0 → σ1 175 4 = P.2.1.2 → Wx g y_Mo_text Z K 256 [vR 174, vI s, vI n, w3, w4] [] σ1 := fun z ef hr g3 g4 => by
    rw [if_neg (fun w => w z), ef] at tA
    rw [if_neg (fun w => w z)] at tR
    rw [tR, tA] at k
    rw [tA] at hO
    have b0 := h0.1.1
    have b1 := h0.1.2.1
    have es : σ1 175 s = a s := by
      rw [h1 s (by omega) (by omega) (by omega) (by omega)]
      unfold st3
      rw [if_neg (by omega), if_neg (by omega), if_neg (by omega)]
    have bs : 0 ≤ a s ∧ a s ≤ 2 := by
      rcases hs with z | z
      · rw [z]; exact b0
      · rw [z]; exact b1
    have all : ∀ j : Int, 0 ≤ j → j < 972 → σ1 175 j = st3 a 0 0 P.2.1.2 j := fun j j0 j1 => by
      by_cases y3 : j = 3
      · rw [y3, g3]; rfl
      · by_cases y4 : j = 4
        · rw [y4, g4]; rfl
        · rw [h1 j j0 j1 y3 y4]
          unfold st3
          rw [if_neg y3, if_neg y4, if_neg y3, if_neg y4]
    obtain ⟨M, hM⟩ : ∃ M : Int, M = if s = 0 then 156 else 25 := ⟨_, rfl⟩
    obtain ⟨b, hb⟩ : ∃ b : Int, b = if s = 0 then 610 + 156 * nfT a s n else 922 + 25 * nfT a s n := ⟨_, rfl⟩
    have hMb : (s = 0 ∧ M = 156 ∧ b = 610 + 156 * nfT a s n) ∨ (s = 1 ∧ M = 25 ∧ b = 922 + 25 * nfT a s n) := by
      rcases hs with z | z
      · rw [if_pos z] at hM hb; exact Or.inl ⟨z, hM, hb⟩
      · rw [if_neg (by omega)] at hM hb; exact Or.inr ⟨z, hM, hb⟩
    clear hM hb
    -- the row put over σ2, in which the count is right
    have fin : ∀ σ2 : xS, (∀ j : Int, σ2 175 j = if j = s then (if a s < nfT a s n + 1 then nfT a s n + 1 else a s) else σ1 175 j) → (∀ o : Nat, o ≠ 175 → σ2 o = σ1 o) → Wx g y_Mo_text Z K 290 [vR 174, vI s, vI n, vI (nfT a s n), vI 0] [] σ2 := fun σ2 c1 c2 => by
      have e177 := c2 177 (by decide)
      refine lp_Mo_rput (σ := σ2) (s := s) (at_ := n) (kk := nfT a s n) (N := M) (b0 := b) (r := P.2.2.2.2) hMb kb.1 kb.2 (hr.same e177) (fun σ3 d1 d2 => ?_) M.toNat 0 σ2 (by omega) (fun j => by rw [if_neg (by omega)]) (fun _ _ => rfl)
      refine k σ3 ⟨fun i i0 i1 => ?_, hO⟩ ⟨fun o ho => by rw [d2 o (by omega), c2 o (by omega)]; exact F.1 o ho, fun j hj => by rw [d1 j, if_neg (by omega), c1 j, if_neg (by omega)]; exact F.2 j hj⟩
      rw [d1 i, c1 i]
      have ai : σ1 175 i = st3 a 0 0 P.2.1.2 i := all i i0 i1
      rw [ai]
      rcases hMb with ⟨s0, m0, b0⟩ | ⟨s0, m0, b0⟩
      · rw [if_pos s0]
        unfold putT
        have ea : st3 a 0 0 P.2.1.2 0 = a s := by rw [s0]; rfl
        rw [ea, m0, b0]
        by_cases y : i = 0
        · rw [if_pos y, if_neg (by omega), if_pos (by omega)]
        · rw [if_neg y]
          by_cases w : 610 + 156 * nfT a s n ≤ i ∧ i < 610 + 156 * nfT a s n + 156
          · rw [if_pos w, if_pos w]
          · rw [if_neg w, if_neg w, if_neg (by omega)]
      · rw [if_neg (show ¬ s = 0 by omega)]
        unfold putB
        have ea : st3 a 0 0 P.2.1.2 1 = a s := by rw [s0]; rfl
        rw [ea, m0, b0]
        by_cases y : i = 1
        · rw [if_pos y, if_neg (by omega), if_pos (by omega)]
        · rw [if_neg y]
          by_cases w : 922 + 25 * nfT a s n ≤ i ∧ i < 922 + 25 * nfT a s n + 25
          · rw [if_pos w, if_pos w]
          · rw [if_neg w, if_neg w, if_neg (by omega)]
    by_cases y : n = -1
    · have ek := kn y
      refine x_iload_n (dat d_Mo_text 148 rfl) rfl rfl ?_
      refine x_iconst (dat d_Mo_text 149 rfl) (by decide) ?_
      refine x_icmp_ne (tgt := 270) (dat d_Mo_text 150 rfl) (by decide) (fun c_258 => (by omega)) (fun c_258 => ?_)
      refine x_aload_n (dat d_Mo_text 151 rfl) rfl rfl ?_
      refine x_getr (r := 175) (dat d_Mo_text 152 rfl) rfl f_Mo_7 (or_mk (by decide +kernel)) ?_
      refine x_iload_n (dat d_Mo_text 153 rfl) rfl rfl ?_
      refine x_iald (n := 3888) (v := a s) (dat d_Mo_text 154 rfl) (ai_mk (by decide +kernel)) (by omega) (by omega) (es) ?_
      refine x_goto (tgt := 271) (dat d_Mo_text 155 rfl) (by decide) ?_
      refine x_istore_n (L' := [vR 174, vI s, vI n, vI (a s), w4]) (dat d_Mo_text 157 rfl) rfl (by decide) rfl rfl ?_
      refine x_iload_n (dat d_Mo_text 158 rfl) rfl rfl ?_
      refine x_iconst (dat d_Mo_text 159 rfl) (by decide) ?_
      refine x_icmp_ne (tgt := 287) (dat d_Mo_text 160 rfl) (by decide) (fun c_274 => (by omega)) (fun c_274 => ?_)
      refine x_aload_n (dat d_Mo_text 161 rfl) rfl rfl ?_
      refine x_getr (r := 175) (dat d_Mo_text 162 rfl) rfl f_Mo_7 (or_mk (by decide +kernel)) ?_
      refine x_iload_n (dat d_Mo_text 163 rfl) rfl rfl ?_
      refine x_dup2 (dat d_Mo_text 164 rfl) rfl rfl ?_
      refine x_iald (n := 3888) (v := a s) (dat d_Mo_text 165 rfl) (ai_mk (by decide +kernel)) (by omega) (by omega) (es) ?_
      refine x_iconst (dat d_Mo_text 166 rfl) (by decide) ?_
      refine x_iadd (v := (a s) + 1) (dat d_Mo_text 167 rfl) rfl (by omega) ?_
      refine x_iast (n := 3888) (dat d_Mo_text 168 rfl) (ai_mk (by decide +kernel)) (by omega) (by omega) ?_
      refine x_iconst (dat d_Mo_text 169 rfl) (by decide) ?_
      refine x_istore (L' := [vR 174, vI s, vI n, vI (a s), vI 0]) (dat d_Mo_text 170 rfl) (by decide) rfl rfl ?_
      rw [← ek]
      refine fin _ (fun j => ?_) (fun o ho => up_ne ho)
      by_cases w : j = s
      · rw [if_pos w, w, up_s, if_pos (by omega)]
      · rw [if_neg w, up_ni (Ne.symm w)]
    · have ek := kn2 y
      rw [ek.1] at fin
      refine x_iload_n (dat d_Mo_text 148 rfl) rfl rfl ?_
      refine x_iconst (dat d_Mo_text 149 rfl) (by decide) ?_
      refine x_icmp_ne (tgt := 270) (dat d_Mo_text 150 rfl) (by decide) (fun c_258 => ?_) (fun c_258 => (by omega))
      refine x_iload_n (dat d_Mo_text 156 rfl) rfl rfl ?_
      refine x_istore_n (L' := [vR 174, vI s, vI n, vI n, w4]) (dat d_Mo_text 157 rfl) rfl (by decide) rfl rfl ?_
      refine x_iload_n (dat d_Mo_text 158 rfl) rfl rfl ?_
      refine x_iconst (dat d_Mo_text 159 rfl) (by decide) ?_
      refine x_icmp_ne (tgt := 287) (dat d_Mo_text 160 rfl) (by decide) (fun c_274 => ?_) (fun c_274 => (by omega))
      refine x_iconst (dat d_Mo_text 169 rfl) (by decide) ?_
      refine x_istore (L' := [vR 174, vI s, vI n, vI n, vI 0]) (dat d_Mo_text 170 rfl) (by decide) rfl rfl ?_
      refine fin _ (fun j => ?_) (fun _ _ => rfl)
      by_cases w : j = s
      · rw [if_pos w, w, if_neg (by omega), es]
      · rw [if_neg w]
  have ret : fp.1 ≠ 0 → ∀ σ2 : xS, (∀ j : Int, 0 ≤ j → j < 972 → j ≠ 3 → j ≠ 4 → σ2 175 j = st3 a 0 0 (-1) j) → TxF σ2 σ → σ2 175 3 = fp.1 → σ2 175 4 = fp.2 → Wx g y_Mo_text Z K 245 [vR 174, vI s, vI n, w3, w4] [] σ2 := fun z σ2 g1 G g3 g4 => by
    have bd := bad z σ2 g1 G g3 g4
    generalize fp.1 = f at g3 z
    refine x_aload_n (dat d_Mo_text 141 rfl) rfl rfl ?_
    refine x_getr (r := 175) (dat d_Mo_text 142 rfl) rfl f_Mo_7 (or_mk (by decide +kernel)) ?_
    refine x_iconst (dat d_Mo_text 143 rfl) (by decide) ?_
    refine x_iald (n := 3888) (v := f) (dat d_Mo_text 144 rfl) (ai_mk (by decide +kernel)) (by omega) (by omega) (g3) ?_
    refine x_if_eq (tgt := 256) (dat d_Mo_text 145 rfl) (by decide) (fun c_251 => (by omega)) (fun c_251 => ?_)
    refine x_iconst (dat d_Mo_text 146 rfl) (by decide) ?_
    refine x_iret (dat d_Mo_text 147 rfl) rfl ?_
    exact bd
  rcases E with ⟨L, hk⟩ | ⟨H, p1, p2⟩
  · have H := L.1
    obtain ⟨-, -, D, e8, -⟩ := H.at
    have e3 : σ1 175 3 = P.2.1.1 := (H.2.1 rfl).2.2.1
    have e4 : σ1 175 4 = P.2.1.2 := (H.2.1 rfl).2.2.2
    have ew : σ1 174 4 = P.1 := D.1.1
    by_cases hf : P.2.1.1 = 0
    · rw [if_neg (fun w => w hf)] at fl
      obtain ⟨⟨g9, g10⟩, gr⟩ := L.2.2.2 hf
      rw [hf] at e3
      by_cases s0 : s = 0
      · have r6 := gr 6 (by decide) (by decide)
        have r0 := gr 0 (by decide) (by decide)
        have r1 := gr 1 (by decide) (by decide)
        have bn := (L.2.2.1.1 s0).1
        have mb : σ1 177 0 * σ1 177 1 ≤ 6 * 6 := Int.mul_le_mul (by omega) (by omega) (by omega) (by omega)
        have mb0 : 0 ≤ σ1 177 0 * σ1 177 1 := Int.mul_nonneg (by omega) (by omega)
        rw [r0, r1] at mb mb0
        have qn : P.1 = N := by
          have p1 : P.1 ≤ N := H.1.2.2
          by_cases y : N ≤ P.1
          · omega
          · exfalso
            unfold tkK at hk
            rw [if_neg y] at hk
            repeat' split at hk
            all_goals omega
        by_cases hc : P.2.2.2.2 6 ≤ P.2.2.1 ∨ P.2.2.2.2 0 * P.2.2.2.2 1 ≤ P.2.2.2.1
        · rw [if_pos ⟨s0, hc⟩] at fl
          have nz : fp.1 ≠ 0 := by rw [fl]; exact (by decide : (4 : Int) ≠ 0)
          have ret := ret nz
          rw [fl] at ret
          have al : ∀ σ2 : xS, RX σ2 T N (alX 4 P.1 (false, P.1, P.2.1)) → σ2 175 3 = 4 ∧ σ2 175 4 = N := fun σ2 H2 => by
            have ea : alX 4 P.1 (false, P.1, P.2.1) = (false, P.1, (4, P.1)) := by
              show (false, P.1, alsoF P.2.1 4 P.1) = _
              unfold alsoF
              rw [if_neg (fun w => w.1 hf)]
            rw [ea] at H2
            exact ⟨(H2.2.1 rfl).2.2.1, by rw [← qn]; exact (H2.2.1 rfl).2.2.2⟩
          generalize P.2.2.2.2 6 = x6 at r6 hc
          generalize P.2.2.2.2 0 = x0 at r0 hc mb mb0
          generalize P.2.2.2.2 1 = x1 at r1 hc mb mb0
          generalize P.2.2.1 = gp at g9 hc
          generalize P.2.2.2.1 = gc at g10 hc
          refine x_aload_n (dat d_Mo_text 110 rfl) rfl rfl ?_
          refine x_getr (r := 175) (dat d_Mo_text 111 rfl) rfl f_Mo_7 (or_mk (by decide +kernel)) ?_
          refine x_iconst (dat d_Mo_text 112 rfl) (by decide) ?_
          refine x_iald (n := 3888) (v := 0) (dat d_Mo_text 113 rfl) (ai_mk (by decide +kernel)) (by omega) (by omega) (e3) ?_
          refine x_if_ne (tgt := 245) (dat d_Mo_text 114 rfl) (by decide) (fun h => absurd h (by decide)) (fun c_195 => ?_)
          refine x_iload_n (dat d_Mo_text 115 rfl) rfl rfl ?_
          refine x_if_ne (tgt := 245) (dat d_Mo_text 116 rfl) (by decide) (fun c_199 => (by omega)) (fun c_199 => ?_)
          refine x_aload_n (dat d_Mo_text 117 rfl) rfl rfl ?_
          refine x_geti (ji := 9) (v := gp) (dat d_Mo_text 118 rfl) rfl f_Mo_151 (oi_mk (by decide +kernel)) (g9) ?_
          refine x_aload_n (dat d_Mo_text 119 rfl) rfl rfl ?_
          refine x_getr (r := 177) (dat d_Mo_text 120 rfl) rfl f_Mo_17 (or_mk (by decide +kernel)) ?_
          refine x_bipush (dat d_Mo_text 121 rfl) (by decide) (by decide) ?_
          refine x_iald (n := 190) (v := x6) (dat d_Mo_text 122 rfl) (ai_mk (by decide +kernel)) (by omega) (by omega) (r6) ?_
          refine x_icmp_ge (tgt := 236) (dat d_Mo_text 123 rfl) (by decide) (fun c_213 => ?_) (fun c_213 => ?_)
          · refine x_aload_n (dat d_Mo_text 136 rfl) rfl rfl ?_
            refine x_iconst (dat d_Mo_text 137 rfl) (by decide) ?_
            refine x_aload_n (dat d_Mo_text 138 rfl) rfl rfl ?_
            refine x_geti (ji := 4) (v := P.1) (dat d_Mo_text 139 rfl) rfl f_Mo_102 (oi_mk (by decide +kernel)) (ew) ?_
            refine x_inv (As := [vI 4, vI P.1]) (dat d_Mo_text 140 rfl) rfl c_Mo_also l_Mo_140 (by decide) (rv_mo (by decide +kernel)) rfl rfl (Nat.le_of_ble_eq_true rfl) ?_
            refine sp_Mo_also H (by decide) (fun σ2 H2 F2 => ?_)
            show Wx g y_Mo_text Z K 245 [vR 174, vI s, vI n, w3, w4] [] σ2
            exact ret σ2 (fun j j0 j1 a b => by rw [F2.2.1 j a b]; exact h1 j j0 j1 a b) ⟨fun o ho => by rw [F2.2.2 o (by omega) (by omega)]; exact F.1 o ho, fun j hj => by rw [F2.2.1 j (by omega) (by omega)]; exact F.2 j hj⟩ (al σ2 H2).1 (al σ2 H2).2
          · refine x_aload_n (dat d_Mo_text 124 rfl) rfl rfl ?_
            refine x_geti (ji := 10) (v := gc) (dat d_Mo_text 125 rfl) rfl f_Mo_154 (oi_mk (by decide +kernel)) (g10) ?_
            refine x_aload_n (dat d_Mo_text 126 rfl) rfl rfl ?_
            refine x_getr (r := 177) (dat d_Mo_text 127 rfl) rfl f_Mo_17 (or_mk (by decide +kernel)) ?_
            refine x_iconst (dat d_Mo_text 128 rfl) (by decide) ?_
            refine x_iald (n := 190) (v := x0) (dat d_Mo_text 129 rfl) (ai_mk (by decide +kernel)) (by omega) (by omega) (r0) ?_
            refine x_aload_n (dat d_Mo_text 130 rfl) rfl rfl ?_
            refine x_getr (r := 177) (dat d_Mo_text 131 rfl) rfl f_Mo_17 (or_mk (by decide +kernel)) ?_
            refine x_iconst (dat d_Mo_text 132 rfl) (by decide) ?_
            refine x_iald (n := 190) (v := x1) (dat d_Mo_text 133 rfl) (ai_mk (by decide +kernel)) (by omega) (by omega) (r1) ?_
            refine x_imul (v := x0 * x1) (dat d_Mo_text 134 rfl) rfl (by omega) ?_
            refine x_icmp_lt (tgt := 245) (dat d_Mo_text 135 rfl) (by decide) (fun c_233 => (by omega)) (fun c_233 => ?_)
            refine x_aload_n (dat d_Mo_text 136 rfl) rfl rfl ?_
            refine x_iconst (dat d_Mo_text 137 rfl) (by decide) ?_
            refine x_aload_n (dat d_Mo_text 138 rfl) rfl rfl ?_
            refine x_geti (ji := 4) (v := P.1) (dat d_Mo_text 139 rfl) rfl f_Mo_102 (oi_mk (by decide +kernel)) (ew) ?_
            refine x_inv (As := [vI 4, vI P.1]) (dat d_Mo_text 140 rfl) rfl c_Mo_also l_Mo_140 (by decide) (rv_mo (by decide +kernel)) rfl rfl (Nat.le_of_ble_eq_true rfl) ?_
            refine sp_Mo_also H (by decide) (fun σ2 H2 F2 => ?_)
            show Wx g y_Mo_text Z K 245 [vR 174, vI s, vI n, w3, w4] [] σ2
            exact ret σ2 (fun j j0 j1 a b => by rw [F2.2.1 j a b]; exact h1 j j0 j1 a b) ⟨fun o ho => by rw [F2.2.2 o (by omega) (by omega)]; exact F.1 o ho, fun j hj => by rw [F2.2.1 j (by omega) (by omega)]; exact F.2 j hj⟩ (al σ2 H2).1 (al σ2 H2).2
        · rw [if_neg (fun w => hc w.2)] at fl
          have go := good (by rw [fl]; exact hf) fl gr e3 e4
          generalize P.2.2.2.2 6 = x6 at r6 hc
          generalize P.2.2.2.2 0 = x0 at r0 hc mb mb0
          generalize P.2.2.2.2 1 = x1 at r1 hc mb mb0
          generalize P.2.2.1 = gp at g9 hc
          generalize P.2.2.2.1 = gc at g10 hc
          refine x_aload_n (dat d_Mo_text 110 rfl) rfl rfl ?_
          refine x_getr (r := 175) (dat d_Mo_text 111 rfl) rfl f_Mo_7 (or_mk (by decide +kernel)) ?_
          refine x_iconst (dat d_Mo_text 112 rfl) (by decide) ?_
          refine x_iald (n := 3888) (v := 0) (dat d_Mo_text 113 rfl) (ai_mk (by decide +kernel)) (by omega) (by omega) (e3) ?_
          refine x_if_ne (tgt := 245) (dat d_Mo_text 114 rfl) (by decide) (fun h => absurd h (by decide)) (fun c_195 => ?_)
          refine x_iload_n (dat d_Mo_text 115 rfl) rfl rfl ?_
          refine x_if_ne (tgt := 245) (dat d_Mo_text 116 rfl) (by decide) (fun c_199 => (by omega)) (fun c_199 => ?_)
          refine x_aload_n (dat d_Mo_text 117 rfl) rfl rfl ?_
          refine x_geti (ji := 9) (v := gp) (dat d_Mo_text 118 rfl) rfl f_Mo_151 (oi_mk (by decide +kernel)) (g9) ?_
          refine x_aload_n (dat d_Mo_text 119 rfl) rfl rfl ?_
          refine x_getr (r := 177) (dat d_Mo_text 120 rfl) rfl f_Mo_17 (or_mk (by decide +kernel)) ?_
          refine x_bipush (dat d_Mo_text 121 rfl) (by decide) (by decide) ?_
          refine x_iald (n := 190) (v := x6) (dat d_Mo_text 122 rfl) (ai_mk (by decide +kernel)) (by omega) (by omega) (r6) ?_
          refine x_icmp_ge (tgt := 236) (dat d_Mo_text 123 rfl) (by decide) (fun c_213 => (by omega)) (fun c_213 => ?_)
          refine x_aload_n (dat d_Mo_text 124 rfl) rfl rfl ?_
          refine x_geti (ji := 10) (v := gc) (dat d_Mo_text 125 rfl) rfl f_Mo_154 (oi_mk (by decide +kernel)) (g10) ?_
          refine x_aload_n (dat d_Mo_text 126 rfl) rfl rfl ?_
          refine x_getr (r := 177) (dat d_Mo_text 127 rfl) rfl f_Mo_17 (or_mk (by decide +kernel)) ?_
          refine x_iconst (dat d_Mo_text 128 rfl) (by decide) ?_
          refine x_iald (n := 190) (v := x0) (dat d_Mo_text 129 rfl) (ai_mk (by decide +kernel)) (by omega) (by omega) (r0) ?_
          refine x_aload_n (dat d_Mo_text 130 rfl) rfl rfl ?_
          refine x_getr (r := 177) (dat d_Mo_text 131 rfl) rfl f_Mo_17 (or_mk (by decide +kernel)) ?_
          refine x_iconst (dat d_Mo_text 132 rfl) (by decide) ?_
          refine x_iald (n := 190) (v := x1) (dat d_Mo_text 133 rfl) (ai_mk (by decide +kernel)) (by omega) (by omega) (r1) ?_
          refine x_imul (v := x0 * x1) (dat d_Mo_text 134 rfl) rfl (by omega) ?_
          refine x_icmp_lt (tgt := 245) (dat d_Mo_text 135 rfl) (by decide) (fun c_233 => ?_) (fun c_233 => (by omega))
          refine x_aload_n (dat d_Mo_text 141 rfl) rfl rfl ?_
          refine x_getr (r := 175) (dat d_Mo_text 142 rfl) rfl f_Mo_7 (or_mk (by decide +kernel)) ?_
          refine x_iconst (dat d_Mo_text 143 rfl) (by decide) ?_
          refine x_iald (n := 3888) (v := 0) (dat d_Mo_text 144 rfl) (ai_mk (by decide +kernel)) (by omega) (by omega) (e3) ?_
          refine x_if_eq (tgt := 256) (dat d_Mo_text 145 rfl) (by decide) (fun c_251 => ?_) (fun c_251 => (by omega))
          exact go
      · rw [if_neg (fun w => s0 w.1)] at fl
        have go := good (by rw [fl]; exact hf) fl gr e3 e4
        refine x_aload_n (dat d_Mo_text 110 rfl) rfl rfl ?_
        refine x_getr (r := 175) (dat d_Mo_text 111 rfl) rfl f_Mo_7 (or_mk (by decide +kernel)) ?_
        refine x_iconst (dat d_Mo_text 112 rfl) (by decide) ?_
        refine x_iald (n := 3888) (v := 0) (dat d_Mo_text 113 rfl) (ai_mk (by decide +kernel)) (by omega) (by omega) (e3) ?_
        refine x_if_ne (tgt := 245) (dat d_Mo_text 114 rfl) (by decide) (fun h => absurd h (by decide)) (fun c_195 => ?_)
        refine x_iload_n (dat d_Mo_text 115 rfl) rfl rfl ?_
        refine x_if_ne (tgt := 245) (dat d_Mo_text 116 rfl) (by decide) (fun c_199 => ?_) (fun c_199 => (by omega))
        refine x_aload_n (dat d_Mo_text 141 rfl) rfl rfl ?_
        refine x_getr (r := 175) (dat d_Mo_text 142 rfl) rfl f_Mo_7 (or_mk (by decide +kernel)) ?_
        refine x_iconst (dat d_Mo_text 143 rfl) (by decide) ?_
        refine x_iald (n := 3888) (v := 0) (dat d_Mo_text 144 rfl) (ai_mk (by decide +kernel)) (by omega) (by omega) (e3) ?_
        refine x_if_eq (tgt := 256) (dat d_Mo_text 145 rfl) (by decide) (fun c_251 => ?_) (fun c_251 => (by omega))
        exact go
    · rw [if_pos hf] at fl
      have rt := ret (by rw [fl]; exact hf) σ1 h1 F (by rw [fl]; exact e3) (by rw [fl]; exact e4)
      refine x_aload_n (dat d_Mo_text 110 rfl) rfl rfl ?_
      refine x_getr (r := 175) (dat d_Mo_text 111 rfl) rfl f_Mo_7 (or_mk (by decide +kernel)) ?_
      refine x_iconst (dat d_Mo_text 112 rfl) (by decide) ?_
      refine x_iald (n := 3888) (v := P.2.1.1) (dat d_Mo_text 113 rfl) (ai_mk (by decide +kernel)) (by omega) (by omega) (e3) ?_
      refine x_if_ne (tgt := 245) (dat d_Mo_text 114 rfl) (by decide) (fun c_195 => ?_) (fun c_195 => (by omega))
      exact rt
  · have e3 := (H.2.2 rfl).2.1
    have e4 : σ1 175 4 = P.1 := (H.2.2 rfl).2.2
    rw [if_pos (by rw [p1]; decide)] at fl
    have rt := ret (by rw [fl, p1]; decide) σ1 h1 F (by rw [fl, p1]; exact e3) (by rw [fl, p2]; exact e4)
    refine x_aload_n (dat d_Mo_text 110 rfl) rfl rfl ?_
    refine x_getr (r := 175) (dat d_Mo_text 111 rfl) rfl f_Mo_7 (or_mk (by decide +kernel)) ?_
    refine x_iconst (dat d_Mo_text 112 rfl) (by decide) ?_
    refine x_iald (n := 3888) (v := 1) (dat d_Mo_text 113 rfl) (ai_mk (by decide +kernel)) (by omega) (by omega) (e3) ?_
    refine x_if_ne (tgt := 245) (dat d_Mo_text 114 rfl) (by decide) (fun c_195 => ?_) (fun h => absurd h (by decide))
    exact rt
end
