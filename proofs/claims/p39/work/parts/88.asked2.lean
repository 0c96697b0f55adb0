/-! the law's second half, to its beginning -/
section ASK2
variable {g : xG} {Y : aY} {B : Nat} {A t r : Int → Int} {im : Nat → Int → Int} {σ : xS} {a gl pe p ad pl k11 : Int}
theorem as_406 (hY : AsY Y B) (hG : aG g Y) (hS : LwS σ A t r im) (hT : TRg t) (hp : 0 ≤ p ∧ p < t 6) (hA : A 0 = 2) (had : (ad = -1 ∨ (0 ≤ ad ∧ ad ≤ 30)) ∧ (0 ≤ ad → stv (mLoaf (cfg r) p 0 ad) = 0)) : Ax g y_Lw_asked Y (List.range NB ++ [176, 177]) 2 360 406 [vR 0, vR 174, vR 175, vI a, vI (t 6), vI gl, vI pe, vI p, vI ad, vR 177, vI pl, vI k11, vU, vU, vU] [] σ := by
  refine a_okS (fun ho => ?_)
  refine a_aload_n (dat d_Lw_asked 235 rfl) rfl rfl ?_
  refine a_copy (k := 178) hG (by decide +kernel) hY.1 hY.2.2.2 (fun o ho => (tT2 o ho).2.2) (dat d_Lw_asked 236 rfl) rfl l_Lw_161 (by decide) (Nat.le_of_ble_eq_true rfl) (by rw [hY.2.1]; exact ⟨Nat.le_of_ble_eq_true rfl, Nat.le_of_ble_eq_true rfl⟩) (fun i => (ho 175 i).1) rfl rfl (fun q9 f9 hf9 hG9 => ?_)
  exact as_7b hY hG9 (hS.same (fun o ho => by funext i; exact if_neg (by omega))) hT hp hA (fun i i0 i1 => by rw [← hS.2.1 i i0 i1]; exact (if_pos rfl).trans (hf9 i i0 i1)) had
theorem as_6 (hY : AsY Y B) (hG : aG g Y) (hS : LwS σ A t r im) (hT : TRg t) (hp : 0 ≤ p ∧ p < t 6) (hA : A 0 = 2) (h177 : ∀ i : Int, 0 ≤ i → i < 180 → σ 177 i = pN t pe (t 7).toNat i) (hpe : (pe = -1 ∨ (0 ≤ pe ∧ pe < 256)) ∧ (0 ≤ pe → qrF r pe.toNat = true) ∧ (pe < 0 → 2 ≤ (pts (cfg r) (r 6).toNat).2)) (had : (ad = -1 ∨ (0 ≤ ad ∧ ad ≤ 30)) ∧ (0 ≤ ad → stv (mLoaf (cfg r) p 0 ad) = 0)) : Ax g y_Lw_asked Y (List.range NB ++ [176, 177]) 2 360 360 [vR 0, vR 174, vR 175, vI a, vI (t 6), vI gl, vI pe, vI p, vI ad, vR 177, vI pl, vI k11, vU, vU, vU] [] σ := by
  have hC := cfg_ok hS.ok
  have R := hS.2.2.1.2
  have hwo : ∀ o ∈ [176, 177], 173 < o := by decide
  have j388 : ∀ (σ1 : xS) (A1 : Int → Int), LwS σ1 A1 t r im → A1 0 = 2 → Ax g y_Lw_asked Y (List.range NB ++ [176, 177]) 2 360 388 [vR 0, vR 174, vR 175, vI a, vI (t 6), vI gl, vI pe, vI p, vI ad, vR 177, vI pl, vI k11, vU, vU, vU] [] σ1 := fun σ1 A1 hS hA => by
    refine a_iload (dat d_Lw_asked 225 rfl) rfl ?_
    refine a_if_ge (tgt := 406) (dat d_Lw_asked 226 rfl) (by decide) (fun c_390 => ?_) (fun c_390 => ?_)
    · exact as_406 hY hG hS hT hp hA had
    · refine a_aload_n (dat d_Lw_asked 227 rfl) rfl rfl ?_
      refine a_iconst (dat d_Lw_asked 228 rfl) (by decide) ?_
      refine a_bipush (dat d_Lw_asked 229 rfl) (by decide) (by decide) ?_
      refine a_inv hG (As := [vI 0, vI 7]) (dat d_Lw_asked 230 rfl) rfl c_Sb_run l_Lw_130 (by decide) rv_0 rfl rfl (Nat.le_of_ble_eq_true rfl) ?_
      refine sp_Sb_run hS.1.1 (fun v1 σ2 h1 F1 => ⟨fun o ho => F1 o (Or.inr (by have := hwo o ho; omega)), ?_⟩)
      have h1 := an_r7 (hS.at0 h1)
      have h2 := hpe.2.2 (by omega)
      have hS := hS.tr F1
      show Ax g y_Lw_asked Y (List.range NB ++ [176, 177]) 2 360 400 [vR 0, vR 174, vR 175, vI a, vI (t 6), vI gl, vI pe, vI p, vI ad, vR 177, vI pl, vI k11, vU, vU, vU] [vI v1] σ2
      refine a_iconst (dat d_Lw_asked 231 rfl) (by decide) ?_
      refine a_icmp_ge (tgt := 406) (dat d_Lw_asked 232 rfl) (by decide) (fun c_401 => ?_) (fun c_401 => (by omega))
      exact as_406 hY hG hS hT hp hA had
  refine a_aload_n (dat d_Lw_asked 210 rfl) rfl rfl ?_
  refine a_aload_n (dat d_Lw_asked 211 rfl) rfl rfl ?_
  refine a_aload (dat d_Lw_asked 212 rfl) rfl ?_
  refine a_iconst (dat d_Lw_asked 213 rfl) (by decide) ?_
  refine a_iconst (dat d_Lw_asked 214 rfl) (by decide) ?_
  refine a_town (kT := 177) (t1 := pN t pe (t 7).toNat) hG (by decide) (by decide +kernel) tT2 (dat d_Lw_asked 215 rfl) rfl l_Lw_114 (by decide) (Nat.le_of_ble_eq_true rfl) hS.1.pts (pN_rg hT) h177 (nfT_1 hA) (by decide) (fun σ2 A2 p2 n2 e2 _ => ?_)
  obtain ⟨A3, hS, hA3, R1⟩ := hS.nw p2 n2 e2
  show Ax g y_Lw_asked Y (List.range NB ++ [176, 177]) 2 360 369 [vR 0, vR 174, vR 175, vI a, vI (t 6), vI gl, vI pe, vI p, vI ad, vR 177, vI pl, vI k11, vU, vU, vU] [vI 1] σ2
  refine a_if_eq (tgt := 404) (dat d_Lw_asked 216 rfl) (by decide) (fun h => absurd h (by decide)) (fun c_369 => ?_)
  refine a_iload (dat d_Lw_asked 217 rfl) rfl ?_
  refine a_if_lt (tgt := 388) (dat d_Lw_asked 218 rfl) (by decide) (fun c_374 => ?_) (fun c_374 => ?_)
  · exact j388 _ _ hS hA3
  · refine a_aload_n (dat d_Lw_asked 219 rfl) rfl rfl ?_
    refine a_iconst (dat d_Lw_asked 220 rfl) (by decide) ?_
    refine a_bipush (dat d_Lw_asked 221 rfl) (by decide) (by decide) ?_
    refine a_inv hG (As := [vI 1, vI 7]) (dat d_Lw_asked 222 rfl) rfl c_Sb_run l_Lw_130 (by decide) rv_0 rfl rfl (Nat.le_of_ble_eq_true rfl) ?_
    refine sp_Sb_run hS.1.1 (fun v1 σ3 h1 F1 => ⟨fun o ho => F1 o (Or.inr (by have := hwo o ho; omega)), ?_⟩)
    have h1 := an_r7 (h1.2 (by decide) (by omega))
    rw [R1.2.1.1, (pN_ok (t := t) (g := pe) (t 7).toNat).2.1 6 (by decide) (by decide), pe_told hT R R1 hC (by omega) (hpe.2.1 (by omega))] at h1
    have hS := hS.tr F1
    show Ax g y_Lw_asked Y (List.range NB ++ [176, 177]) 2 360 384 [vR 0, vR 174, vR 175, vI a, vI (t 6), vI gl, vI pe, vI p, vI ad, vR 177, vI pl, vI k11, vU, vU, vU] [vI v1] σ3
    refine a_iconst (dat d_Lw_asked 223 rfl) (by decide) ?_
    refine a_icmp_ne (tgt := 404) (dat d_Lw_asked 224 rfl) (by decide) (fun c_385 => (by omega)) (fun c_385 => ?_)
    exact j388 _ _ hS hA3
theorem as_5 (hY : AsY Y B) (hG : aG g Y) (hS : LwS σ A t r im) (hT : TRg t) (hp : 0 ≤ p ∧ p < t 6) (hA : A 0 = 2) (h177 : ∀ i : Int, 0 ≤ i → i < 180 → σ 177 i = t i) (hpe : (pe = -1 ∨ (0 ≤ pe ∧ pe < 256)) ∧ (0 ≤ pe → qrF r pe.toNat = true) ∧ (pe < 0 → 2 ≤ (pts (cfg r) (r 6).toNat).2)) (had : (ad = -1 ∨ (0 ≤ ad ∧ ad ≤ 30)) ∧ (0 ≤ ad → stv (mLoaf (cfg r) p 0 ad) = 0)) : Ax g y_Lw_asked Y (List.range NB ++ [176, 177]) 2 360 262 [vR 0, vR 174, vR 175, vI a, vI (t 6), vI gl, vI pe, vI p, vI ad, vR 176, vI pl, vI k11, vU, vU, vU] [vR 177] σ := by
  have hI := aI_175 [176, 177]
  have hI7 : aI (List.range NB ++ [176, 177]) 177 180 := aI_T (by decide) (by decide +kernel)
  have t7 := hT.1.2.2.2.2.2.2.2
  have lp : ∀ (m k : Nat) (σ1 : xS), ((k + m : Nat) : Int) = t 7 → LwS σ1 A t r im → (∀ i : Int, 0 ≤ i → i < 180 → σ1 177 i = pN t pe k i) → Ax g y_Lw_asked Y (List.range NB ++ [176, 177]) 2 360 273 [vR 0, vR 174, vR 175, vI a, vI (t 6), vI gl, vI pe, vI p, vI ad, vR 177, vI pl, vI (k : Int), vU, vU, vU] [] σ1 := by
    intro m
    induction m with
    | zero =>
      intro k σ1 hk hS h7
      refine a_iload (dat d_Lw_asked 156 rfl) rfl ?_
      refine a_aload_n (dat d_Lw_asked 157 rfl) rfl rfl ?_
      refine a_bipush (dat d_Lw_asked 158 rfl) (by decide) (by decide) ?_
      refine a_iald (n := 180) (v := t 7) (dat d_Lw_asked 159 rfl) hI (by omega) (by omega) (by exact hS.2.1 7 (by decide) (by decide)) ?_
      refine a_icmp_ge (tgt := 360) (dat d_Lw_asked 160 rfl) (by decide) (fun c_279 => ?_) (fun c_279 => (by omega))
      exact as_6 hY hG hS hT hp hA (fun i i0 i1 => by rw [show (t 7).toNat = k by omega]; exact h7 i i0 i1) hpe had
    | succ m ih =>
      intro k σ1 hk hS h7
      obtain ⟨c0, -, -⟩ := pN_ok (t := t) (g := pe) k
      have nx : ∀ σ2 : xS, LwS σ2 A t r im → (∀ i : Int, 0 ≤ i → i < 180 → σ2 177 i = pN t pe (k + 1) i) → Ax g y_Lw_asked Y (List.range NB ++ [176, 177]) 2 360 354 [vR 0, vR 174, vR 175, vI a, vI (t 6), vI gl, vI pe, vI p, vI ad, vR 177, vI pl, vI (k : Int), vU, vU, vU] [] σ2 := fun σ2 hS2 h2 => by
        refine a_iinc (v' := ((k + 1 : Nat) : Int)) (L' := [vR 0, vR 174, vR 175, vI a, vI (t 6), vI gl, vI pe, vI p, vI ad, vR 177, vI pl, vI ((k + 1 : Nat) : Int), vU, vU, vU]) (dat d_Lw_asked 208 rfl) rfl (by decide) rfl (by omega) (by omega) rfl ?_
        refine a_goto (tgt := 273) (dat d_Lw_asked 209 rfl) (by decide) ?_
        exact ih (k + 1) _ (by omega) hS2 h2
      have j297 : (pe < 0 ∨ tb pe k = false) → Ax g y_Lw_asked Y (List.range NB ++ [176, 177]) 2 360 297 [vR 0, vR 174, vR 175, vI a, vI (t 6), vI gl, vI pe, vI p, vI ad, vR 177, vI pl, vI (k : Int), vU, vU, vU] [] σ1 := fun hz => by
        have e7 := h7 7 (by decide) (by decide)
        refine a_aload (dat d_Lw_asked 169 rfl) rfl ?_
        refine a_sipush (dat d_Lw_asked 170 rfl) (by decide) (by decide) ?_
        refine a_iconst (dat d_Lw_asked 171 rfl) (by decide) ?_
        refine a_aload (dat d_Lw_asked 172 rfl) rfl ?_
        refine a_bipush (dat d_Lw_asked 173 rfl) (by decide) (by decide) ?_
        refine a_iald (n := 180) (v := pN t pe k 7) (dat d_Lw_asked 174 rfl) hI7 (by omega) (by omega) (by exact e7) ?_
        refine a_imul (v := 2 * (pN t pe k 7)) (dat d_Lw_asked 175 rfl) rfl (by omega) ?_
        refine a_iadd (v := 160 + (2 * (pN t pe k 7))) (dat d_Lw_asked 176 rfl) rfl (by omega) ?_
        refine a_aload_n (dat d_Lw_asked 177 rfl) rfl rfl ?_
        refine a_sipush (dat d_Lw_asked 178 rfl) (by decide) (by decide) ?_
        refine a_iconst (dat d_Lw_asked 179 rfl) (by decide) ?_
        refine a_iload (dat d_Lw_asked 180 rfl) rfl ?_
        refine a_imul (v := 2 * (k : Int)) (dat d_Lw_asked 181 rfl) rfl (by omega) ?_
        refine a_iadd (v := 160 + (2 * (k : Int))) (dat d_Lw_asked 182 rfl) rfl (by omega) ?_
        refine a_iald (n := 180) (v := t (160 + 2 * (k : Int))) (dat d_Lw_asked 183 rfl) hI (by omega) (by omega) (by exact hS.2.1 _ (by omega) (by omega)) ?_
        refine a_iast (n := 180) (dat d_Lw_asked 184 rfl) hI7 (by omega) (by omega) ?_
        refine a_aload (dat d_Lw_asked 185 rfl) rfl ?_
        refine a_sipush (dat d_Lw_asked 186 rfl) (by decide) (by decide) ?_
        refine a_iconst (dat d_Lw_asked 187 rfl) (by decide) ?_
        refine a_aload (dat d_Lw_asked 188 rfl) rfl ?_
        refine a_bipush (dat d_Lw_asked 189 rfl) (by decide) (by decide) ?_
        refine a_iald (n := 180) (v := pN t pe k 7) (dat d_Lw_asked 190 rfl) hI7 (by omega) (by omega) (by exact (up_ni (by omega)).trans e7) ?_
        refine a_imul (v := 2 * (pN t pe k 7)) (dat d_Lw_asked 191 rfl) rfl (by omega) ?_
        refine a_iadd (v := 161 + (2 * (pN t pe k 7))) (dat d_Lw_asked 192 rfl) rfl (by omega) ?_
        refine a_aload_n (dat d_Lw_asked 193 rfl) rfl rfl ?_
        refine a_sipush (dat d_Lw_asked 194 rfl) (by decide) (by decide) ?_
        refine a_iconst (dat d_Lw_asked 195 rfl) (by decide) ?_
        refine a_iload (dat d_Lw_asked 196 rfl) rfl ?_
        refine a_imul (v := 2 * (k : Int)) (dat d_Lw_asked 197 rfl) rfl (by omega) ?_
        refine a_iadd (v := 161 + (2 * (k : Int))) (dat d_Lw_asked 198 rfl) rfl (by omega) ?_
        refine a_iald (n := 180) (v := t (161 + 2 * (k : Int))) (dat d_Lw_asked 199 rfl) hI (by omega) (by omega) (by exact (congrFun (up_ne (by decide)) _).trans (hS.2.1 _ (by omega) (by omega))) ?_
        refine a_iast (n := 180) (dat d_Lw_asked 200 rfl) hI7 (by omega) (by omega) ?_
        refine a_aload (dat d_Lw_asked 201 rfl) rfl ?_
        refine a_bipush (dat d_Lw_asked 202 rfl) (by decide) (by decide) ?_
        refine a_dup2 (dat d_Lw_asked 203 rfl) rfl rfl ?_
        refine a_iald (n := 180) (v := pN t pe k 7) (dat d_Lw_asked 204 rfl) hI7 (by omega) (by omega) (by exact ((up_ni (by omega)).trans (up_ni (by omega))).trans e7) ?_
        refine a_iconst (dat d_Lw_asked 205 rfl) (by decide) ?_
        refine a_iadd (v := (pN t pe k 7) + 1) (dat d_Lw_asked 206 rfl) rfl (by omega) ?_
        refine a_iast (n := 180) (dat d_Lw_asked 207 rfl) hI7 (by omega) (by omega) ?_
        refine nx _ (hS.same (fun o ho => by rw [up_ne (by omega), up_ne (by omega), up_ne (by omega)])) (fun i i0 i1 => ?_)
        rw [up_f, up_f, up_f]
        simp only [pN]
        rw [if_pos hz]
        unfold st1
        rw [h7 i i0 i1]
      refine a_iload (dat d_Lw_asked 156 rfl) rfl ?_
      refine a_aload_n (dat d_Lw_asked 157 rfl) rfl rfl ?_
      refine a_bipush (dat d_Lw_asked 158 rfl) (by decide) (by decide) ?_
      refine a_iald (n := 180) (v := t 7) (dat d_Lw_asked 159 rfl) hI (by omega) (by omega) (by exact hS.2.1 7 (by decide) (by decide)) ?_
      refine a_icmp_ge (tgt := 360) (dat d_Lw_asked 160 rfl) (by decide) (fun c_279 => (by omega)) (fun c_279 => ?_)
      refine a_iload (dat d_Lw_asked 161 rfl) rfl ?_
      refine a_if_lt (tgt := 297) (dat d_Lw_asked 162 rfl) (by decide) (fun c_284 => ?_) (fun c_284 => ?_)
      · first
        | exact j297 (Or.inl (by omega))
        | (refine j297 (Or.inr ?_); cases hz : tb pe (k : Int) with | false => rfl | true => (rw [hz] at hb; exact absurd (hb.symm.trans (by assumption)) (by decide)))
      · refine a_iload (dat d_Lw_asked 163 rfl) rfl ?_
        refine a_iload (dat d_Lw_asked 164 rfl) rfl ?_
        refine a_ishr (v := ishr pe (k : Int)) (dat d_Lw_asked 165 rfl) rfl ?_
        refine a_iconst (dat d_Lw_asked 166 rfl) (by decide) ?_
        refine a_iand (v := iand (ishr pe (k : Int)) 1) (dat d_Lw_asked 167 rfl) rfl ?_
        have hb := tb_get (m := pe) (p := (k : Int)) (by omega) (by omega) (by omega) (by omega)
        refine a_if_ne (tgt := 354) (dat d_Lw_asked 168 rfl) (by decide) (fun c_294 => ?_) (fun c_294 => ?_)
        · refine nx σ1 hS (fun i i0 i1 => ?_)
          simp only [pN]
          rw [if_neg ?_]
          · exact h7 i i0 i1
          · intro w
            rcases w with w | w
            · omega
            · rw [w] at hb
              exact absurd hb (by assumption)
        · first
          | exact j297 (Or.inl (by omega))
          | (refine j297 (Or.inr ?_); cases hz : tb pe (k : Int) with | false => rfl | true => (rw [hz] at hb; exact absurd (hb.symm.trans (by assumption)) (by decide)))
  refine a_astore (L' := [vR 0, vR 174, vR 175, vI a, vI (t 6), vI gl, vI pe, vI p, vI ad, vR 177, vI pl, vI k11, vU, vU, vU]) (dat d_Lw_asked 149 rfl) (by decide) rfl rfl ?_
  refine a_aload (dat d_Lw_asked 150 rfl) rfl ?_
  refine a_bipush (dat d_Lw_asked 151 rfl) (by decide) (by decide) ?_
  refine a_iconst (dat d_Lw_asked 152 rfl) (by decide) ?_
  refine a_iast (n := 180) (dat d_Lw_asked 153 rfl) hI7 (by omega) (by omega) ?_
  refine a_iconst (dat d_Lw_asked 154 rfl) (by decide) ?_
  refine a_istore (L' := [vR 0, vR 174, vR 175, vI a, vI (t 6), vI gl, vI pe, vI p, vI ad, vR 177, vI pl, vI 0, vU, vU, vU]) (dat d_Lw_asked 155 rfl) (by decide) rfl rfl ?_
  refine lp (t 7).toNat 0 _ (by omega) (hS.same (fun o ho => up_ne (by omega))) (fun i i0 i1 => ?_)
  rw [up_f]
  show st1 (σ 177) 7 0 i = st1 t 7 0 i
  unfold st1
  rw [h177 i i0 i1]
theorem as_258 (hY : AsY Y B) (hG : aG g Y) (hS : LwS σ A t r im) (hT : TRg t) (hp : 0 ≤ p ∧ p < t 6) (hA : A 0 = 2) (hpe : (pe = -1 ∨ (0 ≤ pe ∧ pe < 256)) ∧ (0 ≤ pe → qrF r pe.toNat = true) ∧ (pe < 0 → 2 ≤ (pts (cfg r) (r 6).toNat).2)) (had : (ad = -1 ∨ (0 ≤ ad ∧ ad ≤ 30)) ∧ (0 ≤ ad → stv (mLoaf (cfg r) p 0 ad) = 0)) : Ax g y_Lw_asked Y (List.range NB ++ [176]) 1 180 258 [vR 0, vR 174, vR 175, vI a, vI (t 6), vI gl, vI pe, vI p, vI ad, vR 176, vI pl, vI k11, vU, vU, vU] [] σ := by
  refine a_okS (fun ho => ?_)
  refine a_aload_n (dat d_Lw_asked 147 rfl) rfl rfl ?_
  refine a_copy (k := 177) hG (by decide +kernel) hY.1 hY.2.2.2 (fun o ho => (tT1 o ho).2.2) (dat d_Lw_asked 148 rfl) rfl l_Lw_161 (by decide) (Nat.le_of_ble_eq_true rfl) (by rw [hY.2.1]; exact ⟨Nat.le_of_ble_eq_true rfl, Nat.le_of_ble_eq_true rfl⟩) (fun i => (ho 175 i).1) rfl rfl (fun q9 f9 hf9 hG9 => ?_)
  exact as_5 hY hG9 (hS.same (fun o ho => by funext i; exact if_neg (by omega))) hT hp hA (fun i i0 i1 => by rw [← hS.2.1 i i0 i1]; exact (if_pos rfl).trans (hf9 i i0 i1)) hpe had
theorem as_4 (hY : AsY Y B) (hG : aG g Y) (hS : LwS σ A t r im) (hT : TRg t) (hp : 0 ≤ p ∧ p < t 6) (hA : A 0 = 1) (h176 : ∀ i : Int, 0 ≤ i → i < 180 → σ 176 i = thG t gl i) (hgl : (gl = -1 ∨ (0 ≤ gl ∧ gl < 256)) ∧ (0 ≤ gl → glF r gl.toNat = true) ∧ (gl = 0 ↔ stv (cfg r) = 0)) (hpl : (pl = 0 ∨ pl = 1) ∧ (pl = 1 → 0 < gl → ∀ q : Int, 0 ≤ q → q < t 6 → tb gl q = true → t (10 + 4 * q) = 0 ∨ t (10 + 4 * q) = 3)) (hpe : (pe = -1 ∨ (0 ≤ pe ∧ pe < 256)) ∧ (0 ≤ pe → qrF r pe.toNat = true) ∧ (pe < 0 → 2 ≤ (pts (cfg r) (r 6).toNat).2)) (had : ((ad = -1 ∨ (0 ≤ ad ∧ ad ≤ 30)) ∧ (0 ≤ ad → stv (mLoaf (cfg r) p 0 ad) = 0)) ∧ (ad = 0 → stv (cfg r) = 0)) : Ax g y_Lw_asked Y (List.range NB ++ [176]) 1 180 184 [vR 0, vR 174, vR 175, vI a, vI (t 6), vI gl, vI pe, vI p, vI ad, vR 176, vI pl, vI k11, vU, vU, vU] [] σ := by
  have hC := cfg_ok hS.ok
  have R := hS.2.2.1.2
  have hwo : ∀ o ∈ [176], 173 < o := by decide
  have j242 : ∀ (σ1 : xS) (A1 : Int → Int), LwS σ1 A1 t r im → A1 0 = 2 → Ax g y_Lw_asked Y (List.range NB ++ [176]) 1 180 242 [vR 0, vR 174, vR 175, vI a, vI (t 6), vI gl, vI pe, vI p, vI ad, vR 176, vI pl, vI k11, vU, vU, vU] [] σ1 := fun σ1 A1 hS hA => by
    refine a_iload (dat d_Lw_asked 138 rfl) rfl ?_
    refine a_if_ne (tgt := 258) (dat d_Lw_asked 139 rfl) (by decide) (fun c_244 => ?_) (fun c_244 => ?_)
    · exact as_258 hY hG hS hT hp hA hpe had.1
    · refine a_aload_n (dat d_Lw_asked 140 rfl) rfl rfl ?_
      refine a_iconst (dat d_Lw_asked 141 rfl) (by decide) ?_
      refine a_iconst (dat d_Lw_asked 142 rfl) (by decide) ?_
      refine a_inv hG (As := [vI 0, vI 0]) (dat d_Lw_asked 143 rfl) rfl c_Sb_run l_Lw_130 (by decide) rv_0 rfl rfl (Nat.le_of_ble_eq_true rfl) ?_
      refine sp_Sb_run hS.1.1 (fun v1 σ2 h1 F1 => ⟨fun o ho => F1 o (Or.inr (by have := hwo o ho; omega)), ?_⟩)
      have h1 := an_r0 (hS.at0 h1)
      have h2 := had.2 (by omega)
      have hS := hS.tr F1
      show Ax g y_Lw_asked Y (List.range NB ++ [176]) 1 180 253 [vR 0, vR 174, vR 175, vI a, vI (t 6), vI gl, vI pe, vI p, vI ad, vR 176, vI pl, vI k11, vU, vU, vU] [vI v1] σ2
      refine a_if_eq (tgt := 258) (dat d_Lw_asked 144 rfl) (by decide) (fun c_253 => ?_) (fun c_253 => (by omega))
      exact as_258 hY hG hS hT hp hA hpe had.1
  have j215 : ∀ (σ1 : xS) (A1 : Int → Int), LwS σ1 A1 t r im → A1 0 = 2 → Ax g y_Lw_asked Y (List.range NB ++ [176]) 1 180 215 [vR 0, vR 174, vR 175, vI a, vI (t 6), vI gl, vI pe, vI p, vI ad, vR 176, vI pl, vI k11, vU, vU, vU] [] σ1 := fun σ1 A1 hS hA => by
    have hi := hgl.2.2
    refine a_iload (dat d_Lw_asked 124 rfl) rfl ?_
    refine a_if_ne (tgt := 224) (dat d_Lw_asked 125 rfl) (by decide) (fun c_217 => ?_) (fun c_217 => ?_)
    · refine a_iconst (dat d_Lw_asked 128 rfl) (by decide) ?_
      refine a_aload_n (dat d_Lw_asked 129 rfl) rfl rfl ?_
      refine a_iconst (dat d_Lw_asked 130 rfl) (by decide) ?_
      refine a_iconst (dat d_Lw_asked 131 rfl) (by decide) ?_
      refine a_inv hG (As := [vI 0, vI 0]) (dat d_Lw_asked 132 rfl) rfl c_Sb_run l_Lw_130 (by decide) rv_0 rfl rfl (Nat.le_of_ble_eq_true rfl) ?_
      refine sp_Sb_run hS.1.1 (fun v1 σ2 h1 F1 => ⟨fun o ho => F1 o (Or.inr (by have := hwo o ho; omega)), ?_⟩)
      have h1 := an_r0 (hS.at0 h1)
      have hS := hS.tr F1
      show Ax g y_Lw_asked Y (List.range NB ++ [176]) 1 180 231 [vR 0, vR 174, vR 175, vI a, vI (t 6), vI gl, vI pe, vI p, vI ad, vR 176, vI pl, vI k11, vU, vU, vU] [vI v1, vI 0] σ2
      refine a_if_ne (tgt := 238) (dat d_Lw_asked 133 rfl) (by decide) (fun c_231 => ?_) (fun c_231 => ?_)
      · refine a_iconst (dat d_Lw_asked 136 rfl) (by decide) ?_
        refine a_icmp_ne (tgt := 256) (dat d_Lw_asked 137 rfl) (by decide) (fun h => absurd h (by decide)) (fun c_239 => ?_)
        exact j242 _ _ hS hA
      · refine a_iconst (dat d_Lw_asked 134 rfl) (by decide) ?_
        refine a_goto (tgt := 239) (dat d_Lw_asked 135 rfl) (by decide) ?_
        refine a_icmp_ne (tgt := 256) (dat d_Lw_asked 137 rfl) (by decide) (fun c_239 => ?_) (fun h => absurd h (by decide))
        exfalso
        omega
    · refine a_iconst (dat d_Lw_asked 126 rfl) (by decide) ?_
      refine a_goto (tgt := 225) (dat d_Lw_asked 127 rfl) (by decide) ?_
      refine a_aload_n (dat d_Lw_asked 129 rfl) rfl rfl ?_
      refine a_iconst (dat d_Lw_asked 130 rfl) (by decide) ?_
      refine a_iconst (dat d_Lw_asked 131 rfl) (by decide) ?_
      refine a_inv hG (As := [vI 0, vI 0]) (dat d_Lw_asked 132 rfl) rfl c_Sb_run l_Lw_130 (by decide) rv_0 rfl rfl (Nat.le_of_ble_eq_true rfl) ?_
      refine sp_Sb_run hS.1.1 (fun v1 σ2 h1 F1 => ⟨fun o ho => F1 o (Or.inr (by have := hwo o ho; omega)), ?_⟩)
      have h1 := an_r0 (hS.at0 h1)
      have hS := hS.tr F1
      show Ax g y_Lw_asked Y (List.range NB ++ [176]) 1 180 231 [vR 0, vR 174, vR 175, vI a, vI (t 6), vI gl, vI pe, vI p, vI ad, vR 176, vI pl, vI k11, vU, vU, vU] [vI v1, vI 1] σ2
      refine a_if_ne (tgt := 238) (dat d_Lw_asked 133 rfl) (by decide) (fun c_231 => ?_) (fun c_231 => ?_)
      · refine a_iconst (dat d_Lw_asked 136 rfl) (by decide) ?_
        refine a_icmp_ne (tgt := 256) (dat d_Lw_asked 137 rfl) (by decide) (fun c_239 => ?_) (fun h => absurd h (by decide))
        exfalso
        omega
      · refine a_iconst (dat d_Lw_asked 134 rfl) (by decide) ?_
        refine a_goto (tgt := 239) (dat d_Lw_asked 135 rfl) (by decide) ?_
        refine a_icmp_ne (tgt := 256) (dat d_Lw_asked 137 rfl) (by decide) (fun h => absurd h (by decide)) (fun c_239 => ?_)
        exact j242 _ _ hS hA
  refine a_aload_n (dat d_Lw_asked 108 rfl) rfl rfl ?_
  refine a_aload_n (dat d_Lw_asked 109 rfl) rfl rfl ?_
  refine a_aload (dat d_Lw_asked 110 rfl) rfl ?_
  refine a_iconst (dat d_Lw_asked 111 rfl) (by decide) ?_
  refine a_iconst (dat d_Lw_asked 112 rfl) (by decide) ?_
  refine a_town (kT := 176) (t1 := thG t gl) hG (by decide) (by decide +kernel) tT1 (dat d_Lw_asked 113 rfl) rfl l_Lw_114 (by decide) (Nat.le_of_ble_eq_true rfl) hS.1.pts (thG_rg hT) h176 (nfT_m hA (by decide)) (by decide) (fun σ2 A2 p2 n2 e2 _ => ?_)
  obtain ⟨A3, hS, hA3, R1⟩ := hS.nw p2 n2 e2
  show Ax g y_Lw_asked Y (List.range NB ++ [176]) 1 180 193 [vR 0, vR 174, vR 175, vI a, vI (t 6), vI gl, vI pe, vI p, vI ad, vR 176, vI pl, vI k11, vU, vU, vU] [vI 1] σ2
  refine a_if_eq (tgt := 256) (dat d_Lw_asked 114 rfl) (by decide) (fun h => absurd h (by decide)) (fun c_193 => ?_)
  refine a_iload (dat d_Lw_asked 115 rfl) rfl ?_
  refine a_if_lt (tgt := 215) (dat d_Lw_asked 116 rfl) (by decide) (fun c_198 => ?_) (fun c_198 => ?_)
  · exact j215 _ _ hS hA3
  · refine a_iload (dat d_Lw_asked 117 rfl) rfl ?_
    refine a_if_eq (tgt := 215) (dat d_Lw_asked 118 rfl) (by decide) (fun c_203 => ?_) (fun c_203 => ?_)
    · exact j215 _ _ hS hA3
    · refine a_aload_n (dat d_Lw_asked 119 rfl) rfl rfl ?_
      refine a_iconst (dat d_Lw_asked 120 rfl) (by decide) ?_
      refine a_iconst (dat d_Lw_asked 121 rfl) (by decide) ?_
      refine a_inv hG (As := [vI 1, vI 0]) (dat d_Lw_asked 122 rfl) rfl c_Sb_run l_Lw_130 (by decide) rv_0 rfl rfl (Nat.le_of_ble_eq_true rfl) ?_
      refine sp_Sb_run hS.1.1 (fun v1 σ3 h1 F1 => ⟨fun o ho => F1 o (Or.inr (by have := hwo o ho; omega)), ?_⟩)
      have h1 := an_r0 (h1.2 (by decide) (by omega))
      rw [gl_told hT R R1 hC (by omega) (hpl.2 (by omega)) (hgl.2.1 (by omega))] at h1
      have hS := hS.tr F1
      show Ax g y_Lw_asked Y (List.range NB ++ [176]) 1 180 212 [vR 0, vR 174, vR 175, vI a, vI (t 6), vI gl, vI pe, vI p, vI ad, vR 176, vI pl, vI k11, vU, vU, vU] [vI v1] σ3
      refine a_if_ne (tgt := 256) (dat d_Lw_asked 123 rfl) (by decide) (fun c_212 => (by omega)) (fun c_212 => ?_)
      exact j215 _ _ hS hA3
/-- are all those plain, or gloved, who are to have gloves -/
theorem as_3 (hY : AsY Y B) (hG : aG g Y) (hS : LwS σ A t r im) (hT : TRg t) (hp : 0 ≤ p ∧ p < t 6) (hA : A 0 = 1) (h176 : ∀ i : Int, 0 ≤ i → i < 180 → σ 176 i = thG t gl i) (hgl : (gl = -1 ∨ (0 ≤ gl ∧ gl < 256)) ∧ (0 ≤ gl → glF r gl.toNat = true) ∧ (gl = 0 ↔ stv (cfg r) = 0)) (hpe : (pe = -1 ∨ (0 ≤ pe ∧ pe < 256)) ∧ (0 ≤ pe → qrF r pe.toNat = true) ∧ (pe < 0 → 2 ≤ (pts (cfg r) (r 6).toNat).2)) (had : ((ad = -1 ∨ (0 ≤ ad ∧ ad ≤ 30)) ∧ (0 ≤ ad → stv (mLoaf (cfg r) p 0 ad) = 0)) ∧ (ad = 0 → stv (cfg r) = 0)) : ∀ (m k : Nat) (pl : Int), ((k + m : Nat) : Int) = t 6 → (pl = 0 ∨ pl = 1) → (pl = 1 → 0 < gl → ∀ q : Int, 0 ≤ q → q < k → tb gl q = true → t (10 + 4 * q) = 0 ∨ t (10 + 4 * q) = 3) → Ax g y_Lw_asked Y (List.range NB ++ [176]) 1 180 119 [vR 0, vR 174, vR 175, vI a, vI (t 6), vI gl, vI pe, vI p, vI ad, vR 176, vI pl, vI (k : Int), vU, vU, vU] [] σ := by
  have hI := aI_175 [176]
  have t6 := hT.1.2.2.2.2.2.2.1
  intro m
  induction m with
  | zero =>
    intro k pl hk hpl hq
    refine a_iload (dat d_Lw_asked 72 rfl) rfl ?_
    refine a_iload (dat d_Lw_asked 73 rfl) rfl ?_
    refine a_icmp_ge (tgt := 184) (dat d_Lw_asked 74 rfl) (by decide) (fun c_123 => ?_) (fun c_123 => (by omega))
    exact as_4 hY hG hS hT hp hA h176 hgl ⟨hpl, fun h1 h2 q q0 q1 h3 => hq h1 h2 q q0 (by omega) h3⟩ hpe had
  | succ m ih =>
    intro k pl hk hpl hq
    have em : σ 175 (10 + 4 * (k : Int)) = t (10 + 4 * (k : Int)) := hS.2.1 _ (by omega) (by omega)
    have j176 : ∀ v : Int, 0 < gl → (v = 0 ∨ v = 1) → (v = 1 → pl = 1 ∧ (tb gl k = true → t (10 + 4 * (k : Int)) = 0 ∨ t (10 + 4 * (k : Int)) = 3)) → Ax g y_Lw_asked Y (List.range NB ++ [176]) 1 180 176 [vR 0, vR 174, vR 175, vI a, vI (t 6), vI gl, vI pe, vI p, vI ad, vR 176, vI pl, vI (k : Int), vU, vU, vU] [vI v] σ := fun v hgp hv hv1 => by
      refine a_istore (L' := [vR 0, vR 174, vR 175, vI a, vI (t 6), vI gl, vI pe, vI p, vI ad, vR 176, vI v, vI (k : Int), vU, vU, vU]) (dat d_Lw_asked 105 rfl) (by decide) rfl rfl ?_
      refine a_iinc (v' := ((k + 1 : Nat) : Int)) (L' := [vR 0, vR 174, vR 175, vI a, vI (t 6), vI gl, vI pe, vI p, vI ad, vR 176, vI v, vI ((k + 1 : Nat) : Int), vU, vU, vU]) (dat d_Lw_asked 106 rfl) rfl (by decide) rfl (by omega) (by omega) rfl ?_
      refine a_goto (tgt := 119) (dat d_Lw_asked 107 rfl) (by decide) ?_
      refine ih (k + 1) _ (by omega) hv (fun h1 h2 q q0 q1 h3 => ?_)
      by_cases z : q = k
      · rw [z] at h3 ⊢
        exact (hv1 h1).2 h3
      · exact hq (hv1 h1).1 h2 q q0 (by omega) h3
    refine a_iload (dat d_Lw_asked 72 rfl) rfl ?_
    refine a_iload (dat d_Lw_asked 73 rfl) rfl ?_
    refine a_icmp_ge (tgt := 184) (dat d_Lw_asked 74 rfl) (by decide) (fun c_123 => (by omega)) (fun c_123 => ?_)
    refine a_iload (dat d_Lw_asked 75 rfl) rfl ?_
    refine a_if_le (tgt := 184) (dat d_Lw_asked 76 rfl) (by decide) (fun c_128 => ?_) (fun c_128 => ?_)
    · exact as_4 hY hG hS hT hp hA h176 hgl ⟨hpl, fun h1 h2 => by omega⟩ hpe had
    · have hb := tb_get (m := gl) (p := (k : Int)) (by omega) (by omega) (by omega) (by omega)
      refine a_iload (dat d_Lw_asked 77 rfl) rfl ?_
      refine a_if_eq (tgt := 175) (dat d_Lw_asked 78 rfl) (by decide) (fun c_133 => ?_) (fun c_133 => ?_)
      · refine a_iconst (dat d_Lw_asked 104 rfl) (by decide) ?_
        first
        | exact j176 0 (by omega) (Or.inl rfl) (fun h => absurd h (by decide))
        | (refine j176 1 (by omega) (Or.inr rfl) (fun _ => ⟨by omega, fun hz => ?_⟩); rw [hz] at hb; simp only [if_true] at hb; omega)
      · refine a_iload (dat d_Lw_asked 79 rfl) rfl ?_
        refine a_iload (dat d_Lw_asked 80 rfl) rfl ?_
        refine a_ishr (v := ishr gl (k : Int)) (dat d_Lw_asked 81 rfl) rfl ?_
        refine a_iconst (dat d_Lw_asked 82 rfl) (by decide) ?_
        refine a_iand (v := iand (ishr gl (k : Int)) 1) (dat d_Lw_asked 83 rfl) rfl ?_
        refine a_if_eq (tgt := 171) (dat d_Lw_asked 84 rfl) (by decide) (fun c_143 => ?_) (fun c_143 => ?_)
        · refine a_iconst (dat d_Lw_asked 102 rfl) (by decide) ?_
          refine a_goto (tgt := 176) (dat d_Lw_asked 103 rfl) (by decide) ?_
          first
          | exact j176 0 (by omega) (Or.inl rfl) (fun h => absurd h (by decide))
          | (refine j176 1 (by omega) (Or.inr rfl) (fun _ => ⟨by omega, fun hz => ?_⟩); rw [hz] at hb; simp only [if_true] at hb; omega)
        · refine a_aload_n (dat d_Lw_asked 85 rfl) rfl rfl ?_
          refine a_bipush (dat d_Lw_asked 86 rfl) (by decide) (by decide) ?_
          refine a_iconst (dat d_Lw_asked 87 rfl) (by decide) ?_
          refine a_iload (dat d_Lw_asked 88 rfl) rfl ?_
          refine a_imul (v := 4 * (k : Int)) (dat d_Lw_asked 89 rfl) rfl (by omega) ?_
          refine a_iadd (v := 10 + (4 * (k : Int))) (dat d_Lw_asked 90 rfl) rfl (by omega) ?_
          refine a_iald (n := 180) (v := t (10 + 4 * (k : Int))) (dat d_Lw_asked 91 rfl) hI (by omega) (by omega) (by exact em) ?_
          refine a_if_eq (tgt := 171) (dat d_Lw_asked 92 rfl) (by decide) (fun c_155 => ?_) (fun c_155 => ?_)
          · refine a_iconst (dat d_Lw_asked 102 rfl) (by decide) ?_
            refine a_goto (tgt := 176) (dat d_Lw_asked 103 rfl) (by decide) ?_
            first
            | exact j176 0 (by omega) (Or.inl rfl) (fun h => absurd h (by decide))
            | (refine j176 1 (by omega) (Or.inr rfl) (fun _ => ⟨by omega, fun hz => ?_⟩); rw [hz] at hb; simp only [if_true] at hb; omega)
          · refine a_aload_n (dat d_Lw_asked 93 rfl) rfl rfl ?_
            refine a_bipush (dat d_Lw_asked 94 rfl) (by decide) (by decide) ?_
            refine a_iconst (dat d_Lw_asked 95 rfl) (by decide) ?_
            refine a_iload (dat d_Lw_asked 96 rfl) rfl ?_
            refine a_imul (v := 4 * (k : Int)) (dat d_Lw_asked 97 rfl) rfl (by omega) ?_
            refine a_iadd (v := 10 + (4 * (k : Int))) (dat d_Lw_asked 98 rfl) rfl (by omega) ?_
            refine a_iald (n := 180) (v := t (10 + 4 * (k : Int))) (dat d_Lw_asked 99 rfl) hI (by omega) (by omega) (by exact em) ?_
            refine a_iconst (dat d_Lw_asked 100 rfl) (by decide) ?_
            refine a_icmp_ne (tgt := 175) (dat d_Lw_asked 101 rfl) (by decide) (fun c_168 => ?_) (fun c_168 => ?_)
            · refine a_iconst (dat d_Lw_asked 104 rfl) (by decide) ?_
              first
              | exact j176 0 (by omega) (Or.inl rfl) (fun h => absurd h (by decide))
              | (refine j176 1 (by omega) (Or.inr rfl) (fun _ => ⟨by omega, fun hz => ?_⟩); rw [hz] at hb; simp only [if_true] at hb; omega)
            · refine a_iconst (dat d_Lw_asked 102 rfl) (by decide) ?_
              refine a_goto (tgt := 176) (dat d_Lw_asked 103 rfl) (by decide) ?_
              first
              | exact j176 0 (by omega) (Or.inl rfl) (fun h => absurd h (by decide))
              | (refine j176 1 (by omega) (Or.inr rfl) (fun _ => ⟨by omega, fun hz => ?_⟩); rw [hz] at hb; simp only [if_true] at hb; omega)
theorem thG_k {t : Int → Int} {gl : Int} {k : Nat} {i : Int} (h : ¬ (10 ≤ i ∧ i < 10 + 4 * (k : Int) ∧ (i - 10) % 4 = 0)) (e : (k : Int) = t 6) : thG t gl i = t i := thG_o (by omega)
/-- who is to have gloves has them in the copy -/
theorem as_2 (hY : AsY Y B) (hG : aG g Y) (hS : LwS σ A t r im) (hT : TRg t) (hp : 0 ≤ p ∧ p < t 6) (hA : A 0 = 1) (h176 : ∀ i : Int, 0 ≤ i → i < 180 → σ 176 i = t i) (hgl : (gl = -1 ∨ (0 ≤ gl ∧ gl < 256)) ∧ (0 ≤ gl → glF r gl.toNat = true) ∧ (gl = 0 ↔ stv (cfg r) = 0)) (hpe : (pe = -1 ∨ (0 ≤ pe ∧ pe < 256)) ∧ (0 ≤ pe → qrF r pe.toNat = true) ∧ (pe < 0 → 2 ≤ (pts (cfg r) (r 6).toNat).2)) (had : ((ad = -1 ∨ (0 ≤ ad ∧ ad ≤ 30)) ∧ (0 ≤ ad → stv (mLoaf (cfg r) p 0 ad) = 0)) ∧ (ad = 0 → stv (cfg r) = 0)) : Ax g y_Lw_asked Y (List.range NB ++ [176]) 1 180 44 [vR 0, vR 174, vR 175, vI a, vI (t 6), vI gl, vI pe, vI p, vI ad, vU, vU, vU, vU, vU, vU] [vR 176] σ := by
  have hI := aI_175 [176]
  have hI6 : aI (List.range NB ++ [176]) 176 180 := aI_T (by decide) (by decide +kernel)
  have t6 := hT.1.2.2.2.2.2.2.1
  have lp : ∀ (m k : Nat) (σ1 : xS), ((k + m : Nat) : Int) = t 6 → LwS σ1 A t r im → (∀ i : Int, 0 ≤ i → i < 180 → σ1 176 i = if 10 ≤ i ∧ i < 10 + 4 * (k : Int) ∧ (i - 10) % 4 = 0 then thG t gl i else t i) → Ax g y_Lw_asked Y (List.range NB ++ [176]) 1 180 49 [vR 0, vR 174, vR 175, vI a, vI (t 6), vI gl, vI pe, vI p, vI ad, vR 176, vI (k : Int), vU, vU, vU, vU] [] σ1 := by
    intro m
    induction m with
    | zero =>
      intro k σ1 hk hS h6
      refine a_iload (dat d_Lw_asked 30 rfl) rfl ?_
      refine a_iload (dat d_Lw_asked 31 rfl) rfl ?_
      refine a_icmp_ge (tgt := 113) (dat d_Lw_asked 32 rfl) (by decide) (fun c_53 => ?_) (fun c_53 => (by omega))
      refine a_iconst (dat d_Lw_asked 68 rfl) (by decide) ?_
      refine a_istore (L' := [vR 0, vR 174, vR 175, vI a, vI (t 6), vI gl, vI pe, vI p, vI ad, vR 176, vI 1, vU, vU, vU, vU]) (dat d_Lw_asked 69 rfl) (by decide) rfl rfl ?_
      refine a_iconst (dat d_Lw_asked 70 rfl) (by decide) ?_
      refine a_istore (L' := [vR 0, vR 174, vR 175, vI a, vI (t 6), vI gl, vI pe, vI p, vI ad, vR 176, vI 1, vI 0, vU, vU, vU]) (dat d_Lw_asked 71 rfl) (by decide) rfl rfl ?_
      refine as_3 hY hG hS hT hp hA (fun i i0 i1 => ?_) hgl hpe had (t 6).toNat 0 1 (by omega) (Or.inr rfl) (fun _ _ q q0 q1 => by omega)
      rw [h6 i i0 i1]
      split
      · rfl
      · rename_i w
        exact (thG_k w (by omega)).symm
    | succ m ih =>
      intro k σ1 hk hS h6
      have em : σ1 175 (10 + 4 * (k : Int)) = t (10 + 4 * (k : Int)) := hS.2.1 _ (by omega) (by omega)
      have j106 : ∀ v : Int, v = thG t gl (10 + 4 * (k : Int)) → Ax g y_Lw_asked Y (List.range NB ++ [176]) 1 180 106 [vR 0, vR 174, vR 175, vI a, vI (t 6), vI gl, vI pe, vI p, vI ad, vR 176, vI (k : Int), vU, vU, vU, vU] [vI v, vI (10 + (4 * (k : Int))), vR 176] σ1 := fun v hv => by
        refine a_iast (n := 180) (dat d_Lw_asked 65 rfl) hI6 (by omega) (by omega) ?_
        refine a_iinc (v' := ((k + 1 : Nat) : Int)) (L' := [vR 0, vR 174, vR 175, vI a, vI (t 6), vI gl, vI pe, vI p, vI ad, vR 176, vI ((k + 1 : Nat) : Int), vU, vU, vU, vU]) (dat d_Lw_asked 66 rfl) rfl (by decide) rfl (by omega) (by omega) rfl ?_
        refine a_goto (tgt := 49) (dat d_Lw_asked 67 rfl) (by decide) ?_
        refine ih (k + 1) _ (by omega) (hS.same (fun o ho => up_ne (by omega))) (fun i i0 i1 => ?_)
        rw [up_f]
        by_cases z : i = 10 + (4 * (k : Int))
        · rw [z, st1_s, if_pos (by omega)]
          exact hv
        · rw [st1_n z, h6 i i0 i1]
          by_cases y : 10 ≤ i ∧ i < 10 + 4 * (k : Int) ∧ (i - 10) % 4 = 0
          · rw [if_pos y, if_pos (by omega)]
          · rw [if_neg y, if_neg (by omega)]
      refine a_iload (dat d_Lw_asked 30 rfl) rfl ?_
      refine a_iload (dat d_Lw_asked 31 rfl) rfl ?_
      refine a_icmp_ge (tgt := 113) (dat d_Lw_asked 32 rfl) (by decide) (fun c_53 => (by omega)) (fun c_53 => ?_)
      refine a_aload (dat d_Lw_asked 33 rfl) rfl ?_
      refine a_bipush (dat d_Lw_asked 34 rfl) (by decide) (by decide) ?_
      refine a_iconst (dat d_Lw_asked 35 rfl) (by decide) ?_
      refine a_iload (dat d_Lw_asked 36 rfl) rfl ?_
      refine a_imul (v := 4 * (k : Int)) (dat d_Lw_asked 37 rfl) rfl (by omega) ?_
      refine a_iadd (v := 10 + (4 * (k : Int))) (dat d_Lw_asked 38 rfl) rfl (by omega) ?_
      refine a_iload (dat d_Lw_asked 39 rfl) rfl ?_
      refine a_if_le (tgt := 97) (dat d_Lw_asked 40 rfl) (by decide) (fun c_67 => ?_) (fun c_67 => ?_)
      · refine a_aload_n (dat d_Lw_asked 58 rfl) rfl rfl ?_
        refine a_bipush (dat d_Lw_asked 59 rfl) (by decide) (by decide) ?_
        refine a_iconst (dat d_Lw_asked 60 rfl) (by decide) ?_
        refine a_iload (dat d_Lw_asked 61 rfl) rfl ?_
        refine a_imul (v := 4 * (k : Int)) (dat d_Lw_asked 62 rfl) rfl (by omega) ?_
        refine a_iadd (v := 10 + (4 * (k : Int))) (dat d_Lw_asked 63 rfl) rfl (by omega) ?_
        refine a_iald (n := 180) (v := t (10 + 4 * (k : Int))) (dat d_Lw_asked 64 rfl) hI (by omega) (by omega) (by exact em) ?_
        refine j106 _ ?_
        rw [thG_m (by omega) (by omega)]
        first
        | (rw [if_neg (fun w => by omega)])
        | (cases hz : tb gl (k : Int) with
          | false =>
            rw [hz] at hb
            simp only [Bool.false_eq_true, if_false] at hb
            first
            | (exfalso; omega)
            | (rw [if_neg (fun w => Bool.noConfusion w.2.1)])
          | true =>
            rw [hz] at hb
            simp only [if_true] at hb
            first
            | (exfalso; omega)
            | (rw [if_pos ⟨by omega, rfl, by omega⟩])
            | (rw [if_neg (fun w => by omega)]))
      · have hb := tb_get (m := gl) (p := (k : Int)) (by omega) (by omega) (by omega) (by omega)
        refine a_iload (dat d_Lw_asked 41 rfl) rfl ?_
        refine a_iload (dat d_Lw_asked 42 rfl) rfl ?_
        refine a_ishr (v := ishr gl (k : Int)) (dat d_Lw_asked 43 rfl) rfl ?_
        refine a_iconst (dat d_Lw_asked 44 rfl) (by decide) ?_
        refine a_iand (v := iand (ishr gl (k : Int)) 1) (dat d_Lw_asked 45 rfl) rfl ?_
        refine a_iconst (dat d_Lw_asked 46 rfl) (by decide) ?_
        refine a_icmp_ne (tgt := 97) (dat d_Lw_asked 47 rfl) (by decide) (fun c_78 => ?_) (fun c_78 => ?_)
        · refine a_aload_n (dat d_Lw_asked 58 rfl) rfl rfl ?_
          refine a_bipush (dat d_Lw_asked 59 rfl) (by decide) (by decide) ?_
          refine a_iconst (dat d_Lw_asked 60 rfl) (by decide) ?_
          refine a_iload (dat d_Lw_asked 61 rfl) rfl ?_
          refine a_imul (v := 4 * (k : Int)) (dat d_Lw_asked 62 rfl) rfl (by omega) ?_
          refine a_iadd (v := 10 + (4 * (k : Int))) (dat d_Lw_asked 63 rfl) rfl (by omega) ?_
          refine a_iald (n := 180) (v := t (10 + 4 * (k : Int))) (dat d_Lw_asked 64 rfl) hI (by omega) (by omega) (by exact em) ?_
          refine j106 _ ?_
          rw [thG_m (by omega) (by omega)]
          first
          | (rw [if_neg (fun w => by omega)])
          | (cases hz : tb gl (k : Int) with
            | false =>
              rw [hz] at hb
              simp only [Bool.false_eq_true, if_false] at hb
              first
              | (exfalso; omega)
              | (rw [if_neg (fun w => Bool.noConfusion w.2.1)])
            | true =>
              rw [hz] at hb
              simp only [if_true] at hb
              first
              | (exfalso; omega)
              | (rw [if_pos ⟨by omega, rfl, by omega⟩])
              | (rw [if_neg (fun w => by omega)]))
        · refine a_aload_n (dat d_Lw_asked 48 rfl) rfl rfl ?_
          refine a_bipush (dat d_Lw_asked 49 rfl) (by decide) (by decide) ?_
          refine a_iconst (dat d_Lw_asked 50 rfl) (by decide) ?_
          refine a_iload (dat d_Lw_asked 51 rfl) rfl ?_
          refine a_imul (v := 4 * (k : Int)) (dat d_Lw_asked 52 rfl) rfl (by omega) ?_
          refine a_iadd (v := 10 + (4 * (k : Int))) (dat d_Lw_asked 53 rfl) rfl (by omega) ?_
          refine a_iald (n := 180) (v := t (10 + 4 * (k : Int))) (dat d_Lw_asked 54 rfl) hI (by omega) (by omega) (by exact em) ?_
          refine a_if_ne (tgt := 97) (dat d_Lw_asked 55 rfl) (by decide) (fun c_90 => ?_) (fun c_90 => ?_)
          · refine a_aload_n (dat d_Lw_asked 58 rfl) rfl rfl ?_
            refine a_bipush (dat d_Lw_asked 59 rfl) (by decide) (by decide) ?_
            refine a_iconst (dat d_Lw_asked 60 rfl) (by decide) ?_
            refine a_iload (dat d_Lw_asked 61 rfl) rfl ?_
            refine a_imul (v := 4 * (k : Int)) (dat d_Lw_asked 62 rfl) rfl (by omega) ?_
            refine a_iadd (v := 10 + (4 * (k : Int))) (dat d_Lw_asked 63 rfl) rfl (by omega) ?_
            refine a_iald (n := 180) (v := t (10 + 4 * (k : Int))) (dat d_Lw_asked 64 rfl) hI (by omega) (by omega) (by exact em) ?_
            refine j106 _ ?_
            rw [thG_m (by omega) (by omega)]
            first
            | (rw [if_neg (fun w => by omega)])
            | (cases hz : tb gl (k : Int) with
              | false =>
                rw [hz] at hb
                simp only [Bool.false_eq_true, if_false] at hb
                first
                | (exfalso; omega)
                | (rw [if_neg (fun w => Bool.noConfusion w.2.1)])
              | true =>
                rw [hz] at hb
                simp only [if_true] at hb
                first
                | (exfalso; omega)
                | (rw [if_pos ⟨by omega, rfl, by omega⟩])
                | (rw [if_neg (fun w => by omega)]))
          · refine a_iconst (dat d_Lw_asked 56 rfl) (by decide) ?_
            refine a_goto (tgt := 106) (dat d_Lw_asked 57 rfl) (by decide) ?_
            refine j106 _ ?_
            rw [thG_m (by omega) (by omega)]
            first
            | (rw [if_neg (fun w => by omega)])
            | (cases hz : tb gl (k : Int) with
              | false =>
                rw [hz] at hb
                simp only [Bool.false_eq_true, if_false] at hb
                first
                | (exfalso; omega)
                | (rw [if_neg (fun w => Bool.noConfusion w.2.1)])
              | true =>
                rw [hz] at hb
                simp only [if_true] at hb
                first
                | (exfalso; omega)
                | (rw [if_pos ⟨by omega, rfl, by omega⟩])
                | (rw [if_neg (fun w => by omega)]))
  refine a_astore (L' := [vR 0, vR 174, vR 175, vI a, vI (t 6), vI gl, vI pe, vI p, vI ad, vR 176, vU, vU, vU, vU, vU]) (dat d_Lw_asked 27 rfl) (by decide) rfl rfl ?_
  refine a_iconst (dat d_Lw_asked 28 rfl) (by decide) ?_
  refine a_istore (L' := [vR 0, vR 174, vR 175, vI a, vI (t 6), vI gl, vI pe, vI p, vI ad, vR 176, vI 0, vU, vU, vU, vU]) (dat d_Lw_asked 29 rfl) (by decide) rfl rfl ?_
  refine lp (t 6).toNat 0 _ (by omega) hS (fun i i0 i1 => ?_)
  rw [h176 i i0 i1, if_neg (by omega)]
theorem as_1 (hY : AsY Y B) (hG : aG g Y) (hS : LwS σ A t r im) (hT : TRg t) (hA : A 0 = 1) : Ax g y_Lw_asked Y (List.range NB ++ []) 0 0 0 [vR 0, vR 174, vR 175, vI a, vU, vU, vU, vU, vU, vU, vU, vU, vU, vU, vU] [] σ := by
  have hI := aI_175 []
  have hTo := hS.ok
  have hC := cfg_ok hTo
  have R := hS.2.2.1.2
  have e6 : r 6 = t 6 := R.2.1.1
  have e7 := R.2.1.2
  have t6 := hT.1.2.2.2.2.2.2.1
  have t7 := hT.1.2.2.2.2.2.2.2
  have c6 : cS (cfg r) 6 = -1 := by rw [row_cS R]; rfl
  have b7 := ia7 (ishr a 5)
  have m6 := em_bd (x := iand (ishr a 5) 7) (P := t 6) (by omega)
  refine a_aload_n (dat d_Lw_asked 0 rfl) rfl rfl ?_
  refine a_bipush (dat d_Lw_asked 1 rfl) (by decide) (by decide) ?_
  refine a_iald (n := 180) (v := t 6) (dat d_Lw_asked 2 rfl) hI (by omega) (by omega) (by exact hS.2.1 6 (by decide) (by decide)) ?_
  refine a_istore (L' := [vR 0, vR 174, vR 175, vI a, vI (t 6), vU, vU, vU, vU, vU, vU, vU, vU, vU, vU]) (dat d_Lw_asked 3 rfl) (by decide) rfl rfl ?_
  refine a_aload_n (dat d_Lw_asked 4 rfl) rfl rfl ?_
  refine a_iconst (dat d_Lw_asked 5 rfl) (by decide) ?_
  refine a_inv hG (As := [vI 0]) (dat d_Lw_asked 6 rfl) rfl c_Sb_gloves l_Lw_152 (by decide) rv_0 rfl rfl (Nat.le_of_ble_eq_true rfl) ?_
  refine sp_Sb_gloves hS.1.1 (fun v1 σ1 h1 F1 => ⟨fun o ho => absurd ho List.not_mem_nil, ?_⟩)
  have h1 := an_gl (by omega) (hS.at0 h1)
  have hS := hS.tr F1
  show Ax g y_Lw_asked Y (List.range NB ++ []) 0 0 11 [vR 0, vR 174, vR 175, vI a, vI (t 6), vU, vU, vU, vU, vU, vU, vU, vU, vU, vU] [vI v1] σ1
  refine a_istore (L' := [vR 0, vR 174, vR 175, vI a, vI (t 6), vI v1, vU, vU, vU, vU, vU, vU, vU, vU, vU]) (dat d_Lw_asked 7 rfl) (by decide) rfl rfl ?_
  refine a_aload_n (dat d_Lw_asked 8 rfl) rfl rfl ?_
  refine a_iconst (dat d_Lw_asked 9 rfl) (by decide) ?_
  refine a_inv hG (As := [vI 0]) (dat d_Lw_asked 10 rfl) rfl c_Sb_peace l_Lw_155 (by decide) rv_0 rfl rfl (Nat.le_of_ble_eq_true rfl) ?_
  refine sp_Sb_peace hS.1.1 (fun v2 σ2 h2 F2 => ⟨fun o ho => absurd ho List.not_mem_nil, ?_⟩)
  have h2 := an_pe (by omega) (hS.at0 h2)
  have hS := hS.tr F2
  show Ax g y_Lw_asked Y (List.range NB ++ []) 0 0 18 [vR 0, vR 174, vR 175, vI a, vI (t 6), vI v1, vU, vU, vU, vU, vU, vU, vU, vU, vU] [vI v2] σ2
  refine a_istore (L' := [vR 0, vR 174, vR 175, vI a, vI (t 6), vI v1, vI v2, vU, vU, vU, vU, vU, vU, vU, vU]) (dat d_Lw_asked 11 rfl) (by decide) rfl rfl ?_
  refine a_iload_n (dat d_Lw_asked 12 rfl) rfl rfl ?_
  refine a_iconst (dat d_Lw_asked 13 rfl) (by decide) ?_
  refine a_ishr (v := ishr a 5) (dat d_Lw_asked 14 rfl) rfl ?_
  refine a_bipush (dat d_Lw_asked 15 rfl) (by decide) (by decide) ?_
  refine a_iand (v := iand (ishr a 5) 7) (dat d_Lw_asked 16 rfl) rfl ?_
  refine a_iload (dat d_Lw_asked 17 rfl) rfl ?_
  refine a_irem (v := (iand (ishr a 5) 7) % (t 6)) (dat d_Lw_asked 18 rfl) (by omega) rfl ?_
  refine a_istore (L' := [vR 0, vR 174, vR 175, vI a, vI (t 6), vI v1, vI v2, vI ((iand (ishr a 5) 7) % (t 6)), vU, vU, vU, vU, vU, vU, vU]) (dat d_Lw_asked 19 rfl) (by decide) rfl rfl ?_
  refine a_aload_n (dat d_Lw_asked 20 rfl) rfl rfl ?_
  refine a_iconst (dat d_Lw_asked 21 rfl) (by decide) ?_
  refine a_iload (dat d_Lw_asked 22 rfl) rfl ?_
  refine a_inv hG (As := [vI 0, vI ((iand (ishr a 5) 7) % (t 6))]) (dat d_Lw_asked 23 rfl) rfl c_Sb_aid l_Lw_158 (by decide) rv_0 rfl rfl (Nat.le_of_ble_eq_true rfl) ?_
  refine sp_Sb_aid hS.1.1 (fun v3 σ3 h3 F3 => ⟨fun o ho => absurd ho List.not_mem_nil, ?_⟩)
  have h3 := an_ad hC c6 (by omega) (hS.at0 h3)
  have hS := hS.tr F3
  refine a_okS (fun ho => ?_)
  show Ax g y_Lw_asked Y (List.range NB ++ []) 0 0 38 [vR 0, vR 174, vR 175, vI a, vI (t 6), vI v1, vI v2, vI ((iand (ishr a 5) 7) % (t 6)), vU, vU, vU, vU, vU, vU, vU] [vI v3] σ3
  refine a_istore (L' := [vR 0, vR 174, vR 175, vI a, vI (t 6), vI v1, vI v2, vI ((iand (ishr a 5) 7) % (t 6)), vI v3, vU, vU, vU, vU, vU, vU]) (dat d_Lw_asked 24 rfl) (by decide) rfl rfl ?_
  refine a_aload_n (dat d_Lw_asked 25 rfl) rfl rfl ?_
  refine a_copy (k := 176) hG (by decide +kernel) hY.1 hY.2.2.2 (fun o ho => absurd ho List.not_mem_nil) (dat d_Lw_asked 26 rfl) rfl l_Lw_161 (by decide) (Nat.le_of_ble_eq_true rfl) (by rw [hY.2.1]; exact ⟨Nat.le_of_ble_eq_true rfl, Nat.le_of_ble_eq_true rfl⟩) (fun i => (ho 175 i).1) rfl rfl (fun q9 f9 hf9 hG9 => ?_)
  exact as_2 hY hG9 (hS.same (fun o ho => by funext i; exact if_neg (by omega))) hT m6 hA (fun i i0 i1 => by rw [← hS.2.1 i i0 i1]; exact (if_pos rfl).trans (hf9 i i0 i1)) h1 h2 ⟨⟨h3.1, h3.2.1⟩, h3.2.2⟩
end ASK2
