/-! the twin's answers: which pocket to search -/
section
variable {g : xG} {K : Option MV → xS → Prop} {σ σ' σ0 : xS} {t b : Int → Int} {t0 : Int} {a : Int → Int} {n : Int} {C : Cf}
/-- in how many worlds a pocket holds so much -/
def PtR (σ : xS) (t : Int → Int) (hv : Int → Int → Int → Int) : Prop := ∀ h p x : Int, 0 ≤ h → h < t 3 → 0 ≤ p → p < t 6 → 0 ≤ x → x < 272 → σ 197 (272 * (8 * h + p) + x) = hv h p x
def ptI (t : Int → Int) (c : Nat) (hv : Int → Int → Int → Int) (k : Int) : Int → Int → Int → Int := fun h p x => hv h p x + if 8 * h + p < k ∧ (rst (wC t c) (h.toNat + 1)).1 p = x then 1 else 0
theorem hv_272 (hT : TownOk t) {h p x : Int} (p0 : 0 ≤ p) (p1 : p < t 6) (hx : 265 ≤ x) : ∀ n : Nat, wHv t b n h p x = 0
  | 0 => rfl
  | n + 1 => by
    show wHv t b n h p x + (if isW t b n = true then (if h < t 3 ∧ p < t 6 ∧ (rst (wC t n) (h.toNat + 1)).1 p = x then 1 else 0) else 0) = 0
    rw [hv_272 hT p0 p1 hx n]
    have := wC_264 hT n (h.toNat + 1) p p0 p1
    split
    · rw [if_neg (fun w => by omega)]; rfl
    · rfl
theorem mxG_to {f : Nat → Int} {m : Nat} (hf : ∀ x : Nat, m ≤ x → f x = 0) : ∀ d : Nat, mxG f (m + d) = mxG f m
  | 0 => rfl
  | d + 1 => by
    show (if mxG f (m + d) < f (m + d) then f (m + d) else mxG f (m + d)) = mxG f m
    rw [mxG_to hf d, hf (m + d) (by omega), if_neg (by have := mxG_nn f m; omega)]
theorem mxG_cg {f f' : Nat → Int} : ∀ n : Nat, (∀ x : Nat, x < n → f x = f' x) → mxG f n = mxG f' n
  | 0, _ => rfl
  | n + 1, h => by
    show (if mxG f n < f n then f n else mxG f n) = (if mxG f' n < f' n then f' n else mxG f' n)
    rw [mxG_cg n (fun x hx => h x (by omega)), h n (by omega)]
theorem mxG_bd {f : Nat → Int} {B : Int} (B0 : 0 ≤ B) : ∀ n : Nat, (∀ x : Nat, x < n → f x ≤ B) → mxG f n ≤ B
  | 0, _ => B0
  | n + 1, h => by
    have h1 := mxG_bd B0 n (fun x hx => h x (by omega))
    have h2 := h n (by omega)
    show (if mxG f n < f n then f n else mxG f n) ≤ B
    split <;> omega
/-- all zero -/
theorem lp_Mo_szero {Z : xZ} {m w : Int} {w5 w6 w7 w8 w9 : MV} (k : ∀ σ' : xS, (∀ j : Int, 0 ≤ j → j < 52224 → σ' 197 j = 0) → (∀ o : Nat, o ≠ 197 → σ' o = σ o) → Wx g y_Mo_search Z K 44 [vR 174, vI n, vI m, vI w, vI 52224, w5, w6, w7, w8, w9] [] σ') : ∀ (d i : Nat) (σ1 : xS), i + d = 52224 → (∀ j : Int, 0 ≤ j → j < i → σ1 197 j = 0) → (∀ o : Nat, o ≠ 197 → σ1 o = σ o) → Wx g y_Mo_search Z K 23 [vR 174, vI n, vI m, vI w, vI (i : Int), w5, w6, w7, w8, w9] [] σ1 := by
  intro d
  induction d with
  | zero =>
    intro i σ1 hd hj F
    have e : (i : Int) = 52224 := by omega
    rw [e] at hj ⊢
    refine x_iload (dat d_Mo_search 14 rfl) rfl ?_
    refine x_ldc (own := "ShakenBreadModel") (n := 52224) (dat d_Mo_search 15 rfl) rfl (gw_6 (i := 68) rfl rfl) (by decide) ?_
    refine x_icmp_ge (tgt := 44) (dat d_Mo_search 16 rfl) (by decide) (fun c_27 => ?_) (fun h => absurd h (by decide))
    exact k σ1 hj F
  | succ d ih =>
    intro i σ1 hd hj F
    refine x_iload (dat d_Mo_search 14 rfl) rfl ?_
    refine x_ldc (own := "ShakenBreadModel") (n := 52224) (dat d_Mo_search 15 rfl) rfl (gw_6 (i := 68) rfl rfl) (by decide) ?_
    refine x_icmp_ge (tgt := 44) (dat d_Mo_search 16 rfl) (by decide) (fun c_27 => (by omega)) (fun c_27 => ?_)
    refine x_aload_n (dat d_Mo_search 17 rfl) rfl rfl ?_
    refine x_getr (r := 197) (dat d_Mo_search 18 rfl) rfl f_Mo_78 (or_mk (by decide +kernel)) ?_
    refine x_iload (dat d_Mo_search 19 rfl) rfl ?_
    refine x_iconst (dat d_Mo_search 20 rfl) (by decide) ?_
    refine x_iast (n := 52224) (dat d_Mo_search 21 rfl) (ai_mk (by decide +kernel)) (by omega) (by omega) ?_
    refine x_iinc (v' := ((i + 1 : Nat) : Int)) (L' := [vR 174, vI n, vI m, vI w, vI ((i + 1 : Nat) : Int), w5, w6, w7, w8, w9]) (dat d_Mo_search 22 rfl) rfl (by decide) rfl (by omega) (by omega) rfl ?_
    refine x_goto (tgt := 23) (dat d_Mo_search 23 rfl) (by decide) ?_
    refine ih (i + 1) _ (by omega) (fun j j0 j1 => ?_) (fun o ho => by rw [up_ne ho]; exact F o ho)
    by_cases z : j = (i : Int)
    · rw [z, up_s]
    · rw [up_ni (Ne.symm z)]; exact hj j j0 (by omega)
/-- one world more -/
theorem lp_Mo_sadd {Z : xZ} {m w cn : Int} {c i0 : Nat} {w7 w8 w9 : MV} (H : KnX σ t t0 [179]) (T : TkW σ t c) (k : ∀ (σ' : xS) (w6 : MV), PtR σ' t (ptI t c (wHv t b c) (8 * t 3)) → (∀ o : Nat, o ≠ 197 → σ' o = σ o) → Wx g y_Mo_search Z K 135 [vR 174, vI n, vI m, vI w, vI cn, vI (i0 : Int), w6, w7, w8, w9] [] σ') : ∀ (d i : Nat) (σ1 : xS), (i : Int) + d = 8 * t 3 → c ≤ 1024 → PtR σ1 t (ptI t c (wHv t b c) (i : Int)) → (∀ o : Nat, o ≠ 197 → σ1 o = σ o) → Wx g y_Mo_search Z K 81 [vR 174, vI n, vI m, vI w, vI cn, vI (i0 : Int), vI (i : Int), w7, w8, w9] [] σ1 := by
  have hT := H.1.2
  have t6 := hT.2.2.2.2.2.2.1
  have t3 := hT.2.2.2.1
  intro d
  induction d with
  | zero =>
    intro i σ1 hd hc P F
    have e : (i : Int) = 8 * t 3 := by omega
    have M1 : MoT σ1 t t0 := H.1.1.same (by rw [F 174 (by decide)]) (F 175 (by decide))
    rw [e] at P
    refine x_iload (dat d_Mo_search 42 rfl) rfl ?_
    refine x_bipush (dat d_Mo_search 43 rfl) (by decide) (by decide) ?_
    refine x_aload_n (dat d_Mo_search 44 rfl) rfl rfl ?_
    refine x_iconst (dat d_Mo_search 45 rfl) (by decide) ?_
    refine x_inv (As := [vI 3]) (dat d_Mo_search 46 rfl) rfl c_Mo_of l_Mo_199 (by decide) (rv_mo (by decide +kernel)) rfl rfl (Nat.le_of_ble_eq_true rfl) ?_
    refine sp_Mo_of M1 (by decide) (by decide) ?_
    show Wx g y_Mo_search Z K 90 [vR 174, vI n, vI m, vI w, vI cn, vI (i0 : Int), vI (i : Int), w7, w8, w9] [vI (t 3), vI 8, vI (i : Int)] σ1
    refine x_imul (v := 8 * t 3) (dat d_Mo_search 47 rfl) (by omega) (by omega) ?_
    refine x_icmp_ge (tgt := 135) (dat d_Mo_search 48 rfl) (by decide) (fun c_91 => ?_) (fun c_91 => (by omega))
    exact k σ1 _ P F
  | succ d ih =>
    intro i σ1 hd hc P F
    have M1 : MoT σ1 t t0 := H.1.1.same (by rw [F 174 (by decide)]) (F 175 (by decide))
    have nx : ∀ σ2 : xS, PtR σ2 t (ptI t c (wHv t b c) ((i + 1 : Nat) : Int)) → (∀ o : Nat, o ≠ 197 → σ2 o = σ o) → Wx g y_Mo_search Z K 81 [vR 174, vI n, vI m, vI w, vI cn, vI (i0 : Int), vI ((i + 1 : Nat) : Int), w7, w8, w9] [] σ2 := fun σ2 P2 F2 => ih (i + 1) σ2 (by omega) hc P2 F2
    have pre : t 6 ≤ (i : Int) % 8 → PtR σ1 t (ptI t c (wHv t b c) ((i + 1 : Nat) : Int)) := fun z h p x h0 h1 p0 p1 x0 x1 => by
      rw [P h p x h0 h1 p0 p1 x0 x1]
      unfold ptI
      congr 1
      exact ite_cg ⟨fun y => ⟨by omega, y.2⟩, fun y => ⟨by omega, y.2⟩⟩
    by_cases hq : (i : Int) % 8 < t 6
    · obtain ⟨v, hv⟩ : ∃ v : Int, v = (rst (wC t c) (((i : Int) / 8).toNat + 1)).1 ((i : Int) % 8) := ⟨_, rfl⟩
      have v0 : 0 ≤ v := by rw [hv]; exact (rst_bd (wC_ok hT c) _ (by omega) hq).1
      have v1 : v ≤ 264 := by rw [hv]; exact wC_264 hT c _ _ (by omega) hq
      have g1 : σ1 181 (i : Int) = v := by
        rw [F 181 (by decide), hv, ← T.1 ((i : Int) / 8) ((i : Int) % 8) (by omega) (by omega) (by omega) hq]
        congr 1
        omega
      have g2 : σ1 197 (272 * (i : Int) + v) = ptI t c (wHv t b c) (i : Int) ((i : Int) / 8) ((i : Int) % 8) v := by
        rw [← P ((i : Int) / 8) ((i : Int) % 8) v (by omega) (by omega) (by omega) hq v0 (by omega)]
        congr 1
        omega
      have g3 := wHv_bd t b c ((i : Int) / 8) ((i : Int) % 8) v
      have g4 : ptI t c (wHv t b c) (i : Int) ((i : Int) / 8) ((i : Int) % 8) v = wHv t b c ((i : Int) / 8) ((i : Int) % 8) v := by
        unfold ptI
        rw [if_neg (fun y => by omega), Int.add_zero]
      rw [g4] at g2
      have fin : PtR (up σ1 197 (272 * (i : Int) + v) (wHv t b c ((i : Int) / 8) ((i : Int) % 8) v + 1)) t (ptI t c (wHv t b c) ((i + 1 : Nat) : Int)) := by
        intro h p x h0 h1 p0 p1 x0 x1
        by_cases y : 8 * h + p = (i : Int) ∧ x = v
        · have eh : h = (i : Int) / 8 := by omega
          have ep : p = (i : Int) % 8 := by omega
          rw [show 272 * (8 * h + p) + x = 272 * (i : Int) + v by omega, up_s]
          unfold ptI
          rw [y.2, eh, ep, if_pos ⟨by omega, hv.symm⟩]
        · rw [up_ni (by omega), P h p x h0 h1 p0 p1 x0 x1]
          unfold ptI
          congr 1
          refine ite_cg ⟨fun q => ⟨by omega, q.2⟩, fun q => ⟨?_, q.2⟩⟩
          by_cases y2 : 8 * h + p = (i : Int)
          · have eh : h = (i : Int) / 8 := by omega
            have ep : p = (i : Int) % 8 := by omega
            exact absurd ⟨y2, by rw [← q.2, eh, ep]; exact hv.symm⟩ y
          · omega
      refine x_iload (dat d_Mo_search 42 rfl) rfl ?_
      refine x_bipush (dat d_Mo_search 43 rfl) (by decide) (by decide) ?_
      refine x_aload_n (dat d_Mo_search 44 rfl) rfl rfl ?_
      refine x_iconst (dat d_Mo_search 45 rfl) (by decide) ?_
      refine x_inv (As := [vI 3]) (dat d_Mo_search 46 rfl) rfl c_Mo_of l_Mo_199 (by decide) (rv_mo (by decide +kernel)) rfl rfl (Nat.le_of_ble_eq_true rfl) ?_
      refine sp_Mo_of M1 (by decide) (by decide) ?_
      show Wx g y_Mo_search Z K 90 [vR 174, vI n, vI m, vI w, vI cn, vI (i0 : Int), vI (i : Int), w7, w8, w9] [vI (t 3), vI 8, vI (i : Int)] σ1
      refine x_imul (v := 8 * t 3) (dat d_Mo_search 47 rfl) (by omega) (by omega) ?_
      refine x_icmp_ge (tgt := 135) (dat d_Mo_search 48 rfl) (by decide) (fun c_91 => (by omega)) (fun c_91 => ?_)
      refine x_iload (dat d_Mo_search 49 rfl) rfl ?_
      refine x_bipush (dat d_Mo_search 50 rfl) (by decide) (by decide) ?_
      refine x_irem (v := (i : Int) % 8) (dat d_Mo_search 51 rfl) (by omega) rfl ?_
      refine x_aload_n (dat d_Mo_search 52 rfl) rfl rfl ?_
      refine x_inv (As := []) (dat d_Mo_search 53 rfl) rfl c_Mo_people l_Mo_202 (by decide) (rv_mo (by decide +kernel)) rfl rfl (Nat.le_of_ble_eq_true rfl) ?_
      refine sp_Mo_people M1 ?_
      show Wx g y_Mo_search Z K 103 [vR 174, vI n, vI m, vI w, vI cn, vI (i0 : Int), vI (i : Int), w7, w8, w9] [vI (t 6), vI ((i : Int) % 8)] σ1
      refine x_icmp_ge (tgt := 129) (dat d_Mo_search 54 rfl) (by decide) (fun c_103 => (by omega)) (fun c_103 => ?_)
      refine x_aload_n (dat d_Mo_search 55 rfl) rfl rfl ?_
      refine x_getr (r := 197) (dat d_Mo_search 56 rfl) rfl f_Mo_78 (or_mk (by decide +kernel)) ?_
      refine x_sipush (dat d_Mo_search 57 rfl) (by decide) (by decide) ?_
      refine x_iload (dat d_Mo_search 58 rfl) rfl ?_
      refine x_imul (v := 272 * (i : Int)) (dat d_Mo_search 59 rfl) (by omega) (by omega) ?_
      refine x_aload_n (dat d_Mo_search 60 rfl) rfl rfl ?_
      refine x_getr (r := 181) (dat d_Mo_search 61 rfl) rfl f_Mo_29 (or_mk (by decide +kernel)) ?_
      refine x_iload (dat d_Mo_search 62 rfl) rfl ?_
      refine x_iald (n := 192) (v := v) (dat d_Mo_search 63 rfl) (ai_mk (by decide +kernel)) (by omega) (by omega) (by exact g1) ?_
      refine x_iadd (v := (272 * (i : Int)) + v) (dat d_Mo_search 64 rfl) rfl (by omega) ?_
      refine x_dup2 (dat d_Mo_search 65 rfl) rfl rfl ?_
      refine x_iald (n := 52224) (v := wHv t b c ((i : Int) / 8) ((i : Int) % 8) v) (dat d_Mo_search 66 rfl) (ai_mk (by decide +kernel)) (by omega) (by omega) (by exact g2) ?_
      refine x_iconst (dat d_Mo_search 67 rfl) (by decide) ?_
      refine x_iadd (v := (wHv t b c ((i : Int) / 8) ((i : Int) % 8) v) + 1) (dat d_Mo_search 68 rfl) rfl (by omega) ?_
      refine x_iast (n := 52224) (dat d_Mo_search 69 rfl) (ai_mk (by decide +kernel)) (by omega) (by omega) ?_
      refine x_iinc (v' := ((i + 1 : Nat) : Int)) (L' := [vR 174, vI n, vI m, vI w, vI cn, vI (i0 : Int), vI ((i + 1 : Nat) : Int), w7, w8, w9]) (dat d_Mo_search 70 rfl) rfl (by decide) rfl (by omega) (by omega) rfl ?_
      refine x_goto (tgt := 81) (dat d_Mo_search 71 rfl) (by decide) ?_
      exact nx _ fin (fun o ho => by rw [up_ne ho]; exact F o ho)
    · refine x_iload (dat d_Mo_search 42 rfl) rfl ?_
      refine x_bipush (dat d_Mo_search 43 rfl) (by decide) (by decide) ?_
      refine x_aload_n (dat d_Mo_search 44 rfl) rfl rfl ?_
      refine x_iconst (dat d_Mo_search 45 rfl) (by decide) ?_
      refine x_inv (As := [vI 3]) (dat d_Mo_search 46 rfl) rfl c_Mo_of l_Mo_199 (by decide) (rv_mo (by decide +kernel)) rfl rfl (Nat.le_of_ble_eq_true rfl) ?_
      refine sp_Mo_of M1 (by decide) (by decide) ?_
      show Wx g y_Mo_search Z K 90 [vR 174, vI n, vI m, vI w, vI cn, vI (i0 : Int), vI (i : Int), w7, w8, w9] [vI (t 3), vI 8, vI (i : Int)] σ1
      refine x_imul (v := 8 * t 3) (dat d_Mo_search 47 rfl) (by omega) (by omega) ?_
      refine x_icmp_ge (tgt := 135) (dat d_Mo_search 48 rfl) (by decide) (fun c_91 => (by omega)) (fun c_91 => ?_)
      refine x_iload (dat d_Mo_search 49 rfl) rfl ?_
      refine x_bipush (dat d_Mo_search 50 rfl) (by decide) (by decide) ?_
      refine x_irem (v := (i : Int) % 8) (dat d_Mo_search 51 rfl) (by omega) rfl ?_
      refine x_aload_n (dat d_Mo_search 52 rfl) rfl rfl ?_
      refine x_inv (As := []) (dat d_Mo_search 53 rfl) rfl c_Mo_people l_Mo_202 (by decide) (rv_mo (by decide +kernel)) rfl rfl (Nat.le_of_ble_eq_true rfl) ?_
      refine sp_Mo_people M1 ?_
      show Wx g y_Mo_search Z K 103 [vR 174, vI n, vI m, vI w, vI cn, vI (i0 : Int), vI (i : Int), w7, w8, w9] [vI (t 6), vI ((i : Int) % 8)] σ1
      refine x_icmp_ge (tgt := 129) (dat d_Mo_search 54 rfl) (by decide) (fun c_103 => ?_) (fun c_103 => (by omega))
      refine x_iinc (v' := ((i + 1 : Nat) : Int)) (L' := [vR 174, vI n, vI m, vI w, vI cn, vI (i0 : Int), vI ((i + 1 : Nat) : Int), w7, w8, w9]) (dat d_Mo_search 70 rfl) rfl (by decide) rfl (by omega) (by omega) rfl ?_
      refine x_goto (tgt := 81) (dat d_Mo_search 71 rfl) (by decide) ?_
      exact nx _ (pre (by omega)) F
/-- all worlds -/
theorem lp_Mo_sall {Z : xZ} {m w b0 : Int} {w7 w8 w9 : MV} (r1 : runT t ≤ 1024) (k : ∀ (σ' : xS) (w6 : MV), KnX σ' t t0 [179] → PtR σ' t (wHv t b (runT t).toNat) → MoF σ' σ0 → Wx g y_Mo_search Z K 141 [vR 174, vI n, vI m, vI w, vI (wct t b (runT t).toNat), vI (runT t), w6, w7, w8, w9] [] σ') : ∀ (d i : Nat) (σ1 : xS) (w6 : MV), i + d = (runT t).toNat → 0 ≤ runT t → KnX σ1 t t0 [179] → BkX σ1 b0 b → σ1 174 60 = runT t → PtR σ1 t (wHv t b i) → MoF σ1 σ0 → Wx g y_Mo_search Z K 50 [vR 174, vI n, vI m, vI w, vI (wct t b i), vI (i : Int), w6, w7, w8, w9] [] σ1 := by
  intro d
  induction d with
  | zero =>
    intro i σ1 w6 hd r0 H B e60 P F
    have e : i = (runT t).toNat := by omega
    have e2 : (i : Int) = runT t := by omega
    rw [e] at P
    rw [e2, e]
    refine x_iload (dat d_Mo_search 28 rfl) rfl ?_
    refine x_aload_n (dat d_Mo_search 29 rfl) rfl rfl ?_
    refine x_geti (ji := 60) (v := runT t) (dat d_Mo_search 30 rfl) rfl f_Mo_394 (oi_mk (by decide +kernel)) (e60) ?_
    refine x_icmp_ge (tgt := 141) (dat d_Mo_search 31 rfl) (by decide) (fun c_56 => ?_) (fun c_56 => (by omega))
    exact k σ1 _ H P F
  | succ d ih =>
    intro i σ1 w6 hd r0 H B e60 P F
    have hT := H.1.2
    have t3 := hT.2.2.2.1
    have wb := wct_bd t b i
    have s1 : wct t b (i + 1) = wct t b i + (if isW t b i = true then 1 else 0) := rfl
    have s2 : ∀ h p x : Int, h < t 3 → p < t 6 → wHv t b (i + 1) h p x = wHv t b i h p x + (if isW t b i = true then (if (rst (wC t i) (h.toNat + 1)).1 p = x then 1 else 0) else 0) := fun h p x h1 p1 => by
      show wHv t b i h p x + (if isW t b i = true then (if h < t 3 ∧ p < t 6 ∧ (rst (wC t i) (h.toNat + 1)).1 p = x then 1 else 0) else 0) = _
      rw [show (if h < t 3 ∧ p < t 6 ∧ (rst (wC t i) (h.toNat + 1)).1 p = x then (1 : Int) else 0) = (if (rst (wC t i) (h.toNat + 1)).1 p = x then 1 else 0) from ite_cg ⟨fun y => y.2.2, fun y => ⟨h1, p1, y⟩⟩]
    have nx : ∀ (σ2 : xS) (cn : Int) (w6 : MV), cn = wct t b (i + 1) → KnX σ2 t t0 [179] → BkX σ2 b0 b → σ2 174 60 = runT t → PtR σ2 t (wHv t b (i + 1)) → MoF σ2 σ0 → Wx g y_Mo_search Z K 50 [vR 174, vI n, vI m, vI w, vI cn, vI ((i + 1 : Nat) : Int), w6, w7, w8, w9] [] σ2 := fun σ2 cn w6 ec H2 B2 e2 P2 F2 => by rw [ec]; exact ih (i + 1) σ2 w6 (by omega) r0 H2 B2 e2 P2 F2
    refine x_iload (dat d_Mo_search 28 rfl) rfl ?_
    refine x_aload_n (dat d_Mo_search 29 rfl) rfl rfl ?_
    refine x_geti (ji := 60) (v := runT t) (dat d_Mo_search 30 rfl) rfl f_Mo_394 (oi_mk (by decide +kernel)) (e60) ?_
    refine x_icmp_ge (tgt := 141) (dat d_Mo_search 31 rfl) (by decide) (fun c_56 => (by omega)) (fun c_56 => ?_)
    refine x_aload_n (dat d_Mo_search 32 rfl) rfl rfl ?_
    refine x_iload (dat d_Mo_search 33 rfl) rfl ?_
    refine x_inv (As := [vI (i : Int)]) (dat d_Mo_search 34 rfl) rfl c_Mo_takesUp l_Mo_406 (by decide) (rv_mo (by decide +kernel)) rfl rfl (Nat.le_of_ble_eq_true rfl) ?_
    refine sp_Mo_takesUp H (by omega) (by omega) (fun σ2 H2 T2 W2 O2 F2 => ?_)
    have B2 : BkX σ2 b0 b := B.same (W2 59 (by decide)) (F2.2 175 (by decide))
    have g0 : σ2 174 60 = runT t := by rw [W2 60 (by decide)]; exact e60
    have P2 : PtR σ2 t (wHv t b i) := by unfold PtR; rw [O2 197 (by decide)]; exact P
    have F3 : MoF σ2 σ0 := F.trans F2
    show Wx g y_Mo_search Z K 65 [vR 174, vI n, vI m, vI w, vI (wct t b i), vI (i : Int), w6, w7, w8, w9] [] σ2
    refine x_aload_n (dat d_Mo_search 35 rfl) rfl rfl ?_
    refine x_inv (As := []) (dat d_Mo_search 36 rfl) rfl c_Mo_isWorld l_Mo_409 (by decide) (rv_mo (by decide +kernel)) rfl rfl (Nat.le_of_ble_eq_true rfl) ?_
    refine sp_Mo_isWorld H2 B2 T2 (fun wy => ?_) (fun wn => ?_)
    · show Wx g y_Mo_search Z K 69 [vR 174, vI n, vI m, vI w, vI (wct t b i), vI (i : Int), w6, w7, w8, w9] [vI 1] σ2
      rw [if_pos wy] at s1
      refine x_if_ne (tgt := 75) (dat d_Mo_search 37 rfl) (by decide) (fun c_69 => ?_) (fun h => absurd h (by decide))
      refine x_iinc (v' := wct t b (i + 1)) (L' := [vR 174, vI n, vI m, vI w, vI (wct t b (i + 1)), vI (i : Int), w6, w7, w8, w9]) (dat d_Mo_search 39 rfl) rfl (by decide) rfl (by exact s1.symm) (by omega) rfl ?_
      refine x_iconst (dat d_Mo_search 40 rfl) (by decide) ?_
      refine x_istore (L' := [vR 174, vI n, vI m, vI w, vI (wct t b (i + 1)), vI (i : Int), vI 0, w7, w8, w9]) (dat d_Mo_search 41 rfl) (by decide) rfl rfl ?_
      refine lp_Mo_sadd (c := i) (b := b) H2 T2 (fun σ4 w6 P4 F4 => ?_) (8 * t 3).toNat 0 σ2 (by omega) (by omega) ?_ (fun _ _ => rfl)
      · refine x_iinc (v' := ((i + 1 : Nat) : Int)) (L' := [vR 174, vI n, vI m, vI w, vI (wct t b (i + 1)), vI ((i + 1 : Nat) : Int), w6, w7, w8, w9]) (dat d_Mo_search 72 rfl) rfl (by decide) rfl (by omega) (by omega) rfl ?_
        refine x_goto (tgt := 50) (dat d_Mo_search 73 rfl) (by decide) ?_
        refine nx σ4 _ _ rfl (H2.oth (F4 174 (by decide)) (F4 175 (by decide)) (F4 179 (by decide))) (B2.same (by rw [F4 174 (by decide)]) (F4 175 (by decide))) (by rw [F4 174 (by decide)]; exact g0) (fun h p x h0 h1 p0 p1 x0 x1 => ?_) (F3.trans ⟨fun j _ => by rw [F4 174 (by decide)], fun o ho => F4 o (by omega)⟩)
        rw [P4 h p x h0 h1 p0 p1 x0 x1, s2 h p x h1 p1, if_pos wy]
        unfold ptI
        congr 1
        have t6 := hT.2.2.2.2.2.2.1
        exact ite_cg ⟨fun y => y.2, fun y => ⟨by omega, y⟩⟩
      · intro h p x h0 h1 p0 p1 x0 x1
        rw [P2 h p x h0 h1 p0 p1 x0 x1]
        unfold ptI
        rw [if_neg (fun y => by omega), Int.add_zero]
    · show Wx g y_Mo_search Z K 69 [vR 174, vI n, vI m, vI w, vI (wct t b i), vI (i : Int), w6, w7, w8, w9] [vI 0] σ2
      rw [if_neg wn, Int.add_zero] at s1
      refine x_if_ne (tgt := 75) (dat d_Mo_search 37 rfl) (by decide) (fun h => absurd h (by decide)) (fun c_69 => ?_)
      refine x_goto (tgt := 135) (dat d_Mo_search 38 rfl) (by decide) ?_
      refine x_iinc (v' := ((i + 1 : Nat) : Int)) (L' := [vR 174, vI n, vI m, vI w, vI (wct t b i), vI ((i + 1 : Nat) : Int), w6, w7, w8, w9]) (dat d_Mo_search 72 rfl) rfl (by decide) rfl (by omega) (by omega) rfl ?_
      refine x_goto (tgt := 50) (dat d_Mo_search 73 rfl) (by decide) ?_
      exact nx σ2 _ _ s1.symm H2 B2 g0 (fun h p x h0 h1 p0 p1 x0 x1 => by rw [P2 h p x h0 h1 p0 p1 x0 x1, s2 h p x h1 p1, if_neg wn, Int.add_zero]) F3
/-- the greatest part of a place -/
theorem lp_Mo_stop {Z : xZ} {m w cn bb ll : Int} {i : Nat} {f : Nat → Int} (i1 : i < 192) (hf : ∀ x : Nat, x < 272 → σ 197 (272 * (i : Int) + (x : Int)) = f x) (k : ∀ w9 : MV, Wx g y_Mo_search Z K 243 [vR 174, vI n, vI m, vI w, vI cn, vI bb, vI ll, vI (i : Int), vI (mxG f 272), w9] [] σ) : ∀ d x : Nat, x + d = 272 → Wx g y_Mo_search Z K 189 [vR 174, vI n, vI m, vI w, vI cn, vI bb, vI ll, vI (i : Int), vI (mxG f x), vI (x : Int)] [] σ := by
  intro d
  induction d with
  | zero =>
    intro x hd
    have e : x = 272 := by omega
    rw [e]
    refine x_iload (dat d_Mo_search 100 rfl) rfl ?_
    refine x_sipush (dat d_Mo_search 101 rfl) (by decide) (by decide) ?_
    refine x_icmp_ge (tgt := 243) (dat d_Mo_search 102 rfl) (by decide) (fun c_194 => ?_) (fun c_194 => (by omega))
    exact k _
  | succ d ih =>
    intro x hd
    have st : mxG f (x + 1) = if mxG f x < f x then f x else mxG f x := rfl
    have e := hf x (by omega)
    have nx : ∀ y : Int, mxG f (x + 1) = y → Wx g y_Mo_search Z K 189 [vR 174, vI n, vI m, vI w, vI cn, vI bb, vI ll, vI (i : Int), vI y, vI ((x + 1 : Nat) : Int)] [] σ := fun y h => by rw [← h]; exact ih (x + 1) (by omega)
    generalize mxG f x = q at st
    generalize hu : f x = u at st e
    refine x_iload (dat d_Mo_search 100 rfl) rfl ?_
    refine x_sipush (dat d_Mo_search 101 rfl) (by decide) (by decide) ?_
    refine x_icmp_ge (tgt := 243) (dat d_Mo_search 102 rfl) (by decide) (fun c_194 => (by omega)) (fun c_194 => ?_)
    refine x_aload_n (dat d_Mo_search 103 rfl) rfl rfl ?_
    refine x_getr (r := 197) (dat d_Mo_search 104 rfl) rfl f_Mo_78 (or_mk (by decide +kernel)) ?_
    refine x_sipush (dat d_Mo_search 105 rfl) (by decide) (by decide) ?_
    refine x_iload (dat d_Mo_search 106 rfl) rfl ?_
    refine x_imul (v := 272 * (i : Int)) (dat d_Mo_search 107 rfl) (by omega) (by omega) ?_
    refine x_iload (dat d_Mo_search 108 rfl) rfl ?_
    refine x_iadd (v := (272 * (i : Int)) + (x : Int)) (dat d_Mo_search 109 rfl) rfl (by omega) ?_
    refine x_iald (n := 52224) (v := u) (dat d_Mo_search 110 rfl) (ai_mk (by decide +kernel)) (by omega) (by omega) (by exact e) ?_
    refine x_iload (dat d_Mo_search 111 rfl) rfl ?_
    refine x_icmp_le (tgt := 233) (dat d_Mo_search 112 rfl) (by decide) (fun c_213 => ?_) (fun c_213 => ?_)
    · refine x_iload (dat d_Mo_search 122 rfl) rfl ?_
      refine x_istore (L' := [vR 174, vI n, vI m, vI w, vI cn, vI bb, vI ll, vI (i : Int), vI q, vI (x : Int)]) (dat d_Mo_search 123 rfl) (by decide) rfl rfl ?_
      refine x_iinc (v' := ((x + 1 : Nat) : Int)) (L' := [vR 174, vI n, vI m, vI w, vI cn, vI bb, vI ll, vI (i : Int), vI q, vI ((x + 1 : Nat) : Int)]) (dat d_Mo_search 124 rfl) rfl (by decide) rfl (by omega) (by omega) rfl ?_
      refine x_goto (tgt := 189) (dat d_Mo_search 125 rfl) (by decide) ?_
      refine nx _ ?_
      rw [st]
      first
      | rw [if_pos (by omega)]
      | rw [if_neg (by omega)]
    · refine x_aload_n (dat d_Mo_search 113 rfl) rfl rfl ?_
      refine x_getr (r := 197) (dat d_Mo_search 114 rfl) rfl f_Mo_78 (or_mk (by decide +kernel)) ?_
      refine x_sipush (dat d_Mo_search 115 rfl) (by decide) (by decide) ?_
      refine x_iload (dat d_Mo_search 116 rfl) rfl ?_
      refine x_imul (v := 272 * (i : Int)) (dat d_Mo_search 117 rfl) (by omega) (by omega) ?_
      refine x_iload (dat d_Mo_search 118 rfl) rfl ?_
      refine x_iadd (v := (272 * (i : Int)) + (x : Int)) (dat d_Mo_search 119 rfl) rfl (by omega) ?_
      refine x_iald (n := 52224) (v := u) (dat d_Mo_search 120 rfl) (ai_mk (by decide +kernel)) (by omega) (by omega) (by exact e) ?_
      refine x_goto (tgt := 235) (dat d_Mo_search 121 rfl) (by decide) ?_
      refine x_istore (L' := [vR 174, vI n, vI m, vI w, vI cn, vI bb, vI ll, vI (i : Int), vI u, vI (x : Int)]) (dat d_Mo_search 123 rfl) (by decide) rfl rfl ?_
      refine x_iinc (v' := ((x + 1 : Nat) : Int)) (L' := [vR 174, vI n, vI m, vI w, vI cn, vI bb, vI ll, vI (i : Int), vI u, vI ((x + 1 : Nat) : Int)]) (dat d_Mo_search 124 rfl) rfl (by decide) rfl (by omega) (by omega) rfl ?_
      refine x_goto (tgt := 189) (dat d_Mo_search 125 rfl) (by decide) ?_
      refine nx _ ?_
      rw [st]
      first
      | rw [if_pos (by omega)]
      | rw [if_neg (by omega)]
/-- how many places of people lie ahead of place k of eight -/
def ixN (P k : Nat) : Nat := k / 8 * P + (if k % 8 < P then k % 8 else P)
theorem ixN_s {P k : Nat} (hP : P ≤ 8) : ixN P (k + 1) = if k % 8 < P then ixN P k + 1 else ixN P k := by
  unfold ixN
  by_cases z : k % 8 = 7
  · have e1 : (k + 1) / 8 = k / 8 + 1 := by omega
    have e2 : (k + 1) % 8 = 0 := by omega
    rw [e1, e2, Nat.succ_mul, z]
    generalize k / 8 * P = q
    split <;> split <;> omega
  · have e1 : (k + 1) / 8 = k / 8 := by omega
    have e2 : (k + 1) % 8 = k % 8 + 1 := by omega
    rw [e1, e2]
    generalize k / 8 * P = q
    split <;> split <;> omega
theorem ixN_dm {P k : Nat} (h : k % 8 < P) : ((ixN P k : Nat) : Int) / (P : Int) = (k : Int) / 8 ∧ ((ixN P k : Nat) : Int) % (P : Int) = (k : Int) % 8 := by
  have e : ((ixN P k : Nat) : Int) = (k : Int) / 8 * (P : Int) + (k : Int) % 8 := by
    unfold ixN
    rw [if_pos h]
    simp
  rw [e]
  exact swp_dm (by omega) (by omega) (by omega)
end
