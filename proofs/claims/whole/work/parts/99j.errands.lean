/-! the twin's reader: errands */ -/
/-- the row while an errand's cells are told: i of them -/
def rwI (v : Nat → Int) (i : Nat) (r : Int → Int) : Int → Int := fun x => if x = 24 + 17 * v 0 then 0 else if 25 + 17 * v 0 ≤ x ∧ x < 25 + 17 * v 0 + (i : Int) then v (x - (24 + 17 * v 0)).toNat else r x
section
variable {g : xG} {K : Option MV → xS → Prop} {σ σ0 : xS} {T : Int → Int} {n : Int} {x : Rx}
theorem rwI_s {σ : xS} {v : Nat → Int} {i : Nat} {r : Int → Int} {y : Int} (hy : y = 25 + 17 * v 0 + (i : Int)) (h : RwE σ (rwI v i r)) : RwE (up σ 177 y (v (i + 1))) (rwI v (i + 1) r) := fun j j0 j1 => by
  unfold rwI
  by_cases z : j = y
  · rw [z, up_s, if_neg (by omega), if_pos (by omega), show (y - (24 + 17 * v 0)).toNat = i + 1 by omega]
  · rw [up_ni (Ne.symm z), h j j0 j1]
    unfold rwI
    by_cases z0 : j = 24 + 17 * v 0
    · rw [if_pos z0, if_pos z0]
    · rw [if_neg z0, if_neg z0]
      by_cases z1 : 25 + 17 * v 0 ≤ j ∧ j < 25 + 17 * v 0 + (i : Int)
      · rw [if_pos z1, if_pos (by omega)]
      · rw [if_neg z1, if_neg (by omega)]
theorem rwI_e {σ : xS} {v : Nat → Int} {i m : Nat} {r : Int → Int} {y w mn : Int} (hy : y = 24 + 17 * v 0) (hw : w = (i : Int)) (hm : m = i + 1) (h : RwE σ (rwI v i r)) : RwE (up σ 177 y w) (rowL 4 mn v m r) := fun j j0 j1 => by
  show up σ 177 y w 177 j = (if j = 24 + 17 * v 0 then (m : Int) - 1 else if 25 + 17 * v 0 ≤ j ∧ j < 25 + 17 * v 0 + ((m : Int) - 1) then v (j - (24 + 17 * v 0)).toNat else r j)
  by_cases z : j = y
  · rw [z, up_s, if_pos hy, hw]; omega
  · rw [up_ni (Ne.symm z), h j j0 j1]
    unfold rwI
    have z0 : ¬ j = 24 + 17 * v 0 := by omega
    rw [if_neg z0, if_neg z0]
    by_cases z1 : 25 + 17 * v 0 ≤ j ∧ j < 25 + 17 * v 0 + (i : Int)
    · rw [if_pos z1, if_pos (by omega)]
    · rw [if_neg z1, if_neg (by omega)]
/-- one cell more: the fault -/
theorem cell_blm {fp : Int × Int} {q : Int} {f b : Bool} (hb : b = true ↔ ¬ (0 ≤ tkV T n q ∧ tkV T n q ≤ 35)) (hf : fp.1 ≠ 0 → fp.2 < q) (hk : tkK T n q = 1) : nuX T n 0 35 (mrX (!f) q (false, q, fp)) = (false, nxt T n q, blm (blm fp b 2 q) f 3 q) := by
  have nz : ¬ (false = true ∨ tkK T n q ≠ 1) := fun w => w.elim (fun y => Bool.noConfusion y) (fun y => y hk)
  cases f with
  | false =>
    have e : mrX (!false) q (false, q, fp) = (false, q, fp) := rfl
    rw [e]
    show (if false = true ∨ tkK T n q ≠ 1 then brX (false, q, fp) else (false, nxt T n q, if 0 ≤ tkV T n q ∧ tkV T n q ≤ 35 then fp else alsoF fp 2 q)) = _
    rw [if_neg nz, nu_blm hb hf, blm_ff (fp := blm fp b 2 q) rfl]
  | true =>
    have e : mrX (!true) q (false, q, fp) = (false, q, alsoF fp 3 q) := rfl
    rw [e]
    show (if false = true ∨ tkK T n q ≠ 1 then brX (false, q, alsoF fp 3 q) else (false, nxt T n q, if 0 ≤ tkV T n q ∧ tkV T n q ≤ 35 then alsoF fp 3 q else alsoF (alsoF fp 3 q) 2 q)) = _
    rw [if_neg nz, also_blm hf]
    by_cases z : fp.1 = 0
    · have e3 : blm fp true 3 q = (3, q) := blm_t z rfl
      rw [e3]
      by_cases y : 0 ≤ tkV T n q ∧ tkV T n q ≤ 35
      · have bf : b = false := by
          cases b with
          | false => rfl
          | true => exact absurd y (hb.mp rfl)
        rw [if_pos y, blm_ff bf, e3]
      · rw [if_neg y, blm_t z (hb.mpr y), blm_n (show ((2 : Int), q).1 ≠ 0 from (by decide : (2 : Int) ≠ 0))]
        have : alsoF ((3 : Int), q) 2 q = (2, q) := by
          unfold alsoF
          rw [if_neg (fun w => by have := w.2; omega)]
        rw [this]
    · have e3 : ∀ (b : Bool) (k : Int), blm fp b k q = fp := fun b k => blm_n z
      rw [e3, e3, e3]
      have e4 : alsoF fp 2 q = fp := by
        unfold alsoF
        rw [if_pos ⟨z, Or.inl (hf z)⟩]
      rw [e4]
      split <;> rfl
theorem sp_Mo_errandLine {q1 gp gc mn : Int} {fp : Int × Int} {r : Int → Int} {e : Nat} (H : RX σ T n (false, q1, fp)) (B : BnR σ 0) (hf : fp.1 ≠ 0 → fp.2 < q1) (he : e = nrun T n 600 q1) (h6 : e < 600) (hE : fp.1 = 0 → (σ 174 9 = gp ∧ σ 174 10 = gc) ∧ RwE σ r)
    (k2 : 2 ≤ e → ∀ σ' : xS, RX σ' T n (false, qit T n q1 e, fpN T n 4 q1 fp e) → BnR σ' 0 → LnF σ' σ → ((fpN T n 4 q1 fp e).1 = 0 → (σ' 174 9 = gpN T n 4 q1 gp e ∧ σ' 174 10 = gcN T n 4 q1 gc e) ∧ RwE σ' (rowL 4 mn (fun j => tkV T n (qit T n q1 j)) e r)) → K none σ')
    (k0 : e < 2 → ∀ (σ' : xS) (f : Int × Int), RX σ' T n (true, qit T n q1 e, f) → BnR σ' 0 → LnF σ' σ → K none σ') : Mt g y_Mo_errandLine [vR 174] σ K := by
  have hin : ∀ i : Nat, i < e → tkK T n (qit T n q1 i) = 1 := fun i hi => nrun_in T n 600 q1 i (by rw [← he]; exact hi)
  have hend : tkK T n (qit T n q1 e) ≠ 1 := by
    have := nrun_end T n 600 q1 (by rw [← he]; exact h6)
    rw [← he] at this
    exact this
  have hlt := fun j => fpN_lt (l := 4) (fp := fp) hin hf j
  have bst : ∀ (σ : xS) (y w : Int), BnR σ 0 → 24 ≤ y → BnR (up σ 177 y w) 0 := fun σ y w b y0 => b.st ⟨fun _ => by omega, fun z => absurd z (by decide)⟩
  -- broken off: out
  have out : ∀ (Z : xZ) (σ1 : xS) (y i : Int) (f : Int × Int) (w3 : MV), e < 2 → RX σ1 T n (true, qit T n q1 e, f) → BnR σ1 0 → LnF σ1 σ → 24 ≤ y → y ≤ 170 → 0 ≤ i → i ≤ 601 → Wx g y_Mo_errandLine Z K 22 [vR 174, vI y, vI i, w3] [] σ1 := by
    intro Z σ1 y i f w3 h2 H1 B1 F1 y0 y1 i0 i1
    have e8 := (H1.2.2 rfl).1
    refine x_aload_n (dat d_Mo_errandLine 16 rfl) rfl rfl ?_
    refine x_geti (ji := 8) (v := 1) (dat d_Mo_errandLine 17 rfl) rfl f_Mo_129 (oi_mk (by decide +kernel)) (e8) ?_
    refine x_if_ne (tgt := 84) (dat d_Mo_errandLine 18 rfl) (by decide) (fun c_26 => ?_) (fun h => absurd h (by decide))
    refine x_aload_n (dat d_Mo_errandLine 50 rfl) rfl rfl ?_
    refine x_getr (r := 177) (dat d_Mo_errandLine 51 rfl) rfl f_Mo_17 (or_mk (by decide +kernel)) ?_
    refine x_iload_n (dat d_Mo_errandLine 52 rfl) rfl rfl ?_
    refine x_iload_n (dat d_Mo_errandLine 53 rfl) rfl rfl ?_
    refine x_bipush (dat d_Mo_errandLine 54 rfl) (by decide) (by decide) ?_
    refine x_icmp_le (tgt := 100) (dat d_Mo_errandLine 55 rfl) (by decide) (fun c_92 => ?_) (fun c_92 => ?_)
    · refine x_iload_n (dat d_Mo_errandLine 58 rfl) rfl rfl ?_
      refine x_iast (n := 190) (dat d_Mo_errandLine 59 rfl) (ai_mk (by decide +kernel)) (by omega) (by omega) ?_
      refine x_ret (dat d_Mo_errandLine 60 rfl) rfl ?_
      exact k0 h2 _ f H1.r177 (bst _ _ _ B1 y0) (F1.row _ _)
    · refine x_bipush (dat d_Mo_errandLine 56 rfl) (by decide) (by decide) ?_
      refine x_goto (tgt := 101) (dat d_Mo_errandLine 57 rfl) (by decide) ?_
      refine x_iast (n := 190) (dat d_Mo_errandLine 59 rfl) (ai_mk (by decide +kernel)) (by omega) (by omega) ?_
      refine x_ret (dat d_Mo_errandLine 60 rfl) rfl ?_
      exact k0 h2 _ f H1.r177 (bst _ _ _ B1 y0) (F1.row _ _)
  have lp : ∀ (Z : xZ) (y v0 : Int), y = 24 + 17 * v0 → 0 ≤ v0 → v0 ≤ 7 → 1 ≤ e → (0 ≤ tkV T n q1 ∧ tkV T n q1 ≤ 7 → v0 = tkV T n q1) → ∀ (d i : Nat) (σ1 : xS) (w3 : MV), i + 1 + d = e → RX σ1 T n (false, qit T n q1 (i + 1), fpN T n 4 q1 fp (i + 1)) → BnR σ1 0 → LnF σ1 σ → ((fpN T n 4 q1 fp (i + 1)).1 = 0 → (σ1 174 9 = gpN T n 4 q1 gp (i + 1) ∧ σ1 174 10 = gcN T n 4 q1 gc (i + 1)) ∧ RwE σ1 (rwI (fun j => tkV T n (qit T n q1 j)) i r)) → Wx g y_Mo_errandLine Z K 22 [vR 174, vI y, vI (i : Int), w3] [] σ1 := by
    intro Z y v0 hy v00 v01 e1 hv d
    induction d with
    | zero =>
      intro i σ1 w3 hd H1 B1 F1 E1
      have ei : i + 1 = e := by omega
      rw [ei] at H1 E1
      obtain ⟨-, -, D, e8, -⟩ := H1.at
      have e5 := D.1.2.1
      by_cases i0 : i = 0
      · have ce : mrX true (qit T n q1 e) (false, qit T n q1 e, fpN T n 4 q1 fp e) = (false, qit T n q1 e, fpN T n 4 q1 fp e) := rfl
        have nb := nuX_bk (T := T) (n := n) (lo := 0) (hi := 35) (fp := fpN T n 4 q1 fp e) hend
        rw [i0]
        refine x_aload_n (dat d_Mo_errandLine 16 rfl) rfl rfl ?_
        refine x_geti (ji := 8) (v := 0) (dat d_Mo_errandLine 17 rfl) rfl f_Mo_129 (oi_mk (by decide +kernel)) (e8) ?_
        refine x_if_ne (tgt := 84) (dat d_Mo_errandLine 18 rfl) (by decide) (fun h => absurd h (by decide)) (fun c_26 => ?_)
        refine x_iload_n (dat d_Mo_errandLine 19 rfl) rfl rfl ?_
        refine x_if_eq (tgt := 41) (dat d_Mo_errandLine 20 rfl) (by decide) (fun c_30 => ?_) (fun c_30 => (by omega))
        refine x_iload_n (dat d_Mo_errandLine 25 rfl) rfl rfl ?_
        refine x_bipush (dat d_Mo_errandLine 26 rfl) (by decide) (by decide) ?_
        refine x_icmp_lt (tgt := 56) (dat d_Mo_errandLine 27 rfl) (by decide) (fun c_44 => ?_) (fun c_44 => (by omega))
        refine x_aload_n (dat d_Mo_errandLine 33 rfl) rfl rfl ?_
        refine x_inv (As := []) (dat d_Mo_errandLine 34 rfl) rfl c_Mo_cellTold l_Mo_157 (by decide) (rv_mo (by decide +kernel)) rfl rfl (Nat.le_of_ble_eq_true rfl) ?_
        refine sp_Mo_cellTold H1 (fun σ2 H2 g10 g9 F2 => ?_)
        rw [nb] at H2
        generalize nuV T n 0 35 (false, qit T n q1 e, fpN T n 4 q1 fp e) = c
        show Wx g y_Mo_errandLine Z K 60 [vR 174, vI y, vI ((0 : Nat) : Int), w3] [vI c] σ2
        refine x_istore_n (L' := [vR 174, vI y, vI ((0 : Nat) : Int), vI c]) (dat d_Mo_errandLine 35 rfl) rfl (by decide) rfl rfl ?_
        refine x_iload_n (dat d_Mo_errandLine 36 rfl) rfl rfl ?_
        refine x_bipush (dat d_Mo_errandLine 37 rfl) (by decide) (by decide) ?_
        refine x_icmp_ge (tgt := 78) (dat d_Mo_errandLine 38 rfl) (by decide) (fun c_64 => (by omega)) (fun c_64 => ?_)
        refine x_aload_n (dat d_Mo_errandLine 39 rfl) rfl rfl ?_
        refine x_getr (r := 177) (dat d_Mo_errandLine 40 rfl) rfl f_Mo_17 (or_mk (by decide +kernel)) ?_
        refine x_iload_n (dat d_Mo_errandLine 41 rfl) rfl rfl ?_
        refine x_iconst (dat d_Mo_errandLine 42 rfl) (by decide) ?_
        refine x_iadd (v := y + 1) (dat d_Mo_errandLine 43 rfl) rfl (by omega) ?_
        refine x_iload_n (dat d_Mo_errandLine 44 rfl) rfl rfl ?_
        refine x_iadd (v := (y + 1) + ((0 : Nat) : Int)) (dat d_Mo_errandLine 45 rfl) rfl (by omega) ?_
        refine x_iload_n (dat d_Mo_errandLine 46 rfl) rfl rfl ?_
        refine x_iast (n := 190) (dat d_Mo_errandLine 47 rfl) (ai_mk (by decide +kernel)) (by omega) (by omega) ?_
        refine x_iinc (v' := ((0 : Nat) : Int) + 1) (L' := [vR 174, vI y, vI (((0 : Nat) : Int) + 1), vI c]) (dat d_Mo_errandLine 48 rfl) rfl (by decide) rfl rfl (by omega) rfl ?_
        refine x_goto (tgt := 22) (dat d_Mo_errandLine 49 rfl) (by decide) ?_
        exact out Z _ y _ _ _ (by omega) H2.r177 (bst _ _ _ (B1.same (F2.2.2 177 (by decide) (by decide))) (by omega)) ((F1.trans F2.ln).row _ _) (by omega) (by omega) (by omega) (by omega)
      · have fin : ∀ w : Int, (i ≤ 12 → w = (i : Int)) → K none (up σ1 177 y w) := fun w hw => by
          refine k2 (by omega) _ H1.r177 (bst _ _ _ B1 (by omega)) (F1.row _ _) (fun z => ?_)
          have ok := fpN_ok e z
          have b0 := badN_0 (ok.2.2 0 (by omega)).1
          have b1 := (ok.2.2 (e - 1) (by omega)).2
          obtain ⟨⟨g9, g10⟩, gr⟩ := E1 z
          have l0 : loT 4 0 = 0 ∧ hiT 4 0 = 7 := by decide
          have t0 : qit T n q1 0 = q1 := rfl
          rw [l0.1, l0.2, t0] at b0
          have v2 := hv ⟨b0.1, b0.2.1⟩
          exact ⟨⟨by rw [up_ne (by decide)]; exact g9, by rw [up_ne (by decide)]; exact g10⟩, rwI_e (by rw [hy, v2]; rfl) (hw (by omega)) (by omega) gr⟩
        refine x_aload_n (dat d_Mo_errandLine 16 rfl) rfl rfl ?_
        refine x_geti (ji := 8) (v := 0) (dat d_Mo_errandLine 17 rfl) rfl f_Mo_129 (oi_mk (by decide +kernel)) (e8) ?_
        refine x_if_ne (tgt := 84) (dat d_Mo_errandLine 18 rfl) (by decide) (fun h => absurd h (by decide)) (fun c_26 => ?_)
        refine x_iload_n (dat d_Mo_errandLine 19 rfl) rfl rfl ?_
        refine x_if_eq (tgt := 41) (dat d_Mo_errandLine 20 rfl) (by decide) (fun c_30 => (by omega)) (fun c_30 => ?_)
        refine x_aload_n (dat d_Mo_errandLine 21 rfl) rfl rfl ?_
        refine x_geti (ji := 5) (v := tkK T n (qit T n q1 e)) (dat d_Mo_errandLine 22 rfl) rfl f_Mo_105 (oi_mk (by decide +kernel)) (e5) ?_
        refine x_iconst (dat d_Mo_errandLine 23 rfl) (by decide) ?_
        refine x_icmp_ne (tgt := 84) (dat d_Mo_errandLine 24 rfl) (by decide) (fun c_38 => ?_) (fun c_38 => (by omega))
        refine x_aload_n (dat d_Mo_errandLine 50 rfl) rfl rfl ?_
        refine x_getr (r := 177) (dat d_Mo_errandLine 51 rfl) rfl f_Mo_17 (or_mk (by decide +kernel)) ?_
        refine x_iload_n (dat d_Mo_errandLine 52 rfl) rfl rfl ?_
        refine x_iload_n (dat d_Mo_errandLine 53 rfl) rfl rfl ?_
        refine x_bipush (dat d_Mo_errandLine 54 rfl) (by decide) (by decide) ?_
        refine x_icmp_le (tgt := 100) (dat d_Mo_errandLine 55 rfl) (by decide) (fun c_92 => ?_) (fun c_92 => ?_)
        · refine x_iload_n (dat d_Mo_errandLine 58 rfl) rfl rfl ?_
          refine x_iast (n := 190) (dat d_Mo_errandLine 59 rfl) (ai_mk (by decide +kernel)) (by omega) (by omega) ?_
          refine x_ret (dat d_Mo_errandLine 60 rfl) rfl ?_
          first
          | exact fin _ (fun z => by omega)
          | exact fin _ (fun _ => rfl)
        · refine x_bipush (dat d_Mo_errandLine 56 rfl) (by decide) (by decide) ?_
          refine x_goto (tgt := 101) (dat d_Mo_errandLine 57 rfl) (by decide) ?_
          refine x_iast (n := 190) (dat d_Mo_errandLine 59 rfl) (ai_mk (by decide +kernel)) (by omega) (by omega) ?_
          refine x_ret (dat d_Mo_errandLine 60 rfl) rfl ?_
          first
          | exact fin _ (fun z => by omega)
          | exact fin _ (fun _ => rfl)
    | succ d ih =>
      intro i σ1 w3 hd H1 B1 F1 E1
      obtain ⟨-, -, D, e8, -⟩ := H1.at
      have e5 := D.1.2.1
      have e4 := D.1.1
      have hk := hin (i + 1) (by omega)
      have b6 : badN T n 4 q1 (i + 1) = true ↔ ¬ (0 ≤ tkV T n (qit T n q1 (i + 1)) ∧ tkV T n (qit T n q1 (i + 1)) ≤ 35) := by
        have l1 : loT 4 (i + 1) = 0 ∧ hiT 4 (i + 1) = 35 := by
          unfold loT hiT
          by_cases z : i + 1 < 2
          · rw [if_pos z, show i + 1 = 1 by omega]; decide
          · rw [if_neg z]; decide
        have := bad_iff (T := T) (n := n) (l := 4) (q1 := q1) (j := i + 1) (by decide)
        rw [l1.1, l1.2] at this
        exact this
      have cb := cell_blm (T := T) (n := n) (f := decide (13 ≤ i + 1)) b6 (hlt (i + 1) (by omega)) hk
      have sf : fpN T n 4 q1 fp (i + 1 + 1) = blm (blm (fpN T n 4 q1 fp (i + 1)) (badN T n 4 q1 (i + 1)) 2 (qit T n q1 (i + 1))) (decide (13 ≤ i + 1)) 3 (qit T n q1 (i + 1)) := rfl
      have sq : qit T n q1 (i + 1 + 1) = nxt T n (qit T n q1 (i + 1)) := rfl
      rw [← sf, ← sq] at cb
      have nx : ∀ (σ2 σ3 : xS) (c : Int) (w3 : MV), RX σ2 T n (false, qit T n q1 (i + 1 + 1), fpN T n 4 q1 fp (i + 1 + 1)) → σ2 174 10 = imax (σ1 174 10) c → σ2 174 9 = σ1 174 9 → σ2 177 = σ1 177 → LnF σ2 σ → ((0 ≤ tkV T n (qit T n q1 (i + 1)) ∧ tkV T n (qit T n q1 (i + 1)) ≤ 35) → c = tkV T n (qit T n q1 (i + 1))) → (i < 12 → σ3 = up σ2 177 (y + 1 + (i : Int)) c) → (¬ i < 12 → σ3 = σ2) → Wx g y_Mo_errandLine Z K 22 [vR 174, vI y, vI ((i + 1 : Nat) : Int), w3] [] σ3 := by
        intro σ2 σ3 c w3 H2 g10 g9 g177 F2 hc s1 s2
        have ok0 : (fpN T n 4 q1 fp (i + 1 + 1)).1 = 0 → (fpN T n 4 q1 fp (i + 1)).1 = 0 ∧ i < 12 ∧ (0 ≤ tkV T n (qit T n q1 (i + 1)) ∧ tkV T n (qit T n q1 (i + 1)) ≤ 35) ∧ v0 = tkV T n q1 := fun z => by
          have ok := fpN_ok (i + 1 + 1) z
          have ok1 := ok.2.2 (i + 1) (by omega)
          have b0 := badN_0 (ok.2.2 0 (by omega)).1
          have l0 : loT 4 0 = 0 ∧ hiT 4 0 = 7 := by decide
          have t0 : qit T n q1 0 = q1 := rfl
          rw [l0.1, l0.2, t0] at b0
          refine ⟨(blm_0 (k := 2) (by decide) (blm_0 (k := 3) (by decide) (by rw [← sf]; exact z)).1).1, by omega, ?_, hv ⟨b0.1, b0.2.1⟩⟩
          by_cases y : 0 ≤ tkV T n (qit T n q1 (i + 1)) ∧ tkV T n (qit T n q1 (i + 1)) ≤ 35
          · exact y
          · have := b6.mpr y
            rw [ok1.1] at this
            exact Bool.noConfusion this
        have gg : (fpN T n 4 q1 fp (i + 1 + 1)).1 = 0 → (σ2 174 9 = gpN T n 4 q1 gp (i + 1 + 1) ∧ σ2 174 10 = gcN T n 4 q1 gc (i + 1 + 1)) := fun z => by
          obtain ⟨z1, z2, z3, z4⟩ := ok0 z
          obtain ⟨⟨f9, f10⟩, fr⟩ := E1 z1
          have a9 : gpN T n 4 q1 gp (i + 1 + 1) = gpN T n 4 q1 gp (i + 1) := if_neg (fun w => by omega)
          have a10 : gcN T n 4 q1 gc (i + 1 + 1) = imax (gcN T n 4 q1 gc (i + 1)) (tkV T n (qit T n q1 (i + 1))) := if_pos (Or.inr ⟨by omega, rfl⟩)
          exact ⟨by rw [g9, f9, a9], by rw [g10, f10, a10, hc z3]⟩
        by_cases z : i < 12
        · rw [s1 z]
          refine ih (i + 1) _ w3 (by omega) H2.r177 (bst _ _ _ (B1.same g177) (by omega)) (F2.row _ _) (fun w => ?_)
          obtain ⟨z1, z2, z3, z4⟩ := ok0 w
          have g := gg w
          refine ⟨⟨by rw [up_ne (by decide)]; exact g.1, by rw [up_ne (by decide)]; exact g.2⟩, ?_⟩
          rw [hc z3]
          exact rwI_s (v := fun j => tkV T n (qit T n q1 j)) (by rw [hy, z4]; show 24 + 17 * tkV T n q1 + 1 + (i : Int) = 25 + 17 * tkV T n q1 + (i : Int); omega) ((E1 z1).2.same g177)
        · rw [s2 z]
          refine ih (i + 1) _ w3 (by omega) H2 (B1.same g177) F2 (fun w => ?_)
          have := (ok0 w).2.1
          omega
      clear ih
      by_cases hfu : i < 12
      · have cb : nuX T n 0 35 (false, qit T n q1 (i + 1), fpN T n 4 q1 fp (i + 1)) = (false, qit T n q1 (i + 1 + 1), fpN T n 4 q1 fp (i + 1 + 1)) := by
          rw [decide_eq_false (show ¬ 13 ≤ i + 1 by omega)] at cb
          exact cb
        have vc := fun z => nuV_ok (T := T) (n := n) (lo := 0) (hi := 35) (fp := fpN T n 4 q1 fp (i + 1)) hk z
        refine x_aload_n (dat d_Mo_errandLine 16 rfl) rfl rfl ?_
        refine x_geti (ji := 8) (v := 0) (dat d_Mo_errandLine 17 rfl) rfl f_Mo_129 (oi_mk (by decide +kernel)) (e8) ?_
        refine x_if_ne (tgt := 84) (dat d_Mo_errandLine 18 rfl) (by decide) (fun h => absurd h (by decide)) (fun c_26 => ?_)
        refine x_iload_n (dat d_Mo_errandLine 19 rfl) rfl rfl ?_
        refine x_if_eq (tgt := 41) (dat d_Mo_errandLine 20 rfl) (by decide) (fun c_30 => ?_) (fun c_30 => ?_)
        · refine x_iload_n (dat d_Mo_errandLine 25 rfl) rfl rfl ?_
          refine x_bipush (dat d_Mo_errandLine 26 rfl) (by decide) (by decide) ?_
          refine x_icmp_lt (tgt := 56) (dat d_Mo_errandLine 27 rfl) (by decide) (fun c_44 => ?_) (fun c_44 => (by omega))
          refine x_aload_n (dat d_Mo_errandLine 33 rfl) rfl rfl ?_
          refine x_inv (As := []) (dat d_Mo_errandLine 34 rfl) rfl c_Mo_cellTold l_Mo_157 (by decide) (rv_mo (by decide +kernel)) rfl rfl (Nat.le_of_ble_eq_true rfl) ?_
          refine sp_Mo_cellTold H1 (fun σ2 H2 g10 g9 F2 => ?_)
          rw [cb] at H2
          generalize nuV T n 0 35 (false, qit T n q1 (i + 1), fpN T n 4 q1 fp (i + 1)) = c at g10 vc
          show Wx g y_Mo_errandLine Z K 60 [vR 174, vI y, vI (i : Int), w3] [vI c] σ2
          refine x_istore_n (L' := [vR 174, vI y, vI (i : Int), vI c]) (dat d_Mo_errandLine 35 rfl) rfl (by decide) rfl rfl ?_
          refine x_iload_n (dat d_Mo_errandLine 36 rfl) rfl rfl ?_
          refine x_bipush (dat d_Mo_errandLine 37 rfl) (by decide) (by decide) ?_
          refine x_icmp_ge (tgt := 78) (dat d_Mo_errandLine 38 rfl) (by decide) (fun c_64 => (by omega)) (fun c_64 => ?_)
          refine x_aload_n (dat d_Mo_errandLine 39 rfl) rfl rfl ?_
          refine x_getr (r := 177) (dat d_Mo_errandLine 40 rfl) rfl f_Mo_17 (or_mk (by decide +kernel)) ?_
          refine x_iload_n (dat d_Mo_errandLine 41 rfl) rfl rfl ?_
          refine x_iconst (dat d_Mo_errandLine 42 rfl) (by decide) ?_
          refine x_iadd (v := y + 1) (dat d_Mo_errandLine 43 rfl) rfl (by omega) ?_
          refine x_iload_n (dat d_Mo_errandLine 44 rfl) rfl rfl ?_
          refine x_iadd (v := (y + 1) + (i : Int)) (dat d_Mo_errandLine 45 rfl) rfl (by omega) ?_
          refine x_iload_n (dat d_Mo_errandLine 46 rfl) rfl rfl ?_
          refine x_iast (n := 190) (dat d_Mo_errandLine 47 rfl) (ai_mk (by decide +kernel)) (by omega) (by omega) ?_
          refine x_iinc (v' := ((i + 1 : Nat) : Int)) (L' := [vR 174, vI y, vI ((i + 1 : Nat) : Int), vI c]) (dat d_Mo_errandLine 48 rfl) rfl (by decide) rfl (by omega) (by omega) rfl ?_
          refine x_goto (tgt := 22) (dat d_Mo_errandLine 49 rfl) (by decide) ?_
          exact nx σ2 _ c _ H2 g10 g9 (F2.2.2 177 (by decide) (by decide)) (F1.trans F2.ln) vc (fun _ => rfl) (fun z => absurd hfu z)
        · refine x_aload_n (dat d_Mo_errandLine 21 rfl) rfl rfl ?_
          refine x_geti (ji := 5) (v := tkK T n (qit T n q1 (i + 1))) (dat d_Mo_errandLine 22 rfl) rfl f_Mo_105 (oi_mk (by decide +kernel)) (e5) ?_
          refine x_iconst (dat d_Mo_errandLine 23 rfl) (by decide) ?_
          refine x_icmp_ne (tgt := 84) (dat d_Mo_errandLine 24 rfl) (by decide) (fun c_38 => (by omega)) (fun c_38 => ?_)
          refine x_iload_n (dat d_Mo_errandLine 25 rfl) rfl rfl ?_
          refine x_bipush (dat d_Mo_errandLine 26 rfl) (by decide) (by decide) ?_
          refine x_icmp_lt (tgt := 56) (dat d_Mo_errandLine 27 rfl) (by decide) (fun c_44 => ?_) (fun c_44 => (by omega))
          refine x_aload_n (dat d_Mo_errandLine 33 rfl) rfl rfl ?_
          refine x_inv (As := []) (dat d_Mo_errandLine 34 rfl) rfl c_Mo_cellTold l_Mo_157 (by decide) (rv_mo (by decide +kernel)) rfl rfl (Nat.le_of_ble_eq_true rfl) ?_
          refine sp_Mo_cellTold H1 (fun σ2 H2 g10 g9 F2 => ?_)
          rw [cb] at H2
          generalize nuV T n 0 35 (false, qit T n q1 (i + 1), fpN T n 4 q1 fp (i + 1)) = c at g10 vc
          show Wx g y_Mo_errandLine Z K 60 [vR 174, vI y, vI (i : Int), w3] [vI c] σ2
          refine x_istore_n (L' := [vR 174, vI y, vI (i : Int), vI c]) (dat d_Mo_errandLine 35 rfl) rfl (by decide) rfl rfl ?_
          refine x_iload_n (dat d_Mo_errandLine 36 rfl) rfl rfl ?_
          refine x_bipush (dat d_Mo_errandLine 37 rfl) (by decide) (by decide) ?_
          refine x_icmp_ge (tgt := 78) (dat d_Mo_errandLine 38 rfl) (by decide) (fun c_64 => (by omega)) (fun c_64 => ?_)
          refine x_aload_n (dat d_Mo_errandLine 39 rfl) rfl rfl ?_
          refine x_getr (r := 177) (dat d_Mo_errandLine 40 rfl) rfl f_Mo_17 (or_mk (by decide +kernel)) ?_
          refine x_iload_n (dat d_Mo_errandLine 41 rfl) rfl rfl ?_
          refine x_iconst (dat d_Mo_errandLine 42 rfl) (by decide) ?_
          refine x_iadd (v := y + 1) (dat d_Mo_errandLine 43 rfl) rfl (by omega) ?_
          refine x_iload_n (dat d_Mo_errandLine 44 rfl) rfl rfl ?_
          refine x_iadd (v := (y + 1) + (i : Int)) (dat d_Mo_errandLine 45 rfl) rfl (by omega) ?_
          refine x_iload_n (dat d_Mo_errandLine 46 rfl) rfl rfl ?_
          refine x_iast (n := 190) (dat d_Mo_errandLine 47 rfl) (ai_mk (by decide +kernel)) (by omega) (by omega) ?_
          refine x_iinc (v' := ((i + 1 : Nat) : Int)) (L' := [vR 174, vI y, vI ((i + 1 : Nat) : Int), vI c]) (dat d_Mo_errandLine 48 rfl) rfl (by decide) rfl (by omega) (by omega) rfl ?_
          refine x_goto (tgt := 22) (dat d_Mo_errandLine 49 rfl) (by decide) ?_
          exact nx σ2 _ c _ H2 g10 g9 (F2.2.2 177 (by decide) (by decide)) (F1.trans F2.ln) vc (fun _ => rfl) (fun z => absurd hfu z)
      · have cb : nuX T n 0 35 (alX 3 (qit T n q1 (i + 1)) (false, qit T n q1 (i + 1), fpN T n 4 q1 fp (i + 1))) = (false, qit T n q1 (i + 1 + 1), fpN T n 4 q1 fp (i + 1 + 1)) := by
          rw [decide_eq_true (show 13 ≤ i + 1 by omega)] at cb
          exact cb
        have vc : (0 ≤ tkV T n (qit T n q1 (i + 1)) ∧ tkV T n (qit T n q1 (i + 1)) ≤ 35) → nuV T n 0 35 (alX 3 (qit T n q1 (i + 1)) (false, qit T n q1 (i + 1), fpN T n 4 q1 fp (i + 1))) = tkV T n (qit T n q1 (i + 1)) := fun z => nuV_ok (T := T) (n := n) (lo := 0) (hi := 35) (fp := alsoF (fpN T n 4 q1 fp (i + 1)) 3 (qit T n q1 (i + 1))) hk z
        refine x_aload_n (dat d_Mo_errandLine 16 rfl) rfl rfl ?_
        refine x_geti (ji := 8) (v := 0) (dat d_Mo_errandLine 17 rfl) rfl f_Mo_129 (oi_mk (by decide +kernel)) (e8) ?_
        refine x_if_ne (tgt := 84) (dat d_Mo_errandLine 18 rfl) (by decide) (fun h => absurd h (by decide)) (fun c_26 => ?_)
        refine x_iload_n (dat d_Mo_errandLine 19 rfl) rfl rfl ?_
        refine x_if_eq (tgt := 41) (dat d_Mo_errandLine 20 rfl) (by decide) (fun c_30 => (by omega)) (fun c_30 => ?_)
        refine x_aload_n (dat d_Mo_errandLine 21 rfl) rfl rfl ?_
        refine x_geti (ji := 5) (v := tkK T n (qit T n q1 (i + 1))) (dat d_Mo_errandLine 22 rfl) rfl f_Mo_105 (oi_mk (by decide +kernel)) (e5) ?_
        refine x_iconst (dat d_Mo_errandLine 23 rfl) (by decide) ?_
        refine x_icmp_ne (tgt := 84) (dat d_Mo_errandLine 24 rfl) (by decide) (fun c_38 => (by omega)) (fun c_38 => ?_)
        refine x_iload_n (dat d_Mo_errandLine 25 rfl) rfl rfl ?_
        refine x_bipush (dat d_Mo_errandLine 26 rfl) (by decide) (by decide) ?_
        refine x_icmp_lt (tgt := 56) (dat d_Mo_errandLine 27 rfl) (by decide) (fun c_44 => (by omega)) (fun c_44 => ?_)
        refine x_aload_n (dat d_Mo_errandLine 28 rfl) rfl rfl ?_
        refine x_iconst (dat d_Mo_errandLine 29 rfl) (by decide) ?_
        refine x_aload_n (dat d_Mo_errandLine 30 rfl) rfl rfl ?_
        refine x_geti (ji := 4) (v := qit T n q1 (i + 1)) (dat d_Mo_errandLine 31 rfl) rfl f_Mo_102 (oi_mk (by decide +kernel)) (e4) ?_
        refine x_inv (As := [vI 3, vI (qit T n q1 (i + 1))]) (dat d_Mo_errandLine 32 rfl) rfl c_Mo_also l_Mo_140 (by decide) (rv_mo (by decide +kernel)) rfl rfl (Nat.le_of_ble_eq_true rfl) ?_
        refine sp_Mo_also H1 (by decide) (fun σ0 H0 F0 => ?_)
        show Wx g y_Mo_errandLine Z K 56 [vR 174, vI y, vI (i : Int), w3] [] σ0
        refine x_aload_n (dat d_Mo_errandLine 33 rfl) rfl rfl ?_
        refine x_inv (As := []) (dat d_Mo_errandLine 34 rfl) rfl c_Mo_cellTold l_Mo_157 (by decide) (rv_mo (by decide +kernel)) rfl rfl (Nat.le_of_ble_eq_true rfl) ?_
        refine sp_Mo_cellTold H0 (fun σ2 H2 g10 g9 F2 => ?_)
        rw [cb] at H2
        rw [F0.1 10 (by decide)] at g10
        rw [F0.1 9 (by decide)] at g9
        generalize nuV T n 0 35 (alX 3 (qit T n q1 (i + 1)) (false, qit T n q1 (i + 1), fpN T n 4 q1 fp (i + 1))) = c at g10 vc
        show Wx g y_Mo_errandLine Z K 60 [vR 174, vI y, vI (i : Int), w3] [vI c] σ2
        refine x_istore_n (L' := [vR 174, vI y, vI (i : Int), vI c]) (dat d_Mo_errandLine 35 rfl) rfl (by decide) rfl rfl ?_
        refine x_iload_n (dat d_Mo_errandLine 36 rfl) rfl rfl ?_
        refine x_bipush (dat d_Mo_errandLine 37 rfl) (by decide) (by decide) ?_
        refine x_icmp_ge (tgt := 78) (dat d_Mo_errandLine 38 rfl) (by decide) (fun c_64 => ?_) (fun c_64 => (by omega))
        refine x_iinc (v' := ((i + 1 : Nat) : Int)) (L' := [vR 174, vI y, vI ((i + 1 : Nat) : Int), vI c]) (dat d_Mo_errandLine 48 rfl) rfl (by decide) rfl (by omega) (by omega) rfl ?_
        refine x_goto (tgt := 22) (dat d_Mo_errandLine 49 rfl) (by decide) ?_
        exact nx σ2 _ c _ H2 g10 g9 (by rw [F2.2.2 177 (by decide) (by decide), F0.2.2 177 (by decide) (by decide)]) ((F1.trans F0.ry.ln).trans F2.ln) vc (fun z => absurd z hfu) (fun _ => rfl)
  refine x_enter 3 rfl rfl rfl (fun Z => ?_)
  show Wx g y_Mo_errandLine Z K 0 [vR 174, vU, vU, vU] [] σ
  refine x_bipush (dat d_Mo_errandLine 0 rfl) (by decide) (by decide) ?_
  refine x_bipush (dat d_Mo_errandLine 1 rfl) (by decide) (by decide) ?_
  refine x_aload_n (dat d_Mo_errandLine 2 rfl) rfl rfl ?_
  refine x_inv (As := []) (dat d_Mo_errandLine 3 rfl) rfl c_Mo_who l_Mo_161 (by decide) (rv_mo (by decide +kernel)) rfl rfl (Nat.le_of_ble_eq_true rfl) ?_
  refine sp_Mo_who H (fun σ1 H1 g9 g10 F1 => ?_)
  have v0b := nuV_in (T := T) (n := n) (lo := 0) (hi := 7) (by decide) (false, q1, fp)
  have e177 := F1.2.2 177 (by decide) (by decide)
  have hv : tkK T n q1 = 1 → (0 ≤ tkV T n q1 ∧ tkV T n q1 ≤ 7) → nuV T n 0 7 (false, q1, fp) = tkV T n q1 := fun a b => nuV_ok a b
  generalize nuV T n 0 7 (false, q1, fp) = v0 at g9 v0b hv
  show Wx g y_Mo_errandLine Z K 8 [vR 174, vU, vU, vU] [vI v0, vI 17, vI 20] σ1
  refine x_imul (v := 17 * v0) (dat d_Mo_errandLine 4 rfl) (by omega) (by omega) ?_
  refine x_iadd (v := 20 + (17 * v0)) (dat d_Mo_errandLine 5 rfl) rfl (by omega) ?_
  refine x_iconst (dat d_Mo_errandLine 6 rfl) (by decide) ?_
  refine x_iadd (v := 24 + 17 * v0) (dat d_Mo_errandLine 7 rfl) (by omega) (by omega) ?_
  refine x_istore_n (L' := [vR 174, vI (24 + 17 * v0), vU, vU]) (dat d_Mo_errandLine 8 rfl) rfl (by decide) rfl rfl ?_
  refine x_aload_n (dat d_Mo_errandLine 9 rfl) rfl rfl ?_
  refine x_getr (r := 177) (dat d_Mo_errandLine 10 rfl) rfl f_Mo_17 (or_mk (by decide +kernel)) ?_
  refine x_iload_n (dat d_Mo_errandLine 11 rfl) rfl rfl ?_
  refine x_iconst (dat d_Mo_errandLine 12 rfl) (by decide) ?_
  refine x_iast (n := 190) (dat d_Mo_errandLine 13 rfl) (ai_mk (by decide +kernel)) (by omega) (by omega) ?_
  refine x_iconst (dat d_Mo_errandLine 14 rfl) (by decide) ?_
  refine x_istore_n (L' := [vR 174, vI (24 + 17 * v0), vI 0, vU]) (dat d_Mo_errandLine 15 rfl) rfl (by decide) rfl rfl ?_
  have B1 : BnR (up σ1 177 (24 + 17 * v0) 0) 0 := bst _ _ _ (B.same e177) (by omega)
  have F2 : LnF (up σ1 177 (24 + 17 * v0) 0) σ := F1.ln.row _ _
  by_cases e0 : e = 0
  · have nb := nuX_bk (T := T) (n := n) (lo := 0) (hi := 7) (fp := fp) (q := q1) (by rw [e0] at hend; exact hend)
    rw [nb] at H1
    have eq : qit T n q1 e = q1 := by rw [e0]; rfl
    exact out Z _ _ _ _ _ (by omega) (by rw [eq]; exact H1.r177) B1 F2 (by omega) (by omega) (by decide) (by decide)
  · have hk := hin 0 (by omega)
    have t0 : qit T n q1 0 = q1 := rfl
    rw [t0] at hk
    have l0 : loT 4 0 = 0 ∧ hiT 4 0 = 7 := by decide
    have xg := xsN_go (T := T) (n := n) (l := 4) (fp := fp) (by decide) hin hf 1 (by omega) (by decide)
    have xe : xsN T n 4 (false, q1, fp) 1 = nuX T n (loT 4 0) (hiT 4 0) (false, q1, fp) := rfl
    rw [xe, l0.1, l0.2] at xg
    rw [xg] at H1
    refine lp Z _ v0 rfl v0b.1 v0b.2 (by omega) (hv hk) (e - 1) 0 _ _ (by omega) H1.r177 B1 F2 (fun z => ?_)
    have ok := fpN_ok (0 + 1) z
    have b0 := badN_0 (ok.2.2 0 (by omega)).1
    rw [l0.1, l0.2, t0] at b0
    obtain ⟨⟨f9, f10⟩, fr⟩ := hE ok.1
    have v2 := hv hk ⟨b0.1, b0.2.1⟩
    have a9 : gpN T n 4 q1 gp (0 + 1) = imax gp (tkV T n (qit T n q1 0)) := if_pos (Or.inr ⟨rfl, Or.inl rfl⟩)
    have a10 : gcN T n 4 q1 gc (0 + 1) = gc := if_neg (fun w => w.elim (fun y => absurd y.2 (by decide)) (fun y => absurd y.1 (Nat.lt_irrefl 0)))
    refine ⟨⟨by rw [up_ne (by decide), g9, f9, a9, t0, v2], by rw [up_ne (by decide), g10, f10, a10]⟩, fun j j0 j1 => ?_⟩
    unfold rwI
    show up σ1 177 (24 + 17 * v0) 0 177 j = (if j = 24 + 17 * tkV T n q1 then 0 else if 25 + 17 * tkV T n q1 ≤ j ∧ j < 25 + 17 * tkV T n q1 + ((0 : Nat) : Int) then _ else r j)
    rw [← v2]
    by_cases y : j = 24 + 17 * v0
    · rw [y, up_s, if_pos rfl]
    · rw [up_ni (Ne.symm y), if_neg y, if_neg (fun w => by omega), e177]
      exact fr j j0 j1
end
