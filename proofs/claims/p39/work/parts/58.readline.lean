/-! the reader: a line, a text -/
section
variable {T : Int → Int} {n s : Int} {P : Ps}
theorem stp_end (h : tkK T n P.1 = 0) : stpP T n s P = (false, P) := if_pos h
theorem stp_bad (h0 : tkK T n P.1 ≠ 0) (h : lnK T n s P.1 = -1) : stpP T n s P = brkP P P.1 := by
  unfold stpP
  rw [if_neg h0, if_pos h]
theorem stp_law1 (h0 : tkK T n P.1 ≠ 0) (h8 : lnK T n s P.1 = 8) (h1 : tkK T n (nxt T n P.1) = 3 ∧ lwW (wrd T n (nxt T n P.1)) ≠ -1) (h2 : tkK T n (nxt T n (nxt T n P.1)) = 2) : stpP T n s P = (true, (nxt T n (nxt T n (nxt T n P.1)), P.2.1, P.2.2.1, P.2.2.2.1, rowL 8 (lwW (wrd T n (nxt T n P.1))) (fun _ => 0) 0 P.2.2.2.2)) := by
  unfold stpP
  rw [if_neg h0, h8, if_neg (by decide), if_pos rfl, if_pos h1, if_pos h2]
theorem stp_law0a (h0 : tkK T n P.1 ≠ 0) (h8 : lnK T n s P.1 = 8) (h1 : ¬ (tkK T n (nxt T n P.1) = 3 ∧ lwW (wrd T n (nxt T n P.1)) ≠ -1)) : stpP T n s P = brkP P (nxt T n P.1) := by
  unfold stpP
  rw [if_neg h0, h8, if_neg (by decide), if_pos rfl, if_neg h1]
theorem stp_law0b (h0 : tkK T n P.1 ≠ 0) (h8 : lnK T n s P.1 = 8) (h1 : tkK T n (nxt T n P.1) = 3 ∧ lwW (wrd T n (nxt T n P.1)) ≠ -1) (h2 : tkK T n (nxt T n (nxt T n P.1)) ≠ 2) : stpP T n s P = brkP P (nxt T n (nxt T n P.1)) := by
  unfold stpP
  rw [if_neg h0, h8, if_neg (by decide), if_pos rfl, if_pos h1, if_neg h2]
theorem stp_num1 {l : Int} {e : Nat} (h0 : tkK T n P.1 ≠ 0) (hl : lnK T n s P.1 = l) (h1 : l ≠ -1) (h8 : l ≠ 8) (he : e = nrun T n (mostT l).toNat (nxt T n P.1)) (hc : tkK T n (qit T n (nxt T n P.1) e) = 2 ∧ fewT l ≤ (e : Nat)) :
    stpP T n s P = (true, (nxt T n (qit T n (nxt T n P.1) e), fpN T n l (nxt T n P.1) (blm P.2.1 (fulL l P.2.2.2.2) 3 P.1) e, gpN T n l (nxt T n P.1) P.2.2.1 e, gcN T n l (nxt T n P.1) P.2.2.2.1 e, rowL l (mnW (wrd T n P.1)) (fun j => tkV T n (qit T n (nxt T n P.1) j)) e P.2.2.2.2)) := by
  subst he
  unfold stpP
  rw [hl, if_neg h0, if_neg h1, if_neg h8, if_pos hc]
theorem stp_num0 {l : Int} {e : Nat} (h0 : tkK T n P.1 ≠ 0) (hl : lnK T n s P.1 = l) (h1 : l ≠ -1) (h8 : l ≠ 8) (he : e = nrun T n (mostT l).toNat (nxt T n P.1)) (hc : ¬ (tkK T n (qit T n (nxt T n P.1) e) = 2 ∧ fewT l ≤ (e : Nat))) : stpP T n s P = brkP P (qit T n (nxt T n P.1) e) := by
  subst he
  unfold stpP
  rw [hl, if_neg h0, if_neg h1, if_neg h8, if_neg hc]
end
/-- the reader at a line's start -/
def ClS (σ : xS) (T : Int → Int) (n s : Int) (P : Ps) (L : Int) : Prop :=
  RdT σ T n ∧ (∃ p : Int, 0 ≤ p ∧ p ≤ n ∧ σ 123 7 = p ∧ rn cBl T n p = P.1) ∧ (σ 123 2 = P.2.1.1 ∧ σ 123 3 = P.2.1.2 ∧ σ 123 15 = P.2.2.1 ∧ σ 123 16 = P.2.2.2.1) ∧ ((0 ≤ σ 123 12 ∧ σ 123 12 ≤ L) ∧ (0 ≤ σ 123 13 ∧ σ 123 13 ≤ L) ∧ (0 ≤ σ 123 14 ∧ σ 123 14 ≤ L)) ∧
  (P.2.1.1 = 0 → RwR σ s P.2.2.2.2 ∧ RwOk s P.2.2.2.2 P.2.2.1 P.2.2.2.1 ∧ (s = 0 → σ 123 12 = P.2.2.2.2 6 ∧ σ 123 13 = P.2.2.2.2 7 ∧ σ 123 14 = 0) ∧ (s = 1 → σ 123 12 = 0 ∧ σ 123 13 = 0 ∧ σ 123 14 = P.2.2.2.2 0))
/-- the reader behind its text -/
def ClE (σ : xS) (n s : Int) (P : Ps) : Prop := σ 123 6 = n ∧ σ 123 2 = P.2.1.1 ∧ σ 123 3 = P.2.1.2 ∧ (P.2.1.1 = 0 → (σ 123 15 = P.2.2.1 ∧ σ 123 16 = P.2.2.2.1) ∧ RwR σ s P.2.2.2.2 ∧ RwOk s P.2.2.2.2 P.2.2.1 P.2.2.2.1)
def ReF (σ' σ : xS) : Prop := ∀ o : Nat, (o < 123 ∨ 137 < o) → σ' o = σ o
theorem sp_Re_readLine {g : xG} {K : Option MV → xS → Prop} {σ : xS} {T : Int → Int} {n s L : Int} {P : Ps} (hs : s = 0 ∨ s = 1) (C : ClS σ T n s P L) (hL : L ≤ 900)
    (k1 : (stpP T n s P).1 = true → ∀ σ' : xS, ClS σ' T n s (stpP T n s P).2 (L + 1) → ReF σ' σ → K (some (vI 1)) σ')
    (k0 : (stpP T n s P).1 = false → ∀ σ' : xS, ClE σ' n s (stpP T n s P).2 → ReF σ' σ → K (some (vI 0)) σ') : Mt g y_Re_readLine [vR 123, vI s] σ K := by
  obtain ⟨q, fp, gp, gc, r⟩ := P
  obtain ⟨H, ⟨p, p0, p1, e7, hq⟩, ⟨e2, e3, e15, e16⟩, ⟨b12, b13, b14⟩, hz⟩ := C
  have hq : rn cBl T n p = q := hq
  have e2 : σ 123 2 = fp.1 := e2
  have e3 : σ 123 3 = fp.2 := e3
  have e15 : σ 123 15 = gp := e15
  have e16 : σ 123 16 = gc := e16
  have hz : fp.1 = 0 → RwR σ s r ∧ RwOk s r gp gc ∧ (s = 0 → σ 123 12 = r 6 ∧ σ 123 13 = r 7 ∧ σ 123 14 = 0) ∧ (s = 1 → σ 123 12 = 0 ∧ σ 123 13 = 0 ∧ σ 123 14 = r 0) := hz
  have hn := H.1
  have qge := rn_ge (f := cBl) (T := T) (n := n) p
  have qle := rn_le (f := cBl) (T := T) (n := n) p1
  rw [hq] at qge qle
  have ck0 := (tkC_K T n q).1
  have tw := tkN_w (T := T) (n := n) (q := q)
  have tle := tkN_le (T := T) (n := n) (q := q) qle
  have br : ∀ x : Int, ClE (up (up σ 123 2 1) 123 3 x) n s (brkP (q, fp, gp, gc, r) x).2 → True := fun _ _ => trivial
  have lin := lnW_in (w := wrd T n q) hs
  refine x_enter 1 rfl rfl rfl (fun Z => ?_)
  show Wx g y_Re_readLine Z K 0 [vR 123, vI s, vU] [] σ
  refine x_aload_n (dat d_Re_readLine 0 rfl) rfl rfl ?_
  refine x_inv (As := []) (dat d_Re_readLine 1 rfl) rfl c_Re_readToken l_Re_90 (by decide) (rv_re (by decide +kernel)) rfl rfl (Nat.le_of_ble_eq_true rfl) ?_
  refine sp_Re_readToken H p0 p1 e7 (fun σ1 R F1 => ?_)
  rw [hq] at R
  obtain ⟨r9, r8, r7, r10⟩ := R
  have H1 := F1.tape H
  show Wx g y_Re_readLine Z K 4 [vR 123, vI s, vU] [] σ1
  refine x_aload_n (dat d_Re_readLine 2 rfl) rfl rfl ?_
  refine x_geti (ji := 8) (v := tkC T n q) (dat d_Re_readLine 3 rfl) rfl f_Re_93 (oi_mk (by decide +kernel)) (r8) ?_
  refine x_if_ne (tgt := 13) (dat d_Re_readLine 4 rfl) (by decide) (fun c_8 => ?_) (fun c_8 => ?_)
  · refine x_aload_n (dat d_Re_readLine 7 rfl) rfl rfl ?_
    refine x_geti (ji := 8) (v := tkC T n q) (dat d_Re_readLine 8 rfl) rfl f_Re_93 (oi_mk (by decide +kernel)) (r8) ?_
    refine x_iconst (dat d_Re_readLine 9 rfl) (by decide) ?_
    refine x_icmp_ne (tgt := 29) (dat d_Re_readLine 10 rfl) (by decide) (fun c_18 => ?_) (fun c_18 => ?_)
    · refine x_iconst (dat d_Re_readLine 15 rfl) (by decide) ?_
      refine x_istore_n (L' := [vR 123, vI s, vI (-1)]) (dat d_Re_readLine 16 rfl) rfl (by decide) rfl rfl ?_
      refine x_iload_n (dat d_Re_readLine 17 rfl) rfl rfl ?_
      refine x_iconst (dat d_Re_readLine 18 rfl) (by decide) ?_
      have nz : tkK T n q ≠ 0 := fun w => absurd (ck0.mpr w) (by omega)
      refine x_icmp_ne (tgt := 41) (dat d_Re_readLine 19 rfl) (by decide) (fun h => absurd h (by decide)) (fun c_33 => ?_)
      refine x_aload_n (dat d_Re_readLine 20 rfl) rfl rfl ?_
      refine x_inv (As := []) (dat d_Re_readLine 21 rfl) rfl c_Re_breakOff l_Re_100 (by decide) (rv_re (by decide +kernel)) rfl rfl (Nat.le_of_ble_eq_true rfl) ?_
      refine sp_Re_breakOff (q := q) (by first | exact r9 | (rw [a2 9 (by decide)]; exact r9)) ?_
      show Wx g y_Re_readLine Z K 40 [vR 123, vI s, vI (-1)] [vI 0] (up (up σ1 123 2 1) 123 3 q)
      refine x_zret (dat d_Re_readLine 22 rfl) rfl (by decide) ?_
      have e := stp_bad (s := s) (P := (q, fp, gp, gc, r)) nz (by first | exact lnK_n (by omega) | (rw [lk]; omega))
      first
      | exact k0 (by rw [e]; rfl) _ (by rw [e]; exact ⟨by rw [up_ni (by decide), up_ni (by decide)]; exact H1.2.2.1, by rw [up_ni (by decide), up_s]; rfl, by rw [up_s]; rfl, fun z => absurd z (by decide : ¬ (1 : Int) = 0)⟩) (fun o ho => by rw [up_ne (by omega), up_ne (by omega)]; exact F1.2 o (by omega))
      | exact k0 (by rw [e]; rfl) _ (by rw [e]; exact ⟨by rw [up_ni (by decide), up_ni (by decide)]; exact H2.2.2.1, by rw [up_ni (by decide), up_s]; rfl, by rw [up_s]; rfl, fun z => absurd z (by decide : ¬ (1 : Int) = 0)⟩) (fun o ho => by rw [up_ne (by omega), up_ne (by omega), c2 o (by omega)]; exact F1.2 o (by omega))
    · refine x_aload_n (dat d_Re_readLine 11 rfl) rfl rfl ?_
      refine x_iload_n (dat d_Re_readLine 12 rfl) rfl rfl ?_
      refine x_inv (As := [vI s]) (dat d_Re_readLine 13 rfl) rfl c_Re_lineOfWord l_Re_96 (by decide) (rv_re (by decide +kernel)) rfl rfl (Nat.le_of_ble_eq_true rfl) ?_
      refine sp_Re_lineOfWord H1 (by omega) qle r9 (by rw [r7 (by omega), (tw (by omega)).1]) (fun σ2 m2 a2 c2 => ?_)
      have H2 : RdT σ2 T n := H1.same (a2 5 (by decide)) (a2 6 (by decide)) (c2 2 (by decide))
      have lk : lnK T n s q = lnW s (wrd T n q) := lnK_w (by omega)
      generalize lnW s (wrd T n q) = l at lin lk
      show Wx g y_Re_readLine Z K 26 [vR 123, vI s, vU] [vI l] σ2
      refine x_goto (tgt := 30) (dat d_Re_readLine 14 rfl) (by decide) ?_
      refine x_istore_n (L' := [vR 123, vI s, vI l]) (dat d_Re_readLine 16 rfl) rfl (by decide) rfl rfl ?_
      refine x_iload_n (dat d_Re_readLine 17 rfl) rfl rfl ?_
      refine x_iconst (dat d_Re_readLine 18 rfl) (by decide) ?_
      have nz : tkK T n q ≠ 0 := fun w => absurd (ck0.mpr w) (by omega)
      refine x_icmp_ne (tgt := 41) (dat d_Re_readLine 19 rfl) (by decide) (fun c_33 => ?_) (fun c_33 => ?_)
      · refine x_aload_n (dat d_Re_readLine 23 rfl) rfl rfl ?_
        refine x_iload_n (dat d_Re_readLine 24 rfl) rfl rfl ?_
        refine x_inv (As := [vI l]) (dat d_Re_readLine 25 rfl) rfl c_Re_countLine l_Re_104 (by decide) (rv_re (by decide +kernel)) rfl rfl (Nat.le_of_ble_eq_true rfl) ?_
        have y2 : σ2 123 2 = fp.1 := by rw [a2 2 (by decide), F1.1 2 (by decide)]; exact e2
        have y3 : σ2 123 3 = fp.2 := by rw [a2 3 (by decide), F1.1 3 (by decide)]; exact e3
        have y12 : σ2 123 12 = σ 123 12 := by rw [a2 12 (by decide), F1.1 12 (by decide)]
        have y13 : σ2 123 13 = σ 123 13 := by rw [a2 13 (by decide), F1.1 13 (by decide)]
        have y14 : σ2 123 14 = σ 123 14 := by rw [a2 14 (by decide), F1.1 14 (by decide)]
        generalize σ 123 12 = tp at b12 hz y12
        generalize σ 123 13 = tq at b13 hz y13
        generalize σ 123 14 = tn at b14 hz y14
        refine sp_Re_countLine (q := q) (fp := fp) (by rw [a2 9 (by decide)]; exact r9) y2 y3 y12 y13 y14 (by omega) (by omega) (by omega) (fun σ3 tp' tq' tn' w1 w2 w3 d12 d13 d14 hb a3 c3 => ?_)
        have H3 : RdT σ3 T n := H2.same (a3 5 (by decide) (by decide) (by decide) (by decide) (by decide)) (a3 6 (by decide) (by decide) (by decide) (by decide) (by decide)) (c3 2 (by decide))
        have z7 : σ3 123 7 = tkN T n q := by rw [a3 7 (by decide) (by decide) (by decide) (by decide) (by decide), a2 7 (by decide)]; exact r7 (by omega)
        have z15 : σ3 123 15 = gp := by rw [a3 15 (by decide) (by decide) (by decide) (by decide) (by decide), a2 15 (by decide), F1.1 15 (by decide)]; exact e15
        have z16 : σ3 123 16 = gc := by rw [a3 16 (by decide) (by decide) (by decide) (by decide) (by decide), a2 16 (by decide), F1.1 16 (by decide)]; exact e16
        have z11 : s = 0 → σ3 123 11 = mnW (wrd T n q) := fun w => by rw [a3 11 (by decide) (by decide) (by decide) (by decide) (by decide)]; exact m2 (by omega)
        have G3 : ∀ o : Nat, o ≠ 123 → σ3 o = σ o := fun o ho => by rw [c3 o ho, c2 o ho]; exact F1.2 o ho
        have hfp : σ3 123 2 = (blm fp (fulL l r) 3 q).1 ∧ σ3 123 3 = (blm fp (fulL l r) 3 q).2 := by
          by_cases z : fp.1 = 0
          · obtain ⟨g1, g2, g3, g4⟩ := hz z
            refine hb _ ?_
            have fl : fulL l r = true ↔ (l = 3 ∧ 8 ≤ r 6) ∨ (l = 6 ∧ 6 ≤ r 7) ∨ (l = 7 ∧ 8 ≤ r 0) := by
              unfold fulL
              simp only [Bool.or_eq_true, Bool.and_eq_true, decide_eq_true_eq]
              omega
            rw [fl]
            rcases hs with hs | hs
            · have gg := (g2.1 hs).1
              have g3 := g3 hs
              have lin : (0 ≤ l ∧ l ≤ 6) ∨ l = 8 := by omega
              clear g4 hb hz fl
              rw [if_neg (show ¬ l = 7 by omega)] at w3
              by_cases l3 : l = 3
              · rw [if_pos l3] at w1; rw [if_neg (by omega)] at w2; omega
              · rw [if_neg l3] at w1
                by_cases l6 : l = 6
                · rw [if_pos l6] at w2; omega
                · rw [if_neg l6] at w2; omega
            · have gg := (g2.2 hs).1
              have g4 := g4 hs
              have lin : l = 7 := by omega
              clear g3 hb hz fl
              rw [if_pos lin] at w3
              rw [if_neg (by omega)] at w1
              rw [if_neg (by omega)] at w2
              omega
          · have := hb (decide ((8 < tp' ∨ 6 < tq') ∨ 8 < tn')) decide_eq_true_iff
            rw [blm_n z] at this ⊢
            exact this
        show Wx g y_Re_readLine Z K 46 [vR 123, vI s, vI l] [] σ3
        refine x_iload_n (dat d_Re_readLine 26 rfl) rfl rfl ?_
        refine x_bipush (dat d_Re_readLine 27 rfl) (by decide) (by decide) ?_
        refine x_icmp_ne (tgt := 59) (dat d_Re_readLine 28 rfl) (by decide) (fun c_49 => ?_) (fun c_49 => ?_)
        · refine x_aload_n (dat d_Re_readLine 32 rfl) rfl rfl ?_
          refine x_iload_n (dat d_Re_readLine 33 rfl) rfl rfl ?_
          refine x_inv (As := [vI l]) (dat d_Re_readLine 34 rfl) rfl c_Re_readNumbers l_Re_111 (by decide) (rv_re (by decide +kernel)) rfl rfl (Nat.le_of_ble_eq_true rfl) ?_
          have lc : (s = 0 ∧ 0 ≤ l ∧ l ≤ 6) ∨ (s = 1 ∧ l = 7) := by omega
          refine sp_Re_readNumbers (p := tkN T n q) (q1 := nxt T n q) (s := s) (mn := mnW (wrd T n q)) (gp := gp) (gc := gc) (fp := blm fp (fulL l r) 3 q) (r := r) lc H3 (by have := (tw (by omega)).1; have := rn_ge (f := cLt) (T := T) (n := n) q; omega) tle z7 rfl hfp.1 hfp.2 z15 z16 z11 (fun z => ?_) (fun e he hc σ4 f7 f2 f3 f15 f16 f11 f1 f0 => ?_) (fun e he hc σ4 f2 f3 f1 f0 => ?_)
          · obtain ⟨x1, x2, x3⟩ := blm_0 (by decide) z
            exact ⟨(hz x1).1.same (fun k a b => G3 k (by omega)), (hz x1).2.1, x2⟩
          · show Wx g y_Re_readLine Z K 64 [vR 123, vI s, vI l] [vI 1] σ4
            refine x_zret (dat d_Re_readLine 35 rfl) rfl (by decide) ?_
            first
            | (have e' := stp_num0 (s := s) (P := (q, fp, gp, gc, r)) nz lk (by omega) (by omega) he hc
               refine k0 (by rw [e']; rfl) σ4 ?_ (fun o ho => by rw [f0 o ho]; exact G3 o (by omega))
               rw [e']
               exact ⟨by rw [f1 6 (by decide) (by decide) (by decide) (by decide) (by decide)]; exact H3.2.2.1, f2, f3, fun z => absurd z (by decide : ¬ (1 : Int) = 0)⟩)
            | (have e' := stp_num1 (s := s) (P := (q, fp, gp, gc, r)) nz lk (by omega) (by omega) he hc
               refine k1 (by rw [e']) σ4 ?_ (fun o ho => by rw [f0 o ho]; exact G3 o (by omega))
               rw [e']
               have hr := nrun_le T n (mostT l).toNat (nxt T n q)
               have fb := fewT_b (l := l) (by omega) (by omega)
               have qle2 := qit_le (T := T) (n := n) (q := nxt T n q) (nxt_le qle) e
               refine ⟨H3.same (f1 5 (by decide) (by decide) (by decide) (by decide) (by decide)) (f1 6 (by decide) (by decide) (by decide) (by decide) (by decide)) (f0 2 (by decide)), ⟨tkN T n (qit T n (nxt T n q) e), ?_, tkN_le qle2, f7, rfl⟩, ⟨f2, f3, f15, f16⟩, ⟨?_, ?_, ?_⟩, fun z => ?_⟩
               · have h1 := nxt_ge T n q
                 have h2 := qit_ge T n (nxt T n q) e
                 have h3 := (tkN_gt (T := T) (n := n) (q := qit T n (nxt T n q) e) (by rw [hc.1]; decide)).1
                 omega
               · rw [f1 12 (by decide) (by decide) (by decide) (by decide) (by decide), d12, w1]; split <;> omega
               · rw [f1 13 (by decide) (by decide) (by decide) (by decide) (by decide), d13, w2]; split <;> omega
               · rw [f1 14 (by decide) (by decide) (by decide) (by decide) (by decide), d14, w3]; split <;> omega
               · obtain ⟨g1, g2, g3⟩ := fpN_ok e z
                 obtain ⟨x1, x2, x3⟩ := blm_0 (by decide) g1
                 obtain ⟨y1, y2, y3, y4⟩ := hz x1
                 have ok := rwL_ok (T := T) (n := n) (q1 := nxt T n q) (mn := mnW (wrd T n q)) lc y2 x2 hc.2 (fun w => mnW_in (s := s) (by rw [← lnK_w (T := T) (n := n) (by omega), lk]; exact w)) z (by omega)
                 have vv0 : l = 4 ∨ l = 5 → 0 ≤ tkV T n (qit T n (nxt T n q) 0) := fun _ => (tkV_bd (nrun_in T n (mostT l).toNat (nxt T n q) 0 (by omega))).1
                 have ct := rowL_cnt (mn := mnW (wrd T n q)) (v := fun j => tkV T n (qit T n (nxt T n q) j)) (m := e) lc y2 (fun w => vv0 (Or.inl w)) (fun w => vv0 (Or.inr w))
                 refine ⟨f11 z, ok, fun hs0 => ?_, fun hs1 => ?_⟩
                 · show σ4 123 12 = rowL l (mnW (wrd T n q)) (fun j => tkV T n (qit T n (nxt T n q) j)) e r 6 ∧ σ4 123 13 = rowL l (mnW (wrd T n q)) (fun j => tkV T n (qit T n (nxt T n q) j)) e r 7 ∧ σ4 123 14 = 0
                   rw [(ct.1 hs0).1, (ct.1 hs0).2, f1 12 (by decide) (by decide) (by decide) (by decide) (by decide), f1 13 (by decide) (by decide) (by decide) (by decide) (by decide), f1 14 (by decide) (by decide) (by decide) (by decide) (by decide), d12, d13, d14, w1, w2, w3, (y3 hs0).1, (y3 hs0).2.1, (y3 hs0).2.2]
                   refine ⟨rfl, rfl, ?_⟩
                   rw [if_neg (by omega)]
                   rfl
                 · show σ4 123 12 = 0 ∧ σ4 123 13 = 0 ∧ σ4 123 14 = rowL l (mnW (wrd T n q)) (fun j => tkV T n (qit T n (nxt T n q) j)) e r 0
                   rw [ct.2 hs1, f1 12 (by decide) (by decide) (by decide) (by decide) (by decide), f1 13 (by decide) (by decide) (by decide) (by decide) (by decide), f1 14 (by decide) (by decide) (by decide) (by decide) (by decide), d12, d13, d14, w1, w2, w3, (y4 hs1).1, (y4 hs1).2.1, (y4 hs1).2.2]
                   rw [if_neg (by omega), if_neg (by omega), if_pos (by omega)]
                   exact ⟨rfl, rfl, rfl⟩)
          · show Wx g y_Re_readLine Z K 64 [vR 123, vI s, vI l] [vI 0] σ4
            refine x_zret (dat d_Re_readLine 35 rfl) rfl (by decide) ?_
            first
            | (have e' := stp_num0 (s := s) (P := (q, fp, gp, gc, r)) nz lk (by omega) (by omega) he hc
               refine k0 (by rw [e']; rfl) σ4 ?_ (fun o ho => by rw [f0 o ho]; exact G3 o (by omega))
               rw [e']
               exact ⟨by rw [f1 6 (by decide) (by decide) (by decide) (by decide) (by decide)]; exact H3.2.2.1, f2, f3, fun z => absurd z (by decide : ¬ (1 : Int) = 0)⟩)
            | (have e' := stp_num1 (s := s) (P := (q, fp, gp, gc, r)) nz lk (by omega) (by omega) he hc
               refine k1 (by rw [e']) σ4 ?_ (fun o ho => by rw [f0 o ho]; exact G3 o (by omega))
               rw [e']
               have hr := nrun_le T n (mostT l).toNat (nxt T n q)
               have fb := fewT_b (l := l) (by omega) (by omega)
               have qle2 := qit_le (T := T) (n := n) (q := nxt T n q) (nxt_le qle) e
               refine ⟨H3.same (f1 5 (by decide) (by decide) (by decide) (by decide) (by decide)) (f1 6 (by decide) (by decide) (by decide) (by decide) (by decide)) (f0 2 (by decide)), ⟨tkN T n (qit T n (nxt T n q) e), ?_, tkN_le qle2, f7, rfl⟩, ⟨f2, f3, f15, f16⟩, ⟨?_, ?_, ?_⟩, fun z => ?_⟩
               · have h1 := nxt_ge T n q
                 have h2 := qit_ge T n (nxt T n q) e
                 have h3 := (tkN_gt (T := T) (n := n) (q := qit T n (nxt T n q) e) (by rw [hc.1]; decide)).1
                 omega
               · rw [f1 12 (by decide) (by decide) (by decide) (by decide) (by decide), d12, w1]; split <;> omega
               · rw [f1 13 (by decide) (by decide) (by decide) (by decide) (by decide), d13, w2]; split <;> omega
               · rw [f1 14 (by decide) (by decide) (by decide) (by decide) (by decide), d14, w3]; split <;> omega
               · obtain ⟨g1, g2, g3⟩ := fpN_ok e z
                 obtain ⟨x1, x2, x3⟩ := blm_0 (by decide) g1
                 obtain ⟨y1, y2, y3, y4⟩ := hz x1
                 have ok := rwL_ok (T := T) (n := n) (q1 := nxt T n q) (mn := mnW (wrd T n q)) lc y2 x2 hc.2 (fun w => mnW_in (s := s) (by rw [← lnK_w (T := T) (n := n) (by omega), lk]; exact w)) z (by omega)
                 have vv0 : l = 4 ∨ l = 5 → 0 ≤ tkV T n (qit T n (nxt T n q) 0) := fun _ => (tkV_bd (nrun_in T n (mostT l).toNat (nxt T n q) 0 (by omega))).1
                 have ct := rowL_cnt (mn := mnW (wrd T n q)) (v := fun j => tkV T n (qit T n (nxt T n q) j)) (m := e) lc y2 (fun w => vv0 (Or.inl w)) (fun w => vv0 (Or.inr w))
                 refine ⟨f11 z, ok, fun hs0 => ?_, fun hs1 => ?_⟩
                 · show σ4 123 12 = rowL l (mnW (wrd T n q)) (fun j => tkV T n (qit T n (nxt T n q) j)) e r 6 ∧ σ4 123 13 = rowL l (mnW (wrd T n q)) (fun j => tkV T n (qit T n (nxt T n q) j)) e r 7 ∧ σ4 123 14 = 0
                   rw [(ct.1 hs0).1, (ct.1 hs0).2, f1 12 (by decide) (by decide) (by decide) (by decide) (by decide), f1 13 (by decide) (by decide) (by decide) (by decide) (by decide), f1 14 (by decide) (by decide) (by decide) (by decide) (by decide), d12, d13, d14, w1, w2, w3, (y3 hs0).1, (y3 hs0).2.1, (y3 hs0).2.2]
                   refine ⟨rfl, rfl, ?_⟩
                   rw [if_neg (by omega)]
                   rfl
                 · show σ4 123 12 = 0 ∧ σ4 123 13 = 0 ∧ σ4 123 14 = rowL l (mnW (wrd T n q)) (fun j => tkV T n (qit T n (nxt T n q) j)) e r 0
                   rw [ct.2 hs1, f1 12 (by decide) (by decide) (by decide) (by decide) (by decide), f1 13 (by decide) (by decide) (by decide) (by decide) (by decide), f1 14 (by decide) (by decide) (by decide) (by decide) (by decide), d12, d13, d14, w1, w2, w3, (y4 hs1).1, (y4 hs1).2.1, (y4 hs1).2.2]
                   rw [if_neg (by omega), if_neg (by omega), if_pos (by omega)]
                   exact ⟨rfl, rfl, rfl⟩)
        · refine x_aload_n (dat d_Re_readLine 29 rfl) rfl rfl ?_
          refine x_inv (As := []) (dat d_Re_readLine 30 rfl) rfl c_Re_readLaw l_Re_108 (by decide) (rv_re (by decide +kernel)) rfl rfl (Nat.le_of_ble_eq_true rfl) ?_
          have ls : s = 0 := by omega
          have fl8 : fulL l r = false := by rw [show l = 8 by omega]; unfold fulL; rfl
          rw [fl8, blm_ff rfl] at hfp
          refine sp_Re_readLaw (q1 := nxt T n q) H3 (by have := (tw (by omega)).1; have := rn_ge (f := cLt) (T := T) (n := n) q; omega) tle z7 rfl (fun L1 L2 σ4 f7 f2 f3 f4 f5 => ?_) (fun x σ4 L1 L2 f2 f3 f4 f5 => ?_)
          · show Wx g y_Re_readLine Z K 56 [vR 123, vI s, vI l] [vI 1] σ4
            refine x_goto (tgt := 64) (dat d_Re_readLine 31 rfl) (by decide) ?_
            refine x_zret (dat d_Re_readLine 35 rfl) rfl (by decide) ?_
            first
            | (by_cases L0 : tkK T n (nxt T n q) = 3 ∧ lwW (wrd T n (nxt T n q)) ≠ -1
               · have e := stp_law0b (s := s) (P := (q, fp, gp, gc, r)) nz (by rw [lk]; omega) L0 (L2 L0).1
                 refine k0 (by rw [e]; rfl) σ4 ?_ (fun o ho => by rw [f5 o (by omega)]; exact G3 o (by omega))
                 rw [e]
                 exact ⟨by rw [f4 6 (by decide) (by decide) (by decide)]; exact H3.2.2.1, f2, by rw [f3, (L2 L0).2]; rfl, fun z => absurd z (by decide : ¬ (1 : Int) = 0)⟩
               · have e := stp_law0a (s := s) (P := (q, fp, gp, gc, r)) nz (by rw [lk]; omega) L0
                 refine k0 (by rw [e]; rfl) σ4 ?_ (fun o ho => by rw [f5 o (by omega)]; exact G3 o (by omega))
                 rw [e]
                 exact ⟨by rw [f4 6 (by decide) (by decide) (by decide)]; exact H3.2.2.1, f2, by rw [f3, L1 L0]; rfl, fun z => absurd z (by decide : ¬ (1 : Int) = 0)⟩)
            | (have e := stp_law1 (s := s) (P := (q, fp, gp, gc, r)) nz (by rw [lk]; omega) L1 L2
               refine k1 (by rw [e]) σ4 ?_ (fun o ho => by rw [f5 o (by omega) (by omega)]; exact G3 o (by omega))
               rw [e]
               rw [if_neg (by omega)] at w1 w2 w3
               refine ⟨H3.same (f4 5 (by decide)) (f4 6 (by decide)) (f5 2 (by decide) (by decide)), ⟨tkN T n (nxt T n (nxt T n q)), ?_, ?_, f7, rfl⟩, ⟨?_, ?_, ?_, ?_⟩, ⟨?_, ?_, ?_⟩, fun z => ⟨⟨fun _ => ?_, fun w => absurd w (by omega)⟩, ⟨fun _ => ?_, fun w => absurd w (by omega)⟩, fun _ => ?_, fun w => absurd w (by omega)⟩⟩
               · have h1 := nxt_ge T n q
                 have h2 := nxt_ge T n (nxt T n q)
                 have h3 := (tkN_gt (T := T) (n := n) (q := nxt T n (nxt T n q)) (by rw [L2]; decide)).1
                 omega
               · exact tkN_le (nxt_le (nxt_le qle))
               · rw [f4 2 (by decide)]; exact hfp.1
               · rw [f4 3 (by decide)]; exact hfp.2
               · rw [f4 15 (by decide)]; exact z15
               · rw [f4 16 (by decide)]; exact z16
               · rw [f4 12 (by decide), d12]; omega
               · rw [f4 13 (by decide), d13]; omega
               · rw [f4 14 (by decide), d14]; omega
               · have hr := ((hz z).1.1 ls).same (σ' := σ3) (fun k a b => G3 k (by omega))
                 refine (hr.st (i := 2) (v := lwW (wrd T n (nxt T n q))) (by decide)).same (fun k a b => ?_)
                 by_cases k4 : k = 124
                 · subst k4
                   funext i
                   by_cases i2 : i = 2
                   · subst i2; rw [up_s]; exact f2
                   · rw [up_ni (Ne.symm i2)]; exact f3 i i2
                 · rw [up_ne k4]; exact f5 k (by omega) k4
               · refine ((hz z).2.1.1 ls).st (i := 2) (v := lwW (wrd T n (nxt T n q))) (by decide) (fun w => by omega) (fun _ => ?_) (fun w => by omega) (fun w => by omega)
                 have := L1.2
                 unfold lwW at this ⊢
                 split
                 · omega
                 · rename_i w
                   rw [if_neg w] at this
                   exact absurd rfl this
               · obtain ⟨u1, u2, u3⟩ := (hz z).2.2.1 ls
                 show σ4 123 12 = st1 r 2 (lwW (wrd T n (nxt T n q))) 6 ∧ σ4 123 13 = st1 r 2 (lwW (wrd T n (nxt T n q))) 7 ∧ σ4 123 14 = 0
                 rw [st1_n (by decide), st1_n (by decide), f4 12 (by decide), f4 13 (by decide), f4 14 (by decide), d12, d13, d14]
                 omega)
          · show Wx g y_Re_readLine Z K 56 [vR 123, vI s, vI l] [vI 0] σ4
            refine x_goto (tgt := 64) (dat d_Re_readLine 31 rfl) (by decide) ?_
            refine x_zret (dat d_Re_readLine 35 rfl) rfl (by decide) ?_
            first
            | (by_cases L0 : tkK T n (nxt T n q) = 3 ∧ lwW (wrd T n (nxt T n q)) ≠ -1
               · have e := stp_law0b (s := s) (P := (q, fp, gp, gc, r)) nz (by rw [lk]; omega) L0 (L2 L0).1
                 refine k0 (by rw [e]; rfl) σ4 ?_ (fun o ho => by rw [f5 o (by omega)]; exact G3 o (by omega))
                 rw [e]
                 exact ⟨by rw [f4 6 (by decide) (by decide) (by decide)]; exact H3.2.2.1, f2, by rw [f3, (L2 L0).2]; rfl, fun z => absurd z (by decide : ¬ (1 : Int) = 0)⟩
               · have e := stp_law0a (s := s) (P := (q, fp, gp, gc, r)) nz (by rw [lk]; omega) L0
                 refine k0 (by rw [e]; rfl) σ4 ?_ (fun o ho => by rw [f5 o (by omega)]; exact G3 o (by omega))
                 rw [e]
                 exact ⟨by rw [f4 6 (by decide) (by decide) (by decide)]; exact H3.2.2.1, f2, by rw [f3, L1 L0]; rfl, fun z => absurd z (by decide : ¬ (1 : Int) = 0)⟩)
            | (have e := stp_law1 (s := s) (P := (q, fp, gp, gc, r)) nz (by rw [lk]; omega) L1 L2
               refine k1 (by rw [e]) σ4 ?_ (fun o ho => by rw [f5 o (by omega) (by omega)]; exact G3 o (by omega))
               rw [e]
               rw [if_neg (by omega)] at w1 w2 w3
               refine ⟨H3.same (f4 5 (by decide)) (f4 6 (by decide)) (f5 2 (by decide) (by decide)), ⟨tkN T n (nxt T n (nxt T n q)), ?_, ?_, f7, rfl⟩, ⟨?_, ?_, ?_, ?_⟩, ⟨?_, ?_, ?_⟩, fun z => ⟨⟨fun _ => ?_, fun w => absurd w (by omega)⟩, ⟨fun _ => ?_, fun w => absurd w (by omega)⟩, fun _ => ?_, fun w => absurd w (by omega)⟩⟩
               · have h1 := nxt_ge T n q
                 have h2 := nxt_ge T n (nxt T n q)
                 have h3 := (tkN_gt (T := T) (n := n) (q := nxt T n (nxt T n q)) (by rw [L2]; decide)).1
                 omega
               · exact tkN_le (nxt_le (nxt_le qle))
               · rw [f4 2 (by decide)]; exact hfp.1
               · rw [f4 3 (by decide)]; exact hfp.2
               · rw [f4 15 (by decide)]; exact z15
               · rw [f4 16 (by decide)]; exact z16
               · rw [f4 12 (by decide), d12]; omega
               · rw [f4 13 (by decide), d13]; omega
               · rw [f4 14 (by decide), d14]; omega
               · have hr := ((hz z).1.1 ls).same (σ' := σ3) (fun k a b => G3 k (by omega))
                 refine (hr.st (i := 2) (v := lwW (wrd T n (nxt T n q))) (by decide)).same (fun k a b => ?_)
                 by_cases k4 : k = 124
                 · subst k4
                   funext i
                   by_cases i2 : i = 2
                   · subst i2; rw [up_s]; exact f2
                   · rw [up_ni (Ne.symm i2)]; exact f3 i i2
                 · rw [up_ne k4]; exact f5 k (by omega) k4
               · refine ((hz z).2.1.1 ls).st (i := 2) (v := lwW (wrd T n (nxt T n q))) (by decide) (fun w => by omega) (fun _ => ?_) (fun w => by omega) (fun w => by omega)
                 have := L1.2
                 unfold lwW at this ⊢
                 split
                 · omega
                 · rename_i w
                   rw [if_neg w] at this
                   exact absurd rfl this
               · obtain ⟨u1, u2, u3⟩ := (hz z).2.2.1 ls
                 show σ4 123 12 = st1 r 2 (lwW (wrd T n (nxt T n q))) 6 ∧ σ4 123 13 = st1 r 2 (lwW (wrd T n (nxt T n q))) 7 ∧ σ4 123 14 = 0
                 rw [st1_n (by decide), st1_n (by decide), f4 12 (by decide), f4 13 (by decide), f4 14 (by decide), d12, d13, d14]
                 omega)
      · refine x_aload_n (dat d_Re_readLine 20 rfl) rfl rfl ?_
        refine x_inv (As := []) (dat d_Re_readLine 21 rfl) rfl c_Re_breakOff l_Re_100 (by decide) (rv_re (by decide +kernel)) rfl rfl (Nat.le_of_ble_eq_true rfl) ?_
        refine sp_Re_breakOff (q := q) (by first | exact r9 | (rw [a2 9 (by decide)]; exact r9)) ?_
        show Wx g y_Re_readLine Z K 40 [vR 123, vI s, vI l] [vI 0] (up (up σ2 123 2 1) 123 3 q)
        refine x_zret (dat d_Re_readLine 22 rfl) rfl (by decide) ?_
        have e := stp_bad (s := s) (P := (q, fp, gp, gc, r)) nz (by first | exact lnK_n (by omega) | (rw [lk]; omega))
        first
        | exact k0 (by rw [e]; rfl) _ (by rw [e]; exact ⟨by rw [up_ni (by decide), up_ni (by decide)]; exact H1.2.2.1, by rw [up_ni (by decide), up_s]; rfl, by rw [up_s]; rfl, fun z => absurd z (by decide : ¬ (1 : Int) = 0)⟩) (fun o ho => by rw [up_ne (by omega), up_ne (by omega)]; exact F1.2 o (by omega))
        | exact k0 (by rw [e]; rfl) _ (by rw [e]; exact ⟨by rw [up_ni (by decide), up_ni (by decide)]; exact H2.2.2.1, by rw [up_ni (by decide), up_s]; rfl, by rw [up_s]; rfl, fun z => absurd z (by decide : ¬ (1 : Int) = 0)⟩) (fun o ho => by rw [up_ne (by omega), up_ne (by omega), c2 o (by omega)]; exact F1.2 o (by omega))
  · refine x_iconst (dat d_Re_readLine 5 rfl) (by decide) ?_
    refine x_zret (dat d_Re_readLine 6 rfl) rfl (by decide) ?_
    have e := stp_end (s := s) (P := (q, fp, gp, gc, r)) (ck0.mp (by omega))
    refine k0 (by rw [e]) σ1 (by rw [e]; exact ⟨H1.2.2.1, (F1.1 2 (by decide)).trans e2, (F1.1 3 (by decide)).trans e3, fun z => ⟨⟨(F1.1 15 (by decide)).trans e15, (F1.1 16 (by decide)).trans e16⟩, (hz z).1.same (fun k a b => F1.2 k (by omega)), (hz z).2.1⟩⟩) (fun o ho => F1.2 o (by omega))
