/-! the twin's reader: a line of a town, a line of a book */ -/
section
variable {g : xG} {K : Option MV → xS → Prop} {σ σ1 : xS} {T : Int → Int} {n : Int} {P : Ps} {Z : xZ} {w3 : MV}
theorem ln_law (h0 : tkK T n P.1 ≠ 0) (hl : lnK T n 0 P.1 = 8) (L : LnB σ1 σ T n P) (k : ∀ σ' : xS, LnR σ' T n 0 P → LnF σ' σ → K none σ') : Wx g y_Mo_townLine Z K 13 [vR 174, vI P.1, vI 2, w3] [] σ1 := by
  obtain ⟨H, hf, B, E, F⟩ := L
  have q1 := nxt_gt h0
  obtain ⟨q, hq⟩ : ∃ q : Int, q = nxt T n P.1 := ⟨_, rfl⟩
  rw [← hq] at H q1
  by_cases hb : tkK T n q = 3 ∧ 12 ≤ wrd T n q ∧ wrd T n q ≤ 15
  · have e1 : taX T n 12 15 (false, q, P.2.1) = (false, nxt T n q, P.2.1) := if_neg (fun w => w.elim (fun y => Bool.noConfusion y) (fun y => y hb))
    have e2 : taV T n 12 15 (false, q, P.2.1) = wrd T n q := if_neg (fun w => w.elim (fun y => Bool.noConfusion y) (fun y => y hb))
    have elw : lwW (wrd T n q) = wrd T n q - 12 := if_pos hb.2
    have nlw : lwW (wrd T n q) ≠ -1 := by rw [elw]; omega
    have q2 := nxt_gt (T := T) (n := n) (q := q) (by rw [hb.1]; decide)
    have q3 := nxt_ge T n (nxt T n q)
    have l1 := fun (z : tkK T n (nxt T n q) = 2) => stp_law1 (s := 0) h0 hl (by rw [← hq]; exact ⟨hb.1, nlw⟩) (by rw [← hq]; exact z)
    have l0 := fun (z : tkK T n (nxt T n q) ≠ 2) => stp_law0b (s := 0) h0 hl (by rw [← hq]; exact ⟨hb.1, nlw⟩) (by rw [← hq]; exact z)
    rw [← hq, elw] at l1
    rw [← hq] at l0
    have wb := hb.2
    have fin : ∀ (σ2 σ9 : xS) (v : Int), v = wrd T n q - 12 → RxF σ2 σ1 → RX σ9 T n (eoX T n (false, nxt T n q, P.2.1)) → RxF σ9 (up σ2 177 2 v) → K none σ9 := fun σ2 σ9 v hv F2 H9 F9 => by
      have B2 : BnR (up σ2 177 2 v) 0 := (B.same (F2.2.2 177 (by decide) (by decide))).st ⟨fun _ => by omega, fun z => absurd z (by decide)⟩
      refine k σ9 ?_ (((F.trans F2.ry.ln).row _ _).trans F9.ry.ln)
      by_cases z : tkK T n (nxt T n q) = 2
      · rw [eoX_go z] at H9
        refine Or.inl ?_
        rw [l1 z]
        refine ⟨rfl, H9, fun y => ?_, B2.same (F9.2.2 177 (by decide) (by decide)), fun y => ?_⟩
        · have := hf y
          have q4 := nxt_ge T n (nxt T n q)
          show P.2.1.2 < nxt T n (nxt T n q)
          omega
        · obtain ⟨⟨g9, g10⟩, gr⟩ := E y
          refine ⟨⟨by rw [F9.1 9 (by decide), up_ne (by decide), F2.1 9 (by decide)]; exact g9, by rw [F9.1 10 (by decide), up_ne (by decide), F2.1 10 (by decide)]; exact g10⟩, ?_⟩
          have E9 := ((gr.same (F2.2.2 177 (by decide) (by decide))).st 2 v).same (F9.2.2 177 (by decide) (by decide))
          rw [hv] at E9
          exact E9
      · rw [eoX_bk z] at H9
        exact LnR.brk (l0 z) H9
    refine x_iload_n (dat d_Mo_townLine 8 rfl) rfl rfl ?_
    refine x_iconst (dat d_Mo_townLine 9 rfl) (by decide) ?_
    refine x_icmp_ne (tgt := 44) (dat d_Mo_townLine 10 rfl) (by decide) (fun c_15 => ?_) (fun h => absurd h (by decide))
    refine x_iload_n (dat d_Mo_townLine 27 rfl) rfl rfl ?_
    refine x_iconst (dat d_Mo_townLine 28 rfl) (by decide) ?_
    refine x_icmp_ne (tgt := 76) (dat d_Mo_townLine 29 rfl) (by decide) (fun h => absurd h (by decide)) (fun c_46 => ?_)
    refine x_aload_n (dat d_Mo_townLine 30 rfl) rfl rfl ?_
    refine x_bipush (dat d_Mo_townLine 31 rfl) (by decide) (by decide) ?_
    refine x_bipush (dat d_Mo_townLine 32 rfl) (by decide) (by decide) ?_
    refine x_inv (As := [vI 12, vI 15]) (dat d_Mo_townLine 33 rfl) rfl c_Mo_takes l_Mo_164 (by decide) (rv_mo (by decide +kernel)) rfl rfl (Nat.le_of_ble_eq_true rfl) ?_
    refine sp_Mo_takes H (fun σ2 H2 F2 => ?_)
    rw [e1] at H2
    rw [e2]
    generalize wrd T n q = v at wb fin
    show Wx g y_Mo_townLine Z K 57 [vR 174, vI P.1, vI 2, w3] [vI v] σ2
    refine x_istore_n (L' := [vR 174, vI P.1, vI 2, vI v]) (dat d_Mo_townLine 34 rfl) rfl (by decide) rfl rfl ?_
    refine x_aload_n (dat d_Mo_townLine 35 rfl) rfl rfl ?_
    refine x_getr (r := 177) (dat d_Mo_townLine 36 rfl) rfl f_Mo_17 (or_mk (by decide +kernel)) ?_
    refine x_iconst (dat d_Mo_townLine 37 rfl) (by decide) ?_
    refine x_iload_n (dat d_Mo_townLine 38 rfl) rfl rfl ?_
    refine x_if_ne (tgt := 71) (dat d_Mo_townLine 39 rfl) (by decide) (fun c_64 => ?_) (fun c_64 => (by omega))
    refine x_iload_n (dat d_Mo_townLine 42 rfl) rfl rfl ?_
    refine x_bipush (dat d_Mo_townLine 43 rfl) (by decide) (by decide) ?_
    refine x_isub (v := v - 12) (dat d_Mo_townLine 44 rfl) rfl (by omega) ?_
    refine x_iast (n := 190) (dat d_Mo_townLine 45 rfl) (ai_mk (by decide +kernel)) (by omega) (by omega) ?_
    refine x_iload_n (dat d_Mo_townLine 46 rfl) rfl rfl ?_
    refine x_iconst (dat d_Mo_townLine 47 rfl) (by decide) ?_
    refine x_icmp_ne (tgt := 94) (dat d_Mo_townLine 48 rfl) (by decide) (fun c_78 => ?_) (fun h => absurd h (by decide))
    refine x_iload_n (dat d_Mo_townLine 57 rfl) rfl rfl ?_
    refine x_iconst (dat d_Mo_townLine 58 rfl) (by decide) ?_
    refine x_icmp_ne (tgt := 125) (dat d_Mo_townLine 59 rfl) (by decide) (fun c_96 => ?_) (fun h => absurd h (by decide))
    refine x_iload_n (dat d_Mo_townLine 76 rfl) rfl rfl ?_
    refine x_iconst (dat d_Mo_townLine 77 rfl) (by decide) ?_
    refine x_bipush (dat d_Mo_townLine 78 rfl) (by decide) (by decide) ?_
    refine x_invs (As := [vI 2, vI 5, vI 8]) (dat d_Mo_townLine 79 rfl) rfl c_Mo_isIn l_Mo_136 (by decide) rfl rfl (Nat.le_of_ble_eq_true rfl) ?_
    refine sp_Mo_isIn (fun a b => absurd (And.intro a b) (by decide)) (fun _ => ?_)
    show Wx g y_Mo_townLine Z K 132 [vR 174, vI P.1, vI 2, vI v] [vI 0] (up σ2 177 2 (v - 12))
    refine x_if_eq (tgt := 143) (dat d_Mo_townLine 80 rfl) (by decide) (fun c_132 => ?_) (fun h => absurd h (by decide))
    refine x_iload_n (dat d_Mo_townLine 87 rfl) rfl rfl ?_
    refine x_bipush (dat d_Mo_townLine 88 rfl) (by decide) (by decide) ?_
    refine x_icmp_ne (tgt := 153) (dat d_Mo_townLine 89 rfl) (by decide) (fun c_146 => ?_) (fun h => absurd h (by decide))
    refine x_iload_n (dat d_Mo_townLine 92 rfl) rfl rfl ?_
    refine x_bipush (dat d_Mo_townLine 93 rfl) (by decide) (by decide) ?_
    refine x_icmp_ne (tgt := 184) (dat d_Mo_townLine 94 rfl) (by decide) (fun c_156 => ?_) (fun h => absurd h (by decide))
    refine x_iload_n (dat d_Mo_townLine 112 rfl) rfl rfl ?_
    refine x_bipush (dat d_Mo_townLine 113 rfl) (by decide) (by decide) ?_
    refine x_icmp_ne (tgt := 195) (dat d_Mo_townLine 114 rfl) (by decide) (fun c_187 => ?_) (fun h => absurd h (by decide))
    refine x_aload_n (dat d_Mo_townLine 118 rfl) rfl rfl ?_
    refine x_inv (As := []) (dat d_Mo_townLine 119 rfl) rfl c_Mo_endsLine l_Mo_177 (by decide) (rv_mo (by decide +kernel)) rfl rfl (Nat.le_of_ble_eq_true rfl) ?_
    refine sp_Mo_endsLine H2.r177 (fun σ9 H9 F9 => ?_)
    show Wx g y_Mo_townLine Z K 199 [vR 174, vI P.1, vI 2, vI v] [] σ9
    refine x_ret (dat d_Mo_townLine 120 rfl) rfl ?_
    exact fin σ2 σ9 _ rfl F2 H9 F9
  · have e1 : taX T n 12 15 (false, q, P.2.1) = (true, q, P.2.1) := if_pos (Or.inr hb)
    have e2 : taV T n 12 15 (false, q, P.2.1) = 0 := if_pos (Or.inr hb)
    have l0 := stp_law0a (T := T) (n := n) (s := 0) (P := P) h0 hl (by
      rw [← hq]
      intro w
      refine hb ⟨w.1, ?_⟩
      by_cases y : 12 ≤ wrd T n q ∧ wrd T n q ≤ 15
      · exact y
      · exact absurd (if_neg y) w.2)
    rw [← hq] at l0
    refine x_iload_n (dat d_Mo_townLine 8 rfl) rfl rfl ?_
    refine x_iconst (dat d_Mo_townLine 9 rfl) (by decide) ?_
    refine x_icmp_ne (tgt := 44) (dat d_Mo_townLine 10 rfl) (by decide) (fun c_15 => ?_) (fun h => absurd h (by decide))
    refine x_iload_n (dat d_Mo_townLine 27 rfl) rfl rfl ?_
    refine x_iconst (dat d_Mo_townLine 28 rfl) (by decide) ?_
    refine x_icmp_ne (tgt := 76) (dat d_Mo_townLine 29 rfl) (by decide) (fun h => absurd h (by decide)) (fun c_46 => ?_)
    refine x_aload_n (dat d_Mo_townLine 30 rfl) rfl rfl ?_
    refine x_bipush (dat d_Mo_townLine 31 rfl) (by decide) (by decide) ?_
    refine x_bipush (dat d_Mo_townLine 32 rfl) (by decide) (by decide) ?_
    refine x_inv (As := [vI 12, vI 15]) (dat d_Mo_townLine 33 rfl) rfl c_Mo_takes l_Mo_164 (by decide) (rv_mo (by decide +kernel)) rfl rfl (Nat.le_of_ble_eq_true rfl) ?_
    refine sp_Mo_takes H (fun σ2 H2 F2 => ?_)
    rw [e1] at H2
    rw [e2]
    show Wx g y_Mo_townLine Z K 57 [vR 174, vI P.1, vI 2, w3] [vI 0] σ2
    refine x_istore_n (L' := [vR 174, vI P.1, vI 2, vI 0]) (dat d_Mo_townLine 34 rfl) rfl (by decide) rfl rfl ?_
    refine x_aload_n (dat d_Mo_townLine 35 rfl) rfl rfl ?_
    refine x_getr (r := 177) (dat d_Mo_townLine 36 rfl) rfl f_Mo_17 (or_mk (by decide +kernel)) ?_
    refine x_iconst (dat d_Mo_townLine 37 rfl) (by decide) ?_
    refine x_iload_n (dat d_Mo_townLine 38 rfl) rfl rfl ?_
    refine x_if_ne (tgt := 71) (dat d_Mo_townLine 39 rfl) (by decide) (fun h => absurd h (by decide)) (fun c_64 => ?_)
    refine x_iconst (dat d_Mo_townLine 40 rfl) (by decide) ?_
    refine x_goto (tgt := 75) (dat d_Mo_townLine 41 rfl) (by decide) ?_
    refine x_iast (n := 190) (dat d_Mo_townLine 45 rfl) (ai_mk (by decide +kernel)) (by omega) (by omega) ?_
    refine x_iload_n (dat d_Mo_townLine 46 rfl) rfl rfl ?_
    refine x_iconst (dat d_Mo_townLine 47 rfl) (by decide) ?_
    refine x_icmp_ne (tgt := 94) (dat d_Mo_townLine 48 rfl) (by decide) (fun c_78 => ?_) (fun h => absurd h (by decide))
    refine x_iload_n (dat d_Mo_townLine 57 rfl) rfl rfl ?_
    refine x_iconst (dat d_Mo_townLine 58 rfl) (by decide) ?_
    refine x_icmp_ne (tgt := 125) (dat d_Mo_townLine 59 rfl) (by decide) (fun c_96 => ?_) (fun h => absurd h (by decide))
    refine x_iload_n (dat d_Mo_townLine 76 rfl) rfl rfl ?_
    refine x_iconst (dat d_Mo_townLine 77 rfl) (by decide) ?_
    refine x_bipush (dat d_Mo_townLine 78 rfl) (by decide) (by decide) ?_
    refine x_invs (As := [vI 2, vI 5, vI 8]) (dat d_Mo_townLine 79 rfl) rfl c_Mo_isIn l_Mo_136 (by decide) rfl rfl (Nat.le_of_ble_eq_true rfl) ?_
    refine sp_Mo_isIn (fun a b => absurd (And.intro a b) (by decide)) (fun _ => ?_)
    show Wx g y_Mo_townLine Z K 132 [vR 174, vI P.1, vI 2, vI 0] [vI 0] (up σ2 177 2 0)
    refine x_if_eq (tgt := 143) (dat d_Mo_townLine 80 rfl) (by decide) (fun c_132 => ?_) (fun h => absurd h (by decide))
    refine x_iload_n (dat d_Mo_townLine 87 rfl) rfl rfl ?_
    refine x_bipush (dat d_Mo_townLine 88 rfl) (by decide) (by decide) ?_
    refine x_icmp_ne (tgt := 153) (dat d_Mo_townLine 89 rfl) (by decide) (fun c_146 => ?_) (fun h => absurd h (by decide))
    refine x_iload_n (dat d_Mo_townLine 92 rfl) rfl rfl ?_
    refine x_bipush (dat d_Mo_townLine 93 rfl) (by decide) (by decide) ?_
    refine x_icmp_ne (tgt := 184) (dat d_Mo_townLine 94 rfl) (by decide) (fun c_156 => ?_) (fun h => absurd h (by decide))
    refine x_iload_n (dat d_Mo_townLine 112 rfl) rfl rfl ?_
    refine x_bipush (dat d_Mo_townLine 113 rfl) (by decide) (by decide) ?_
    refine x_icmp_ne (tgt := 195) (dat d_Mo_townLine 114 rfl) (by decide) (fun c_187 => ?_) (fun h => absurd h (by decide))
    refine x_aload_n (dat d_Mo_townLine 118 rfl) rfl rfl ?_
    refine x_inv (As := []) (dat d_Mo_townLine 119 rfl) rfl c_Mo_endsLine l_Mo_177 (by decide) (rv_mo (by decide +kernel)) rfl rfl (Nat.le_of_ble_eq_true rfl) ?_
    refine sp_Mo_endsLine H2.r177 (fun σ9 H9 F9 => ?_)
    rw [eoX_br rfl] at H9
    show Wx g y_Mo_townLine Z K 199 [vR 174, vI P.1, vI 2, vI 0] [] σ9
    refine x_ret (dat d_Mo_townLine 120 rfl) rfl ?_
    exact k σ9 (LnR.brk l0 H9) (((F.trans F2.ry.ln).row _ _).trans F9.ry.ln)
theorem ln_bad {f : Int × Int} (h0 : tkK T n P.1 ≠ 0) (hl : lnK T n 0 P.1 = -1) (H : RX σ1 T n (true, P.1, f)) (F : LnF σ1 σ) (k : ∀ σ' : xS, LnR σ' T n 0 P → LnF σ' σ → K none σ') : Wx g y_Mo_townLine Z K 13 [vR 174, vI P.1, vI 0, w3] [] σ1 := by
  refine x_iload_n (dat d_Mo_townLine 8 rfl) rfl rfl ?_
  refine x_iconst (dat d_Mo_townLine 9 rfl) (by decide) ?_
  refine x_icmp_ne (tgt := 44) (dat d_Mo_townLine 10 rfl) (by decide) (fun c_15 => ?_) (fun h => absurd h (by decide))
  refine x_iload_n (dat d_Mo_townLine 27 rfl) rfl rfl ?_
  refine x_iconst (dat d_Mo_townLine 28 rfl) (by decide) ?_
  refine x_icmp_ne (tgt := 76) (dat d_Mo_townLine 29 rfl) (by decide) (fun c_46 => ?_) (fun h => absurd h (by decide))
  refine x_iload_n (dat d_Mo_townLine 46 rfl) rfl rfl ?_
  refine x_iconst (dat d_Mo_townLine 47 rfl) (by decide) ?_
  refine x_icmp_ne (tgt := 94) (dat d_Mo_townLine 48 rfl) (by decide) (fun c_78 => ?_) (fun h => absurd h (by decide))
  refine x_iload_n (dat d_Mo_townLine 57 rfl) rfl rfl ?_
  refine x_iconst (dat d_Mo_townLine 58 rfl) (by decide) ?_
  refine x_icmp_ne (tgt := 125) (dat d_Mo_townLine 59 rfl) (by decide) (fun c_96 => ?_) (fun h => absurd h (by decide))
  refine x_iload_n (dat d_Mo_townLine 76 rfl) rfl rfl ?_
  refine x_iconst (dat d_Mo_townLine 77 rfl) (by decide) ?_
  refine x_bipush (dat d_Mo_townLine 78 rfl) (by decide) (by decide) ?_
  refine x_invs (As := [vI 0, vI 5, vI 8]) (dat d_Mo_townLine 79 rfl) rfl c_Mo_isIn l_Mo_136 (by decide) rfl rfl (Nat.le_of_ble_eq_true rfl) ?_
  refine sp_Mo_isIn (fun a b => absurd (And.intro a b) (by decide)) (fun _ => ?_)
  show Wx g y_Mo_townLine Z K 132 [vR 174, vI P.1, vI 0, w3] [vI 0] σ1
  refine x_if_eq (tgt := 143) (dat d_Mo_townLine 80 rfl) (by decide) (fun c_132 => ?_) (fun h => absurd h (by decide))
  refine x_iload_n (dat d_Mo_townLine 87 rfl) rfl rfl ?_
  refine x_bipush (dat d_Mo_townLine 88 rfl) (by decide) (by decide) ?_
  refine x_icmp_ne (tgt := 153) (dat d_Mo_townLine 89 rfl) (by decide) (fun c_146 => ?_) (fun h => absurd h (by decide))
  refine x_iload_n (dat d_Mo_townLine 92 rfl) rfl rfl ?_
  refine x_bipush (dat d_Mo_townLine 93 rfl) (by decide) (by decide) ?_
  refine x_icmp_ne (tgt := 184) (dat d_Mo_townLine 94 rfl) (by decide) (fun c_156 => ?_) (fun h => absurd h (by decide))
  refine x_iload_n (dat d_Mo_townLine 112 rfl) rfl rfl ?_
  refine x_bipush (dat d_Mo_townLine 113 rfl) (by decide) (by decide) ?_
  refine x_icmp_ne (tgt := 195) (dat d_Mo_townLine 114 rfl) (by decide) (fun c_187 => ?_) (fun h => absurd h (by decide))
  refine x_aload_n (dat d_Mo_townLine 118 rfl) rfl rfl ?_
  refine x_inv (As := []) (dat d_Mo_townLine 119 rfl) rfl c_Mo_endsLine l_Mo_177 (by decide) (rv_mo (by decide +kernel)) rfl rfl (Nat.le_of_ble_eq_true rfl) ?_
  refine sp_Mo_endsLine H (fun σ9 H9 F9 => ?_)
  rw [eoX_br rfl] at H9
  show Wx g y_Mo_townLine Z K 199 [vR 174, vI P.1, vI 0, w3] [] σ9
  refine x_ret (dat d_Mo_townLine 120 rfl) rfl ?_
  exact k σ9 (LnR.brk (stp_bad h0 hl) H9) (F.trans F9.ry.ln)
theorem sp_Mo_townLine (L : TwL σ T n 0 P) (h0 : tkK T n P.1 ≠ 0) (k : ∀ σ' : xS, LnR σ' T n 0 P → LnF σ' σ → K none σ') : Mt g y_Mo_townLine [vR 174] σ K := by
  obtain ⟨H, hf, B, E⟩ := L
  have ew : σ 174 4 = P.1 := H.at.2.2.1.1.1
  have p0 : 0 ≤ P.1 := H.1.2.1
  refine x_enter 3 rfl rfl rfl (fun Z => ?_)
  show Wx g y_Mo_townLine Z K 0 [vR 174, vU, vU, vU] [] σ
  refine x_aload_n (dat d_Mo_townLine 0 rfl) rfl rfl ?_
  refine x_geti (ji := 4) (v := P.1) (dat d_Mo_townLine 1 rfl) rfl f_Mo_102 (oi_mk (by decide +kernel)) (by exact ew) ?_
  refine x_istore_n (L' := [vR 174, vI P.1, vU, vU]) (dat d_Mo_townLine 2 rfl) rfl (by decide) rfl rfl ?_
  refine x_aload_n (dat d_Mo_townLine 3 rfl) rfl rfl ?_
  refine x_iconst (dat d_Mo_townLine 4 rfl) (by decide) ?_
  refine x_bipush (dat d_Mo_townLine 5 rfl) (by decide) (by decide) ?_
  refine x_inv (As := [vI 1, vI 11]) (dat d_Mo_townLine 6 rfl) rfl c_Mo_takes l_Mo_164 (by decide) (rv_mo (by decide +kernel)) rfl rfl (Nat.le_of_ble_eq_true rfl) ?_
  refine sp_Mo_takes H (fun σ1 H1 F1 => ?_)
  show Wx g y_Mo_townLine Z K 12 [vR 174, vI P.1, vU, vU] [vI (taV T n 1 11 (false, P.1, P.2.1))] σ1
  refine x_istore_n (L' := [vR 174, vI P.1, vI (taV T n 1 11 (false, P.1, P.2.1)), vU]) (dat d_Mo_townLine 7 rfl) rfl (by decide) rfl rfl ?_
  by_cases hb : tkK T n P.1 = 3 ∧ 1 ≤ wrd T n P.1 ∧ wrd T n P.1 ≤ 11
  · have e1 : taX T n 1 11 (false, P.1, P.2.1) = (false, nxt T n P.1, P.2.1) := if_neg (fun w => w.elim (fun y => Bool.noConfusion y) (fun y => y hb))
    have e2 : taV T n 1 11 (false, P.1, P.2.1) = wrd T n P.1 := if_neg (fun w => w.elim (fun y => Bool.noConfusion y) (fun y => y hb))
    rw [e1] at H1
    rw [e2]
    have LB : LnB σ1 σ T n P := ⟨H1, hf, B.same (F1.2.2 177 (by decide) (by decide)), fun z => ⟨⟨by rw [F1.1 9 (by decide)]; exact (E z).1.1, by rw [F1.1 10 (by decide)]; exact (E z).1.2⟩, RwE.same (E z).2 (F1.2.2 177 (by decide) (by decide))⟩, F1.ry.ln⟩
    have ek : lnK T n 0 P.1 = lnW 0 (wrd T n P.1) := if_pos hb.1
    have cs : ((((wrd T n P.1 = 1 ∨ wrd T n P.1 = 2) ∨ wrd T n P.1 = 3 ∨ wrd T n P.1 = 4) ∨ (5 ≤ wrd T n P.1 ∧ wrd T n P.1 ≤ 8) ∨ wrd T n P.1 = 9) ∨ wrd T n P.1 = 10 ∨ wrd T n P.1 = 11) := by omega
    rcases cs with (((w | w) | w | w) | w | w) | w | w
    · rw [w]; exact ln_size h0 (by rw [ek, w]; rfl) LB k
    · rw [w]; exact ln_law h0 (by rw [ek, w]; rfl) LB k
    · rw [w]; exact ln_hours h0 (by rw [ek, w]; rfl) LB k
    · rw [w]; exact ln_eat h0 (by rw [ek, w]; rfl) LB k
    · exact ln_person w.1 w.2 h0 (by rw [ek]; unfold lnW; rw [if_neg (by decide), if_pos w]) (if_pos w) LB k
    · rw [w]; exact ln_errand h0 p0 (by rw [ek, w]; rfl) LB k
    · rw [w]; exact ln_extra h0 (by rw [ek, w]; rfl) LB k
    · rw [w]; exact ln_quarrel h0 (by rw [ek, w]; rfl) LB k
  · have e1 : taX T n 1 11 (false, P.1, P.2.1) = (true, P.1, P.2.1) := if_pos (Or.inr hb)
    have e2 : taV T n 1 11 (false, P.1, P.2.1) = 0 := if_pos (Or.inr hb)
    rw [e1] at H1
    rw [e2]
    refine ln_bad h0 ?_ H1 F1.ry.ln k
    unfold lnK
    by_cases z : tkK T n P.1 = 3
    · rw [if_pos z]
      have wb := wrd_bd T n P.1
      have nb : ¬ (1 ≤ wrd T n P.1 ∧ wrd T n P.1 ≤ 11) := fun y => hb ⟨z, y⟩
      generalize wrd T n P.1 = w at wb nb
      unfold lnW
      rw [if_neg (by decide), if_neg (by omega), if_neg (by omega), if_neg (by omega), if_neg (by omega), if_neg (by omega), if_neg (by omega), if_neg (by omega), if_neg (by omega)]
    · rw [if_neg z]
theorem xs_3 {T : Int → Int} {n l lo0 hi0 lo1 hi1 lo2 hi2 : Int} (h : (loT l 0 = lo0 ∧ hiT l 0 = hi0) ∧ (loT l 1 = lo1 ∧ hiT l 1 = hi1) ∧ loT l 2 = lo2 ∧ hiT l 2 = hi2) (x : Rx) : xsN T n l x 3 = nuX T n lo2 hi2 (nuX T n lo1 hi1 (nuX T n lo0 hi0 x)) := by
  obtain ⟨⟨rfl, rfl⟩, ⟨rfl, rfl⟩, rfl, rfl⟩ := h
  rfl
theorem sp_Mo_bookLine (L : TwL σ T n 1 P) (h0 : tkK T n P.1 ≠ 0) (k : ∀ σ' : xS, LnR σ' T n 1 P → LnF σ' σ → K none σ') : Mt g y_Mo_bookLine [vR 174] σ K := by
  obtain ⟨H, hf, B, E⟩ := L
  have ew : σ 174 4 = P.1 := H.at.2.2.1.1.1
  have b0 := B.2 rfl
  obtain ⟨pp, hp⟩ : ∃ pp : Int, pp = σ 177 0 := ⟨_, rfl⟩
  rw [← hp] at b0
  have bad : ¬ (tkK T n P.1 = 3 ∧ 16 ≤ wrd T n P.1 ∧ wrd T n P.1 ≤ 16) → lnK T n 1 P.1 = -1 := fun hb => by
    unfold lnK
    by_cases z : tkK T n P.1 = 3
    · rw [if_pos z]
      unfold lnW
      rw [if_pos rfl, if_neg (fun w => hb ⟨z, by omega, by omega⟩)]
    · rw [if_neg z]
  have lt : (loT 7 0 = 0 ∧ hiT 7 0 = 7) ∧ (loT 7 1 = 0 ∧ hiT 7 1 = 23) ∧ loT 7 2 = 0 ∧ hiT 7 2 = 99 := by decide +kernel
  have fin : lnK T n 1 P.1 = 7 → ∀ (x0 : Rx) (v0 v1 v2 : Int) (σ4 σ5 σ9 : xS), x0 = mrX (decide (pp < 8)) P.1 (false, nxt T n P.1, P.2.1) → v0 = nuV T n 0 7 x0 → v1 = nuV T n 0 23 (nuX T n 0 7 x0) → v2 = nuV T n 0 99 (nuX T n 0 23 (nuX T n 0 7 x0)) → RxF σ4 σ → (pp < 8 → σ5 = up (up (up (up σ4 177 (1 + 3 * pp) v0) 177 (2 + 3 * pp) v1) 177 (3 + 3 * pp) v2) 177 0 (pp + 1)) → (¬ pp < 8 → σ5 = σ4) → RX σ9 T n (eoX T n (nuX T n 0 99 (nuX T n 0 23 (nuX T n 0 7 x0)))) → RxF σ9 σ5 → K none σ9 := by
    intro hl x0 v0 v1 v2 σ4 σ5 σ9 hx0 e0 e1 e2 F4 s1 s2 H9 F9
    have ex : x0 = (false, nxt T n P.1, blm P.2.1 (fulL 7 P.2.2.2.2) 3 P.1) := by
      rw [hx0]
      refine f0_more (r := P.2.2.2.2) (fun z => ?_) hf
      have e6 := (E z).2 0 (by decide) (by decide)
      show (decide ((7 : Int) = 3) && decide (8 ≤ P.2.2.2.2 6) || decide ((7 : Int) = 6) && decide (6 ≤ P.2.2.2.2 7) || decide ((7 : Int) = 7) && decide (8 ≤ P.2.2.2.2 0)) = !decide (pp < 8)
      rw [hp, e6]
      by_cases y : 8 ≤ P.2.2.2.2 0
      · rw [decide_eq_true y, decide_eq_false (show ¬ P.2.2.2.2 0 < 8 by omega)]; rfl
      · rw [decide_eq_false y, decide_eq_true (show P.2.2.2.2 0 < 8 by omega)]; rfl
    clear hx0
    subst ex
    have B4 := B.same (F4.2.2 177 (by decide) (by decide))
    have B5 : BnR σ5 1 := by
      by_cases z : pp < 8
      · rw [s1 z]
        exact (((B4.st ⟨fun z => absurd z (by decide), fun _ y => by omega⟩).st ⟨fun z => absurd z (by decide), fun _ y => by omega⟩).st ⟨fun z => absurd z (by decide), fun _ y => by omega⟩).st ⟨fun z => absurd z (by decide), fun _ _ => by omega⟩
      · rw [s2 z]; exact B4
    have F5 : LnF σ5 σ := by
      by_cases z : pp < 8
      · rw [s1 z]; exact (((F4.ry.ln.row _ _).row _ _).row _ _).row _ _
      · rw [s2 z]; exact F4.ry.ln
    refine k σ9 (LnR.fix (l := 7) (m := 3) h0 hl (by decide) (by decide) (by decide) (by decide) (by decide +kernel) (by decide +kernel) (B5.same (F9.2.2 177 (by decide) (by decide))) rfl (by rw [xs_3 lt]; exact H9) hf (fun hk hx hr z hfu => ?_)) (F5.trans F9.ry.ln)
    have f6 := (ful_f hfu).2.2 rfl
    have e6 := (E z).2 0 (by decide) (by decide)
    have pl : pp < 8 := by rw [hp, e6]; exact f6
    have r0 := hr 0 (by decide)
    rw [lt.1.1, lt.1.2] at r0
    have t0 := nuV_at (q1 := nxt T n P.1) (j := 0) (f := blm P.2.1 (fulL 7 P.2.2.2.2) 3 P.1) e0 rfl (hk 0 (by decide)) r0
    have r1 := hr 1 (by decide)
    rw [lt.2.1.1, lt.2.1.2] at r1
    have x1 := hx 1 (by decide)
    rw [xs_1 lt.1] at x1
    have t1 := nuV_at (q1 := nxt T n P.1) (j := 1) e1 x1 (hk 1 (by decide)) r1
    have r2 := hr 2 (by decide)
    rw [lt.2.2.1, lt.2.2.2] at r2
    have x2 := hx 2 (by decide)
    rw [xs_2 ⟨lt.1, lt.2.1⟩] at x2
    have t2 := nuV_at (q1 := nxt T n P.1) (j := 2) e2 x2 (hk 2 (by decide)) r2
    have s1 := s1 pl
    have E4 := RwE.same (E z).2 (F4.2.2 177 (by decide) (by decide))
    have E5 := (((E4.st (1 + 3 * pp) v0).st (2 + 3 * pp) v1).st (3 + 3 * pp) v2).st 0 (pp + 1)
    rw [← s1] at E5
    have E9 := E5.same (F9.2.2 177 (by decide) (by decide))
    rw [t0, t1, t2, hp, e6] at E9
    refine ⟨⟨?_, ?_⟩, E9⟩
    · rw [F9.1 9 (by decide), s1, up_ne (by decide), up_ne (by decide), up_ne (by decide), up_ne (by decide), F4.1 9 (by decide), gpN_n (by decide)]; exact (E z).1.1
    · rw [F9.1 10 (by decide), s1, up_ne (by decide), up_ne (by decide), up_ne (by decide), up_ne (by decide), F4.1 10 (by decide), gcN_n (by decide)]; exact (E z).1.2
  have good : ∀ (Z : xZ) (σ1 : xS) (mo : Int) (w3 w4 w5 w6 : MV), (mo = if pp < 8 then 1 else 0) → tkK T n P.1 = 3 → wrd T n P.1 = 16 → RX σ1 T n (false, nxt T n P.1, P.2.1) → RxF σ1 σ → Wx g y_Mo_bookLine Z K 35 [vR 174, vI P.1, vI mo, w3, w4, w5, w6] [] σ1 := by
    intro Z σ1 mo w3 w4 w5 w6 hmo hk hw H1 F1
    have fin := fin (by unfold lnK; rw [if_pos hk, hw]; rfl)
    have tail : ∀ (σ2 : xS) (x0 : Rx), x0 = mrX (decide (pp < 8)) P.1 (false, nxt T n P.1, P.2.1) → RX σ2 T n x0 → RxF σ2 σ → Wx g y_Mo_bookLine Z K 45 [vR 174, vI P.1, vI mo, w3, w4, w5, w6] [] σ2 := by
      intro σ2 x0 hx0 H2 F2
      have fin := fun v0 v1 v2 σ4 σ5 σ9 => fin x0 v0 v1 v2 σ4 σ5 σ9 hx0
      refine x_aload_n (dat d_Mo_bookLine 25 rfl) rfl rfl ?_
      refine x_iconst (dat d_Mo_bookLine 26 rfl) (by decide) ?_
      refine x_bipush (dat d_Mo_bookLine 27 rfl) (by decide) (by decide) ?_
      refine x_inv (As := [vI 0, vI 7]) (dat d_Mo_bookLine 28 rfl) rfl c_Mo_numbered l_Mo_147 (by decide) (rv_mo (by decide +kernel)) rfl rfl (Nat.le_of_ble_eq_true rfl) ?_
      refine sp_Mo_numbered H2 (by decide) (fun σ3 H3 F3 => ?_)
      have v0b := nuV_in (T := T) (n := n) (lo := 0) (hi := 7) (by decide) x0
      obtain ⟨v0, e0⟩ : ∃ v : Int, v = nuV T n 0 7 x0 := ⟨_, rfl⟩
      rw [← e0] at v0b ⊢
      show Wx g y_Mo_bookLine Z K 52 [vR 174, vI P.1, vI mo, w3, w4, w5, w6] [vI v0] σ3
      refine x_istore_n (L' := [vR 174, vI P.1, vI mo, vI v0, w4, w5, w6]) (dat d_Mo_bookLine 29 rfl) rfl (by decide) rfl rfl ?_
      refine x_aload_n (dat d_Mo_bookLine 30 rfl) rfl rfl ?_
      refine x_iconst (dat d_Mo_bookLine 31 rfl) (by decide) ?_
      refine x_bipush (dat d_Mo_bookLine 32 rfl) (by decide) (by decide) ?_
      refine x_inv (As := [vI 0, vI 23]) (dat d_Mo_bookLine 33 rfl) rfl c_Mo_numbered l_Mo_147 (by decide) (rv_mo (by decide +kernel)) rfl rfl (Nat.le_of_ble_eq_true rfl) ?_
      refine sp_Mo_numbered H3 (by decide) (fun σ4 H4 F4 => ?_)
      have v1b := nuV_in (T := T) (n := n) (lo := 0) (hi := 23) (by decide) (nuX T n 0 7 x0)
      obtain ⟨v1, e1⟩ : ∃ v : Int, v = nuV T n 0 23 (nuX T n 0 7 x0) := ⟨_, rfl⟩
      rw [← e1] at v1b ⊢
      show Wx g y_Mo_bookLine Z K 60 [vR 174, vI P.1, vI mo, vI v0, w4, w5, w6] [vI v1] σ4
      refine x_istore (L' := [vR 174, vI P.1, vI mo, vI v0, vI v1, w5, w6]) (dat d_Mo_bookLine 34 rfl) (by decide) rfl rfl ?_
      refine x_aload_n (dat d_Mo_bookLine 35 rfl) rfl rfl ?_
      refine x_iconst (dat d_Mo_bookLine 36 rfl) (by decide) ?_
      refine x_bipush (dat d_Mo_bookLine 37 rfl) (by decide) (by decide) ?_
      refine x_inv (As := [vI 0, vI 99]) (dat d_Mo_bookLine 38 rfl) rfl c_Mo_numbered l_Mo_147 (by decide) (rv_mo (by decide +kernel)) rfl rfl (Nat.le_of_ble_eq_true rfl) ?_
      refine sp_Mo_numbered H4 (by decide) (fun σ5 H5 F5 => ?_)
      have v2b := nuV_in (T := T) (n := n) (lo := 0) (hi := 99) (by decide) (nuX T n 0 23 (nuX T n 0 7 x0))
      obtain ⟨v2, e2⟩ : ∃ v : Int, v = nuV T n 0 99 (nuX T n 0 23 (nuX T n 0 7 x0)) := ⟨_, rfl⟩
      rw [← e2] at v2b ⊢
      have FF := ((F2.trans F3).trans F4).trans F5
      have fin := fun σ6 σ9 => fin v0 v1 v2 σ5 σ6 σ9 e0 e1 e2 FF
      have e177 : σ5 177 0 = pp := by rw [FF.2.2 177 (by decide) (by decide)]; exact hp.symm
      have pl : mo ≠ 0 → pp < 8 := fun y => by
        by_cases z : pp < 8
        · exact z
        · rw [if_neg z] at hmo; exact absurd hmo y
      have pg : mo = 0 → ¬ pp < 8 := fun y z => by rw [if_pos z] at hmo; omega
      show Wx g y_Mo_bookLine Z K 69 [vR 174, vI P.1, vI mo, vI v0, vI v1, w5, w6] [vI v2] σ5
      refine x_istore (L' := [vR 174, vI P.1, vI mo, vI v0, vI v1, vI v2, w6]) (dat d_Mo_bookLine 39 rfl) (by decide) rfl rfl ?_
      refine x_iload_n (dat d_Mo_bookLine 40 rfl) rfl rfl ?_
      refine x_if_eq (tgt := 127) (dat d_Mo_bookLine 41 rfl) (by decide) (fun c_72 => ?_) (fun c_72 => ?_)
      · refine x_aload_n (dat d_Mo_bookLine 78 rfl) rfl rfl ?_
        refine x_inv (As := []) (dat d_Mo_bookLine 79 rfl) rfl c_Mo_endsLine l_Mo_177 (by decide) (rv_mo (by decide +kernel)) rfl rfl (Nat.le_of_ble_eq_true rfl) ?_
        first
        | refine sp_Mo_endsLine (H5.r177.r177.r177.r177) (fun σ9 H9 F9 => ?_)
        | refine sp_Mo_endsLine H5 (fun σ9 H9 F9 => ?_)
        show Wx g y_Mo_bookLine Z K 131 [vR 174, vI P.1, vI mo, vI v0, vI v1, vI v2, w6] [] σ9
        refine x_ret (dat d_Mo_bookLine 80 rfl) rfl ?_
        first
        | exact fin _ σ9 (fun _ => rfl) (fun z => absurd pl z) H9 F9
        | exact fin _ σ9 (fun z => absurd z (pg (by omega))) (fun _ => rfl) H9 F9
      · refine x_iconst (dat d_Mo_bookLine 42 rfl) (by decide) ?_
        have pl := pl (by omega)
        refine x_iconst (dat d_Mo_bookLine 43 rfl) (by decide) ?_
        refine x_aload_n (dat d_Mo_bookLine 44 rfl) rfl rfl ?_
        refine x_getr (r := 177) (dat d_Mo_bookLine 45 rfl) rfl f_Mo_17 (or_mk (by decide +kernel)) ?_
        refine x_iconst (dat d_Mo_bookLine 46 rfl) (by decide) ?_
        refine x_iald (n := 190) (v := pp) (dat d_Mo_bookLine 47 rfl) (ai_mk (by decide +kernel)) (by omega) (by omega) (e177) ?_
        refine x_imul (v := 3 * pp) (dat d_Mo_bookLine 48 rfl) (by omega) (by omega) ?_
        refine x_iadd (v := 1 + (3 * pp)) (dat d_Mo_bookLine 49 rfl) rfl (by omega) ?_
        refine x_istore (L' := [vR 174, vI P.1, vI mo, vI v0, vI v1, vI v2, vI (1 + (3 * pp))]) (dat d_Mo_bookLine 50 rfl) (by decide) rfl rfl ?_
        refine x_aload_n (dat d_Mo_bookLine 51 rfl) rfl rfl ?_
        refine x_getr (r := 177) (dat d_Mo_bookLine 52 rfl) rfl f_Mo_17 (or_mk (by decide +kernel)) ?_
        refine x_iload (dat d_Mo_bookLine 53 rfl) rfl ?_
        refine x_iload_n (dat d_Mo_bookLine 54 rfl) rfl rfl ?_
        refine x_iast (n := 190) (dat d_Mo_bookLine 55 rfl) (ai_mk (by decide +kernel)) (by omega) (by omega) ?_
        refine x_aload_n (dat d_Mo_bookLine 56 rfl) rfl rfl ?_
        refine x_getr (r := 177) (dat d_Mo_bookLine 57 rfl) rfl f_Mo_17 (or_mk (by decide +kernel)) ?_
        refine x_iload (dat d_Mo_bookLine 58 rfl) rfl ?_
        refine x_iconst (dat d_Mo_bookLine 59 rfl) (by decide) ?_
        refine x_iadd (v := 2 + 3 * pp) (dat d_Mo_bookLine 60 rfl) (by omega) (by omega) ?_
        refine x_iload (dat d_Mo_bookLine 61 rfl) rfl ?_
        refine x_iast (n := 190) (dat d_Mo_bookLine 62 rfl) (ai_mk (by decide +kernel)) (by omega) (by omega) ?_
        refine x_aload_n (dat d_Mo_bookLine 63 rfl) rfl rfl ?_
        refine x_getr (r := 177) (dat d_Mo_bookLine 64 rfl) rfl f_Mo_17 (or_mk (by decide +kernel)) ?_
        refine x_iload (dat d_Mo_bookLine 65 rfl) rfl ?_
        refine x_iconst (dat d_Mo_bookLine 66 rfl) (by decide) ?_
        refine x_iadd (v := 3 + 3 * pp) (dat d_Mo_bookLine 67 rfl) (by omega) (by omega) ?_
        refine x_iload (dat d_Mo_bookLine 68 rfl) rfl ?_
        refine x_iast (n := 190) (dat d_Mo_bookLine 69 rfl) (ai_mk (by decide +kernel)) (by omega) (by omega) ?_
        refine x_aload_n (dat d_Mo_bookLine 70 rfl) rfl rfl ?_
        refine x_getr (r := 177) (dat d_Mo_bookLine 71 rfl) rfl f_Mo_17 (or_mk (by decide +kernel)) ?_
        refine x_iconst (dat d_Mo_bookLine 72 rfl) (by decide) ?_
        refine x_dup2 (dat d_Mo_bookLine 73 rfl) rfl rfl ?_
        refine x_iald (n := 190) (v := pp) (dat d_Mo_bookLine 74 rfl) (ai_mk (by decide +kernel)) (by omega) (by omega) ((up_ni (by omega)).trans ((up_ni (by omega)).trans ((up_ni (by omega)).trans e177))) ?_
        refine x_iconst (dat d_Mo_bookLine 75 rfl) (by decide) ?_
        refine x_iadd (v := pp + 1) (dat d_Mo_bookLine 76 rfl) rfl (by omega) ?_
        refine x_iast (n := 190) (dat d_Mo_bookLine 77 rfl) (ai_mk (by decide +kernel)) (by omega) (by omega) ?_
        refine x_aload_n (dat d_Mo_bookLine 78 rfl) rfl rfl ?_
        refine x_inv (As := []) (dat d_Mo_bookLine 79 rfl) rfl c_Mo_endsLine l_Mo_177 (by decide) (rv_mo (by decide +kernel)) rfl rfl (Nat.le_of_ble_eq_true rfl) ?_
        first
        | refine sp_Mo_endsLine (H5.r177.r177.r177.r177) (fun σ9 H9 F9 => ?_)
        | refine sp_Mo_endsLine H5 (fun σ9 H9 F9 => ?_)
        show Wx g y_Mo_bookLine Z K 131 [vR 174, vI P.1, vI mo, vI v0, vI v1, vI v2, vI (1 + (3 * pp))] [] σ9
        refine x_ret (dat d_Mo_bookLine 80 rfl) rfl ?_
        first
        | exact fin _ σ9 (fun _ => rfl) (fun z => absurd pl z) H9 F9
        | exact fin _ σ9 (fun z => absurd z (pg (by omega))) (fun _ => rfl) H9 F9
    by_cases hm : pp < 8
    · rw [if_pos hm] at hmo
      refine x_iload_n (dat d_Mo_bookLine 19 rfl) rfl rfl ?_
      refine x_if_ne (tgt := 45) (dat d_Mo_bookLine 20 rfl) (by decide) (fun c_36 => ?_) (fun c_36 => (by omega))
      exact tail σ1 _ rfl (by rw [decide_eq_true hm]; exact H1) F1
    · rw [if_neg hm] at hmo
      refine x_iload_n (dat d_Mo_bookLine 19 rfl) rfl rfl ?_
      refine x_if_ne (tgt := 45) (dat d_Mo_bookLine 20 rfl) (by decide) (fun c_36 => (by omega)) (fun c_36 => ?_)
      refine x_aload_n (dat d_Mo_bookLine 21 rfl) rfl rfl ?_
      refine x_iconst (dat d_Mo_bookLine 22 rfl) (by decide) ?_
      refine x_iload_n (dat d_Mo_bookLine 23 rfl) rfl rfl ?_
      refine x_inv (As := [vI 3, vI P.1]) (dat d_Mo_bookLine 24 rfl) rfl c_Mo_also l_Mo_140 (by decide) (rv_mo (by decide +kernel)) rfl rfl (Nat.le_of_ble_eq_true rfl) ?_
      refine sp_Mo_also H1 (by decide) (fun σ2 H2 F2 => ?_)
      show Wx g y_Mo_bookLine Z K 45 [vR 174, vI P.1, vI mo, w3, w4, w5, w6] [] σ2
      exact tail σ2 _ rfl (by rw [decide_eq_false hm]; exact H2) (F1.trans F2)
  have mid : ∀ (Z : xZ) (mo : Int), (mo = if pp < 8 then 1 else 0) → Wx g y_Mo_bookLine Z K 22 [vR 174, vI P.1, vI mo, vU, vU, vU, vU] [] σ := by
    intro Z mo hmo
    by_cases hb : tkK T n P.1 = 3 ∧ 16 ≤ wrd T n P.1 ∧ wrd T n P.1 ≤ 16
    · have e1 : taX T n 16 16 (false, P.1, P.2.1) = (false, nxt T n P.1, P.2.1) := if_neg (fun w => w.elim (fun y => Bool.noConfusion y) (fun y => y hb))
      have e2 : taV T n 16 16 (false, P.1, P.2.1) = wrd T n P.1 := if_neg (fun w => w.elim (fun y => Bool.noConfusion y) (fun y => y hb))
      have e16 : wrd T n P.1 = 16 := by omega
      refine x_aload_n (dat d_Mo_bookLine 13 rfl) rfl rfl ?_
      refine x_bipush (dat d_Mo_bookLine 14 rfl) (by decide) (by decide) ?_
      refine x_bipush (dat d_Mo_bookLine 15 rfl) (by decide) (by decide) ?_
      refine x_inv (As := [vI 16, vI 16]) (dat d_Mo_bookLine 16 rfl) rfl c_Mo_takes l_Mo_164 (by decide) (rv_mo (by decide +kernel)) rfl rfl (Nat.le_of_ble_eq_true rfl) ?_
      refine sp_Mo_takes H (fun σ1 H1 F1 => ?_)
      rw [e1] at H1
      rw [e2, e16]
      show Wx g y_Mo_bookLine Z K 30 [vR 174, vI P.1, vI mo, vU, vU, vU, vU] [vI 16] σ1
      refine x_bipush (dat d_Mo_bookLine 17 rfl) (by decide) (by decide) ?_
      refine x_icmp_ne (tgt := 127) (dat d_Mo_bookLine 18 rfl) (by decide) (fun h => absurd h (by decide)) (fun c_32 => ?_)
      exact good Z σ1 mo _ _ _ _ hmo hb.1 e16 H1 F1
    · have e1 : taX T n 16 16 (false, P.1, P.2.1) = (true, P.1, P.2.1) := if_pos (Or.inr hb)
      have e2 : taV T n 16 16 (false, P.1, P.2.1) = 0 := if_pos (Or.inr hb)
      refine x_aload_n (dat d_Mo_bookLine 13 rfl) rfl rfl ?_
      refine x_bipush (dat d_Mo_bookLine 14 rfl) (by decide) (by decide) ?_
      refine x_bipush (dat d_Mo_bookLine 15 rfl) (by decide) (by decide) ?_
      refine x_inv (As := [vI 16, vI 16]) (dat d_Mo_bookLine 16 rfl) rfl c_Mo_takes l_Mo_164 (by decide) (rv_mo (by decide +kernel)) rfl rfl (Nat.le_of_ble_eq_true rfl) ?_
      refine sp_Mo_takes H (fun σ1 H1 F1 => ?_)
      rw [e1] at H1
      rw [e2]
      show Wx g y_Mo_bookLine Z K 30 [vR 174, vI P.1, vI mo, vU, vU, vU, vU] [vI 0] σ1
      refine x_bipush (dat d_Mo_bookLine 17 rfl) (by decide) (by decide) ?_
      refine x_icmp_ne (tgt := 127) (dat d_Mo_bookLine 18 rfl) (by decide) (fun c_32 => ?_) (fun h => absurd h (by decide))
      refine x_aload_n (dat d_Mo_bookLine 78 rfl) rfl rfl ?_
      refine x_inv (As := []) (dat d_Mo_bookLine 79 rfl) rfl c_Mo_endsLine l_Mo_177 (by decide) (rv_mo (by decide +kernel)) rfl rfl (Nat.le_of_ble_eq_true rfl) ?_
      refine sp_Mo_endsLine H1 (fun σ9 H9 F9 => ?_)
      rw [eoX_br rfl] at H9
      show Wx g y_Mo_bookLine Z K 131 [vR 174, vI P.1, vI mo, vU, vU, vU, vU] [] σ9
      refine x_ret (dat d_Mo_bookLine 80 rfl) rfl ?_
      exact k σ9 (LnR.brk (stp_bad h0 (bad hb)) H9) (F1.ry.ln.trans F9.ry.ln)
  by_cases hm : pp < 8
  · refine x_enter 6 rfl rfl rfl (fun Z => ?_)
    show Wx g y_Mo_bookLine Z K 0 [vR 174, vU, vU, vU, vU, vU, vU] [] σ
    refine x_aload_n (dat d_Mo_bookLine 0 rfl) rfl rfl ?_
    refine x_geti (ji := 4) (v := P.1) (dat d_Mo_bookLine 1 rfl) rfl f_Mo_102 (oi_mk (by decide +kernel)) (by exact ew) ?_
    refine x_istore_n (L' := [vR 174, vI P.1, vU, vU, vU, vU, vU]) (dat d_Mo_bookLine 2 rfl) rfl (by decide) rfl rfl ?_
    refine x_aload_n (dat d_Mo_bookLine 3 rfl) rfl rfl ?_
    refine x_getr (r := 177) (dat d_Mo_bookLine 4 rfl) rfl f_Mo_17 (or_mk (by decide +kernel)) ?_
    refine x_iconst (dat d_Mo_bookLine 5 rfl) (by decide) ?_
    refine x_iald (n := 190) (v := pp) (dat d_Mo_bookLine 6 rfl) (ai_mk (by decide +kernel)) (by omega) (by omega) (hp.symm) ?_
    refine x_bipush (dat d_Mo_bookLine 7 rfl) (by decide) (by decide) ?_
    refine x_icmp_ge (tgt := 20) (dat d_Mo_bookLine 8 rfl) (by decide) (fun c_13 => (by omega)) (fun c_13 => ?_)
    refine x_iconst (dat d_Mo_bookLine 9 rfl) (by decide) ?_
    refine x_goto (tgt := 21) (dat d_Mo_bookLine 10 rfl) (by decide) ?_
    refine x_istore_n (L' := [vR 174, vI P.1, vI 1, vU, vU, vU, vU]) (dat d_Mo_bookLine 12 rfl) rfl (by decide) rfl rfl ?_
    exact mid Z 1 (by rw [if_pos hm])
  · refine x_enter 6 rfl rfl rfl (fun Z => ?_)
    show Wx g y_Mo_bookLine Z K 0 [vR 174, vU, vU, vU, vU, vU, vU] [] σ
    refine x_aload_n (dat d_Mo_bookLine 0 rfl) rfl rfl ?_
    refine x_geti (ji := 4) (v := P.1) (dat d_Mo_bookLine 1 rfl) rfl f_Mo_102 (oi_mk (by decide +kernel)) (by exact ew) ?_
    refine x_istore_n (L' := [vR 174, vI P.1, vU, vU, vU, vU, vU]) (dat d_Mo_bookLine 2 rfl) rfl (by decide) rfl rfl ?_
    refine x_aload_n (dat d_Mo_bookLine 3 rfl) rfl rfl ?_
    refine x_getr (r := 177) (dat d_Mo_bookLine 4 rfl) rfl f_Mo_17 (or_mk (by decide +kernel)) ?_
    refine x_iconst (dat d_Mo_bookLine 5 rfl) (by decide) ?_
    refine x_iald (n := 190) (v := pp) (dat d_Mo_bookLine 6 rfl) (ai_mk (by decide +kernel)) (by omega) (by omega) (hp.symm) ?_
    refine x_bipush (dat d_Mo_bookLine 7 rfl) (by decide) (by decide) ?_
    refine x_icmp_ge (tgt := 20) (dat d_Mo_bookLine 8 rfl) (by decide) (fun c_13 => ?_) (fun c_13 => (by omega))
    refine x_iconst (dat d_Mo_bookLine 11 rfl) (by decide) ?_
    refine x_istore_n (L' := [vR 174, vI P.1, vI 0, vU, vU, vU, vU]) (dat d_Mo_bookLine 12 rfl) rfl (by decide) rfl rfl ?_
    exact mid Z 0 (by rw [if_neg hm])
end
