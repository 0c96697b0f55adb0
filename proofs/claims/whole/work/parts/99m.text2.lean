/-! the twin's reader: a text -/
theorem stp_gt {T : Int → Int} {n s : Int} {P : Ps} (h : (stpP T n s P).1 = true) : P.1 < (stpP T n s P).2.1 := by
  by_cases h0 : tkK T n P.1 = 0
  · rw [stp_end h0] at h; exact Bool.noConfusion h
  · have q1 := nxt_gt h0
    have g := fun q => nxt_ge T n q
    by_cases hb : lnK T n s P.1 = -1
    · rw [stp_bad h0 hb] at h; exact Bool.noConfusion h
    · by_cases h8 : lnK T n s P.1 = 8
      · by_cases h1 : tkK T n (nxt T n P.1) = 3 ∧ lwW (wrd T n (nxt T n P.1)) ≠ -1
        · by_cases h2 : tkK T n (nxt T n (nxt T n P.1)) = 2
          · rw [stp_law1 h0 h8 h1 h2]
            show P.1 < nxt T n (nxt T n (nxt T n P.1))
            have a1 := g (nxt T n P.1)
            have a2 := g (nxt T n (nxt T n P.1))
            omega
          · rw [stp_law0b h0 h8 h1 h2] at h; exact Bool.noConfusion h
        · rw [stp_law0a h0 h8 h1] at h; exact Bool.noConfusion h
      · by_cases hc : tkK T n (qit T n (nxt T n P.1) (nrun T n (mostT (lnK T n s P.1)).toNat (nxt T n P.1))) = 2 ∧ fewT (lnK T n s P.1) ≤ ((nrun T n (mostT (lnK T n s P.1)).toNat (nxt T n P.1) : Nat) : Int)
        · rw [stp_num1 h0 rfl hb h8 rfl hc]
          show P.1 < nxt T n (qit T n (nxt T n P.1) _)
          have a1 := qit_ge T n (nxt T n P.1) (nrun T n (mostT (lnK T n s P.1)).toNat (nxt T n P.1))
          have a2 := g (qit T n (nxt T n P.1) (nrun T n (mostT (lnK T n s P.1)).toNat (nxt T n P.1)))
          omega
        · rw [stp_num0 h0 rfl hb h8 rfl hc] at h; exact Bool.noConfusion h
/-- all lines read: broken off, or at the end -/
def EnR (σ : xS) (T : Int → Int) (n s : Int) (P : Ps) : Prop := (TwL σ T n s P ∧ tkK T n P.1 = 0) ∨ (RX σ T n (true, P.1, P.2.1) ∧ P.2.1.1 = 1 ∧ P.2.1.2 = P.1)
section
variable {g : xG} {K : Option MV → xS → Prop} {σ σ1 : xS} {T : Int → Int} {n s : Int} {P : Ps} {Z : xZ} {at_ : Int} {w3 w4 : MV}
theorem lp_Mo_lines (hs : s = 0 ∨ s = 1) (k : ∀ σ' : xS, EnR σ' T n s (endP T n s) → LnF σ' σ → Wx g y_Mo_text Z K 189 [vR 174, vI s, vI at_, w3, w4] [] σ') : ∀ (d : Nat) (σ1 : xS) (P : Ps), n < P.1 + d → runP T n s d P = endP T n s → TwL σ1 T n s P → LnF σ1 σ → Wx g y_Mo_text Z K 157 [vR 174, vI s, vI at_, w3, w4] [] σ1 := by
  intro d
  induction d with
  | zero =>
    intro σ1 P hd hr L F
    have := L.1.1.2.2
    have : P.1 ≤ n := this
    omega
  | succ d ih =>
    intro σ1 P hd hr L F
    have H := L.1
    obtain ⟨-, -, D, e8, -⟩ := H.at
    have e5 := D.1.2.1
    have rs : runP T n s (d + 1) P = if (stpP T n s P).1 = true then runP T n s d (stpP T n s P).2 else (stpP T n s P).2 := rfl
    rw [rs] at hr
    by_cases h0 : tkK T n P.1 = 0
    · rw [stp_end h0, if_neg (fun w : (false, P).1 = true => Bool.noConfusion (show false = true from w))] at hr
      have hr : P = endP T n s := hr
      refine x_aload_n (dat d_Mo_text 96 rfl) rfl rfl ?_
      refine x_geti (ji := 8) (v := 0) (dat d_Mo_text 97 rfl) rfl f_Mo_129 (oi_mk (by decide +kernel)) (e8) ?_
      refine x_if_ne (tgt := 189) (dat d_Mo_text 98 rfl) (by decide) (fun h => absurd h (by decide)) (fun c_161 => ?_)
      refine x_aload_n (dat d_Mo_text 99 rfl) rfl rfl ?_
      refine x_geti (ji := 5) (v := tkK T n P.1) (dat d_Mo_text 100 rfl) rfl f_Mo_105 (oi_mk (by decide +kernel)) (e5) ?_
      refine x_if_eq (tgt := 189) (dat d_Mo_text 101 rfl) (by decide) (fun c_168 => ?_) (fun c_168 => (by omega))
      exact k σ1 (by rw [← hr]; exact Or.inl ⟨L, h0⟩) F
    · have nx : ∀ σ2 : xS, LnR σ2 T n s P → LnF σ2 σ1 → Wx g y_Mo_text Z K 157 [vR 174, vI s, vI at_, w3, w4] [] σ2 := by
        intro σ2 R F2
        rcases R with ⟨r1, r2⟩ | ⟨r1, r2, r3, r4⟩
        · rw [if_pos r1] at hr
          have gt := stp_gt r1
          exact ih σ2 _ (by omega) hr r2 (F.trans F2)
        · rw [r1, if_neg (by decide)] at hr
          have e8' := (r2.2.2 rfl).1
          refine x_aload_n (dat d_Mo_text 96 rfl) rfl rfl ?_
          refine x_geti (ji := 8) (v := 1) (dat d_Mo_text 97 rfl) rfl f_Mo_129 (oi_mk (by decide +kernel)) (e8') ?_
          refine x_if_ne (tgt := 189) (dat d_Mo_text 98 rfl) (by decide) (fun c_161 => ?_) (fun h => absurd h (by decide))
          exact k σ2 (by rw [← hr]; exact Or.inr ⟨r2, r3, r4⟩) (F.trans F2)
      rcases hs with z | z
      · subst z
        refine x_aload_n (dat d_Mo_text 96 rfl) rfl rfl ?_
        refine x_geti (ji := 8) (v := 0) (dat d_Mo_text 97 rfl) rfl f_Mo_129 (oi_mk (by decide +kernel)) (e8) ?_
        refine x_if_ne (tgt := 189) (dat d_Mo_text 98 rfl) (by decide) (fun h => absurd h (by decide)) (fun c_161 => ?_)
        refine x_aload_n (dat d_Mo_text 99 rfl) rfl rfl ?_
        refine x_geti (ji := 5) (v := tkK T n P.1) (dat d_Mo_text 100 rfl) rfl f_Mo_105 (oi_mk (by decide +kernel)) (e5) ?_
        refine x_if_eq (tgt := 189) (dat d_Mo_text 101 rfl) (by decide) (fun c_168 => (by omega)) (fun c_168 => ?_)
        refine x_iload_n (dat d_Mo_text 102 rfl) rfl rfl ?_
        refine x_if_ne (tgt := 182) (dat d_Mo_text 103 rfl) (by decide) (fun h => absurd h (by decide)) (fun c_172 => ?_)
        refine x_aload_n (dat d_Mo_text 104 rfl) rfl rfl ?_
        refine x_inv (As := []) (dat d_Mo_text 105 rfl) rfl c_Mo_townLine l_Mo_184 (by decide) (rv_mo (by decide +kernel)) rfl rfl (Nat.le_of_ble_eq_true rfl) ?_
        refine sp_Mo_townLine L h0 (fun σ2 R F2 => ?_)
        show Wx g y_Mo_text Z K 179 [vR 174, vI 0, vI at_, w3, w4] [] σ2
        refine x_goto (tgt := 157) (dat d_Mo_text 106 rfl) (by decide) ?_
        exact nx σ2 R F2
      · subst z
        refine x_aload_n (dat d_Mo_text 96 rfl) rfl rfl ?_
        refine x_geti (ji := 8) (v := 0) (dat d_Mo_text 97 rfl) rfl f_Mo_129 (oi_mk (by decide +kernel)) (e8) ?_
        refine x_if_ne (tgt := 189) (dat d_Mo_text 98 rfl) (by decide) (fun h => absurd h (by decide)) (fun c_161 => ?_)
        refine x_aload_n (dat d_Mo_text 99 rfl) rfl rfl ?_
        refine x_geti (ji := 5) (v := tkK T n P.1) (dat d_Mo_text 100 rfl) rfl f_Mo_105 (oi_mk (by decide +kernel)) (e5) ?_
        refine x_if_eq (tgt := 189) (dat d_Mo_text 101 rfl) (by decide) (fun c_168 => (by omega)) (fun c_168 => ?_)
        refine x_iload_n (dat d_Mo_text 102 rfl) rfl rfl ?_
        refine x_if_ne (tgt := 182) (dat d_Mo_text 103 rfl) (by decide) (fun c_172 => ?_) (fun h => absurd h (by decide))
        refine x_aload_n (dat d_Mo_text 107 rfl) rfl rfl ?_
        refine x_inv (As := []) (dat d_Mo_text 108 rfl) rfl c_Mo_bookLine l_Mo_187 (by decide) (rv_mo (by decide +kernel)) rfl rfl (Nat.le_of_ble_eq_true rfl) ?_
        refine sp_Mo_bookLine L h0 (fun σ2 R F2 => ?_)
        show Wx g y_Mo_text Z K 186 [vR 174, vI 1, vI at_, w3, w4] [] σ2
        refine x_goto (tgt := 157) (dat d_Mo_text 109 rfl) (by decide) ?_
        exact nx σ2 R F2
/-- the row, clear -/
theorem lp_Mo_rzero (k : ∀ σ' : xS, (∀ j : Int, 0 ≤ j → j < 190 → σ' 177 j = 0) → (∀ o : Nat, o ≠ 177 → σ' o = σ o) → Wx g y_Mo_text Z K 112 [vR 174, vI s, vI at_, vI 190, w4] [] σ') : ∀ (d i : Nat) (σ1 : xS), i + d = 190 → (∀ j : Int, 0 ≤ j → j < i → σ1 177 j = 0) → (∀ o : Nat, o ≠ 177 → σ1 o = σ o) → Wx g y_Mo_text Z K 92 [vR 174, vI s, vI at_, vI (i : Int), w4] [] σ1 := by
  intro d
  induction d with
  | zero =>
    intro i σ1 hd hj F
    have e : (i : Int) = 190 := by omega
    rw [e] at hj ⊢
    refine x_iload_n (dat d_Mo_text 57 rfl) rfl rfl ?_
    refine x_sipush (dat d_Mo_text 58 rfl) (by decide) (by decide) ?_
    refine x_icmp_ge (tgt := 112) (dat d_Mo_text 59 rfl) (by decide) (fun c_96 => ?_) (fun h => absurd h (by decide))
    exact k σ1 hj F
  | succ d ih =>
    intro i σ1 hd hj F
    refine x_iload_n (dat d_Mo_text 57 rfl) rfl rfl ?_
    refine x_sipush (dat d_Mo_text 58 rfl) (by decide) (by decide) ?_
    refine x_icmp_ge (tgt := 112) (dat d_Mo_text 59 rfl) (by decide) (fun c_96 => (by omega)) (fun c_96 => ?_)
    refine x_aload_n (dat d_Mo_text 60 rfl) rfl rfl ?_
    refine x_getr (r := 177) (dat d_Mo_text 61 rfl) rfl f_Mo_17 (or_mk (by decide +kernel)) ?_
    refine x_iload_n (dat d_Mo_text 62 rfl) rfl rfl ?_
    refine x_iconst (dat d_Mo_text 63 rfl) (by decide) ?_
    refine x_iast (n := 190) (dat d_Mo_text 64 rfl) (ai_mk (by decide +kernel)) (by omega) (by omega) ?_
    refine x_iinc (v' := ((i + 1 : Nat) : Int)) (L' := [vR 174, vI s, vI at_, vI ((i + 1 : Nat) : Int), w4]) (dat d_Mo_text 65 rfl) rfl (by decide) rfl (by omega) (by omega) rfl ?_
    refine x_goto (tgt := 92) (dat d_Mo_text 66 rfl) (by decide) ?_
    refine ih (i + 1) _ (by omega) (fun j j0 j1 => ?_) (fun o ho => by rw [up_ne ho]; exact F o ho)
    by_cases z : j = (i : Int)
    · rw [z, up_s]
    · rw [up_ni (Ne.symm z)]; exact hj j j0 (by omega)
/-- the row, laid down -/
theorem lp_Mo_rput {kk : Int} {N b0 : Int} {r : Int → Int} (hN : (s = 0 ∧ N = 156 ∧ b0 = 610 + 156 * kk) ∨ (s = 1 ∧ N = 25 ∧ b0 = 922 + 25 * kk)) (k0 : 0 ≤ kk) (k1 : kk < 2) (hr : RwE σ r) (k : ∀ σ' : xS, (∀ j : Int, σ' 175 j = if b0 ≤ j ∧ j < b0 + N then r (j - b0) else σ 175 j) → (∀ o : Nat, o ≠ 175 → σ' o = σ o) → K (some (vI kk)) σ') : ∀ (d i : Nat) (σ1 : xS), (i : Int) + d = N → (∀ j : Int, σ1 175 j = if b0 ≤ j ∧ j < b0 + (i : Int) then r (j - b0) else σ 175 j) → (∀ o : Nat, o ≠ 175 → σ1 o = σ o) → Wx g y_Mo_text Z K 290 [vR 174, vI s, vI at_, vI kk, vI (i : Int)] [] σ1 := by
  intro d
  induction d with
  | zero =>
    intro i σ1 hd hj F
    have e : (i : Int) = N := by omega
    rw [e] at hj
    refine x_iload (dat d_Mo_text 171 rfl) rfl ?_
    refine x_iload_n (dat d_Mo_text 172 rfl) rfl rfl ?_
    refine x_if_ne (tgt := 302) (dat d_Mo_text 173 rfl) (by decide) (fun c_293 => ?_) (fun c_293 => ?_)
    · refine x_bipush (dat d_Mo_text 176 rfl) (by decide) (by decide) ?_
      refine x_icmp_ge (tgt := 333) (dat d_Mo_text 177 rfl) (by decide) (fun c_304 => ?_) (fun c_304 => (by omega))
      refine x_iload_n (dat d_Mo_text 192 rfl) rfl rfl ?_
      refine x_iret (dat d_Mo_text 193 rfl) rfl ?_
      exact k σ1 hj F
    · refine x_sipush (dat d_Mo_text 174 rfl) (by decide) (by decide) ?_
      refine x_goto (tgt := 304) (dat d_Mo_text 175 rfl) (by decide) ?_
      refine x_icmp_ge (tgt := 333) (dat d_Mo_text 177 rfl) (by decide) (fun c_304 => ?_) (fun c_304 => (by omega))
      refine x_iload_n (dat d_Mo_text 192 rfl) rfl rfl ?_
      refine x_iret (dat d_Mo_text 193 rfl) rfl ?_
      exact k σ1 hj F
  | succ d ih =>
    intro i σ1 hd hj F
    have e7 : σ1 177 (i : Int) = r (i : Int) := by rw [F 177 (by decide)]; exact hr _ (by omega) (by omega)
    have pl : ∀ w : Int, (s = 0 → w = 610 + 156 * kk) → (s = 1 → w = 922 + 25 * kk) → w = b0 := fun w a b => by
      rcases hN with z | z
      · have := a z.1; omega
      · have := b z.1; omega
    refine x_iload (dat d_Mo_text 171 rfl) rfl ?_
    refine x_iload_n (dat d_Mo_text 172 rfl) rfl rfl ?_
    refine x_if_ne (tgt := 302) (dat d_Mo_text 173 rfl) (by decide) (fun c_293 => ?_) (fun c_293 => ?_)
    · refine x_bipush (dat d_Mo_text 176 rfl) (by decide) (by decide) ?_
      refine x_icmp_ge (tgt := 333) (dat d_Mo_text 177 rfl) (by decide) (fun c_304 => (by omega)) (fun c_304 => ?_)
      refine x_aload_n (dat d_Mo_text 178 rfl) rfl rfl ?_
      refine x_getr (r := 175) (dat d_Mo_text 179 rfl) rfl f_Mo_7 (or_mk (by decide +kernel)) ?_
      refine x_iload_n (dat d_Mo_text 180 rfl) rfl rfl ?_
      refine x_iload_n (dat d_Mo_text 181 rfl) rfl rfl ?_
      refine x_invs (As := [vI s, vI kk]) (dat d_Mo_text 182 rfl) rfl c_Mo_placeOf l_Mo_190 (by decide) rfl rfl (Nat.le_of_ble_eq_true rfl) ?_
      refine sp_Mo_placeOf (v := b0) k0 k1 (by omega) ?_
      show Wx g y_Mo_text Z K 316 [vR 174, vI s, vI at_, vI kk, vI (i : Int)] [vI b0, vR 175] σ1
      refine x_iload (dat d_Mo_text 183 rfl) rfl ?_
      refine x_iadd (v := b0 + (i : Int)) (dat d_Mo_text 184 rfl) rfl (by omega) ?_
      refine x_aload_n (dat d_Mo_text 185 rfl) rfl rfl ?_
      refine x_getr (r := 177) (dat d_Mo_text 186 rfl) rfl f_Mo_17 (or_mk (by decide +kernel)) ?_
      refine x_iload (dat d_Mo_text 187 rfl) rfl ?_
      refine x_iald (n := 190) (v := r (i : Int)) (dat d_Mo_text 188 rfl) (ai_mk (by decide +kernel)) (by omega) (by omega) (e7) ?_
      refine x_iast (n := 3888) (dat d_Mo_text 189 rfl) (ai_mk (by decide +kernel)) (by omega) (by omega) ?_
      refine x_iinc (v' := ((i + 1 : Nat) : Int)) (L' := [vR 174, vI s, vI at_, vI kk, vI ((i + 1 : Nat) : Int)]) (dat d_Mo_text 190 rfl) rfl (by decide) rfl (by omega) (by omega) rfl ?_
      refine x_goto (tgt := 290) (dat d_Mo_text 191 rfl) (by decide) ?_
      refine ih (i + 1) _ (by omega) (fun j => ?_) (fun o ho => by rw [up_ne ho]; exact F o ho)
      by_cases z : j = b0 + (i : Int)
      · rw [z, up_s, if_pos (by omega), show b0 + (i : Int) - b0 = (i : Int) by omega]
      · rw [up_ni (Ne.symm z), hj j]
        by_cases y : b0 ≤ j ∧ j < b0 + (i : Int)
        · rw [if_pos y, if_pos (by omega)]
        · rw [if_neg y, if_neg (by omega)]
    · refine x_sipush (dat d_Mo_text 174 rfl) (by decide) (by decide) ?_
      refine x_goto (tgt := 304) (dat d_Mo_text 175 rfl) (by decide) ?_
      refine x_icmp_ge (tgt := 333) (dat d_Mo_text 177 rfl) (by decide) (fun c_304 => (by omega)) (fun c_304 => ?_)
      refine x_aload_n (dat d_Mo_text 178 rfl) rfl rfl ?_
      refine x_getr (r := 175) (dat d_Mo_text 179 rfl) rfl f_Mo_7 (or_mk (by decide +kernel)) ?_
      refine x_iload_n (dat d_Mo_text 180 rfl) rfl rfl ?_
      refine x_iload_n (dat d_Mo_text 181 rfl) rfl rfl ?_
      refine x_invs (As := [vI s, vI kk]) (dat d_Mo_text 182 rfl) rfl c_Mo_placeOf l_Mo_190 (by decide) rfl rfl (Nat.le_of_ble_eq_true rfl) ?_
      refine sp_Mo_placeOf (v := b0) k0 k1 (by omega) ?_
      show Wx g y_Mo_text Z K 316 [vR 174, vI s, vI at_, vI kk, vI (i : Int)] [vI b0, vR 175] σ1
      refine x_iload (dat d_Mo_text 183 rfl) rfl ?_
      refine x_iadd (v := b0 + (i : Int)) (dat d_Mo_text 184 rfl) rfl (by omega) ?_
      refine x_aload_n (dat d_Mo_text 185 rfl) rfl rfl ?_
      refine x_getr (r := 177) (dat d_Mo_text 186 rfl) rfl f_Mo_17 (or_mk (by decide +kernel)) ?_
      refine x_iload (dat d_Mo_text 187 rfl) rfl ?_
      refine x_iald (n := 190) (v := r (i : Int)) (dat d_Mo_text 188 rfl) (ai_mk (by decide +kernel)) (by omega) (by omega) (e7) ?_
      refine x_iast (n := 3888) (dat d_Mo_text 189 rfl) (ai_mk (by decide +kernel)) (by omega) (by omega) ?_
      refine x_iinc (v' := ((i + 1 : Nat) : Int)) (L' := [vR 174, vI s, vI at_, vI kk, vI ((i + 1 : Nat) : Int)]) (dat d_Mo_text 190 rfl) rfl (by decide) rfl (by omega) (by omega) rfl ?_
      refine x_goto (tgt := 290) (dat d_Mo_text 191 rfl) (by decide) ?_
      refine ih (i + 1) _ (by omega) (fun j => ?_) (fun o ho => by rw [up_ne ho]; exact F o ho)
      by_cases z : j = b0 + (i : Int)
      · rw [z, up_s, if_pos (by omega), show b0 + (i : Int) - b0 = (i : Int) by omega]
      · rw [up_ni (Ne.symm z), hj j]
        by_cases y : b0 ≤ j ∧ j < b0 + (i : Int)
        · rw [if_pos y, if_pos (by omega)]
        · rw [if_neg y, if_neg (by omega)]
end
