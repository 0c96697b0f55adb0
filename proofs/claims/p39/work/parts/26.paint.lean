/-! paint, that goes by the same hands -/
def pvE (e : Ev) (s : Rs) : Rs := if e.2.2 = -1 then s else (mvb s.1 e.1 e.2.1 e.2.2, fun q => (s.2 q || (s.2 e.2.2 && decide (q = e.1 + e.2.1 - e.2.2))) && !(decide (mvb s.1 e.1 e.2.1 e.2.2 e.2.2 < 1) && decide (q = e.2.2)))
def pev (l : List Ev) (s : Rs) : Rs := l.foldr pvE s
theorem pev_c (e : Ev) (l : List Ev) (s : Rs) : pev (e :: l) s = pvE e (pev l s) := rfl
def PvB (n : Int) (bd : Int → Int) (P : Int) : Prop := ∀ p : Int, 0 ≤ p → p < P → -n ≤ bd p ∧ bd p ≤ 294 + n
theorem pev_bd {P : Int} : ∀ (l : List Ev) (s : Rs), EvsOk P l → PvB 0 s.1 P → PvB l.length (pev l s).1 P
  | [], s, _, h => h
  | e :: l, s, ho, h => by
    have h1 := pev_bd l s (fun x hx => ho x (List.mem_cons_of_mem _ hx)) h
    intro p p0 p1
    have h2 := h1 p p0 p1
    rw [pev_c]
    simp only [pvE, List.length_cons]
    split
    · omega
    · have e1 : mvb (pev l s).1 e.1 e.2.1 e.2.2 p = if p = e.2.2 then (pev l s).1 p - 1 else if p = e.1 + e.2.1 - e.2.2 then (pev l s).1 p + 1 else (pev l s).1 p := by
        unfold mvb
        rw [if_neg (by assumption)]
      show _ ≤ mvb (pev l s).1 e.1 e.2.1 e.2.2 p ∧ mvb (pev l s).1 e.1 e.2.1 e.2.2 p ≤ _
      rw [e1]
      split
      · omega
      · split <;> omega
/-- paint after the shakes of hour n, and after its meal -/
def pnt (C : Cf) (s0 : Int → Bool) : Nat → Int → Bool
  | 0 => s0
  | n + 1 => fun q => (pev (hev C n) ((rst C n).1, pnt C s0 n)).2 q && !decide ((rst C (n + 1)).1 q < 1)
def pnS (C : Cf) (s0 : Int → Bool) (n : Nat) : Int → Bool := (pev (hev C n) ((rst C n).1, pnt C s0 n)).2
theorem iand_m1 {n : Nat} (hn : n ≤ 30) {m : Int} {f : Int → Bool} (h : Msk n m f) : Msk n (iand m (-1)) f := by
  have h1 := h.andn hn (Msk.zero n)
  rw [show ixor 0 (-1) = -1 by decide] at h1
  exact h1.congr (fun q _ _ => by simp)
theorem lgs_base {C : Cf} (hC : CfOk C) {σ : xS} {u N : Nat} (R : RunS σ u C 0 N) {h : Nat} (hh : h < N) : (if (h : Int) = 0 then (0 : Int) else σ (u + 1 + 4) ((h : Int) - 1)) = ((lgs C 0 h).length : Int) := by
  cases h with
  | zero => rfl
  | succ h =>
    have := (R.hour (h := h) (by omega) (by omega)).2.2.2.2.2.2
    rw [if_neg (by omega), show ((h + 1 : Nat) : Int) - 1 = (h : Int) by omega, show u + 1 + 4 = u + 5 by omega]
    exact this
theorem lgs_split {C : Cf} : ∀ (n h : Nat), h < n → ∃ t : List Ev, lgs C 0 n = t ++ lgs C 0 (h + 1)
  | 0, h, hh => by omega
  | n + 1, h, hh => by
    by_cases e : h = n
    · subst e; exact ⟨[], rfl⟩
    · obtain ⟨t, ht⟩ := lgs_split (C := C) n h (by omega)
      exact ⟨hev C n ++ t, by rw [lgs_0s, ht, List.append_assoc]⟩
theorem sp_Ru_mayBehindShakes {g : xG} {K : Option MV → xS → Prop} {σ σ0 : xS} {u : Nat} {C : Cf} {h : Nat} {m0 : Int} {s0 : Rs} (hu : IsRu u) (hC : CfOk C) (R : RunS σ0 u C 0 (cH C)) (hs : ∀ o : Nat, o ≠ u + 12 → σ o = σ0 o) (h1 : h < cH C) (hb : PvB 0 s0.1 (cS C 0)) (hn : ∀ p : Int, 0 ≤ p → p < cS C 0 → σ (u + 12) p = s0.1 p) (hm : Msk 8 m0 s0.2)
    (k : ∀ (m : Int) (σ' : xS), Msk 8 m (pev (hev C h) s0).2 → (∀ o : Nat, o ≠ u + 12 → σ' o = σ0 o) → K (some (vI m)) σ') : Mt g y_Ru_mayBehindShakes [vR u, vI m0, vI (h : Int)] σ K := by
  have hH := cH_eq hC
  have h8 := hC.2.1
  have hev_ok := hmi_ok hC h
  have hL := R.2.2.2.1
  have hlg := lgs_ok hC 0 (cH C)
  obtain ⟨t, ht⟩ := lgs_split (C := C) (cH C) h h1
  rw [lgs_0s] at ht
  have hen : σ0 (u + 1 + 4) (h : Int) = ((hev C h).length : Int) + ((lgs C 0 h).length : Int) := by
    have := (R.hour (h := h) (by omega) h1).2.2.2.2.2.2
    rw [lgs_0s, List.length_append] at this
    rw [show u + 1 + 4 = u + 5 by omega, this]
    omega
  have hl0 := (lgs_ok hC 0 h).2
  have lp : ∀ (Z : xZ) (n : Nat) (a v : List Ev) (m : Int) (σ1 : xS) (w5 w6 : MV), hev C h = a ++ v → a.length = n → Msk 8 m (pev v s0).2 → (∀ p : Int, 0 ≤ p → p < cS C 0 → σ1 (u + 12) p = (pev v s0).1 p) → (∀ o : Nat, o ≠ u + 12 → σ1 o = σ0 o) → Wx g y_Ru_mayBehindShakes Z K 12 [vR u, vI m0, vI (h : Int), vI m, vI ((v.length : Int) + (lgs C 0 h).length), w5, w6] [] σ1 := by
    intro Z n
    induction n with
    | zero =>
      intro a v m σ1 w5 w6 ha hl Hm Hn Ho
      have e : a = [] := List.length_eq_zero_iff.mp hl
      subst e
      rw [List.nil_append] at ha
      subst ha
      have hen1 : σ1 (u + 1 + 4) (h : Int) = ((hev C h).length : Int) + ((lgs C 0 h).length : Int) := by rw [Ho _ (by omega)]; exact hen
      refine x_iload (dat d_Ru_mayBehindShakes 7 rfl) rfl ?_
      refine x_aload_n (dat d_Ru_mayBehindShakes 8 rfl) rfl rfl ?_
      refine x_getr (r := u + 1) (dat d_Ru_mayBehindShakes 9 rfl) rfl f_Ru_12 (ru_or_4 hu) ?_
      refine x_iload_n (dat d_Ru_mayBehindShakes 10 rfl) rfl rfl ?_
      refine x_inv (As := [vI (h : Int)]) (dat d_Ru_mayBehindShakes 11 rfl) rfl c_Ha_endOf l_Ru_148 (by decide) (rv_ha (ha_k (ru_ha hu))) rfl rfl (Nat.le_of_ble_eq_true rfl) ?_
      refine sp_Ha_endOf (ru_ha hu) (by omega) (by omega) ?_
      rw [hen1]
      show Wx g y_Ru_mayBehindShakes Z K 22 [vR u, vI m0, vI (h : Int), vI m, vI (((hev C h).length : Int) + (lgs C 0 h).length), w5, w6] [vI (((hev C h).length : Int) + ((lgs C 0 h).length : Int)), vI (((hev C h).length : Int) + (lgs C 0 h).length)] σ1
      refine x_icmp_ge (tgt := 147) (dat d_Ru_mayBehindShakes 12 rfl) (by decide) (fun c_22 => ?_) (fun c_22 => (by omega))
      refine x_iload_n (dat d_Ru_mayBehindShakes 85 rfl) rfl rfl ?_
      refine x_iret (dat d_Ru_mayBehindShakes 86 rfl) rfl ?_
      exact k _ _ Hm Ho
    | succ n ih =>
      intro a v m σ1 w5 w6 ha hl Hm Hn Ho
      obtain ⟨a2, e, rfl⟩ : ∃ (u2 : List Ev) (e : Ev), a = u2 ++ [e] := ⟨a.dropLast, a.getLast (by intro q; rw [q] at hl; cases hl), (List.dropLast_concat_getLast _).symm⟩
      have ha2 : hev C h = a2 ++ e :: v := by rw [ha]; simp
      have hall : lgs C 0 (cH C) = (t ++ a2) ++ e :: (v ++ lgs C 0 h) := by rw [ht, ha2]; simp
      obtain ⟨r1, r2, r3⟩ := hL.2 _ _ _ hall
      rw [List.length_append, Int.natCast_add] at r1 r2 r3
      obtain ⟨o1, o2, o3, o4⟩ := hev_ok.2.1 e (by rw [ha2]; simp)
      have hlv : v.length < (hev C h).length := by rw [ha2]; simp; omega
      have h28 := hev_ok.2.2
      have hl2 : a2.length = n := by simpa using hl
      have hen1 : σ1 (u + 1 + 4) (h : Int) = ((hev C h).length : Int) + ((lgs C 0 h).length : Int) := by rw [Ho _ (by omega)]; exact hen
      have hvo : EvsOk (cS C 0) v := fun x hx => hev_ok.2.1 x (by rw [ha2]; simp [hx])
      have hpb := pev_bd v s0 hvo hb
      have nx : ∀ (m' : Int) (σ' : xS) (w5' w6' : MV), Msk 8 m' (pev (e :: v) s0).2 → (∀ p : Int, 0 ≤ p → p < cS C 0 → σ' (u + 12) p = (pev (e :: v) s0).1 p) → (∀ o : Nat, o ≠ u + 12 → σ' o = σ0 o) → Wx g y_Ru_mayBehindShakes Z K 12 [vR u, vI m0, vI (h : Int), vI m', vI ((v.length : Int) + (lgs C 0 h).length + 1), w5', w6'] [] σ' := by
        intro m' σ' w5' w6' q1 q2 q3
        have := ih a2 (e :: v) m' σ' w5' w6' ha2 hl2 q1 q2 q3
        rw [show (((e :: v).length : Nat) : Int) + ((lgs C 0 h).length : Int) = (v.length : Int) + (lgs C 0 h).length + 1 by simp only [List.length_cons]; omega] at this
        exact this
      by_cases ez : e.2.2 = -1
      · have ep : pev (e :: v) s0 = pev v s0 := by rw [pev_c]; unfold pvE; rw [if_pos ez]
        refine x_iload (dat d_Ru_mayBehindShakes 7 rfl) rfl ?_
        refine x_aload_n (dat d_Ru_mayBehindShakes 8 rfl) rfl rfl ?_
        refine x_getr (r := u + 1) (dat d_Ru_mayBehindShakes 9 rfl) rfl f_Ru_12 (ru_or_4 hu) ?_
        refine x_iload_n (dat d_Ru_mayBehindShakes 10 rfl) rfl rfl ?_
        refine x_inv (As := [vI (h : Int)]) (dat d_Ru_mayBehindShakes 11 rfl) rfl c_Ha_endOf l_Ru_148 (by decide) (rv_ha (ha_k (ru_ha hu))) rfl rfl (Nat.le_of_ble_eq_true rfl) ?_
        refine sp_Ha_endOf (ru_ha hu) (by omega) (by omega) ?_
        rw [hen1]
        show Wx g y_Ru_mayBehindShakes Z K 22 [vR u, vI m0, vI (h : Int), vI m, vI ((v.length : Int) + (lgs C 0 h).length), w5, w6] [vI (((hev C h).length : Int) + ((lgs C 0 h).length : Int)), vI ((v.length : Int) + (lgs C 0 h).length)] σ1
        refine x_icmp_ge (tgt := 147) (dat d_Ru_mayBehindShakes 12 rfl) (by decide) (fun c_22 => (by omega)) (fun c_22 => ?_)
        refine x_aload_n (dat d_Ru_mayBehindShakes 13 rfl) rfl rfl ?_
        refine x_getr (r := u + 1) (dat d_Ru_mayBehindShakes 14 rfl) rfl f_Ru_12 (ru_or_4 hu) ?_
        refine x_getr (r := u + 1 + 3) (dat d_Ru_mayBehindShakes 15 rfl) rfl f_Ru_151 (ha_or_2 (ru_ha hu)) ?_
        refine x_iload (dat d_Ru_mayBehindShakes 16 rfl) rfl ?_
        refine x_iald (n := 672) (v := e.2.2) (dat d_Ru_mayBehindShakes 17 rfl) (ha_ai_3 (ru_ha hu)) (by omega) (by omega) (((congrFun (Ho _ (by omega)) _).trans r3)) ?_
        refine x_istore (L' := [vR u, vI m0, vI (h : Int), vI m, vI ((v.length : Int) + (lgs C 0 h).length), vI e.2.2, w6]) (dat d_Ru_mayBehindShakes 18 rfl) (by decide) rfl rfl ?_
        refine x_iload (dat d_Ru_mayBehindShakes 19 rfl) rfl ?_
        refine x_iconst (dat d_Ru_mayBehindShakes 20 rfl) (by decide) ?_
        refine x_icmp_eq (tgt := 141) (dat d_Ru_mayBehindShakes 21 rfl) (by decide) (fun c_40 => ?_) (fun c_40 => (by omega))
        refine x_iinc (v' := ((v.length : Int) + (lgs C 0 h).length) + 1) (L' := [vR u, vI m0, vI (h : Int), vI m, vI (((v.length : Int) + (lgs C 0 h).length) + 1), vI e.2.2, w6]) (dat d_Ru_mayBehindShakes 83 rfl) rfl (by decide) rfl rfl (by omega) rfl ?_
        refine x_goto (tgt := 12) (dat d_Ru_mayBehindShakes 84 rfl) (by decide) ?_
        exact nx _ _ _ _ (by rw [ep]; exact Hm) (by rw [ep]; exact Hn) Ho
      · have ox : e.2.2 = e.1 ∨ e.2.2 = e.2.1 := by omega
        have bg := hpb e.2.2 (by omega) (by omega)
        have bt := hpb (e.1 + e.2.1 - e.2.2) (by omega) (by omega)
        have vg := Hn e.2.2 (by omega) (by omega)
        have vt := Hn (e.1 + e.2.1 - e.2.2) (by omega) (by omega)
        have ep : pev (e :: v) s0 = (mvb (pev v s0).1 e.1 e.2.1 e.2.2, fun q => ((pev v s0).2 q || ((pev v s0).2 e.2.2 && decide (q = e.1 + e.2.1 - e.2.2))) && !(decide (mvb (pev v s0).1 e.1 e.2.1 e.2.2 e.2.2 < 1) && decide (q = e.2.2))) := by rw [pev_c]; unfold pvE; rw [if_neg ez]
        have em : mvb (pev v s0).1 e.1 e.2.1 e.2.2 e.2.2 = (pev v s0).1 e.2.2 - 1 := by unfold mvb; rw [if_neg ez]; simp
        have ms : Msk 8 (ior m (ishl (iand (ishr m e.2.2) 1) (e.1 + e.2.1 - e.2.2))) (fun q => (pev v s0).2 q || ((pev v s0).2 e.2.2 && decide (q = e.1 + e.2.1 - e.2.2))) := by
          rw [Hm.get (by decide) (p := e.2.2) (by omega) (by omega)]
          cases (pev v s0).2 e.2.2
          · have w : Msk 8 (ior m 0) (fun q => (pev v s0).2 q || (false && decide (q = e.1 + e.2.1 - e.2.2))) := (Hm.lor (by decide) (Msk.zero 8)).congr (fun q _ _ => by simp)
            have z : ishl (if false = true then 1 else 0) (e.1 + e.2.1 - e.2.2) = 0 := by
              rcases (show e.1 + e.2.1 - e.2.2 = 0 ∨ e.1 + e.2.1 - e.2.2 = 1 ∨ e.1 + e.2.1 - e.2.2 = 2 ∨ e.1 + e.2.1 - e.2.2 = 3 ∨ e.1 + e.2.1 - e.2.2 = 4 ∨ e.1 + e.2.1 - e.2.2 = 5 ∨ e.1 + e.2.1 - e.2.2 = 6 ∨ e.1 + e.2.1 - e.2.2 = 7 by omega) with q | q | q | q | q | q | q | q <;> rw [q] <;> decide
            rw [z]
            exact w
          · exact (Hm.lor (by decide) (Msk.one (n := 8) (by decide) (p := e.1 + e.2.1 - e.2.2) (by omega) (by omega))).congr (fun q _ _ => by simp)
        generalize hmx : ior m (ishl (iand (ishr m e.2.2) 1) (e.1 + e.2.1 - e.2.2)) = mx at ms
        have fin : ∀ (m' : Int) (σ' : xS) (w5' w6' : MV), σ' = up (up σ1 (u + 12) e.2.2 ((pev v s0).1 e.2.2 - 1)) (u + 12) (e.1 + e.2.1 - e.2.2) ((pev v s0).1 (e.1 + e.2.1 - e.2.2) + 1) → ((pev v s0).1 e.2.2 - 1 < 1 ∧ m' = iand mx (ixor (ishl 1 e.2.2) (-1)) ∨ ¬ (pev v s0).1 e.2.2 - 1 < 1 ∧ m' = iand mx (-1)) → Wx g y_Ru_mayBehindShakes Z K 12 [vR u, vI m0, vI (h : Int), vI m', vI ((v.length : Int) + (lgs C 0 h).length + 1), w5', w6'] [] σ' := by
          intro m' σ' w5' w6' q1 q2
          refine nx _ _ _ _ ?_ ?_ ?_
          · rw [ep, em]
            rcases q2 with ⟨q3, q4⟩ | ⟨q3, q4⟩
            · rw [q4]
              exact (ms.andn (by decide) (Msk.one (n := 8) (by decide) (p := e.2.2) (by omega) (by omega))).congr (fun q _ _ => by simp only [decide_eq_true q3, Bool.true_and])
            · rw [q4]
              exact (iand_m1 (by decide) ms).congr (fun q _ _ => by simp only [decide_eq_false q3, Bool.false_and, Bool.not_false, Bool.and_true])
          · intro p p0 p1
            rw [ep, q1]
            show _ = mvb (pev v s0).1 e.1 e.2.1 e.2.2 p
            unfold mvb
            rw [if_neg ez]
            by_cases z1 : p = e.2.2
            · rw [if_pos z1, z1, up_ni (by omega), up_s]
            · rw [if_neg z1]
              by_cases z2 : p = e.1 + e.2.1 - e.2.2
              · rw [if_pos z2, z2, up_s]
              · rw [if_neg z2, up_ni (Ne.symm z2), up_ni (Ne.symm z1)]
                exact Hn p p0 p1
          · intro o ho
            rw [q1, up_ne ho, up_ne ho]
            exact Ho o ho
        have wl : ∀ tk : Int, tk = e.1 + e.2.1 - e.2.2 → Wx g y_Ru_mayBehindShakes Z K 83 [vR u, vI m0, vI (h : Int), vI m, vI ((v.length : Int) + (lgs C 0 h).length), vI e.2.2, vI tk] [] σ1 := by
          intro tk etk
          have vt2 : σ1 (u + 12) tk = (pev v s0).1 tk := by rw [etk]; exact vt
          rw [← etk] at bt fin hmx
          refine x_aload_n (dat d_Ru_mayBehindShakes 41 rfl) rfl rfl ?_
          refine x_getr (r := u + 12) (dat d_Ru_mayBehindShakes 42 rfl) rfl f_Ru_37 (ru_or_11 hu) ?_
          refine x_iload (dat d_Ru_mayBehindShakes 43 rfl) rfl ?_
          refine x_dup2 (dat d_Ru_mayBehindShakes 44 rfl) rfl rfl ?_
          refine x_iald (n := 8) (v := (pev v s0).1 e.2.2) (dat d_Ru_mayBehindShakes 45 rfl) (ru_ai_12 hu) (by omega) (by omega) (vg) ?_
          refine x_iconst (dat d_Ru_mayBehindShakes 46 rfl) (by decide) ?_
          refine x_isub (v := ((pev v s0).1 e.2.2) - 1) (dat d_Ru_mayBehindShakes 47 rfl) rfl (by omega) ?_
          refine x_iast (n := 8) (dat d_Ru_mayBehindShakes 48 rfl) (ru_ai_12 hu) (by omega) (by omega) ?_
          refine x_aload_n (dat d_Ru_mayBehindShakes 49 rfl) rfl rfl ?_
          refine x_getr (r := u + 12) (dat d_Ru_mayBehindShakes 50 rfl) rfl f_Ru_37 (ru_or_11 hu) ?_
          refine x_iload (dat d_Ru_mayBehindShakes 51 rfl) rfl ?_
          refine x_dup2 (dat d_Ru_mayBehindShakes 52 rfl) rfl rfl ?_
          refine x_iald (n := 8) (v := (pev v s0).1 tk) (dat d_Ru_mayBehindShakes 53 rfl) (ru_ai_12 hu) (by omega) (by omega) ((up_ni (by omega)).trans vt2) ?_
          refine x_iconst (dat d_Ru_mayBehindShakes 54 rfl) (by decide) ?_
          refine x_iadd (v := ((pev v s0).1 tk) + 1) (dat d_Ru_mayBehindShakes 55 rfl) rfl (by omega) ?_
          refine x_iast (n := 8) (dat d_Ru_mayBehindShakes 56 rfl) (ru_ai_12 hu) (by omega) (by omega) ?_
          refine x_iload_n (dat d_Ru_mayBehindShakes 57 rfl) rfl rfl ?_
          refine x_iload_n (dat d_Ru_mayBehindShakes 58 rfl) rfl rfl ?_
          refine x_iload (dat d_Ru_mayBehindShakes 59 rfl) rfl ?_
          refine x_ishr (v := ishr m e.2.2) (dat d_Ru_mayBehindShakes 60 rfl) rfl ?_
          refine x_iconst (dat d_Ru_mayBehindShakes 61 rfl) (by decide) ?_
          refine x_iand (v := iand (ishr m e.2.2) 1) (dat d_Ru_mayBehindShakes 62 rfl) rfl ?_
          refine x_iload (dat d_Ru_mayBehindShakes 63 rfl) rfl ?_
          refine x_ishl (v := ishl (iand (ishr m e.2.2) 1) tk) (dat d_Ru_mayBehindShakes 64 rfl) rfl ?_
          refine x_ior (v := mx) (dat d_Ru_mayBehindShakes 65 rfl) (by exact hmx) ?_
          refine x_istore_n (L' := [vR u, vI m0, vI (h : Int), vI mx, vI ((v.length : Int) + (lgs C 0 h).length), vI e.2.2, vI tk]) (dat d_Ru_mayBehindShakes 66 rfl) rfl (by decide) rfl rfl ?_
          refine x_iload_n (dat d_Ru_mayBehindShakes 67 rfl) rfl rfl ?_
          refine x_aload_n (dat d_Ru_mayBehindShakes 68 rfl) rfl rfl ?_
          refine x_getr (r := u + 12) (dat d_Ru_mayBehindShakes 69 rfl) rfl f_Ru_37 (ru_or_11 hu) ?_
          refine x_iload (dat d_Ru_mayBehindShakes 70 rfl) rfl ?_
          refine x_iald (n := 8) (v := ((pev v s0).1 e.2.2) - 1) (dat d_Ru_mayBehindShakes 71 rfl) (ru_ai_12 hu) (by omega) (by omega) ((up_ni (by omega)).trans up_s) ?_
          refine x_iconst (dat d_Ru_mayBehindShakes 72 rfl) (by decide) ?_
          refine x_icmp_ge (tgt := 138) (dat d_Ru_mayBehindShakes 73 rfl) (by decide) (fun c_126 => ?_) (fun c_126 => ?_)
          · refine x_iconst (dat d_Ru_mayBehindShakes 80 rfl) (by decide) ?_
            refine x_iand (v := iand mx (-1)) (dat d_Ru_mayBehindShakes 81 rfl) rfl ?_
            refine x_istore_n (L' := [vR u, vI m0, vI (h : Int), vI (iand mx (-1)), vI ((v.length : Int) + (lgs C 0 h).length), vI e.2.2, vI tk]) (dat d_Ru_mayBehindShakes 82 rfl) rfl (by decide) rfl rfl ?_
            refine x_iinc (v' := ((v.length : Int) + (lgs C 0 h).length) + 1) (L' := [vR u, vI m0, vI (h : Int), vI (iand mx (-1)), vI (((v.length : Int) + (lgs C 0 h).length) + 1), vI e.2.2, vI tk]) (dat d_Ru_mayBehindShakes 83 rfl) rfl (by decide) rfl rfl (by omega) rfl ?_
            refine x_goto (tgt := 12) (dat d_Ru_mayBehindShakes 84 rfl) (by decide) ?_
            refine fin _ _ _ _ rfl ?_
            first
            | exact Or.inl ⟨c_126, rfl⟩
            | exact Or.inl ⟨by omega, rfl⟩
            | exact Or.inr ⟨by omega, rfl⟩
          · refine x_iconst (dat d_Ru_mayBehindShakes 74 rfl) (by decide) ?_
            refine x_iload (dat d_Ru_mayBehindShakes 75 rfl) rfl ?_
            refine x_ishl (v := ishl 1 e.2.2) (dat d_Ru_mayBehindShakes 76 rfl) rfl ?_
            refine x_iconst (dat d_Ru_mayBehindShakes 77 rfl) (by decide) ?_
            refine x_ixor (v := ixor (ishl 1 e.2.2) (-1)) (dat d_Ru_mayBehindShakes 78 rfl) rfl ?_
            refine x_goto (tgt := 139) (dat d_Ru_mayBehindShakes 79 rfl) (by decide) ?_
            refine x_iand (v := iand mx (ixor (ishl 1 e.2.2) (-1))) (dat d_Ru_mayBehindShakes 81 rfl) rfl ?_
            refine x_istore_n (L' := [vR u, vI m0, vI (h : Int), vI (iand mx (ixor (ishl 1 e.2.2) (-1))), vI ((v.length : Int) + (lgs C 0 h).length), vI e.2.2, vI tk]) (dat d_Ru_mayBehindShakes 82 rfl) rfl (by decide) rfl rfl ?_
            refine x_iinc (v' := ((v.length : Int) + (lgs C 0 h).length) + 1) (L' := [vR u, vI m0, vI (h : Int), vI (iand mx (ixor (ishl 1 e.2.2) (-1))), vI (((v.length : Int) + (lgs C 0 h).length) + 1), vI e.2.2, vI tk]) (dat d_Ru_mayBehindShakes 83 rfl) rfl (by decide) rfl rfl (by omega) rfl ?_
            refine x_goto (tgt := 12) (dat d_Ru_mayBehindShakes 84 rfl) (by decide) ?_
            refine fin _ _ _ _ rfl ?_
            first
            | exact Or.inl ⟨c_126, rfl⟩
            | exact Or.inl ⟨by omega, rfl⟩
            | exact Or.inr ⟨by omega, rfl⟩
        refine x_iload (dat d_Ru_mayBehindShakes 7 rfl) rfl ?_
        refine x_aload_n (dat d_Ru_mayBehindShakes 8 rfl) rfl rfl ?_
        refine x_getr (r := u + 1) (dat d_Ru_mayBehindShakes 9 rfl) rfl f_Ru_12 (ru_or_4 hu) ?_
        refine x_iload_n (dat d_Ru_mayBehindShakes 10 rfl) rfl rfl ?_
        refine x_inv (As := [vI (h : Int)]) (dat d_Ru_mayBehindShakes 11 rfl) rfl c_Ha_endOf l_Ru_148 (by decide) (rv_ha (ha_k (ru_ha hu))) rfl rfl (Nat.le_of_ble_eq_true rfl) ?_
        refine sp_Ha_endOf (ru_ha hu) (by omega) (by omega) ?_
        rw [hen1]
        show Wx g y_Ru_mayBehindShakes Z K 22 [vR u, vI m0, vI (h : Int), vI m, vI ((v.length : Int) + (lgs C 0 h).length), w5, w6] [vI (((hev C h).length : Int) + ((lgs C 0 h).length : Int)), vI ((v.length : Int) + (lgs C 0 h).length)] σ1
        refine x_icmp_ge (tgt := 147) (dat d_Ru_mayBehindShakes 12 rfl) (by decide) (fun c_22 => (by omega)) (fun c_22 => ?_)
        refine x_aload_n (dat d_Ru_mayBehindShakes 13 rfl) rfl rfl ?_
        refine x_getr (r := u + 1) (dat d_Ru_mayBehindShakes 14 rfl) rfl f_Ru_12 (ru_or_4 hu) ?_
        refine x_getr (r := u + 1 + 3) (dat d_Ru_mayBehindShakes 15 rfl) rfl f_Ru_151 (ha_or_2 (ru_ha hu)) ?_
        refine x_iload (dat d_Ru_mayBehindShakes 16 rfl) rfl ?_
        refine x_iald (n := 672) (v := e.2.2) (dat d_Ru_mayBehindShakes 17 rfl) (ha_ai_3 (ru_ha hu)) (by omega) (by omega) (((congrFun (Ho _ (by omega)) _).trans r3)) ?_
        refine x_istore (L' := [vR u, vI m0, vI (h : Int), vI m, vI ((v.length : Int) + (lgs C 0 h).length), vI e.2.2, w6]) (dat d_Ru_mayBehindShakes 18 rfl) (by decide) rfl rfl ?_
        refine x_iload (dat d_Ru_mayBehindShakes 19 rfl) rfl ?_
        refine x_iconst (dat d_Ru_mayBehindShakes 20 rfl) (by decide) ?_
        refine x_icmp_eq (tgt := 141) (dat d_Ru_mayBehindShakes 21 rfl) (by decide) (fun c_40 => (by omega)) (fun c_40 => ?_)
        refine x_iload (dat d_Ru_mayBehindShakes 22 rfl) rfl ?_
        refine x_aload_n (dat d_Ru_mayBehindShakes 23 rfl) rfl rfl ?_
        refine x_getr (r := u + 1) (dat d_Ru_mayBehindShakes 24 rfl) rfl f_Ru_12 (ru_or_4 hu) ?_
        refine x_getr (r := u + 1 + 1) (dat d_Ru_mayBehindShakes 25 rfl) rfl f_Ru_153 (ha_or_0 (ru_ha hu)) ?_
        refine x_iload (dat d_Ru_mayBehindShakes 26 rfl) rfl ?_
        refine x_iald (n := 672) (v := e.1) (dat d_Ru_mayBehindShakes 27 rfl) (ha_ai_1 (ru_ha hu)) (by omega) (by omega) (((congrFun (Ho _ (by omega)) _).trans r1)) ?_
        refine x_icmp_ne (tgt := 71) (dat d_Ru_mayBehindShakes 28 rfl) (by decide) (fun c_55 => ?_) (fun c_55 => ?_)
        · refine x_aload_n (dat d_Ru_mayBehindShakes 35 rfl) rfl rfl ?_
          refine x_getr (r := u + 1) (dat d_Ru_mayBehindShakes 36 rfl) rfl f_Ru_12 (ru_or_4 hu) ?_
          refine x_getr (r := u + 1 + 1) (dat d_Ru_mayBehindShakes 37 rfl) rfl f_Ru_153 (ha_or_0 (ru_ha hu)) ?_
          refine x_iload (dat d_Ru_mayBehindShakes 38 rfl) rfl ?_
          refine x_iald (n := 672) (v := e.1) (dat d_Ru_mayBehindShakes 39 rfl) (ha_ai_1 (ru_ha hu)) (by omega) (by omega) (((congrFun (Ho _ (by omega)) _).trans r1)) ?_
          refine x_istore (L' := [vR u, vI m0, vI (h : Int), vI m, vI ((v.length : Int) + (lgs C 0 h).length), vI e.2.2, vI e.1]) (dat d_Ru_mayBehindShakes 40 rfl) (by decide) rfl rfl ?_
          exact wl _ (by omega)
        · refine x_aload_n (dat d_Ru_mayBehindShakes 29 rfl) rfl rfl ?_
          refine x_getr (r := u + 1) (dat d_Ru_mayBehindShakes 30 rfl) rfl f_Ru_12 (ru_or_4 hu) ?_
          refine x_getr (r := u + 1 + 2) (dat d_Ru_mayBehindShakes 31 rfl) rfl f_Ru_156 (ha_or_1 (ru_ha hu)) ?_
          refine x_iload (dat d_Ru_mayBehindShakes 32 rfl) rfl ?_
          refine x_iald (n := 672) (v := e.2.1) (dat d_Ru_mayBehindShakes 33 rfl) (ha_ai_2 (ru_ha hu)) (by omega) (by omega) (((congrFun (Ho _ (by omega)) _).trans r2)) ?_
          refine x_goto (tgt := 81) (dat d_Ru_mayBehindShakes 34 rfl) (by decide) ?_
          refine x_istore (L' := [vR u, vI m0, vI (h : Int), vI m, vI ((v.length : Int) + (lgs C 0 h).length), vI e.2.2, vI e.2.1]) (dat d_Ru_mayBehindShakes 40 rfl) (by decide) rfl rfl ?_
          exact wl _ (by omega)
  have hbs := lgs_base hC R (h := h) h1
  have hbs1 : (if (h : Int) = 0 then (0 : Int) else σ (u + 1 + 4) ((h : Int) - 1)) = ((lgs C 0 h).length : Int) := by rw [hs _ (by omega)]; exact hbs
  refine x_enter 4 rfl rfl rfl (fun Z => ?_)
  show Wx g y_Ru_mayBehindShakes Z K 0 [vR u, vI m0, vI (h : Int), vU, vU, vU, vU] [] σ
  refine x_iload_n (dat d_Ru_mayBehindShakes 0 rfl) rfl rfl ?_
  refine x_istore_n (L' := [vR u, vI m0, vI (h : Int), vI m0, vU, vU, vU]) (dat d_Ru_mayBehindShakes 1 rfl) rfl (by decide) rfl rfl ?_
  refine x_aload_n (dat d_Ru_mayBehindShakes 2 rfl) rfl rfl ?_
  refine x_getr (r := u + 1) (dat d_Ru_mayBehindShakes 3 rfl) rfl f_Ru_12 (ru_or_4 hu) ?_
  refine x_iload_n (dat d_Ru_mayBehindShakes 4 rfl) rfl rfl ?_
  refine x_inv (As := [vI (h : Int)]) (dat d_Ru_mayBehindShakes 5 rfl) rfl c_Ha_firstOf l_Ru_145 (by decide) (rv_ha (ha_k (ru_ha hu))) rfl rfl (Nat.le_of_ble_eq_true rfl) ?_
  refine sp_Ha_firstOf (ru_ha hu) (by omega) (by omega) ?_
  rw [hbs1]
  show Wx g y_Ru_mayBehindShakes Z K 10 [vR u, vI m0, vI (h : Int), vI m0, vU, vU, vU] [vI ((lgs C 0 h).length : Int)] σ
  refine x_istore (L' := [vR u, vI m0, vI (h : Int), vI m0, vI ((lgs C 0 h).length : Int), vU, vU]) (dat d_Ru_mayBehindShakes 6 rfl) (by decide) rfl rfl ?_
  have := lp Z (hev C h).length (hev C h) [] m0 σ vU vU (by simp) rfl hm hn hs
  rw [show (([] : List Ev).length : Int) + ((lgs C 0 h).length : Int) = ((lgs C 0 h).length : Int) by simp] at this
  exact this
