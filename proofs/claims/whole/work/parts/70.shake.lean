/-! the twin: two shake hands, walked -/
theorem sp_Mo_shake {g : xG} {K : Option MV → xS → Prop} {σ0 σ : xS} {t : Int → Int} {t0 : Int} {C : Cf} {P h a b kc : Int} {hd bd : Int → Int} {evs cum : List Ev} {pt nw : Int → Bool} {il : Int × (Int → Bool)} {dr : Bool} (H0 : MoC σ0 t t0 C) (eP : P = t 6) (h0 : 0 ≤ h) (h1 : h < 24) (a0 : 0 ≤ a) (ab : a < b) (b1 : b < P) (M : MhX σ0 σ P h hd bd evs evs cum pt il nw) (hl : EvLt evs a b) (hlen : evs.length ≤ 28) (hhd : ∀ p : Int, 0 ≤ p → p < P → 0 ≤ hd p ∧ hd p ≤ 1000) (hbd : ∀ p : Int, 0 ≤ p → p < P → 0 ≤ bd p ∧ bd p ≤ 1000) (hdr : σ0 174 39 = if dr = true then 1 else 0) (hkc : σ0 174 41 = kc)
    (k : ∀ σ' : xS, MhX σ0 σ' P h hd (mvb bd a b (gvr C bd a b)) ((a, b, gvr C bd a b) :: evs) ((a, b, gvr C bd a b) :: evs) cum (pvE (a, b, gvr C bd a b) (bd, pt)).2 (ilE dr (cGl C) kc (a, b, gvr C bd a b) il) (rchE (fun _ => false) (a, b, gvr C bd a b) nw) → K none σ') : Mt g y_Mo_shake [vR 174, vI a, vI b, vI h] σ K := by
  have h6 := H0.1.2.2.2.2.2.2.2.1
  generalize hx : gvr C bd a b = x at k
  have cmb : ∀ p : Int, -28 ≤ cameI evs p ∧ cameI evs p ≤ 28 := fun p => by have := cameI_bd evs p; omega
  have gnb := goneI_bd evs
  have moc : ∀ σ1 : xS, ((∀ i : Int, i ≠ 36 → i ≠ 37 → i ≠ 40 → i ≠ 52 → σ1 174 i = σ0 174 i)) → (∀ o : Nat, o ≠ 174 → o ≠ 180 → o ≠ 183 → o ≠ 184 → o ≠ 185 → o ≠ 186 → o ≠ 192 → o ≠ 194 → σ1 o = σ0 o) → MoC σ1 t t0 C := fun σ1 F1 F2 => H0.same ⟨fun i _ i2 i3 _ i5 i6 => F1 i i2 i3 i5 i6, fun o ho => F2 o (by omega) (by omega) (by omega) (by omega) (by omega) (by omega) (by omega) (by omega)⟩
  -- an ounce goes
  have sM : ∀ (Z : xZ) (w5 : MV) (σ1 : xS) (il2 : Int × (Int → Bool)) (nw2 : Int → Bool) (y : Int), (x = a ∧ y = b ∨ x = b ∧ y = a) → 1 ≤ bd x → ilE dr (cGl C) kc (a, b, x) il = il2 → rchE (fun _ => false) (a, b, x) nw = nw2 → MhX σ0 σ1 P h hd bd evs ((a, b, x) :: evs) cum pt il2 nw2 → Wx g y_Mo_shake Z K 163 [vR 174, vI a, vI b, vI h, vI x, w5] [] σ1 := by
    intro Z w5 σ1 il2 nw2 y hxy hb1 ei en N
    subst ei
    subst en
    obtain ⟨⟨⟨n1, n2⟩, n3, n4, n5⟩, n6, n7, n8, n9, n10⟩ := N
    have xb : 0 ≤ x ∧ x < P := by omega
    have yb : 0 ≤ y ∧ y < P := by omega
    have ex : σ1 180 x = bd x := (n6 x xb.1 xb.2).1.1
    have ey : σ1 180 y = bd y := (n6 y yb.1 yb.2).1.1
    have cx : σ1 184 (8 * h + x) = cameI evs x := (n6 x xb.1 xb.2).2.2.2
    have cy : σ1 184 (8 * h + y) = cameI evs y := (n6 y yb.1 yb.2).2.2.2
    have bx := hbd x xb.1 xb.2
    have by_ := hbd y yb.1 yb.2
    have c1 := cmb x
    have c2 := cmb y
    have xne : x ≠ -1 := by omega
    have e5 : (a, b, x).1 + (a, b, x).2.1 - (a, b, x).2.2 = y := by show a + b - x = y; omega
    have mv : mvb bd a b x = fun p => if p = x then bd p - 1 else if p = y then bd p + 1 else bd p := by
      unfold mvb
      rw [if_neg xne]
      funext p
      rw [show a + b - x = y by omega]
    have pv : (pvE (a, b, x) (bd, pt)).2 = fun q => (pt q || (pt x && decide (q = y))) && !(decide (bd x - 1 < 1) && decide (q = x)) := by
      unfold pvE
      rw [if_neg (show ¬ (a, b, x).2.2 = -1 from xne), e5]
      show (fun q => (pt q || (pt x && decide (q = y))) && !(decide (mvb bd a b x x < 1) && decide (q = x))) = _
      rw [show mvb bd a b x x = bd x - 1 by rw [mv]; exact if_pos rfl]
    have gx := n3.get (by decide) xb.1 (show x < (8 : Nat) by omega)
    obtain ⟨yp, hyp⟩ : ∃ z : Int, z = (if pt x = true then 1 else 0) := ⟨_, rfl⟩
    rw [← hyp] at gx
    have fin : ∀ σ2 : xS, Msk 8 (σ2 174 36) (pvE (a, b, x) (bd, pt)).2 → (∀ i : Int, i ≠ 36 → σ2 174 i = σ1 174 i) → (∀ o : Nat, o ≠ 174 → σ2 o = up (up (up (up (up σ1 180 x (bd x - 1)) 180 y (bd y + 1)) 184 (8 * h + x) (cameI evs x - 1)) 184 (8 * h + y) (cameI evs y + 1)) 186 h (goneI evs + 1) o) → K none σ2 := by
      intro σ2 m2 f2 o2
      refine k σ2 ⟨⟨⟨?_, ?_⟩, m2, ⟨?_, ?_⟩, ?_⟩, fun p p0 p1 => ⟨⟨?_, ?_⟩, ?_, ?_, ?_⟩, fun i i1 i2 i3 i4 => ?_, fun j hj => ⟨?_, ?_⟩, fun j hj => ⟨?_, ?_⟩, fun o o1 o2' o3 o4 o5 o6 o7 o8 => ?_⟩
      · rw [o2 185 (by decide), up_ne (by decide), up_ne (by decide), up_ne (by decide), up_ne (by decide), up_ne (by decide)]; exact n1
      · rw [o2 186 (by decide), up_s, goneI_cons, if_neg (show ¬ (a, b, x).2.2 = -1 from xne)]; omega
      · rw [f2 37 (by decide)]; exact n4.1
      · rw [f2 40 (by decide)]; exact n4.2
      · rw [f2 52 (by decide)]; exact n5
      · rw [o2 180 (by decide), up_ne (by decide), up_ne (by decide), up_ne (by decide), mv]
        show up (up σ1 180 x (bd x - 1)) 180 y (bd y + 1) 180 p = if p = x then bd p - 1 else if p = y then bd p + 1 else bd p
        by_cases z : p = x
        · rw [if_pos z, up_ni (by omega), z, up_s]
        · rw [if_neg z]
          by_cases w : p = y
          · rw [if_pos w, w, up_s]
          · rw [if_neg w, up_ni (Ne.symm w), up_ni (Ne.symm z)]; exact (n6 p p0 p1).1.1
      · rw [o2 192 (by decide), up_ne (by decide), up_ne (by decide), up_ne (by decide), up_ne (by decide), up_ne (by decide)]; exact (n6 p p0 p1).1.2
      · rw [o2 194 (by decide), up_ne (by decide), up_ne (by decide), up_ne (by decide), up_ne (by decide), up_ne (by decide)]; exact (n6 p p0 p1).2.1
      · rw [o2 183 (by decide), up_ne (by decide), up_ne (by decide), up_ne (by decide), up_ne (by decide), up_ne (by decide)]; exact (n6 p p0 p1).2.2.1
      · rw [o2 184 (by decide), up_ne (by decide), cameI_cons]
        unfold cmE
        rw [if_neg (show ¬ (a, b, x).2.2 = -1 from xne), e5]
        show up (up (up (up σ1 180 x (bd x - 1)) 180 y (bd y + 1)) 184 (8 * h + x) (cameI evs x - 1)) 184 (8 * h + y) (cameI evs y + 1) 184 (8 * h + p) = (if p = x then -1 else if p = y then 1 else 0) + cameI evs p
        by_cases z : p = x
        · rw [if_pos z, up_ni (by omega), z, up_s]; omega
        · rw [if_neg z]
          by_cases w : p = y
          · rw [if_pos w, w, up_s]; omega
          · rw [if_neg w, up_ni (by omega), up_ni (by omega), up_ne (by decide), up_ne (by decide), (n6 p p0 p1).2.2.2]; omega
      · rw [f2 i i1]; exact n7 i i1 i2 i3 i4
      · rw [o2 183 (by decide), up_ne (by decide), up_ne (by decide), up_ne (by decide), up_ne (by decide), up_ne (by decide)]; exact (n8 j hj).1
      · rw [o2 184 (by decide), up_ne (by decide), up_ni (by omega), up_ni (by omega), up_ne (by decide), up_ne (by decide)]; exact (n8 j hj).2
      · rw [o2 185 (by decide), up_ne (by decide), up_ne (by decide), up_ne (by decide), up_ne (by decide), up_ne (by decide)]; exact (n9 j hj).1
      · rw [o2 186 (by decide), up_ni (Ne.symm hj), up_ne (by decide), up_ne (by decide), up_ne (by decide), up_ne (by decide)]; exact (n9 j hj).2
      · rw [o2 o o1, up_ne o6, up_ne o4, up_ne o4, up_ne o2', up_ne o2']; exact n10 o o1 o2' o3 o4 o5 o6 o7 o8
    have m1 : yp = 1 → Msk 8 (ior (σ1 174 36) (ishl 1 y)) (fun q => pt q || (pt x && decide (q = y))) := fun w => by
      have hp : pt x = true := by rw [hyp] at w; split at w; assumption; omega
      refine (n3.orone (q := y) yb.1 (by omega)).congr (fun q q0 q1 => ?_)
      show (pt q || decide (q = y)) = (pt q || (pt x && decide (q = y)))
      rw [hp, Bool.true_and]
    have m0 : yp ≠ 1 → Msk 8 (σ1 174 36) (fun q => pt q || (pt x && decide (q = y))) := fun w => by
      have hp : pt x = false := by
        cases hc : pt x with
        | false => rfl
        | true => rw [hc, if_pos rfl] at hyp; exact absurd hyp w
      refine n3.congr (fun q q0 q1 => ?_)
      show pt q = (pt q || (pt x && decide (q = y)))
      rw [hp, Bool.false_and, Bool.or_false]
    have mz : ∀ m : Int, Msk 8 m (fun q => pt q || (pt x && decide (q = y))) → bd x - 1 = 0 → Msk 8 (iand m (ixor (ishl 1 x) (-1))) (pvE (a, b, x) (bd, pt)).2 := fun m hm w => by
      refine (hm.andn (by decide) (Msk.one (n := 8) (by decide) xb.1 (show x < (8 : Nat) by omega))).congr (fun q q0 q1 => ?_)
      rw [pv]
      show ((pt q || (pt x && decide (q = y))) && !decide (q = x)) = ((pt q || (pt x && decide (q = y))) && !(decide (bd x - 1 < 1) && decide (q = x)))
      rw [decide_eq_true (show bd x - 1 < 1 by omega), Bool.true_and]
    have mn : ∀ m : Int, Msk 8 m (fun q => pt q || (pt x && decide (q = y))) → ¬ bd x - 1 = 0 → Msk 8 m (pvE (a, b, x) (bd, pt)).2 := fun m hm w => by
      refine hm.congr (fun q q0 q1 => ?_)
      rw [pv]
      show (pt q || (pt x && decide (q = y))) = ((pt q || (pt x && decide (q = y))) && !(decide (bd x - 1 < 1) && decide (q = x)))
      rw [decide_eq_false (show ¬ bd x - 1 < 1 by omega), Bool.false_and]
      simp
    refine x_iload_n (dat d_Mo_shake 119 rfl) rfl rfl ?_
    refine x_iload_n (dat d_Mo_shake 120 rfl) rfl rfl ?_
    refine x_iadd (v := a + b) (dat d_Mo_shake 121 rfl) rfl (by omega) ?_
    refine x_iload (dat d_Mo_shake 122 rfl) rfl ?_
    refine x_isub (v := y) (dat d_Mo_shake 123 rfl) (by omega) (by omega) ?_
    refine x_istore (L' := [vR 174, vI a, vI b, vI h, vI x, vI y]) (dat d_Mo_shake 124 rfl) (by decide) rfl rfl ?_
    refine x_aload_n (dat d_Mo_shake 125 rfl) rfl rfl ?_
    refine x_getr (r := 180) (dat d_Mo_shake 126 rfl) rfl f_Mo_26 (or_mk (by decide +kernel)) ?_
    refine x_iload (dat d_Mo_shake 127 rfl) rfl ?_
    refine x_dup2 (dat d_Mo_shake 128 rfl) rfl rfl ?_
    refine x_iald (n := 8) (v := bd x) (dat d_Mo_shake 129 rfl) (ai_mk (by decide +kernel)) (by omega) (by omega) (ex) ?_
    refine x_iconst (dat d_Mo_shake 130 rfl) (by decide) ?_
    refine x_isub (v := (bd x) - 1) (dat d_Mo_shake 131 rfl) rfl (by omega) ?_
    refine x_iast (n := 8) (dat d_Mo_shake 132 rfl) (ai_mk (by decide +kernel)) (by omega) (by omega) ?_
    refine x_aload_n (dat d_Mo_shake 133 rfl) rfl rfl ?_
    refine x_getr (r := 180) (dat d_Mo_shake 134 rfl) rfl f_Mo_26 (or_mk (by decide +kernel)) ?_
    refine x_iload (dat d_Mo_shake 135 rfl) rfl ?_
    refine x_dup2 (dat d_Mo_shake 136 rfl) rfl rfl ?_
    refine x_iald (n := 8) (v := bd y) (dat d_Mo_shake 137 rfl) (ai_mk (by decide +kernel)) (by omega) (by omega) (by rw [up_ni (by omega)]; exact ey) ?_
    refine x_iconst (dat d_Mo_shake 138 rfl) (by decide) ?_
    refine x_iadd (v := (bd y) + 1) (dat d_Mo_shake 139 rfl) rfl (by omega) ?_
    refine x_iast (n := 8) (dat d_Mo_shake 140 rfl) (ai_mk (by decide +kernel)) (by omega) (by omega) ?_
    refine x_aload_n (dat d_Mo_shake 141 rfl) rfl rfl ?_
    refine x_getr (r := 184) (dat d_Mo_shake 142 rfl) rfl f_Mo_38 (or_mk (by decide +kernel)) ?_
    refine x_bipush (dat d_Mo_shake 143 rfl) (by decide) (by decide) ?_
    refine x_iload_n (dat d_Mo_shake 144 rfl) rfl rfl ?_
    refine x_imul (v := 8 * h) (dat d_Mo_shake 145 rfl) (by omega) (by omega) ?_
    refine x_iload (dat d_Mo_shake 146 rfl) rfl ?_
    refine x_iadd (v := (8 * h) + x) (dat d_Mo_shake 147 rfl) rfl (by omega) ?_
    refine x_dup2 (dat d_Mo_shake 148 rfl) rfl rfl ?_
    refine x_iald (n := 192) (v := cameI evs x) (dat d_Mo_shake 149 rfl) (ai_mk (by decide +kernel)) (by omega) (by omega) ((up_nk (by decide)).trans ((up_nk (by decide)).trans cx)) ?_
    refine x_iconst (dat d_Mo_shake 150 rfl) (by decide) ?_
    refine x_isub (v := (cameI evs x) - 1) (dat d_Mo_shake 151 rfl) rfl (by omega) ?_
    refine x_iast (n := 192) (dat d_Mo_shake 152 rfl) (ai_mk (by decide +kernel)) (by omega) (by omega) ?_
    refine x_aload_n (dat d_Mo_shake 153 rfl) rfl rfl ?_
    refine x_getr (r := 184) (dat d_Mo_shake 154 rfl) rfl f_Mo_38 (or_mk (by decide +kernel)) ?_
    refine x_bipush (dat d_Mo_shake 155 rfl) (by decide) (by decide) ?_
    refine x_iload_n (dat d_Mo_shake 156 rfl) rfl rfl ?_
    refine x_imul (v := 8 * h) (dat d_Mo_shake 157 rfl) (by omega) (by omega) ?_
    refine x_iload (dat d_Mo_shake 158 rfl) rfl ?_
    refine x_iadd (v := (8 * h) + y) (dat d_Mo_shake 159 rfl) rfl (by omega) ?_
    refine x_dup2 (dat d_Mo_shake 160 rfl) rfl rfl ?_
    refine x_iald (n := 192) (v := cameI evs y) (dat d_Mo_shake 161 rfl) (ai_mk (by decide +kernel)) (by omega) (by omega) (by rw [up_ni (by omega), up_nk (by decide), up_nk (by decide)]; exact cy) ?_
    refine x_iconst (dat d_Mo_shake 162 rfl) (by decide) ?_
    refine x_iadd (v := (cameI evs y) + 1) (dat d_Mo_shake 163 rfl) rfl (by omega) ?_
    refine x_iast (n := 192) (dat d_Mo_shake 164 rfl) (ai_mk (by decide +kernel)) (by omega) (by omega) ?_
    refine x_aload_n (dat d_Mo_shake 165 rfl) rfl rfl ?_
    refine x_getr (r := 186) (dat d_Mo_shake 166 rfl) rfl f_Mo_44 (or_mk (by decide +kernel)) ?_
    refine x_iload_n (dat d_Mo_shake 167 rfl) rfl rfl ?_
    refine x_dup2 (dat d_Mo_shake 168 rfl) rfl rfl ?_
    refine x_iald (n := 24) (v := goneI evs) (dat d_Mo_shake 169 rfl) (ai_mk (by decide +kernel)) (by omega) (by omega) ((up_nk (by decide)).trans ((up_nk (by decide)).trans ((up_nk (by decide)).trans ((up_nk (by decide)).trans n2)))) ?_
    refine x_iconst (dat d_Mo_shake 170 rfl) (by decide) ?_
    refine x_iadd (v := (goneI evs) + 1) (dat d_Mo_shake 171 rfl) rfl (by omega) ?_
    refine x_iast (n := 24) (dat d_Mo_shake 172 rfl) (ai_mk (by decide +kernel)) (by omega) (by omega) ?_
    refine x_aload_n (dat d_Mo_shake 173 rfl) rfl rfl ?_
    refine x_geti (ji := 36) (v := σ1 174 36) (dat d_Mo_shake 174 rfl) rfl f_Mo_247 (oi_mk (by decide +kernel)) ((up_nk (by decide)).trans ((up_nk (by decide)).trans ((up_nk (by decide)).trans ((up_nk (by decide)).trans (up_nk (by decide)))))) ?_
    refine x_iload (dat d_Mo_shake 175 rfl) rfl ?_
    refine x_ishr (v := ishr (σ1 174 36) x) (dat d_Mo_shake 176 rfl) rfl ?_
    refine x_iconst (dat d_Mo_shake 177 rfl) (by decide) ?_
    refine x_iand (v := yp) (dat d_Mo_shake 178 rfl) (by exact gx) ?_
    refine x_iconst (dat d_Mo_shake 179 rfl) (by decide) ?_
    refine x_icmp_ne (tgt := 261) (dat d_Mo_shake 180 rfl) (by decide) (fun c_245 => ?_) (fun c_245 => ?_)
    · refine x_aload_n (dat d_Mo_shake 189 rfl) rfl rfl ?_
      refine x_getr (r := 180) (dat d_Mo_shake 190 rfl) rfl f_Mo_26 (or_mk (by decide +kernel)) ?_
      refine x_iload (dat d_Mo_shake 191 rfl) rfl ?_
      refine x_iald (n := 8) (v := bd x - 1) (dat d_Mo_shake 192 rfl) (ai_mk (by decide +kernel)) (by omega) (by omega) (by first | (rw [up_nk (by decide), up_nk (by decide), up_nk (by decide), up_nk (by decide), up_ni (by omega), up_s]) | (rw [up_nk (by decide), up_nk (by decide), up_nk (by decide), up_ni (by omega), up_s])) ?_
      refine x_if_ne (tgt := 286) (dat d_Mo_shake 193 rfl) (by decide) (fun c_268 => ?_) (fun c_268 => ?_)
      · refine x_ret (dat d_Mo_shake 204 rfl) rfl ?_
        first
        | (refine fin _ (by rw [up_s]; exact mz _ (m1 (by omega)) (by omega)) (fun i hi => by rw [up_ni (Ne.symm hi), up_ni (Ne.symm hi), up_ne (by decide), up_ne (by decide), up_ne (by decide), up_ne (by decide), up_ne (by decide)]) (fun o ho => by rw [up_ne ho, up_ne ho]))
        | (refine fin _ (by rw [up_s]; exact mz _ (m0 (by omega)) (by omega)) (fun i hi => by rw [up_ni (Ne.symm hi), up_ne (by decide), up_ne (by decide), up_ne (by decide), up_ne (by decide), up_ne (by decide)]) (fun o ho => by rw [up_ne ho]))
        | (refine fin _ (by rw [up_s]; exact mn _ (m1 (by omega)) (by omega)) (fun i hi => by rw [up_ni (Ne.symm hi), up_ne (by decide), up_ne (by decide), up_ne (by decide), up_ne (by decide), up_ne (by decide)]) (fun o ho => by rw [up_ne ho]))
        | (refine fin _ (by rw [up_ne (by decide), up_ne (by decide), up_ne (by decide), up_ne (by decide), up_ne (by decide)]; exact mn _ (m0 (by omega)) (by omega)) (fun i hi => by rw [up_ne (by decide), up_ne (by decide), up_ne (by decide), up_ne (by decide), up_ne (by decide)]) (fun o ho => rfl))
      · refine x_aload_n (dat d_Mo_shake 194 rfl) rfl rfl ?_
        refine x_dup (dat d_Mo_shake 195 rfl) rfl ?_
        refine x_geti (ji := 36) (v := σ1 174 36) (dat d_Mo_shake 196 rfl) rfl f_Mo_247 (oi_mk (by decide +kernel)) ((up_nk (by decide)).trans ((up_nk (by decide)).trans ((up_nk (by decide)).trans ((up_nk (by decide)).trans (up_nk (by decide)))))) ?_
        refine x_iconst (dat d_Mo_shake 197 rfl) (by decide) ?_
        refine x_iload (dat d_Mo_shake 198 rfl) rfl ?_
        refine x_ishl (v := ishl 1 x) (dat d_Mo_shake 199 rfl) rfl ?_
        refine x_iconst (dat d_Mo_shake 200 rfl) (by decide) ?_
        refine x_ixor (v := ixor (ishl 1 x) (-1)) (dat d_Mo_shake 201 rfl) rfl ?_
        refine x_iand (v := iand (σ1 174 36) (ixor (ishl 1 x) (-1))) (dat d_Mo_shake 202 rfl) rfl ?_
        refine x_puti (ji := 36) (x := (iand (σ1 174 36) (ixor (ishl 1 x) (-1)))) (dat d_Mo_shake 203 rfl) rfl f_Mo_247w (oi_mk (by decide +kernel)) (fun h => absurd h (by decide)) (by decide) ?_
        refine x_ret (dat d_Mo_shake 204 rfl) rfl ?_
        first
        | (refine fin _ (by rw [up_s]; exact mz _ (m1 (by omega)) (by omega)) (fun i hi => by rw [up_ni (Ne.symm hi), up_ni (Ne.symm hi), up_ne (by decide), up_ne (by decide), up_ne (by decide), up_ne (by decide), up_ne (by decide)]) (fun o ho => by rw [up_ne ho, up_ne ho]))
        | (refine fin _ (by rw [up_s]; exact mz _ (m0 (by omega)) (by omega)) (fun i hi => by rw [up_ni (Ne.symm hi), up_ne (by decide), up_ne (by decide), up_ne (by decide), up_ne (by decide), up_ne (by decide)]) (fun o ho => by rw [up_ne ho]))
        | (refine fin _ (by rw [up_s]; exact mn _ (m1 (by omega)) (by omega)) (fun i hi => by rw [up_ni (Ne.symm hi), up_ne (by decide), up_ne (by decide), up_ne (by decide), up_ne (by decide), up_ne (by decide)]) (fun o ho => by rw [up_ne ho]))
        | (refine fin _ (by rw [up_ne (by decide), up_ne (by decide), up_ne (by decide), up_ne (by decide), up_ne (by decide)]; exact mn _ (m0 (by omega)) (by omega)) (fun i hi => by rw [up_ne (by decide), up_ne (by decide), up_ne (by decide), up_ne (by decide), up_ne (by decide)]) (fun o ho => rfl))
    · refine x_aload_n (dat d_Mo_shake 181 rfl) rfl rfl ?_
      refine x_dup (dat d_Mo_shake 182 rfl) rfl ?_
      refine x_geti (ji := 36) (v := σ1 174 36) (dat d_Mo_shake 183 rfl) rfl f_Mo_247 (oi_mk (by decide +kernel)) ((up_nk (by decide)).trans ((up_nk (by decide)).trans ((up_nk (by decide)).trans ((up_nk (by decide)).trans (up_nk (by decide)))))) ?_
      refine x_iconst (dat d_Mo_shake 184 rfl) (by decide) ?_
      refine x_iload (dat d_Mo_shake 185 rfl) rfl ?_
      refine x_ishl (v := ishl 1 y) (dat d_Mo_shake 186 rfl) rfl ?_
      refine x_ior (v := ior (σ1 174 36) (ishl 1 y)) (dat d_Mo_shake 187 rfl) rfl ?_
      refine x_puti (ji := 36) (x := (ior (σ1 174 36) (ishl 1 y))) (dat d_Mo_shake 188 rfl) rfl f_Mo_247w (oi_mk (by decide +kernel)) (fun h => absurd h (by decide)) (by decide) ?_
      refine x_aload_n (dat d_Mo_shake 189 rfl) rfl rfl ?_
      refine x_getr (r := 180) (dat d_Mo_shake 190 rfl) rfl f_Mo_26 (or_mk (by decide +kernel)) ?_
      refine x_iload (dat d_Mo_shake 191 rfl) rfl ?_
      refine x_iald (n := 8) (v := bd x - 1) (dat d_Mo_shake 192 rfl) (ai_mk (by decide +kernel)) (by omega) (by omega) (by first | (rw [up_nk (by decide), up_nk (by decide), up_nk (by decide), up_nk (by decide), up_ni (by omega), up_s]) | (rw [up_nk (by decide), up_nk (by decide), up_nk (by decide), up_ni (by omega), up_s])) ?_
      refine x_if_ne (tgt := 286) (dat d_Mo_shake 193 rfl) (by decide) (fun c_268 => ?_) (fun c_268 => ?_)
      · refine x_ret (dat d_Mo_shake 204 rfl) rfl ?_
        first
        | (refine fin _ (by rw [up_s]; exact mz _ (m1 (by omega)) (by omega)) (fun i hi => by rw [up_ni (Ne.symm hi), up_ni (Ne.symm hi), up_ne (by decide), up_ne (by decide), up_ne (by decide), up_ne (by decide), up_ne (by decide)]) (fun o ho => by rw [up_ne ho, up_ne ho]))
        | (refine fin _ (by rw [up_s]; exact mz _ (m0 (by omega)) (by omega)) (fun i hi => by rw [up_ni (Ne.symm hi), up_ne (by decide), up_ne (by decide), up_ne (by decide), up_ne (by decide), up_ne (by decide)]) (fun o ho => by rw [up_ne ho]))
        | (refine fin _ (by rw [up_s]; exact mn _ (m1 (by omega)) (by omega)) (fun i hi => by rw [up_ni (Ne.symm hi), up_ne (by decide), up_ne (by decide), up_ne (by decide), up_ne (by decide), up_ne (by decide)]) (fun o ho => by rw [up_ne ho]))
        | (refine fin _ (by rw [up_ne (by decide), up_ne (by decide), up_ne (by decide), up_ne (by decide), up_ne (by decide)]; exact mn _ (m0 (by omega)) (by omega)) (fun i hi => by rw [up_ne (by decide), up_ne (by decide), up_ne (by decide), up_ne (by decide), up_ne (by decide)]) (fun o ho => rfl))
      · refine x_aload_n (dat d_Mo_shake 194 rfl) rfl rfl ?_
        refine x_dup (dat d_Mo_shake 195 rfl) rfl ?_
        refine x_geti (ji := 36) (v := ior (σ1 174 36) (ishl 1 y)) (dat d_Mo_shake 196 rfl) rfl f_Mo_247 (oi_mk (by decide +kernel)) (up_s) ?_
        refine x_iconst (dat d_Mo_shake 197 rfl) (by decide) ?_
        refine x_iload (dat d_Mo_shake 198 rfl) rfl ?_
        refine x_ishl (v := ishl 1 x) (dat d_Mo_shake 199 rfl) rfl ?_
        refine x_iconst (dat d_Mo_shake 200 rfl) (by decide) ?_
        refine x_ixor (v := ixor (ishl 1 x) (-1)) (dat d_Mo_shake 201 rfl) rfl ?_
        refine x_iand (v := iand (ior (σ1 174 36) (ishl 1 y)) (ixor (ishl 1 x) (-1))) (dat d_Mo_shake 202 rfl) rfl ?_
        refine x_puti (ji := 36) (x := (iand (ior (σ1 174 36) (ishl 1 y)) (ixor (ishl 1 x) (-1)))) (dat d_Mo_shake 203 rfl) rfl f_Mo_247w (oi_mk (by decide +kernel)) (fun h => absurd h (by decide)) (by decide) ?_
        refine x_ret (dat d_Mo_shake 204 rfl) rfl ?_
        first
        | (refine fin _ (by rw [up_s]; exact mz _ (m1 (by omega)) (by omega)) (fun i hi => by rw [up_ni (Ne.symm hi), up_ni (Ne.symm hi), up_ne (by decide), up_ne (by decide), up_ne (by decide), up_ne (by decide), up_ne (by decide)]) (fun o ho => by rw [up_ne ho, up_ne ho]))
        | (refine fin _ (by rw [up_s]; exact mz _ (m0 (by omega)) (by omega)) (fun i hi => by rw [up_ni (Ne.symm hi), up_ne (by decide), up_ne (by decide), up_ne (by decide), up_ne (by decide), up_ne (by decide)]) (fun o ho => by rw [up_ne ho]))
        | (refine fin _ (by rw [up_s]; exact mn _ (m1 (by omega)) (by omega)) (fun i hi => by rw [up_ni (Ne.symm hi), up_ne (by decide), up_ne (by decide), up_ne (by decide), up_ne (by decide), up_ne (by decide)]) (fun o ho => by rw [up_ne ho]))
        | (refine fin _ (by rw [up_ne (by decide), up_ne (by decide), up_ne (by decide), up_ne (by decide), up_ne (by decide)]; exact mn _ (m0 (by omega)) (by omega)) (fun i hi => by rw [up_ne (by decide), up_ne (by decide), up_ne (by decide), up_ne (by decide), up_ne (by decide)]) (fun o ho => rfl))
  have none_ : ∀ (σ1 : xS), x = -1 → MhX σ0 σ1 P h hd bd evs ((a, b, x) :: evs) cum pt (ilE dr (cGl C) kc (a, b, x) il) (rchE (fun _ => false) (a, b, x) nw) → K none σ1 := by
    intro σ1 xe N
    obtain ⟨⟨⟨n1, n2⟩, n3, n4, n5⟩, n6, n7, n8, n9, n10⟩ := N
    have mv : mvb bd a b x = bd := by unfold mvb; rw [if_pos xe]
    have pv : (pvE (a, b, x) (bd, pt)).2 = pt := by unfold pvE; rw [if_pos (show (a, b, x).2.2 = -1 from xe)]
    have gc : goneI ((a, b, x) :: evs) = goneI evs := by rw [goneI_cons, if_pos (show (a, b, x).2.2 = -1 from xe)]; omega
    have cc : ∀ p : Int, cameI ((a, b, x) :: evs) p = cameI evs p := fun p => by rw [cameI_cons]; unfold cmE; rw [if_pos (show (a, b, x).2.2 = -1 from xe)]; omega
    refine k σ1 ⟨⟨⟨n1, by rw [gc]; exact n2⟩, by rw [pv]; exact n3, n4, n5⟩, fun p p0 p1 => ⟨⟨by rw [mv]; exact (n6 p p0 p1).1.1, (n6 p p0 p1).1.2⟩, (n6 p p0 p1).2.1, (n6 p p0 p1).2.2.1, by rw [cc]; exact (n6 p p0 p1).2.2.2⟩, n7, n8, n9, n10⟩
  have sG : ∀ (Z : xZ) (w4 w5 : MV) (σ1 : xS), MhX σ0 σ1 P h hd bd evs ((a, b, x) :: evs) cum pt (ilE dr (cGl C) kc (a, b, x) il) (rchE (fun _ => false) (a, b, x) nw) → Wx g y_Mo_shake Z K 129 [vR 174, vI a, vI b, vI h, w4, w5] [] σ1 := by
    intro Z w4 w5 σ1 N
    have H1 := moc σ1 N.2.2.1 N.2.2.2.2.2
    have ea := (N.2.1 a a0 (by omega)).1.1
    have eb := (N.2.1 b (by omega) b1).1.1
    have ux : x = if gv0 C bd a b = -1 then -1 else if bd (gv0 C bd a b) < 1 then -1 else if cGl C (gv0 C bd a b) = true then -1 else gv0 C bd a b := by rw [← hx]; rfl
    have gin := gv0_in C bd a b
    generalize hz : gv0 C bd a b = z at ux gin
    have ez : z ≠ -1 → σ1 180 z = bd z := fun w => by
      rcases gin with e | e | e
      · exact absurd e w
      · rw [e]; exact ea
      · rw [e]; exact eb
    have bz : z ≠ -1 → 0 ≤ bd z ∧ bd z ≤ 1000 := fun w => by
      rcases gin with e | e | e
      · exact absurd e w
      · rw [e]; exact hbd a a0 (by omega)
      · rw [e]; exact hbd b (by omega) b1
    refine x_aload_n (dat d_Mo_shake 101 rfl) rfl rfl ?_
    refine x_iload_n (dat d_Mo_shake 102 rfl) rfl rfl ?_
    refine x_iload_n (dat d_Mo_shake 103 rfl) rfl rfl ?_
    refine x_inv (As := [vI a, vI b]) (dat d_Mo_shake 104 rfl) rfl c_Mo_giver l_Mo_311 (by decide) (rv_mo (by decide +kernel)) rfl rfl (Nat.le_of_ble_eq_true rfl) ?_
    refine sp_Mo_giver (bd := bd) H1 a0 ab (by omega) ea eb ?_
    rw [hz]
    show Wx g y_Mo_shake Z K 135 [vR 174, vI a, vI b, vI h, w4, w5] [vI z] σ1
    refine x_istore (L' := [vR 174, vI a, vI b, vI h, vI z, w5]) (dat d_Mo_shake 105 rfl) (by decide) rfl rfl ?_
    refine x_iload (dat d_Mo_shake 106 rfl) rfl ?_
    refine x_iconst (dat d_Mo_shake 107 rfl) (by decide) ?_
    refine x_icmp_eq (tgt := 162) (dat d_Mo_shake 108 rfl) (by decide) (fun c_140 => ?_) (fun c_140 => ?_)
    · refine x_ret (dat d_Mo_shake 118 rfl) rfl ?_
      have xe : x = -1 := by
        rw [ux]
        by_cases w1 : z = -1
        · rw [if_pos w1]
        · rw [if_neg w1]
          have := bz w1
          by_cases w2 : bd z < 1
          · rw [if_pos w2]
          · rw [if_neg w2]
            first
            | rw [if_pos gz]
            | (exfalso; omega)
      exact none_ σ1 xe N
    · refine x_aload_n (dat d_Mo_shake 109 rfl) rfl rfl ?_
      refine x_getr (r := 180) (dat d_Mo_shake 110 rfl) rfl f_Mo_26 (or_mk (by decide +kernel)) ?_
      refine x_iload (dat d_Mo_shake 111 rfl) rfl ?_
      refine x_iald (n := 8) (v := bd z) (dat d_Mo_shake 112 rfl) (ai_mk (by decide +kernel)) (by omega) (by omega) (by exact ez (by omega)) ?_
      refine x_if_eq (tgt := 162) (dat d_Mo_shake 113 rfl) (by decide) (fun c_150 => ?_) (fun c_150 => ?_)
      · refine x_ret (dat d_Mo_shake 118 rfl) rfl ?_
        have xe : x = -1 := by
          rw [ux]
          by_cases w1 : z = -1
          · rw [if_pos w1]
          · rw [if_neg w1]
            have := bz w1
            by_cases w2 : bd z < 1
            · rw [if_pos w2]
            · rw [if_neg w2]
              first
              | rw [if_pos gz]
              | (exfalso; omega)
        exact none_ σ1 xe N
      · refine x_aload_n (dat d_Mo_shake 114 rfl) rfl rfl ?_
        refine x_iload (dat d_Mo_shake 115 rfl) rfl ?_
        refine x_inv (As := [vI z]) (dat d_Mo_shake 116 rfl) rfl c_Mo_isGloved l_Mo_298 (by decide) (rv_mo (by decide +kernel)) rfl rfl (Nat.le_of_ble_eq_true rfl) ?_
        refine sp_Mo_isGloved H1 (by omega) (by omega) (fun gz => ?_) (fun gz => ?_)
        · show Wx g y_Mo_shake Z K 159 [vR 174, vI a, vI b, vI h, vI z, w5] [vI 1] σ1
          refine x_if_eq (tgt := 163) (dat d_Mo_shake 117 rfl) (by decide) (fun h => absurd h (by decide)) (fun c_159 => ?_)
          refine x_ret (dat d_Mo_shake 118 rfl) rfl ?_
          have xe : x = -1 := by
            rw [ux]
            by_cases w1 : z = -1
            · rw [if_pos w1]
            · rw [if_neg w1]
              have := bz w1
              by_cases w2 : bd z < 1
              · rw [if_pos w2]
              · rw [if_neg w2]
                first
                | rw [if_pos gz]
                | (exfalso; omega)
          exact none_ σ1 xe N
        · show Wx g y_Mo_shake Z K 159 [vR 174, vI a, vI b, vI h, vI z, w5] [vI 0] σ1
          refine x_if_eq (tgt := 163) (dat d_Mo_shake 117 rfl) (by decide) (fun c_159 => ?_) (fun h => absurd h (by decide))
          have w1 : z ≠ -1 := by omega
          have hb := bz w1
          have xe : x = z := by rw [ux, if_neg w1, if_neg (show ¬ bd z < 1 by omega), if_neg gz]
          rw [← xe]
          rw [← xe] at hb
          exact sM Z _ σ1 _ _ (a + b - x) (by omega) (by rw [xe]; have := ‹¬ bd z = 0›; omega) rfl rfl N
  have sN : ∀ (Z : xZ) (w4 w5 : MV) (σ1 : xS), MhX σ0 σ1 P h hd bd evs ((a, b, x) :: evs) cum pt (ilE dr (cGl C) kc (a, b, x) il) nw → Wx g y_Mo_shake Z K 94 [vR 174, vI a, vI b, vI h, w4, w5] [] σ1 := by
    intro Z w4 w5 σ1 N
    obtain ⟨⟨⟨n1, n2⟩, n3, n4, n5⟩, n6, n7, n8, n9, n10⟩ := id N
    have ga := n5.get (by decide) a0 (show a < (8 : Nat) by omega)
    have gb := n5.get (by decide) (show 0 ≤ b by omega) (show b < (8 : Nat) by omega)
    obtain ⟨ya, hya⟩ : ∃ y : Int, y = (if nw a = true then 1 else 0) := ⟨_, rfl⟩
    obtain ⟨yb, hyb⟩ : ∃ y : Int, y = (if nw b = true then 1 else 0) := ⟨_, rfl⟩
    rw [← hya] at ga
    rw [← hyb] at gb
    have ha01 : (ya = 1 ∧ nw a = true) ∨ (ya = 0 ∧ nw a = false) := by rw [hya]; split <;> simp_all
    have hb01 : (yb = 1 ∧ nw b = true) ∨ (yb = 0 ∧ nw b = false) := by rw [hyb]; split <;> simp_all
    have hm2 : Msk 8 (ior (σ1 174 52) (ior (ishl 1 a) (ishl 1 b))) (fun p => nw p || (decide (p = a) || decide (p = b))) := n5.lor (by decide) (msk_two a0 (by omega) (by omega) (by omega))
    have same : ya = yb → rchE (fun _ => false) (a, b, x) nw = nw := fun e => by
      unfold rchE
      split
      · rename_i w
        have hp : nw a = true ∧ nw b = true := by
          have : nw a = true ∨ nw b = true := w.2.2
          rcases ha01 with z | z <;> rcases hb01 with y | y
          · exact ⟨z.2, y.2⟩
          · omega
          · omega
          · rw [z.2, y.2] at this; exact absurd this (by decide)
        funext p
        show (nw p || (decide (p = a) || decide (p = b))) = nw p
        by_cases z1 : p = a
        · subst z1; rw [hp.1]; rfl
        · by_cases z2 : p = b
          · subst z2; rw [hp.2]; rfl
          · rw [decide_eq_false z1, decide_eq_false z2, Bool.or_false, Bool.or_false]
      · rfl
    have diff : ya ≠ yb → rchE (fun _ => false) (a, b, x) nw = fun p => nw p || (decide (p = a) || decide (p = b)) := fun e => by
      unfold rchE
      rw [if_pos ⟨rfl, rfl, by
        show nw a = true ∨ nw b = true
        rcases ha01 with z | z
        · exact Or.inl z.2
        · rcases hb01 with y | y
          · exact Or.inr y.2
          · omega⟩]
    refine x_aload_n (dat d_Mo_shake 76 rfl) rfl rfl ?_
    refine x_geti (ji := 52) (v := σ1 174 52) (dat d_Mo_shake 77 rfl) rfl f_Mo_250 (oi_mk (by decide +kernel)) rfl ?_
    refine x_iload_n (dat d_Mo_shake 78 rfl) rfl rfl ?_
    refine x_ishr (v := ishr (σ1 174 52) a) (dat d_Mo_shake 79 rfl) rfl ?_
    refine x_iconst (dat d_Mo_shake 80 rfl) (by decide) ?_
    refine x_iand (v := ya) (dat d_Mo_shake 81 rfl) (by exact ga) ?_
    refine x_aload_n (dat d_Mo_shake 82 rfl) rfl rfl ?_
    refine x_geti (ji := 52) (v := σ1 174 52) (dat d_Mo_shake 83 rfl) rfl f_Mo_250 (oi_mk (by decide +kernel)) rfl ?_
    refine x_iload_n (dat d_Mo_shake 84 rfl) rfl rfl ?_
    refine x_ishr (v := ishr (σ1 174 52) b) (dat d_Mo_shake 85 rfl) rfl ?_
    refine x_iconst (dat d_Mo_shake 86 rfl) (by decide) ?_
    refine x_iand (v := yb) (dat d_Mo_shake 87 rfl) (by exact gb) ?_
    refine x_icmp_eq (tgt := 129) (dat d_Mo_shake 88 rfl) (by decide) (fun c_110 => ?_) (fun c_110 => ?_)
    · first
      | exact sG Z _ _ σ1 (by rw [same (by omega)]; exact N)
      | (refine sG Z _ _ _ ?_
         rw [diff (by omega)]
         refine ⟨⟨⟨by rw [up_ne (by decide)]; exact n1, by rw [up_ne (by decide)]; exact n2⟩, by rw [up_ni (by decide)]; exact n3, ⟨by rw [up_ni (by decide)]; exact n4.1, by rw [up_ni (by decide)]; exact n4.2⟩, by rw [up_s]; exact hm2⟩, fun p p0 p1 => ?_, fun i i1 i2 i3 i4 => by rw [up_ni (Ne.symm i4)]; exact n7 i i1 i2 i3 i4, fun j hj => by rw [up_ne (by decide), up_ne (by decide)]; exact n8 j hj, fun j hj => by rw [up_ne (by decide), up_ne (by decide)]; exact n9 j hj, fun o o1 o2 o3 o4 o5 o6 o7 o8 => by rw [up_ne o1]; exact n10 o o1 o2 o3 o4 o5 o6 o7 o8⟩
         rw [up_ne (by decide), up_ne (by decide), up_ne (by decide), up_ne (by decide), up_ne (by decide)]
         exact n6 p p0 p1)
    · refine x_aload_n (dat d_Mo_shake 89 rfl) rfl rfl ?_
      refine x_dup (dat d_Mo_shake 90 rfl) rfl ?_
      refine x_geti (ji := 52) (v := σ1 174 52) (dat d_Mo_shake 91 rfl) rfl f_Mo_250 (oi_mk (by decide +kernel)) rfl ?_
      refine x_iconst (dat d_Mo_shake 92 rfl) (by decide) ?_
      refine x_iload_n (dat d_Mo_shake 93 rfl) rfl rfl ?_
      refine x_ishl (v := ishl 1 a) (dat d_Mo_shake 94 rfl) rfl ?_
      refine x_iconst (dat d_Mo_shake 95 rfl) (by decide) ?_
      refine x_iload_n (dat d_Mo_shake 96 rfl) rfl rfl ?_
      refine x_ishl (v := ishl 1 b) (dat d_Mo_shake 97 rfl) rfl ?_
      refine x_ior (v := ior (ishl 1 a) (ishl 1 b)) (dat d_Mo_shake 98 rfl) rfl ?_
      refine x_ior (v := ior (σ1 174 52) (ior (ishl 1 a) (ishl 1 b))) (dat d_Mo_shake 99 rfl) rfl ?_
      refine x_puti (ji := 52) (x := (ior (σ1 174 52) (ior (ishl 1 a) (ishl 1 b)))) (dat d_Mo_shake 100 rfl) rfl f_Mo_250w (oi_mk (by decide +kernel)) (fun h => absurd h (by decide)) (by decide) ?_
      first
      | exact sG Z _ _ σ1 (by rw [same (by omega)]; exact N)
      | (refine sG Z _ _ _ ?_
         rw [diff (by omega)]
         refine ⟨⟨⟨by rw [up_ne (by decide)]; exact n1, by rw [up_ne (by decide)]; exact n2⟩, by rw [up_ni (by decide)]; exact n3, ⟨by rw [up_ni (by decide)]; exact n4.1, by rw [up_ni (by decide)]; exact n4.2⟩, by rw [up_s]; exact hm2⟩, fun p p0 p1 => ?_, fun i i1 i2 i3 i4 => by rw [up_ni (Ne.symm i4)]; exact n7 i i1 i2 i3 i4, fun j hj => by rw [up_ne (by decide), up_ne (by decide)]; exact n8 j hj, fun j hj => by rw [up_ne (by decide), up_ne (by decide)]; exact n9 j hj, fun o o1 o2 o3 o4 o5 o6 o7 o8 => by rw [up_ne o1]; exact n10 o o1 o2 o3 o4 o5 o6 o7 o8⟩
         rw [up_ne (by decide), up_ne (by decide), up_ne (by decide), up_ne (by decide), up_ne (by decide)]
         exact n6 p p0 p1)
  obtain ⟨⟨⟨n1, n2⟩, n3, n4, n5⟩, n6, n7, n8, n9, n10⟩ := id M
  have pa := n6 a a0 (by omega)
  have pb := n6 b (by omega) b1
  have ca := cntN_bd (metB evs a) 8
  have cb := cntN_bd (metB evs b) 8
  have da := hhd a a0 (by omega)
  have db := hhd b (by omega) b1
  refine x_enter 2 rfl rfl rfl (fun Z => ?_)
  show Wx g y_Mo_shake Z K 0 [vR 174, vI a, vI b, vI h, vU, vU] [] σ
  refine x_aload_n (dat d_Mo_shake 0 rfl) rfl rfl ?_
  refine x_getr (r := 185) (dat d_Mo_shake 1 rfl) rfl f_Mo_41 (or_mk (by decide +kernel)) ?_
  refine x_iload_n (dat d_Mo_shake 2 rfl) rfl rfl ?_
  refine x_dup2 (dat d_Mo_shake 3 rfl) rfl rfl ?_
  refine x_iald (n := 24) (v := (evs.length : Int)) (dat d_Mo_shake 4 rfl) (ai_mk (by decide +kernel)) (by omega) (by omega) (n1) ?_
  refine x_iconst (dat d_Mo_shake 5 rfl) (by decide) ?_
  refine x_iadd (v := (evs.length : Int) + 1) (dat d_Mo_shake 6 rfl) rfl (by omega) ?_
  refine x_iast (n := 24) (dat d_Mo_shake 7 rfl) (ai_mk (by decide +kernel)) (by omega) (by omega) ?_
  refine x_aload_n (dat d_Mo_shake 8 rfl) rfl rfl ?_
  refine x_getr (r := 192) (dat d_Mo_shake 9 rfl) rfl f_Mo_62 (or_mk (by decide +kernel)) ?_
  refine x_iload_n (dat d_Mo_shake 10 rfl) rfl rfl ?_
  refine x_dup2 (dat d_Mo_shake 11 rfl) rfl rfl ?_
  refine x_iald (n := 8) (v := hd a + cntN (metB evs a) 8) (dat d_Mo_shake 12 rfl) (ai_mk (by decide +kernel)) (by omega) (by omega) ((up_nk (by decide)).trans pa.1.2) ?_
  refine x_iconst (dat d_Mo_shake 13 rfl) (by decide) ?_
  refine x_iadd (v := (hd a + cntN (metB evs a) 8) + 1) (dat d_Mo_shake 14 rfl) rfl (by omega) ?_
  refine x_iast (n := 8) (dat d_Mo_shake 15 rfl) (ai_mk (by decide +kernel)) (by omega) (by omega) ?_
  refine x_aload_n (dat d_Mo_shake 16 rfl) rfl rfl ?_
  refine x_getr (r := 192) (dat d_Mo_shake 17 rfl) rfl f_Mo_62 (or_mk (by decide +kernel)) ?_
  refine x_iload_n (dat d_Mo_shake 18 rfl) rfl rfl ?_
  refine x_dup2 (dat d_Mo_shake 19 rfl) rfl rfl ?_
  refine x_iald (n := 8) (v := hd b + cntN (metB evs b) 8) (dat d_Mo_shake 20 rfl) (ai_mk (by decide +kernel)) (by omega) (by omega) ((up_ni (by omega)).trans ((up_nk (by decide)).trans pb.1.2)) ?_
  refine x_iconst (dat d_Mo_shake 21 rfl) (by decide) ?_
  refine x_iadd (v := (hd b + cntN (metB evs b) 8) + 1) (dat d_Mo_shake 22 rfl) rfl (by omega) ?_
  refine x_iast (n := 8) (dat d_Mo_shake 23 rfl) (ai_mk (by decide +kernel)) (by omega) (by omega) ?_
  refine x_aload_n (dat d_Mo_shake 24 rfl) rfl rfl ?_
  refine x_getr (r := 194) (dat d_Mo_shake 25 rfl) rfl f_Mo_68 (or_mk (by decide +kernel)) ?_
  refine x_iload_n (dat d_Mo_shake 26 rfl) rfl rfl ?_
  refine x_dup2 (dat d_Mo_shake 27 rfl) rfl rfl ?_
  refine x_iald (n := 8) (v := σ 194 a) (dat d_Mo_shake 28 rfl) (ai_mk (by decide +kernel)) (by omega) (by omega) ((up_nk (by decide)).trans ((up_nk (by decide)).trans (up_nk (by decide)))) ?_
  refine x_iconst (dat d_Mo_shake 29 rfl) (by decide) ?_
  refine x_iload_n (dat d_Mo_shake 30 rfl) rfl rfl ?_
  refine x_ishl (v := ishl 1 b) (dat d_Mo_shake 31 rfl) rfl ?_
  refine x_ior (v := ior (σ 194 a) (ishl 1 b)) (dat d_Mo_shake 32 rfl) rfl ?_
  refine x_iast (n := 8) (dat d_Mo_shake 33 rfl) (ai_mk (by decide +kernel)) (by omega) (by omega) ?_
  refine x_aload_n (dat d_Mo_shake 34 rfl) rfl rfl ?_
  refine x_getr (r := 194) (dat d_Mo_shake 35 rfl) rfl f_Mo_68 (or_mk (by decide +kernel)) ?_
  refine x_iload_n (dat d_Mo_shake 36 rfl) rfl rfl ?_
  refine x_dup2 (dat d_Mo_shake 37 rfl) rfl rfl ?_
  refine x_iald (n := 8) (v := σ 194 b) (dat d_Mo_shake 38 rfl) (ai_mk (by decide +kernel)) (by omega) (by omega) ((up_ni (by omega)).trans ((up_nk (by decide)).trans ((up_nk (by decide)).trans (up_nk (by decide))))) ?_
  refine x_iconst (dat d_Mo_shake 39 rfl) (by decide) ?_
  refine x_iload_n (dat d_Mo_shake 40 rfl) rfl rfl ?_
  refine x_ishl (v := ishl 1 a) (dat d_Mo_shake 41 rfl) rfl ?_
  refine x_ior (v := ior (σ 194 b) (ishl 1 a)) (dat d_Mo_shake 42 rfl) rfl ?_
  refine x_iast (n := 8) (dat d_Mo_shake 43 rfl) (ai_mk (by decide +kernel)) (by omega) (by omega) ?_
  refine x_aload_n (dat d_Mo_shake 44 rfl) rfl rfl ?_
  refine x_getr (r := 183) (dat d_Mo_shake 45 rfl) rfl f_Mo_35 (or_mk (by decide +kernel)) ?_
  refine x_bipush (dat d_Mo_shake 46 rfl) (by decide) (by decide) ?_
  refine x_iload_n (dat d_Mo_shake 47 rfl) rfl rfl ?_
  refine x_imul (v := 8 * h) (dat d_Mo_shake 48 rfl) (by omega) (by omega) ?_
  refine x_iload_n (dat d_Mo_shake 49 rfl) rfl rfl ?_
  refine x_iadd (v := (8 * h) + a) (dat d_Mo_shake 50 rfl) rfl (by omega) ?_
  refine x_dup2 (dat d_Mo_shake 51 rfl) rfl rfl ?_
  refine x_iald (n := 192) (v := σ 183 ((8 * h) + a)) (dat d_Mo_shake 52 rfl) (ai_mk (by decide +kernel)) (by omega) (by omega) ((up_nk (by decide)).trans ((up_nk (by decide)).trans ((up_nk (by decide)).trans ((up_nk (by decide)).trans (up_nk (by decide)))))) ?_
  refine x_iconst (dat d_Mo_shake 53 rfl) (by decide) ?_
  refine x_iload_n (dat d_Mo_shake 54 rfl) rfl rfl ?_
  refine x_ishl (v := ishl 1 b) (dat d_Mo_shake 55 rfl) rfl ?_
  refine x_ior (v := ior (σ 183 ((8 * h) + a)) (ishl 1 b)) (dat d_Mo_shake 56 rfl) rfl ?_
  refine x_iast (n := 192) (dat d_Mo_shake 57 rfl) (ai_mk (by decide +kernel)) (by omega) (by omega) ?_
  refine x_aload_n (dat d_Mo_shake 58 rfl) rfl rfl ?_
  refine x_getr (r := 183) (dat d_Mo_shake 59 rfl) rfl f_Mo_35 (or_mk (by decide +kernel)) ?_
  refine x_bipush (dat d_Mo_shake 60 rfl) (by decide) (by decide) ?_
  refine x_iload_n (dat d_Mo_shake 61 rfl) rfl rfl ?_
  refine x_imul (v := 8 * h) (dat d_Mo_shake 62 rfl) (by omega) (by omega) ?_
  refine x_iload_n (dat d_Mo_shake 63 rfl) rfl rfl ?_
  refine x_iadd (v := (8 * h) + b) (dat d_Mo_shake 64 rfl) rfl (by omega) ?_
  refine x_dup2 (dat d_Mo_shake 65 rfl) rfl rfl ?_
  refine x_iald (n := 192) (v := σ 183 ((8 * h) + b)) (dat d_Mo_shake 66 rfl) (ai_mk (by decide +kernel)) (by omega) (by omega) ((up_ni (by omega)).trans ((up_nk (by decide)).trans ((up_nk (by decide)).trans ((up_nk (by decide)).trans ((up_nk (by decide)).trans (up_nk (by decide))))))) ?_
  refine x_iconst (dat d_Mo_shake 67 rfl) (by decide) ?_
  refine x_iload_n (dat d_Mo_shake 68 rfl) rfl rfl ?_
  refine x_ishl (v := ishl 1 a) (dat d_Mo_shake 69 rfl) rfl ?_
  refine x_ior (v := ior (σ 183 ((8 * h) + b)) (ishl 1 a)) (dat d_Mo_shake 70 rfl) rfl ?_
  refine x_iast (n := 192) (dat d_Mo_shake 71 rfl) (ai_mk (by decide +kernel)) (by omega) (by omega) ?_
  refine x_aload_n (dat d_Mo_shake 72 rfl) rfl rfl ?_
  refine x_iload_n (dat d_Mo_shake 73 rfl) rfl rfl ?_
  refine x_iload_n (dat d_Mo_shake 74 rfl) rfl rfl ?_
  refine x_inv (As := [vI a, vI b]) (dat d_Mo_shake 75 rfl) rfl c_Mo_fevers l_Mo_308 (by decide) (rv_mo (by decide +kernel)) rfl rfl (Nat.le_of_ble_eq_true rfl) ?_
  refine sp_Mo_fevers (x := x) (dr := dr) (kc := kc) (il := il) (moc _ (fun i i1 i2 i3 i4 => ?_) (fun o o1 o2 o3 o4 o5 o6 o7 o8 => ?_)) a0 ab (by omega) ?_ ?_ ?_ ?_ (fun σ2 u1 u2 u3 u4 => ?_)
  · rw [up_ne (by decide), up_ne (by decide), up_ne (by decide), up_ne (by decide), up_ne (by decide), up_ne (by decide), up_ne (by decide)]; exact n7 i i1 i2 i3 i4
  · rw [up_ne o3, up_ne o3, up_ne o8, up_ne o8, up_ne o7, up_ne o7, up_ne o5]; exact n10 o o1 o2 o3 o4 o5 o6 o7 o8
  · rw [up_ne (by decide), up_ne (by decide), up_ne (by decide), up_ne (by decide), up_ne (by decide), up_ne (by decide), up_ne (by decide)]; exact n4.1
  · rw [up_ne (by decide), up_ne (by decide), up_ne (by decide), up_ne (by decide), up_ne (by decide), up_ne (by decide), up_ne (by decide)]; exact n4.2
  · rw [up_ne (by decide), up_ne (by decide), up_ne (by decide), up_ne (by decide), up_ne (by decide), up_ne (by decide), up_ne (by decide), n7 39 (by decide) (by decide) (by decide) (by decide)]; exact hdr
  · rw [up_ne (by decide), up_ne (by decide), up_ne (by decide), up_ne (by decide), up_ne (by decide), up_ne (by decide), up_ne (by decide), n7 41 (by decide) (by decide) (by decide) (by decide)]; exact hkc
  show Wx g y_Mo_shake Z K 94 [vR 174, vI a, vI b, vI h, vU, vU] [] σ2
  refine sN Z _ _ σ2 ⟨⟨⟨?_, ?_⟩, ?_, ⟨u1, u2⟩, ?_⟩, fun p p0 p1 => ⟨⟨?_, ?_⟩, ?_, ?_, ?_⟩, fun i i1 i2 i3 i4 => ?_, fun j hj => ⟨?_, ?_⟩, fun j hj => ⟨?_, ?_⟩, fun o o1 o2 o3 o4 o5 o6 o7 o8 => ?_⟩
  · rw [u4 185 (by decide), up_ne (by decide), up_ne (by decide), up_ne (by decide), up_ne (by decide), up_ne (by decide), up_ne (by decide), up_s]; rfl
  · rw [u4 186 (by decide), up_ne (by decide), up_ne (by decide), up_ne (by decide), up_ne (by decide), up_ne (by decide), up_ne (by decide), up_ne (by decide)]; exact n2
  · rw [u3 36 (by decide) (by decide), up_ne (by decide), up_ne (by decide), up_ne (by decide), up_ne (by decide), up_ne (by decide), up_ne (by decide), up_ne (by decide)]; exact n3
  · rw [u3 52 (by decide) (by decide), up_ne (by decide), up_ne (by decide), up_ne (by decide), up_ne (by decide), up_ne (by decide), up_ne (by decide), up_ne (by decide)]; exact n5
  · rw [u4 180 (by decide), up_ne (by decide), up_ne (by decide), up_ne (by decide), up_ne (by decide), up_ne (by decide), up_ne (by decide), up_ne (by decide)]; exact (n6 p p0 p1).1.1
  · rw [u4 192 (by decide), up_ne (by decide), up_ne (by decide), up_ne (by decide), up_ne (by decide), met_cnt hl a0 ab (by omega) p]
    by_cases z : p = b
    · rw [if_pos (Or.inr z), z, up_s]; omega
    · rw [up_ni (Ne.symm z)]
      by_cases w : p = a
      · rw [if_pos (Or.inl w), w, up_s]; omega
      · rw [if_neg (by omega), up_ni (Ne.symm w), up_ne (by decide), (n6 p p0 p1).1.2]; omega
  · rw [u4 194 (by decide), up_ne (by decide), up_ne (by decide)]
    have mm := met_msk (x := x) (n6 p p0 p1).2.1 a0 ab (show b < 8 by omega)
    show Msk 8 _ (metB ((a, b, x) :: (evs ++ cum)) p)
    by_cases z : p = b
    · rw [z, up_s, ← z]
      have := mm.2.1 z
      rw [z] at this ⊢
      exact this
    · rw [up_ni (Ne.symm z)]
      by_cases w : p = a
      · rw [w, up_s, ← w]
        have := mm.1 w
        rw [w] at this ⊢
        exact this
      · rw [up_ni (Ne.symm w), up_ne (by decide), up_ne (by decide), up_ne (by decide)]
        exact mm.2.2 w z
  · rw [u4 183 (by decide)]
    have mm := met_msk (x := x) (n6 p p0 p1).2.2.1 a0 ab (show b < 8 by omega)
    by_cases z : p = b
    · rw [z, up_s, ← z]
      have := mm.2.1 z
      rw [z] at this ⊢
      exact this
    · rw [up_ni (by omega)]
      by_cases w : p = a
      · rw [w, up_s, ← w]
        have := mm.1 w
        rw [w] at this ⊢
        exact this
      · rw [up_ni (by omega), up_ne (by decide), up_ne (by decide), up_ne (by decide), up_ne (by decide), up_ne (by decide)]
        exact mm.2.2 w z
  · rw [u4 184 (by decide), up_ne (by decide), up_ne (by decide), up_ne (by decide), up_ne (by decide), up_ne (by decide), up_ne (by decide), up_ne (by decide)]; exact (n6 p p0 p1).2.2.2
  · rw [u3 i i2 i3, up_ne (by decide), up_ne (by decide), up_ne (by decide), up_ne (by decide), up_ne (by decide), up_ne (by decide), up_ne (by decide)]; exact n7 i i1 i2 i3 i4
  · rw [u4 183 (by decide), up_ni (by omega), up_ni (by omega), up_ne (by decide), up_ne (by decide), up_ne (by decide), up_ne (by decide), up_ne (by decide)]; exact (n8 j hj).1
  · rw [u4 184 (by decide), up_ne (by decide), up_ne (by decide), up_ne (by decide), up_ne (by decide), up_ne (by decide), up_ne (by decide), up_ne (by decide)]; exact (n8 j hj).2
  · rw [u4 185 (by decide), up_ne (by decide), up_ne (by decide), up_ne (by decide), up_ne (by decide), up_ne (by decide), up_ne (by decide), up_ni (Ne.symm hj)]; exact (n9 j hj).1
  · rw [u4 186 (by decide), up_ne (by decide), up_ne (by decide), up_ne (by decide), up_ne (by decide), up_ne (by decide), up_ne (by decide), up_ne (by decide)]; exact (n9 j hj).2
  · rw [u4 o o1, up_ne o3, up_ne o3, up_ne o8, up_ne o8, up_ne o7, up_ne o7, up_ne o5]; exact n10 o o1 o2 o3 o4 o5 o6 o7 o8
