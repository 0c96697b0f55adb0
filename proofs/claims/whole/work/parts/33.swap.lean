/-! searches: the swap, the miser, gloves at rest -/
/-- the first place of the least, if it is less than all before -/
def ordN (f : Nat → Int) (s0 : Int) : Nat → Int × Int
  | 0 => (-1, s0)
  | n + 1 => if f n < (ordN f s0 n).2 then ((n : Int), f n) else ordN f s0 n
theorem ordN_in (f : Nat → Int) (s0 : Int) : ∀ n : Nat, ((ordN f s0 n).1 = -1 ∨ (0 ≤ (ordN f s0 n).1 ∧ (ordN f s0 n).1 < n)) ∧ (ordN f s0 n).2 ≤ s0
  | 0 => ⟨Or.inl rfl, Int.le_refl _⟩
  | n + 1 => by
    have := ordN_in f s0 n
    simp only [ordN]
    split
    · simp; omega
    · omega
theorem ordN_skip {f : Nat → Int} {s0 : Int} (h0 : s0 ≤ 8) (i : Nat) : ∀ d : Nat, (∀ j : Nat, i ≤ j → j < i + d → (ordN f s0 i).2 ≤ f j) → ordN f s0 (i + d) = ordN f s0 i
  | 0, _ => rfl
  | d + 1, h => by
    have h1 := ordN_skip (f := f) h0 i d (fun j q0 q1 => h j q0 (by omega))
    show (if f (i + d) < (ordN f s0 (i + d)).2 then _ else ordN f s0 (i + d)) = _
    rw [h1, if_neg (by have := h (i + d) (by omega) (by omega); omega)]
def swpC (t : Int → Int) (a b : Int) : Cf := mWh (cfg t) (whSwap (cfg t) a b)
def swpF (t : Int → Int) (c : Nat) : Int := if (c : Int) / t 6 < (c : Int) % t 6 then stv (swpC t ((c : Int) / t 6) ((c : Int) % t 6)) else 9
theorem whSwap_2 (C : Cf) (a b : Int) : whSwap (mWh C (whSwap C a b)) a b = cWh C := by
  funext h p
  show (if p = a then whSwap C a b h b else if p = b then whSwap C a b h a else whSwap C a b h p) = cWh C h p
  unfold whSwap
  by_cases q1 : p = a
  · rw [if_pos q1]
    by_cases q2 : b = a
    · rw [if_pos q2, q1, q2]
    · rw [if_neg q2, if_pos rfl, q1]
  · rw [if_neg q1]
    by_cases q2 : p = b
    · rw [if_pos q2, if_pos rfl, q2]
    · rw [if_neg q2, if_neg q1, if_neg q2]
theorem swp_dm {P a b : Int} (a0 : 0 ≤ a) (b0 : 0 ≤ b) (b1 : b < P) : (a * P + b) / P = a ∧ (a * P + b) % P = b := by
  have e : a * P + b = b + P * a := by rw [Int.mul_comm]; omega
  rw [e]
  constructor
  · rw [Int.add_mul_ediv_left _ _ (by omega), Int.ediv_eq_zero_of_lt b0 b1]
    omega
  · rw [Int.add_mul_emod_self_left]
    exact Int.emod_eq_of_lt b0 b1
theorem sp_Tr_findSwap {g : xG} {K : Option MV → xS → Prop} {σ : xS} {o : Nat} {t : Int → Int} (ho : IsTw o) (hT : TownOk t) (hR : TownR σ o t) (k : ∀ (σ' : xS) (r : Int × Int), r = ordN (swpF t) (stv (cfg t)) ((t 6).toNat * (t 6).toNat) → σ' 170 0 = (if r.1 = -1 then -1 else r.1 / t 6) → (r.1 ≠ -1 → σ' 170 1 = r.1 % t 6) → σ' 170 2 = r.2 → TrF σ' σ → K (some (vI (if r.1 = -1 then 0 else 1))) σ') : Mt g y_Tr_findSwap [vR 169, vR o] σ K := by
  have hC := cfg_ok hT
  have hH := cH_eq hC
  have h6 := hT.2.2.2.2.2.2.1
  have hb0 := stv_bd hC
  obtain ⟨P, hP⟩ : ∃ P : Nat, (P : Int) = t 6 := ⟨(t 6).toNat, by omega⟩
  have hP2 : (t 6).toNat = P := by omega
  rw [hP2] at k
  let S : xS → Nat → Prop := fun σ1 i => (σ1 170 0 = (if (ordN (swpF t) (stv (cfg t)) i).1 = -1 then -1 else (ordN (swpF t) (stv (cfg t)) i).1 / t 6)) ∧ ((ordN (swpF t) (stv (cfg t)) i).1 ≠ -1 → σ1 170 1 = (ordN (swpF t) (stv (cfg t)) i).1 % t 6) ∧ σ1 170 2 = (ordN (swpF t) (stv (cfg t)) i).2
  have li : ∀ (Z : xZ) (a : Nat), a < P → (∀ (σ2 : xS) (w3 w4 : MV), PlanR σ2 (cfg t) → S σ2 ((a + 1) * P) → TrF σ2 σ → Wx g y_Tr_findSwap Z K 21 [vR 169, vR o, vI ((a + 1 : Nat) : Int), w3, w4] [] σ2) → ∀ (n b : Nat) (σ1 : xS) (w4 : MV), b + n = P → a < b → PlanR σ1 (cfg t) → S σ1 (a * P + b) → TrF σ1 σ → Wx g y_Tr_findSwap Z K 36 [vR 169, vR o, vI (a : Int), vI (b : Int), w4] [] σ1 := by
    intro Z a ha nxA n
    induction n with
    | zero =>
      intro b σ1 w4 hn hab hp HS F
      have e : b = P := by omega
      subst e
      have e0 : σ1 138 0 = (b : Int) := by rw [hP]; exact hp.1
      rw [show a * b + b = (a + 1) * b by rw [Nat.succ_mul]] at HS
      refine x_iload_n (dat d_Tr_findSwap 22 rfl) rfl rfl ?_
      refine x_aload_n (dat d_Tr_findSwap 23 rfl) rfl rfl ?_
      refine x_getr (r := 138) (dat d_Tr_findSwap 24 rfl) rfl f_Tr_15 (or_mk (by decide +kernel)) ?_
      refine x_geti (ji := 0) (v := (b : Int)) (dat d_Tr_findSwap 25 rfl) rfl f_Tr_52 (oi_mk (by decide +kernel)) (e0) ?_
      refine x_icmp_ge (tgt := 97) (dat d_Tr_findSwap 26 rfl) (by decide) (fun c_44 => ?_) (fun c_44 => (by omega))
      refine x_iinc (v' := ((a + 1 : Nat) : Int)) (L' := [vR 169, vR o, vI ((a + 1 : Nat) : Int), vI (b : Int), w4]) (dat d_Tr_findSwap 54 rfl) rfl (by decide) rfl (by omega) (by omega) rfl ?_
      refine x_goto (tgt := 21) (dat d_Tr_findSwap 55 rfl) (by decide) ?_
      exact nxA _ _ _ hp HS F
    | succ n ih =>
      intro b σ1 w4 hn hab hp HS F
      have e0 : σ1 138 0 = (P : Int) := by rw [hP]; exact hp.1
      have hok : CfOk (swpC t a b) := hC.whr _
      have hb1 := stv_bd hok
      have dm := swp_dm (P := t 6) (a := (a : Int)) (b := (b : Int)) (by omega) (by omega) (by omega)
      have ec : ((a * P + b : Nat) : Int) = (a : Int) * t 6 + b := by rw [← hP]; simp
      have hf : swpF t (a * P + b) = stv (swpC t a b) := by
        unfold swpF
        rw [ec, dm.1, dm.2, if_pos (by omega)]
      have st : ordN (swpF t) (stv (cfg t)) (a * P + (b + 1)) = if swpF t (a * P + b) < (ordN (swpF t) (stv (cfg t)) (a * P + b)).2 then (((a * P + b : Nat) : Int), swpF t (a * P + b)) else ordN (swpF t) (stv (cfg t)) (a * P + b) := rfl
      have nx := fun σ' w' => ih (b + 1) σ' w' (by omega) (by omega)
      obtain ⟨S0, S1, S2⟩ := HS
      generalize hq : ordN (swpF t) (stv (cfg t)) (a * P + b) = q at S0 S1 S2 st
      refine x_iload_n (dat d_Tr_findSwap 22 rfl) rfl rfl ?_
      refine x_aload_n (dat d_Tr_findSwap 23 rfl) rfl rfl ?_
      refine x_getr (r := 138) (dat d_Tr_findSwap 24 rfl) rfl f_Tr_15 (or_mk (by decide +kernel)) ?_
      refine x_geti (ji := 0) (v := (P : Int)) (dat d_Tr_findSwap 25 rfl) rfl f_Tr_52 (oi_mk (by decide +kernel)) (e0) ?_
      refine x_icmp_ge (tgt := 97) (dat d_Tr_findSwap 26 rfl) (by decide) (fun c_44 => (by omega)) (fun c_44 => ?_)
      refine x_aload_n (dat d_Tr_findSwap 27 rfl) rfl rfl ?_
      refine x_getr (r := 138) (dat d_Tr_findSwap 28 rfl) rfl f_Tr_15 (or_mk (by decide +kernel)) ?_
      refine x_iload_n (dat d_Tr_findSwap 29 rfl) rfl rfl ?_
      refine x_iload_n (dat d_Tr_findSwap 30 rfl) rfl rfl ?_
      refine x_inv (As := [vI (a : Int), vI (b : Int)]) (dat d_Tr_findSwap 31 rfl) rfl c_Pl_change l_Tr_138 (by decide) (rv_pl (by decide +kernel)) rfl rfl (Nat.le_of_ble_eq_true rfl) ?_
      refine sp_Pl_change hC hp (by omega) (by omega) (by show (b : Int) < t 6; omega) (fun σ2 hp2 F2 => ?_)
      show Wx g y_Tr_findSwap Z K 56 [vR 169, vR o, vI (a : Int), vI (b : Int), w4] [] σ2
      refine x_aload_n (dat d_Tr_findSwap 32 rfl) rfl rfl ?_
      refine x_inv (As := []) (dat d_Tr_findSwap 33 rfl) rfl c_Tr_starvedByPlan l_Tr_59 (by decide) (rv_tr (by decide +kernel)) rfl rfl (Nat.le_of_ble_eq_true rfl) ?_
      refine sp_Tr_starvedByPlan (C := swpC t a b) hok hp2 (fun σ3 F3 => ?_)
      have hp3 := hp2.same (σ' := σ3) (fun b _ _ => F3 b (by omega))
      have g2 : σ3 170 2 = q.2 := by rw [F3 170 (by omega), F2 170 (by decide)]; exact S2
      have g01 : σ3 170 = σ1 170 := by rw [F3 170 (by omega), F2 170 (by decide)]
      have Fx : TrF σ3 σ := fun b hb => by rw [F3 b (by omega), F2 b (by omega)]; exact F b hb
      have u4 := up4 σ3 170 a b (stv (swpC t a b)) (-1)
      have back : ∀ σ5 : xS, PlanR σ5 (mWh (swpC t a b) (whSwap (swpC t a b) a b)) → PlanR σ5 (cfg t) := fun σ5 h5 => h5.congr (fun _ => rfl) (fun _ _ _ => rfl) (fun _ _ _ _ _ => rfl) (fun _ _ _ _ _ => rfl) (fun h p _ _ _ _ => (congrFun (congrFun (whSwap_2 (cfg t) a b) h) p).symm) (fun _ _ _ => rfl)
      show Wx g y_Tr_findSwap Z K 60 [vR 169, vR o, vI (a : Int), vI (b : Int), w4] [vI (stv (swpC t a b))] σ3
      refine x_istore (L' := [vR 169, vR o, vI (a : Int), vI (b : Int), vI (stv (swpC t a b))]) (dat d_Tr_findSwap 34 rfl) (by decide) rfl rfl ?_
      refine x_iload (dat d_Tr_findSwap 35 rfl) rfl ?_
      refine x_aload_n (dat d_Tr_findSwap 36 rfl) rfl rfl ?_
      refine x_getr (r := 170) (dat d_Tr_findSwap 37 rfl) rfl f_Tr_9 (or_mk (by decide +kernel)) ?_
      refine x_iconst (dat d_Tr_findSwap 38 rfl) (by decide) ?_
      refine x_iald (n := 4) (v := q.2) (dat d_Tr_findSwap 39 rfl) (ai_mk (by decide +kernel)) (by omega) (by omega) (g2) ?_
      refine x_icmp_ge (tgt := 82) (dat d_Tr_findSwap 40 rfl) (by decide) (fun c_70 => ?_) (fun c_70 => ?_)
      · refine x_aload_n (dat d_Tr_findSwap 47 rfl) rfl rfl ?_
        refine x_getr (r := 138) (dat d_Tr_findSwap 48 rfl) rfl f_Tr_15 (or_mk (by decide +kernel)) ?_
        refine x_iload_n (dat d_Tr_findSwap 49 rfl) rfl rfl ?_
        refine x_iload_n (dat d_Tr_findSwap 50 rfl) rfl rfl ?_
        refine x_inv (As := [vI (a : Int), vI (b : Int)]) (dat d_Tr_findSwap 51 rfl) rfl c_Pl_change l_Tr_138 (by decide) (rv_pl (by decide +kernel)) rfl rfl (Nat.le_of_ble_eq_true rfl) ?_
        first
        | refine sp_Pl_change (C := swpC t a b) hok hp3 (by omega) (by omega) (by show (b : Int) < t 6; omega) (fun σ5 hp5 F5 => ?_)
        | refine sp_Pl_change (C := swpC t a b) hok (hp3.same (fun b _ _ => u4.2.2.2.2 b (by omega))) (by omega) (by omega) (by show (b : Int) < t 6; omega) (fun σ5 hp5 F5 => ?_)
        show Wx g y_Tr_findSwap Z K 91 [vR 169, vR o, vI (a : Int), vI (b : Int), vI (stv (swpC t a b))] [] σ5
        refine x_iinc (v' := ((b + 1 : Nat) : Int)) (L' := [vR 169, vR o, vI (a : Int), vI ((b + 1 : Nat) : Int), vI (stv (swpC t a b))]) (dat d_Tr_findSwap 52 rfl) rfl (by decide) rfl (by omega) (by omega) rfl ?_
        refine x_goto (tgt := 36) (dat d_Tr_findSwap 53 rfl) (by decide) ?_
        first
        | (rw [if_pos (by omega), hf] at st
           refine nx _ _ (back _ hp5) ⟨?_, fun _ => ?_, ?_⟩ (fun b hb => by rw [F5 b (by omega), u4.2.2.2.2 b (by omega)]; exact Fx b hb)
           · rw [st, F5 170 (by decide), u4.1]
             show (a : Int) = if ((a * P + b : Nat) : Int) = -1 then -1 else ((a * P + b : Nat) : Int) / t 6
             rw [if_neg (by omega), ec, dm.1]
           · rw [st, F5 170 (by decide), u4.2.1]
             show (b : Int) = ((a * P + b : Nat) : Int) % t 6
             rw [ec, dm.2]
           · rw [st, F5 170 (by decide), u4.2.2.1])
        | (rw [if_neg (by omega)] at st
           refine nx _ _ (back _ hp5) ⟨?_, ?_, ?_⟩ (fun b hb => by rw [F5 b (by omega)]; exact Fx b hb)
           · rw [st, F5 170 (by decide), g01]
             exact S0
           · rw [st, F5 170 (by decide), g01]
             exact S1
           · rw [st, F5 170 (by decide), g01]
             exact S2)
      · refine x_aload_n (dat d_Tr_findSwap 41 rfl) rfl rfl ?_
        refine x_iload_n (dat d_Tr_findSwap 42 rfl) rfl rfl ?_
        refine x_iload_n (dat d_Tr_findSwap 43 rfl) rfl rfl ?_
        refine x_iload (dat d_Tr_findSwap 44 rfl) rfl ?_
        refine x_iconst (dat d_Tr_findSwap 45 rfl) (by decide) ?_
        refine x_inv (As := [vI (a : Int), vI (b : Int), vI (stv (swpC t a b)), vI (-1)]) (dat d_Tr_findSwap 46 rfl) rfl c_Tr_keepFound l_Tr_77 (by decide) (rv_tr (by decide +kernel)) rfl rfl (Nat.le_of_ble_eq_true rfl) ?_
        refine sp_Tr_keepFound ?_
        show Wx g y_Tr_findSwap Z K 82 [vR 169, vR o, vI (a : Int), vI (b : Int), vI (stv (swpC t a b))] [] (up (up (up (up σ3 170 0 (a : Int)) 170 1 (b : Int)) 170 2 (stv (swpC t a b))) 170 3 (-1))
        refine x_aload_n (dat d_Tr_findSwap 47 rfl) rfl rfl ?_
        refine x_getr (r := 138) (dat d_Tr_findSwap 48 rfl) rfl f_Tr_15 (or_mk (by decide +kernel)) ?_
        refine x_iload_n (dat d_Tr_findSwap 49 rfl) rfl rfl ?_
        refine x_iload_n (dat d_Tr_findSwap 50 rfl) rfl rfl ?_
        refine x_inv (As := [vI (a : Int), vI (b : Int)]) (dat d_Tr_findSwap 51 rfl) rfl c_Pl_change l_Tr_138 (by decide) (rv_pl (by decide +kernel)) rfl rfl (Nat.le_of_ble_eq_true rfl) ?_
        first
        | refine sp_Pl_change (C := swpC t a b) hok hp3 (by omega) (by omega) (by show (b : Int) < t 6; omega) (fun σ5 hp5 F5 => ?_)
        | refine sp_Pl_change (C := swpC t a b) hok (hp3.same (fun b _ _ => u4.2.2.2.2 b (by omega))) (by omega) (by omega) (by show (b : Int) < t 6; omega) (fun σ5 hp5 F5 => ?_)
        show Wx g y_Tr_findSwap Z K 91 [vR 169, vR o, vI (a : Int), vI (b : Int), vI (stv (swpC t a b))] [] σ5
        refine x_iinc (v' := ((b + 1 : Nat) : Int)) (L' := [vR 169, vR o, vI (a : Int), vI ((b + 1 : Nat) : Int), vI (stv (swpC t a b))]) (dat d_Tr_findSwap 52 rfl) rfl (by decide) rfl (by omega) (by omega) rfl ?_
        refine x_goto (tgt := 36) (dat d_Tr_findSwap 53 rfl) (by decide) ?_
        first
        | (rw [if_pos (by omega), hf] at st
           refine nx _ _ (back _ hp5) ⟨?_, fun _ => ?_, ?_⟩ (fun b hb => by rw [F5 b (by omega), u4.2.2.2.2 b (by omega)]; exact Fx b hb)
           · rw [st, F5 170 (by decide), u4.1]
             show (a : Int) = if ((a * P + b : Nat) : Int) = -1 then -1 else ((a * P + b : Nat) : Int) / t 6
             rw [if_neg (by omega), ec, dm.1]
           · rw [st, F5 170 (by decide), u4.2.1]
             show (b : Int) = ((a * P + b : Nat) : Int) % t 6
             rw [ec, dm.2]
           · rw [st, F5 170 (by decide), u4.2.2.1])
        | (rw [if_neg (by omega)] at st
           refine nx _ _ (back _ hp5) ⟨?_, ?_, ?_⟩ (fun b hb => by rw [F5 b (by omega)]; exact Fx b hb)
           · rw [st, F5 170 (by decide), g01]
             exact S0
           · rw [st, F5 170 (by decide), g01]
             exact S1
           · rw [st, F5 170 (by decide), g01]
             exact S2)
  have lo : ∀ (Z : xZ) (n a : Nat) (σ1 : xS) (w3 w4 : MV), a + n = P → PlanR σ1 (cfg t) → S σ1 (a * P) → TrF σ1 σ → Wx g y_Tr_findSwap Z K 21 [vR 169, vR o, vI (a : Int), w3, w4] [] σ1 := by
    intro Z n
    induction n with
    | zero =>
      intro a σ1 w3 w4 hn hp HS F
      have e : a = P := by omega
      subst e
      have e0 : σ1 138 0 = (a : Int) := by rw [hP]; exact hp.1
      obtain ⟨S0, S1, S2⟩ := HS
      have hi := (ordN_in (swpF t) (stv (cfg t)) (a * a)).1
      have fin := k σ1 _ rfl S0 S1 S2 F
      have nn : 0 ≤ (ordN (swpF t) (stv (cfg t)) (a * a)).1 → 0 ≤ (ordN (swpF t) (stv (cfg t)) (a * a)).1 / t 6 := fun w => Int.ediv_nonneg w (by omega)
      generalize ordN (swpF t) (stv (cfg t)) (a * a) = q at hi S0 fin nn
      refine x_iload_n (dat d_Tr_findSwap 13 rfl) rfl rfl ?_
      refine x_aload_n (dat d_Tr_findSwap 14 rfl) rfl rfl ?_
      refine x_getr (r := 138) (dat d_Tr_findSwap 15 rfl) rfl f_Tr_15 (or_mk (by decide +kernel)) ?_
      refine x_geti (ji := 0) (v := (a : Int)) (dat d_Tr_findSwap 16 rfl) rfl f_Tr_52 (oi_mk (by decide +kernel)) (e0) ?_
      refine x_icmp_ge (tgt := 103) (dat d_Tr_findSwap 17 rfl) (by decide) (fun c_29 => ?_) (fun c_29 => (by omega))
      refine x_aload_n (dat d_Tr_findSwap 56 rfl) rfl rfl ?_
      refine x_getr (r := 170) (dat d_Tr_findSwap 57 rfl) rfl f_Tr_9 (or_mk (by decide +kernel)) ?_
      refine x_iconst (dat d_Tr_findSwap 58 rfl) (by decide) ?_
      refine x_iald (n := 4) (v := σ1 170 0) (dat d_Tr_findSwap 59 rfl) (ai_mk (by decide +kernel)) (by omega) (by omega) rfl ?_
      refine x_iconst (dat d_Tr_findSwap 60 rfl) (by decide) ?_
      refine x_icmp_eq (tgt := 117) (dat d_Tr_findSwap 61 rfl) (by decide) (fun c_110 => ?_) (fun c_110 => ?_)
      · refine x_iconst (dat d_Tr_findSwap 64 rfl) (by decide) ?_
        refine x_zret (dat d_Tr_findSwap 65 rfl) rfl (by decide) ?_
        first
        | (rw [if_pos (by
             rcases hi with w | w
             · exact w
             · rw [if_neg (by omega)] at S0
               have := nn w.1
               omega)] at fin
           exact fin)
        | (rw [if_neg (by
             intro w
             rw [if_pos w] at S0
             omega)] at fin
           exact fin)
      · refine x_iconst (dat d_Tr_findSwap 62 rfl) (by decide) ?_
        refine x_goto (tgt := 118) (dat d_Tr_findSwap 63 rfl) (by decide) ?_
        refine x_zret (dat d_Tr_findSwap 65 rfl) rfl (by decide) ?_
        first
        | (rw [if_pos (by
             rcases hi with w | w
             · exact w
             · rw [if_neg (by omega)] at S0
               have := nn w.1
               omega)] at fin
           exact fin)
        | (rw [if_neg (by
             intro w
             rw [if_pos w] at S0
             omega)] at fin
           exact fin)
    | succ n ih =>
      intro a σ1 w3 w4 hn hp HS F
      have e0 : σ1 138 0 = (P : Int) := by rw [hP]; exact hp.1
      have sk : ordN (swpF t) (stv (cfg t)) (a * P + (a + 1)) = ordN (swpF t) (stv (cfg t)) (a * P) := by
        refine ordN_skip (by omega) (a * P) (a + 1) (fun j q0 q1 => ?_)
        have hi := (ordN_in (swpF t) (stv (cfg t)) (a * P)).2
        obtain ⟨b, rfl⟩ : ∃ b : Nat, j = a * P + b := ⟨j - a * P, by omega⟩
        have ec : ((a * P + b : Nat) : Int) = (a : Int) * t 6 + b := by rw [← hP]; simp
        have dm := swp_dm (P := t 6) (a := (a : Int)) (b := (b : Int)) (by omega) (by omega) (by omega)
        have hs : swpF t (a * P + b) = 9 := by
          unfold swpF
          rw [ec, dm.1, dm.2, if_neg (by omega)]
        rw [hs]
        omega
      have HS2 : S σ1 (a * P + (a + 1)) := by
        show _ ∧ _ ∧ _
        rw [sk]
        exact HS
      refine x_iload_n (dat d_Tr_findSwap 13 rfl) rfl rfl ?_
      refine x_aload_n (dat d_Tr_findSwap 14 rfl) rfl rfl ?_
      refine x_getr (r := 138) (dat d_Tr_findSwap 15 rfl) rfl f_Tr_15 (or_mk (by decide +kernel)) ?_
      refine x_geti (ji := 0) (v := (P : Int)) (dat d_Tr_findSwap 16 rfl) rfl f_Tr_52 (oi_mk (by decide +kernel)) (e0) ?_
      refine x_icmp_ge (tgt := 103) (dat d_Tr_findSwap 17 rfl) (by decide) (fun c_29 => (by omega)) (fun c_29 => ?_)
      refine x_iload_n (dat d_Tr_findSwap 18 rfl) rfl rfl ?_
      refine x_iconst (dat d_Tr_findSwap 19 rfl) (by decide) ?_
      refine x_iadd (v := ((a + 1 : Nat) : Int)) (dat d_Tr_findSwap 20 rfl) (by omega) (by omega) ?_
      refine x_istore_n (L' := [vR 169, vR o, vI (a : Int), vI ((a + 1 : Nat) : Int), w4]) (dat d_Tr_findSwap 21 rfl) rfl (by decide) rfl rfl ?_
      exact li Z a (by omega) (fun σ2 w3' w4' h1 h2 h3 => ih (a + 1) σ2 w3' w4' (by omega) h1 h2 h3) (P - (a + 1)) (a + 1) σ1 _ (by omega) (by omega) hp HS2 F
  refine x_enter 3 rfl rfl rfl (fun Z => ?_)
  show Wx g y_Tr_findSwap Z K 0 [vR 169, vR o, vU, vU, vU] [] σ
  refine x_aload_n (dat d_Tr_findSwap 0 rfl) rfl rfl ?_
  refine x_aload_n (dat d_Tr_findSwap 1 rfl) rfl rfl ?_
  refine x_inv (As := [vR o]) (dat d_Tr_findSwap 2 rfl) rfl c_Tr_begin l_Tr_74 (by decide) (rv_tr (by decide +kernel)) rfl rfl (Nat.le_of_ble_eq_true rfl) ?_
  refine sp_Tr_begin ho hT hR (fun σ1 hp R F1 => ?_)
  show Wx g y_Tr_findSwap Z K 5 [vR 169, vR o, vU, vU, vU] [] σ1
  refine x_aload_n (dat d_Tr_findSwap 3 rfl) rfl rfl ?_
  refine x_iconst (dat d_Tr_findSwap 4 rfl) (by decide) ?_
  refine x_iconst (dat d_Tr_findSwap 5 rfl) (by decide) ?_
  refine x_aload_n (dat d_Tr_findSwap 6 rfl) rfl rfl ?_
  refine x_getr (r := 143) (dat d_Tr_findSwap 7 rfl) rfl f_Tr_19 (or_mk (by decide +kernel)) ?_
  refine x_inv (As := []) (dat d_Tr_findSwap 8 rfl) rfl c_Ru_starved l_Tr_38 (by decide) (rv_ru (by decide +kernel)) rfl rfl (Nat.le_of_ble_eq_true rfl) ?_
  refine sp_Ru_starved ru_143 hC R (by omega) ?_
  show Wx g y_Tr_findSwap Z K 15 [vR 169, vR o, vU, vU, vU] [vI (stv (cfg t)), vI (-1), vI (-1), vR 169] σ1
  refine x_iconst (dat d_Tr_findSwap 9 rfl) (by decide) ?_
  refine x_inv (As := [vI (-1), vI (-1), vI (stv (cfg t)), vI (-1)]) (dat d_Tr_findSwap 10 rfl) rfl c_Tr_keepFound l_Tr_77 (by decide) (rv_tr (by decide +kernel)) rfl rfl (Nat.le_of_ble_eq_true rfl) ?_
  refine sp_Tr_keepFound ?_
  have u4 := up4 σ1 170 (-1) (-1) (stv (cfg t)) (-1)
  show Wx g y_Tr_findSwap Z K 19 [vR 169, vR o, vU, vU, vU] [] (up (up (up (up σ1 170 0 (-1)) 170 1 (-1)) 170 2 (stv (cfg t))) 170 3 (-1))
  refine x_iconst (dat d_Tr_findSwap 11 rfl) (by decide) ?_
  refine x_istore_n (L' := [vR 169, vR o, vI 0, vU, vU]) (dat d_Tr_findSwap 12 rfl) rfl (by decide) rfl rfl ?_
  refine lo Z P 0 _ _ _ (by omega) (hp.same (fun b _ _ => u4.2.2.2.2 b (by omega))) ?_ (fun b hb => by rw [u4.2.2.2.2 b (by omega), F1 b (by omega)])
  rw [Nat.zero_mul]
  exact ⟨u4.1, fun w => absurd rfl w, u4.2.2.1⟩
