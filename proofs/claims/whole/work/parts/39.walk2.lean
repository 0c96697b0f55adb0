/-! searches: the best walk -/
/-- the first place of the most -/
def mxN (f : Nat → Int) : Nat → Int × Int
  | 0 => (-1, -1)
  | n + 1 => if (mxN f n).2 < f n then ((n : Int), f n) else mxN f n
theorem mxN_in (f : Nat → Int) : ∀ n : Nat, -1 ≤ (mxN f n).1 ∧ (mxN f n).1 < n ∧ -1 ≤ (mxN f n).2
  | 0 => ⟨(by decide : (-1 : Int) ≤ -1), (by decide : (-1 : Int) < 0), (by decide : (-1 : Int) ≤ -1)⟩
  | n + 1 => by
    have := mxN_in f n
    simp only [mxN]
    split
    · simp; omega
    · omega
def wkF (t : Int → Int) (p : Int) (h m : Nat) (n : Nat) : Int := if wlk t n m (wlk0 t p h) m = -1 then -1 else brE (walC t p h m n) p
theorem sp_Tr_findWalk {g : xG} {K : Option MV → xS → Prop} {σ : xS} {o : Nat} {t : Int → Int} {p : Int} {h m : Nat} (ho : IsTw o) (hT : TownOk t) (hR : TownR σ o t) (p0 : 0 ≤ p) (p1 : p < t 6) (hm0 : 1 ≤ m) (hm : m ≤ 4) (hh : (h : Int) + m ≤ t 3) (k : ∀ σ' : xS, σ' 170 0 = (mxN (wkF t p h m) (5 ^ m)).2 → σ' 170 1 = (mxN (wkF t p h m) (5 ^ m)).1 → TrF σ' σ → K none σ') : Mt g y_Tr_findWalk [vR 169, vR o, vI p, vI (h : Int), vI (m : Int)] σ K := by
  have hC := cfg_ok hT
  have hH := cH_eq hC
  have e3 : cS (cfg t) 1 = t 3 := rfl
  have hst : (stV.getD 0 []).getD (m : Int).toNat 0 = ((5 ^ m : Nat) : Int) := by
    rcases (show m = 1 ∨ m = 2 ∨ m = 3 ∨ m = 4 by omega) with e | e | e | e <;> rw [e] <;> rfl
  have hN : 5 ^ m ≤ 625 := by
    rcases (show m = 1 ∨ m = 2 ∨ m = 3 ∨ m = 4 by omega) with e | e | e | e <;> rw [e] <;> decide
  have hlen : (m : Int) < ((stV.getD 0 []).length : Int) := by
    have : (stV.getD 0 []).length = 5 := rfl
    rw [this]
    omega
  generalize 5 ^ m = N at hst hN k
  have lp : ∀ (Z : xZ) (d i : Nat) (σ1 : xS) (f : Int → Int → Int) (w6 : MV), i + d = N → PlanR σ1 (mWh (cfg t) f) → WkF t p h m f → RunS σ1 143 (cfg t) 0 (cH (cfg t)) → σ1 170 0 = (mxN (wkF t p h m) i).2 → σ1 170 1 = (mxN (wkF t p h m) i).1 → TrF σ1 σ → Wx g y_Tr_findWalk Z K 16 [vR 169, vR o, vI p, vI (h : Int), vI (m : Int), vI (i : Int), w6] [] σ1 := by
    intro Z d
    induction d with
    | zero =>
      intro i σ1 f w6 hn hp hf R f0 f1 F
      have e : i = N := by omega
      subst e
      refine x_iload (dat d_Tr_findWalk 11 rfl) rfl ?_
      refine x_if_lt (tgt := 108) (dat d_Tr_findWalk 12 rfl) (by decide) (fun c_18 => (by omega)) (fun c_18 => ?_)
      refine x_iload (dat d_Tr_findWalk 13 rfl) rfl ?_
      refine x_getsN (dat d_Tr_findWalk 14 rfl) rfl ?_
      refine x_stlen (q := 0) (n := 5) (dat d_Tr_findWalk 15 rfl) (by decide) rfl (by decide) ?_
      refine x_icmp_ge (tgt := 108) (dat d_Tr_findWalk 16 rfl) (by decide) (fun c_27 => (by omega)) (fun c_27 => ?_)
      refine x_iload (dat d_Tr_findWalk 17 rfl) rfl ?_
      refine x_getsN (dat d_Tr_findWalk 18 rfl) rfl ?_
      refine x_iload (dat d_Tr_findWalk 19 rfl) rfl ?_
      refine x_stald (q := 0) (v := (i : Int)) (dat d_Tr_findWalk 20 rfl) (by decide) (by omega) (by exact hlen) (by exact hst) (by omega) ?_
      refine x_icmp_ge (tgt := 108) (dat d_Tr_findWalk 21 rfl) (by decide) (fun c_38 => ?_) (fun c_38 => (by omega))
      refine x_ret (dat d_Tr_findWalk 57 rfl) rfl ?_
      exact k _ f0 f1 F
    | succ d ih =>
      intro i σ1 f w6 hn hp hf R f0 f1 F
      have hok : CfOk (walC t p h m i) := hC.whr _
      have st : mxN (wkF t p h m) (i + 1) = if (mxN (wkF t p h m) i).2 < wkF t p h m i then ((i : Int), wkF t p h m i) else mxN (wkF t p h m) i := rfl
      have hi := mxN_in (wkF t p h m) i
      have hwf : wkF t p h m i = if wlk t i m (wlk0 t p h) m = -1 then -1 else brE (walC t p h m i) p := rfl
      have nx := fun σ' f' w' => ih (i + 1) σ' f' w' (by omega)
      have ag : Agr (cfg t) (walC t p h m i) h := Agr.wh (fun h' q hh' => by rw [if_neg (fun w => by omega)]; rfl)
      generalize mxN (wkF t p h m) i = q at st hi f0 f1
      refine x_iload (dat d_Tr_findWalk 11 rfl) rfl ?_
      refine x_if_lt (tgt := 108) (dat d_Tr_findWalk 12 rfl) (by decide) (fun c_18 => (by omega)) (fun c_18 => ?_)
      refine x_iload (dat d_Tr_findWalk 13 rfl) rfl ?_
      refine x_getsN (dat d_Tr_findWalk 14 rfl) rfl ?_
      refine x_stlen (q := 0) (n := 5) (dat d_Tr_findWalk 15 rfl) (by decide) rfl (by decide) ?_
      refine x_icmp_ge (tgt := 108) (dat d_Tr_findWalk 16 rfl) (by decide) (fun c_27 => (by omega)) (fun c_27 => ?_)
      refine x_iload (dat d_Tr_findWalk 17 rfl) rfl ?_
      refine x_getsN (dat d_Tr_findWalk 18 rfl) rfl ?_
      refine x_iload (dat d_Tr_findWalk 19 rfl) rfl ?_
      refine x_stald (q := 0) (v := (N : Int)) (dat d_Tr_findWalk 20 rfl) (by decide) (by omega) (by exact hlen) (by exact hst) (by omega) ?_
      refine x_icmp_ge (tgt := 108) (dat d_Tr_findWalk 21 rfl) (by decide) (fun c_38 => (by omega)) (fun c_38 => ?_)
      refine x_aload_n (dat d_Tr_findWalk 22 rfl) rfl rfl ?_
      refine x_aload_n (dat d_Tr_findWalk 23 rfl) rfl rfl ?_
      refine x_iload_n (dat d_Tr_findWalk 24 rfl) rfl rfl ?_
      refine x_iload_n (dat d_Tr_findWalk 25 rfl) rfl rfl ?_
      refine x_iload (dat d_Tr_findWalk 26 rfl) rfl ?_
      refine x_iload (dat d_Tr_findWalk 27 rfl) rfl ?_
      refine x_inv (As := [vR o, vI p, vI (h : Int), vI (m : Int), vI (i : Int)]) (dat d_Tr_findWalk 28 rfl) rfl c_Tr_goWalk l_Tr_109 (by decide) (rv_tr (by decide +kernel)) rfl rfl (Nat.le_of_ble_eq_true rfl) ?_
      refine sp_Tr_goWalk ho hT (F.town ho hR) p0 p1 hm0 hm hh (by omega) hp hf (fun σ2 hv hp2 F2 => ?_) (fun σ2 f2 hv hp2 hf2 F2 => ?_)
      · show Wx g y_Tr_findWalk Z K 52 [vR 169, vR o, vI p, vI (h : Int), vI (m : Int), vI (i : Int), w6] [vI 1] σ2
        refine x_if_eq (tgt := 102) (dat d_Tr_findWalk 29 rfl) (by decide) (fun h => absurd h (by decide)) (fun c_52 => ?_)
        refine x_aload_n (dat d_Tr_findWalk 30 rfl) rfl rfl ?_
        refine x_getr (r := 156) (dat d_Tr_findWalk 31 rfl) rfl f_Tr_23 (or_mk (by decide +kernel)) ?_
        refine x_aload_n (dat d_Tr_findWalk 32 rfl) rfl rfl ?_
        refine x_getr (r := 138) (dat d_Tr_findWalk 33 rfl) rfl f_Tr_15 (or_mk (by decide +kernel)) ?_
        refine x_aload_n (dat d_Tr_findWalk 34 rfl) rfl rfl ?_
        refine x_getr (r := 143) (dat d_Tr_findWalk 35 rfl) rfl f_Tr_19 (or_mk (by decide +kernel)) ?_
        refine x_iload_n (dat d_Tr_findWalk 36 rfl) rfl rfl ?_
        refine x_inv (As := [vR 138, vR 143, vI (h : Int)]) (dat d_Tr_findWalk 37 rfl) rfl c_Ru_go l_Tr_32 (by decide) (rv_ru (by decide +kernel)) rfl rfl (Nat.le_of_ble_eq_true rfl) ?_
        refine sp_Ru_goF (C := walC t p h m i) ru_156 ru_143 (by decide) hok hp2 (by show (h : Int) < t 3; omega) (base_hE hC (R.same (σ' := σ2) (fun b _ _ => F2 b (by omega))) ag (by omega)) (fun σ3 R3 F3 => ?_)
        have R4 : RunS σ3 143 (cfg t) 0 (cH (cfg t)) := R.same (fun b _ _ => by rw [F3 b (by omega), F2 b (by omega)])
        have hp3 := hp2.same (σ' := σ3) (fun b _ _ => F3 b (by omega))
        have g0 : σ3 170 0 = q.2 := by rw [F3 170 (by omega), F2 170 (by decide)]; exact f0
        have g1 : σ3 170 1 = q.1 := by rw [F3 170 (by omega), F2 170 (by decide)]; exact f1
        have Fx : TrF σ3 σ := fun b hb => by rw [F3 b (by omega), F2 b (by omega)]; exact F b hb
        rw [if_neg hv] at hwf
        show Wx g y_Tr_findWalk Z K 71 [vR 169, vR o, vI p, vI (h : Int), vI (m : Int), vI (i : Int), w6] [] σ3
        refine x_aload_n (dat d_Tr_findWalk 38 rfl) rfl rfl ?_
        refine x_getr (r := 156) (dat d_Tr_findWalk 39 rfl) rfl f_Tr_23 (or_mk (by decide +kernel)) ?_
        refine x_iload_n (dat d_Tr_findWalk 40 rfl) rfl rfl ?_
        refine x_inv (As := [vI p]) (dat d_Tr_findWalk 41 rfl) rfl c_Ru_breadAtEnd l_Tr_113 (by decide) (rv_ru (by decide +kernel)) rfl rfl (Nat.le_of_ble_eq_true rfl) ?_
        refine sp_Ru_breadAtEnd (f := h) ru_156 hok R3 (by show h < (t 3).toNat; omega) p0 (by show p < t 6; omega) ?_
        rw [← hwf]
        show Wx g y_Tr_findWalk Z K 79 [vR 169, vR o, vI p, vI (h : Int), vI (m : Int), vI (i : Int), w6] [vI (wkF t p h m i)] σ3
        refine x_istore (L' := [vR 169, vR o, vI p, vI (h : Int), vI (m : Int), vI (i : Int), vI (wkF t p h m i)]) (dat d_Tr_findWalk 42 rfl) (by decide) rfl rfl ?_
        refine x_iload (dat d_Tr_findWalk 43 rfl) rfl ?_
        refine x_aload_n (dat d_Tr_findWalk 44 rfl) rfl rfl ?_
        refine x_getr (r := 170) (dat d_Tr_findWalk 45 rfl) rfl f_Tr_9 (or_mk (by decide +kernel)) ?_
        refine x_iconst (dat d_Tr_findWalk 46 rfl) (by decide) ?_
        refine x_iald (n := 4) (v := q.2) (dat d_Tr_findWalk 47 rfl) (ai_mk (by decide +kernel)) (by omega) (by omega) (g0) ?_
        refine x_icmp_le (tgt := 102) (dat d_Tr_findWalk 48 rfl) (by decide) (fun c_89 => ?_) (fun c_89 => ?_)
        · refine x_iinc (v' := ((i + 1 : Nat) : Int)) (L' := [vR 169, vR o, vI p, vI (h : Int), vI (m : Int), vI ((i + 1 : Nat) : Int), vI (wkF t p h m i)]) (dat d_Tr_findWalk 55 rfl) rfl (by decide) rfl (by omega) (by omega) rfl ?_
          refine x_goto (tgt := 16) (dat d_Tr_findWalk 56 rfl) (by decide) ?_
          first
          | (rw [if_neg (by rw [hwf, if_pos hv]; omega)] at st
             exact nx _ _ _ hp2 hf2 (R.same (fun b _ _ => F2 b (by omega))) (by rw [st, F2 170 (by decide)]; exact f0) (by rw [st, F2 170 (by decide)]; exact f1) (fun b hb => by rw [F2 b (by omega)]; exact F b hb))
          | (rw [if_pos (by omega)] at st
             exact nx _ _ _ (hp3.same (fun b _ _ => u4.2.2.2.2 b (by omega))) (fun h2 p2 w => if_neg w) (R4.same (fun b _ _ => u4.2.2.2.2 b (by omega))) (by rw [st]; exact u4.1) (by rw [st]; exact u4.2.1) (fun b hb => by rw [u4.2.2.2.2 b (by omega)]; exact Fx b hb))
          | (rw [if_neg (by omega)] at st
             exact nx _ _ _ hp3 (fun h2 p2 w => if_neg w) R4 (by rw [st]; exact g0) (by rw [st]; exact g1) Fx)
        · refine x_aload_n (dat d_Tr_findWalk 49 rfl) rfl rfl ?_
          refine x_iload (dat d_Tr_findWalk 50 rfl) rfl ?_
          refine x_iload (dat d_Tr_findWalk 51 rfl) rfl ?_
          refine x_iconst (dat d_Tr_findWalk 52 rfl) (by decide) ?_
          refine x_iconst (dat d_Tr_findWalk 53 rfl) (by decide) ?_
          refine x_inv (As := [vI (wkF t p h m i), vI (i : Int), vI (-1), vI (-1)]) (dat d_Tr_findWalk 54 rfl) rfl c_Tr_keepFound l_Tr_77 (by decide) (rv_tr (by decide +kernel)) rfl rfl (Nat.le_of_ble_eq_true rfl) ?_
          refine sp_Tr_keepFound ?_
          have u4 := up4 σ3 170 (wkF t p h m i) i (-1) (-1)
          show Wx g y_Tr_findWalk Z K 102 [vR 169, vR o, vI p, vI (h : Int), vI (m : Int), vI (i : Int), vI (wkF t p h m i)] [] (up (up (up (up σ3 170 0 (wkF t p h m i)) 170 1 (i : Int)) 170 2 (-1)) 170 3 (-1))
          refine x_iinc (v' := ((i + 1 : Nat) : Int)) (L' := [vR 169, vR o, vI p, vI (h : Int), vI (m : Int), vI ((i + 1 : Nat) : Int), vI (wkF t p h m i)]) (dat d_Tr_findWalk 55 rfl) rfl (by decide) rfl (by omega) (by omega) rfl ?_
          refine x_goto (tgt := 16) (dat d_Tr_findWalk 56 rfl) (by decide) ?_
          first
          | (rw [if_neg (by rw [hwf, if_pos hv]; omega)] at st
             exact nx _ _ _ hp2 hf2 (R.same (fun b _ _ => F2 b (by omega))) (by rw [st, F2 170 (by decide)]; exact f0) (by rw [st, F2 170 (by decide)]; exact f1) (fun b hb => by rw [F2 b (by omega)]; exact F b hb))
          | (rw [if_pos (by omega)] at st
             exact nx _ _ _ (hp3.same (fun b _ _ => u4.2.2.2.2 b (by omega))) (fun h2 p2 w => if_neg w) (R4.same (fun b _ _ => u4.2.2.2.2 b (by omega))) (by rw [st]; exact u4.1) (by rw [st]; exact u4.2.1) (fun b hb => by rw [u4.2.2.2.2 b (by omega)]; exact Fx b hb))
          | (rw [if_neg (by omega)] at st
             exact nx _ _ _ hp3 (fun h2 p2 w => if_neg w) R4 (by rw [st]; exact g0) (by rw [st]; exact g1) Fx)
      · show Wx g y_Tr_findWalk Z K 52 [vR 169, vR o, vI p, vI (h : Int), vI (m : Int), vI (i : Int), w6] [vI 0] σ2
        refine x_if_eq (tgt := 102) (dat d_Tr_findWalk 29 rfl) (by decide) (fun c_52 => ?_) (fun h => absurd h (by decide))
        refine x_iinc (v' := ((i + 1 : Nat) : Int)) (L' := [vR 169, vR o, vI p, vI (h : Int), vI (m : Int), vI ((i + 1 : Nat) : Int), w6]) (dat d_Tr_findWalk 55 rfl) rfl (by decide) rfl (by omega) (by omega) rfl ?_
        refine x_goto (tgt := 16) (dat d_Tr_findWalk 56 rfl) (by decide) ?_
        first
        | (rw [if_neg (by rw [hwf, if_pos hv]; omega)] at st
           exact nx _ _ _ hp2 hf2 (R.same (fun b _ _ => F2 b (by omega))) (by rw [st, F2 170 (by decide)]; exact f0) (by rw [st, F2 170 (by decide)]; exact f1) (fun b hb => by rw [F2 b (by omega)]; exact F b hb))
        | (rw [if_pos (by omega)] at st
           exact nx _ _ _ (hp3.same (fun b _ _ => u4.2.2.2.2 b (by omega))) (fun h2 p2 w => if_neg w) (R4.same (fun b _ _ => u4.2.2.2.2 b (by omega))) (by rw [st]; exact u4.1) (by rw [st]; exact u4.2.1) (fun b hb => by rw [u4.2.2.2.2 b (by omega)]; exact Fx b hb))
        | (rw [if_neg (by omega)] at st
           exact nx _ _ _ hp3 (fun h2 p2 w => if_neg w) R4 (by rw [st]; exact g0) (by rw [st]; exact g1) Fx)
  refine x_enter 2 rfl rfl rfl (fun Z => ?_)
  show Wx g y_Tr_findWalk Z K 0 [vR 169, vR o, vI p, vI (h : Int), vI (m : Int), vU, vU] [] σ
  refine x_aload_n (dat d_Tr_findWalk 0 rfl) rfl rfl ?_
  refine x_aload_n (dat d_Tr_findWalk 1 rfl) rfl rfl ?_
  refine x_inv (As := [vR o]) (dat d_Tr_findWalk 2 rfl) rfl c_Tr_begin l_Tr_74 (by decide) (rv_tr (by decide +kernel)) rfl rfl (Nat.le_of_ble_eq_true rfl) ?_
  refine sp_Tr_begin ho hT hR (fun σ1 hp R F1 => ?_)
  show Wx g y_Tr_findWalk Z K 5 [vR 169, vR o, vI p, vI (h : Int), vI (m : Int), vU, vU] [] σ1
  refine x_aload_n (dat d_Tr_findWalk 3 rfl) rfl rfl ?_
  refine x_iconst (dat d_Tr_findWalk 4 rfl) (by decide) ?_
  refine x_iconst (dat d_Tr_findWalk 5 rfl) (by decide) ?_
  refine x_iconst (dat d_Tr_findWalk 6 rfl) (by decide) ?_
  refine x_iconst (dat d_Tr_findWalk 7 rfl) (by decide) ?_
  refine x_inv (As := [vI (-1), vI (-1), vI (-1), vI (-1)]) (dat d_Tr_findWalk 8 rfl) rfl c_Tr_keepFound l_Tr_77 (by decide) (rv_tr (by decide +kernel)) rfl rfl (Nat.le_of_ble_eq_true rfl) ?_
  refine sp_Tr_keepFound ?_
  have u4 := up4 σ1 170 (-1) (-1) (-1) (-1)
  show Wx g y_Tr_findWalk Z K 13 [vR 169, vR o, vI p, vI (h : Int), vI (m : Int), vU, vU] [] (up (up (up (up σ1 170 0 (-1)) 170 1 (-1)) 170 2 (-1)) 170 3 (-1))
  refine x_iconst (dat d_Tr_findWalk 9 rfl) (by decide) ?_
  refine x_istore (L' := [vR 169, vR o, vI p, vI (h : Int), vI (m : Int), vI 0, vU]) (dat d_Tr_findWalk 10 rfl) (by decide) rfl rfl ?_
  exact lp Z N 0 _ (cWh (cfg t)) _ (by omega) (hp.same (fun b _ _ => u4.2.2.2.2 b (by omega))) (fun _ _ _ => rfl) (R.same (fun b _ _ => u4.2.2.2.2 b (by omega))) u4.1 u4.2.1 (fun b hb => by rw [u4.2.2.2.2 b (by omega), F1 b (by omega)])
