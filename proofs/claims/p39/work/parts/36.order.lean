/-! searches: the best order -/
theorem ordN_le {f : Nat → Int} {s0 : Int} : ∀ (i j : Nat), j < i → (ordN f s0 i).2 ≤ f j
  | 0, j, h => by omega
  | i + 1, j, h => by
    by_cases e : j = i
    · subst e
      simp only [ordN]
      split
      · exact Int.le_refl _
      · omega
    · have h1 := ordN_le (f := f) (s0 := s0) i j (by omega)
      simp only [ordN]
      split
      · show f i ≤ f j
        omega
      · exact h1
def sndC (t : Int → Int) (h p c : Int) : Cf := mWh (cfg t) (whSend (cfg t) h p c)
theorem snd_snd (t : Int → Int) (h p x c : Int) : mWh (sndC t h p x) (whSend (sndC t h p x) h p c) = sndC t h p c := by
  have e : whSend (sndC t h p x) h p c = whSend (cfg t) h p c := by
    funext h2 p2
    show (if h2 = h ∧ p2 = p then c else if h2 = h ∧ p2 = p then x else cWh (cfg t) h2 p2) = if h2 = h ∧ p2 = p then c else cWh (cfg t) h2 p2
    split <;> rfl
  unfold sndC at e ⊢
  rw [e]
  rfl
theorem snd_own (t : Int → Int) (h p : Int) : sndC t h p (cellT t p h) = cfg t := by
  have e : whSend (cfg t) h p (cellT t p h) = cWh (cfg t) := by
    funext h2 p2
    show (if h2 = h ∧ p2 = p then cellT t p h else cellT t p2 h2) = cellT t p2 h2
    split
    · rename_i w
      rw [w.1, w.2]
    · rfl
  unfold sndC
  rw [e]
  rfl
def alnT (t : Int → Int) (h p c : Int) : Prop := ∀ q : Int, 0 ≤ q → q < t 6 → q ≠ p → cellT t q h ≠ c
theorem alone_eq {t : Int → Int} (hT : TownOk t) {h p c c2 : Int} (h1 : alnT t h p c) (h2 : alnT t h p c2) : stv (sndC t h p c2) = stv (sndC t h p c) := by
  have hC := cfg_ok hT
  refine Agr.sV (C := sndC t h p c) (C' := sndC t h p c2) ⟨fun _ _ => rfl, rfl, rfl, rfl, fun _ _ _ => rfl, fun h' al a b hh a0 ab b1 => ?_⟩ hC.1
  have b1 : b < t 6 := b1
  show (al a && al b && opT t 0 a b && decide ((if (h' : Int) = h ∧ a = p then c2 else cellT t a h') = (if (h' : Int) = h ∧ b = p then c2 else cellT t b h'))) = (al a && al b && opT t 0 a b && decide ((if (h' : Int) = h ∧ a = p then c else cellT t a h') = (if (h' : Int) = h ∧ b = p then c else cellT t b h')))
  congr 1
  apply decide_eq_decide.mpr
  by_cases e : (h' : Int) = h
  · by_cases ea : a = p
    · have n1 := h1 b (by omega) b1 (by omega)
      have n2 := h2 b (by omega) b1 (by omega)
      rw [if_pos ⟨e, ea⟩, if_neg (fun w => by omega), if_pos ⟨e, ea⟩, if_neg (fun w => by omega), e]
      constructor
      · intro w; exact absurd w.symm n2
      · intro w; exact absurd w.symm n1
    · by_cases eb : b = p
      · have n1 := h1 a (by omega) (by omega) ea
        have n2 := h2 a (by omega) (by omega) ea
        rw [if_neg (fun w => ea w.2), if_pos ⟨e, eb⟩, if_neg (fun w => ea w.2), if_pos ⟨e, eb⟩, e]
        constructor
        · intro w; exact absurd w n2
        · intro w; exact absurd w n1
      · rw [if_neg (fun w => ea w.2), if_neg (fun w => eb w.2), if_neg (fun w => ea w.2), if_neg (fun w => eb w.2)]
  · rw [if_neg (fun w => e w.1), if_neg (fun w => e w.1), if_neg (fun w => e w.1), if_neg (fun w => e w.1)]
def ordF (t : Int → Int) (i : Nat) : Int := stv (sndC t ((i : Int) / (t 0 * t 1) / t 6) ((i : Int) / (t 0 * t 1) % t 6) ((i : Int) % (t 0 * t 1)))
/-- what is found of the best order among the first i -/
def OrdS (t : Int → Int) (σ : xS) (i : Nat) : Prop :=
  σ 170 0 = (if (ordN (ordF t) (stv (cfg t)) i).1 = -1 then -1 else (ordN (ordF t) (stv (cfg t)) i).1 / (t 0 * t 1) / t 6) ∧
  ((ordN (ordF t) (stv (cfg t)) i).1 ≠ -1 → σ 170 1 = (ordN (ordF t) (stv (cfg t)) i).1 / (t 0 * t 1) % t 6 ∧ σ 170 2 = (ordN (ordF t) (stv (cfg t)) i).1 % (t 0 * t 1)) ∧
  σ 170 3 = (ordN (ordF t) (stv (cfg t)) i).2
theorem OrdS.eq {t : Int → Int} {σ σ' : xS} {i j : Nat} (h : OrdS t σ i) (e : σ' 170 = σ 170) (en : ordN (ordF t) (stv (cfg t)) j = ordN (ordF t) (stv (cfg t)) i) : OrdS t σ' j := by
  unfold OrdS at h ⊢
  rw [e, en]
  exact h
theorem sp_Tr_tryCells {g : xG} {K : Option MV → xS → Prop} {σ : xS} {o : Nat} {t : Int → Int} {h p M P : Nat} (ho : IsTw o) (hT : TownOk t) (hR : TownR σ o t) (hM : (M : Int) = t 0 * t 1) (hP : (P : Int) = t 6) (hh : (h : Int) < t 3) (hp1 : p < P) (hp : PlanR σ (cfg t)) (R : RunS σ 143 (cfg t) 0 (cH (cfg t))) (HS : OrdS t σ ((h * P + p) * M)) (k : ∀ σ' : xS, PlanR σ' (cfg t) → RunS σ' 143 (cfg t) 0 (cH (cfg t)) → OrdS t σ' ((h * P + p) * M + M) → TrF σ' σ → K none σ') : Mt g y_Tr_tryCells [vR 169, vR o, vI (h : Int), vI (p : Int)] σ K := by
  have hC := cfg_ok hT
  have hH := cH_eq hC
  have h6 := hT.2.2.2.2.2.2.1
  have h3 := hT.2.2.2.1
  have hcb := cells_bd hT
  have e3 : cS (cfg t) 1 = t 3 := rfl
  have hb0 := stv_bd hC
  have lp : ∀ (Z : xZ) (n c : Nat) (σ1 : xS) (x tr : Int) (w7 : MV), c + n = M → PlanR σ1 (sndC t h p x) → RunS σ1 143 (cfg t) 0 (cH (cfg t)) → OrdS t σ1 ((h * P + p) * M + c) → TrF σ1 σ → (tr = 0 ∨ tr = 1) → (tr = 1 → ∃ c2 : Nat, c2 < c ∧ alnT t h p c2) → Wx g y_Tr_tryCells Z K 14 [vR 169, vR o, vI (h : Int), vI (p : Int), vI (cellT t p h), vI tr, vI (c : Int), w7] [] σ1 := by
    intro Z n
    induction n with
    | zero =>
      intro c σ1 x tr w7 hn hpx R1 HS1 F htr hal
      have e : c = M := by omega
      subst e
      have r0 : σ1 o 0 = t 0 := (F.town ho hR).1 0 (by decide) (by decide)
      have r1 : σ1 o 1 = t 1 := (F.town ho hR).1 1 (by decide) (by decide)
      have hp2 := hpx.send (h := (h : Int)) (p := (p : Int)) (c := cellT t p h) (by omega) (by omega) (by omega) h6.2
      rw [snd_snd, snd_own] at hp2
      refine x_iload (dat d_Tr_tryCells 9 rfl) rfl ?_
      refine x_aload_n (dat d_Tr_tryCells 10 rfl) rfl rfl ?_
      refine x_geti (ji := 0) (v := t 0) (dat d_Tr_tryCells 11 rfl) rfl f_Tr_92 (tw_oi_0 ho) (r0) ?_
      refine x_aload_n (dat d_Tr_tryCells 12 rfl) rfl rfl ?_
      refine x_geti (ji := 1) (v := t 1) (dat d_Tr_tryCells 13 rfl) rfl f_Tr_95 (tw_oi_1 ho) (r1) ?_
      refine x_imul (v := (c : Int)) (dat d_Tr_tryCells 14 rfl) (by exact hM.symm) (by omega) ?_
      refine x_icmp_ge (tgt := 137) (dat d_Tr_tryCells 15 rfl) (by decide) (fun c_25 => ?_) (fun c_25 => (by omega))
      refine x_aload_n (dat d_Tr_tryCells 70 rfl) rfl rfl ?_
      refine x_getr (r := 138) (dat d_Tr_tryCells 71 rfl) rfl f_Tr_15 (or_mk (by decide +kernel)) ?_
      refine x_iload_n (dat d_Tr_tryCells 72 rfl) rfl rfl ?_
      refine x_iload_n (dat d_Tr_tryCells 73 rfl) rfl rfl ?_
      refine x_iload (dat d_Tr_tryCells 74 rfl) rfl ?_
      refine x_inv (As := [vI (h : Int), vI (p : Int), vI (cellT t p h)]) (dat d_Tr_tryCells 75 rfl) rfl c_Pl_send l_Tr_102 (by decide) (rv_pl (by decide +kernel)) rfl rfl (Nat.le_of_ble_eq_true rfl) ?_
      refine sp_Pl_send (by omega) (by omega) (by omega) (by omega) ?_
      show Wx g y_Tr_tryCells Z K 148 [vR 169, vR o, vI (h : Int), vI (p : Int), vI (cellT t p h), vI tr, vI (c : Int), w7] [] (up σ1 142 (8 * (h : Int) + (p : Int)) (cellT t p h))
      refine x_ret (dat d_Tr_tryCells 76 rfl) rfl ?_
      exact k _ hp2 (R1.same (fun b _ _ => up_ne (by omega))) (HS1.eq (up_ne (by decide)) rfl) (fun b hb => by rw [up_ne (by omega)]; exact F b hb)
    | succ n ih =>
      intro c σ1 x tr w7 hn hpx R1 HS1 F htr hal
      have r0 : σ1 o 0 = t 0 := (F.town ho hR).1 0 (by decide) (by decide)
      have r1 : σ1 o 1 = t 1 := (F.town ho hR).1 1 (by decide) (by decide)
      have hok : CfOk (sndC t h p c) := hC.whr _
      have hb1 := stv_bd hok
      have d1 := swp_dm (P := t 0 * t 1) (a := ((h * P + p : Nat) : Int)) (b := (c : Int)) (by omega) (by omega) (by omega)
      have d2 := swp_dm (P := t 6) (a := (h : Int)) (b := (p : Int)) (by omega) (by omega) (by omega)
      have dec : ∀ c2 : Nat, c2 < M → ordF t ((h * P + p) * M + c2) = stv (sndC t h p c2) := by
        intro c2 hc2
        have d3 := swp_dm (P := t 0 * t 1) (a := ((h * P + p : Nat) : Int)) (b := (c2 : Int)) (by omega) (by omega) (by omega)
        have ec : (((h * P + p) * M + c2 : Nat) : Int) = ((h * P + p : Nat) : Int) * (t 0 * t 1) + c2 := by rw [← hM]; simp
        have ec2 : ((h * P + p : Nat) : Int) = (h : Int) * t 6 + p := by rw [← hP]; simp
        unfold ordF
        rw [ec, d3.1, d3.2, ec2, d2.1, d2.2]
      have hf := dec c (by omega)
      have ec : (((h * P + p) * M + c : Nat) : Int) = ((h * P + p : Nat) : Int) * (t 0 * t 1) + c := by rw [← hM]; simp
      have ec2 : ((h * P + p : Nat) : Int) = (h : Int) * t 6 + p := by rw [← hP]; simp
      have hle := fun j => ordN_le (f := ordF t) (s0 := stv (cfg t)) ((h * P + p) * M + c) j
      have hi := (ordN_in (ordF t) (stv (cfg t)) ((h * P + p) * M + c)).2
      have st : ordN (ordF t) (stv (cfg t)) ((h * P + p) * M + (c + 1)) = if ordF t ((h * P + p) * M + c) < (ordN (ordF t) (stv (cfg t)) ((h * P + p) * M + c)).2 then ((((h * P + p) * M + c : Nat) : Int), ordF t ((h * P + p) * M + c)) else ordN (ordF t) (stv (cfg t)) ((h * P + p) * M + c) := rfl
      have f3 := HS1.2.2
      have cw : ∀ q : Int, q ≠ p → cWh (sndC t h p x) h q = cellT t q h := by
        intro q hq
        show (if (h : Int) = h ∧ q = p then x else cellT t q h) = cellT t q h
        rw [if_neg (fun w => hq w.2)]
      have skp : ¬ stv (sndC t h p c) < (ordN (ordF t) (stv (cfg t)) ((h * P + p) * M + c)).2 → ∀ (tr' : Int) (w7' : MV), (tr' = 0 ∨ tr' = 1) → (tr' = 1 → ∃ c2 : Nat, c2 < c + 1 ∧ alnT t h p c2) → Wx g y_Tr_tryCells Z K 14 [vR 169, vR o, vI (h : Int), vI (p : Int), vI (cellT t p h), vI tr', vI ((c + 1 : Nat) : Int), w7'] [] σ1 := by
        intro hx tr' w7' q1 q2
        rw [hf, if_neg hx] at st
        exact ih (c + 1) σ1 x tr' w7' (by omega) hpx R1 (HS1.eq rfl st) F q1 q2
      have ag : Agr (cfg t) (sndC t h p c) h := Agr.wh (fun h' q hh' => by unfold whSend; rw [if_neg (fun w => by omega)])
      have hp2 := hpx.send (h := (h : Int)) (p := (p : Int)) (c := (c : Int)) (by omega) (by omega) (by omega) h6.2
      rw [snd_snd] at hp2
      have R2 : RunS (up σ1 142 (8 * (h : Int) + (p : Int)) (c : Int)) 143 (cfg t) 0 (cH (cfg t)) := R1.same (fun b _ _ => up_ne (by omega))
      have tri : ∀ al : Int, (al = 0 ∨ al = 1) → (al = 1 → alnT t h p c) → Wx g y_Tr_tryCells Z K 66 [vR 169, vR o, vI (h : Int), vI (p : Int), vI (cellT t p h), vI tr, vI (c : Int), vI al] [] σ1 := by
        intro al hal1 hal2
        have io : (ior tr al = 0 ∨ ior tr al = 1) ∧ (ior tr al = 1 → tr = 1 ∨ al = 1) := by
          rcases htr with w | w <;> rcases hal1 with w2 | w2 <;> rw [w, w2] <;> decide
        have nal : ior tr al = 1 → ∃ c2 : Nat, c2 < c + 1 ∧ alnT t h p c2 := by
          intro w
          rcases io.2 w with w2 | w2
          · obtain ⟨c2, q1, q2⟩ := hal w2
            exact ⟨c2, by omega, q2⟩
          · exact ⟨c, by omega, hal2 w2⟩
        refine x_aload_n (dat d_Tr_tryCells 34 rfl) rfl rfl ?_
        refine x_getr (r := 138) (dat d_Tr_tryCells 35 rfl) rfl f_Tr_15 (or_mk (by decide +kernel)) ?_
        refine x_iload_n (dat d_Tr_tryCells 36 rfl) rfl rfl ?_
        refine x_iload_n (dat d_Tr_tryCells 37 rfl) rfl rfl ?_
        refine x_iload (dat d_Tr_tryCells 38 rfl) rfl ?_
        refine x_inv (As := [vI (h : Int), vI (p : Int), vI (c : Int)]) (dat d_Tr_tryCells 39 rfl) rfl c_Pl_send l_Tr_102 (by decide) (rv_pl (by decide +kernel)) rfl rfl (Nat.le_of_ble_eq_true rfl) ?_
        refine sp_Pl_send (by omega) (by omega) (by omega) (by omega) ?_
        show Wx g y_Tr_tryCells Z K 77 [vR 169, vR o, vI (h : Int), vI (p : Int), vI (cellT t p h), vI tr, vI (c : Int), vI al] [] (up σ1 142 (8 * (h : Int) + (p : Int)) (c : Int))
        refine x_aload_n (dat d_Tr_tryCells 40 rfl) rfl rfl ?_
        refine x_getr (r := 156) (dat d_Tr_tryCells 41 rfl) rfl f_Tr_23 (or_mk (by decide +kernel)) ?_
        refine x_aload_n (dat d_Tr_tryCells 42 rfl) rfl rfl ?_
        refine x_getr (r := 138) (dat d_Tr_tryCells 43 rfl) rfl f_Tr_15 (or_mk (by decide +kernel)) ?_
        refine x_aload_n (dat d_Tr_tryCells 44 rfl) rfl rfl ?_
        refine x_getr (r := 143) (dat d_Tr_tryCells 45 rfl) rfl f_Tr_19 (or_mk (by decide +kernel)) ?_
        refine x_iload_n (dat d_Tr_tryCells 46 rfl) rfl rfl ?_
        refine x_inv (As := [vR 138, vR 143, vI (h : Int)]) (dat d_Tr_tryCells 47 rfl) rfl c_Ru_go l_Tr_32 (by decide) (rv_ru (by decide +kernel)) rfl rfl (Nat.le_of_ble_eq_true rfl) ?_
        refine sp_Ru_goF (C := sndC t h p c) ru_156 ru_143 (by decide) hok hp2 hh (base_hE hC R2 ag (by omega)) (fun σ3 R3 F3 => ?_)
        have R4 := R2.same (σ' := σ3) (fun b _ _ => F3 b (by omega))
        have hp3 := hp2.same (σ' := σ3) (fun b _ _ => F3 b (by omega))
        have g70 : σ3 170 = σ1 170 := by rw [F3 170 (by omega), up_ne (by decide)]
        have g3 : σ3 170 3 = (ordN (ordF t) (stv (cfg t)) ((h * P + p) * M + c)).2 := by rw [g70]; exact f3
        have Fx : TrF σ3 σ := fun b hb => by rw [F3 b (by omega), up_ne (by omega)]; exact F b hb
        have u4 := up4 σ3 170 h p c (stv (sndC t h p c))
        show Wx g y_Tr_tryCells Z K 93 [vR 169, vR o, vI (h : Int), vI (p : Int), vI (cellT t p h), vI tr, vI (c : Int), vI al] [] σ3
        refine x_aload_n (dat d_Tr_tryCells 48 rfl) rfl rfl ?_
        refine x_getr (r := 156) (dat d_Tr_tryCells 49 rfl) rfl f_Tr_23 (or_mk (by decide +kernel)) ?_
        refine x_inv (As := []) (dat d_Tr_tryCells 50 rfl) rfl c_Ru_starved l_Tr_38 (by decide) (rv_ru (by decide +kernel)) rfl rfl (Nat.le_of_ble_eq_true rfl) ?_
        refine sp_Ru_starved (f := h) ru_156 hok R3 (by show h < (t 3).toNat; omega) ?_
        show Wx g y_Tr_tryCells Z K 100 [vR 169, vR o, vI (h : Int), vI (p : Int), vI (cellT t p h), vI tr, vI (c : Int), vI al] [vI (stv (sndC t h p c))] σ3
        refine x_aload_n (dat d_Tr_tryCells 51 rfl) rfl rfl ?_
        refine x_getr (r := 170) (dat d_Tr_tryCells 52 rfl) rfl f_Tr_9 (or_mk (by decide +kernel)) ?_
        refine x_iconst (dat d_Tr_tryCells 53 rfl) (by decide) ?_
        refine x_iald (n := 4) (v := (ordN (ordF t) (stv (cfg t)) ((h * P + p) * M + c)).2) (dat d_Tr_tryCells 54 rfl) (ai_mk (by decide +kernel)) (by omega) (by omega) (g3) ?_
        refine x_icmp_ge (tgt := 124) (dat d_Tr_tryCells 55 rfl) (by decide) (fun c_106 => ?_) (fun c_106 => ?_)
        · refine x_iload (dat d_Tr_tryCells 64 rfl) rfl ?_
          refine x_iload (dat d_Tr_tryCells 65 rfl) rfl ?_
          refine x_ior (v := ior tr al) (dat d_Tr_tryCells 66 rfl) rfl ?_
          refine x_istore (L' := [vR 169, vR o, vI (h : Int), vI (p : Int), vI (cellT t p h), vI (ior tr al), vI (c : Int), vI al]) (dat d_Tr_tryCells 67 rfl) (by decide) rfl rfl ?_
          refine x_iinc (v' := ((c + 1 : Nat) : Int)) (L' := [vR 169, vR o, vI (h : Int), vI (p : Int), vI (cellT t p h), vI (ior tr al), vI ((c + 1 : Nat) : Int), vI al]) (dat d_Tr_tryCells 68 rfl) rfl (by decide) rfl (by omega) (by omega) rfl ?_
          refine x_goto (tgt := 14) (dat d_Tr_tryCells 69 rfl) (by decide) ?_
          first
          | (rw [hf, if_pos (by omega)] at st
             refine ih (c + 1) _ c _ _ (by omega) (hp3.same (fun b _ _ => u4.2.2.2.2 b (by omega))) (R4.same (fun b _ _ => u4.2.2.2.2 b (by omega))) ?_ (fun b hb => by rw [u4.2.2.2.2 b (by omega)]; exact Fx b hb) io.1 nal
             unfold OrdS
             rw [st, u4.1, u4.2.1, u4.2.2.1, u4.2.2.2.1]
             show (h : Int) = (if (((h * P + p) * M + c : Nat) : Int) = -1 then -1 else (((h * P + p) * M + c : Nat) : Int) / (t 0 * t 1) / t 6) ∧ (_ → (p : Int) = (((h * P + p) * M + c : Nat) : Int) / (t 0 * t 1) % t 6 ∧ (c : Int) = (((h * P + p) * M + c : Nat) : Int) % (t 0 * t 1)) ∧ _
             rw [if_neg (by omega), ec, d1.1, d1.2, ec2, d2.1, d2.2]
             exact ⟨rfl, fun _ => ⟨rfl, rfl⟩, rfl⟩)
          | (rw [hf, if_neg (by omega)] at st
             exact ih (c + 1) _ c _ _ (by omega) hp3 R4 (HS1.eq g70 st) Fx io.1 nal)
        · refine x_aload_n (dat d_Tr_tryCells 56 rfl) rfl rfl ?_
          refine x_iload_n (dat d_Tr_tryCells 57 rfl) rfl rfl ?_
          refine x_iload_n (dat d_Tr_tryCells 58 rfl) rfl rfl ?_
          refine x_iload (dat d_Tr_tryCells 59 rfl) rfl ?_
          refine x_aload_n (dat d_Tr_tryCells 60 rfl) rfl rfl ?_
          refine x_getr (r := 156) (dat d_Tr_tryCells 61 rfl) rfl f_Tr_23 (or_mk (by decide +kernel)) ?_
          refine x_inv (As := []) (dat d_Tr_tryCells 62 rfl) rfl c_Ru_starved l_Tr_38 (by decide) (rv_ru (by decide +kernel)) rfl rfl (Nat.le_of_ble_eq_true rfl) ?_
          refine sp_Ru_starved (f := h) ru_156 hok R3 (by show h < (t 3).toNat; omega) ?_
          show Wx g y_Tr_tryCells Z K 121 [vR 169, vR o, vI (h : Int), vI (p : Int), vI (cellT t p h), vI tr, vI (c : Int), vI al] [vI (stv (sndC t h p c)), vI (c : Int), vI (p : Int), vI (h : Int), vR 169] σ3
          refine x_inv (As := [vI (h : Int), vI (p : Int), vI (c : Int), vI (stv (sndC t h p c))]) (dat d_Tr_tryCells 63 rfl) rfl c_Tr_keepFound l_Tr_77 (by decide) (rv_tr (by decide +kernel)) rfl rfl (Nat.le_of_ble_eq_true rfl) ?_
          refine sp_Tr_keepFound ?_
          show Wx g y_Tr_tryCells Z K 124 [vR 169, vR o, vI (h : Int), vI (p : Int), vI (cellT t p h), vI tr, vI (c : Int), vI al] [] (up (up (up (up σ3 170 0 (h : Int)) 170 1 (p : Int)) 170 2 (c : Int)) 170 3 (stv (sndC t h p c)))
          refine x_iload (dat d_Tr_tryCells 64 rfl) rfl ?_
          refine x_iload (dat d_Tr_tryCells 65 rfl) rfl ?_
          refine x_ior (v := ior tr al) (dat d_Tr_tryCells 66 rfl) rfl ?_
          refine x_istore (L' := [vR 169, vR o, vI (h : Int), vI (p : Int), vI (cellT t p h), vI (ior tr al), vI (c : Int), vI al]) (dat d_Tr_tryCells 67 rfl) (by decide) rfl rfl ?_
          refine x_iinc (v' := ((c + 1 : Nat) : Int)) (L' := [vR 169, vR o, vI (h : Int), vI (p : Int), vI (cellT t p h), vI (ior tr al), vI ((c + 1 : Nat) : Int), vI al]) (dat d_Tr_tryCells 68 rfl) rfl (by decide) rfl (by omega) (by omega) rfl ?_
          refine x_goto (tgt := 14) (dat d_Tr_tryCells 69 rfl) (by decide) ?_
          first
          | (rw [hf, if_pos (by omega)] at st
             refine ih (c + 1) _ c _ _ (by omega) (hp3.same (fun b _ _ => u4.2.2.2.2 b (by omega))) (R4.same (fun b _ _ => u4.2.2.2.2 b (by omega))) ?_ (fun b hb => by rw [u4.2.2.2.2 b (by omega)]; exact Fx b hb) io.1 nal
             unfold OrdS
             rw [st, u4.1, u4.2.1, u4.2.2.1, u4.2.2.2.1]
             show (h : Int) = (if (((h * P + p) * M + c : Nat) : Int) = -1 then -1 else (((h * P + p) * M + c : Nat) : Int) / (t 0 * t 1) / t 6) ∧ (_ → (p : Int) = (((h * P + p) * M + c : Nat) : Int) / (t 0 * t 1) % t 6 ∧ (c : Int) = (((h * P + p) * M + c : Nat) : Int) % (t 0 * t 1)) ∧ _
             rw [if_neg (by omega), ec, d1.1, d1.2, ec2, d2.1, d2.2]
             exact ⟨rfl, fun _ => ⟨rfl, rfl⟩, rfl⟩)
          | (rw [hf, if_neg (by omega)] at st
             exact ih (c + 1) _ c _ _ (by omega) hp3 R4 (HS1.eq g70 st) Fx io.1 nal)
      refine x_iload (dat d_Tr_tryCells 9 rfl) rfl ?_
      refine x_aload_n (dat d_Tr_tryCells 10 rfl) rfl rfl ?_
      refine x_geti (ji := 0) (v := t 0) (dat d_Tr_tryCells 11 rfl) rfl f_Tr_92 (tw_oi_0 ho) (r0) ?_
      refine x_aload_n (dat d_Tr_tryCells 12 rfl) rfl rfl ?_
      refine x_geti (ji := 1) (v := t 1) (dat d_Tr_tryCells 13 rfl) rfl f_Tr_95 (tw_oi_1 ho) (r1) ?_
      refine x_imul (v := (M : Int)) (dat d_Tr_tryCells 14 rfl) (by exact hM.symm) (by omega) ?_
      refine x_icmp_ge (tgt := 137) (dat d_Tr_tryCells 15 rfl) (by decide) (fun c_25 => (by omega)) (fun c_25 => ?_)
      refine x_aload_n (dat d_Tr_tryCells 16 rfl) rfl rfl ?_
      refine x_getr (r := 138) (dat d_Tr_tryCells 17 rfl) rfl f_Tr_15 (or_mk (by decide +kernel)) ?_
      refine x_iload_n (dat d_Tr_tryCells 18 rfl) rfl rfl ?_
      refine x_iload_n (dat d_Tr_tryCells 19 rfl) rfl rfl ?_
      refine x_iload (dat d_Tr_tryCells 20 rfl) rfl ?_
      refine x_inv (As := [vI (h : Int), vI (p : Int), vI (c : Int)]) (dat d_Tr_tryCells 21 rfl) rfl c_Pl_isOtherThere l_Tr_98 (by decide) (rv_pl (by decide +kernel)) rfl rfl (Nat.le_of_ble_eq_true rfl) ?_
      refine sp_Pl_isOther (C := sndC t h p x) (hC.whr _) hpx (by omega) (by show (h : Int) < t 3; omega) (fun hw => ?_) (fun hw => ?_)
      · show Wx g y_Tr_tryCells Z K 39 [vR 169, vR o, vI (h : Int), vI (p : Int), vI (cellT t p h), vI tr, vI (c : Int), w7] [vI 1] σ1
        refine x_if_ne (tgt := 46) (dat d_Tr_tryCells 22 rfl) (by decide) (fun c_39 => ?_) (fun h => absurd h (by decide))
        refine x_iconst (dat d_Tr_tryCells 25 rfl) (by decide) ?_
        refine x_istore (L' := [vR 169, vR o, vI (h : Int), vI (p : Int), vI (cellT t p h), vI tr, vI (c : Int), vI 0]) (dat d_Tr_tryCells 26 rfl) (by decide) rfl rfl ?_
        refine x_iload (dat d_Tr_tryCells 27 rfl) rfl ?_
        refine x_iload (dat d_Tr_tryCells 28 rfl) rfl ?_
        refine x_icmp_eq (tgt := 131) (dat d_Tr_tryCells 29 rfl) (by decide) (fun c_53 => ?_) (fun c_53 => ?_)
        · refine x_iinc (v' := ((c + 1 : Nat) : Int)) (L' := [vR 169, vR o, vI (h : Int), vI (p : Int), vI (cellT t p h), vI tr, vI ((c + 1 : Nat) : Int), vI 0]) (dat d_Tr_tryCells 68 rfl) rfl (by decide) rfl (by omega) (by omega) rfl ?_
          refine x_goto (tgt := 14) (dat d_Tr_tryCells 69 rfl) (by decide) ?_
          first
          | (refine skp ?_ _ _ htr (fun w => ?_)
             · first
               | (have e : (c : Int) = cellT t p h := by assumption
                  rw [e, snd_own]
                  omega)
               | (have w1 : tr = 1 := by clear hal; omega
                  obtain ⟨c2, q1, q2⟩ := hal w1
                  rw [alone_eq hT (c := (c2 : Int)) q2 (fun q q0 q1 q2 => by rw [← cw q q2]; exact hw q q0 q1 q2), ← dec c2 (by omega)]
                  have := hle ((h * P + p) * M + c2) (by omega)
                  omega)
             · obtain ⟨c2, q1, q2⟩ := hal w
               exact ⟨c2, by omega, q2⟩)
        · refine x_iload (dat d_Tr_tryCells 30 rfl) rfl ?_
          refine x_if_eq (tgt := 66) (dat d_Tr_tryCells 31 rfl) (by decide) (fun c_58 => ?_) (fun h => absurd h (by decide))
          first
          | exact tri 0 (Or.inl rfl) (fun w => absurd w (by decide))
          | exact tri 1 (Or.inr rfl) (fun _ => fun q q0 q1 q2 => by rw [← cw q q2]; exact hw q q0 q1 q2)
      · show Wx g y_Tr_tryCells Z K 39 [vR 169, vR o, vI (h : Int), vI (p : Int), vI (cellT t p h), vI tr, vI (c : Int), w7] [vI 0] σ1
        refine x_if_ne (tgt := 46) (dat d_Tr_tryCells 22 rfl) (by decide) (fun h => absurd h (by decide)) (fun c_39 => ?_)
        refine x_iconst (dat d_Tr_tryCells 23 rfl) (by decide) ?_
        refine x_goto (tgt := 47) (dat d_Tr_tryCells 24 rfl) (by decide) ?_
        refine x_istore (L' := [vR 169, vR o, vI (h : Int), vI (p : Int), vI (cellT t p h), vI tr, vI (c : Int), vI 1]) (dat d_Tr_tryCells 26 rfl) (by decide) rfl rfl ?_
        refine x_iload (dat d_Tr_tryCells 27 rfl) rfl ?_
        refine x_iload (dat d_Tr_tryCells 28 rfl) rfl ?_
        refine x_icmp_eq (tgt := 131) (dat d_Tr_tryCells 29 rfl) (by decide) (fun c_53 => ?_) (fun c_53 => ?_)
        · refine x_iinc (v' := ((c + 1 : Nat) : Int)) (L' := [vR 169, vR o, vI (h : Int), vI (p : Int), vI (cellT t p h), vI tr, vI ((c + 1 : Nat) : Int), vI 1]) (dat d_Tr_tryCells 68 rfl) rfl (by decide) rfl (by omega) (by omega) rfl ?_
          refine x_goto (tgt := 14) (dat d_Tr_tryCells 69 rfl) (by decide) ?_
          first
          | (refine skp ?_ _ _ htr (fun w => ?_)
             · first
               | (have e : (c : Int) = cellT t p h := by assumption
                  rw [e, snd_own]
                  omega)
               | (have w1 : tr = 1 := by clear hal; omega
                  obtain ⟨c2, q1, q2⟩ := hal w1
                  rw [alone_eq hT (c := (c2 : Int)) q2 (fun q q0 q1 q2 => by rw [← cw q q2]; exact hw q q0 q1 q2), ← dec c2 (by omega)]
                  have := hle ((h * P + p) * M + c2) (by omega)
                  omega)
             · obtain ⟨c2, q1, q2⟩ := hal w
               exact ⟨c2, by omega, q2⟩)
        · refine x_iload (dat d_Tr_tryCells 30 rfl) rfl ?_
          refine x_if_eq (tgt := 66) (dat d_Tr_tryCells 31 rfl) (by decide) (fun h => absurd h (by decide)) (fun c_58 => ?_)
          refine x_iload (dat d_Tr_tryCells 32 rfl) rfl ?_
          refine x_if_ne (tgt := 131) (dat d_Tr_tryCells 33 rfl) (by decide) (fun c_63 => ?_) (fun c_63 => ?_)
          · refine x_iinc (v' := ((c + 1 : Nat) : Int)) (L' := [vR 169, vR o, vI (h : Int), vI (p : Int), vI (cellT t p h), vI tr, vI ((c + 1 : Nat) : Int), vI 1]) (dat d_Tr_tryCells 68 rfl) rfl (by decide) rfl (by omega) (by omega) rfl ?_
            refine x_goto (tgt := 14) (dat d_Tr_tryCells 69 rfl) (by decide) ?_
            first
            | (refine skp ?_ _ _ htr (fun w => ?_)
               · first
                 | (have e : (c : Int) = cellT t p h := by assumption
                    rw [e, snd_own]
                    omega)
                 | (have w1 : tr = 1 := by clear hal; omega
                    obtain ⟨c2, q1, q2⟩ := hal w1
                    rw [alone_eq hT (c := (c2 : Int)) q2 (fun q q0 q1 q2 => by rw [← cw q q2]; exact hw q q0 q1 q2), ← dec c2 (by omega)]
                    have := hle ((h * P + p) * M + c2) (by omega)
                    omega)
               · obtain ⟨c2, q1, q2⟩ := hal w
                 exact ⟨c2, by omega, q2⟩)
          · first
            | exact tri 0 (Or.inl rfl) (fun w => absurd w (by decide))
            | exact tri 1 (Or.inr rfl) (fun _ => fun q q0 q1 q2 => by rw [← cw q q2]; exact hw q q0 q1 q2)
  refine x_enter 4 rfl rfl rfl (fun Z => ?_)
  show Wx g y_Tr_tryCells Z K 0 [vR 169, vR o, vI (h : Int), vI (p : Int), vU, vU, vU, vU] [] σ
  refine x_aload_n (dat d_Tr_tryCells 0 rfl) rfl rfl ?_
  refine x_iload_n (dat d_Tr_tryCells 1 rfl) rfl rfl ?_
  refine x_iload_n (dat d_Tr_tryCells 2 rfl) rfl rfl ?_
  refine x_inv (As := [vI (p : Int), vI (h : Int)]) (dat d_Tr_tryCells 3 rfl) rfl c_Tw_cellAt l_Tr_88 (by decide) (rv_tw (tw_k ho)) rfl rfl (Nat.le_of_ble_eq_true rfl) ?_
  refine sp_Tw_cellAt ho hT hR (by omega) (by omega) (by omega) (by omega) ?_
  show Wx g y_Tr_tryCells Z K 6 [vR 169, vR o, vI (h : Int), vI (p : Int), vU, vU, vU, vU] [vI (cellT t p h)] σ
  refine x_istore (L' := [vR 169, vR o, vI (h : Int), vI (p : Int), vI (cellT t p h), vU, vU, vU]) (dat d_Tr_tryCells 4 rfl) (by decide) rfl rfl ?_
  refine x_iconst (dat d_Tr_tryCells 5 rfl) (by decide) ?_
  refine x_istore (L' := [vR 169, vR o, vI (h : Int), vI (p : Int), vI (cellT t p h), vI 0, vU, vU]) (dat d_Tr_tryCells 6 rfl) (by decide) rfl rfl ?_
  refine x_iconst (dat d_Tr_tryCells 7 rfl) (by decide) ?_
  refine x_istore (L' := [vR 169, vR o, vI (h : Int), vI (p : Int), vI (cellT t p h), vI 0, vI 0, vU]) (dat d_Tr_tryCells 8 rfl) (by decide) rfl rfl ?_
  refine lp Z M 0 σ (cellT t p h) 0 _ (by omega) ?_ R HS (fun _ _ => rfl) (Or.inl rfl) (fun w => absurd w (by decide))
  rw [snd_own]
  exact hp
