/-! the twin: a meal -/
def anyN (f : Int → Bool) : Nat → Bool
  | 0 => false
  | n + 1 => anyN f n || f n
/-- who eats of those who live -/
def fedB (C : Cf) (bd : Int → Int) (al : Int → Bool) (p : Int) : Bool := al p && decide (cS C 3 ≤ bd p)
/-- a meal, the first n having had it -/
def EaS (σ0 σ : xS) (C : Cf) (P h : Int) (bd : Int → Int) (al pt : Int → Bool) (bt : Int) (n : Nat) : Prop :=
  (Msk 8 (σ 174 35) (fun q => if q < n then fedB C bd al q else al q) ∧ Msk 8 (σ 174 36) (fun q => if q < n then pt q && !(fedB C bd al q && decide (bd q - cS C 3 = 0)) else pt q) ∧ σ 174 38 = (if bt = -1 ∧ (0 < cS C 3 ∧ anyN (fun q => fedB C bd al q && pt q) n = true) then h else bt)) ∧
  (∀ p : Int, 0 ≤ p → p < P → σ 180 p = (if p < n then eatB C bd al p else bd p) ∧ σ 191 p = (if p < n ∧ al p = true ∧ fedB C bd al p = false then h else σ0 191 p) ∧ σ 193 p = σ0 193 p + (if p < n ∧ fedB C bd al p = true then cS C 3 else 0)) ∧
  σ 187 h = cS C 3 * cntN (fedB C bd al) n ∧
  ((∀ i : Int, i ≠ 35 → i ≠ 36 → i ≠ 38 → σ 174 i = σ0 174 i) ∧ (∀ j : Int, j ≠ h → σ 187 j = σ0 187 j) ∧ ∀ o : Nat, o ≠ 174 → o ≠ 180 → o ≠ 187 → o ≠ 191 → o ≠ 193 → σ o = σ0 o)
theorem sp_Mo_eats {g : xG} {K : Option MV → xS → Prop} {σ : xS} {t : Int → Int} {t0 : Int} {C : Cf} {h bt : Int} {bd : Int → Int} {al pt : Int → Bool} (H0 : MoC σ t t0 C) (h0 : 0 ≤ h) (h1 : h < 24) (hal : Msk 8 (σ 174 35) al) (hpt : Msk 8 (σ 174 36) pt) (hbt : σ 174 38 = bt) (hbd : ∀ p : Int, 0 ≤ p → p < t 6 → σ 180 p = bd p ∧ 0 ≤ bd p ∧ bd p ≤ 1000) (hme : ∀ p : Int, 0 ≤ p → p < t 6 → 0 ≤ σ 193 p ∧ σ 193 p ≤ 1000) (hea : σ 187 h = 0)
    (k : ∀ σ' : xS, EaS σ σ' C (t 6) h bd al pt bt (t 6).toNat → K none σ') : Mt g y_Mo_eats [vR 174, vI h] σ K := by
  have h6 := H0.1.2.2.2.2.2.2.2.1
  have hC := H0.2.1.2
  have n9 := hC.2.2.2.2.2.1
  have n0 := hC.2.2.2.2.1
  have en := H0.P.2.2.2.1
  generalize hnd : cS C 3 = nd at n9 n0 en
  have lp : ∀ (Z : xZ) (d n : Nat) (σ1 : xS), n + d = (t 6).toNat → EaS σ σ1 C (t 6) h bd al pt bt n → Wx g y_Mo_eats Z K 2 [vR 174, vI h, vI (n : Int)] [] σ1 := by
    intro Z d
    induction d with
    | zero =>
      intro n σ1 hd S
      have e : n = (t 6).toNat := by omega
      have M1 : MoT σ1 t t0 := H0.1.1.same (S.2.2.2.1 12 (by decide) (by decide) (by decide)) (S.2.2.2.2.2 175 (by decide) (by decide) (by decide) (by decide) (by decide))
      refine x_iload_n (dat d_Mo_eats 2 rfl) rfl rfl ?_
      refine x_aload_n (dat d_Mo_eats 3 rfl) rfl rfl ?_
      refine x_inv (As := []) (dat d_Mo_eats 4 rfl) rfl c_Mo_people l_Mo_202 (by decide) (rv_mo (by decide +kernel)) rfl rfl (Nat.le_of_ble_eq_true rfl) ?_
      refine sp_Mo_people M1 ?_
      show Wx g y_Mo_eats Z K 7 [vR 174, vI h, vI (n : Int)] [vI (t 6), vI (n : Int)] σ1
      refine x_icmp_ge (tgt := 161) (dat d_Mo_eats 5 rfl) (by decide) (fun c_7 => ?_) (fun c_7 => (by omega))
      refine x_ret (dat d_Mo_eats 99 rfl) rfl ?_
      exact k σ1 (by rw [← e]; exact S)
    | succ d ih =>
      intro n σ1 hd S
      have M1 : MoT σ1 t t0 := H0.1.1.same (S.2.2.2.1 12 (by decide) (by decide) (by decide)) (S.2.2.2.2.2 175 (by decide) (by decide) (by decide) (by decide) (by decide))
      obtain ⟨⟨s35, s36, s38⟩, sp, se, s1, s2, s3⟩ := id S
      have pn := sp (n : Int) (by omega) (by omega)
      have bn := hbd (n : Int) (by omega) (by omega)
      have mn := hme (n : Int) (by omega) (by omega)
      have e30 : σ1 174 30 = nd := by rw [s1 30 (by decide) (by decide) (by decide)]; exact en.symm
      have eb : σ1 180 (n : Int) = bd n := by rw [pn.1, if_neg (by omega)]
      have em : σ1 193 (n : Int) = σ 193 n := by rw [pn.2.2, if_neg (fun w => by omega)]; omega
      have cn := cntN_bd (fedB C bd al) n
      have se : σ1 187 h = nd * cntN (fedB C bd al) n := by rw [se, hnd]
      have nb : 0 ≤ nd * cntN (fedB C bd al) n ∧ nd * cntN (fedB C bd al) n ≤ 9 * 8 := by
        have a1 : nd * cntN (fedB C bd al) n ≤ nd * 8 := Int.mul_le_mul_of_nonneg_left (by omega) n0
        have a2 : 0 ≤ nd * cntN (fedB C bd al) n := Int.mul_nonneg n0 (by omega)
        omega
      have gl := s35.get (p := (n : Int)) (by decide) (by omega) (show (n : Int) < (8 : Nat) by omega)
      have gp := s36.get (p := (n : Int)) (by decide) (by omega) (show (n : Int) < (8 : Nat) by omega)
      rw [if_neg (show ¬ (n : Int) < (n : Int) by omega)] at gl gp
      obtain ⟨yl, hyl⟩ : ∃ y : Int, y = (if al n = true then 1 else 0) := ⟨_, rfl⟩
      obtain ⟨yp, hyp⟩ : ∃ y : Int, y = (if pt n = true then 1 else 0) := ⟨_, rfl⟩
      rw [← hyl] at gl
      rw [← hyp] at gp
      have hl01 : (yl = 1 ∧ al n = true) ∨ (yl = 0 ∧ al n = false) := by rw [hyl]; split <;> simp_all
      have hp01 : (yp = 1 ∧ pt n = true) ∨ (yp = 0 ∧ pt n = false) := by rw [hyp]; split <;> simp_all
      have fd : fedB C bd al n = (al n && decide (nd ≤ bd n)) := by unfold fedB; rw [hnd]
      have eB : eatB C bd al n = if al n = true ∧ nd ≤ bd n then bd n - nd else bd n := by unfold eatB; rw [hnd]
      -- one more, as the loop's next state
      have nx : ∀ (σ2 : xS) (f : Bool), fedB C bd al n = f →
          Msk 8 (σ2 174 35) (fun q => if q < (n : Int) then fedB C bd al q else if q = (n : Int) then f else al q) →
          Msk 8 (σ2 174 36) (fun q => if q < (n : Int) then pt q && !(fedB C bd al q && decide (bd q - cS C 3 = 0)) else if q = (n : Int) then pt q && !(f && decide (bd q - nd = 0)) else pt q) →
          σ2 174 38 = (if f = true ∧ pt n = true ∧ 0 < nd ∧ σ1 174 38 = -1 then h else σ1 174 38) →
          (∀ p : Int, p ≠ n → σ2 180 p = σ1 180 p ∧ σ2 191 p = σ1 191 p ∧ σ2 193 p = σ1 193 p) →
          σ2 180 n = (if f = true then bd n - nd else bd n) → σ2 191 n = (if al n = true ∧ f = false then h else σ1 191 n) → σ2 193 n = σ1 193 n + (if f = true then nd else 0) →
          σ2 187 h = σ1 187 h + (if f = true then nd else 0) → (∀ i : Int, i ≠ 35 → i ≠ 36 → i ≠ 38 → σ2 174 i = σ1 174 i) → (∀ j : Int, j ≠ h → σ2 187 j = σ1 187 j) → (∀ o : Nat, o ≠ 174 → o ≠ 180 → o ≠ 187 → o ≠ 191 → o ≠ 193 → σ2 o = σ1 o) →
          Wx g y_Mo_eats Z K 2 [vR 174, vI h, vI ((n + 1 : Nat) : Int)] [] σ2 := by
        intro σ2 f hf q35 q36 q38 qo qb qs qm qe q1 q2 q3
        refine ih (n + 1) σ2 (by omega) ⟨⟨?_, ?_, ?_⟩, fun p p0 p1 => ⟨?_, ?_, ?_⟩, ?_, fun i i1 i2 i3 => by rw [q1 i i1 i2 i3]; exact s1 i i1 i2 i3, fun j hj => by rw [q2 j hj]; exact s2 j hj, fun o o1 o2 o3 o4 o5 => by rw [q3 o o1 o2 o3 o4 o5]; exact s3 o o1 o2 o3 o4 o5⟩
        · refine q35.congr (fun q q0 q8 => ?_)
          show (if q < (n : Int) then fedB C bd al q else if q = (n : Int) then f else al q) = (if q < ((n + 1 : Nat) : Int) then fedB C bd al q else al q)
          by_cases z : q < (n : Int)
          · rw [if_pos z, if_pos (by omega)]
          · by_cases w : q = (n : Int)
            · rw [if_neg z, if_pos w, if_pos (by omega), w, hf]
            · rw [if_neg z, if_neg w, if_neg (by omega)]
        · refine q36.congr (fun q q0 q8 => ?_)
          show (if q < (n : Int) then pt q && !(fedB C bd al q && decide (bd q - cS C 3 = 0)) else if q = (n : Int) then pt q && !(f && decide (bd q - nd = 0)) else pt q) = (if q < ((n + 1 : Nat) : Int) then pt q && !(fedB C bd al q && decide (bd q - cS C 3 = 0)) else pt q)
          by_cases z : q < (n : Int)
          · rw [if_pos z, if_pos (by omega)]
          · by_cases w : q = (n : Int)
            · rw [if_neg z, if_pos w, if_pos (by omega), w, hf, hnd]
            · rw [if_neg z, if_neg w, if_neg (by omega)]
        · have st : anyN (fun q => fedB C bd al q && pt q) (n + 1) = (anyN (fun q => fedB C bd al q && pt q) n || (fedB C bd al n && pt n)) := rfl
          rw [q38, s38, st, hf, hnd]
          by_cases b1 : bt = -1
          · by_cases b2 : 0 < nd
            · cases hA : anyN (fun q => fedB C bd al q && pt q) n with
              | true =>
                rw [if_pos (show bt = -1 ∧ (0 < nd ∧ true = true) from ⟨b1, b2, rfl⟩), if_neg (fun w => by omega), Bool.true_or, if_pos ⟨b1, b2, rfl⟩]
              | false =>
                rw [if_neg (show ¬ (bt = -1 ∧ (0 < nd ∧ false = true)) from fun w => by have := w.2.2; exact Bool.noConfusion this), Bool.false_or]
                cases f with
                | true =>
                  cases hP : pt n with
                  | true => rw [if_pos ⟨rfl, rfl, b2, b1⟩, if_pos ⟨b1, b2, rfl⟩]
                  | false => rw [if_neg (fun w => by have := w.2.1; exact Bool.noConfusion this), if_neg (fun w => by have := w.2.2; exact Bool.noConfusion this)]
                | false => rw [if_neg (fun w => by have := w.1; exact Bool.noConfusion this), if_neg (fun w => by have := w.2.2; exact Bool.noConfusion this)]
            · rw [if_neg (show ¬ (bt = -1 ∧ (0 < nd ∧ anyN (fun q => fedB C bd al q && pt q) n = true)) from fun w => b2 w.2.1), if_neg (fun w => b2 w.2.2.1), if_neg (fun w => b2 w.2.1)]
          · rw [if_neg (show ¬ (bt = -1 ∧ (0 < nd ∧ anyN (fun q => fedB C bd al q && pt q) n = true)) from fun w => b1 w.1), if_neg (fun w => b1 w.2.2.2), if_neg (fun w => b1 w.1)]
        · by_cases z : p = (n : Int)
          · rw [z, qb, if_pos (show (n : Int) < ((n + 1 : Nat) : Int) by omega), eB, ← hf, fd]
            simp only [Bool.and_eq_true, decide_eq_true_eq]
          · rw [(qo p z).1, (sp p p0 p1).1]
            by_cases w : p < (n : Int)
            · rw [if_pos w, if_pos (by omega)]
            · rw [if_neg w, if_neg (by omega)]
        · by_cases z : p = (n : Int)
          · rw [z, qs, pn.2.1, if_neg (show ¬ ((n : Int) < (n : Int) ∧ al n = true ∧ fedB C bd al n = false) from fun w => by omega), hf]
            by_cases w : al n = true ∧ f = false
            · rw [if_pos w, if_pos ⟨by omega, w⟩]
            · rw [if_neg w, if_neg (fun y => w y.2)]
          · rw [(qo p z).2.1, (sp p p0 p1).2.1]
            by_cases w : p < (n : Int) ∧ al p = true ∧ fedB C bd al p = false
            · rw [if_pos w, if_pos ⟨by omega, w.2⟩]
            · rw [if_neg w, if_neg (fun y => w ⟨by omega, y.2⟩)]
        · by_cases z : p = (n : Int)
          · rw [z, qm, pn.2.2, if_neg (show ¬ ((n : Int) < (n : Int) ∧ fedB C bd al n = true) from fun w => by omega), hf, hnd]
            by_cases w : f = true
            · rw [if_pos w, if_pos ⟨by omega, w⟩]; omega
            · rw [if_neg w, if_neg (fun y => w y.2)]; omega
          · rw [(qo p z).2.2, (sp p p0 p1).2.2]
            congr 1
            by_cases w : p < (n : Int) ∧ fedB C bd al p = true
            · rw [if_pos w, if_pos ⟨by omega, w.2⟩]
            · rw [if_neg w, if_neg (fun y => w ⟨by omega, y.2⟩)]
        · rw [qe, se, hnd]
          show nd * cntN (fedB C bd al) n + (if f = true then nd else 0) = nd * (cntN (fedB C bd al) n + (if fedB C bd al n = true then 1 else 0))
          rw [hf, Int.mul_add]
          cases f with
          | true => simp
          | false => simp
      have keep : fedB C bd al n = false → ∀ v : Int, Msk 8 v (fun q => if q < (n : Int) then pt q && !(fedB C bd al q && decide (bd q - cS C 3 = 0)) else pt q) → Msk 8 v (fun q => if q < (n : Int) then pt q && !(fedB C bd al q && decide (bd q - cS C 3 = 0)) else if q = (n : Int) then pt q && !(false && decide (bd q - nd = 0)) else pt q) := fun _ v hv => hv.congr (fun q q0 q8 => by
        show (if q < (n : Int) then _ else pt q) = (if q < (n : Int) then _ else if q = (n : Int) then pt q && !(false && decide (bd q - nd = 0)) else pt q)
        by_cases z : q < (n : Int)
        · rw [if_pos z, if_pos z]
        · rw [if_neg z, if_neg z]
          by_cases w : q = (n : Int)
          · rw [if_pos w, Bool.false_and]; simp
          · rw [if_neg w])
      have fedL : ∀ f : Bool, (al n = f) → Msk 8 (σ1 174 35) (fun q => if q < (n : Int) then fedB C bd al q else if q = (n : Int) then f else al q) := fun f hf => s35.congr (fun q q0 q8 => by
        show (if q < (n : Int) then fedB C bd al q else al q) = (if q < (n : Int) then fedB C bd al q else if q = (n : Int) then f else al q)
        by_cases z : q < (n : Int)
        · rw [if_pos z, if_pos z]
        · rw [if_neg z, if_neg z]
          by_cases w : q = (n : Int)
          · rw [if_pos w, w, hf]
          · rw [if_neg w])
      have sC : ∀ σb : xS, al n = true → nd ≤ bd n → σb 174 38 = (if pt n = true ∧ 0 < nd ∧ σ1 174 38 = -1 then h else σ1 174 38) → (∀ i : Int, i ≠ 38 → σb 174 i = σ1 174 i) → (∀ o : Nat, o ≠ 174 → σb o = σ1 o) → Wx g y_Mo_eats Z K 93 [vR 174, vI h, vI (n : Int)] [] σb := by
        intro σb hal1 hle B1 B2 B3
        have hf : fedB C bd al n = true := by rw [fd, hal1, decide_eq_true hle]; rfl
        have b30 : σb 174 30 = nd := by rw [B2 30 (by decide)]; exact e30
        have b180 : σb 180 (n : Int) = bd n := by rw [B3 180 (by decide)]; exact eb
        have b193 : σb 193 (n : Int) = σ 193 n := by rw [B3 193 (by decide)]; exact em
        have b187 : σb 187 h = nd * cntN (fedB C bd al) n := by rw [B3 187 (by decide)]; exact se
        have m1 : bd n - nd ≠ 0 → Msk 8 (σ1 174 36) (fun q => if q < (n : Int) then pt q && !(fedB C bd al q && decide (bd q - cS C 3 = 0)) else if q = (n : Int) then pt q && !(true && decide (bd q - nd = 0)) else pt q) := fun w => s36.congr (fun q q0 q8 => by
          show (if q < (n : Int) then pt q && !(fedB C bd al q && decide (bd q - cS C 3 = 0)) else pt q) = (if q < (n : Int) then pt q && !(fedB C bd al q && decide (bd q - cS C 3 = 0)) else if q = (n : Int) then pt q && !(true && decide (bd q - nd = 0)) else pt q)
          by_cases z : q < (n : Int)
          · rw [if_pos z, if_pos z]
          · rw [if_neg z, if_neg z]
            by_cases y : q = (n : Int)
            · rw [if_pos y, y, decide_eq_false w]; simp
            · rw [if_neg y])
        have m2 : bd n - nd = 0 → Msk 8 (iand (σ1 174 36) (ixor (ishl 1 (n : Int)) (-1))) (fun q => if q < (n : Int) then pt q && !(fedB C bd al q && decide (bd q - cS C 3 = 0)) else if q = (n : Int) then pt q && !(true && decide (bd q - nd = 0)) else pt q) := fun w => by
          refine (s36.andn (by decide) (Msk.one (n := 8) (by decide) (show (0 : Int) ≤ (n : Int) by omega) (show (n : Int) < (8 : Nat) by omega))).congr (fun q q0 q8 => ?_)
          show ((if q < (n : Int) then pt q && !(fedB C bd al q && decide (bd q - cS C 3 = 0)) else pt q) && !decide (q = (n : Int))) = (if q < (n : Int) then pt q && !(fedB C bd al q && decide (bd q - cS C 3 = 0)) else if q = (n : Int) then pt q && !(true && decide (bd q - nd = 0)) else pt q)
          by_cases z : q < (n : Int)
          · rw [if_pos z, if_pos z, decide_eq_false (show ¬ q = (n : Int) by omega)]; simp
          · rw [if_neg z, if_neg z]
            by_cases y : q = (n : Int)
            · rw [if_pos y, y, decide_eq_true (Eq.refl (n : Int)), decide_eq_true w]; simp
            · rw [if_neg y, decide_eq_false y]; simp
        have fin : ∀ σ2 : xS, Msk 8 (σ2 174 36) (fun q => if q < (n : Int) then pt q && !(fedB C bd al q && decide (bd q - cS C 3 = 0)) else if q = (n : Int) then pt q && !(true && decide (bd q - nd = 0)) else pt q) → (∀ i : Int, i ≠ 36 → σ2 174 i = σb 174 i) → (∀ o : Nat, o ≠ 174 → σ2 o = up (up (up σb 180 (n : Int) (bd n - nd)) 193 (n : Int) (σ 193 n + nd)) 187 h (nd * cntN (fedB C bd al) n + nd) o) → Wx g y_Mo_eats Z K 2 [vR 174, vI h, vI ((n + 1 : Nat) : Int)] [] σ2 := by
          intro σ2 c36 c1 c2
          refine nx σ2 true hf (by rw [c1 35 (by decide), B2 35 (by decide)]; exact fedL true hal1) c36 ?_ (fun p hp => ⟨?_, ?_, ?_⟩) ?_ ?_ ?_ ?_ (fun i i1 i2 i3 => by rw [c1 i i2, B2 i i3]) (fun j hj => ?_) (fun o o1 o2 o3 o4 o5 => by rw [c2 o o1, up_ne o3, up_ne o5, up_ne o2, B3 o o1])
          · rw [c1 38 (by decide), B1]
            by_cases y : pt n = true ∧ 0 < nd ∧ σ1 174 38 = -1
            · rw [if_pos y, if_pos ⟨rfl, y⟩]
            · rw [if_neg y, if_neg (fun w => y w.2)]
          · rw [c2 180 (by decide), up_ne (by decide), up_ne (by decide), up_ni (Ne.symm hp), B3 180 (by decide)]
          · rw [c2 191 (by decide), up_ne (by decide), up_ne (by decide), up_ne (by decide), B3 191 (by decide)]
          · rw [c2 193 (by decide), up_ne (by decide), up_ni (Ne.symm hp), up_ne (by decide), B3 193 (by decide)]
          · rw [c2 180 (by decide), up_ne (by decide), up_ne (by decide), up_s, if_pos rfl]
          · rw [c2 191 (by decide), up_ne (by decide), up_ne (by decide), up_ne (by decide), B3 191 (by decide), if_neg (fun w => by have := w.2; exact Bool.noConfusion this)]
          · rw [c2 193 (by decide), up_ne (by decide), up_s, if_pos rfl, em]
          · rw [c2 187 (by decide), up_s, if_pos rfl, se]
          · rw [c2 187 (by decide), up_ni (Ne.symm hj), up_ne (by decide), up_ne (by decide), B3 187 (by decide)]
        have c36 : σb 174 36 = σ1 174 36 := B2 36 (by decide)
        refine x_aload_n (dat d_Mo_eats 55 rfl) rfl rfl ?_
        refine x_getr (r := 180) (dat d_Mo_eats 56 rfl) rfl f_Mo_26 (or_mk (by decide +kernel)) ?_
        refine x_iload_n (dat d_Mo_eats 57 rfl) rfl rfl ?_
        refine x_dup2 (dat d_Mo_eats 58 rfl) rfl rfl ?_
        refine x_iald (n := 8) (v := bd n) (dat d_Mo_eats 59 rfl) (ai_mk (by decide +kernel)) (by omega) (by omega) (b180) ?_
        refine x_aload_n (dat d_Mo_eats 60 rfl) rfl rfl ?_
        refine x_geti (ji := 30) (v := nd) (dat d_Mo_eats 61 rfl) rfl f_Mo_238 (oi_mk (by decide +kernel)) (b30) ?_
        refine x_isub (v := (bd n) - nd) (dat d_Mo_eats 62 rfl) rfl (by omega) ?_
        refine x_iast (n := 8) (dat d_Mo_eats 63 rfl) (ai_mk (by decide +kernel)) (by omega) (by omega) ?_
        refine x_aload_n (dat d_Mo_eats 64 rfl) rfl rfl ?_
        refine x_getr (r := 193) (dat d_Mo_eats 65 rfl) rfl f_Mo_65 (or_mk (by decide +kernel)) ?_
        refine x_iload_n (dat d_Mo_eats 66 rfl) rfl rfl ?_
        refine x_dup2 (dat d_Mo_eats 67 rfl) rfl rfl ?_
        refine x_iald (n := 8) (v := σ 193 n) (dat d_Mo_eats 68 rfl) (ai_mk (by decide +kernel)) (by omega) (by omega) ((up_nk (by decide)).trans b193) ?_
        refine x_aload_n (dat d_Mo_eats 69 rfl) rfl rfl ?_
        refine x_geti (ji := 30) (v := nd) (dat d_Mo_eats 70 rfl) rfl f_Mo_238 (oi_mk (by decide +kernel)) ((up_nk (by decide)).trans b30) ?_
        refine x_iadd (v := (σ 193 n) + nd) (dat d_Mo_eats 71 rfl) rfl (by omega) ?_
        refine x_iast (n := 8) (dat d_Mo_eats 72 rfl) (ai_mk (by decide +kernel)) (by omega) (by omega) ?_
        refine x_aload_n (dat d_Mo_eats 73 rfl) rfl rfl ?_
        refine x_getr (r := 187) (dat d_Mo_eats 74 rfl) rfl f_Mo_47 (or_mk (by decide +kernel)) ?_
        refine x_iload_n (dat d_Mo_eats 75 rfl) rfl rfl ?_
        refine x_dup2 (dat d_Mo_eats 76 rfl) rfl rfl ?_
        refine x_iald (n := 24) (v := nd * cntN (fedB C bd al) n) (dat d_Mo_eats 77 rfl) (ai_mk (by decide +kernel)) (by omega) (by omega) ((up_nk (by decide)).trans ((up_nk (by decide)).trans b187)) ?_
        refine x_aload_n (dat d_Mo_eats 78 rfl) rfl rfl ?_
        refine x_geti (ji := 30) (v := nd) (dat d_Mo_eats 79 rfl) rfl f_Mo_238 (oi_mk (by decide +kernel)) ((up_nk (by decide)).trans ((up_nk (by decide)).trans b30)) ?_
        refine x_iadd (v := (nd * cntN (fedB C bd al) n) + nd) (dat d_Mo_eats 80 rfl) rfl (by omega) ?_
        refine x_iast (n := 24) (dat d_Mo_eats 81 rfl) (ai_mk (by decide +kernel)) (by omega) (by omega) ?_
        refine x_aload_n (dat d_Mo_eats 82 rfl) rfl rfl ?_
        refine x_getr (r := 180) (dat d_Mo_eats 83 rfl) rfl f_Mo_26 (or_mk (by decide +kernel)) ?_
        refine x_iload_n (dat d_Mo_eats 84 rfl) rfl rfl ?_
        refine x_iald (n := 8) (v := (bd n) - nd) (dat d_Mo_eats 85 rfl) (ai_mk (by decide +kernel)) (by omega) (by omega) ((up_nk (by decide)).trans ((up_nk (by decide)).trans up_s)) ?_
        refine x_if_ne (tgt := 155) (dat d_Mo_eats 86 rfl) (by decide) (fun c_138 => ?_) (fun c_138 => ?_)
        · refine x_iinc (v' := ((n + 1 : Nat) : Int)) (L' := [vR 174, vI h, vI ((n + 1 : Nat) : Int)]) (dat d_Mo_eats 97 rfl) rfl (by decide) rfl (by omega) (by omega) rfl ?_
          refine x_goto (tgt := 2) (dat d_Mo_eats 98 rfl) (by decide) ?_
          first
          | exact fin _ (by rw [up_ne (by decide), up_ne (by decide), up_ne (by decide), c36]; exact m1 (by omega)) (fun i hi => by rw [up_ne (by decide), up_ne (by decide), up_ne (by decide)]) (fun o ho => rfl)
          | exact fin _ (by rw [up_s]; exact m2 (by omega)) (fun i hi => by rw [up_ni (Ne.symm hi), up_ne (by decide), up_ne (by decide), up_ne (by decide)]) (fun o ho => up_ne ho)
        · refine x_aload_n (dat d_Mo_eats 87 rfl) rfl rfl ?_
          refine x_dup (dat d_Mo_eats 88 rfl) rfl ?_
          refine x_geti (ji := 36) (v := σ1 174 36) (dat d_Mo_eats 89 rfl) rfl f_Mo_247 (oi_mk (by decide +kernel)) ((up_nk (by decide)).trans ((up_nk (by decide)).trans ((up_nk (by decide)).trans c36))) ?_
          refine x_iconst (dat d_Mo_eats 90 rfl) (by decide) ?_
          refine x_iload_n (dat d_Mo_eats 91 rfl) rfl rfl ?_
          refine x_ishl (v := ishl 1 (n : Int)) (dat d_Mo_eats 92 rfl) rfl ?_
          refine x_iconst (dat d_Mo_eats 93 rfl) (by decide) ?_
          refine x_ixor (v := ixor (ishl 1 (n : Int)) (-1)) (dat d_Mo_eats 94 rfl) rfl ?_
          refine x_iand (v := iand (σ1 174 36) (ixor (ishl 1 (n : Int)) (-1))) (dat d_Mo_eats 95 rfl) rfl ?_
          refine x_puti (ji := 36) (x := (iand (σ1 174 36) (ixor (ishl 1 (n : Int)) (-1)))) (dat d_Mo_eats 96 rfl) rfl f_Mo_247w (oi_mk (by decide +kernel)) (fun h => absurd h (by decide)) (by decide) ?_
          refine x_iinc (v' := ((n + 1 : Nat) : Int)) (L' := [vR 174, vI h, vI ((n + 1 : Nat) : Int)]) (dat d_Mo_eats 97 rfl) rfl (by decide) rfl (by omega) (by omega) rfl ?_
          refine x_goto (tgt := 2) (dat d_Mo_eats 98 rfl) (by decide) ?_
          first
          | exact fin _ (by rw [up_ne (by decide), up_ne (by decide), up_ne (by decide), c36]; exact m1 (by omega)) (fun i hi => by rw [up_ne (by decide), up_ne (by decide), up_ne (by decide)]) (fun o ho => rfl)
          | exact fin _ (by rw [up_s]; exact m2 (by omega)) (fun i hi => by rw [up_ni (Ne.symm hi), up_ne (by decide), up_ne (by decide), up_ne (by decide)]) (fun o ho => up_ne ho)
      refine x_iload_n (dat d_Mo_eats 2 rfl) rfl rfl ?_
      refine x_aload_n (dat d_Mo_eats 3 rfl) rfl rfl ?_
      refine x_inv (As := []) (dat d_Mo_eats 4 rfl) rfl c_Mo_people l_Mo_202 (by decide) (rv_mo (by decide +kernel)) rfl rfl (Nat.le_of_ble_eq_true rfl) ?_
      refine sp_Mo_people M1 ?_
      show Wx g y_Mo_eats Z K 7 [vR 174, vI h, vI (n : Int)] [vI (t 6), vI (n : Int)] σ1
      refine x_icmp_ge (tgt := 161) (dat d_Mo_eats 5 rfl) (by decide) (fun c_7 => (by omega)) (fun c_7 => ?_)
      refine x_aload_n (dat d_Mo_eats 6 rfl) rfl rfl ?_
      refine x_geti (ji := 35) (v := σ1 174 35) (dat d_Mo_eats 7 rfl) rfl f_Mo_286 (oi_mk (by decide +kernel)) rfl ?_
      refine x_iload_n (dat d_Mo_eats 8 rfl) rfl rfl ?_
      refine x_ishr (v := ishr (σ1 174 35) (n : Int)) (dat d_Mo_eats 9 rfl) rfl ?_
      refine x_iconst (dat d_Mo_eats 10 rfl) (by decide) ?_
      refine x_iand (v := yl) (dat d_Mo_eats 11 rfl) (by exact gl) ?_
      refine x_if_ne (tgt := 24) (dat d_Mo_eats 12 rfl) (by decide) (fun c_18 => ?_) (fun c_18 => ?_)
      · refine x_aload_n (dat d_Mo_eats 14 rfl) rfl rfl ?_
        refine x_getr (r := 180) (dat d_Mo_eats 15 rfl) rfl f_Mo_26 (or_mk (by decide +kernel)) ?_
        refine x_iload_n (dat d_Mo_eats 16 rfl) rfl rfl ?_
        refine x_iald (n := 8) (v := bd n) (dat d_Mo_eats 17 rfl) (ai_mk (by decide +kernel)) (by omega) (by omega) (eb) ?_
        refine x_aload_n (dat d_Mo_eats 18 rfl) rfl rfl ?_
        refine x_geti (ji := 30) (v := nd) (dat d_Mo_eats 19 rfl) rfl f_Mo_238 (oi_mk (by decide +kernel)) (e30) ?_
        refine x_icmp_ge (tgt := 61) (dat d_Mo_eats 20 rfl) (by decide) (fun c_34 => ?_) (fun c_34 => ?_)
        · refine x_aload_n (dat d_Mo_eats 37 rfl) rfl rfl ?_
          refine x_geti (ji := 36) (v := σ1 174 36) (dat d_Mo_eats 38 rfl) rfl f_Mo_247 (oi_mk (by decide +kernel)) rfl ?_
          refine x_iload_n (dat d_Mo_eats 39 rfl) rfl rfl ?_
          refine x_ishr (v := ishr (σ1 174 36) (n : Int)) (dat d_Mo_eats 40 rfl) rfl ?_
          refine x_iconst (dat d_Mo_eats 41 rfl) (by decide) ?_
          refine x_iand (v := yp) (dat d_Mo_eats 42 rfl) (by exact gp) ?_
          refine x_iconst (dat d_Mo_eats 43 rfl) (by decide) ?_
          refine x_icmp_ne (tgt := 93) (dat d_Mo_eats 44 rfl) (by decide) (fun c_70 => ?_) (fun c_70 => ?_)
          · have hal1 : al n = true := by
              rcases hl01 with z | z
              · exact z.2
              · exfalso; omega
            first
            | exact sC (up σ1 174 38 h) hal1 (by omega) (by rw [up_s, if_pos ⟨by rcases hp01 with z | z; exact z.2; (exfalso; omega), by omega, by omega⟩]) (fun i hi => up_ni (Ne.symm hi)) (fun o ho => up_ne ho)
            | exact sC σ1 hal1 (by omega) (by rw [if_neg (fun w => hp01.elim (fun z => by have := w.2; omega) (fun z => by rw [z.2] at w; exact Bool.noConfusion w.1))]) (fun i hi => rfl) (fun o ho => rfl)
          · refine x_aload_n (dat d_Mo_eats 45 rfl) rfl rfl ?_
            refine x_geti (ji := 30) (v := nd) (dat d_Mo_eats 46 rfl) rfl f_Mo_238 (oi_mk (by decide +kernel)) (e30) ?_
            refine x_if_le (tgt := 93) (dat d_Mo_eats 47 rfl) (by decide) (fun c_77 => ?_) (fun c_77 => ?_)
            · have hal1 : al n = true := by
                rcases hl01 with z | z
                · exact z.2
                · exfalso; omega
              first
              | exact sC (up σ1 174 38 h) hal1 (by omega) (by rw [up_s, if_pos ⟨by rcases hp01 with z | z; exact z.2; (exfalso; omega), by omega, by omega⟩]) (fun i hi => up_ni (Ne.symm hi)) (fun o ho => up_ne ho)
              | exact sC σ1 hal1 (by omega) (by rw [if_neg (fun w => hp01.elim (fun z => by have := w.2; omega) (fun z => by rw [z.2] at w; exact Bool.noConfusion w.1))]) (fun i hi => rfl) (fun o ho => rfl)
            · refine x_aload_n (dat d_Mo_eats 48 rfl) rfl rfl ?_
              refine x_geti (ji := 38) (v := σ1 174 38) (dat d_Mo_eats 49 rfl) rfl f_Mo_314 (oi_mk (by decide +kernel)) rfl ?_
              refine x_iconst (dat d_Mo_eats 50 rfl) (by decide) ?_
              refine x_icmp_ne (tgt := 93) (dat d_Mo_eats 51 rfl) (by decide) (fun c_85 => ?_) (fun c_85 => ?_)
              · have hal1 : al n = true := by
                  rcases hl01 with z | z
                  · exact z.2
                  · exfalso; omega
                first
                | exact sC (up σ1 174 38 h) hal1 (by omega) (by rw [up_s, if_pos ⟨by rcases hp01 with z | z; exact z.2; (exfalso; omega), by omega, by omega⟩]) (fun i hi => up_ni (Ne.symm hi)) (fun o ho => up_ne ho)
                | exact sC σ1 hal1 (by omega) (by rw [if_neg (fun w => hp01.elim (fun z => by have := w.2; omega) (fun z => by rw [z.2] at w; exact Bool.noConfusion w.1))]) (fun i hi => rfl) (fun o ho => rfl)
              · refine x_aload_n (dat d_Mo_eats 52 rfl) rfl rfl ?_
                refine x_iload_n (dat d_Mo_eats 53 rfl) rfl rfl ?_
                refine x_puti (ji := 38) (x := (h)) (dat d_Mo_eats 54 rfl) rfl f_Mo_314w (oi_mk (by decide +kernel)) (fun h => absurd h (by decide)) (by decide) ?_
                have hal1 : al n = true := by
                  rcases hl01 with z | z
                  · exact z.2
                  · exfalso; omega
                first
                | exact sC (up σ1 174 38 h) hal1 (by omega) (by rw [up_s, if_pos ⟨by rcases hp01 with z | z; exact z.2; (exfalso; omega), by omega, by omega⟩]) (fun i hi => up_ni (Ne.symm hi)) (fun o ho => up_ne ho)
                | exact sC σ1 hal1 (by omega) (by rw [if_neg (fun w => hp01.elim (fun z => by have := w.2; omega) (fun z => by rw [z.2] at w; exact Bool.noConfusion w.1))]) (fun i hi => rfl) (fun o ho => rfl)
        · refine x_aload_n (dat d_Mo_eats 21 rfl) rfl rfl ?_
          refine x_dup (dat d_Mo_eats 22 rfl) rfl ?_
          refine x_geti (ji := 35) (v := σ1 174 35) (dat d_Mo_eats 23 rfl) rfl f_Mo_286 (oi_mk (by decide +kernel)) rfl ?_
          refine x_iconst (dat d_Mo_eats 24 rfl) (by decide) ?_
          refine x_iload_n (dat d_Mo_eats 25 rfl) rfl rfl ?_
          refine x_ishl (v := ishl 1 (n : Int)) (dat d_Mo_eats 26 rfl) rfl ?_
          refine x_iconst (dat d_Mo_eats 27 rfl) (by decide) ?_
          refine x_ixor (v := ixor (ishl 1 (n : Int)) (-1)) (dat d_Mo_eats 28 rfl) rfl ?_
          refine x_iand (v := iand (σ1 174 35) (ixor (ishl 1 (n : Int)) (-1))) (dat d_Mo_eats 29 rfl) rfl ?_
          refine x_puti (ji := 35) (x := (iand (σ1 174 35) (ixor (ishl 1 (n : Int)) (-1)))) (dat d_Mo_eats 30 rfl) rfl f_Mo_286w (oi_mk (by decide +kernel)) (fun h => absurd h (by decide)) (by decide) ?_
          refine x_aload_n (dat d_Mo_eats 31 rfl) rfl rfl ?_
          refine x_getr (r := 191) (dat d_Mo_eats 32 rfl) rfl f_Mo_59 (or_mk (by decide +kernel)) ?_
          refine x_iload_n (dat d_Mo_eats 33 rfl) rfl rfl ?_
          refine x_iload_n (dat d_Mo_eats 34 rfl) rfl rfl ?_
          refine x_iast (n := 8) (dat d_Mo_eats 35 rfl) (ai_mk (by decide +kernel)) (by omega) (by omega) ?_
          refine x_goto (tgt := 155) (dat d_Mo_eats 36 rfl) (by decide) ?_
          refine x_iinc (v' := ((n + 1 : Nat) : Int)) (L' := [vR 174, vI h, vI ((n + 1 : Nat) : Int)]) (dat d_Mo_eats 97 rfl) rfl (by decide) rfl (by omega) (by omega) rfl ?_
          refine x_goto (tgt := 2) (dat d_Mo_eats 98 rfl) (by decide) ?_
          first
          | (have hal0 : al n = false := by
               rcases hl01 with z | z
               · exfalso; omega
               · exact z.2
             have hf : fedB C bd al n = false := by rw [fd, hal0]; rfl
             exact nx σ1 false hf (fedL false hal0) (keep hf _ s36) (by rw [if_neg (fun w => by have := w.1; exact Bool.noConfusion this)]) (fun p hp => ⟨rfl, rfl, rfl⟩) (by rw [if_neg (by decide)]; exact eb) (by rw [if_neg (fun w => by have := w.1; rw [hal0] at this; exact Bool.noConfusion this)]) (by rw [if_neg (by decide)]; omega) (by rw [if_neg (by decide)]; omega) (fun _ _ _ _ => rfl) (fun _ _ => rfl) (fun _ _ _ _ _ _ => rfl))
          | (have hal1 : al n = true := by
               rcases hl01 with z | z
               · exact z.2
               · exfalso; omega
             have hf : fedB C bd al n = false := by rw [fd, decide_eq_false (by omega), Bool.and_false]
             refine nx _ false hf ?_ ?_ ?_ (fun p hp => ⟨?_, ?_, ?_⟩) ?_ ?_ ?_ ?_ (fun i i1 i2 i3 => by rw [up_ne (by decide), up_ni (Ne.symm i1)]) (fun j hj => by rw [up_ne (by decide), up_ne (by decide)]) (fun o o1 o2 o3 o4 o5 => by rw [up_ne o4, up_ne o1])
             · rw [up_ne (by decide), up_s]
               refine (s35.andn (by decide) (Msk.one (n := 8) (by decide) (show (0 : Int) ≤ (n : Int) by omega) (show (n : Int) < (8 : Nat) by omega))).congr (fun q q0 q8 => ?_)
               show ((if q < (n : Int) then fedB C bd al q else al q) && !decide (q = (n : Int))) = (if q < (n : Int) then fedB C bd al q else if q = (n : Int) then false else al q)
               by_cases z : q < (n : Int)
               · rw [if_pos z, if_pos z, decide_eq_false (show ¬ q = (n : Int) by omega)]; simp
               · rw [if_neg z, if_neg z]
                 by_cases y : q = (n : Int)
                 · rw [if_pos y, decide_eq_true y]; simp
                 · rw [if_neg y, decide_eq_false y]; simp
             · rw [up_ne (by decide), up_ni (by decide)]; exact keep hf _ s36
             · rw [up_ne (by decide), up_ni (by decide), if_neg (fun w => by have := w.1; exact Bool.noConfusion this)]
             · rw [up_ne (by decide), up_ne (by decide)]
             · rw [up_ni (Ne.symm hp), up_ne (by decide)]
             · rw [up_ne (by decide), up_ne (by decide)]
             · rw [up_ne (by decide), up_ne (by decide), if_neg (by decide)]; exact eb
             · rw [up_s, if_pos ⟨hal1, rfl⟩]
             · rw [up_ne (by decide), up_ne (by decide), if_neg (by decide)]; omega
             · rw [up_ne (by decide), up_ne (by decide), if_neg (by decide)]; omega)
      · refine x_goto (tgt := 155) (dat d_Mo_eats 13 rfl) (by decide) ?_
        refine x_iinc (v' := ((n + 1 : Nat) : Int)) (L' := [vR 174, vI h, vI ((n + 1 : Nat) : Int)]) (dat d_Mo_eats 97 rfl) rfl (by decide) rfl (by omega) (by omega) rfl ?_
        refine x_goto (tgt := 2) (dat d_Mo_eats 98 rfl) (by decide) ?_
        first
        | (have hal0 : al n = false := by
             rcases hl01 with z | z
             · exfalso; omega
             · exact z.2
           have hf : fedB C bd al n = false := by rw [fd, hal0]; rfl
           exact nx σ1 false hf (fedL false hal0) (keep hf _ s36) (by rw [if_neg (fun w => by have := w.1; exact Bool.noConfusion this)]) (fun p hp => ⟨rfl, rfl, rfl⟩) (by rw [if_neg (by decide)]; exact eb) (by rw [if_neg (fun w => by have := w.1; rw [hal0] at this; exact Bool.noConfusion this)]) (by rw [if_neg (by decide)]; omega) (by rw [if_neg (by decide)]; omega) (fun _ _ _ _ => rfl) (fun _ _ => rfl) (fun _ _ _ _ _ _ => rfl))
        | (have hal1 : al n = true := by
             rcases hl01 with z | z
             · exact z.2
             · exfalso; omega
           have hf : fedB C bd al n = false := by rw [fd, decide_eq_false (by omega), Bool.and_false]
           refine nx _ false hf ?_ ?_ ?_ (fun p hp => ⟨?_, ?_, ?_⟩) ?_ ?_ ?_ ?_ (fun i i1 i2 i3 => by rw [up_ne (by decide), up_ni (Ne.symm i1)]) (fun j hj => by rw [up_ne (by decide), up_ne (by decide)]) (fun o o1 o2 o3 o4 o5 => by rw [up_ne o4, up_ne o1])
           · rw [up_ne (by decide), up_s]
             refine (s35.andn (by decide) (Msk.one (n := 8) (by decide) (show (0 : Int) ≤ (n : Int) by omega) (show (n : Int) < (8 : Nat) by omega))).congr (fun q q0 q8 => ?_)
             show ((if q < (n : Int) then fedB C bd al q else al q) && !decide (q = (n : Int))) = (if q < (n : Int) then fedB C bd al q else if q = (n : Int) then false else al q)
             by_cases z : q < (n : Int)
             · rw [if_pos z, if_pos z, decide_eq_false (show ¬ q = (n : Int) by omega)]; simp
             · rw [if_neg z, if_neg z]
               by_cases y : q = (n : Int)
               · rw [if_pos y, decide_eq_true y]; simp
               · rw [if_neg y, decide_eq_false y]; simp
           · rw [up_ne (by decide), up_ni (by decide)]; exact keep hf _ s36
           · rw [up_ne (by decide), up_ni (by decide), if_neg (fun w => by have := w.1; exact Bool.noConfusion this)]
           · rw [up_ne (by decide), up_ne (by decide)]
           · rw [up_ni (Ne.symm hp), up_ne (by decide)]
           · rw [up_ne (by decide), up_ne (by decide)]
           · rw [up_ne (by decide), up_ne (by decide), if_neg (by decide)]; exact eb
           · rw [up_s, if_pos ⟨hal1, rfl⟩]
           · rw [up_ne (by decide), up_ne (by decide), if_neg (by decide)]; omega
           · rw [up_ne (by decide), up_ne (by decide), if_neg (by decide)]; omega)
  refine x_enter 1 rfl rfl rfl (fun Z => ?_)
  show Wx g y_Mo_eats Z K 0 [vR 174, vI h, vU] [] σ
  refine x_iconst (dat d_Mo_eats 0 rfl) (by decide) ?_
  refine x_istore_n (L' := [vR 174, vI h, vI 0]) (dat d_Mo_eats 1 rfl) rfl (by decide) rfl rfl ?_
  refine lp Z (t 6).toNat 0 σ (by omega) ⟨⟨?_, ?_, ?_⟩, fun p p0 p1 => ⟨?_, ?_, ?_⟩, ?_, fun _ _ _ _ => rfl, fun _ _ => rfl, fun _ _ _ _ _ _ => rfl⟩
  · exact hal.congr (fun q q0 q8 => by show al q = if q < ((0 : Nat) : Int) then _ else al q; rw [if_neg (by omega)])
  · exact hpt.congr (fun q q0 q8 => by show pt q = if q < ((0 : Nat) : Int) then _ else pt q; rw [if_neg (by omega)])
  · rw [hbt, if_neg (fun w => by have := w.2.2; exact Bool.noConfusion this)]
  · rw [if_neg (by omega)]; exact (hbd p p0 p1).1
  · rw [if_neg (fun w => by omega)]
  · rw [if_neg (fun w => by omega)]; omega
  · rw [hea]; show (0 : Int) = cS C 3 * 0; omega
