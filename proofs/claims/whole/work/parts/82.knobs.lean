/-! the twin's settings, knob by knob */ -/
theorem mC_mk {D C' : Cf} (e1 : D.1 = C'.1) (e2 : D.2.1 = C'.2.1) (e3 : D.2.2.1 = C'.2.2.1) (e4 : D.2.2.2.1 = C'.2.2.2.1) (e5 : D.2.2.2.2.1 = C'.2.2.2.2.1) (e6 : D.2.2.2.2.2 = C'.2.2.2.2.2) : C' = D := (Prod.ext e1 (Prod.ext e2 (Prod.ext e3 (Prod.ext e4 (Prod.ext e5 e6))))).symm
section
variable {s m w t : Int → Int}
theorem mC_N (h15 : s 15 = t 2) (h30 : s 30 = t 4) (h31 : s 31 = t 5) (h24 : s 24 = -1) : (mC s m w t).1 = (cfg t).1 := by
  unfold mC cfg
  funext i
  show (if i = 0 then t 6 else if i = 1 then t 3 else if i = 2 then s 15 else if i = 3 then s 30 else if i = 4 then s 31 else if i = 5 then (if s 24 = -1 then -1 else s 25) else if i = 6 then s 24 else if i = 7 then (if s 24 = -1 then 0 else s 26) else -1) = (if i = 0 then t 6 else if i = 1 then t 3 else if i = 2 then t 2 else if i = 3 then t 4 else if i = 4 then t 5 else if i = 7 then 0 else -1)
  rw [if_pos h24, if_pos h24, h15, h30, h31, h24]
  repeat' split
  all_goals first | rfl | omega
theorem mC_L (h30 : s 30 = t 4) (h31 : s 31 = t 5) (h24 : s 24 = -1) : (mC s m w t).1 = (mS (cfg t) 2 (s 15)).1 := by
  unfold mC mS cfg
  funext i
  show (if i = 0 then t 6 else if i = 1 then t 3 else if i = 2 then s 15 else if i = 3 then s 30 else if i = 4 then s 31 else if i = 5 then (if s 24 = -1 then -1 else s 25) else if i = 6 then s 24 else if i = 7 then (if s 24 = -1 then 0 else s 26) else -1) = (if i = 2 then s 15 else if i = 0 then t 6 else if i = 1 then t 3 else if i = 2 then t 2 else if i = 3 then t 4 else if i = 4 then t 5 else if i = 7 then 0 else -1)
  rw [if_pos h24, if_pos h24, h30, h31, h24]
  repeat' split
  all_goals first | rfl | omega
theorem mC_Nd (h15 : s 15 = t 2) (h31 : s 31 = t 5) (h24 : s 24 = -1) : (mC s m w t).1 = (mS (cfg t) 3 (s 30)).1 := by
  unfold mC mS cfg
  funext i
  show (if i = 0 then t 6 else if i = 1 then t 3 else if i = 2 then s 15 else if i = 3 then s 30 else if i = 4 then s 31 else if i = 5 then (if s 24 = -1 then -1 else s 25) else if i = 6 then s 24 else if i = 7 then (if s 24 = -1 then 0 else s 26) else -1) = (if i = 3 then s 30 else if i = 0 then t 6 else if i = 1 then t 3 else if i = 2 then t 2 else if i = 3 then t 4 else if i = 4 then t 5 else if i = 7 then 0 else -1)
  rw [if_pos h24, if_pos h24, h15, h31, h24]
  repeat' split
  all_goals first | rfl | omega
theorem mC_Ev (h15 : s 15 = t 2) (h30 : s 30 = t 4) (h24 : s 24 = -1) : (mC s m w t).1 = (mS (cfg t) 4 (s 31)).1 := by
  unfold mC mS cfg
  funext i
  show (if i = 0 then t 6 else if i = 1 then t 3 else if i = 2 then s 15 else if i = 3 then s 30 else if i = 4 then s 31 else if i = 5 then (if s 24 = -1 then -1 else s 25) else if i = 6 then s 24 else if i = 7 then (if s 24 = -1 then 0 else s 26) else -1) = (if i = 4 then s 31 else if i = 0 then t 6 else if i = 1 then t 3 else if i = 2 then t 2 else if i = 3 then t 4 else if i = 4 then t 5 else if i = 7 then 0 else -1)
  rw [if_pos h24, if_pos h24, h15, h30, h24]
  repeat' split
  all_goals first | rfl | omega
theorem mC_Lf (h15 : s 15 = t 2) (h30 : s 30 = t 4) (h31 : s 31 = t 5) (h24 : s 24 ≠ -1) : (mC s m w t).1 = (mLoaf (cfg t) (s 25) (s 24) (s 26)).1 := by
  unfold mC mLoaf mS cfg
  funext i
  show (if i = 0 then t 6 else if i = 1 then t 3 else if i = 2 then s 15 else if i = 3 then s 30 else if i = 4 then s 31 else if i = 5 then (if s 24 = -1 then -1 else s 25) else if i = 6 then s 24 else if i = 7 then (if s 24 = -1 then 0 else s 26) else -1) = (if i = 7 then s 26 else if i = 6 then s 24 else if i = 5 then s 25 else if i = 0 then t 6 else if i = 1 then t 3 else if i = 2 then t 2 else if i = 3 then t 4 else if i = 4 then t 5 else if i = 7 then 0 else -1)
  rw [if_neg h24, if_neg h24, h15, h30, h31]
  repeat' split
  all_goals first | rfl | omega
theorem mC_G (h13 : s 13 = 0) : (mC s m w t).2.1 = (cfg t).2.1 := by
  funext p
  show (tb (s 13) p || decide (mnT t p = 3)) = decide (mnT t p = 3)
  rw [h13, show tb 0 p = false by unfold tb; simp, Bool.false_or]
theorem mC_Gl : (mC s m w t).2.1 = fun p => cGl (cfg t) p || tb (s 13) p := by
  funext p
  show (tb (s 13) p || decide (mnT t p = 3)) = (decide (mnT t p = 3) || tb (s 13) p)
  exact Bool.or_comm _ _
theorem mC_O (h14 : s 14 = -1) (h16 : s 16 = 0) : (mC s m w t).2.2.2.1 = (cfg t).2.2.2.1 := by
  funext a b
  show (!(decide (0 ≤ a ∧ a = s 14) || decide (0 ≤ b ∧ b = s 14)) && opT t (s 16) a b) = opT t 0 a b
  rw [h14, h16, decide_eq_false (show ¬ (0 ≤ a ∧ a = -1) by omega), decide_eq_false (show ¬ (0 ≤ b ∧ b = -1) by omega)]
  rfl
theorem mC_Op (h14 : s 14 = -1) : (mC s m w t).2.2.2.1 = opT t (s 16) := by
  funext a b
  show (!(decide (0 ≤ a ∧ a = s 14) || decide (0 ≤ b ∧ b = s 14)) && opT t (s 16) a b) = opT t (s 16) a b
  rw [h14, decide_eq_false (show ¬ (0 ≤ a ∧ a = -1) by omega), decide_eq_false (show ¬ (0 ≤ b ∧ b = -1) by omega)]
  rfl
theorem mC_Os (h14 : 0 ≤ s 14) (h16 : s 16 = 0) : (mC s m w t).2.2.2.1 = opStay (cfg t) (s 14) := by
  funext a b
  show (!(decide (0 ≤ a ∧ a = s 14) || decide (0 ≤ b ∧ b = s 14)) && opT t (s 16) a b) = (opT t 0 a b && !(decide (a = s 14) || decide (b = s 14)))
  rw [h16, decide_eq_decide.mpr (show (0 ≤ a ∧ a = s 14) ↔ a = s 14 from ⟨fun w => w.2, fun w => ⟨by omega, w⟩⟩), decide_eq_decide.mpr (show (0 ≤ b ∧ b = s 14) ↔ b = s 14 from ⟨fun w => w.2, fun w => ⟨by omega, w⟩⟩)]
  exact Bool.and_comm _ _
theorem mC_W (h17 : s 17 = -1) (h20 : s 20 = -1) (h27 : s 27 = -1) (h32 : s 32 = -1) : (mC s m w t).2.2.2.2.1 = (cfg t).2.2.2.2.1 := by
  funext h p
  show (if 0 ≤ h ∧ (0 ≤ p ∨ h = s 27) then cellM s w t p h else cellT t (gasM s p) h) = cellT t p h
  by_cases z : 0 ≤ h ∧ (0 ≤ p ∨ h = s 27)
  · rw [if_pos z]
    unfold cellM gasM
    rw [if_neg (show ¬ h = s 27 by omega), if_neg (show ¬ (h = s 17 ∧ p = s 18) from fun y => by omega), if_neg (show ¬ (p = s 20 ∧ s 21 ≤ h ∧ h < s 21 + s 22) from fun y => by omega), if_pos h32]
  · rw [if_neg z]
    unfold gasM
    rw [if_pos h32]
theorem mC_Wf (h17 : s 17 = -1) (h20 : s 20 = -1) (h27 : 0 ≤ s 27) (h32 : s 32 = -1) : (mC s m w t).2.2.2.2.1 = whFeast (cfg t) (s 27) (s 28) := by
  funext h p
  show (if 0 ≤ h ∧ (0 ≤ p ∨ h = s 27) then cellM s w t p h else cellT t (gasM s p) h) = (if h = s 27 then s 28 else cellT t p h)
  have e : gasM s p = p := by unfold gasM; rw [if_pos h32]
  by_cases y : h = s 27
  · rw [if_pos ⟨by omega, Or.inr y⟩, if_pos y]
    unfold cellM
    rw [if_pos y]
  · rw [if_neg y]
    by_cases z : 0 ≤ h ∧ (0 ≤ p ∨ h = s 27)
    · rw [if_pos z]
      unfold cellM
      rw [if_neg y, if_neg (show ¬ (h = s 17 ∧ p = s 18) from fun y => by omega), if_neg (show ¬ (p = s 20 ∧ s 21 ≤ h ∧ h < s 21 + s 22) from fun y => by omega), e]
    · rw [if_neg z, e]
theorem mC_S (hm : ∀ p : Int, 0 ≤ p → p < 8 → m p = 0) : (mC s m w t).2.2.2.2.2 = (cfg t).2.2.2.2.2 := by
  funext p
  show t (22 + 17 * p) + (if 0 ≤ p ∧ p < 8 then m p else 0) = t (22 + 17 * p)
  by_cases z : 0 ≤ p ∧ p < 8
  · rw [if_pos z, hm p z.1 z.2, Int.add_zero]
  · rw [if_neg z, Int.add_zero]
end
section
variable {σ σ' : xS} {t : Int → Int} {t0 : Int} {C C' : Cf}
/-- a knob turned: what a town is stays -/
theorem MoC.knob (H : MoC σ t t0 C) (hC : CfOk C') (e : C' = mC (σ' 174) (σ' 179) (σ' 178) t) (h12 : σ' 174 12 = σ 174 12) (h175 : σ' 175 = σ 175) (hS : MoS (σ' 174) t) (h13 : 0 ≤ σ' 174 13 ∧ σ' 174 13 < 256) (h16 : 0 ≤ σ' 174 16 ∧ σ' 174 16 < 64) : MoC σ' t t0 C' := ⟨⟨H.1.1.same h12 h175, H.1.2⟩, ⟨e, hC⟩, hS, h13, h16⟩
theorem k_stay {p : Int} (H : MoC σ t t0 (cfg t)) (P : Pln (σ 174) t) (hm : ∀ p : Int, 0 ≤ p → p < 8 → σ 179 p = 0) (p0 : 0 ≤ p) : MoC (up σ 174 14 p) t t0 (styC t p) := by
  obtain ⟨⟨⟨h13, h14⟩, ⟨h15, h16⟩, ⟨h17, h20⟩, h24, h27⟩, ⟨⟨h30, h31⟩, h32⟩, -⟩ := P
  have q : ∀ i : Int, i ≠ 14 → up σ 174 14 p 174 i = σ 174 i := fun i hi => up_ni (Ne.symm hi)
  have e14 : up σ 174 14 p 174 14 = p := up_s
  have e179 : up σ 174 14 p 179 = σ 179 := up_ne (by decide)
  refine H.knob (H.2.1.2.opn _) ?_ (q 12 (by decide)) (up_ne (by decide)) ⟨Or.inl (by rw [q 20 (by decide)]; exact h20), Or.inl (by rw [q 32 (by decide)]; exact h32)⟩ (by rw [q 13 (by decide), h13]; decide) (by rw [q 16 (by decide), h16]; decide)
  refine mC_mk (mC_N ?_ ?_ ?_ ?_) (mC_G ?_) rfl ?_ (mC_W ?_ ?_ ?_ ?_) (mC_S ?_)
  · rw [q 15 (by decide)]; exact h15
  · rw [q 30 (by decide)]; exact h30
  · rw [q 31 (by decide)]; exact h31
  · rw [q 24 (by decide)]; exact h24
  · rw [q 13 (by decide)]; exact h13
  · rw [mC_Os (by rw [e14]; exact p0) (by rw [q 16 (by decide)]; exact h16), e14]; rfl
  · rw [q 17 (by decide)]; exact h17
  · rw [q 20 (by decide)]; exact h20
  · rw [q 27 (by decide)]; exact h27
  · rw [q 32 (by decide)]; exact h32
  · rw [e179]; exact hm
theorem k_wed {h c : Int} (H : MoC σ t t0 (cfg t)) (P : Pln (σ 174) t) (hm : ∀ p : Int, 0 ≤ p → p < 8 → σ 179 p = 0) (h0 : 0 ≤ h) : MoC (up (up σ 174 27 h) 174 28 c) t t0 (wedC t h c) := by
  obtain ⟨⟨⟨h13, h14⟩, ⟨h15, h16⟩, ⟨h17, h20⟩, h24, h27⟩, ⟨⟨h30, h31⟩, h32⟩, -⟩ := P
  have q : ∀ i : Int, i ≠ 27 → i ≠ 28 → up (up σ 174 27 h) 174 28 c 174 i = σ 174 i := fun i i1 i2 => by rw [up_ni (Ne.symm i2), up_ni (Ne.symm i1)]
  have e27 : up (up σ 174 27 h) 174 28 c 174 27 = h := by rw [up_ni (by decide), up_s]
  have e28 : up (up σ 174 27 h) 174 28 c 174 28 = c := up_s
  have e179 : up (up σ 174 27 h) 174 28 c 179 = σ 179 := by rw [up_ne (by decide), up_ne (by decide)]
  refine H.knob (H.2.1.2.whr _) ?_ (q 12 (by decide) (by decide)) (by rw [up_ne (by decide), up_ne (by decide)]) ⟨Or.inl (by rw [q 20 (by decide) (by decide)]; exact h20), Or.inl (by rw [q 32 (by decide) (by decide)]; exact h32)⟩ (by rw [q 13 (by decide) (by decide), h13]; decide) (by rw [q 16 (by decide) (by decide), h16]; decide)
  refine mC_mk (mC_N ?_ ?_ ?_ ?_) (mC_G ?_) rfl (mC_O ?_ ?_) ?_ (mC_S ?_)
  · rw [q 15 (by decide) (by decide)]; exact h15
  · rw [q 30 (by decide) (by decide)]; exact h30
  · rw [q 31 (by decide) (by decide)]; exact h31
  · rw [q 24 (by decide) (by decide)]; exact h24
  · rw [q 13 (by decide) (by decide)]; exact h13
  · rw [q 14 (by decide) (by decide)]; exact h14
  · rw [q 16 (by decide) (by decide)]; exact h16
  · rw [mC_Wf, e27, e28]
    · rfl
    · rw [q 17 (by decide) (by decide)]; exact h17
    · rw [q 20 (by decide) (by decide)]; exact h20
    · rw [e27]; exact h0
    · rw [q 32 (by decide) (by decide)]; exact h32
  · rw [e179]; exact hm
theorem k_law {l : Int} (H : MoC σ t t0 C) (s0 : Int → Int) (P : Pln s0 t) (hs : ∀ i : Int, i ≠ 15 → i ≠ 35 → i ≠ 36 → i ≠ 37 → i ≠ 38 → i ≠ 40 → i ≠ 52 → σ 174 i = s0 i) (hm : ∀ p : Int, 0 ≤ p → p < 8 → σ 179 p = 0) (l0 : 0 ≤ l) (l1 : l ≤ 3) : MoC (up σ 174 15 l) t t0 (mS (cfg t) 2 l) := by
  obtain ⟨⟨⟨h13, h14⟩, ⟨h15, h16⟩, ⟨h17, h20⟩, h24, h27⟩, ⟨⟨h30, h31⟩, h32⟩, -⟩ := P
  have q : ∀ i : Int, i ≠ 15 → i ≠ 35 → i ≠ 36 → i ≠ 37 → i ≠ 38 → i ≠ 40 → i ≠ 52 → up σ 174 15 l 174 i = s0 i := fun i i1 i2 i3 i4 i5 i6 i7 => by rw [up_ni (Ne.symm i1)]; exact hs i i1 i2 i3 i4 i5 i6 i7
  have e15 : up σ 174 15 l 174 15 = l := up_s
  have e179 : up σ 174 15 l 179 = σ 179 := up_ne (by decide)
  refine H.knob ((cfg_ok H.1.2).law l0 l1) ?_ (up_ni (by decide)) (up_ne (by decide)) ⟨Or.inl (by rw [q 20 (by decide) (by decide) (by decide) (by decide) (by decide) (by decide) (by decide)]; exact h20), Or.inl (by rw [q 32 (by decide) (by decide) (by decide) (by decide) (by decide) (by decide) (by decide)]; exact h32)⟩ (by rw [q 13 (by decide) (by decide) (by decide) (by decide) (by decide) (by decide) (by decide), h13]; decide) (by rw [q 16 (by decide) (by decide) (by decide) (by decide) (by decide) (by decide) (by decide), h16]; decide)
  refine mC_mk ?_ (mC_G ?_) rfl (mC_O ?_ ?_) (mC_W ?_ ?_ ?_ ?_) (mC_S ?_)
  · rw [mC_L, e15]
    · rw [q 30 (by decide) (by decide) (by decide) (by decide) (by decide) (by decide) (by decide)]; exact h30
    · rw [q 31 (by decide) (by decide) (by decide) (by decide) (by decide) (by decide) (by decide)]; exact h31
    · rw [q 24 (by decide) (by decide) (by decide) (by decide) (by decide) (by decide) (by decide)]; exact h24
  · rw [q 13 (by decide) (by decide) (by decide) (by decide) (by decide) (by decide) (by decide)]; exact h13
  · rw [q 14 (by decide) (by decide) (by decide) (by decide) (by decide) (by decide) (by decide)]; exact h14
  · rw [q 16 (by decide) (by decide) (by decide) (by decide) (by decide) (by decide) (by decide)]; exact h16
  · rw [q 17 (by decide) (by decide) (by decide) (by decide) (by decide) (by decide) (by decide)]; exact h17
  · rw [q 20 (by decide) (by decide) (by decide) (by decide) (by decide) (by decide) (by decide)]; exact h20
  · rw [q 27 (by decide) (by decide) (by decide) (by decide) (by decide) (by decide) (by decide)]; exact h27
  · rw [q 32 (by decide) (by decide) (by decide) (by decide) (by decide) (by decide) (by decide)]; exact h32
  · rw [e179]; exact hm
end
