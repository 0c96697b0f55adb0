/-! the twin's knobs in a loop: a town taken up, some knobs turned as it may be -/
def pV (t : Int → Int) (i : Int) : Int := if i = 15 then t 2 else if i = 30 then t 4 else if i = 31 then t 5 else if i = 13 ∨ i = 16 then 0 else -1
def pL : List Int := [13, 14, 15, 16, 17, 20, 24, 27, 30, 31, 32]
def KnX (σ : xS) (t : Int → Int) (t0 : Int) (X : List Int) : Prop := (MoT σ t t0 ∧ TownOk t) ∧ (∀ i : Int, i ∈ pL → i ∉ X → σ 174 i = pV t i) ∧ ((σ 174 36 = 0 ∧ σ 174 37 = 0) ∧ σ 174 52 = 0 ∧ σ 174 39 = 0) ∧ ((179 : Int) ∉ X → ∀ p : Int, 0 ≤ p → p < 8 → σ 179 p = 0)
section
variable {g : xG} {K : Option MV → xS → Prop} {σ σ' : xS} {t : Int → Int} {t0 : Int} {C : Cf} {X : List Int}
theorem KnX.s13 (H : KnX σ t t0 X) (h : (13 : Int) ∉ X) : σ 174 13 = 0 := H.2.1 13 (by decide) h
theorem KnX.s14 (H : KnX σ t t0 X) (h : (14 : Int) ∉ X) : σ 174 14 = -1 := H.2.1 14 (by decide) h
theorem KnX.s15 (H : KnX σ t t0 X) (h : (15 : Int) ∉ X) : σ 174 15 = t 2 := H.2.1 15 (by decide) h
theorem KnX.s16 (H : KnX σ t t0 X) (h : (16 : Int) ∉ X) : σ 174 16 = 0 := H.2.1 16 (by decide) h
theorem KnX.s17 (H : KnX σ t t0 X) (h : (17 : Int) ∉ X) : σ 174 17 = -1 := H.2.1 17 (by decide) h
theorem KnX.s20 (H : KnX σ t t0 X) (h : (20 : Int) ∉ X) : σ 174 20 = -1 := H.2.1 20 (by decide) h
theorem KnX.s24 (H : KnX σ t t0 X) (h : (24 : Int) ∉ X) : σ 174 24 = -1 := H.2.1 24 (by decide) h
theorem KnX.s27 (H : KnX σ t t0 X) (h : (27 : Int) ∉ X) : σ 174 27 = -1 := H.2.1 27 (by decide) h
theorem KnX.s30 (H : KnX σ t t0 X) (h : (30 : Int) ∉ X) : σ 174 30 = t 4 := H.2.1 30 (by decide) h
theorem KnX.s31 (H : KnX σ t t0 X) (h : (31 : Int) ∉ X) : σ 174 31 = t 5 := H.2.1 31 (by decide) h
theorem KnX.s32 (H : KnX σ t t0 X) (h : (32 : Int) ∉ X) : σ 174 32 = -1 := H.2.1 32 (by decide) h
theorem KnX.pln (H : MoC σ t t0 (cfg t)) (P : Pln (σ 174) t) (hm : ∀ p : Int, 0 ≤ p → p < 8 → σ 179 p = 0) (X : List Int) : KnX σ t t0 X := by
  obtain ⟨⟨⟨h13, h14⟩, ⟨h15, h16⟩, ⟨h17, h20⟩, h24, h27⟩, ⟨⟨h30, h31⟩, h32⟩, ⟨h36, h52⟩, h37, h39⟩ := P
  refine ⟨H.1, fun i hi _ => ?_, ⟨⟨h36, h37⟩, h52, h39⟩, fun _ => hm⟩
  unfold pL at hi
  simp only [List.mem_cons, List.not_mem_nil, or_false] at hi
  rcases hi with z | z | z | z | z | z | z | z | z | z | z <;> rw [z]
  · exact h13
  · exact h14
  · exact h15
  · exact h16
  · exact h17
  · exact h20
  · exact h24
  · exact h27
  · exact h30
  · exact h31
  · exact h32
theorem KnX.put {i v : Int} (H : KnX σ t t0 X) (hi : (i ∈ X ∨ i ∉ pL) ∧ (i ≠ 12 ∧ i ≠ 36) ∧ (i ≠ 37 ∧ i ≠ 52) ∧ i ≠ 39) : KnX (up σ 174 i v) t t0 X := by
  obtain ⟨hx, ⟨h12, h36⟩, ⟨h37, h52⟩, h39⟩ := hi
  have q : ∀ j : Int, j ≠ i → up σ 174 i v 174 j = σ 174 j := fun j hj => up_ni (Ne.symm hj)
  have e9 : up σ 174 i v 179 = σ 179 := up_ne (by decide)
  refine ⟨⟨H.1.1.same (q 12 (Ne.symm h12)) (up_ne (by decide)), H.1.2⟩, fun j hj hj2 => ?_, ⟨⟨?_, ?_⟩, ?_, ?_⟩, fun h => by rw [e9]; exact H.2.2.2 h⟩
  · rw [q j (fun e => by rw [e] at hj hj2; exact hx.elim (fun w => hj2 w) (fun w => w hj))]
    exact H.2.1 j hj hj2
  · rw [q 36 (Ne.symm h36)]; exact H.2.2.1.1.1
  · rw [q 37 (Ne.symm h37)]; exact H.2.2.1.1.2
  · rw [q 52 (Ne.symm h52)]; exact H.2.2.1.2.1
  · rw [q 39 (Ne.symm h39)]; exact H.2.2.1.2.2
theorem KnX.oth (H : KnX σ t t0 X) (h174 : σ' 174 = σ 174) (h175 : σ' 175 = σ 175) (h179 : σ' 179 = σ 179) : KnX σ' t t0 X := ⟨⟨H.1.1.same (by rw [h174]) h175, H.1.2⟩, by rw [h174]; exact H.2.1, by rw [h174]; exact H.2.2.1, by rw [h179]; exact H.2.2.2⟩
theorem KnX.run (H : KnX σ t t0 X) (R : Tw1 σ σ' C) : KnX σ' t t0 X := by
  have F := R.2.2.2
  have z := R.z
  have hp : ∀ i : Int, i ∈ pL → i ≤ 34 := by decide
  refine ⟨⟨H.1.1.same (F.at (by decide)) (F.2 175 (by decide)), H.1.2⟩, fun i hi hx => ?_, ⟨⟨z.1, z.2.1⟩, z.2.2, ?_⟩, fun h => by rw [F.2 179 (by decide)]; exact H.2.2.2 h⟩
  · rw [F.at (Or.inl (hp i hi))]
    exact H.2.1 i hi hx
  · rw [F.at (by decide)]; exact H.2.2.1.2.2
theorem sp_Kn_runs (H : KnX σ t t0 X) (M : MoC σ t t0 C) (hlf : cS C 6 = -1 ∨ (0 ≤ cS C 5 ∧ cS C 5 < t 6)) (k : ∀ σ' : xS, Tw1 σ σ' C → MoC σ' t t0 C → KnX σ' t t0 X → MvF σ' σ → K none σ') : Mt g y_Mo_runs [vR 174] σ K :=
  sp_Mo_runs1 M H.2.2.1.1.1 H.2.2.1.1.2 H.2.2.1.2.1 H.2.2.1.2.2 hlf (fun σ' R => k σ' R (M.same R.2.2.2) (H.run R) R.2.2.2)
theorem sp_Kn_starved (H : KnX σ t t0 X) (M : MoC σ t t0 C) (hlf : cS C 6 = -1 ∨ (0 ≤ cS C 5 ∧ cS C 5 < t 6)) (k : ∀ σ' : xS, Tw1 σ σ' C → MoC σ' t t0 C → KnX σ' t t0 X → MvF σ' σ → K (some (vI (stv C))) σ') : Mt g y_Mo_starved [vR 174] σ K :=
  sp_Mo_starved M H.2.2.1.1.1 H.2.2.1.1.2 H.2.2.1.2.1 H.2.2.1.2.2 hlf (fun σ' R => k σ' R (M.same R.2.2.2) (H.run R) R.2.2.2)
theorem kn_glv {m : Int} (H : KnX σ t t0 [13]) (m0 : 0 ≤ m) (m1 : m < 256) (e : σ 174 13 = m) : MoC σ t t0 (mGl (cfg t) (fun p => cGl (cfg t) p || tb m p)) :=
  ⟨H.1, ⟨mC_mk (mC_N (H.s15 (by decide)) (H.s30 (by decide)) (H.s31 (by decide)) (H.s24 (by decide))) (by rw [mC_Gl, e]; rfl) rfl (mC_O (H.s14 (by decide)) (H.s16 (by decide))) (mC_W (H.s17 (by decide)) (H.s20 (by decide)) (H.s27 (by decide)) (H.s32 (by decide))) (mC_S (H.2.2.2 (by decide))), (cfg_ok H.1.2).glv _⟩, ⟨Or.inl (H.s20 (by decide)), Or.inl (H.s32 (by decide))⟩, by rw [e]; exact ⟨m0, m1⟩, by rw [H.s16 (by decide)]; decide⟩
theorem kn_pea {m : Int} (H : KnX σ t t0 [16]) (m0 : 0 ≤ m) (m1 : m < 64) (e : σ 174 16 = m) : MoC σ t t0 (mOp (cfg t) (opT t m)) :=
  ⟨H.1, ⟨mC_mk (mC_N (H.s15 (by decide)) (H.s30 (by decide)) (H.s31 (by decide)) (H.s24 (by decide))) (mC_G (H.s13 (by decide))) rfl (by rw [mC_Op (H.s14 (by decide)), e]; rfl) (mC_W (H.s17 (by decide)) (H.s20 (by decide)) (H.s27 (by decide)) (H.s32 (by decide))) (mC_S (H.2.2.2 (by decide))), (cfg_ok H.1.2).opn _⟩, ⟨Or.inl (H.s20 (by decide)), Or.inl (H.s32 (by decide))⟩, by rw [H.s13 (by decide)]; decide, by rw [e]; exact ⟨m0, m1⟩⟩
theorem kn_law {l : Int} (H : KnX σ t t0 [15]) (l0 : 0 ≤ l) (l1 : l ≤ 3) (e : σ 174 15 = l) : MoC σ t t0 (mS (cfg t) 2 l) :=
  ⟨H.1, ⟨mC_mk (by rw [mC_L (H.s30 (by decide)) (H.s31 (by decide)) (H.s24 (by decide)), e]) (mC_G (H.s13 (by decide))) rfl (mC_O (H.s14 (by decide)) (H.s16 (by decide))) (mC_W (H.s17 (by decide)) (H.s20 (by decide)) (H.s27 (by decide)) (H.s32 (by decide))) (mC_S (H.2.2.2 (by decide))), (cfg_ok H.1.2).law l0 l1⟩, ⟨Or.inl (H.s20 (by decide)), Or.inl (H.s32 (by decide))⟩, by rw [H.s13 (by decide)]; decide, by rw [H.s16 (by decide)]; decide⟩
theorem kn_wed {h c : Int} (H : KnX σ t t0 [27]) (h0 : 0 ≤ h) (e : σ 174 27 = h) (e2 : σ 174 28 = c) : MoC σ t t0 (wedC t h c) :=
  ⟨H.1, ⟨mC_mk (mC_N (H.s15 (by decide)) (H.s30 (by decide)) (H.s31 (by decide)) (H.s24 (by decide))) (mC_G (H.s13 (by decide))) rfl (mC_O (H.s14 (by decide)) (H.s16 (by decide))) (by rw [mC_Wf (H.s17 (by decide)) (H.s20 (by decide)) (by omega) (H.s32 (by decide)), e, e2]; rfl) (mC_S (H.2.2.2 (by decide))), (cfg_ok H.1.2).whr _⟩, ⟨Or.inl (H.s20 (by decide)), Or.inl (H.s32 (by decide))⟩, by rw [H.s13 (by decide)]; decide, by rw [H.s16 (by decide)]; decide⟩
theorem kn_need {m : Int} (H : KnX σ t t0 [30]) (m0 : 0 ≤ m) (m1 : m ≤ 9) (e : σ 174 30 = m) : MoC σ t t0 (mS (cfg t) 3 m) :=
  ⟨H.1, ⟨mC_mk (by rw [mC_Nd (H.s15 (by decide)) (H.s31 (by decide)) (H.s24 (by decide)), e]) (mC_G (H.s13 (by decide))) rfl (mC_O (H.s14 (by decide)) (H.s16 (by decide))) (mC_W (H.s17 (by decide)) (H.s20 (by decide)) (H.s27 (by decide)) (H.s32 (by decide))) (mC_S (H.2.2.2 (by decide))), (cfg_ok H.1.2).need m0 m1⟩, ⟨Or.inl (H.s20 (by decide)), Or.inl (H.s32 (by decide))⟩, by rw [H.s13 (by decide)]; decide, by rw [H.s16 (by decide)]; decide⟩
theorem kn_ev {m : Int} (H : KnX σ t t0 [31]) (m0 : 1 ≤ m) (m1 : m ≤ 24) (e : σ 174 31 = m) : MoC σ t t0 (mS (cfg t) 4 m) :=
  ⟨H.1, ⟨mC_mk (by rw [mC_Ev (H.s15 (by decide)) (H.s30 (by decide)) (H.s24 (by decide)), e]) (mC_G (H.s13 (by decide))) rfl (mC_O (H.s14 (by decide)) (H.s16 (by decide))) (mC_W (H.s17 (by decide)) (H.s20 (by decide)) (H.s27 (by decide)) (H.s32 (by decide))) (mC_S (H.2.2.2 (by decide))), (cfg_ok H.1.2).every m0 m1⟩, ⟨Or.inl (H.s20 (by decide)), Or.inl (H.s32 (by decide))⟩, by rw [H.s13 (by decide)]; decide, by rw [H.s16 (by decide)]; decide⟩
theorem kn_loaf {p h m : Int} (H : KnX σ t t0 [24]) (h0 : 0 ≤ h) (m0 : 0 ≤ m) (m1 : m ≤ 30) (e1 : σ 174 24 = h) (e2 : σ 174 25 = p) (e3 : σ 174 26 = m) : MoC σ t t0 (mLoaf (cfg t) p h m) :=
  ⟨H.1, ⟨mC_mk (by rw [mC_Lf (H.s15 (by decide)) (H.s30 (by decide)) (H.s31 (by decide)) (by omega), e1, e2, e3]) (mC_G (H.s13 (by decide))) rfl (mC_O (H.s14 (by decide)) (H.s16 (by decide))) (mC_W (H.s17 (by decide)) (H.s20 (by decide)) (H.s27 (by decide)) (H.s32 (by decide))) (mC_S (H.2.2.2 (by decide))), (cfg_ok H.1.2).loaf p h m0 m1⟩, ⟨Or.inl (H.s20 (by decide)), Or.inl (H.s32 (by decide))⟩, by rw [H.s13 (by decide)]; decide, by rw [H.s16 (by decide)]; decide⟩
theorem kn_cfg (H : KnX σ t t0 []) : MoC σ t t0 (cfg t) :=
  ⟨H.1, ⟨mC_mk (mC_N (H.s15 (by decide)) (H.s30 (by decide)) (H.s31 (by decide)) (H.s24 (by decide))) (mC_G (H.s13 (by decide))) rfl (mC_O (H.s14 (by decide)) (H.s16 (by decide))) (mC_W (H.s17 (by decide)) (H.s20 (by decide)) (H.s27 (by decide)) (H.s32 (by decide))) (mC_S (H.2.2.2 (by decide))), cfg_ok H.1.2⟩, ⟨Or.inl (H.s20 (by decide)), Or.inl (H.s32 (by decide))⟩, by rw [H.s13 (by decide)]; decide, by rw [H.s16 (by decide)]; decide⟩
theorem KnX.more (H : KnX σ t t0 X) {Y : List Int} (h : ∀ i ∈ X, i ∈ Y) : KnX σ t t0 Y := ⟨H.1, fun i hi hx => H.2.1 i hi (fun w => hx (h i w)), H.2.2.1, fun hx => H.2.2.2 (fun w => hx (h 179 w))⟩
end
