/-! what a run tells -/
def sumN (f : Nat → Int) : Nat → Int
  | 0 => 0
  | n + 1 => sumN f n + f n
theorem sumN_bd {f : Nat → Int} {B : Nat} : ∀ n : Nat, (∀ i : Nat, i < n → 0 ≤ f i ∧ f i ≤ B) → 0 ≤ sumN f n ∧ sumN f n ≤ (B * n : Nat)
  | 0, _ => by simp [sumN]
  | n + 1, h => by
    have h1 := sumN_bd n (fun i hi => h i (by omega))
    have h2 := h n (by omega)
    simp only [sumN, Nat.mul_succ]
    omega
theorem sumN_congr {f f' : Nat → Int} : ∀ n : Nat, (∀ i : Nat, i < n → f i = f' i) → sumN f n = sumN f' n
  | 0, _ => rfl
  | n + 1, h => by
    simp only [sumN]
    rw [sumN_congr n (fun i hi => h i (by omega)), h n (by omega)]
/-- the first hour of which bad holds, -1 if of none -/
def FirstH (bad : Nat → Prop) (N : Nat) (v : Int) : Prop := (v = -1 ∧ ∀ h : Nat, h < N → ¬ bad h) ∨ ∃ h : Nat, h < N ∧ v = h ∧ bad h ∧ ∀ h2 : Nat, h2 < h → ¬ bad h2
theorem FirstH.uniq {bad : Nat → Prop} {N : Nat} {v w : Int} (hv : FirstH bad N v) (hw : FirstH bad N w) : v = w := by
  rcases hv with ⟨rfl, h1⟩ | ⟨h, h1, rfl, h2, h3⟩
  · rcases hw with ⟨rfl, _⟩ | ⟨h', g1, rfl, g2, g3⟩
    · rfl
    · exact absurd g2 (h1 _ g1)
  · rcases hw with ⟨rfl, g1⟩ | ⟨h', g1, rfl, g2, g3⟩
    · exact absurd h2 (g1 _ h1)
    · rcases Nat.lt_trichotomy h h' with q | q | q
      · exact absurd h2 (g3 _ q)
      · rw [q]
      · exact absurd g2 (h3 _ q)
theorem FirstH.congr {bad bad' : Nat → Prop} {N : Nat} {v : Int} (hv : FirstH bad N v) (e : ∀ h : Nat, h < N → (bad h ↔ bad' h)) : FirstH bad' N v := by
  rcases hv with ⟨h0, h1⟩ | ⟨h, h1, h0, h2, h3⟩
  · exact Or.inl ⟨h0, fun h hh q => h1 h hh ((e h hh).mpr q)⟩
  · exact Or.inr ⟨h, h1, h0, (e h h1).mp h2, fun h2 hh q => h3 h2 hh ((e h2 (by omega)).mpr q)⟩
/-- how many hours, as a natural number -/
def cH (C : Cf) : Nat := (cS C 1).toNat
def alN (C : Cf) (n : Nat) : Int := cntN (rst C n).2 8
def stv (C : Cf) : Int := cS C 0 - alN C (cH C)
def eatN (C : Cf) (h : Nat) : Int := if eats C h = true then cS C 3 * alN C (h + 1) else 0
def eatP (C : Cf) (p : Int) (h : Nat) : Int := if eats C h = true ∧ (rst C (h + 1)).2 p = true then cS C 3 else 0
def brN (C : Cf) (n : Nat) : Int := tot (rst C n).1 (cS C 0).toNat
def brE (C : Cf) (p : Int) : Int := (rst C (cH C)).1 p
def shN (C : Cf) (p : Int) (h : Nat) : Int := cntN (metB (hev C h) p) 8
/-- the first place of the greatest -/
def amx (f : Nat → Int) : Nat → Nat
  | 0 => 0
  | n + 1 => if f (amx f n) < f (n + 1) then n + 1 else amx f n
theorem amx_le (f : Nat → Int) : ∀ n : Nat, amx f n ≤ n
  | 0 => Nat.le_refl 0
  | n + 1 => by
    have := amx_le f n
    simp only [amx]
    split <;> omega
/-- who has most, of some -/
def rcs (who : Int → Bool) (bd : Int → Int) : Nat → Int
  | 0 => -1
  | n + 1 => if who n = true ∧ (rcs who bd n = -1 ∨ bd (rcs who bd n) < bd n) then n else rcs who bd n
theorem rcs_in (who : Int → Bool) (bd : Int → Int) : ∀ n : Nat, rcs who bd n = -1 ∨ (0 ≤ rcs who bd n ∧ rcs who bd n < n)
  | 0 => Or.inl rfl
  | n + 1 => by
    have := rcs_in who bd n
    simp only [rcs]
    split <;> omega
theorem alN_bd (C : Cf) (n : Nat) : 0 ≤ alN C n ∧ alN C n ≤ 8 := cntN_bd _ 8
theorem RunS.hour {σ : xS} {u : Nat} {C : Cf} {f N h : Nat} (R : RunS σ u C f N) (h0 : f ≤ h) (h1 : h < N) : HourR σ u C f h := R.2.2.2.2 h h0 h1
theorem RunS.hB {σ : xS} {u : Nat} {C : Cf} {f N h : Nat} (R : RunS σ u C f N) (h0 : f ≤ h) (h1 : h < N) {p : Int} (p0 : 0 ≤ p) (p1 : p < cS C 0) : σ (u + 6) (8 * (h : Int) + p) = (rst C (h + 1)).1 p := (R.hour h0 h1).1 p p0 p1
theorem RunS.hL {σ : xS} {u : Nat} {C : Cf} {f N h : Nat} (R : RunS σ u C f N) (h0 : f ≤ h) (h1 : h < N) : Msk 8 (σ (u + 9) (h : Int)) (rst C (h + 1)).2 := (R.hour h0 h1).2.1
theorem rst_bd {C : Cf} (hC : CfOk C) (n : Nat) {p : Int} (p0 : 0 ≤ p) (p1 : p < cS C 0) : 0 ≤ (rst C n).1 p ∧ (rst C n).1 p ≤ 294 := by
  have h := (rst_ok hC n).le p0 p1
  have := hC.tt n
  omega
theorem cH_eq {C : Cf} (hC : CfOk C) : (cH C : Int) = cS C 1 ∧ 1 ≤ cH C ∧ cH C ≤ 24 := by
  have h1 := hC.2.2.1
  have h2 := hC.2.2.2.1
  unfold cH
  omega

theorem sp_Ru_livesAt {g : xG} {K : Option MV → xS → Prop} {σ : xS} {u f : Nat} {C : Cf} {h : Nat} {p : Int} (hu : IsRu u) (hC : CfOk C) (R : RunS σ u C f (cH C)) (h0 : f ≤ h) (h1 : h < cH C) (p0 : 0 ≤ p) (p1 : p < 8) (kt : (rst C (h + 1)).2 p = true → K (some (vI 1)) σ) (kf : (rst C (h + 1)).2 p = false → K (some (vI 0)) σ) : Mt g y_Ru_livesAt [vR u, vI (h : Int), vI p] σ K := by
  have hH := cH_eq hC
  have e := (R.hL h0 h1).get (by decide) p0 (by omega)
  cases hb : (rst C (h + 1)).2 p
  · refine x_enter 0 rfl rfl rfl (fun Z => ?_)
    show Wx g y_Ru_livesAt Z K 0 [vR u, vI (h : Int), vI p] [] σ
    refine x_aload_n (dat d_Ru_livesAt 0 rfl) rfl rfl ?_
    refine x_getr (r := u + 9) (dat d_Ru_livesAt 1 rfl) rfl f_Ru_28 (ru_or_8 hu) ?_
    refine x_iload_n (dat d_Ru_livesAt 2 rfl) rfl rfl ?_
    refine x_iald (n := 24) (v := σ (u + 9) (h : Int)) (dat d_Ru_livesAt 3 rfl) (ru_ai_9 hu) (by omega) (by omega) rfl ?_
    refine x_iload_n (dat d_Ru_livesAt 4 rfl) rfl rfl ?_
    refine x_ishr (v := ishr (σ (u + 9) (h : Int)) p) (dat d_Ru_livesAt 5 rfl) rfl ?_
    refine x_iconst (dat d_Ru_livesAt 6 rfl) (by decide) ?_
    refine x_iand (v := 0) (dat d_Ru_livesAt 7 rfl) (by rw [e, hb]; rfl) ?_
    refine x_if_eq (tgt := 17) (dat d_Ru_livesAt 8 rfl) (by decide) (fun c_10 => ?_) (fun h => absurd h (by decide))
    refine x_iconst (dat d_Ru_livesAt 11 rfl) (by decide) ?_
    refine x_zret (dat d_Ru_livesAt 12 rfl) rfl (by decide) ?_
    exact kf hb
  · refine x_enter 0 rfl rfl rfl (fun Z => ?_)
    show Wx g y_Ru_livesAt Z K 0 [vR u, vI (h : Int), vI p] [] σ
    refine x_aload_n (dat d_Ru_livesAt 0 rfl) rfl rfl ?_
    refine x_getr (r := u + 9) (dat d_Ru_livesAt 1 rfl) rfl f_Ru_28 (ru_or_8 hu) ?_
    refine x_iload_n (dat d_Ru_livesAt 2 rfl) rfl rfl ?_
    refine x_iald (n := 24) (v := σ (u + 9) (h : Int)) (dat d_Ru_livesAt 3 rfl) (ru_ai_9 hu) (by omega) (by omega) rfl ?_
    refine x_iload_n (dat d_Ru_livesAt 4 rfl) rfl rfl ?_
    refine x_ishr (v := ishr (σ (u + 9) (h : Int)) p) (dat d_Ru_livesAt 5 rfl) rfl ?_
    refine x_iconst (dat d_Ru_livesAt 6 rfl) (by decide) ?_
    refine x_iand (v := 1) (dat d_Ru_livesAt 7 rfl) (by rw [e, hb]; rfl) ?_
    refine x_if_eq (tgt := 17) (dat d_Ru_livesAt 8 rfl) (by decide) (fun h => absurd h (by decide)) (fun c_10 => ?_)
    refine x_iconst (dat d_Ru_livesAt 9 rfl) (by decide) ?_
    refine x_goto (tgt := 18) (dat d_Ru_livesAt 10 rfl) (by decide) ?_
    refine x_zret (dat d_Ru_livesAt 12 rfl) rfl (by decide) ?_
    exact kt hb
theorem sp_Ru_starved {g : xG} {K : Option MV → xS → Prop} {σ : xS} {u f : Nat} {C : Cf} (hu : IsRu u) (hC : CfOk C) (R : RunS σ u C f (cH C)) (hf : f < cH C) (k : K (some (vI (stv C))) σ) : Mt g y_Ru_starved [vR u] σ K := by
  have hH := cH_eq hC
  have h8 := hC.2.1
  have hP := hC.1
  have e0 : σ u 0 = cS C 0 := R.1.1
  have e1 : σ u 1 = (cH C : Int) := by rw [R.1.2.1]; omega
  have hl := R.hL (h := cH C - 1) (by omega) (by omega)
  rw [show ((cH C - 1 : Nat) : Int) = (cH C : Int) - 1 by omega, show cH C - 1 + 1 = cH C by omega] at hl
  have eb := hl.bc
  have hb := alN_bd C (cH C)
  refine x_enter 0 rfl rfl rfl (fun Z => ?_)
  show Wx g y_Ru_starved Z K 0 [vR u] [] σ
  refine x_aload_n (dat d_Ru_starved 0 rfl) rfl rfl ?_
  refine x_geti (ji := 1) (v := (cH C : Int)) (dat d_Ru_starved 1 rfl) rfl f_Ru_50 (ru_oi_1 hu) (e1) ?_
  refine x_iconst (dat d_Ru_starved 2 rfl) (by decide) ?_
  refine x_icmp_ge (tgt := 12) (dat d_Ru_starved 3 rfl) (by decide) (fun c_5 => ?_) (fun c_5 => (by omega))
  refine x_aload_n (dat d_Ru_starved 6 rfl) rfl rfl ?_
  refine x_geti (ji := 0) (v := cS C 0) (dat d_Ru_starved 7 rfl) rfl f_Ru_46 (ru_oi_0 hu) (e0) ?_
  refine x_aload_n (dat d_Ru_starved 8 rfl) rfl rfl ?_
  refine x_getr (r := u + 9) (dat d_Ru_starved 9 rfl) rfl f_Ru_28 (ru_or_8 hu) ?_
  refine x_aload_n (dat d_Ru_starved 10 rfl) rfl rfl ?_
  refine x_geti (ji := 1) (v := (cH C : Int)) (dat d_Ru_starved 11 rfl) rfl f_Ru_50 (ru_oi_1 hu) (e1) ?_
  refine x_iconst (dat d_Ru_starved 12 rfl) (by decide) ?_
  refine x_isub (v := (cH C : Int) - 1) (dat d_Ru_starved 13 rfl) rfl (by omega) ?_
  refine x_iald (n := 24) (v := σ (u + 9) ((cH C : Int) - 1)) (dat d_Ru_starved 14 rfl) (ru_ai_9 hu) (by omega) (by omega) rfl ?_
  refine x_invs (As := [vI (σ (u + 9) ((cH C : Int) - 1))]) (dat d_Ru_starved 15 rfl) rfl c_In_bitCount l_Ru_116 (by decide) rfl rfl (Nat.le_of_ble_eq_true rfl) ?_
  refine sp_In_bitCount ?_
  rw [eb]
  show Wx g y_Ru_starved Z K 30 [vR u] [vI (alN C (cH C)), vI (cS C 0)] σ
  refine x_isub (v := (cS C 0) - (alN C (cH C))) (dat d_Ru_starved 16 rfl) rfl (by omega) ?_
  refine x_iret (dat d_Ru_starved 17 rfl) rfl ?_
  exact k
theorem sp_Ru_dead {g : xG} {K : Option MV → xS → Prop} {σ : xS} {u f : Nat} {C : Cf} (hu : IsRu u) (hC : CfOk C) (R : RunS σ u C f (cH C)) (hf : f < cH C) (k : ∀ m : Int, Msk 8 m (fun p => decide (p < cS C 0) && !(rst C (cH C)).2 p) → K (some (vI m)) σ) : Mt g y_Ru_dead [vR u] σ K := by
  have hH := cH_eq hC
  have h8 := hC.2.1
  have hP := hC.1
  have e0 : σ u 0 = cS C 0 := R.1.1
  have e1 : σ u 1 = (cH C : Int) := by rw [R.1.2.1]; omega
  have hl := R.hL (h := cH C - 1) (by omega) (by omega)
  rw [show ((cH C - 1 : Nat) : Int) = (cH C : Int) - 1 by omega, show cH C - 1 + 1 = cH C by omega] at hl
  have hsh : 1 ≤ ishl 1 (cS C 0) ∧ ishl 1 (cS C 0) ≤ 256 := ishl_bd (n := 8) hP (by omega) (by decide)
  refine x_enter 0 rfl rfl rfl (fun Z => ?_)
  show Wx g y_Ru_dead Z K 0 [vR u] [] σ
  refine x_aload_n (dat d_Ru_dead 0 rfl) rfl rfl ?_
  refine x_geti (ji := 1) (v := (cH C : Int)) (dat d_Ru_dead 1 rfl) rfl f_Ru_50 (ru_oi_1 hu) (e1) ?_
  refine x_iconst (dat d_Ru_dead 2 rfl) (by decide) ?_
  refine x_icmp_ge (tgt := 12) (dat d_Ru_dead 3 rfl) (by decide) (fun c_5 => ?_) (fun c_5 => (by omega))
  refine x_iconst (dat d_Ru_dead 6 rfl) (by decide) ?_
  refine x_aload_n (dat d_Ru_dead 7 rfl) rfl rfl ?_
  refine x_geti (ji := 0) (v := cS C 0) (dat d_Ru_dead 8 rfl) rfl f_Ru_46 (ru_oi_0 hu) (e0) ?_
  refine x_ishl (v := ishl 1 (cS C 0)) (dat d_Ru_dead 9 rfl) rfl ?_
  refine x_iconst (dat d_Ru_dead 10 rfl) (by decide) ?_
  refine x_isub (v := (ishl 1 (cS C 0)) - 1) (dat d_Ru_dead 11 rfl) rfl (by omega) ?_
  refine x_aload_n (dat d_Ru_dead 12 rfl) rfl rfl ?_
  refine x_getr (r := u + 9) (dat d_Ru_dead 13 rfl) rfl f_Ru_28 (ru_or_8 hu) ?_
  refine x_aload_n (dat d_Ru_dead 14 rfl) rfl rfl ?_
  refine x_geti (ji := 1) (v := (cH C : Int)) (dat d_Ru_dead 15 rfl) rfl f_Ru_50 (ru_oi_1 hu) (e1) ?_
  refine x_iconst (dat d_Ru_dead 16 rfl) (by decide) ?_
  refine x_isub (v := (cH C : Int) - 1) (dat d_Ru_dead 17 rfl) rfl (by omega) ?_
  refine x_iald (n := 24) (v := σ (u + 9) ((cH C : Int) - 1)) (dat d_Ru_dead 18 rfl) (ru_ai_9 hu) (by omega) (by omega) rfl ?_
  refine x_iconst (dat d_Ru_dead 19 rfl) (by decide) ?_
  refine x_ixor (v := ixor (σ (u + 9) ((cH C : Int) - 1)) (-1)) (dat d_Ru_dead 20 rfl) rfl ?_
  refine x_iand (v := iand ((ishl 1 (cS C 0)) - 1) (ixor (σ (u + 9) ((cH C : Int) - 1)) (-1))) (dat d_Ru_dead 21 rfl) rfl ?_
  refine x_iret (dat d_Ru_dead 22 rfl) rfl ?_
  exact k _ ((Msk.full (n := 8) (by decide) hP (by omega)).andn (by decide) hl)
theorem sp_Ru_breadAtEnd {g : xG} {K : Option MV → xS → Prop} {σ : xS} {u f : Nat} {C : Cf} {p : Int} (hu : IsRu u) (hC : CfOk C) (R : RunS σ u C f (cH C)) (hf : f < cH C) (p0 : 0 ≤ p) (p1 : p < cS C 0) (k : K (some (vI (brE C p))) σ) : Mt g y_Ru_breadAtEnd [vR u, vI p] σ K := by
  have hH := cH_eq hC
  have h8 := hC.2.1
  have e1 : σ u 1 = (cH C : Int) := by rw [R.1.2.1]; omega
  have hb := R.hB (h := cH C - 1) (by omega) (by omega) p0 p1
  rw [show ((cH C - 1 : Nat) : Int) = (cH C : Int) - 1 by omega, show cH C - 1 + 1 = cH C by omega] at hb
  refine x_enter 0 rfl rfl rfl (fun Z => ?_)
  show Wx g y_Ru_breadAtEnd Z K 0 [vR u, vI p] [] σ
  refine x_aload_n (dat d_Ru_breadAtEnd 0 rfl) rfl rfl ?_
  refine x_geti (ji := 1) (v := (cH C : Int)) (dat d_Ru_breadAtEnd 1 rfl) rfl f_Ru_50 (ru_oi_1 hu) (e1) ?_
  refine x_iconst (dat d_Ru_breadAtEnd 2 rfl) (by decide) ?_
  refine x_icmp_ge (tgt := 12) (dat d_Ru_breadAtEnd 3 rfl) (by decide) (fun c_5 => ?_) (fun c_5 => (by omega))
  refine x_aload_n (dat d_Ru_breadAtEnd 6 rfl) rfl rfl ?_
  refine x_getr (r := u + 6) (dat d_Ru_breadAtEnd 7 rfl) rfl f_Ru_18 (ru_or_5 hu) ?_
  refine x_aload_n (dat d_Ru_breadAtEnd 8 rfl) rfl rfl ?_
  refine x_geti (ji := 1) (v := (cH C : Int)) (dat d_Ru_breadAtEnd 9 rfl) rfl f_Ru_50 (ru_oi_1 hu) (e1) ?_
  refine x_iconst (dat d_Ru_breadAtEnd 10 rfl) (by decide) ?_
  refine x_isub (v := (cH C : Int) - 1) (dat d_Ru_breadAtEnd 11 rfl) rfl (by omega) ?_
  refine x_bipush (dat d_Ru_breadAtEnd 12 rfl) (by decide) (by decide) ?_
  refine x_imul (v := 8 * ((cH C : Int) - 1)) (dat d_Ru_breadAtEnd 13 rfl) (by omega) (by omega) ?_
  refine x_iload_n (dat d_Ru_breadAtEnd 14 rfl) rfl rfl ?_
  refine x_iadd (v := (8 * ((cH C : Int) - 1)) + p) (dat d_Ru_breadAtEnd 15 rfl) rfl (by omega) ?_
  refine x_iald (n := 192) (v := brE C p) (dat d_Ru_breadAtEnd 16 rfl) (ru_ai_6 hu) (by omega) (by omega) (hb) ?_
  refine x_iret (dat d_Ru_breadAtEnd 17 rfl) rfl ?_
  exact k
theorem sp_Ru_eatenAt {g : xG} {K : Option MV → xS → Prop} {σ : xS} {u f : Nat} {C : Cf} {h : Nat} (hu : IsRu u) (hC : CfOk C) (R : RunS σ u C f (cH C)) (h0 : f ≤ h) (h1 : h < cH C) (k : K (some (vI (eatN C h))) σ) : Mt g y_Ru_eatenAt [vR u, vI (h : Int)] σ K := by
  have hH := cH_eq hC
  have h3 := hC.2.2.2.2.1
  have h4 := hC.2.2.2.2.2.1
  have e2 : σ u 2 = cS C 3 := R.1.2.2.1
  have eb := (R.hL h0 h1).bc
  have hb := alN_bd C (h + 1)
  have hmul : 0 ≤ cS C 3 * alN C (h + 1) ∧ cS C 3 * alN C (h + 1) ≤ 72 := by
    rcases (show alN C (h + 1) = 0 ∨ alN C (h + 1) = 1 ∨ alN C (h + 1) = 2 ∨ alN C (h + 1) = 3 ∨ alN C (h + 1) = 4 ∨ alN C (h + 1) = 5 ∨ alN C (h + 1) = 6 ∨ alN C (h + 1) = 7 ∨ alN C (h + 1) = 8 by omega) with e | e | e | e | e | e | e | e | e <;> rw [e] <;> omega
  refine x_enter 0 rfl rfl rfl (fun Z => ?_)
  show Wx g y_Ru_eatenAt Z K 0 [vR u, vI (h : Int)] [] σ
  refine x_aload_n (dat d_Ru_eatenAt 0 rfl) rfl rfl ?_
  refine x_iload_n (dat d_Ru_eatenAt 1 rfl) rfl rfl ?_
  refine x_inv (As := [vI (h : Int)]) (dat d_Ru_eatenAt 2 rfl) rfl c_Ru_eatsAt l_Ru_101 (by decide) (rv_ru (ru_k hu)) rfl rfl (Nat.le_of_ble_eq_true rfl) ?_
  refine sp_Ru_eatsAt hu hC R.1.2.2.2 (by omega) (by omega) (fun he => ?_) (fun he => ?_)
  · show Wx g y_Ru_eatenAt Z K 5 [vR u, vI (h : Int)] [vI 1] σ
    refine x_if_eq (tgt := 25) (dat d_Ru_eatenAt 3 rfl) (by decide) (fun h => absurd h (by decide)) (fun c_5 => ?_)
    refine x_aload_n (dat d_Ru_eatenAt 4 rfl) rfl rfl ?_
    refine x_geti (ji := 2) (v := cS C 3) (dat d_Ru_eatenAt 5 rfl) rfl f_Ru_54 (ru_oi_2 hu) (e2) ?_
    refine x_aload_n (dat d_Ru_eatenAt 6 rfl) rfl rfl ?_
    refine x_getr (r := u + 9) (dat d_Ru_eatenAt 7 rfl) rfl f_Ru_28 (ru_or_8 hu) ?_
    refine x_iload_n (dat d_Ru_eatenAt 8 rfl) rfl rfl ?_
    refine x_iald (n := 24) (v := σ (u + 9) (h : Int)) (dat d_Ru_eatenAt 9 rfl) (ru_ai_9 hu) (by omega) (by omega) rfl ?_
    refine x_invs (As := [vI (σ (u + 9) (h : Int))]) (dat d_Ru_eatenAt 10 rfl) rfl c_In_bitCount l_Ru_116 (by decide) rfl rfl (Nat.le_of_ble_eq_true rfl) ?_
    refine sp_In_bitCount ?_
    rw [eb]
    show Wx g y_Ru_eatenAt Z K 21 [vR u, vI (h : Int)] [vI (alN C (h + 1)), vI (cS C 3)] σ
    refine x_imul (v := (cS C 3) * (alN C (h + 1))) (dat d_Ru_eatenAt 11 rfl) rfl (by omega) ?_
    refine x_goto (tgt := 26) (dat d_Ru_eatenAt 12 rfl) (by decide) ?_
    refine x_iret (dat d_Ru_eatenAt 14 rfl) rfl ?_
    first
    | (rw [show eatN C h = 0 by unfold eatN; rw [he]; rfl] at k; exact k)
    | (rw [show eatN C h = cS C 3 * alN C (h + 1) by unfold eatN; rw [if_pos he]] at k; exact k)
  · show Wx g y_Ru_eatenAt Z K 5 [vR u, vI (h : Int)] [vI 0] σ
    refine x_if_eq (tgt := 25) (dat d_Ru_eatenAt 3 rfl) (by decide) (fun c_5 => ?_) (fun h => absurd h (by decide))
    refine x_iconst (dat d_Ru_eatenAt 13 rfl) (by decide) ?_
    refine x_iret (dat d_Ru_eatenAt 14 rfl) rfl ?_
    first
    | (rw [show eatN C h = 0 by unfold eatN; rw [he]; rfl] at k; exact k)
    | (rw [show eatN C h = cS C 3 * alN C (h + 1) by unfold eatN; rw [if_pos he]] at k; exact k)

theorem lp_Ru_allShakes {g : xG} {Z : xZ} {K : Option MV → xS → Prop} {σ : xS} {u : Nat} {C : Cf} (hu : IsRu u) (hC : CfOk C) (R : RunS σ u C 0 (cH C)) (k : K (some (vI (sumN (fun h => ((hev C h).length : Int)) (cH C)))) σ) : ∀ (n h : Nat), h + n = cH C → Wx g y_Ru_allShakes Z K 4 [vR u, vI (sumN (fun h => ((hev C h).length : Int)) h), vI (h : Int)] [] σ := by
  have hH := cH_eq hC
  have e1 : σ u 1 = (cH C : Int) := by rw [R.1.2.1]; omega
  intro n
  induction n with
  | zero =>
    intro h hn
    have e : h = cH C := by omega
    subst e
    refine x_iload_n (dat d_Ru_allShakes 4 rfl) rfl rfl ?_
    refine x_aload_n (dat d_Ru_allShakes 5 rfl) rfl rfl ?_
    refine x_geti (ji := 1) (v := (cH C : Int)) (dat d_Ru_allShakes 6 rfl) rfl f_Ru_50 (ru_oi_1 hu) (e1) ?_
    refine x_icmp_ge (tgt := 27) (dat d_Ru_allShakes 7 rfl) (by decide) (fun c_9 => ?_) (fun c_9 => (by omega))
    refine x_iload_n (dat d_Ru_allShakes 17 rfl) rfl rfl ?_
    refine x_iret (dat d_Ru_allShakes 18 rfl) rfl ?_
    exact k
  | succ n ih =>
    intro h hn
    have es : σ (u + 10) (h : Int) = ((hev C h).length : Int) := (R.hour (by omega) (by omega)).2.2.2.2.1
    have hb := sumN_bd (f := fun h => ((hev C h).length : Int)) (B := 28) h (fun i _ => ⟨by omega, by have := (hmi_ok hC i).2.2; omega⟩)
    have hl := (hmi_ok hC h).2.2
    refine x_iload_n (dat d_Ru_allShakes 4 rfl) rfl rfl ?_
    refine x_aload_n (dat d_Ru_allShakes 5 rfl) rfl rfl ?_
    refine x_geti (ji := 1) (v := (cH C : Int)) (dat d_Ru_allShakes 6 rfl) rfl f_Ru_50 (ru_oi_1 hu) (e1) ?_
    refine x_icmp_ge (tgt := 27) (dat d_Ru_allShakes 7 rfl) (by decide) (fun c_9 => (by omega)) (fun c_9 => ?_)
    refine x_iload_n (dat d_Ru_allShakes 8 rfl) rfl rfl ?_
    refine x_aload_n (dat d_Ru_allShakes 9 rfl) rfl rfl ?_
    refine x_getr (r := u + 10) (dat d_Ru_allShakes 10 rfl) rfl f_Ru_31 (ru_or_9 hu) ?_
    refine x_iload_n (dat d_Ru_allShakes 11 rfl) rfl rfl ?_
    refine x_iald (n := 24) (v := ((hev C h).length : Int)) (dat d_Ru_allShakes 12 rfl) (ru_ai_10 hu) (by omega) (by omega) (es) ?_
    refine x_iadd (v := sumN (fun h => ((hev C h).length : Int)) (h + 1)) (dat d_Ru_allShakes 13 rfl) (by rfl) (by simp only [sumN]; omega) ?_
    refine x_istore_n (L' := [vR u, vI (sumN (fun h => ((hev C h).length : Int)) (h + 1)), vI (h : Int)]) (dat d_Ru_allShakes 14 rfl) rfl (by decide) rfl rfl ?_
    refine x_iinc (v' := ((h + 1 : Nat) : Int)) (L' := [vR u, vI (sumN (fun h => ((hev C h).length : Int)) (h + 1)), vI ((h + 1 : Nat) : Int)]) (dat d_Ru_allShakes 15 rfl) rfl (by decide) rfl (by omega) (by omega) rfl ?_
    refine x_goto (tgt := 4) (dat d_Ru_allShakes 16 rfl) (by decide) ?_
    exact ih (h + 1) (by omega)
theorem sp_Ru_allShakes {g : xG} {K : Option MV → xS → Prop} {σ : xS} {u : Nat} {C : Cf} (hu : IsRu u) (hC : CfOk C) (R : RunS σ u C 0 (cH C)) (k : K (some (vI (sumN (fun h => ((hev C h).length : Int)) (cH C)))) σ) : Mt g y_Ru_allShakes [vR u] σ K := by
  refine x_enter 2 rfl rfl rfl (fun Z => ?_)
  show Wx g y_Ru_allShakes Z K 0 [vR u, vU, vU] [] σ
  refine x_iconst (dat d_Ru_allShakes 0 rfl) (by decide) ?_
  refine x_istore_n (L' := [vR u, vI 0, vU]) (dat d_Ru_allShakes 1 rfl) rfl (by decide) rfl rfl ?_
  refine x_iconst (dat d_Ru_allShakes 2 rfl) (by decide) ?_
  refine x_istore_n (L' := [vR u, vI 0, vI 0]) (dat d_Ru_allShakes 3 rfl) rfl (by decide) rfl rfl ?_
  exact lp_Ru_allShakes hu hC R k (cH C) 0 (by omega)
theorem lp_Ru_shakesOf {g : xG} {Z : xZ} {K : Option MV → xS → Prop} {σ : xS} {u : Nat} {C : Cf} {p : Int} (hu : IsRu u) (hC : CfOk C) (R : RunS σ u C 0 (cH C)) (p0 : 0 ≤ p) (p1 : p < cS C 0) (k : K (some (vI (sumN (shN C p) (cH C)))) σ) : ∀ (n h : Nat), h + n = cH C → Wx g y_Ru_shakesOf Z K 4 [vR u, vI p, vI (sumN (shN C p) h), vI (h : Int)] [] σ := by
  have hH := cH_eq hC
  have h8 := hC.2.1
  have e1 : σ u 1 = (cH C : Int) := by rw [R.1.2.1]; omega
  intro n
  induction n with
  | zero =>
    intro h hn
    have e : h = cH C := by omega
    subst e
    refine x_iload_n (dat d_Ru_shakesOf 4 rfl) rfl rfl ?_
    refine x_aload_n (dat d_Ru_shakesOf 5 rfl) rfl rfl ?_
    refine x_geti (ji := 1) (v := (cH C : Int)) (dat d_Ru_shakesOf 6 rfl) rfl f_Ru_50 (ru_oi_1 hu) (e1) ?_
    refine x_icmp_ge (tgt := 35) (dat d_Ru_shakesOf 7 rfl) (by decide) (fun c_9 => ?_) (fun c_9 => (by omega))
    refine x_iload_n (dat d_Ru_shakesOf 22 rfl) rfl rfl ?_
    refine x_iret (dat d_Ru_shakesOf 23 rfl) rfl ?_
    exact k
  | succ n ih =>
    intro h hn
    have es := ((R.hour (h := h) (by omega) (by omega)).2.2.1 p p0 p1).bc
    have hb := sumN_bd (f := shN C p) (B := 8) h (fun i _ => cntN_bd _ 8)
    have hl : 0 ≤ shN C p h ∧ shN C p h ≤ 8 := cntN_bd _ 8
    refine x_iload_n (dat d_Ru_shakesOf 4 rfl) rfl rfl ?_
    refine x_aload_n (dat d_Ru_shakesOf 5 rfl) rfl rfl ?_
    refine x_geti (ji := 1) (v := (cH C : Int)) (dat d_Ru_shakesOf 6 rfl) rfl f_Ru_50 (ru_oi_1 hu) (e1) ?_
    refine x_icmp_ge (tgt := 35) (dat d_Ru_shakesOf 7 rfl) (by decide) (fun c_9 => (by omega)) (fun c_9 => ?_)
    refine x_iload_n (dat d_Ru_shakesOf 8 rfl) rfl rfl ?_
    refine x_aload_n (dat d_Ru_shakesOf 9 rfl) rfl rfl ?_
    refine x_getr (r := u + 7) (dat d_Ru_shakesOf 10 rfl) rfl f_Ru_22 (ru_or_6 hu) ?_
    refine x_iload_n (dat d_Ru_shakesOf 11 rfl) rfl rfl ?_
    refine x_bipush (dat d_Ru_shakesOf 12 rfl) (by decide) (by decide) ?_
    refine x_imul (v := 8 * (h : Int)) (dat d_Ru_shakesOf 13 rfl) (by omega) (by omega) ?_
    refine x_iload_n (dat d_Ru_shakesOf 14 rfl) rfl rfl ?_
    refine x_iadd (v := (8 * (h : Int)) + p) (dat d_Ru_shakesOf 15 rfl) rfl (by omega) ?_
    refine x_iald (n := 192) (v := σ (u + 7) ((8 * (h : Int)) + p)) (dat d_Ru_shakesOf 16 rfl) (ru_ai_7 hu) (by omega) (by omega) rfl ?_
    refine x_invs (As := [vI (σ (u + 7) ((8 * (h : Int)) + p))]) (dat d_Ru_shakesOf 17 rfl) rfl c_In_bitCount l_Ru_116 (by decide) rfl rfl (Nat.le_of_ble_eq_true rfl) ?_
    refine sp_In_bitCount ?_
    rw [es]
    show Wx g y_Ru_shakesOf Z K 27 [vR u, vI p, vI (sumN (shN C p) h), vI (h : Int)] [vI (shN C p h), vI (sumN (shN C p) h)] σ
    refine x_iadd (v := sumN (shN C p) (h + 1)) (dat d_Ru_shakesOf 18 rfl) (by rfl) (by simp only [sumN]; omega) ?_
    refine x_istore_n (L' := [vR u, vI p, vI (sumN (shN C p) (h + 1)), vI (h : Int)]) (dat d_Ru_shakesOf 19 rfl) rfl (by decide) rfl rfl ?_
    refine x_iinc (v' := ((h + 1 : Nat) : Int)) (L' := [vR u, vI p, vI (sumN (shN C p) (h + 1)), vI ((h + 1 : Nat) : Int)]) (dat d_Ru_shakesOf 20 rfl) rfl (by decide) rfl (by omega) (by omega) rfl ?_
    refine x_goto (tgt := 4) (dat d_Ru_shakesOf 21 rfl) (by decide) ?_
    exact ih (h + 1) (by omega)
theorem sp_Ru_shakesOf {g : xG} {K : Option MV → xS → Prop} {σ : xS} {u : Nat} {C : Cf} {p : Int} (hu : IsRu u) (hC : CfOk C) (R : RunS σ u C 0 (cH C)) (p0 : 0 ≤ p) (p1 : p < cS C 0) (k : K (some (vI (sumN (shN C p) (cH C)))) σ) : Mt g y_Ru_shakesOf [vR u, vI p] σ K := by
  refine x_enter 2 rfl rfl rfl (fun Z => ?_)
  show Wx g y_Ru_shakesOf Z K 0 [vR u, vI p, vU, vU] [] σ
  refine x_iconst (dat d_Ru_shakesOf 0 rfl) (by decide) ?_
  refine x_istore_n (L' := [vR u, vI p, vI 0, vU]) (dat d_Ru_shakesOf 1 rfl) rfl (by decide) rfl rfl ?_
  refine x_iconst (dat d_Ru_shakesOf 2 rfl) (by decide) ?_
  refine x_istore_n (L' := [vR u, vI p, vI 0, vI 0]) (dat d_Ru_shakesOf 3 rfl) rfl (by decide) rfl rfl ?_
  exact lp_Ru_shakesOf hu hC R p0 p1 k (cH C) 0 (by omega)
theorem eatN_bd {C : Cf} (hC : CfOk C) (h : Nat) : 0 ≤ eatN C h ∧ eatN C h ≤ 72 := by
  have h3 := hC.2.2.2.2.1
  have h4 := hC.2.2.2.2.2.1
  have hb := alN_bd C (h + 1)
  unfold eatN
  split
  · rcases (show alN C (h + 1) = 0 ∨ alN C (h + 1) = 1 ∨ alN C (h + 1) = 2 ∨ alN C (h + 1) = 3 ∨ alN C (h + 1) = 4 ∨ alN C (h + 1) = 5 ∨ alN C (h + 1) = 6 ∨ alN C (h + 1) = 7 ∨ alN C (h + 1) = 8 by omega) with e | e | e | e | e | e | e | e | e <;> rw [e] <;> omega
  · omega
theorem lp_Ru_allEaten {g : xG} {Z : xZ} {K : Option MV → xS → Prop} {σ : xS} {u : Nat} {C : Cf} (hu : IsRu u) (hC : CfOk C) (R : RunS σ u C 0 (cH C)) (k : K (some (vI (sumN (eatN C) (cH C)))) σ) : ∀ (n h : Nat), h + n = cH C → Wx g y_Ru_allEaten Z K 4 [vR u, vI (sumN (eatN C) h), vI (h : Int)] [] σ := by
  have hH := cH_eq hC
  have e1 : σ u 1 = (cH C : Int) := by rw [R.1.2.1]; omega
  intro n
  induction n with
  | zero =>
    intro h hn
    have e : h = cH C := by omega
    subst e
    refine x_iload_n (dat d_Ru_allEaten 4 rfl) rfl rfl ?_
    refine x_aload_n (dat d_Ru_allEaten 5 rfl) rfl rfl ?_
    refine x_geti (ji := 1) (v := (cH C : Int)) (dat d_Ru_allEaten 6 rfl) rfl f_Ru_50 (ru_oi_1 hu) (e1) ?_
    refine x_icmp_ge (tgt := 26) (dat d_Ru_allEaten 7 rfl) (by decide) (fun c_9 => ?_) (fun c_9 => (by omega))
    refine x_iload_n (dat d_Ru_allEaten 16 rfl) rfl rfl ?_
    refine x_iret (dat d_Ru_allEaten 17 rfl) rfl ?_
    exact k
  | succ n ih =>
    intro h hn
    have hb := sumN_bd (f := eatN C) (B := 72) h (fun i _ => eatN_bd hC i)
    have hl := eatN_bd hC h
    refine x_iload_n (dat d_Ru_allEaten 4 rfl) rfl rfl ?_
    refine x_aload_n (dat d_Ru_allEaten 5 rfl) rfl rfl ?_
    refine x_geti (ji := 1) (v := (cH C : Int)) (dat d_Ru_allEaten 6 rfl) rfl f_Ru_50 (ru_oi_1 hu) (e1) ?_
    refine x_icmp_ge (tgt := 26) (dat d_Ru_allEaten 7 rfl) (by decide) (fun c_9 => (by omega)) (fun c_9 => ?_)
    refine x_iload_n (dat d_Ru_allEaten 8 rfl) rfl rfl ?_
    refine x_aload_n (dat d_Ru_allEaten 9 rfl) rfl rfl ?_
    refine x_iload_n (dat d_Ru_allEaten 10 rfl) rfl rfl ?_
    refine x_inv (As := [vI (h : Int)]) (dat d_Ru_allEaten 11 rfl) rfl c_Ru_eatenAt l_Ru_126 (by decide) (rv_ru (ru_k hu)) rfl rfl (Nat.le_of_ble_eq_true rfl) ?_
    refine sp_Ru_eatenAt hu hC R (by omega) (by omega) ?_
    show Wx g y_Ru_allEaten Z K 18 [vR u, vI (sumN (eatN C) h), vI (h : Int)] [vI (eatN C h), vI (sumN (eatN C) h)] σ
    refine x_iadd (v := sumN (eatN C) (h + 1)) (dat d_Ru_allEaten 12 rfl) (by rfl) (by simp only [sumN]; omega) ?_
    refine x_istore_n (L' := [vR u, vI (sumN (eatN C) (h + 1)), vI (h : Int)]) (dat d_Ru_allEaten 13 rfl) rfl (by decide) rfl rfl ?_
    refine x_iinc (v' := ((h + 1 : Nat) : Int)) (L' := [vR u, vI (sumN (eatN C) (h + 1)), vI ((h + 1 : Nat) : Int)]) (dat d_Ru_allEaten 14 rfl) rfl (by decide) rfl (by omega) (by omega) rfl ?_
    refine x_goto (tgt := 4) (dat d_Ru_allEaten 15 rfl) (by decide) ?_
    exact ih (h + 1) (by omega)
theorem sp_Ru_allEaten {g : xG} {K : Option MV → xS → Prop} {σ : xS} {u : Nat} {C : Cf} (hu : IsRu u) (hC : CfOk C) (R : RunS σ u C 0 (cH C)) (k : K (some (vI (sumN (eatN C) (cH C)))) σ) : Mt g y_Ru_allEaten [vR u] σ K := by
  refine x_enter 2 rfl rfl rfl (fun Z => ?_)
  show Wx g y_Ru_allEaten Z K 0 [vR u, vU, vU] [] σ
  refine x_iconst (dat d_Ru_allEaten 0 rfl) (by decide) ?_
  refine x_istore_n (L' := [vR u, vI 0, vU]) (dat d_Ru_allEaten 1 rfl) rfl (by decide) rfl rfl ?_
  refine x_iconst (dat d_Ru_allEaten 2 rfl) (by decide) ?_
  refine x_istore_n (L' := [vR u, vI 0, vI 0]) (dat d_Ru_allEaten 3 rfl) rfl (by decide) rfl rfl ?_
  exact lp_Ru_allEaten hu hC R k (cH C) 0 (by omega)
theorem eatP_bd {C : Cf} (hC : CfOk C) (p : Int) (h : Nat) : 0 ≤ eatP C p h ∧ eatP C p h ≤ 9 := by
  have h3 := hC.2.2.2.2.1
  have h4 := hC.2.2.2.2.2.1
  unfold eatP
  split <;> omega
theorem lp_Ru_eatenBy {g : xG} {Z : xZ} {K : Option MV → xS → Prop} {σ : xS} {u : Nat} {C : Cf} {p : Int} (hu : IsRu u) (hC : CfOk C) (R : RunS σ u C 0 (cH C)) (p0 : 0 ≤ p) (p1 : p < cS C 0) (k : K (some (vI (sumN (eatP C p) (cH C)))) σ) : ∀ (n h : Nat), h + n = cH C → Wx g y_Ru_eatenBy Z K 4 [vR u, vI p, vI (sumN (eatP C p) h), vI (h : Int)] [] σ := by
  have hH := cH_eq hC
  have h8 := hC.2.1
  have e1 : σ u 1 = (cH C : Int) := by rw [R.1.2.1]; omega
  have e2 : σ u 2 = cS C 3 := R.1.2.2.1
  have h3 := hC.2.2.2.2.1
  have h4 := hC.2.2.2.2.2.1
  intro n
  induction n with
  | zero =>
    intro h hn
    have e : h = cH C := by omega
    subst e
    refine x_iload_n (dat d_Ru_eatenBy 4 rfl) rfl rfl ?_
    refine x_aload_n (dat d_Ru_eatenBy 5 rfl) rfl rfl ?_
    refine x_geti (ji := 1) (v := (cH C : Int)) (dat d_Ru_eatenBy 6 rfl) rfl f_Ru_50 (ru_oi_1 hu) (e1) ?_
    refine x_icmp_ge (tgt := 42) (dat d_Ru_eatenBy 7 rfl) (by decide) (fun c_9 => ?_) (fun c_9 => (by omega))
    refine x_iload_n (dat d_Ru_eatenBy 24 rfl) rfl rfl ?_
    refine x_iret (dat d_Ru_eatenBy 25 rfl) rfl ?_
    exact k
  | succ n ih =>
    intro h hn
    have hb := sumN_bd (f := eatP C p) (B := 9) h (fun i _ => eatP_bd hC p i)
    have hb2 : sumN (eatP C p) (h + 1) = sumN (eatP C p) h + eatP C p h := rfl
    refine x_iload_n (dat d_Ru_eatenBy 4 rfl) rfl rfl ?_
    refine x_aload_n (dat d_Ru_eatenBy 5 rfl) rfl rfl ?_
    refine x_geti (ji := 1) (v := (cH C : Int)) (dat d_Ru_eatenBy 6 rfl) rfl f_Ru_50 (ru_oi_1 hu) (e1) ?_
    refine x_icmp_ge (tgt := 42) (dat d_Ru_eatenBy 7 rfl) (by decide) (fun c_9 => (by omega)) (fun c_9 => ?_)
    refine x_aload_n (dat d_Ru_eatenBy 8 rfl) rfl rfl ?_
    refine x_iload_n (dat d_Ru_eatenBy 9 rfl) rfl rfl ?_
    refine x_inv (As := [vI (h : Int)]) (dat d_Ru_eatenBy 10 rfl) rfl c_Ru_eatsAt l_Ru_101 (by decide) (rv_ru (ru_k hu)) rfl rfl (Nat.le_of_ble_eq_true rfl) ?_
    refine sp_Ru_eatsAt hu hC R.1.2.2.2 (by omega) (by omega) (fun he => ?_) (fun he => ?_)
    · show Wx g y_Ru_eatenBy Z K 17 [vR u, vI p, vI (sumN (eatP C p) h), vI (h : Int)] [vI 1] σ
      refine x_if_eq (tgt := 36) (dat d_Ru_eatenBy 11 rfl) (by decide) (fun h => absurd h (by decide)) (fun c_17 => ?_)
      refine x_aload_n (dat d_Ru_eatenBy 12 rfl) rfl rfl ?_
      refine x_iload_n (dat d_Ru_eatenBy 13 rfl) rfl rfl ?_
      refine x_iload_n (dat d_Ru_eatenBy 14 rfl) rfl rfl ?_
      refine x_inv (As := [vI (h : Int), vI p]) (dat d_Ru_eatenBy 15 rfl) rfl c_Ru_livesAt l_Ru_122 (by decide) (rv_ru (ru_k hu)) rfl rfl (Nat.le_of_ble_eq_true rfl) ?_
      refine sp_Ru_livesAt hu hC R (by omega) (by omega) p0 (by omega) (fun hv => ?_) (fun hv => ?_)
      · show Wx g y_Ru_eatenBy Z K 26 [vR u, vI p, vI (sumN (eatP C p) h), vI (h : Int)] [vI 1] σ
        refine x_if_eq (tgt := 36) (dat d_Ru_eatenBy 16 rfl) (by decide) (fun h => absurd h (by decide)) (fun c_26 => ?_)
        refine x_iload_n (dat d_Ru_eatenBy 17 rfl) rfl rfl ?_
        refine x_aload_n (dat d_Ru_eatenBy 18 rfl) rfl rfl ?_
        refine x_geti (ji := 2) (v := cS C 3) (dat d_Ru_eatenBy 19 rfl) rfl f_Ru_54 (ru_oi_2 hu) (e2) ?_
        refine x_iadd (v := (sumN (eatP C p) h) + (cS C 3)) (dat d_Ru_eatenBy 20 rfl) rfl (by omega) ?_
        refine x_istore_n (L' := [vR u, vI p, vI ((sumN (eatP C p) h) + (cS C 3)), vI (h : Int)]) (dat d_Ru_eatenBy 21 rfl) rfl (by decide) rfl rfl ?_
        refine x_iinc (v' := ((h + 1 : Nat) : Int)) (L' := [vR u, vI p, vI ((sumN (eatP C p) h) + (cS C 3)), vI ((h + 1 : Nat) : Int)]) (dat d_Ru_eatenBy 22 rfl) rfl (by decide) rfl (by omega) (by omega) rfl ?_
        refine x_goto (tgt := 4) (dat d_Ru_eatenBy 23 rfl) (by decide) ?_
        first
        | (have ez : eatP C p h = cS C 3 := by unfold eatP; rw [if_pos ⟨he, hv⟩]
           have := ih (h + 1) (by omega)
           rw [hb2, ez] at this
           exact this)
        | (have ez : eatP C p h = 0 := by unfold eatP; rw [if_neg (fun q => by first | exact absurd q.1 (by rw [he]; decide) | exact absurd q.2 (by rw [hv]; decide))]
           have := ih (h + 1) (by omega)
           rw [hb2, ez, Int.add_zero] at this
           exact this)
      · show Wx g y_Ru_eatenBy Z K 26 [vR u, vI p, vI (sumN (eatP C p) h), vI (h : Int)] [vI 0] σ
        refine x_if_eq (tgt := 36) (dat d_Ru_eatenBy 16 rfl) (by decide) (fun c_26 => ?_) (fun h => absurd h (by decide))
        refine x_iinc (v' := ((h + 1 : Nat) : Int)) (L' := [vR u, vI p, vI (sumN (eatP C p) h), vI ((h + 1 : Nat) : Int)]) (dat d_Ru_eatenBy 22 rfl) rfl (by decide) rfl (by omega) (by omega) rfl ?_
        refine x_goto (tgt := 4) (dat d_Ru_eatenBy 23 rfl) (by decide) ?_
        first
        | (have ez : eatP C p h = cS C 3 := by unfold eatP; rw [if_pos ⟨he, hv⟩]
           have := ih (h + 1) (by omega)
           rw [hb2, ez] at this
           exact this)
        | (have ez : eatP C p h = 0 := by unfold eatP; rw [if_neg (fun q => by first | exact absurd q.1 (by rw [he]; decide) | exact absurd q.2 (by rw [hv]; decide))]
           have := ih (h + 1) (by omega)
           rw [hb2, ez, Int.add_zero] at this
           exact this)
    · show Wx g y_Ru_eatenBy Z K 17 [vR u, vI p, vI (sumN (eatP C p) h), vI (h : Int)] [vI 0] σ
      refine x_if_eq (tgt := 36) (dat d_Ru_eatenBy 11 rfl) (by decide) (fun c_17 => ?_) (fun h => absurd h (by decide))
      refine x_iinc (v' := ((h + 1 : Nat) : Int)) (L' := [vR u, vI p, vI (sumN (eatP C p) h), vI ((h + 1 : Nat) : Int)]) (dat d_Ru_eatenBy 22 rfl) rfl (by decide) rfl (by omega) (by omega) rfl ?_
      refine x_goto (tgt := 4) (dat d_Ru_eatenBy 23 rfl) (by decide) ?_
      first
      | (have ez : eatP C p h = cS C 3 := by unfold eatP; rw [if_pos ⟨he, hv⟩]
         have := ih (h + 1) (by omega)
         rw [hb2, ez] at this
         exact this)
      | (have ez : eatP C p h = 0 := by unfold eatP; rw [if_neg (fun q => by first | exact absurd q.1 (by rw [he]; decide) | exact absurd q.2 (by rw [hv]; decide))]
         have := ih (h + 1) (by omega)
         rw [hb2, ez, Int.add_zero] at this
         exact this)
theorem sp_Ru_eatenBy {g : xG} {K : Option MV → xS → Prop} {σ : xS} {u : Nat} {C : Cf} {p : Int} (hu : IsRu u) (hC : CfOk C) (R : RunS σ u C 0 (cH C)) (p0 : 0 ≤ p) (p1 : p < cS C 0) (k : K (some (vI (sumN (eatP C p) (cH C)))) σ) : Mt g y_Ru_eatenBy [vR u, vI p] σ K := by
  refine x_enter 2 rfl rfl rfl (fun Z => ?_)
  show Wx g y_Ru_eatenBy Z K 0 [vR u, vI p, vU, vU] [] σ
  refine x_iconst (dat d_Ru_eatenBy 0 rfl) (by decide) ?_
  refine x_istore_n (L' := [vR u, vI p, vI 0, vU]) (dat d_Ru_eatenBy 1 rfl) rfl (by decide) rfl rfl ?_
  refine x_iconst (dat d_Ru_eatenBy 2 rfl) (by decide) ?_
  refine x_istore_n (L' := [vR u, vI p, vI 0, vI 0]) (dat d_Ru_eatenBy 3 rfl) rfl (by decide) rfl rfl ?_
  exact lp_Ru_eatenBy hu hC R p0 p1 k (cH C) 0 (by omega)
theorem lp_Ru_breadAt {g : xG} {Z : xZ} {K : Option MV → xS → Prop} {σ : xS} {u f h : Nat} {C : Cf} (hu : IsRu u) (hC : CfOk C) (R : RunS σ u C f (cH C)) (h0 : f ≤ h) (h1 : h < cH C) (k : K (some (vI (brN C (h + 1)))) σ) : ∀ (n p : Nat), (p : Int) + n = cS C 0 → Wx g y_Ru_breadAt Z K 4 [vR u, vI (h : Int), vI (tot (rst C (h + 1)).1 p), vI (p : Int)] [] σ := by
  have hH := cH_eq hC
  have h8 := hC.2.1
  have e0 : σ u 0 = cS C 0 := R.1.1
  intro n
  induction n with
  | zero =>
    intro p hn
    have e : (cS C 0).toNat = p := by omega
    refine x_iload_n (dat d_Ru_breadAt 4 rfl) rfl rfl ?_
    refine x_aload_n (dat d_Ru_breadAt 5 rfl) rfl rfl ?_
    refine x_geti (ji := 0) (v := cS C 0) (dat d_Ru_breadAt 6 rfl) rfl f_Ru_46 (ru_oi_0 hu) (e0) ?_
    refine x_icmp_ge (tgt := 32) (dat d_Ru_breadAt 7 rfl) (by decide) (fun c_9 => ?_) (fun c_9 => (by omega))
    refine x_iload_n (dat d_Ru_breadAt 21 rfl) rfl rfl ?_
    refine x_iret (dat d_Ru_breadAt 22 rfl) rfl ?_
    unfold brN at k
    rw [e] at k
    exact k
  | succ n ih =>
    intro p hn
    have eb := R.hB h0 h1 (p := (p : Int)) (by omega) (by omega)
    have hb := rst_bd hC (h + 1) (p := (p : Int)) (by omega) (by omega)
    have hs := tot_mono (f := (rst C (h + 1)).1) (g := fun _ => 294) p (fun q q0 q1 => (rst_bd hC (h + 1) q0 (by omega)).2)
    have hs2 := (tot_le (f := (rst C (h + 1)).1) p (fun q q0 q1 => (rst_bd hC (h + 1) q0 (by omega)).1)).1
    have hs3 : ∀ m : Nat, tot (fun _ => 294) m = 294 * (m : Int) := fun m => by
      induction m with
      | zero => rfl
      | succ m im => simp only [tot]; rw [im]; omega
    have hs4 := hs3 p
    refine x_iload_n (dat d_Ru_breadAt 4 rfl) rfl rfl ?_
    refine x_aload_n (dat d_Ru_breadAt 5 rfl) rfl rfl ?_
    refine x_geti (ji := 0) (v := cS C 0) (dat d_Ru_breadAt 6 rfl) rfl f_Ru_46 (ru_oi_0 hu) (e0) ?_
    refine x_icmp_ge (tgt := 32) (dat d_Ru_breadAt 7 rfl) (by decide) (fun c_9 => (by omega)) (fun c_9 => ?_)
    refine x_iload_n (dat d_Ru_breadAt 8 rfl) rfl rfl ?_
    refine x_aload_n (dat d_Ru_breadAt 9 rfl) rfl rfl ?_
    refine x_getr (r := u + 6) (dat d_Ru_breadAt 10 rfl) rfl f_Ru_18 (ru_or_5 hu) ?_
    refine x_iload_n (dat d_Ru_breadAt 11 rfl) rfl rfl ?_
    refine x_bipush (dat d_Ru_breadAt 12 rfl) (by decide) (by decide) ?_
    refine x_imul (v := 8 * (h : Int)) (dat d_Ru_breadAt 13 rfl) (by omega) (by omega) ?_
    refine x_iload_n (dat d_Ru_breadAt 14 rfl) rfl rfl ?_
    refine x_iadd (v := (8 * (h : Int)) + (p : Int)) (dat d_Ru_breadAt 15 rfl) rfl (by omega) ?_
    refine x_iald (n := 192) (v := (rst C (h + 1)).1 p) (dat d_Ru_breadAt 16 rfl) (ru_ai_6 hu) (by omega) (by omega) (eb) ?_
    refine x_iadd (v := tot (rst C (h + 1)).1 (p + 1)) (dat d_Ru_breadAt 17 rfl) (by rfl) (by simp only [tot]; omega) ?_
    refine x_istore_n (L' := [vR u, vI (h : Int), vI (tot (rst C (h + 1)).1 (p + 1)), vI (p : Int)]) (dat d_Ru_breadAt 18 rfl) rfl (by decide) rfl rfl ?_
    refine x_iinc (v' := ((p + 1 : Nat) : Int)) (L' := [vR u, vI (h : Int), vI (tot (rst C (h + 1)).1 (p + 1)), vI ((p + 1 : Nat) : Int)]) (dat d_Ru_breadAt 19 rfl) rfl (by decide) rfl (by omega) (by omega) rfl ?_
    refine x_goto (tgt := 4) (dat d_Ru_breadAt 20 rfl) (by decide) ?_
    exact ih (p + 1) (by omega)
theorem sp_Ru_breadAt {g : xG} {K : Option MV → xS → Prop} {σ : xS} {u f h : Nat} {C : Cf} (hu : IsRu u) (hC : CfOk C) (R : RunS σ u C f (cH C)) (h0 : f ≤ h) (h1 : h < cH C) (k : K (some (vI (brN C (h + 1)))) σ) : Mt g y_Ru_breadAt [vR u, vI (h : Int)] σ K := by
  refine x_enter 2 rfl rfl rfl (fun Z => ?_)
  show Wx g y_Ru_breadAt Z K 0 [vR u, vI (h : Int), vU, vU] [] σ
  refine x_iconst (dat d_Ru_breadAt 0 rfl) (by decide) ?_
  refine x_istore_n (L' := [vR u, vI (h : Int), vI 0, vU]) (dat d_Ru_breadAt 1 rfl) rfl (by decide) rfl rfl ?_
  refine x_iconst (dat d_Ru_breadAt 2 rfl) (by decide) ?_
  refine x_istore_n (L' := [vR u, vI (h : Int), vI 0, vI 0]) (dat d_Ru_breadAt 3 rfl) rfl (by decide) rfl rfl ?_
  exact lp_Ru_breadAt hu hC R h0 h1 k (cS C 0).toNat 0 (by have := hC.1; omega)
