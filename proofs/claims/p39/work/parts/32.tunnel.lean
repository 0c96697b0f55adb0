/-! searches that begin with a run: the tunnel, the wedding, the miser -/
theorem RunS.same {σ σ' : xS} {u : Nat} {C : Cf} {f N : Nat} (R : RunS σ u C f N) (e : ∀ o : Nat, u ≤ o → o ≤ u + 12 → σ' o = σ o) : RunS σ' u C f N := by
  obtain ⟨R1, R2, R3, R4, R5⟩ := R
  refine ⟨?_, ?_, ?_, R4.same (fun o q0 q1 => e o (by omega) (by omega)), fun h h0 h1 => ?_⟩
  · rw [e u (by omega) (by omega)]; exact R1
  · rw [e (u + 12) (by omega) (by omega)]; exact R2
  · rw [e u (by omega) (by omega)]; exact R3
  · have := R5 h h0 h1
    unfold HourR at this ⊢
    rw [e (u + 6) (by omega) (by omega), e (u + 9) (by omega) (by omega), e (u + 7) (by omega) (by omega), e (u + 8) (by omega) (by omega), e (u + 10) (by omega) (by omega), e (u + 11) (by omega) (by omega), e (u + 5) (by omega) (by omega)]
    exact this
theorem base_hE {σ : xS} {e : Nat} {C C' : Cf} {f N : Nat} (hC : CfOk C) (R : RunS σ e C 0 N) (A : Agr C C' f) (hf : f ≤ N) : 1 ≤ f → (∀ p : Int, 0 ≤ p → p < cS C' 0 → σ (e + 6) (8 * ((f : Int) - 1) + p) = (rst C' f).1 p) ∧ Msk 8 (σ (e + 9) ((f : Int) - 1)) (rst C' f).2 := by
  intro h1
  rw [A.rS hC.1 f (Nat.le_refl f), A.1 0 (by decide), show (f : Int) - 1 = ((f - 1 : Nat) : Int) by omega]
  have h2 := R.hour (h := f - 1) (by omega) (by omega)
  rw [HourR, show f - 1 + 1 = f by omega] at h2
  exact ⟨h2.1, h2.2.1⟩
theorem Agr.loaf {C : Cf} (hn : cS C 6 = -1) (p n : Int) (f : Nat) : Agr C (mLoaf C p f n) f := by
  refine ⟨fun i hi => ?_, rfl, rfl, rfl, fun h bd hh => ?_, fun h al a b _ _ _ _ => rfl⟩
  · show (if i = 7 then n else if i = 6 then (f : Int) else if i = 5 then p else cS C i) = cS C i
    rw [if_neg (by omega), if_neg (by omega), if_neg (by omega)]
  · have e1 : lof C h bd = bd := by
      unfold lof
      rw [hn, if_neg (fun w => by omega)]
    rw [e1]
    unfold lof
    have : cS (mLoaf C p f n) 6 = (f : Int) := rfl
    rw [this, if_neg (fun w => by omega)]
theorem shk_wh {C : Cf} {f : Int → Int → Int} {h : Int} {al : Int → Bool} {a b : Int} (ea : f h a = cWh C h a) (eb : f h b = cWh C h b) : shk (mWh C f) h al a b = shk C h al a b := by
  show (al a && al b && cOp C a b && decide (f h a = f h b)) = _
  rw [ea, eb]
  rfl
theorem Agr.wh {C : Cf} {f : Int → Int → Int} {n : Nat} (e : ∀ (h : Nat) (p : Int), h < n → f h p = cWh C h p) : Agr C (mWh C f) n := ⟨fun _ _ => rfl, rfl, rfl, rfl, fun _ _ _ => rfl, fun h _ a b hh _ _ _ => shk_wh (e h a hh) (e h b hh)⟩
def scanMax (f : Nat → Int) : Nat → Int × Int
  | 0 => (-1, 0)
  | n + 1 => if (scanMax f n).1 = -1 ∨ (scanMax f n).2 < f n then ((n : Int), f n) else scanMax f n
theorem scanMax_in (f : Nat → Int) : ∀ n : Nat, (n = 0 ∧ (scanMax f n).1 = -1) ∨ (1 ≤ n ∧ 0 ≤ (scanMax f n).1 ∧ (scanMax f n).1 < n)
  | 0 => Or.inl ⟨rfl, rfl⟩
  | n + 1 => by
    have := scanMax_in f n
    simp only [scanMax]
    split
    · right; simp; omega
    · omega
def scanTop (f : Nat → Int) : Nat → Int × Int
  | 0 => (-1, 0)
  | n + 1 => if (scanTop f n).2 < f n then ((n : Int), f n) else scanTop f n
theorem up4 (σ : xS) (k : Nat) (v0 v1 v2 v3 : Int) : up (up (up (up σ k 0 v0) k 1 v1) k 2 v2) k 3 v3 k 0 = v0 ∧ up (up (up (up σ k 0 v0) k 1 v1) k 2 v2) k 3 v3 k 1 = v1 ∧ up (up (up (up σ k 0 v0) k 1 v1) k 2 v2) k 3 v3 k 2 = v2 ∧ up (up (up (up σ k 0 v0) k 1 v1) k 2 v2) k 3 v3 k 3 = v3 ∧ ∀ o : Nat, o ≠ k → up (up (up (up σ k 0 v0) k 1 v1) k 2 v2) k 3 v3 o = σ o := by
  refine ⟨?_, ?_, ?_, ?_, fun o h => ?_⟩
  · rw [up_ni (by decide), up_ni (by decide), up_ni (by decide), up_s]
  · rw [up_ni (by decide), up_ni (by decide), up_s]
  · rw [up_ni (by decide), up_s]
  · rw [up_s]
  · rw [up_ne h, up_ne h, up_ne h, up_ne h]
def tunF (t : Int → Int) (h n : Int) (p : Nat) : Int := stv (cfg t) - stv (mLoaf (cfg t) p h n)
def wedC (t : Int → Int) (h c : Int) : Cf := mWh (cfg t) (whFeast (cfg t) h c)
def wedF (t : Int → Int) (h : Nat) : Int := stv (wedC t h 0)
