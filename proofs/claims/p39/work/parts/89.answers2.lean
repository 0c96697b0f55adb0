/-! more answers in numbers -/
section AN
variable {r : Int → Int} {h p v : Int}
theorem an_at0 (hh : 0 ≤ h ∧ h < r 3) (hp : 0 ≤ p ∧ p < r 6) (hv : atA r h p 0 v) : v = cellT r p h := by
  unfold atA at hv
  rw [if_neg (fun w => w ⟨hh, hp⟩), if_pos rfl] at hv
  exact hv
theorem an_at2 (hh : 0 ≤ h ∧ h < r 3) (hp : 0 ≤ p ∧ p < r 6) (hv : atA r h p 2 v) : v = if (rst (cfg r) (h.toNat + 1)).2 p = true then 1 else 0 := by
  unfold atA at hv
  rw [if_neg (fun w => w ⟨hh, hp⟩), if_neg (by decide), if_neg (by decide), if_pos rfl] at hv
  exact hv
theorem an_at3 (hh : 0 ≤ h ∧ h < r 3) (hp : 0 ≤ p ∧ p < r 6) (hv : atA r h p 3 v) : Msk 8 v (metB (hev (cfg r) h.toNat) p) := by
  unfold atA at hv
  rw [if_neg (fun w => w ⟨hh, hp⟩), if_neg (by decide), if_neg (by decide), if_neg (by decide), if_pos rfl] at hv
  exact hv
theorem an_at4 (hh : 0 ≤ h ∧ h < r 3) (hp : 0 ≤ p ∧ p < r 6) (hv : atA r h p 4 v) : v = cameI (hev (cfg r) h.toNat) p := by
  unfold atA at hv
  rw [if_neg (fun w => w ⟨hh, hp⟩), if_neg (by decide), if_neg (by decide), if_neg (by decide), if_neg (by decide), if_pos rfl] at hv
  exact hv
theorem an_h0 (hh : 0 ≤ h ∧ h < r 3) (hv : hourA r h 0 v) : v = (hev (cfg r) h.toNat).length := by
  unfold hourA at hv
  rw [if_neg (fun w => w hh), if_pos rfl] at hv
  exact hv
theorem an_h1 (hh : 0 ≤ h ∧ h < r 3) (hv : hourA r h 1 v) : v = goneI (hev (cfg r) h.toNat) := by
  unfold hourA at hv
  rw [if_neg (fun w => w hh), if_neg (by decide), if_pos rfl] at hv
  exact hv
theorem an_h2 (hh : 0 ≤ h ∧ h < r 3) (hv : hourA r h 2 v) : v = eatN (cfg r) h.toNat := by
  unfold hourA at hv
  rw [if_neg (fun w => w hh), if_neg (by decide), if_neg (by decide), if_pos rfl] at hv
  exact hv
theorem an_h3 (hh : 0 ≤ h ∧ h < r 3) (hv : hourA r h 3 v) : Msk 8 v (rst (cfg r) (h.toNat + 1)).2 := by
  unfold hourA at hv
  rw [if_neg (fun w => w hh), if_neg (by decide), if_neg (by decide), if_neg (by decide), if_pos rfl] at hv
  exact hv
theorem an_h4 (hh : 0 ≤ h ∧ h < r 3) (hv : hourA r h 4 v) : v = brN (cfg r) (h.toNat + 1) := by
  unfold hourA at hv
  rw [if_neg (fun w => w hh), if_neg (by decide), if_neg (by decide), if_neg (by decide), if_neg (by decide), if_pos rfl] at hv
  exact hv
theorem an_r2 (hv : runA r 2 v) : v = sumN (fun h => ((hev (cfg r) h).length : Int)) (r 3).toNat := by
  unfold runA at hv
  rw [if_neg (by decide), if_neg (by decide), if_pos rfl] at hv
  exact hv
theorem an_r4 (hv : runA r 4 v) : v = brN (cfg r) (r 3).toNat := by
  unfold runA at hv
  rw [if_neg (by decide), if_neg (by decide), if_neg (by decide), if_neg (by decide), if_pos rfl] at hv
  exact hv
theorem an_r6 (hv : runA r 6 v) : v = cpl2 (cfg r) (r 6).toNat / 2 := by
  unfold runA at hv
  rw [if_neg (by decide), if_neg (by decide), if_neg (by decide), if_neg (by decide), if_neg (by decide), if_neg (by decide), if_pos rfl] at hv
  exact hv
theorem an_f1 (hp : 0 ≤ p ∧ p < r 6) (hv : fateA r p 1 v) : v = sumN (shN (cfg r) p) (r 3).toNat := by
  unfold fateA at hv
  rw [if_neg (fun w => w hp), if_neg (by decide), if_pos rfl] at hv
  exact hv
theorem an_f3 (hp : 0 ≤ p ∧ p < r 6) (hv : fateA r p 3 v) : v = (rst (cfg r) (amx (fun h => (rst (cfg r) (h + 1)).1 p) ((r 3).toNat - 1) + 1)).1 p := by
  unfold fateA at hv
  rw [if_neg (fun w => w hp), if_neg (by decide), if_neg (by decide), if_neg (by decide), if_pos rfl] at hv
  exact hv
theorem an_fa (hh : 0 ≤ h ∧ h < r 3) (hp : 0 ≤ p ∧ p < r 6) (hv : fevA r p h (-1) v) : Msk 8 v (rch (cGl (cfg r)) p (lgs (cfg r) 0 (h.toNat + 1))) := by
  unfold fevA at hv
  rw [if_neg (by omega), if_pos rfl] at hv
  exact hv
theorem an_fo {o : Int} (h3 : 1 ≤ r 3) (hp : 0 ≤ p ∧ p < r 6) (ho : 0 ≤ o ∧ o < r 6) (hpo : p ≠ o) (hv : fevA r p 0 o v) : FirstH (fun i => rch (cGl (cfg r)) p (lgs (cfg r) 0 (i + 1)) o = true) (r 3).toNat v := by
  unfold fevA at hv
  rw [if_neg (by omega), if_neg (by omega)] at hv
  exact hv
theorem an_nw {o : Int} (hp : 0 ≤ p ∧ p < r 6) (ho : 0 ≤ o ∧ o < r 6) (hpo : p ≠ o) (hv : nwsA r p o v) : FirstH (fun i => rch (fun _ => false) p (lgs (cfg r) 0 (i + 1)) o = true) (r 3).toNat v := by
  unfold nwsA at hv
  rw [if_neg (fun w => w ⟨⟨hp, ho⟩, hpo⟩)] at hv
  exact hv
theorem an_pt (hh : 0 ≤ h ∧ h < r 3) (hp : 0 ≤ p ∧ p < r 6) (hv : ptdA r p h 0 v) : v < 0 ∨ Msk 8 v (pnt (cfg r) (fun q => decide (q = p)) (h.toNat + 1)) := by
  unfold ptdA at hv
  split at hv
  · left; omega
  · rw [if_pos rfl] at hv
    exact Or.inr hv
theorem an_dr {s x : Int} (hp : 0 ≤ p ∧ p < r 6) (hx : 0 ≤ x ∧ x ≤ 10) (hv : drwA r p s x v) : Msk 8 v (lot (cGl (cfg r)) x p s (lgs (cfg r) 0 (r 3).toNat)).2 := by
  unfold drwA at hv
  rw [if_neg (fun w => w ⟨hp, hx⟩)] at hv
  exact hv
/-- fevers of the drawn kind, beside those for sure -/
theorem dr_eq {s v w : Int} (h1 : Msk 8 v (lot (cGl (cfg r)) 10 p s (lgs (cfg r) 0 (r 3).toNat)).2) (h2 : Msk 8 w (rch (cGl (cfg r)) p (lgs (cfg r) 0 (r 3).toNat))) : v = w := h1.ext h2 (fun q _ _ => by rw [lot_10])
theorem dr_sub {s x v w : Int} (h1 : Msk 8 v (lot (cGl (cfg r)) x p s (lgs (cfg r) 0 (r 3).toNat)).2) (h2 : Msk 8 w (rch (cGl (cfg r)) p (lgs (cfg r) 0 (r 3).toNat))) : iand v (ixor w (-1)) = 0 := by
  have hm := Msk.andn (n := 8) (by decide) h1 h2
  refine hm.iszero.mpr (fun q p0 p1 => ?_)
  cases hd : (lot (cGl (cfg r)) x p s (lgs (cfg r) 0 (r 3).toNat)).2 q with
  | false => rfl
  | true => rw [lot_sub _ hd]; rfl
/-- who is ill at the end has caught it at some hour -/
theorem il_ca {o ill ca : Int} (hC : CfOk (cfg r)) (h3 : 1 ≤ r 3) (ho : 0 ≤ o ∧ o < 8) (h1 : Msk 8 ill (rch (cGl (cfg r)) p (lgs (cfg r) 0 (r 3).toNat))) (h2 : FirstH (fun i => rch (cGl (cfg r)) p (lgs (cfg r) 0 (i + 1)) o = true) (r 3).toNat ca) : iand (ishr ill o) 1 = if 0 ≤ ca then 1 else 0 := by
  have hg := h1.get (by decide) ho.1 ho.2
  have he := first_end h2 (fun n m hnm hm hb => by
    have := rch_lgs (gl := cGl (cfg r)) (fr := p) (q := o) (n := n + 1) hb (m - n)
    rw [show n + 1 + (m - n) = m + 1 by omega] at this
    exact this) (by omega)
  rw [show (r 3).toNat - 1 + 1 = (r 3).toNat by omega] at he
  rw [hg]
  by_cases z : 0 ≤ ca
  · rw [if_pos z, if_pos (he.mp z)]
  · rw [if_neg z, if_neg (fun w => z (he.mpr w))]
theorem ca_nw {o ca nw : Int} (h2 : FirstH (fun i => rch (cGl (cfg r)) p (lgs (cfg r) 0 (i + 1)) o = true) (r 3).toNat ca) (h3 : FirstH (fun i => rch (fun _ => false) p (lgs (cfg r) 0 (i + 1)) o = true) (r 3).toNat nw) (h0 : 0 ≤ ca) : 0 ≤ nw ∧ nw ≤ ca := first_le h2 h3 (fun n hb => rch_no _ hb) h0
theorem ca_sh {o ca : Int} (hC : CfOk (cfg r)) (hpo : o ≠ p) (h2 : FirstH (fun i => rch (cGl (cfg r)) p (lgs (cfg r) 0 (i + 1)) o = true) (r 3).toNat ca) (h0 : 0 ≤ ca) : 1 ≤ sumN (shN (cfg r) o) (r 3).toNat := by
  rcases h2 with ⟨h, -⟩ | ⟨n, h1, -, h3, -⟩
  · omega
  · have := rch_lgs (gl := cGl (cfg r)) (fr := p) (q := o) (n := n + 1) h3 ((r 3).toNat - (n + 1))
    rw [show n + 1 + ((r 3).toNat - (n + 1)) = (r 3).toNat by omega] at this
    exact ill_shook hC hpo this
theorem mx_ge (h3 : 1 ≤ r 3) : (rst (cfg r) ((r 3 - 1).toNat + 1)).1 p ≤ (rst (cfg r) (amx (fun h => (rst (cfg r) (h + 1)).1 p) ((r 3).toNat - 1) + 1)).1 p := by
  have := amx_ge (fun h => (rst (cfg r) (h + 1)).1 p) ((r 3).toNat - 1) (r 3 - 1).toNat (by omega)
  exact this
/-! an hour of the town's run -/
theorem c6_cfg (r : Int → Int) : cS (cfg r) 6 = -1 := rfl
theorem hev_ok (hC : CfOk (cfg r)) (n : Nat) : Fal (hev (cfg r) n) ∧ ∀ e ∈ hev (cfg r) n, (0 ≤ e.1 ∧ e.1 < e.2.1 ∧ e.2.1 < r 6) ∧ shk (cfg r) n (rst (cfg r) n).2 e.1 e.2.1 = true := by
  have e : hev (cfg r) n = (hsh (cfg r) n (rst (cfg r) n).2 (rst (cfg r) n).1).2 := by
    unfold hev
    rw [hmi_no (c6_cfg r)]
  rw [e]
  exact ⟨hsh_fal hC.1 hC.2.1, hsh_shk hC.1⟩
theorem met_ok (hC : CfOk (cfg r)) {n : Nat} {p q : Int} (hm : metB (hev (cfg r) n) p q = true) : q ≠ p ∧ cellT r q n = cellT r p n ∧ (rst (cfg r) n).2 q = true := by
  obtain ⟨e, he, hh⟩ := metB_of hm
  obtain ⟨h1, h2⟩ := (hev_ok hC n).2 e he
  unfold shk at h2
  have h3 := Bool.and_eq_true_iff.mp h2
  have h4 := Bool.and_eq_true_iff.mp h3.1
  have h5 := Bool.and_eq_true_iff.mp h4.1
  have h6 : cellT r e.1 n = cellT r e.2.1 n := of_decide_eq_true h3.2
  rcases hh with ⟨rfl, rfl⟩ | ⟨rfl, rfl⟩
  · exact ⟨by omega, h6.symm, h5.2⟩
  · exact ⟨by omega, h6, h5.1⟩
theorem came_bd : ∀ (l : List Ev) (p : Int), -(l.length : Int) ≤ cameI l p ∧ cameI l p ≤ l.length
  | [], p => ⟨by simp [cameI], by simp [cameI]⟩
  | e :: l, p => by
    have := came_bd l p
    rw [cameI_c, List.length_cons]
    have h1 : -1 ≤ cmE e p ∧ cmE e p ≤ 1 := by
      unfold cmE
      split
      · omega
      · split
        · omega
        · split <;> omega
    omega
theorem tot_came_bd {l : List Ev} (hl : l.length ≤ 28) : ∀ n : Nat, -(28 * n : Int) ≤ tot (cameI l) n ∧ tot (cameI l) n ≤ 28 * n
  | 0 => by simp [tot]
  | n + 1 => by
    have := tot_came_bd hl n
    have := came_bd l n
    simp only [tot]
    omega
theorem sumN_cnt_bd {f : Nat → Int → Bool} : ∀ n : Nat, 0 ≤ sumN (fun p => cntN (f p) 8) n ∧ sumN (fun p => cntN (f p) 8) n ≤ 8 * n
  | 0 => by simp [sumN]
  | n + 1 => by
    have := sumN_cnt_bd (f := f) n
    have := cntN_bd (f n) 8
    simp only [sumN]
    omega
theorem sumN_len_bd {C : Cf} (hC : CfOk C) : ∀ n : Nat, 0 ≤ sumN (fun h => ((hev C h).length : Int)) n ∧ sumN (fun h => ((hev C h).length : Int)) n ≤ 28 * n
  | 0 => by simp [sumN]
  | n + 1 => by
    have := sumN_len_bd hC n
    have := (hmi_ok hC n).2.2
    simp only [sumN]
    omega
theorem brN_bd {C : Cf} (hC : CfOk C) (h6 : cS C 6 = -1) (n : Nat) : 0 ≤ brN C n ∧ brN C n ≤ 294 := by
  have h1 := rst_ok hC n
  have h2 := hC.tt n
  exact ⟨(tot_le _ (fun p p0 p1 => h1.1 p p0 (by have := hC.1; omega))).1, Int.le_trans h1.2 h2⟩
/-- of whom the mask says that they live behind the hour, none is new -/
theorem al_sub {n : Nat} {v w : Int} (h1 : Msk 8 v (rst (cfg r) (n + 1)).2) (h2 : Msk 8 w (rst (cfg r) n).2) : iand v (ixor w (-1)) = 0 := by
  have hm := Msk.andn (n := 8) (by decide) h1 h2
  refine hm.iszero.mpr (fun q p0 p1 => ?_)
  cases hd : (rst (cfg r) (n + 1)).2 q with
  | false => rfl
  | true => rw [al_dn n hd]; rfl
theorem hands_ok (hC : CfOk (cfg r)) (n : Nat) : sumN (fun p => cntN (metB (hev (cfg r) n) (p : Int)) 8) (r 6).toNat = 2 * ((hev (cfg r) n).length : Int) := by
  have h8 : r 6 ≤ 8 := hC.2.1
  have h0 : 0 ≤ r 6 := hC.1
  obtain ⟨h1, h2⟩ := hev_ok hC n
  exact hands_2 (by omega) h1 (fun e he => by have := (h2 e he).1; omega)
theorem came_ok (hC : CfOk (cfg r)) (n : Nat) : tot (cameI (hev (cfg r) n)) (r 6).toNat = 0 := by
  have e : hev (cfg r) n = (hsh (cfg r) n (rst (cfg r) n).2 (rst (cfg r) n).1).2 := by
    unfold hev
    rw [hmi_no (c6_cfg r)]
  rw [e]
  exact came_0 hC.1
end AN
