/-! the drawn town comes into the world -/
theorem dr_rg {P q q0 : Int} {f : Int → Int} (hP : 1 ≤ P ∧ P ≤ 8) (hq : 0 ≤ q0 ∧ q0 ≤ 3) (hqq : q = if P < 2 then 0 else q0) (h : DrB P q f ∧ DrP P.toNat f ∧ DrQ P q.toNat f) : TRg f ∧ f 6 = P := by
  obtain ⟨⟨h0, h1, h2, h3, h4, h5, h6, h7⟩, hp, hr⟩ := h
  have hq3 : 0 ≤ q ∧ q ≤ 3 := by rw [hqq]; split <;> omega
  refine ⟨⟨⟨by omega, by omega, by omega, by omega, by omega, by omega, by omega, by omega⟩, fun i hi => hp i (by omega), fun k hk => ?_⟩, h6⟩
  rw [h6]
  exact hr k (by omega)
section DRC
variable {g : xG} {y : xM} {Y : aY} {cc ss pc pc' : Nat} {L S : List MV} {σ : xS}
theorem a_draw {N idx : Nat} {xs : Nat → Int32} {P q q0 : Int} (hX : aX g Y N xs) (hYA : Y.2.2.1 = bA Y.1.2.2.1.heap.size) (hP : 1 ≤ P ∧ P ≤ 8) (hq : 0 ≤ q0 ∧ q0 ≤ 3) (hqq : q = if P < 2 then 0 else q0) (hd : xd y.2.1 pc (.invokestatic idx) 3 pc') (ho : y.1.cls = "ShakenBreadLaw") (hl : Cond.methodLink "ShakenBreadLaw" idx y_Lw_draw.1 ∈ gw) (hdep : y_Lw_draw.2.2.2.2 + 1 ≤ y.2.2.2.2) (h8 : ((S.map (cv g)).map (fun v => v.category)).sum ≤ 8) (hcs : cc + 1 ≤ Y.2.1.cells ∧ ss + 180 ≤ Y.2.1.slots) (hL2 : L.all (nR 175) = true) (hS2 : S.all (nR 175) = true)
    (kk : ∀ (r : Nat) (f : Int → Int), Y.1.2.2.1.heap.size ≤ r → (DrB P q f ∧ DrP P.toNat f ∧ DrQ P q.toNat f) → Ax (sg g 175 r) y Y (List.range NB ++ []) (cc + 1) (ss + 180) pc' L (vR 175 :: S) (fun k' i => if k' = 175 then f i else σ k' i)) : Ax g y Y (List.range 175) cc ss pc L (vI q0 :: vI P :: vI 1 :: vR 500 :: S) σ := by
  refine a_raw (As := [vR 500, vI 1, vI P, vI q0]) hd ho c_Lw_draw hl hdep rfl rfl h8 hcs (fun q hq => by rw [hYA]; exact hq) clB_blind (sp_draw (xs := xs) (B := Y.1.2.2.1.heap.size) hX.1 hP hq hqq) (fun st t oc h => ?_) (fun F H locs hA hσ hH hs U hU hW => ?_) (fun F hA hL hS hσ H locs locs1 ls st t v hH hs hl hst hQ hs1 => ?_)
  · exact ⟨h.2.1, fun q h1 _ => h.2.2 q h1 (Nat.not_le.mpr h1)⟩
  · have hb := hX.2.2.1
    refine ⟨xK_moved hW.alike F.2.2.2.2.2.2.2.1, ?_, by rw [hU]; have := hs.1; omega, by rw [hU]; exact hs.1⟩
    rw [hU]
    exact (va_X.moved hW.alike hX.2.1).kept (hs.2.1 _ hb hX.2.2.2)
  · obtain ⟨⟨r, f, he, hr, hf, hfr, hat⟩, hF⟩ := hQ
    cases he
    have ek : (sg g 175 r).2.1 175 = r := show (if 175 = 175 then r else g.2.1 175) = r from if_pos rfl
    have ej : ∀ j, j ≠ 175 → (sg g 175 r).2.1 j = g.2.1 j := fun j hj => show (if j = 175 then r else g.2.1 j) = g.2.1 j from if_neg hj
    have hold : ∀ (i o : Nat), (List.range 175)[i]? = some o → o ≠ 175 ∧ g.2.1 o < st.heap.size := fun i o hio => by
      refine ⟨fun e => ?_, ?_⟩
      · have := rg_get hio
        omega
      · rw [hst]
        exact (hH i _ (aws_get hio)).lt
    have eD : List.range NB ++ [] = List.range 175 ++ [175] := by
      rw [List.append_nil]
      exact List.range_succ
    have key : ∀ (i p : Nat), (List.range NB ++ [])[i]? = some p → (List.range 175)[i]? = some p ∨ (i = 175 ∧ p = 175) := fun i p h => by
      rw [List.append_nil] at h
      obtain ⟨rfl, h1⟩ := rg_get h
      have h1 : p < 176 := h1
      by_cases hi : p < 175
      · exact Or.inl (List.getElem?_range hi)
      · exact Or.inr ⟨by omega, by omega⟩
    have hrs : Y.1.2.2.1.heap.size ≤ r := by
      have := hs.1
      rw [← hst] at this
      omega
    have hrA : Y.2.2.1 r := by
      rw [hYA]
      exact hrs
    have hA2 : aA (sg g 175 r) (List.range NB ++ []) (cc + 1) (ss + 180) Y := by
      refine ⟨fun i j p q hp hq e => ?_, fun p hp => ?_, hcs⟩
      · rcases key i p hp with h1 | ⟨h1, rfl⟩
        · rcases key j q hq with h2 | ⟨h2, rfl⟩
          · rw [ej p (hold i p h1).1, ej q (hold j q h2).1] at e
            exact hA.1 i j p q h1 h2 e
          · rw [ej p (hold i p h1).1, ek] at e
            have := (hold i p h1).2
            omega
        · rcases key j q hq with h2 | ⟨h2, rfl⟩
          · rw [ej q (hold j q h2).1, ek] at e
            have := (hold j q h2).2
            omega
          · omega
      · obtain ⟨i, hi⟩ := List.getElem?_of_mem hp
        rcases key i p hi with h1 | ⟨-, rfl⟩
        · rw [ej p (hold i p h1).1]
          exact hA.2.1 p (List.mem_of_getElem? h1)
        · rw [ek]; exact hrA
    obtain ⟨σ', hσ'⟩ : ∃ σ' : xS, σ' = (fun k' i => if k' = 175 then f i else σ k' i) := ⟨_, rfl⟩
    have s1 : σ' 175 = f := by rw [hσ']; funext i; exact if_pos rfl
    have s2 : ∀ o, o ≠ 175 → σ' o = σ o := fun o ho => by rw [hσ']; funext i; exact if_neg ho
    have k175 : kd 175 = 20 ∧ ln 175 = 180 := by decide +kernel
    have hoks : okS σ' := fun o i => by
      by_cases z : o = 175
      · rw [z, s1]
        exact ⟨hfr i, fun h => by omega, fun h => by rcases h with h | ⟨h, -⟩ <;> omega, fun h => by omega⟩
      · rw [s2 o z]; exact hσ o i
    have hH2 : aHp (sg g 175 r) σ' (List.range NB ++ []) t.heap := fun i q hq => by
      obtain ⟨o, hio, rfl⟩ := aws_of hq
      rcases key i o hio with h1 | ⟨-, rfl⟩
      · have hh := hold i o h1
        rw [ej o hh.1, xcell_rd (g := g) (g' := sg g 175 r) (σ := σ) rfl (fun j hj => ej j (by omega)) hσ (s2 o hh.1)]
        exact (hH i _ (aws_get h1)).kept (by rw [← hst]; exact hF.2 _ hh.2 (Nat.not_le.mpr hh.2))
      · rw [ek, xcell_i (n := 180) (Or.inl k175.1) k175.2, k175.1, s1]
        exact hat
    have hl1 : lv_has ls y.2.2.1 (lvl (sg g 175 r) 0 L) := by rw [lvl_sg L 0 hL2]; exact hl
    have k0 := kk r f hrs hf F hA2 hL (xok_cons hS trivial) (by rw [← hσ']; exact hoks) t.heap locs1 ls (by rw [← hσ']; exact hH2) hs1 hl1
    rw [List.map_cons, map_sg S hS2, show cv (sg g 175 r) (vR 175) = .ref r from congrArg Value.ref ek] at k0
    exact k0
end DRC
