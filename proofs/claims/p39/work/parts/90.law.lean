/-! the law's first half, from its end on -/
abbrev lY (p : Program) (e : Env) (s : State) (m : MethodId) (below : List Frame) (meth : Method) (c : Code) (b : Nat) : aY := ((p, e, s, m, #[Value.ref b], below, meth, c), room_1, bA s.heap.size, lw_Z below #[Value.ref b] s)
def akB (g : xG) (B : Nat) (σ : xS) (U : State) : Prop := xWd g σ U ∧ xROA (bA B) g U U.heap ∧ B ≤ U.heap.size ∧ ∀ k, k < NB → B ≤ g.2.1 k
theorem akB_blind {g : xG} {B : Nat} {σ : xS} {av : List Value} : FrameBlind (va_Pc av (akB g B σ)) := fun a U gf mk q => by
  obtain ⟨q0, ⟨hH, hK, hI, hR, hN, hs⟩, hRO, hB, hk⟩ := q
  exact ⟨q0, ⟨hH, xK_moved (u := U) (U := U.calling gf mk a) (Vm.Alike.refl U.vm) hK, hI, xRO_moved (u := U) (U := U.calling gf mk a) (Vm.Alike.refl U.vm) (fun _ _ _ => rfl) hR, xNs_same (u := U) (U := U.calling gf mk a) rfl hN, hs⟩, hRO.mvd (u := U) (U := U.calling gf mk a) (Vm.Alike.refl U.vm) (fun _ _ _ => rfl), hB, hk⟩
theorem xHp_a {g : xG} {σ : xS} {H : Heap} (h : xHp g σ H) : aHp g σ (List.range NB ++ []) H := fun i q hq => by
  obtain ⟨k, hk, rfl⟩ := aws_of hq
  rcases ws_of hk with ⟨hi, rfl⟩ | ⟨-, h2⟩
  · exact h k _ (xws_get hi)
  · exact absurd h2 List.not_mem_nil
theorem sp_asked {g : xG} {B : Nat} {A t r : Int → Int} {im : Nat → Int → Int} {σ : xS} {a : Int} (hS : LwS σ A t r im) (hT : TRg t) (hA : A 0 = 1) (ha : -2147483648 ≤ a ∧ a < 2147483648) (hσ : okS σ) : Met g.1 y_Lw_asked.1 (xWs y_Lw_asked) (cRm y_Lw_asked.2.2.2.2 3 540) (va_Pc ([vR 0, vR 174, vR 175, vI a].map (cv g)) (akB g B σ)) (skQ B) 3 540 (bA B) := by
  refine a_enter 11 (fun _ => bA B) (List.range NB ++ []) σ rfl rfl rfl (fun v hv => ?_) hσ (fun U hU => ⟨hU.1.2.1, xHp_a hU.1.1, ?_, ?_, fun q h => Nat.le_trans hU.2.2.1 h⟩) (fun Z hB => ?_)
  · simp only [List.mem_cons, List.not_mem_nil, or_false] at hv
    rcases hv with rfl | rfl | rfl | rfl
    · trivial
    · trivial
    · trivial
    · exact ha
  · intro i j p q hp hq e
    rcases ws_of hp with ⟨hi, rfl⟩ | ⟨-, h2⟩
    · rcases ws_of hq with ⟨hj, rfl⟩ | ⟨-, h2⟩
      · exact hU.1.2.2.1 _ _ hi hj e
      · exact absurd h2 List.not_mem_nil
    · exact absurd h2 List.not_mem_nil
  · intro k hk
    rw [List.append_nil] at hk
    exact hU.2.2.2 k (List.mem_range.mp hk)
  · exact as_1 (B := B) ⟨rfl, rfl, rfl, hB.2.2.1⟩ ⟨hB.2.1, hB.1.2.2.2.2.1, fun k hk => hB.2.2.2 k hk⟩ hS hT hA
section LAW
variable {p : Program} {e : Env} {s : State} {m : MethodId} {below : List Frame} {meth : Method} {c : Code} {b cc ss : Nat} {g : xG} {A t r : Int → Int} {im : Nat → Int → Int} {σ : xS} {a : Int}
theorem lw_857 {w6 w7 w8 w9 w10 w11 w12 w13 w14 w15 : MV} (hG : aG g (lY p e s m below meth c b)) (hS : LwS σ A t r im) (hT : TRg t) (hA : A 0 = 1) (ha : -2147483648 ≤ a ∧ a < 2147483648) (hcs : cc + 3 ≤ 600000 ∧ ss + 540 ≤ 7302250) : Ax g y_Lw_law (lY p e s m below meth c b) (List.range NB ++ []) cc ss 857 [vR 500, vR 0, vR 174, vI a, vI (t 6), vR 175, w6, w7, w8, w9, w10, w11, w12, w13, w14, w15] [] σ := by
  refine a_okS (fun ho => ?_)
  refine a_aload_n (dat d_Lw_law_7 52 rfl) rfl rfl ?_
  refine a_aload_n (dat d_Lw_law_7 53 rfl) rfl rfl ?_
  refine a_aload (dat d_Lw_law_7 54 rfl) rfl ?_
  refine a_iload_n (dat d_Lw_law_7 55 rfl) rfl rfl ?_
  refine a_raw (As := [vR 0, vR 174, vR 175, vI a]) (Bp := akB g s.heap.size σ) (S := []) (dat d_Lw_law_7 56 rfl) rfl c_Lw_asked l_Lw_148 (by decide) rfl rfl (Nat.zero_le _) hcs (fun q hq => hq) akB_blind (sp_asked hS hT hA ha ho) (fun st t2 oc h => h.2) (fun F H locs hA2 hσ hH hs U hU hW => ⟨a_pre hG F hA2 hσ hH hs U hU hW, hG.1.mvd hW.alike (by rw [hU]; exact hs.2.1), by rw [hU]; exact hs.1, hG.2.2⟩) (fun F hA2 hL hS2 hσ H locs locs1 ls st t2 v hH hs hl hst hQ hs1 => ?_)
  have hv := hQ.1
  cases hv
  refine va_forget (fun q hq => hs1.2.2 q hq) ?_
  refine W.widen (k := 600000) (n := 7302250) hcs.1 hcs.2 ?_
  exact lw_ret F.1 F.2.1 F.2.2.2.1 F.2.2.2.2.1 (dat d_Lw_law_7 57 rfl).1
/-- fevers, news, painted, drawn: one of the people after the other -/
theorem lw_people {w6 w7 w8 : MV} (hG : aG g (lY p e s m below meth c b)) (hT : TRg t) (hA : A 0 = 1) (ha : -2147483648 ≤ a ∧ a < 2147483648) (hcs : cc + 3 ≤ 600000 ∧ ss + 540 ≤ 7302250) : ∀ (n k : Nat) (w11 w12 w13 w14 w15 : MV) (σ : xS), ((k + n : Nat) : Int) = t 6 → LwS σ A t r im → Ax g y_Lw_law (lY p e s m below meth c b) (List.range NB ++ []) cc ss 602 [vR 500, vR 0, vR 174, vI a, vI (t 6), vR 175, w6, w7, w8, vI (t 3 - 1), vI (k : Int), w11, w12, w13, w14, w15] [] σ := by
  intro n
  induction n with
  | zero =>
    intro k w11 w12 w13 w14 w15 σ hk hS
    refine a_iload (dat d_Lw_law_5 40 rfl) rfl ?_
    refine a_iload (dat d_Lw_law_5 41 rfl) rfl ?_
    refine a_icmp_ge (tgt := 857) (dat d_Lw_law_5 42 rfl) (by decide) (fun c_606 => ?_) (fun c_606 => (by omega))
    exact lw_857 hG hS hT hA ha hcs
  | succ n ih =>
    intro k w11 w12 w13 w14 w15 σ hk hS
    have hTo := hS.ok
    have hC := cfg_ok hTo
    have R := hS.2.2.1.2
    have e3 : r 3 = t 3 := R.1.2.2.2.1
    have e6 : r 6 = t 6 := R.2.1.1
    have t3 := hT.1.2.2.2.1
    have t6 := hT.1.2.2.2.2.2.2.1
    have hkp : 0 ≤ (k : Int) ∧ (k : Int) < r 6 := by omega
    have hlh : 0 ≤ t 3 - 1 ∧ t 3 - 1 < r 3 := by omega
    have eN : (t 3 - 1).toNat + 1 = (r 3).toNat := by omega
    -- behind the painted ounce
    have j796 : ∀ (ill : Int) (w12 w13 w14 w15 : MV) (σ1 : xS), LwS σ1 A t r im → Msk 8 ill (rch (cGl (cfg r)) k (lgs (cfg r) 0 (r 3).toNat)) → Ax g y_Lw_law (lY p e s m below meth c b) (List.range NB ++ []) cc ss 796 [vR 500, vR 0, vR 174, vI a, vI (t 6), vR 175, w6, w7, w8, vI (t 3 - 1), vI (k : Int), vI ill, w12, w13, w14, w15] [] σ1 := fun ill w12 w13 w14 w15 σ1 hS hill => by
      refine a_aload_n (dat d_Lw_law_7 17 rfl) rfl rfl ?_
      refine a_iconst (dat d_Lw_law_7 18 rfl) (by decide) ?_
      refine a_iload (dat d_Lw_law_7 19 rfl) rfl ?_
      refine a_iload_n (dat d_Lw_law_7 20 rfl) rfl rfl ?_
      refine a_bipush (dat d_Lw_law_7 21 rfl) (by decide) (by decide) ?_
      refine a_inv hG (As := [vI 0, vI (k : Int), vI a, vI 10]) (dat d_Lw_law_7 22 rfl) rfl c_Sb_drawn l_Lw_145 (by decide) rv_0 rfl rfl (Nat.le_of_ble_eq_true rfl) ?_
      refine sp_Sb_drawn hS.1.1 (fun v1 σ2 h1 F1 => ⟨fun o ho => absurd ho List.not_mem_nil, ?_⟩)
      have h1 := dr_eq (an_dr hkp (by decide) (hS.at0 h1)) hill
      have hS := hS.tr F1
      show Ax g y_Lw_law (lY p e s m below meth c b) (List.range NB ++ []) cc ss 806 [vR 500, vR 0, vR 174, vI a, vI (t 6), vR 175, w6, w7, w8, vI (t 3 - 1), vI (k : Int), vI ill, w12, w13, w14, w15] [vI v1] σ2
      refine a_iload (dat d_Lw_law_7 23 rfl) rfl ?_
      refine a_icmp_ne (tgt := 849) (dat d_Lw_law_7 24 rfl) (by decide) (fun c_808 => (by omega)) (fun c_808 => ?_)
      refine a_aload_n (dat d_Lw_law_7 25 rfl) rfl rfl ?_
      refine a_iconst (dat d_Lw_law_7 26 rfl) (by decide) ?_
      refine a_iload (dat d_Lw_law_7 27 rfl) rfl ?_
      refine a_iload_n (dat d_Lw_law_7 28 rfl) rfl rfl ?_
      refine a_iconst (dat d_Lw_law_7 29 rfl) (by decide) ?_
      refine a_inv hG (As := [vI 0, vI (k : Int), vI a, vI 3]) (dat d_Lw_law_7 30 rfl) rfl c_Sb_drawn l_Lw_145 (by decide) rv_0 rfl rfl (Nat.le_of_ble_eq_true rfl) ?_
      refine sp_Sb_drawn hS.1.1 (fun v2 σ3 h2 F2 => ⟨fun o ho => absurd ho List.not_mem_nil, ?_⟩)
      have h2 := dr_sub (an_dr hkp (by decide) (hS.at0 h2)) hill
      have hS := hS.tr F2
      show Ax g y_Lw_law (lY p e s m below meth c b) (List.range NB ++ []) cc ss 820 [vR 500, vR 0, vR 174, vI a, vI (t 6), vR 175, w6, w7, w8, vI (t 3 - 1), vI (k : Int), vI ill, w12, w13, w14, w15] [vI v2] σ3
      refine a_iload (dat d_Lw_law_7 31 rfl) rfl ?_
      refine a_iconst (dat d_Lw_law_7 32 rfl) (by decide) ?_
      refine a_ixor (v := ixor ill (-1)) (dat d_Lw_law_7 33 rfl) rfl ?_
      refine a_iand (v := 0) (dat d_Lw_law_7 34 rfl) (by exact h2) ?_
      refine a_if_ne (tgt := 849) (dat d_Lw_law_7 35 rfl) (by decide) (fun h => absurd h (by decide)) (fun c_825 => ?_)
      refine a_aload_n (dat d_Lw_law_7 36 rfl) rfl rfl ?_
      refine a_iconst (dat d_Lw_law_7 37 rfl) (by decide) ?_
      refine a_iload (dat d_Lw_law_7 38 rfl) rfl ?_
      refine a_iconst (dat d_Lw_law_7 39 rfl) (by decide) ?_
      refine a_inv hG (As := [vI 0, vI (k : Int), vI 3]) (dat d_Lw_law_7 40 rfl) rfl c_Sb_fate l_Lw_139 (by decide) rv_0 rfl rfl (Nat.le_of_ble_eq_true rfl) ?_
      refine sp_Sb_fate hS.1.1 (fun v3 σ4 h3 F3 => ⟨fun o ho => absurd ho List.not_mem_nil, ?_⟩)
      have h3 := an_f3 hkp (hS.at0 h3)
      have hS := hS.tr F3
      show Ax g y_Lw_law (lY p e s m below meth c b) (List.range NB ++ []) cc ss 836 [vR 500, vR 0, vR 174, vI a, vI (t 6), vR 175, w6, w7, w8, vI (t 3 - 1), vI (k : Int), vI ill, w12, w13, w14, w15] [vI v3] σ4
      refine a_aload_n (dat d_Lw_law_7 41 rfl) rfl rfl ?_
      refine a_iconst (dat d_Lw_law_7 42 rfl) (by decide) ?_
      refine a_iload (dat d_Lw_law_7 43 rfl) rfl ?_
      refine a_iload (dat d_Lw_law_7 44 rfl) rfl ?_
      refine a_iconst (dat d_Lw_law_7 45 rfl) (by decide) ?_
      refine a_inv hG (As := [vI 0, vI (t 3 - 1), vI (k : Int), vI 1]) (dat d_Lw_law_7 46 rfl) rfl c_Sb_at l_Lw_118 (by decide) rv_0 rfl rfl (Nat.le_of_ble_eq_true rfl) ?_
      refine sp_Sb_at hS.1.1 (fun v4 σ5 h4 F4 => ⟨fun o ho => absurd ho List.not_mem_nil, ?_⟩)
      have h4 := an_at1 hlh hkp (hS.at0 h4)
      have h34 : v4 ≤ v3 := by
        have := mx_ge (r := r) (p := (k : Int)) (by omega)
        rw [show r 3 - 1 = t 3 - 1 by omega] at this
        rw [h3, h4]
        exact this
      have hS := hS.tr F4
      show Ax g y_Lw_law (lY p e s m below meth c b) (List.range NB ++ []) cc ss 846 [vR 500, vR 0, vR 174, vI a, vI (t 6), vR 175, w6, w7, w8, vI (t 3 - 1), vI (k : Int), vI ill, w12, w13, w14, w15] [vI v4, vI v3] σ5
      refine a_icmp_ge (tgt := 851) (dat d_Lw_law_7 47 rfl) (by decide) (fun c_846 => ?_) (fun c_846 => (by omega))
      refine a_iinc (v' := ((k + 1 : Nat) : Int)) (L' := [vR 500, vR 0, vR 174, vI a, vI (t 6), vR 175, w6, w7, w8, vI (t 3 - 1), vI ((k + 1 : Nat) : Int), vI ill, w12, w13, w14, w15]) (dat d_Lw_law_7 50 rfl) rfl (by decide) rfl (by omega) (by omega) rfl ?_
      refine a_goto (tgt := 602) (dat d_Lw_law_7 51 rfl) (by decide) ?_
      exact ih (k + 1) _ _ _ _ _ _ (by omega) hS
    have lpnt : ∀ (n2 j : Nat) (ill may : Int) (w14 w15 : MV) (σ1 : xS), ((j + n2 : Nat) : Int) = t 6 → LwS σ1 A t r im → Msk 8 ill (rch (cGl (cfg r)) k (lgs (cfg r) 0 (r 3).toNat)) → (may < 0 ∨ Msk 8 may (pnt (cfg r) (fun q => decide (q = (k : Int))) ((t 3 - 1).toNat + 1))) → Ax g y_Lw_law (lY p e s m below meth c b) (List.range NB ++ []) cc ss 752 [vR 500, vR 0, vR 174, vI a, vI (t 6), vR 175, w6, w7, w8, vI (t 3 - 1), vI (k : Int), vI ill, vI may, vI (j : Int), w14, w15] [] σ1 := by
      intro n2
      induction n2 with
      | zero =>
        intro j ill may w14 w15 σ1 hj hS hill hmay
        refine a_iload (dat d_Lw_law_6 56 rfl) rfl ?_
        refine a_iload (dat d_Lw_law_6 57 rfl) rfl ?_
        refine a_icmp_ge (tgt := 796) (dat d_Lw_law_6 58 rfl) (by decide) (fun c_756 => ?_) (fun c_756 => (by omega))
        exact j796 _ _ _ _ _ _ hS hill
      | succ n2 ih2 =>
        intro j ill may w14 w15 σ1 hj hS hill hmay
        have nx : ∀ σ2 : xS, LwS σ2 A t r im → Ax g y_Lw_law (lY p e s m below meth c b) (List.range NB ++ []) cc ss 790 [vR 500, vR 0, vR 174, vI a, vI (t 6), vR 175, w6, w7, w8, vI (t 3 - 1), vI (k : Int), vI ill, vI may, vI (j : Int), w14, w15] [] σ2 := fun σ2 hS => by
          refine a_iinc (v' := ((j + 1 : Nat) : Int)) (L' := [vR 500, vR 0, vR 174, vI a, vI (t 6), vR 175, w6, w7, w8, vI (t 3 - 1), vI (k : Int), vI ill, vI may, vI ((j + 1 : Nat) : Int), w14, w15]) (dat d_Lw_law_7 15 rfl) rfl (by decide) rfl (by omega) (by omega) rfl ?_
          refine a_goto (tgt := 752) (dat d_Lw_law_7 16 rfl) (by decide) ?_
          exact ih2 (j + 1) _ _ _ _ _ (by omega) hS hill hmay
        refine a_iload (dat d_Lw_law_6 56 rfl) rfl ?_
        refine a_iload (dat d_Lw_law_6 57 rfl) rfl ?_
        refine a_icmp_ge (tgt := 796) (dat d_Lw_law_6 58 rfl) (by decide) (fun c_756 => (by omega)) (fun c_756 => ?_)
        refine a_iload (dat d_Lw_law_6 59 rfl) rfl ?_
        refine a_if_lt (tgt := 796) (dat d_Lw_law_6 60 rfl) (by decide) (fun c_761 => ?_) (fun c_761 => ?_)
        · exact j796 _ _ _ _ _ _ hS hill
        · have hmy := hmay.resolve_left (by omega)
          have hg := hmy.get (by decide) (p := (j : Int)) (by omega) (by omega)
          refine a_iload (dat d_Lw_law_6 61 rfl) rfl ?_
          refine a_iload (dat d_Lw_law_7 0 rfl) rfl ?_
          refine a_ishr (v := ishr may (j : Int)) (dat d_Lw_law_7 1 rfl) rfl ?_
          refine a_iconst (dat d_Lw_law_7 2 rfl) (by decide) ?_
          refine a_iand (v := iand (ishr may (j : Int)) 1) (dat d_Lw_law_7 3 rfl) rfl ?_
          refine a_iconst (dat d_Lw_law_7 4 rfl) (by decide) ?_
          refine a_icmp_ne (tgt := 790) (dat d_Lw_law_7 5 rfl) (by decide) (fun c_772 => ?_) (fun c_772 => ?_)
          · exact nx _ hS
          · refine a_aload_n (dat d_Lw_law_7 6 rfl) rfl rfl ?_
            refine a_iconst (dat d_Lw_law_7 7 rfl) (by decide) ?_
            refine a_iload (dat d_Lw_law_7 8 rfl) rfl ?_
            refine a_iload (dat d_Lw_law_7 9 rfl) rfl ?_
            refine a_iconst (dat d_Lw_law_7 10 rfl) (by decide) ?_
            refine a_inv hG (As := [vI 0, vI (t 3 - 1), vI (j : Int), vI 1]) (dat d_Lw_law_7 11 rfl) rfl c_Sb_at l_Lw_118 (by decide) rv_0 rfl rfl (Nat.le_of_ble_eq_true rfl) ?_
            refine sp_Sb_at hS.1.1 (fun v1 σ2 h1 F1 => ⟨fun o ho => absurd ho List.not_mem_nil, ?_⟩)
            have h1 := an_at1 hlh (by omega) (hS.at0 h1)
            have h2 : 1 ≤ v1 := by
              rw [h1]
              refine pnt_br (s0 := fun q => decide (q = (k : Int))) ?_
              cases hz : pnt (cfg r) (fun q => decide (q = (k : Int))) ((t 3 - 1).toNat + 1) (j : Int) with
              | true => rfl
              | false =>
                rw [hz] at hg
                exact absurd (hg.symm.trans (by assumption)) (by decide)
            have hS := hS.tr F1
            show Ax g y_Lw_law (lY p e s m below meth c b) (List.range NB ++ []) cc ss 785 [vR 500, vR 0, vR 174, vI a, vI (t 6), vR 175, w6, w7, w8, vI (t 3 - 1), vI (k : Int), vI ill, vI may, vI (j : Int), w14, w15] [vI v1] σ2
            refine a_if_ne (tgt := 790) (dat d_Lw_law_7 12 rfl) (by decide) (fun c_785 => ?_) (fun c_785 => (by omega))
            exact nx _ hS
    have j737 : ∀ (ill : Int) (w12 w13 w14 w15 : MV) (σ1 : xS), LwS σ1 A t r im → Msk 8 ill (rch (cGl (cfg r)) k (lgs (cfg r) 0 (r 3).toNat)) → Ax g y_Lw_law (lY p e s m below meth c b) (List.range NB ++ []) cc ss 737 [vR 500, vR 0, vR 174, vI a, vI (t 6), vR 175, w6, w7, w8, vI (t 3 - 1), vI (k : Int), vI ill, w12, w13, w14, w15] [] σ1 := fun ill w12 w13 w14 w15 σ1 hS hill => by
      refine a_aload_n (dat d_Lw_law_6 47 rfl) rfl rfl ?_
      refine a_iconst (dat d_Lw_law_6 48 rfl) (by decide) ?_
      refine a_iload (dat d_Lw_law_6 49 rfl) rfl ?_
      refine a_iload (dat d_Lw_law_6 50 rfl) rfl ?_
      refine a_iconst (dat d_Lw_law_6 51 rfl) (by decide) ?_
      refine a_inv hG (As := [vI 0, vI (k : Int), vI (t 3 - 1), vI 0]) (dat d_Lw_law_6 52 rfl) rfl c_Sb_painted l_Lw_142 (by decide) rv_0 rfl rfl (Nat.le_of_ble_eq_true rfl) ?_
      refine sp_Sb_painted hS.1.1 (fun v1 σ2 h1 F1 => ⟨fun o ho => absurd ho List.not_mem_nil, ?_⟩)
      have h1 := an_pt hlh hkp (hS.at0 h1)
      have hS := hS.tr F1
      show Ax g y_Lw_law (lY p e s m below meth c b) (List.range NB ++ []) cc ss 747 [vR 500, vR 0, vR 174, vI a, vI (t 6), vR 175, w6, w7, w8, vI (t 3 - 1), vI (k : Int), vI ill, w12, w13, w14, w15] [vI v1] σ2
      refine a_istore (L' := [vR 500, vR 0, vR 174, vI a, vI (t 6), vR 175, w6, w7, w8, vI (t 3 - 1), vI (k : Int), vI ill, vI v1, w13, w14, w15]) (dat d_Lw_law_6 53 rfl) (by decide) rfl rfl ?_
      refine a_iconst (dat d_Lw_law_6 54 rfl) (by decide) ?_
      refine a_istore (L' := [vR 500, vR 0, vR 174, vI a, vI (t 6), vR 175, w6, w7, w8, vI (t 3 - 1), vI (k : Int), vI ill, vI v1, vI 0, w14, w15]) (dat d_Lw_law_6 55 rfl) (by decide) rfl rfl ?_
      exact lpnt (t 6).toNat 0 _ _ _ _ _ (by omega) hS hill h1
    have lil : ∀ (n2 j : Nat) (ill : Int) (w13 w14 w15 : MV) (σ1 : xS), ((j + n2 : Nat) : Int) = t 6 → LwS σ1 A t r im → Msk 8 ill (rch (cGl (cfg r)) k (lgs (cfg r) 0 (r 3).toNat)) → Ax g y_Lw_law (lY p e s m below meth c b) (List.range NB ++ []) cc ss 624 [vR 500, vR 0, vR 174, vI a, vI (t 6), vR 175, w6, w7, w8, vI (t 3 - 1), vI (k : Int), vI ill, vI (j : Int), w13, w14, w15] [] σ1 := by
      intro n2
      induction n2 with
      | zero =>
        intro j ill w13 w14 w15 σ1 hj hS hill
        refine a_iload (dat d_Lw_law_5 52 rfl) rfl ?_
        refine a_iload (dat d_Lw_law_5 53 rfl) rfl ?_
        refine a_icmp_ge (tgt := 737) (dat d_Lw_law_5 54 rfl) (by decide) (fun c_628 => ?_) (fun c_628 => (by omega))
        exact j737 _ _ _ _ _ _ hS hill
      | succ n2 ih2 =>
        intro j ill w13 w14 w15 σ1 hj hS hill
        have hjp : 0 ≤ (j : Int) ∧ (j : Int) < r 6 := by omega
        have nx : ∀ (w13 w14 w15 : MV) (σ2 : xS), LwS σ2 A t r im → Ax g y_Lw_law (lY p e s m below meth c b) (List.range NB ++ []) cc ss 731 [vR 500, vR 0, vR 174, vI a, vI (t 6), vR 175, w6, w7, w8, vI (t 3 - 1), vI (k : Int), vI ill, vI (j : Int), w13, w14, w15] [] σ2 := fun w13 w14 w15 σ2 hS => by
          refine a_iinc (v' := ((j + 1 : Nat) : Int)) (L' := [vR 500, vR 0, vR 174, vI a, vI (t 6), vR 175, w6, w7, w8, vI (t 3 - 1), vI (k : Int), vI ill, vI ((j + 1 : Nat) : Int), w13, w14, w15]) (dat d_Lw_law_6 45 rfl) rfl (by decide) rfl (by omega) (by omega) rfl ?_
          refine a_goto (tgt := 624) (dat d_Lw_law_6 46 rfl) (by decide) ?_
          exact ih2 (j + 1) _ _ _ _ _ (by omega) hS hill
        have j652 : ∀ (ca : Int) (w13 w14 w15 : MV) (σ2 : xS), LwS σ2 A t r im → ((k : Int) ≠ j → FirstH (fun i => rch (cGl (cfg r)) k (lgs (cfg r) 0 (i + 1)) j = true) (r 3).toNat ca) → Ax g y_Lw_law (lY p e s m below meth c b) (List.range NB ++ []) cc ss 652 [vR 500, vR 0, vR 174, vI a, vI (t 6), vR 175, w6, w7, w8, vI (t 3 - 1), vI (k : Int), vI ill, vI (j : Int), w13, w14, w15] [vI ca] σ2 := fun ca w13 w14 w15 σ2 hS hca => by
          refine a_istore (L' := [vR 500, vR 0, vR 174, vI a, vI (t 6), vR 175, w6, w7, w8, vI (t 3 - 1), vI (k : Int), vI ill, vI (j : Int), vI ca, w14, w15]) (dat d_Lw_law_6 4 rfl) (by decide) rfl rfl ?_
          refine a_aload_n (dat d_Lw_law_6 5 rfl) rfl rfl ?_
          refine a_iconst (dat d_Lw_law_6 6 rfl) (by decide) ?_
          refine a_iload (dat d_Lw_law_6 7 rfl) rfl ?_
          refine a_iload (dat d_Lw_law_6 8 rfl) rfl ?_
          refine a_inv hG (As := [vI 0, vI (k : Int), vI (j : Int)]) (dat d_Lw_law_6 9 rfl) rfl c_Sb_news l_Lw_136 (by decide) rv_0 rfl rfl (Nat.le_of_ble_eq_true rfl) ?_
          refine sp_Sb_news hS.1.1 (fun v1 σ3 h1 F1 => ⟨fun o ho => absurd ho List.not_mem_nil, ?_⟩)
          have h1 := hS.at0 h1
          have hS := hS.tr F1
          show Ax g y_Lw_law (lY p e s m below meth c b) (List.range NB ++ []) cc ss 663 [vR 500, vR 0, vR 174, vI a, vI (t 6), vR 175, w6, w7, w8, vI (t 3 - 1), vI (k : Int), vI ill, vI (j : Int), vI ca, w14, w15] [vI v1] σ3
          refine a_istore (L' := [vR 500, vR 0, vR 174, vI a, vI (t 6), vR 175, w6, w7, w8, vI (t 3 - 1), vI (k : Int), vI ill, vI (j : Int), vI ca, vI v1, w15]) (dat d_Lw_law_6 10 rfl) (by decide) rfl rfl ?_
          refine a_iload (dat d_Lw_law_6 11 rfl) rfl ?_
          refine a_iload (dat d_Lw_law_6 12 rfl) rfl ?_
          refine a_icmp_eq (tgt := 731) (dat d_Lw_law_6 13 rfl) (by decide) (fun c_669 => ?_) (fun c_669 => ?_)
          · exact nx _ _ _ _ hS
          · have hca := hca (by omega)
            have hnw := an_nw hkp hjp (by omega) h1
            have hb := il_ca hC (by omega) (o := (j : Int)) (by omega) hill hca
            have hb1 : 0 ≤ ca → iand (ishr ill (j : Int)) 1 = 1 := fun h => by rw [hb, if_pos h]
            have hb0 : ca < 0 → iand (ishr ill (j : Int)) 1 = 0 := fun h => by rw [hb, if_neg (by omega)]
            have hnn : 0 ≤ ca → 0 ≤ v1 ∧ v1 ≤ ca := fun h => ca_nw hca hnw h
            clear hb
            refine a_iload (dat d_Lw_law_6 14 rfl) rfl ?_
            refine a_iload (dat d_Lw_law_6 15 rfl) rfl ?_
            refine a_ishr (v := ishr ill (j : Int)) (dat d_Lw_law_6 16 rfl) rfl ?_
            refine a_iconst (dat d_Lw_law_6 17 rfl) (by decide) ?_
            refine a_iand (v := iand (ishr ill (j : Int)) 1) (dat d_Lw_law_6 18 rfl) rfl ?_
            refine a_iconst (dat d_Lw_law_6 19 rfl) (by decide) ?_
            refine a_icmp_ne (tgt := 687) (dat d_Lw_law_6 20 rfl) (by decide) (fun c_680 => ?_) (fun c_680 => ?_)
            · refine a_iconst (dat d_Lw_law_6 23 rfl) (by decide) ?_
              refine a_iload (dat d_Lw_law_6 24 rfl) rfl ?_
              refine a_if_lt (tgt := 697) (dat d_Lw_law_6 25 rfl) (by decide) (fun c_690 => ?_) (fun c_690 => ?_)
              · refine a_iconst (dat d_Lw_law_6 28 rfl) (by decide) ?_
                refine a_icmp_ne (tgt := 729) (dat d_Lw_law_6 29 rfl) (by decide) (fun h => absurd h (by decide)) (fun c_698 => ?_)
                refine a_iload (dat d_Lw_law_6 30 rfl) rfl ?_
                refine a_if_lt (tgt := 731) (dat d_Lw_law_6 31 rfl) (by decide) (fun c_703 => ?_) (fun c_703 => ?_)
                · exact nx _ _ _ _ hS
                · refine a_iload (dat d_Lw_law_6 32 rfl) rfl ?_
                  refine a_if_lt (tgt := 729) (dat d_Lw_law_6 33 rfl) (by decide) (fun c_708 => (by omega)) (fun c_708 => ?_)
                  refine a_iload (dat d_Lw_law_6 34 rfl) rfl ?_
                  refine a_iload (dat d_Lw_law_6 35 rfl) rfl ?_
                  refine a_icmp_gt (tgt := 729) (dat d_Lw_law_6 36 rfl) (by decide) (fun c_715 => (by omega)) (fun c_715 => ?_)
                  refine a_aload_n (dat d_Lw_law_6 37 rfl) rfl rfl ?_
                  refine a_iconst (dat d_Lw_law_6 38 rfl) (by decide) ?_
                  refine a_iload (dat d_Lw_law_6 39 rfl) rfl ?_
                  refine a_iconst (dat d_Lw_law_6 40 rfl) (by decide) ?_
                  refine a_inv hG (As := [vI 0, vI (j : Int), vI 1]) (dat d_Lw_law_6 41 rfl) rfl c_Sb_fate l_Lw_139 (by decide) rv_0 rfl rfl (Nat.le_of_ble_eq_true rfl) ?_
                  refine sp_Sb_fate hS.1.1 (fun v2 σ4 h2 F2 => ⟨fun o ho => absurd ho List.not_mem_nil, ?_⟩)
                  have h2 := an_f1 hjp (hS.at0 h2)
                  have h3 := ca_sh hC (by omega) hca (by omega)
                  have hS := hS.tr F2
                  show Ax g y_Lw_law (lY p e s m below meth c b) (List.range NB ++ []) cc ss 726 [vR 500, vR 0, vR 174, vI a, vI (t 6), vR 175, w6, w7, w8, vI (t 3 - 1), vI (k : Int), vI ill, vI (j : Int), vI ca, vI v1, w15] [vI v2] σ4
                  refine a_if_ne (tgt := 731) (dat d_Lw_law_6 42 rfl) (by decide) (fun c_726 => ?_) (fun c_726 => (by omega))
                  exact nx _ _ _ _ hS
              · refine a_iconst (dat d_Lw_law_6 26 rfl) (by decide) ?_
                refine a_goto (tgt := 698) (dat d_Lw_law_6 27 rfl) (by decide) ?_
                refine a_icmp_ne (tgt := 729) (dat d_Lw_law_6 29 rfl) (by decide) (fun c_698 => ?_) (fun h => absurd h (by decide))
                exfalso
                omega
            · refine a_iconst (dat d_Lw_law_6 21 rfl) (by decide) ?_
              refine a_goto (tgt := 688) (dat d_Lw_law_6 22 rfl) (by decide) ?_
              refine a_iload (dat d_Lw_law_6 24 rfl) rfl ?_
              refine a_if_lt (tgt := 697) (dat d_Lw_law_6 25 rfl) (by decide) (fun c_690 => ?_) (fun c_690 => ?_)
              · refine a_iconst (dat d_Lw_law_6 28 rfl) (by decide) ?_
                refine a_icmp_ne (tgt := 729) (dat d_Lw_law_6 29 rfl) (by decide) (fun c_698 => ?_) (fun h => absurd h (by decide))
                exfalso
                omega
              · refine a_iconst (dat d_Lw_law_6 26 rfl) (by decide) ?_
                refine a_goto (tgt := 698) (dat d_Lw_law_6 27 rfl) (by decide) ?_
                refine a_icmp_ne (tgt := 729) (dat d_Lw_law_6 29 rfl) (by decide) (fun h => absurd h (by decide)) (fun c_698 => ?_)
                refine a_iload (dat d_Lw_law_6 30 rfl) rfl ?_
                refine a_if_lt (tgt := 731) (dat d_Lw_law_6 31 rfl) (by decide) (fun c_703 => ?_) (fun c_703 => ?_)
                · exact nx _ _ _ _ hS
                · refine a_iload (dat d_Lw_law_6 32 rfl) rfl ?_
                  refine a_if_lt (tgt := 729) (dat d_Lw_law_6 33 rfl) (by decide) (fun c_708 => (by omega)) (fun c_708 => ?_)
                  refine a_iload (dat d_Lw_law_6 34 rfl) rfl ?_
                  refine a_iload (dat d_Lw_law_6 35 rfl) rfl ?_
                  refine a_icmp_gt (tgt := 729) (dat d_Lw_law_6 36 rfl) (by decide) (fun c_715 => (by omega)) (fun c_715 => ?_)
                  refine a_aload_n (dat d_Lw_law_6 37 rfl) rfl rfl ?_
                  refine a_iconst (dat d_Lw_law_6 38 rfl) (by decide) ?_
                  refine a_iload (dat d_Lw_law_6 39 rfl) rfl ?_
                  refine a_iconst (dat d_Lw_law_6 40 rfl) (by decide) ?_
                  refine a_inv hG (As := [vI 0, vI (j : Int), vI 1]) (dat d_Lw_law_6 41 rfl) rfl c_Sb_fate l_Lw_139 (by decide) rv_0 rfl rfl (Nat.le_of_ble_eq_true rfl) ?_
                  refine sp_Sb_fate hS.1.1 (fun v2 σ4 h2 F2 => ⟨fun o ho => absurd ho List.not_mem_nil, ?_⟩)
                  have h2 := an_f1 hjp (hS.at0 h2)
                  have h3 := ca_sh hC (by omega) hca (by omega)
                  have hS := hS.tr F2
                  show Ax g y_Lw_law (lY p e s m below meth c b) (List.range NB ++ []) cc ss 726 [vR 500, vR 0, vR 174, vI a, vI (t 6), vR 175, w6, w7, w8, vI (t 3 - 1), vI (k : Int), vI ill, vI (j : Int), vI ca, vI v1, w15] [vI v2] σ4
                  refine a_if_ne (tgt := 731) (dat d_Lw_law_6 42 rfl) (by decide) (fun c_726 => ?_) (fun c_726 => (by omega))
                  exact nx _ _ _ _ hS
        refine a_iload (dat d_Lw_law_5 52 rfl) rfl ?_
        refine a_iload (dat d_Lw_law_5 53 rfl) rfl ?_
        refine a_icmp_ge (tgt := 737) (dat d_Lw_law_5 54 rfl) (by decide) (fun c_628 => (by omega)) (fun c_628 => ?_)
        refine a_iload (dat d_Lw_law_5 55 rfl) rfl ?_
        refine a_iload (dat d_Lw_law_5 56 rfl) rfl ?_
        refine a_icmp_ne (tgt := 642) (dat d_Lw_law_5 57 rfl) (by decide) (fun c_635 => ?_) (fun c_635 => ?_)
        · refine a_aload_n (dat d_Lw_law_5 60 rfl) rfl rfl ?_
          refine a_iconst (dat d_Lw_law_5 61 rfl) (by decide) ?_
          refine a_iload (dat d_Lw_law_6 0 rfl) rfl ?_
          refine a_iconst (dat d_Lw_law_6 1 rfl) (by decide) ?_
          refine a_iload (dat d_Lw_law_6 2 rfl) rfl ?_
          refine a_inv hG (As := [vI 0, vI (k : Int), vI 0, vI (j : Int)]) (dat d_Lw_law_6 3 rfl) rfl c_Sb_fever l_Lw_133 (by decide) rv_0 rfl rfl (Nat.le_of_ble_eq_true rfl) ?_
          refine sp_Sb_fever hS.1.1 (fun v1 σ2 h1 F1 => ⟨fun o ho => absurd ho List.not_mem_nil, ?_⟩)
          have h1 := an_fo (by omega) hkp hjp (by omega) (hS.at0 h1)
          have hS := hS.tr F1
          show Ax g y_Lw_law (lY p e s m below meth c b) (List.range NB ++ []) cc ss 652 [vR 500, vR 0, vR 174, vI a, vI (t 6), vR 175, w6, w7, w8, vI (t 3 - 1), vI (k : Int), vI ill, vI (j : Int), w13, w14, w15] [vI v1] σ2
          first
          | exact j652 _ _ _ _ _ hS (fun h => absurd (by omega) h)
          | exact j652 _ _ _ _ _ hS (fun _ => h1)
        · refine a_iconst (dat d_Lw_law_5 58 rfl) (by decide) ?_
          refine a_goto (tgt := 652) (dat d_Lw_law_5 59 rfl) (by decide) ?_
          first
          | exact j652 _ _ _ _ _ hS (fun h => absurd (by omega) h)
          | exact j652 _ _ _ _ _ hS (fun _ => h1)
    refine a_iload (dat d_Lw_law_5 40 rfl) rfl ?_
    refine a_iload (dat d_Lw_law_5 41 rfl) rfl ?_
    refine a_icmp_ge (tgt := 857) (dat d_Lw_law_5 42 rfl) (by decide) (fun c_606 => (by omega)) (fun c_606 => ?_)
    refine a_aload_n (dat d_Lw_law_5 43 rfl) rfl rfl ?_
    refine a_iconst (dat d_Lw_law_5 44 rfl) (by decide) ?_
    refine a_iload (dat d_Lw_law_5 45 rfl) rfl ?_
    refine a_iload (dat d_Lw_law_5 46 rfl) rfl ?_
    refine a_iconst (dat d_Lw_law_5 47 rfl) (by decide) ?_
    refine a_inv hG (As := [vI 0, vI (k : Int), vI (t 3 - 1), vI (-1)]) (dat d_Lw_law_5 48 rfl) rfl c_Sb_fever l_Lw_133 (by decide) rv_0 rfl rfl (Nat.le_of_ble_eq_true rfl) ?_
    refine sp_Sb_fever hS.1.1 (fun v1 σ1 h1 F1 => ⟨fun o ho => absurd ho List.not_mem_nil, ?_⟩)
    have h1 := an_fa hlh hkp (hS.at0 h1)
    rw [eN] at h1
    have hS := hS.tr F1
    show Ax g y_Lw_law (lY p e s m below meth c b) (List.range NB ++ []) cc ss 619 [vR 500, vR 0, vR 174, vI a, vI (t 6), vR 175, w6, w7, w8, vI (t 3 - 1), vI (k : Int), w11, w12, w13, w14, w15] [vI v1] σ1
    refine a_istore (L' := [vR 500, vR 0, vR 174, vI a, vI (t 6), vR 175, w6, w7, w8, vI (t 3 - 1), vI (k : Int), vI v1, w12, w13, w14, w15]) (dat d_Lw_law_5 49 rfl) (by decide) rfl rfl ?_
    refine a_iconst (dat d_Lw_law_5 50 rfl) (by decide) ?_
    refine a_istore (L' := [vR 500, vR 0, vR 174, vI a, vI (t 6), vR 175, w6, w7, w8, vI (t 3 - 1), vI (k : Int), vI v1, vI 0, w13, w14, w15]) (dat d_Lw_law_5 51 rfl) (by decide) rfl rfl ?_
    exact lil (t 6).toNat 0 _ _ _ _ _ (by omega) hS h1
end LAW
