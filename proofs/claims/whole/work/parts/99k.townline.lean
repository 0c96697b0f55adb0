/-! the twin's reader: lines of a town */ -/
theorem gpN_n {T : Int → Int} {n l q1 gp : Int} (h : l ≠ 4 ∧ l ≠ 5 ∧ l ≠ 6) : ∀ j : Nat, gpN T n l q1 gp j = gp
  | 0 => rfl
  | j + 1 => by
    show (if l = 6 ∨ (j = 0 ∧ (l = 4 ∨ l = 5)) then imax (gpN T n l q1 gp j) (tkV T n (qit T n q1 j)) else gpN T n l q1 gp j) = gp
    rw [if_neg (by omega), gpN_n h j]
theorem gcN_n {T : Int → Int} {n l q1 gc : Int} (h : l ≠ 3 ∧ l ≠ 4) : ∀ j : Nat, gcN T n l q1 gc j = gc
  | 0 => rfl
  | j + 1 => by
    show (if (j = 0 ∧ l = 3) ∨ (0 < j ∧ l = 4) then imax (gcN T n l q1 gc j) (tkV T n (qit T n q1 j)) else gcN T n l q1 gc j) = gc
    rw [if_neg (by omega), gcN_n h j]
theorem xs_1 {T : Int → Int} {n l lo0 hi0 : Int} (h : loT l 0 = lo0 ∧ hiT l 0 = hi0) (x : Rx) : xsN T n l x 1 = nuX T n lo0 hi0 x := by
  obtain ⟨rfl, rfl⟩ := h
  rfl
theorem xs_2 {T : Int → Int} {n l lo0 hi0 lo1 hi1 : Int} (h : (loT l 0 = lo0 ∧ hiT l 0 = hi0) ∧ loT l 1 = lo1 ∧ hiT l 1 = hi1) (x : Rx) : xsN T n l x 2 = nuX T n lo1 hi1 (nuX T n lo0 hi0 x) := by
  obtain ⟨⟨rfl, rfl⟩, rfl, rfl⟩ := h
  rfl
theorem nuV_at {T : Int → Int} {n lo hi q1 v : Int} {j : Nat} {X : Rx} {f : Int × Int} (hv : v = nuV T n lo hi X) (hX : X = (false, qit T n q1 j, f)) (hk : tkK T n (qit T n q1 j) = 1) (hr : lo ≤ tkV T n (qit T n q1 j) ∧ tkV T n (qit T n q1 j) ≤ hi) : v = tkV T n (qit T n q1 j) := by
  rw [hv, hX]
  exact nuV_ok hk hr
/-- a line of a town, its word taken -/
def LnB (σ1 σ : xS) (T : Int → Int) (n : Int) (P : Ps) : Prop := RX σ1 T n (false, nxt T n P.1, P.2.1) ∧ (P.2.1.1 ≠ 0 → P.2.1.2 < P.1) ∧ BnR σ1 0 ∧ (P.2.1.1 = 0 → (σ1 174 9 = P.2.2.1 ∧ σ1 174 10 = P.2.2.2.1) ∧ RwE σ1 P.2.2.2.2) ∧ LnF σ1 σ
section
variable {g : xG} {K : Option MV → xS → Prop} {σ σ1 : xS} {T : Int → Int} {n : Int} {P : Ps} {Z : xZ} {w3 : MV}
theorem ln_size (h0 : tkK T n P.1 ≠ 0) (hl : lnK T n 0 P.1 = 0) (L : LnB σ1 σ T n P) (k : ∀ σ' : xS, LnR σ' T n 0 P → LnF σ' σ → K none σ') : Wx g y_Mo_townLine Z K 13 [vR 174, vI P.1, vI 1, w3] [] σ1 := by
  obtain ⟨H, hf, B, E, F⟩ := L
  have lt : (loT 0 0 = 2 ∧ hiT 0 0 = 6) ∧ (loT 0 1 = 2 ∧ hiT 0 1 = 6) := by decide +kernel
  refine x_iload_n (dat d_Mo_townLine 8 rfl) rfl rfl ?_
  refine x_iconst (dat d_Mo_townLine 9 rfl) (by decide) ?_
  refine x_icmp_ne (tgt := 44) (dat d_Mo_townLine 10 rfl) (by decide) (fun h => absurd h (by decide)) (fun c_15 => ?_)
  refine x_aload_n (dat d_Mo_townLine 11 rfl) rfl rfl ?_
  refine x_getr (r := 177) (dat d_Mo_townLine 12 rfl) rfl f_Mo_17 (or_mk (by decide +kernel)) ?_
  refine x_iconst (dat d_Mo_townLine 13 rfl) (by decide) ?_
  refine x_aload_n (dat d_Mo_townLine 14 rfl) rfl rfl ?_
  refine x_iconst (dat d_Mo_townLine 15 rfl) (by decide) ?_
  refine x_bipush (dat d_Mo_townLine 16 rfl) (by decide) (by decide) ?_
  refine x_inv (As := [vI 2, vI 6]) (dat d_Mo_townLine 17 rfl) rfl c_Mo_numbered l_Mo_147 (by decide) (rv_mo (by decide +kernel)) rfl rfl (Nat.le_of_ble_eq_true rfl) ?_
  refine sp_Mo_numbered H (by decide) (fun σ2 H2 F2 => ?_)
  have v0b := nuV_in (T := T) (n := n) (lo := 2) (hi := 6) (by decide) (false, nxt T n P.1, P.2.1)
  obtain ⟨v0, e0⟩ : ∃ v : Int, v = nuV T n 2 6 (false, nxt T n P.1, P.2.1) := ⟨_, rfl⟩
  rw [← e0] at v0b ⊢
  show Wx g y_Mo_townLine Z K 30 [vR 174, vI P.1, vI 1, w3] [vI v0, vI 0, vR 177] σ2
  refine x_iast (n := 190) (dat d_Mo_townLine 18 rfl) (ai_mk (by decide +kernel)) (by omega) (by omega) ?_
  refine x_aload_n (dat d_Mo_townLine 19 rfl) rfl rfl ?_
  refine x_getr (r := 177) (dat d_Mo_townLine 20 rfl) rfl f_Mo_17 (or_mk (by decide +kernel)) ?_
  refine x_iconst (dat d_Mo_townLine 21 rfl) (by decide) ?_
  refine x_aload_n (dat d_Mo_townLine 22 rfl) rfl rfl ?_
  refine x_iconst (dat d_Mo_townLine 23 rfl) (by decide) ?_
  refine x_bipush (dat d_Mo_townLine 24 rfl) (by decide) (by decide) ?_
  refine x_inv (As := [vI 2, vI 6]) (dat d_Mo_townLine 25 rfl) rfl c_Mo_numbered l_Mo_147 (by decide) (rv_mo (by decide +kernel)) rfl rfl (Nat.le_of_ble_eq_true rfl) ?_
  refine sp_Mo_numbered H2.r177 (by decide) (fun σ3 H3 F3 => ?_)
  have v1b := nuV_in (T := T) (n := n) (lo := 2) (hi := 6) (by decide) (nuX T n 2 6 (false, nxt T n P.1, P.2.1))
  obtain ⟨v1, e1⟩ : ∃ v : Int, v = nuV T n 2 6 (nuX T n 2 6 (false, nxt T n P.1, P.2.1)) := ⟨_, rfl⟩
  rw [← e1] at v1b ⊢
  show Wx g y_Mo_townLine Z K 43 [vR 174, vI P.1, vI 1, w3] [vI v1, vI 1, vR 177] σ3
  refine x_iast (n := 190) (dat d_Mo_townLine 26 rfl) (ai_mk (by decide +kernel)) (by omega) (by omega) ?_
  refine x_iload_n (dat d_Mo_townLine 27 rfl) rfl rfl ?_
  refine x_iconst (dat d_Mo_townLine 28 rfl) (by decide) ?_
  refine x_icmp_ne (tgt := 76) (dat d_Mo_townLine 29 rfl) (by decide) (fun c_46 => ?_) (fun h => absurd h (by decide))
  refine x_iload_n (dat d_Mo_townLine 46 rfl) rfl rfl ?_
  refine x_iconst (dat d_Mo_townLine 47 rfl) (by decide) ?_
  refine x_icmp_ne (tgt := 94) (dat d_Mo_townLine 48 rfl) (by decide) (fun c_78 => ?_) (fun h => absurd h (by decide))
  refine x_iload_n (dat d_Mo_townLine 57 rfl) rfl rfl ?_
  refine x_iconst (dat d_Mo_townLine 58 rfl) (by decide) ?_
  refine x_icmp_ne (tgt := 125) (dat d_Mo_townLine 59 rfl) (by decide) (fun c_96 => ?_) (fun h => absurd h (by decide))
  refine x_iload_n (dat d_Mo_townLine 76 rfl) rfl rfl ?_
  refine x_iconst (dat d_Mo_townLine 77 rfl) (by decide) ?_
  refine x_bipush (dat d_Mo_townLine 78 rfl) (by decide) (by decide) ?_
  refine x_invs (As := [vI 1, vI 5, vI 8]) (dat d_Mo_townLine 79 rfl) rfl c_Mo_isIn l_Mo_136 (by decide) rfl rfl (Nat.le_of_ble_eq_true rfl) ?_
  refine sp_Mo_isIn (fun a b => absurd (And.intro a b) (by decide)) (fun _ => ?_)
  show Wx g y_Mo_townLine Z K 132 [vR 174, vI P.1, vI 1, w3] [vI 0] (up σ3 177 1 v1)
  refine x_if_eq (tgt := 143) (dat d_Mo_townLine 80 rfl) (by decide) (fun c_132 => ?_) (fun h => absurd h (by decide))
  refine x_iload_n (dat d_Mo_townLine 87 rfl) rfl rfl ?_
  refine x_bipush (dat d_Mo_townLine 88 rfl) (by decide) (by decide) ?_
  refine x_icmp_ne (tgt := 153) (dat d_Mo_townLine 89 rfl) (by decide) (fun c_146 => ?_) (fun h => absurd h (by decide))
  refine x_iload_n (dat d_Mo_townLine 92 rfl) rfl rfl ?_
  refine x_bipush (dat d_Mo_townLine 93 rfl) (by decide) (by decide) ?_
  refine x_icmp_ne (tgt := 184) (dat d_Mo_townLine 94 rfl) (by decide) (fun c_156 => ?_) (fun h => absurd h (by decide))
  refine x_iload_n (dat d_Mo_townLine 112 rfl) rfl rfl ?_
  refine x_bipush (dat d_Mo_townLine 113 rfl) (by decide) (by decide) ?_
  refine x_icmp_ne (tgt := 195) (dat d_Mo_townLine 114 rfl) (by decide) (fun c_187 => ?_) (fun h => absurd h (by decide))
  refine x_aload_n (dat d_Mo_townLine 118 rfl) rfl rfl ?_
  refine x_inv (As := []) (dat d_Mo_townLine 119 rfl) rfl c_Mo_endsLine l_Mo_177 (by decide) (rv_mo (by decide +kernel)) rfl rfl (Nat.le_of_ble_eq_true rfl) ?_
  refine sp_Mo_endsLine H3.r177 (fun σ9 H9 F9 => ?_)
  show Wx g y_Mo_townLine Z K 199 [vR 174, vI P.1, vI 1, w3] [] σ9
  refine x_ret (dat d_Mo_townLine 120 rfl) rfl ?_
  refine k σ9 (LnR.fix (l := 0) (m := 2) (f0 := P.2.1) h0 hl (by decide) (by decide) (by decide) (by decide) (by decide +kernel) (by decide +kernel) (((((B.same (F2.2.2 177 (by decide) (by decide))).st (j := 0) (v := v0) ⟨fun _ => by omega, fun z => absurd z (by decide)⟩).same (F3.2.2 177 (by decide) (by decide))).st (j := 1) (v := v1) ⟨fun _ => by omega, fun z => absurd z (by decide)⟩).same (F9.2.2 177 (by decide) (by decide))) (blm_ff rfl).symm (by rw [xs_2 lt]; exact H9) hf (fun hk hx hr z _ => ?_)) (((((F.trans F2.ry.ln).row 0 v0).trans F3.ry.ln).row 1 v1).trans F9.ry.ln)
  have r0 := hr 0 (by decide)
  rw [lt.1.1, lt.1.2] at r0
  have t0 := nuV_at (q1 := nxt T n P.1) (j := 0) e0 rfl (hk 0 (by decide)) r0
  have r1 := hr 1 (by decide)
  rw [lt.2.1, lt.2.2] at r1
  have x1 := hx 1 (by decide)
  rw [xs_1 lt.1] at x1
  have t1 := nuV_at (j := 1) e1 x1 (hk 1 (by decide)) r1
  have E9 := (((((E z).2.same (F2.2.2 177 (by decide) (by decide))).st 0 v0).same (F3.2.2 177 (by decide) (by decide))).st 1 v1).same (F9.2.2 177 (by decide) (by decide))
  rw [t0, t1] at E9
  exact ⟨⟨by rw [F9.1 9 (by decide), up_ne (by decide), F3.1 9 (by decide), up_ne (by decide), F2.1 9 (by decide), gpN_n (by decide)]; exact (E z).1.1, by rw [F9.1 10 (by decide), up_ne (by decide), F3.1 10 (by decide), up_ne (by decide), F2.1 10 (by decide), gcN_n (by decide)]; exact (E z).1.2⟩, E9⟩
theorem ln_hours (h0 : tkK T n P.1 ≠ 0) (hl : lnK T n 0 P.1 = 1) (L : LnB σ1 σ T n P) (k : ∀ σ' : xS, LnR σ' T n 0 P → LnF σ' σ → K none σ') : Wx g y_Mo_townLine Z K 13 [vR 174, vI P.1, vI 3, w3] [] σ1 := by
  obtain ⟨H, hf, B, E, F⟩ := L
  have lt : (loT 1 0 = 1 ∧ hiT 1 0 = 24) := by decide +kernel
  refine x_iload_n (dat d_Mo_townLine 8 rfl) rfl rfl ?_
  refine x_iconst (dat d_Mo_townLine 9 rfl) (by decide) ?_
  refine x_icmp_ne (tgt := 44) (dat d_Mo_townLine 10 rfl) (by decide) (fun c_15 => ?_) (fun h => absurd h (by decide))
  refine x_iload_n (dat d_Mo_townLine 27 rfl) rfl rfl ?_
  refine x_iconst (dat d_Mo_townLine 28 rfl) (by decide) ?_
  refine x_icmp_ne (tgt := 76) (dat d_Mo_townLine 29 rfl) (by decide) (fun c_46 => ?_) (fun h => absurd h (by decide))
  refine x_iload_n (dat d_Mo_townLine 46 rfl) rfl rfl ?_
  refine x_iconst (dat d_Mo_townLine 47 rfl) (by decide) ?_
  refine x_icmp_ne (tgt := 94) (dat d_Mo_townLine 48 rfl) (by decide) (fun h => absurd h (by decide)) (fun c_78 => ?_)
  refine x_aload_n (dat d_Mo_townLine 49 rfl) rfl rfl ?_
  refine x_getr (r := 177) (dat d_Mo_townLine 50 rfl) rfl f_Mo_17 (or_mk (by decide +kernel)) ?_
  refine x_iconst (dat d_Mo_townLine 51 rfl) (by decide) ?_
  refine x_aload_n (dat d_Mo_townLine 52 rfl) rfl rfl ?_
  refine x_iconst (dat d_Mo_townLine 53 rfl) (by decide) ?_
  refine x_bipush (dat d_Mo_townLine 54 rfl) (by decide) (by decide) ?_
  refine x_inv (As := [vI 1, vI 24]) (dat d_Mo_townLine 55 rfl) rfl c_Mo_numbered l_Mo_147 (by decide) (rv_mo (by decide +kernel)) rfl rfl (Nat.le_of_ble_eq_true rfl) ?_
  refine sp_Mo_numbered H (by decide) (fun σ2 H2 F2 => ?_)
  have v0b := nuV_in (T := T) (n := n) (lo := 1) (hi := 24) (by decide) (false, nxt T n P.1, P.2.1)
  obtain ⟨v0, e0⟩ : ∃ v : Int, v = nuV T n 1 24 (false, nxt T n P.1, P.2.1) := ⟨_, rfl⟩
  rw [← e0] at v0b ⊢
  show Wx g y_Mo_townLine Z K 93 [vR 174, vI P.1, vI 3, w3] [vI v0, vI 3, vR 177] σ2
  refine x_iast (n := 190) (dat d_Mo_townLine 56 rfl) (ai_mk (by decide +kernel)) (by omega) (by omega) ?_
  refine x_iload_n (dat d_Mo_townLine 57 rfl) rfl rfl ?_
  refine x_iconst (dat d_Mo_townLine 58 rfl) (by decide) ?_
  refine x_icmp_ne (tgt := 125) (dat d_Mo_townLine 59 rfl) (by decide) (fun c_96 => ?_) (fun h => absurd h (by decide))
  refine x_iload_n (dat d_Mo_townLine 76 rfl) rfl rfl ?_
  refine x_iconst (dat d_Mo_townLine 77 rfl) (by decide) ?_
  refine x_bipush (dat d_Mo_townLine 78 rfl) (by decide) (by decide) ?_
  refine x_invs (As := [vI 3, vI 5, vI 8]) (dat d_Mo_townLine 79 rfl) rfl c_Mo_isIn l_Mo_136 (by decide) rfl rfl (Nat.le_of_ble_eq_true rfl) ?_
  refine sp_Mo_isIn (fun a b => absurd (And.intro a b) (by decide)) (fun _ => ?_)
  show Wx g y_Mo_townLine Z K 132 [vR 174, vI P.1, vI 3, w3] [vI 0] (up σ2 177 3 v0)
  refine x_if_eq (tgt := 143) (dat d_Mo_townLine 80 rfl) (by decide) (fun c_132 => ?_) (fun h => absurd h (by decide))
  refine x_iload_n (dat d_Mo_townLine 87 rfl) rfl rfl ?_
  refine x_bipush (dat d_Mo_townLine 88 rfl) (by decide) (by decide) ?_
  refine x_icmp_ne (tgt := 153) (dat d_Mo_townLine 89 rfl) (by decide) (fun c_146 => ?_) (fun h => absurd h (by decide))
  refine x_iload_n (dat d_Mo_townLine 92 rfl) rfl rfl ?_
  refine x_bipush (dat d_Mo_townLine 93 rfl) (by decide) (by decide) ?_
  refine x_icmp_ne (tgt := 184) (dat d_Mo_townLine 94 rfl) (by decide) (fun c_156 => ?_) (fun h => absurd h (by decide))
  refine x_iload_n (dat d_Mo_townLine 112 rfl) rfl rfl ?_
  refine x_bipush (dat d_Mo_townLine 113 rfl) (by decide) (by decide) ?_
  refine x_icmp_ne (tgt := 195) (dat d_Mo_townLine 114 rfl) (by decide) (fun c_187 => ?_) (fun h => absurd h (by decide))
  refine x_aload_n (dat d_Mo_townLine 118 rfl) rfl rfl ?_
  refine x_inv (As := []) (dat d_Mo_townLine 119 rfl) rfl c_Mo_endsLine l_Mo_177 (by decide) (rv_mo (by decide +kernel)) rfl rfl (Nat.le_of_ble_eq_true rfl) ?_
  refine sp_Mo_endsLine H2.r177 (fun σ9 H9 F9 => ?_)
  show Wx g y_Mo_townLine Z K 199 [vR 174, vI P.1, vI 3, w3] [] σ9
  refine x_ret (dat d_Mo_townLine 120 rfl) rfl ?_
  refine k σ9 (LnR.fix (l := 1) (m := 1) (f0 := P.2.1) h0 hl (by decide) (by decide) (by decide) (by decide) (by decide +kernel) (by decide +kernel) (((B.same (F2.2.2 177 (by decide) (by decide))).st (j := 3) (v := v0) ⟨fun _ => by omega, fun z => absurd z (by decide)⟩).same (F9.2.2 177 (by decide) (by decide))) (blm_ff rfl).symm (by rw [xs_1 lt]; exact H9) hf (fun hk hx hr z _ => ?_)) (((F.trans F2.ry.ln).row 3 v0).trans F9.ry.ln)
  have r0 := hr 0 (by decide)
  rw [lt.1, lt.2] at r0
  have t0 := nuV_at (q1 := nxt T n P.1) (j := 0) e0 rfl (hk 0 (by decide)) r0
  have E9 := (((E z).2.same (F2.2.2 177 (by decide) (by decide))).st 3 v0).same (F9.2.2 177 (by decide) (by decide))
  rw [t0] at E9
  exact ⟨⟨by rw [F9.1 9 (by decide), up_ne (by decide), F2.1 9 (by decide), gpN_n (by decide)]; exact (E z).1.1, by rw [F9.1 10 (by decide), up_ne (by decide), F2.1 10 (by decide), gcN_n (by decide)]; exact (E z).1.2⟩, E9⟩
theorem ln_eat (h0 : tkK T n P.1 ≠ 0) (hl : lnK T n 0 P.1 = 2) (L : LnB σ1 σ T n P) (k : ∀ σ' : xS, LnR σ' T n 0 P → LnF σ' σ → K none σ') : Wx g y_Mo_townLine Z K 13 [vR 174, vI P.1, vI 4, w3] [] σ1 := by
  obtain ⟨H, hf, B, E, F⟩ := L
  have lt : (loT 2 0 = 0 ∧ hiT 2 0 = 9) ∧ (loT 2 1 = 1 ∧ hiT 2 1 = 24) := by decide +kernel
  refine x_iload_n (dat d_Mo_townLine 8 rfl) rfl rfl ?_
  refine x_iconst (dat d_Mo_townLine 9 rfl) (by decide) ?_
  refine x_icmp_ne (tgt := 44) (dat d_Mo_townLine 10 rfl) (by decide) (fun c_15 => ?_) (fun h => absurd h (by decide))
  refine x_iload_n (dat d_Mo_townLine 27 rfl) rfl rfl ?_
  refine x_iconst (dat d_Mo_townLine 28 rfl) (by decide) ?_
  refine x_icmp_ne (tgt := 76) (dat d_Mo_townLine 29 rfl) (by decide) (fun c_46 => ?_) (fun h => absurd h (by decide))
  refine x_iload_n (dat d_Mo_townLine 46 rfl) rfl rfl ?_
  refine x_iconst (dat d_Mo_townLine 47 rfl) (by decide) ?_
  refine x_icmp_ne (tgt := 94) (dat d_Mo_townLine 48 rfl) (by decide) (fun c_78 => ?_) (fun h => absurd h (by decide))
  refine x_iload_n (dat d_Mo_townLine 57 rfl) rfl rfl ?_
  refine x_iconst (dat d_Mo_townLine 58 rfl) (by decide) ?_
  refine x_icmp_ne (tgt := 125) (dat d_Mo_townLine 59 rfl) (by decide) (fun h => absurd h (by decide)) (fun c_96 => ?_)
  refine x_aload_n (dat d_Mo_townLine 60 rfl) rfl rfl ?_
  refine x_getr (r := 177) (dat d_Mo_townLine 61 rfl) rfl f_Mo_17 (or_mk (by decide +kernel)) ?_
  refine x_iconst (dat d_Mo_townLine 62 rfl) (by decide) ?_
  refine x_aload_n (dat d_Mo_townLine 63 rfl) rfl rfl ?_
  refine x_iconst (dat d_Mo_townLine 64 rfl) (by decide) ?_
  refine x_bipush (dat d_Mo_townLine 65 rfl) (by decide) (by decide) ?_
  refine x_inv (As := [vI 0, vI 9]) (dat d_Mo_townLine 66 rfl) rfl c_Mo_numbered l_Mo_147 (by decide) (rv_mo (by decide +kernel)) rfl rfl (Nat.le_of_ble_eq_true rfl) ?_
  refine sp_Mo_numbered H (by decide) (fun σ2 H2 F2 => ?_)
  have v0b := nuV_in (T := T) (n := n) (lo := 0) (hi := 9) (by decide) (false, nxt T n P.1, P.2.1)
  obtain ⟨v0, e0⟩ : ∃ v : Int, v = nuV T n 0 9 (false, nxt T n P.1, P.2.1) := ⟨_, rfl⟩
  rw [← e0] at v0b ⊢
  show Wx g y_Mo_townLine Z K 111 [vR 174, vI P.1, vI 4, w3] [vI v0, vI 4, vR 177] σ2
  refine x_iast (n := 190) (dat d_Mo_townLine 67 rfl) (ai_mk (by decide +kernel)) (by omega) (by omega) ?_
  refine x_aload_n (dat d_Mo_townLine 68 rfl) rfl rfl ?_
  refine x_getr (r := 177) (dat d_Mo_townLine 69 rfl) rfl f_Mo_17 (or_mk (by decide +kernel)) ?_
  refine x_iconst (dat d_Mo_townLine 70 rfl) (by decide) ?_
  refine x_aload_n (dat d_Mo_townLine 71 rfl) rfl rfl ?_
  refine x_iconst (dat d_Mo_townLine 72 rfl) (by decide) ?_
  refine x_bipush (dat d_Mo_townLine 73 rfl) (by decide) (by decide) ?_
  refine x_inv (As := [vI 1, vI 24]) (dat d_Mo_townLine 74 rfl) rfl c_Mo_numbered l_Mo_147 (by decide) (rv_mo (by decide +kernel)) rfl rfl (Nat.le_of_ble_eq_true rfl) ?_
  refine sp_Mo_numbered H2.r177 (by decide) (fun σ3 H3 F3 => ?_)
  have v1b := nuV_in (T := T) (n := n) (lo := 1) (hi := 24) (by decide) (nuX T n 0 9 (false, nxt T n P.1, P.2.1))
  obtain ⟨v1, e1⟩ : ∃ v : Int, v = nuV T n 1 24 (nuX T n 0 9 (false, nxt T n P.1, P.2.1)) := ⟨_, rfl⟩
  rw [← e1] at v1b ⊢
  show Wx g y_Mo_townLine Z K 124 [vR 174, vI P.1, vI 4, w3] [vI v1, vI 5, vR 177] σ3
  refine x_iast (n := 190) (dat d_Mo_townLine 75 rfl) (ai_mk (by decide +kernel)) (by omega) (by omega) ?_
  refine x_iload_n (dat d_Mo_townLine 76 rfl) rfl rfl ?_
  refine x_iconst (dat d_Mo_townLine 77 rfl) (by decide) ?_
  refine x_bipush (dat d_Mo_townLine 78 rfl) (by decide) (by decide) ?_
  refine x_invs (As := [vI 4, vI 5, vI 8]) (dat d_Mo_townLine 79 rfl) rfl c_Mo_isIn l_Mo_136 (by decide) rfl rfl (Nat.le_of_ble_eq_true rfl) ?_
  refine sp_Mo_isIn (fun a b => absurd (And.intro a b) (by decide)) (fun _ => ?_)
  show Wx g y_Mo_townLine Z K 132 [vR 174, vI P.1, vI 4, w3] [vI 0] (up σ3 177 5 v1)
  refine x_if_eq (tgt := 143) (dat d_Mo_townLine 80 rfl) (by decide) (fun c_132 => ?_) (fun h => absurd h (by decide))
  refine x_iload_n (dat d_Mo_townLine 87 rfl) rfl rfl ?_
  refine x_bipush (dat d_Mo_townLine 88 rfl) (by decide) (by decide) ?_
  refine x_icmp_ne (tgt := 153) (dat d_Mo_townLine 89 rfl) (by decide) (fun c_146 => ?_) (fun h => absurd h (by decide))
  refine x_iload_n (dat d_Mo_townLine 92 rfl) rfl rfl ?_
  refine x_bipush (dat d_Mo_townLine 93 rfl) (by decide) (by decide) ?_
  refine x_icmp_ne (tgt := 184) (dat d_Mo_townLine 94 rfl) (by decide) (fun c_156 => ?_) (fun h => absurd h (by decide))
  refine x_iload_n (dat d_Mo_townLine 112 rfl) rfl rfl ?_
  refine x_bipush (dat d_Mo_townLine 113 rfl) (by decide) (by decide) ?_
  refine x_icmp_ne (tgt := 195) (dat d_Mo_townLine 114 rfl) (by decide) (fun c_187 => ?_) (fun h => absurd h (by decide))
  refine x_aload_n (dat d_Mo_townLine 118 rfl) rfl rfl ?_
  refine x_inv (As := []) (dat d_Mo_townLine 119 rfl) rfl c_Mo_endsLine l_Mo_177 (by decide) (rv_mo (by decide +kernel)) rfl rfl (Nat.le_of_ble_eq_true rfl) ?_
  refine sp_Mo_endsLine H3.r177 (fun σ9 H9 F9 => ?_)
  show Wx g y_Mo_townLine Z K 199 [vR 174, vI P.1, vI 4, w3] [] σ9
  refine x_ret (dat d_Mo_townLine 120 rfl) rfl ?_
  refine k σ9 (LnR.fix (l := 2) (m := 2) (f0 := P.2.1) h0 hl (by decide) (by decide) (by decide) (by decide) (by decide +kernel) (by decide +kernel) (((((B.same (F2.2.2 177 (by decide) (by decide))).st (j := 4) (v := v0) ⟨fun _ => by omega, fun z => absurd z (by decide)⟩).same (F3.2.2 177 (by decide) (by decide))).st (j := 5) (v := v1) ⟨fun _ => by omega, fun z => absurd z (by decide)⟩).same (F9.2.2 177 (by decide) (by decide))) (blm_ff rfl).symm (by rw [xs_2 lt]; exact H9) hf (fun hk hx hr z _ => ?_)) (((((F.trans F2.ry.ln).row 4 v0).trans F3.ry.ln).row 5 v1).trans F9.ry.ln)
  have r0 := hr 0 (by decide)
  rw [lt.1.1, lt.1.2] at r0
  have t0 := nuV_at (q1 := nxt T n P.1) (j := 0) e0 rfl (hk 0 (by decide)) r0
  have r1 := hr 1 (by decide)
  rw [lt.2.1, lt.2.2] at r1
  have x1 := hx 1 (by decide)
  rw [xs_1 lt.1] at x1
  have t1 := nuV_at (j := 1) e1 x1 (hk 1 (by decide)) r1
  have E9 := (((((E z).2.same (F2.2.2 177 (by decide) (by decide))).st 4 v0).same (F3.2.2 177 (by decide) (by decide))).st 5 v1).same (F9.2.2 177 (by decide) (by decide))
  rw [t0, t1] at E9
  exact ⟨⟨by rw [F9.1 9 (by decide), up_ne (by decide), F3.1 9 (by decide), up_ne (by decide), F2.1 9 (by decide), gpN_n (by decide)]; exact (E z).1.1, by rw [F9.1 10 (by decide), up_ne (by decide), F3.1 10 (by decide), up_ne (by decide), F2.1 10 (by decide), gcN_n (by decide)]; exact (E z).1.2⟩, E9⟩
theorem ln_extra (h0 : tkK T n P.1 ≠ 0) (hl : lnK T n 0 P.1 = 5) (L : LnB σ1 σ T n P) (k : ∀ σ' : xS, LnR σ' T n 0 P → LnF σ' σ → K none σ') : Wx g y_Mo_townLine Z K 13 [vR 174, vI P.1, vI 10, w3] [] σ1 := by
  obtain ⟨H, hf, B, E, F⟩ := L
  have lt : (loT 5 0 = 0 ∧ hiT 5 0 = 7) ∧ loT 5 1 = 0 ∧ hiT 5 1 = 3 := by decide +kernel
  refine x_iload_n (dat d_Mo_townLine 8 rfl) rfl rfl ?_
  refine x_iconst (dat d_Mo_townLine 9 rfl) (by decide) ?_
  refine x_icmp_ne (tgt := 44) (dat d_Mo_townLine 10 rfl) (by decide) (fun c_15 => ?_) (fun h => absurd h (by decide))
  refine x_iload_n (dat d_Mo_townLine 27 rfl) rfl rfl ?_
  refine x_iconst (dat d_Mo_townLine 28 rfl) (by decide) ?_
  refine x_icmp_ne (tgt := 76) (dat d_Mo_townLine 29 rfl) (by decide) (fun c_46 => ?_) (fun h => absurd h (by decide))
  refine x_iload_n (dat d_Mo_townLine 46 rfl) rfl rfl ?_
  refine x_iconst (dat d_Mo_townLine 47 rfl) (by decide) ?_
  refine x_icmp_ne (tgt := 94) (dat d_Mo_townLine 48 rfl) (by decide) (fun c_78 => ?_) (fun h => absurd h (by decide))
  refine x_iload_n (dat d_Mo_townLine 57 rfl) rfl rfl ?_
  refine x_iconst (dat d_Mo_townLine 58 rfl) (by decide) ?_
  refine x_icmp_ne (tgt := 125) (dat d_Mo_townLine 59 rfl) (by decide) (fun c_96 => ?_) (fun h => absurd h (by decide))
  refine x_iload_n (dat d_Mo_townLine 76 rfl) rfl rfl ?_
  refine x_iconst (dat d_Mo_townLine 77 rfl) (by decide) ?_
  refine x_bipush (dat d_Mo_townLine 78 rfl) (by decide) (by decide) ?_
  refine x_invs (As := [vI 10, vI 5, vI 8]) (dat d_Mo_townLine 79 rfl) rfl c_Mo_isIn l_Mo_136 (by decide) rfl rfl (Nat.le_of_ble_eq_true rfl) ?_
  refine sp_Mo_isIn (fun a b => absurd (And.intro a b) (by decide)) (fun _ => ?_)
  show Wx g y_Mo_townLine Z K 132 [vR 174, vI P.1, vI 10, w3] [vI 0] σ1
  refine x_if_eq (tgt := 143) (dat d_Mo_townLine 80 rfl) (by decide) (fun c_132 => ?_) (fun h => absurd h (by decide))
  refine x_iload_n (dat d_Mo_townLine 87 rfl) rfl rfl ?_
  refine x_bipush (dat d_Mo_townLine 88 rfl) (by decide) (by decide) ?_
  refine x_icmp_ne (tgt := 153) (dat d_Mo_townLine 89 rfl) (by decide) (fun c_146 => ?_) (fun h => absurd h (by decide))
  refine x_iload_n (dat d_Mo_townLine 92 rfl) rfl rfl ?_
  refine x_bipush (dat d_Mo_townLine 93 rfl) (by decide) (by decide) ?_
  refine x_icmp_ne (tgt := 184) (dat d_Mo_townLine 94 rfl) (by decide) (fun h => absurd h (by decide)) (fun c_156 => ?_)
  refine x_bipush (dat d_Mo_townLine 95 rfl) (by decide) (by decide) ?_
  refine x_bipush (dat d_Mo_townLine 96 rfl) (by decide) (by decide) ?_
  refine x_aload_n (dat d_Mo_townLine 97 rfl) rfl rfl ?_
  refine x_inv (As := []) (dat d_Mo_townLine 98 rfl) rfl c_Mo_who l_Mo_161 (by decide) (rv_mo (by decide +kernel)) rfl rfl (Nat.le_of_ble_eq_true rfl) ?_
  refine sp_Mo_who H (fun σ2 H2 g9 g10 F2 => ?_)
  have v0b := nuV_in (T := T) (n := n) (lo := 0) (hi := 7) (by decide) (false, nxt T n P.1, P.2.1)
  obtain ⟨v0, e0⟩ : ∃ v : Int, v = nuV T n 0 7 (false, nxt T n P.1, P.2.1) := ⟨_, rfl⟩
  rw [← e0] at v0b g9 ⊢
  show Wx g y_Mo_townLine Z K 167 [vR 174, vI P.1, vI 10, w3] [vI v0, vI 17, vI 20] σ2
  refine x_imul (v := 17 * v0) (dat d_Mo_townLine 99 rfl) (by omega) (by omega) ?_
  refine x_iadd (v := 20 + (17 * v0)) (dat d_Mo_townLine 100 rfl) rfl (by omega) ?_
  refine x_iconst (dat d_Mo_townLine 101 rfl) (by decide) ?_
  refine x_iadd (v := 23 + 17 * v0) (dat d_Mo_townLine 102 rfl) (by omega) (by omega) ?_
  refine x_istore_n (L' := [vR 174, vI P.1, vI 10, vI (23 + 17 * v0)]) (dat d_Mo_townLine 103 rfl) rfl (by decide) rfl rfl ?_
  refine x_aload_n (dat d_Mo_townLine 104 rfl) rfl rfl ?_
  refine x_getr (r := 177) (dat d_Mo_townLine 105 rfl) rfl f_Mo_17 (or_mk (by decide +kernel)) ?_
  refine x_iload_n (dat d_Mo_townLine 106 rfl) rfl rfl ?_
  refine x_aload_n (dat d_Mo_townLine 107 rfl) rfl rfl ?_
  refine x_iconst (dat d_Mo_townLine 108 rfl) (by decide) ?_
  refine x_iconst (dat d_Mo_townLine 109 rfl) (by decide) ?_
  refine x_inv (As := [vI 0, vI 3]) (dat d_Mo_townLine 110 rfl) rfl c_Mo_numbered l_Mo_147 (by decide) (rv_mo (by decide +kernel)) rfl rfl (Nat.le_of_ble_eq_true rfl) ?_
  refine sp_Mo_numbered H2 (by decide) (fun σ3 H3 F3 => ?_)
  have v1b := nuV_in (T := T) (n := n) (lo := 0) (hi := 3) (by decide) (nuX T n 0 7 (false, nxt T n P.1, P.2.1))
  obtain ⟨v1, e1⟩ : ∃ v : Int, v = nuV T n 0 3 (nuX T n 0 7 (false, nxt T n P.1, P.2.1)) := ⟨_, rfl⟩
  rw [← e1] at v1b ⊢
  show Wx g y_Mo_townLine Z K 183 [vR 174, vI P.1, vI 10, vI (23 + 17 * v0)] [vI v1, vI (23 + 17 * v0), vR 177] σ3
  refine x_iast (n := 190) (dat d_Mo_townLine 111 rfl) (ai_mk (by decide +kernel)) (by omega) (by omega) ?_
  refine x_iload_n (dat d_Mo_townLine 112 rfl) rfl rfl ?_
  refine x_bipush (dat d_Mo_townLine 113 rfl) (by decide) (by decide) ?_
  refine x_icmp_ne (tgt := 195) (dat d_Mo_townLine 114 rfl) (by decide) (fun c_187 => ?_) (fun h => absurd h (by decide))
  refine x_aload_n (dat d_Mo_townLine 118 rfl) rfl rfl ?_
  refine x_inv (As := []) (dat d_Mo_townLine 119 rfl) rfl c_Mo_endsLine l_Mo_177 (by decide) (rv_mo (by decide +kernel)) rfl rfl (Nat.le_of_ble_eq_true rfl) ?_
  refine sp_Mo_endsLine H3.r177 (fun σ9 H9 F9 => ?_)
  have e177 : σ3 177 = σ1 177 := by rw [F3.2.2 177 (by decide) (by decide), F2.2.2 177 (by decide) (by decide)]
  show Wx g y_Mo_townLine Z K 199 [vR 174, vI P.1, vI 10, vI (23 + 17 * v0)] [] σ9
  refine x_ret (dat d_Mo_townLine 120 rfl) rfl ?_
  refine k σ9 (LnR.fix (l := 5) (m := 2) (f0 := P.2.1) h0 hl (by decide) (by decide) (by decide) (by decide) (by decide +kernel) (by decide +kernel) (((B.same e177).st (j := 23 + 17 * v0) (v := v1) ⟨fun _ => by omega, fun z => absurd z (by decide)⟩).same (F9.2.2 177 (by decide) (by decide))) (blm_ff rfl).symm (by rw [xs_2 lt]; exact H9) hf (fun hk hx hr z _ => ?_)) ((((F.trans F2.ln).trans F3.ry.ln).row _ _).trans F9.ry.ln)
  have r0 := hr 0 (by decide)
  rw [lt.1.1, lt.1.2] at r0
  have t0 := nuV_at (q1 := nxt T n P.1) (j := 0) e0 rfl (hk 0 (by decide)) r0
  have r1 := hr 1 (by decide)
  rw [lt.2.1, lt.2.2] at r1
  have x1 := hx 1 (by decide)
  rw [xs_1 lt.1] at x1
  have t1 := nuV_at (j := 1) e1 x1 (hk 1 (by decide)) r1
  have E9 := (((E z).2.same e177).st (23 + 17 * v0) v1).same (F9.2.2 177 (by decide) (by decide))
  have ge : gpN T n 5 (nxt T n P.1) P.2.2.1 2 = imax P.2.2.1 (tkV T n (qit T n (nxt T n P.1) 0)) := rfl
  refine ⟨⟨by rw [F9.1 9 (by decide), up_ne (by decide), F3.1 9 (by decide), g9, (E z).1.1, ge, t0], by rw [F9.1 10 (by decide), up_ne (by decide), F3.1 10 (by decide), g10, gcN_n (by decide)]; exact (E z).1.2⟩, ?_⟩
  rw [t0, t1] at E9
  exact E9
theorem f0_more {r : Int → Int} {b : Bool} {fp : Int × Int} {p q1 : Int} {ful : Bool} (hb : fp.1 = 0 → ful = !b) (hf : fp.1 ≠ 0 → fp.2 < p) : mrX b p (false, q1, fp) = (false, q1, blm fp ful 3 p) := by
  by_cases z : fp.1 = 0
  · rw [hb z]
    cases b with
    | true =>
      show (false, q1, fp) = (false, q1, blm fp false 3 p)
      rw [blm_ff rfl]
    | false =>
      show (false, q1, alsoF fp 3 p) = (false, q1, blm fp true 3 p)
      rw [also_blm hf]
  · rw [blm_n z]
    cases b with
    | true => rfl
    | false =>
      show (false, q1, alsoF fp 3 p) = (false, q1, fp)
      rw [also_blm hf, blm_n z]
theorem ln_person {w : Int} (w0 : 5 ≤ w) (w1 : w ≤ 8) (h0 : tkK T n P.1 ≠ 0) (hl : lnK T n 0 P.1 = 3) (hw : mnW (wrd T n P.1) = w - 5) (L : LnB σ1 σ T n P) (k : ∀ σ' : xS, LnR σ' T n 0 P → LnF σ' σ → K none σ') : Wx g y_Mo_townLine Z K 13 [vR 174, vI P.1, vI w, w3] [] σ1 := by
  obtain ⟨H, hf, B, E, F⟩ := L
  have lt : (loT 3 0 = 0 ∧ hiT 3 0 = 35) ∧ loT 3 1 = 0 ∧ hiT 3 1 = 30 := by decide +kernel
  have b6 := (B.1 rfl).2.1
  refine x_iload_n (dat d_Mo_townLine 8 rfl) rfl rfl ?_
  refine x_iconst (dat d_Mo_townLine 9 rfl) (by decide) ?_
  refine x_icmp_ne (tgt := 44) (dat d_Mo_townLine 10 rfl) (by decide) (fun c_15 => ?_) (fun c_15 => (by omega))
  refine x_iload_n (dat d_Mo_townLine 27 rfl) rfl rfl ?_
  refine x_iconst (dat d_Mo_townLine 28 rfl) (by decide) ?_
  refine x_icmp_ne (tgt := 76) (dat d_Mo_townLine 29 rfl) (by decide) (fun c_46 => ?_) (fun c_46 => (by omega))
  refine x_iload_n (dat d_Mo_townLine 46 rfl) rfl rfl ?_
  refine x_iconst (dat d_Mo_townLine 47 rfl) (by decide) ?_
  refine x_icmp_ne (tgt := 94) (dat d_Mo_townLine 48 rfl) (by decide) (fun c_78 => ?_) (fun c_78 => (by omega))
  refine x_iload_n (dat d_Mo_townLine 57 rfl) rfl rfl ?_
  refine x_iconst (dat d_Mo_townLine 58 rfl) (by decide) ?_
  refine x_icmp_ne (tgt := 125) (dat d_Mo_townLine 59 rfl) (by decide) (fun c_96 => ?_) (fun c_96 => (by omega))
  refine x_iload_n (dat d_Mo_townLine 76 rfl) rfl rfl ?_
  refine x_iconst (dat d_Mo_townLine 77 rfl) (by decide) ?_
  refine x_bipush (dat d_Mo_townLine 78 rfl) (by decide) (by decide) ?_
  refine x_invs (As := [vI w, vI 5, vI 8]) (dat d_Mo_townLine 79 rfl) rfl c_Mo_isIn l_Mo_136 (by decide) rfl rfl (Nat.le_of_ble_eq_true rfl) ?_
  refine sp_Mo_isIn (fun _ _ => ?_) (fun c => absurd ⟨w0, w1⟩ c)
  show Wx g y_Mo_townLine Z K 132 [vR 174, vI P.1, vI w, w3] [vI 1] σ1
  refine x_if_eq (tgt := 143) (dat d_Mo_townLine 80 rfl) (by decide) (fun h => absurd h (by decide)) (fun c_132 => ?_)
  refine x_aload_n (dat d_Mo_townLine 81 rfl) rfl rfl ?_
  refine x_iload_n (dat d_Mo_townLine 82 rfl) rfl rfl ?_
  refine x_iconst (dat d_Mo_townLine 83 rfl) (by decide) ?_
  refine x_isub (v := w - 5) (dat d_Mo_townLine 84 rfl) rfl (by omega) ?_
  refine x_iload_n (dat d_Mo_townLine 85 rfl) rfl rfl ?_
  refine x_inv (As := [vI (w - 5), vI P.1]) (dat d_Mo_townLine 86 rfl) rfl c_Mo_personLine l_Mo_167 (by decide) (rv_mo (by decide +kernel)) rfl rfl (Nat.le_of_ble_eq_true rfl) ?_
  refine sp_Mo_personLine H B (by omega) (by omega) (fun σ2 x0 hx0 H2 g9 g10 B2 R2 F2 => ?_)
  show Wx g y_Mo_townLine Z K 143 [vR 174, vI P.1, vI w, w3] [] σ2
  refine x_iload_n (dat d_Mo_townLine 87 rfl) rfl rfl ?_
  refine x_bipush (dat d_Mo_townLine 88 rfl) (by decide) (by decide) ?_
  refine x_icmp_ne (tgt := 153) (dat d_Mo_townLine 89 rfl) (by decide) (fun c_146 => ?_) (fun c_146 => (by omega))
  refine x_iload_n (dat d_Mo_townLine 92 rfl) rfl rfl ?_
  refine x_bipush (dat d_Mo_townLine 93 rfl) (by decide) (by decide) ?_
  refine x_icmp_ne (tgt := 184) (dat d_Mo_townLine 94 rfl) (by decide) (fun c_156 => ?_) (fun c_156 => (by omega))
  refine x_iload_n (dat d_Mo_townLine 112 rfl) rfl rfl ?_
  refine x_bipush (dat d_Mo_townLine 113 rfl) (by decide) (by decide) ?_
  refine x_icmp_ne (tgt := 195) (dat d_Mo_townLine 114 rfl) (by decide) (fun c_187 => ?_) (fun c_187 => (by omega))
  refine x_aload_n (dat d_Mo_townLine 118 rfl) rfl rfl ?_
  refine x_inv (As := []) (dat d_Mo_townLine 119 rfl) rfl c_Mo_endsLine l_Mo_177 (by decide) (rv_mo (by decide +kernel)) rfl rfl (Nat.le_of_ble_eq_true rfl) ?_
  refine sp_Mo_endsLine H2 (fun σ9 H9 F9 => ?_)
  show Wx g y_Mo_townLine Z K 199 [vR 174, vI P.1, vI w, w3] [] σ9
  refine x_ret (dat d_Mo_townLine 120 rfl) rfl ?_
  have ex : x0 = (false, nxt T n P.1, blm P.2.1 (fulL 3 P.2.2.2.2) 3 P.1) := by
    rw [hx0]
    refine f0_more (r := P.2.2.2.2) (fun z => ?_) hf
    have e6 := (E z).2 6 (by decide) (by decide)
    show (decide ((3 : Int) = 3) && decide (8 ≤ P.2.2.2.2 6) || decide ((3 : Int) = 6) && decide (6 ≤ P.2.2.2.2 7) || decide ((3 : Int) = 7) && decide (8 ≤ P.2.2.2.2 0)) = !decide (σ1 177 6 < 8)
    rw [e6]
    by_cases y : 8 ≤ P.2.2.2.2 6
    · rw [decide_eq_true y, decide_eq_false (show ¬ P.2.2.2.2 6 < 8 by omega)]; rfl
    · rw [decide_eq_false y, decide_eq_true (show P.2.2.2.2 6 < 8 by omega)]; rfl
  clear hx0
  subst ex
  refine k σ9 (LnR.fix (l := 3) (m := 2) h0 hl (by decide) (by decide) (by decide) (by decide) (by decide +kernel) (by decide +kernel) (B2.same (F9.2.2 177 (by decide) (by decide))) rfl (by rw [xs_2 lt]; exact H9) hf (fun hk hx hr z hfu => ?_)) ((F.trans F2).trans F9.ry.ln)
  have f6 := (ful_f hfu).1 rfl
  have e6 := (E z).2 6 (by decide) (by decide)
  have r0 := hr 0 (by decide)
  rw [lt.1.1, lt.1.2] at r0
  have t0 := nuV_at (q1 := nxt T n P.1) (j := 0) (f := blm P.2.1 (fulL 3 P.2.2.2.2) 3 P.1) (X := (false, nxt T n P.1, blm P.2.1 (fulL 3 P.2.2.2.2) 3 P.1)) rfl rfl (hk 0 (by decide)) r0
  have r1 := hr 1 (by decide)
  rw [lt.2.1, lt.2.2] at r1
  have x1 := hx 1 (by decide)
  rw [xs_1 lt.1] at x1
  have t1 := nuV_at (j := 1) rfl x1 (hk 1 (by decide)) r1
  have E9 := (R2 (by omega) _ (E z).2).same (F9.2.2 177 (by decide) (by decide))
  have ge : gcN T n 3 (nxt T n P.1) P.2.2.2.1 2 = imax P.2.2.2.1 (tkV T n (qit T n (nxt T n P.1) 0)) := rfl
  refine ⟨⟨by rw [F9.1 9 (by decide), g9, gpN_n (by decide)]; exact (E z).1.1, by rw [F9.1 10 (by decide), g10, (E z).1.2, ge, t0]⟩, ?_⟩
  rw [t0, t1, e6] at E9
  rw [hw]
  exact E9
theorem ln_errand (h0 : tkK T n P.1 ≠ 0) (p0 : 0 ≤ P.1) (hl : lnK T n 0 P.1 = 4) (L : LnB σ1 σ T n P) (k : ∀ σ' : xS, LnR σ' T n 0 P → LnF σ' σ → K none σ') : Wx g y_Mo_townLine Z K 13 [vR 174, vI P.1, vI 9, w3] [] σ1 := by
  obtain ⟨H, hf, B, E, F⟩ := L
  have q1 := nxt_gt h0
  have e0 : blm P.2.1 (fulL 4 P.2.2.2.2) 3 P.1 = P.2.1 := blm_ff rfl
  have hf2 : P.2.1.1 ≠ 0 → P.2.1.2 < nxt T n P.1 := fun w => by have := hf w; omega
  have mo : mostT 4 = 600 ∧ fewT 4 = 2 := by decide +kernel
  have mt : (mostT 4).toNat = 600 := by rw [mo.1]; rfl
  obtain ⟨e, he⟩ : ∃ e : Nat, e = nrun T n 600 (nxt T n P.1) := ⟨_, rfl⟩
  have hin : ∀ i : Nat, i < e → tkK T n (qit T n (nxt T n P.1) i) = 1 := fun i hi => nrun_in T n 600 _ i (by rw [← he]; exact hi)
  have hn := H.1.1.2.1
  have e6 : e < 600 := by
    have a1 := qit_j (T := T) (n := n) (q := nxt T n P.1) e hin
    have a2 := qit_le (T := T) (n := n) (q := nxt T n P.1) H.1.2.2 e
    omega
  have fin : ∀ (σ2 : xS) (X : Rx), RX σ2 T n X → BnR σ2 0 → LnF σ2 σ1 → (¬ (tkK T n (qit T n (nxt T n P.1) e) = 2 ∧ 2 ≤ e) → ∃ f : Int × Int, eoX T n X = (true, qit T n (nxt T n P.1) e, f)) → ((tkK T n (qit T n (nxt T n P.1) e) = 2 ∧ 2 ≤ e) → eoX T n X = (false, nxt T n (qit T n (nxt T n P.1) e), fpN T n 4 (nxt T n P.1) P.2.1 e) ∧ ((fpN T n 4 (nxt T n P.1) P.2.1 e).1 = 0 → (σ2 174 9 = gpN T n 4 (nxt T n P.1) P.2.2.1 e ∧ σ2 174 10 = gcN T n 4 (nxt T n P.1) P.2.2.2.1 e) ∧ RwE σ2 (rowL 4 (mnW (wrd T n P.1)) (fun j => tkV T n (qit T n (nxt T n P.1) j)) e P.2.2.2.2))) → ∀ σ9 : xS, RX σ9 T n (eoX T n X) → RxF σ9 σ2 → K none σ9 := by
    intro σ2 X H2 B2 F2 c0 c1 σ9 H9 F9
    refine k σ9 (LnR.num (l := 4) (e := e) h0 hl (by decide) (by decide) (by rw [mt]; exact he) (B2.same (F9.2.2 177 (by decide) (by decide))) H9 hf (fun z => c0 (fun y => z ⟨y.1, by rw [mo.2]; omega⟩)) (fun z => ?_)) ((F.trans F2).trans F9.ry.ln)
    obtain ⟨ex, hv⟩ := c1 ⟨z.1, by have := z.2; rw [mo.2] at this; omega⟩
    rw [e0]
    refine ⟨hin, ex, fun y => ?_⟩
    obtain ⟨⟨g9, g10⟩, gr⟩ := hv y
    exact ⟨⟨by rw [F9.1 9 (by decide)]; exact g9, by rw [F9.1 10 (by decide)]; exact g10⟩, gr.same (F9.2.2 177 (by decide) (by decide))⟩
  refine x_iload_n (dat d_Mo_townLine 8 rfl) rfl rfl ?_
  refine x_iconst (dat d_Mo_townLine 9 rfl) (by decide) ?_
  refine x_icmp_ne (tgt := 44) (dat d_Mo_townLine 10 rfl) (by decide) (fun c_15 => ?_) (fun h => absurd h (by decide))
  refine x_iload_n (dat d_Mo_townLine 27 rfl) rfl rfl ?_
  refine x_iconst (dat d_Mo_townLine 28 rfl) (by decide) ?_
  refine x_icmp_ne (tgt := 76) (dat d_Mo_townLine 29 rfl) (by decide) (fun c_46 => ?_) (fun h => absurd h (by decide))
  refine x_iload_n (dat d_Mo_townLine 46 rfl) rfl rfl ?_
  refine x_iconst (dat d_Mo_townLine 47 rfl) (by decide) ?_
  refine x_icmp_ne (tgt := 94) (dat d_Mo_townLine 48 rfl) (by decide) (fun c_78 => ?_) (fun h => absurd h (by decide))
  refine x_iload_n (dat d_Mo_townLine 57 rfl) rfl rfl ?_
  refine x_iconst (dat d_Mo_townLine 58 rfl) (by decide) ?_
  refine x_icmp_ne (tgt := 125) (dat d_Mo_townLine 59 rfl) (by decide) (fun c_96 => ?_) (fun h => absurd h (by decide))
  refine x_iload_n (dat d_Mo_townLine 76 rfl) rfl rfl ?_
  refine x_iconst (dat d_Mo_townLine 77 rfl) (by decide) ?_
  refine x_bipush (dat d_Mo_townLine 78 rfl) (by decide) (by decide) ?_
  refine x_invs (As := [vI 9, vI 5, vI 8]) (dat d_Mo_townLine 79 rfl) rfl c_Mo_isIn l_Mo_136 (by decide) rfl rfl (Nat.le_of_ble_eq_true rfl) ?_
  refine sp_Mo_isIn (fun a b => absurd (And.intro a b) (by decide)) (fun _ => ?_)
  show Wx g y_Mo_townLine Z K 132 [vR 174, vI P.1, vI 9, w3] [vI 0] σ1
  refine x_if_eq (tgt := 143) (dat d_Mo_townLine 80 rfl) (by decide) (fun c_132 => ?_) (fun h => absurd h (by decide))
  refine x_iload_n (dat d_Mo_townLine 87 rfl) rfl rfl ?_
  refine x_bipush (dat d_Mo_townLine 88 rfl) (by decide) (by decide) ?_
  refine x_icmp_ne (tgt := 153) (dat d_Mo_townLine 89 rfl) (by decide) (fun h => absurd h (by decide)) (fun c_146 => ?_)
  refine x_aload_n (dat d_Mo_townLine 90 rfl) rfl rfl ?_
  refine x_inv (As := []) (dat d_Mo_townLine 91 rfl) rfl c_Mo_errandLine l_Mo_170 (by decide) (rv_mo (by decide +kernel)) rfl rfl (Nat.le_of_ble_eq_true rfl) ?_
  refine sp_Mo_errandLine (mn := mnW (wrd T n P.1)) H B hf2 he e6 E (fun h2 σ2 H2 B2 F2 R2 => ?_) (fun h2 σ2 f H2 B2 F2 => ?_)
  · show Wx g y_Mo_townLine Z K 153 [vR 174, vI P.1, vI 9, w3] [] σ2
    have fin := fin σ2 _ H2 B2 F2 (fun z => ⟨_, eoX_bk (fun w => z ⟨w, h2⟩)⟩) (fun z => ⟨eoX_go z.1, R2⟩)
    refine x_iload_n (dat d_Mo_townLine 92 rfl) rfl rfl ?_
    refine x_bipush (dat d_Mo_townLine 93 rfl) (by decide) (by decide) ?_
    refine x_icmp_ne (tgt := 184) (dat d_Mo_townLine 94 rfl) (by decide) (fun c_156 => ?_) (fun h => absurd h (by decide))
    refine x_iload_n (dat d_Mo_townLine 112 rfl) rfl rfl ?_
    refine x_bipush (dat d_Mo_townLine 113 rfl) (by decide) (by decide) ?_
    refine x_icmp_ne (tgt := 195) (dat d_Mo_townLine 114 rfl) (by decide) (fun c_187 => ?_) (fun h => absurd h (by decide))
    refine x_aload_n (dat d_Mo_townLine 118 rfl) rfl rfl ?_
    refine x_inv (As := []) (dat d_Mo_townLine 119 rfl) rfl c_Mo_endsLine l_Mo_177 (by decide) (rv_mo (by decide +kernel)) rfl rfl (Nat.le_of_ble_eq_true rfl) ?_
    refine sp_Mo_endsLine H2 (fun σ9 H9 F9 => ?_)
    show Wx g y_Mo_townLine Z K 199 [vR 174, vI P.1, vI 9, w3] [] σ9
    refine x_ret (dat d_Mo_townLine 120 rfl) rfl ?_
    exact fin σ9 H9 F9
  · show Wx g y_Mo_townLine Z K 153 [vR 174, vI P.1, vI 9, w3] [] σ2
    have fin := fin σ2 _ H2 B2 F2 (fun z => ⟨_, eoX_br rfl⟩) (fun z => by omega)
    refine x_iload_n (dat d_Mo_townLine 92 rfl) rfl rfl ?_
    refine x_bipush (dat d_Mo_townLine 93 rfl) (by decide) (by decide) ?_
    refine x_icmp_ne (tgt := 184) (dat d_Mo_townLine 94 rfl) (by decide) (fun c_156 => ?_) (fun h => absurd h (by decide))
    refine x_iload_n (dat d_Mo_townLine 112 rfl) rfl rfl ?_
    refine x_bipush (dat d_Mo_townLine 113 rfl) (by decide) (by decide) ?_
    refine x_icmp_ne (tgt := 195) (dat d_Mo_townLine 114 rfl) (by decide) (fun c_187 => ?_) (fun h => absurd h (by decide))
    refine x_aload_n (dat d_Mo_townLine 118 rfl) rfl rfl ?_
    refine x_inv (As := []) (dat d_Mo_townLine 119 rfl) rfl c_Mo_endsLine l_Mo_177 (by decide) (rv_mo (by decide +kernel)) rfl rfl (Nat.le_of_ble_eq_true rfl) ?_
    refine sp_Mo_endsLine H2 (fun σ9 H9 F9 => ?_)
    show Wx g y_Mo_townLine Z K 199 [vR 174, vI P.1, vI 9, w3] [] σ9
    refine x_ret (dat d_Mo_townLine 120 rfl) rfl ?_
    exact fin σ9 H9 F9
theorem ln_quarrel (h0 : tkK T n P.1 ≠ 0) (hl : lnK T n 0 P.1 = 6) (L : LnB σ1 σ T n P) (k : ∀ σ' : xS, LnR σ' T n 0 P → LnF σ' σ → K none σ') : Wx g y_Mo_townLine Z K 13 [vR 174, vI P.1, vI 11, w3] [] σ1 := by
  obtain ⟨H, hf, B, E, F⟩ := L
  have q1 := nxt_gt h0
  have lt : (loT 6 0 = 0 ∧ hiT 6 0 = 7) ∧ loT 6 1 = 0 ∧ hiT 6 1 = 7 := by decide +kernel
  have mo : mostT 6 = 2 ∧ fewT 6 = 2 := by decide +kernel
  have mt : (mostT 6).toNat = 2 := by rw [mo.1]; rfl
  have b7 := (B.1 rfl).2.2
  refine x_iload_n (dat d_Mo_townLine 8 rfl) rfl rfl ?_
  refine x_iconst (dat d_Mo_townLine 9 rfl) (by decide) ?_
  refine x_icmp_ne (tgt := 44) (dat d_Mo_townLine 10 rfl) (by decide) (fun c_15 => ?_) (fun h => absurd h (by decide))
  refine x_iload_n (dat d_Mo_townLine 27 rfl) rfl rfl ?_
  refine x_iconst (dat d_Mo_townLine 28 rfl) (by decide) ?_
  refine x_icmp_ne (tgt := 76) (dat d_Mo_townLine 29 rfl) (by decide) (fun c_46 => ?_) (fun h => absurd h (by decide))
  refine x_iload_n (dat d_Mo_townLine 46 rfl) rfl rfl ?_
  refine x_iconst (dat d_Mo_townLine 47 rfl) (by decide) ?_
  refine x_icmp_ne (tgt := 94) (dat d_Mo_townLine 48 rfl) (by decide) (fun c_78 => ?_) (fun h => absurd h (by decide))
  refine x_iload_n (dat d_Mo_townLine 57 rfl) rfl rfl ?_
  refine x_iconst (dat d_Mo_townLine 58 rfl) (by decide) ?_
  refine x_icmp_ne (tgt := 125) (dat d_Mo_townLine 59 rfl) (by decide) (fun c_96 => ?_) (fun h => absurd h (by decide))
  refine x_iload_n (dat d_Mo_townLine 76 rfl) rfl rfl ?_
  refine x_iconst (dat d_Mo_townLine 77 rfl) (by decide) ?_
  refine x_bipush (dat d_Mo_townLine 78 rfl) (by decide) (by decide) ?_
  refine x_invs (As := [vI 11, vI 5, vI 8]) (dat d_Mo_townLine 79 rfl) rfl c_Mo_isIn l_Mo_136 (by decide) rfl rfl (Nat.le_of_ble_eq_true rfl) ?_
  refine sp_Mo_isIn (fun a b => absurd (And.intro a b) (by decide)) (fun _ => ?_)
  show Wx g y_Mo_townLine Z K 132 [vR 174, vI P.1, vI 11, w3] [vI 0] σ1
  refine x_if_eq (tgt := 143) (dat d_Mo_townLine 80 rfl) (by decide) (fun c_132 => ?_) (fun h => absurd h (by decide))
  refine x_iload_n (dat d_Mo_townLine 87 rfl) rfl rfl ?_
  refine x_bipush (dat d_Mo_townLine 88 rfl) (by decide) (by decide) ?_
  refine x_icmp_ne (tgt := 153) (dat d_Mo_townLine 89 rfl) (by decide) (fun c_146 => ?_) (fun h => absurd h (by decide))
  refine x_iload_n (dat d_Mo_townLine 92 rfl) rfl rfl ?_
  refine x_bipush (dat d_Mo_townLine 93 rfl) (by decide) (by decide) ?_
  refine x_icmp_ne (tgt := 184) (dat d_Mo_townLine 94 rfl) (by decide) (fun c_156 => ?_) (fun h => absurd h (by decide))
  refine x_iload_n (dat d_Mo_townLine 112 rfl) rfl rfl ?_
  refine x_bipush (dat d_Mo_townLine 113 rfl) (by decide) (by decide) ?_
  refine x_icmp_ne (tgt := 195) (dat d_Mo_townLine 114 rfl) (by decide) (fun h => absurd h (by decide)) (fun c_187 => ?_)
  refine x_aload_n (dat d_Mo_townLine 115 rfl) rfl rfl ?_
  refine x_iload_n (dat d_Mo_townLine 116 rfl) rfl rfl ?_
  refine x_inv (As := [vI P.1]) (dat d_Mo_townLine 117 rfl) rfl c_Mo_quarrelLine l_Mo_173 (by decide) (rv_mo (by decide +kernel)) rfl rfl (Nat.le_of_ble_eq_true rfl) ?_
  refine sp_Mo_quarrelLine H B (fun σ2 x0 y1 hx0 hy1 H2 g9 g10 B2 R2 F2 => ?_)
  show Wx g y_Mo_townLine Z K 195 [vR 174, vI P.1, vI 11, w3] [] σ2
  refine x_aload_n (dat d_Mo_townLine 118 rfl) rfl rfl ?_
  refine x_inv (As := []) (dat d_Mo_townLine 119 rfl) rfl c_Mo_endsLine l_Mo_177 (by decide) (rv_mo (by decide +kernel)) rfl rfl (Nat.le_of_ble_eq_true rfl) ?_
  refine sp_Mo_endsLine H2 (fun σ9 H9 F9 => ?_)
  show Wx g y_Mo_townLine Z K 199 [vR 174, vI P.1, vI 11, w3] [] σ9
  refine x_ret (dat d_Mo_townLine 120 rfl) rfl ?_
  have ex : x0 = (false, nxt T n P.1, blm P.2.1 (fulL 6 P.2.2.2.2) 3 P.1) := by
    rw [hx0]
    refine f0_more (r := P.2.2.2.2) (fun z => ?_) hf
    have e7 := (E z).2 7 (by decide) (by decide)
    show (decide ((6 : Int) = 3) && decide (8 ≤ P.2.2.2.2 6) || decide ((6 : Int) = 6) && decide (6 ≤ P.2.2.2.2 7) || decide ((6 : Int) = 7) && decide (8 ≤ P.2.2.2.2 0)) = !decide (σ1 177 7 < 6)
    rw [e7]
    by_cases y : 6 ≤ P.2.2.2.2 7
    · rw [decide_eq_true y, decide_eq_false (show ¬ P.2.2.2.2 7 < 6 by omega)]; rfl
    · rw [decide_eq_false y, decide_eq_true (show P.2.2.2.2 7 < 6 by omega)]; rfl
  clear hx0
  obtain ⟨f0, ef0⟩ : ∃ f : Int × Int, f = blm P.2.1 (fulL 6 P.2.2.2.2) 3 P.1 := ⟨_, rfl⟩
  have fl : f0.1 ≠ 0 → f0.2 < nxt T n P.1 := by
    rw [ef0]
    exact blm_lt (fun w => by have := hf w; omega) q1
  rw [← ef0] at ex
  subst ex
  obtain ⟨q, hq⟩ : ∃ q : Int, q = nxt T n P.1 := ⟨_, rfl⟩
  obtain ⟨e, he⟩ : ∃ e : Nat, e = nrun T n 2 (nxt T n P.1) := ⟨_, rfl⟩
  rw [← hq] at he fl hy1 g9 R2
  have hle := nrun_le T n 2 q
  rw [← he] at hle
  have hin : ∀ i : Nat, i < e → tkK T n (qit T n q i) = 1 := fun i hi => nrun_in T n 2 q i (by rw [← he]; exact hi)
  have hend : e < 2 → tkK T n (qit T n q e) ≠ 1 := fun z => by
    have := nrun_end T n 2 q (by rw [← he]; exact z)
    rw [← he] at this
    exact this
  have t0 : qit T n q 0 = q := rfl
  refine k σ9 (LnR.num (l := 6) (e := e) h0 hl (by decide) (by decide) (by rw [mt, ← hq]; exact he) (B2.same (F9.2.2 177 (by decide) (by decide))) H9 hf (fun z => ?_) (fun z => ?_)) ((F.trans F2).trans F9.ry.ln)
  · rw [← hq]
    rw [← hq, mo.2] at z
    by_cases z0 : e = 0
    · have nb := nuX_bk (T := T) (n := n) (lo := 0) (hi := 7) (fp := f0) (q := q) (by have := hend (by omega); rw [z0] at this; exact this)
      rw [nb] at hy1
      have yb : y1.1 = true := by rw [hy1]; unfold cmX; rw [if_neg (fun w => Bool.noConfusion w.1)]
      have ye : y1 = (true, q, f0) := by rw [hy1]; exact if_neg (fun w => Bool.noConfusion w.1)
      exact ⟨f0, by rw [nuX_br yb, eoX_br yb, ye, z0]; rfl⟩
    · have hk0 := hin 0 (by omega)
      rw [t0] at hk0
      have y0 : nuX T n 0 7 (false, q, f0) = (false, nxt T n q, if 0 ≤ tkV T n q ∧ tkV T n q ≤ 7 then f0 else alsoF f0 2 q) := if_neg (fun w => w.elim (fun y => Bool.noConfusion y) (fun y => y hk0))
      rw [y0] at hy1
      generalize (if 0 ≤ tkV T n q ∧ tkV T n q ≤ 7 then f0 else alsoF f0 2 q) = f1 at hy1
      by_cases z1 : e = 1
      · have he1 := hend (by omega)
        rw [z1] at he1
        have he1 : tkK T n (nxt T n q) ≠ 1 := he1
        have ye : y1 = (false, nxt T n q, f1) := by rw [hy1]; exact if_neg (fun w => he1 w.2.1)
        exact ⟨f1, by rw [ye, nuX_bk he1, eoX_br rfl, z1]; rfl⟩
      · have z2 : e = 2 := by omega
        have hk1 := hin 1 (by omega)
        have hk1 : tkK T n (nxt T n q) = 1 := hk1
        have yf : ∃ f : Int × Int, y1 = (false, nxt T n q, f) := by
          rw [hy1]
          unfold cmX
          split
          · exact ⟨_, rfl⟩
          · exact ⟨_, rfl⟩
        obtain ⟨f, ye⟩ := yf
        have y2 : nuX T n 0 7 (false, nxt T n q, f) = (false, nxt T n (nxt T n q), if 0 ≤ tkV T n (nxt T n q) ∧ tkV T n (nxt T n q) ≤ 7 then f else alsoF f 2 (nxt T n q)) := if_neg (fun w => w.elim (fun y => Bool.noConfusion y) (fun y => y hk1))
        refine ⟨if 0 ≤ tkV T n (nxt T n q) ∧ tkV T n (nxt T n q) ≤ 7 then f else alsoF f 2 (nxt T n q), ?_⟩
        rw [ye, y2, z2]
        exact eoX_bk (fun w => z ⟨by rw [z2]; exact w, by omega⟩)
  · rw [← hq] at z ⊢
    rw [mo.2] at z
    have z2 : e = 2 := by omega
    rw [z2] at hin z
    have hk0 := hin 0 (by decide)
    rw [t0] at hk0
    have hk1 := hin 1 (by decide)
    have hk1 : tkK T n (nxt T n q) = 1 := hk1
    have h1 := fpN_lt (l := 6) (fp := f0) hin fl 1 (by decide)
    have f1e : fpN T n 6 q f0 1 = if 0 ≤ tkV T n q ∧ tkV T n q ≤ 7 then f0 else alsoF f0 2 q := by
      have bi : badN T n 6 q 0 = true ↔ ¬ (0 ≤ tkV T n q ∧ tkV T n q ≤ 7) := by
        show (decide (tkV T n q < loT 6 0) || decide (hiT 6 0 < tkV T n q) || (decide ((6 : Int) = 6) && decide ((0 : Nat) = 1) && decide (tkV T n (qit T n q 1) = tkV T n q))) = true ↔ _
        rw [lt.1.1, lt.1.2]
        simp
        omega
      rw [nu_blm bi fl]
      show blm (blm f0 (badN T n 6 q 0) 2 q) (decide (13 ≤ 0)) 3 q = _
      exact blm_ff rfl
    have y0 : nuX T n 0 7 (false, q, f0) = (false, nxt T n q, fpN T n 6 q f0 1) := by
      rw [f1e]
      exact if_neg (fun w => w.elim (fun y => Bool.noConfusion y) (fun y => y hk0))
    have nv : (fpN T n 6 q f0 1).1 = 0 → nuV T n 0 7 (false, q, f0) = tkV T n q := fun y => by
      have ok := fpN_ok 1 y
      have b0 := badN_0 (ok.2.2 0 (by decide)).1
      rw [lt.1.1, lt.1.2, t0] at b0
      exact nuV_ok hk0 ⟨b0.1, b0.2.1⟩
    rw [y0] at hy1
    have q2 : qit T n q 1 = nxt T n q := rfl
    rw [q2] at h1
    have f2 : fpN T n 6 q f0 2 = blm (fpN T n 6 q f0 1) (badN T n 6 q 1) 2 (nxt T n q) := blm_ff (fp := blm (fpN T n 6 q f0 1) (badN T n 6 q 1) 2 (nxt T n q)) rfl
    have b1 : badN T n 6 q 1 = true ↔ (¬ (0 ≤ tkV T n (nxt T n q) ∧ tkV T n (nxt T n q) ≤ 7) ∨ tkV T n (nxt T n q) = tkV T n q) := by
      show (decide (tkV T n (nxt T n q) < loT 6 1) || decide (hiT 6 1 < tkV T n (nxt T n q)) || (decide ((6 : Int) = 6) && decide ((1 : Nat) = 1) && decide (tkV T n (nxt T n q) = tkV T n q))) = true ↔ _
      rw [lt.2.1, lt.2.2]
      simp
      omega
    have key : nuX T n 0 7 y1 = (false, nxt T n (nxt T n q), fpN T n 6 q f0 2) ∧ ((fpN T n 6 q f0 2).1 = 0 → nuV T n 0 7 y1 = tkV T n (nxt T n q)) := by
      rw [f2]
      generalize fpN T n 6 q f0 1 = f1 at *
      have nu : ∀ f : Int × Int, nuX T n 0 7 (false, nxt T n q, f) = (false, nxt T n (nxt T n q), if 0 ≤ tkV T n (nxt T n q) ∧ tkV T n (nxt T n q) ≤ 7 then f else alsoF f 2 (nxt T n q)) := fun f => if_neg (fun w => w.elim (fun y => Bool.noConfusion y) (fun y => y hk1))
      by_cases y : f1.1 = 0
      · have nv := nv y
        rw [nv] at hy1
        by_cases eq : tkV T n (nxt T n q) = tkV T n q
        · have ye : y1 = (false, nxt T n q, alsoF f1 2 (nxt T n q)) := by rw [hy1]; exact if_pos ⟨rfl, hk1, eq⟩
          have e2 : blm f1 (badN T n 6 q 1) 2 (nxt T n q) = (2, nxt T n q) := blm_t y (b1.mpr (Or.inr eq))
          have a2 : alsoF f1 2 (nxt T n q) = (2, nxt T n q) := by rw [also_blm (fun w => absurd y w)]; exact blm_t y rfl
          have a3 : alsoF (2, nxt T n q) 2 (nxt T n q) = (2, nxt T n q) := if_pos ⟨(by decide : (2 : Int) ≠ 0), Or.inr ⟨rfl, Int.le_refl _⟩⟩
          refine ⟨by rw [ye, nu, e2, a2, a3]; split <;> rfl, fun w => ?_⟩
          rw [e2] at w
          exact absurd (show (2 : Int) = 0 from w) (by decide)
        · have ye : y1 = (false, nxt T n q, f1) := by rw [hy1]; exact if_neg (fun w => eq w.2.2)
          have bi : badN T n 6 q 1 = true ↔ ¬ (0 ≤ tkV T n (nxt T n q) ∧ tkV T n (nxt T n q) ≤ 7) := ⟨fun w => (b1.mp w).elim (fun v => v) (fun v => absurd v eq), fun w => b1.mpr (Or.inl w)⟩
          refine ⟨by rw [ye, nu, nu_blm bi h1], fun w => ?_⟩
          rw [ye]
          refine nuV_ok hk1 ?_
          by_cases u : 0 ≤ tkV T n (nxt T n q) ∧ tkV T n (nxt T n q) ≤ 7
          · exact u
          · rw [blm_t y (bi.mpr u)] at w
            exact absurd (show (2 : Int) = 0 from w) (by decide)
      · have a2 : alsoF f1 2 (nxt T n q) = f1 := by rw [also_blm h1]; exact blm_n y
        have yf : y1 = (false, nxt T n q, f1) := by
          rw [hy1]
          unfold cmX
          split
          · show (false, nxt T n q, alsoF f1 2 (nxt T n q)) = _
            rw [a2]
          · rfl
        refine ⟨by rw [yf, nu, a2, blm_n y]; split <;> rfl, fun w => ?_⟩
        rw [blm_n y] at w
        exact absurd w y
    rw [key.1, z2, ← ef0]
    refine ⟨hin, eoX_go (by rw [← z2] at z; rw [z2] at z; exact z.1), fun y => ?_⟩
    have ok := fpN_ok 2 y
    have f10 := (fpN_ok (T := T) (n := n) (l := 6) (q1 := q) (fp := f0) 1 (by rw [f2] at y; exact (blm_0 (k := 2) (by decide) y).1)).1
    have f11 : (fpN T n 6 q f0 1).1 = 0 := by rw [f2] at y; exact (blm_0 (k := 2) (by decide) y).1
    have f00 := blm_0 (fp := P.2.1) (b := fulL 6 P.2.2.2.2) (k := 3) (at_ := P.1) (by decide) (by rw [← ef0]; exact f10)
    have e7 := (E f00.1).2 7 (by decide) (by decide)
    have f7 := (ful_f f00.2.1).2.1 rfl
    have v0 := nv f11
    have v1 := key.2 y
    have E9 := (R2 (by omega) _ (E f00.1).2).same (F9.2.2 177 (by decide) (by decide))
    rw [v0, v1, e7] at E9
    refine ⟨⟨?_, by rw [F9.1 10 (by decide), g10, gcN_n (by decide)]; exact (E f00.1).1.2⟩, E9⟩
    rw [F9.1 9 (by decide), g9, (E f00.1).1.1, v0, v1]
    rfl
end
