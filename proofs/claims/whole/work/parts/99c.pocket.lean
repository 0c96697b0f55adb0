/-! the twin's answers: what one may have had, which pocket to search */ -/
section
variable {g : xG} {K : Option MV → xS → Prop} {σ σ' σ0 : xS} {t b : Int → Int} {t0 : Int} {a : Int → Int} {n : Int} {C : Cf}
theorem hv_pos {h p x : Int} (h1 : h < t 3) (p1 : p < t 6) : ∀ n : Nat, 0 < wHv t b n h p x ↔ ∃ j : Nat, j < n ∧ isW t b j = true ∧ (rst (wC t j) (h.toNat + 1)).1 p = x
  | 0 => ⟨fun z => absurd z (Int.lt_irrefl 0), fun ⟨j, z, _⟩ => absurd z (Nat.not_lt_zero j)⟩
  | n + 1 => by
    have ih := hv_pos (x := x) h1 p1 n
    have b0 := (wHv_bd t b n h p x).1
    have e : wHv t b (n + 1) h p x = wHv t b n h p x + (if isW t b n = true then (if h < t 3 ∧ p < t 6 ∧ (rst (wC t n) (h.toNat + 1)).1 p = x then 1 else 0) else 0) := rfl
    rw [e]
    constructor
    · intro z
      by_cases y : isW t b n = true
      · rw [if_pos y] at z
        by_cases q : h < t 3 ∧ p < t 6 ∧ (rst (wC t n) (h.toNat + 1)).1 p = x
        · exact ⟨n, by omega, y, q.2.2⟩
        · rw [if_neg q, Int.add_zero] at z
          obtain ⟨j, j1, j2⟩ := ih.mp z
          exact ⟨j, by omega, j2⟩
      · rw [if_neg y, Int.add_zero] at z
        obtain ⟨j, j1, j2⟩ := ih.mp z
        exact ⟨j, by omega, j2⟩
    · rintro ⟨j, j1, j2, j3⟩
      by_cases w : j = n
      · rw [w] at j2 j3
        rw [if_pos j2, if_pos ⟨h1, p1, j3⟩]
        omega
      · have := ih.mpr ⟨j, by omega, j2, j3⟩
        split
        · split <;> omega
        · omega
/-- the least, or the most, that one has in the first i worlds -/
def PkB (t b : Int → Int) (h p w : Int) (i : Nat) (v : Int) : Prop := (v = -1 ∧ ∀ j : Nat, j < i → ¬ isW t b j = true) ∨ ∃ j : Nat, j < i ∧ isW t b j = true ∧ v = (rst (wC t j) (h.toNat + 1)).1 p ∧ ∀ j2 : Nat, j2 < i → isW t b j2 = true → ((w = 0 → v ≤ (rst (wC t j2) (h.toNat + 1)).1 p) ∧ (w ≠ 0 → (rst (wC t j2) (h.toNat + 1)).1 p ≤ v))
theorem PkB.skip {h p w v : Int} {i : Nat} (H : PkB t b h p w i v) (hn : ¬ isW t b i = true) : PkB t b h p w (i + 1) v := by
  rcases H with ⟨h1, h2⟩ | ⟨j, j1, j2, j3, j4⟩
  · refine Or.inl ⟨h1, fun j hj => ?_⟩
    by_cases z : j = i
    · rw [z]; exact hn
    · exact h2 j (by omega)
  · refine Or.inr ⟨j, by omega, j2, j3, fun k hk hw => ?_⟩
    by_cases z : k = i
    · rw [z] at hw; exact absurd hw hn
    · exact j4 k (by omega) hw
theorem PkB.keep {h p w v : Int} {i : Nat} (H : PkB t b h p w i v) (hv : v ≠ -1) (hk : (w = 0 → v ≤ (rst (wC t i) (h.toNat + 1)).1 p) ∧ (w ≠ 0 → (rst (wC t i) (h.toNat + 1)).1 p ≤ v)) : PkB t b h p w (i + 1) v := by
  rcases H with ⟨h1, h2⟩ | ⟨j, j1, j2, j3, j4⟩
  · exact absurd h1 hv
  · refine Or.inr ⟨j, by omega, j2, j3, fun k hk2 hw => ?_⟩
    by_cases z : k = i
    · rw [z]; exact hk
    · exact j4 k (by omega) hw
theorem PkB.take {h p w v : Int} {i : Nat} (H : PkB t b h p w i v) (hy : isW t b i = true) (hk : v = -1 ∨ ((w = 0 → (rst (wC t i) (h.toNat + 1)).1 p ≤ v) ∧ (w ≠ 0 → v ≤ (rst (wC t i) (h.toNat + 1)).1 p))) (nn : ∀ j : Nat, 0 ≤ (rst (wC t j) (h.toNat + 1)).1 p) : PkB t b h p w (i + 1) ((rst (wC t i) (h.toNat + 1)).1 p) := by
  refine Or.inr ⟨i, by omega, hy, rfl, fun k hk2 hw => ?_⟩
  by_cases z : k = i
  · rw [z]; exact ⟨fun _ => Int.le_refl _, fun _ => Int.le_refl _⟩
  · rcases H with ⟨h1, h2⟩ | ⟨j, j1, j2, j3, j4⟩
    · exact absurd hw (h2 k (by omega))
    · have := j4 k (by omega) hw
      have nj := nn j
      rcases hk with y | y
      · omega
      · exact ⟨fun w0 => Int.le_trans (y.1 w0) (this.1 w0), fun w0 => Int.le_trans (this.2 w0) (y.2 w0)⟩
theorem PkB.fin {h p w v : Int} {N : Nat} (hT : TownOk t) (hN : N = (runT t).toNat) (H : PkB t b h p w N v) (h0 : 0 ≤ h) (h1 : h < t 3) (p0 : 0 ≤ p) (p1 : p < t 6) (hr : runT t ≤ 1024) : pocA t b p h w v := by
  unfold pocA
  rw [if_neg (fun z => z.elim (fun y => y ⟨⟨p0, p1⟩, h0, h1⟩) (fun y => y hr)), ← hN]
  have hp := fun x : Int => hv_pos (t := t) (b := b) (x := x) h1 p1 N
  have nn : ∀ j : Nat, 0 ≤ (rst (wC t j) (h.toNat + 1)).1 p ∧ (rst (wC t j) (h.toNat + 1)).1 p ≤ 264 := fun j => ⟨(rst_bd (wC_ok hT j) _ p0 p1).1, wC_264 hT j _ p p0 p1⟩
  by_cases w0 : w = 0
  · rw [if_pos w0]
    rcases H with ⟨e1, e2⟩ | ⟨j, j1, j2, j3, j4⟩
    · refine Or.inl ⟨e1, fun x _ z => ?_⟩
      obtain ⟨j, j1, j2, -⟩ := (hp _).mp z
      exact e2 j j1 j2
    · have := nn j
      refine Or.inr ⟨v.toNat, by omega, by omega, (hp _).mpr ⟨j, j1, j2, by omega⟩, fun x hx z => ?_⟩
      obtain ⟨k, k1, k2, k3⟩ := (hp _).mp z
      have := (j4 k k1 k2).1 w0
      omega
  · rw [if_neg w0]
    rcases H with ⟨e1, e2⟩ | ⟨j, j1, j2, j3, j4⟩
    · refine ⟨-1, Or.inl ⟨rfl, fun x _ z => ?_⟩, by rw [if_pos (by decide)]; exact e1⟩
      obtain ⟨j, j1, j2, -⟩ := (hp _).mp z
      exact e2 j j1 j2
    · have := nn j
      refine ⟨264 - v, Or.inr ⟨(264 - v).toNat, by omega, by omega, (hp _).mpr ⟨j, j1, j2, by omega⟩, fun x hx z => ?_⟩, by rw [if_neg (by omega)]; omega⟩
      obtain ⟨k, k1, k2, k3⟩ := (hp _).mp z
      have := (j4 k k1 k2).2 w0
      omega
theorem lp_Mo_pocket {Z : xZ} {m p h w b0 : Int} (h0 : 0 ≤ h) (h1 : h < t 3) (p0 : 0 ≤ p) (p1 : p < t 6) (hr : runT t ≤ 1024) (k : ∀ (r : Int) (σ' : xS), PkB t b h p w (runT t).toNat r → MoF σ' σ0 → K (some (vI r)) σ') : ∀ (d i : Nat) (σ1 : xS) (v : Int) (w8 : MV), i + d = (runT t).toNat → PkB t b h p w i v → KnX σ1 t t0 [179] → BkX σ1 b0 b → σ1 174 60 = runT t → MoF σ1 σ0 → Wx g y_Mo_pocket Z K 34 [vR 174, vI n, vI m, vI p, vI h, vI w, vI v, vI (i : Int), w8] [] σ1 := by
  intro d
  induction d with
  | zero =>
    intro i σ1 v w8 hd hv H B e60 F
    have e : i = (runT t).toNat := by omega
    rw [e] at hv
    refine x_iload (dat d_Mo_pocket 19 rfl) rfl ?_
    refine x_aload_n (dat d_Mo_pocket 20 rfl) rfl rfl ?_
    refine x_geti (ji := 60) (v := runT t) (dat d_Mo_pocket 21 rfl) rfl f_Mo_394 (oi_mk (by decide +kernel)) (e60) ?_
    refine x_icmp_ge (tgt := 107) (dat d_Mo_pocket 22 rfl) (by decide) (fun c_40 => ?_) (fun c_40 => (by omega))
    refine x_iload (dat d_Mo_pocket 53 rfl) rfl ?_
    refine x_iret (dat d_Mo_pocket 54 rfl) rfl ?_
    exact k v σ1 hv F
  | succ d ih =>
    intro i σ1 v w8 hd hv H B e60 F
    have hT := H.1.2
    have t6 := hT.2.2.2.2.2.2.1
    have t3 := hT.2.2.2.1
    have nn : ∀ j : Nat, 0 ≤ (rst (wC t j) (h.toNat + 1)).1 p := fun j => (rst_bd (wC_ok hT j) _ p0 p1).1
    have hv0 : v = -1 ∨ 0 ≤ v := by
      rcases hv with z | ⟨j, _, _, j3, _⟩
      · exact Or.inl z.1
      · exact Or.inr (by rw [j3]; exact nn j)
    have tk := fun (y1 : isW t b i = true) y2 => PkB.take hv y1 y2 nn
    have kp := fun (y1 : v ≠ -1) y2 => PkB.keep hv y1 y2
    have sk := fun (y1 : ¬ isW t b i = true) => PkB.skip hv y1
    have nni := nn i
    generalize hu : (rst (wC t i) (h.toNat + 1)).1 p = u at tk kp nni
    have nx : ∀ (σ2 : xS) (v' : Int) (w8 : MV), PkB t b h p w (i + 1) v' → KnX σ2 t t0 [179] → BkX σ2 b0 b → σ2 174 60 = runT t → MoF σ2 σ0 → Wx g y_Mo_pocket Z K 34 [vR 174, vI n, vI m, vI p, vI h, vI w, vI v', vI ((i + 1 : Nat) : Int), w8] [] σ2 := fun σ2 v' w8 e H2 B2 e2 F2 => ih (i + 1) σ2 v' w8 (by omega) e H2 B2 e2 F2
    clear ih hv
    refine x_iload (dat d_Mo_pocket 19 rfl) rfl ?_
    refine x_aload_n (dat d_Mo_pocket 20 rfl) rfl rfl ?_
    refine x_geti (ji := 60) (v := runT t) (dat d_Mo_pocket 21 rfl) rfl f_Mo_394 (oi_mk (by decide +kernel)) (e60) ?_
    refine x_icmp_ge (tgt := 107) (dat d_Mo_pocket 22 rfl) (by decide) (fun c_40 => (by omega)) (fun c_40 => ?_)
    refine x_aload_n (dat d_Mo_pocket 23 rfl) rfl rfl ?_
    refine x_iload (dat d_Mo_pocket 24 rfl) rfl ?_
    refine x_inv (As := [vI (i : Int)]) (dat d_Mo_pocket 25 rfl) rfl c_Mo_takesUp l_Mo_406 (by decide) (rv_mo (by decide +kernel)) rfl rfl (Nat.le_of_ble_eq_true rfl) ?_
    refine sp_Mo_takesUp H (by omega) (by omega) (fun σ2 H2 T2 W2 O2 F2 => ?_)
    have B2 : BkX σ2 b0 b := B.same (W2 59 (by decide)) (F2.2 175 (by decide))
    have g0 : σ2 174 60 = runT t := by rw [W2 60 (by decide)]; exact e60
    have g1 := T2.1 h p h0 h1 p0 p1
    have F3 : MoF σ2 σ0 := F.trans F2
    show Wx g y_Mo_pocket Z K 49 [vR 174, vI n, vI m, vI p, vI h, vI w, vI v, vI (i : Int), w8] [] σ2
    refine x_aload_n (dat d_Mo_pocket 26 rfl) rfl rfl ?_
    refine x_getr (r := 181) (dat d_Mo_pocket 27 rfl) rfl f_Mo_29 (or_mk (by decide +kernel)) ?_
    refine x_bipush (dat d_Mo_pocket 28 rfl) (by decide) (by decide) ?_
    refine x_iload (dat d_Mo_pocket 29 rfl) rfl ?_
    refine x_imul (v := 8 * h) (dat d_Mo_pocket 30 rfl) (by omega) (by omega) ?_
    refine x_iload_n (dat d_Mo_pocket 31 rfl) rfl rfl ?_
    refine x_iadd (v := (8 * h) + p) (dat d_Mo_pocket 32 rfl) rfl (by omega) ?_
    refine x_iald (n := 192) (v := u) (dat d_Mo_pocket 33 rfl) (ai_mk (by decide +kernel)) (by omega) (by omega) (by rw [g1, hu]) ?_
    refine x_istore (L' := [vR 174, vI n, vI m, vI p, vI h, vI w, vI v, vI (i : Int), vI u]) (dat d_Mo_pocket 34 rfl) (by decide) rfl rfl ?_
    refine x_aload_n (dat d_Mo_pocket 35 rfl) rfl rfl ?_
    refine x_inv (As := []) (dat d_Mo_pocket 36 rfl) rfl c_Mo_isWorld l_Mo_409 (by decide) (rv_mo (by decide +kernel)) rfl rfl (Nat.le_of_ble_eq_true rfl) ?_
    refine sp_Mo_isWorld H2 B2 T2 (fun wy => ?_) (fun wn => ?_)
    · show Wx g y_Mo_pocket Z K 67 [vR 174, vI n, vI m, vI p, vI h, vI w, vI v, vI (i : Int), vI u] [vI 1] σ2
      refine x_if_eq (tgt := 101) (dat d_Mo_pocket 37 rfl) (by decide) (fun h => absurd h (by decide)) (fun c_67 => ?_)
      refine x_iload (dat d_Mo_pocket 38 rfl) rfl ?_
      refine x_if_lt (tgt := 97) (dat d_Mo_pocket 39 rfl) (by decide) (fun c_72 => ?_) (fun c_72 => ?_)
      · refine x_iload (dat d_Mo_pocket 49 rfl) rfl ?_
        refine x_istore (L' := [vR 174, vI n, vI m, vI p, vI h, vI w, vI u, vI (i : Int), vI u]) (dat d_Mo_pocket 50 rfl) (by decide) rfl rfl ?_
        refine x_iinc (v' := ((i + 1 : Nat) : Int)) (L' := [vR 174, vI n, vI m, vI p, vI h, vI w, vI u, vI ((i + 1 : Nat) : Int), vI u]) (dat d_Mo_pocket 51 rfl) rfl (by decide) rfl (by omega) (by omega) rfl ?_
        refine x_goto (tgt := 34) (dat d_Mo_pocket 52 rfl) (by decide) ?_
        first
        | exact nx _ _ _ (sk wn) H2 B2 g0 F3
        | exact nx _ _ _ (tk wy (by omega)) H2 B2 g0 F3
        | exact nx _ _ _ (kp (by omega) (by omega)) H2 B2 g0 F3
      · refine x_iload (dat d_Mo_pocket 40 rfl) rfl ?_
        refine x_if_eq (tgt := 90) (dat d_Mo_pocket 41 rfl) (by decide) (fun c_77 => ?_) (fun c_77 => ?_)
        · refine x_iload (dat d_Mo_pocket 46 rfl) rfl ?_
          refine x_iload (dat d_Mo_pocket 47 rfl) rfl ?_
          refine x_icmp_ge (tgt := 101) (dat d_Mo_pocket 48 rfl) (by decide) (fun c_94 => ?_) (fun c_94 => ?_)
          · refine x_iinc (v' := ((i + 1 : Nat) : Int)) (L' := [vR 174, vI n, vI m, vI p, vI h, vI w, vI v, vI ((i + 1 : Nat) : Int), vI u]) (dat d_Mo_pocket 51 rfl) rfl (by decide) rfl (by omega) (by omega) rfl ?_
            refine x_goto (tgt := 34) (dat d_Mo_pocket 52 rfl) (by decide) ?_
            first
            | exact nx _ _ _ (sk wn) H2 B2 g0 F3
            | exact nx _ _ _ (tk wy (by omega)) H2 B2 g0 F3
            | exact nx _ _ _ (kp (by omega) (by omega)) H2 B2 g0 F3
          · refine x_iload (dat d_Mo_pocket 49 rfl) rfl ?_
            refine x_istore (L' := [vR 174, vI n, vI m, vI p, vI h, vI w, vI u, vI (i : Int), vI u]) (dat d_Mo_pocket 50 rfl) (by decide) rfl rfl ?_
            refine x_iinc (v' := ((i + 1 : Nat) : Int)) (L' := [vR 174, vI n, vI m, vI p, vI h, vI w, vI u, vI ((i + 1 : Nat) : Int), vI u]) (dat d_Mo_pocket 51 rfl) rfl (by decide) rfl (by omega) (by omega) rfl ?_
            refine x_goto (tgt := 34) (dat d_Mo_pocket 52 rfl) (by decide) ?_
            first
            | exact nx _ _ _ (sk wn) H2 B2 g0 F3
            | exact nx _ _ _ (tk wy (by omega)) H2 B2 g0 F3
            | exact nx _ _ _ (kp (by omega) (by omega)) H2 B2 g0 F3
        · refine x_iload (dat d_Mo_pocket 42 rfl) rfl ?_
          refine x_iload (dat d_Mo_pocket 43 rfl) rfl ?_
          refine x_icmp_le (tgt := 101) (dat d_Mo_pocket 44 rfl) (by decide) (fun c_84 => ?_) (fun c_84 => ?_)
          · refine x_iinc (v' := ((i + 1 : Nat) : Int)) (L' := [vR 174, vI n, vI m, vI p, vI h, vI w, vI v, vI ((i + 1 : Nat) : Int), vI u]) (dat d_Mo_pocket 51 rfl) rfl (by decide) rfl (by omega) (by omega) rfl ?_
            refine x_goto (tgt := 34) (dat d_Mo_pocket 52 rfl) (by decide) ?_
            first
            | exact nx _ _ _ (sk wn) H2 B2 g0 F3
            | exact nx _ _ _ (tk wy (by omega)) H2 B2 g0 F3
            | exact nx _ _ _ (kp (by omega) (by omega)) H2 B2 g0 F3
          · refine x_goto (tgt := 97) (dat d_Mo_pocket 45 rfl) (by decide) ?_
            refine x_iload (dat d_Mo_pocket 49 rfl) rfl ?_
            refine x_istore (L' := [vR 174, vI n, vI m, vI p, vI h, vI w, vI u, vI (i : Int), vI u]) (dat d_Mo_pocket 50 rfl) (by decide) rfl rfl ?_
            refine x_iinc (v' := ((i + 1 : Nat) : Int)) (L' := [vR 174, vI n, vI m, vI p, vI h, vI w, vI u, vI ((i + 1 : Nat) : Int), vI u]) (dat d_Mo_pocket 51 rfl) rfl (by decide) rfl (by omega) (by omega) rfl ?_
            refine x_goto (tgt := 34) (dat d_Mo_pocket 52 rfl) (by decide) ?_
            first
            | exact nx _ _ _ (sk wn) H2 B2 g0 F3
            | exact nx _ _ _ (tk wy (by omega)) H2 B2 g0 F3
            | exact nx _ _ _ (kp (by omega) (by omega)) H2 B2 g0 F3
    · show Wx g y_Mo_pocket Z K 67 [vR 174, vI n, vI m, vI p, vI h, vI w, vI v, vI (i : Int), vI u] [vI 0] σ2
      refine x_if_eq (tgt := 101) (dat d_Mo_pocket 37 rfl) (by decide) (fun c_67 => ?_) (fun h => absurd h (by decide))
      refine x_iinc (v' := ((i + 1 : Nat) : Int)) (L' := [vR 174, vI n, vI m, vI p, vI h, vI w, vI v, vI ((i + 1 : Nat) : Int), vI u]) (dat d_Mo_pocket 51 rfl) rfl (by decide) rfl (by omega) (by omega) rfl ?_
      refine x_goto (tgt := 34) (dat d_Mo_pocket 52 rfl) (by decide) ?_
      first
      | exact nx _ _ _ (sk wn) H2 B2 g0 F3
      | exact nx _ _ _ (tk wy (by omega)) H2 B2 g0 F3
      | exact nx _ _ _ (kp (by omega) (by omega)) H2 B2 g0 F3
theorem sp_Mo_pocket {m p h w : Int} (A : MoA σ a) (k : ∀ (r : Int) (σ' : xS), atB a n m (-1) (fun t b r => pocA t b p h w r) r → MoA σ' a → MoF σ' σ → K (some (vI r)) σ') : Mt g y_Mo_pocket [vR 174, vI n, vI m, vI p, vI h, vI w] σ K := by
  refine x_enter 3 rfl rfl rfl (fun Z => ?_)
  show Wx g y_Mo_pocket Z K 0 [vR 174, vI n, vI m, vI p, vI h, vI w, vU, vU, vU] [] σ
  refine x_aload_n (dat d_Mo_pocket 0 rfl) rfl rfl ?_
  refine x_iload_n (dat d_Mo_pocket 1 rfl) rfl rfl ?_
  refine x_iload_n (dat d_Mo_pocket 2 rfl) rfl rfl ?_
  refine x_inv (As := [vI n, vI m]) (dat d_Mo_pocket 3 rfl) rfl c_Mo_areWorlds l_Mo_413 (by decide) (rv_mo (by decide +kernel)) rfl rfl (Nat.le_of_ble_eq_true rfl) ?_
  refine sp_Mo_areWorlds A (fun σ1 t0 hn hm hr H B e60 A1 F => ?_) (fun σ1 no A1 F => ?_)
  · show Wx g y_Mo_pocket Z K 6 [vR 174, vI n, vI m, vI p, vI h, vI w, vU, vU, vU] [vI 1] σ1
    have kk : ∀ (r : Int) (σ2 : xS), pocA (tw a n) (bk a m) p h w r → MoF σ2 σ → K (some (vI r)) σ2 := fun r σ2 h F2 => k r σ2 ⟨fun z => absurd ⟨hn, hm⟩ z, fun _ => h⟩ (A.same F2) F2
    refine x_if_eq (tgt := 26) (dat d_Mo_pocket 4 rfl) (by decide) (fun h => absurd h (by decide)) (fun c_6 => ?_)
    refine x_aload_n (dat d_Mo_pocket 5 rfl) rfl rfl ?_
    refine x_iload_n (dat d_Mo_pocket 6 rfl) rfl rfl ?_
    refine x_inv (As := [vI p]) (dat d_Mo_pocket 7 rfl) rfl c_Mo_isPerson l_Mo_208 (by decide) (rv_mo (by decide +kernel)) rfl rfl (Nat.le_of_ble_eq_true rfl) ?_
    refine sp_Mo_isPerson H.1.1 H.1.2 (fun p0 p1 => ?_) (fun p01 => ?_)
    · show Wx g y_Mo_pocket Z K 14 [vR 174, vI n, vI m, vI p, vI h, vI w, vU, vU, vU] [vI 1] σ1
      refine x_if_eq (tgt := 26) (dat d_Mo_pocket 8 rfl) (by decide) (fun h => absurd h (by decide)) (fun c_14 => ?_)
      refine x_aload_n (dat d_Mo_pocket 9 rfl) rfl rfl ?_
      refine x_iload (dat d_Mo_pocket 10 rfl) rfl ?_
      refine x_inv (As := [vI h]) (dat d_Mo_pocket 11 rfl) rfl c_Mo_isHour l_Mo_342 (by decide) (rv_mo (by decide +kernel)) rfl rfl (Nat.le_of_ble_eq_true rfl) ?_
      refine sp_Mo_isHour H.1.1 H.1.2 (fun h0 h1 => ?_) (fun h01 => ?_)
      · show Wx g y_Mo_pocket Z K 23 [vR 174, vI n, vI m, vI p, vI h, vI w, vU, vU, vU] [vI 1] σ1
        refine x_if_ne (tgt := 28) (dat d_Mo_pocket 12 rfl) (by decide) (fun c_23 => ?_) (fun h => absurd h (by decide))
        refine x_iconst (dat d_Mo_pocket 15 rfl) (by decide) ?_
        refine x_istore (L' := [vR 174, vI n, vI m, vI p, vI h, vI w, vI (-1), vU, vU]) (dat d_Mo_pocket 16 rfl) (by decide) rfl rfl ?_
        refine x_iconst (dat d_Mo_pocket 17 rfl) (by decide) ?_
        refine x_istore (L' := [vR 174, vI n, vI m, vI p, vI h, vI w, vI (-1), vI 0, vU]) (dat d_Mo_pocket 18 rfl) (by decide) rfl rfl ?_
        exact lp_Mo_pocket (σ0 := σ) (t := tw a n) (t0 := t0) (b := bk a m) h0 h1 p0 p1 hr (fun r σ2 hp F2 => kk r σ2 (PkB.fin H.1.2 rfl hp h0 h1 p0 p1 hr) F2) (runT (tw a n)).toNat 0 σ1 (-1) _ (by omega) (Or.inl ⟨rfl, fun j hj => by omega⟩) H B e60 F
      · show Wx g y_Mo_pocket Z K 23 [vR 174, vI n, vI m, vI p, vI h, vI w, vU, vU, vU] [vI 0] σ1
        refine x_if_ne (tgt := 28) (dat d_Mo_pocket 12 rfl) (by decide) (fun h => absurd h (by decide)) (fun c_23 => ?_)
        refine x_iconst (dat d_Mo_pocket 13 rfl) (by decide) ?_
        refine x_iret (dat d_Mo_pocket 14 rfl) rfl ?_
        first
        | exact kk
        | exact kk _ σ1 (by unfold pocA; rw [if_pos (Or.inl (fun z => p01 z.1))]) F
        | exact kk _ σ1 (by unfold pocA; rw [if_pos (Or.inl (fun z => h01 z.2))]) F
    · show Wx g y_Mo_pocket Z K 14 [vR 174, vI n, vI m, vI p, vI h, vI w, vU, vU, vU] [vI 0] σ1
      refine x_if_eq (tgt := 26) (dat d_Mo_pocket 8 rfl) (by decide) (fun c_14 => ?_) (fun h => absurd h (by decide))
      refine x_iconst (dat d_Mo_pocket 13 rfl) (by decide) ?_
      refine x_iret (dat d_Mo_pocket 14 rfl) rfl ?_
      first
      | exact kk
      | exact kk _ σ1 (by unfold pocA; rw [if_pos (Or.inl (fun z => p01 z.1))]) F
      | exact kk _ σ1 (by unfold pocA; rw [if_pos (Or.inl (fun z => h01 z.2))]) F
  · show Wx g y_Mo_pocket Z K 6 [vR 174, vI n, vI m, vI p, vI h, vI w, vU, vU, vU] [vI 0] σ1
    have kk : K (some (vI (-1))) σ1 := k _ σ1 (no.elim (fun z => ⟨fun _ => rfl, fun y => absurd y z⟩) (fun z => ⟨fun y => absurd z.1 y, fun _ => by show pocA (tw a n) (bk a m) p h w (-1); unfold pocA; rw [if_pos (Or.inr z.2)]⟩)) A1 F
    refine x_if_eq (tgt := 26) (dat d_Mo_pocket 4 rfl) (by decide) (fun c_6 => ?_) (fun h => absurd h (by decide))
    refine x_iconst (dat d_Mo_pocket 13 rfl) (by decide) ?_
    refine x_iret (dat d_Mo_pocket 14 rfl) rfl ?_
    first
    | exact kk
    | exact kk _ σ1 (by unfold pocA; rw [if_pos (Or.inl (fun z => p01 z.1))]) F
    | exact kk _ σ1 (by unfold pocA; rw [if_pos (Or.inl (fun z => h01 z.2))]) F
end
