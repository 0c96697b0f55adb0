/-! what the reader makes of a text that is put so: tokens out of lists of bytes -/
def Tx (T : Int → Int) (n q : Int) (l : List Int) : Prop := q + l.length = n ∧ ∀ i : Nat, i < l.length → T (q + i) = l.getD i 0
def Hd (f : Int → Bool) (l : List Int) : Prop := ∀ (c : Int) (r : List Int), l = c :: r → f c = false
section TX
variable {T : Int → Int} {n q : Int}
theorem Tx.tl {c : Int} {l : List Int} (h : Tx T n q (c :: l)) : q < n ∧ T q = c ∧ Tx T n (q + 1) l := by
  obtain ⟨h1, h2⟩ := h
  simp only [List.length_cons] at h1 h2
  refine ⟨by omega, ?_, by omega, fun i hi => ?_⟩
  · have := h2 0 (by omega)
    simpa using this
  · have := h2 (i + 1) (by omega)
    rw [show q + ((i + 1 : Nat) : Int) = q + 1 + i by omega] at this
    rw [this]
    rfl
theorem Tx.nil (h : Tx T n q []) : q = n := by
  have := h.1
  simpa using this
theorem Tx.app {l2 : List Int} : ∀ {l1 : List Int} {q : Int}, Tx T n q (l1 ++ l2) → Tx T n (q + l1.length) l2
  | [], q, h => by simpa using h
  | c :: l1, q, h => by
    have := Tx.app (l1 := l1) (h.tl).2.2
    rw [show q + ((c :: l1).length : Int) = q + 1 + l1.length by simp only [List.length_cons]; omega]
    exact this
theorem rnL {f : Int → Bool} {rest : List Int} (hr : Hd f rest) : ∀ {ws : List Int} {q : Int}, (∀ c ∈ ws, f c = true) → Tx T n q (ws ++ rest) → rn f T n q = q + ws.length
  | [], q, _, h => by
    have e : rn f T n q = q := by
      cases rest with
      | nil =>
        have := Tx.nil h
        exact rn_st (by omega)
      | cons c r =>
        have h1 := Tx.tl h
        refine rn_st (fun z => ?_)
        rw [h1.2.1, hr c r rfl] at z
        exact Bool.noConfusion z.2
    rw [e]; simp
  | c :: ws, q, hw, h => by
    have h1 := Tx.tl h
    rw [rn_go h1.1 (by rw [h1.2.1]; exact hw c List.mem_cons_self), rnL hr (fun x hx => hw x (List.mem_cons_of_mem _ hx)) h1.2.2]
    simp only [List.length_cons]
    omega
def wrdL (ws : List Int) : Int := if 8 < (ws.length : Int) then 99 else wdK (wdD (fun j => ws.getD j 0 - 96) ws.length)
theorem tkW {ws rest : List Int} (hw : ∀ c ∈ ws, cLt c = true) (h0 : 0 < ws.length) (hr : Hd cLt rest) (h : Tx T n q (ws ++ rest)) : tkN T n q = q + ws.length ∧ wrd T n q = wrdL ws ∧ tkK T n q = (if wrdL ws = 99 then 4 else 3) := by
  have er := rnL hr hw h
  have hq : ¬ n ≤ q := by
    have := h.1
    rw [List.length_append] at this
    omega
  have hT : ∀ j : Nat, j < ws.length → T (q + j) = ws.getD j 0 := fun j hj => by
    rw [h.2 j (by rw [List.length_append]; omega), List.getD_eq_getElem?_getD, List.getElem?_append_left hj, ← List.getD_eq_getElem?_getD]
  have hc : cLt (T q) = true := by
    have h1 := hT 0 h0
    rw [show q + ((0 : Nat) : Int) = q by omega] at h1
    rw [h1]
    refine hw _ ?_
    cases ws with
    | nil => exact absurd h0 (Nat.lt_irrefl 0)
    | cons c l => exact List.mem_cons_self
  have h59 : ¬ T q = 59 := by
    have := cLt_iff.mp hc
    omega
  have ew : wrd T n q = wrdL ws := by
    unfold wrd wrdL
    rw [er, show q + (ws.length : Int) - q = ws.length by omega, Int.toNat_natCast]
    rw [wdD_congr (d := tdD T q) (e := fun j => ws.getD j 0 - 96) ws.length (fun j hj => by unfold tdD; rw [hT j hj])]
  refine ⟨?_, ew, ?_⟩
  · unfold tkN
    rw [if_neg hq, if_neg h59, if_pos hc, er]
  · unfold tkK
    rw [if_neg hq, if_neg h59, if_pos hc, ew]
theorem dgB_dg {v : Int} (hv : 0 ≤ v ∧ v < 100) : ∀ c ∈ dgB v, cDg c = true := by
  intro c hc
  rw [cDg_iff]
  unfold dgB at hc
  split at hc
  · rw [List.mem_singleton.mp hc]; omega
  · rcases List.mem_cons.mp hc with rfl | hc
    · omega
    · rw [List.mem_singleton.mp hc]; omega
theorem dgB_pos (v : Int) : 0 < (dgB v).length := by unfold dgB; split <;> simp
theorem tkNm {v : Int} {rest : List Int} (hv : 0 ≤ v ∧ v < 100) (hr : Hd cDg rest) (h : Tx T n q (dgB v ++ rest)) : tkK T n q = 1 ∧ tkN T n q = q + (dgB v).length ∧ tkV T n q = v := by
  have er := rnL hr (dgB_dg hv) h
  have hq : ¬ n ≤ q := by
    have := h.1
    have := dgB_pos v
    rw [List.length_append] at *
    omega
  have hc : cDg (T q) = true := by
    have h1 := h.2 0 (by rw [List.length_append]; have := dgB_pos v; omega)
    rw [show q + ((0 : Nat) : Int) = q by omega] at h1
    rw [h1]
    refine dgB_dg hv _ ?_
    rw [List.getD_eq_getElem?_getD, List.getElem?_append_left (dgB_pos v), List.getElem?_eq_getElem (dgB_pos v)]
    exact List.getElem_mem _
  have hd := cDg_iff.mp hc
  have h59 : ¬ T q = 59 := by omega
  have hl : ¬ cLt (T q) = true := fun z => by
    have := cLt_iff.mp z
    omega
  have len := dgB_len v
  refine ⟨?_, ?_, ?_⟩
  · unfold tkK
    rw [if_neg hq, if_neg h59, if_neg hl, if_pos ⟨hc, by rw [er]; omega⟩]
  · unfold tkN
    rw [if_neg hq, if_neg h59, if_neg hl, if_pos hc, er]
  · unfold tkV
    rw [er]
    by_cases z : v < 10
    · have e : dgB v = [48 + v] := if_pos z
      rw [e] at h ⊢
      rw [if_pos (by simp only [List.length_cons, List.length_nil]; omega), (Tx.tl h).2.1]
      omega
    · have e : dgB v = [48 + v / 10, 48 + v % 10] := if_neg z
      rw [e] at h ⊢
      rw [if_neg (by simp only [List.length_cons, List.length_nil]; omega), (Tx.tl h).2.1, (Tx.tl (Tx.tl h).2.2).2.1]
      omega
theorem tkS {rest : List Int} (h : Tx T n q (59 :: rest)) : tkK T n q = 2 ∧ tkN T n q = q + 1 := by
  have h1 := Tx.tl h
  unfold tkK tkN
  rw [if_neg (by omega), if_pos h1.2.1, if_neg (by omega), if_pos h1.2.1]
  exact ⟨rfl, rfl⟩
theorem bl_go {rest : List Int} (hr : Hd cBl rest) {bl : List Int} (hb : ∀ c ∈ bl, cBl c = true) (h : Tx T n q (bl ++ rest)) : Tx T n (rn cBl T n q) rest := by
  rw [rnL hr hb h]
  exact Tx.app h
theorem hd_of {f : Int → Bool} {c : Int} {l : List Int} (h : f c = false) : Hd f (c :: l) := fun c' r e => by cases e; exact h
theorem hd_nil {f : Int → Bool} : Hd f [] := fun c r e => by cases e
theorem bl_1 : ∀ c ∈ [(32 : Int)], cBl c = true := by decide
theorem bl_2 : ∀ c ∈ [(32 : Int), 32], cBl c = true := by decide
theorem bl_0 : ∀ c ∈ ([] : List Int), cBl c = true := by decide
theorem nxW {ws rest : List Int} (hw : ∀ c ∈ ws, cLt c = true) (h0 : 0 < ws.length) (hr : Hd cBl rest) (h : Tx T n q (ws ++ 32 :: rest)) : wrd T n q = wrdL ws ∧ tkK T n q = (if wrdL ws = 99 then 4 else 3) ∧ Tx T n (nxt T n q) rest := by
  obtain ⟨e1, e2, e3⟩ := tkW hw h0 (hd_of (by decide)) h
  refine ⟨e2, e3, ?_⟩
  unfold nxt
  rw [e1]
  exact bl_go hr bl_1 (Tx.app h)
theorem nxW0 {ws rest : List Int} (hw : ∀ c ∈ ws, cLt c = true) (h0 : 0 < ws.length) (h : Tx T n q (ws ++ 59 :: rest)) : wrd T n q = wrdL ws ∧ tkK T n q = (if wrdL ws = 99 then 4 else 3) ∧ Tx T n (nxt T n q) (59 :: rest) := by
  obtain ⟨e1, e2, e3⟩ := tkW hw h0 (hd_of (by decide)) h
  refine ⟨e2, e3, ?_⟩
  unfold nxt
  rw [e1]
  exact bl_go (hd_of (by decide)) bl_0 (Tx.app h)
theorem nxN {v : Int} {bl rest : List Int} (hv : 0 ≤ v ∧ v < 100) (hr : Hd cBl rest) (hb : ∀ c ∈ 32 :: bl, cBl c = true) (h : Tx T n q (dgB v ++ (32 :: bl ++ rest))) : tkK T n q = 1 ∧ tkV T n q = v ∧ Tx T n (nxt T n q) rest := by
  obtain ⟨e1, e2, e3⟩ := tkNm hv (hd_of (by decide)) h
  refine ⟨e1, e3, ?_⟩
  unfold nxt
  rw [e2]
  exact bl_go hr hb (Tx.app h)
theorem nxS {rest : List Int} (hr : Hd cBl rest) (h : Tx T n q (59 :: rest)) : tkK T n q = 2 ∧ Tx T n (nxt T n q) rest := by
  obtain ⟨e1, e2⟩ := tkS h
  refine ⟨e1, ?_⟩
  unfold nxt
  rw [e2]
  exact bl_go hr bl_0 (Tx.tl h).2.2
/-- numbers, from the first one's digits on -/
def nmB : List Int → List Int → List Int
  | [], tl => tl
  | [v], tl => dgB v ++ 32 :: tl
  | v :: u :: vs, tl => dgB v ++ 32 :: 32 :: nmB (u :: vs) tl
theorem nmB_hd {v : Int} {vs tl : List Int} (hv : 0 ≤ v ∧ v < 100) : Hd cBl (nmB (v :: vs) tl) := by
  have key : ∀ r : List Int, Hd cBl (dgB v ++ r) := fun r c l e => by
    have hc := dgB_dg hv
    have hp := dgB_pos v
    generalize dgB v = d at e hc hp
    cases d with
    | nil => exact absurd hp (Nat.lt_irrefl 0)
    | cons x d =>
      simp only [List.cons_append, List.cons.injEq] at e
      have h1 := cDg_iff.mp (hc x List.mem_cons_self)
      rw [e.1] at h1
      cases hb : cBl c with
      | false => rfl
      | true =>
        have := cBl_iff.mp hb
        omega
  cases vs with
  | nil => exact key _
  | cons u vs => exact key _
theorem nrL {rest : List Int} : ∀ (vs : List Int) (M : Nat) (q : Int), vs.length ≤ M → (∀ v ∈ vs, 0 ≤ v ∧ v < 100) → Tx T n q (nmB vs (59 :: rest)) → nrun T n M q = vs.length ∧ (∀ i : Nat, i < vs.length → tkV T n (qit T n q i) = vs.getD i 0) ∧ Tx T n (qit T n q vs.length) (59 :: rest)
  | [], M, q, _, _, h => by
    refine ⟨?_, fun i hi => absurd hi (Nat.not_lt_zero i), h⟩
    cases M with
    | zero => rfl
    | succ M =>
      simp only [nrun]
      rw [if_neg (by rw [(tkS h).1]; decide)]
      rfl
  | [v], 0, q, hM, _, _ => absurd hM (by simp)
  | [v], M + 1, q, _, hv, h => by
    obtain ⟨e1, e2, e3⟩ := nxN (bl := []) (hv v List.mem_cons_self) (hd_of (by decide)) bl_1 h
    obtain ⟨f1, f2, f3⟩ := nrL [] M (nxt T n q) (Nat.zero_le _) (fun v hv => absurd hv List.not_mem_nil) e3
    refine ⟨?_, fun i hi => ?_, ?_⟩
    · simp only [nrun]
      rw [if_pos e1, f1]
      rfl
    · have : i = 0 := by simp only [List.length_cons, List.length_nil] at hi; omega
      subst this
      exact e2
    · exact e3
  | v :: u :: vs, 0, q, hM, _, _ => absurd hM (by simp)
  | v :: u :: vs, M + 1, q, hM, hv, h => by
    obtain ⟨e1, e2, e3⟩ := nxN (bl := [32]) (hv v List.mem_cons_self) (nmB_hd (hv u (List.mem_cons_of_mem _ List.mem_cons_self))) bl_2 h
    obtain ⟨f1, f2, f3⟩ := nrL (u :: vs) M (nxt T n q) (by simp only [List.length_cons] at hM ⊢; omega) (fun w hw => hv w (List.mem_cons_of_mem _ hw)) e3
    refine ⟨?_, fun i hi => ?_, ?_⟩
    · simp only [nrun]
      rw [if_pos e1, f1]
      rfl
    · cases i with
      | zero => exact e2
      | succ i =>
        rw [qit_S, f2 i (by simp only [List.length_cons] at hi ⊢; omega)]
        rfl
    · show Tx T n (qit T n q ((u :: vs).length + 1)) _
      rw [qit_S]
      exact f3
end TX
/-! lines -/
theorem rowL_cg {l mn : Int} {v v' : Nat → Int} {m : Nat} {r : Int → Int} (hm : fewT l ≤ (m : Int)) (hl : 0 ≤ l ∧ l ≤ 6) (h : ∀ j : Nat, j < m → v j = v' j) : rowL l mn v m r = rowL l mn v' m r := by
  have few : ∀ i : Nat, i < 7 → fewT (i : Int) = [2, 1, 2, 2, 2, 2, 2].getD i 0 := by decide +kernel
  have hf := few l.toNat (by omega)
  rw [show ((l.toNat : Nat) : Int) = l by omega] at hf
  unfold rowL
  rcases (show l = 0 ∨ l = 1 ∨ l = 2 ∨ l = 3 ∨ l = 4 ∨ l = 5 ∨ l = 6 by omega) with z | z | z | z | z | z | z
  · subst z
    have : 2 ≤ m := by rw [hf] at hm; exact Int.ofNat_le.mp hm
    rw [h 0 (by omega), h 1 (by omega)]
    rfl
  · subst z
    have : 1 ≤ m := by rw [hf] at hm; exact Int.ofNat_le.mp hm
    rw [h 0 (by omega)]
    rfl
  · subst z
    have : 2 ≤ m := by rw [hf] at hm; exact Int.ofNat_le.mp hm
    rw [h 0 (by omega), h 1 (by omega)]
    rfl
  · subst z
    have : 2 ≤ m := by rw [hf] at hm; exact Int.ofNat_le.mp hm
    rw [h 0 (by omega), h 1 (by omega)]
    rfl
  · subst z
    have h2 : 2 ≤ m := by rw [hf] at hm; exact Int.ofNat_le.mp hm
    rw [if_neg (by decide), if_neg (by decide), if_neg (by decide), if_neg (by decide), if_pos rfl]
    rw [if_neg (by decide), if_neg (by decide), if_neg (by decide), if_neg (by decide), if_pos rfl]
    funext x
    rw [h 0 (by omega)]
    by_cases y : x = 24 + 17 * v' 0
    · rw [if_pos y, if_pos y]
    · rw [if_neg y, if_neg y]
      by_cases y2 : 25 + 17 * v' 0 ≤ x ∧ x < 25 + 17 * v' 0 + ((m : Int) - 1)
      · rw [if_pos y2, if_pos y2, h _ (by omega)]
      · rw [if_neg y2, if_neg y2]
  · subst z
    have : 2 ≤ m := by rw [hf] at hm; exact Int.ofNat_le.mp hm
    rw [h 0 (by omega), h 1 (by omega)]
    rfl
  · subst z
    have : 2 ≤ m := by rw [hf] at hm; exact Int.ofNat_le.mp hm
    rw [h 0 (by omega), h 1 (by omega)]
    rfl
