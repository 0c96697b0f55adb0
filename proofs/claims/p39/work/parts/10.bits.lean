/-! bits of small whole numbers -/
def tb (m p : Int) : Bool := m.toNat.testBit p.toNat
def Msk (n : Nat) (m : Int) (f : Int → Bool) : Prop := 0 ≤ m ∧ m < (2 ^ n : Nat) ∧ ∀ p : Int, 0 ≤ p → p < n → tb m p = f p
theorem msb_nn {x : BitVec 32} : 0 ≤ x.toInt ↔ x.msb = false := by
  rw [BitVec.toInt_eq_msb_cond]
  have := x.isLt
  cases h : x.msb <;> simp <;> omega
theorem toInt_nat {x : BitVec 32} (h : x.msb = false) : x.toInt = (x.toNat : Int) := by
  rw [BitVec.toInt_eq_msb_cond, h]
  simp
theorem tb_bv {x : Int32} {p : Int} (h : 0 ≤ x.toInt) : tb x.toInt p = x.toBitVec.getLsbD p.toNat := by
  unfold tb
  have h1 : x.toBitVec.msb = false := msb_nn.mp h
  rw [show x.toInt = x.toBitVec.toInt from rfl, toInt_nat h1, Int.toNat_natCast]
  rfl
theorem ofInt_bv {a : Int} (h : 0 ≤ a) (h2 : a < 2147483648) : (Int32.ofInt a).toBitVec.msb = false := by
  rw [← msb_nn]
  show 0 ≤ (Int32.ofInt a).toInt
  rw [i32 (by omega) h2]
  exact h
theorem tb_ofInt {a p : Int} (h : 0 ≤ a) (h2 : a < 2147483648) : tb a p = (Int32.ofInt a).toBitVec.getLsbD p.toNat := by
  rw [← tb_bv (by rw [i32 (by omega) h2]; exact h), i32 (by omega) h2]
theorem ior_nn {a b : Int} (ha : 0 ≤ a ∧ a < 2147483648) (hb : 0 ≤ b ∧ b < 2147483648) : 0 ≤ ior a b := by
  show 0 ≤ (Int32.ofInt a ||| Int32.ofInt b).toBitVec.toInt
  rw [msb_nn, Int32.toBitVec_or, BitVec.msb_or, ofInt_bv ha.1 ha.2, ofInt_bv hb.1 hb.2]
  rfl
theorem iand_nn {a b : Int} (ha : 0 ≤ a ∧ a < 2147483648) : 0 ≤ iand a b := by
  show 0 ≤ (Int32.ofInt a &&& Int32.ofInt b).toBitVec.toInt
  rw [msb_nn, Int32.toBitVec_and, BitVec.msb_and, ofInt_bv ha.1 ha.2]
  rfl
theorem ixor_nn {a b : Int} (ha : 0 ≤ a ∧ a < 2147483648) (hb : 0 ≤ b ∧ b < 2147483648) : 0 ≤ ixor a b := by
  show 0 ≤ (Int32.ofInt a ^^^ Int32.ofInt b).toBitVec.toInt
  rw [msb_nn, Int32.toBitVec_xor, BitVec.msb_xor, ofInt_bv ha.1 ha.2, ofInt_bv hb.1 hb.2]
  rfl
theorem tb_ior {a b p : Int} (ha : 0 ≤ a ∧ a < 2147483648) (hb : 0 ≤ b ∧ b < 2147483648) : tb (ior a b) p = (tb a p || tb b p) := by
  have h := ior_nn ha hb
  rw [show ior a b = (Int32.ofInt a ||| Int32.ofInt b).toInt from rfl] at h ⊢
  rw [tb_bv h, Int32.toBitVec_or, BitVec.getLsbD_or, ← tb_ofInt ha.1 ha.2, ← tb_ofInt hb.1 hb.2]
theorem tb_iand {a b p : Int} (ha : 0 ≤ a ∧ a < 2147483648) (hb : 0 ≤ b ∧ b < 2147483648) : tb (iand a b) p = (tb a p && tb b p) := by
  have h := iand_nn (b := b) ha
  rw [show iand a b = (Int32.ofInt a &&& Int32.ofInt b).toInt from rfl] at h ⊢
  rw [tb_bv h, Int32.toBitVec_and, BitVec.getLsbD_and, ← tb_ofInt ha.1 ha.2, ← tb_ofInt hb.1 hb.2]
theorem tb_ixor {a b p : Int} (ha : 0 ≤ a ∧ a < 2147483648) (hb : 0 ≤ b ∧ b < 2147483648) : tb (ixor a b) p = (tb a p ^^ tb b p) := by
  have h := ixor_nn ha hb
  rw [show ixor a b = (Int32.ofInt a ^^^ Int32.ofInt b).toInt from rfl] at h ⊢
  rw [tb_bv h, Int32.toBitVec_xor, BitVec.getLsbD_xor, ← tb_ofInt ha.1 ha.2, ← tb_ofInt hb.1 hb.2]
theorem tb_big {a p : Int} (h2 : a < 2147483648) (hp : 31 ≤ p) : tb a p = false := by
  unfold tb
  apply Nat.testBit_lt_two_pow
  have h1 : a.toNat < 2 ^ 31 := by omega
  exact Nat.lt_of_lt_of_le h1 (Nat.pow_le_pow_right (by decide) (by omega))
theorem tb_andn {a b p : Int} (ha : 0 ≤ a ∧ a < 2147483648) (hb : 0 ≤ b ∧ b < 2147483648) : tb (iand a (ixor b (-1))) p = (tb a p && !tb b p) := by
  have h := iand_nn (b := ixor b (-1)) ha
  have e : Int32.ofInt (ixor b (-1)) = Int32.ofInt b ^^^ Int32.ofInt (-1) := Int32.ofInt_toInt _
  rw [show iand a (ixor b (-1)) = (Int32.ofInt a &&& Int32.ofInt (ixor b (-1))).toInt from rfl] at h ⊢
  rw [tb_bv h, e, Int32.toBitVec_and, BitVec.getLsbD_and, Int32.toBitVec_xor, BitVec.getLsbD_xor, ← tb_ofInt ha.1 ha.2, ← tb_ofInt hb.1 hb.2]
  by_cases hp : p.toNat < 32
  · rw [show (Int32.ofInt (-1)).toBitVec = BitVec.allOnes 32 from rfl, BitVec.getLsbD_allOnes]
    simp [hp]
  · have : tb a p = false := tb_big ha.2 (by omega)
    simp [this]
theorem tb_ext {a b : Int} (ha : 0 ≤ a) (hb : 0 ≤ b) (h : ∀ p : Int, 0 ≤ p → tb a p = tb b p) : a = b := by
  have : a.toNat = b.toNat := by
    apply Nat.eq_of_testBit_eq
    intro i
    have := h i (by omega)
    unfold tb at this
    rwa [Int.toNat_natCast] at this
  omega
theorem tb_lt {a : Int} {n : Nat} (h : a < (2 ^ n : Nat)) {p : Int} (hp : (n : Int) ≤ p) : tb a p = false := by
  unfold tb
  apply Nat.testBit_lt_two_pow
  have h1 : a.toNat < 2 ^ n := by
    have : 0 < 2 ^ n := Nat.two_pow_pos n
    omega
  exact Nat.lt_of_lt_of_le h1 (Nat.pow_le_pow_right (by decide) (by omega))
theorem lt_of_tb {a : Int} {n : Nat} (h0 : 0 ≤ a) (h : ∀ p : Int, (n : Int) ≤ p → tb a p = false) : a < (2 ^ n : Nat) := by
  have : a.toNat < 2 ^ n := by
    apply Nat.lt_pow_two_of_testBit
    intro i hi
    have := h i (by omega)
    unfold tb at this
    rwa [Int.toNat_natCast] at this
  omega
theorem msk_31 {n : Nat} (hn : n ≤ 30) {m : Int} (h : m < (2 ^ n : Nat)) : m < 2147483648 := by
  have : (2 : Nat) ^ n ≤ 2 ^ 30 := Nat.pow_le_pow_right (by decide) hn
  omega
theorem Msk.all {n : Nat} {m : Int} {f : Int → Bool} (h : Msk n m f) {p : Int} (hp : 0 ≤ p) : tb m p = (f p && decide (p < n)) := by
  by_cases hn : p < n
  · rw [h.2.2 p hp hn]; simp [hn]
  · rw [tb_lt h.2.1 (by omega)]; simp [hn]
theorem Msk.mk {n : Nat} {m : Int} {f : Int → Bool} (h0 : 0 ≤ m) (h : ∀ p : Int, 0 ≤ p → tb m p = (f p && decide (p < n))) : Msk n m f :=
  ⟨h0, lt_of_tb h0 (fun p hp => by rw [h p (by omega)]; simp; omega), fun p hp hn => by rw [h p hp]; simp [hn]⟩
theorem Msk.lor {n : Nat} (hn : n ≤ 30) {a b : Int} {f g : Int → Bool} (ha : Msk n a f) (hb : Msk n b g) : Msk n (ior a b) (fun p => f p || g p) := by
  have h1 := msk_31 hn ha.2.1
  have h2 := msk_31 hn hb.2.1
  refine Msk.mk (ior_nn ⟨ha.1, h1⟩ ⟨hb.1, h2⟩) (fun p hp => ?_)
  rw [tb_ior ⟨ha.1, h1⟩ ⟨hb.1, h2⟩, ha.all hp, hb.all hp]
  cases f p <;> cases g p <;> simp
theorem Msk.land {n : Nat} (hn : n ≤ 30) {a b : Int} {f g : Int → Bool} (ha : Msk n a f) (hb : Msk n b g) : Msk n (iand a b) (fun p => f p && g p) := by
  have h1 := msk_31 hn ha.2.1
  have h2 := msk_31 hn hb.2.1
  refine Msk.mk (iand_nn ⟨ha.1, h1⟩) (fun p hp => ?_)
  rw [tb_iand ⟨ha.1, h1⟩ ⟨hb.1, h2⟩, ha.all hp, hb.all hp]
  cases f p <;> cases g p <;> simp
theorem Msk.lxor {n : Nat} (hn : n ≤ 30) {a b : Int} {f g : Int → Bool} (ha : Msk n a f) (hb : Msk n b g) : Msk n (ixor a b) (fun p => f p ^^ g p) := by
  have h1 := msk_31 hn ha.2.1
  have h2 := msk_31 hn hb.2.1
  refine Msk.mk (ixor_nn ⟨ha.1, h1⟩ ⟨hb.1, h2⟩) (fun p hp => ?_)
  rw [tb_ixor ⟨ha.1, h1⟩ ⟨hb.1, h2⟩, ha.all hp, hb.all hp]
  cases f p <;> cases g p <;> simp
theorem Msk.andn {n : Nat} (hn : n ≤ 30) {a b : Int} {f g : Int → Bool} (ha : Msk n a f) (hb : Msk n b g) : Msk n (iand a (ixor b (-1))) (fun p => f p && !g p) := by
  have h1 := msk_31 hn ha.2.1
  have h2 := msk_31 hn hb.2.1
  refine Msk.mk (iand_nn ⟨ha.1, h1⟩) (fun p hp => ?_)
  rw [tb_andn ⟨ha.1, h1⟩ ⟨hb.1, h2⟩, ha.all hp, hb.all hp]
  cases f p <;> cases g p <;> simp
theorem Msk.congr {n : Nat} {a : Int} {f g : Int → Bool} (h : Msk n a f) (e : ∀ p : Int, 0 ≤ p → p < n → f p = g p) : Msk n a g := ⟨h.1, h.2.1, fun p h0 h1 => by rw [h.2.2 p h0 h1, e p h0 h1]⟩
theorem Msk.ext {n : Nat} {a b : Int} {f g : Int → Bool} (ha : Msk n a f) (hb : Msk n b g) (h : ∀ p : Int, 0 ≤ p → p < n → f p = g p) : a = b := by
  refine tb_ext ha.1 hb.1 (fun p hp => ?_)
  rw [ha.all hp, hb.all hp]
  by_cases hn : p < n
  · rw [h p hp hn]
  · simp [hn]
theorem Msk.zero (n : Nat) : Msk n 0 (fun _ => false) := Msk.mk (by omega) (fun p hp => by unfold tb; simp)
theorem Msk.iszero {n : Nat} {a : Int} {f : Int → Bool} (h : Msk n a f) : a = 0 ↔ ∀ p : Int, 0 ≤ p → p < n → f p = false := by
  constructor
  · intro h0 p hp hn
    rw [← h.2.2 p hp hn, h0]
    unfold tb
    simp
  · intro hz
    exact h.ext (Msk.zero n) hz
/-- one shifted left -/
theorem ishl_nat : ∀ p : Nat, p < 31 → ishl 1 p = ((2 ^ p : Nat) : Int) := by decide +kernel
theorem ishl_1 {p : Int} (h0 : 0 ≤ p) (h1 : p < 31) : ishl 1 p = ((2 ^ p.toNat : Nat) : Int) := by
  have := ishl_nat p.toNat (by omega)
  rwa [Int.toNat_of_nonneg h0] at this
theorem Msk.one {n : Nat} (hn : n ≤ 30) {p : Int} (h0 : 0 ≤ p) (h1 : p < n) : Msk n (ishl 1 p) (fun q => decide (q = p)) := by
  rw [ishl_1 h0 (by omega)]
  refine Msk.mk (Int.natCast_nonneg _) (fun q hq => ?_)
  unfold tb
  rw [Int.toNat_natCast, Nat.testBit_two_pow]
  by_cases h : q = p
  · subst h; simp [h1]
  · have : ¬ p.toNat = q.toNat := by omega
    simp [h, this]
theorem ishl_m1 {p : Int} (h0 : 0 ≤ p) (h1 : p < 31) : ishl 1 p - 1 = ((2 ^ p.toNat - 1 : Nat) : Int) := by
  rw [ishl_1 h0 h1]
  have : 0 < 2 ^ p.toNat := Nat.two_pow_pos _
  omega
theorem Msk.full {n : Nat} (hn : n ≤ 30) {p : Int} (h0 : 0 ≤ p) (h1 : p ≤ n) : Msk n (ishl 1 p - 1) (fun q => decide (q < p)) := by
  rw [ishl_m1 h0 (by omega)]
  refine Msk.mk (Int.natCast_nonneg _) (fun q hq => ?_)
  unfold tb
  rw [Int.toNat_natCast, Nat.testBit_two_pow_sub_one]
  by_cases h : q < p
  · have h2 : q.toNat < p.toNat := by omega
    have h3 : q < n := by omega
    simp [h, h2, h3]
  · have : ¬ q.toNat < p.toNat := by omega
    simp [h, this]
theorem ishl_bd {p : Int} {n : Nat} (h0 : 0 ≤ p) (h1 : p ≤ n) (hn : n ≤ 30) : 1 ≤ ishl 1 p ∧ ishl 1 p ≤ (2 ^ n : Nat) := by
  rw [ishl_1 h0 (by omega)]
  have : 0 < 2 ^ p.toNat := Nat.two_pow_pos _
  have h2 : 2 ^ p.toNat ≤ 2 ^ n := Nat.pow_le_pow_right (by decide) (by omega)
  omega
/-- a bit, as Java asks for it -/
theorem ishr_nat {m : Nat} (hm : m < 2 ^ 31) : ∀ p : Nat, p < 31 → ishr m p = ((m >>> p : Nat) : Int) := by
  intro p hp
  unfold ishr
  have hs : ∀ k : Nat, k < 31 → ((Int32.ofInt (k : Int) &&& 31).toBitVec.smod 32).toNat = k := by decide +kernel
  have h1 := pk_shr (Int32.ofInt (m : Int)) (Int32.ofInt (p : Int) &&& 31) p (hs p hp)
  rw [h1, i32 (by omega) (by omega)]
  rfl
theorem tb_1 {q : Int} (hq : 0 ≤ q) : tb 1 q = decide (q = 0) := by
  by_cases h : q = 0
  · subst h; rfl
  · rw [show decide (q = 0) = false by simp [h]]
    exact Nat.testBit_lt_two_pow (Nat.one_lt_two_pow (by omega))
theorem tb_get {m p : Int} (h0 : 0 ≤ m) (h1 : m < 2147483648) (hp0 : 0 ≤ p) (hp1 : p < 31) : iand (ishr m p) 1 = if tb m p then 1 else 0 := by
  have e1 := ishr_nat (m := m.toNat) (by omega) p.toNat (by omega)
  rw [Int.toNat_of_nonneg h0, Int.toNat_of_nonneg hp0] at e1
  have hle : m.toNat >>> p.toNat ≤ m.toNat := by rw [Nat.shiftRight_eq_div_pow]; exact Nat.div_le_self _ _
  have hr : (0 : Int) ≤ ishr m p ∧ ishr m p < 2147483648 := by
    rw [e1]
    generalize m.toNat >>> p.toNat = z at hle
    omega
  have t1 : ∀ q : Int, 0 ≤ q → tb (iand (ishr m p) 1) q = (tb m (p + q) && decide (q = 0)) := by
    intro q hq
    rw [tb_iand hr (by omega)]
    have e2 : tb (ishr m p) q = tb m (p + q) := by
      rw [e1]
      unfold tb
      rw [Int.toNat_natCast, Nat.testBit_shiftRight, show (p + q).toNat = p.toNat + q.toNat by omega]
    have e3 := tb_1 hq
    rw [e2, e3]
  have hnn := iand_nn (b := 1) hr
  by_cases hb : tb m p = true
  · rw [if_pos hb]
    refine tb_ext hnn (by omega) (fun q hq => ?_)
    rw [t1 q hq]
    by_cases h : q = 0
    · subst h; rw [Int.add_zero, hb]; rfl
    · have e3 := tb_1 hq
      rw [e3]; simp [h]
  · rw [if_neg hb]
    refine tb_ext hnn (by omega) (fun q hq => ?_)
    rw [t1 q hq]
    have e0 : tb 0 q = false := by unfold tb; simp
    rw [e0]
    by_cases h : q = 0
    · subst h; rw [Int.add_zero]; simp at hb; rw [hb]; rfl
    · simp [h]
theorem Msk.get {n : Nat} (hn : n ≤ 30) {m : Int} {f : Int → Bool} (h : Msk n m f) {p : Int} (hp : 0 ≤ p) (hpn : p < n) : iand (ishr m p) 1 = if f p then 1 else 0 := by
  rw [tb_get h.1 (msk_31 hn h.2.1) hp (by omega), h.2.2 p hp hpn]
/-- how many -/
def cntN (f : Int → Bool) : Nat → Int
  | 0 => 0
  | n + 1 => cntN f n + (if f n then 1 else 0)
theorem cntN_bd (f : Int → Bool) : ∀ n : Nat, 0 ≤ cntN f n ∧ cntN f n ≤ n
  | 0 => by simp [cntN]
  | n + 1 => by
    have := cntN_bd f n
    simp only [cntN]
    split <;> omega
theorem cntN_congr {f g : Int → Bool} : ∀ n : Nat, (∀ p : Int, 0 ≤ p → p < n → f p = g p) → cntN f n = cntN g n
  | 0, _ => rfl
  | n + 1, h => by
    simp only [cntN]
    rw [cntN_congr n (fun p h0 h1 => h p h0 (by omega)), h n (by omega) (by omega)]
