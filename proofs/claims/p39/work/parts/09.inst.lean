theorem oi_mk {k ci j : Nat} {ji : Int} (h : (Nat.beq (kd k) ci && Nat.beq (rf k j) 0 && Nat.blt k NB && decide ((j : Int) = ji)) = true) : OI k ci j ji := by
  simp only [Bool.and_eq_true, decide_eq_true_eq, Nat.blt_eq] at h
  exact ⟨Nat.eq_of_beq_eq_true h.1.1.1, Nat.eq_of_beq_eq_true h.1.1.2, h.1.2, h.2⟩
theorem or_mk {k ci j r : Nat} (h : (Nat.beq (kd k) ci && Nat.beq (rf k j) (r + 2) && Nat.blt k NB) = true) : OR k ci j r := by
  simp only [Bool.and_eq_true, Nat.blt_eq] at h
  exact ⟨Nat.eq_of_beq_eq_true h.1.1, Nat.eq_of_beq_eq_true h.1.2, h.2⟩
theorem ai_mk {k t n : Nat} (h : (Nat.beq (kd k) t && Nat.beq (ln k) n && Nat.blt k NB && Nat.ble n 100000) = true) : AI k t n := by
  simp only [Bool.and_eq_true, Nat.blt_eq, Nat.ble_eq] at h
  exact ⟨Nat.eq_of_beq_eq_true h.1.1.1, Nat.eq_of_beq_eq_true h.1.1.2, h.1.2, h.2⟩
theorem rv_str {b : Nat} (h : 310 ≤ b ∧ b < 326) : RV b "java/lang/String" := Or.inr ⟨h.1, h.2, rfl⟩
theorem rv_bk {b : Nat} (h : (Nat.beq (kd b) 0 && Nat.blt b NB) = true) : RV b "ShakenBread$Book" := by
  simp only [Bool.and_eq_true, Nat.blt_eq] at h
  have e := Nat.eq_of_beq_eq_true h.1
  exact Or.inl ⟨h.2, TX0, 4, by rw [e]; rfl, by rw [e]; decide⟩
theorem rv_ha {b : Nat} (h : (Nat.beq (kd b) 1 && Nat.blt b NB) = true) : RV b "ShakenBread$Hands" := by
  simp only [Bool.and_eq_true, Nat.blt_eq] at h
  have e := Nat.eq_of_beq_eq_true h.1
  exact Or.inl ⟨h.2, TX1, 5, by rw [e]; rfl, by rw [e]; decide⟩
theorem rv_pl {b : Nat} (h : (Nat.beq (kd b) 2 && Nat.blt b NB) = true) : RV b "ShakenBread$Plan" := by
  simp only [Bool.and_eq_true, Nat.blt_eq] at h
  have e := Nat.eq_of_beq_eq_true h.1
  exact Or.inl ⟨h.2, TX2, 13, by rw [e]; rfl, by rw [e]; decide⟩
theorem rv_re {b : Nat} (h : (Nat.beq (kd b) 3 && Nat.blt b NB) = true) : RV b "ShakenBread$Reader" := by
  simp only [Bool.and_eq_true, Nat.blt_eq] at h
  have e := Nat.eq_of_beq_eq_true h.1
  exact Or.inl ⟨h.2, TX3, 17, by rw [e]; rfl, by rw [e]; decide⟩
theorem rv_ru {b : Nat} (h : (Nat.beq (kd b) 4 && Nat.blt b NB) = true) : RV b "ShakenBread$Run" := by
  simp only [Bool.and_eq_true, Nat.blt_eq] at h
  have e := Nat.eq_of_beq_eq_true h.1
  exact Or.inl ⟨h.2, TX4, 13, by rw [e]; rfl, by rw [e]; decide⟩
theorem rv_to {b : Nat} (h : (Nat.beq (kd b) 5 && Nat.blt b NB) = true) : RV b "ShakenBread$Told" := by
  simp only [Bool.and_eq_true, Nat.blt_eq] at h
  have e := Nat.eq_of_beq_eq_true h.1
  exact Or.inl ⟨h.2, TX5, 8, by rw [e]; rfl, by rw [e]; decide⟩
theorem rv_tw {b : Nat} (h : (Nat.beq (kd b) 6 && Nat.blt b NB) = true) : RV b "ShakenBread$Town" := by
  simp only [Bool.and_eq_true, Nat.blt_eq] at h
  have e := Nat.eq_of_beq_eq_true h.1
  exact Or.inl ⟨h.2, TX6, 16, by rw [e]; rfl, by rw [e]; decide⟩
theorem rv_tr {b : Nat} (h : (Nat.beq (kd b) 7 && Nat.blt b NB) = true) : RV b "ShakenBread$Trials" := by
  simp only [Bool.and_eq_true, Nat.blt_eq] at h
  have e := Nat.eq_of_beq_eq_true h.1
  exact Or.inl ⟨h.2, TX7, 4, by rw [e]; rfl, by rw [e]; decide⟩
theorem rv_wo {b : Nat} (h : (Nat.beq (kd b) 8 && Nat.blt b NB) = true) : RV b "ShakenBread$Worlds" := by
  simp only [Bool.and_eq_true, Nat.blt_eq] at h
  have e := Nat.eq_of_beq_eq_true h.1
  exact Or.inl ⟨h.2, TX8, 8, by rw [e]; rfl, by rw [e]; decide⟩
theorem rv_sb {b : Nat} (h : (Nat.beq (kd b) 9 && Nat.blt b NB) = true) : RV b "ShakenBread" := by
  simp only [Bool.and_eq_true, Nat.blt_eq] at h
  have e := Nat.eq_of_beq_eq_true h.1
  exact Or.inl ⟨h.2, TX9, 11, by rw [e]; rfl, by rw [e]; decide⟩
def L_To : List Nat := [1, 31, 61, 91]
def IsTo (t : Nat) : Prop := t ∈ L_To
theorem to_k {t : Nat} (h : IsTo t) : (Nat.beq (kd t) 5 && Nat.blt t NB) = true := (by decide +kernel : ∀ t ∈ L_To, (Nat.beq (kd t) 5 && Nat.blt t NB) = true) t h
theorem to_cs {t : Nat} (h : IsTo t) : t = 1 ∨ t = 31 ∨ t = 61 ∨ t = 91 := by simpa [IsTo, L_To] using h
theorem to_or_0 {t : Nat} (h : IsTo t) : OR t 5 0 (t + 1) := or_mk ((by decide +kernel : ∀ t ∈ L_To, (Nat.beq (kd t) 5 && Nat.beq (rf t 0) (t + 1 + 2) && Nat.blt t NB) = true) t h)
theorem to_ai_1 {t : Nat} (h : IsTo t) : AI (t + 1) 21 600 := ai_mk ((by decide +kernel : ∀ t ∈ L_To, (Nat.beq (kd (t + 1)) 21 && Nat.beq (ln (t + 1)) 600 && Nat.blt (t + 1) NB && Nat.ble 600 100000) = true) t h)
theorem to_or_1 {t : Nat} (h : IsTo t) : OR t 5 1 (t + 2) := or_mk ((by decide +kernel : ∀ t ∈ L_To, (Nat.beq (kd t) 5 && Nat.beq (rf t 1) (t + 2 + 2) && Nat.blt t NB) = true) t h)
theorem to_or_2 {t : Nat} (h : IsTo t) : OR t 5 2 (t + 21) := or_mk ((by decide +kernel : ∀ t ∈ L_To, (Nat.beq (kd t) 5 && Nat.beq (rf t 2) (t + 21 + 2) && Nat.blt t NB) = true) t h)
theorem to_oi_3 {t : Nat} (h : IsTo t) : OI t 5 3 3 := oi_mk ((by decide +kernel : ∀ t ∈ L_To, (Nat.beq (kd t) 5 && Nat.beq (rf t 3) 0 && Nat.blt t NB && decide (((3 : Nat) : Int) = 3)) = true) t h)
theorem to_oi_4 {t : Nat} (h : IsTo t) : OI t 5 4 4 := oi_mk ((by decide +kernel : ∀ t ∈ L_To, (Nat.beq (kd t) 5 && Nat.beq (rf t 4) 0 && Nat.blt t NB && decide (((4 : Nat) : Int) = 4)) = true) t h)
theorem to_oi_5 {t : Nat} (h : IsTo t) : OI t 5 5 5 := oi_mk ((by decide +kernel : ∀ t ∈ L_To, (Nat.beq (kd t) 5 && Nat.beq (rf t 5) 0 && Nat.blt t NB && decide (((5 : Nat) : Int) = 5)) = true) t h)
theorem to_oi_6 {t : Nat} (h : IsTo t) : OI t 5 6 6 := oi_mk ((by decide +kernel : ∀ t ∈ L_To, (Nat.beq (kd t) 5 && Nat.beq (rf t 6) 0 && Nat.blt t NB && decide (((6 : Nat) : Int) = 6)) = true) t h)
theorem to_oi_7 {t : Nat} (h : IsTo t) : OI t 5 7 7 := oi_mk ((by decide +kernel : ∀ t ∈ L_To, (Nat.beq (kd t) 5 && Nat.beq (rf t 7) 0 && Nat.blt t NB && decide (((7 : Nat) : Int) = 7)) = true) t h)
def L_Tw : List Nat := [4, 13, 34, 43, 64, 73, 94, 103, 124]
def IsTw (t : Nat) : Prop := t ∈ L_Tw
theorem tw_k {t : Nat} (h : IsTw t) : (Nat.beq (kd t) 6 && Nat.blt t NB) = true := (by decide +kernel : ∀ t ∈ L_Tw, (Nat.beq (kd t) 6 && Nat.blt t NB) = true) t h
theorem tw_cs {t : Nat} (h : IsTw t) : t = 4 ∨ t = 13 ∨ t = 34 ∨ t = 43 ∨ t = 64 ∨ t = 73 ∨ t = 94 ∨ t = 103 ∨ t = 124 := by simpa [IsTw, L_Tw] using h
theorem tw_oi_0 {t : Nat} (h : IsTw t) : OI t 6 0 0 := oi_mk ((by decide +kernel : ∀ t ∈ L_Tw, (Nat.beq (kd t) 6 && Nat.beq (rf t 0) 0 && Nat.blt t NB && decide (((0 : Nat) : Int) = 0)) = true) t h)
theorem tw_oi_1 {t : Nat} (h : IsTw t) : OI t 6 1 1 := oi_mk ((by decide +kernel : ∀ t ∈ L_Tw, (Nat.beq (kd t) 6 && Nat.beq (rf t 1) 0 && Nat.blt t NB && decide (((1 : Nat) : Int) = 1)) = true) t h)
theorem tw_oi_2 {t : Nat} (h : IsTw t) : OI t 6 2 2 := oi_mk ((by decide +kernel : ∀ t ∈ L_Tw, (Nat.beq (kd t) 6 && Nat.beq (rf t 2) 0 && Nat.blt t NB && decide (((2 : Nat) : Int) = 2)) = true) t h)
theorem tw_oi_3 {t : Nat} (h : IsTw t) : OI t 6 3 3 := oi_mk ((by decide +kernel : ∀ t ∈ L_Tw, (Nat.beq (kd t) 6 && Nat.beq (rf t 3) 0 && Nat.blt t NB && decide (((3 : Nat) : Int) = 3)) = true) t h)
theorem tw_oi_4 {t : Nat} (h : IsTw t) : OI t 6 4 4 := oi_mk ((by decide +kernel : ∀ t ∈ L_Tw, (Nat.beq (kd t) 6 && Nat.beq (rf t 4) 0 && Nat.blt t NB && decide (((4 : Nat) : Int) = 4)) = true) t h)
theorem tw_oi_5 {t : Nat} (h : IsTw t) : OI t 6 5 5 := oi_mk ((by decide +kernel : ∀ t ∈ L_Tw, (Nat.beq (kd t) 6 && Nat.beq (rf t 5) 0 && Nat.blt t NB && decide (((5 : Nat) : Int) = 5)) = true) t h)
theorem tw_oi_6 {t : Nat} (h : IsTw t) : OI t 6 6 6 := oi_mk ((by decide +kernel : ∀ t ∈ L_Tw, (Nat.beq (kd t) 6 && Nat.beq (rf t 6) 0 && Nat.blt t NB && decide (((6 : Nat) : Int) = 6)) = true) t h)
theorem tw_oi_7 {t : Nat} (h : IsTw t) : OI t 6 7 7 := oi_mk ((by decide +kernel : ∀ t ∈ L_Tw, (Nat.beq (kd t) 6 && Nat.beq (rf t 7) 0 && Nat.blt t NB && decide (((7 : Nat) : Int) = 7)) = true) t h)
theorem tw_or_8 {t : Nat} (h : IsTw t) : OR t 6 8 (t + 1) := or_mk ((by decide +kernel : ∀ t ∈ L_Tw, (Nat.beq (kd t) 6 && Nat.beq (rf t 8) (t + 1 + 2) && Nat.blt t NB) = true) t h)
theorem tw_ai_1 {t : Nat} (h : IsTw t) : AI (t + 1) 20 8 := ai_mk ((by decide +kernel : ∀ t ∈ L_Tw, (Nat.beq (kd (t + 1)) 20 && Nat.beq (ln (t + 1)) 8 && Nat.blt (t + 1) NB && Nat.ble 8 100000) = true) t h)
theorem tw_or_9 {t : Nat} (h : IsTw t) : OR t 6 9 (t + 2) := or_mk ((by decide +kernel : ∀ t ∈ L_Tw, (Nat.beq (kd t) 6 && Nat.beq (rf t 9) (t + 2 + 2) && Nat.blt t NB) = true) t h)
theorem tw_ai_2 {t : Nat} (h : IsTw t) : AI (t + 2) 20 8 := ai_mk ((by decide +kernel : ∀ t ∈ L_Tw, (Nat.beq (kd (t + 2)) 20 && Nat.beq (ln (t + 2)) 8 && Nat.blt (t + 2) NB && Nat.ble 8 100000) = true) t h)
theorem tw_or_10 {t : Nat} (h : IsTw t) : OR t 6 10 (t + 3) := or_mk ((by decide +kernel : ∀ t ∈ L_Tw, (Nat.beq (kd t) 6 && Nat.beq (rf t 10) (t + 3 + 2) && Nat.blt t NB) = true) t h)
theorem tw_ai_3 {t : Nat} (h : IsTw t) : AI (t + 3) 20 8 := ai_mk ((by decide +kernel : ∀ t ∈ L_Tw, (Nat.beq (kd (t + 3)) 20 && Nat.beq (ln (t + 3)) 8 && Nat.blt (t + 3) NB && Nat.ble 8 100000) = true) t h)
theorem tw_or_11 {t : Nat} (h : IsTw t) : OR t 6 11 (t + 4) := or_mk ((by decide +kernel : ∀ t ∈ L_Tw, (Nat.beq (kd t) 6 && Nat.beq (rf t 11) (t + 4 + 2) && Nat.blt t NB) = true) t h)
theorem tw_ai_4 {t : Nat} (h : IsTw t) : AI (t + 4) 20 8 := ai_mk ((by decide +kernel : ∀ t ∈ L_Tw, (Nat.beq (kd (t + 4)) 20 && Nat.beq (ln (t + 4)) 8 && Nat.blt (t + 4) NB && Nat.ble 8 100000) = true) t h)
theorem tw_or_12 {t : Nat} (h : IsTw t) : OR t 6 12 (t + 5) := or_mk ((by decide +kernel : ∀ t ∈ L_Tw, (Nat.beq (kd t) 6 && Nat.beq (rf t 12) (t + 5 + 2) && Nat.blt t NB) = true) t h)
theorem tw_ai_5 {t : Nat} (h : IsTw t) : AI (t + 5) 20 8 := ai_mk ((by decide +kernel : ∀ t ∈ L_Tw, (Nat.beq (kd (t + 5)) 20 && Nat.beq (ln (t + 5)) 8 && Nat.blt (t + 5) NB && Nat.ble 8 100000) = true) t h)
theorem tw_or_13 {t : Nat} (h : IsTw t) : OR t 6 13 (t + 6) := or_mk ((by decide +kernel : ∀ t ∈ L_Tw, (Nat.beq (kd t) 6 && Nat.beq (rf t 13) (t + 6 + 2) && Nat.blt t NB) = true) t h)
theorem tw_ai_6 {t : Nat} (h : IsTw t) : AI (t + 6) 20 96 := ai_mk ((by decide +kernel : ∀ t ∈ L_Tw, (Nat.beq (kd (t + 6)) 20 && Nat.beq (ln (t + 6)) 96 && Nat.blt (t + 6) NB && Nat.ble 96 100000) = true) t h)
theorem tw_or_14 {t : Nat} (h : IsTw t) : OR t 6 14 (t + 7) := or_mk ((by decide +kernel : ∀ t ∈ L_Tw, (Nat.beq (kd t) 6 && Nat.beq (rf t 14) (t + 7 + 2) && Nat.blt t NB) = true) t h)
theorem tw_ai_7 {t : Nat} (h : IsTw t) : AI (t + 7) 20 6 := ai_mk ((by decide +kernel : ∀ t ∈ L_Tw, (Nat.beq (kd (t + 7)) 20 && Nat.beq (ln (t + 7)) 6 && Nat.blt (t + 7) NB && Nat.ble 6 100000) = true) t h)
theorem tw_or_15 {t : Nat} (h : IsTw t) : OR t 6 15 (t + 8) := or_mk ((by decide +kernel : ∀ t ∈ L_Tw, (Nat.beq (kd t) 6 && Nat.beq (rf t 15) (t + 8 + 2) && Nat.blt t NB) = true) t h)
theorem tw_ai_8 {t : Nat} (h : IsTw t) : AI (t + 8) 20 6 := ai_mk ((by decide +kernel : ∀ t ∈ L_Tw, (Nat.beq (kd (t + 8)) 20 && Nat.beq (ln (t + 8)) 6 && Nat.blt (t + 8) NB && Nat.ble 6 100000) = true) t h)
def L_Bk : List Nat := [23, 27, 53, 57, 83, 87, 113, 117, 133]
def IsBk (t : Nat) : Prop := t ∈ L_Bk
theorem bk_k {t : Nat} (h : IsBk t) : (Nat.beq (kd t) 0 && Nat.blt t NB) = true := (by decide +kernel : ∀ t ∈ L_Bk, (Nat.beq (kd t) 0 && Nat.blt t NB) = true) t h
theorem bk_cs {t : Nat} (h : IsBk t) : t = 23 ∨ t = 27 ∨ t = 53 ∨ t = 57 ∨ t = 83 ∨ t = 87 ∨ t = 113 ∨ t = 117 ∨ t = 133 := by simpa [IsBk, L_Bk] using h
theorem bk_oi_0 {t : Nat} (h : IsBk t) : OI t 0 0 0 := oi_mk ((by decide +kernel : ∀ t ∈ L_Bk, (Nat.beq (kd t) 0 && Nat.beq (rf t 0) 0 && Nat.blt t NB && decide (((0 : Nat) : Int) = 0)) = true) t h)
theorem bk_or_1 {t : Nat} (h : IsBk t) : OR t 0 1 (t + 1) := or_mk ((by decide +kernel : ∀ t ∈ L_Bk, (Nat.beq (kd t) 0 && Nat.beq (rf t 1) (t + 1 + 2) && Nat.blt t NB) = true) t h)
theorem bk_ai_1 {t : Nat} (h : IsBk t) : AI (t + 1) 20 8 := ai_mk ((by decide +kernel : ∀ t ∈ L_Bk, (Nat.beq (kd (t + 1)) 20 && Nat.beq (ln (t + 1)) 8 && Nat.blt (t + 1) NB && Nat.ble 8 100000) = true) t h)
theorem bk_or_2 {t : Nat} (h : IsBk t) : OR t 0 2 (t + 2) := or_mk ((by decide +kernel : ∀ t ∈ L_Bk, (Nat.beq (kd t) 0 && Nat.beq (rf t 2) (t + 2 + 2) && Nat.blt t NB) = true) t h)
theorem bk_ai_2 {t : Nat} (h : IsBk t) : AI (t + 2) 20 8 := ai_mk ((by decide +kernel : ∀ t ∈ L_Bk, (Nat.beq (kd (t + 2)) 20 && Nat.beq (ln (t + 2)) 8 && Nat.blt (t + 2) NB && Nat.ble 8 100000) = true) t h)
theorem bk_or_3 {t : Nat} (h : IsBk t) : OR t 0 3 (t + 3) := or_mk ((by decide +kernel : ∀ t ∈ L_Bk, (Nat.beq (kd t) 0 && Nat.beq (rf t 3) (t + 3 + 2) && Nat.blt t NB) = true) t h)
theorem bk_ai_3 {t : Nat} (h : IsBk t) : AI (t + 3) 20 8 := ai_mk ((by decide +kernel : ∀ t ∈ L_Bk, (Nat.beq (kd (t + 3)) 20 && Nat.beq (ln (t + 3)) 8 && Nat.blt (t + 3) NB && Nat.ble 8 100000) = true) t h)
def L_Ru : List Nat := [143, 156]
def IsRu (t : Nat) : Prop := t ∈ L_Ru
theorem ru_k {t : Nat} (h : IsRu t) : (Nat.beq (kd t) 4 && Nat.blt t NB) = true := (by decide +kernel : ∀ t ∈ L_Ru, (Nat.beq (kd t) 4 && Nat.blt t NB) = true) t h
theorem ru_cs {t : Nat} (h : IsRu t) : t = 143 ∨ t = 156 := by simpa [IsRu, L_Ru] using h
theorem ru_oi_0 {t : Nat} (h : IsRu t) : OI t 4 0 0 := oi_mk ((by decide +kernel : ∀ t ∈ L_Ru, (Nat.beq (kd t) 4 && Nat.beq (rf t 0) 0 && Nat.blt t NB && decide (((0 : Nat) : Int) = 0)) = true) t h)
theorem ru_oi_1 {t : Nat} (h : IsRu t) : OI t 4 1 1 := oi_mk ((by decide +kernel : ∀ t ∈ L_Ru, (Nat.beq (kd t) 4 && Nat.beq (rf t 1) 0 && Nat.blt t NB && decide (((1 : Nat) : Int) = 1)) = true) t h)
theorem ru_oi_2 {t : Nat} (h : IsRu t) : OI t 4 2 2 := oi_mk ((by decide +kernel : ∀ t ∈ L_Ru, (Nat.beq (kd t) 4 && Nat.beq (rf t 2) 0 && Nat.blt t NB && decide (((2 : Nat) : Int) = 2)) = true) t h)
theorem ru_oi_3 {t : Nat} (h : IsRu t) : OI t 4 3 3 := oi_mk ((by decide +kernel : ∀ t ∈ L_Ru, (Nat.beq (kd t) 4 && Nat.beq (rf t 3) 0 && Nat.blt t NB && decide (((3 : Nat) : Int) = 3)) = true) t h)
theorem ru_or_4 {t : Nat} (h : IsRu t) : OR t 4 4 (t + 1) := or_mk ((by decide +kernel : ∀ t ∈ L_Ru, (Nat.beq (kd t) 4 && Nat.beq (rf t 4) (t + 1 + 2) && Nat.blt t NB) = true) t h)
theorem ru_or_5 {t : Nat} (h : IsRu t) : OR t 4 5 (t + 6) := or_mk ((by decide +kernel : ∀ t ∈ L_Ru, (Nat.beq (kd t) 4 && Nat.beq (rf t 5) (t + 6 + 2) && Nat.blt t NB) = true) t h)
theorem ru_ai_6 {t : Nat} (h : IsRu t) : AI (t + 6) 20 192 := ai_mk ((by decide +kernel : ∀ t ∈ L_Ru, (Nat.beq (kd (t + 6)) 20 && Nat.beq (ln (t + 6)) 192 && Nat.blt (t + 6) NB && Nat.ble 192 100000) = true) t h)
theorem ru_or_6 {t : Nat} (h : IsRu t) : OR t 4 6 (t + 7) := or_mk ((by decide +kernel : ∀ t ∈ L_Ru, (Nat.beq (kd t) 4 && Nat.beq (rf t 6) (t + 7 + 2) && Nat.blt t NB) = true) t h)
theorem ru_ai_7 {t : Nat} (h : IsRu t) : AI (t + 7) 20 192 := ai_mk ((by decide +kernel : ∀ t ∈ L_Ru, (Nat.beq (kd (t + 7)) 20 && Nat.beq (ln (t + 7)) 192 && Nat.blt (t + 7) NB && Nat.ble 192 100000) = true) t h)
theorem ru_or_7 {t : Nat} (h : IsRu t) : OR t 4 7 (t + 8) := or_mk ((by decide +kernel : ∀ t ∈ L_Ru, (Nat.beq (kd t) 4 && Nat.beq (rf t 7) (t + 8 + 2) && Nat.blt t NB) = true) t h)
theorem ru_ai_8 {t : Nat} (h : IsRu t) : AI (t + 8) 20 192 := ai_mk ((by decide +kernel : ∀ t ∈ L_Ru, (Nat.beq (kd (t + 8)) 20 && Nat.beq (ln (t + 8)) 192 && Nat.blt (t + 8) NB && Nat.ble 192 100000) = true) t h)
theorem ru_or_8 {t : Nat} (h : IsRu t) : OR t 4 8 (t + 9) := or_mk ((by decide +kernel : ∀ t ∈ L_Ru, (Nat.beq (kd t) 4 && Nat.beq (rf t 8) (t + 9 + 2) && Nat.blt t NB) = true) t h)
theorem ru_ai_9 {t : Nat} (h : IsRu t) : AI (t + 9) 20 24 := ai_mk ((by decide +kernel : ∀ t ∈ L_Ru, (Nat.beq (kd (t + 9)) 20 && Nat.beq (ln (t + 9)) 24 && Nat.blt (t + 9) NB && Nat.ble 24 100000) = true) t h)
theorem ru_or_9 {t : Nat} (h : IsRu t) : OR t 4 9 (t + 10) := or_mk ((by decide +kernel : ∀ t ∈ L_Ru, (Nat.beq (kd t) 4 && Nat.beq (rf t 9) (t + 10 + 2) && Nat.blt t NB) = true) t h)
theorem ru_ai_10 {t : Nat} (h : IsRu t) : AI (t + 10) 20 24 := ai_mk ((by decide +kernel : ∀ t ∈ L_Ru, (Nat.beq (kd (t + 10)) 20 && Nat.beq (ln (t + 10)) 24 && Nat.blt (t + 10) NB && Nat.ble 24 100000) = true) t h)
theorem ru_or_10 {t : Nat} (h : IsRu t) : OR t 4 10 (t + 11) := or_mk ((by decide +kernel : ∀ t ∈ L_Ru, (Nat.beq (kd t) 4 && Nat.beq (rf t 10) (t + 11 + 2) && Nat.blt t NB) = true) t h)
theorem ru_ai_11 {t : Nat} (h : IsRu t) : AI (t + 11) 20 24 := ai_mk ((by decide +kernel : ∀ t ∈ L_Ru, (Nat.beq (kd (t + 11)) 20 && Nat.beq (ln (t + 11)) 24 && Nat.blt (t + 11) NB && Nat.ble 24 100000) = true) t h)
theorem ru_or_11 {t : Nat} (h : IsRu t) : OR t 4 11 (t + 12) := or_mk ((by decide +kernel : ∀ t ∈ L_Ru, (Nat.beq (kd t) 4 && Nat.beq (rf t 11) (t + 12 + 2) && Nat.blt t NB) = true) t h)
theorem ru_ai_12 {t : Nat} (h : IsRu t) : AI (t + 12) 20 8 := ai_mk ((by decide +kernel : ∀ t ∈ L_Ru, (Nat.beq (kd (t + 12)) 20 && Nat.beq (ln (t + 12)) 8 && Nat.blt (t + 12) NB && Nat.ble 8 100000) = true) t h)
theorem ru_oi_12 {t : Nat} (h : IsRu t) : OI t 4 12 12 := oi_mk ((by decide +kernel : ∀ t ∈ L_Ru, (Nat.beq (kd t) 4 && Nat.beq (rf t 12) 0 && Nat.blt t NB && decide (((12 : Nat) : Int) = 12)) = true) t h)
def L_Ha : List Nat := [144, 157]
def IsHa (t : Nat) : Prop := t ∈ L_Ha
theorem ha_k {t : Nat} (h : IsHa t) : (Nat.beq (kd t) 1 && Nat.blt t NB) = true := (by decide +kernel : ∀ t ∈ L_Ha, (Nat.beq (kd t) 1 && Nat.blt t NB) = true) t h
theorem ha_cs {t : Nat} (h : IsHa t) : t = 144 ∨ t = 157 := by simpa [IsHa, L_Ha] using h
theorem ha_or_0 {t : Nat} (h : IsHa t) : OR t 1 0 (t + 1) := or_mk ((by decide +kernel : ∀ t ∈ L_Ha, (Nat.beq (kd t) 1 && Nat.beq (rf t 0) (t + 1 + 2) && Nat.blt t NB) = true) t h)
theorem ha_ai_1 {t : Nat} (h : IsHa t) : AI (t + 1) 20 672 := ai_mk ((by decide +kernel : ∀ t ∈ L_Ha, (Nat.beq (kd (t + 1)) 20 && Nat.beq (ln (t + 1)) 672 && Nat.blt (t + 1) NB && Nat.ble 672 100000) = true) t h)
theorem ha_or_1 {t : Nat} (h : IsHa t) : OR t 1 1 (t + 2) := or_mk ((by decide +kernel : ∀ t ∈ L_Ha, (Nat.beq (kd t) 1 && Nat.beq (rf t 1) (t + 2 + 2) && Nat.blt t NB) = true) t h)
theorem ha_ai_2 {t : Nat} (h : IsHa t) : AI (t + 2) 20 672 := ai_mk ((by decide +kernel : ∀ t ∈ L_Ha, (Nat.beq (kd (t + 2)) 20 && Nat.beq (ln (t + 2)) 672 && Nat.blt (t + 2) NB && Nat.ble 672 100000) = true) t h)
theorem ha_or_2 {t : Nat} (h : IsHa t) : OR t 1 2 (t + 3) := or_mk ((by decide +kernel : ∀ t ∈ L_Ha, (Nat.beq (kd t) 1 && Nat.beq (rf t 2) (t + 3 + 2) && Nat.blt t NB) = true) t h)
theorem ha_ai_3 {t : Nat} (h : IsHa t) : AI (t + 3) 20 672 := ai_mk ((by decide +kernel : ∀ t ∈ L_Ha, (Nat.beq (kd (t + 3)) 20 && Nat.beq (ln (t + 3)) 672 && Nat.blt (t + 3) NB && Nat.ble 672 100000) = true) t h)
theorem ha_or_3 {t : Nat} (h : IsHa t) : OR t 1 3 (t + 4) := or_mk ((by decide +kernel : ∀ t ∈ L_Ha, (Nat.beq (kd t) 1 && Nat.beq (rf t 3) (t + 4 + 2) && Nat.blt t NB) = true) t h)
theorem ha_ai_4 {t : Nat} (h : IsHa t) : AI (t + 4) 20 24 := ai_mk ((by decide +kernel : ∀ t ∈ L_Ha, (Nat.beq (kd (t + 4)) 20 && Nat.beq (ln (t + 4)) 24 && Nat.blt (t + 4) NB && Nat.ble 24 100000) = true) t h)
theorem ha_oi_4 {t : Nat} (h : IsHa t) : OI t 1 4 4 := oi_mk ((by decide +kernel : ∀ t ∈ L_Ha, (Nat.beq (kd t) 1 && Nat.beq (rf t 4) 0 && Nat.blt t NB && decide (((4 : Nat) : Int) = 4)) = true) t h)
theorem up_nk {σ : xS} {k k2 : Nat} {i j v : Int} (h : k ≠ k2) : up σ k i v k2 j = σ k2 j := by unfold up; rw [if_neg (fun q => h q.1.symm)]
theorem up_ni {σ : xS} {k : Nat} {i j v : Int} (h : i ≠ j) : up σ k i v k j = σ k j := by unfold up; rw [if_neg (fun q => h q.2.symm)]
theorem up_s {σ : xS} {k : Nat} {i v : Int} : up σ k i v k i = v := by unfold up; rw [if_pos ⟨rfl, rfl⟩]
