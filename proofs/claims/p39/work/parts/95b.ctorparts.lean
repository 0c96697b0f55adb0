abbrev y_Bk_init : xM := (⟨"ShakenBread$Book", "<init>", "()V"⟩, prog_2_method_1_code, 1, (Option.none : Option Jvm.ClassFile.FieldType), 1)
abbrev D_Bk_init : List (Nat × Instr × Nat × Nat) := [(0, .aload_n 0, 1, 1), (1, .invokespecial 3, 3, 4), (4, .aload_n 0, 1, 5), (5, .bipush 8, 2, 7), (7, .newarray .int, 2, 9), (9, .putfield 9, 3, 12), (12, .aload_n 0, 1, 13), (13, .bipush 8, 2, 15), (15, .newarray .int, 2, 17), (17, .putfield 15, 3, 20), (20, .aload_n 0, 1, 21), (21, .bipush 8, 2, 23), (23, .newarray .int, 2, 25), (25, .putfield 18, 3, 28), (28, .return_, 1, 29)]
theorem d_Bk_init : D_Bk_init.all (dchk prog_2_method_1_code) = true := by decide +kernel
abbrev df_Bk : List Value := [.int 0, .null, .null, .null]
abbrev mkBk (g : xG) (B n : Nat) : List va_E := (ap (ap (ap [.inr (0, [.int 0, .ref (B + (n + 1)), .ref (B + (n + 2)), .ref (B + (n + 3))])] [.inl (g.2.2.2 20, 8, .inl (fun _ => 0))]) [.inl (g.2.2.2 20, 8, .inl (fun _ => 0))]) [.inl (g.2.2.2 20, 8, .inl (fun _ => 0))])
theorem co_Bk : CO "ShakenBread$Book" 3 := ⟨(gw_1 (i := 124) rfl rfl), (gw_1 (i := 25) rfl rfl), (gw_1 (i := 26) rfl rfl)⟩
abbrev X_Bk_0 (g : xG) (B n : Nat) : List va_E := (ap [.inr (0, [.int 0, .ref (B + (n + 1)), .null, .null])] [.inl (g.2.2.2 20, 8, .inl (fun _ => 0))])
abbrev X_Bk_1 (g : xG) (B n : Nat) : List va_E := (ap (ap [.inr (0, [.int 0, .ref (B + (n + 1)), .ref (B + (n + 2)), .null])] [.inl (g.2.2.2 20, 8, .inl (fun _ => 0))]) [.inl (g.2.2.2 20, 8, .inl (fun _ => 0))])
abbrev X_Bk_2 (g : xG) (B n : Nat) : List va_E := (ap (ap (ap [.inr (0, [.int 0, .ref (B + (n + 1)), .ref (B + (n + 2)), .ref (B + (n + 3))])] [.inl (g.2.2.2 20, 8, .inl (fun _ => 0))]) [.inl (g.2.2.2 20, 8, .inl (fun _ => 0))]) [.inl (g.2.2.2 20, 8, .inl (fun _ => 0))])
theorem k_Bk {g : xG} {B : Nat} {es0 : List va_E} : Mc g B y_Bk_init [.ref (B + es0.length)] (es0 ++ [.inr (0, df_Bk)]) (es0 ++ mkBk g B es0.length) 3 24 := by
  refine c_enter (by decide) rfl (Nat.le_of_ble_eq_true rfl) (fun Z => ?_)
  refine c_aload_n (a := (B + (es0.length + 0))) (dat d_Bk_init 0 rfl) rfl 0 rfl ?_
  refine c_objinit (own := "ShakenBread$Book") (dat d_Bk_init 1 rfl) rfl co_Bk (by decide) ?_
  refine c_aload_n (a := (B + (es0.length + 0))) (dat d_Bk_init 2 rfl) rfl 0 rfl ?_
  refine c_bipush (v := 8) (dat d_Bk_init 3 rfl) (by decide) ?_
  refine c_newa (k := 1) (ti := 20) (N := 8) (dat d_Bk_init 4 rfl) aw_20 (fun s h => (h.2 0 _ rfl).2) rfl (by decide) (by decide) rfl (Nat.le_of_ble_eq_true rfl) (Nat.le_of_ble_eq_true rfl) (Nat.le_of_ble_eq_true rfl) rfl rfl ?_
  refine c_put (y := y_Bk_init) (i := 0) (X' := (X_Bk_0 g B es0.length)) (own := "ShakenBread$Book") (dat d_Bk_init 5 rfl) rfl f_Bk_9 rfl (.array .int) (fun C T N h => by cases h; exact ⟨by decide +kernel, fun _ => ⟨rfl, rfl⟩⟩) rfl rfl (Nat.le_of_ble_eq_true rfl) rfl ?_
  refine c_aload_n (a := (B + (es0.length + 0))) (dat d_Bk_init 6 rfl) rfl 0 rfl ?_
  refine c_bipush (v := 8) (dat d_Bk_init 7 rfl) (by decide) ?_
  refine c_newa (k := 2) (ti := 20) (N := 8) (dat d_Bk_init 8 rfl) aw_20 (fun s h => (h.2 0 _ rfl).2) rfl (by decide) (by decide) rfl (Nat.le_of_ble_eq_true rfl) (Nat.le_of_ble_eq_true rfl) (Nat.le_of_ble_eq_true rfl) rfl rfl ?_
  refine c_put (y := y_Bk_init) (i := 0) (X' := (X_Bk_1 g B es0.length)) (own := "ShakenBread$Book") (dat d_Bk_init 9 rfl) rfl f_Bk_15 rfl (.array .int) (fun C T N h => by cases h; exact ⟨by decide +kernel, fun _ => ⟨rfl, rfl⟩⟩) rfl rfl (Nat.le_of_ble_eq_true rfl) rfl ?_
  refine c_aload_n (a := (B + (es0.length + 0))) (dat d_Bk_init 10 rfl) rfl 0 rfl ?_
  refine c_bipush (v := 8) (dat d_Bk_init 11 rfl) (by decide) ?_
  refine c_newa (k := 3) (ti := 20) (N := 8) (dat d_Bk_init 12 rfl) aw_20 (fun s h => (h.2 0 _ rfl).2) rfl (by decide) (by decide) rfl (Nat.le_of_ble_eq_true rfl) (Nat.le_of_ble_eq_true rfl) (Nat.le_of_ble_eq_true rfl) rfl rfl ?_
  refine c_put (y := y_Bk_init) (i := 0) (X' := (X_Bk_2 g B es0.length)) (own := "ShakenBread$Book") (dat d_Bk_init 13 rfl) rfl f_Bk_18 rfl (.array .int) (fun C T N h => by cases h; exact ⟨by decide +kernel, fun _ => ⟨rfl, rfl⟩⟩) rfl rfl (Nat.le_of_ble_eq_true rfl) rfl ?_
  exact c_ret (dat d_Bk_init 14 rfl) (Nat.le_of_ble_eq_true rfl) (Nat.le_of_ble_eq_true rfl) rfl
abbrev y_Ha_init : xM := (⟨"ShakenBread$Hands", "<init>", "()V"⟩, prog_3_method_1_code, 1, (Option.none : Option Jvm.ClassFile.FieldType), 1)
abbrev D_Ha_init : List (Nat × Instr × Nat × Nat) := [(0, .aload_n 0, 1, 1), (1, .invokespecial 3, 3, 4), (4, .aload_n 0, 1, 5), (5, .sipush 672, 3, 8), (8, .newarray .int, 2, 10), (10, .putfield 11, 3, 13), (13, .aload_n 0, 1, 14), (14, .sipush 672, 3, 17), (17, .newarray .int, 2, 19), (19, .putfield 15, 3, 22), (22, .aload_n 0, 1, 23), (23, .sipush 672, 3, 26), (26, .newarray .int, 2, 28), (28, .putfield 18, 3, 31), (31, .aload_n 0, 1, 32), (32, .bipush 24, 2, 34), (34, .newarray .int, 2, 36), (36, .putfield 21, 3, 39), (39, .return_, 1, 40)]
theorem d_Ha_init : D_Ha_init.all (dchk prog_3_method_1_code) = true := by decide +kernel
abbrev df_Ha : List Value := [.null, .null, .null, .null, .int 0]
abbrev mkHa (g : xG) (B n : Nat) : List va_E := (ap (ap (ap (ap [.inr (1, [.ref (B + (n + 1)), .ref (B + (n + 2)), .ref (B + (n + 3)), .ref (B + (n + 4)), .int 0])] [.inl (g.2.2.2 20, 672, .inl (fun _ => 0))]) [.inl (g.2.2.2 20, 672, .inl (fun _ => 0))]) [.inl (g.2.2.2 20, 672, .inl (fun _ => 0))]) [.inl (g.2.2.2 20, 24, .inl (fun _ => 0))])
theorem co_Ha : CO "ShakenBread$Hands" 3 := ⟨(gw_2 (i := 77) rfl rfl), (gw_1 (i := 25) rfl rfl), (gw_1 (i := 26) rfl rfl)⟩
abbrev X_Ha_0 (g : xG) (B n : Nat) : List va_E := (ap [.inr (1, [.ref (B + (n + 1)), .null, .null, .null, .int 0])] [.inl (g.2.2.2 20, 672, .inl (fun _ => 0))])
abbrev X_Ha_1 (g : xG) (B n : Nat) : List va_E := (ap (ap [.inr (1, [.ref (B + (n + 1)), .ref (B + (n + 2)), .null, .null, .int 0])] [.inl (g.2.2.2 20, 672, .inl (fun _ => 0))]) [.inl (g.2.2.2 20, 672, .inl (fun _ => 0))])
abbrev X_Ha_2 (g : xG) (B n : Nat) : List va_E := (ap (ap (ap [.inr (1, [.ref (B + (n + 1)), .ref (B + (n + 2)), .ref (B + (n + 3)), .null, .int 0])] [.inl (g.2.2.2 20, 672, .inl (fun _ => 0))]) [.inl (g.2.2.2 20, 672, .inl (fun _ => 0))]) [.inl (g.2.2.2 20, 672, .inl (fun _ => 0))])
abbrev X_Ha_3 (g : xG) (B n : Nat) : List va_E := (ap (ap (ap (ap [.inr (1, [.ref (B + (n + 1)), .ref (B + (n + 2)), .ref (B + (n + 3)), .ref (B + (n + 4)), .int 0])] [.inl (g.2.2.2 20, 672, .inl (fun _ => 0))]) [.inl (g.2.2.2 20, 672, .inl (fun _ => 0))]) [.inl (g.2.2.2 20, 672, .inl (fun _ => 0))]) [.inl (g.2.2.2 20, 24, .inl (fun _ => 0))])
theorem k_Ha {g : xG} {B : Nat} {es0 : List va_E} : Mc g B y_Ha_init [.ref (B + es0.length)] (es0 ++ [.inr (1, df_Ha)]) (es0 ++ mkHa g B es0.length) 4 2040 := by
  refine c_enter (by decide) rfl (Nat.le_of_ble_eq_true rfl) (fun Z => ?_)
  refine c_aload_n (a := (B + (es0.length + 0))) (dat d_Ha_init 0 rfl) rfl 0 rfl ?_
  refine c_objinit (own := "ShakenBread$Hands") (dat d_Ha_init 1 rfl) rfl co_Ha (by decide) ?_
  refine c_aload_n (a := (B + (es0.length + 0))) (dat d_Ha_init 2 rfl) rfl 0 rfl ?_
  refine c_sipush (v := 672) (dat d_Ha_init 3 rfl) (by decide) ?_
  refine c_newa (k := 1) (ti := 20) (N := 672) (dat d_Ha_init 4 rfl) aw_20 (fun s h => (h.2 0 _ rfl).2) rfl (by decide) (by decide) rfl (Nat.le_of_ble_eq_true rfl) (Nat.le_of_ble_eq_true rfl) (Nat.le_of_ble_eq_true rfl) rfl rfl ?_
  refine c_put (y := y_Ha_init) (i := 0) (X' := (X_Ha_0 g B es0.length)) (own := "ShakenBread$Hands") (dat d_Ha_init 5 rfl) rfl f_Ha_11 rfl (.array .int) (fun C T N h => by cases h; exact ⟨by decide +kernel, fun _ => ⟨rfl, rfl⟩⟩) rfl rfl (Nat.le_of_ble_eq_true rfl) rfl ?_
  refine c_aload_n (a := (B + (es0.length + 0))) (dat d_Ha_init 6 rfl) rfl 0 rfl ?_
  refine c_sipush (v := 672) (dat d_Ha_init 7 rfl) (by decide) ?_
  refine c_newa (k := 2) (ti := 20) (N := 672) (dat d_Ha_init 8 rfl) aw_20 (fun s h => (h.2 0 _ rfl).2) rfl (by decide) (by decide) rfl (Nat.le_of_ble_eq_true rfl) (Nat.le_of_ble_eq_true rfl) (Nat.le_of_ble_eq_true rfl) rfl rfl ?_
  refine c_put (y := y_Ha_init) (i := 0) (X' := (X_Ha_1 g B es0.length)) (own := "ShakenBread$Hands") (dat d_Ha_init 9 rfl) rfl f_Ha_15 rfl (.array .int) (fun C T N h => by cases h; exact ⟨by decide +kernel, fun _ => ⟨rfl, rfl⟩⟩) rfl rfl (Nat.le_of_ble_eq_true rfl) rfl ?_
  refine c_aload_n (a := (B + (es0.length + 0))) (dat d_Ha_init 10 rfl) rfl 0 rfl ?_
  refine c_sipush (v := 672) (dat d_Ha_init 11 rfl) (by decide) ?_
  refine c_newa (k := 3) (ti := 20) (N := 672) (dat d_Ha_init 12 rfl) aw_20 (fun s h => (h.2 0 _ rfl).2) rfl (by decide) (by decide) rfl (Nat.le_of_ble_eq_true rfl) (Nat.le_of_ble_eq_true rfl) (Nat.le_of_ble_eq_true rfl) rfl rfl ?_
  refine c_put (y := y_Ha_init) (i := 0) (X' := (X_Ha_2 g B es0.length)) (own := "ShakenBread$Hands") (dat d_Ha_init 13 rfl) rfl f_Ha_18 rfl (.array .int) (fun C T N h => by cases h; exact ⟨by decide +kernel, fun _ => ⟨rfl, rfl⟩⟩) rfl rfl (Nat.le_of_ble_eq_true rfl) rfl ?_
  refine c_aload_n (a := (B + (es0.length + 0))) (dat d_Ha_init 14 rfl) rfl 0 rfl ?_
  refine c_bipush (v := 24) (dat d_Ha_init 15 rfl) (by decide) ?_
  refine c_newa (k := 4) (ti := 20) (N := 24) (dat d_Ha_init 16 rfl) aw_20 (fun s h => (h.2 0 _ rfl).2) rfl (by decide) (by decide) rfl (Nat.le_of_ble_eq_true rfl) (Nat.le_of_ble_eq_true rfl) (Nat.le_of_ble_eq_true rfl) rfl rfl ?_
  refine c_put (y := y_Ha_init) (i := 0) (X' := (X_Ha_3 g B es0.length)) (own := "ShakenBread$Hands") (dat d_Ha_init 17 rfl) rfl f_Ha_21 rfl (.array .int) (fun C T N h => by cases h; exact ⟨by decide +kernel, fun _ => ⟨rfl, rfl⟩⟩) rfl rfl (Nat.le_of_ble_eq_true rfl) rfl ?_
  exact c_ret (dat d_Ha_init 18 rfl) (Nat.le_of_ble_eq_true rfl) (Nat.le_of_ble_eq_true rfl) rfl
abbrev y_Pl_init : xM := (⟨"ShakenBread$Plan", "<init>", "()V"⟩, prog_4_method_1_code, 1, (Option.none : Option Jvm.ClassFile.FieldType), 1)
abbrev D_Pl_init : List (Nat × Instr × Nat × Nat) := [(0, .aload_n 0, 1, 1), (1, .invokespecial 3, 3, 4), (4, .aload_n 0, 1, 5), (5, .bipush 8, 2, 7), (7, .newarray .int, 2, 9), (9, .putfield 9, 3, 12), (12, .aload_n 0, 1, 13), (13, .bipush 8, 2, 15), (15, .newarray .int, 2, 17), (17, .putfield 15, 3, 20), (20, .aload_n 0, 1, 21), (21, .bipush 8, 2, 23), (23, .newarray .int, 2, 25), (25, .putfield 18, 3, 28), (28, .aload_n 0, 1, 29), (29, .sipush 192, 3, 32), (32, .newarray .int, 2, 34), (34, .putfield 21, 3, 37), (37, .return_, 1, 38)]
theorem d_Pl_init : D_Pl_init.all (dchk prog_4_method_1_code) = true := by decide +kernel
abbrev df_Pl : List Value := [.int 0, .int 0, .int 0, .int 0, .int 0, .int 0, .int 0, .int 0, .int 0, .null, .null, .null, .null]
abbrev mkPl (g : xG) (B n : Nat) : List va_E := (ap (ap (ap (ap [.inr (2, [.int 0, .int 0, .int 0, .int 0, .int 0, .int 0, .int 0, .int 0, .int 0, .ref (B + (n + 1)), .ref (B + (n + 2)), .ref (B + (n + 3)), .ref (B + (n + 4))])] [.inl (g.2.2.2 20, 8, .inl (fun _ => 0))]) [.inl (g.2.2.2 20, 8, .inl (fun _ => 0))]) [.inl (g.2.2.2 20, 8, .inl (fun _ => 0))]) [.inl (g.2.2.2 20, 192, .inl (fun _ => 0))])
theorem co_Pl : CO "ShakenBread$Plan" 3 := ⟨(gw_2 (i := 5) rfl rfl), (gw_1 (i := 25) rfl rfl), (gw_1 (i := 26) rfl rfl)⟩
abbrev X_Pl_0 (g : xG) (B n : Nat) : List va_E := (ap [.inr (2, [.int 0, .int 0, .int 0, .int 0, .int 0, .int 0, .int 0, .int 0, .int 0, .ref (B + (n + 1)), .null, .null, .null])] [.inl (g.2.2.2 20, 8, .inl (fun _ => 0))])
abbrev X_Pl_1 (g : xG) (B n : Nat) : List va_E := (ap (ap [.inr (2, [.int 0, .int 0, .int 0, .int 0, .int 0, .int 0, .int 0, .int 0, .int 0, .ref (B + (n + 1)), .ref (B + (n + 2)), .null, .null])] [.inl (g.2.2.2 20, 8, .inl (fun _ => 0))]) [.inl (g.2.2.2 20, 8, .inl (fun _ => 0))])
abbrev X_Pl_2 (g : xG) (B n : Nat) : List va_E := (ap (ap (ap [.inr (2, [.int 0, .int 0, .int 0, .int 0, .int 0, .int 0, .int 0, .int 0, .int 0, .ref (B + (n + 1)), .ref (B + (n + 2)), .ref (B + (n + 3)), .null])] [.inl (g.2.2.2 20, 8, .inl (fun _ => 0))]) [.inl (g.2.2.2 20, 8, .inl (fun _ => 0))]) [.inl (g.2.2.2 20, 8, .inl (fun _ => 0))])
abbrev X_Pl_3 (g : xG) (B n : Nat) : List va_E := (ap (ap (ap (ap [.inr (2, [.int 0, .int 0, .int 0, .int 0, .int 0, .int 0, .int 0, .int 0, .int 0, .ref (B + (n + 1)), .ref (B + (n + 2)), .ref (B + (n + 3)), .ref (B + (n + 4))])] [.inl (g.2.2.2 20, 8, .inl (fun _ => 0))]) [.inl (g.2.2.2 20, 8, .inl (fun _ => 0))]) [.inl (g.2.2.2 20, 8, .inl (fun _ => 0))]) [.inl (g.2.2.2 20, 192, .inl (fun _ => 0))])
theorem k_Pl {g : xG} {B : Nat} {es0 : List va_E} : Mc g B y_Pl_init [.ref (B + es0.length)] (es0 ++ [.inr (2, df_Pl)]) (es0 ++ mkPl g B es0.length) 4 216 := by
  refine c_enter (by decide) rfl (Nat.le_of_ble_eq_true rfl) (fun Z => ?_)
  refine c_aload_n (a := (B + (es0.length + 0))) (dat d_Pl_init 0 rfl) rfl 0 rfl ?_
  refine c_objinit (own := "ShakenBread$Plan") (dat d_Pl_init 1 rfl) rfl co_Pl (by decide) ?_
  refine c_aload_n (a := (B + (es0.length + 0))) (dat d_Pl_init 2 rfl) rfl 0 rfl ?_
  refine c_bipush (v := 8) (dat d_Pl_init 3 rfl) (by decide) ?_
  refine c_newa (k := 1) (ti := 20) (N := 8) (dat d_Pl_init 4 rfl) aw_20 (fun s h => (h.2 0 _ rfl).2) rfl (by decide) (by decide) rfl (Nat.le_of_ble_eq_true rfl) (Nat.le_of_ble_eq_true rfl) (Nat.le_of_ble_eq_true rfl) rfl rfl ?_
  refine c_put (y := y_Pl_init) (i := 0) (X' := (X_Pl_0 g B es0.length)) (own := "ShakenBread$Plan") (dat d_Pl_init 5 rfl) rfl f_Pl_9 rfl (.array .int) (fun C T N h => by cases h; exact ⟨by decide +kernel, fun _ => ⟨rfl, rfl⟩⟩) rfl rfl (Nat.le_of_ble_eq_true rfl) rfl ?_
  refine c_aload_n (a := (B + (es0.length + 0))) (dat d_Pl_init 6 rfl) rfl 0 rfl ?_
  refine c_bipush (v := 8) (dat d_Pl_init 7 rfl) (by decide) ?_
  refine c_newa (k := 2) (ti := 20) (N := 8) (dat d_Pl_init 8 rfl) aw_20 (fun s h => (h.2 0 _ rfl).2) rfl (by decide) (by decide) rfl (Nat.le_of_ble_eq_true rfl) (Nat.le_of_ble_eq_true rfl) (Nat.le_of_ble_eq_true rfl) rfl rfl ?_
  refine c_put (y := y_Pl_init) (i := 0) (X' := (X_Pl_1 g B es0.length)) (own := "ShakenBread$Plan") (dat d_Pl_init 9 rfl) rfl f_Pl_15 rfl (.array .int) (fun C T N h => by cases h; exact ⟨by decide +kernel, fun _ => ⟨rfl, rfl⟩⟩) rfl rfl (Nat.le_of_ble_eq_true rfl) rfl ?_
  refine c_aload_n (a := (B + (es0.length + 0))) (dat d_Pl_init 10 rfl) rfl 0 rfl ?_
  refine c_bipush (v := 8) (dat d_Pl_init 11 rfl) (by decide) ?_
  refine c_newa (k := 3) (ti := 20) (N := 8) (dat d_Pl_init 12 rfl) aw_20 (fun s h => (h.2 0 _ rfl).2) rfl (by decide) (by decide) rfl (Nat.le_of_ble_eq_true rfl) (Nat.le_of_ble_eq_true rfl) (Nat.le_of_ble_eq_true rfl) rfl rfl ?_
  refine c_put (y := y_Pl_init) (i := 0) (X' := (X_Pl_2 g B es0.length)) (own := "ShakenBread$Plan") (dat d_Pl_init 13 rfl) rfl f_Pl_18 rfl (.array .int) (fun C T N h => by cases h; exact ⟨by decide +kernel, fun _ => ⟨rfl, rfl⟩⟩) rfl rfl (Nat.le_of_ble_eq_true rfl) rfl ?_
  refine c_aload_n (a := (B + (es0.length + 0))) (dat d_Pl_init 14 rfl) rfl 0 rfl ?_
  refine c_sipush (v := 192) (dat d_Pl_init 15 rfl) (by decide) ?_
  refine c_newa (k := 4) (ti := 20) (N := 192) (dat d_Pl_init 16 rfl) aw_20 (fun s h => (h.2 0 _ rfl).2) rfl (by decide) (by decide) rfl (Nat.le_of_ble_eq_true rfl) (Nat.le_of_ble_eq_true rfl) (Nat.le_of_ble_eq_true rfl) rfl rfl ?_
  refine c_put (y := y_Pl_init) (i := 0) (X' := (X_Pl_3 g B es0.length)) (own := "ShakenBread$Plan") (dat d_Pl_init 17 rfl) rfl f_Pl_21 rfl (.array .int) (fun C T N h => by cases h; exact ⟨by decide +kernel, fun _ => ⟨rfl, rfl⟩⟩) rfl rfl (Nat.le_of_ble_eq_true rfl) rfl ?_
  exact c_ret (dat d_Pl_init 18 rfl) (Nat.le_of_ble_eq_true rfl) (Nat.le_of_ble_eq_true rfl) rfl
abbrev y_Tr_init : xM := (⟨"ShakenBread$Trials", "<init>", "(LShakenBread$Plan;LShakenBread$Run;LShakenBread$Run;)V"⟩, prog_9_method_1_code, 4, (Option.none : Option Jvm.ClassFile.FieldType), 1)
abbrev D_Tr_init : List (Nat × Instr × Nat × Nat) := [(0, .aload_n 0, 1, 1), (1, .invokespecial 3, 3, 4), (4, .aload_n 0, 1, 5), (5, .iconst 4, 1, 6), (6, .newarray .int, 2, 8), (8, .putfield 9, 3, 11), (11, .aload_n 0, 1, 12), (12, .aload_n 1, 1, 13), (13, .putfield 15, 3, 16), (16, .aload_n 0, 1, 17), (17, .aload_n 2, 1, 18), (18, .putfield 19, 3, 21), (21, .aload_n 0, 1, 22), (22, .aload_n 3, 1, 23), (23, .putfield 23, 3, 26), (26, .return_, 1, 27)]
theorem d_Tr_init : D_Tr_init.all (dchk prog_9_method_1_code) = true := by decide +kernel
abbrev df_Tr : List Value := [.null, .null, .null, .null]
abbrev mkTr (g : xG) (B n : Nat) (p0 : Nat) (p1 : Nat) (p2 : Nat) : List va_E := (ap [.inr (7, [.ref (B + (n + 1)), .ref p0, .ref p1, .ref p2])] [.inl (g.2.2.2 20, 4, .inl (fun _ => 0))])
theorem co_Tr : CO "ShakenBread$Trials" 3 := ⟨(gw_2 (i := 150) rfl rfl), (gw_1 (i := 25) rfl rfl), (gw_1 (i := 26) rfl rfl)⟩
abbrev X_Tr_0 (g : xG) (B n : Nat) (p0 : Nat) (p1 : Nat) (p2 : Nat) : List va_E := (ap [.inr (7, [.ref (B + (n + 1)), .null, .null, .null])] [.inl (g.2.2.2 20, 4, .inl (fun _ => 0))])
abbrev X_Tr_1 (g : xG) (B n : Nat) (p0 : Nat) (p1 : Nat) (p2 : Nat) : List va_E := (ap [.inr (7, [.ref (B + (n + 1)), .ref p0, .null, .null])] [.inl (g.2.2.2 20, 4, .inl (fun _ => 0))])
abbrev X_Tr_2 (g : xG) (B n : Nat) (p0 : Nat) (p1 : Nat) (p2 : Nat) : List va_E := (ap [.inr (7, [.ref (B + (n + 1)), .ref p0, .ref p1, .null])] [.inl (g.2.2.2 20, 4, .inl (fun _ => 0))])
abbrev X_Tr_3 (g : xG) (B n : Nat) (p0 : Nat) (p1 : Nat) (p2 : Nat) : List va_E := (ap [.inr (7, [.ref (B + (n + 1)), .ref p0, .ref p1, .ref p2])] [.inl (g.2.2.2 20, 4, .inl (fun _ => 0))])
theorem k_Tr {g : xG} {B : Nat} {es0 : List va_E} {p0 : Nat} {p1 : Nat} {p2 : Nat} : Mc g B y_Tr_init [.ref (B + es0.length), .ref p0, .ref p1, .ref p2] (es0 ++ [.inr (7, df_Tr)]) (es0 ++ mkTr g B es0.length p0 p1 p2) 1 4 := by
  refine c_enter (by decide) rfl (Nat.le_of_ble_eq_true rfl) (fun Z => ?_)
  refine c_aload_n (a := (B + (es0.length + 0))) (dat d_Tr_init 0 rfl) rfl 0 rfl ?_
  refine c_objinit (own := "ShakenBread$Trials") (dat d_Tr_init 1 rfl) rfl co_Tr (by decide) ?_
  refine c_aload_n (a := (B + (es0.length + 0))) (dat d_Tr_init 2 rfl) rfl 0 rfl ?_
  refine c_iconst (v := 4) (dat d_Tr_init 3 rfl) (by decide) ?_
  refine c_newa (k := 1) (ti := 20) (N := 4) (dat d_Tr_init 4 rfl) aw_20 (fun s h => (h.2 0 _ rfl).2) rfl (by decide) (by decide) rfl (Nat.le_of_ble_eq_true rfl) (Nat.le_of_ble_eq_true rfl) (Nat.le_of_ble_eq_true rfl) rfl rfl ?_
  refine c_put (y := y_Tr_init) (i := 0) (X' := (X_Tr_0 g B es0.length p0 p1 p2)) (own := "ShakenBread$Trials") (dat d_Tr_init 5 rfl) rfl f_Tr_9 rfl (.array .int) (fun C T N h => by cases h; exact ⟨by decide +kernel, fun _ => ⟨rfl, rfl⟩⟩) rfl rfl (Nat.le_of_ble_eq_true rfl) rfl ?_
  refine c_aload_n (a := (B + (es0.length + 0))) (dat d_Tr_init 6 rfl) rfl 0 rfl ?_
  refine c_aload_n (a := p0) (dat d_Tr_init 7 rfl) rfl 1 rfl ?_
  refine c_put (y := y_Tr_init) (i := 0) (X' := (X_Tr_1 g B es0.length p0 p1 p2)) (own := "ShakenBread$Trials") (dat d_Tr_init 8 rfl) rfl f_Tr_15 rfl (.object "ShakenBread$Plan") (fun C T N h => by cases h; exact ⟨by decide +kernel, fun _ => ⟨rfl, rfl⟩⟩) rfl rfl (Nat.le_of_ble_eq_true rfl) rfl ?_
  refine c_aload_n (a := (B + (es0.length + 0))) (dat d_Tr_init 9 rfl) rfl 0 rfl ?_
  refine c_aload_n (a := p1) (dat d_Tr_init 10 rfl) rfl 2 rfl ?_
  refine c_put (y := y_Tr_init) (i := 0) (X' := (X_Tr_2 g B es0.length p0 p1 p2)) (own := "ShakenBread$Trials") (dat d_Tr_init 11 rfl) rfl f_Tr_19 rfl (.object "ShakenBread$Run") (fun C T N h => by cases h; exact ⟨by decide +kernel, fun _ => ⟨rfl, rfl⟩⟩) rfl rfl (Nat.le_of_ble_eq_true rfl) rfl ?_
  refine c_aload_n (a := (B + (es0.length + 0))) (dat d_Tr_init 12 rfl) rfl 0 rfl ?_
  refine c_aload_n (a := p2) (dat d_Tr_init 13 rfl) rfl 3 rfl ?_
  refine c_put (y := y_Tr_init) (i := 0) (X' := (X_Tr_3 g B es0.length p0 p1 p2)) (own := "ShakenBread$Trials") (dat d_Tr_init 14 rfl) rfl f_Tr_23 rfl (.object "ShakenBread$Run") (fun C T N h => by cases h; exact ⟨by decide +kernel, fun _ => ⟨rfl, rfl⟩⟩) rfl rfl (Nat.le_of_ble_eq_true rfl) rfl ?_
  exact c_ret (dat d_Tr_init 15 rfl) (Nat.le_of_ble_eq_true rfl) (Nat.le_of_ble_eq_true rfl) rfl
abbrev y_Wo_init : xM := (⟨"ShakenBread$Worlds", "<init>", "(LShakenBread$Plan;LShakenBread$Run;)V"⟩, prog_10_method_1_code, 3, (Option.none : Option Jvm.ClassFile.FieldType), 1)
abbrev D_Wo_init : List (Nat × Instr × Nat × Nat) := [(0, .aload_n 0, 1, 1), (1, .invokespecial 3, 3, 4), (4, .aload_n 0, 1, 5), (5, .iconst 3, 1, 6), (6, .newarray .int, 2, 8), (8, .putfield 9, 3, 11), (11, .aload_n 0, 1, 12), (12, .ldc 15, 2, 14), (14, .newarray .int, 2, 16), (16, .putfield 16, 3, 19), (19, .aload_n 0, 1, 20), (20, .aload_n 1, 1, 21), (21, .putfield 19, 3, 24), (24, .aload_n 0, 1, 25), (25, .aload_n 2, 1, 26), (26, .putfield 23, 3, 29), (29, .return_, 1, 30)]
theorem d_Wo_init : D_Wo_init.all (dchk prog_10_method_1_code) = true := by decide +kernel
abbrev df_Wo : List Value := [.int 0, .int 0, .int 0, .int 0, .null, .null, .null, .null]
abbrev mkWo (g : xG) (B n : Nat) (p0 : Nat) (p1 : Nat) : List va_E := (ap (ap [.inr (8, [.int 0, .int 0, .int 0, .int 0, .ref (B + (n + 1)), .ref p0, .ref p1, .ref (B + (n + 2))])] [.inl (g.2.2.2 20, 3, .inl (fun _ => 0))]) [.inl (g.2.2.2 20, 50880, .inl (fun _ => 0))])
theorem co_Wo : CO "ShakenBread$Worlds" 3 := ⟨(gw_2 (i := 170) rfl rfl), (gw_1 (i := 25) rfl rfl), (gw_1 (i := 26) rfl rfl)⟩
abbrev X_Wo_0 (g : xG) (B n : Nat) (p0 : Nat) (p1 : Nat) : List va_E := (ap [.inr (8, [.int 0, .int 0, .int 0, .int 0, .ref (B + (n + 1)), .null, .null, .null])] [.inl (g.2.2.2 20, 3, .inl (fun _ => 0))])
abbrev X_Wo_1 (g : xG) (B n : Nat) (p0 : Nat) (p1 : Nat) : List va_E := (ap (ap [.inr (8, [.int 0, .int 0, .int 0, .int 0, .ref (B + (n + 1)), .null, .null, .ref (B + (n + 2))])] [.inl (g.2.2.2 20, 3, .inl (fun _ => 0))]) [.inl (g.2.2.2 20, 50880, .inl (fun _ => 0))])
abbrev X_Wo_2 (g : xG) (B n : Nat) (p0 : Nat) (p1 : Nat) : List va_E := (ap (ap [.inr (8, [.int 0, .int 0, .int 0, .int 0, .ref (B + (n + 1)), .ref p0, .null, .ref (B + (n + 2))])] [.inl (g.2.2.2 20, 3, .inl (fun _ => 0))]) [.inl (g.2.2.2 20, 50880, .inl (fun _ => 0))])
abbrev X_Wo_3 (g : xG) (B n : Nat) (p0 : Nat) (p1 : Nat) : List va_E := (ap (ap [.inr (8, [.int 0, .int 0, .int 0, .int 0, .ref (B + (n + 1)), .ref p0, .ref p1, .ref (B + (n + 2))])] [.inl (g.2.2.2 20, 3, .inl (fun _ => 0))]) [.inl (g.2.2.2 20, 50880, .inl (fun _ => 0))])
theorem k_Wo {g : xG} {B : Nat} {es0 : List va_E} {p0 : Nat} {p1 : Nat} : Mc g B y_Wo_init [.ref (B + es0.length), .ref p0, .ref p1] (es0 ++ [.inr (8, df_Wo)]) (es0 ++ mkWo g B es0.length p0 p1) 2 50883 := by
  refine c_enter (by decide) rfl (Nat.le_of_ble_eq_true rfl) (fun Z => ?_)
  refine c_aload_n (a := (B + (es0.length + 0))) (dat d_Wo_init 0 rfl) rfl 0 rfl ?_
  refine c_objinit (own := "ShakenBread$Worlds") (dat d_Wo_init 1 rfl) rfl co_Wo (by decide) ?_
  refine c_aload_n (a := (B + (es0.length + 0))) (dat d_Wo_init 2 rfl) rfl 0 rfl ?_
  refine c_iconst (v := 3) (dat d_Wo_init 3 rfl) (by decide) ?_
  refine c_newa (k := 1) (ti := 20) (N := 3) (dat d_Wo_init 4 rfl) aw_20 (fun s h => (h.2 0 _ rfl).2) rfl (by decide) (by decide) rfl (Nat.le_of_ble_eq_true rfl) (Nat.le_of_ble_eq_true rfl) (Nat.le_of_ble_eq_true rfl) rfl rfl ?_
  refine c_put (y := y_Wo_init) (i := 0) (X' := (X_Wo_0 g B es0.length p0 p1)) (own := "ShakenBread$Worlds") (dat d_Wo_init 5 rfl) rfl f_Wo_9 rfl (.array .int) (fun C T N h => by cases h; exact ⟨by decide +kernel, fun _ => ⟨rfl, rfl⟩⟩) rfl rfl (Nat.le_of_ble_eq_true rfl) rfl ?_
  refine c_aload_n (a := (B + (es0.length + 0))) (dat d_Wo_init 6 rfl) rfl 0 rfl ?_
  refine c_ldc (v := 50880) (own := "ShakenBread$Worlds") (dat d_Wo_init 7 rfl) rfl (gw_2 (i := 171) rfl rfl) ?_
  refine c_newa (k := 2) (ti := 20) (N := 50880) (dat d_Wo_init 8 rfl) aw_20 (fun s h => (h.2 0 _ rfl).2) rfl (by decide) (by decide) rfl (Nat.le_of_ble_eq_true rfl) (Nat.le_of_ble_eq_true rfl) (Nat.le_of_ble_eq_true rfl) rfl rfl ?_
  refine c_put (y := y_Wo_init) (i := 0) (X' := (X_Wo_1 g B es0.length p0 p1)) (own := "ShakenBread$Worlds") (dat d_Wo_init 9 rfl) rfl f_Wo_16 rfl (.array .int) (fun C T N h => by cases h; exact ⟨by decide +kernel, fun _ => ⟨rfl, rfl⟩⟩) rfl rfl (Nat.le_of_ble_eq_true rfl) rfl ?_
  refine c_aload_n (a := (B + (es0.length + 0))) (dat d_Wo_init 10 rfl) rfl 0 rfl ?_
  refine c_aload_n (a := p0) (dat d_Wo_init 11 rfl) rfl 1 rfl ?_
  refine c_put (y := y_Wo_init) (i := 0) (X' := (X_Wo_2 g B es0.length p0 p1)) (own := "ShakenBread$Worlds") (dat d_Wo_init 12 rfl) rfl f_Wo_19 rfl (.object "ShakenBread$Plan") (fun C T N h => by cases h; exact ⟨by decide +kernel, fun _ => ⟨rfl, rfl⟩⟩) rfl rfl (Nat.le_of_ble_eq_true rfl) rfl ?_
  refine c_aload_n (a := (B + (es0.length + 0))) (dat d_Wo_init 13 rfl) rfl 0 rfl ?_
  refine c_aload_n (a := p1) (dat d_Wo_init 14 rfl) rfl 2 rfl ?_
  refine c_put (y := y_Wo_init) (i := 0) (X' := (X_Wo_3 g B es0.length p0 p1)) (own := "ShakenBread$Worlds") (dat d_Wo_init 15 rfl) rfl f_Wo_23 rfl (.object "ShakenBread$Run") (fun C T N h => by cases h; exact ⟨by decide +kernel, fun _ => ⟨rfl, rfl⟩⟩) rfl rfl (Nat.le_of_ble_eq_true rfl) rfl ?_
  exact c_ret (dat d_Wo_init 16 rfl) (Nat.le_of_ble_eq_true rfl) (Nat.le_of_ble_eq_true rfl) rfl
