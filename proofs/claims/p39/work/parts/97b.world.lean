/-! they are the first world -/
abbrev gZ (l : Launch) (B : Nat) (st : Nat → Nat) (D : va_G) (ca : Nat → ClassId) : xG := (l, (fun k => if k < 175 then B + plc k else st k), D, ca)
theorem arrV_same {cI : ClassId} {N : Nat} {f f' : Nat → Value} (h : ∀ j, j < N → f j = f' j) : arrV cI N f = arrV cI N f' := by
  unfold arrV
  congr 2
  funext j
  exact h j.val j.isLt
theorem xz_arr {g : xG} {k : Nat} (h : kd k = 20 ∨ kd k = 21 ∨ kd k = 22) : xcell g sZ k = .inl (g.2.2.2 (kd k), ln k, .inl (fun _ => 0)) := by
  have n0 : k ≠ 0 := fun z => by subst z; revert h; decide
  have n1 : k ≠ 1 := fun z => by subst z; revert h; decide
  have n2 : k ≠ 31 := fun z => by subst z; revert h; decide
  have n3 : k ≠ 61 := fun z => by subst z; revert h; decide
  have n4 : k ≠ 91 := fun z => by subst z; revert h; decide
  have n6 : k ≠ 123 := fun z => by subst z; revert h; decide
  rw [xcell_i h rfl]
  have z : (fun i : Nat => Int32.ofInt (sZ k i)) = fun _ => 0 := by
    funext i
    rw [sZ_0 (by omega)]
    rfl
  rw [z]
section ZZ
variable {l : Launch} {B : Nat} {st : Nat → Nat} {D : va_G} {ca : Nat → ClassId} {H : Heap} {g : xG}
theorem WZ_0 {p : Nat} {z : va_E} (h : (wz0 g B)[p]? = some z) : (WZ g B)[p]? = some z := by
  show (wz0 g B ++ (wz1 g B ++ wz2 g B))[p]? = some z
  rw [List.getElem?_append_left (List.getElem?_eq_some_iff.mp h).1]
  exact h
theorem WZ_1 {p : Nat} {z : va_E} (h : (wz1 g B)[p]? = some z) : (WZ g B)[60 + p]? = some z := by
  show (wz0 g B ++ (wz1 g B ++ wz2 g B))[60 + p]? = some z
  rw [List.getElem?_append_right (show (wz0 g B).length ≤ 60 + p from Nat.le_add_right 60 p), show 60 + p - (wz0 g B).length = p from Nat.add_sub_cancel_left 60 p, List.getElem?_append_left (List.getElem?_eq_some_iff.mp h).1]
  exact h
theorem WZ_2 {p : Nat} {z : va_E} (h : (wz2 g B)[p]? = some z) : (WZ g B)[60 + (60 + p)]? = some z := by
  show (wz0 g B ++ (wz1 g B ++ wz2 g B))[60 + (60 + p)]? = some z
  rw [List.getElem?_append_right (show (wz0 g B).length ≤ 60 + (60 + p) from Nat.le_add_right 60 _), show 60 + (60 + p) - (wz0 g B).length = 60 + p from Nat.add_sub_cancel_left 60 _, List.getElem?_append_right (show (wz1 g B).length ≤ 60 + p from Nat.le_add_right 60 p), show 60 + p - (wz1 g B).length = p from Nat.add_sub_cancel_left 60 p]
  exact h
theorem zo {k p : Nat} {z : va_E} (h : cHp g B (WZ g B) H) (hW : (WZ g B)[p]? = some z) (hp : plc k = p) (hz : xcell g sZ k = z) : va_at g.2.2.1 classes (B + plc k, xcell g sZ k) H := by
  rw [hz, hp]
  exact h.2 p (B + p, z) (by rw [cw_get, hW]; rfl)
theorem zr {k p n : Nat} {q : ClassId} {f f' : Nat → Option Nat} (h : cHp g B (WZ g B) H) (hW : (WZ g B)[p]? = some (.inl (q, n, .inr (.inr (.inr (.inr f)))))) (hp : plc k = p) (hz : xcell g sZ k = .inl (q, n, .inr (.inr (.inr (.inr f'))))) (hf : ∀ j, j < n → f j = f' j) : va_at g.2.2.1 classes (B + plc k, xcell g sZ k) H := by
  rw [hz, hp]
  have h1 := h.2 p (B + p, .inl (q, n, .inr (.inr (.inr (.inr f))))) (by rw [cw_get, hW]; rfl)
  show H[B + p]? = some (arrV q n (fun j => va_rf (f' j)))
  rw [← arrV_same (f := fun j => va_rf (f j)) (fun j hj => by rw [hf j hj])]
  exact h1

set_option maxRecDepth 20000
set_option maxHeartbeats 3000000 in
theorem z_0 (h : cHp (gZ l B st D ca) B (WZ (gZ l B st D ca) B) H) : ∀ k, 0 ≤ k → k < 35 → va_at D classes (B + plc k, xcell (gZ l B st D ca) sZ k) H := by
  intro k h0 h1
  rcases (show k = 0 ∨ k = 1 ∨ k = 2 ∨ k = 3 ∨ k = 4 ∨ k = 5 ∨ k = 6 ∨ k = 7 ∨ k = 8 ∨ k = 9 ∨ k = 10 ∨ k = 11 ∨ k = 12 ∨ k = 13 ∨ k = 14 ∨ k = 15 ∨ k = 16 ∨ k = 17 ∨ k = 18 ∨ k = 19 ∨ k = 20 ∨ k = 21 ∨ k = 22 ∨ k = 23 ∨ k = 24 ∨ k = 25 ∨ k = 26 ∨ k = 27 ∨ k = 28 ∨ k = 29 ∨ k = 30 ∨ k = 31 ∨ k = 32 ∨ k = 33 ∨ k = 34 by omega) with rfl | rfl | rfl | rfl | rfl | rfl | rfl | rfl | rfl | rfl | rfl | rfl | rfl | rfl | rfl | rfl | rfl | rfl | rfl | rfl | rfl | rfl | rfl | rfl | rfl | rfl | rfl | rfl | rfl | rfl | rfl | rfl | rfl | rfl | rfl
  · exact zo h (WZ_0 (p := 0) rfl) rfl rfl
  · exact zo h (WZ_0 (p := 1) rfl) rfl rfl
  · exact zo h (WZ_0 (p := 2) rfl) rfl (xz_arr (by decide))
  · exact zr (f' := fun i => some ((gZ l B st D ca).2.1 (rf 3 i - 2))) h (WZ_0 (p := 3) rfl) rfl rfl (fun j hj => by
      rcases (show j = 0 ∨ j = 1 by omega) with rfl | rfl <;> rfl)
  · exact zo h (WZ_0 (p := 4) rfl) rfl rfl
  · exact zo h (WZ_0 (p := 5) rfl) rfl (xz_arr (by decide))
  · exact zo h (WZ_0 (p := 6) rfl) rfl (xz_arr (by decide))
  · exact zo h (WZ_0 (p := 7) rfl) rfl (xz_arr (by decide))
  · exact zo h (WZ_0 (p := 8) rfl) rfl (xz_arr (by decide))
  · exact zo h (WZ_0 (p := 9) rfl) rfl (xz_arr (by decide))
  · exact zo h (WZ_0 (p := 10) rfl) rfl (xz_arr (by decide))
  · exact zo h (WZ_0 (p := 11) rfl) rfl (xz_arr (by decide))
  · exact zo h (WZ_0 (p := 12) rfl) rfl (xz_arr (by decide))
  · exact zo h (WZ_0 (p := 13) rfl) rfl rfl
  · exact zo h (WZ_0 (p := 14) rfl) rfl (xz_arr (by decide))
  · exact zo h (WZ_0 (p := 15) rfl) rfl (xz_arr (by decide))
  · exact zo h (WZ_0 (p := 16) rfl) rfl (xz_arr (by decide))
  · exact zo h (WZ_0 (p := 17) rfl) rfl (xz_arr (by decide))
  · exact zo h (WZ_0 (p := 18) rfl) rfl (xz_arr (by decide))
  · exact zo h (WZ_0 (p := 19) rfl) rfl (xz_arr (by decide))
  · exact zo h (WZ_0 (p := 20) rfl) rfl (xz_arr (by decide))
  · exact zo h (WZ_0 (p := 21) rfl) rfl (xz_arr (by decide))
  · exact zr (f' := fun i => some ((gZ l B st D ca).2.1 (rf 22 i - 2))) h (WZ_0 (p := 22) rfl) rfl rfl (fun j hj => by
      rcases (show j = 0 ∨ j = 1 by omega) with rfl | rfl <;> rfl)
  · exact zo h (WZ_0 (p := 23) rfl) rfl rfl
  · exact zo h (WZ_0 (p := 24) rfl) rfl (xz_arr (by decide))
  · exact zo h (WZ_0 (p := 25) rfl) rfl (xz_arr (by decide))
  · exact zo h (WZ_0 (p := 26) rfl) rfl (xz_arr (by decide))
  · exact zo h (WZ_0 (p := 27) rfl) rfl rfl
  · exact zo h (WZ_0 (p := 28) rfl) rfl (xz_arr (by decide))
  · exact zo h (WZ_0 (p := 29) rfl) rfl (xz_arr (by decide))
  · exact zo h (WZ_0 (p := 30) rfl) rfl (xz_arr (by decide))
  · exact zo h (WZ_0 (p := 32) rfl) rfl rfl
  · exact zo h (WZ_0 (p := 33) rfl) rfl (xz_arr (by decide))
  · exact zr (f' := fun i => some ((gZ l B st D ca).2.1 (rf 33 i - 2))) h (WZ_0 (p := 34) rfl) rfl rfl (fun j hj => by
      rcases (show j = 0 ∨ j = 1 by omega) with rfl | rfl <;> rfl)
  · exact zo h (WZ_0 (p := 35) rfl) rfl rfl
set_option maxHeartbeats 3000000 in
theorem z_1 (h : cHp (gZ l B st D ca) B (WZ (gZ l B st D ca) B) H) : ∀ k, 35 ≤ k → k < 70 → va_at D classes (B + plc k, xcell (gZ l B st D ca) sZ k) H := by
  intro k h0 h1
  rcases (show k = 35 ∨ k = 36 ∨ k = 37 ∨ k = 38 ∨ k = 39 ∨ k = 40 ∨ k = 41 ∨ k = 42 ∨ k = 43 ∨ k = 44 ∨ k = 45 ∨ k = 46 ∨ k = 47 ∨ k = 48 ∨ k = 49 ∨ k = 50 ∨ k = 51 ∨ k = 52 ∨ k = 53 ∨ k = 54 ∨ k = 55 ∨ k = 56 ∨ k = 57 ∨ k = 58 ∨ k = 59 ∨ k = 60 ∨ k = 61 ∨ k = 62 ∨ k = 63 ∨ k = 64 ∨ k = 65 ∨ k = 66 ∨ k = 67 ∨ k = 68 ∨ k = 69 by omega) with rfl | rfl | rfl | rfl | rfl | rfl | rfl | rfl | rfl | rfl | rfl | rfl | rfl | rfl | rfl | rfl | rfl | rfl | rfl | rfl | rfl | rfl | rfl | rfl | rfl | rfl | rfl | rfl | rfl | rfl | rfl | rfl | rfl | rfl | rfl
  · exact zo h (WZ_0 (p := 36) rfl) rfl (xz_arr (by decide))
  · exact zo h (WZ_0 (p := 37) rfl) rfl (xz_arr (by decide))
  · exact zo h (WZ_0 (p := 38) rfl) rfl (xz_arr (by decide))
  · exact zo h (WZ_0 (p := 39) rfl) rfl (xz_arr (by decide))
  · exact zo h (WZ_0 (p := 40) rfl) rfl (xz_arr (by decide))
  · exact zo h (WZ_0 (p := 41) rfl) rfl (xz_arr (by decide))
  · exact zo h (WZ_0 (p := 42) rfl) rfl (xz_arr (by decide))
  · exact zo h (WZ_0 (p := 43) rfl) rfl (xz_arr (by decide))
  · exact zo h (WZ_0 (p := 44) rfl) rfl rfl
  · exact zo h (WZ_0 (p := 45) rfl) rfl (xz_arr (by decide))
  · exact zo h (WZ_0 (p := 46) rfl) rfl (xz_arr (by decide))
  · exact zo h (WZ_0 (p := 47) rfl) rfl (xz_arr (by decide))
  · exact zo h (WZ_0 (p := 48) rfl) rfl (xz_arr (by decide))
  · exact zo h (WZ_0 (p := 49) rfl) rfl (xz_arr (by decide))
  · exact zo h (WZ_0 (p := 50) rfl) rfl (xz_arr (by decide))
  · exact zo h (WZ_0 (p := 51) rfl) rfl (xz_arr (by decide))
  · exact zo h (WZ_0 (p := 52) rfl) rfl (xz_arr (by decide))
  · exact zr (f' := fun i => some ((gZ l B st D ca).2.1 (rf 52 i - 2))) h (WZ_0 (p := 53) rfl) rfl rfl (fun j hj => by
      rcases (show j = 0 ∨ j = 1 by omega) with rfl | rfl <;> rfl)
  · exact zo h (WZ_0 (p := 54) rfl) rfl rfl
  · exact zo h (WZ_0 (p := 55) rfl) rfl (xz_arr (by decide))
  · exact zo h (WZ_0 (p := 56) rfl) rfl (xz_arr (by decide))
  · exact zo h (WZ_0 (p := 57) rfl) rfl (xz_arr (by decide))
  · exact zo h (WZ_0 (p := 58) rfl) rfl rfl
  · exact zo h (WZ_0 (p := 59) rfl) rfl (xz_arr (by decide))
  · exact zo h (WZ_1 (p := 0) rfl) rfl (xz_arr (by decide))
  · exact zo h (WZ_1 (p := 1) rfl) rfl (xz_arr (by decide))
  · exact zo h (WZ_1 (p := 2) rfl) rfl rfl
  · exact zo h (WZ_1 (p := 3) rfl) rfl (xz_arr (by decide))
  · exact zr (f' := fun i => some ((gZ l B st D ca).2.1 (rf 63 i - 2))) h (WZ_1 (p := 4) rfl) rfl rfl (fun j hj => by
      rcases (show j = 0 ∨ j = 1 by omega) with rfl | rfl <;> rfl)
  · exact zo h (WZ_1 (p := 5) rfl) rfl rfl
  · exact zo h (WZ_1 (p := 6) rfl) rfl (xz_arr (by decide))
  · exact zo h (WZ_1 (p := 7) rfl) rfl (xz_arr (by decide))
  · exact zo h (WZ_1 (p := 8) rfl) rfl (xz_arr (by decide))
  · exact zo h (WZ_1 (p := 9) rfl) rfl (xz_arr (by decide))
  · exact zo h (WZ_1 (p := 10) rfl) rfl (xz_arr (by decide))
set_option maxHeartbeats 3000000 in
theorem z_2 (h : cHp (gZ l B st D ca) B (WZ (gZ l B st D ca) B) H) : ∀ k, 70 ≤ k → k < 105 → va_at D classes (B + plc k, xcell (gZ l B st D ca) sZ k) H := by
  intro k h0 h1
  rcases (show k = 70 ∨ k = 71 ∨ k = 72 ∨ k = 73 ∨ k = 74 ∨ k = 75 ∨ k = 76 ∨ k = 77 ∨ k = 78 ∨ k = 79 ∨ k = 80 ∨ k = 81 ∨ k = 82 ∨ k = 83 ∨ k = 84 ∨ k = 85 ∨ k = 86 ∨ k = 87 ∨ k = 88 ∨ k = 89 ∨ k = 90 ∨ k = 91 ∨ k = 92 ∨ k = 93 ∨ k = 94 ∨ k = 95 ∨ k = 96 ∨ k = 97 ∨ k = 98 ∨ k = 99 ∨ k = 100 ∨ k = 101 ∨ k = 102 ∨ k = 103 ∨ k = 104 by omega) with rfl | rfl | rfl | rfl | rfl | rfl | rfl | rfl | rfl | rfl | rfl | rfl | rfl | rfl | rfl | rfl | rfl | rfl | rfl | rfl | rfl | rfl | rfl | rfl | rfl | rfl | rfl | rfl | rfl | rfl | rfl | rfl | rfl | rfl | rfl
  · exact zo h (WZ_1 (p := 11) rfl) rfl (xz_arr (by decide))
  · exact zo h (WZ_1 (p := 12) rfl) rfl (xz_arr (by decide))
  · exact zo h (WZ_1 (p := 13) rfl) rfl (xz_arr (by decide))
  · exact zo h (WZ_1 (p := 14) rfl) rfl rfl
  · exact zo h (WZ_1 (p := 15) rfl) rfl (xz_arr (by decide))
  · exact zo h (WZ_1 (p := 16) rfl) rfl (xz_arr (by decide))
  · exact zo h (WZ_1 (p := 17) rfl) rfl (xz_arr (by decide))
  · exact zo h (WZ_1 (p := 18) rfl) rfl (xz_arr (by decide))
  · exact zo h (WZ_1 (p := 19) rfl) rfl (xz_arr (by decide))
  · exact zo h (WZ_1 (p := 20) rfl) rfl (xz_arr (by decide))
  · exact zo h (WZ_1 (p := 21) rfl) rfl (xz_arr (by decide))
  · exact zo h (WZ_1 (p := 22) rfl) rfl (xz_arr (by decide))
  · exact zr (f' := fun i => some ((gZ l B st D ca).2.1 (rf 82 i - 2))) h (WZ_1 (p := 23) rfl) rfl rfl (fun j hj => by
      rcases (show j = 0 ∨ j = 1 by omega) with rfl | rfl <;> rfl)
  · exact zo h (WZ_1 (p := 24) rfl) rfl rfl
  · exact zo h (WZ_1 (p := 25) rfl) rfl (xz_arr (by decide))
  · exact zo h (WZ_1 (p := 26) rfl) rfl (xz_arr (by decide))
  · exact zo h (WZ_1 (p := 27) rfl) rfl (xz_arr (by decide))
  · exact zo h (WZ_1 (p := 28) rfl) rfl rfl
  · exact zo h (WZ_1 (p := 29) rfl) rfl (xz_arr (by decide))
  · exact zo h (WZ_1 (p := 30) rfl) rfl (xz_arr (by decide))
  · exact zo h (WZ_1 (p := 31) rfl) rfl (xz_arr (by decide))
  · exact zo h (WZ_1 (p := 32) rfl) rfl rfl
  · exact zo h (WZ_1 (p := 33) rfl) rfl (xz_arr (by decide))
  · exact zr (f' := fun i => some ((gZ l B st D ca).2.1 (rf 93 i - 2))) h (WZ_1 (p := 34) rfl) rfl rfl (fun j hj => by
      rcases (show j = 0 ∨ j = 1 by omega) with rfl | rfl <;> rfl)
  · exact zo h (WZ_1 (p := 35) rfl) rfl rfl
  · exact zo h (WZ_1 (p := 36) rfl) rfl (xz_arr (by decide))
  · exact zo h (WZ_1 (p := 37) rfl) rfl (xz_arr (by decide))
  · exact zo h (WZ_1 (p := 38) rfl) rfl (xz_arr (by decide))
  · exact zo h (WZ_1 (p := 39) rfl) rfl (xz_arr (by decide))
  · exact zo h (WZ_1 (p := 40) rfl) rfl (xz_arr (by decide))
  · exact zo h (WZ_1 (p := 41) rfl) rfl (xz_arr (by decide))
  · exact zo h (WZ_1 (p := 42) rfl) rfl (xz_arr (by decide))
  · exact zo h (WZ_1 (p := 43) rfl) rfl (xz_arr (by decide))
  · exact zo h (WZ_1 (p := 44) rfl) rfl rfl
  · exact zo h (WZ_1 (p := 45) rfl) rfl (xz_arr (by decide))
set_option maxHeartbeats 3000000 in
theorem z_3 (h : cHp (gZ l B st D ca) B (WZ (gZ l B st D ca) B) H) : ∀ k, 105 ≤ k → k < 140 → va_at D classes (B + plc k, xcell (gZ l B st D ca) sZ k) H := by
  intro k h0 h1
  rcases (show k = 105 ∨ k = 106 ∨ k = 107 ∨ k = 108 ∨ k = 109 ∨ k = 110 ∨ k = 111 ∨ k = 112 ∨ k = 113 ∨ k = 114 ∨ k = 115 ∨ k = 116 ∨ k = 117 ∨ k = 118 ∨ k = 119 ∨ k = 120 ∨ k = 121 ∨ k = 122 ∨ k = 123 ∨ k = 124 ∨ k = 125 ∨ k = 126 ∨ k = 127 ∨ k = 128 ∨ k = 129 ∨ k = 130 ∨ k = 131 ∨ k = 132 ∨ k = 133 ∨ k = 134 ∨ k = 135 ∨ k = 136 ∨ k = 137 ∨ k = 138 ∨ k = 139 by omega) with rfl | rfl | rfl | rfl | rfl | rfl | rfl | rfl | rfl | rfl | rfl | rfl | rfl | rfl | rfl | rfl | rfl | rfl | rfl | rfl | rfl | rfl | rfl | rfl | rfl | rfl | rfl | rfl | rfl | rfl | rfl | rfl | rfl | rfl | rfl
  · exact zo h (WZ_1 (p := 46) rfl) rfl (xz_arr (by decide))
  · exact zo h (WZ_1 (p := 47) rfl) rfl (xz_arr (by decide))
  · exact zo h (WZ_1 (p := 48) rfl) rfl (xz_arr (by decide))
  · exact zo h (WZ_1 (p := 49) rfl) rfl (xz_arr (by decide))
  · exact zo h (WZ_1 (p := 50) rfl) rfl (xz_arr (by decide))
  · exact zo h (WZ_1 (p := 51) rfl) rfl (xz_arr (by decide))
  · exact zo h (WZ_1 (p := 52) rfl) rfl (xz_arr (by decide))
  · exact zr (f' := fun i => some ((gZ l B st D ca).2.1 (rf 112 i - 2))) h (WZ_1 (p := 53) rfl) rfl rfl (fun j hj => by
      rcases (show j = 0 ∨ j = 1 by omega) with rfl | rfl <;> rfl)
  · exact zo h (WZ_1 (p := 54) rfl) rfl rfl
  · exact zo h (WZ_1 (p := 55) rfl) rfl (xz_arr (by decide))
  · exact zo h (WZ_1 (p := 56) rfl) rfl (xz_arr (by decide))
  · exact zo h (WZ_1 (p := 57) rfl) rfl (xz_arr (by decide))
  · exact zo h (WZ_1 (p := 58) rfl) rfl rfl
  · exact zo h (WZ_1 (p := 59) rfl) rfl (xz_arr (by decide))
  · exact zo h (WZ_2 (p := 0) rfl) rfl (xz_arr (by decide))
  · exact zo h (WZ_2 (p := 1) rfl) rfl (xz_arr (by decide))
  · exact zr (f' := fun i => some ((gZ l B st D ca).2.1 (rf 121 i - 2))) h (WZ_0 (p := 31) rfl) rfl rfl (fun j hj => by
      rcases (show j = 0 ∨ j = 1 ∨ j = 2 by omega) with rfl | rfl | rfl <;> rfl)
  · exact zo h (WZ_2 (p := 2) rfl) rfl (xz_arr (by decide))
  · exact zo h (WZ_2 (p := 3) rfl) rfl rfl
  · exact zo h (WZ_2 (p := 4) rfl) rfl rfl
  · exact zo h (WZ_2 (p := 5) rfl) rfl (xz_arr (by decide))
  · exact zo h (WZ_2 (p := 6) rfl) rfl (xz_arr (by decide))
  · exact zo h (WZ_2 (p := 7) rfl) rfl (xz_arr (by decide))
  · exact zo h (WZ_2 (p := 8) rfl) rfl (xz_arr (by decide))
  · exact zo h (WZ_2 (p := 9) rfl) rfl (xz_arr (by decide))
  · exact zo h (WZ_2 (p := 10) rfl) rfl (xz_arr (by decide))
  · exact zo h (WZ_2 (p := 11) rfl) rfl (xz_arr (by decide))
  · exact zo h (WZ_2 (p := 12) rfl) rfl (xz_arr (by decide))
  · exact zo h (WZ_2 (p := 13) rfl) rfl rfl
  · exact zo h (WZ_2 (p := 14) rfl) rfl (xz_arr (by decide))
  · exact zo h (WZ_2 (p := 15) rfl) rfl (xz_arr (by decide))
  · exact zo h (WZ_2 (p := 16) rfl) rfl (xz_arr (by decide))
  · exact zo h (WZ_2 (p := 17) rfl) rfl (xz_arr (by decide))
  · exact zo h (WZ_2 (p := 18) rfl) rfl rfl
  · exact zo h (WZ_2 (p := 19) rfl) rfl (xz_arr (by decide))
set_option maxHeartbeats 3000000 in
theorem z_4 (h : cHp (gZ l B st D ca) B (WZ (gZ l B st D ca) B) H) : ∀ k, 140 ≤ k → k < 175 → va_at D classes (B + plc k, xcell (gZ l B st D ca) sZ k) H := by
  intro k h0 h1
  rcases (show k = 140 ∨ k = 141 ∨ k = 142 ∨ k = 143 ∨ k = 144 ∨ k = 145 ∨ k = 146 ∨ k = 147 ∨ k = 148 ∨ k = 149 ∨ k = 150 ∨ k = 151 ∨ k = 152 ∨ k = 153 ∨ k = 154 ∨ k = 155 ∨ k = 156 ∨ k = 157 ∨ k = 158 ∨ k = 159 ∨ k = 160 ∨ k = 161 ∨ k = 162 ∨ k = 163 ∨ k = 164 ∨ k = 165 ∨ k = 166 ∨ k = 167 ∨ k = 168 ∨ k = 169 ∨ k = 170 ∨ k = 171 ∨ k = 172 ∨ k = 173 ∨ k = 174 by omega) with rfl | rfl | rfl | rfl | rfl | rfl | rfl | rfl | rfl | rfl | rfl | rfl | rfl | rfl | rfl | rfl | rfl | rfl | rfl | rfl | rfl | rfl | rfl | rfl | rfl | rfl | rfl | rfl | rfl | rfl | rfl | rfl | rfl | rfl | rfl
  · exact zo h (WZ_2 (p := 20) rfl) rfl (xz_arr (by decide))
  · exact zo h (WZ_2 (p := 21) rfl) rfl (xz_arr (by decide))
  · exact zo h (WZ_2 (p := 22) rfl) rfl (xz_arr (by decide))
  · exact zo h (WZ_2 (p := 23) rfl) rfl rfl
  · exact zo h (WZ_2 (p := 24) rfl) rfl rfl
  · exact zo h (WZ_2 (p := 25) rfl) rfl (xz_arr (by decide))
  · exact zo h (WZ_2 (p := 26) rfl) rfl (xz_arr (by decide))
  · exact zo h (WZ_2 (p := 27) rfl) rfl (xz_arr (by decide))
  · exact zo h (WZ_2 (p := 28) rfl) rfl (xz_arr (by decide))
  · exact zo h (WZ_2 (p := 29) rfl) rfl (xz_arr (by decide))
  · exact zo h (WZ_2 (p := 30) rfl) rfl (xz_arr (by decide))
  · exact zo h (WZ_2 (p := 31) rfl) rfl (xz_arr (by decide))
  · exact zo h (WZ_2 (p := 32) rfl) rfl (xz_arr (by decide))
  · exact zo h (WZ_2 (p := 33) rfl) rfl (xz_arr (by decide))
  · exact zo h (WZ_2 (p := 34) rfl) rfl (xz_arr (by decide))
  · exact zo h (WZ_2 (p := 35) rfl) rfl (xz_arr (by decide))
  · exact zo h (WZ_2 (p := 36) rfl) rfl rfl
  · exact zo h (WZ_2 (p := 37) rfl) rfl rfl
  · exact zo h (WZ_2 (p := 38) rfl) rfl (xz_arr (by decide))
  · exact zo h (WZ_2 (p := 39) rfl) rfl (xz_arr (by decide))
  · exact zo h (WZ_2 (p := 40) rfl) rfl (xz_arr (by decide))
  · exact zo h (WZ_2 (p := 41) rfl) rfl (xz_arr (by decide))
  · exact zo h (WZ_2 (p := 42) rfl) rfl (xz_arr (by decide))
  · exact zo h (WZ_2 (p := 43) rfl) rfl (xz_arr (by decide))
  · exact zo h (WZ_2 (p := 44) rfl) rfl (xz_arr (by decide))
  · exact zo h (WZ_2 (p := 45) rfl) rfl (xz_arr (by decide))
  · exact zo h (WZ_2 (p := 46) rfl) rfl (xz_arr (by decide))
  · exact zo h (WZ_2 (p := 47) rfl) rfl (xz_arr (by decide))
  · exact zo h (WZ_2 (p := 48) rfl) rfl (xz_arr (by decide))
  · exact zo h (WZ_2 (p := 49) rfl) rfl rfl
  · exact zo h (WZ_2 (p := 50) rfl) rfl (xz_arr (by decide))
  · exact zo h (WZ_2 (p := 51) rfl) rfl rfl
  · exact zo h (WZ_2 (p := 52) rfl) rfl (xz_arr (by decide))
  · exact zo h (WZ_2 (p := 53) rfl) rfl (xz_arr (by decide))
  · exact zo h (WZ_2 (p := 54) rfl) rfl (xz_arr (by decide))
theorem gZ_ad {k : Nat} (hk : k < 175) : (gZ l B st D ca).2.1 k = B + plc k := if_pos hk
theorem gZ_st {k : Nat} (hk : 175 ≤ k) : (gZ l B st D ca).2.1 k = st k := if_neg (Nat.not_lt.mpr hk)
theorem rg_get {n i k : Nat} (h : (List.range n)[i]? = some k) : k = i ∧ i < n := by
  obtain ⟨h1, h2⟩ := List.getElem?_eq_some_iff.mp h
  rw [List.getElem_range] at h2
  rw [List.length_range] at h1
  exact ⟨h2.symm, h1⟩
theorem first_world (h : cHp (gZ l B st D ca) B (WZ (gZ l B st D ca) B) H) : aHp (gZ l B st D ca) sZ (List.range 175) H := by
  intro i q hq
  obtain ⟨k, h1, rfl⟩ := aws_of hq
  have hk : k < 175 := by have := rg_get h1; omega
  rw [gZ_ad hk]
  rcases (show k < 35 ∨ (35 ≤ k ∧ k < 70) ∨ (70 ≤ k ∧ k < 105) ∨ (105 ≤ k ∧ k < 140) ∨ 140 ≤ k by omega) with z | z | z | z | z
  · exact z_0 h k (Nat.zero_le _) z
  · exact z_1 h k z.1 z.2
  · exact z_2 h k z.1 z.2
  · exact z_3 h k z.1 z.2
  · exact z_4 h k z hk
theorem gZ_inj {i j p q : Nat} (hp : (List.range 175)[i]? = some p) (hq : (List.range 175)[j]? = some q) (h : (gZ l B st D ca).2.1 p = (gZ l B st D ca).2.1 q) : i = j := by
  obtain ⟨rfl, h1⟩ := rg_get hp
  obtain ⟨rfl, h2⟩ := rg_get hq
  rw [gZ_ad h1, gZ_ad h2] at h
  exact plc_inj (by omega)
theorem gZ_at {k : Nat} (hk : k < 175) : B ≤ (gZ l B st D ca).2.1 k := by
  rw [gZ_ad hk]
  exact Nat.le_add_right _ _
end ZZ
