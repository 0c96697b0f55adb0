def RX0 : String := "ShakenBread$Book"
def TX0 : u_T := fun k => match k with
  | 0 => ("ShakenBread$Book", "notes", "I", false)
  | 1 => ("ShakenBread$Book", "who", "[I", true)
  | 2 => ("ShakenBread$Book", "hour", "[I", true)
  | _ => ("ShakenBread$Book", "bread", "[I", true)
def tyX0 : Nat → FieldType := fun k => match k with
  | 0 => .int
  | 1 => .array .int
  | 2 => .array .int
  | _ => .array .int
theorem nmX0 : ∀ a, a < 4 → ∀ b, b < 4 → a ≠ b → (TX0 a).2.1 ≠ (TX0 b).2.1 := by decide +kernel
theorem tyX0_ok : ∀ k, k < 4 → parseFieldDescriptor (TX0 k).2.2.1 = some (tyX0 k) := by decide +kernel
def RX1 : String := "ShakenBread$Hands"
def TX1 : u_T := fun k => match k with
  | 0 => ("ShakenBread$Hands", "first", "[I", true)
  | 1 => ("ShakenBread$Hands", "second", "[I", true)
  | 2 => ("ShakenBread$Hands", "giver", "[I", true)
  | 3 => ("ShakenBread$Hands", "end", "[I", true)
  | _ => ("ShakenBread$Hands", "count", "I", false)
def tyX1 : Nat → FieldType := fun k => match k with
  | 0 => .array .int
  | 1 => .array .int
  | 2 => .array .int
  | 3 => .array .int
  | _ => .int
theorem nmX1 : ∀ a, a < 5 → ∀ b, b < 5 → a ≠ b → (TX1 a).2.1 ≠ (TX1 b).2.1 := by decide +kernel
theorem tyX1_ok : ∀ k, k < 5 → parseFieldDescriptor (TX1 k).2.2.1 = some (tyX1 k) := by decide +kernel
def RX2 : String := "ShakenBread$Plan"
def TX2 : u_T := fun k => match k with
  | 0 => ("ShakenBread$Plan", "people", "I", false)
  | 1 => ("ShakenBread$Plan", "hours", "I", false)
  | 2 => ("ShakenBread$Plan", "law", "I", false)
  | 3 => ("ShakenBread$Plan", "need", "I", false)
  | 4 => ("ShakenBread$Plan", "every", "I", false)
  | 5 => ("ShakenBread$Plan", "gloved", "I", false)
  | 6 => ("ShakenBread$Plan", "loafTo", "I", false)
  | 7 => ("ShakenBread$Plan", "loafHour", "I", false)
  | 8 => ("ShakenBread$Plan", "loafSize", "I", false)
  | 9 => ("ShakenBread$Plan", "start", "[I", true)
  | 10 => ("ShakenBread$Plan", "rank", "[I", true)
  | 11 => ("ShakenBread$Plan", "open", "[I", true)
  | _ => ("ShakenBread$Plan", "where", "[I", true)
def tyX2 : Nat → FieldType := fun k => match k with
  | 0 => .int
  | 1 => .int
  | 2 => .int
  | 3 => .int
  | 4 => .int
  | 5 => .int
  | 6 => .int
  | 7 => .int
  | 8 => .int
  | 9 => .array .int
  | 10 => .array .int
  | 11 => .array .int
  | _ => .array .int
theorem nmX2 : ∀ a, a < 13 → ∀ b, b < 13 → a ≠ b → (TX2 a).2.1 ≠ (TX2 b).2.1 := by decide +kernel
theorem tyX2_ok : ∀ k, k < 13 → parseFieldDescriptor (TX2 k).2.2.1 = some (tyX2 k) := by decide +kernel
def RX3 : String := "ShakenBread$Reader"
def TX3 : u_T := fun k => match k with
  | 0 => ("ShakenBread$Reader", "town", "LShakenBread$Town;", true)
  | 1 => ("ShakenBread$Reader", "book", "LShakenBread$Book;", true)
  | 2 => ("ShakenBread$Reader", "fault", "I", false)
  | 3 => ("ShakenBread$Reader", "place", "I", false)
  | 4 => ("ShakenBread$Reader", "numbers", "[I", true)
  | 5 => ("ShakenBread$Reader", "tape", "[B", false)
  | 6 => ("ShakenBread$Reader", "length", "I", false)
  | 7 => ("ShakenBread$Reader", "next", "I", false)
  | 8 => ("ShakenBread$Reader", "token", "I", false)
  | 9 => ("ShakenBread$Reader", "start", "I", false)
  | 10 => ("ShakenBread$Reader", "value", "I", false)
  | 11 => ("ShakenBread$Reader", "manner", "I", false)
  | 12 => ("ShakenBread$Reader", "toldPeople", "I", false)
  | 13 => ("ShakenBread$Reader", "toldQuarrels", "I", false)
  | 14 => ("ShakenBread$Reader", "toldNotes", "I", false)
  | 15 => ("ShakenBread$Reader", "highestPerson", "I", false)
  | _ => ("ShakenBread$Reader", "highestCell", "I", false)
def tyX3 : Nat → FieldType := fun k => match k with
  | 0 => .object "ShakenBread$Town"
  | 1 => .object "ShakenBread$Book"
  | 2 => .int
  | 3 => .int
  | 4 => .array .int
  | 5 => .array .byte
  | 6 => .int
  | 7 => .int
  | 8 => .int
  | 9 => .int
  | 10 => .int
  | 11 => .int
  | 12 => .int
  | 13 => .int
  | 14 => .int
  | 15 => .int
  | _ => .int
theorem nmX3 : ∀ a, a < 17 → ∀ b, b < 17 → a ≠ b → (TX3 a).2.1 ≠ (TX3 b).2.1 := by decide +kernel
theorem tyX3_ok : ∀ k, k < 17 → parseFieldDescriptor (TX3 k).2.2.1 = some (tyX3 k) := by decide +kernel
def RX4 : String := "ShakenBread$Run"
def TX4 : u_T := fun k => match k with
  | 0 => ("ShakenBread$Run", "people", "I", false)
  | 1 => ("ShakenBread$Run", "hours", "I", false)
  | 2 => ("ShakenBread$Run", "need", "I", false)
  | 3 => ("ShakenBread$Run", "every", "I", false)
  | 4 => ("ShakenBread$Run", "log", "LShakenBread$Hands;", true)
  | 5 => ("ShakenBread$Run", "bread", "[I", true)
  | 6 => ("ShakenBread$Run", "met", "[I", true)
  | 7 => ("ShakenBread$Run", "came", "[I", true)
  | 8 => ("ShakenBread$Run", "lives", "[I", true)
  | 9 => ("ShakenBread$Run", "shakes", "[I", true)
  | 10 => ("ShakenBread$Run", "gone", "[I", true)
  | 11 => ("ShakenBread$Run", "now", "[I", true)
  | _ => ("ShakenBread$Run", "alive", "I", false)
def tyX4 : Nat → FieldType := fun k => match k with
  | 0 => .int
  | 1 => .int
  | 2 => .int
  | 3 => .int
  | 4 => .object "ShakenBread$Hands"
  | 5 => .array .int
  | 6 => .array .int
  | 7 => .array .int
  | 8 => .array .int
  | 9 => .array .int
  | 10 => .array .int
  | 11 => .array .int
  | _ => .int
theorem nmX4 : ∀ a, a < 13 → ∀ b, b < 13 → a ≠ b → (TX4 a).2.1 ≠ (TX4 b).2.1 := by decide +kernel
theorem tyX4_ok : ∀ k, k < 13 → parseFieldDescriptor (TX4 k).2.2.1 = some (tyX4 k) := by decide +kernel
def RX5 : String := "ShakenBread$Told"
def TX5 : u_T := fun k => match k with
  | 0 => ("ShakenBread$Told", "tape", "[B", true)
  | 1 => ("ShakenBread$Told", "towns", "[LShakenBread$Town;", true)
  | 2 => ("ShakenBread$Told", "books", "[LShakenBread$Book;", true)
  | 3 => ("ShakenBread$Told", "length", "I", false)
  | 4 => ("ShakenBread$Told", "fault", "I", false)
  | 5 => ("ShakenBread$Told", "place", "I", false)
  | 6 => ("ShakenBread$Told", "townCount", "I", false)
  | _ => ("ShakenBread$Told", "bookCount", "I", false)
def tyX5 : Nat → FieldType := fun k => match k with
  | 0 => .array .byte
  | 1 => .array (.object "ShakenBread$Town")
  | 2 => .array (.object "ShakenBread$Book")
  | 3 => .int
  | 4 => .int
  | 5 => .int
  | 6 => .int
  | _ => .int
theorem nmX5 : ∀ a, a < 8 → ∀ b, b < 8 → a ≠ b → (TX5 a).2.1 ≠ (TX5 b).2.1 := by decide +kernel
theorem tyX5_ok : ∀ k, k < 8 → parseFieldDescriptor (TX5 k).2.2.1 = some (tyX5 k) := by decide +kernel
def RX6 : String := "ShakenBread$Town"
def TX6 : u_T := fun k => match k with
  | 0 => ("ShakenBread$Town", "columns", "I", false)
  | 1 => ("ShakenBread$Town", "rows", "I", false)
  | 2 => ("ShakenBread$Town", "law", "I", false)
  | 3 => ("ShakenBread$Town", "hours", "I", false)
  | 4 => ("ShakenBread$Town", "need", "I", false)
  | 5 => ("ShakenBread$Town", "every", "I", false)
  | 6 => ("ShakenBread$Town", "people", "I", false)
  | 7 => ("ShakenBread$Town", "quarrels", "I", false)
  | 8 => ("ShakenBread$Town", "manner", "[I", true)
  | 9 => ("ShakenBread$Town", "cell", "[I", true)
  | 10 => ("ShakenBread$Town", "bread", "[I", true)
  | 11 => ("ShakenBread$Town", "extra", "[I", true)
  | 12 => ("ShakenBread$Town", "steps", "[I", true)
  | 13 => ("ShakenBread$Town", "errand", "[I", true)
  | 14 => ("ShakenBread$Town", "quarrelFirst", "[I", true)
  | _ => ("ShakenBread$Town", "quarrelSecond", "[I", true)
def tyX6 : Nat → FieldType := fun k => match k with
  | 0 => .int
  | 1 => .int
  | 2 => .int
  | 3 => .int
  | 4 => .int
  | 5 => .int
  | 6 => .int
  | 7 => .int
  | 8 => .array .int
  | 9 => .array .int
  | 10 => .array .int
  | 11 => .array .int
  | 12 => .array .int
  | 13 => .array .int
  | 14 => .array .int
  | _ => .array .int
theorem nmX6 : ∀ a, a < 16 → ∀ b, b < 16 → a ≠ b → (TX6 a).2.1 ≠ (TX6 b).2.1 := by decide +kernel
theorem tyX6_ok : ∀ k, k < 16 → parseFieldDescriptor (TX6 k).2.2.1 = some (tyX6 k) := by decide +kernel
def RX7 : String := "ShakenBread$Trials"
def TX7 : u_T := fun k => match k with
  | 0 => ("ShakenBread$Trials", "found", "[I", true)
  | 1 => ("ShakenBread$Trials", "plan", "LShakenBread$Plan;", true)
  | 2 => ("ShakenBread$Trials", "base", "LShakenBread$Run;", true)
  | _ => ("ShakenBread$Trials", "trial", "LShakenBread$Run;", true)
def tyX7 : Nat → FieldType := fun k => match k with
  | 0 => .array .int
  | 1 => .object "ShakenBread$Plan"
  | 2 => .object "ShakenBread$Run"
  | _ => .object "ShakenBread$Run"
theorem nmX7 : ∀ a, a < 4 → ∀ b, b < 4 → a ≠ b → (TX7 a).2.1 ≠ (TX7 b).2.1 := by decide +kernel
theorem tyX7_ok : ∀ k, k < 4 → parseFieldDescriptor (TX7 k).2.2.1 = some (tyX7 k) := by decide +kernel
def RX8 : String := "ShakenBread$Worlds"
def TX8 : u_T := fun k => match k with
  | 0 => ("ShakenBread$Worlds", "runs", "I", false)
  | 1 => ("ShakenBread$Worlds", "count", "I", false)
  | 2 => ("ShakenBread$Worlds", "doomed", "I", false)
  | 3 => ("ShakenBread$Worlds", "danger", "I", false)
  | 4 => ("ShakenBread$Worlds", "found", "[I", true)
  | 5 => ("ShakenBread$Worlds", "plan", "LShakenBread$Plan;", true)
  | 6 => ("ShakenBread$Worlds", "trial", "LShakenBread$Run;", true)
  | _ => ("ShakenBread$Worlds", "having", "[I", true)
def tyX8 : Nat → FieldType := fun k => match k with
  | 0 => .int
  | 1 => .int
  | 2 => .int
  | 3 => .int
  | 4 => .array .int
  | 5 => .object "ShakenBread$Plan"
  | 6 => .object "ShakenBread$Run"
  | _ => .array .int
theorem nmX8 : ∀ a, a < 8 → ∀ b, b < 8 → a ≠ b → (TX8 a).2.1 ≠ (TX8 b).2.1 := by decide +kernel
theorem tyX8_ok : ∀ k, k < 8 → parseFieldDescriptor (TX8 k).2.2.1 = some (tyX8 k) := by decide +kernel
def RX9 : String := "ShakenBread"
def TX9 : u_T := fun k => match k with
  | 0 => ("ShakenBread", "told", "LShakenBread$Told;", true)
  | 1 => ("ShakenBread", "images", "[LShakenBread$Told;", true)
  | 2 => ("ShakenBread", "kept", "[Z", true)
  | 3 => ("ShakenBread", "reader", "LShakenBread$Reader;", true)
  | 4 => ("ShakenBread", "plan", "LShakenBread$Plan;", true)
  | 5 => ("ShakenBread", "base", "LShakenBread$Run;", true)
  | 6 => ("ShakenBread", "other", "LShakenBread$Run;", true)
  | 7 => ("ShakenBread", "trials", "LShakenBread$Trials;", true)
  | 8 => ("ShakenBread", "worlds", "LShakenBread$Worlds;", true)
  | 9 => ("ShakenBread", "lookedTown", "I", false)
  | _ => ("ShakenBread", "lookedBook", "I", false)
def tyX9 : Nat → FieldType := fun k => match k with
  | 0 => .object "ShakenBread$Told"
  | 1 => .array (.object "ShakenBread$Told")
  | 2 => .array .boolean
  | 3 => .object "ShakenBread$Reader"
  | 4 => .object "ShakenBread$Plan"
  | 5 => .object "ShakenBread$Run"
  | 6 => .object "ShakenBread$Run"
  | 7 => .object "ShakenBread$Trials"
  | 8 => .object "ShakenBread$Worlds"
  | 9 => .int
  | _ => .int
theorem nmX9 : ∀ a, a < 11 → ∀ b, b < 11 → a ≠ b → (TX9 a).2.1 ≠ (TX9 b).2.1 := by decide +kernel
theorem tyX9_ok : ∀ k, k < 11 → parseFieldDescriptor (TX9 k).2.2.1 = some (tyX9 k) := by decide +kernel
abbrev classes : List vw_C := [(RX0, TX0, 4), (RX1, TX1, 5), (RX2, TX2, 13), (RX3, TX3, 17), (RX4, TX4, 13), (RX5, TX5, 8), (RX6, TX6, 16), (RX7, TX7, 4), (RX8, TX8, 8), (RX9, TX9, 11)]
def NB : Nat := 176
def kdL : List Nat := [9, 5, 21, 23, 6, 20, 20, 20, 20, 20, 20, 20, 20, 6, 20, 20, 20, 20, 20, 20, 20, 20, 24, 0, 20, 20, 20, 0, 20, 20, 20, 5, 21, 23, 6, 20, 20, 20, 20, 20, 20, 20, 20, 6, 20, 20, 20, 20, 20, 20, 20, 20, 24, 0, 20, 20, 20, 0, 20, 20, 20, 5, 21, 23, 6, 20, 20, 20, 20, 20, 20, 20, 20, 6, 20, 20, 20, 20, 20, 20, 20, 20, 24, 0, 20, 20, 20, 0, 20, 20, 20, 5, 21, 23, 6, 20, 20, 20, 20, 20, 20, 20, 20, 6, 20, 20, 20, 20, 20, 20, 20, 20, 24, 0, 20, 20, 20, 0, 20, 20, 20, 25, 22, 3, 6, 20, 20, 20, 20, 20, 20, 20, 20, 0, 20, 20, 20, 20, 2, 20, 20, 20, 20, 4, 1, 20, 20, 20, 20, 20, 20, 20, 20, 20, 20, 20, 4, 1, 20, 20, 20, 20, 20, 20, 20, 20, 20, 20, 20, 7, 20, 8, 20, 20, 20, 20, 20, 20, 20]
def lnL : List Nat := [0, 0, 600, 2, 0, 8, 8, 8, 8, 8, 96, 6, 6, 0, 8, 8, 8, 8, 8, 96, 6, 6, 2, 0, 8, 8, 8, 0, 8, 8, 8, 0, 600, 2, 0, 8, 8, 8, 8, 8, 96, 6, 6, 0, 8, 8, 8, 8, 8, 96, 6, 6, 2, 0, 8, 8, 8, 0, 8, 8, 8, 0, 600, 2, 0, 8, 8, 8, 8, 8, 96, 6, 6, 0, 8, 8, 8, 8, 8, 96, 6, 6, 2, 0, 8, 8, 8, 0, 8, 8, 8, 0, 600, 2, 0, 8, 8, 8, 8, 8, 96, 6, 6, 0, 8, 8, 8, 8, 8, 96, 6, 6, 2, 0, 8, 8, 8, 0, 8, 8, 8, 3, 3, 0, 0, 8, 8, 8, 8, 8, 96, 6, 6, 0, 8, 8, 8, 13, 0, 8, 8, 8, 192, 0, 0, 672, 672, 672, 24, 192, 192, 192, 24, 24, 24, 8, 0, 0, 672, 672, 672, 24, 192, 192, 192, 24, 24, 24, 8, 0, 4, 0, 3, 50880, 8, 180, 180, 180, 180]
def rfL : List (List Nat) := [[3, 123, 124, 125, 140, 145, 158, 171, 173, 0, 0], [4, 5, 24, 0, 0, 0, 0, 0], [], [6, 15], [0, 0, 0, 0, 0, 0, 0, 0, 7, 8, 9, 10, 11, 12, 13, 14], [], [], [], [], [], [], [], [], [0, 0, 0, 0, 0, 0, 0, 0, 16, 17, 18, 19, 20, 21, 22, 23], [], [], [], [], [], [], [], [], [25, 29], [0, 26, 27, 28], [], [], [], [0, 30, 31, 32], [], [], [], [34, 35, 54, 0, 0, 0, 0, 0], [], [36, 45], [0, 0, 0, 0, 0, 0, 0, 0, 37, 38, 39, 40, 41, 42, 43, 44], [], [], [], [], [], [], [], [], [0, 0, 0, 0, 0, 0, 0, 0, 46, 47, 48, 49, 50, 51, 52, 53], [], [], [], [], [], [], [], [], [55, 59], [0, 56, 57, 58], [], [], [], [0, 60, 61, 62], [], [], [], [64, 65, 84, 0, 0, 0, 0, 0], [], [66, 75], [0, 0, 0, 0, 0, 0, 0, 0, 67, 68, 69, 70, 71, 72, 73, 74], [], [], [], [], [], [], [], [], [0, 0, 0, 0, 0, 0, 0, 0, 76, 77, 78, 79, 80, 81, 82, 83], [], [], [], [], [], [], [], [], [85, 89], [0, 86, 87, 88], [], [], [], [0, 90, 91, 92], [], [], [], [94, 95, 114, 0, 0, 0, 0, 0], [], [96, 105], [0, 0, 0, 0, 0, 0, 0, 0, 97, 98, 99, 100, 101, 102, 103, 104], [], [], [], [], [], [], [], [], [0, 0, 0, 0, 0, 0, 0, 0, 106, 107, 108, 109, 110, 111, 112, 113], [], [], [], [], [], [], [], [], [115, 119], [0, 116, 117, 118], [], [], [], [0, 120, 121, 122], [], [], [], [33, 63, 93], [], [126, 135, 0, 0, 139, 1, 0, 0, 0, 0, 0, 0, 0, 0, 0, 0, 0], [0, 0, 0, 0, 0, 0, 0, 0, 127, 128, 129, 130, 131, 132, 133, 134], [], [], [], [], [], [], [], [], [0, 136, 137, 138], [], [], [], [], [0, 0, 0, 0, 0, 0, 0, 0, 0, 141, 142, 143, 144], [], [], [], [], [0, 0, 0, 0, 146, 151, 152, 153, 154, 155, 156, 157, 0], [147, 148, 149, 150, 0], [], [], [], [], [], [], [], [], [], [], [], [0, 0, 0, 0, 159, 164, 165, 166, 167, 168, 169, 170, 0], [160, 161, 162, 163, 0], [], [], [], [], [], [], [], [], [], [], [], [172, 140, 145, 158], [], [0, 0, 0, 0, 174, 140, 158, 175], [], [], [], [], [], [], []]
def kd (k : Nat) : Nat := kdL.getD k 99
def ln (k : Nat) : Nat := lnL.getD k 0
def rf (k j : Nat) : Nat := (rfL.getD k []).getD j 0
def nfL : List Nat := [4, 5, 13, 17, 13, 8, 16, 4, 8, 11]
def nf (c : Nat) : Nat := nfL.getD c 0
def stC : List String := ["ShakenBread$Reader", "ShakenBread$Reader", "ShakenBread$Reader", "ShakenBread$Reader", "ShakenBread$Reader"]
def stN : List String := ["FEWEST", "FEWEST", "MOST", "LOW", "HIGH"]
def stV : List (List Int) := [[2, 1, 2, 2, 2, 2, 2, 3], [2, 1, 2, 2, 2, 2, 2, 3], [2, 1, 2, 2, 600, 2, 2, 3], [2, 2, 0, 1, 0, 0, 0, 1, 0, 0, 0, 0, 0, 0, 0, 0, 0, 0, 0, 0, 0, 0, 0, 0], [6, 6, 0, 24, 0, 0, 9, 24, 0, 35, 30, 0, 7, 35, 35, 7, 3, 0, 7, 7, 0, 7, 23, 99]]
def srK : List Nat := [117, 144, 146, 148, 150, 130, 132, 134, 136, 138, 140, 142, 152, 154, 156, 158]
def srT : List String := ["pocket", "plain", "polite", "shy", "gloved", "size", "law", "hours", "eat", "errand", "extra", "quarrel", "more", "first", "less", "last"]
def srL : List Nat := [6, 5, 6, 3, 6, 4, 3, 5, 3, 6, 5, 7, 4, 5, 4, 4]
def srB : List (List Int32) := [[112, 111, 99, 107, 101, 116], [112, 108, 97, 105, 110], [112, 111, 108, 105, 116, 101], [115, 104, 121], [103, 108, 111, 118, 101, 100], [115, 105, 122, 101], [108, 97, 119], [104, 111, 117, 114, 115], [101, 97, 116], [101, 114, 114, 97, 110, 100], [101, 120, 116, 114, 97], [113, 117, 97, 114, 114, 101, 108], [109, 111, 114, 101], [102, 105, 114, 115, 116], [108, 101, 115, 115], [108, 97, 115, 116]]
set_option maxRecDepth 100000 in
def gw : List Cond := lw_tbl.filter goodWord
