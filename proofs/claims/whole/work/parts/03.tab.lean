/-! the tables: classes, fields, methods, instructions resolved (by program out of the claim's own names) -/
def RX0 : String := "BranchedSource$Combination"
def TX0 : u_T := fun k => match k with
  | 0 => ("BranchedSource$Combination", "oldTree", "[I", true)
  | 1 => ("BranchedSource$Combination", "newTree", "[I", true)
  | 2 => ("BranchedSource$Combination", "tree", "[I", true)
  | 3 => ("BranchedSource$Combination", "otherSides", "[I", true)
  | 4 => ("BranchedSource$Combination", "becoming", "I", false)
  | _ => ("BranchedSource$Combination", "conflicting", "I", false)
def tyX0 : Nat → FieldType := fun k => match k with
  | 0 => .array .int
  | 1 => .array .int
  | 2 => .array .int
  | 3 => .array .int
  | 4 => .int
  | _ => .int
theorem nmX0 : ∀ a, a < 6 → ∀ b, b < 6 → a ≠ b → (TX0 a).2.1 ≠ (TX0 b).2.1 := by decide +kernel
theorem tyX0_ok : ∀ k, k < 6 → parseFieldDescriptor (TX0 k).2.2.1 = some (tyX0 k) := by decide +kernel
def RX1 : String := "BranchedSource$Histories"
def TX1 : u_T := fun k => match k with
  | 0 => ("BranchedSource$Histories", "marks", "[I", true)
  | 1 => ("BranchedSource$Histories", "otherMarks", "[I", true)
  | _ => ("BranchedSource$Histories", "steps", "[I", true)
def tyX1 : Nat → FieldType := fun k => match k with
  | 0 => .array .int
  | 1 => .array .int
  | _ => .array .int
theorem nmX1 : ∀ a, a < 3 → ∀ b, b < 3 → a ≠ b → (TX1 a).2.1 ≠ (TX1 b).2.1 := by decide +kernel
theorem tyX1_ok : ∀ k, k < 3 → parseFieldDescriptor (TX1 k).2.2.1 = some (tyX1 k) := by decide +kernel
def RX2 : String := "BranchedSource$Pad"
def TX2 : u_T := fun k => match k with
  | 0 => ("BranchedSource$Pad", "signs", "[I", true)
  | _ => ("BranchedSource$Pad", "used", "I", false)
def tyX2 : Nat → FieldType := fun k => match k with
  | 0 => .array .int
  | _ => .int
theorem nmX2 : ∀ a, a < 2 → ∀ b, b < 2 → a ≠ b → (TX2 a).2.1 ≠ (TX2 b).2.1 := by decide +kernel
theorem tyX2_ok : ∀ k, k < 2 → parseFieldDescriptor (TX2 k).2.2.1 = some (tyX2 k) := by decide +kernel
def RX3 : String := "BranchedSource$Records"
def TX3 : u_T := fun k => match k with
  | 0 => ("BranchedSource$Records", "ring", "[LBranchedSource$State;", true)
  | 1 => ("BranchedSource$Records", "oldest", "I", false)
  | _ => ("BranchedSource$Records", "count", "I", false)
def tyX3 : Nat → FieldType := fun k => match k with
  | 0 => .array (.object "BranchedSource$State")
  | 1 => .int
  | _ => .int
theorem nmX3 : ∀ a, a < 3 → ∀ b, b < 3 → a ≠ b → (TX3 a).2.1 ≠ (TX3 b).2.1 := by decide +kernel
theorem tyX3_ok : ∀ k, k < 3 → parseFieldDescriptor (TX3 k).2.2.1 = some (tyX3 k) := by decide +kernel
def RX4 : String := "BranchedSource$Repository"
def TX4 : u_T := fun k => match k with
  | 0 => ("BranchedSource$Repository", "now", "LBranchedSource$State;", true)
  | 1 => ("BranchedSource$Repository", "histories", "LBranchedSource$Histories;", true)
  | 2 => ("BranchedSource$Repository", "combination", "LBranchedSource$Combination;", true)
  | _ => ("BranchedSource$Repository", "replayed", "[I", true)
def tyX4 : Nat → FieldType := fun k => match k with
  | 0 => .object "BranchedSource$State"
  | 1 => .object "BranchedSource$Histories"
  | 2 => .object "BranchedSource$Combination"
  | _ => .array .int
theorem nmX4 : ∀ a, a < 4 → ∀ b, b < 4 → a ≠ b → (TX4 a).2.1 ≠ (TX4 b).2.1 := by decide +kernel
theorem tyX4_ok : ∀ k, k < 4 → parseFieldDescriptor (TX4 k).2.2.1 = some (tyX4 k) := by decide +kernel
def RX5 : String := "BranchedSource$State"
def TX5 : u_T := fun k => match k with
  | 0 => ("BranchedSource$State", "commitCount", "I", false)
  | 1 => ("BranchedSource$State", "firstParents", "[I", true)
  | 2 => ("BranchedSource$State", "secondParents", "[I", true)
  | 3 => ("BranchedSource$State", "trees", "[I", true)
  | 4 => ("BranchedSource$State", "branchCommits", "[I", true)
  | 5 => ("BranchedSource$State", "currentBranch", "I", false)
  | 6 => ("BranchedSource$State", "work", "[I", true)
  | 7 => ("BranchedSource$State", "otherSides", "[I", true)
  | 8 => ("BranchedSource$State", "open", "I", false)
  | 9 => ("BranchedSource$State", "mergedCommit", "I", false)
  | 10 => ("BranchedSource$State", "asideCount", "I", false)
  | 11 => ("BranchedSource$State", "asideHeads", "[I", true)
  | 12 => ("BranchedSource$State", "asideTrees", "[I", true)
  | _ => ("BranchedSource$State", "conflictsSoFar", "I", false)
def tyX5 : Nat → FieldType := fun k => match k with
  | 0 => .int
  | 1 => .array .int
  | 2 => .array .int
  | 3 => .array .int
  | 4 => .array .int
  | 5 => .int
  | 6 => .array .int
  | 7 => .array .int
  | 8 => .int
  | 9 => .int
  | 10 => .int
  | 11 => .array .int
  | 12 => .array .int
  | _ => .int
theorem nmX5 : ∀ a, a < 14 → ∀ b, b < 14 → a ≠ b → (TX5 a).2.1 ≠ (TX5 b).2.1 := by decide +kernel
theorem tyX5_ok : ∀ k, k < 14 → parseFieldDescriptor (TX5 k).2.2.1 = some (tyX5 k) := by decide +kernel
def RX6 : String := "BranchedSource"
def TX6 : u_T := fun k => match k with
  | 0 => ("BranchedSource", "pad", "LBranchedSource$Pad;", true)
  | 1 => ("BranchedSource", "repository", "LBranchedSource$Repository;", true)
  | 2 => ("BranchedSource", "records", "LBranchedSource$Records;", true)
  | 3 => ("BranchedSource", "snapshot", "LBranchedSource$State;", true)
  | _ => ("BranchedSource", "hasSnapshot", "Z", false)
def tyX6 : Nat → FieldType := fun k => match k with
  | 0 => .object "BranchedSource$Pad"
  | 1 => .object "BranchedSource$Repository"
  | 2 => .object "BranchedSource$Records"
  | 3 => .object "BranchedSource$State"
  | _ => .boolean
theorem nmX6 : ∀ a, a < 5 → ∀ b, b < 5 → a ≠ b → (TX6 a).2.1 ≠ (TX6 b).2.1 := by decide +kernel
theorem tyX6_ok : ∀ k, k < 5 → parseFieldDescriptor (TX6 k).2.2.1 = some (tyX6 k) := by decide +kernel
def RX7 : String := "BranchedSourceModel"
def TX7 : u_T := fun k => match k with
  | 0 => ("BranchedSourceModel", "s", "[I", true)
  | 1 => ("BranchedSourceModel", "before", "[I", true)
  | 2 => ("BranchedSourceModel", "kept", "[I", true)
  | 3 => ("BranchedSourceModel", "isKept", "Z", false)
  | 4 => ("BranchedSourceModel", "past", "[I", true)
  | 5 => ("BranchedSourceModel", "known", "I", false)
  | 6 => ("BranchedSourceModel", "pad", "[I", true)
  | 7 => ("BranchedSourceModel", "length", "I", false)
  | 8 => ("BranchedSourceModel", "thrown", "I", false)
  | 9 => ("BranchedSourceModel", "sets", "[J", true)
  | 10 => ("BranchedSourceModel", "spot", "I", false)
  | 11 => ("BranchedSourceModel", "isForm", "Z", false)
  | 12 => ("BranchedSourceModel", "letter", "I", false)
  | 13 => ("BranchedSourceModel", "first", "I", false)
  | 14 => ("BranchedSourceModel", "second", "I", false)
  | 15 => ("BranchedSourceModel", "third", "I", false)
  | _ => ("BranchedSourceModel", "steps", "[I", true)
def tyX7 : Nat → FieldType := fun k => match k with
  | 0 => .array .int
  | 1 => .array .int
  | 2 => .array .int
  | 3 => .boolean
  | 4 => .array .int
  | 5 => .int
  | 6 => .array .int
  | 7 => .int
  | 8 => .int
  | 9 => .array .long
  | 10 => .int
  | 11 => .boolean
  | 12 => .int
  | 13 => .int
  | 14 => .int
  | 15 => .int
  | _ => .array .int
theorem nmX7 : ∀ a, a < 17 → ∀ b, b < 17 → a ≠ b → (TX7 a).2.1 ≠ (TX7 b).2.1 := by decide +kernel
theorem tyX7_ok : ∀ k, k < 17 → parseFieldDescriptor (TX7 k).2.2.1 = some (tyX7 k) := by decide +kernel
def am_TE : u_T := fun _ => ("", "", "", false)
def am_IAE : String := "java/lang/IllegalArgumentException"
def am_ISE : String := "java/lang/IllegalStateException"
abbrev am_cl : List vw_C := [(RX0, TX0, 6), (RX1, TX1, 3), (RX2, TX2, 2), (RX3, TX3, 3), (RX4, TX4, 4), (RX5, TX5, 14), (RX6, TX6, 5), (RX7, TX7, 17), (am_IAE, am_TE, 0), (am_ISE, am_TE, 0)]
def am_nm : Nat → String := fun c => match c with
  | 0 => RX0
  | 1 => RX1
  | 2 => RX2
  | 3 => RX3
  | 4 => RX4
  | 5 => RX5
  | 6 => RX6
  | 7 => RX7
  | 8 => "BranchedSourceLaw"
  | _ => "java/util/Arrays"
def am_T : Nat → u_T := fun c => match c with
  | 0 => TX0
  | 1 => TX1
  | 2 => TX2
  | 3 => TX3
  | 4 => TX4
  | 5 => TX5
  | 6 => TX6
  | 7 => TX7
  | _ => am_TE
def am_N : Nat → Nat := fun c => match c with
  | 0 => 6
  | 1 => 3
  | 2 => 2
  | 3 => 3
  | 4 => 4
  | 5 => 14
  | 6 => 5
  | 7 => 17
  | _ => 0
def am_ty : Nat → (Nat → FieldType) := fun c => match c with
  | 0 => tyX0
  | 1 => tyX1
  | 2 => tyX2
  | 3 => tyX3
  | 4 => tyX4
  | 5 => tyX5
  | 6 => tyX6
  | 7 => tyX7
  | _ => fun _ => .int
/-- the words that hold in every method's start: those of the law's table that a warmed machine keeps -/
def am_kw (w : Cond) : Bool := goodWord w || (match w with | .fieldLinkNest .. => true | .methodLinkNest .. => true | .castable .. => true | .declares .. => true | _ => false)
def am_gw : List Cond := lw_tbl.filter am_kw
theorem am_mem {w : Cond} (h : w ∈ lw_tbl) (hk : am_kw w = true) : w ∈ am_gw := List.mem_filter.mpr ⟨h, hk⟩
def am_at (i : Nat) (w : Cond) : Bool := decide (lw_tbl[i]? = some w) && am_kw w
theorem am_at_mem {i : Nat} {w : Cond} (h : am_at i w = true) : w ∈ am_gw := by
  simp only [am_at, Bool.and_eq_true, decide_eq_true_eq] at h
  exact am_mem (List.mem_of_getElem? h.1) h.2
def am_in (w : Cond) : Bool := decide (w ∈ lw_tbl) && am_kw w
theorem am_in_mem {w : Cond} (h : am_in w = true) : w ∈ am_gw := by
  simp only [am_in, Bool.and_eq_true, decide_eq_true_eq] at h
  exact am_mem h.1 h.2
/-- field links: own class, index, field, place of the word, 1 where it is a nest mate's -/
def am_fl : List (Nat × Nat × Nat × Nat × Nat) := [(0, 9, 0, 205, 0), (0, 15, 1, 207, 0), (0, 18, 2, 209, 0), (0, 21, 3, 211, 0), (0, 24, 4, 213, 0), (0, 28, 5, 216, 0), (1, 9, 32, 189, 0), (1, 15, 33, 190, 0), (1, 18, 34, 191, 0), (1, 45, 160, 127, 1), (2, 9, 64, 103, 0), (2, 15, 65, 104, 0), (3, 11, 96, 257, 0), (3, 17, 97, 258, 0), (3, 21, 98, 259, 0), (4, 12, 128, 232, 0), (4, 21, 129, 234, 0), (4, 28, 130, 236, 0), (4, 32, 131, 238, 0), (4, 44, 168, 142, 1), (4, 55, 169, 145, 1), (4, 69, 170, 147, 1), (4, 78, 5, 217, 1), (4, 84, 4, 214, 1), (4, 97, 165, 135, 1), (4, 129, 160, 128, 1), (4, 136, 2, 210, 1), (4, 167, 0, 206, 1), (4, 170, 1, 208, 1), (4, 173, 166, 138, 1), (4, 192, 3, 212, 1), (4, 195, 167, 140, 1), (4, 196, 173, 152, 1), (5, 9, 160, 126, 0), (5, 15, 161, 130, 0), (5, 19, 162, 131, 0), (5, 22, 163, 132, 0), (5, 25, 164, 133, 0), (5, 28, 165, 134, 0), (5, 31, 166, 137, 0), (5, 34, 167, 139, 0), (5, 37, 168, 141, 0), (5, 40, 169, 144, 0), (5, 43, 170, 146, 0), (5, 46, 171, 149, 0), (5, 49, 172, 150, 0), (5, 52, 173, 151, 0), (6, 12, 192, 270, 0), (6, 19, 193, 271, 0), (6, 26, 194, 272, 0), (6, 33, 195, 273, 0), (6, 37, 196, 274, 0), (6, 199, 128, 233, 1), (6, 217, 168, 143, 1), (6, 239, 129, 235, 1), (6, 254, 160, 129, 1), (6, 275, 165, 136, 1), (6, 281, 170, 148, 1), (6, 320, 130, 237, 1), (6, 324, 5, 218, 1), (6, 329, 4, 215, 1), (6, 335, 173, 153, 1), (6, 344, 98, 260, 1), (7, 7, 224, 1214, 0), (7, 13, 225, 1215, 0), (7, 16, 226, 1216, 0), (7, 19, 228, 1218, 0), (7, 22, 230, 1220, 0), (7, 25, 233, 1223, 0), (7, 29, 240, 1230, 0), (7, 32, 232, 1222, 0), (7, 40, 229, 1219, 0), (7, 198, 227, 1217, 0), (7, 206, 231, 1221, 0), (7, 209, 234, 1224, 0), (7, 212, 235, 1225, 0), (7, 225, 236, 1226, 0), (7, 228, 237, 1227, 0), (7, 231, 238, 1228, 0), (7, 237, 239, 1229, 0)]
def am_flw (q : Nat × Nat × Nat × Nat × Nat) : Cond := if q.2.2.2.2 = 1 then .fieldLinkNest (am_nm q.1) q.2.1 (am_T (q.2.2.1 / 32) (q.2.2.1 % 32)).1 (am_T (q.2.2.1 / 32) (q.2.2.1 % 32)).2.1 (am_T (q.2.2.1 / 32) (q.2.2.1 % 32)).2.2.1 "BranchedSource" else .fieldLink (am_nm q.1) q.2.1 (am_T (q.2.2.1 / 32) (q.2.2.1 % 32)).1 (am_T (q.2.2.1 / 32) (q.2.2.1 % 32)).2.1 (am_T (q.2.2.1 / 32) (q.2.2.1 % 32)).2.2.1
theorem am_fl_ok : am_fl.all (fun q => am_at q.2.2.2.1 (am_flw q)) = true := by decide +kernel
def am_flk (o i ck : Nat) : Bool := am_fl.any fun q => q.1 == o && q.2.1 == i && q.2.2.1 == ck
/-- method links: own class, index, method, place of the word, 1 where it is a nest mate's -/
def am_ml : List (Nat × Nat × Nat × Nat × Nat) := [(1, 21, 9000, 427, 0), (1, 27, 1017, 429, 0), (1, 31, 1015, 446, 0), (1, 35, 5007, 1043, 0), (1, 41, 5015, 428, 0), (1, 49, 1009, 1123, 0), (1, 53, 1008, 1127, 0), (1, 56, 5005, 438, 0), (1, 59, 5006, 442, 0), (1, 67, 1016, 432, 0), (1, 71, 5016, 925, 0), (2, 19, 2006, 302, 0), (2, 23, 2011, 306, 0), (2, 27, 2010, 312, 0), (2, 31, 2012, 309, 0), (2, 34, 2013, 315, 0), (3, 24, 5001, 256, 0), (3, 25, 3004, 590, 0), (3, 29, 5002, 594, 0), (4, 11, 5001, 119, 0), (4, 20, 1001, 185, 1), (4, 27, 1, 201, 1), (4, 36, 5022, 754, 0), (4, 40, 5024, 612, 0), (4, 48, 5029, 613, 0), (4, 51, 5004, 614, 0), (4, 58, 5013, 696, 0), (4, 62, 5016, 648, 0), (4, 65, 5020, 718, 0), (4, 72, 5032, 818, 0), (4, 75, 4029, 833, 0), (4, 81, 4031, 739, 0), (4, 87, 5018, 622, 0), (4, 90, 5019, 713, 0), (4, 93, 5014, 634, 0), (4, 100, 5015, 649, 0), (4, 103, 5026, 635, 0), (4, 106, 4025, 644, 0), (4, 109, 4026, 654, 0), (4, 112, 4027, 727, 0), (4, 115, 4032, 735, 0), (4, 119, 5003, 662, 0), (4, 122, 4028, 666, 0), (4, 126, 3, 684, 0), (4, 132, 1014, 921, 0), (4, 139, 5008, 675, 0), (4, 143, 1015, 926, 0), (4, 147, 4030, 670, 0), (4, 150, 2, 680, 0), (4, 153, 5027, 949, 0), (4, 156, 5021, 950, 0), (4, 159, 1002, 650, 0), (4, 163, 1011, 731, 0), (4, 182, 5033, 837, 0), (4, 185, 5034, 841, 0), (4, 189, 5005, 674, 0), (5, 55, 9000, 123, 0), (5, 73, 5007, 373, 0), (5, 76, 5006, 457, 0), (5, 80, 5012, 1027, 0), (5, 83, 5005, 1031, 0), (5, 86, 5016, 369, 0), (5, 90, 5020, 700, 0), (5, 94, 5015, 402, 0), (5, 97, 5014, 398, 0), (5, 101, 5019, 704, 0), (5, 105, 5008, 708, 0), (5, 109, 5021, 996, 0), (5, 112, 5024, 639, 0), (5, 115, 5027, 330, 0), (5, 118, 5028, 326, 0), (6, 11, 2001, 99, 1), (6, 18, 4001, 113, 1), (6, 25, 3001, 250, 0), (6, 32, 5001, 269, 0), (6, 48, 2003, 550, 0), (6, 57, 2004, 570, 0), (6, 61, 2005, 290, 0), (6, 65, 2007, 298, 0), (6, 70, 6067, 582, 0), (6, 73, 2002, 595, 0), (6, 76, 6068, 599, 0), (6, 80, 6069, 688, 0), (6, 84, 2008, 758, 0), (6, 87, 6062, 769, 0), (6, 93, 6061, 747, 0), (6, 97, 4002, 750, 0), (6, 100, 4003, 608, 0), (6, 105, 4004, 692, 0), (6, 108, 6065, 792, 0), (6, 111, 4005, 798, 0), (6, 114, 4006, 809, 0), (6, 119, 4007, 814, 0), (6, 122, 4008, 829, 0), (6, 127, 4009, 846, 0), (6, 130, 4010, 618, 0), (6, 135, 4011, 709, 0), (6, 138, 6063, 865, 0), (6, 141, 4012, 869, 0), (6, 146, 4013, 874, 0), (6, 149, 4014, 630, 0), (6, 154, 4015, 719, 0), (6, 157, 4016, 640, 0), (6, 162, 4017, 723, 0), (6, 165, 4018, 658, 0), (6, 171, 4019, 743, 0), (6, 177, 4020, 917, 0), (6, 182, 4021, 928, 0), (6, 185, 6066, 939, 0), (6, 188, 4022, 945, 0), (6, 191, 4023, 626, 0), (6, 196, 4024, 714, 0), (6, 202, 5028, 943, 0), (6, 205, 5027, 976, 0), (6, 208, 5029, 322, 0), (6, 211, 5030, 338, 0), (6, 214, 5031, 346, 0), (6, 221, 5021, 984, 0), (6, 224, 5023, 992, 0), (6, 227, 5024, 365, 0), (6, 230, 5007, 1004, 0), (6, 233, 5009, 1012, 0), (6, 236, 5011, 1023, 0), (6, 243, 1005, 1039, 0), (6, 249, 5025, 381, 0), (6, 257, 5005, 1051, 0), (6, 260, 5006, 1059, 0), (6, 263, 5017, 394, 0), (6, 266, 5014, 1067, 0), (6, 269, 6064, 1075, 0), (6, 272, 5015, 1080, 0), (6, 278, 5016, 414, 0), (6, 284, 1006, 423, 0), (6, 288, 1002, 1088, 0), (6, 292, 1003, 1096, 0), (6, 298, 1004, 1108, 0), (6, 302, 1007, 1119, 0), (6, 305, 1010, 1138, 0), (6, 308, 1011, 1150, 0), (6, 311, 1012, 1158, 0), (6, 314, 1013, 1169, 0), (6, 317, 4027, 1180, 0), (6, 332, 5010, 453, 0), (6, 338, 5002, 466, 0), (6, 349, 3003, 1204, 0), (6, 352, 6060, 772, 0), (6, 362, 5003, 796, 0), (6, 369, 3002, 586, 0), (6, 372, 2009, 603, 0), (6, 375, 2006, 607, 0), (7, 36, 7007, 1279, 0), (7, 43, 7003, 1315, 0), (7, 47, 7009, 1319, 0), (7, 50, 7005, 1289, 0), (7, 54, 7014, 1300, 0), (7, 57, 7015, 1296, 0), (7, 61, 7016, 1304, 0), (7, 64, 7018, 1307, 0), (7, 68, 7019, 1292, 0), (7, 71, 7023, 1395, 0), (7, 75, 7024, 1387, 0), (7, 78, 7029, 1454, 0), (7, 82, 7028, 1450, 0), (7, 85, 7031, 1461, 0), (7, 89, 7011, 1286, 0), (7, 93, 7017, 1343, 0), (7, 97, 7022, 1347, 0), (7, 100, 7021, 1331, 0), (7, 103, 7036, 1335, 0), (7, 107, 7035, 1339, 0), (7, 110, 7012, 1359, 0), (7, 114, 7038, 1363, 0), (7, 118, 7026, 1383, 0), (7, 122, 7025, 1391, 0), (7, 125, 7027, 1399, 0), (7, 128, 7042, 1411, 0), (7, 131, 7013, 1423, 0), (7, 134, 7020, 1434, 0), (7, 137, 7032, 1446, 0), (7, 140, 7033, 1457, 0), (7, 143, 7046, 1464, 0), (7, 147, 7049, 1488, 0), (7, 151, 7008, 1275, 0), (7, 154, 7034, 1282, 0), (7, 157, 7010, 1311, 0), (7, 160, 7037, 1327, 0), (7, 163, 7039, 1355, 0), (7, 166, 7040, 1371, 0), (7, 169, 7041, 1379, 0), (7, 172, 7043, 1407, 0), (7, 175, 7044, 1419, 0), (7, 178, 7045, 1430, 0), (7, 181, 7047, 1442, 0), (7, 184, 7048, 1472, 0), (7, 188, 7050, 1484, 0), (7, 191, 7051, 1496, 0), (7, 195, 7052, 1504, 0), (7, 202, 7004, 1520, 0), (7, 215, 7072, 1544, 0), (7, 218, 7073, 1548, 0), (7, 222, 7074, 1552, 0), (7, 234, 7075, 1556, 0), (7, 240, 7076, 1540, 0), (7, 243, 7077, 1536, 0), (7, 246, 7079, 1564, 0), (7, 249, 7081, 1572, 0), (7, 252, 7082, 1576, 0), (7, 255, 7086, 1592, 0), (7, 258, 7006, 1600, 0), (7, 261, 7095, 1631, 0), (7, 266, 7030, 1688, 0), (7, 269, 7113, 1707, 0), (7, 273, 7119, 1731, 0), (8, 7, 6002, 479, 0), (8, 17, 6005, 577, 0), (8, 21, 6006, 765, 0), (8, 25, 6007, 780, 0), (8, 28, 6008, 788, 0), (8, 31, 6009, 805, 0), (8, 34, 6010, 825, 0), (8, 37, 6011, 853, 0), (8, 40, 6012, 861, 0), (8, 43, 6013, 881, 0), (8, 46, 6014, 889, 0), (8, 49, 6015, 897, 0), (8, 52, 6016, 905, 0), (8, 55, 6017, 913, 0), (8, 58, 6018, 935, 0), (8, 62, 6019, 957, 0), (8, 65, 6020, 965, 0), (8, 69, 6021, 972, 0), (8, 73, 6027, 980, 0), (8, 76, 6028, 988, 0), (8, 79, 6030, 1000, 0), (8, 82, 6031, 1008, 0), (8, 85, 6032, 1019, 0), (8, 88, 6033, 1035, 0), (8, 92, 6036, 1047, 0), (8, 95, 6037, 1055, 0), (8, 98, 6039, 1063, 0), (8, 102, 6040, 1071, 0), (8, 105, 6045, 1084, 0), (8, 108, 6046, 1092, 0), (8, 111, 6047, 1103, 0), (8, 114, 6048, 1115, 0), (8, 117, 6049, 1134, 0), (8, 120, 6050, 1146, 0), (8, 123, 6051, 1154, 0), (8, 126, 6052, 1165, 0), (8, 129, 6053, 1176, 0), (8, 132, 6054, 1184, 0), (8, 135, 6058, 1191, 0), (8, 138, 6059, 1199, 0), (8, 141, 6001, 91, 0), (8, 144, 7001, 1210, 0), (8, 145, 8001, 474, 0), (8, 150, 7070, 1524, 0), (8, 151, 7002, 1267, 0), (8, 154, 6003, 286, 0), (8, 157, 7071, 1528, 0), (8, 158, 6004, 294, 0), (8, 161, 7078, 1532, 0), (8, 162, 8002, 574, 0), (8, 165, 7080, 1560, 0), (8, 166, 8003, 762, 0), (8, 169, 7053, 1271, 0), (8, 170, 8004, 777, 0), (8, 172, 7054, 1323, 0), (8, 173, 8005, 785, 0), (8, 175, 7055, 1351, 0), (8, 176, 8006, 802, 0), (8, 178, 7056, 1367, 0), (8, 179, 8007, 822, 0), (8, 181, 7057, 1375, 0), (8, 182, 8008, 850, 0), (8, 184, 7058, 1403, 0), (8, 185, 8009, 858, 0), (8, 187, 7059, 1415, 0), (8, 188, 8010, 878, 0), (8, 190, 7060, 1426, 0), (8, 191, 8011, 886, 0), (8, 193, 7061, 1438, 0), (8, 194, 8012, 894, 0), (8, 196, 7062, 1468, 0), (8, 197, 8013, 902, 0), (8, 199, 7063, 1476, 0), (8, 200, 8014, 910, 0), (8, 202, 7064, 1480, 0), (8, 203, 8015, 932, 0), (8, 206, 7065, 1492, 0), (8, 207, 8016, 954, 0), (8, 209, 7066, 1500, 0), (8, 210, 8017, 962, 0), (8, 213, 7083, 1568, 0), (8, 214, 8018, 969, 0), (8, 216, 7084, 1580, 0), (8, 217, 6022, 318, 0), (8, 220, 7085, 1584, 0), (8, 221, 6023, 334, 0), (8, 224, 7087, 1588, 0), (8, 225, 6024, 342, 0), (8, 228, 7088, 1596, 0), (8, 229, 6025, 353, 0), (8, 233, 7089, 1603, 0), (8, 234, 6026, 357, 0), (8, 237, 7090, 1607, 0), (8, 238, 8019, 977, 0), (8, 240, 7091, 1611, 0), (8, 241, 8020, 985, 0), (8, 243, 7092, 1615, 0), (8, 244, 6029, 361, 0), (8, 247, 7093, 1619, 0), (8, 248, 8021, 997, 0), (8, 250, 7094, 1623, 0), (8, 251, 8022, 1005, 0), (8, 253, 7096, 1627, 0), (8, 254, 8023, 1016, 0), (8, 256, 7097, 1635, 0), (8, 257, 8024, 1032, 0), (8, 260, 7098, 1639, 0), (8, 261, 6034, 377, 0), (8, 265, 7099, 1643, 0), (8, 266, 6035, 386, 0), (8, 269, 7100, 1648, 0), (8, 270, 8025, 1044, 0), (8, 272, 7101, 1652, 0), (8, 273, 8026, 1052, 0), (8, 275, 7102, 1656, 0), (8, 276, 6038, 390, 0), (8, 279, 7103, 1660, 0), (8, 280, 8027, 1060, 0), (8, 282, 7104, 1664, 0), (8, 283, 8028, 1068, 0), (8, 285, 7105, 1668, 0), (8, 286, 6041, 406, 0), (8, 289, 7106, 1672, 0), (8, 290, 6042, 410, 0), (8, 293, 7107, 1676, 0), (8, 294, 6043, 415, 0), (8, 297, 7108, 1680, 0), (8, 298, 6044, 419, 0), (8, 301, 7109, 1684, 0), (8, 302, 8029, 1081, 0), (8, 304, 7110, 1691, 0), (8, 305, 8030, 1089, 0), (8, 307, 7111, 1695, 0), (8, 308, 8031, 1100, 0), (8, 310, 7112, 1699, 0), (8, 311, 8032, 1112, 0), (8, 313, 7114, 1703, 0), (8, 314, 8033, 1131, 0), (8, 316, 7115, 1711, 0), (8, 317, 8034, 1143, 0), (8, 319, 7116, 1715, 0), (8, 320, 8035, 1151, 0), (8, 322, 7117, 1719, 0), (8, 323, 8036, 1162, 0), (8, 325, 7118, 1723, 0), (8, 326, 8037, 1173, 0), (8, 328, 7120, 1727, 0), (8, 329, 8038, 1181, 0), (8, 331, 7121, 1735, 0), (8, 332, 6055, 449, 0), (8, 335, 7122, 1739, 0), (8, 336, 6056, 458, 0), (8, 339, 7123, 1743, 0), (8, 340, 6057, 462, 0), (8, 343, 7067, 1508, 0), (8, 344, 8039, 1188, 0), (8, 346, 7068, 1512, 0), (8, 347, 8040, 1196, 0), (8, 349, 7069, 1516, 0)]
/-- an instruction: pc, what it is (resolved), its length, its own index -/
abbrev am_I : Type := Nat × Instr × Nat × Nat
/-- a method: number (its class is the thousands), name, descriptor, code, locals, result, handlers as the class file has them, handlers resolved, instructions -/
abbrev am_M : Type := Nat × (String × String) × ByteArray × Nat × Option FieldType × List (Nat × Nat × Nat × Nat) × List (Nat × Nat × Nat × Nat × Nat × Nat) × List am_I
noncomputable def am_t1_0 : List am_I := [
  (0, .aload 0, 1, 0), (1, .invokespecial 0, 3, 3), (4, .aload 0, 1, 0), (5, .sipush 24, 2, 0), (7, .newarray .int, 2, 0), (9, .putfield 0, 3, 9), (12, .aload 0, 1, 0), (13, .sipush 24, 2, 0), (15, .newarray .int, 2, 0), 
  (17, .putfield 1, 3, 15), (20, .aload 0, 1, 0), (21, .sipush 24, 2, 0), (23, .newarray .int, 2, 0), (25, .putfield 2, 3, 18), (28, .aload 0, 1, 0), (29, .sipush 24, 2, 0), (31, .newarray .int, 2, 0), (33, .putfield 3, 3, 21), 
  (36, .aload 0, 1, 0), (37, .sipush 0, 1, 0), (38, .putfield 4, 3, 24), (41, .aload 0, 1, 0), (42, .sipush 0, 1, 0), (43, .putfield 5, 3, 28), (46, .return_, 1, 0)]
noncomputable def am_m1 : am_M := (1, ("<init>", "()V"), prog_2_method_1_code, 1, none, [], [], am_t1_0)
noncomputable def am_t2_0 : List am_I := [
  (0, .aload 0, 1, 0), (1, .sipush 0, 1, 0), (2, .putfield 4, 3, 24), (5, .aload 0, 1, 0), (6, .sipush 0, 1, 0), (7, .putfield 5, 3, 28), (10, .sipush 0, 1, 0), (11, .istore 1, 1, 0), (12, .iload 1, 1, 0), (13, .sipush 24, 2, 0), 
  (15, .if_icmp .ge 113, 3, 0), (18, .aload 0, 1, 0), (19, .getfield 3, 3, 21), (22, .iload 1, 1, 0), (23, .sipush (-1), 1, 0), (24, .iastore, 1, 0), (25, .aload 0, 1, 0), (26, .getfield 1, 3, 15), (29, .iload 1, 1, 0), (30, .iaload, 1, 0), 
  (31, .istore 2, 1, 0), (32, .iload 2, 1, 0), (33, .aload 0, 1, 0), (34, .getfield 0, 3, 9), (37, .iload 1, 1, 0), (38, .iaload, 1, 0), (39, .if_icmp .eq 107, 3, 0), (42, .iload 2, 1, 0), (43, .aload 0, 1, 0), (44, .getfield 2, 3, 18), 
  (47, .iload 1, 1, 0), (48, .iaload, 1, 0), (49, .if_icmp .ne 55, 3, 0), (52, .goto 107, 3, 0), (55, .aload 0, 1, 0), (56, .getfield 2, 3, 18), (59, .iload 1, 1, 0), (60, .iaload, 1, 0), (61, .aload 0, 1, 0), (62, .getfield 0, 3, 9), 
  (65, .iload 1, 1, 0), (66, .iaload, 1, 0), (67, .if_icmp .ne 90, 3, 0), (70, .aload 0, 1, 0), (71, .getfield 2, 3, 18), (74, .iload 1, 1, 0), (75, .iload 2, 1, 0), (76, .iastore, 1, 0), (77, .aload 0, 1, 0), (78, .dup, 1, 0), 
  (79, .getfield 4, 3, 24), (82, .sipush 1, 1, 0), (83, .iadd, 1, 0), (84, .putfield 4, 3, 24), (87, .goto 107, 3, 0), (90, .aload 0, 1, 0), (91, .getfield 3, 3, 21), (94, .iload 1, 1, 0), (95, .iload 2, 1, 0), (96, .iastore, 1, 0), 
  (97, .aload 0, 1, 0), (98, .dup, 1, 0), (99, .getfield 5, 3, 28), (102, .sipush 1, 1, 0), (103, .iadd, 1, 0), (104, .putfield 5, 3, 28), (107, .iinc 1 1, 3, 0), (110, .goto 12, 3, 0), (113, .return_, 1, 0)]
noncomputable def am_m2 : am_M := (2, ("combine", "()V"), prog_2_method_2_code, 3, none, [], [], am_t2_0)
noncomputable def am_t3_0 : List am_I := [
  (0, .aload 0, 1, 0), (1, .getfield 4, 3, 24), (4, .ifCond .ne 18, 3, 0), (7, .aload 0, 1, 0), (8, .getfield 5, 3, 28), (11, .ifCond .ne 18, 3, 0), (14, .sipush 1, 1, 0), (15, .goto 19, 3, 0), (18, .sipush 0, 1, 0), (19, .freturn, 1, 0)
  ]
noncomputable def am_m3 : am_M := (3, ("isEmpty", "()Z"), prog_2_method_3_code, 1, (some .boolean), [], [], am_t3_0)
noncomputable def am_t1001_0 : List am_I := [
  (0, .aload 0, 1, 0), (1, .invokespecial 0, 3, 3), (4, .aload 0, 1, 0), (5, .sipush 60, 2, 0), (7, .newarray .int, 2, 0), (9, .putfield 32, 3, 9), (12, .aload 0, 1, 0), (13, .sipush 60, 2, 0), (15, .newarray .int, 2, 0), 
  (17, .putfield 33, 3, 15), (20, .aload 0, 1, 0), (21, .sipush 60, 2, 0), (23, .newarray .int, 2, 0), (25, .putfield 34, 3, 18), (28, .return_, 1, 0)]
noncomputable def am_m1001 : am_M := (1001, ("<init>", "()V"), prog_3_method_1_code, 1, none, [], [], am_t1001_0)
noncomputable def am_t1002_0 : List am_I := [
  (0, .aload 0, 1, 0), (1, .getfield 32, 3, 9), (4, .sipush 0, 1, 0), (5, .multianewarray 9000 2, 3, 21), (8, .aload 1, 1, 0), (9, .iload 2, 1, 0), (10, .aload 0, 1, 0), (11, .getfield 32, 3, 9), (14, .multianewarray 1017 3, 3, 27), 
  (17, .aload 0, 1, 0), (18, .getfield 32, 3, 9), (21, .iload 3, 1, 0), (22, .multianewarray 1015 2, 3, 31), (25, .freturn, 1, 0)]
noncomputable def am_m1002 : am_M := (1002, ("isReached", "(LBranchedSource$State;II)Z"), prog_3_method_2_code, 4, (some .boolean), [], [], am_t1002_0)
noncomputable def am_t1003_0 : List am_I := [
  (0, .aload 0, 1, 0), (1, .getfield 32, 3, 9), (4, .sipush 0, 1, 0), (5, .multianewarray 9000 2, 3, 21), (8, .aload 1, 1, 0), (9, .iload 2, 1, 0), (10, .aload 0, 1, 0), (11, .getfield 32, 3, 9), (14, .multianewarray 1017 3, 3, 27), 
  (17, .sipush 0, 1, 0), (18, .istore 3, 1, 0), (19, .sipush 0, 1, 0), (20, .istore 4, 2, 0), (22, .iload 4, 2, 0), (24, .sipush 60, 2, 0), (26, .if_icmp .ge 50, 3, 0), (29, .aload 0, 1, 0), (30, .getfield 32, 3, 9), (33, .iload 4, 2, 0), 
  (35, .multianewarray 1015 2, 3, 31), (38, .ifCond .eq 44, 3, 0), (41, .iinc 3 1, 3, 0), (44, .iinc 4 1, 3, 0), (47, .goto 22, 3, 0), (50, .iload 3, 1, 0), (51, .ireturn, 1, 0)]
noncomputable def am_m1003 : am_M := (1003, ("countReached", "(LBranchedSource$State;I)I"), prog_3_method_3_code, 5, (some .int), [], [], am_t1003_0)
noncomputable def am_t1004_0 : List am_I := [
  (0, .aload 0, 1, 0), (1, .getfield 32, 3, 9), (4, .sipush 0, 1, 0), (5, .multianewarray 9000 2, 3, 21), (8, .aload 1, 1, 0), (9, .iload 2, 1, 0), (10, .aload 0, 1, 0), (11, .getfield 32, 3, 9), (14, .multianewarray 1017 3, 3, 27), 
  (17, .sipush 0, 1, 0), (18, .istore 4, 2, 0), (20, .sipush 59, 2, 0), (22, .istore 5, 2, 0), (24, .iload 5, 2, 0), (26, .ifCond .lt 59, 3, 0), (29, .aload 0, 1, 0), (30, .getfield 32, 3, 9), (33, .iload 5, 2, 0), (35, .multianewarray 1015 2, 3, 31), 
  (38, .ifCond .eq 53, 3, 0), (41, .iload 4, 2, 0), (43, .iload 3, 1, 0), (44, .if_icmp .ne 50, 3, 0), (47, .iload 5, 2, 0), (49, .ireturn, 1, 0), (50, .iinc 4 1, 3, 0), (53, .iinc 5 (-1), 3, 0), (56, .goto 24, 3, 0), (59, .sipush (-1), 1, 0), 
  (60, .ireturn, 1, 0)]
noncomputable def am_m1004 : am_M := (1004, ("reachedAt", "(LBranchedSource$State;II)I"), prog_3_method_4_code, 6, (some .int), [], [], am_t1004_0)
noncomputable def am_t1005_0 : List am_I := [
  (0, .aload 0, 1, 0), (1, .getfield 32, 3, 9), (4, .sipush 0, 1, 0), (5, .multianewarray 9000 2, 3, 21), (8, .aload 1, 1, 0), (9, .iload 2, 1, 0), (10, .aload 0, 1, 0), (11, .getfield 32, 3, 9), (14, .multianewarray 1017 3, 3, 27), 
  (17, .sipush 0, 1, 0), (18, .istore 5, 2, 0), (20, .iload 5, 2, 0), (22, .sipush 60, 2, 0), (24, .if_icmp .ge 60, 3, 0), (27, .aload 0, 1, 0), (28, .getfield 32, 3, 9), (31, .iload 5, 2, 0), (33, .multianewarray 1015 2, 3, 31), 
  (36, .ifCond .eq 54, 3, 0), (39, .aload 1, 1, 0), (40, .iload 5, 2, 0), (42, .iload 3, 1, 0), (43, .invokeinterface 5007 2, 3, 35), (46, .iload 4, 2, 0), (48, .if_icmp .ne 54, 3, 0), (51, .iload 5, 2, 0), (53, .ireturn, 1, 0), 
  (54, .iinc 5 1, 3, 0), (57, .goto 20, 3, 0), (60, .sipush (-1), 1, 0), (61, .ireturn, 1, 0)]
noncomputable def am_m1005 : am_M := (1005, ("lowestWith", "(LBranchedSource$State;III)I"), prog_3_method_5_code, 6, (some .int), [], [], am_t1005_0)
noncomputable def am_t1006_0 : List am_I := [
  (0, .aload 0, 1, 0), (1, .getfield 32, 3, 9), (4, .sipush 0, 1, 0), (5, .multianewarray 9000 2, 3, 21), (8, .sipush 0, 1, 0), (9, .istore 2, 1, 0), (10, .iload 2, 1, 0), (11, .sipush 6, 2, 0), (13, .if_icmp .ge 35, 3, 0), 
  (16, .aload 1, 1, 0), (17, .aload 1, 1, 0), (18, .iload 2, 1, 0), (19, .invokeinterface 5015 1, 3, 41), (22, .aload 0, 1, 0), (23, .getfield 32, 3, 9), (26, .multianewarray 1017 3, 3, 27), (29, .iinc 2 1, 3, 0), (32, .goto 10, 3, 0), 
  (35, .sipush 0, 1, 0), (36, .istore 2, 1, 0), (37, .sipush 0, 1, 0), (38, .istore 3, 1, 0), (39, .iload 3, 1, 0), (40, .aload 1, 1, 0), (41, .getfield 160, 3, 45), (44, .if_icmp .ge 67, 3, 0), (47, .aload 0, 1, 0), (48, .getfield 32, 3, 9), 
  (51, .iload 3, 1, 0), (52, .multianewarray 1015 2, 3, 31), (55, .ifCond .ne 61, 3, 0), (58, .iinc 2 1, 3, 0), (61, .iinc 3 1, 3, 0), (64, .goto 39, 3, 0), (67, .iload 2, 1, 0), (68, .ireturn, 1, 0)]
noncomputable def am_m1006 : am_M := (1006, ("countUnreached", "(LBranchedSource$State;)I"), prog_3_method_6_code, 4, (some .int), [], [], am_t1006_0)
noncomputable def am_t1007_0 : List am_I := [
  (0, .aload 0, 1, 0), (1, .getfield 34, 3, 18), (4, .sipush (-1), 1, 0), (5, .multianewarray 9000 2, 3, 21), (8, .aload 0, 1, 0), (9, .iload 2, 1, 0), (10, .sipush 0, 1, 0), (11, .invokeinterface 1009 2, 3, 49), (14, .sipush 59, 2, 0), 
  (16, .istore 4, 2, 0), (18, .iload 4, 2, 0), (20, .ifCond .lt 75, 3, 0), (23, .aload 0, 1, 0), (24, .iload 4, 2, 0), (26, .invokeinterface 1008 1, 3, 53), (29, .sipush (-1), 1, 0), (30, .if_icmp .eq 69, 3, 0), (33, .aload 0, 1, 0), 
  (34, .aload 1, 1, 0), (35, .iload 4, 2, 0), (37, .invokeinterface 5005 1, 3, 56), (40, .aload 0, 1, 0), (41, .iload 4, 2, 0), (43, .invokeinterface 1008 1, 3, 53), (46, .sipush 1, 1, 0), (47, .iadd, 1, 0), (48, .invokeinterface 1009 2, 3, 49), 
  (51, .aload 0, 1, 0), (52, .aload 1, 1, 0), (53, .iload 4, 2, 0), (55, .invokeinterface 5006 1, 3, 59), (58, .aload 0, 1, 0), (59, .iload 4, 2, 0), (61, .invokeinterface 1008 1, 3, 53), (64, .sipush 1, 1, 0), (65, .iadd, 1, 0), 
  (66, .invokeinterface 1009 2, 3, 49), (69, .iinc 4 (-1), 3, 0), (72, .goto 18, 3, 0), (75, .aload 0, 1, 0), (76, .iload 3, 1, 0), (77, .invokeinterface 1008 1, 3, 53), (80, .ireturn, 1, 0)]
noncomputable def am_m1007 : am_M := (1007, ("fewestSteps", "(LBranchedSource$State;II)I"), prog_3_method_7_code, 5, (some .int), [], [], am_t1007_0)
noncomputable def am_t1008_0 : List am_I := [
  (0, .iload 1, 1, 0), (1, .ifCond .lt 19, 3, 0), (4, .iload 1, 1, 0), (5, .sipush 60, 2, 0), (7, .if_icmp .ge 19, 3, 0), (10, .aload 0, 1, 0), (11, .getfield 34, 3, 18), (14, .iload 1, 1, 0), (15, .iaload, 1, 0), (16, .goto 20, 3, 0), 
  (19, .sipush (-1), 1, 0), (20, .ireturn, 1, 0)]
noncomputable def am_m1008 : am_M := (1008, ("stepsOf", "(I)I"), prog_3_method_8_code, 2, (some .int), [], [], am_t1008_0)
noncomputable def am_t1009_0 : List am_I := [
  (0, .iload 1, 1, 0), (1, .ifCond .lt 37, 3, 0), (4, .iload 1, 1, 0), (5, .sipush 60, 2, 0), (7, .if_icmp .ge 37, 3, 0), (10, .aload 0, 1, 0), (11, .getfield 34, 3, 18), (14, .iload 1, 1, 0), (15, .iaload, 1, 0), (16, .sipush (-1), 1, 0), 
  (17, .if_icmp .eq 30, 3, 0), (20, .aload 0, 1, 0), (21, .getfield 34, 3, 18), (24, .iload 1, 1, 0), (25, .iaload, 1, 0), (26, .iload 2, 1, 0), (27, .if_icmp .le 37, 3, 0), (30, .aload 0, 1, 0), (31, .getfield 34, 3, 18), 
  (34, .iload 1, 1, 0), (35, .iload 2, 1, 0), (36, .iastore, 1, 0), (37, .return_, 1, 0)]
noncomputable def am_m1009 : am_M := (1009, ("lowerSteps", "(II)V"), prog_3_method_9_code, 3, none, [], [], am_t1009_0)
noncomputable def am_t1010_0 : List am_I := [
  (0, .sipush 0, 1, 0), (1, .istore 3, 1, 0), (2, .iload 3, 1, 0), (3, .sipush 60, 2, 0), (5, .if_icmp .ge 52, 3, 0), (8, .iload 3, 1, 0), (9, .iload 2, 1, 0), (10, .if_icmp .gt 52, 3, 0), (13, .aload 0, 1, 0), (14, .aload 1, 1, 0), 
  (15, .iload 3, 1, 0), (16, .invokeinterface 5005 1, 3, 56), (19, .invokeinterface 1008 1, 3, 53), (22, .aload 0, 1, 0), (23, .aload 1, 1, 0), (24, .iload 3, 1, 0), (25, .invokeinterface 5006 1, 3, 59), (28, .invokeinterface 1008 1, 3, 53), 
  (31, .invokestatic 2, 3, 62), (34, .istore 4, 2, 0), (36, .aload 0, 1, 0), (37, .getfield 34, 3, 18), (40, .iload 3, 1, 0), (41, .iload 4, 2, 0), (43, .sipush 1, 1, 0), (44, .iadd, 1, 0), (45, .iastore, 1, 0), (46, .iinc 3 1, 3, 0), 
  (49, .goto 2, 3, 0), (52, .aload 0, 1, 0), (53, .iload 2, 1, 0), (54, .invokeinterface 1008 1, 3, 53), (57, .ireturn, 1, 0)]
noncomputable def am_m1010 : am_M := (1010, ("mostSteps", "(LBranchedSource$State;I)I"), prog_3_method_10_code, 5, (some .int), [], [], am_t1010_0)
noncomputable def am_t1011_0 : List am_I := [
  (0, .aload 0, 1, 0), (1, .getfield 32, 3, 9), (4, .sipush 0, 1, 0), (5, .multianewarray 9000 2, 3, 21), (8, .aload 0, 1, 0), (9, .getfield 32, 3, 9), (12, .iload 2, 1, 0), (13, .sipush 1, 1, 0), (14, .multianewarray 1016 3, 3, 67), 
  (17, .aload 0, 1, 0), (18, .getfield 32, 3, 9), (21, .iload 3, 1, 0), (22, .sipush 2, 1, 0), (23, .multianewarray 1016 3, 3, 67), (26, .sipush 59, 2, 0), (28, .istore 4, 2, 0), (30, .iload 4, 2, 0), (32, .ifCond .lt 95, 3, 0), 
  (35, .aload 0, 1, 0), (36, .getfield 32, 3, 9), (39, .iload 4, 2, 0), (41, .iaload, 1, 0), (42, .sipush 3, 1, 0), (43, .if_icmp .ne 49, 3, 0), (46, .iload 4, 2, 0), (48, .ireturn, 1, 0), (49, .aload 0, 1, 0), (50, .getfield 32, 3, 9), 
  (53, .aload 1, 1, 0), (54, .iload 4, 2, 0), (56, .invokeinterface 5005 1, 3, 56), (59, .aload 0, 1, 0), (60, .getfield 32, 3, 9), (63, .iload 4, 2, 0), (65, .iaload, 1, 0), (66, .multianewarray 1016 3, 3, 67), (69, .aload 0, 1, 0), 
  (70, .getfield 32, 3, 9), (73, .aload 1, 1, 0), (74, .iload 4, 2, 0), (76, .invokeinterface 5006 1, 3, 59), (79, .aload 0, 1, 0), (80, .getfield 32, 3, 9), (83, .iload 4, 2, 0), (85, .iaload, 1, 0), (86, .multianewarray 1016 3, 3, 67), 
  (89, .iinc 4 (-1), 3, 0), (92, .goto 30, 3, 0), (95, .sipush (-1), 1, 0), (96, .ireturn, 1, 0)]
noncomputable def am_m1011 : am_M := (1011, ("commonByGoingDown", "(LBranchedSource$State;II)I"), prog_3_method_11_code, 5, (some .int), [], [], am_t1011_0)
noncomputable def am_t1012_0 : List am_I := [
  (0, .aload 0, 1, 0), (1, .getfield 32, 3, 9), (4, .sipush 0, 1, 0), (5, .multianewarray 9000 2, 3, 21), (8, .aload 1, 1, 0), (9, .iload 2, 1, 0), (10, .aload 0, 1, 0), (11, .getfield 32, 3, 9), (14, .multianewarray 1017 3, 3, 27), 
  (17, .aload 0, 1, 0), (18, .getfield 33, 3, 15), (21, .sipush 0, 1, 0), (22, .multianewarray 9000 2, 3, 21), (25, .aload 1, 1, 0), (26, .iload 3, 1, 0), (27, .aload 0, 1, 0), (28, .getfield 33, 3, 15), (31, .multianewarray 1017 3, 3, 27), 
  (34, .sipush 59, 2, 0), (36, .istore 4, 2, 0), (38, .iload 4, 2, 0), (40, .ifCond .lt 76, 3, 0), (43, .aload 0, 1, 0), (44, .getfield 32, 3, 9), (47, .iload 4, 2, 0), (49, .multianewarray 1015 2, 3, 31), (52, .ifCond .eq 70, 3, 0), 
  (55, .aload 0, 1, 0), (56, .getfield 33, 3, 15), (59, .iload 4, 2, 0), (61, .multianewarray 1015 2, 3, 31), (64, .ifCond .eq 70, 3, 0), (67, .iload 4, 2, 0), (69, .ireturn, 1, 0), (70, .iinc 4 (-1), 3, 0), (73, .goto 38, 3, 0), 
  (76, .sipush (-1), 1, 0), (77, .ireturn, 1, 0)]
noncomputable def am_m1012 : am_M := (1012, ("commonByMarks", "(LBranchedSource$State;II)I"), prog_3_method_12_code, 5, (some .int), [], [], am_t1012_0)
noncomputable def am_t1013_0 : List am_I := [
  (0, .aload 0, 1, 0), (1, .getfield 32, 3, 9), (4, .sipush 0, 1, 0), (5, .multianewarray 9000 2, 3, 21), (8, .aload 0, 1, 0), (9, .getfield 32, 3, 9), (12, .iload 2, 1, 0), (13, .sipush 1, 1, 0), (14, .multianewarray 1016 3, 3, 67), 
  (17, .aload 0, 1, 0), (18, .getfield 32, 3, 9), (21, .iload 3, 1, 0), (22, .sipush 2, 1, 0), (23, .multianewarray 1016 3, 3, 67), (26, .sipush 0, 1, 0), (27, .istore 4, 2, 0), (29, .sipush 59, 2, 0), (31, .istore 5, 2, 0), 
  (33, .iload 5, 2, 0), (35, .ifCond .lt 107, 3, 0), (38, .aload 0, 1, 0), (39, .getfield 32, 3, 9), (42, .iload 5, 2, 0), (44, .iaload, 1, 0), (45, .sipush 3, 1, 0), (46, .if_icmp .ne 61, 3, 0), (49, .iinc 4 1, 3, 0), (52, .aload 0, 1, 0), 
  (53, .getfield 32, 3, 9), (56, .iload 5, 2, 0), (58, .sipush 7, 2, 0), (60, .iastore, 1, 0), (61, .aload 0, 1, 0), (62, .getfield 32, 3, 9), (65, .aload 1, 1, 0), (66, .iload 5, 2, 0), (68, .invokeinterface 5005 1, 3, 56), 
  (71, .aload 0, 1, 0), (72, .getfield 32, 3, 9), (75, .iload 5, 2, 0), (77, .iaload, 1, 0), (78, .multianewarray 1016 3, 3, 67), (81, .aload 0, 1, 0), (82, .getfield 32, 3, 9), (85, .aload 1, 1, 0), (86, .iload 5, 2, 0), 
  (88, .invokeinterface 5006 1, 3, 59), (91, .aload 0, 1, 0), (92, .getfield 32, 3, 9), (95, .iload 5, 2, 0), (97, .iaload, 1, 0), (98, .multianewarray 1016 3, 3, 67), (101, .iinc 5 (-1), 3, 0), (104, .goto 33, 3, 0), (107, .iload 4, 2, 0), 
  (109, .ireturn, 1, 0)]
noncomputable def am_m1013 : am_M := (1013, ("countBest", "(LBranchedSource$State;II)I"), prog_3_method_13_code, 6, (some .int), [], [], am_t1013_0)
noncomputable def am_t1014_0 : List am_I := [
  (0, .aload 0, 1, 0), (1, .getfield 32, 3, 9), (4, .sipush 0, 1, 0), (5, .multianewarray 9000 2, 3, 21), (8, .aload 1, 1, 0), (9, .iload 2, 1, 0), (10, .aload 0, 1, 0), (11, .getfield 32, 3, 9), (14, .multianewarray 1017 3, 3, 27), 
  (17, .aload 3, 1, 0), (18, .sipush 0, 1, 0), (19, .multianewarray 9000 2, 3, 21), (22, .aload 1, 1, 0), (23, .invokeinterface 5016 0, 3, 71), (26, .istore 4, 2, 0), (28, .sipush 0, 1, 0), (29, .istore 5, 2, 0), (31, .iload 5, 2, 0), 
  (33, .sipush 60, 2, 0), (35, .if_icmp .ge 77, 3, 0), (38, .iload 4, 2, 0), (40, .sipush (-1), 1, 0), (41, .if_icmp .eq 77, 3, 0), (44, .aload 0, 1, 0), (45, .getfield 32, 3, 9), (48, .iload 4, 2, 0), (50, .multianewarray 1015 2, 3, 31), 
  (53, .ifCond .ne 77, 3, 0), (56, .aload 3, 1, 0), (57, .iload 4, 2, 0), (59, .sipush 1, 1, 0), (60, .multianewarray 1016 3, 3, 67), (63, .aload 1, 1, 0), (64, .iload 4, 2, 0), (66, .invokeinterface 5005 1, 3, 56), (69, .istore 4, 2, 0), 
  (71, .iinc 5 1, 3, 0), (74, .goto 31, 3, 0), (77, .return_, 1, 0)]
noncomputable def am_m1014 : am_M := (1014, ("markReplayed", "(LBranchedSource$State;I[I)V"), prog_3_method_14_code, 6, none, [], [], am_t1014_0)
noncomputable def am_t1015_0 : List am_I := [
  (0, .iload 1, 1, 0), (1, .ifCond .lt 20, 3, 0), (4, .iload 1, 1, 0), (5, .aload 0, 1, 0), (6, .arraylength, 1, 0), (7, .if_icmp .ge 20, 3, 0), (10, .aload 0, 1, 0), (11, .iload 1, 1, 0), (12, .iaload, 1, 0), (13, .ifCond .eq 20, 3, 0), 
  (16, .sipush 1, 1, 0), (17, .goto 21, 3, 0), (20, .sipush 0, 1, 0), (21, .freturn, 1, 0)]
noncomputable def am_m1015 : am_M := (1015, ("isMarked", "([II)Z"), prog_3_method_15_code, 2, (some .boolean), [], [], am_t1015_0)
noncomputable def am_t1016_0 : List am_I := [
  (0, .iload 1, 1, 0), (1, .ifCond .lt 17, 3, 0), (4, .iload 1, 1, 0), (5, .aload 0, 1, 0), (6, .arraylength, 1, 0), (7, .if_icmp .ge 17, 3, 0), (10, .aload 0, 1, 0), (11, .iload 1, 1, 0), (12, .dup2, 1, 0), (13, .iaload, 1, 0), 
  (14, .iload 2, 1, 0), (15, .ior, 1, 0), (16, .iastore, 1, 0), (17, .return_, 1, 0)]
noncomputable def am_m1016 : am_M := (1016, ("addMark", "([III)V"), prog_3_method_16_code, 3, none, [], [], am_t1016_0)
noncomputable def am_t1017_0 : List am_I := [
  (0, .aload 2, 1, 0), (1, .iload 1, 1, 0), (2, .sipush 1, 1, 0), (3, .multianewarray 1016 3, 3, 67), (6, .iload 1, 1, 0), (7, .aload 2, 1, 0), (8, .arraylength, 1, 0), (9, .sipush 1, 1, 0), (10, .isub, 1, 0), (11, .invokestatic 3, 3, 75), 
  (14, .istore 3, 1, 0), (15, .iload 3, 1, 0), (16, .ifCond .lt 51, 3, 0), (19, .aload 2, 1, 0), (20, .iload 3, 1, 0), (21, .iaload, 1, 0), (22, .ifCond .eq 45, 3, 0), (25, .aload 2, 1, 0), (26, .aload 0, 1, 0), (27, .iload 3, 1, 0), 
  (28, .invokeinterface 5005 1, 3, 56), (31, .sipush 1, 1, 0), (32, .multianewarray 1016 3, 3, 67), (35, .aload 2, 1, 0), (36, .aload 0, 1, 0), (37, .iload 3, 1, 0), (38, .invokeinterface 5006 1, 3, 59), (41, .sipush 1, 1, 0), 
  (42, .multianewarray 1016 3, 3, 67), (45, .iinc 3 (-1), 3, 0), (48, .goto 15, 3, 0), (51, .return_, 1, 0)]
noncomputable def am_m1017 : am_M := (1017, ("markReached", "(LBranchedSource$State;I[I)V"), prog_3_method_17_code, 4, none, [], [], am_t1017_0)
noncomputable def am_t2001_0 : List am_I := [
  (0, .aload 0, 1, 0), (1, .invokespecial 0, 3, 3), (4, .aload 0, 1, 0), (5, .sipush 60, 2, 0), (7, .newarray .int, 2, 0), (9, .putfield 64, 3, 9), (12, .aload 0, 1, 0), (13, .sipush 0, 1, 0), (14, .putfield 65, 3, 15), (17, .return_, 1, 0)
  ]
noncomputable def am_m2001 : am_M := (2001, ("<init>", "()V"), prog_4_method_1_code, 1, none, [], [], am_t2001_0)
noncomputable def am_t2002_0 : List am_I := [
  (0, .aload 0, 1, 0), (1, .getfield 65, 3, 15), (4, .ireturn, 1, 0)]
noncomputable def am_m2002 : am_M := (2002, ("length", "()I"), prog_4_method_2_code, 1, (some .int), [], [], am_t2002_0)
noncomputable def am_t2003_0 : List am_I := [
  (0, .aload 0, 1, 0), (1, .getfield 65, 3, 15), (4, .sipush 60, 2, 0), (6, .if_icmp .lt 13, 3, 0), (9, .sipush 1, 1, 0), (10, .goto 14, 3, 0), (13, .sipush 0, 1, 0), (14, .freturn, 1, 0)]
noncomputable def am_m2003 : am_M := (2003, ("isFull", "()Z"), prog_4_method_3_code, 1, (some .boolean), [], [], am_t2003_0)
noncomputable def am_t2004_0 : List am_I := [
  (0, .aload 0, 1, 0), (1, .getfield 65, 3, 15), (4, .sipush 60, 2, 0), (6, .if_icmp .ge 29, 3, 0), (9, .aload 0, 1, 0), (10, .getfield 64, 3, 9), (13, .aload 0, 1, 0), (14, .getfield 65, 3, 15), (17, .iload 1, 1, 0), (18, .iastore, 1, 0), 
  (19, .aload 0, 1, 0), (20, .dup, 1, 0), (21, .getfield 65, 3, 15), (24, .sipush 1, 1, 0), (25, .iadd, 1, 0), (26, .putfield 65, 3, 15), (29, .aload 0, 1, 0), (30, .getfield 65, 3, 15), (33, .ireturn, 1, 0)]
noncomputable def am_m2004 : am_M := (2004, ("append", "(I)I"), prog_4_method_4_code, 2, (some .int), [], [], am_t2004_0)
noncomputable def am_t2005_0 : List am_I := [
  (0, .aload 0, 1, 0), (1, .getfield 65, 3, 15), (4, .istore 1, 1, 0), (5, .aload 0, 1, 0), (6, .sipush 0, 1, 0), (7, .putfield 65, 3, 15), (10, .iload 1, 1, 0), (11, .ireturn, 1, 0)]
noncomputable def am_m2005 : am_M := (2005, ("empty", "()I"), prog_4_method_5_code, 2, (some .int), [], [], am_t2005_0)
noncomputable def am_t2006_0 : List am_I := [
  (0, .iload 1, 1, 0), (1, .ifCond .lt 27, 3, 0), (4, .iload 1, 1, 0), (5, .aload 0, 1, 0), (6, .getfield 65, 3, 15), (9, .if_icmp .ge 27, 3, 0), (12, .iload 1, 1, 0), (13, .sipush 60, 2, 0), (15, .if_icmp .ge 27, 3, 0), 
  (18, .aload 0, 1, 0), (19, .getfield 64, 3, 9), (22, .iload 1, 1, 0), (23, .iaload, 1, 0), (24, .goto 29, 3, 0), (27, .sipush 59, 2, 0), (29, .ireturn, 1, 0)]
noncomputable def am_m2006 : am_M := (2006, ("signAt", "(I)I"), prog_4_method_6_code, 2, (some .int), [], [], am_t2006_0)
noncomputable def am_t2007_0 : List am_I := [
  (0, .sipush 0, 1, 0), (1, .istore 1, 1, 0), (2, .sipush 0, 1, 0), (3, .istore 2, 1, 0), (4, .iload 2, 1, 0), (5, .aload 0, 1, 0), (6, .getfield 65, 3, 15), (9, .if_icmp .ge 36, 3, 0), (12, .iload 1, 1, 0), (13, .aload 0, 1, 0), 
  (14, .iload 2, 1, 0), (15, .invokeinterface 2006 1, 3, 19), (18, .multianewarray 2011 2, 3, 23), (21, .istore 1, 1, 0), (22, .iload 1, 1, 0), (23, .sipush 9, 2, 0), (25, .if_icmp .ne 30, 3, 0), (28, .iload 2, 1, 0), (29, .ireturn, 1, 0), 
  (30, .iinc 2 1, 3, 0), (33, .goto 4, 3, 0), (36, .iload 1, 1, 0), (37, .ifCond .ne 44, 3, 0), (40, .sipush (-1), 1, 0), (41, .goto 48, 3, 0), (44, .aload 0, 1, 0), (45, .getfield 65, 3, 15), (48, .ireturn, 1, 0)]
noncomputable def am_m2007 : am_M := (2007, ("firstFault", "()I"), prog_4_method_7_code, 3, (some .int), [], [], am_t2007_0)
noncomputable def am_t2008_0 : List am_I := [
  (0, .iload 1, 1, 0), (1, .istore 2, 1, 0), (2, .iload 2, 1, 0), (3, .aload 0, 1, 0), (4, .getfield 65, 3, 15), (7, .if_icmp .ge 26, 3, 0), (10, .aload 0, 1, 0), (11, .iload 2, 1, 0), (12, .invokeinterface 2006 1, 3, 19), 
  (15, .sipush 59, 2, 0), (17, .if_icmp .eq 26, 3, 0), (20, .iinc 2 1, 3, 0), (23, .goto 2, 3, 0), (26, .iload 2, 1, 0), (27, .ireturn, 1, 0)]
noncomputable def am_m2008 : am_M := (2008, ("endOfOrder", "(I)I"), prog_4_method_8_code, 3, (some .int), [], [], am_t2008_0)
noncomputable def am_t2009_0 : List am_I := [
  (0, .sipush 0, 1, 0), (1, .istore 2, 1, 0), (2, .iload 1, 1, 0), (3, .istore 3, 1, 0), (4, .iload 3, 1, 0), (5, .iload 1, 1, 0), (6, .sipush 2, 1, 0), (7, .iadd, 1, 0), (8, .if_icmp .ge 46, 3, 0), (11, .aload 0, 1, 0), 
  (12, .iload 3, 1, 0), (13, .invokeinterface 2006 1, 3, 19), (16, .sipush 48, 2, 0), (18, .sipush 57, 2, 0), (20, .multianewarray 2010 3, 3, 27), (23, .ifCond .eq 46, 3, 0), (26, .iload 2, 1, 0), (27, .sipush 10, 2, 0), 
  (29, .imul, 1, 0), (30, .aload 0, 1, 0), (31, .iload 3, 1, 0), (32, .invokeinterface 2006 1, 3, 19), (35, .sipush 48, 2, 0), (37, .isub, 1, 0), (38, .iadd, 1, 0), (39, .istore 2, 1, 0), (40, .iinc 3 1, 3, 0), (43, .goto 4, 3, 0), 
  (46, .iload 2, 1, 0), (47, .ireturn, 1, 0)]
noncomputable def am_m2009 : am_M := (2009, ("numberFrom", "(I)I"), prog_4_method_9_code, 4, (some .int), [], [], am_t2009_0)
noncomputable def am_t2010_0 : List am_I := [
  (0, .iload 0, 1, 0), (1, .iload 1, 1, 0), (2, .if_icmp .lt 14, 3, 0), (5, .iload 0, 1, 0), (6, .iload 2, 1, 0), (7, .if_icmp .gt 14, 3, 0), (10, .sipush 1, 1, 0), (11, .goto 15, 3, 0), (14, .sipush 0, 1, 0), (15, .freturn, 1, 0)
  ]
noncomputable def am_m2010 : am_M := (2010, ("isBetween", "(III)Z"), prog_4_method_10_code, 3, (some .boolean), [], [], am_t2010_0)
noncomputable def am_t2011_0 : List am_I := [
  (0, .iload 0, 1, 0), (1, .tableswitch 157 0 7 #[48, 53, 66, 84, 97, 104, 123, 130], 47, 0), (48, .iload 1, 1, 0), (49, .multianewarray 2012 1, 3, 31), (52, .ireturn, 1, 0), (53, .iload 1, 1, 0), (54, .sipush 46, 2, 0), 
  (56, .if_icmp .ne 63, 3, 0), (59, .sipush 2, 1, 0), (60, .goto 65, 3, 0), (63, .sipush 9, 2, 0), (65, .ireturn, 1, 0), (66, .iload 1, 1, 0), (67, .sipush 48, 2, 0), (69, .sipush 53, 2, 0), (71, .multianewarray 2010 3, 3, 27), 
  (74, .ifCond .eq 81, 3, 0), (77, .sipush 3, 1, 0), (78, .goto 83, 3, 0), (81, .sipush 9, 2, 0), (83, .ireturn, 1, 0), (84, .iload 1, 1, 0), (85, .sipush 61, 2, 0), (87, .if_icmp .ne 94, 3, 0), (90, .sipush 4, 1, 0), (91, .goto 96, 3, 0), 
  (94, .sipush 9, 2, 0), (96, .ireturn, 1, 0), (97, .iload 1, 1, 0), (98, .sipush 57, 2, 0), (100, .multianewarray 2013 2, 3, 34), (103, .ireturn, 1, 0), (104, .iload 1, 1, 0), (105, .sipush 48, 2, 0), (107, .sipush 53, 2, 0), 
  (109, .multianewarray 2010 3, 3, 27), (112, .ifCond .eq 120, 3, 0), (115, .sipush 8, 2, 0), (117, .goto 122, 3, 0), (120, .sipush 9, 2, 0), (122, .ireturn, 1, 0), (123, .iload 1, 1, 0), (124, .sipush 53, 2, 0), (126, .multianewarray 2013 2, 3, 34), 
  (129, .ireturn, 1, 0), (130, .iload 1, 1, 0), (131, .sipush 48, 2, 0), (133, .sipush 57, 2, 0), (135, .multianewarray 2010 3, 3, 27), (138, .ifCond .eq 144, 3, 0), (141, .sipush 8, 2, 0), (143, .ireturn, 1, 0), (144, .iload 1, 1, 0), 
  (145, .sipush 59, 2, 0), (147, .if_icmp .ne 154, 3, 0), (150, .sipush 0, 1, 0), (151, .goto 156, 3, 0), (154, .sipush 9, 2, 0), (156, .ireturn, 1, 0), (157, .iload 1, 1, 0), (158, .sipush 59, 2, 0), (160, .if_icmp .ne 167, 3, 0), 
  (163, .sipush 0, 1, 0), (164, .goto 169, 3, 0), (167, .sipush 9, 2, 0), (169, .ireturn, 1, 0)]
noncomputable def am_m2011 : am_M := (2011, ("awaitedAfter", "(II)I"), prog_4_method_11_code, 2, (some .int), [], [], am_t2011_0)
noncomputable def am_t2012_0 : List am_I := [
  (0, .iload 0, 1, 0), (1, .tableswitch 100 97 115 #[92, 92, 92, 100, 100, 100, 100, 100, 100, 100, 100, 100, 95, 100, 100, 97, 100, 97, 95], 91, 0), (92, .sipush 8, 2, 0), (94, .ireturn, 1, 0), (95, .sipush 5, 1, 0), (96, .ireturn, 1, 0), 
  (97, .sipush 6, 2, 0), (99, .ireturn, 1, 0), (100, .iload 0, 1, 0), (101, .sipush 48, 2, 0), (103, .sipush 51, 2, 0), (105, .multianewarray 2010 3, 3, 27), (108, .ifCond .eq 115, 3, 0), (111, .sipush 1, 1, 0), (112, .goto 117, 3, 0), 
  (115, .sipush 9, 2, 0), (117, .ireturn, 1, 0)]
noncomputable def am_m2012 : am_M := (2012, ("awaitedAfterStart", "(I)I"), prog_4_method_12_code, 1, (some .int), [], [], am_t2012_0)
noncomputable def am_t2013_0 : List am_I := [
  (0, .iload 0, 1, 0), (1, .sipush 48, 2, 0), (3, .sipush 57, 2, 0), (5, .multianewarray 2010 3, 3, 27), (8, .ifCond .ne 14, 3, 0), (11, .sipush 9, 2, 0), (13, .ireturn, 1, 0), (14, .iload 0, 1, 0), (15, .sipush 49, 2, 0), 
  (17, .iload 1, 1, 0), (18, .multianewarray 2010 3, 3, 27), (21, .ifCond .eq 29, 3, 0), (24, .sipush 7, 2, 0), (26, .goto 31, 3, 0), (29, .sipush 8, 2, 0), (31, .ireturn, 1, 0)]
noncomputable def am_m2013 : am_M := (2013, ("awaitedAfterFirstDigit", "(II)I"), prog_4_method_13_code, 2, (some .int), [], [], am_t2013_0)
noncomputable def am_t3001_0 : List am_I := [
  (0, .aload 0, 1, 0), (1, .invokespecial 0, 3, 3), (4, .aload 0, 1, 0), (5, .sipush 4, 1, 0), (6, .anewarray 5, 3, 9), (9, .putfield 96, 3, 11), (12, .aload 0, 1, 0), (13, .sipush 0, 1, 0), (14, .putfield 97, 3, 17), (17, .aload 0, 1, 0), 
  (18, .sipush 0, 1, 0), (19, .putfield 98, 3, 21), (22, .sipush 0, 1, 0), (23, .istore 1, 1, 0), (24, .iload 1, 1, 0), (25, .sipush 4, 1, 0), (26, .if_icmp .ge 48, 3, 0), (29, .aload 0, 1, 0), (30, .getfield 96, 3, 11), 
  (33, .iload 1, 1, 0), (34, .new 5, 3, 9), (37, .dup, 1, 0), (38, .invokespecial 5001, 3, 24), (41, .aastore, 1, 0), (42, .iinc 1 1, 3, 0), (45, .goto 24, 3, 0), (48, .return_, 1, 0)]
noncomputable def am_m3001 : am_M := (3001, ("<init>", "()V"), prog_5_method_1_code, 2, none, [], [], am_t3001_0)
noncomputable def am_t3002_0 : List am_I := [
  (0, .aload 0, 1, 0), (1, .getfield 98, 3, 21), (4, .sipush 4, 1, 0), (5, .if_icmp .ne 30, 3, 0), (8, .aload 0, 1, 0), (9, .aload 0, 1, 0), (10, .getfield 97, 3, 17), (13, .sipush 1, 1, 0), (14, .iadd, 1, 0), (15, .sipush 4, 1, 0), 
  (16, .irem, 1, 0), (17, .putfield 97, 3, 17), (20, .aload 0, 1, 0), (21, .dup, 1, 0), (22, .getfield 98, 3, 21), (25, .sipush 1, 1, 0), (26, .isub, 1, 0), (27, .putfield 98, 3, 21), (30, .aload 0, 1, 0), (31, .aload 0, 1, 0), 
  (32, .getfield 98, 3, 21), (35, .invokeinterface 3004 1, 3, 25), (38, .astore 2, 1, 0), (39, .aload 2, 1, 0), (40, .ifnull 58, 3, 0), (43, .aload 2, 1, 0), (44, .aload 1, 1, 0), (45, .invokeinterface 5002 1, 3, 29), (48, .aload 0, 1, 0), 
  (49, .dup, 1, 0), (50, .getfield 98, 3, 21), (53, .sipush 1, 1, 0), (54, .iadd, 1, 0), (55, .putfield 98, 3, 21), (58, .return_, 1, 0)]
noncomputable def am_m3002 : am_M := (3002, ("add", "(LBranchedSource$State;)V"), prog_5_method_2_code, 3, none, [], [], am_t3002_0)
noncomputable def am_t3003_0 : List am_I := [
  (0, .aload 0, 1, 0), (1, .aload 0, 1, 0), (2, .getfield 98, 3, 21), (5, .sipush 1, 1, 0), (6, .isub, 1, 0), (7, .invokeinterface 3004 1, 3, 25), (10, .astore 2, 1, 0), (11, .aload 2, 1, 0), (12, .ifnull 30, 3, 0), (15, .aload 1, 1, 0), 
  (16, .aload 2, 1, 0), (17, .invokeinterface 5002 1, 3, 29), (20, .aload 0, 1, 0), (21, .dup, 1, 0), (22, .getfield 98, 3, 21), (25, .sipush 1, 1, 0), (26, .isub, 1, 0), (27, .putfield 98, 3, 21), (30, .return_, 1, 0)]
noncomputable def am_m3003 : am_M := (3003, ("bringBack", "(LBranchedSource$State;)V"), prog_5_method_3_code, 3, none, [], [], am_t3003_0)
noncomputable def am_t3004_0 : List am_I := [
  (0, .iload 1, 1, 0), (1, .ifCond .lt 25, 3, 0), (4, .iload 1, 1, 0), (5, .sipush 4, 1, 0), (6, .if_icmp .ge 25, 3, 0), (9, .aload 0, 1, 0), (10, .getfield 96, 3, 11), (13, .aload 0, 1, 0), (14, .getfield 97, 3, 17), (17, .iload 1, 1, 0), 
  (18, .iadd, 1, 0), (19, .sipush 4, 1, 0), (20, .irem, 1, 0), (21, .aaload, 1, 0), (22, .goto 26, 3, 0), (26, .areturn, 1, 0)]
noncomputable def am_m3004 : am_M := (3004, ("stateAt", "(I)LBranchedSource$State;"), prog_5_method_4_code, 2, (some (.object "BranchedSource$State")), [], [], am_t3004_0)
noncomputable def am_t4001_0 : List am_I := [
  (0, .aload 0, 1, 0), (1, .invokespecial 0, 3, 3), (4, .aload 0, 1, 0), (5, .new 5, 3, 9), (8, .dup, 1, 0), (9, .invokespecial 5001, 3, 11), (12, .putfield 128, 3, 12), (15, .aload 0, 1, 0), (16, .new 1, 3, 18), (19, .dup, 1, 0), 
  (20, .invokespecial 1001, 3, 20), (23, .putfield 129, 3, 21), (26, .aload 0, 1, 0), (27, .new 0, 3, 25), (30, .dup, 1, 0), (31, .invokespecial 1, 3, 27), (34, .putfield 130, 3, 28), (37, .aload 0, 1, 0), (38, .sipush 60, 2, 0), 
  (40, .newarray .int, 2, 0), (42, .putfield 131, 3, 32), (45, .return_, 1, 0)]
noncomputable def am_m4001 : am_M := (4001, ("<init>", "()V"), prog_6_method_1_code, 1, none, [], [], am_t4001_0)
noncomputable def am_t4002_0 : List am_I := [
  (0, .aload 0, 1, 0), (1, .getfield 128, 3, 12), (4, .iload 1, 1, 0), (5, .iload 2, 1, 0), (6, .invokeinterface 5022 2, 3, 36), (9, .aload 0, 1, 0), (10, .getfield 128, 3, 12), (13, .invokeinterface 5024 0, 3, 40), (16, .ireturn, 1, 0)
  ]
noncomputable def am_m4002 : am_M := (4002, ("doEdit", "(II)I"), prog_6_method_2_code, 3, (some .int), [], [], am_t4002_0)
noncomputable def am_t4003_0 : List am_I := [
  (0, .aload 0, 1, 0), (1, .getfield 128, 3, 12), (4, .getfield 168, 3, 44), (7, .sipush 1, 1, 0), (8, .if_icmp .eq 21, 3, 0), (11, .aload 0, 1, 0), (12, .getfield 128, 3, 12), (15, .invokeinterface 5024 0, 3, 40), (18, .ifCond .le 25, 3, 0), 
  (21, .sipush 1, 1, 0), (22, .goto 26, 3, 0), (25, .sipush 0, 1, 0), (26, .istore 1, 1, 0), (27, .iload 1, 1, 0), (28, .ifCond .eq 55, 3, 0), (31, .aload 0, 1, 0), (32, .getfield 128, 3, 12), (35, .invokeinterface 5029 0, 3, 48), 
  (38, .ifCond .ne 55, 3, 0), (41, .aload 0, 1, 0), (42, .getfield 128, 3, 12), (45, .invokeinterface 5004 0, 3, 51), (48, .ifCond .eq 55, 3, 0), (51, .sipush 1, 1, 0), (52, .goto 56, 3, 0), (55, .sipush 0, 1, 0), (56, .freturn, 1, 0)
  ]
noncomputable def am_m4003 : am_M := (4003, ("mayCommit", "()Z"), prog_6_method_3_code, 2, (some .boolean), [], [], am_t4003_0)
noncomputable def am_t4004_0 : List am_I := [
  (0, .aload 0, 1, 0), (1, .getfield 128, 3, 12), (4, .aload 0, 1, 0), (5, .getfield 128, 3, 12), (8, .getfield 168, 3, 44), (11, .sipush 1, 1, 0), (12, .if_icmp .ne 25, 3, 0), (15, .aload 0, 1, 0), (16, .getfield 128, 3, 12), 
  (19, .getfield 169, 3, 55), (22, .goto 26, 3, 0), (25, .sipush (-1), 1, 0), (26, .invokeinterface 5013 1, 3, 58), (29, .ireturn, 1, 0)]
noncomputable def am_m4004 : am_M := (4004, ("doCommit", "()I"), prog_6_method_4_code, 1, (some .int), [], [], am_t4004_0)
noncomputable def am_t4005_0 : List am_I := [
  (0, .aload 0, 1, 0), (1, .getfield 128, 3, 12), (4, .invokeinterface 5016 0, 3, 62), (7, .istore 2, 1, 0), (8, .aload 0, 1, 0), (9, .getfield 128, 3, 12), (12, .iload 1, 1, 0), (13, .invokeinterface 5020 1, 3, 65), (16, .iload 2, 1, 0), 
  (17, .ireturn, 1, 0)]
noncomputable def am_m4005 : am_M := (4005, ("doReset", "(I)I"), prog_6_method_5_code, 3, (some .int), [], [], am_t4005_0)
noncomputable def am_t4006_0 : List am_I := [
  (0, .aload 0, 1, 0), (1, .getfield 128, 3, 12), (4, .getfield 168, 3, 44), (7, .ifCond .ne 35, 3, 0), (10, .aload 0, 1, 0), (11, .getfield 128, 3, 12), (14, .invokeinterface 5024 0, 3, 40), (17, .ifCond .le 35, 3, 0), (20, .aload 0, 1, 0), 
  (21, .getfield 128, 3, 12), (24, .getfield 170, 3, 69), (27, .sipush 3, 1, 0), (28, .if_icmp .ge 35, 3, 0), (31, .sipush 1, 1, 0), (32, .goto 36, 3, 0), (35, .sipush 0, 1, 0), (36, .freturn, 1, 0)]
noncomputable def am_m4006 : am_M := (4006, ("mayPutAside", "()Z"), prog_6_method_6_code, 1, (some .boolean), [], [], am_t4006_0)
noncomputable def am_t4007_0 : List am_I := [
  (0, .aload 0, 1, 0), (1, .getfield 128, 3, 12), (4, .invokeinterface 5032 0, 3, 72), (7, .aload 0, 1, 0), (8, .getfield 128, 3, 12), (11, .aload 0, 1, 0), (12, .getfield 128, 3, 12), (15, .invokeinterface 5016 0, 3, 62), 
  (18, .invokeinterface 5020 1, 3, 65), (21, .aload 0, 1, 0), (22, .getfield 128, 3, 12), (25, .getfield 170, 3, 69), (28, .ireturn, 1, 0)]
noncomputable def am_m4007 : am_M := (4007, ("doPutAside", "()I"), prog_6_method_7_code, 1, (some .int), [], [], am_t4007_0)
noncomputable def am_t4008_0 : List am_I := [
  (0, .aload 0, 1, 0), (1, .getfield 128, 3, 12), (4, .getfield 170, 3, 69), (7, .ifCond .eq 20, 3, 0), (10, .aload 0, 1, 0), (11, .getfield 128, 3, 12), (14, .getfield 168, 3, 44), (17, .ifCond .eq 22, 3, 0), (20, .sipush 0, 1, 0), 
  (21, .freturn, 1, 0), (22, .aload 0, 1, 0), (23, .invokeinterface 4029 0, 3, 75), (26, .aload 0, 1, 0), (27, .getfield 130, 3, 28), (30, .getfield 5, 3, 78), (33, .ifCond .ne 40, 3, 0), (36, .sipush 1, 1, 0), (37, .goto 41, 3, 0), 
  (40, .sipush 0, 1, 0), (41, .freturn, 1, 0)]
noncomputable def am_m4008 : am_M := (4008, ("mayTakeBack", "()Z"), prog_6_method_8_code, 1, (some .boolean), [], [], am_t4008_0)
noncomputable def am_t4009_0 : List am_I := [
  (0, .aload 0, 1, 0), (1, .invokeinterface 4029 0, 3, 75), (4, .aload 0, 1, 0), (5, .invokeinterface 4031 0, 3, 81), (8, .aload 0, 1, 0), (9, .getfield 128, 3, 12), (12, .dup, 1, 0), (13, .getfield 170, 3, 69), (16, .sipush 1, 1, 0), 
  (17, .isub, 1, 0), (18, .putfield 170, 3, 69), (21, .aload 0, 1, 0), (22, .getfield 130, 3, 28), (25, .getfield 4, 3, 84), (28, .ireturn, 1, 0)]
noncomputable def am_m4009 : am_M := (4009, ("doTakeBack", "()I"), prog_6_method_9_code, 1, (some .int), [], [], am_t4009_0)
noncomputable def am_t4010_0 : List am_I := [
  (0, .aload 0, 1, 0), (1, .getfield 128, 3, 12), (4, .invokeinterface 5018 0, 3, 87), (7, .sipush (-1), 1, 0), (8, .if_icmp .eq 15, 3, 0), (11, .sipush 1, 1, 0), (12, .goto 16, 3, 0), (15, .sipush 0, 1, 0), (16, .freturn, 1, 0)
  ]
noncomputable def am_m4010 : am_M := (4010, ("mayBranch", "()Z"), prog_6_method_10_code, 1, (some .boolean), [], [], am_t4010_0)
noncomputable def am_t4011_0 : List am_I := [
  (0, .aload 0, 1, 0), (1, .getfield 128, 3, 12), (4, .invokeinterface 5018 0, 3, 87), (7, .istore 1, 1, 0), (8, .aload 0, 1, 0), (9, .getfield 128, 3, 12), (12, .iload 1, 1, 0), (13, .aload 0, 1, 0), (14, .getfield 128, 3, 12), 
  (17, .invokeinterface 5016 0, 3, 62), (20, .invokeinterface 5019 2, 3, 90), (23, .iload 1, 1, 0), (24, .ireturn, 1, 0)]
noncomputable def am_m4011 : am_M := (4011, ("doBranch", "()I"), prog_6_method_11_code, 2, (some .int), [], [], am_t4011_0)
noncomputable def am_t4012_0 : List am_I := [
  (0, .aload 0, 1, 0), (1, .getfield 128, 3, 12), (4, .iload 1, 1, 0), (5, .invokeinterface 5014 1, 3, 93), (8, .ifCond .eq 26, 3, 0), (11, .iload 1, 1, 0), (12, .aload 0, 1, 0), (13, .getfield 128, 3, 12), (16, .getfield 165, 3, 97), 
  (19, .if_icmp .eq 26, 3, 0), (22, .sipush 1, 1, 0), (23, .goto 27, 3, 0), (26, .sipush 0, 1, 0), (27, .freturn, 1, 0)]
noncomputable def am_m4012 : am_M := (4012, ("mayDrop", "(I)Z"), prog_6_method_12_code, 2, (some .boolean), [], [], am_t4012_0)
noncomputable def am_t4013_0 : List am_I := [
  (0, .aload 0, 1, 0), (1, .getfield 128, 3, 12), (4, .iload 1, 1, 0), (5, .invokeinterface 5015 1, 3, 100), (8, .istore 2, 1, 0), (9, .aload 0, 1, 0), (10, .getfield 128, 3, 12), (13, .iload 1, 1, 0), (14, .sipush (-1), 1, 0), 
  (15, .invokeinterface 5019 2, 3, 90), (18, .iload 2, 1, 0), (19, .ireturn, 1, 0)]
noncomputable def am_m4013 : am_M := (4013, ("doDrop", "(I)I"), prog_6_method_13_code, 3, (some .int), [], [], am_t4013_0)
noncomputable def am_t4014_0 : List am_I := [
  (0, .aload 0, 1, 0), (1, .getfield 128, 3, 12), (4, .iload 1, 1, 0), (5, .invokeinterface 5014 1, 3, 93), (8, .ifCond .eq 36, 3, 0), (11, .iload 1, 1, 0), (12, .aload 0, 1, 0), (13, .getfield 128, 3, 12), (16, .getfield 165, 3, 97), 
  (19, .if_icmp .eq 36, 3, 0), (22, .aload 0, 1, 0), (23, .getfield 128, 3, 12), (26, .invokeinterface 5026 0, 3, 103), (29, .ifCond .eq 36, 3, 0), (32, .sipush 1, 1, 0), (33, .goto 37, 3, 0), (36, .sipush 0, 1, 0), (37, .freturn, 1, 0)
  ]
noncomputable def am_m4014 : am_M := (4014, ("maySwitch", "(I)Z"), prog_6_method_14_code, 2, (some .boolean), [], [], am_t4014_0)
noncomputable def am_t4015_0 : List am_I := [
  (0, .aload 0, 1, 0), (1, .getfield 128, 3, 12), (4, .iload 1, 1, 0), (5, .putfield 165, 3, 97), (8, .aload 0, 1, 0), (9, .getfield 128, 3, 12), (12, .aload 0, 1, 0), (13, .getfield 128, 3, 12), (16, .invokeinterface 5016 0, 3, 62), 
  (19, .invokeinterface 5020 1, 3, 65), (22, .aload 0, 1, 0), (23, .getfield 128, 3, 12), (26, .invokeinterface 5016 0, 3, 62), (29, .ireturn, 1, 0)]
noncomputable def am_m4015 : am_M := (4015, ("doSwitch", "(I)I"), prog_6_method_15_code, 2, (some .int), [], [], am_t4015_0)
noncomputable def am_t4016_0 : List am_I := [
  (0, .aload 0, 1, 0), (1, .iload 1, 1, 0), (2, .invokeinterface 4025 1, 3, 106), (5, .ifCond .eq 37, 3, 0), (8, .aload 0, 1, 0), (9, .aload 0, 1, 0), (10, .getfield 128, 3, 12), (13, .iload 1, 1, 0), (14, .invokeinterface 5015 1, 3, 100), 
  (17, .invokeinterface 4026 1, 3, 109), (20, .ifCond .ne 33, 3, 0), (23, .aload 0, 1, 0), (24, .getfield 128, 3, 12), (27, .invokeinterface 5004 0, 3, 51), (30, .ifCond .eq 37, 3, 0), (33, .sipush 1, 1, 0), (34, .goto 38, 3, 0), 
  (37, .sipush 0, 1, 0), (38, .freturn, 1, 0)]
noncomputable def am_m4016 : am_M := (4016, ("mayMerge", "(I)Z"), prog_6_method_16_code, 2, (some .boolean), [], [], am_t4016_0)
noncomputable def am_t4017_0 : List am_I := [
  (0, .aload 0, 1, 0), (1, .getfield 128, 3, 12), (4, .iload 1, 1, 0), (5, .invokeinterface 5015 1, 3, 100), (8, .istore 2, 1, 0), (9, .aload 0, 1, 0), (10, .iload 2, 1, 0), (11, .invokeinterface 4026 1, 3, 109), (14, .ifCond .eq 27, 3, 0), 
  (17, .aload 0, 1, 0), (18, .getfield 128, 3, 12), (21, .iload 2, 1, 0), (22, .invokeinterface 5020 1, 3, 65), (25, .sipush 0, 1, 0), (26, .ireturn, 1, 0), (27, .aload 0, 1, 0), (28, .iload 2, 1, 0), (29, .invokeinterface 4027 1, 3, 112), 
  (32, .aload 0, 1, 0), (33, .sipush 1, 1, 0), (34, .iload 2, 1, 0), (35, .invokeinterface 4032 2, 3, 115), (38, .ireturn, 1, 0)]
noncomputable def am_m4017 : am_M := (4017, ("doMerge", "(I)I"), prog_6_method_17_code, 3, (some .int), [], [], am_t4017_0)
noncomputable def am_t4018_0 : List am_I := [
  (0, .aload 0, 1, 0), (1, .getfield 128, 3, 12), (4, .iload 1, 1, 0), (5, .invokeinterface 5003 1, 3, 119), (8, .ifCond .eq 35, 3, 0), (11, .iload 1, 1, 0), (12, .ifCond .eq 35, 3, 0), (15, .aload 0, 1, 0), (16, .getfield 128, 3, 12), 
  (19, .invokeinterface 5026 0, 3, 103), (22, .ifCond .eq 35, 3, 0), (25, .aload 0, 1, 0), (26, .getfield 128, 3, 12), (29, .invokeinterface 5004 0, 3, 51), (32, .ifCond .ne 37, 3, 0), (35, .sipush 0, 1, 0), (36, .freturn, 1, 0), 
  (37, .aload 0, 1, 0), (38, .iload 1, 1, 0), (39, .iload 2, 1, 0), (40, .invokeinterface 4028 2, 3, 122), (43, .aload 0, 1, 0), (44, .getfield 130, 3, 28), (47, .invokeinterface 3 0, 3, 126), (50, .ifCond .ne 57, 3, 0), 
  (53, .sipush 1, 1, 0), (54, .goto 58, 3, 0), (57, .sipush 0, 1, 0), (58, .freturn, 1, 0)]
noncomputable def am_m4018 : am_M := (4018, ("mayPick", "(IZ)Z"), prog_6_method_18_code, 3, (some .boolean), [], [], am_t4018_0)
noncomputable def am_t4019_0 : List am_I := [
  (0, .aload 0, 1, 0), (1, .iload 1, 1, 0), (2, .iload 2, 1, 0), (3, .invokeinterface 4028 2, 3, 122), (6, .aload 0, 1, 0), (7, .sipush 2, 1, 0), (8, .sipush (-1), 1, 0), (9, .invokeinterface 4032 2, 3, 115), (12, .ireturn, 1, 0)
  ]
noncomputable def am_m4019 : am_M := (4019, ("doPick", "(IZ)I"), prog_6_method_19_code, 3, (some .int), [], [], am_t4019_0)
noncomputable def am_t4020_0 : List am_I := [
  (0, .aload 0, 1, 0), (1, .iload 1, 1, 0), (2, .invokeinterface 4025 1, 3, 106), (5, .ifCond .ne 10, 3, 0), (8, .sipush 0, 1, 0), (9, .freturn, 1, 0), (10, .aload 0, 1, 0), (11, .getfield 128, 3, 12), (14, .iload 1, 1, 0), 
  (15, .invokeinterface 5015 1, 3, 100), (18, .istore 2, 1, 0), (19, .aload 0, 1, 0), (20, .getfield 128, 3, 12), (23, .getfield 160, 3, 129), (26, .istore 3, 1, 0), (27, .aload 0, 1, 0), (28, .getfield 129, 3, 21), (31, .aload 0, 1, 0), 
  (32, .getfield 128, 3, 12), (35, .iload 2, 1, 0), (36, .aload 0, 1, 0), (37, .getfield 131, 3, 32), (40, .invokeinterface 1014 3, 3, 132), (43, .aload 0, 1, 0), (44, .getfield 128, 3, 12), (47, .iload 2, 1, 0), (48, .aload 0, 1, 0), 
  (49, .getfield 130, 3, 28), (52, .getfield 2, 3, 136), (55, .invokeinterface 5008 2, 3, 139), (58, .sipush 0, 1, 0), (59, .istore 4, 2, 0), (61, .iload 4, 2, 0), (63, .sipush 60, 2, 0), (65, .if_icmp .ge 136, 3, 0), (68, .aload 0, 1, 0), 
  (69, .getfield 131, 3, 32), (72, .iload 4, 2, 0), (74, .multianewarray 1015 2, 3, 143), (77, .ifCond .eq 130, 3, 0), (80, .aload 0, 1, 0), (81, .iload 4, 2, 0), (83, .sipush 0, 1, 0), (84, .invokeinterface 4030 2, 3, 147), 
  (87, .aload 0, 1, 0), (88, .getfield 130, 3, 28), (91, .invokeinterface 2 0, 3, 150), (94, .iload 3, 1, 0), (95, .aload 0, 1, 0), (96, .getfield 130, 3, 28), (99, .getfield 4, 3, 84), (102, .ifCond .le 109, 3, 0), (105, .sipush 1, 1, 0), 
  (106, .goto 110, 3, 0), (109, .sipush 0, 1, 0), (110, .iadd, 1, 0), (111, .istore 3, 1, 0), (112, .aload 0, 1, 0), (113, .getfield 130, 3, 28), (116, .getfield 5, 3, 78), (119, .ifCond .gt 128, 3, 0), (122, .iload 3, 1, 0), 
  (123, .sipush 60, 2, 0), (125, .if_icmp .le 130, 3, 0), (128, .sipush 0, 1, 0), (129, .freturn, 1, 0), (130, .iinc 4 1, 3, 0), (133, .goto 61, 3, 0), (136, .sipush 1, 1, 0), (137, .freturn, 1, 0)]
noncomputable def am_m4020 : am_M := (4020, ("mayReplay", "(I)Z"), prog_6_method_20_code, 5, (some .boolean), [], [], am_t4020_0)
noncomputable def am_t4021_0 : List am_I := [
  (0, .sipush 0, 1, 0), (1, .istore 2, 1, 0), (2, .aload 0, 1, 0), (3, .getfield 128, 3, 12), (6, .iload 1, 1, 0), (7, .invokeinterface 5015 1, 3, 100), (10, .istore 3, 1, 0), (11, .aload 0, 1, 0), (12, .getfield 129, 3, 21), 
  (15, .aload 0, 1, 0), (16, .getfield 128, 3, 12), (19, .iload 3, 1, 0), (20, .aload 0, 1, 0), (21, .getfield 131, 3, 32), (24, .invokeinterface 1014 3, 3, 132), (27, .aload 0, 1, 0), (28, .getfield 128, 3, 12), (31, .iload 3, 1, 0), 
  (32, .invokeinterface 5020 1, 3, 65), (35, .sipush 0, 1, 0), (36, .istore 4, 2, 0), (38, .iload 4, 2, 0), (40, .sipush 60, 2, 0), (42, .if_icmp .ge 96, 3, 0), (45, .aload 0, 1, 0), (46, .getfield 131, 3, 32), (49, .iload 4, 2, 0), 
  (51, .multianewarray 1015 2, 3, 143), (54, .ifCond .eq 90, 3, 0), (57, .aload 0, 1, 0), (58, .iload 4, 2, 0), (60, .sipush 0, 1, 0), (61, .invokeinterface 4028 2, 3, 122), (64, .aload 0, 1, 0), (65, .getfield 130, 3, 28), 
  (68, .getfield 4, 3, 84), (71, .ifCond .le 90, 3, 0), (74, .aload 0, 1, 0), (75, .invokeinterface 4031 0, 3, 81), (78, .aload 0, 1, 0), (79, .getfield 128, 3, 12), (82, .sipush (-1), 1, 0), (83, .invokeinterface 5013 1, 3, 58), 
  (86, .pop, 1, 0), (87, .iinc 2 1, 3, 0), (90, .iinc 4 1, 3, 0), (93, .goto 38, 3, 0), (96, .iload 2, 1, 0), (97, .ireturn, 1, 0)]
noncomputable def am_m4021 : am_M := (4021, ("doReplay", "(I)I"), prog_6_method_21_code, 5, (some .int), [], [], am_t4021_0)
noncomputable def am_t4022_0 : List am_I := [
  (0, .aload 0, 1, 0), (1, .getfield 128, 3, 12), (4, .iload 1, 1, 0), (5, .iload 2, 1, 0), (6, .ifCond .eq 20, 3, 0), (9, .aload 0, 1, 0), (10, .getfield 128, 3, 12), (13, .iload 1, 1, 0), (14, .invokeinterface 5027 1, 3, 153), 
  (17, .goto 28, 3, 0), (20, .aload 0, 1, 0), (21, .getfield 128, 3, 12), (24, .iload 1, 1, 0), (25, .invokeinterface 5021 1, 3, 156), (28, .invokeinterface 5022 2, 3, 36), (31, .aload 0, 1, 0), (32, .getfield 128, 3, 12), 
  (35, .invokeinterface 5029 0, 3, 48), (38, .ireturn, 1, 0)]
noncomputable def am_m4022 : am_M := (4022, ("doResolve", "(IZ)I"), prog_6_method_22_code, 3, (some .int), [], [], am_t4022_0)
noncomputable def am_t4023_0 : List am_I := [
  (0, .aload 0, 1, 0), (1, .getfield 128, 3, 12), (4, .getfield 168, 3, 44), (7, .ifCond .eq 14, 3, 0), (10, .sipush 1, 1, 0), (11, .goto 15, 3, 0), (14, .sipush 0, 1, 0), (15, .freturn, 1, 0)]
noncomputable def am_m4023 : am_M := (4023, ("mayAbort", "()Z"), prog_6_method_23_code, 1, (some .boolean), [], [], am_t4023_0)
noncomputable def am_t4024_0 : List am_I := [
  (0, .aload 0, 1, 0), (1, .getfield 128, 3, 12), (4, .invokeinterface 5029 0, 3, 48), (7, .istore 1, 1, 0), (8, .aload 0, 1, 0), (9, .getfield 128, 3, 12), (12, .aload 0, 1, 0), (13, .getfield 128, 3, 12), (16, .invokeinterface 5016 0, 3, 62), 
  (19, .invokeinterface 5020 1, 3, 65), (22, .iload 1, 1, 0), (23, .ireturn, 1, 0)]
noncomputable def am_m4024 : am_M := (4024, ("doAbort", "()I"), prog_6_method_24_code, 2, (some .int), [], [], am_t4024_0)
noncomputable def am_t4025_0 : List am_I := [
  (0, .aload 0, 1, 0), (1, .getfield 128, 3, 12), (4, .iload 1, 1, 0), (5, .invokeinterface 5014 1, 3, 93), (8, .ifCond .eq 54, 3, 0), (11, .aload 0, 1, 0), (12, .getfield 128, 3, 12), (15, .invokeinterface 5026 0, 3, 103), 
  (18, .ifCond .eq 54, 3, 0), (21, .aload 0, 1, 0), (22, .getfield 129, 3, 21), (25, .aload 0, 1, 0), (26, .getfield 128, 3, 12), (29, .aload 0, 1, 0), (30, .getfield 128, 3, 12), (33, .invokeinterface 5016 0, 3, 62), (36, .aload 0, 1, 0), 
  (37, .getfield 128, 3, 12), (40, .iload 1, 1, 0), (41, .invokeinterface 5015 1, 3, 100), (44, .invokeinterface 1002 3, 3, 159), (47, .ifCond .ne 54, 3, 0), (50, .sipush 1, 1, 0), (51, .goto 55, 3, 0), (54, .sipush 0, 1, 0), 
  (55, .freturn, 1, 0)]
noncomputable def am_m4025 : am_M := (4025, ("mayGoOnTo", "(I)Z"), prog_6_method_25_code, 2, (some .boolean), [], [], am_t4025_0)
noncomputable def am_t4026_0 : List am_I := [
  (0, .aload 0, 1, 0), (1, .getfield 129, 3, 21), (4, .aload 0, 1, 0), (5, .getfield 128, 3, 12), (8, .iload 1, 1, 0), (9, .aload 0, 1, 0), (10, .getfield 128, 3, 12), (13, .invokeinterface 5016 0, 3, 62), (16, .invokeinterface 1002 3, 3, 159), 
  (19, .freturn, 1, 0)]
noncomputable def am_m4026 : am_M := (4026, ("isAhead", "(I)Z"), prog_6_method_26_code, 2, (some .boolean), [], [], am_t4026_0)
noncomputable def am_t4027_0 : List am_I := [
  (0, .aload 0, 1, 0), (1, .getfield 128, 3, 12), (4, .invokeinterface 5016 0, 3, 62), (7, .istore 2, 1, 0), (8, .aload 0, 1, 0), (9, .getfield 128, 3, 12), (12, .aload 0, 1, 0), (13, .getfield 129, 3, 21), (16, .aload 0, 1, 0), 
  (17, .getfield 128, 3, 12), (20, .iload 2, 1, 0), (21, .iload 1, 1, 0), (22, .invokeinterface 1011 3, 3, 163), (25, .aload 0, 1, 0), (26, .getfield 130, 3, 28), (29, .getfield 0, 3, 167), (32, .invokeinterface 5008 2, 3, 139), 
  (35, .aload 0, 1, 0), (36, .getfield 128, 3, 12), (39, .iload 1, 1, 0), (40, .aload 0, 1, 0), (41, .getfield 130, 3, 28), (44, .getfield 1, 3, 170), (47, .invokeinterface 5008 2, 3, 139), (50, .aload 0, 1, 0), (51, .getfield 128, 3, 12), 
  (54, .iload 2, 1, 0), (55, .aload 0, 1, 0), (56, .getfield 130, 3, 28), (59, .getfield 2, 3, 136), (62, .invokeinterface 5008 2, 3, 139), (65, .aload 0, 1, 0), (66, .getfield 130, 3, 28), (69, .invokeinterface 2 0, 3, 150), 
  (72, .return_, 1, 0)]
noncomputable def am_m4027 : am_M := (4027, ("combineWithHead", "(I)V"), prog_6_method_27_code, 3, none, [], [], am_t4027_0)
noncomputable def am_t4028_0 : List am_I := [
  (0, .aload 0, 1, 0), (1, .iload 1, 1, 0), (2, .iload 2, 1, 0), (3, .invokeinterface 4030 2, 3, 147), (6, .aload 0, 1, 0), (7, .getfield 128, 3, 12), (10, .getfield 166, 3, 173), (13, .sipush 0, 1, 0), (14, .aload 0, 1, 0), 
  (15, .getfield 130, 3, 28), (18, .getfield 2, 3, 136), (21, .sipush 0, 1, 0), (22, .sipush 24, 2, 0), (24, .invokestatic 1, 3, 176), (27, .aload 0, 1, 0), (28, .getfield 130, 3, 28), (31, .invokeinterface 2 0, 3, 150), 
  (34, .return_, 1, 0)]
noncomputable def am_m4028 : am_M := (4028, ("combineWithWork", "(IZ)V"), prog_6_method_28_code, 3, none, [], [], am_t4028_0)
noncomputable def am_t4029_0 : List am_I := [
  (0, .aload 0, 1, 0), (1, .getfield 128, 3, 12), (4, .aload 0, 1, 0), (5, .getfield 128, 3, 12), (8, .invokeinterface 5033 0, 3, 182), (11, .aload 0, 1, 0), (12, .getfield 130, 3, 28), (15, .getfield 0, 3, 167), (18, .invokeinterface 5008 2, 3, 139), 
  (21, .aload 0, 1, 0), (22, .getfield 128, 3, 12), (25, .aload 0, 1, 0), (26, .getfield 130, 3, 28), (29, .getfield 1, 3, 170), (32, .invokeinterface 5034 1, 3, 185), (35, .aload 0, 1, 0), (36, .getfield 128, 3, 12), (39, .getfield 166, 3, 173), 
  (42, .sipush 0, 1, 0), (43, .aload 0, 1, 0), (44, .getfield 130, 3, 28), (47, .getfield 2, 3, 136), (50, .sipush 0, 1, 0), (51, .sipush 24, 2, 0), (53, .invokestatic 1, 3, 176), (56, .aload 0, 1, 0), (57, .getfield 130, 3, 28), 
  (60, .invokeinterface 2 0, 3, 150), (63, .return_, 1, 0)]
noncomputable def am_m4029 : am_M := (4029, ("combineWithAside", "()V"), prog_6_method_29_code, 1, none, [], [], am_t4029_0)
noncomputable def am_t4030_0 : List am_I := [
  (0, .aload 0, 1, 0), (1, .getfield 128, 3, 12), (4, .iload 1, 1, 0), (5, .invokeinterface 5005 1, 3, 189), (8, .istore 3, 1, 0), (9, .aload 0, 1, 0), (10, .getfield 128, 3, 12), (13, .iload 2, 1, 0), (14, .ifCond .eq 21, 3, 0), 
  (17, .iload 1, 1, 0), (18, .goto 22, 3, 0), (21, .iload 3, 1, 0), (22, .aload 0, 1, 0), (23, .getfield 130, 3, 28), (26, .getfield 0, 3, 167), (29, .invokeinterface 5008 2, 3, 139), (32, .aload 0, 1, 0), (33, .getfield 128, 3, 12), 
  (36, .iload 2, 1, 0), (37, .ifCond .eq 44, 3, 0), (40, .iload 3, 1, 0), (41, .goto 45, 3, 0), (44, .iload 1, 1, 0), (45, .aload 0, 1, 0), (46, .getfield 130, 3, 28), (49, .getfield 1, 3, 170), (52, .invokeinterface 5008 2, 3, 139), 
  (55, .return_, 1, 0)]
noncomputable def am_m4030 : am_M := (4030, ("readChange", "(IZ)V"), prog_6_method_30_code, 4, none, [], [], am_t4030_0)
noncomputable def am_t4031_0 : List am_I := [
  (0, .aload 0, 1, 0), (1, .getfield 130, 3, 28), (4, .getfield 2, 3, 136), (7, .sipush 0, 1, 0), (8, .aload 0, 1, 0), (9, .getfield 128, 3, 12), (12, .getfield 166, 3, 173), (15, .sipush 0, 1, 0), (16, .sipush 24, 2, 0), 
  (18, .invokestatic 1, 3, 176), (21, .aload 0, 1, 0), (22, .getfield 130, 3, 28), (25, .getfield 3, 3, 192), (28, .sipush 0, 1, 0), (29, .aload 0, 1, 0), (30, .getfield 128, 3, 12), (33, .getfield 167, 3, 195), (36, .sipush 0, 1, 0), 
  (37, .sipush 24, 2, 0), (39, .invokestatic 1, 3, 176), (42, .return_, 1, 0)]
noncomputable def am_m4031 : am_M := (4031, ("takeCombined", "()V"), prog_6_method_31_code, 1, none, [], [], am_t4031_0)
noncomputable def am_t4032_0 : List am_I := [
  (0, .aload 0, 1, 0), (1, .invokeinterface 4031 0, 3, 81), (4, .aload 0, 1, 0), (5, .getfield 130, 3, 28), (8, .getfield 5, 3, 78), (11, .ifCond .ne 25, 3, 0), (14, .aload 0, 1, 0), (15, .getfield 128, 3, 12), (18, .iload 2, 1, 0), 
  (19, .invokeinterface 5013 1, 3, 58), (22, .pop, 1, 0), (23, .sipush 0, 1, 0), (24, .ireturn, 1, 0), (25, .aload 0, 1, 0), (26, .getfield 128, 3, 12), (29, .iload 1, 1, 0), (30, .putfield 168, 3, 44), (33, .aload 0, 1, 0), 
  (34, .getfield 128, 3, 12), (37, .iload 2, 1, 0), (38, .putfield 169, 3, 55), (41, .aload 0, 1, 0), (42, .getfield 128, 3, 12), (45, .dup, 1, 0), (46, .getfield 173, 3, 196), (49, .aload 0, 1, 0), (50, .getfield 130, 3, 28), 
  (53, .getfield 5, 3, 78), (56, .iadd, 1, 0), (57, .putfield 173, 3, 196), (60, .aload 0, 1, 0), (61, .getfield 130, 3, 28), (64, .getfield 5, 3, 78), (67, .ireturn, 1, 0)]
noncomputable def am_m4032 : am_M := (4032, ("settle", "(II)I"), prog_6_method_32_code, 3, (some .int), [], [], am_t4032_0)
noncomputable def am_t5001_0 : List am_I := [
  (0, .aload 0, 1, 0), (1, .invokespecial 0, 3, 3), (4, .aload 0, 1, 0), (5, .sipush 1, 1, 0), (6, .putfield 160, 3, 9), (9, .aload 0, 1, 0), (10, .sipush 60, 2, 0), (12, .newarray .int, 2, 0), (14, .putfield 161, 3, 15), 
  (17, .aload 0, 1, 0), (18, .sipush 60, 2, 0), (20, .newarray .int, 2, 0), (22, .putfield 162, 3, 19), (25, .aload 0, 1, 0), (26, .sipush 1440, 3, 0), (29, .newarray .int, 2, 0), (31, .putfield 163, 3, 22), (34, .aload 0, 1, 0), 
  (35, .sipush 6, 2, 0), (37, .newarray .int, 2, 0), (39, .putfield 164, 3, 25), (42, .aload 0, 1, 0), (43, .sipush 0, 1, 0), (44, .putfield 165, 3, 28), (47, .aload 0, 1, 0), (48, .sipush 24, 2, 0), (50, .newarray .int, 2, 0), 
  (52, .putfield 166, 3, 31), (55, .aload 0, 1, 0), (56, .sipush 24, 2, 0), (58, .newarray .int, 2, 0), (60, .putfield 167, 3, 34), (63, .aload 0, 1, 0), (64, .sipush 0, 1, 0), (65, .putfield 168, 3, 37), (68, .aload 0, 1, 0), 
  (69, .sipush (-1), 1, 0), (70, .putfield 169, 3, 40), (73, .aload 0, 1, 0), (74, .sipush 0, 1, 0), (75, .putfield 170, 3, 43), (78, .aload 0, 1, 0), (79, .sipush 3, 1, 0), (80, .newarray .int, 2, 0), (82, .putfield 171, 3, 46), 
  (85, .aload 0, 1, 0), (86, .sipush 72, 2, 0), (88, .newarray .int, 2, 0), (90, .putfield 172, 3, 49), (93, .aload 0, 1, 0), (94, .sipush 0, 1, 0), (95, .putfield 173, 3, 52), (98, .aload 0, 1, 0), (99, .getfield 161, 3, 15), 
  (102, .sipush (-1), 1, 0), (103, .multianewarray 9000 2, 3, 55), (106, .aload 0, 1, 0), (107, .getfield 162, 3, 19), (110, .sipush (-1), 1, 0), (111, .multianewarray 9000 2, 3, 55), (114, .aload 0, 1, 0), (115, .getfield 164, 3, 25), 
  (118, .sipush (-1), 1, 0), (119, .multianewarray 9000 2, 3, 55), (122, .aload 0, 1, 0), (123, .getfield 167, 3, 34), (126, .sipush (-1), 1, 0), (127, .multianewarray 9000 2, 3, 55), (130, .aload 0, 1, 0), (131, .getfield 164, 3, 25), 
  (134, .sipush 0, 1, 0), (135, .sipush 0, 1, 0), (136, .iastore, 1, 0), (137, .return_, 1, 0)]
noncomputable def am_m5001 : am_M := (5001, ("<init>", "()V"), prog_7_method_1_code, 1, none, [], [], am_t5001_0)
noncomputable def am_t5002_0 : List am_I := [
  (0, .aload 1, 1, 0), (1, .getfield 160, 3, 9), (4, .sipush 60, 2, 0), (6, .invokestatic 3, 3, 61), (9, .istore 2, 1, 0), (10, .aload 0, 1, 0), (11, .iload 2, 1, 0), (12, .putfield 160, 3, 9), (15, .aload 1, 1, 0), (16, .getfield 161, 3, 15), 
  (19, .sipush 0, 1, 0), (20, .aload 0, 1, 0), (21, .getfield 161, 3, 15), (24, .sipush 0, 1, 0), (25, .iload 2, 1, 0), (26, .invokestatic 1, 3, 67), (29, .aload 1, 1, 0), (30, .getfield 162, 3, 19), (33, .sipush 0, 1, 0), 
  (34, .aload 0, 1, 0), (35, .getfield 162, 3, 19), (38, .sipush 0, 1, 0), (39, .iload 2, 1, 0), (40, .invokestatic 1, 3, 67), (43, .aload 1, 1, 0), (44, .getfield 163, 3, 22), (47, .sipush 0, 1, 0), (48, .aload 0, 1, 0), 
  (49, .getfield 163, 3, 22), (52, .sipush 0, 1, 0), (53, .iload 2, 1, 0), (54, .sipush 24, 2, 0), (56, .imul, 1, 0), (57, .invokestatic 1, 3, 67), (60, .aload 1, 1, 0), (61, .getfield 164, 3, 25), (64, .sipush 0, 1, 0), 
  (65, .aload 0, 1, 0), (66, .getfield 164, 3, 25), (69, .sipush 0, 1, 0), (70, .sipush 6, 2, 0), (72, .invokestatic 1, 3, 67), (75, .aload 0, 1, 0), (76, .aload 1, 1, 0), (77, .getfield 165, 3, 28), (80, .putfield 165, 3, 28), 
  (83, .aload 1, 1, 0), (84, .getfield 166, 3, 31), (87, .sipush 0, 1, 0), (88, .aload 0, 1, 0), (89, .getfield 166, 3, 31), (92, .sipush 0, 1, 0), (93, .sipush 24, 2, 0), (95, .invokestatic 1, 3, 67), (98, .aload 1, 1, 0), 
  (99, .getfield 167, 3, 34), (102, .sipush 0, 1, 0), (103, .aload 0, 1, 0), (104, .getfield 167, 3, 34), (107, .sipush 0, 1, 0), (108, .sipush 24, 2, 0), (110, .invokestatic 1, 3, 67), (113, .aload 0, 1, 0), (114, .aload 1, 1, 0), 
  (115, .getfield 168, 3, 37), (118, .putfield 168, 3, 37), (121, .aload 0, 1, 0), (122, .aload 1, 1, 0), (123, .getfield 169, 3, 40), (126, .putfield 169, 3, 40), (129, .aload 0, 1, 0), (130, .aload 1, 1, 0), (131, .getfield 170, 3, 43), 
  (134, .putfield 170, 3, 43), (137, .aload 1, 1, 0), (138, .getfield 171, 3, 46), (141, .sipush 0, 1, 0), (142, .aload 0, 1, 0), (143, .getfield 171, 3, 46), (146, .sipush 0, 1, 0), (147, .sipush 3, 1, 0), (148, .invokestatic 1, 3, 67), 
  (151, .aload 1, 1, 0), (152, .getfield 172, 3, 49), (155, .sipush 0, 1, 0), (156, .aload 0, 1, 0), (157, .getfield 172, 3, 49), (160, .sipush 0, 1, 0), (161, .sipush 72, 2, 0), (163, .invokestatic 1, 3, 67), (166, .aload 0, 1, 0), 
  (167, .aload 1, 1, 0), (168, .getfield 173, 3, 52), (171, .putfield 173, 3, 52), (174, .return_, 1, 0)]
noncomputable def am_m5002 : am_M := (5002, ("copyFrom", "(LBranchedSource$State;)V"), prog_7_method_2_code, 3, none, [], [], am_t5002_0)
noncomputable def am_t5003_0 : List am_I := [
  (0, .iload 1, 1, 0), (1, .ifCond .lt 22, 3, 0), (4, .iload 1, 1, 0), (5, .aload 0, 1, 0), (6, .getfield 160, 3, 9), (9, .if_icmp .ge 22, 3, 0), (12, .iload 1, 1, 0), (13, .sipush 60, 2, 0), (15, .if_icmp .ge 22, 3, 0), 
  (18, .sipush 1, 1, 0), (19, .goto 23, 3, 0), (22, .sipush 0, 1, 0), (23, .freturn, 1, 0)]
noncomputable def am_m5003 : am_M := (5003, ("hasCommit", "(I)Z"), prog_7_method_3_code, 2, (some .boolean), [], [], am_t5003_0)
noncomputable def am_t5004_0 : List am_I := [
  (0, .aload 0, 1, 0), (1, .getfield 160, 3, 9), (4, .sipush 60, 2, 0), (6, .if_icmp .ge 13, 3, 0), (9, .sipush 1, 1, 0), (10, .goto 14, 3, 0), (13, .sipush 0, 1, 0), (14, .freturn, 1, 0)]
noncomputable def am_m5004 : am_M := (5004, ("hasRoom", "()Z"), prog_7_method_4_code, 1, (some .boolean), [], [], am_t5004_0)
noncomputable def am_t5005_0 : List am_I := [
  (0, .iload 1, 1, 0), (1, .ifCond .lt 27, 3, 0), (4, .iload 1, 1, 0), (5, .aload 0, 1, 0), (6, .getfield 160, 3, 9), (9, .if_icmp .ge 27, 3, 0), (12, .iload 1, 1, 0), (13, .sipush 60, 2, 0), (15, .if_icmp .ge 27, 3, 0), 
  (18, .aload 0, 1, 0), (19, .getfield 161, 3, 15), (22, .iload 1, 1, 0), (23, .iaload, 1, 0), (24, .goto 28, 3, 0), (27, .sipush (-1), 1, 0), (28, .ireturn, 1, 0)]
noncomputable def am_m5005 : am_M := (5005, ("parentOne", "(I)I"), prog_7_method_5_code, 2, (some .int), [], [], am_t5005_0)
noncomputable def am_t5006_0 : List am_I := [
  (0, .iload 1, 1, 0), (1, .ifCond .lt 27, 3, 0), (4, .iload 1, 1, 0), (5, .aload 0, 1, 0), (6, .getfield 160, 3, 9), (9, .if_icmp .ge 27, 3, 0), (12, .iload 1, 1, 0), (13, .sipush 60, 2, 0), (15, .if_icmp .ge 27, 3, 0), 
  (18, .aload 0, 1, 0), (19, .getfield 162, 3, 19), (22, .iload 1, 1, 0), (23, .iaload, 1, 0), (24, .goto 28, 3, 0), (27, .sipush (-1), 1, 0), (28, .ireturn, 1, 0)]
noncomputable def am_m5006 : am_M := (5006, ("parentTwo", "(I)I"), prog_7_method_6_code, 2, (some .int), [], [], am_t5006_0)
noncomputable def am_t5007_0 : List am_I := [
  (0, .iload 1, 1, 0), (1, .ifCond .lt 24, 3, 0), (4, .iload 1, 1, 0), (5, .sipush 60, 2, 0), (7, .if_icmp .ge 24, 3, 0), (10, .iload 2, 1, 0), (11, .ifCond .lt 24, 3, 0), (14, .iload 2, 1, 0), (15, .sipush 24, 2, 0), (17, .if_icmp .ge 24, 3, 0), 
  (20, .sipush 1, 1, 0), (21, .goto 25, 3, 0), (24, .sipush 0, 1, 0), (25, .istore 3, 1, 0), (26, .iload 3, 1, 0), (27, .ifCond .eq 44, 3, 0), (30, .aload 0, 1, 0), (31, .getfield 163, 3, 22), (34, .iload 1, 1, 0), (35, .sipush 24, 2, 0), 
  (37, .imul, 1, 0), (38, .iload 2, 1, 0), (39, .iadd, 1, 0), (40, .iaload, 1, 0), (41, .goto 45, 3, 0), (44, .sipush 0, 1, 0), (45, .ireturn, 1, 0)]
noncomputable def am_m5007 : am_M := (5007, ("treeLine", "(II)I"), prog_7_method_7_code, 4, (some .int), [], [], am_t5007_0)
noncomputable def am_t5008_0 : List am_I := [
  (0, .iload 1, 1, 0), (1, .ifCond .lt 32, 3, 0), (4, .iload 1, 1, 0), (5, .sipush 60, 2, 0), (7, .if_icmp .ge 32, 3, 0), (10, .aload 2, 1, 0), (11, .arraylength, 1, 0), (12, .sipush 24, 2, 0), (14, .if_icmp .lt 32, 3, 0), 
  (17, .aload 0, 1, 0), (18, .getfield 163, 3, 22), (21, .iload 1, 1, 0), (22, .sipush 24, 2, 0), (24, .imul, 1, 0), (25, .aload 2, 1, 0), (26, .sipush 0, 1, 0), (27, .sipush 24, 2, 0), (29, .invokestatic 1, 3, 67), (32, .return_, 1, 0)
  ]
noncomputable def am_m5008 : am_M := (5008, ("copyTree", "(I[I)V"), prog_7_method_8_code, 3, none, [], [], am_t5008_0)
noncomputable def am_t5009_0 : List am_I := [
  (0, .sipush 0, 1, 0), (1, .istore 3, 1, 0), (2, .sipush 0, 1, 0), (3, .istore 4, 2, 0), (5, .iload 4, 2, 0), (7, .sipush 24, 2, 0), (9, .if_icmp .ge 38, 3, 0), (12, .aload 0, 1, 0), (13, .iload 1, 1, 0), (14, .iload 4, 2, 0), 
  (16, .invokeinterface 5007 2, 3, 73), (19, .aload 0, 1, 0), (20, .iload 2, 1, 0), (21, .iload 4, 2, 0), (23, .invokeinterface 5007 2, 3, 73), (26, .if_icmp .eq 32, 3, 0), (29, .iinc 3 1, 3, 0), (32, .iinc 4 1, 3, 0), (35, .goto 5, 3, 0), 
  (38, .iload 3, 1, 0), (39, .ireturn, 1, 0)]
noncomputable def am_m5009 : am_M := (5009, ("countDifferences", "(II)I"), prog_7_method_9_code, 5, (some .int), [], [], am_t5009_0)
noncomputable def am_t5010_0 : List am_I := [
  (0, .sipush 0, 1, 0), (1, .istore 1, 1, 0), (2, .sipush 0, 1, 0), (3, .istore 2, 1, 0), (4, .iload 2, 1, 0), (5, .aload 0, 1, 0), (6, .getfield 160, 3, 9), (9, .if_icmp .ge 30, 3, 0), (12, .aload 0, 1, 0), (13, .iload 2, 1, 0), 
  (14, .invokeinterface 5006 1, 3, 76), (17, .sipush (-1), 1, 0), (18, .if_icmp .eq 24, 3, 0), (21, .iinc 1 1, 3, 0), (24, .iinc 2 1, 3, 0), (27, .goto 4, 3, 0), (30, .iload 1, 1, 0), (31, .ireturn, 1, 0)]
noncomputable def am_m5010 : am_M := (5010, ("countMerges", "()I"), prog_7_method_10_code, 3, (some .int), [], [], am_t5010_0)
noncomputable def am_t5011_0 : List am_I := [
  (0, .iload 1, 1, 0), (1, .istore 3, 1, 0), (2, .sipush 0, 1, 0), (3, .istore 4, 2, 0), (5, .iload 4, 2, 0), (7, .sipush 60, 2, 0), (9, .if_icmp .ge 37, 3, 0), (12, .aload 0, 1, 0), (13, .iload 3, 1, 0), (14, .iload 2, 1, 0), 
  (15, .invokeinterface 5012 2, 3, 80), (18, .istore 5, 2, 0), (20, .iload 5, 2, 0), (22, .sipush (-1), 1, 0), (23, .if_icmp .ne 28, 3, 0), (26, .iload 3, 1, 0), (27, .ireturn, 1, 0), (28, .iload 5, 2, 0), (30, .istore 3, 1, 0), 
  (31, .iinc 4 1, 3, 0), (34, .goto 5, 3, 0), (37, .iload 3, 1, 0), (38, .ireturn, 1, 0)]
noncomputable def am_m5011 : am_M := (5011, ("bringerOf", "(II)I"), prog_7_method_11_code, 6, (some .int), [], [], am_t5011_0)
noncomputable def am_t5012_0 : List am_I := [
  (0, .aload 0, 1, 0), (1, .iload 1, 1, 0), (2, .iload 2, 1, 0), (3, .invokeinterface 5007 2, 3, 73), (6, .istore 3, 1, 0), (7, .aload 0, 1, 0), (8, .iload 1, 1, 0), (9, .invokeinterface 5005 1, 3, 83), (12, .istore 4, 2, 0), 
  (14, .iload 4, 2, 0), (16, .sipush (-1), 1, 0), (17, .if_icmp .eq 34, 3, 0), (20, .aload 0, 1, 0), (21, .iload 4, 2, 0), (23, .iload 2, 1, 0), (24, .invokeinterface 5007 2, 3, 73), (27, .iload 3, 1, 0), (28, .if_icmp .ne 34, 3, 0), 
  (31, .iload 4, 2, 0), (33, .ireturn, 1, 0), (34, .aload 0, 1, 0), (35, .iload 1, 1, 0), (36, .invokeinterface 5006 1, 3, 76), (39, .istore 5, 2, 0), (41, .iload 5, 2, 0), (43, .sipush (-1), 1, 0), (44, .if_icmp .eq 63, 3, 0), 
  (47, .aload 0, 1, 0), (48, .iload 5, 2, 0), (50, .iload 2, 1, 0), (51, .invokeinterface 5007 2, 3, 73), (54, .iload 3, 1, 0), (55, .if_icmp .ne 63, 3, 0), (58, .iload 5, 2, 0), (60, .goto 64, 3, 0), (63, .sipush (-1), 1, 0), 
  (64, .ireturn, 1, 0)]
noncomputable def am_m5012 : am_M := (5012, ("parentWithLine", "(II)I"), prog_7_method_12_code, 6, (some .int), [], [], am_t5012_0)
noncomputable def am_t5013_0 : List am_I := [
  (0, .aload 0, 1, 0), (1, .getfield 160, 3, 9), (4, .istore 2, 1, 0), (5, .iload 2, 1, 0), (6, .ifCond .lt 15, 3, 0), (9, .iload 2, 1, 0), (10, .sipush 60, 2, 0), (12, .if_icmp .lt 17, 3, 0), (15, .sipush (-1), 1, 0), (16, .ireturn, 1, 0), 
  (17, .aload 0, 1, 0), (18, .getfield 161, 3, 15), (21, .iload 2, 1, 0), (22, .aload 0, 1, 0), (23, .invokeinterface 5016 0, 3, 86), (26, .iastore, 1, 0), (27, .aload 0, 1, 0), (28, .getfield 162, 3, 19), (31, .iload 2, 1, 0), 
  (32, .iload 1, 1, 0), (33, .iastore, 1, 0), (34, .aload 0, 1, 0), (35, .getfield 166, 3, 31), (38, .sipush 0, 1, 0), (39, .aload 0, 1, 0), (40, .getfield 163, 3, 22), (43, .iload 2, 1, 0), (44, .sipush 24, 2, 0), (46, .imul, 1, 0), 
  (47, .sipush 24, 2, 0), (49, .invokestatic 1, 3, 67), (52, .aload 0, 1, 0), (53, .dup, 1, 0), (54, .getfield 160, 3, 9), (57, .sipush 1, 1, 0), (58, .iadd, 1, 0), (59, .putfield 160, 3, 9), (62, .aload 0, 1, 0), (63, .iload 2, 1, 0), 
  (64, .invokeinterface 5020 1, 3, 90), (67, .iload 2, 1, 0), (68, .ireturn, 1, 0)]
noncomputable def am_m5013 : am_M := (5013, ("addCommit", "(I)I"), prog_7_method_13_code, 3, (some .int), [], [], am_t5013_0)
noncomputable def am_t5014_0 : List am_I := [
  (0, .aload 0, 1, 0), (1, .iload 1, 1, 0), (2, .invokeinterface 5015 1, 3, 94), (5, .sipush (-1), 1, 0), (6, .if_icmp .eq 13, 3, 0), (9, .sipush 1, 1, 0), (10, .goto 14, 3, 0), (13, .sipush 0, 1, 0), (14, .freturn, 1, 0)
  ]
noncomputable def am_m5014 : am_M := (5014, ("hasBranch", "(I)Z"), prog_7_method_14_code, 2, (some .boolean), [], [], am_t5014_0)
noncomputable def am_t5015_0 : List am_I := [
  (0, .iload 1, 1, 0), (1, .ifCond .lt 19, 3, 0), (4, .iload 1, 1, 0), (5, .sipush 6, 2, 0), (7, .if_icmp .ge 19, 3, 0), (10, .aload 0, 1, 0), (11, .getfield 164, 3, 25), (14, .iload 1, 1, 0), (15, .iaload, 1, 0), (16, .goto 20, 3, 0), 
  (19, .sipush (-1), 1, 0), (20, .ireturn, 1, 0)]
noncomputable def am_m5015 : am_M := (5015, ("commitOf", "(I)I"), prog_7_method_15_code, 2, (some .int), [], [], am_t5015_0)
noncomputable def am_t5016_0 : List am_I := [
  (0, .aload 0, 1, 0), (1, .getfield 165, 3, 28), (4, .ifCond .lt 28, 3, 0), (7, .aload 0, 1, 0), (8, .getfield 165, 3, 28), (11, .sipush 6, 2, 0), (13, .if_icmp .ge 28, 3, 0), (16, .aload 0, 1, 0), (17, .getfield 164, 3, 25), 
  (20, .aload 0, 1, 0), (21, .getfield 165, 3, 28), (24, .iaload, 1, 0), (25, .goto 29, 3, 0), (28, .sipush (-1), 1, 0), (29, .ireturn, 1, 0)]
noncomputable def am_m5016 : am_M := (5016, ("headCommit", "()I"), prog_7_method_16_code, 1, (some .int), [], [], am_t5016_0)
noncomputable def am_t5017_0 : List am_I := [
  (0, .sipush 0, 1, 0), (1, .istore 1, 1, 0), (2, .sipush 0, 1, 0), (3, .istore 2, 1, 0), (4, .iload 2, 1, 0), (5, .sipush 6, 2, 0), (7, .if_icmp .ge 27, 3, 0), (10, .aload 0, 1, 0), (11, .iload 2, 1, 0), (12, .invokeinterface 5014 1, 3, 97), 
  (15, .ifCond .eq 21, 3, 0), (18, .iinc 1 1, 3, 0), (21, .iinc 2 1, 3, 0), (24, .goto 4, 3, 0), (27, .iload 1, 1, 0), (28, .ireturn, 1, 0)]
noncomputable def am_m5017 : am_M := (5017, ("countBranches", "()I"), prog_7_method_17_code, 3, (some .int), [], [], am_t5017_0)
noncomputable def am_t5018_0 : List am_I := [
  (0, .sipush 0, 1, 0), (1, .istore 1, 1, 0), (2, .iload 1, 1, 0), (3, .sipush 6, 2, 0), (5, .if_icmp .ge 24, 3, 0), (8, .aload 0, 1, 0), (9, .iload 1, 1, 0), (10, .invokeinterface 5014 1, 3, 97), (13, .ifCond .ne 18, 3, 0), 
  (16, .iload 1, 1, 0), (17, .ireturn, 1, 0), (18, .iinc 1 1, 3, 0), (21, .goto 2, 3, 0), (24, .sipush (-1), 1, 0), (25, .ireturn, 1, 0)]
noncomputable def am_m5018 : am_M := (5018, ("lowestFreeBranch", "()I"), prog_7_method_18_code, 2, (some .int), [], [], am_t5018_0)
noncomputable def am_t5019_0 : List am_I := [
  (0, .iload 1, 1, 0), (1, .ifCond .lt 17, 3, 0), (4, .iload 1, 1, 0), (5, .sipush 6, 2, 0), (7, .if_icmp .ge 17, 3, 0), (10, .aload 0, 1, 0), (11, .getfield 164, 3, 25), (14, .iload 1, 1, 0), (15, .iload 2, 1, 0), (16, .iastore, 1, 0), 
  (17, .return_, 1, 0)]
noncomputable def am_m5019 : am_M := (5019, ("setBranch", "(II)V"), prog_7_method_19_code, 3, none, [], [], am_t5019_0)
noncomputable def am_t5020_0 : List am_I := [
  (0, .aload 0, 1, 0), (1, .aload 0, 1, 0), (2, .getfield 165, 3, 28), (5, .iload 1, 1, 0), (6, .invokeinterface 5019 2, 3, 101), (9, .aload 0, 1, 0), (10, .iload 1, 1, 0), (11, .aload 0, 1, 0), (12, .getfield 166, 3, 31), 
  (15, .invokeinterface 5008 2, 3, 105), (18, .aload 0, 1, 0), (19, .getfield 167, 3, 34), (22, .sipush (-1), 1, 0), (23, .multianewarray 9000 2, 3, 55), (26, .aload 0, 1, 0), (27, .sipush 0, 1, 0), (28, .putfield 168, 3, 37), 
  (31, .aload 0, 1, 0), (32, .sipush (-1), 1, 0), (33, .putfield 169, 3, 40), (36, .return_, 1, 0)]
noncomputable def am_m5020 : am_M := (5020, ("standAt", "(I)V"), prog_7_method_20_code, 2, none, [], [], am_t5020_0)
noncomputable def am_t5021_0 : List am_I := [
  (0, .iload 1, 1, 0), (1, .ifCond .lt 19, 3, 0), (4, .iload 1, 1, 0), (5, .sipush 24, 2, 0), (7, .if_icmp .ge 19, 3, 0), (10, .aload 0, 1, 0), (11, .getfield 166, 3, 31), (14, .iload 1, 1, 0), (15, .iaload, 1, 0), (16, .goto 20, 3, 0), 
  (19, .sipush 0, 1, 0), (20, .ireturn, 1, 0)]
noncomputable def am_m5021 : am_M := (5021, ("workLine", "(I)I"), prog_7_method_21_code, 2, (some .int), [], [], am_t5021_0)
noncomputable def am_t5022_0 : List am_I := [
  (0, .iload 1, 1, 0), (1, .ifCond .lt 24, 3, 0), (4, .iload 1, 1, 0), (5, .sipush 24, 2, 0), (7, .if_icmp .ge 24, 3, 0), (10, .aload 0, 1, 0), (11, .getfield 166, 3, 31), (14, .iload 1, 1, 0), (15, .iload 2, 1, 0), (16, .iastore, 1, 0), 
  (17, .aload 0, 1, 0), (18, .getfield 167, 3, 34), (21, .iload 1, 1, 0), (22, .sipush (-1), 1, 0), (23, .iastore, 1, 0), (24, .return_, 1, 0)]
noncomputable def am_m5022 : am_M := (5022, ("setLine", "(II)V"), prog_7_method_22_code, 3, none, [], [], am_t5022_0)
noncomputable def am_t5023_0 : List am_I := [
  (0, .aload 0, 1, 0), (1, .iload 1, 1, 0), (2, .invokeinterface 5021 1, 3, 109), (5, .aload 0, 1, 0), (6, .aload 0, 1, 0), (7, .invokeinterface 5016 0, 3, 86), (10, .iload 1, 1, 0), (11, .invokeinterface 5007 2, 3, 73), 
  (14, .if_icmp .eq 21, 3, 0), (17, .sipush 1, 1, 0), (18, .goto 22, 3, 0), (21, .sipush 0, 1, 0), (22, .freturn, 1, 0)]
noncomputable def am_m5023 : am_M := (5023, ("isOther", "(I)Z"), prog_7_method_23_code, 2, (some .boolean), [], [], am_t5023_0)
noncomputable def am_t5024_0 : List am_I := [
  (0, .aload 0, 1, 0), (1, .invokeinterface 5016 0, 3, 86), (4, .istore 1, 1, 0), (5, .sipush 0, 1, 0), (6, .istore 2, 1, 0), (7, .sipush 0, 1, 0), (8, .istore 3, 1, 0), (9, .iload 3, 1, 0), (10, .sipush 24, 2, 0), (12, .if_icmp .ge 39, 3, 0), 
  (15, .aload 0, 1, 0), (16, .getfield 166, 3, 31), (19, .iload 3, 1, 0), (20, .iaload, 1, 0), (21, .aload 0, 1, 0), (22, .iload 1, 1, 0), (23, .iload 3, 1, 0), (24, .invokeinterface 5007 2, 3, 73), (27, .if_icmp .eq 33, 3, 0), 
  (30, .iinc 2 1, 3, 0), (33, .iinc 3 1, 3, 0), (36, .goto 9, 3, 0), (39, .iload 2, 1, 0), (40, .ireturn, 1, 0)]
noncomputable def am_m5024 : am_M := (5024, ("countChanged", "()I"), prog_7_method_24_code, 4, (some .int), [], [], am_t5024_0)
noncomputable def am_t5025_0 : List am_I := [
  (0, .sipush 0, 1, 0), (1, .istore 1, 1, 0), (2, .sipush 0, 1, 0), (3, .istore 2, 1, 0), (4, .iload 2, 1, 0), (5, .sipush 24, 2, 0), (7, .if_icmp .ge 28, 3, 0), (10, .aload 0, 1, 0), (11, .getfield 166, 3, 31), (14, .iload 2, 1, 0), 
  (15, .iaload, 1, 0), (16, .ifCond .eq 22, 3, 0), (19, .iinc 1 1, 3, 0), (22, .iinc 2 1, 3, 0), (25, .goto 4, 3, 0), (28, .iload 1, 1, 0), (29, .ireturn, 1, 0)]
noncomputable def am_m5025 : am_M := (5025, ("countFilled", "()I"), prog_7_method_25_code, 3, (some .int), [], [], am_t5025_0)
noncomputable def am_t5026_0 : List am_I := [
  (0, .aload 0, 1, 0), (1, .getfield 168, 3, 37), (4, .ifCond .ne 18, 3, 0), (7, .aload 0, 1, 0), (8, .invokeinterface 5024 0, 3, 112), (11, .ifCond .ne 18, 3, 0), (14, .sipush 1, 1, 0), (15, .goto 19, 3, 0), (18, .sipush 0, 1, 0), 
  (19, .freturn, 1, 0)]
noncomputable def am_m5026 : am_M := (5026, ("isAtRest", "()Z"), prog_7_method_26_code, 1, (some .boolean), [], [], am_t5026_0)
noncomputable def am_t5027_0 : List am_I := [
  (0, .iload 1, 1, 0), (1, .ifCond .lt 19, 3, 0), (4, .iload 1, 1, 0), (5, .sipush 24, 2, 0), (7, .if_icmp .ge 19, 3, 0), (10, .aload 0, 1, 0), (11, .getfield 167, 3, 34), (14, .iload 1, 1, 0), (15, .iaload, 1, 0), (16, .goto 20, 3, 0), 
  (19, .sipush (-1), 1, 0), (20, .ireturn, 1, 0)]
noncomputable def am_m5027 : am_M := (5027, ("otherSide", "(I)I"), prog_7_method_27_code, 2, (some .int), [], [], am_t5027_0)
noncomputable def am_t5028_0 : List am_I := [
  (0, .aload 0, 1, 0), (1, .iload 1, 1, 0), (2, .invokeinterface 5027 1, 3, 115), (5, .sipush (-1), 1, 0), (6, .if_icmp .eq 13, 3, 0), (9, .sipush 1, 1, 0), (10, .goto 14, 3, 0), (13, .sipush 0, 1, 0), (14, .freturn, 1, 0)
  ]
noncomputable def am_m5028 : am_M := (5028, ("isInConflict", "(I)Z"), prog_7_method_28_code, 2, (some .boolean), [], [], am_t5028_0)
noncomputable def am_t5029_0 : List am_I := [
  (0, .sipush 0, 1, 0), (1, .istore 1, 1, 0), (2, .sipush 0, 1, 0), (3, .istore 2, 1, 0), (4, .iload 2, 1, 0), (5, .sipush 24, 2, 0), (7, .if_icmp .ge 27, 3, 0), (10, .aload 0, 1, 0), (11, .iload 2, 1, 0), (12, .invokeinterface 5028 1, 3, 118), 
  (15, .ifCond .eq 21, 3, 0), (18, .iinc 1 1, 3, 0), (21, .iinc 2 1, 3, 0), (24, .goto 4, 3, 0), (27, .iload 1, 1, 0), (28, .ireturn, 1, 0)]
noncomputable def am_m5029 : am_M := (5029, ("countConflicts", "()I"), prog_7_method_29_code, 3, (some .int), [], [], am_t5029_0)
noncomputable def am_t5030_0 : List am_I := [
  (0, .sipush 0, 1, 0), (1, .istore 1, 1, 0), (2, .sipush 0, 1, 0), (3, .istore 2, 1, 0), (4, .iload 2, 1, 0), (5, .sipush 24, 2, 0), (7, .if_icmp .ge 54, 3, 0), (10, .iload 2, 1, 0), (11, .sipush 6, 2, 0), (13, .irem, 1, 0), 
  (14, .ifCond .eq 31, 3, 0), (17, .aload 0, 1, 0), (18, .iload 2, 1, 0), (19, .sipush 1, 1, 0), (20, .isub, 1, 0), (21, .invokeinterface 5028 1, 3, 118), (24, .ifCond .eq 31, 3, 0), (27, .sipush 1, 1, 0), (28, .goto 32, 3, 0), 
  (31, .sipush 0, 1, 0), (32, .istore 3, 1, 0), (33, .aload 0, 1, 0), (34, .iload 2, 1, 0), (35, .invokeinterface 5028 1, 3, 118), (38, .ifCond .eq 48, 3, 0), (41, .iload 3, 1, 0), (42, .ifCond .ne 48, 3, 0), (45, .iinc 1 1, 3, 0), 
  (48, .iinc 2 1, 3, 0), (51, .goto 4, 3, 0), (54, .iload 1, 1, 0), (55, .ireturn, 1, 0)]
noncomputable def am_m5030 : am_M := (5030, ("countRegions", "()I"), prog_7_method_30_code, 4, (some .int), [], [], am_t5030_0)
noncomputable def am_t5031_0 : List am_I := [
  (0, .sipush 0, 1, 0), (1, .istore 1, 1, 0), (2, .sipush 0, 1, 0), (3, .istore 2, 1, 0), (4, .sipush 0, 1, 0), (5, .istore 3, 1, 0), (6, .iload 3, 1, 0), (7, .sipush 24, 2, 0), (9, .if_icmp .ge 49, 3, 0), (12, .iload 3, 1, 0), 
  (13, .sipush 6, 2, 0), (15, .irem, 1, 0), (16, .ifCond .ne 21, 3, 0), (19, .sipush 0, 1, 0), (20, .istore 2, 1, 0), (21, .aload 0, 1, 0), (22, .iload 3, 1, 0), (23, .invokeinterface 5028 1, 3, 118), (26, .ifCond .eq 35, 3, 0), 
  (29, .iload 2, 1, 0), (30, .sipush 1, 1, 0), (31, .iadd, 1, 0), (32, .goto 36, 3, 0), (35, .sipush 0, 1, 0), (36, .istore 2, 1, 0), (37, .iload 1, 1, 0), (38, .iload 2, 1, 0), (39, .invokestatic 2, 3, 121), (42, .istore 1, 1, 0), 
  (43, .iinc 3 1, 3, 0), (46, .goto 6, 3, 0), (49, .iload 1, 1, 0), (50, .ireturn, 1, 0)]
noncomputable def am_m5031 : am_M := (5031, ("longestRow", "()I"), prog_7_method_31_code, 4, (some .int), [], [], am_t5031_0)
noncomputable def am_t5032_0 : List am_I := [
  (0, .aload 0, 1, 0), (1, .getfield 170, 3, 43), (4, .ifCond .lt 59, 3, 0), (7, .aload 0, 1, 0), (8, .getfield 170, 3, 43), (11, .sipush 3, 1, 0), (12, .if_icmp .ge 59, 3, 0), (15, .aload 0, 1, 0), (16, .getfield 171, 3, 46), 
  (19, .aload 0, 1, 0), (20, .getfield 170, 3, 43), (23, .aload 0, 1, 0), (24, .invokeinterface 5016 0, 3, 86), (27, .iastore, 1, 0), (28, .aload 0, 1, 0), (29, .getfield 166, 3, 31), (32, .sipush 0, 1, 0), (33, .aload 0, 1, 0), 
  (34, .getfield 172, 3, 49), (37, .aload 0, 1, 0), (38, .getfield 170, 3, 43), (41, .sipush 24, 2, 0), (43, .imul, 1, 0), (44, .sipush 24, 2, 0), (46, .invokestatic 1, 3, 67), (49, .aload 0, 1, 0), (50, .dup, 1, 0), (51, .getfield 170, 3, 43), 
  (54, .sipush 1, 1, 0), (55, .iadd, 1, 0), (56, .putfield 170, 3, 43), (59, .return_, 1, 0)]
noncomputable def am_m5032 : am_M := (5032, ("pushAside", "()V"), prog_7_method_32_code, 1, none, [], [], am_t5032_0)
noncomputable def am_t5033_0 : List am_I := [
  (0, .aload 0, 1, 0), (1, .getfield 170, 3, 43), (4, .sipush 1, 1, 0), (5, .isub, 1, 0), (6, .istore 1, 1, 0), (7, .iload 1, 1, 0), (8, .ifCond .lt 25, 3, 0), (11, .iload 1, 1, 0), (12, .sipush 3, 1, 0), (13, .if_icmp .ge 25, 3, 0), 
  (16, .aload 0, 1, 0), (17, .getfield 171, 3, 46), (20, .iload 1, 1, 0), (21, .iaload, 1, 0), (22, .goto 26, 3, 0), (25, .sipush (-1), 1, 0), (26, .ireturn, 1, 0)]
noncomputable def am_m5033 : am_M := (5033, ("latestAsideHead", "()I"), prog_7_method_33_code, 2, (some .int), [], [], am_t5033_0)
noncomputable def am_t5034_0 : List am_I := [
  (0, .aload 0, 1, 0), (1, .getfield 170, 3, 43), (4, .sipush 1, 1, 0), (5, .isub, 1, 0), (6, .istore 2, 1, 0), (7, .iload 2, 1, 0), (8, .ifCond .lt 38, 3, 0), (11, .iload 2, 1, 0), (12, .sipush 3, 1, 0), (13, .if_icmp .ge 38, 3, 0), 
  (16, .aload 1, 1, 0), (17, .arraylength, 1, 0), (18, .sipush 24, 2, 0), (20, .if_icmp .lt 38, 3, 0), (23, .aload 0, 1, 0), (24, .getfield 172, 3, 49), (27, .iload 2, 1, 0), (28, .sipush 24, 2, 0), (30, .imul, 1, 0), (31, .aload 1, 1, 0), 
  (32, .sipush 0, 1, 0), (33, .sipush 24, 2, 0), (35, .invokestatic 1, 3, 67), (38, .return_, 1, 0)]
noncomputable def am_m5034 : am_M := (5034, ("copyLatestAside", "([I)V"), prog_7_method_34_code, 3, none, [], [], am_t5034_0)
noncomputable def am_t6001_0 : List am_I := [
  (0, .aload 0, 1, 0), (1, .invokespecial 0, 3, 3), (4, .aload 0, 1, 0), (5, .new 2, 3, 9), (8, .dup, 1, 0), (9, .invokespecial 2001, 3, 11), (12, .putfield 192, 3, 12), (15, .aload 0, 1, 0), (16, .new 4, 3, 16), (19, .dup, 1, 0), 
  (20, .invokespecial 4001, 3, 18), (23, .putfield 193, 3, 19), (26, .aload 0, 1, 0), (27, .new 3, 3, 23), (30, .dup, 1, 0), (31, .invokespecial 3001, 3, 25), (34, .putfield 194, 3, 26), (37, .aload 0, 1, 0), (38, .new 5, 3, 30), 
  (41, .dup, 1, 0), (42, .invokespecial 5001, 3, 32), (45, .putfield 195, 3, 33), (48, .aload 0, 1, 0), (49, .sipush 0, 1, 0), (50, .putfield 196, 3, 37), (53, .return_, 1, 0)]
noncomputable def am_m6001 : am_M := (6001, ("<init>", "()V"), prog_1_method_1_code, 1, none, [], [], am_t6001_0)
noncomputable def am_t6002_0 : List am_I := [
  (0, .iload 1, 1, 0), (1, .sipush 32, 2, 0), (3, .if_icmp .lt 12, 3, 0), (6, .iload 1, 1, 0), (7, .sipush 126, 2, 0), (9, .if_icmp .le 22, 3, 0), (12, .jsr 0, 3, 0), (22, .aload 0, 1, 0), (23, .getfield 192, 3, 12), (26, .invokeinterface 2003 0, 3, 48), 
  (29, .ifCond .eq 42, 3, 0), (32, .jsr 1, 3, 1), (42, .aload 0, 1, 0), (43, .getfield 192, 3, 12), (46, .iload 1, 1, 0), (47, .invokeinterface 2004 1, 3, 57), (50, .ireturn, 1, 0)]
noncomputable def am_m6002 : am_M := (6002, ("type", "(I)I"), prog_1_method_2_code, 2, (some .int), [], [], am_t6002_0)
noncomputable def am_t6003_0 : List am_I := [
  (0, .aload 0, 1, 0), (1, .getfield 192, 3, 12), (4, .invokeinterface 2005 0, 3, 61), (7, .ireturn, 1, 0)]
noncomputable def am_m6003 : am_M := (6003, ("clearPad", "()I"), prog_1_method_3_code, 1, (some .int), [], [], am_t6003_0)
noncomputable def am_t6004_0 : List am_I := [
  (0, .aload 0, 1, 0), (1, .getfield 192, 3, 12), (4, .invokeinterface 2007 0, 3, 65), (7, .ireturn, 1, 0)]
noncomputable def am_m6004 : am_M := (6004, ("fault", "()I"), prog_1_method_4_code, 1, (some .int), [], [], am_t6004_0)
noncomputable def am_t6005_0 : List am_I := [
  (0, .aload 0, 1, 0), (1, .getfield 192, 3, 12), (4, .invokeinterface 2007 0, 3, 65), (7, .sipush (-1), 1, 0), (8, .if_icmp .eq 21, 3, 0), (11, .jsr 1, 3, 2), (21, .aload 0, 1, 0), (22, .invokeinterface 6067 0, 3, 70), (25, .sipush 0, 1, 0), 
  (26, .istore 1, 1, 0), (27, .sipush 0, 1, 0), (28, .istore 2, 1, 0), (29, .iload 2, 1, 0), (30, .sipush 60, 2, 0), (32, .if_icmp .ge 78, 3, 0), (35, .iload 1, 1, 0), (36, .aload 0, 1, 0), (37, .getfield 192, 3, 12), (40, .invokeinterface 2002 0, 3, 73), 
  (43, .if_icmp .ge 54, 3, 0), (46, .aload 0, 1, 0), (47, .iload 1, 1, 0), (48, .invokeinterface 6068 1, 3, 76), (51, .ifCond .ne 56, 3, 0), (54, .iload 2, 1, 0), (55, .ireturn, 1, 0), (56, .aload 0, 1, 0), (57, .iload 1, 1, 0), 
  (58, .invokeinterface 6069 1, 3, 80), (61, .aload 0, 1, 0), (62, .getfield 192, 3, 12), (65, .iload 1, 1, 0), (66, .invokeinterface 2008 1, 3, 84), (69, .sipush 1, 1, 0), (70, .iadd, 1, 0), (71, .istore 1, 1, 0), (72, .iinc 2 1, 3, 0), 
  (75, .goto 29, 3, 0), (78, .sipush 60, 2, 0), (80, .ireturn, 1, 0)]
noncomputable def am_m6005 : am_M := (6005, ("runOrders", "()I"), prog_1_method_5_code, 3, (some .int), [], [], am_t6005_0)
noncomputable def am_t6006_0 : List am_I := [
  (0, .iload 1, 1, 0), (1, .iload 2, 1, 0), (2, .multianewarray 6062 2, 3, 87), (5, .iload 3, 1, 0), (6, .ifCond .lt 15, 3, 0), (9, .iload 3, 1, 0), (10, .sipush 100, 2, 0), (12, .if_icmp .lt 25, 3, 0), (15, .jsr 0, 3, 3), 
  (25, .aload 0, 1, 0), (26, .invokeinterface 6067 0, 3, 70), (29, .aload 0, 1, 0), (30, .getfield 193, 3, 19), (33, .iload 1, 1, 0), (34, .iload 2, 1, 0), (35, .multianewarray 6061 2, 3, 93), (38, .iload 3, 1, 0), (39, .invokeinterface 4002 2, 3, 97), 
  (42, .ireturn, 1, 0)]
noncomputable def am_m6006 : am_M := (6006, ("edit", "(III)I"), prog_1_method_6_code, 4, (some .int), [], [], am_t6006_0)
noncomputable def am_t6007_0 : List am_I := [
  (0, .aload 0, 1, 0), (1, .getfield 193, 3, 19), (4, .invokeinterface 4003 0, 3, 100), (7, .ifCond .ne 20, 3, 0), (10, .jsr 1, 3, 4), (20, .aload 0, 1, 0), (21, .invokeinterface 6067 0, 3, 70), (24, .aload 0, 1, 0), (25, .getfield 193, 3, 19), 
  (28, .invokeinterface 4004 0, 3, 105), (31, .ireturn, 1, 0)]
noncomputable def am_m6007 : am_M := (6007, ("commit", "()I"), prog_1_method_7_code, 1, (some .int), [], [], am_t6007_0)
noncomputable def am_t6008_0 : List am_I := [
  (0, .aload 0, 1, 0), (1, .iload 1, 1, 0), (2, .invokeinterface 6065 1, 3, 108), (5, .aload 0, 1, 0), (6, .invokeinterface 6067 0, 3, 70), (9, .aload 0, 1, 0), (10, .getfield 193, 3, 19), (13, .iload 1, 1, 0), (14, .invokeinterface 4005 1, 3, 111), 
  (17, .ireturn, 1, 0)]
noncomputable def am_m6008 : am_M := (6008, ("reset", "(I)I"), prog_1_method_8_code, 2, (some .int), [], [], am_t6008_0)
noncomputable def am_t6009_0 : List am_I := [
  (0, .aload 0, 1, 0), (1, .getfield 193, 3, 19), (4, .invokeinterface 4006 0, 3, 114), (7, .ifCond .ne 20, 3, 0), (10, .jsr 1, 3, 5), (20, .aload 0, 1, 0), (21, .invokeinterface 6067 0, 3, 70), (24, .aload 0, 1, 0), (25, .getfield 193, 3, 19), 
  (28, .invokeinterface 4007 0, 3, 119), (31, .ireturn, 1, 0)]
noncomputable def am_m6009 : am_M := (6009, ("putAside", "()I"), prog_1_method_9_code, 1, (some .int), [], [], am_t6009_0)
noncomputable def am_t6010_0 : List am_I := [
  (0, .aload 0, 1, 0), (1, .getfield 193, 3, 19), (4, .invokeinterface 4008 0, 3, 122), (7, .ifCond .ne 20, 3, 0), (10, .jsr 1, 3, 6), (20, .aload 0, 1, 0), (21, .invokeinterface 6067 0, 3, 70), (24, .aload 0, 1, 0), (25, .getfield 193, 3, 19), 
  (28, .invokeinterface 4009 0, 3, 127), (31, .ireturn, 1, 0)]
noncomputable def am_m6010 : am_M := (6010, ("takeBack", "()I"), prog_1_method_10_code, 1, (some .int), [], [], am_t6010_0)
noncomputable def am_t6011_0 : List am_I := [
  (0, .aload 0, 1, 0), (1, .getfield 193, 3, 19), (4, .invokeinterface 4010 0, 3, 130), (7, .ifCond .ne 20, 3, 0), (10, .jsr 1, 3, 7), (20, .aload 0, 1, 0), (21, .invokeinterface 6067 0, 3, 70), (24, .aload 0, 1, 0), (25, .getfield 193, 3, 19), 
  (28, .invokeinterface 4011 0, 3, 135), (31, .ireturn, 1, 0)]
noncomputable def am_m6011 : am_M := (6011, ("newBranch", "()I"), prog_1_method_11_code, 1, (some .int), [], [], am_t6011_0)
noncomputable def am_t6012_0 : List am_I := [
  (0, .iload 1, 1, 0), (1, .multianewarray 6063 1, 3, 138), (4, .aload 0, 1, 0), (5, .getfield 193, 3, 19), (8, .iload 1, 1, 0), (9, .invokeinterface 4012 1, 3, 141), (12, .ifCond .ne 25, 3, 0), (15, .jsr 1, 3, 8), (25, .aload 0, 1, 0), 
  (26, .invokeinterface 6067 0, 3, 70), (29, .aload 0, 1, 0), (30, .getfield 193, 3, 19), (33, .iload 1, 1, 0), (34, .invokeinterface 4013 1, 3, 146), (37, .ireturn, 1, 0)]
noncomputable def am_m6012 : am_M := (6012, ("dropBranch", "(I)I"), prog_1_method_12_code, 2, (some .int), [], [], am_t6012_0)
noncomputable def am_t6013_0 : List am_I := [
  (0, .iload 1, 1, 0), (1, .multianewarray 6063 1, 3, 138), (4, .aload 0, 1, 0), (5, .getfield 193, 3, 19), (8, .iload 1, 1, 0), (9, .invokeinterface 4014 1, 3, 149), (12, .ifCond .ne 25, 3, 0), (15, .jsr 1, 3, 9), (25, .aload 0, 1, 0), 
  (26, .invokeinterface 6067 0, 3, 70), (29, .aload 0, 1, 0), (30, .getfield 193, 3, 19), (33, .iload 1, 1, 0), (34, .invokeinterface 4015 1, 3, 154), (37, .ireturn, 1, 0)]
noncomputable def am_m6013 : am_M := (6013, ("switchTo", "(I)I"), prog_1_method_13_code, 2, (some .int), [], [], am_t6013_0)
noncomputable def am_t6014_0 : List am_I := [
  (0, .iload 1, 1, 0), (1, .multianewarray 6063 1, 3, 138), (4, .aload 0, 1, 0), (5, .getfield 193, 3, 19), (8, .iload 1, 1, 0), (9, .invokeinterface 4016 1, 3, 157), (12, .ifCond .ne 25, 3, 0), (15, .jsr 1, 3, 10), (25, .aload 0, 1, 0), 
  (26, .invokeinterface 6067 0, 3, 70), (29, .aload 0, 1, 0), (30, .getfield 193, 3, 19), (33, .iload 1, 1, 0), (34, .invokeinterface 4017 1, 3, 162), (37, .ireturn, 1, 0)]
noncomputable def am_m6014 : am_M := (6014, ("merge", "(I)I"), prog_1_method_14_code, 2, (some .int), [], [], am_t6014_0)
noncomputable def am_t6015_0 : List am_I := [
  (0, .aload 0, 1, 0), (1, .iload 1, 1, 0), (2, .invokeinterface 6065 1, 3, 108), (5, .aload 0, 1, 0), (6, .getfield 193, 3, 19), (9, .iload 1, 1, 0), (10, .sipush 0, 1, 0), (11, .invokeinterface 4018 2, 3, 165), (14, .ifCond .ne 27, 3, 0), 
  (17, .jsr 1, 3, 11), (27, .aload 0, 1, 0), (28, .invokeinterface 6067 0, 3, 70), (31, .aload 0, 1, 0), (32, .getfield 193, 3, 19), (35, .iload 1, 1, 0), (36, .sipush 0, 1, 0), (37, .invokeinterface 4019 2, 3, 171), (40, .ireturn, 1, 0)
  ]
noncomputable def am_m6015 : am_M := (6015, ("pick", "(I)I"), prog_1_method_15_code, 2, (some .int), [], [], am_t6015_0)
noncomputable def am_t6016_0 : List am_I := [
  (0, .aload 0, 1, 0), (1, .iload 1, 1, 0), (2, .invokeinterface 6065 1, 3, 108), (5, .aload 0, 1, 0), (6, .getfield 193, 3, 19), (9, .iload 1, 1, 0), (10, .sipush 1, 1, 0), (11, .invokeinterface 4018 2, 3, 165), (14, .ifCond .ne 27, 3, 0), 
  (17, .jsr 1, 3, 12), (27, .aload 0, 1, 0), (28, .invokeinterface 6067 0, 3, 70), (31, .aload 0, 1, 0), (32, .getfield 193, 3, 19), (35, .iload 1, 1, 0), (36, .sipush 1, 1, 0), (37, .invokeinterface 4019 2, 3, 171), (40, .ireturn, 1, 0)
  ]
noncomputable def am_m6016 : am_M := (6016, ("revert", "(I)I"), prog_1_method_16_code, 2, (some .int), [], [], am_t6016_0)
noncomputable def am_t6017_0 : List am_I := [
  (0, .iload 1, 1, 0), (1, .multianewarray 6063 1, 3, 138), (4, .aload 0, 1, 0), (5, .getfield 193, 3, 19), (8, .iload 1, 1, 0), (9, .invokeinterface 4020 1, 3, 177), (12, .ifCond .ne 25, 3, 0), (15, .jsr 1, 3, 13), (25, .aload 0, 1, 0), 
  (26, .invokeinterface 6067 0, 3, 70), (29, .aload 0, 1, 0), (30, .getfield 193, 3, 19), (33, .iload 1, 1, 0), (34, .invokeinterface 4021 1, 3, 182), (37, .ireturn, 1, 0)]
noncomputable def am_m6017 : am_M := (6017, ("replay", "(I)I"), prog_1_method_17_code, 2, (some .int), [], [], am_t6017_0)
noncomputable def am_t6018_0 : List am_I := [
  (0, .iload 1, 1, 0), (1, .iload 2, 1, 0), (2, .multianewarray 6062 2, 3, 87), (5, .aload 0, 1, 0), (6, .iload 1, 1, 0), (7, .iload 2, 1, 0), (8, .multianewarray 6061 2, 3, 93), (11, .invokeinterface 6066 1, 3, 185), (14, .aload 0, 1, 0), 
  (15, .invokeinterface 6067 0, 3, 70), (18, .aload 0, 1, 0), (19, .getfield 193, 3, 19), (22, .iload 1, 1, 0), (23, .iload 2, 1, 0), (24, .multianewarray 6061 2, 3, 93), (27, .iload 3, 1, 0), (28, .invokeinterface 4022 2, 3, 188), 
  (31, .ireturn, 1, 0)]
noncomputable def am_m6018 : am_M := (6018, ("resolve", "(IIZ)I"), prog_1_method_18_code, 4, (some .int), [], [], am_t6018_0)
noncomputable def am_t6019_0 : List am_I := [
  (0, .aload 0, 1, 0), (1, .getfield 193, 3, 19), (4, .invokeinterface 4023 0, 3, 191), (7, .ifCond .ne 20, 3, 0), (10, .jsr 1, 3, 14), (20, .aload 0, 1, 0), (21, .invokeinterface 6067 0, 3, 70), (24, .aload 0, 1, 0), (25, .getfield 193, 3, 19), 
  (28, .invokeinterface 4024 0, 3, 196), (31, .ireturn, 1, 0)]
noncomputable def am_m6019 : am_M := (6019, ("abort", "()I"), prog_1_method_19_code, 1, (some .int), [], [], am_t6019_0)
noncomputable def am_t6020_0 : List am_I := [
  (0, .iload 1, 1, 0), (1, .iload 2, 1, 0), (2, .multianewarray 6062 2, 3, 87), (5, .aload 0, 1, 0), (6, .getfield 193, 3, 19), (9, .getfield 128, 3, 199), (12, .iload 1, 1, 0), (13, .iload 2, 1, 0), (14, .multianewarray 6061 2, 3, 93), 
  (17, .invokeinterface 5028 1, 3, 202), (20, .freturn, 1, 0)]
noncomputable def am_m6020 : am_M := (6020, ("isConflict", "(II)Z"), prog_1_method_20_code, 3, (some .boolean), [], [], am_t6020_0)
noncomputable def am_t6021_0 : List am_I := [
  (0, .iload 1, 1, 0), (1, .iload 2, 1, 0), (2, .multianewarray 6062 2, 3, 87), (5, .aload 0, 1, 0), (6, .iload 1, 1, 0), (7, .iload 2, 1, 0), (8, .multianewarray 6061 2, 3, 93), (11, .invokeinterface 6066 1, 3, 185), (14, .aload 0, 1, 0), 
  (15, .getfield 193, 3, 19), (18, .getfield 128, 3, 199), (21, .iload 1, 1, 0), (22, .iload 2, 1, 0), (23, .multianewarray 6061 2, 3, 93), (26, .invokeinterface 5027 1, 3, 205), (29, .ireturn, 1, 0)]
noncomputable def am_m6021 : am_M := (6021, ("theirs", "(II)I"), prog_1_method_21_code, 3, (some .int), [], [], am_t6021_0)
noncomputable def am_t6022_0 : List am_I := [
  (0, .aload 0, 1, 0), (1, .getfield 193, 3, 19), (4, .getfield 128, 3, 199), (7, .invokeinterface 5029 0, 3, 208), (10, .ireturn, 1, 0)]
noncomputable def am_m6022 : am_M := (6022, ("conflicts", "()I"), prog_1_method_22_code, 1, (some .int), [], [], am_t6022_0)
noncomputable def am_t6023_0 : List am_I := [
  (0, .aload 0, 1, 0), (1, .getfield 193, 3, 19), (4, .getfield 128, 3, 199), (7, .invokeinterface 5030 0, 3, 211), (10, .ireturn, 1, 0)]
noncomputable def am_m6023 : am_M := (6023, ("regions", "()I"), prog_1_method_23_code, 1, (some .int), [], [], am_t6023_0)
noncomputable def am_t6024_0 : List am_I := [
  (0, .aload 0, 1, 0), (1, .getfield 193, 3, 19), (4, .getfield 128, 3, 199), (7, .invokeinterface 5031 0, 3, 214), (10, .ireturn, 1, 0)]
noncomputable def am_m6024 : am_M := (6024, ("longestRegion", "()I"), prog_1_method_24_code, 1, (some .int), [], [], am_t6024_0)
noncomputable def am_t6025_0 : List am_I := [
  (0, .aload 0, 1, 0), (1, .getfield 193, 3, 19), (4, .getfield 128, 3, 199), (7, .getfield 168, 3, 217), (10, .sipush 1, 1, 0), (11, .if_icmp .ne 18, 3, 0), (14, .sipush 1, 1, 0), (15, .goto 19, 3, 0), (18, .sipush 0, 1, 0), 
  (19, .freturn, 1, 0)]
noncomputable def am_m6025 : am_M := (6025, ("isMerging", "()Z"), prog_1_method_25_code, 1, (some .boolean), [], [], am_t6025_0)
noncomputable def am_t6026_0 : List am_I := [
  (0, .aload 0, 1, 0), (1, .getfield 193, 3, 19), (4, .getfield 128, 3, 199), (7, .getfield 168, 3, 217), (10, .sipush 2, 1, 0), (11, .if_icmp .ne 18, 3, 0), (14, .sipush 1, 1, 0), (15, .goto 19, 3, 0), (18, .sipush 0, 1, 0), 
  (19, .freturn, 1, 0)]
noncomputable def am_m6026 : am_M := (6026, ("isPicking", "()Z"), prog_1_method_26_code, 1, (some .boolean), [], [], am_t6026_0)
noncomputable def am_t6027_0 : List am_I := [
  (0, .iload 1, 1, 0), (1, .iload 2, 1, 0), (2, .multianewarray 6062 2, 3, 87), (5, .aload 0, 1, 0), (6, .getfield 193, 3, 19), (9, .getfield 128, 3, 199), (12, .iload 1, 1, 0), (13, .iload 2, 1, 0), (14, .multianewarray 6061 2, 3, 93), 
  (17, .invokeinterface 5021 1, 3, 221), (20, .ireturn, 1, 0)]
noncomputable def am_m6027 : am_M := (6027, ("lineOf", "(II)I"), prog_1_method_27_code, 3, (some .int), [], [], am_t6027_0)
noncomputable def am_t6028_0 : List am_I := [
  (0, .iload 1, 1, 0), (1, .iload 2, 1, 0), (2, .multianewarray 6062 2, 3, 87), (5, .aload 0, 1, 0), (6, .getfield 193, 3, 19), (9, .getfield 128, 3, 199), (12, .iload 1, 1, 0), (13, .iload 2, 1, 0), (14, .multianewarray 6061 2, 3, 93), 
  (17, .invokeinterface 5023 1, 3, 224), (20, .freturn, 1, 0)]
noncomputable def am_m6028 : am_M := (6028, ("isChanged", "(II)Z"), prog_1_method_28_code, 3, (some .boolean), [], [], am_t6028_0)
noncomputable def am_t6029_0 : List am_I := [
  (0, .aload 0, 1, 0), (1, .getfield 193, 3, 19), (4, .getfield 128, 3, 199), (7, .invokeinterface 5024 0, 3, 227), (10, .ireturn, 1, 0)]
noncomputable def am_m6029 : am_M := (6029, ("changed", "()I"), prog_1_method_29_code, 1, (some .int), [], [], am_t6029_0)
noncomputable def am_t6030_0 : List am_I := [
  (0, .aload 0, 1, 0), (1, .iload 1, 1, 0), (2, .invokeinterface 6065 1, 3, 108), (5, .iload 2, 1, 0), (6, .iload 3, 1, 0), (7, .multianewarray 6062 2, 3, 87), (10, .aload 0, 1, 0), (11, .getfield 193, 3, 19), (14, .getfield 128, 3, 199), 
  (17, .iload 1, 1, 0), (18, .iload 2, 1, 0), (19, .iload 3, 1, 0), (20, .multianewarray 6061 2, 3, 93), (23, .invokeinterface 5007 2, 3, 230), (26, .ireturn, 1, 0)]
noncomputable def am_m6030 : am_M := (6030, ("lineAt", "(III)I"), prog_1_method_30_code, 4, (some .int), [], [], am_t6030_0)
noncomputable def am_t6031_0 : List am_I := [
  (0, .aload 0, 1, 0), (1, .iload 1, 1, 0), (2, .invokeinterface 6065 1, 3, 108), (5, .aload 0, 1, 0), (6, .iload 2, 1, 0), (7, .invokeinterface 6065 1, 3, 108), (10, .aload 0, 1, 0), (11, .getfield 193, 3, 19), (14, .getfield 128, 3, 199), 
  (17, .iload 1, 1, 0), (18, .iload 2, 1, 0), (19, .invokeinterface 5009 2, 3, 233), (22, .ireturn, 1, 0)]
noncomputable def am_m6031 : am_M := (6031, ("differences", "(II)I"), prog_1_method_31_code, 3, (some .int), [], [], am_t6031_0)
noncomputable def am_t6032_0 : List am_I := [
  (0, .aload 0, 1, 0), (1, .iload 1, 1, 0), (2, .invokeinterface 6065 1, 3, 108), (5, .iload 2, 1, 0), (6, .iload 3, 1, 0), (7, .multianewarray 6062 2, 3, 87), (10, .aload 0, 1, 0), (11, .getfield 193, 3, 19), (14, .getfield 128, 3, 199), 
  (17, .iload 1, 1, 0), (18, .iload 2, 1, 0), (19, .iload 3, 1, 0), (20, .multianewarray 6061 2, 3, 93), (23, .invokeinterface 5011 2, 3, 236), (26, .ireturn, 1, 0)]
noncomputable def am_m6032 : am_M := (6032, ("broughtBy", "(III)I"), prog_1_method_32_code, 4, (some .int), [], [], am_t6032_0)
noncomputable def am_t6033_0 : List am_I := [
  (0, .aload 0, 1, 0), (1, .iload 1, 1, 0), (2, .invokeinterface 6065 1, 3, 108), (5, .iload 2, 1, 0), (6, .iload 3, 1, 0), (7, .multianewarray 6062 2, 3, 87), (10, .aload 0, 1, 0), (11, .getfield 193, 3, 19), (14, .getfield 129, 3, 239), 
  (17, .aload 0, 1, 0), (18, .getfield 193, 3, 19), (21, .getfield 128, 3, 199), (24, .iload 1, 1, 0), (25, .iload 2, 1, 0), (26, .iload 3, 1, 0), (27, .multianewarray 6061 2, 3, 93), (30, .iload 4, 2, 0), (32, .invokeinterface 1005 4, 3, 243), 
  (35, .ireturn, 1, 0)]
noncomputable def am_m6033 : am_M := (6033, ("firstWith", "(IIII)I"), prog_1_method_33_code, 5, (some .int), [], [], am_t6033_0)
noncomputable def am_t6034_0 : List am_I := [
  (0, .aload 0, 1, 0), (1, .getfield 193, 3, 19), (4, .getfield 128, 3, 199), (7, .invokeinterface 5025 0, 3, 249), (10, .i2d, 1, 0), (11, .ldc2_w 4627448617123184640, 3, 252), (14, .ddiv, 1, 0), (15, .dreturn, 1, 0)]
noncomputable def am_m6034 : am_M := (6034, ("fullness", "()D"), prog_1_method_34_code, 1, (some .double), [], [], am_t6034_0)
noncomputable def am_t6035_0 : List am_I := [
  (0, .aload 0, 1, 0), (1, .getfield 193, 3, 19), (4, .getfield 128, 3, 199), (7, .getfield 160, 3, 254), (10, .ireturn, 1, 0)]
noncomputable def am_m6035 : am_M := (6035, ("commits", "()I"), prog_1_method_35_code, 1, (some .int), [], [], am_t6035_0)
noncomputable def am_t6036_0 : List am_I := [
  (0, .aload 0, 1, 0), (1, .iload 1, 1, 0), (2, .invokeinterface 6065 1, 3, 108), (5, .aload 0, 1, 0), (6, .getfield 193, 3, 19), (9, .getfield 128, 3, 199), (12, .iload 1, 1, 0), (13, .invokeinterface 5005 1, 3, 257), (16, .ireturn, 1, 0)
  ]
noncomputable def am_m6036 : am_M := (6036, ("firstParent", "(I)I"), prog_1_method_36_code, 2, (some .int), [], [], am_t6036_0)
noncomputable def am_t6037_0 : List am_I := [
  (0, .aload 0, 1, 0), (1, .iload 1, 1, 0), (2, .invokeinterface 6065 1, 3, 108), (5, .aload 0, 1, 0), (6, .getfield 193, 3, 19), (9, .getfield 128, 3, 199), (12, .iload 1, 1, 0), (13, .invokeinterface 5006 1, 3, 260), (16, .ireturn, 1, 0)
  ]
noncomputable def am_m6037 : am_M := (6037, ("secondParent", "(I)I"), prog_1_method_37_code, 2, (some .int), [], [], am_t6037_0)
noncomputable def am_t6038_0 : List am_I := [
  (0, .aload 0, 1, 0), (1, .getfield 193, 3, 19), (4, .getfield 128, 3, 199), (7, .invokeinterface 5017 0, 3, 263), (10, .ireturn, 1, 0)]
noncomputable def am_m6038 : am_M := (6038, ("branches", "()I"), prog_1_method_38_code, 1, (some .int), [], [], am_t6038_0)
noncomputable def am_t6039_0 : List am_I := [
  (0, .iload 1, 1, 0), (1, .multianewarray 6063 1, 3, 138), (4, .aload 0, 1, 0), (5, .getfield 193, 3, 19), (8, .getfield 128, 3, 199), (11, .iload 1, 1, 0), (12, .invokeinterface 5014 1, 3, 266), (15, .freturn, 1, 0)]
noncomputable def am_m6039 : am_M := (6039, ("isBranch", "(I)Z"), prog_1_method_39_code, 2, (some .boolean), [], [], am_t6039_0)
noncomputable def am_t6040_0 : List am_I := [
  (0, .iload 1, 1, 0), (1, .multianewarray 6063 1, 3, 138), (4, .aload 0, 1, 0), (5, .iload 1, 1, 0), (6, .invokeinterface 6064 1, 3, 269), (9, .aload 0, 1, 0), (10, .getfield 193, 3, 19), (13, .getfield 128, 3, 199), (16, .iload 1, 1, 0), 
  (17, .invokeinterface 5015 1, 3, 272), (20, .ireturn, 1, 0)]
noncomputable def am_m6040 : am_M := (6040, ("standsAt", "(I)I"), prog_1_method_40_code, 2, (some .int), [], [], am_t6040_0)
noncomputable def am_t6041_0 : List am_I := [
  (0, .aload 0, 1, 0), (1, .getfield 193, 3, 19), (4, .getfield 128, 3, 199), (7, .getfield 165, 3, 275), (10, .ireturn, 1, 0)]
noncomputable def am_m6041 : am_M := (6041, ("current", "()I"), prog_1_method_41_code, 1, (some .int), [], [], am_t6041_0)
noncomputable def am_t6042_0 : List am_I := [
  (0, .aload 0, 1, 0), (1, .getfield 193, 3, 19), (4, .getfield 128, 3, 199), (7, .invokeinterface 5016 0, 3, 278), (10, .ireturn, 1, 0)]
noncomputable def am_m6042 : am_M := (6042, ("head", "()I"), prog_1_method_42_code, 1, (some .int), [], [], am_t6042_0)
noncomputable def am_t6043_0 : List am_I := [
  (0, .aload 0, 1, 0), (1, .getfield 193, 3, 19), (4, .getfield 128, 3, 199), (7, .getfield 170, 3, 281), (10, .ireturn, 1, 0)]
noncomputable def am_m6043 : am_M := (6043, ("aside", "()I"), prog_1_method_43_code, 1, (some .int), [], [], am_t6043_0)
noncomputable def am_t6044_0 : List am_I := [
  (0, .aload 0, 1, 0), (1, .getfield 193, 3, 19), (4, .getfield 129, 3, 239), (7, .aload 0, 1, 0), (8, .getfield 193, 3, 19), (11, .getfield 128, 3, 199), (14, .invokeinterface 1006 1, 3, 284), (17, .ireturn, 1, 0)]
noncomputable def am_m6044 : am_M := (6044, ("lost", "()I"), prog_1_method_44_code, 1, (some .int), [], [], am_t6044_0)
noncomputable def am_t6045_0 : List am_I := [
  (0, .aload 0, 1, 0), (1, .iload 1, 1, 0), (2, .invokeinterface 6065 1, 3, 108), (5, .aload 0, 1, 0), (6, .iload 2, 1, 0), (7, .invokeinterface 6065 1, 3, 108), (10, .aload 0, 1, 0), (11, .getfield 193, 3, 19), (14, .getfield 129, 3, 239), 
  (17, .aload 0, 1, 0), (18, .getfield 193, 3, 19), (21, .getfield 128, 3, 199), (24, .iload 1, 1, 0), (25, .iload 2, 1, 0), (26, .invokeinterface 1002 3, 3, 288), (29, .freturn, 1, 0)]
noncomputable def am_m6045 : am_M := (6045, ("reaches", "(II)Z"), prog_1_method_45_code, 3, (some .boolean), [], [], am_t6045_0)
noncomputable def am_t6046_0 : List am_I := [
  (0, .aload 0, 1, 0), (1, .iload 1, 1, 0), (2, .invokeinterface 6065 1, 3, 108), (5, .aload 0, 1, 0), (6, .getfield 193, 3, 19), (9, .getfield 129, 3, 239), (12, .aload 0, 1, 0), (13, .getfield 193, 3, 19), (16, .getfield 128, 3, 199), 
  (19, .iload 1, 1, 0), (20, .invokeinterface 1003 2, 3, 292), (23, .ireturn, 1, 0)]
noncomputable def am_m6046 : am_M := (6046, ("history", "(I)I"), prog_1_method_46_code, 2, (some .int), [], [], am_t6046_0)
noncomputable def am_t6047_0 : List am_I := [
  (0, .aload 0, 1, 0), (1, .iload 1, 1, 0), (2, .invokeinterface 6065 1, 3, 108), (5, .iload 2, 1, 0), (6, .ifCond .ge 20, 3, 0), (9, .jsr 0, 3, 15), (20, .aload 0, 1, 0), (21, .getfield 193, 3, 19), (24, .getfield 129, 3, 239), 
  (27, .aload 0, 1, 0), (28, .getfield 193, 3, 19), (31, .getfield 128, 3, 199), (34, .iload 1, 1, 0), (35, .iload 2, 1, 0), (36, .invokeinterface 1004 3, 3, 298), (39, .ireturn, 1, 0)]
noncomputable def am_m6047 : am_M := (6047, ("historyAt", "(II)I"), prog_1_method_47_code, 3, (some .int), [], [], am_t6047_0)
noncomputable def am_t6048_0 : List am_I := [
  (0, .aload 0, 1, 0), (1, .iload 1, 1, 0), (2, .invokeinterface 6065 1, 3, 108), (5, .aload 0, 1, 0), (6, .iload 2, 1, 0), (7, .invokeinterface 6065 1, 3, 108), (10, .aload 0, 1, 0), (11, .getfield 193, 3, 19), (14, .getfield 129, 3, 239), 
  (17, .aload 0, 1, 0), (18, .getfield 193, 3, 19), (21, .getfield 128, 3, 199), (24, .iload 1, 1, 0), (25, .iload 2, 1, 0), (26, .invokeinterface 1007 3, 3, 302), (29, .ireturn, 1, 0)]
noncomputable def am_m6048 : am_M := (6048, ("distance", "(II)I"), prog_1_method_48_code, 3, (some .int), [], [], am_t6048_0)
noncomputable def am_t6049_0 : List am_I := [
  (0, .aload 0, 1, 0), (1, .iload 1, 1, 0), (2, .invokeinterface 6065 1, 3, 108), (5, .aload 0, 1, 0), (6, .getfield 193, 3, 19), (9, .getfield 129, 3, 239), (12, .aload 0, 1, 0), (13, .getfield 193, 3, 19), (16, .getfield 128, 3, 199), 
  (19, .iload 1, 1, 0), (20, .invokeinterface 1010 2, 3, 305), (23, .ireturn, 1, 0)]
noncomputable def am_m6049 : am_M := (6049, ("depth", "(I)I"), prog_1_method_49_code, 2, (some .int), [], [], am_t6049_0)
noncomputable def am_t6050_0 : List am_I := [
  (0, .aload 0, 1, 0), (1, .iload 1, 1, 0), (2, .invokeinterface 6065 1, 3, 108), (5, .aload 0, 1, 0), (6, .iload 2, 1, 0), (7, .invokeinterface 6065 1, 3, 108), (10, .aload 0, 1, 0), (11, .getfield 193, 3, 19), (14, .getfield 129, 3, 239), 
  (17, .aload 0, 1, 0), (18, .getfield 193, 3, 19), (21, .getfield 128, 3, 199), (24, .iload 1, 1, 0), (25, .iload 2, 1, 0), (26, .invokeinterface 1011 3, 3, 308), (29, .ireturn, 1, 0)]
noncomputable def am_m6050 : am_M := (6050, ("base", "(II)I"), prog_1_method_50_code, 3, (some .int), [], [], am_t6050_0)
noncomputable def am_t6051_0 : List am_I := [
  (0, .aload 0, 1, 0), (1, .iload 1, 1, 0), (2, .invokeinterface 6065 1, 3, 108), (5, .aload 0, 1, 0), (6, .iload 2, 1, 0), (7, .invokeinterface 6065 1, 3, 108), (10, .aload 0, 1, 0), (11, .getfield 193, 3, 19), (14, .getfield 129, 3, 239), 
  (17, .aload 0, 1, 0), (18, .getfield 193, 3, 19), (21, .getfield 128, 3, 199), (24, .iload 1, 1, 0), (25, .iload 2, 1, 0), (26, .invokeinterface 1012 3, 3, 311), (29, .ireturn, 1, 0)]
noncomputable def am_m6051 : am_M := (6051, ("baseByMarks", "(II)I"), prog_1_method_51_code, 3, (some .int), [], [], am_t6051_0)
noncomputable def am_t6052_0 : List am_I := [
  (0, .aload 0, 1, 0), (1, .iload 1, 1, 0), (2, .invokeinterface 6065 1, 3, 108), (5, .aload 0, 1, 0), (6, .iload 2, 1, 0), (7, .invokeinterface 6065 1, 3, 108), (10, .aload 0, 1, 0), (11, .getfield 193, 3, 19), (14, .getfield 129, 3, 239), 
  (17, .aload 0, 1, 0), (18, .getfield 193, 3, 19), (21, .getfield 128, 3, 199), (24, .iload 1, 1, 0), (25, .iload 2, 1, 0), (26, .invokeinterface 1013 3, 3, 314), (29, .ireturn, 1, 0)]
noncomputable def am_m6052 : am_M := (6052, ("bestCommon", "(II)I"), prog_1_method_52_code, 3, (some .int), [], [], am_t6052_0)
noncomputable def am_t6053_0 : List am_I := [
  (0, .iload 1, 1, 0), (1, .multianewarray 6063 1, 3, 138), (4, .aload 0, 1, 0), (5, .iload 1, 1, 0), (6, .invokeinterface 6064 1, 3, 269), (9, .aload 0, 1, 0), (10, .getfield 193, 3, 19), (13, .aload 0, 1, 0), (14, .getfield 193, 3, 19), 
  (17, .getfield 128, 3, 199), (20, .iload 1, 1, 0), (21, .invokeinterface 5015 1, 3, 272), (24, .invokeinterface 4027 1, 3, 317), (27, .aload 0, 1, 0), (28, .getfield 193, 3, 19), (31, .getfield 130, 3, 320), (34, .getfield 5, 3, 324), 
  (37, .ireturn, 1, 0)]
noncomputable def am_m6053 : am_M := (6053, ("wouldConflict", "(I)I"), prog_1_method_53_code, 2, (some .int), [], [], am_t6053_0)
noncomputable def am_t6054_0 : List am_I := [
  (0, .iload 1, 1, 0), (1, .multianewarray 6063 1, 3, 138), (4, .aload 0, 1, 0), (5, .iload 1, 1, 0), (6, .invokeinterface 6064 1, 3, 269), (9, .aload 0, 1, 0), (10, .getfield 193, 3, 19), (13, .aload 0, 1, 0), (14, .getfield 193, 3, 19), 
  (17, .getfield 128, 3, 199), (20, .iload 1, 1, 0), (21, .invokeinterface 5015 1, 3, 272), (24, .invokeinterface 4027 1, 3, 317), (27, .aload 0, 1, 0), (28, .getfield 193, 3, 19), (31, .getfield 130, 3, 320), (34, .getfield 4, 3, 329), 
  (37, .ireturn, 1, 0)]
noncomputable def am_m6054 : am_M := (6054, ("wouldBecome", "(I)I"), prog_1_method_54_code, 2, (some .int), [], [], am_t6054_0)
noncomputable def am_t6055_0 : List am_I := [
  (0, .aload 0, 1, 0), (1, .getfield 193, 3, 19), (4, .getfield 128, 3, 199), (7, .invokeinterface 5010 0, 3, 332), (10, .ireturn, 1, 0)]
noncomputable def am_m6055 : am_M := (6055, ("merges", "()I"), prog_1_method_55_code, 1, (some .int), [], [], am_t6055_0)
noncomputable def am_t6056_0 : List am_I := [
  (0, .aload 0, 1, 0), (1, .getfield 193, 3, 19), (4, .getfield 128, 3, 199), (7, .getfield 173, 3, 335), (10, .ireturn, 1, 0)]
noncomputable def am_m6056 : am_M := (6056, ("allConflicts", "()I"), prog_1_method_56_code, 1, (some .int), [], [], am_t6056_0)
noncomputable def am_t6057_0 : List am_I := [
  (0, .aload 0, 1, 0), (1, .getfield 195, 3, 33), (4, .aload 0, 1, 0), (5, .getfield 193, 3, 19), (8, .getfield 128, 3, 199), (11, .invokeinterface 5002 1, 3, 338), (14, .aload 0, 1, 0), (15, .sipush 1, 1, 0), (16, .putfield 196, 3, 37), 
  (19, .aload 0, 1, 0), (20, .getfield 193, 3, 19), (23, .getfield 128, 3, 199), (26, .getfield 160, 3, 254), (29, .ireturn, 1, 0)]
noncomputable def am_m6057 : am_M := (6057, ("keep", "()I"), prog_1_method_57_code, 1, (some .int), [], [], am_t6057_0)
noncomputable def am_t6058_0 : List am_I := [
  (0, .aload 0, 1, 0), (1, .getfield 196, 3, 37), (4, .ifCond .ne 18, 3, 0), (7, .jsr 1, 3, 16), (18, .aload 0, 1, 0), (19, .invokeinterface 6067 0, 3, 70), (22, .aload 0, 1, 0), (23, .getfield 193, 3, 19), (26, .getfield 128, 3, 199), 
  (29, .aload 0, 1, 0), (30, .getfield 195, 3, 33), (33, .invokeinterface 5002 1, 3, 338), (36, .aload 0, 1, 0), (37, .getfield 193, 3, 19), (40, .getfield 128, 3, 199), (43, .getfield 160, 3, 254), (46, .ireturn, 1, 0)]
noncomputable def am_m6058 : am_M := (6058, ("goBack", "()I"), prog_1_method_58_code, 1, (some .int), [], [], am_t6058_0)
noncomputable def am_t6059_0 : List am_I := [
  (0, .aload 0, 1, 0), (1, .getfield 194, 3, 26), (4, .getfield 98, 3, 344), (7, .ifCond .ne 21, 3, 0), (10, .jsr 1, 3, 17), (21, .aload 0, 1, 0), (22, .getfield 194, 3, 26), (25, .aload 0, 1, 0), (26, .getfield 193, 3, 19), 
  (29, .getfield 128, 3, 199), (32, .invokeinterface 3003 1, 3, 349), (35, .aload 0, 1, 0), (36, .getfield 194, 3, 26), (39, .getfield 98, 3, 344), (42, .ireturn, 1, 0)]
noncomputable def am_m6059 : am_M := (6059, ("undo", "()I"), prog_1_method_59_code, 1, (some .int), [], [], am_t6059_0)
noncomputable def am_t6060_0 : List am_I := [
  (0, .iload 0, 1, 0), (1, .ifCond .lt 23, 3, 0), (4, .iload 0, 1, 0), (5, .sipush 4, 1, 0), (6, .if_icmp .ge 23, 3, 0), (9, .iload 1, 1, 0), (10, .ifCond .lt 23, 3, 0), (13, .iload 1, 1, 0), (14, .sipush 6, 2, 0), (16, .if_icmp .ge 23, 3, 0), 
  (19, .sipush 1, 1, 0), (20, .goto 24, 3, 0), (23, .sipush 0, 1, 0), (24, .freturn, 1, 0)]
noncomputable def am_m6060 : am_M := (6060, ("isPlace", "(II)Z"), prog_1_method_60_code, 2, (some .boolean), [], [], am_t6060_0)
noncomputable def am_t6061_0 : List am_I := [
  (0, .iload 0, 1, 0), (1, .sipush 6, 2, 0), (3, .imul, 1, 0), (4, .iload 1, 1, 0), (5, .iadd, 1, 0), (6, .ireturn, 1, 0)]
noncomputable def am_m6061 : am_M := (6061, ("placeOf", "(II)I"), prog_1_method_61_code, 2, (some .int), [], [], am_t6061_0)
noncomputable def am_t6062_0 : List am_I := [
  (0, .iload 0, 1, 0), (1, .iload 1, 1, 0), (2, .multianewarray 6060 2, 3, 352), (5, .ifCond .ne 19, 3, 0), (8, .jsr 0, 3, 18), (19, .return_, 1, 0)]
noncomputable def am_m6062 : am_M := (6062, ("requirePlace", "(II)V"), prog_1_method_62_code, 2, none, [], [], am_t6062_0)
noncomputable def am_t6063_0 : List am_I := [
  (0, .iload 0, 1, 0), (1, .ifCond .lt 10, 3, 0), (4, .iload 0, 1, 0), (5, .sipush 6, 2, 0), (7, .if_icmp .lt 21, 3, 0), (10, .jsr 0, 3, 19), (21, .return_, 1, 0)]
noncomputable def am_m6063 : am_M := (6063, ("requireBranchNumber", "(I)V"), prog_1_method_63_code, 1, none, [], [], am_t6063_0)
noncomputable def am_t6064_0 : List am_I := [
  (0, .aload 0, 1, 0), (1, .getfield 193, 3, 19), (4, .getfield 128, 3, 199), (7, .iload 1, 1, 0), (8, .invokeinterface 5014 1, 3, 266), (11, .ifCond .ne 25, 3, 0), (14, .jsr 1, 3, 20), (25, .return_, 1, 0)]
noncomputable def am_m6064 : am_M := (6064, ("requireBranch", "(I)V"), prog_1_method_64_code, 2, none, [], [], am_t6064_0)
noncomputable def am_t6065_0 : List am_I := [
  (0, .aload 0, 1, 0), (1, .getfield 193, 3, 19), (4, .getfield 128, 3, 199), (7, .iload 1, 1, 0), (8, .invokeinterface 5003 1, 3, 362), (11, .ifCond .ne 25, 3, 0), (14, .jsr 0, 3, 21), (25, .return_, 1, 0)]
noncomputable def am_m6065 : am_M := (6065, ("requireCommit", "(I)V"), prog_1_method_65_code, 2, none, [], [], am_t6065_0)
noncomputable def am_t6066_0 : List am_I := [
  (0, .aload 0, 1, 0), (1, .getfield 193, 3, 19), (4, .getfield 128, 3, 199), (7, .iload 1, 1, 0), (8, .invokeinterface 5028 1, 3, 202), (11, .ifCond .ne 25, 3, 0), (14, .jsr 1, 3, 22), (25, .return_, 1, 0)]
noncomputable def am_m6066 : am_M := (6066, ("requireConflict", "(I)V"), prog_1_method_66_code, 2, none, [], [], am_t6066_0)
noncomputable def am_t6067_0 : List am_I := [
  (0, .aload 0, 1, 0), (1, .getfield 194, 3, 26), (4, .aload 0, 1, 0), (5, .getfield 193, 3, 19), (8, .getfield 128, 3, 199), (11, .invokeinterface 3002 1, 3, 369), (14, .return_, 1, 0)]
noncomputable def am_m6067 : am_M := (6067, ("recordState", "()V"), prog_1_method_67_code, 1, none, [], [], am_t6067_0)
noncomputable def am_t6068_0 : List am_I := [
  (0, .aload 0, 1, 0), (1, .getfield 192, 3, 12), (4, .iload 1, 1, 0), (5, .sipush 1, 1, 0), (6, .iadd, 1, 0), (7, .invokeinterface 2009 1, 3, 372), (10, .istore 2, 1, 0), (11, .aload 0, 1, 0), (12, .getfield 192, 3, 12), 
  (15, .iload 1, 1, 0), (16, .invokeinterface 2006 1, 3, 375), (19, .tableswitch 170 97 115 #[124, 116, 108, 170, 170, 170, 170, 170, 170, 170, 170, 170, 141, 170, 170, 150, 170, 160, 132], 89, 0), (108, .aload 0, 1, 0), 
  (109, .getfield 193, 3, 19), (112, .invokeinterface 4003 0, 3, 100), (115, .freturn, 1, 0), (116, .aload 0, 1, 0), (117, .getfield 193, 3, 19), (120, .invokeinterface 4010 0, 3, 130), (123, .freturn, 1, 0), (124, .aload 0, 1, 0), 
  (125, .getfield 193, 3, 19), (128, .invokeinterface 4023 0, 3, 191), (131, .freturn, 1, 0), (132, .aload 0, 1, 0), (133, .getfield 193, 3, 19), (136, .iload 2, 1, 0), (137, .invokeinterface 4014 1, 3, 149), (140, .freturn, 1, 0), 
  (141, .aload 0, 1, 0), (142, .getfield 193, 3, 19), (145, .iload 2, 1, 0), (146, .invokeinterface 4016 1, 3, 157), (149, .freturn, 1, 0), (150, .aload 0, 1, 0), (151, .getfield 193, 3, 19), (154, .iload 2, 1, 0), (155, .sipush 0, 1, 0), 
  (156, .invokeinterface 4018 2, 3, 165), (159, .freturn, 1, 0), (160, .aload 0, 1, 0), (161, .getfield 193, 3, 19), (164, .iload 2, 1, 0), (165, .sipush 1, 1, 0), (166, .invokeinterface 4018 2, 3, 165), (169, .freturn, 1, 0), 
  (170, .sipush 1, 1, 0), (171, .freturn, 1, 0)]
noncomputable def am_m6068 : am_M := (6068, ("mayCarryOut", "(I)Z"), prog_1_method_68_code, 3, (some .boolean), [], [], am_t6068_0)
noncomputable def am_t6069_0 : List am_I := [
  (0, .aload 0, 1, 0), (1, .getfield 192, 3, 12), (4, .iload 1, 1, 0), (5, .sipush 1, 1, 0), (6, .iadd, 1, 0), (7, .invokeinterface 2009 1, 3, 372), (10, .istore 2, 1, 0), (11, .aload 0, 1, 0), (12, .getfield 192, 3, 12), 
  (15, .iload 1, 1, 0), (16, .invokeinterface 2006 1, 3, 375), (19, .tableswitch 191 97 115 #[130, 119, 108, 191, 191, 191, 191, 191, 191, 191, 191, 191, 153, 191, 191, 165, 191, 178, 141], 89, 0), (108, .aload 0, 1, 0), 
  (109, .getfield 193, 3, 19), (112, .invokeinterface 4004 0, 3, 105), (115, .pop, 1, 0), (116, .goto 232, 3, 0), (119, .aload 0, 1, 0), (120, .getfield 193, 3, 19), (123, .invokeinterface 4011 0, 3, 135), (126, .pop, 1, 0), 
  (127, .goto 232, 3, 0), (130, .aload 0, 1, 0), (131, .getfield 193, 3, 19), (134, .invokeinterface 4024 0, 3, 196), (137, .pop, 1, 0), (138, .goto 232, 3, 0), (141, .aload 0, 1, 0), (142, .getfield 193, 3, 19), (145, .iload 2, 1, 0), 
  (146, .invokeinterface 4015 1, 3, 154), (149, .pop, 1, 0), (150, .goto 232, 3, 0), (153, .aload 0, 1, 0), (154, .getfield 193, 3, 19), (157, .iload 2, 1, 0), (158, .invokeinterface 4017 1, 3, 162), (161, .pop, 1, 0), (162, .goto 232, 3, 0), 
  (165, .aload 0, 1, 0), (166, .getfield 193, 3, 19), (169, .iload 2, 1, 0), (170, .sipush 0, 1, 0), (171, .invokeinterface 4019 2, 3, 171), (174, .pop, 1, 0), (175, .goto 232, 3, 0), (178, .aload 0, 1, 0), (179, .getfield 193, 3, 19), 
  (182, .iload 2, 1, 0), (183, .sipush 1, 1, 0), (184, .invokeinterface 4019 2, 3, 171), (187, .pop, 1, 0), (188, .goto 232, 3, 0), (191, .aload 0, 1, 0), (192, .getfield 192, 3, 12), (195, .iload 1, 1, 0), (196, .invokeinterface 2009 1, 3, 372), 
  (199, .aload 0, 1, 0), (200, .getfield 192, 3, 12), (203, .iload 1, 1, 0), (204, .sipush 2, 1, 0), (205, .iadd, 1, 0), (206, .invokeinterface 2009 1, 3, 372), (209, .multianewarray 6061 2, 3, 93), (212, .istore 3, 1, 0), 
  (213, .aload 0, 1, 0), (214, .getfield 193, 3, 19), (217, .iload 3, 1, 0), (218, .aload 0, 1, 0), (219, .getfield 192, 3, 12), (222, .iload 1, 1, 0), (223, .sipush 4, 1, 0), (224, .iadd, 1, 0), (225, .invokeinterface 2009 1, 3, 372), 
  (228, .invokeinterface 4002 2, 3, 97), (231, .pop, 1, 0), (232, .return_, 1, 0)]
noncomputable def am_m6069 : am_M := (6069, ("carryOut", "(I)V"), prog_1_method_69_code, 4, none, [], [], am_t6069_0)
noncomputable def am_t7001_0 : List am_I := [
  (0, .aload 0, 1, 0), (1, .invokespecial 0, 3, 1), (4, .aload 0, 1, 0), (5, .sipush 1764, 3, 0), (8, .newarray .int, 2, 0), (10, .putfield 224, 3, 7), (13, .aload 0, 1, 0), (14, .sipush 1764, 3, 0), (17, .newarray .int, 2, 0), 
  (19, .putfield 225, 3, 13), (22, .aload 0, 1, 0), (23, .sipush 1764, 3, 0), (26, .newarray .int, 2, 0), (28, .putfield 226, 3, 16), (31, .aload 0, 1, 0), (32, .sipush 7056, 3, 0), (35, .newarray .int, 2, 0), (37, .putfield 228, 3, 19), 
  (40, .aload 0, 1, 0), (41, .sipush 60, 2, 0), (43, .newarray .int, 2, 0), (45, .putfield 230, 3, 22), (48, .aload 0, 1, 0), (49, .sipush 60, 2, 0), (51, .newarray .long, 2, 0), (53, .putfield 233, 3, 25), (56, .aload 0, 1, 0), 
  (57, .sipush 60, 2, 0), (59, .newarray .int, 2, 0), (61, .putfield 240, 3, 29), (64, .aload 0, 1, 0), (65, .getfield 224, 3, 7), (68, .sipush 1762, 3, 0), (71, .sipush 1, 1, 0), (72, .iastore, 1, 0), (73, .aload 0, 1, 0), 
  (74, .getfield 224, 3, 7), (77, .sipush 1560, 3, 0), (80, .sipush 1, 1, 0), (81, .iastore, 1, 0), (82, .return_, 1, 0)]
noncomputable def am_m7001 : am_M := (7001, ("<init>", "()V"), prog_9_method_1_code, 1, none, [], [], am_t7001_0)
noncomputable def am_t7002_0 : List am_I := [
  (0, .aload 0, 1, 0), (1, .getfield 232, 3, 32), (4, .ireturn, 1, 0)]
noncomputable def am_m7002 : am_M := (7002, ("thrown", "()I"), prog_9_method_2_code, 1, (some .int), [], [], am_t7002_0)
noncomputable def am_t7003_0 : List am_I := [
  (0, .aload 0, 1, 0), (1, .iload 1, 1, 0), (2, .putfield 232, 3, 32), (5, .sipush 0, 1, 0), (6, .ireturn, 1, 0)]
noncomputable def am_m7003 : am_M := (7003, ("fails", "(I)I"), prog_9_method_3_code, 2, (some .int), [], [], am_t7003_0)
noncomputable def am_t7004_0 : List am_I := [
  (0, .aload 0, 1, 0), (1, .iload 1, 1, 0), (2, .ifCond .eq 9, 3, 0), (5, .sipush 0, 1, 0), (6, .goto 10, 3, 0), (9, .sipush 1, 1, 0), (10, .putfield 232, 3, 32), (13, .iload 1, 1, 0), (14, .freturn, 1, 0)]
noncomputable def am_m7004 : am_M := (7004, ("asks", "(Z)Z"), prog_9_method_4_code, 2, (some .boolean), [], [], am_t7004_0)
noncomputable def am_t7005_0 : List am_I := [
  (0, .iload 0, 1, 0), (1, .iload 1, 1, 0), (2, .if_icmp .lt 14, 3, 0), (5, .iload 0, 1, 0), (6, .iload 2, 1, 0), (7, .if_icmp .gt 14, 3, 0), (10, .sipush 1, 1, 0), (11, .goto 15, 3, 0), (14, .sipush 0, 1, 0), (15, .freturn, 1, 0)
  ]
noncomputable def am_m7005 : am_M := (7005, ("in", "(III)Z"), prog_9_method_5_code, 3, (some .boolean), [], [], am_t7005_0)
noncomputable def am_t7006_0 : List am_I := [
  (0, .iload 0, 1, 0), (1, .iload 1, 1, 0), (2, .if_icmp .ge 9, 3, 0), (5, .iload 1, 1, 0), (6, .goto 10, 3, 0), (9, .iload 0, 1, 0), (10, .ireturn, 1, 0)]
noncomputable def am_m7006 : am_M := (7006, ("more", "(II)I"), prog_9_method_6_code, 2, (some .int), [], [], am_t7006_0)
noncomputable def am_t7007_0 : List am_I := [
  (0, .sipush 0, 1, 0), (1, .istore 4, 2, 0), (3, .iload 4, 2, 0), (5, .sipush 1764, 3, 0), (8, .if_icmp .ge 29, 3, 0), (11, .aload 2, 1, 0), (12, .iload 3, 1, 0), (13, .iload 4, 2, 0), (15, .iadd, 1, 0), (16, .aload 0, 1, 0), 
  (17, .iload 1, 1, 0), (18, .iload 4, 2, 0), (20, .iadd, 1, 0), (21, .iaload, 1, 0), (22, .iastore, 1, 0), (23, .iinc 4 1, 3, 0), (26, .goto 3, 3, 0), (29, .return_, 1, 0)]
noncomputable def am_m7007 : am_M := (7007, ("copies", "([II[II)V"), prog_9_method_7_code, 5, none, [], [], am_t7007_0)
noncomputable def am_t7008_0 : List am_I := [
  (0, .aload 0, 1, 0), (1, .sipush 0, 1, 0), (2, .putfield 232, 3, 32), (5, .aload 0, 1, 0), (6, .getfield 224, 3, 7), (9, .sipush 0, 1, 0), (10, .aload 0, 1, 0), (11, .getfield 225, 3, 13), (14, .sipush 0, 1, 0), (15, .multianewarray 7007 4, 3, 36), 
  (18, .return_, 1, 0)]
noncomputable def am_m7008 : am_M := (7008, ("begins", "()V"), prog_9_method_8_code, 1, none, [], [], am_t7008_0)
noncomputable def am_t7009_0 : List am_I := [
  (0, .aload 0, 1, 0), (1, .getfield 229, 3, 40), (4, .sipush 4, 1, 0), (5, .if_icmp .ne 49, 3, 0), (8, .sipush 0, 1, 0), (9, .istore 1, 1, 0), (10, .iload 1, 1, 0), (11, .sipush 5292, 3, 0), (14, .if_icmp .ge 39, 3, 0), 
  (17, .aload 0, 1, 0), (18, .getfield 228, 3, 19), (21, .iload 1, 1, 0), (22, .aload 0, 1, 0), (23, .getfield 228, 3, 19), (26, .iload 1, 1, 0), (27, .sipush 1764, 3, 0), (30, .iadd, 1, 0), (31, .iaload, 1, 0), (32, .iastore, 1, 0), 
  (33, .iinc 1 1, 3, 0), (36, .goto 10, 3, 0), (39, .aload 0, 1, 0), (40, .dup, 1, 0), (41, .getfield 229, 3, 40), (44, .sipush 1, 1, 0), (45, .isub, 1, 0), (46, .putfield 229, 3, 40), (49, .aload 0, 1, 0), (50, .getfield 225, 3, 13), 
  (53, .sipush 0, 1, 0), (54, .aload 0, 1, 0), (55, .getfield 228, 3, 19), (58, .sipush 1764, 3, 0), (61, .aload 0, 1, 0), (62, .getfield 229, 3, 40), (65, .imul, 1, 0), (66, .multianewarray 7007 4, 3, 36), (69, .aload 0, 1, 0), 
  (70, .dup, 1, 0), (71, .getfield 229, 3, 40), (74, .sipush 1, 1, 0), (75, .iadd, 1, 0), (76, .putfield 229, 3, 40), (79, .return_, 1, 0)]
noncomputable def am_m7009 : am_M := (7009, ("records", "()V"), prog_9_method_9_code, 2, none, [], [], am_t7009_0)
noncomputable def am_t7010_0 : List am_I := [
  (0, .iload 1, 1, 0), (1, .sipush (-11), 2, 0), (3, .if_icmp .eq 12, 3, 0), (6, .iload 1, 1, 0), (7, .sipush (-12), 2, 0), (9, .if_icmp .ne 28, 3, 0), (12, .aload 0, 1, 0), (13, .iload 1, 1, 0), (14, .sipush (-11), 2, 0), 
  (16, .if_icmp .ne 23, 3, 0), (19, .sipush 1, 1, 0), (20, .goto 24, 3, 0), (23, .iload 2, 1, 0), (24, .invokeinterface 7003 1, 3, 43), (27, .ireturn, 1, 0), (28, .aload 0, 1, 0), (29, .invokeinterface 7009 0, 3, 47), (32, .iload 1, 1, 0), 
  (33, .ireturn, 1, 0)]
noncomputable def am_m7010 : am_M := (7010, ("ends", "(II)I"), prog_9_method_10_code, 3, (some .int), [], [], am_t7010_0)
noncomputable def am_t7011_0 : List am_I := [
  (0, .iload 0, 1, 0), (1, .sipush 0, 1, 0), (2, .sipush 3, 1, 0), (3, .multianewarray 7005 3, 3, 50), (6, .ifCond .eq 22, 3, 0), (9, .iload 1, 1, 0), (10, .sipush 0, 1, 0), (11, .sipush 5, 1, 0), (12, .multianewarray 7005 3, 3, 50), 
  (15, .ifCond .eq 22, 3, 0), (18, .sipush 1, 1, 0), (19, .goto 23, 3, 0), (22, .sipush 0, 1, 0), (23, .freturn, 1, 0)]
noncomputable def am_m7011 : am_M := (7011, ("isLine", "(II)Z"), prog_9_method_11_code, 2, (some .boolean), [], [], am_t7011_0)
noncomputable def am_t7012_0 : List am_I := [
  (0, .iload 1, 1, 0), (1, .sipush 0, 1, 0), (2, .aload 0, 1, 0), (3, .getfield 224, 3, 7), (6, .sipush 1762, 3, 0), (9, .iaload, 1, 0), (10, .sipush 1, 1, 0), (11, .isub, 1, 0), (12, .multianewarray 7005 3, 3, 50), (15, .freturn, 1, 0)
  ]
noncomputable def am_m7012 : am_M := (7012, ("isCommit", "(I)Z"), prog_9_method_12_code, 2, (some .boolean), [], [], am_t7012_0)
noncomputable def am_t7013_0 : List am_I := [
  (0, .iload 0, 1, 0), (1, .sipush 0, 1, 0), (2, .sipush 5, 1, 0), (3, .multianewarray 7005 3, 3, 50), (6, .freturn, 1, 0)]
noncomputable def am_m7013 : am_M := (7013, ("isNumber", "(I)Z"), prog_9_method_13_code, 1, (some .boolean), [], [], am_t7013_0)
noncomputable def am_t7014_0 : List am_I := [
  (0, .aload 0, 1, 0), (1, .getfield 224, 3, 7), (4, .sipush 1560, 3, 0), (7, .iload 1, 1, 0), (8, .iadd, 1, 0), (9, .iaload, 1, 0), (10, .sipush 1, 1, 0), (11, .isub, 1, 0), (12, .ireturn, 1, 0)]
noncomputable def am_m7014 : am_M := (7014, ("stand", "(I)I"), prog_9_method_14_code, 2, (some .int), [], [], am_t7014_0)
noncomputable def am_t7015_0 : List am_I := [
  (0, .aload 0, 1, 0), (1, .aload 0, 1, 0), (2, .getfield 224, 3, 7), (5, .sipush 1566, 3, 0), (8, .iaload, 1, 0), (9, .invokeinterface 7014 1, 3, 54), (12, .ireturn, 1, 0)]
noncomputable def am_m7015 : am_M := (7015, ("top", "()I"), prog_9_method_15_code, 1, (some .int), [], [], am_t7015_0)
noncomputable def am_t7016_0 : List am_I := [
  (0, .sipush 0, 1, 0), (1, .sipush 24, 2, 0), (3, .iload 0, 1, 0), (4, .imul, 1, 0), (5, .iadd, 1, 0), (6, .ireturn, 1, 0)]
noncomputable def am_m7016 : am_M := (7016, ("tree", "(I)I"), prog_9_method_16_code, 1, (some .int), [], [], am_t7016_0)
noncomputable def am_t7017_0 : List am_I := [
  (0, .sipush 0, 1, 0), (1, .istore 3, 1, 0), (2, .iload 3, 1, 0), (3, .sipush 24, 2, 0), (5, .if_icmp .ge 30, 3, 0), (8, .aload 0, 1, 0), (9, .getfield 224, 3, 7), (12, .iload 2, 1, 0), (13, .iload 3, 1, 0), (14, .iadd, 1, 0), 
  (15, .aload 0, 1, 0), (16, .getfield 224, 3, 7), (19, .iload 1, 1, 0), (20, .iload 3, 1, 0), (21, .iadd, 1, 0), (22, .iaload, 1, 0), (23, .iastore, 1, 0), (24, .iinc 3 1, 3, 0), (27, .goto 2, 3, 0), (30, .return_, 1, 0)
  ]
noncomputable def am_m7017 : am_M := (7017, ("lays", "(II)V"), prog_9_method_17_code, 4, none, [], [], am_t7017_0)
noncomputable def am_t7018_0 : List am_I := [
  (0, .sipush 0, 1, 0), (1, .istore 3, 1, 0), (2, .sipush 0, 1, 0), (3, .istore 4, 2, 0), (5, .iload 4, 2, 0), (7, .sipush 24, 2, 0), (9, .if_icmp .ge 47, 3, 0), (12, .iload 3, 1, 0), (13, .aload 0, 1, 0), (14, .getfield 224, 3, 7), 
  (17, .iload 1, 1, 0), (18, .iload 4, 2, 0), (20, .iadd, 1, 0), (21, .iaload, 1, 0), (22, .aload 0, 1, 0), (23, .getfield 224, 3, 7), (26, .iload 2, 1, 0), (27, .iload 4, 2, 0), (29, .iadd, 1, 0), (30, .iaload, 1, 0), (31, .if_icmp .eq 38, 3, 0), 
  (34, .sipush 1, 1, 0), (35, .goto 39, 3, 0), (38, .sipush 0, 1, 0), (39, .iadd, 1, 0), (40, .istore 3, 1, 0), (41, .iinc 4 1, 3, 0), (44, .goto 5, 3, 0), (47, .iload 3, 1, 0), (48, .ireturn, 1, 0)]
noncomputable def am_m7018 : am_M := (7018, ("differ", "(II)I"), prog_9_method_18_code, 5, (some .int), [], [], am_t7018_0)
noncomputable def am_t7019_0 : List am_I := [
  (0, .aload 0, 1, 0), (1, .sipush 1567, 3, 0), (4, .aload 0, 1, 0), (5, .invokeinterface 7015 0, 3, 57), (8, .multianewarray 7016 1, 3, 61), (11, .invokeinterface 7018 2, 3, 64), (14, .ireturn, 1, 0)]
noncomputable def am_m7019 : am_M := (7019, ("unlike", "()I"), prog_9_method_19_code, 1, (some .int), [], [], am_t7019_0)
noncomputable def am_t7020_0 : List am_I := [
  (0, .aload 0, 1, 0), (1, .invokeinterface 7019 0, 3, 68), (4, .ifCond .ne 22, 3, 0), (7, .aload 0, 1, 0), (8, .getfield 224, 3, 7), (11, .sipush 1615, 3, 0), (14, .iaload, 1, 0), (15, .ifCond .ne 22, 3, 0), (18, .sipush 1, 1, 0), 
  (19, .goto 23, 3, 0), (22, .sipush 0, 1, 0), (23, .freturn, 1, 0)]
noncomputable def am_m7020 : am_M := (7020, ("isQuiet", "()Z"), prog_9_method_20_code, 1, (some .boolean), [], [], am_t7020_0)
noncomputable def am_t7021_0 : List am_I := [
  (0, .sipush 0, 1, 0), (1, .istore 1, 1, 0), (2, .sipush 0, 1, 0), (3, .istore 2, 1, 0), (4, .iload 2, 1, 0), (5, .sipush 24, 2, 0), (7, .if_icmp .ge 37, 3, 0), (10, .iload 1, 1, 0), (11, .aload 0, 1, 0), (12, .getfield 224, 3, 7), 
  (15, .sipush 1591, 3, 0), (18, .iload 2, 1, 0), (19, .iadd, 1, 0), (20, .iaload, 1, 0), (21, .ifCond .le 28, 3, 0), (24, .sipush 1, 1, 0), (25, .goto 29, 3, 0), (28, .sipush 0, 1, 0), (29, .iadd, 1, 0), (30, .istore 1, 1, 0), 
  (31, .iinc 2 1, 3, 0), (34, .goto 4, 3, 0), (37, .iload 1, 1, 0), (38, .ireturn, 1, 0)]
noncomputable def am_m7021 : am_M := (7021, ("clashes", "()I"), prog_9_method_21_code, 3, (some .int), [], [], am_t7021_0)
noncomputable def am_t7022_0 : List am_I := [
  (0, .sipush 0, 1, 0), (1, .istore 1, 1, 0), (2, .iload 1, 1, 0), (3, .sipush 24, 2, 0), (5, .if_icmp .ge 25, 3, 0), (8, .aload 0, 1, 0), (9, .getfield 224, 3, 7), (12, .sipush 1591, 3, 0), (15, .iload 1, 1, 0), (16, .iadd, 1, 0), 
  (17, .sipush 0, 1, 0), (18, .iastore, 1, 0), (19, .iinc 1 1, 3, 0), (22, .goto 2, 3, 0), (25, .aload 0, 1, 0), (26, .getfield 224, 3, 7), (29, .sipush 1615, 3, 0), (32, .sipush 0, 1, 0), (33, .iastore, 1, 0), (34, .aload 0, 1, 0), 
  (35, .getfield 224, 3, 7), (38, .sipush 1616, 3, 0), (41, .sipush 0, 1, 0), (42, .iastore, 1, 0), (43, .return_, 1, 0)]
noncomputable def am_m7022 : am_M := (7022, ("closes", "()V"), prog_9_method_22_code, 2, none, [], [], am_t7022_0)
noncomputable def am_t7023_0 : List am_I := [
  (0, .aload 0, 1, 0), (1, .getfield 224, 3, 7), (4, .iload 2, 1, 0), (5, .iload 4, 2, 0), (7, .iadd, 1, 0), (8, .iaload, 1, 0), (9, .aload 0, 1, 0), (10, .getfield 224, 3, 7), (13, .iload 1, 1, 0), (14, .iload 4, 2, 0), 
  (16, .iadd, 1, 0), (17, .iaload, 1, 0), (18, .if_icmp .eq 67, 3, 0), (21, .aload 0, 1, 0), (22, .getfield 224, 3, 7), (25, .iload 2, 1, 0), (26, .iload 4, 2, 0), (28, .iadd, 1, 0), (29, .iaload, 1, 0), (30, .aload 0, 1, 0), 
  (31, .getfield 224, 3, 7), (34, .iload 3, 1, 0), (35, .iload 4, 2, 0), (37, .iadd, 1, 0), (38, .iaload, 1, 0), (39, .if_icmp .eq 67, 3, 0), (42, .aload 0, 1, 0), (43, .getfield 224, 3, 7), (46, .iload 3, 1, 0), (47, .iload 4, 2, 0), 
  (49, .iadd, 1, 0), (50, .iaload, 1, 0), (51, .aload 0, 1, 0), (52, .getfield 224, 3, 7), (55, .iload 1, 1, 0), (56, .iload 4, 2, 0), (58, .iadd, 1, 0), (59, .iaload, 1, 0), (60, .if_icmp .ne 67, 3, 0), (63, .sipush 1, 1, 0), 
  (64, .goto 68, 3, 0), (67, .sipush 0, 1, 0), (68, .freturn, 1, 0)]
noncomputable def am_m7023 : am_M := (7023, ("comes", "(IIII)Z"), prog_9_method_23_code, 5, (some .boolean), [], [], am_t7023_0)
noncomputable def am_t7024_0 : List am_I := [
  (0, .aload 0, 1, 0), (1, .getfield 224, 3, 7), (4, .iload 2, 1, 0), (5, .iload 4, 2, 0), (7, .iadd, 1, 0), (8, .iaload, 1, 0), (9, .aload 0, 1, 0), (10, .getfield 224, 3, 7), (13, .iload 1, 1, 0), (14, .iload 4, 2, 0), 
  (16, .iadd, 1, 0), (17, .iaload, 1, 0), (18, .if_icmp .eq 67, 3, 0), (21, .aload 0, 1, 0), (22, .getfield 224, 3, 7), (25, .iload 2, 1, 0), (26, .iload 4, 2, 0), (28, .iadd, 1, 0), (29, .iaload, 1, 0), (30, .aload 0, 1, 0), 
  (31, .getfield 224, 3, 7), (34, .iload 3, 1, 0), (35, .iload 4, 2, 0), (37, .iadd, 1, 0), (38, .iaload, 1, 0), (39, .if_icmp .eq 67, 3, 0), (42, .aload 0, 1, 0), (43, .getfield 224, 3, 7), (46, .iload 3, 1, 0), (47, .iload 4, 2, 0), 
  (49, .iadd, 1, 0), (50, .iaload, 1, 0), (51, .aload 0, 1, 0), (52, .getfield 224, 3, 7), (55, .iload 1, 1, 0), (56, .iload 4, 2, 0), (58, .iadd, 1, 0), (59, .iaload, 1, 0), (60, .if_icmp .eq 67, 3, 0), (63, .sipush 1, 1, 0), 
  (64, .goto 68, 3, 0), (67, .sipush 0, 1, 0), (68, .freturn, 1, 0)]
noncomputable def am_m7024 : am_M := (7024, ("clash", "(IIII)Z"), prog_9_method_24_code, 5, (some .boolean), [], [], am_t7024_0)
noncomputable def am_t7025_0 : List am_I := [
  (0, .sipush 0, 1, 0), (1, .istore 4, 2, 0), (3, .sipush 0, 1, 0), (4, .istore 5, 2, 0), (6, .iload 5, 2, 0), (8, .sipush 24, 2, 0), (10, .if_icmp .ge 41, 3, 0), (13, .iload 4, 2, 0), (15, .aload 0, 1, 0), (16, .iload 1, 1, 0), 
  (17, .iload 2, 1, 0), (18, .iload 3, 1, 0), (19, .iload 5, 2, 0), (21, .invokeinterface 7023 4, 3, 71), (24, .ifCond .eq 31, 3, 0), (27, .sipush 1, 1, 0), (28, .goto 32, 3, 0), (31, .sipush 0, 1, 0), (32, .iadd, 1, 0), 
  (33, .istore 4, 2, 0), (35, .iinc 5 1, 3, 0), (38, .goto 6, 3, 0), (41, .iload 4, 2, 0), (43, .ireturn, 1, 0)]
noncomputable def am_m7025 : am_M := (7025, ("coming", "(III)I"), prog_9_method_25_code, 6, (some .int), [], [], am_t7025_0)
noncomputable def am_t7026_0 : List am_I := [
  (0, .sipush 0, 1, 0), (1, .istore 4, 2, 0), (3, .sipush 0, 1, 0), (4, .istore 5, 2, 0), (6, .iload 5, 2, 0), (8, .sipush 24, 2, 0), (10, .if_icmp .ge 41, 3, 0), (13, .iload 4, 2, 0), (15, .aload 0, 1, 0), (16, .iload 1, 1, 0), 
  (17, .iload 2, 1, 0), (18, .iload 3, 1, 0), (19, .iload 5, 2, 0), (21, .invokeinterface 7024 4, 3, 75), (24, .ifCond .eq 31, 3, 0), (27, .sipush 1, 1, 0), (28, .goto 32, 3, 0), (31, .sipush 0, 1, 0), (32, .iadd, 1, 0), 
  (33, .istore 4, 2, 0), (35, .iinc 5 1, 3, 0), (38, .goto 6, 3, 0), (41, .iload 4, 2, 0), (43, .ireturn, 1, 0)]
noncomputable def am_m7026 : am_M := (7026, ("clashing", "(III)I"), prog_9_method_26_code, 6, (some .int), [], [], am_t7026_0)
noncomputable def am_t7027_0 : List am_I := [
  (0, .sipush 0, 1, 0), (1, .istore 3, 1, 0), (2, .sipush 0, 1, 0), (3, .istore 4, 2, 0), (5, .iload 4, 2, 0), (7, .sipush 24, 2, 0), (9, .if_icmp .ge 123, 3, 0), (12, .aload 0, 1, 0), (13, .iload 1, 1, 0), (14, .iload 2, 1, 0), 
  (15, .sipush 1567, 3, 0), (18, .iload 4, 2, 0), (20, .invokeinterface 7024 4, 3, 75), (23, .istore 5, 2, 0), (25, .iload 3, 1, 0), (26, .iload 5, 2, 0), (28, .ifCond .eq 35, 3, 0), (31, .sipush 1, 1, 0), (32, .goto 36, 3, 0), 
  (35, .sipush 0, 1, 0), (36, .iadd, 1, 0), (37, .istore 3, 1, 0), (38, .aload 0, 1, 0), (39, .getfield 224, 3, 7), (42, .sipush 1591, 3, 0), (45, .iload 4, 2, 0), (47, .iadd, 1, 0), (48, .iload 5, 2, 0), (50, .ifCond .eq 67, 3, 0), 
  (53, .aload 0, 1, 0), (54, .getfield 224, 3, 7), (57, .iload 2, 1, 0), (58, .iload 4, 2, 0), (60, .iadd, 1, 0), (61, .iaload, 1, 0), (62, .sipush 1, 1, 0), (63, .iadd, 1, 0), (64, .goto 68, 3, 0), (67, .sipush 0, 1, 0), 
  (68, .iastore, 1, 0), (69, .aload 0, 1, 0), (70, .getfield 224, 3, 7), (73, .sipush 1567, 3, 0), (76, .iload 4, 2, 0), (78, .iadd, 1, 0), (79, .aload 0, 1, 0), (80, .iload 1, 1, 0), (81, .iload 2, 1, 0), (82, .sipush 1567, 3, 0), 
  (85, .iload 4, 2, 0), (87, .invokeinterface 7023 4, 3, 71), (90, .ifCond .eq 105, 3, 0), (93, .aload 0, 1, 0), (94, .getfield 224, 3, 7), (97, .iload 2, 1, 0), (98, .iload 4, 2, 0), (100, .iadd, 1, 0), (101, .iaload, 1, 0), 
  (102, .goto 116, 3, 0), (105, .aload 0, 1, 0), (106, .getfield 224, 3, 7), (109, .sipush 1567, 3, 0), (112, .iload 4, 2, 0), (114, .iadd, 1, 0), (115, .iaload, 1, 0), (116, .iastore, 1, 0), (117, .iinc 4 1, 3, 0), (120, .goto 5, 3, 0), 
  (123, .iload 3, 1, 0), (124, .ireturn, 1, 0)]
noncomputable def am_m7027 : am_M := (7027, ("combines", "(II)I"), prog_9_method_27_code, 6, (some .int), [], [], am_t7027_0)
noncomputable def am_t7028_0 : List am_I := [
  (0, .sipush 0, 1, 0), (1, .istore 1, 1, 0), (2, .iload 1, 1, 0), (3, .aload 0, 1, 0), (4, .getfield 224, 3, 7), (7, .sipush 1762, 3, 0), (10, .iaload, 1, 0), (11, .if_icmp .ge 105, 3, 0), (14, .lconst 1, 1, 0), (15, .iload 1, 1, 0), 
  (16, .lshl, 1, 0), (17, .lstore 2, 1, 0), (18, .lload 2, 1, 0), (19, .aload 0, 1, 0), (20, .getfield 224, 3, 7), (23, .sipush 1440, 3, 0), (26, .iload 1, 1, 0), (27, .iadd, 1, 0), (28, .iaload, 1, 0), (29, .ifCond .le 52, 3, 0), 
  (32, .aload 0, 1, 0), (33, .getfield 233, 3, 25), (36, .aload 0, 1, 0), (37, .getfield 224, 3, 7), (40, .sipush 1440, 3, 0), (43, .iload 1, 1, 0), (44, .iadd, 1, 0), (45, .iaload, 1, 0), (46, .sipush 1, 1, 0), (47, .isub, 1, 0), 
  (48, .laload, 1, 0), (49, .goto 53, 3, 0), (52, .lconst 0, 1, 0), (53, .lor, 1, 0), (54, .lstore 2, 1, 0), (55, .lload 2, 1, 0), (56, .aload 0, 1, 0), (57, .getfield 224, 3, 7), (60, .sipush 1500, 3, 0), (63, .iload 1, 1, 0), 
  (64, .iadd, 1, 0), (65, .iaload, 1, 0), (66, .ifCond .le 89, 3, 0), (69, .aload 0, 1, 0), (70, .getfield 233, 3, 25), (73, .aload 0, 1, 0), (74, .getfield 224, 3, 7), (77, .sipush 1500, 3, 0), (80, .iload 1, 1, 0), (81, .iadd, 1, 0), 
  (82, .iaload, 1, 0), (83, .sipush 1, 1, 0), (84, .isub, 1, 0), (85, .laload, 1, 0), (86, .goto 90, 3, 0), (89, .lconst 0, 1, 0), (90, .lor, 1, 0), (91, .lstore 2, 1, 0), (92, .aload 0, 1, 0), (93, .getfield 233, 3, 25), 
  (96, .iload 1, 1, 0), (97, .lload 2, 1, 0), (98, .lastore, 1, 0), (99, .iinc 1 1, 3, 0), (102, .goto 2, 3, 0), (105, .return_, 1, 0)]
noncomputable def am_m7028 : am_M := (7028, ("marks", "()V"), prog_9_method_28_code, 4, none, [], [], am_t7028_0)
noncomputable def am_t7029_0 : List am_I := [
  (0, .lload 0, 1, 0), (1, .iload 2, 1, 0), (2, .lshr, 1, 0), (3, .lconst 1, 1, 0), (4, .land, 1, 0), (5, .lconst 1, 1, 0), (6, .lcmp, 1, 0), (7, .ifCond .ne 14, 3, 0), (10, .sipush 1, 1, 0), (11, .goto 15, 3, 0), (14, .sipush 0, 1, 0), 
  (15, .freturn, 1, 0)]
noncomputable def am_m7029 : am_M := (7029, ("has", "(JI)Z"), prog_9_method_29_code, 3, (some .boolean), [], [], am_t7029_0)
noncomputable def am_t7030_0 : List am_I := [
  (0, .sipush 0, 1, 0), (1, .istore 2, 1, 0), (2, .sipush 0, 1, 0), (3, .istore 3, 1, 0), (4, .iload 3, 1, 0), (5, .sipush 60, 2, 0), (7, .if_icmp .ge 32, 3, 0), (10, .iload 2, 1, 0), (11, .lload 0, 1, 0), (12, .iload 3, 1, 0), 
  (13, .multianewarray 7029 2, 3, 78), (16, .ifCond .eq 23, 3, 0), (19, .sipush 1, 1, 0), (20, .goto 24, 3, 0), (23, .sipush 0, 1, 0), (24, .iadd, 1, 0), (25, .istore 2, 1, 0), (26, .iinc 3 1, 3, 0), (29, .goto 4, 3, 0), 
  (32, .iload 2, 1, 0), (33, .ireturn, 1, 0)]
noncomputable def am_m7030 : am_M := (7030, ("size", "(J)I"), prog_9_method_30_code, 4, (some .int), [], [], am_t7030_0)
noncomputable def am_t7031_0 : List am_I := [
  (0, .sipush (-1), 1, 0), (1, .istore 2, 1, 0), (2, .sipush 0, 1, 0), (3, .istore 3, 1, 0), (4, .iload 3, 1, 0), (5, .sipush 60, 2, 0), (7, .if_icmp .ge 30, 3, 0), (10, .lload 0, 1, 0), (11, .iload 3, 1, 0), (12, .multianewarray 7029 2, 3, 78), 
  (15, .ifCond .eq 22, 3, 0), (18, .iload 3, 1, 0), (19, .goto 23, 3, 0), (22, .iload 2, 1, 0), (23, .istore 2, 1, 0), (24, .iinc 3 1, 3, 0), (27, .goto 4, 3, 0), (30, .iload 2, 1, 0), (31, .ireturn, 1, 0)]
noncomputable def am_m7031 : am_M := (7031, ("highest", "(J)I"), prog_9_method_31_code, 4, (some .int), [], [], am_t7031_0)
noncomputable def am_t7032_0 : List am_I := [
  (0, .aload 0, 1, 0), (1, .invokeinterface 7028 0, 3, 82), (4, .aload 0, 1, 0), (5, .getfield 233, 3, 25), (8, .iload 1, 1, 0), (9, .laload, 1, 0), (10, .iload 2, 1, 0), (11, .multianewarray 7029 2, 3, 78), (14, .freturn, 1, 0)
  ]
noncomputable def am_m7032 : am_M := (7032, ("isReached", "(II)Z"), prog_9_method_32_code, 3, (some .boolean), [], [], am_t7032_0)
noncomputable def am_t7033_0 : List am_I := [
  (0, .aload 0, 1, 0), (1, .invokeinterface 7028 0, 3, 82), (4, .aload 0, 1, 0), (5, .getfield 233, 3, 25), (8, .iload 1, 1, 0), (9, .laload, 1, 0), (10, .aload 0, 1, 0), (11, .getfield 233, 3, 25), (14, .iload 2, 1, 0), 
  (15, .laload, 1, 0), (16, .land, 1, 0), (17, .multianewarray 7031 1, 3, 85), (20, .ireturn, 1, 0)]
noncomputable def am_m7033 : am_M := (7033, ("root", "(II)I"), prog_9_method_33_code, 3, (some .int), [], [], am_t7033_0)
noncomputable def am_t7034_0 : List am_I := [
  (0, .iload 1, 1, 0), (1, .iload 2, 1, 0), (2, .multianewarray 7011 2, 3, 89), (5, .ifCond .eq 18, 3, 0), (8, .iload 3, 1, 0), (9, .sipush 0, 1, 0), (10, .sipush 99, 2, 0), (12, .multianewarray 7005 3, 3, 50), (15, .ifCond .ne 21, 3, 0), 
  (18, .sipush (-11), 2, 0), (20, .ireturn, 1, 0), (21, .sipush 6, 2, 0), (23, .iload 1, 1, 0), (24, .imul, 1, 0), (25, .iload 2, 1, 0), (26, .iadd, 1, 0), (27, .istore 4, 2, 0), (29, .aload 0, 1, 0), (30, .getfield 224, 3, 7), 
  (33, .sipush 1567, 3, 0), (36, .iload 4, 2, 0), (38, .iadd, 1, 0), (39, .iload 3, 1, 0), (40, .iastore, 1, 0), (41, .aload 0, 1, 0), (42, .getfield 224, 3, 7), (45, .sipush 1591, 3, 0), (48, .iload 4, 2, 0), (50, .iadd, 1, 0), 
  (51, .sipush 0, 1, 0), (52, .iastore, 1, 0), (53, .aload 0, 1, 0), (54, .invokeinterface 7019 0, 3, 68), (57, .ireturn, 1, 0)]
noncomputable def am_m7034 : am_M := (7034, ("goEdit", "(III)I"), prog_9_method_34_code, 5, (some .int), [], [], am_t7034_0)
noncomputable def am_t7035_0 : List am_I := [
  (0, .aload 0, 1, 0), (1, .getfield 224, 3, 7), (4, .sipush 1762, 3, 0), (7, .iaload, 1, 0), (8, .istore 2, 1, 0), (9, .aload 0, 1, 0), (10, .getfield 224, 3, 7), (13, .sipush 1440, 3, 0), (16, .iload 2, 1, 0), (17, .iadd, 1, 0), 
  (18, .aload 0, 1, 0), (19, .invokeinterface 7015 0, 3, 57), (22, .sipush 1, 1, 0), (23, .iadd, 1, 0), (24, .iastore, 1, 0), (25, .aload 0, 1, 0), (26, .getfield 224, 3, 7), (29, .sipush 1500, 3, 0), (32, .iload 2, 1, 0), 
  (33, .iadd, 1, 0), (34, .iload 1, 1, 0), (35, .sipush 1, 1, 0), (36, .iadd, 1, 0), (37, .iastore, 1, 0), (38, .aload 0, 1, 0), (39, .sipush 1567, 3, 0), (42, .iload 2, 1, 0), (43, .multianewarray 7016 1, 3, 61), (46, .invokeinterface 7017 2, 3, 93), 
  (49, .aload 0, 1, 0), (50, .getfield 224, 3, 7), (53, .sipush 1560, 3, 0), (56, .aload 0, 1, 0), (57, .getfield 224, 3, 7), (60, .sipush 1566, 3, 0), (63, .iaload, 1, 0), (64, .iadd, 1, 0), (65, .iload 2, 1, 0), (66, .sipush 1, 1, 0), 
  (67, .iadd, 1, 0), (68, .iastore, 1, 0), (69, .aload 0, 1, 0), (70, .getfield 224, 3, 7), (73, .sipush 1762, 3, 0), (76, .dup2, 1, 0), (77, .iaload, 1, 0), (78, .sipush 1, 1, 0), (79, .iadd, 1, 0), (80, .iastore, 1, 0), 
  (81, .aload 0, 1, 0), (82, .invokeinterface 7022 0, 3, 97), (85, .iload 2, 1, 0), (86, .ireturn, 1, 0)]
noncomputable def am_m7035 : am_M := (7035, ("makes", "(I)I"), prog_9_method_35_code, 3, (some .int), [], [], am_t7035_0)
noncomputable def am_t7036_0 : List am_I := [
  (0, .aload 0, 1, 0), (1, .getfield 224, 3, 7), (4, .sipush 1762, 3, 0), (7, .iaload, 1, 0), (8, .sipush 60, 2, 0), (10, .if_icmp .ne 17, 3, 0), (13, .sipush 1, 1, 0), (14, .goto 18, 3, 0), (17, .sipush 0, 1, 0), (18, .freturn, 1, 0)
  ]
noncomputable def am_m7036 : am_M := (7036, ("isFull", "()Z"), prog_9_method_36_code, 1, (some .boolean), [], [], am_t7036_0)
noncomputable def am_t7037_0 : List am_I := [
  (0, .aload 0, 1, 0), (1, .invokeinterface 7019 0, 3, 68), (4, .ifCond .ne 23, 3, 0), (7, .aload 0, 1, 0), (8, .getfield 224, 3, 7), (11, .sipush 1615, 3, 0), (14, .iaload, 1, 0), (15, .sipush 1, 1, 0), (16, .if_icmp .eq 23, 3, 0), 
  (19, .sipush 1, 1, 0), (20, .goto 24, 3, 0), (23, .sipush 0, 1, 0), (24, .istore 1, 1, 0), (25, .aload 0, 1, 0), (26, .invokeinterface 7021 0, 3, 100), (29, .ifCond .gt 43, 3, 0), (32, .iload 1, 1, 0), (33, .ifCond .ne 43, 3, 0), 
  (36, .aload 0, 1, 0), (37, .invokeinterface 7036 0, 3, 103), (40, .ifCond .eq 46, 3, 0), (43, .sipush (-12), 2, 0), (45, .ireturn, 1, 0), (46, .aload 0, 1, 0), (47, .aload 0, 1, 0), (48, .getfield 224, 3, 7), (51, .sipush 1615, 3, 0), 
  (54, .iaload, 1, 0), (55, .sipush 1, 1, 0), (56, .if_icmp .ne 70, 3, 0), (59, .aload 0, 1, 0), (60, .getfield 224, 3, 7), (63, .sipush 1616, 3, 0), (66, .iaload, 1, 0), (67, .goto 71, 3, 0), (70, .sipush (-1), 1, 0), (71, .invokeinterface 7035 1, 3, 107), 
  (74, .ireturn, 1, 0)]
noncomputable def am_m7037 : am_M := (7037, ("goCommit", "()I"), prog_9_method_37_code, 2, (some .int), [], [], am_t7037_0)
noncomputable def am_t7038_0 : List am_I := [
  (0, .aload 0, 1, 0), (1, .getfield 224, 3, 7), (4, .sipush 1560, 3, 0), (7, .aload 0, 1, 0), (8, .getfield 224, 3, 7), (11, .sipush 1566, 3, 0), (14, .iaload, 1, 0), (15, .iadd, 1, 0), (16, .iload 1, 1, 0), (17, .sipush 1, 1, 0), 
  (18, .iadd, 1, 0), (19, .iastore, 1, 0), (20, .aload 0, 1, 0), (21, .iload 1, 1, 0), (22, .multianewarray 7016 1, 3, 61), (25, .sipush 1567, 3, 0), (28, .invokeinterface 7017 2, 3, 93), (31, .aload 0, 1, 0), (32, .invokeinterface 7022 0, 3, 97), 
  (35, .return_, 1, 0)]
noncomputable def am_m7038 : am_M := (7038, ("stands", "(I)V"), prog_9_method_38_code, 2, none, [], [], am_t7038_0)
noncomputable def am_t7039_0 : List am_I := [
  (0, .aload 0, 1, 0), (1, .iload 1, 1, 0), (2, .invokeinterface 7012 1, 3, 110), (5, .ifCond .ne 11, 3, 0), (8, .sipush (-11), 2, 0), (10, .ireturn, 1, 0), (11, .aload 0, 1, 0), (12, .invokeinterface 7015 0, 3, 57), (15, .istore 2, 1, 0), 
  (16, .aload 0, 1, 0), (17, .iload 1, 1, 0), (18, .invokeinterface 7038 1, 3, 114), (21, .iload 2, 1, 0), (22, .ireturn, 1, 0)]
noncomputable def am_m7039 : am_M := (7039, ("goReset", "(I)I"), prog_9_method_39_code, 3, (some .int), [], [], am_t7039_0)
noncomputable def am_t7040_0 : List am_I := [
  (0, .aload 0, 1, 0), (1, .invokeinterface 7019 0, 3, 68), (4, .ifCond .eq 30, 3, 0), (7, .aload 0, 1, 0), (8, .getfield 224, 3, 7), (11, .sipush 1615, 3, 0), (14, .iaload, 1, 0), (15, .ifCond .gt 30, 3, 0), (18, .aload 0, 1, 0), 
  (19, .getfield 224, 3, 7), (22, .sipush 1617, 3, 0), (25, .iaload, 1, 0), (26, .sipush 3, 1, 0), (27, .if_icmp .ne 33, 3, 0), (30, .sipush (-12), 2, 0), (32, .ireturn, 1, 0), (33, .sipush 1618, 3, 0), (36, .sipush 48, 2, 0), 
  (38, .aload 0, 1, 0), (39, .getfield 224, 3, 7), (42, .sipush 1617, 3, 0), (45, .iaload, 1, 0), (46, .imul, 1, 0), (47, .iadd, 1, 0), (48, .istore 1, 1, 0), (49, .aload 0, 1, 0), (50, .aload 0, 1, 0), (51, .invokeinterface 7015 0, 3, 57), 
  (54, .multianewarray 7016 1, 3, 61), (57, .iload 1, 1, 0), (58, .invokeinterface 7017 2, 3, 93), (61, .aload 0, 1, 0), (62, .sipush 1567, 3, 0), (65, .iload 1, 1, 0), (66, .sipush 24, 2, 0), (68, .iadd, 1, 0), (69, .invokeinterface 7017 2, 3, 93), 
  (72, .aload 0, 1, 0), (73, .aload 0, 1, 0), (74, .invokeinterface 7015 0, 3, 57), (77, .multianewarray 7016 1, 3, 61), (80, .sipush 1567, 3, 0), (83, .invokeinterface 7017 2, 3, 93), (86, .aload 0, 1, 0), (87, .getfield 224, 3, 7), 
  (90, .sipush 1617, 3, 0), (93, .dup2, 1, 0), (94, .iaload, 1, 0), (95, .sipush 1, 1, 0), (96, .iadd, 1, 0), (97, .iastore, 1, 0), (98, .aload 0, 1, 0), (99, .getfield 224, 3, 7), (102, .sipush 1617, 3, 0), (105, .iaload, 1, 0), 
  (106, .ireturn, 1, 0)]
noncomputable def am_m7040 : am_M := (7040, ("goAside", "()I"), prog_9_method_40_code, 2, (some .int), [], [], am_t7040_0)
noncomputable def am_t7041_0 : List am_I := [
  (0, .sipush 1618, 3, 0), (3, .sipush 48, 2, 0), (5, .aload 0, 1, 0), (6, .getfield 224, 3, 7), (9, .sipush 1617, 3, 0), (12, .iaload, 1, 0), (13, .sipush 1, 1, 0), (14, .isub, 1, 0), (15, .imul, 1, 0), (16, .iadd, 1, 0), 
  (17, .istore 1, 1, 0), (18, .aload 0, 1, 0), (19, .getfield 224, 3, 7), (22, .sipush 1617, 3, 0), (25, .iaload, 1, 0), (26, .ifCond .eq 55, 3, 0), (29, .aload 0, 1, 0), (30, .getfield 224, 3, 7), (33, .sipush 1615, 3, 0), 
  (36, .iaload, 1, 0), (37, .ifCond .gt 55, 3, 0), (40, .aload 0, 1, 0), (41, .iload 1, 1, 0), (42, .iload 1, 1, 0), (43, .sipush 24, 2, 0), (45, .iadd, 1, 0), (46, .sipush 1567, 3, 0), (49, .invokeinterface 7026 3, 3, 118), 
  (52, .ifCond .le 58, 3, 0), (55, .sipush (-12), 2, 0), (57, .ireturn, 1, 0), (58, .aload 0, 1, 0), (59, .iload 1, 1, 0), (60, .iload 1, 1, 0), (61, .sipush 24, 2, 0), (63, .iadd, 1, 0), (64, .sipush 1567, 3, 0), (67, .invokeinterface 7025 3, 3, 122), 
  (70, .istore 2, 1, 0), (71, .iload 2, 1, 0), (72, .aload 0, 1, 0), (73, .iload 1, 1, 0), (74, .iload 1, 1, 0), (75, .sipush 24, 2, 0), (77, .iadd, 1, 0), (78, .invokeinterface 7027 2, 3, 125), (81, .iadd, 1, 0), (82, .istore 2, 1, 0), 
  (83, .sipush 0, 1, 0), (84, .istore 3, 1, 0), (85, .iload 3, 1, 0), (86, .sipush 48, 2, 0), (88, .if_icmp .ge 106, 3, 0), (91, .aload 0, 1, 0), (92, .getfield 224, 3, 7), (95, .iload 1, 1, 0), (96, .iload 3, 1, 0), (97, .iadd, 1, 0), 
  (98, .sipush 0, 1, 0), (99, .iastore, 1, 0), (100, .iinc 3 1, 3, 0), (103, .goto 85, 3, 0), (106, .aload 0, 1, 0), (107, .getfield 224, 3, 7), (110, .sipush 1617, 3, 0), (113, .dup2, 1, 0), (114, .iaload, 1, 0), (115, .sipush 1, 1, 0), 
  (116, .isub, 1, 0), (117, .iastore, 1, 0), (118, .iload 2, 1, 0), (119, .ireturn, 1, 0)]
noncomputable def am_m7041 : am_M := (7041, ("goBackIn", "()I"), prog_9_method_41_code, 4, (some .int), [], [], am_t7041_0)
noncomputable def am_t7042_0 : List am_I := [
  (0, .sipush 0, 1, 0), (1, .istore 1, 1, 0), (2, .sipush 0, 1, 0), (3, .istore 2, 1, 0), (4, .iload 2, 1, 0), (5, .sipush 6, 2, 0), (7, .if_icmp .ge 37, 3, 0), (10, .iload 1, 1, 0), (11, .aload 0, 1, 0), (12, .getfield 224, 3, 7), 
  (15, .sipush 1560, 3, 0), (18, .iload 2, 1, 0), (19, .iadd, 1, 0), (20, .iaload, 1, 0), (21, .ifCond .le 28, 3, 0), (24, .sipush 1, 1, 0), (25, .goto 29, 3, 0), (28, .sipush 0, 1, 0), (29, .iadd, 1, 0), (30, .istore 1, 1, 0), 
  (31, .iinc 2 1, 3, 0), (34, .goto 4, 3, 0), (37, .iload 1, 1, 0), (38, .ireturn, 1, 0)]
noncomputable def am_m7042 : am_M := (7042, ("all", "()I"), prog_9_method_42_code, 3, (some .int), [], [], am_t7042_0)
noncomputable def am_t7043_0 : List am_I := [
  (0, .aload 0, 1, 0), (1, .invokeinterface 7042 0, 3, 128), (4, .sipush 6, 2, 0), (6, .if_icmp .ne 12, 3, 0), (9, .sipush (-12), 2, 0), (11, .ireturn, 1, 0), (12, .sipush 0, 1, 0), (13, .istore 1, 1, 0), (14, .aload 0, 1, 0), 
  (15, .getfield 224, 3, 7), (18, .sipush 1560, 3, 0), (21, .iload 1, 1, 0), (22, .iadd, 1, 0), (23, .iaload, 1, 0), (24, .ifCond .le 33, 3, 0), (27, .iinc 1 1, 3, 0), (30, .goto 14, 3, 0), (33, .aload 0, 1, 0), (34, .getfield 224, 3, 7), 
  (37, .sipush 1560, 3, 0), (40, .iload 1, 1, 0), (41, .iadd, 1, 0), (42, .aload 0, 1, 0), (43, .invokeinterface 7015 0, 3, 57), (46, .sipush 1, 1, 0), (47, .iadd, 1, 0), (48, .iastore, 1, 0), (49, .iload 1, 1, 0), (50, .ireturn, 1, 0)
  ]
noncomputable def am_m7043 : am_M := (7043, ("goBranch", "()I"), prog_9_method_43_code, 2, (some .int), [], [], am_t7043_0)
noncomputable def am_t7044_0 : List am_I := [
  (0, .iload 1, 1, 0), (1, .multianewarray 7013 1, 3, 131), (4, .ifCond .ne 10, 3, 0), (7, .sipush (-11), 2, 0), (9, .ireturn, 1, 0), (10, .aload 0, 1, 0), (11, .getfield 224, 3, 7), (14, .sipush 1560, 3, 0), (17, .iload 1, 1, 0), 
  (18, .iadd, 1, 0), (19, .iaload, 1, 0), (20, .ifCond .eq 35, 3, 0), (23, .iload 1, 1, 0), (24, .aload 0, 1, 0), (25, .getfield 224, 3, 7), (28, .sipush 1566, 3, 0), (31, .iaload, 1, 0), (32, .if_icmp .ne 38, 3, 0), (35, .sipush (-12), 2, 0), 
  (37, .ireturn, 1, 0), (38, .aload 0, 1, 0), (39, .iload 1, 1, 0), (40, .invokeinterface 7014 1, 3, 54), (43, .istore 2, 1, 0), (44, .aload 0, 1, 0), (45, .getfield 224, 3, 7), (48, .sipush 1560, 3, 0), (51, .iload 1, 1, 0), 
  (52, .iadd, 1, 0), (53, .sipush 0, 1, 0), (54, .iastore, 1, 0), (55, .iload 2, 1, 0), (56, .ireturn, 1, 0)]
noncomputable def am_m7044 : am_M := (7044, ("goDrop", "(I)I"), prog_9_method_44_code, 3, (some .int), [], [], am_t7044_0)
noncomputable def am_t7045_0 : List am_I := [
  (0, .iload 1, 1, 0), (1, .multianewarray 7013 1, 3, 131), (4, .ifCond .ne 10, 3, 0), (7, .sipush (-11), 2, 0), (9, .ireturn, 1, 0), (10, .aload 0, 1, 0), (11, .getfield 224, 3, 7), (14, .sipush 1560, 3, 0), (17, .iload 1, 1, 0), 
  (18, .iadd, 1, 0), (19, .iaload, 1, 0), (20, .ifCond .eq 42, 3, 0), (23, .iload 1, 1, 0), (24, .aload 0, 1, 0), (25, .getfield 224, 3, 7), (28, .sipush 1566, 3, 0), (31, .iaload, 1, 0), (32, .if_icmp .eq 42, 3, 0), (35, .aload 0, 1, 0), 
  (36, .invokeinterface 7020 0, 3, 134), (39, .ifCond .ne 45, 3, 0), (42, .sipush (-12), 2, 0), (44, .ireturn, 1, 0), (45, .aload 0, 1, 0), (46, .getfield 224, 3, 7), (49, .sipush 1566, 3, 0), (52, .iload 1, 1, 0), (53, .iastore, 1, 0), 
  (54, .aload 0, 1, 0), (55, .aload 0, 1, 0), (56, .invokeinterface 7015 0, 3, 57), (59, .multianewarray 7016 1, 3, 61), (62, .sipush 1567, 3, 0), (65, .invokeinterface 7017 2, 3, 93), (68, .aload 0, 1, 0), (69, .invokeinterface 7015 0, 3, 57), 
  (72, .ireturn, 1, 0)]
noncomputable def am_m7045 : am_M := (7045, ("goSwitch", "(I)I"), prog_9_method_45_code, 2, (some .int), [], [], am_t7045_0)
noncomputable def am_t7046_0 : List am_I := [
  (0, .aload 0, 1, 0), (1, .iload 1, 1, 0), (2, .iload 2, 1, 0), (3, .invokeinterface 7027 2, 3, 125), (6, .istore 5, 2, 0), (8, .aload 0, 1, 0), (9, .getfield 224, 3, 7), (12, .sipush 1763, 3, 0), (15, .dup2, 1, 0), (16, .iaload, 1, 0), 
  (17, .iload 5, 2, 0), (19, .iadd, 1, 0), (20, .iastore, 1, 0), (21, .iload 5, 2, 0), (23, .ifCond .le 57, 3, 0), (26, .aload 0, 1, 0), (27, .getfield 224, 3, 7), (30, .sipush 1615, 3, 0), (33, .iload 3, 1, 0), (34, .iastore, 1, 0), 
  (35, .aload 0, 1, 0), (36, .getfield 224, 3, 7), (39, .sipush 1616, 3, 0), (42, .iload 3, 1, 0), (43, .sipush 1, 1, 0), (44, .if_icmp .ne 52, 3, 0), (47, .iload 4, 2, 0), (49, .goto 53, 3, 0), (52, .sipush 0, 1, 0), (53, .iastore, 1, 0), 
  (54, .goto 64, 3, 0), (57, .aload 0, 1, 0), (58, .iload 4, 2, 0), (60, .invokeinterface 7035 1, 3, 107), (63, .pop, 1, 0), (64, .iload 5, 2, 0), (66, .ireturn, 1, 0)]
noncomputable def am_m7046 : am_M := (7046, ("brings", "(IIII)I"), prog_9_method_46_code, 6, (some .int), [], [], am_t7046_0)
noncomputable def am_t7047_0 : List am_I := [
  (0, .iload 1, 1, 0), (1, .multianewarray 7013 1, 3, 131), (4, .ifCond .ne 10, 3, 0), (7, .sipush (-11), 2, 0), (9, .ireturn, 1, 0), (10, .aload 0, 1, 0), (11, .iload 1, 1, 0), (12, .invokeinterface 7014 1, 3, 54), (15, .istore 2, 1, 0), 
  (16, .iload 2, 1, 0), (17, .ifCond .lt 39, 3, 0), (20, .aload 0, 1, 0), (21, .invokeinterface 7020 0, 3, 134), (24, .ifCond .eq 39, 3, 0), (27, .aload 0, 1, 0), (28, .aload 0, 1, 0), (29, .invokeinterface 7015 0, 3, 57), 
  (32, .iload 2, 1, 0), (33, .invokeinterface 7032 2, 3, 137), (36, .ifCond .eq 42, 3, 0), (39, .sipush (-12), 2, 0), (41, .ireturn, 1, 0), (42, .aload 0, 1, 0), (43, .iload 2, 1, 0), (44, .aload 0, 1, 0), (45, .invokeinterface 7015 0, 3, 57), 
  (48, .invokeinterface 7032 2, 3, 137), (51, .ifCond .eq 61, 3, 0), (54, .aload 0, 1, 0), (55, .iload 2, 1, 0), (56, .invokeinterface 7038 1, 3, 114), (59, .sipush 0, 1, 0), (60, .ireturn, 1, 0), (61, .aload 0, 1, 0), (62, .invokeinterface 7036 0, 3, 103), 
  (65, .ifCond .eq 73, 3, 0), (68, .sipush (-12), 2, 0), (70, .goto 95, 3, 0), (73, .aload 0, 1, 0), (74, .aload 0, 1, 0), (75, .aload 0, 1, 0), (76, .invokeinterface 7015 0, 3, 57), (79, .iload 2, 1, 0), (80, .invokeinterface 7033 2, 3, 140), 
  (83, .multianewarray 7016 1, 3, 61), (86, .iload 2, 1, 0), (87, .multianewarray 7016 1, 3, 61), (90, .sipush 1, 1, 0), (91, .iload 2, 1, 0), (92, .invokeinterface 7046 4, 3, 143), (95, .ireturn, 1, 0)]
noncomputable def am_m7047 : am_M := (7047, ("goMerge", "(I)I"), prog_9_method_47_code, 3, (some .int), [], [], am_t7047_0)
noncomputable def am_t7048_0 : List am_I := [
  (0, .aload 0, 1, 0), (1, .iload 1, 1, 0), (2, .invokeinterface 7012 1, 3, 110), (5, .ifCond .ne 11, 3, 0), (8, .sipush (-11), 2, 0), (10, .ireturn, 1, 0), (11, .iload 1, 1, 0), (12, .ifCond .eq 29, 3, 0), (15, .aload 0, 1, 0), 
  (16, .invokeinterface 7020 0, 3, 134), (19, .ifCond .eq 29, 3, 0), (22, .aload 0, 1, 0), (23, .invokeinterface 7036 0, 3, 103), (26, .ifCond .eq 32, 3, 0), (29, .sipush (-12), 2, 0), (31, .ireturn, 1, 0), (32, .aload 0, 1, 0), 
  (33, .getfield 224, 3, 7), (36, .sipush 1440, 3, 0), (39, .iload 1, 1, 0), (40, .iadd, 1, 0), (41, .iaload, 1, 0), (42, .sipush 1, 1, 0), (43, .isub, 1, 0), (44, .multianewarray 7016 1, 3, 61), (47, .istore 3, 1, 0), (48, .iload 2, 1, 0), 
  (49, .ifCond .eq 59, 3, 0), (52, .iload 1, 1, 0), (53, .multianewarray 7016 1, 3, 61), (56, .goto 60, 3, 0), (59, .iload 3, 1, 0), (60, .istore 4, 2, 0), (62, .iload 2, 1, 0), (63, .ifCond .eq 70, 3, 0), (66, .iload 3, 1, 0), 
  (67, .goto 74, 3, 0), (70, .iload 1, 1, 0), (71, .multianewarray 7016 1, 3, 61), (74, .istore 5, 2, 0), (76, .aload 0, 1, 0), (77, .iload 4, 2, 0), (79, .iload 5, 2, 0), (81, .sipush 1567, 3, 0), (84, .invokeinterface 7025 3, 3, 122), 
  (87, .aload 0, 1, 0), (88, .iload 4, 2, 0), (90, .iload 5, 2, 0), (92, .sipush 1567, 3, 0), (95, .invokeinterface 7026 3, 3, 118), (98, .iadd, 1, 0), (99, .ifCond .ne 106, 3, 0), (102, .sipush 1, 1, 0), (103, .goto 107, 3, 0), 
  (106, .sipush 0, 1, 0), (107, .istore 6, 2, 0), (109, .iload 6, 2, 0), (111, .ifCond .eq 119, 3, 0), (114, .sipush (-12), 2, 0), (116, .goto 129, 3, 0), (119, .aload 0, 1, 0), (120, .iload 4, 2, 0), (122, .iload 5, 2, 0), 
  (124, .sipush 2, 1, 0), (125, .sipush (-1), 1, 0), (126, .invokeinterface 7046 4, 3, 143), (129, .ireturn, 1, 0)]
noncomputable def am_m7048 : am_M := (7048, ("goPick", "(IZ)I"), prog_9_method_48_code, 7, (some .int), [], [], am_t7048_0)
noncomputable def am_t7049_0 : List am_I := [
  (0, .aload 0, 1, 0), (1, .invokeinterface 7028 0, 3, 82), (4, .lconst 0, 1, 0), (5, .lstore 2, 1, 0), (6, .aload 0, 1, 0), (7, .invokeinterface 7015 0, 3, 57), (10, .istore 4, 2, 0), (12, .iload 4, 2, 0), (14, .ifCond .lt 56, 3, 0), 
  (17, .aload 0, 1, 0), (18, .getfield 233, 3, 25), (21, .iload 1, 1, 0), (22, .laload, 1, 0), (23, .iload 4, 2, 0), (25, .multianewarray 7029 2, 3, 78), (28, .ifCond .ne 56, 3, 0), (31, .lload 2, 1, 0), (32, .lconst 1, 1, 0), 
  (33, .iload 4, 2, 0), (35, .lshl, 1, 0), (36, .lor, 1, 0), (37, .lstore 2, 1, 0), (38, .aload 0, 1, 0), (39, .getfield 224, 3, 7), (42, .sipush 1440, 3, 0), (45, .iload 4, 2, 0), (47, .iadd, 1, 0), (48, .iaload, 1, 0), 
  (49, .sipush 1, 1, 0), (50, .isub, 1, 0), (51, .istore 4, 2, 0), (53, .goto 12, 3, 0), (56, .lload 2, 1, 0), (57, .lreturn, 1, 0)]
noncomputable def am_m7049 : am_M := (7049, ("ownOnes", "(I)J"), prog_9_method_49_code, 5, (some .long), [], [], am_t7049_0)
noncomputable def am_t7050_0 : List am_I := [
  (0, .iload 1, 1, 0), (1, .multianewarray 7013 1, 3, 131), (4, .ifCond .ne 10, 3, 0), (7, .sipush (-11), 2, 0), (9, .ireturn, 1, 0), (10, .aload 0, 1, 0), (11, .iload 1, 1, 0), (12, .invokeinterface 7014 1, 3, 54), (15, .istore 2, 1, 0), 
  (16, .iload 2, 1, 0), (17, .ifCond .lt 39, 3, 0), (20, .aload 0, 1, 0), (21, .invokeinterface 7020 0, 3, 134), (24, .ifCond .eq 39, 3, 0), (27, .aload 0, 1, 0), (28, .aload 0, 1, 0), (29, .invokeinterface 7015 0, 3, 57), 
  (32, .iload 2, 1, 0), (33, .invokeinterface 7032 2, 3, 137), (36, .ifCond .eq 42, 3, 0), (39, .sipush (-12), 2, 0), (41, .ireturn, 1, 0), (42, .aload 0, 1, 0), (43, .iload 2, 1, 0), (44, .invokeinterface 7049 1, 3, 147), 
  (47, .lstore 3, 1, 0), (48, .sipush 0, 1, 0), (49, .istore 5, 2, 0), (51, .sipush 0, 1, 0), (52, .istore 6, 2, 0), (54, .aload 0, 1, 0), (55, .iload 2, 1, 0), (56, .invokeinterface 7038 1, 3, 114), (59, .sipush 0, 1, 0), 
  (60, .istore 7, 2, 0), (62, .iload 7, 2, 0), (64, .sipush 60, 2, 0), (66, .if_icmp .ge 220, 3, 0), (69, .iload 6, 2, 0), (71, .ifCond .ne 220, 3, 0), (74, .lload 3, 1, 0), (75, .iload 7, 2, 0), (77, .multianewarray 7029 2, 3, 78), 
  (80, .ifCond .eq 102, 3, 0), (83, .aload 0, 1, 0), (84, .getfield 224, 3, 7), (87, .sipush 1440, 3, 0), (90, .iload 7, 2, 0), (92, .iadd, 1, 0), (93, .iaload, 1, 0), (94, .sipush 1, 1, 0), (95, .isub, 1, 0), (96, .multianewarray 7016 1, 3, 61), 
  (99, .goto 105, 3, 0), (102, .sipush 1567, 3, 0), (105, .istore 8, 2, 0), (107, .lload 3, 1, 0), (108, .iload 7, 2, 0), (110, .multianewarray 7029 2, 3, 78), (113, .ifCond .eq 124, 3, 0), (116, .iload 7, 2, 0), (118, .multianewarray 7016 1, 3, 61), 
  (121, .goto 127, 3, 0), (124, .sipush 1567, 3, 0), (127, .istore 9, 2, 0), (129, .aload 0, 1, 0), (130, .iload 8, 2, 0), (132, .iload 9, 2, 0), (134, .sipush 1567, 3, 0), (137, .invokeinterface 7025 3, 3, 122), (140, .ifCond .le 147, 3, 0), 
  (143, .sipush 1, 1, 0), (144, .goto 148, 3, 0), (147, .sipush 0, 1, 0), (148, .istore 10, 2, 0), (150, .aload 0, 1, 0), (151, .iload 8, 2, 0), (153, .iload 9, 2, 0), (155, .sipush 1567, 3, 0), (158, .invokeinterface 7026 3, 3, 118), 
  (161, .ifCond .gt 176, 3, 0), (164, .iload 10, 2, 0), (166, .ifCond .eq 180, 3, 0), (169, .aload 0, 1, 0), (170, .invokeinterface 7036 0, 3, 103), (173, .ifCond .eq 180, 3, 0), (176, .sipush 1, 1, 0), (177, .goto 181, 3, 0), 
  (180, .sipush 0, 1, 0), (181, .istore 6, 2, 0), (183, .iload 10, 2, 0), (185, .ifCond .eq 214, 3, 0), (188, .iload 6, 2, 0), (190, .ifCond .ne 214, 3, 0), (193, .iload 5, 2, 0), (195, .sipush 1, 1, 0), (196, .aload 0, 1, 0), 
  (197, .iload 8, 2, 0), (199, .iload 9, 2, 0), (201, .invokeinterface 7027 2, 3, 125)]
noncomputable def am_t7050_1 : List am_I := [
  (204, .iadd, 1, 0), (205, .iadd, 1, 0), (206, .istore 5, 2, 0), (208, .aload 0, 1, 0), (209, .sipush (-1), 1, 0), (210, .invokeinterface 7035 1, 3, 107), (213, .pop, 1, 0), (214, .iinc 7 1, 3, 0), (217, .goto 62, 3, 0), 
  (220, .iload 6, 2, 0), (222, .ifCond .eq 238, 3, 0), (225, .aload 0, 1, 0), (226, .getfield 225, 3, 13), (229, .sipush 0, 1, 0), (230, .aload 0, 1, 0), (231, .getfield 224, 3, 7), (234, .sipush 0, 1, 0), (235, .multianewarray 7007 4, 3, 36), 
  (238, .iload 6, 2, 0), (240, .ifCond .eq 248, 3, 0), (243, .sipush (-12), 2, 0), (245, .goto 250, 3, 0), (248, .iload 5, 2, 0), (250, .ireturn, 1, 0)]
noncomputable def am_m7050 : am_M := (7050, ("goReplay", "(I)I"), prog_9_method_50_code, 11, (some .int), [], [], am_t7050_0 ++ (am_t7050_1))
noncomputable def am_t7051_0 : List am_I := [
  (0, .iload 1, 1, 0), (1, .iload 2, 1, 0), (2, .multianewarray 7011 2, 3, 89), (5, .ifCond .ne 11, 3, 0), (8, .sipush (-11), 2, 0), (10, .ireturn, 1, 0), (11, .sipush 6, 2, 0), (13, .iload 1, 1, 0), (14, .imul, 1, 0), (15, .iload 2, 1, 0), 
  (16, .iadd, 1, 0), (17, .istore 4, 2, 0), (19, .aload 0, 1, 0), (20, .getfield 224, 3, 7), (23, .sipush 1591, 3, 0), (26, .iload 4, 2, 0), (28, .iadd, 1, 0), (29, .iaload, 1, 0), (30, .ifCond .ne 36, 3, 0), (33, .sipush (-12), 2, 0), 
  (35, .ireturn, 1, 0), (36, .aload 0, 1, 0), (37, .getfield 224, 3, 7), (40, .sipush 1567, 3, 0), (43, .iload 4, 2, 0), (45, .iadd, 1, 0), (46, .iload 3, 1, 0), (47, .ifCond .eq 66, 3, 0), (50, .aload 0, 1, 0), (51, .getfield 224, 3, 7), 
  (54, .sipush 1591, 3, 0), (57, .iload 4, 2, 0), (59, .iadd, 1, 0), (60, .iaload, 1, 0), (61, .sipush 1, 1, 0), (62, .isub, 1, 0), (63, .goto 77, 3, 0), (66, .aload 0, 1, 0), (67, .getfield 224, 3, 7), (70, .sipush 1567, 3, 0), 
  (73, .iload 4, 2, 0), (75, .iadd, 1, 0), (76, .iaload, 1, 0), (77, .iastore, 1, 0), (78, .aload 0, 1, 0), (79, .getfield 224, 3, 7), (82, .sipush 1591, 3, 0), (85, .iload 4, 2, 0), (87, .iadd, 1, 0), (88, .sipush 0, 1, 0), 
  (89, .iastore, 1, 0), (90, .aload 0, 1, 0), (91, .invokeinterface 7021 0, 3, 100), (94, .ireturn, 1, 0)]
noncomputable def am_m7051 : am_M := (7051, ("goResolve", "(IIZ)I"), prog_9_method_51_code, 5, (some .int), [], [], am_t7051_0)
noncomputable def am_t7052_0 : List am_I := [
  (0, .aload 0, 1, 0), (1, .getfield 224, 3, 7), (4, .sipush 1615, 3, 0), (7, .iaload, 1, 0), (8, .ifCond .ne 14, 3, 0), (11, .sipush (-12), 2, 0), (13, .ireturn, 1, 0), (14, .aload 0, 1, 0), (15, .invokeinterface 7021 0, 3, 100), 
  (18, .istore 1, 1, 0), (19, .aload 0, 1, 0), (20, .aload 0, 1, 0), (21, .invokeinterface 7015 0, 3, 57), (24, .invokeinterface 7038 1, 3, 114), (27, .iload 1, 1, 0), (28, .ireturn, 1, 0)]
noncomputable def am_m7052 : am_M := (7052, ("goAbort", "()I"), prog_9_method_52_code, 2, (some .int), [], [], am_t7052_0)
noncomputable def am_t7053_0 : List am_I := [
  (0, .aload 0, 1, 0), (1, .invokeinterface 7008 0, 3, 151), (4, .aload 0, 1, 0), (5, .aload 0, 1, 0), (6, .iload 1, 1, 0), (7, .iload 2, 1, 0), (8, .iload 3, 1, 0), (9, .invokeinterface 7034 3, 3, 154), (12, .sipush 2, 1, 0), 
  (13, .invokeinterface 7010 2, 3, 157), (16, .ireturn, 1, 0)]
noncomputable def am_m7053 : am_M := (7053, ("edit", "(III)I"), prog_9_method_53_code, 4, (some .int), [], [], am_t7053_0)
noncomputable def am_t7054_0 : List am_I := [
  (0, .aload 0, 1, 0), (1, .invokeinterface 7008 0, 3, 151), (4, .aload 0, 1, 0), (5, .aload 0, 1, 0), (6, .invokeinterface 7037 0, 3, 160), (9, .sipush 1, 1, 0), (10, .invokeinterface 7010 2, 3, 157), (13, .ireturn, 1, 0)
  ]
noncomputable def am_m7054 : am_M := (7054, ("commit", "()I"), prog_9_method_54_code, 1, (some .int), [], [], am_t7054_0)
noncomputable def am_t7055_0 : List am_I := [
  (0, .aload 0, 1, 0), (1, .invokeinterface 7008 0, 3, 151), (4, .aload 0, 1, 0), (5, .aload 0, 1, 0), (6, .iload 1, 1, 0), (7, .invokeinterface 7039 1, 3, 163), (10, .sipush 2, 1, 0), (11, .invokeinterface 7010 2, 3, 157), 
  (14, .ireturn, 1, 0)]
noncomputable def am_m7055 : am_M := (7055, ("reset", "(I)I"), prog_9_method_55_code, 2, (some .int), [], [], am_t7055_0)
noncomputable def am_t7056_0 : List am_I := [
  (0, .aload 0, 1, 0), (1, .invokeinterface 7008 0, 3, 151), (4, .aload 0, 1, 0), (5, .aload 0, 1, 0), (6, .invokeinterface 7040 0, 3, 166), (9, .sipush 1, 1, 0), (10, .invokeinterface 7010 2, 3, 157), (13, .ireturn, 1, 0)
  ]
noncomputable def am_m7056 : am_M := (7056, ("putAside", "()I"), prog_9_method_56_code, 1, (some .int), [], [], am_t7056_0)
noncomputable def am_t7057_0 : List am_I := [
  (0, .aload 0, 1, 0), (1, .invokeinterface 7008 0, 3, 151), (4, .aload 0, 1, 0), (5, .aload 0, 1, 0), (6, .invokeinterface 7041 0, 3, 169), (9, .sipush 1, 1, 0), (10, .invokeinterface 7010 2, 3, 157), (13, .ireturn, 1, 0)
  ]
noncomputable def am_m7057 : am_M := (7057, ("takeBack", "()I"), prog_9_method_57_code, 1, (some .int), [], [], am_t7057_0)
noncomputable def am_t7058_0 : List am_I := [
  (0, .aload 0, 1, 0), (1, .invokeinterface 7008 0, 3, 151), (4, .aload 0, 1, 0), (5, .aload 0, 1, 0), (6, .invokeinterface 7043 0, 3, 172), (9, .sipush 1, 1, 0), (10, .invokeinterface 7010 2, 3, 157), (13, .ireturn, 1, 0)
  ]
noncomputable def am_m7058 : am_M := (7058, ("newBranch", "()I"), prog_9_method_58_code, 1, (some .int), [], [], am_t7058_0)
noncomputable def am_t7059_0 : List am_I := [
  (0, .aload 0, 1, 0), (1, .invokeinterface 7008 0, 3, 151), (4, .aload 0, 1, 0), (5, .aload 0, 1, 0), (6, .iload 1, 1, 0), (7, .invokeinterface 7044 1, 3, 175), (10, .sipush 2, 1, 0), (11, .invokeinterface 7010 2, 3, 157), 
  (14, .ireturn, 1, 0)]
noncomputable def am_m7059 : am_M := (7059, ("dropBranch", "(I)I"), prog_9_method_59_code, 2, (some .int), [], [], am_t7059_0)
noncomputable def am_t7060_0 : List am_I := [
  (0, .aload 0, 1, 0), (1, .invokeinterface 7008 0, 3, 151), (4, .aload 0, 1, 0), (5, .aload 0, 1, 0), (6, .iload 1, 1, 0), (7, .invokeinterface 7045 1, 3, 178), (10, .sipush 2, 1, 0), (11, .invokeinterface 7010 2, 3, 157), 
  (14, .ireturn, 1, 0)]
noncomputable def am_m7060 : am_M := (7060, ("switchTo", "(I)I"), prog_9_method_60_code, 2, (some .int), [], [], am_t7060_0)
noncomputable def am_t7061_0 : List am_I := [
  (0, .aload 0, 1, 0), (1, .invokeinterface 7008 0, 3, 151), (4, .aload 0, 1, 0), (5, .aload 0, 1, 0), (6, .iload 1, 1, 0), (7, .invokeinterface 7047 1, 3, 181), (10, .sipush 2, 1, 0), (11, .invokeinterface 7010 2, 3, 157), 
  (14, .ireturn, 1, 0)]
noncomputable def am_m7061 : am_M := (7061, ("merge", "(I)I"), prog_9_method_61_code, 2, (some .int), [], [], am_t7061_0)
noncomputable def am_t7062_0 : List am_I := [
  (0, .aload 0, 1, 0), (1, .invokeinterface 7008 0, 3, 151), (4, .aload 0, 1, 0), (5, .aload 0, 1, 0), (6, .iload 1, 1, 0), (7, .sipush 0, 1, 0), (8, .invokeinterface 7048 2, 3, 184), (11, .sipush 2, 1, 0), (12, .invokeinterface 7010 2, 3, 157), 
  (15, .ireturn, 1, 0)]
noncomputable def am_m7062 : am_M := (7062, ("pick", "(I)I"), prog_9_method_62_code, 2, (some .int), [], [], am_t7062_0)
noncomputable def am_t7063_0 : List am_I := [
  (0, .aload 0, 1, 0), (1, .invokeinterface 7008 0, 3, 151), (4, .aload 0, 1, 0), (5, .aload 0, 1, 0), (6, .iload 1, 1, 0), (7, .sipush 1, 1, 0), (8, .invokeinterface 7048 2, 3, 184), (11, .sipush 2, 1, 0), (12, .invokeinterface 7010 2, 3, 157), 
  (15, .ireturn, 1, 0)]
noncomputable def am_m7063 : am_M := (7063, ("revert", "(I)I"), prog_9_method_63_code, 2, (some .int), [], [], am_t7063_0)
noncomputable def am_t7064_0 : List am_I := [
  (0, .aload 0, 1, 0), (1, .invokeinterface 7008 0, 3, 151), (4, .aload 0, 1, 0), (5, .aload 0, 1, 0), (6, .iload 1, 1, 0), (7, .invokeinterface 7050 1, 3, 188), (10, .sipush 2, 1, 0), (11, .invokeinterface 7010 2, 3, 157), 
  (14, .ireturn, 1, 0)]
noncomputable def am_m7064 : am_M := (7064, ("replay", "(I)I"), prog_9_method_64_code, 2, (some .int), [], [], am_t7064_0)
noncomputable def am_t7065_0 : List am_I := [
  (0, .aload 0, 1, 0), (1, .invokeinterface 7008 0, 3, 151), (4, .aload 0, 1, 0), (5, .aload 0, 1, 0), (6, .iload 1, 1, 0), (7, .iload 2, 1, 0), (8, .iload 3, 1, 0), (9, .invokeinterface 7051 3, 3, 191), (12, .sipush 2, 1, 0), 
  (13, .invokeinterface 7010 2, 3, 157), (16, .ireturn, 1, 0)]
noncomputable def am_m7065 : am_M := (7065, ("resolve", "(IIZ)I"), prog_9_method_65_code, 4, (some .int), [], [], am_t7065_0)
noncomputable def am_t7066_0 : List am_I := [
  (0, .aload 0, 1, 0), (1, .invokeinterface 7008 0, 3, 151), (4, .aload 0, 1, 0), (5, .aload 0, 1, 0), (6, .invokeinterface 7052 0, 3, 195), (9, .sipush 1, 1, 0), (10, .invokeinterface 7010 2, 3, 157), (13, .ireturn, 1, 0)
  ]
noncomputable def am_m7066 : am_M := (7066, ("abort", "()I"), prog_9_method_66_code, 1, (some .int), [], [], am_t7066_0)
noncomputable def am_t7067_0 : List am_I := [
  (0, .aload 0, 1, 0), (1, .sipush 0, 1, 0), (2, .putfield 232, 3, 32), (5, .aload 0, 1, 0), (6, .sipush 1, 1, 0), (7, .putfield 227, 3, 198), (10, .aload 0, 1, 0), (11, .getfield 224, 3, 7), (14, .sipush 0, 1, 0), (15, .aload 0, 1, 0), 
  (16, .getfield 226, 3, 16), (19, .sipush 0, 1, 0), (20, .multianewarray 7007 4, 3, 36), (23, .aload 0, 1, 0), (24, .getfield 224, 3, 7), (27, .sipush 1762, 3, 0), (30, .iaload, 1, 0), (31, .ireturn, 1, 0)]
noncomputable def am_m7067 : am_M := (7067, ("keep", "()I"), prog_9_method_67_code, 1, (some .int), [], [], am_t7067_0)
noncomputable def am_t7068_0 : List am_I := [
  (0, .aload 0, 1, 0), (1, .invokeinterface 7008 0, 3, 151), (4, .aload 0, 1, 0), (5, .getfield 227, 3, 198), (8, .ifCond .ne 17, 3, 0), (11, .aload 0, 1, 0), (12, .sipush 1, 1, 0), (13, .invokeinterface 7003 1, 3, 43), (16, .ireturn, 1, 0), 
  (17, .aload 0, 1, 0), (18, .getfield 226, 3, 16), (21, .sipush 0, 1, 0), (22, .aload 0, 1, 0), (23, .getfield 224, 3, 7), (26, .sipush 0, 1, 0), (27, .multianewarray 7007 4, 3, 36), (30, .aload 0, 1, 0), (31, .invokeinterface 7009 0, 3, 47), 
  (34, .aload 0, 1, 0), (35, .getfield 224, 3, 7), (38, .sipush 1762, 3, 0), (41, .iaload, 1, 0), (42, .ireturn, 1, 0)]
noncomputable def am_m7068 : am_M := (7068, ("goBack", "()I"), prog_9_method_68_code, 1, (some .int), [], [], am_t7068_0)
noncomputable def am_t7069_0 : List am_I := [
  (0, .aload 0, 1, 0), (1, .aload 0, 1, 0), (2, .getfield 229, 3, 40), (5, .ifCond .le 12, 3, 0), (8, .sipush 1, 1, 0), (9, .goto 13, 3, 0), (12, .sipush 0, 1, 0), (13, .invokeinterface 7004 1, 3, 202), (16, .ifCond .ne 21, 3, 0), 
  (19, .sipush 0, 1, 0), (20, .ireturn, 1, 0), (21, .aload 0, 1, 0), (22, .dup, 1, 0), (23, .getfield 229, 3, 40), (26, .sipush 1, 1, 0), (27, .isub, 1, 0), (28, .putfield 229, 3, 40), (31, .aload 0, 1, 0), (32, .getfield 228, 3, 19), 
  (35, .sipush 1764, 3, 0), (38, .aload 0, 1, 0), (39, .getfield 229, 3, 40), (42, .imul, 1, 0), (43, .aload 0, 1, 0), (44, .getfield 224, 3, 7), (47, .sipush 0, 1, 0), (48, .multianewarray 7007 4, 3, 36), (51, .aload 0, 1, 0), 
  (52, .getfield 229, 3, 40), (55, .ireturn, 1, 0)]
noncomputable def am_m7069 : am_M := (7069, ("undo", "()I"), prog_9_method_69_code, 1, (some .int), [], [], am_t7069_0)
noncomputable def am_t7070_0 : List am_I := [
  (0, .aload 0, 1, 0), (1, .sipush 0, 1, 0), (2, .putfield 232, 3, 32), (5, .iload 1, 1, 0), (6, .sipush 32, 2, 0), (8, .sipush 126, 2, 0), (10, .multianewarray 7005 3, 3, 50), (13, .ifCond .ne 22, 3, 0), (16, .aload 0, 1, 0), 
  (17, .sipush 1, 1, 0), (18, .invokeinterface 7003 1, 3, 43), (21, .ireturn, 1, 0), (22, .aload 0, 1, 0), (23, .getfield 231, 3, 206), (26, .sipush 60, 2, 0), (28, .if_icmp .ne 37, 3, 0), (31, .aload 0, 1, 0), (32, .sipush 2, 1, 0), 
  (33, .invokeinterface 7003 1, 3, 43), (36, .ireturn, 1, 0), (37, .aload 0, 1, 0), (38, .getfield 230, 3, 22), (41, .aload 0, 1, 0), (42, .getfield 231, 3, 206), (45, .iload 1, 1, 0), (46, .iastore, 1, 0), (47, .aload 0, 1, 0), 
  (48, .dup, 1, 0), (49, .getfield 231, 3, 206), (52, .sipush 1, 1, 0), (53, .iadd, 1, 0), (54, .putfield 231, 3, 206), (57, .aload 0, 1, 0), (58, .getfield 231, 3, 206), (61, .ireturn, 1, 0)]
noncomputable def am_m7070 : am_M := (7070, ("type", "(I)I"), prog_9_method_70_code, 2, (some .int), [], [], am_t7070_0)
noncomputable def am_t7071_0 : List am_I := [
  (0, .aload 0, 1, 0), (1, .sipush 0, 1, 0), (2, .putfield 232, 3, 32), (5, .aload 0, 1, 0), (6, .getfield 231, 3, 206), (9, .istore 1, 1, 0), (10, .aload 0, 1, 0), (11, .sipush 0, 1, 0), (12, .putfield 231, 3, 206), (15, .iload 1, 1, 0), 
  (16, .ireturn, 1, 0)]
noncomputable def am_m7071 : am_M := (7071, ("clearPad", "()I"), prog_9_method_71_code, 2, (some .int), [], [], am_t7071_0)
noncomputable def am_t7072_0 : List am_I := [
  (0, .aload 0, 1, 0), (1, .getfield 234, 3, 209), (4, .aload 0, 1, 0), (5, .getfield 231, 3, 206), (8, .if_icmp .ge 23, 3, 0), (11, .aload 0, 1, 0), (12, .getfield 230, 3, 22), (15, .aload 0, 1, 0), (16, .getfield 234, 3, 209), 
  (19, .iaload, 1, 0), (20, .goto 24, 3, 0), (23, .sipush 0, 1, 0), (24, .ireturn, 1, 0)]
noncomputable def am_m7072 : am_M := (7072, ("here", "()I"), prog_9_method_72_code, 1, (some .int), [], [], am_t7072_0)
noncomputable def am_t7073_0 : List am_I := [
  (0, .aload 0, 1, 0), (1, .aload 0, 1, 0), (2, .getfield 235, 3, 212), (5, .ifCond .eq 16, 3, 0), (8, .iload 1, 1, 0), (9, .ifCond .eq 16, 3, 0), (12, .sipush 1, 1, 0), (13, .goto 17, 3, 0), (16, .sipush 0, 1, 0), (17, .putfield 235, 3, 212), 
  (20, .aload 0, 1, 0), (21, .dup, 1, 0), (22, .getfield 234, 3, 209), (25, .aload 0, 1, 0), (26, .getfield 235, 3, 212), (29, .ifCond .eq 36, 3, 0), (32, .sipush 1, 1, 0), (33, .goto 37, 3, 0), (36, .sipush 0, 1, 0), (37, .iadd, 1, 0), 
  (38, .putfield 234, 3, 209), (41, .return_, 1, 0)]
noncomputable def am_m7073 : am_M := (7073, ("takes", "(Z)V"), prog_9_method_73_code, 2, none, [], [], am_t7073_0)
noncomputable def am_t7074_0 : List am_I := [
  (0, .aload 0, 1, 0), (1, .invokeinterface 7072 0, 3, 215), (4, .sipush 48, 2, 0), (6, .isub, 1, 0), (7, .istore 2, 1, 0), (8, .aload 0, 1, 0), (9, .iload 2, 1, 0), (10, .sipush 0, 1, 0), (11, .iload 1, 1, 0), (12, .multianewarray 7005 3, 3, 50), 
  (15, .invokeinterface 7073 1, 3, 218), (18, .iload 2, 1, 0), (19, .ireturn, 1, 0)]
noncomputable def am_m7074 : am_M := (7074, ("takesDigit", "(I)I"), prog_9_method_74_code, 3, (some .int), [], [], am_t7074_0)
noncomputable def am_t7075_0 : List am_I := [
  (0, .aload 0, 1, 0), (1, .sipush 9, 2, 0), (3, .invokeinterface 7074 1, 3, 222), (6, .istore 2, 1, 0), (7, .sipush 10, 2, 0), (9, .iload 2, 1, 0), (10, .imul, 1, 0), (11, .aload 0, 1, 0), (12, .invokeinterface 7072 0, 3, 215), 
  (15, .iadd, 1, 0), (16, .sipush 48, 2, 0), (18, .isub, 1, 0), (19, .istore 3, 1, 0), (20, .aload 0, 1, 0), (21, .getfield 235, 3, 212), (24, .ifCond .eq 54, 3, 0), (27, .iload 2, 1, 0), (28, .ifCond .le 54, 3, 0), (31, .aload 0, 1, 0), 
  (32, .invokeinterface 7072 0, 3, 215), (35, .sipush 48, 2, 0), (37, .sipush 57, 2, 0), (39, .multianewarray 7005 3, 3, 50), (42, .ifCond .eq 54, 3, 0), (45, .iload 3, 1, 0), (46, .iload 1, 1, 0), (47, .if_icmp .gt 54, 3, 0), 
  (50, .sipush 1, 1, 0), (51, .goto 55, 3, 0), (54, .sipush 0, 1, 0), (55, .istore 4, 2, 0), (57, .aload 0, 1, 0), (58, .dup, 1, 0), (59, .getfield 234, 3, 209), (62, .iload 4, 2, 0), (64, .ifCond .eq 71, 3, 0), (67, .sipush 1, 1, 0), 
  (68, .goto 72, 3, 0), (71, .sipush 0, 1, 0), (72, .iadd, 1, 0), (73, .putfield 234, 3, 209), (76, .iload 4, 2, 0), (78, .ifCond .eq 85, 3, 0), (81, .iload 3, 1, 0), (82, .goto 86, 3, 0), (85, .iload 2, 1, 0), (86, .ireturn, 1, 0)
  ]
noncomputable def am_m7075 : am_M := (7075, ("takesNumber", "(I)I"), prog_9_method_75_code, 5, (some .int), [], [], am_t7075_0)
noncomputable def am_t7076_0 : List am_I := [
  (0, .aload 0, 1, 0), (1, .aload 0, 1, 0), (2, .invokeinterface 7072 0, 3, 215), (5, .putfield 236, 3, 225), (8, .aload 0, 1, 0), (9, .getfield 236, 3, 225), (12, .sipush 48, 2, 0), (14, .sipush 51, 2, 0), (16, .multianewarray 7005 3, 3, 50), 
  (19, .istore 1, 1, 0), (20, .aload 0, 1, 0), (21, .getfield 236, 3, 225), (24, .sipush 115, 2, 0), (26, .if_icmp .eq 38, 3, 0), (29, .aload 0, 1, 0), (30, .getfield 236, 3, 225), (33, .sipush 109, 2, 0), (35, .if_icmp .ne 42, 3, 0), 
  (38, .sipush 1, 1, 0), (39, .goto 43, 3, 0), (42, .sipush 0, 1, 0), (43, .istore 2, 1, 0), (44, .aload 0, 1, 0), (45, .getfield 236, 3, 225), (48, .sipush 112, 2, 0), (50, .if_icmp .eq 62, 3, 0), (53, .aload 0, 1, 0), (54, .getfield 236, 3, 225), 
  (57, .sipush 114, 2, 0), (59, .if_icmp .ne 66, 3, 0), (62, .sipush 1, 1, 0), (63, .goto 67, 3, 0), (66, .sipush 0, 1, 0), (67, .istore 3, 1, 0), (68, .aload 0, 1, 0), (69, .iload 1, 1, 0), (70, .ifCond .ne 108, 3, 0), (73, .iload 2, 1, 0), 
  (74, .ifCond .ne 108, 3, 0), (77, .iload 3, 1, 0), (78, .ifCond .ne 108, 3, 0), (81, .aload 0, 1, 0), (82, .getfield 236, 3, 225), (85, .sipush 99, 2, 0), (87, .if_icmp .eq 108, 3, 0), (90, .aload 0, 1, 0), (91, .getfield 236, 3, 225), 
  (94, .sipush 98, 2, 0), (96, .if_icmp .eq 108, 3, 0), (99, .aload 0, 1, 0), (100, .getfield 236, 3, 225), (103, .sipush 97, 2, 0), (105, .if_icmp .ne 112, 3, 0), (108, .sipush 1, 1, 0), (109, .goto 113, 3, 0), (112, .sipush 0, 1, 0), 
  (113, .invokeinterface 7073 1, 3, 218), (116, .iload 1, 1, 0), (117, .ifCond .eq 186, 3, 0), (120, .aload 0, 1, 0), (121, .aload 0, 1, 0), (122, .getfield 236, 3, 225), (125, .sipush 48, 2, 0), (127, .isub, 1, 0), (128, .putfield 237, 3, 228), 
  (131, .aload 0, 1, 0), (132, .aload 0, 1, 0), (133, .invokeinterface 7072 0, 3, 215), (136, .sipush 46, 2, 0), (138, .if_icmp .ne 145, 3, 0), (141, .sipush 1, 1, 0), (142, .goto 146, 3, 0), (145, .sipush 0, 1, 0), (146, .invokeinterface 7073 1, 3, 218), 
  (149, .aload 0, 1, 0), (150, .aload 0, 1, 0), (151, .sipush 5, 1, 0), (152, .invokeinterface 7074 1, 3, 222), (155, .putfield 238, 3, 231), (158, .aload 0, 1, 0), (159, .aload 0, 1, 0), (160, .invokeinterface 7072 0, 3, 215), 
  (163, .sipush 61, 2, 0), (165, .if_icmp .ne 172, 3, 0), (168, .sipush 1, 1, 0), (169, .goto 173, 3, 0), (172, .sipush 0, 1, 0), (173, .invokeinterface 7073 1, 3, 218), (176, .aload 0, 1, 0), (177, .aload 0, 1, 0), (178, .sipush 99, 2, 0), 
  (180, .invokeinterface 7075 1, 3, 234), (183, .putfield 239, 3, 237), (186, .iload 2, 1, 0), (187, .ifCond .eq 199, 3, 0), (190, .aload 0, 1, 0), (191, .aload 0, 1, 0), (192, .sipush 5, 1, 0), (193, .invokeinterface 7074 1, 3, 222), 
  (196, .putfield 237, 3, 228)]
noncomputable def am_t7076_1 : List am_I := [
  (199, .iload 3, 1, 0), (200, .ifCond .eq 213, 3, 0), (203, .aload 0, 1, 0), (204, .aload 0, 1, 0), (205, .sipush 59, 2, 0), (207, .invokeinterface 7075 1, 3, 234), (210, .putfield 237, 3, 228), (213, .aload 0, 1, 0), (214, .aload 0, 1, 0), 
  (215, .invokeinterface 7072 0, 3, 215), (218, .sipush 59, 2, 0), (220, .if_icmp .ne 227, 3, 0), (223, .sipush 1, 1, 0), (224, .goto 228, 3, 0), (227, .sipush 0, 1, 0), (228, .invokeinterface 7073 1, 3, 218), (231, .return_, 1, 0)
  ]
noncomputable def am_m7076 : am_M := (7076, ("takesOrder", "()V"), prog_9_method_76_code, 4, none, [], [], am_t7076_0 ++ (am_t7076_1))
noncomputable def am_t7077_0 : List am_I := [
  (0, .aload 0, 1, 0), (1, .sipush 0, 1, 0), (2, .putfield 234, 3, 209), (5, .aload 0, 1, 0), (6, .sipush 1, 1, 0), (7, .putfield 235, 3, 212), (10, .aload 0, 1, 0), (11, .getfield 235, 3, 212), (14, .ifCond .eq 35, 3, 0), 
  (17, .aload 0, 1, 0), (18, .getfield 234, 3, 209), (21, .aload 0, 1, 0), (22, .getfield 231, 3, 206), (25, .if_icmp .ge 35, 3, 0), (28, .aload 0, 1, 0), (29, .invokeinterface 7076 0, 3, 240), (32, .goto 10, 3, 0), (35, .aload 0, 1, 0), 
  (36, .getfield 235, 3, 212), (39, .freturn, 1, 0)]
noncomputable def am_m7077 : am_M := (7077, ("isOrders", "()Z"), prog_9_method_77_code, 1, (some .boolean), [], [], am_t7077_0)
noncomputable def am_t7078_0 : List am_I := [
  (0, .aload 0, 1, 0), (1, .sipush 0, 1, 0), (2, .putfield 232, 3, 32), (5, .aload 0, 1, 0), (6, .invokeinterface 7077 0, 3, 243), (9, .ifCond .eq 16, 3, 0), (12, .sipush (-1), 1, 0), (13, .goto 20, 3, 0), (16, .aload 0, 1, 0), 
  (17, .getfield 234, 3, 209), (20, .ireturn, 1, 0)]
noncomputable def am_m7078 : am_M := (7078, ("fault", "()I"), prog_9_method_78_code, 1, (some .int), [], [], am_t7078_0)
noncomputable def am_t7079_0 : List am_I := [
  (0, .aload 0, 1, 0), (1, .getfield 236, 3, 225), (4, .tableswitch 149 97 115 #[106, 101, 96, 149, 149, 149, 149, 149, 149, 149, 149, 149, 120, 149, 149, 129, 149, 139, 111], 92, 0), (96, .aload 0, 1, 0), (97, .invokeinterface 7037 0, 3, 160), 
  (100, .ireturn, 1, 0), (101, .aload 0, 1, 0), (102, .invokeinterface 7043 0, 3, 172), (105, .ireturn, 1, 0), (106, .aload 0, 1, 0), (107, .invokeinterface 7052 0, 3, 195), (110, .ireturn, 1, 0), (111, .aload 0, 1, 0), (112, .aload 0, 1, 0), 
  (113, .getfield 237, 3, 228), (116, .invokeinterface 7045 1, 3, 178), (119, .ireturn, 1, 0), (120, .aload 0, 1, 0), (121, .aload 0, 1, 0), (122, .getfield 237, 3, 228), (125, .invokeinterface 7047 1, 3, 181), (128, .ireturn, 1, 0), 
  (129, .aload 0, 1, 0), (130, .aload 0, 1, 0), (131, .getfield 237, 3, 228), (134, .sipush 0, 1, 0), (135, .invokeinterface 7048 2, 3, 184), (138, .ireturn, 1, 0), (139, .aload 0, 1, 0), (140, .aload 0, 1, 0), (141, .getfield 237, 3, 228), 
  (144, .sipush 1, 1, 0), (145, .invokeinterface 7048 2, 3, 184), (148, .ireturn, 1, 0), (149, .aload 0, 1, 0), (150, .aload 0, 1, 0), (151, .getfield 237, 3, 228), (154, .aload 0, 1, 0), (155, .getfield 238, 3, 231), (158, .aload 0, 1, 0), 
  (159, .getfield 239, 3, 237), (162, .invokeinterface 7034 3, 3, 154), (165, .ireturn, 1, 0)]
noncomputable def am_m7079 : am_M := (7079, ("doesOrder", "()I"), prog_9_method_79_code, 1, (some .int), [], [], am_t7079_0)
noncomputable def am_t7080_0 : List am_I := [
  (0, .aload 0, 1, 0), (1, .invokeinterface 7008 0, 3, 151), (4, .aload 0, 1, 0), (5, .invokeinterface 7077 0, 3, 243), (8, .ifCond .ne 17, 3, 0), (11, .aload 0, 1, 0), (12, .sipush 1, 1, 0), (13, .invokeinterface 7003 1, 3, 43), 
  (16, .ireturn, 1, 0), (17, .sipush 0, 1, 0), (18, .istore 1, 1, 0), (19, .sipush 0, 1, 0), (20, .istore 2, 1, 0), (21, .aload 0, 1, 0), (22, .sipush 0, 1, 0), (23, .putfield 234, 3, 209), (26, .iload 2, 1, 0), (27, .ifCond .lt 65, 3, 0), 
  (30, .aload 0, 1, 0), (31, .getfield 234, 3, 209), (34, .aload 0, 1, 0), (35, .getfield 231, 3, 206), (38, .if_icmp .ge 65, 3, 0), (41, .aload 0, 1, 0), (42, .invokeinterface 7076 0, 3, 240), (45, .aload 0, 1, 0), (46, .invokeinterface 7079 0, 3, 246), 
  (49, .istore 2, 1, 0), (50, .iload 1, 1, 0), (51, .iload 2, 1, 0), (52, .ifCond .lt 59, 3, 0), (55, .sipush 1, 1, 0), (56, .goto 60, 3, 0), (59, .sipush 0, 1, 0), (60, .iadd, 1, 0), (61, .istore 1, 1, 0), (62, .goto 26, 3, 0), 
  (65, .aload 0, 1, 0), (66, .invokeinterface 7009 0, 3, 47), (69, .iload 1, 1, 0), (70, .ireturn, 1, 0)]
noncomputable def am_m7080 : am_M := (7080, ("runOrders", "()I"), prog_9_method_80_code, 3, (some .int), [], [], am_t7080_0)
noncomputable def am_t7081_0 : List am_I := [
  (0, .aload 0, 1, 0), (1, .iload 1, 1, 0), (2, .iload 2, 1, 0), (3, .multianewarray 7011 2, 3, 89), (6, .invokeinterface 7004 1, 3, 202), (9, .freturn, 1, 0)]
noncomputable def am_m7081 : am_M := (7081, ("asksLine", "(II)Z"), prog_9_method_81_code, 3, (some .boolean), [], [], am_t7081_0)
noncomputable def am_t7082_0 : List am_I := [
  (0, .aload 0, 1, 0), (1, .getfield 224, 3, 7), (4, .sipush 1591, 3, 0), (7, .sipush 6, 2, 0), (9, .iload 1, 1, 0), (10, .imul, 1, 0), (11, .iadd, 1, 0), (12, .iload 2, 1, 0), (13, .iadd, 1, 0), (14, .iaload, 1, 0), (15, .ireturn, 1, 0)
  ]
noncomputable def am_m7082 : am_M := (7082, ("their", "(II)I"), prog_9_method_82_code, 3, (some .int), [], [], am_t7082_0)
noncomputable def am_t7083_0 : List am_I := [
  (0, .aload 0, 1, 0), (1, .iload 1, 1, 0), (2, .iload 2, 1, 0), (3, .invokeinterface 7081 2, 3, 249), (6, .ifCond .eq 22, 3, 0), (9, .aload 0, 1, 0), (10, .iload 1, 1, 0), (11, .iload 2, 1, 0), (12, .invokeinterface 7082 2, 3, 252), 
  (15, .ifCond .le 22, 3, 0), (18, .sipush 1, 1, 0), (19, .goto 23, 3, 0), (22, .sipush 0, 1, 0), (23, .freturn, 1, 0)]
noncomputable def am_m7083 : am_M := (7083, ("isConflict", "(II)Z"), prog_9_method_83_code, 3, (some .boolean), [], [], am_t7083_0)
noncomputable def am_t7084_0 : List am_I := [
  (0, .aload 0, 1, 0), (1, .iload 1, 1, 0), (2, .iload 2, 1, 0), (3, .invokeinterface 7081 2, 3, 249), (6, .ifCond .ne 11, 3, 0), (9, .sipush 0, 1, 0), (10, .ireturn, 1, 0), (11, .aload 0, 1, 0), (12, .iload 1, 1, 0), (13, .iload 2, 1, 0), 
  (14, .invokeinterface 7082 2, 3, 252), (17, .ifCond .le 31, 3, 0), (20, .aload 0, 1, 0), (21, .iload 1, 1, 0), (22, .iload 2, 1, 0), (23, .invokeinterface 7082 2, 3, 252), (26, .sipush 1, 1, 0), (27, .isub, 1, 0), (28, .goto 36, 3, 0), 
  (31, .aload 0, 1, 0), (32, .sipush 2, 1, 0), (33, .invokeinterface 7003 1, 3, 43), (36, .ireturn, 1, 0)]
noncomputable def am_m7084 : am_M := (7084, ("theirs", "(II)I"), prog_9_method_84_code, 3, (some .int), [], [], am_t7084_0)
noncomputable def am_t7085_0 : List am_I := [
  (0, .aload 0, 1, 0), (1, .sipush 0, 1, 0), (2, .putfield 232, 3, 32), (5, .aload 0, 1, 0), (6, .invokeinterface 7021 0, 3, 100), (9, .ireturn, 1, 0)]
noncomputable def am_m7085 : am_M := (7085, ("conflicts", "()I"), prog_9_method_85_code, 1, (some .int), [], [], am_t7085_0)
noncomputable def am_t7086_0 : List am_I := [
  (0, .iload 1, 1, 0), (1, .sipush 6, 2, 0), (3, .irem, 1, 0), (4, .ifCond .le 26, 3, 0), (7, .aload 0, 1, 0), (8, .getfield 224, 3, 7), (11, .sipush 1591, 3, 0), (14, .iload 1, 1, 0), (15, .iadd, 1, 0), (16, .sipush 1, 1, 0), 
  (17, .isub, 1, 0), (18, .iaload, 1, 0), (19, .ifCond .le 26, 3, 0), (22, .sipush 1, 1, 0), (23, .goto 27, 3, 0), (26, .sipush 0, 1, 0), (27, .freturn, 1, 0)]
noncomputable def am_m7086 : am_M := (7086, ("isRowAhead", "(I)Z"), prog_9_method_86_code, 2, (some .boolean), [], [], am_t7086_0)
noncomputable def am_t7087_0 : List am_I := [
  (0, .aload 0, 1, 0), (1, .sipush 0, 1, 0), (2, .putfield 232, 3, 32), (5, .sipush 0, 1, 0), (6, .istore 1, 1, 0), (7, .sipush 0, 1, 0), (8, .istore 2, 1, 0), (9, .iload 2, 1, 0), (10, .sipush 24, 2, 0), (12, .if_icmp .ge 50, 3, 0), 
  (15, .iload 1, 1, 0), (16, .aload 0, 1, 0), (17, .getfield 224, 3, 7), (20, .sipush 1591, 3, 0), (23, .iload 2, 1, 0), (24, .iadd, 1, 0), (25, .iaload, 1, 0), (26, .ifCond .le 41, 3, 0), (29, .aload 0, 1, 0), (30, .iload 2, 1, 0), 
  (31, .invokeinterface 7086 1, 3, 255), (34, .ifCond .ne 41, 3, 0), (37, .sipush 1, 1, 0), (38, .goto 42, 3, 0), (41, .sipush 0, 1, 0), (42, .iadd, 1, 0), (43, .istore 1, 1, 0), (44, .iinc 2 1, 3, 0), (47, .goto 9, 3, 0), 
  (50, .iload 1, 1, 0), (51, .ireturn, 1, 0)]
noncomputable def am_m7087 : am_M := (7087, ("regions", "()I"), prog_9_method_87_code, 3, (some .int), [], [], am_t7087_0)
noncomputable def am_t7088_0 : List am_I := [
  (0, .aload 0, 1, 0), (1, .sipush 0, 1, 0), (2, .putfield 232, 3, 32), (5, .sipush 0, 1, 0), (6, .istore 1, 1, 0), (7, .sipush 0, 1, 0), (8, .istore 2, 1, 0), (9, .iload 2, 1, 0), (10, .sipush 4, 1, 0), (11, .if_icmp .ge 62, 3, 0), 
  (14, .sipush 0, 1, 0), (15, .istore 3, 1, 0), (16, .sipush 0, 1, 0), (17, .istore 4, 2, 0), (19, .iload 4, 2, 0), (21, .sipush 6, 2, 0), (23, .if_icmp .ge 56, 3, 0), (26, .aload 0, 1, 0), (27, .iload 2, 1, 0), (28, .iload 4, 2, 0), 
  (30, .invokeinterface 7082 2, 3, 252), (33, .ifCond .le 42, 3, 0), (36, .iload 3, 1, 0), (37, .sipush 1, 1, 0), (38, .iadd, 1, 0), (39, .goto 43, 3, 0), (42, .sipush 0, 1, 0), (43, .istore 3, 1, 0), (44, .iload 1, 1, 0), 
  (45, .iload 3, 1, 0), (46, .multianewarray 7006 2, 3, 258), (49, .istore 1, 1, 0), (50, .iinc 4 1, 3, 0), (53, .goto 19, 3, 0), (56, .iinc 2 1, 3, 0), (59, .goto 9, 3, 0), (62, .iload 1, 1, 0), (63, .ireturn, 1, 0)]
noncomputable def am_m7088 : am_M := (7088, ("longestRegion", "()I"), prog_9_method_88_code, 5, (some .int), [], [], am_t7088_0)
noncomputable def am_t7089_0 : List am_I := [
  (0, .aload 0, 1, 0), (1, .sipush 0, 1, 0), (2, .putfield 232, 3, 32), (5, .aload 0, 1, 0), (6, .getfield 224, 3, 7), (9, .sipush 1615, 3, 0), (12, .iaload, 1, 0), (13, .sipush 1, 1, 0), (14, .if_icmp .ne 21, 3, 0), (17, .sipush 1, 1, 0), 
  (18, .goto 22, 3, 0), (21, .sipush 0, 1, 0), (22, .freturn, 1, 0)]
noncomputable def am_m7089 : am_M := (7089, ("isMerging", "()Z"), prog_9_method_89_code, 1, (some .boolean), [], [], am_t7089_0)
noncomputable def am_t7090_0 : List am_I := [
  (0, .aload 0, 1, 0), (1, .sipush 0, 1, 0), (2, .putfield 232, 3, 32), (5, .aload 0, 1, 0), (6, .getfield 224, 3, 7), (9, .sipush 1615, 3, 0), (12, .iaload, 1, 0), (13, .sipush 2, 1, 0), (14, .if_icmp .ne 21, 3, 0), (17, .sipush 1, 1, 0), 
  (18, .goto 22, 3, 0), (21, .sipush 0, 1, 0), (22, .freturn, 1, 0)]
noncomputable def am_m7090 : am_M := (7090, ("isPicking", "()Z"), prog_9_method_90_code, 1, (some .boolean), [], [], am_t7090_0)
noncomputable def am_t7091_0 : List am_I := [
  (0, .aload 0, 1, 0), (1, .iload 1, 1, 0), (2, .iload 2, 1, 0), (3, .invokeinterface 7081 2, 3, 249), (6, .ifCond .eq 27, 3, 0), (9, .aload 0, 1, 0), (10, .getfield 224, 3, 7), (13, .sipush 1567, 3, 0), (16, .sipush 6, 2, 0), 
  (18, .iload 1, 1, 0), (19, .imul, 1, 0), (20, .iadd, 1, 0), (21, .iload 2, 1, 0), (22, .iadd, 1, 0), (23, .iaload, 1, 0), (24, .goto 28, 3, 0), (27, .sipush 0, 1, 0), (28, .ireturn, 1, 0)]
noncomputable def am_m7091 : am_M := (7091, ("lineOf", "(II)I"), prog_9_method_91_code, 3, (some .int), [], [], am_t7091_0)
noncomputable def am_t7092_0 : List am_I := [
  (0, .aload 0, 1, 0), (1, .iload 1, 1, 0), (2, .iload 2, 1, 0), (3, .invokeinterface 7081 2, 3, 249), (6, .ifCond .ne 11, 3, 0), (9, .sipush 0, 1, 0), (10, .freturn, 1, 0), (11, .sipush 6, 2, 0), (13, .iload 1, 1, 0), (14, .imul, 1, 0), 
  (15, .iload 2, 1, 0), (16, .iadd, 1, 0), (17, .istore 3, 1, 0), (18, .aload 0, 1, 0), (19, .getfield 224, 3, 7), (22, .sipush 1567, 3, 0), (25, .iload 3, 1, 0), (26, .iadd, 1, 0), (27, .iaload, 1, 0), (28, .aload 0, 1, 0), 
  (29, .getfield 224, 3, 7), (32, .aload 0, 1, 0), (33, .invokeinterface 7015 0, 3, 57), (36, .multianewarray 7016 1, 3, 61), (39, .iload 3, 1, 0), (40, .iadd, 1, 0), (41, .iaload, 1, 0), (42, .if_icmp .eq 49, 3, 0), (45, .sipush 1, 1, 0), 
  (46, .goto 50, 3, 0), (49, .sipush 0, 1, 0), (50, .freturn, 1, 0)]
noncomputable def am_m7092 : am_M := (7092, ("isChanged", "(II)Z"), prog_9_method_92_code, 4, (some .boolean), [], [], am_t7092_0)
noncomputable def am_t7093_0 : List am_I := [
  (0, .aload 0, 1, 0), (1, .sipush 0, 1, 0), (2, .putfield 232, 3, 32), (5, .aload 0, 1, 0), (6, .invokeinterface 7019 0, 3, 68), (9, .ireturn, 1, 0)]
noncomputable def am_m7093 : am_M := (7093, ("changed", "()I"), prog_9_method_93_code, 1, (some .int), [], [], am_t7093_0)
noncomputable def am_t7094_0 : List am_I := [
  (0, .aload 0, 1, 0), (1, .aload 0, 1, 0), (2, .iload 1, 1, 0), (3, .invokeinterface 7012 1, 3, 110), (6, .ifCond .eq 21, 3, 0), (9, .iload 2, 1, 0), (10, .iload 3, 1, 0), (11, .multianewarray 7011 2, 3, 89), (14, .ifCond .eq 21, 3, 0), 
  (17, .sipush 1, 1, 0), (18, .goto 22, 3, 0), (21, .sipush 0, 1, 0), (22, .invokeinterface 7004 1, 3, 202), (25, .ifCond .eq 47, 3, 0), (28, .aload 0, 1, 0), (29, .getfield 224, 3, 7), (32, .iload 1, 1, 0), (33, .multianewarray 7016 1, 3, 61), 
  (36, .sipush 6, 2, 0), (38, .iload 2, 1, 0), (39, .imul, 1, 0), (40, .iadd, 1, 0), (41, .iload 3, 1, 0), (42, .iadd, 1, 0), (43, .iaload, 1, 0), (44, .goto 48, 3, 0), (47, .sipush 0, 1, 0), (48, .ireturn, 1, 0)]
noncomputable def am_m7094 : am_M := (7094, ("lineAt", "(III)I"), prog_9_method_94_code, 4, (some .int), [], [], am_t7094_0)
noncomputable def am_t7095_0 : List am_I := [
  (0, .aload 0, 1, 0), (1, .aload 0, 1, 0), (2, .iload 1, 1, 0), (3, .invokeinterface 7012 1, 3, 110), (6, .ifCond .eq 21, 3, 0), (9, .aload 0, 1, 0), (10, .iload 2, 1, 0), (11, .invokeinterface 7012 1, 3, 110), (14, .ifCond .eq 21, 3, 0), 
  (17, .sipush 1, 1, 0), (18, .goto 22, 3, 0), (21, .sipush 0, 1, 0), (22, .invokeinterface 7004 1, 3, 202), (25, .freturn, 1, 0)]
noncomputable def am_m7095 : am_M := (7095, ("asksTwo", "(II)Z"), prog_9_method_95_code, 3, (some .boolean), [], [], am_t7095_0)
noncomputable def am_t7096_0 : List am_I := [
  (0, .aload 0, 1, 0), (1, .iload 1, 1, 0), (2, .iload 2, 1, 0), (3, .invokeinterface 7095 2, 3, 261), (6, .ifCond .eq 24, 3, 0), (9, .aload 0, 1, 0), (10, .iload 1, 1, 0), (11, .multianewarray 7016 1, 3, 61), (14, .iload 2, 1, 0), 
  (15, .multianewarray 7016 1, 3, 61), (18, .invokeinterface 7018 2, 3, 64), (21, .goto 25, 3, 0), (24, .sipush 0, 1, 0), (25, .ireturn, 1, 0)]
noncomputable def am_m7096 : am_M := (7096, ("differences", "(II)I"), prog_9_method_96_code, 3, (some .int), [], [], am_t7096_0)
noncomputable def am_t7097_0 : List am_I := [
  (0, .aload 0, 1, 0), (1, .aload 0, 1, 0), (2, .iload 1, 1, 0), (3, .invokeinterface 7012 1, 3, 110), (6, .ifCond .eq 21, 3, 0), (9, .iload 2, 1, 0), (10, .iload 3, 1, 0), (11, .multianewarray 7011 2, 3, 89), (14, .ifCond .eq 21, 3, 0), 
  (17, .sipush 1, 1, 0), (18, .goto 22, 3, 0), (21, .sipush 0, 1, 0), (22, .invokeinterface 7004 1, 3, 202), (25, .ifCond .ne 30, 3, 0), (28, .sipush 0, 1, 0), (29, .ireturn, 1, 0), (30, .sipush 6, 2, 0), (32, .iload 2, 1, 0), 
  (33, .imul, 1, 0), (34, .iload 3, 1, 0), (35, .iadd, 1, 0), (36, .istore 4, 2, 0), (38, .aload 0, 1, 0), (39, .getfield 224, 3, 7), (42, .iload 1, 1, 0), (43, .multianewarray 7016 1, 3, 61), (46, .iload 4, 2, 0), (48, .iadd, 1, 0), 
  (49, .iaload, 1, 0), (50, .istore 5, 2, 0), (52, .iload 1, 1, 0), (53, .istore 6, 2, 0), (55, .sipush 1, 1, 0), (56, .istore 7, 2, 0), (58, .iload 7, 2, 0), (60, .ifCond .eq 197, 3, 0), (63, .aload 0, 1, 0), (64, .getfield 224, 3, 7), 
  (67, .sipush 1440, 3, 0), (70, .iload 6, 2, 0), (72, .iadd, 1, 0), (73, .iaload, 1, 0), (74, .sipush 1, 1, 0), (75, .isub, 1, 0), (76, .istore 8, 2, 0), (78, .aload 0, 1, 0), (79, .getfield 224, 3, 7), (82, .sipush 1500, 3, 0), 
  (85, .iload 6, 2, 0), (87, .iadd, 1, 0), (88, .iaload, 1, 0), (89, .sipush 1, 1, 0), (90, .isub, 1, 0), (91, .istore 9, 2, 0), (93, .iload 8, 2, 0), (95, .ifCond .lt 120, 3, 0), (98, .aload 0, 1, 0), (99, .getfield 224, 3, 7), 
  (102, .iload 8, 2, 0), (104, .multianewarray 7016 1, 3, 61), (107, .iload 4, 2, 0), (109, .iadd, 1, 0), (110, .iaload, 1, 0), (111, .iload 5, 2, 0), (113, .if_icmp .ne 120, 3, 0), (116, .sipush 1, 1, 0), (117, .goto 121, 3, 0), 
  (120, .sipush 0, 1, 0), (121, .istore 10, 2, 0), (123, .iload 9, 2, 0), (125, .ifCond .lt 150, 3, 0), (128, .aload 0, 1, 0), (129, .getfield 224, 3, 7), (132, .iload 9, 2, 0), (134, .multianewarray 7016 1, 3, 61), (137, .iload 4, 2, 0), 
  (139, .iadd, 1, 0), (140, .iaload, 1, 0), (141, .iload 5, 2, 0), (143, .if_icmp .ne 150, 3, 0), (146, .sipush 1, 1, 0), (147, .goto 151, 3, 0), (150, .sipush 0, 1, 0), (151, .istore 11, 2, 0), (153, .iload 10, 2, 0), (155, .ifCond .eq 163, 3, 0), 
  (158, .iload 8, 2, 0), (160, .goto 175, 3, 0), (163, .iload 11, 2, 0), (165, .ifCond .eq 173, 3, 0), (168, .iload 9, 2, 0), (170, .goto 175, 3, 0), (173, .iload 6, 2, 0), (175, .istore 6, 2, 0), (177, .iload 10, 2, 0), 
  (179, .ifCond .ne 187, 3, 0), (182, .iload 11, 2, 0), (184, .ifCond .eq 191, 3, 0), (187, .sipush 1, 1, 0), (188, .goto 192, 3, 0)]
noncomputable def am_t7097_1 : List am_I := [
  (191, .sipush 0, 1, 0), (192, .istore 7, 2, 0), (194, .goto 58, 3, 0), (197, .iload 6, 2, 0), (199, .ireturn, 1, 0)]
noncomputable def am_m7097 : am_M := (7097, ("broughtBy", "(III)I"), prog_9_method_97_code, 12, (some .int), [], [], am_t7097_0 ++ (am_t7097_1))
noncomputable def am_t7098_0 : List am_I := [
  (0, .aload 0, 1, 0), (1, .aload 0, 1, 0), (2, .iload 1, 1, 0), (3, .invokeinterface 7012 1, 3, 110), (6, .ifCond .eq 21, 3, 0), (9, .iload 2, 1, 0), (10, .iload 3, 1, 0), (11, .multianewarray 7011 2, 3, 89), (14, .ifCond .eq 21, 3, 0), 
  (17, .sipush 1, 1, 0), (18, .goto 22, 3, 0), (21, .sipush 0, 1, 0), (22, .invokeinterface 7004 1, 3, 202), (25, .ifCond .ne 30, 3, 0), (28, .sipush 0, 1, 0), (29, .ireturn, 1, 0), (30, .aload 0, 1, 0), (31, .invokeinterface 7028 0, 3, 82), 
  (34, .sipush (-1), 1, 0), (35, .istore 5, 2, 0), (37, .iload 1, 1, 0), (38, .istore 6, 2, 0), (40, .iload 6, 2, 0), (42, .ifCond .lt 108, 3, 0), (45, .aload 0, 1, 0), (46, .getfield 233, 3, 25), (49, .iload 1, 1, 0), (50, .laload, 1, 0), 
  (51, .iload 6, 2, 0), (53, .multianewarray 7029 2, 3, 78), (56, .ifCond .eq 85, 3, 0), (59, .aload 0, 1, 0), (60, .getfield 224, 3, 7), (63, .iload 6, 2, 0), (65, .multianewarray 7016 1, 3, 61), (68, .sipush 6, 2, 0), (70, .iload 2, 1, 0), 
  (71, .imul, 1, 0), (72, .iadd, 1, 0), (73, .iload 3, 1, 0), (74, .iadd, 1, 0), (75, .iaload, 1, 0), (76, .iload 4, 2, 0), (78, .if_icmp .ne 85, 3, 0), (81, .sipush 1, 1, 0), (82, .goto 86, 3, 0), (85, .sipush 0, 1, 0), 
  (86, .istore 7, 2, 0), (88, .iload 7, 2, 0), (90, .ifCond .eq 98, 3, 0), (93, .iload 6, 2, 0), (95, .goto 100, 3, 0), (98, .iload 5, 2, 0), (100, .istore 5, 2, 0), (102, .iinc 6 (-1), 3, 0), (105, .goto 40, 3, 0), (108, .iload 5, 2, 0), 
  (110, .ireturn, 1, 0)]
noncomputable def am_m7098 : am_M := (7098, ("firstWith", "(IIII)I"), prog_9_method_98_code, 8, (some .int), [], [], am_t7098_0)
noncomputable def am_t7099_0 : List am_I := [
  (0, .aload 0, 1, 0), (1, .sipush 0, 1, 0), (2, .putfield 232, 3, 32), (5, .sipush 0, 1, 0), (6, .istore 1, 1, 0), (7, .sipush 0, 1, 0), (8, .istore 2, 1, 0), (9, .iload 2, 1, 0), (10, .sipush 24, 2, 0), (12, .if_icmp .ge 42, 3, 0), 
  (15, .iload 1, 1, 0), (16, .aload 0, 1, 0), (17, .getfield 224, 3, 7), (20, .sipush 1567, 3, 0), (23, .iload 2, 1, 0), (24, .iadd, 1, 0), (25, .iaload, 1, 0), (26, .ifCond .eq 33, 3, 0), (29, .sipush 1, 1, 0), (30, .goto 34, 3, 0), 
  (33, .sipush 0, 1, 0), (34, .iadd, 1, 0), (35, .istore 1, 1, 0), (36, .iinc 2 1, 3, 0), (39, .goto 9, 3, 0), (42, .iload 1, 1, 0), (43, .i2d, 1, 0), (44, .ldc2_w 4627448617123184640, 3, 264), (47, .ddiv, 1, 0), (48, .dreturn, 1, 0)
  ]
noncomputable def am_m7099 : am_M := (7099, ("fullness", "()D"), prog_9_method_99_code, 3, (some .double), [], [], am_t7099_0)
noncomputable def am_t7100_0 : List am_I := [
  (0, .aload 0, 1, 0), (1, .sipush 0, 1, 0), (2, .putfield 232, 3, 32), (5, .aload 0, 1, 0), (6, .getfield 224, 3, 7), (9, .sipush 1762, 3, 0), (12, .iaload, 1, 0), (13, .ireturn, 1, 0)]
noncomputable def am_m7100 : am_M := (7100, ("commits", "()I"), prog_9_method_100_code, 1, (some .int), [], [], am_t7100_0)
noncomputable def am_t7101_0 : List am_I := [
  (0, .aload 0, 1, 0), (1, .aload 0, 1, 0), (2, .iload 1, 1, 0), (3, .invokeinterface 7012 1, 3, 110), (6, .invokeinterface 7004 1, 3, 202), (9, .ifCond .eq 27, 3, 0), (12, .aload 0, 1, 0), (13, .getfield 224, 3, 7), (16, .sipush 1440, 3, 0), 
  (19, .iload 1, 1, 0), (20, .iadd, 1, 0), (21, .iaload, 1, 0), (22, .sipush 1, 1, 0), (23, .isub, 1, 0), (24, .goto 28, 3, 0), (27, .sipush 0, 1, 0), (28, .ireturn, 1, 0)]
noncomputable def am_m7101 : am_M := (7101, ("firstParent", "(I)I"), prog_9_method_101_code, 2, (some .int), [], [], am_t7101_0)
noncomputable def am_t7102_0 : List am_I := [
  (0, .aload 0, 1, 0), (1, .aload 0, 1, 0), (2, .iload 1, 1, 0), (3, .invokeinterface 7012 1, 3, 110), (6, .invokeinterface 7004 1, 3, 202), (9, .ifCond .eq 27, 3, 0), (12, .aload 0, 1, 0), (13, .getfield 224, 3, 7), (16, .sipush 1500, 3, 0), 
  (19, .iload 1, 1, 0), (20, .iadd, 1, 0), (21, .iaload, 1, 0), (22, .sipush 1, 1, 0), (23, .isub, 1, 0), (24, .goto 28, 3, 0), (27, .sipush 0, 1, 0), (28, .ireturn, 1, 0)]
noncomputable def am_m7102 : am_M := (7102, ("secondParent", "(I)I"), prog_9_method_102_code, 2, (some .int), [], [], am_t7102_0)
noncomputable def am_t7103_0 : List am_I := [
  (0, .aload 0, 1, 0), (1, .sipush 0, 1, 0), (2, .putfield 232, 3, 32), (5, .aload 0, 1, 0), (6, .invokeinterface 7042 0, 3, 128), (9, .ireturn, 1, 0)]
noncomputable def am_m7103 : am_M := (7103, ("branches", "()I"), prog_9_method_103_code, 1, (some .int), [], [], am_t7103_0)
noncomputable def am_t7104_0 : List am_I := [
  (0, .aload 0, 1, 0), (1, .iload 1, 1, 0), (2, .multianewarray 7013 1, 3, 131), (5, .invokeinterface 7004 1, 3, 202), (8, .ifCond .eq 23, 3, 0), (11, .aload 0, 1, 0), (12, .iload 1, 1, 0), (13, .invokeinterface 7014 1, 3, 54), 
  (16, .ifCond .lt 23, 3, 0), (19, .sipush 1, 1, 0), (20, .goto 24, 3, 0), (23, .sipush 0, 1, 0), (24, .freturn, 1, 0)]
noncomputable def am_m7104 : am_M := (7104, ("isBranch", "(I)Z"), prog_9_method_104_code, 2, (some .boolean), [], [], am_t7104_0)
noncomputable def am_t7105_0 : List am_I := [
  (0, .aload 0, 1, 0), (1, .iload 1, 1, 0), (2, .multianewarray 7013 1, 3, 131), (5, .invokeinterface 7004 1, 3, 202), (8, .ifCond .ne 13, 3, 0), (11, .sipush 0, 1, 0), (12, .ireturn, 1, 0), (13, .aload 0, 1, 0), (14, .iload 1, 1, 0), 
  (15, .invokeinterface 7014 1, 3, 54), (18, .ifCond .lt 29, 3, 0), (21, .aload 0, 1, 0), (22, .iload 1, 1, 0), (23, .invokeinterface 7014 1, 3, 54), (26, .goto 34, 3, 0), (29, .aload 0, 1, 0), (30, .sipush 2, 1, 0), (31, .invokeinterface 7003 1, 3, 43), 
  (34, .ireturn, 1, 0)]
noncomputable def am_m7105 : am_M := (7105, ("standsAt", "(I)I"), prog_9_method_105_code, 2, (some .int), [], [], am_t7105_0)
noncomputable def am_t7106_0 : List am_I := [
  (0, .aload 0, 1, 0), (1, .sipush 0, 1, 0), (2, .putfield 232, 3, 32), (5, .aload 0, 1, 0), (6, .getfield 224, 3, 7), (9, .sipush 1566, 3, 0), (12, .iaload, 1, 0), (13, .ireturn, 1, 0)]
noncomputable def am_m7106 : am_M := (7106, ("current", "()I"), prog_9_method_106_code, 1, (some .int), [], [], am_t7106_0)
noncomputable def am_t7107_0 : List am_I := [
  (0, .aload 0, 1, 0), (1, .sipush 0, 1, 0), (2, .putfield 232, 3, 32), (5, .aload 0, 1, 0), (6, .invokeinterface 7015 0, 3, 57), (9, .ireturn, 1, 0)]
noncomputable def am_m7107 : am_M := (7107, ("head", "()I"), prog_9_method_107_code, 1, (some .int), [], [], am_t7107_0)
noncomputable def am_t7108_0 : List am_I := [
  (0, .aload 0, 1, 0), (1, .sipush 0, 1, 0), (2, .putfield 232, 3, 32), (5, .aload 0, 1, 0), (6, .getfield 224, 3, 7), (9, .sipush 1617, 3, 0), (12, .iaload, 1, 0), (13, .ireturn, 1, 0)]
noncomputable def am_m7108 : am_M := (7108, ("aside", "()I"), prog_9_method_108_code, 1, (some .int), [], [], am_t7108_0)
noncomputable def am_t7109_0 : List am_I := [
  (0, .aload 0, 1, 0), (1, .sipush 0, 1, 0), (2, .putfield 232, 3, 32), (5, .aload 0, 1, 0), (6, .invokeinterface 7028 0, 3, 82), (9, .lconst 0, 1, 0), (10, .lstore 1, 1, 0), (11, .sipush 0, 1, 0), (12, .istore 3, 1, 0), 
  (13, .iload 3, 1, 0), (14, .sipush 6, 2, 0), (16, .if_icmp .ge 50, 3, 0), (19, .lload 1, 1, 0), (20, .aload 0, 1, 0), (21, .iload 3, 1, 0), (22, .invokeinterface 7014 1, 3, 54), (25, .ifCond .lt 41, 3, 0), (28, .aload 0, 1, 0), 
  (29, .getfield 233, 3, 25), (32, .aload 0, 1, 0), (33, .iload 3, 1, 0), (34, .invokeinterface 7014 1, 3, 54), (37, .laload, 1, 0), (38, .goto 42, 3, 0), (41, .lconst 0, 1, 0), (42, .lor, 1, 0), (43, .lstore 1, 1, 0), (44, .iinc 3 1, 3, 0), 
  (47, .goto 13, 3, 0), (50, .aload 0, 1, 0), (51, .getfield 224, 3, 7), (54, .sipush 1762, 3, 0), (57, .iaload, 1, 0), (58, .lload 1, 1, 0), (59, .multianewarray 7030 1, 3, 266), (62, .isub, 1, 0), (63, .ireturn, 1, 0)]
noncomputable def am_m7109 : am_M := (7109, ("lost", "()I"), prog_9_method_109_code, 4, (some .int), [], [], am_t7109_0)
noncomputable def am_t7110_0 : List am_I := [
  (0, .aload 0, 1, 0), (1, .iload 1, 1, 0), (2, .iload 2, 1, 0), (3, .invokeinterface 7095 2, 3, 261), (6, .ifCond .eq 22, 3, 0), (9, .aload 0, 1, 0), (10, .iload 1, 1, 0), (11, .iload 2, 1, 0), (12, .invokeinterface 7032 2, 3, 137), 
  (15, .ifCond .eq 22, 3, 0), (18, .sipush 1, 1, 0), (19, .goto 23, 3, 0), (22, .sipush 0, 1, 0), (23, .freturn, 1, 0)]
noncomputable def am_m7110 : am_M := (7110, ("reaches", "(II)Z"), prog_9_method_110_code, 3, (some .boolean), [], [], am_t7110_0)
noncomputable def am_t7111_0 : List am_I := [
  (0, .aload 0, 1, 0), (1, .aload 0, 1, 0), (2, .iload 1, 1, 0), (3, .invokeinterface 7012 1, 3, 110), (6, .invokeinterface 7004 1, 3, 202), (9, .ifCond .ne 14, 3, 0), (12, .sipush 0, 1, 0), (13, .ireturn, 1, 0), (14, .aload 0, 1, 0), 
  (15, .invokeinterface 7028 0, 3, 82), (18, .aload 0, 1, 0), (19, .getfield 233, 3, 25), (22, .iload 1, 1, 0), (23, .laload, 1, 0), (24, .multianewarray 7030 1, 3, 266), (27, .ireturn, 1, 0)]
noncomputable def am_m7111 : am_M := (7111, ("history", "(I)I"), prog_9_method_111_code, 2, (some .int), [], [], am_t7111_0)
noncomputable def am_t7112_0 : List am_I := [
  (0, .aload 0, 1, 0), (1, .aload 0, 1, 0), (2, .iload 1, 1, 0), (3, .invokeinterface 7012 1, 3, 110), (6, .ifCond .eq 17, 3, 0), (9, .iload 2, 1, 0), (10, .ifCond .lt 17, 3, 0), (13, .sipush 1, 1, 0), (14, .goto 18, 3, 0), 
  (17, .sipush 0, 1, 0), (18, .invokeinterface 7004 1, 3, 202), (21, .ifCond .ne 26, 3, 0), (24, .sipush 0, 1, 0), (25, .ireturn, 1, 0), (26, .aload 0, 1, 0), (27, .invokeinterface 7028 0, 3, 82), (30, .iload 2, 1, 0), (31, .istore 3, 1, 0), 
  (32, .iload 1, 1, 0), (33, .istore 4, 2, 0), (35, .iload 4, 2, 0), (37, .ifCond .lt 70, 3, 0), (40, .aload 0, 1, 0), (41, .getfield 233, 3, 25), (44, .iload 1, 1, 0), (45, .laload, 1, 0), (46, .iload 4, 2, 0), (48, .multianewarray 7029 2, 3, 78), 
  (51, .ifCond .eq 64, 3, 0), (54, .iload 3, 1, 0), (55, .ifCond .ne 61, 3, 0), (58, .iload 4, 2, 0), (60, .ireturn, 1, 0), (61, .iinc 3 (-1), 3, 0), (64, .iinc 4 (-1), 3, 0), (67, .goto 35, 3, 0), (70, .sipush (-1), 1, 0), 
  (71, .ireturn, 1, 0)]
noncomputable def am_m7112 : am_M := (7112, ("historyAt", "(II)I"), prog_9_method_112_code, 5, (some .int), [], [], am_t7112_0)
noncomputable def am_t7113_0 : List am_I := [
  (0, .sipush 0, 1, 0), (1, .istore 3, 1, 0), (2, .iload 3, 1, 0), (3, .sipush 60, 2, 0), (5, .if_icmp .ge 30, 3, 0), (8, .aload 0, 1, 0), (9, .getfield 240, 3, 29), (12, .iload 3, 1, 0), (13, .iload 3, 1, 0), (14, .iload 1, 1, 0), 
  (15, .if_icmp .ne 22, 3, 0), (18, .sipush 0, 1, 0), (19, .goto 23, 3, 0), (22, .sipush (-1), 1, 0), (23, .iastore, 1, 0), (24, .iinc 3 1, 3, 0), (27, .goto 2, 3, 0), (30, .iload 1, 1, 0), (31, .istore 3, 1, 0), (32, .iload 3, 1, 0), 
  (33, .ifCond .le 176, 3, 0), (36, .sipush 0, 1, 0), (37, .istore 4, 2, 0), (39, .iload 4, 2, 0), (41, .sipush 2, 1, 0), (42, .if_icmp .ge 170, 3, 0), (45, .aload 0, 1, 0), (46, .getfield 240, 3, 29), (49, .iload 3, 1, 0), 
  (50, .iaload, 1, 0), (51, .ifCond .lt 170, 3, 0), (54, .aload 0, 1, 0), (55, .getfield 224, 3, 7), (58, .iload 4, 2, 0), (60, .ifCond .ne 69, 3, 0), (63, .sipush 1440, 3, 0), (66, .goto 72, 3, 0), (69, .sipush 1500, 3, 0), 
  (72, .iload 3, 1, 0), (73, .iadd, 1, 0), (74, .iaload, 1, 0), (75, .sipush 1, 1, 0), (76, .isub, 1, 0), (77, .istore 5, 2, 0), (79, .iload 5, 2, 0), (81, .ifCond .lt 141, 3, 0), (84, .aload 0, 1, 0), (85, .getfield 240, 3, 29), 
  (88, .iload 5, 2, 0), (90, .iaload, 1, 0), (91, .ifCond .lt 137, 3, 0), (94, .iload 2, 1, 0), (95, .ifCond .eq 119, 3, 0), (98, .aload 0, 1, 0), (99, .getfield 240, 3, 29), (102, .iload 3, 1, 0), (103, .iaload, 1, 0), (104, .sipush 1, 1, 0), 
  (105, .iadd, 1, 0), (106, .aload 0, 1, 0), (107, .getfield 240, 3, 29), (110, .iload 5, 2, 0), (112, .iaload, 1, 0), (113, .if_icmp .ge 141, 3, 0), (116, .goto 137, 3, 0), (119, .aload 0, 1, 0), (120, .getfield 240, 3, 29), 
  (123, .iload 3, 1, 0), (124, .iaload, 1, 0), (125, .sipush 1, 1, 0), (126, .iadd, 1, 0), (127, .aload 0, 1, 0), (128, .getfield 240, 3, 29), (131, .iload 5, 2, 0), (133, .iaload, 1, 0), (134, .if_icmp .le 141, 3, 0), (137, .sipush 1, 1, 0), 
  (138, .goto 142, 3, 0), (141, .sipush 0, 1, 0), (142, .istore 6, 2, 0), (144, .iload 6, 2, 0), (146, .ifCond .eq 164, 3, 0), (149, .aload 0, 1, 0), (150, .getfield 240, 3, 29), (153, .iload 5, 2, 0), (155, .aload 0, 1, 0), 
  (156, .getfield 240, 3, 29), (159, .iload 3, 1, 0), (160, .iaload, 1, 0), (161, .sipush 1, 1, 0), (162, .iadd, 1, 0), (163, .iastore, 1, 0), (164, .iinc 4 1, 3, 0), (167, .goto 39, 3, 0), (170, .iinc 3 (-1), 3, 0), (173, .goto 32, 3, 0), 
  (176, .return_, 1, 0)]
noncomputable def am_m7113 : am_M := (7113, ("walks", "(IZ)V"), prog_9_method_113_code, 7, none, [], [], am_t7113_0)
noncomputable def am_t7114_0 : List am_I := [
  (0, .aload 0, 1, 0), (1, .iload 1, 1, 0), (2, .iload 2, 1, 0), (3, .invokeinterface 7095 2, 3, 261), (6, .ifCond .ne 11, 3, 0), (9, .sipush 0, 1, 0), (10, .ireturn, 1, 0), (11, .aload 0, 1, 0), (12, .iload 1, 1, 0), (13, .sipush 1, 1, 0), 
  (14, .invokeinterface 7113 2, 3, 269), (17, .aload 0, 1, 0), (18, .getfield 240, 3, 29), (21, .iload 2, 1, 0), (22, .iaload, 1, 0), (23, .ireturn, 1, 0)]
noncomputable def am_m7114 : am_M := (7114, ("distance", "(II)I"), prog_9_method_114_code, 3, (some .int), [], [], am_t7114_0)
noncomputable def am_t7115_0 : List am_I := [
  (0, .aload 0, 1, 0), (1, .aload 0, 1, 0), (2, .iload 1, 1, 0), (3, .invokeinterface 7012 1, 3, 110), (6, .invokeinterface 7004 1, 3, 202), (9, .ifCond .ne 14, 3, 0), (12, .sipush 0, 1, 0), (13, .ireturn, 1, 0), (14, .aload 0, 1, 0), 
  (15, .iload 1, 1, 0), (16, .sipush 0, 1, 0), (17, .invokeinterface 7113 2, 3, 269), (20, .aload 0, 1, 0), (21, .getfield 240, 3, 29), (24, .sipush 0, 1, 0), (25, .iaload, 1, 0), (26, .ireturn, 1, 0)]
noncomputable def am_m7115 : am_M := (7115, ("depth", "(I)I"), prog_9_method_115_code, 2, (some .int), [], [], am_t7115_0)
noncomputable def am_t7116_0 : List am_I := [
  (0, .aload 0, 1, 0), (1, .iload 1, 1, 0), (2, .iload 2, 1, 0), (3, .invokeinterface 7095 2, 3, 261), (6, .ifCond .eq 18, 3, 0), (9, .aload 0, 1, 0), (10, .iload 1, 1, 0), (11, .iload 2, 1, 0), (12, .invokeinterface 7033 2, 3, 140), 
  (15, .goto 19, 3, 0), (18, .sipush 0, 1, 0), (19, .ireturn, 1, 0)]
noncomputable def am_m7116 : am_M := (7116, ("base", "(II)I"), prog_9_method_116_code, 3, (some .int), [], [], am_t7116_0)
noncomputable def am_t7117_0 : List am_I := [
  (0, .aload 0, 1, 0), (1, .iload 1, 1, 0), (2, .iload 2, 1, 0), (3, .invokeinterface 7095 2, 3, 261), (6, .ifCond .eq 18, 3, 0), (9, .aload 0, 1, 0), (10, .iload 1, 1, 0), (11, .iload 2, 1, 0), (12, .invokeinterface 7033 2, 3, 140), 
  (15, .goto 19, 3, 0), (18, .sipush 0, 1, 0), (19, .ireturn, 1, 0)]
noncomputable def am_m7117 : am_M := (7117, ("baseByMarks", "(II)I"), prog_9_method_117_code, 3, (some .int), [], [], am_t7117_0)
noncomputable def am_t7118_0 : List am_I := [
  (0, .aload 0, 1, 0), (1, .iload 1, 1, 0), (2, .iload 2, 1, 0), (3, .invokeinterface 7095 2, 3, 261), (6, .ifCond .ne 11, 3, 0), (9, .sipush 0, 1, 0), (10, .ireturn, 1, 0), (11, .aload 0, 1, 0), (12, .invokeinterface 7028 0, 3, 82), 
  (15, .aload 0, 1, 0), (16, .getfield 233, 3, 25), (19, .iload 1, 1, 0), (20, .laload, 1, 0), (21, .aload 0, 1, 0), (22, .getfield 233, 3, 25), (25, .iload 2, 1, 0), (26, .laload, 1, 0), (27, .land, 1, 0), (28, .lstore 3, 1, 0), 
  (29, .sipush 0, 1, 0), (30, .istore 5, 2, 0), (32, .sipush 0, 1, 0), (33, .istore 6, 2, 0), (35, .iload 6, 2, 0), (37, .aload 0, 1, 0), (38, .getfield 224, 3, 7), (41, .sipush 1762, 3, 0), (44, .iaload, 1, 0), (45, .if_icmp .ge 142, 3, 0), 
  (48, .lload 3, 1, 0), (49, .iload 6, 2, 0), (51, .multianewarray 7029 2, 3, 78), (54, .istore 7, 2, 0), (56, .sipush 0, 1, 0), (57, .istore 8, 2, 0), (59, .iload 8, 2, 0), (61, .aload 0, 1, 0), (62, .getfield 224, 3, 7), 
  (65, .sipush 1762, 3, 0), (68, .iaload, 1, 0), (69, .if_icmp .ge 121, 3, 0), (72, .iload 7, 2, 0), (74, .ifCond .eq 112, 3, 0), (77, .iload 8, 2, 0), (79, .iload 6, 2, 0), (81, .if_icmp .eq 108, 3, 0), (84, .lload 3, 1, 0), 
  (85, .iload 8, 2, 0), (87, .multianewarray 7029 2, 3, 78), (90, .ifCond .eq 108, 3, 0), (93, .aload 0, 1, 0), (94, .getfield 233, 3, 25), (97, .iload 8, 2, 0), (99, .laload, 1, 0), (100, .iload 6, 2, 0), (102, .multianewarray 7029 2, 3, 78), 
  (105, .ifCond .ne 112, 3, 0), (108, .sipush 1, 1, 0), (109, .goto 113, 3, 0), (112, .sipush 0, 1, 0), (113, .istore 7, 2, 0), (115, .iinc 8 1, 3, 0), (118, .goto 59, 3, 0), (121, .iload 5, 2, 0), (123, .iload 7, 2, 0), 
  (125, .ifCond .eq 132, 3, 0), (128, .sipush 1, 1, 0), (129, .goto 133, 3, 0), (132, .sipush 0, 1, 0), (133, .iadd, 1, 0), (134, .istore 5, 2, 0), (136, .iinc 6 1, 3, 0), (139, .goto 35, 3, 0), (142, .iload 5, 2, 0), (144, .ireturn, 1, 0)
  ]
noncomputable def am_m7118 : am_M := (7118, ("bestCommon", "(II)I"), prog_9_method_118_code, 9, (some .int), [], [], am_t7118_0)
noncomputable def am_t7119_0 : List am_I := [
  (0, .aload 0, 1, 0), (1, .iload 1, 1, 0), (2, .multianewarray 7013 1, 3, 131), (5, .invokeinterface 7004 1, 3, 202), (8, .ifCond .ne 13, 3, 0), (11, .sipush 0, 1, 0), (12, .ireturn, 1, 0), (13, .aload 0, 1, 0), (14, .iload 1, 1, 0), 
  (15, .invokeinterface 7014 1, 3, 54), (18, .istore 3, 1, 0), (19, .iload 3, 1, 0), (20, .ifCond .ge 29, 3, 0), (23, .aload 0, 1, 0), (24, .sipush 2, 1, 0), (25, .invokeinterface 7003 1, 3, 43), (28, .ireturn, 1, 0), (29, .aload 0, 1, 0), 
  (30, .aload 0, 1, 0), (31, .invokeinterface 7015 0, 3, 57), (34, .iload 3, 1, 0), (35, .invokeinterface 7033 2, 3, 140), (38, .multianewarray 7016 1, 3, 61), (41, .istore 4, 2, 0), (43, .iload 2, 1, 0), (44, .ifCond .eq 67, 3, 0), 
  (47, .aload 0, 1, 0), (48, .iload 4, 2, 0), (50, .iload 3, 1, 0), (51, .multianewarray 7016 1, 3, 61), (54, .aload 0, 1, 0), (55, .invokeinterface 7015 0, 3, 57), (58, .multianewarray 7016 1, 3, 61), (61, .invokeinterface 7026 3, 3, 118), 
  (64, .goto 84, 3, 0), (67, .aload 0, 1, 0), (68, .iload 4, 2, 0), (70, .iload 3, 1, 0), (71, .multianewarray 7016 1, 3, 61), (74, .aload 0, 1, 0), (75, .invokeinterface 7015 0, 3, 57), (78, .multianewarray 7016 1, 3, 61), 
  (81, .invokeinterface 7025 3, 3, 122), (84, .ireturn, 1, 0)]
noncomputable def am_m7119 : am_M := (7119, ("would", "(IZ)I"), prog_9_method_119_code, 5, (some .int), [], [], am_t7119_0)
noncomputable def am_t7120_0 : List am_I := [
  (0, .aload 0, 1, 0), (1, .iload 1, 1, 0), (2, .sipush 1, 1, 0), (3, .invokeinterface 7119 2, 3, 273), (6, .ireturn, 1, 0)]
noncomputable def am_m7120 : am_M := (7120, ("wouldConflict", "(I)I"), prog_9_method_120_code, 2, (some .int), [], [], am_t7120_0)
noncomputable def am_t7121_0 : List am_I := [
  (0, .aload 0, 1, 0), (1, .iload 1, 1, 0), (2, .sipush 0, 1, 0), (3, .invokeinterface 7119 2, 3, 273), (6, .ireturn, 1, 0)]
noncomputable def am_m7121 : am_M := (7121, ("wouldBecome", "(I)I"), prog_9_method_121_code, 2, (some .int), [], [], am_t7121_0)
noncomputable def am_t7122_0 : List am_I := [
  (0, .aload 0, 1, 0), (1, .sipush 0, 1, 0), (2, .putfield 232, 3, 32), (5, .sipush 0, 1, 0), (6, .istore 1, 1, 0), (7, .sipush 0, 1, 0), (8, .istore 2, 1, 0), (9, .iload 2, 1, 0), (10, .aload 0, 1, 0), (11, .getfield 224, 3, 7), 
  (14, .sipush 1762, 3, 0), (17, .iaload, 1, 0), (18, .if_icmp .ge 48, 3, 0), (21, .iload 1, 1, 0), (22, .aload 0, 1, 0), (23, .getfield 224, 3, 7), (26, .sipush 1500, 3, 0), (29, .iload 2, 1, 0), (30, .iadd, 1, 0), (31, .iaload, 1, 0), 
  (32, .ifCond .le 39, 3, 0), (35, .sipush 1, 1, 0), (36, .goto 40, 3, 0), (39, .sipush 0, 1, 0), (40, .iadd, 1, 0), (41, .istore 1, 1, 0), (42, .iinc 2 1, 3, 0), (45, .goto 9, 3, 0), (48, .iload 1, 1, 0), (49, .ireturn, 1, 0)
  ]
noncomputable def am_m7122 : am_M := (7122, ("merges", "()I"), prog_9_method_122_code, 3, (some .int), [], [], am_t7122_0)
noncomputable def am_t7123_0 : List am_I := [
  (0, .aload 0, 1, 0), (1, .sipush 0, 1, 0), (2, .putfield 232, 3, 32), (5, .aload 0, 1, 0), (6, .getfield 224, 3, 7), (9, .sipush 1763, 3, 0), (12, .iaload, 1, 0), (13, .ireturn, 1, 0)]
noncomputable def am_m7123 : am_M := (7123, ("allConflicts", "()I"), prog_9_method_123_code, 1, (some .int), [], [], am_t7123_0)
noncomputable def am_t9000_0 : List am_I := [
  (0, .sipush 0, 1, 0), (1, .istore 2, 1, 0), (2, .aload 0, 1, 0), (3, .arraylength, 1, 0), (4, .istore 3, 1, 0), (5, .iload 2, 1, 0), (6, .iload 3, 1, 0), (7, .if_icmp .ge 20, 3, 0), (10, .aload 0, 1, 0), (11, .iload 2, 1, 0), 
  (12, .iload 1, 1, 0), (13, .iastore, 1, 0), (14, .iinc 2 1, 3, 0), (17, .goto 5, 3, 0), (20, .return_, 1, 0)]
noncomputable def am_m9000 : am_M := (9000, ("fill", "([II)V"), prog_18_method_103_code, 4, none, [], [], am_t9000_0)
noncomputable def am_t8001_0 : List am_I := [
  (0, .aload 2, 1, 0), (1, .sipush 0, 1, 0), (2, .aload 0, 1, 0), (3, .iload 1, 1, 0), (4, .invokeinterface 6002 1, 3, 7), (7, .i2l, 1, 0), (8, .lastore, 1, 0), (9, .goto 18, 3, 0), (13, .sipush 1, 1, 0), (14, .ireturn, 1, 0), 
  (16, .sipush 2, 1, 0), (17, .ireturn, 1, 0), (18, .sipush 0, 1, 0), (19, .ireturn, 1, 0)]
noncomputable def am_m8001 : am_M := (8001, ("type", "(LBranchedSource;I[J)I"), method_3_code, 4, (some .int), [(0, 9, 12, 13), (0, 9, 15, 15)], [(0, 9, 12, 0, 3, 1), (0, 9, 15, 1, 3, 1)], am_t8001_0)
noncomputable def am_t8002_0 : List am_I := [
  (0, .aload 1, 1, 0), (1, .sipush 0, 1, 0), (2, .aload 0, 1, 0), (3, .invokeinterface 6005 0, 3, 17), (6, .i2l, 1, 0), (7, .lastore, 1, 0), (8, .goto 14, 3, 0), (12, .sipush 1, 1, 0), (13, .ireturn, 1, 0), (14, .sipush 0, 1, 0), 
  (15, .ireturn, 1, 0)]
noncomputable def am_m8002 : am_M := (8002, ("runOrders", "(LBranchedSource;[J)I"), method_4_code, 3, (some .int), [(0, 8, 11, 15)], [(0, 8, 11, 1, 2, 1)], am_t8002_0)
noncomputable def am_t8003_0 : List am_I := [
  (0, .aload 4, 2, 0), (2, .sipush 0, 1, 0), (3, .aload 0, 1, 0), (4, .iload 1, 1, 0), (5, .iload 2, 1, 0), (6, .iload 3, 1, 0), (7, .invokeinterface 6006 3, 3, 21), (10, .i2l, 1, 0), (11, .lastore, 1, 0), (12, .goto 19, 3, 0), 
  (17, .sipush 1, 1, 0), (18, .ireturn, 1, 0), (19, .sipush 0, 1, 0), (20, .ireturn, 1, 0)]
noncomputable def am_m8003 : am_M := (8003, ("edit", "(LBranchedSource;III[J)I"), method_5_code, 6, (some .int), [(0, 12, 15, 13)], [(0, 12, 15, 0, 5, 2)], am_t8003_0)
noncomputable def am_t8004_0 : List am_I := [
  (0, .aload 1, 1, 0), (1, .sipush 0, 1, 0), (2, .aload 0, 1, 0), (3, .invokeinterface 6007 0, 3, 25), (6, .i2l, 1, 0), (7, .lastore, 1, 0), (8, .goto 14, 3, 0), (12, .sipush 1, 1, 0), (13, .ireturn, 1, 0), (14, .sipush 0, 1, 0), 
  (15, .ireturn, 1, 0)]
noncomputable def am_m8004 : am_M := (8004, ("commit", "(LBranchedSource;[J)I"), method_6_code, 3, (some .int), [(0, 8, 11, 15)], [(0, 8, 11, 1, 2, 1)], am_t8004_0)
noncomputable def am_t8005_0 : List am_I := [
  (0, .aload 2, 1, 0), (1, .sipush 0, 1, 0), (2, .aload 0, 1, 0), (3, .iload 1, 1, 0), (4, .invokeinterface 6008 1, 3, 28), (7, .i2l, 1, 0), (8, .lastore, 1, 0), (9, .goto 15, 3, 0), (13, .sipush 1, 1, 0), (14, .ireturn, 1, 0), 
  (15, .sipush 0, 1, 0), (16, .ireturn, 1, 0)]
noncomputable def am_m8005 : am_M := (8005, ("reset", "(LBranchedSource;I[J)I"), method_7_code, 4, (some .int), [(0, 9, 12, 13)], [(0, 9, 12, 0, 3, 1)], am_t8005_0)
noncomputable def am_t8006_0 : List am_I := [
  (0, .aload 1, 1, 0), (1, .sipush 0, 1, 0), (2, .aload 0, 1, 0), (3, .invokeinterface 6009 0, 3, 31), (6, .i2l, 1, 0), (7, .lastore, 1, 0), (8, .goto 14, 3, 0), (12, .sipush 1, 1, 0), (13, .ireturn, 1, 0), (14, .sipush 0, 1, 0), 
  (15, .ireturn, 1, 0)]
noncomputable def am_m8006 : am_M := (8006, ("putAside", "(LBranchedSource;[J)I"), method_8_code, 3, (some .int), [(0, 8, 11, 15)], [(0, 8, 11, 1, 2, 1)], am_t8006_0)
noncomputable def am_t8007_0 : List am_I := [
  (0, .aload 1, 1, 0), (1, .sipush 0, 1, 0), (2, .aload 0, 1, 0), (3, .invokeinterface 6010 0, 3, 34), (6, .i2l, 1, 0), (7, .lastore, 1, 0), (8, .goto 14, 3, 0), (12, .sipush 1, 1, 0), (13, .ireturn, 1, 0), (14, .sipush 0, 1, 0), 
  (15, .ireturn, 1, 0)]
noncomputable def am_m8007 : am_M := (8007, ("takeBack", "(LBranchedSource;[J)I"), method_9_code, 3, (some .int), [(0, 8, 11, 15)], [(0, 8, 11, 1, 2, 1)], am_t8007_0)
noncomputable def am_t8008_0 : List am_I := [
  (0, .aload 1, 1, 0), (1, .sipush 0, 1, 0), (2, .aload 0, 1, 0), (3, .invokeinterface 6011 0, 3, 37), (6, .i2l, 1, 0), (7, .lastore, 1, 0), (8, .goto 14, 3, 0), (12, .sipush 1, 1, 0), (13, .ireturn, 1, 0), (14, .sipush 0, 1, 0), 
  (15, .ireturn, 1, 0)]
noncomputable def am_m8008 : am_M := (8008, ("newBranch", "(LBranchedSource;[J)I"), method_10_code, 3, (some .int), [(0, 8, 11, 15)], [(0, 8, 11, 1, 2, 1)], am_t8008_0)
noncomputable def am_t8009_0 : List am_I := [
  (0, .aload 2, 1, 0), (1, .sipush 0, 1, 0), (2, .aload 0, 1, 0), (3, .iload 1, 1, 0), (4, .invokeinterface 6012 1, 3, 40), (7, .i2l, 1, 0), (8, .lastore, 1, 0), (9, .goto 18, 3, 0), (13, .sipush 1, 1, 0), (14, .ireturn, 1, 0), 
  (16, .sipush 2, 1, 0), (17, .ireturn, 1, 0), (18, .sipush 0, 1, 0), (19, .ireturn, 1, 0)]
noncomputable def am_m8009 : am_M := (8009, ("dropBranch", "(LBranchedSource;I[J)I"), method_11_code, 4, (some .int), [(0, 9, 12, 13), (0, 9, 15, 15)], [(0, 9, 12, 0, 3, 1), (0, 9, 15, 1, 3, 1)], am_t8009_0)
noncomputable def am_t8010_0 : List am_I := [
  (0, .aload 2, 1, 0), (1, .sipush 0, 1, 0), (2, .aload 0, 1, 0), (3, .iload 1, 1, 0), (4, .invokeinterface 6013 1, 3, 43), (7, .i2l, 1, 0), (8, .lastore, 1, 0), (9, .goto 18, 3, 0), (13, .sipush 1, 1, 0), (14, .ireturn, 1, 0), 
  (16, .sipush 2, 1, 0), (17, .ireturn, 1, 0), (18, .sipush 0, 1, 0), (19, .ireturn, 1, 0)]
noncomputable def am_m8010 : am_M := (8010, ("switchTo", "(LBranchedSource;I[J)I"), method_12_code, 4, (some .int), [(0, 9, 12, 13), (0, 9, 15, 15)], [(0, 9, 12, 0, 3, 1), (0, 9, 15, 1, 3, 1)], am_t8010_0)
noncomputable def am_t8011_0 : List am_I := [
  (0, .aload 2, 1, 0), (1, .sipush 0, 1, 0), (2, .aload 0, 1, 0), (3, .iload 1, 1, 0), (4, .invokeinterface 6014 1, 3, 46), (7, .i2l, 1, 0), (8, .lastore, 1, 0), (9, .goto 18, 3, 0), (13, .sipush 1, 1, 0), (14, .ireturn, 1, 0), 
  (16, .sipush 2, 1, 0), (17, .ireturn, 1, 0), (18, .sipush 0, 1, 0), (19, .ireturn, 1, 0)]
noncomputable def am_m8011 : am_M := (8011, ("merge", "(LBranchedSource;I[J)I"), method_13_code, 4, (some .int), [(0, 9, 12, 13), (0, 9, 15, 15)], [(0, 9, 12, 0, 3, 1), (0, 9, 15, 1, 3, 1)], am_t8011_0)
noncomputable def am_t8012_0 : List am_I := [
  (0, .aload 2, 1, 0), (1, .sipush 0, 1, 0), (2, .aload 0, 1, 0), (3, .iload 1, 1, 0), (4, .invokeinterface 6015 1, 3, 49), (7, .i2l, 1, 0), (8, .lastore, 1, 0), (9, .goto 18, 3, 0), (13, .sipush 1, 1, 0), (14, .ireturn, 1, 0), 
  (16, .sipush 2, 1, 0), (17, .ireturn, 1, 0), (18, .sipush 0, 1, 0), (19, .ireturn, 1, 0)]
noncomputable def am_m8012 : am_M := (8012, ("pick", "(LBranchedSource;I[J)I"), method_14_code, 4, (some .int), [(0, 9, 12, 13), (0, 9, 15, 15)], [(0, 9, 12, 0, 3, 1), (0, 9, 15, 1, 3, 1)], am_t8012_0)
noncomputable def am_t8013_0 : List am_I := [
  (0, .aload 2, 1, 0), (1, .sipush 0, 1, 0), (2, .aload 0, 1, 0), (3, .iload 1, 1, 0), (4, .invokeinterface 6016 1, 3, 52), (7, .i2l, 1, 0), (8, .lastore, 1, 0), (9, .goto 18, 3, 0), (13, .sipush 1, 1, 0), (14, .ireturn, 1, 0), 
  (16, .sipush 2, 1, 0), (17, .ireturn, 1, 0), (18, .sipush 0, 1, 0), (19, .ireturn, 1, 0)]
noncomputable def am_m8013 : am_M := (8013, ("revert", "(LBranchedSource;I[J)I"), method_15_code, 4, (some .int), [(0, 9, 12, 13), (0, 9, 15, 15)], [(0, 9, 12, 0, 3, 1), (0, 9, 15, 1, 3, 1)], am_t8013_0)
noncomputable def am_t8014_0 : List am_I := [
  (0, .aload 2, 1, 0), (1, .sipush 0, 1, 0), (2, .aload 0, 1, 0), (3, .iload 1, 1, 0), (4, .invokeinterface 6017 1, 3, 55), (7, .i2l, 1, 0), (8, .lastore, 1, 0), (9, .goto 18, 3, 0), (13, .sipush 1, 1, 0), (14, .ireturn, 1, 0), 
  (16, .sipush 2, 1, 0), (17, .ireturn, 1, 0), (18, .sipush 0, 1, 0), (19, .ireturn, 1, 0)]
noncomputable def am_m8014 : am_M := (8014, ("replay", "(LBranchedSource;I[J)I"), method_16_code, 4, (some .int), [(0, 9, 12, 13), (0, 9, 15, 15)], [(0, 9, 12, 0, 3, 1), (0, 9, 15, 1, 3, 1)], am_t8014_0)
noncomputable def am_t8015_0 : List am_I := [
  (0, .aload 4, 2, 0), (2, .sipush 0, 1, 0), (3, .aload 0, 1, 0), (4, .iload 1, 1, 0), (5, .iload 2, 1, 0), (6, .iload 3, 1, 0), (7, .invokeinterface 6018 3, 3, 58), (10, .i2l, 1, 0), (11, .lastore, 1, 0), (12, .goto 23, 3, 0), 
  (17, .sipush 1, 1, 0), (18, .ireturn, 1, 0), (21, .sipush 2, 1, 0), (22, .ireturn, 1, 0), (23, .sipush 0, 1, 0), (24, .ireturn, 1, 0)]
noncomputable def am_m8015 : am_M := (8015, ("resolve", "(LBranchedSource;IIZ[J)I"), method_17_code, 6, (some .int), [(0, 12, 15, 13), (0, 12, 19, 15)], [(0, 12, 15, 0, 5, 2), (0, 12, 19, 1, 5, 2)], am_t8015_0)
noncomputable def am_t8016_0 : List am_I := [
  (0, .aload 1, 1, 0), (1, .sipush 0, 1, 0), (2, .aload 0, 1, 0), (3, .invokeinterface 6019 0, 3, 62), (6, .i2l, 1, 0), (7, .lastore, 1, 0), (8, .goto 14, 3, 0), (12, .sipush 1, 1, 0), (13, .ireturn, 1, 0), (14, .sipush 0, 1, 0), 
  (15, .ireturn, 1, 0)]
noncomputable def am_m8016 : am_M := (8016, ("abort", "(LBranchedSource;[J)I"), method_18_code, 3, (some .int), [(0, 8, 11, 15)], [(0, 8, 11, 1, 2, 1)], am_t8016_0)
noncomputable def am_t8017_0 : List am_I := [
  (0, .aload 3, 1, 0), (1, .sipush 0, 1, 0), (2, .aload 0, 1, 0), (3, .iload 1, 1, 0), (4, .iload 2, 1, 0), (5, .invokeinterface 6020 2, 3, 65), (8, .ifCond .eq 15, 3, 0), (11, .lconst 1, 1, 0), (12, .goto 16, 3, 0), (15, .lconst 0, 1, 0), 
  (16, .lastore, 1, 0), (17, .goto 24, 3, 0), (22, .sipush 1, 1, 0), (23, .ireturn, 1, 0), (24, .sipush 0, 1, 0), (25, .ireturn, 1, 0)]
noncomputable def am_m8017 : am_M := (8017, ("isConflict", "(LBranchedSource;II[J)I"), method_19_code, 5, (some .int), [(0, 17, 20, 13)], [(0, 17, 20, 0, 4, 2)], am_t8017_0)
noncomputable def am_t8018_0 : List am_I := [
  (0, .aload 3, 1, 0), (1, .sipush 0, 1, 0), (2, .aload 0, 1, 0), (3, .iload 1, 1, 0), (4, .iload 2, 1, 0), (5, .invokeinterface 6021 2, 3, 69), (8, .i2l, 1, 0), (9, .lastore, 1, 0), (10, .goto 21, 3, 0), (15, .sipush 1, 1, 0), 
  (16, .ireturn, 1, 0), (19, .sipush 2, 1, 0), (20, .ireturn, 1, 0), (21, .sipush 0, 1, 0), (22, .ireturn, 1, 0)]
noncomputable def am_m8018 : am_M := (8018, ("theirs", "(LBranchedSource;II[J)I"), method_20_code, 5, (some .int), [(0, 10, 13, 13), (0, 10, 17, 15)], [(0, 10, 13, 0, 4, 2), (0, 10, 17, 1, 4, 2)], am_t8018_0)
noncomputable def am_t8019_0 : List am_I := [
  (0, .aload 3, 1, 0), (1, .sipush 0, 1, 0), (2, .aload 0, 1, 0), (3, .iload 1, 1, 0), (4, .iload 2, 1, 0), (5, .invokeinterface 6027 2, 3, 73), (8, .i2l, 1, 0), (9, .lastore, 1, 0), (10, .goto 17, 3, 0), (15, .sipush 1, 1, 0), 
  (16, .ireturn, 1, 0), (17, .sipush 0, 1, 0), (18, .ireturn, 1, 0)]
noncomputable def am_m8019 : am_M := (8019, ("lineOf", "(LBranchedSource;II[J)I"), method_21_code, 5, (some .int), [(0, 10, 13, 13)], [(0, 10, 13, 0, 4, 2)], am_t8019_0)
noncomputable def am_t8020_0 : List am_I := [
  (0, .aload 3, 1, 0), (1, .sipush 0, 1, 0), (2, .aload 0, 1, 0), (3, .iload 1, 1, 0), (4, .iload 2, 1, 0), (5, .invokeinterface 6028 2, 3, 76), (8, .ifCond .eq 15, 3, 0), (11, .lconst 1, 1, 0), (12, .goto 16, 3, 0), (15, .lconst 0, 1, 0), 
  (16, .lastore, 1, 0), (17, .goto 24, 3, 0), (22, .sipush 1, 1, 0), (23, .ireturn, 1, 0), (24, .sipush 0, 1, 0), (25, .ireturn, 1, 0)]
noncomputable def am_m8020 : am_M := (8020, ("isChanged", "(LBranchedSource;II[J)I"), method_22_code, 5, (some .int), [(0, 17, 20, 13)], [(0, 17, 20, 0, 4, 2)], am_t8020_0)
noncomputable def am_t8021_0 : List am_I := [
  (0, .aload 4, 2, 0), (2, .sipush 0, 1, 0), (3, .aload 0, 1, 0), (4, .iload 1, 1, 0), (5, .iload 2, 1, 0), (6, .iload 3, 1, 0), (7, .invokeinterface 6030 3, 3, 79), (10, .i2l, 1, 0), (11, .lastore, 1, 0), (12, .goto 19, 3, 0), 
  (17, .sipush 1, 1, 0), (18, .ireturn, 1, 0), (19, .sipush 0, 1, 0), (20, .ireturn, 1, 0)]
noncomputable def am_m8021 : am_M := (8021, ("lineAt", "(LBranchedSource;III[J)I"), method_23_code, 6, (some .int), [(0, 12, 15, 13)], [(0, 12, 15, 0, 5, 2)], am_t8021_0)
noncomputable def am_t8022_0 : List am_I := [
  (0, .aload 3, 1, 0), (1, .sipush 0, 1, 0), (2, .aload 0, 1, 0), (3, .iload 1, 1, 0), (4, .iload 2, 1, 0), (5, .invokeinterface 6031 2, 3, 82), (8, .i2l, 1, 0), (9, .lastore, 1, 0), (10, .goto 17, 3, 0), (15, .sipush 1, 1, 0), 
  (16, .ireturn, 1, 0), (17, .sipush 0, 1, 0), (18, .ireturn, 1, 0)]
noncomputable def am_m8022 : am_M := (8022, ("differences", "(LBranchedSource;II[J)I"), method_24_code, 5, (some .int), [(0, 10, 13, 13)], [(0, 10, 13, 0, 4, 2)], am_t8022_0)
noncomputable def am_t8023_0 : List am_I := [
  (0, .aload 4, 2, 0), (2, .sipush 0, 1, 0), (3, .aload 0, 1, 0), (4, .iload 1, 1, 0), (5, .iload 2, 1, 0), (6, .iload 3, 1, 0), (7, .invokeinterface 6032 3, 3, 85), (10, .i2l, 1, 0), (11, .lastore, 1, 0), (12, .goto 19, 3, 0), 
  (17, .sipush 1, 1, 0), (18, .ireturn, 1, 0), (19, .sipush 0, 1, 0), (20, .ireturn, 1, 0)]
noncomputable def am_m8023 : am_M := (8023, ("broughtBy", "(LBranchedSource;III[J)I"), method_25_code, 6, (some .int), [(0, 12, 15, 13)], [(0, 12, 15, 0, 5, 2)], am_t8023_0)
noncomputable def am_t8024_0 : List am_I := [
  (0, .aload 5, 2, 0), (2, .sipush 0, 1, 0), (3, .aload 0, 1, 0), (4, .iload 1, 1, 0), (5, .iload 2, 1, 0), (6, .iload 3, 1, 0), (7, .iload 4, 2, 0), (9, .invokeinterface 6033 4, 3, 88), (12, .i2l, 1, 0), (13, .lastore, 1, 0), 
  (14, .goto 21, 3, 0), (19, .sipush 1, 1, 0), (20, .ireturn, 1, 0), (21, .sipush 0, 1, 0), (22, .ireturn, 1, 0)]
noncomputable def am_m8024 : am_M := (8024, ("firstWith", "(LBranchedSource;IIII[J)I"), method_26_code, 7, (some .int), [(0, 14, 17, 13)], [(0, 14, 17, 0, 6, 2)], am_t8024_0)
noncomputable def am_t8025_0 : List am_I := [
  (0, .aload 2, 1, 0), (1, .sipush 0, 1, 0), (2, .aload 0, 1, 0), (3, .iload 1, 1, 0), (4, .invokeinterface 6036 1, 3, 92), (7, .i2l, 1, 0), (8, .lastore, 1, 0), (9, .goto 15, 3, 0), (13, .sipush 1, 1, 0), (14, .ireturn, 1, 0), 
  (15, .sipush 0, 1, 0), (16, .ireturn, 1, 0)]
noncomputable def am_m8025 : am_M := (8025, ("firstParent", "(LBranchedSource;I[J)I"), method_27_code, 4, (some .int), [(0, 9, 12, 13)], [(0, 9, 12, 0, 3, 1)], am_t8025_0)
noncomputable def am_t8026_0 : List am_I := [
  (0, .aload 2, 1, 0), (1, .sipush 0, 1, 0), (2, .aload 0, 1, 0), (3, .iload 1, 1, 0), (4, .invokeinterface 6037 1, 3, 95), (7, .i2l, 1, 0), (8, .lastore, 1, 0), (9, .goto 15, 3, 0), (13, .sipush 1, 1, 0), (14, .ireturn, 1, 0), 
  (15, .sipush 0, 1, 0), (16, .ireturn, 1, 0)]
noncomputable def am_m8026 : am_M := (8026, ("secondParent", "(LBranchedSource;I[J)I"), method_28_code, 4, (some .int), [(0, 9, 12, 13)], [(0, 9, 12, 0, 3, 1)], am_t8026_0)
noncomputable def am_t8027_0 : List am_I := [
  (0, .aload 2, 1, 0), (1, .sipush 0, 1, 0), (2, .aload 0, 1, 0), (3, .iload 1, 1, 0), (4, .invokeinterface 6039 1, 3, 98), (7, .ifCond .eq 14, 3, 0), (10, .lconst 1, 1, 0), (11, .goto 15, 3, 0), (14, .lconst 0, 1, 0), (15, .lastore, 1, 0), 
  (16, .goto 22, 3, 0), (20, .sipush 1, 1, 0), (21, .ireturn, 1, 0), (22, .sipush 0, 1, 0), (23, .ireturn, 1, 0)]
noncomputable def am_m8027 : am_M := (8027, ("isBranch", "(LBranchedSource;I[J)I"), method_29_code, 4, (some .int), [(0, 16, 19, 13)], [(0, 16, 19, 0, 3, 1)], am_t8027_0)
noncomputable def am_t8028_0 : List am_I := [
  (0, .aload 2, 1, 0), (1, .sipush 0, 1, 0), (2, .aload 0, 1, 0), (3, .iload 1, 1, 0), (4, .invokeinterface 6040 1, 3, 102), (7, .i2l, 1, 0), (8, .lastore, 1, 0), (9, .goto 18, 3, 0), (13, .sipush 1, 1, 0), (14, .ireturn, 1, 0), 
  (16, .sipush 2, 1, 0), (17, .ireturn, 1, 0), (18, .sipush 0, 1, 0), (19, .ireturn, 1, 0)]
noncomputable def am_m8028 : am_M := (8028, ("standsAt", "(LBranchedSource;I[J)I"), method_30_code, 4, (some .int), [(0, 9, 12, 13), (0, 9, 15, 15)], [(0, 9, 12, 0, 3, 1), (0, 9, 15, 1, 3, 1)], am_t8028_0)
noncomputable def am_t8029_0 : List am_I := [
  (0, .aload 3, 1, 0), (1, .sipush 0, 1, 0), (2, .aload 0, 1, 0), (3, .iload 1, 1, 0), (4, .iload 2, 1, 0), (5, .invokeinterface 6045 2, 3, 105), (8, .ifCond .eq 15, 3, 0), (11, .lconst 1, 1, 0), (12, .goto 16, 3, 0), (15, .lconst 0, 1, 0), 
  (16, .lastore, 1, 0), (17, .goto 24, 3, 0), (22, .sipush 1, 1, 0), (23, .ireturn, 1, 0), (24, .sipush 0, 1, 0), (25, .ireturn, 1, 0)]
noncomputable def am_m8029 : am_M := (8029, ("reaches", "(LBranchedSource;II[J)I"), method_31_code, 5, (some .int), [(0, 17, 20, 13)], [(0, 17, 20, 0, 4, 2)], am_t8029_0)
noncomputable def am_t8030_0 : List am_I := [
  (0, .aload 2, 1, 0), (1, .sipush 0, 1, 0), (2, .aload 0, 1, 0), (3, .iload 1, 1, 0), (4, .invokeinterface 6046 1, 3, 108), (7, .i2l, 1, 0), (8, .lastore, 1, 0), (9, .goto 15, 3, 0), (13, .sipush 1, 1, 0), (14, .ireturn, 1, 0), 
  (15, .sipush 0, 1, 0), (16, .ireturn, 1, 0)]
noncomputable def am_m8030 : am_M := (8030, ("history", "(LBranchedSource;I[J)I"), method_32_code, 4, (some .int), [(0, 9, 12, 13)], [(0, 9, 12, 0, 3, 1)], am_t8030_0)
noncomputable def am_t8031_0 : List am_I := [
  (0, .aload 3, 1, 0), (1, .sipush 0, 1, 0), (2, .aload 0, 1, 0), (3, .iload 1, 1, 0), (4, .iload 2, 1, 0), (5, .invokeinterface 6047 2, 3, 111), (8, .i2l, 1, 0), (9, .lastore, 1, 0), (10, .goto 17, 3, 0), (15, .sipush 1, 1, 0), 
  (16, .ireturn, 1, 0), (17, .sipush 0, 1, 0), (18, .ireturn, 1, 0)]
noncomputable def am_m8031 : am_M := (8031, ("historyAt", "(LBranchedSource;II[J)I"), method_33_code, 5, (some .int), [(0, 10, 13, 13)], [(0, 10, 13, 0, 4, 2)], am_t8031_0)
noncomputable def am_t8032_0 : List am_I := [
  (0, .aload 3, 1, 0), (1, .sipush 0, 1, 0), (2, .aload 0, 1, 0), (3, .iload 1, 1, 0), (4, .iload 2, 1, 0), (5, .invokeinterface 6048 2, 3, 114), (8, .i2l, 1, 0), (9, .lastore, 1, 0), (10, .goto 17, 3, 0), (15, .sipush 1, 1, 0), 
  (16, .ireturn, 1, 0), (17, .sipush 0, 1, 0), (18, .ireturn, 1, 0)]
noncomputable def am_m8032 : am_M := (8032, ("distance", "(LBranchedSource;II[J)I"), method_34_code, 5, (some .int), [(0, 10, 13, 13)], [(0, 10, 13, 0, 4, 2)], am_t8032_0)
noncomputable def am_t8033_0 : List am_I := [
  (0, .aload 2, 1, 0), (1, .sipush 0, 1, 0), (2, .aload 0, 1, 0), (3, .iload 1, 1, 0), (4, .invokeinterface 6049 1, 3, 117), (7, .i2l, 1, 0), (8, .lastore, 1, 0), (9, .goto 15, 3, 0), (13, .sipush 1, 1, 0), (14, .ireturn, 1, 0), 
  (15, .sipush 0, 1, 0), (16, .ireturn, 1, 0)]
noncomputable def am_m8033 : am_M := (8033, ("depth", "(LBranchedSource;I[J)I"), method_35_code, 4, (some .int), [(0, 9, 12, 13)], [(0, 9, 12, 0, 3, 1)], am_t8033_0)
noncomputable def am_t8034_0 : List am_I := [
  (0, .aload 3, 1, 0), (1, .sipush 0, 1, 0), (2, .aload 0, 1, 0), (3, .iload 1, 1, 0), (4, .iload 2, 1, 0), (5, .invokeinterface 6050 2, 3, 120), (8, .i2l, 1, 0), (9, .lastore, 1, 0), (10, .goto 17, 3, 0), (15, .sipush 1, 1, 0), 
  (16, .ireturn, 1, 0), (17, .sipush 0, 1, 0), (18, .ireturn, 1, 0)]
noncomputable def am_m8034 : am_M := (8034, ("base", "(LBranchedSource;II[J)I"), method_36_code, 5, (some .int), [(0, 10, 13, 13)], [(0, 10, 13, 0, 4, 2)], am_t8034_0)
noncomputable def am_t8035_0 : List am_I := [
  (0, .aload 3, 1, 0), (1, .sipush 0, 1, 0), (2, .aload 0, 1, 0), (3, .iload 1, 1, 0), (4, .iload 2, 1, 0), (5, .invokeinterface 6051 2, 3, 123), (8, .i2l, 1, 0), (9, .lastore, 1, 0), (10, .goto 17, 3, 0), (15, .sipush 1, 1, 0), 
  (16, .ireturn, 1, 0), (17, .sipush 0, 1, 0), (18, .ireturn, 1, 0)]
noncomputable def am_m8035 : am_M := (8035, ("baseByMarks", "(LBranchedSource;II[J)I"), method_37_code, 5, (some .int), [(0, 10, 13, 13)], [(0, 10, 13, 0, 4, 2)], am_t8035_0)
noncomputable def am_t8036_0 : List am_I := [
  (0, .aload 3, 1, 0), (1, .sipush 0, 1, 0), (2, .aload 0, 1, 0), (3, .iload 1, 1, 0), (4, .iload 2, 1, 0), (5, .invokeinterface 6052 2, 3, 126), (8, .i2l, 1, 0), (9, .lastore, 1, 0), (10, .goto 17, 3, 0), (15, .sipush 1, 1, 0), 
  (16, .ireturn, 1, 0), (17, .sipush 0, 1, 0), (18, .ireturn, 1, 0)]
noncomputable def am_m8036 : am_M := (8036, ("bestCommon", "(LBranchedSource;II[J)I"), method_38_code, 5, (some .int), [(0, 10, 13, 13)], [(0, 10, 13, 0, 4, 2)], am_t8036_0)
noncomputable def am_t8037_0 : List am_I := [
  (0, .aload 2, 1, 0), (1, .sipush 0, 1, 0), (2, .aload 0, 1, 0), (3, .iload 1, 1, 0), (4, .invokeinterface 6053 1, 3, 129), (7, .i2l, 1, 0), (8, .lastore, 1, 0), (9, .goto 18, 3, 0), (13, .sipush 1, 1, 0), (14, .ireturn, 1, 0), 
  (16, .sipush 2, 1, 0), (17, .ireturn, 1, 0), (18, .sipush 0, 1, 0), (19, .ireturn, 1, 0)]
noncomputable def am_m8037 : am_M := (8037, ("wouldConflict", "(LBranchedSource;I[J)I"), method_39_code, 4, (some .int), [(0, 9, 12, 13), (0, 9, 15, 15)], [(0, 9, 12, 0, 3, 1), (0, 9, 15, 1, 3, 1)], am_t8037_0)
noncomputable def am_t8038_0 : List am_I := [
  (0, .aload 2, 1, 0), (1, .sipush 0, 1, 0), (2, .aload 0, 1, 0), (3, .iload 1, 1, 0), (4, .invokeinterface 6054 1, 3, 132), (7, .i2l, 1, 0), (8, .lastore, 1, 0), (9, .goto 18, 3, 0), (13, .sipush 1, 1, 0), (14, .ireturn, 1, 0), 
  (16, .sipush 2, 1, 0), (17, .ireturn, 1, 0), (18, .sipush 0, 1, 0), (19, .ireturn, 1, 0)]
noncomputable def am_m8038 : am_M := (8038, ("wouldBecome", "(LBranchedSource;I[J)I"), method_40_code, 4, (some .int), [(0, 9, 12, 13), (0, 9, 15, 15)], [(0, 9, 12, 0, 3, 1), (0, 9, 15, 1, 3, 1)], am_t8038_0)
noncomputable def am_t8039_0 : List am_I := [
  (0, .aload 1, 1, 0), (1, .sipush 0, 1, 0), (2, .aload 0, 1, 0), (3, .invokeinterface 6058 0, 3, 135), (6, .i2l, 1, 0), (7, .lastore, 1, 0), (8, .goto 14, 3, 0), (12, .sipush 1, 1, 0), (13, .ireturn, 1, 0), (14, .sipush 0, 1, 0), 
  (15, .ireturn, 1, 0)]
noncomputable def am_m8039 : am_M := (8039, ("goBack", "(LBranchedSource;[J)I"), method_41_code, 3, (some .int), [(0, 8, 11, 15)], [(0, 8, 11, 1, 2, 1)], am_t8039_0)
noncomputable def am_t8040_0 : List am_I := [
  (0, .aload 1, 1, 0), (1, .sipush 0, 1, 0), (2, .aload 0, 1, 0), (3, .invokeinterface 6059 0, 3, 138), (6, .i2l, 1, 0), (7, .lastore, 1, 0), (8, .goto 14, 3, 0), (12, .sipush 1, 1, 0), (13, .ireturn, 1, 0), (14, .sipush 0, 1, 0), 
  (15, .ireturn, 1, 0)]
noncomputable def am_m8040 : am_M := (8040, ("undo", "(LBranchedSource;[J)I"), method_42_code, 3, (some .int), [(0, 8, 11, 15)], [(0, 8, 11, 1, 2, 1)], am_t8040_0)
noncomputable def am_t8900_0 : List am_I := [
  (0, .new 6, 3, 8), (3, .dup, 1, 0), (4, .invokespecial 6001, 3, 141), (7, .astore 1, 1, 0), (8, .new 7, 3, 142), (11, .dup, 1, 0), (12, .invokespecial 7001, 3, 144), (15, .astore 2, 1, 0), (16, .sipush 1, 1, 0), (17, .newarray .long, 2, 0), 
  (19, .astore 3, 1, 0), (20, .monitorenter, 1, 0), (21, .istore 4, 2, 0), (23, .iload 4, 2, 0), (25, .aload 0, 1, 0), (26, .arraylength, 1, 0), (27, .sipush 5, 1, 0), (28, .isub, 1, 0), (29, .if_icmp .gt 3004, 3, 0), (32, .aload 0, 1, 0), 
  (33, .iload 4, 2, 0), (35, .iaload, 1, 0), (36, .sipush 63, 2, 0), (38, .iand, 1, 0), (39, .tableswitch 2998 0 57 #[284, 340, 353, 366, 410, 490, 534, 590, 634, 678, 722, 778, 834, 890, 946, 1002, 1058, 1154, 1198, 1273, 1341, 1354, 1367, 1380, 1393, 1406, 1474, 1549, 1562, 1642, 1710, 1790, 1882, 1923, 1936, 1992, 2048, 2061, 2124, 2180, 2193, 2206, 2219, 2232, 2307, 2363, 2431, 2499, 2555, 2623, 2691, 2759, 2815, 2871, 2884, 2897, 2910, 2954], 245, 0), 
  (284, .aload 1, 1, 0), (285, .aload 0, 1, 0), (286, .iload 4, 2, 0), (288, .sipush 1, 1, 0), (289, .iadd, 1, 0), (290, .iaload, 1, 0), (291, .aload 3, 1, 0), (292, .multianewarray 8001 3, 3, 145), (295, .istore 5, 2, 0), 
  (297, .aload 2, 1, 0), (298, .aload 0, 1, 0), (299, .iload 4, 2, 0), (301, .sipush 1, 1, 0), (302, .iadd, 1, 0), (303, .iaload, 1, 0), (304, .invokeinterface 7070 1, 3, 150), (307, .istore 6, 2, 0), (309, .aload 2, 1, 0), 
  (310, .invokeinterface 7002 0, 3, 151), (313, .iload 5, 2, 0), (315, .if_icmp .eq 320, 3, 0), (318, .sipush 0, 1, 0), (319, .freturn, 1, 0), (320, .iload 5, 2, 0), (322, .ifCond .ne 337, 3, 0), (325, .aload 3, 1, 0), (326, .sipush 0, 1, 0), 
  (327, .laload, 1, 0), (328, .iload 6, 2, 0), (330, .i2l, 1, 0), (331, .lcmp, 1, 0), (332, .ifCond .eq 337, 3, 0), (335, .sipush 0, 1, 0), (336, .freturn, 1, 0), (337, .goto 2998, 3, 0), (340, .aload 1, 1, 0), (341, .invokeinterface 6003 0, 3, 154), 
  (344, .aload 2, 1, 0), (345, .invokeinterface 7071 0, 3, 157), (348, .if_icmp .eq 2998, 3, 0), (351, .sipush 0, 1, 0), (352, .freturn, 1, 0), (353, .aload 1, 1, 0), (354, .invokeinterface 6004 0, 3, 158), (357, .aload 2, 1, 0), 
  (358, .invokeinterface 7078 0, 3, 161), (361, .if_icmp .eq 2998, 3, 0), (364, .sipush 0, 1, 0), (365, .freturn, 1, 0), (366, .aload 1, 1, 0), (367, .aload 3, 1, 0), (368, .multianewarray 8002 2, 3, 162), (371, .istore 5, 2, 0), 
  (373, .aload 2, 1, 0), (374, .invokeinterface 7080 0, 3, 165), (377, .istore 6, 2, 0), (379, .aload 2, 1, 0), (380, .invokeinterface 7002 0, 3, 151), (383, .iload 5, 2, 0), (385, .if_icmp .eq 390, 3, 0), (388, .sipush 0, 1, 0), 
  (389, .freturn, 1, 0), (390, .iload 5, 2, 0), (392, .ifCond .ne 407, 3, 0), (395, .aload 3, 1, 0), (396, .sipush 0, 1, 0), (397, .laload, 1, 0), (398, .iload 6, 2, 0), (400, .i2l, 1, 0), (401, .lcmp, 1, 0), (402, .ifCond .eq 407, 3, 0), 
  (405, .sipush 0, 1, 0), (406, .freturn, 1, 0), (407, .goto 2998, 3, 0), (410, .aload 1, 1, 0)]
noncomputable def am_t8900_1 : List am_I := [
  (411, .aload 0, 1, 0), (412, .iload 4, 2, 0), (414, .sipush 1, 1, 0), (415, .iadd, 1, 0), (416, .iaload, 1, 0), (417, .aload 0, 1, 0), (418, .iload 4, 2, 0), (420, .sipush 2, 1, 0), (421, .iadd, 1, 0), (422, .iaload, 1, 0), 
  (423, .aload 0, 1, 0), (424, .iload 4, 2, 0), (426, .sipush 3, 1, 0), (427, .iadd, 1, 0), (428, .iaload, 1, 0), (429, .aload 3, 1, 0), (430, .multianewarray 8003 5, 3, 166), (433, .istore 5, 2, 0), (435, .aload 2, 1, 0), 
  (436, .aload 0, 1, 0), (437, .iload 4, 2, 0), (439, .sipush 1, 1, 0), (440, .iadd, 1, 0), (441, .iaload, 1, 0), (442, .aload 0, 1, 0), (443, .iload 4, 2, 0), (445, .sipush 2, 1, 0), (446, .iadd, 1, 0), (447, .iaload, 1, 0), 
  (448, .aload 0, 1, 0), (449, .iload 4, 2, 0), (451, .sipush 3, 1, 0), (452, .iadd, 1, 0), (453, .iaload, 1, 0), (454, .invokeinterface 7053 3, 3, 169), (457, .istore 6, 2, 0), (459, .aload 2, 1, 0), (460, .invokeinterface 7002 0, 3, 151), 
  (463, .iload 5, 2, 0), (465, .if_icmp .eq 470, 3, 0), (468, .sipush 0, 1, 0), (469, .freturn, 1, 0), (470, .iload 5, 2, 0), (472, .ifCond .ne 487, 3, 0), (475, .aload 3, 1, 0), (476, .sipush 0, 1, 0), (477, .laload, 1, 0), 
  (478, .iload 6, 2, 0), (480, .i2l, 1, 0), (481, .lcmp, 1, 0), (482, .ifCond .eq 487, 3, 0), (485, .sipush 0, 1, 0), (486, .freturn, 1, 0), (487, .goto 2998, 3, 0), (490, .aload 1, 1, 0), (491, .aload 3, 1, 0), (492, .multianewarray 8004 2, 3, 170), 
  (495, .istore 5, 2, 0), (497, .aload 2, 1, 0), (498, .invokeinterface 7054 0, 3, 172), (501, .istore 6, 2, 0), (503, .aload 2, 1, 0), (504, .invokeinterface 7002 0, 3, 151), (507, .iload 5, 2, 0), (509, .if_icmp .eq 514, 3, 0), 
  (512, .sipush 0, 1, 0), (513, .freturn, 1, 0), (514, .iload 5, 2, 0), (516, .ifCond .ne 531, 3, 0), (519, .aload 3, 1, 0), (520, .sipush 0, 1, 0), (521, .laload, 1, 0), (522, .iload 6, 2, 0), (524, .i2l, 1, 0), (525, .lcmp, 1, 0), 
  (526, .ifCond .eq 531, 3, 0), (529, .sipush 0, 1, 0), (530, .freturn, 1, 0), (531, .goto 2998, 3, 0), (534, .aload 1, 1, 0), (535, .aload 0, 1, 0), (536, .iload 4, 2, 0), (538, .sipush 1, 1, 0), (539, .iadd, 1, 0), (540, .iaload, 1, 0), 
  (541, .aload 3, 1, 0), (542, .multianewarray 8005 3, 3, 173), (545, .istore 5, 2, 0), (547, .aload 2, 1, 0), (548, .aload 0, 1, 0), (549, .iload 4, 2, 0), (551, .sipush 1, 1, 0), (552, .iadd, 1, 0), (553, .iaload, 1, 0), 
  (554, .invokeinterface 7055 1, 3, 175), (557, .istore 6, 2, 0), (559, .aload 2, 1, 0), (560, .invokeinterface 7002 0, 3, 151), (563, .iload 5, 2, 0), (565, .if_icmp .eq 570, 3, 0)]
noncomputable def am_t8900_2 : List am_I := [
  (568, .sipush 0, 1, 0), (569, .freturn, 1, 0), (570, .iload 5, 2, 0), (572, .ifCond .ne 587, 3, 0), (575, .aload 3, 1, 0), (576, .sipush 0, 1, 0), (577, .laload, 1, 0), (578, .iload 6, 2, 0), (580, .i2l, 1, 0), (581, .lcmp, 1, 0), 
  (582, .ifCond .eq 587, 3, 0), (585, .sipush 0, 1, 0), (586, .freturn, 1, 0), (587, .goto 2998, 3, 0), (590, .aload 1, 1, 0), (591, .aload 3, 1, 0), (592, .multianewarray 8006 2, 3, 176), (595, .istore 5, 2, 0), (597, .aload 2, 1, 0), 
  (598, .invokeinterface 7056 0, 3, 178), (601, .istore 6, 2, 0), (603, .aload 2, 1, 0), (604, .invokeinterface 7002 0, 3, 151), (607, .iload 5, 2, 0), (609, .if_icmp .eq 614, 3, 0), (612, .sipush 0, 1, 0), (613, .freturn, 1, 0), 
  (614, .iload 5, 2, 0), (616, .ifCond .ne 631, 3, 0), (619, .aload 3, 1, 0), (620, .sipush 0, 1, 0), (621, .laload, 1, 0), (622, .iload 6, 2, 0), (624, .i2l, 1, 0), (625, .lcmp, 1, 0), (626, .ifCond .eq 631, 3, 0), (629, .sipush 0, 1, 0), 
  (630, .freturn, 1, 0), (631, .goto 2998, 3, 0), (634, .aload 1, 1, 0), (635, .aload 3, 1, 0), (636, .multianewarray 8007 2, 3, 179), (639, .istore 5, 2, 0), (641, .aload 2, 1, 0), (642, .invokeinterface 7057 0, 3, 181), 
  (645, .istore 6, 2, 0), (647, .aload 2, 1, 0), (648, .invokeinterface 7002 0, 3, 151), (651, .iload 5, 2, 0), (653, .if_icmp .eq 658, 3, 0), (656, .sipush 0, 1, 0), (657, .freturn, 1, 0), (658, .iload 5, 2, 0), (660, .ifCond .ne 675, 3, 0), 
  (663, .aload 3, 1, 0), (664, .sipush 0, 1, 0), (665, .laload, 1, 0), (666, .iload 6, 2, 0), (668, .i2l, 1, 0), (669, .lcmp, 1, 0), (670, .ifCond .eq 675, 3, 0), (673, .sipush 0, 1, 0), (674, .freturn, 1, 0), (675, .goto 2998, 3, 0), 
  (678, .aload 1, 1, 0), (679, .aload 3, 1, 0), (680, .multianewarray 8008 2, 3, 182), (683, .istore 5, 2, 0), (685, .aload 2, 1, 0), (686, .invokeinterface 7058 0, 3, 184), (689, .istore 6, 2, 0), (691, .aload 2, 1, 0), 
  (692, .invokeinterface 7002 0, 3, 151), (695, .iload 5, 2, 0), (697, .if_icmp .eq 702, 3, 0), (700, .sipush 0, 1, 0), (701, .freturn, 1, 0), (702, .iload 5, 2, 0), (704, .ifCond .ne 719, 3, 0), (707, .aload 3, 1, 0), (708, .sipush 0, 1, 0), 
  (709, .laload, 1, 0), (710, .iload 6, 2, 0), (712, .i2l, 1, 0), (713, .lcmp, 1, 0), (714, .ifCond .eq 719, 3, 0), (717, .sipush 0, 1, 0), (718, .freturn, 1, 0), (719, .goto 2998, 3, 0), (722, .aload 1, 1, 0), (723, .aload 0, 1, 0), 
  (724, .iload 4, 2, 0), (726, .sipush 1, 1, 0), (727, .iadd, 1, 0), (728, .iaload, 1, 0), (729, .aload 3, 1, 0), (730, .multianewarray 8009 3, 3, 185), (733, .istore 5, 2, 0), (735, .aload 2, 1, 0), (736, .aload 0, 1, 0)
  ]
noncomputable def am_t8900_3 : List am_I := [
  (737, .iload 4, 2, 0), (739, .sipush 1, 1, 0), (740, .iadd, 1, 0), (741, .iaload, 1, 0), (742, .invokeinterface 7059 1, 3, 187), (745, .istore 6, 2, 0), (747, .aload 2, 1, 0), (748, .invokeinterface 7002 0, 3, 151), (751, .iload 5, 2, 0), 
  (753, .if_icmp .eq 758, 3, 0), (756, .sipush 0, 1, 0), (757, .freturn, 1, 0), (758, .iload 5, 2, 0), (760, .ifCond .ne 775, 3, 0), (763, .aload 3, 1, 0), (764, .sipush 0, 1, 0), (765, .laload, 1, 0), (766, .iload 6, 2, 0), 
  (768, .i2l, 1, 0), (769, .lcmp, 1, 0), (770, .ifCond .eq 775, 3, 0), (773, .sipush 0, 1, 0), (774, .freturn, 1, 0), (775, .goto 2998, 3, 0), (778, .aload 1, 1, 0), (779, .aload 0, 1, 0), (780, .iload 4, 2, 0), (782, .sipush 1, 1, 0), 
  (783, .iadd, 1, 0), (784, .iaload, 1, 0), (785, .aload 3, 1, 0), (786, .multianewarray 8010 3, 3, 188), (789, .istore 5, 2, 0), (791, .aload 2, 1, 0), (792, .aload 0, 1, 0), (793, .iload 4, 2, 0), (795, .sipush 1, 1, 0), 
  (796, .iadd, 1, 0), (797, .iaload, 1, 0), (798, .invokeinterface 7060 1, 3, 190), (801, .istore 6, 2, 0), (803, .aload 2, 1, 0), (804, .invokeinterface 7002 0, 3, 151), (807, .iload 5, 2, 0), (809, .if_icmp .eq 814, 3, 0), 
  (812, .sipush 0, 1, 0), (813, .freturn, 1, 0), (814, .iload 5, 2, 0), (816, .ifCond .ne 831, 3, 0), (819, .aload 3, 1, 0), (820, .sipush 0, 1, 0), (821, .laload, 1, 0), (822, .iload 6, 2, 0), (824, .i2l, 1, 0), (825, .lcmp, 1, 0), 
  (826, .ifCond .eq 831, 3, 0), (829, .sipush 0, 1, 0), (830, .freturn, 1, 0), (831, .goto 2998, 3, 0), (834, .aload 1, 1, 0), (835, .aload 0, 1, 0), (836, .iload 4, 2, 0), (838, .sipush 1, 1, 0), (839, .iadd, 1, 0), (840, .iaload, 1, 0), 
  (841, .aload 3, 1, 0), (842, .multianewarray 8011 3, 3, 191), (845, .istore 5, 2, 0), (847, .aload 2, 1, 0), (848, .aload 0, 1, 0), (849, .iload 4, 2, 0), (851, .sipush 1, 1, 0), (852, .iadd, 1, 0), (853, .iaload, 1, 0), 
  (854, .invokeinterface 7061 1, 3, 193), (857, .istore 6, 2, 0), (859, .aload 2, 1, 0), (860, .invokeinterface 7002 0, 3, 151), (863, .iload 5, 2, 0), (865, .if_icmp .eq 870, 3, 0), (868, .sipush 0, 1, 0), (869, .freturn, 1, 0), 
  (870, .iload 5, 2, 0), (872, .ifCond .ne 887, 3, 0), (875, .aload 3, 1, 0), (876, .sipush 0, 1, 0), (877, .laload, 1, 0), (878, .iload 6, 2, 0), (880, .i2l, 1, 0), (881, .lcmp, 1, 0), (882, .ifCond .eq 887, 3, 0), (885, .sipush 0, 1, 0), 
  (886, .freturn, 1, 0), (887, .goto 2998, 3, 0), (890, .aload 1, 1, 0), (891, .aload 0, 1, 0), (892, .iload 4, 2, 0), (894, .sipush 1, 1, 0), (895, .iadd, 1, 0), (896, .iaload, 1, 0)]
noncomputable def am_t8900_4 : List am_I := [
  (897, .aload 3, 1, 0), (898, .multianewarray 8012 3, 3, 194), (901, .istore 5, 2, 0), (903, .aload 2, 1, 0), (904, .aload 0, 1, 0), (905, .iload 4, 2, 0), (907, .sipush 1, 1, 0), (908, .iadd, 1, 0), (909, .iaload, 1, 0), 
  (910, .invokeinterface 7062 1, 3, 196), (913, .istore 6, 2, 0), (915, .aload 2, 1, 0), (916, .invokeinterface 7002 0, 3, 151), (919, .iload 5, 2, 0), (921, .if_icmp .eq 926, 3, 0), (924, .sipush 0, 1, 0), (925, .freturn, 1, 0), 
  (926, .iload 5, 2, 0), (928, .ifCond .ne 943, 3, 0), (931, .aload 3, 1, 0), (932, .sipush 0, 1, 0), (933, .laload, 1, 0), (934, .iload 6, 2, 0), (936, .i2l, 1, 0), (937, .lcmp, 1, 0), (938, .ifCond .eq 943, 3, 0), (941, .sipush 0, 1, 0), 
  (942, .freturn, 1, 0), (943, .goto 2998, 3, 0), (946, .aload 1, 1, 0), (947, .aload 0, 1, 0), (948, .iload 4, 2, 0), (950, .sipush 1, 1, 0), (951, .iadd, 1, 0), (952, .iaload, 1, 0), (953, .aload 3, 1, 0), (954, .multianewarray 8013 3, 3, 197), 
  (957, .istore 5, 2, 0), (959, .aload 2, 1, 0), (960, .aload 0, 1, 0), (961, .iload 4, 2, 0), (963, .sipush 1, 1, 0), (964, .iadd, 1, 0), (965, .iaload, 1, 0), (966, .invokeinterface 7063 1, 3, 199), (969, .istore 6, 2, 0), 
  (971, .aload 2, 1, 0), (972, .invokeinterface 7002 0, 3, 151), (975, .iload 5, 2, 0), (977, .if_icmp .eq 982, 3, 0), (980, .sipush 0, 1, 0), (981, .freturn, 1, 0), (982, .iload 5, 2, 0), (984, .ifCond .ne 999, 3, 0), (987, .aload 3, 1, 0), 
  (988, .sipush 0, 1, 0), (989, .laload, 1, 0), (990, .iload 6, 2, 0), (992, .i2l, 1, 0), (993, .lcmp, 1, 0), (994, .ifCond .eq 999, 3, 0), (997, .sipush 0, 1, 0), (998, .freturn, 1, 0), (999, .goto 2998, 3, 0), (1002, .aload 1, 1, 0), 
  (1003, .aload 0, 1, 0), (1004, .iload 4, 2, 0), (1006, .sipush 1, 1, 0), (1007, .iadd, 1, 0), (1008, .iaload, 1, 0), (1009, .aload 3, 1, 0), (1010, .multianewarray 8014 3, 3, 200), (1013, .istore 5, 2, 0), (1015, .aload 2, 1, 0), 
  (1016, .aload 0, 1, 0), (1017, .iload 4, 2, 0), (1019, .sipush 1, 1, 0), (1020, .iadd, 1, 0), (1021, .iaload, 1, 0), (1022, .invokeinterface 7064 1, 3, 202), (1025, .istore 6, 2, 0), (1027, .aload 2, 1, 0), (1028, .invokeinterface 7002 0, 3, 151), 
  (1031, .iload 5, 2, 0), (1033, .if_icmp .eq 1038, 3, 0), (1036, .sipush 0, 1, 0), (1037, .freturn, 1, 0), (1038, .iload 5, 2, 0), (1040, .ifCond .ne 1055, 3, 0), (1043, .aload 3, 1, 0), (1044, .sipush 0, 1, 0), (1045, .laload, 1, 0), 
  (1046, .iload 6, 2, 0), (1048, .i2l, 1, 0), (1049, .lcmp, 1, 0), (1050, .ifCond .eq 1055, 3, 0), (1053, .sipush 0, 1, 0), (1054, .freturn, 1, 0), (1055, .goto 2998, 3, 0), (1058, .aload 1, 1, 0)]
noncomputable def am_t8900_5 : List am_I := [
  (1059, .aload 0, 1, 0), (1060, .iload 4, 2, 0), (1062, .sipush 1, 1, 0), (1063, .iadd, 1, 0), (1064, .iaload, 1, 0), (1065, .aload 0, 1, 0), (1066, .iload 4, 2, 0), (1068, .sipush 2, 1, 0), (1069, .iadd, 1, 0), (1070, .iaload, 1, 0), 
  (1071, .aload 0, 1, 0), (1072, .iload 4, 2, 0), (1074, .sipush 3, 1, 0), (1075, .iadd, 1, 0), (1076, .iaload, 1, 0), (1077, .ifCond .eq 1084, 3, 0), (1080, .sipush 1, 1, 0), (1081, .goto 1085, 3, 0), (1084, .sipush 0, 1, 0), 
  (1085, .aload 3, 1, 0), (1086, .multianewarray 8015 5, 3, 203), (1089, .istore 5, 2, 0), (1091, .aload 2, 1, 0), (1092, .aload 0, 1, 0), (1093, .iload 4, 2, 0), (1095, .sipush 1, 1, 0), (1096, .iadd, 1, 0), (1097, .iaload, 1, 0), 
  (1098, .aload 0, 1, 0), (1099, .iload 4, 2, 0), (1101, .sipush 2, 1, 0), (1102, .iadd, 1, 0), (1103, .iaload, 1, 0), (1104, .aload 0, 1, 0), (1105, .iload 4, 2, 0), (1107, .sipush 3, 1, 0), (1108, .iadd, 1, 0), (1109, .iaload, 1, 0), 
  (1110, .ifCond .eq 1117, 3, 0), (1113, .sipush 1, 1, 0), (1114, .goto 1118, 3, 0), (1117, .sipush 0, 1, 0), (1118, .invokeinterface 7065 3, 3, 206), (1121, .istore 6, 2, 0), (1123, .aload 2, 1, 0), (1124, .invokeinterface 7002 0, 3, 151), 
  (1127, .iload 5, 2, 0), (1129, .if_icmp .eq 1134, 3, 0), (1132, .sipush 0, 1, 0), (1133, .freturn, 1, 0), (1134, .iload 5, 2, 0), (1136, .ifCond .ne 1151, 3, 0), (1139, .aload 3, 1, 0), (1140, .sipush 0, 1, 0), (1141, .laload, 1, 0), 
  (1142, .iload 6, 2, 0), (1144, .i2l, 1, 0), (1145, .lcmp, 1, 0), (1146, .ifCond .eq 1151, 3, 0), (1149, .sipush 0, 1, 0), (1150, .freturn, 1, 0), (1151, .goto 2998, 3, 0), (1154, .aload 1, 1, 0), (1155, .aload 3, 1, 0), 
  (1156, .multianewarray 8016 2, 3, 207), (1159, .istore 5, 2, 0), (1161, .aload 2, 1, 0), (1162, .invokeinterface 7066 0, 3, 209), (1165, .istore 6, 2, 0), (1167, .aload 2, 1, 0), (1168, .invokeinterface 7002 0, 3, 151), 
  (1171, .iload 5, 2, 0), (1173, .if_icmp .eq 1178, 3, 0), (1176, .sipush 0, 1, 0), (1177, .freturn, 1, 0), (1178, .iload 5, 2, 0), (1180, .ifCond .ne 1195, 3, 0), (1183, .aload 3, 1, 0), (1184, .sipush 0, 1, 0), (1185, .laload, 1, 0), 
  (1186, .iload 6, 2, 0), (1188, .i2l, 1, 0), (1189, .lcmp, 1, 0), (1190, .ifCond .eq 1195, 3, 0), (1193, .sipush 0, 1, 0), (1194, .freturn, 1, 0), (1195, .goto 2998, 3, 0), (1198, .aload 1, 1, 0), (1199, .aload 0, 1, 0), 
  (1200, .iload 4, 2, 0), (1202, .sipush 1, 1, 0), (1203, .iadd, 1, 0), (1204, .iaload, 1, 0), (1205, .aload 0, 1, 0), (1206, .iload 4, 2, 0), (1208, .sipush 2, 1, 0), (1209, .iadd, 1, 0), (1210, .iaload, 1, 0), (1211, .aload 3, 1, 0), 
  (1212, .multianewarray 8017 4, 3, 210)]
noncomputable def am_t8900_6 : List am_I := [
  (1215, .istore 5, 2, 0), (1217, .aload 2, 1, 0), (1218, .aload 0, 1, 0), (1219, .iload 4, 2, 0), (1221, .sipush 1, 1, 0), (1222, .iadd, 1, 0), (1223, .iaload, 1, 0), (1224, .aload 0, 1, 0), (1225, .iload 4, 2, 0), (1227, .sipush 2, 1, 0), 
  (1228, .iadd, 1, 0), (1229, .iaload, 1, 0), (1230, .invokeinterface 7083 2, 3, 213), (1233, .istore 6, 2, 0), (1235, .aload 2, 1, 0), (1236, .invokeinterface 7002 0, 3, 151), (1239, .iload 5, 2, 0), (1241, .if_icmp .eq 1246, 3, 0), 
  (1244, .sipush 0, 1, 0), (1245, .freturn, 1, 0), (1246, .iload 5, 2, 0), (1248, .ifCond .ne 1270, 3, 0), (1251, .aload 3, 1, 0), (1252, .sipush 0, 1, 0), (1253, .laload, 1, 0), (1254, .iload 6, 2, 0), (1256, .ifCond .eq 1263, 3, 0), 
  (1259, .lconst 1, 1, 0), (1260, .goto 1264, 3, 0), (1263, .lconst 0, 1, 0), (1264, .lcmp, 1, 0), (1265, .ifCond .eq 1270, 3, 0), (1268, .sipush 0, 1, 0), (1269, .freturn, 1, 0), (1270, .goto 2998, 3, 0), (1273, .aload 1, 1, 0), 
  (1274, .aload 0, 1, 0), (1275, .iload 4, 2, 0), (1277, .sipush 1, 1, 0), (1278, .iadd, 1, 0), (1279, .iaload, 1, 0), (1280, .aload 0, 1, 0), (1281, .iload 4, 2, 0), (1283, .sipush 2, 1, 0), (1284, .iadd, 1, 0), (1285, .iaload, 1, 0), 
  (1286, .aload 3, 1, 0), (1287, .multianewarray 8018 4, 3, 214), (1290, .istore 5, 2, 0), (1292, .aload 2, 1, 0), (1293, .aload 0, 1, 0), (1294, .iload 4, 2, 0), (1296, .sipush 1, 1, 0), (1297, .iadd, 1, 0), (1298, .iaload, 1, 0), 
  (1299, .aload 0, 1, 0), (1300, .iload 4, 2, 0), (1302, .sipush 2, 1, 0), (1303, .iadd, 1, 0), (1304, .iaload, 1, 0), (1305, .invokeinterface 7084 2, 3, 216), (1308, .istore 6, 2, 0), (1310, .aload 2, 1, 0), (1311, .invokeinterface 7002 0, 3, 151), 
  (1314, .iload 5, 2, 0), (1316, .if_icmp .eq 1321, 3, 0), (1319, .sipush 0, 1, 0), (1320, .freturn, 1, 0), (1321, .iload 5, 2, 0), (1323, .ifCond .ne 1338, 3, 0), (1326, .aload 3, 1, 0), (1327, .sipush 0, 1, 0), (1328, .laload, 1, 0), 
  (1329, .iload 6, 2, 0), (1331, .i2l, 1, 0), (1332, .lcmp, 1, 0), (1333, .ifCond .eq 1338, 3, 0), (1336, .sipush 0, 1, 0), (1337, .freturn, 1, 0), (1338, .goto 2998, 3, 0), (1341, .aload 1, 1, 0), (1342, .invokeinterface 6022 0, 3, 217), 
  (1345, .aload 2, 1, 0), (1346, .invokeinterface 7085 0, 3, 220), (1349, .if_icmp .eq 2998, 3, 0), (1352, .sipush 0, 1, 0), (1353, .freturn, 1, 0), (1354, .aload 1, 1, 0), (1355, .invokeinterface 6023 0, 3, 221), (1358, .aload 2, 1, 0), 
  (1359, .invokeinterface 7087 0, 3, 224), (1362, .if_icmp .eq 2998, 3, 0), (1365, .sipush 0, 1, 0), (1366, .freturn, 1, 0), (1367, .aload 1, 1, 0), (1368, .invokeinterface 6024 0, 3, 225), (1371, .aload 2, 1, 0), (1372, .invokeinterface 7088 0, 3, 228), 
  (1375, .if_icmp .eq 2998, 3, 0), (1378, .sipush 0, 1, 0)]
noncomputable def am_t8900_7 : List am_I := [
  (1379, .freturn, 1, 0), (1380, .aload 1, 1, 0), (1381, .invokeinterface 6025 0, 3, 229), (1384, .aload 2, 1, 0), (1385, .invokeinterface 7089 0, 3, 233), (1388, .if_icmp .eq 2998, 3, 0), (1391, .sipush 0, 1, 0), (1392, .freturn, 1, 0), 
  (1393, .aload 1, 1, 0), (1394, .invokeinterface 6026 0, 3, 234), (1397, .aload 2, 1, 0), (1398, .invokeinterface 7090 0, 3, 237), (1401, .if_icmp .eq 2998, 3, 0), (1404, .sipush 0, 1, 0), (1405, .freturn, 1, 0), (1406, .aload 1, 1, 0), 
  (1407, .aload 0, 1, 0), (1408, .iload 4, 2, 0), (1410, .sipush 1, 1, 0), (1411, .iadd, 1, 0), (1412, .iaload, 1, 0), (1413, .aload 0, 1, 0), (1414, .iload 4, 2, 0), (1416, .sipush 2, 1, 0), (1417, .iadd, 1, 0), (1418, .iaload, 1, 0), 
  (1419, .aload 3, 1, 0), (1420, .multianewarray 8019 4, 3, 238), (1423, .istore 5, 2, 0), (1425, .aload 2, 1, 0), (1426, .aload 0, 1, 0), (1427, .iload 4, 2, 0), (1429, .sipush 1, 1, 0), (1430, .iadd, 1, 0), (1431, .iaload, 1, 0), 
  (1432, .aload 0, 1, 0), (1433, .iload 4, 2, 0), (1435, .sipush 2, 1, 0), (1436, .iadd, 1, 0), (1437, .iaload, 1, 0), (1438, .invokeinterface 7091 2, 3, 240), (1441, .istore 6, 2, 0), (1443, .aload 2, 1, 0), (1444, .invokeinterface 7002 0, 3, 151), 
  (1447, .iload 5, 2, 0), (1449, .if_icmp .eq 1454, 3, 0), (1452, .sipush 0, 1, 0), (1453, .freturn, 1, 0), (1454, .iload 5, 2, 0), (1456, .ifCond .ne 1471, 3, 0), (1459, .aload 3, 1, 0), (1460, .sipush 0, 1, 0), (1461, .laload, 1, 0), 
  (1462, .iload 6, 2, 0), (1464, .i2l, 1, 0), (1465, .lcmp, 1, 0), (1466, .ifCond .eq 1471, 3, 0), (1469, .sipush 0, 1, 0), (1470, .freturn, 1, 0), (1471, .goto 2998, 3, 0), (1474, .aload 1, 1, 0), (1475, .aload 0, 1, 0), 
  (1476, .iload 4, 2, 0), (1478, .sipush 1, 1, 0), (1479, .iadd, 1, 0), (1480, .iaload, 1, 0), (1481, .aload 0, 1, 0), (1482, .iload 4, 2, 0), (1484, .sipush 2, 1, 0), (1485, .iadd, 1, 0), (1486, .iaload, 1, 0), (1487, .aload 3, 1, 0), 
  (1488, .multianewarray 8020 4, 3, 241), (1491, .istore 5, 2, 0), (1493, .aload 2, 1, 0), (1494, .aload 0, 1, 0), (1495, .iload 4, 2, 0), (1497, .sipush 1, 1, 0), (1498, .iadd, 1, 0), (1499, .iaload, 1, 0), (1500, .aload 0, 1, 0), 
  (1501, .iload 4, 2, 0), (1503, .sipush 2, 1, 0), (1504, .iadd, 1, 0), (1505, .iaload, 1, 0), (1506, .invokeinterface 7092 2, 3, 243), (1509, .istore 6, 2, 0), (1511, .aload 2, 1, 0), (1512, .invokeinterface 7002 0, 3, 151), 
  (1515, .iload 5, 2, 0), (1517, .if_icmp .eq 1522, 3, 0), (1520, .sipush 0, 1, 0), (1521, .freturn, 1, 0), (1522, .iload 5, 2, 0), (1524, .ifCond .ne 1546, 3, 0), (1527, .aload 3, 1, 0), (1528, .sipush 0, 1, 0), (1529, .laload, 1, 0), 
  (1530, .iload 6, 2, 0), (1532, .ifCond .eq 1539, 3, 0)]
noncomputable def am_t8900_8 : List am_I := [
  (1535, .lconst 1, 1, 0), (1536, .goto 1540, 3, 0), (1539, .lconst 0, 1, 0), (1540, .lcmp, 1, 0), (1541, .ifCond .eq 1546, 3, 0), (1544, .sipush 0, 1, 0), (1545, .freturn, 1, 0), (1546, .goto 2998, 3, 0), (1549, .aload 1, 1, 0), 
  (1550, .invokeinterface 6029 0, 3, 244), (1553, .aload 2, 1, 0), (1554, .invokeinterface 7093 0, 3, 247), (1557, .if_icmp .eq 2998, 3, 0), (1560, .sipush 0, 1, 0), (1561, .freturn, 1, 0), (1562, .aload 1, 1, 0), (1563, .aload 0, 1, 0), 
  (1564, .iload 4, 2, 0), (1566, .sipush 1, 1, 0), (1567, .iadd, 1, 0), (1568, .iaload, 1, 0), (1569, .aload 0, 1, 0), (1570, .iload 4, 2, 0), (1572, .sipush 2, 1, 0), (1573, .iadd, 1, 0), (1574, .iaload, 1, 0), (1575, .aload 0, 1, 0), 
  (1576, .iload 4, 2, 0), (1578, .sipush 3, 1, 0), (1579, .iadd, 1, 0), (1580, .iaload, 1, 0), (1581, .aload 3, 1, 0), (1582, .multianewarray 8021 5, 3, 248), (1585, .istore 5, 2, 0), (1587, .aload 2, 1, 0), (1588, .aload 0, 1, 0), 
  (1589, .iload 4, 2, 0), (1591, .sipush 1, 1, 0), (1592, .iadd, 1, 0), (1593, .iaload, 1, 0), (1594, .aload 0, 1, 0), (1595, .iload 4, 2, 0), (1597, .sipush 2, 1, 0), (1598, .iadd, 1, 0), (1599, .iaload, 1, 0), (1600, .aload 0, 1, 0), 
  (1601, .iload 4, 2, 0), (1603, .sipush 3, 1, 0), (1604, .iadd, 1, 0), (1605, .iaload, 1, 0), (1606, .invokeinterface 7094 3, 3, 250), (1609, .istore 6, 2, 0), (1611, .aload 2, 1, 0), (1612, .invokeinterface 7002 0, 3, 151), 
  (1615, .iload 5, 2, 0), (1617, .if_icmp .eq 1622, 3, 0), (1620, .sipush 0, 1, 0), (1621, .freturn, 1, 0), (1622, .iload 5, 2, 0), (1624, .ifCond .ne 1639, 3, 0), (1627, .aload 3, 1, 0), (1628, .sipush 0, 1, 0), (1629, .laload, 1, 0), 
  (1630, .iload 6, 2, 0), (1632, .i2l, 1, 0), (1633, .lcmp, 1, 0), (1634, .ifCond .eq 1639, 3, 0), (1637, .sipush 0, 1, 0), (1638, .freturn, 1, 0), (1639, .goto 2998, 3, 0), (1642, .aload 1, 1, 0), (1643, .aload 0, 1, 0), 
  (1644, .iload 4, 2, 0), (1646, .sipush 1, 1, 0), (1647, .iadd, 1, 0), (1648, .iaload, 1, 0), (1649, .aload 0, 1, 0), (1650, .iload 4, 2, 0), (1652, .sipush 2, 1, 0), (1653, .iadd, 1, 0), (1654, .iaload, 1, 0), (1655, .aload 3, 1, 0), 
  (1656, .multianewarray 8022 4, 3, 251), (1659, .istore 5, 2, 0), (1661, .aload 2, 1, 0), (1662, .aload 0, 1, 0), (1663, .iload 4, 2, 0), (1665, .sipush 1, 1, 0), (1666, .iadd, 1, 0), (1667, .iaload, 1, 0), (1668, .aload 0, 1, 0), 
  (1669, .iload 4, 2, 0), (1671, .sipush 2, 1, 0), (1672, .iadd, 1, 0), (1673, .iaload, 1, 0), (1674, .invokeinterface 7096 2, 3, 253), (1677, .istore 6, 2, 0), (1679, .aload 2, 1, 0), (1680, .invokeinterface 7002 0, 3, 151), 
  (1683, .iload 5, 2, 0)]
noncomputable def am_t8900_9 : List am_I := [
  (1685, .if_icmp .eq 1690, 3, 0), (1688, .sipush 0, 1, 0), (1689, .freturn, 1, 0), (1690, .iload 5, 2, 0), (1692, .ifCond .ne 1707, 3, 0), (1695, .aload 3, 1, 0), (1696, .sipush 0, 1, 0), (1697, .laload, 1, 0), (1698, .iload 6, 2, 0), 
  (1700, .i2l, 1, 0), (1701, .lcmp, 1, 0), (1702, .ifCond .eq 1707, 3, 0), (1705, .sipush 0, 1, 0), (1706, .freturn, 1, 0), (1707, .goto 2998, 3, 0), (1710, .aload 1, 1, 0), (1711, .aload 0, 1, 0), (1712, .iload 4, 2, 0), 
  (1714, .sipush 1, 1, 0), (1715, .iadd, 1, 0), (1716, .iaload, 1, 0), (1717, .aload 0, 1, 0), (1718, .iload 4, 2, 0), (1720, .sipush 2, 1, 0), (1721, .iadd, 1, 0), (1722, .iaload, 1, 0), (1723, .aload 0, 1, 0), (1724, .iload 4, 2, 0), 
  (1726, .sipush 3, 1, 0), (1727, .iadd, 1, 0), (1728, .iaload, 1, 0), (1729, .aload 3, 1, 0), (1730, .multianewarray 8023 5, 3, 254), (1733, .istore 5, 2, 0), (1735, .aload 2, 1, 0), (1736, .aload 0, 1, 0), (1737, .iload 4, 2, 0), 
  (1739, .sipush 1, 1, 0), (1740, .iadd, 1, 0), (1741, .iaload, 1, 0), (1742, .aload 0, 1, 0), (1743, .iload 4, 2, 0), (1745, .sipush 2, 1, 0), (1746, .iadd, 1, 0), (1747, .iaload, 1, 0), (1748, .aload 0, 1, 0), (1749, .iload 4, 2, 0), 
  (1751, .sipush 3, 1, 0), (1752, .iadd, 1, 0), (1753, .iaload, 1, 0), (1754, .invokeinterface 7097 3, 3, 256), (1757, .istore 6, 2, 0), (1759, .aload 2, 1, 0), (1760, .invokeinterface 7002 0, 3, 151), (1763, .iload 5, 2, 0), 
  (1765, .if_icmp .eq 1770, 3, 0), (1768, .sipush 0, 1, 0), (1769, .freturn, 1, 0), (1770, .iload 5, 2, 0), (1772, .ifCond .ne 1787, 3, 0), (1775, .aload 3, 1, 0), (1776, .sipush 0, 1, 0), (1777, .laload, 1, 0), (1778, .iload 6, 2, 0), 
  (1780, .i2l, 1, 0), (1781, .lcmp, 1, 0), (1782, .ifCond .eq 1787, 3, 0), (1785, .sipush 0, 1, 0), (1786, .freturn, 1, 0), (1787, .goto 2998, 3, 0), (1790, .aload 1, 1, 0), (1791, .aload 0, 1, 0), (1792, .iload 4, 2, 0), 
  (1794, .sipush 1, 1, 0), (1795, .iadd, 1, 0), (1796, .iaload, 1, 0), (1797, .aload 0, 1, 0), (1798, .iload 4, 2, 0), (1800, .sipush 2, 1, 0), (1801, .iadd, 1, 0), (1802, .iaload, 1, 0), (1803, .aload 0, 1, 0), (1804, .iload 4, 2, 0), 
  (1806, .sipush 3, 1, 0), (1807, .iadd, 1, 0), (1808, .iaload, 1, 0), (1809, .aload 0, 1, 0), (1810, .iload 4, 2, 0), (1812, .sipush 4, 1, 0), (1813, .iadd, 1, 0), (1814, .iaload, 1, 0), (1815, .aload 3, 1, 0), (1816, .multianewarray 8024 6, 3, 257), 
  (1819, .istore 5, 2, 0), (1821, .aload 2, 1, 0), (1822, .aload 0, 1, 0), (1823, .iload 4, 2, 0), (1825, .sipush 1, 1, 0), (1826, .iadd, 1, 0), (1827, .iaload, 1, 0)]
noncomputable def am_t8900_10 : List am_I := [
  (1828, .aload 0, 1, 0), (1829, .iload 4, 2, 0), (1831, .sipush 2, 1, 0), (1832, .iadd, 1, 0), (1833, .iaload, 1, 0), (1834, .aload 0, 1, 0), (1835, .iload 4, 2, 0), (1837, .sipush 3, 1, 0), (1838, .iadd, 1, 0), (1839, .iaload, 1, 0), 
  (1840, .aload 0, 1, 0), (1841, .iload 4, 2, 0), (1843, .sipush 4, 1, 0), (1844, .iadd, 1, 0), (1845, .iaload, 1, 0), (1846, .invokeinterface 7098 4, 3, 260), (1849, .istore 6, 2, 0), (1851, .aload 2, 1, 0), (1852, .invokeinterface 7002 0, 3, 151), 
  (1855, .iload 5, 2, 0), (1857, .if_icmp .eq 1862, 3, 0), (1860, .sipush 0, 1, 0), (1861, .freturn, 1, 0), (1862, .iload 5, 2, 0), (1864, .ifCond .ne 1879, 3, 0), (1867, .aload 3, 1, 0), (1868, .sipush 0, 1, 0), (1869, .laload, 1, 0), 
  (1870, .iload 6, 2, 0), (1872, .i2l, 1, 0), (1873, .lcmp, 1, 0), (1874, .ifCond .eq 1879, 3, 0), (1877, .sipush 0, 1, 0), (1878, .freturn, 1, 0), (1879, .goto 2998, 3, 0), (1882, .aload 1, 1, 0), (1883, .invokeinterface 6034 0, 3, 261), 
  (1886, .dstore 5, 2, 0), (1888, .aload 2, 1, 0), (1889, .invokeinterface 7099 0, 3, 265), (1892, .dstore 7, 2, 0), (1894, .dload 5, 2, 0), (1896, .dload 7, 2, 0), (1898, .dcmp .l, 1, 0), (1899, .ifCond .eq 1920, 3, 0), 
  (1902, .dload 5, 2, 0), (1904, .dload 5, 2, 0), (1906, .dcmp .l, 1, 0), (1907, .ifCond .eq 1918, 3, 0), (1910, .dload 7, 2, 0), (1912, .dload 7, 2, 0), (1914, .dcmp .l, 1, 0), (1915, .ifCond .ne 1920, 3, 0), (1918, .sipush 0, 1, 0), 
  (1919, .freturn, 1, 0), (1920, .goto 2998, 3, 0), (1923, .aload 1, 1, 0), (1924, .invokeinterface 6035 0, 3, 266), (1927, .aload 2, 1, 0), (1928, .invokeinterface 7100 0, 3, 269), (1931, .if_icmp .eq 2998, 3, 0), (1934, .sipush 0, 1, 0), 
  (1935, .freturn, 1, 0), (1936, .aload 1, 1, 0), (1937, .aload 0, 1, 0), (1938, .iload 4, 2, 0), (1940, .sipush 1, 1, 0), (1941, .iadd, 1, 0), (1942, .iaload, 1, 0), (1943, .aload 3, 1, 0), (1944, .multianewarray 8025 3, 3, 270), 
  (1947, .istore 5, 2, 0), (1949, .aload 2, 1, 0), (1950, .aload 0, 1, 0), (1951, .iload 4, 2, 0), (1953, .sipush 1, 1, 0), (1954, .iadd, 1, 0), (1955, .iaload, 1, 0), (1956, .invokeinterface 7101 1, 3, 272), (1959, .istore 6, 2, 0), 
  (1961, .aload 2, 1, 0), (1962, .invokeinterface 7002 0, 3, 151), (1965, .iload 5, 2, 0), (1967, .if_icmp .eq 1972, 3, 0), (1970, .sipush 0, 1, 0), (1971, .freturn, 1, 0), (1972, .iload 5, 2, 0), (1974, .ifCond .ne 1989, 3, 0), 
  (1977, .aload 3, 1, 0), (1978, .sipush 0, 1, 0), (1979, .laload, 1, 0), (1980, .iload 6, 2, 0), (1982, .i2l, 1, 0), (1983, .lcmp, 1, 0), (1984, .ifCond .eq 1989, 3, 0), (1987, .sipush 0, 1, 0), (1988, .freturn, 1, 0), (1989, .goto 2998, 3, 0), 
  (1992, .aload 1, 1, 0), (1993, .aload 0, 1, 0)]
noncomputable def am_t8900_11 : List am_I := [
  (1994, .iload 4, 2, 0), (1996, .sipush 1, 1, 0), (1997, .iadd, 1, 0), (1998, .iaload, 1, 0), (1999, .aload 3, 1, 0), (2000, .multianewarray 8026 3, 3, 273), (2003, .istore 5, 2, 0), (2005, .aload 2, 1, 0), (2006, .aload 0, 1, 0), 
  (2007, .iload 4, 2, 0), (2009, .sipush 1, 1, 0), (2010, .iadd, 1, 0), (2011, .iaload, 1, 0), (2012, .invokeinterface 7102 1, 3, 275), (2015, .istore 6, 2, 0), (2017, .aload 2, 1, 0), (2018, .invokeinterface 7002 0, 3, 151), 
  (2021, .iload 5, 2, 0), (2023, .if_icmp .eq 2028, 3, 0), (2026, .sipush 0, 1, 0), (2027, .freturn, 1, 0), (2028, .iload 5, 2, 0), (2030, .ifCond .ne 2045, 3, 0), (2033, .aload 3, 1, 0), (2034, .sipush 0, 1, 0), (2035, .laload, 1, 0), 
  (2036, .iload 6, 2, 0), (2038, .i2l, 1, 0), (2039, .lcmp, 1, 0), (2040, .ifCond .eq 2045, 3, 0), (2043, .sipush 0, 1, 0), (2044, .freturn, 1, 0), (2045, .goto 2998, 3, 0), (2048, .aload 1, 1, 0), (2049, .invokeinterface 6038 0, 3, 276), 
  (2052, .aload 2, 1, 0), (2053, .invokeinterface 7103 0, 3, 279), (2056, .if_icmp .eq 2998, 3, 0), (2059, .sipush 0, 1, 0), (2060, .freturn, 1, 0), (2061, .aload 1, 1, 0), (2062, .aload 0, 1, 0), (2063, .iload 4, 2, 0), 
  (2065, .sipush 1, 1, 0), (2066, .iadd, 1, 0), (2067, .iaload, 1, 0), (2068, .aload 3, 1, 0), (2069, .multianewarray 8027 3, 3, 280), (2072, .istore 5, 2, 0), (2074, .aload 2, 1, 0), (2075, .aload 0, 1, 0), (2076, .iload 4, 2, 0), 
  (2078, .sipush 1, 1, 0), (2079, .iadd, 1, 0), (2080, .iaload, 1, 0), (2081, .invokeinterface 7104 1, 3, 282), (2084, .istore 6, 2, 0), (2086, .aload 2, 1, 0), (2087, .invokeinterface 7002 0, 3, 151), (2090, .iload 5, 2, 0), 
  (2092, .if_icmp .eq 2097, 3, 0), (2095, .sipush 0, 1, 0), (2096, .freturn, 1, 0), (2097, .iload 5, 2, 0), (2099, .ifCond .ne 2121, 3, 0), (2102, .aload 3, 1, 0), (2103, .sipush 0, 1, 0), (2104, .laload, 1, 0), (2105, .iload 6, 2, 0), 
  (2107, .ifCond .eq 2114, 3, 0), (2110, .lconst 1, 1, 0), (2111, .goto 2115, 3, 0), (2114, .lconst 0, 1, 0), (2115, .lcmp, 1, 0), (2116, .ifCond .eq 2121, 3, 0), (2119, .sipush 0, 1, 0), (2120, .freturn, 1, 0), (2121, .goto 2998, 3, 0), 
  (2124, .aload 1, 1, 0), (2125, .aload 0, 1, 0), (2126, .iload 4, 2, 0), (2128, .sipush 1, 1, 0), (2129, .iadd, 1, 0), (2130, .iaload, 1, 0), (2131, .aload 3, 1, 0), (2132, .multianewarray 8028 3, 3, 283), (2135, .istore 5, 2, 0), 
  (2137, .aload 2, 1, 0), (2138, .aload 0, 1, 0), (2139, .iload 4, 2, 0), (2141, .sipush 1, 1, 0), (2142, .iadd, 1, 0), (2143, .iaload, 1, 0), (2144, .invokeinterface 7105 1, 3, 285), (2147, .istore 6, 2, 0), (2149, .aload 2, 1, 0), 
  (2150, .invokeinterface 7002 0, 3, 151), (2153, .iload 5, 2, 0), (2155, .if_icmp .eq 2160, 3, 0), (2158, .sipush 0, 1, 0)]
noncomputable def am_t8900_12 : List am_I := [
  (2159, .freturn, 1, 0), (2160, .iload 5, 2, 0), (2162, .ifCond .ne 2177, 3, 0), (2165, .aload 3, 1, 0), (2166, .sipush 0, 1, 0), (2167, .laload, 1, 0), (2168, .iload 6, 2, 0), (2170, .i2l, 1, 0), (2171, .lcmp, 1, 0), (2172, .ifCond .eq 2177, 3, 0), 
  (2175, .sipush 0, 1, 0), (2176, .freturn, 1, 0), (2177, .goto 2998, 3, 0), (2180, .aload 1, 1, 0), (2181, .invokeinterface 6041 0, 3, 286), (2184, .aload 2, 1, 0), (2185, .invokeinterface 7106 0, 3, 289), (2188, .if_icmp .eq 2998, 3, 0), 
  (2191, .sipush 0, 1, 0), (2192, .freturn, 1, 0), (2193, .aload 1, 1, 0), (2194, .invokeinterface 6042 0, 3, 290), (2197, .aload 2, 1, 0), (2198, .invokeinterface 7107 0, 3, 293), (2201, .if_icmp .eq 2998, 3, 0), (2204, .sipush 0, 1, 0), 
  (2205, .freturn, 1, 0), (2206, .aload 1, 1, 0), (2207, .invokeinterface 6043 0, 3, 294), (2210, .aload 2, 1, 0), (2211, .invokeinterface 7108 0, 3, 297), (2214, .if_icmp .eq 2998, 3, 0), (2217, .sipush 0, 1, 0), (2218, .freturn, 1, 0), 
  (2219, .aload 1, 1, 0), (2220, .invokeinterface 6044 0, 3, 298), (2223, .aload 2, 1, 0), (2224, .invokeinterface 7109 0, 3, 301), (2227, .if_icmp .eq 2998, 3, 0), (2230, .sipush 0, 1, 0), (2231, .freturn, 1, 0), (2232, .aload 1, 1, 0), 
  (2233, .aload 0, 1, 0), (2234, .iload 4, 2, 0), (2236, .sipush 1, 1, 0), (2237, .iadd, 1, 0), (2238, .iaload, 1, 0), (2239, .aload 0, 1, 0), (2240, .iload 4, 2, 0), (2242, .sipush 2, 1, 0), (2243, .iadd, 1, 0), (2244, .iaload, 1, 0), 
  (2245, .aload 3, 1, 0), (2246, .multianewarray 8029 4, 3, 302), (2249, .istore 5, 2, 0), (2251, .aload 2, 1, 0), (2252, .aload 0, 1, 0), (2253, .iload 4, 2, 0), (2255, .sipush 1, 1, 0), (2256, .iadd, 1, 0), (2257, .iaload, 1, 0), 
  (2258, .aload 0, 1, 0), (2259, .iload 4, 2, 0), (2261, .sipush 2, 1, 0), (2262, .iadd, 1, 0), (2263, .iaload, 1, 0), (2264, .invokeinterface 7110 2, 3, 304), (2267, .istore 6, 2, 0), (2269, .aload 2, 1, 0), (2270, .invokeinterface 7002 0, 3, 151), 
  (2273, .iload 5, 2, 0), (2275, .if_icmp .eq 2280, 3, 0), (2278, .sipush 0, 1, 0), (2279, .freturn, 1, 0), (2280, .iload 5, 2, 0), (2282, .ifCond .ne 2304, 3, 0), (2285, .aload 3, 1, 0), (2286, .sipush 0, 1, 0), (2287, .laload, 1, 0), 
  (2288, .iload 6, 2, 0), (2290, .ifCond .eq 2297, 3, 0), (2293, .lconst 1, 1, 0), (2294, .goto 2298, 3, 0), (2297, .lconst 0, 1, 0), (2298, .lcmp, 1, 0), (2299, .ifCond .eq 2304, 3, 0), (2302, .sipush 0, 1, 0), (2303, .freturn, 1, 0), 
  (2304, .goto 2998, 3, 0), (2307, .aload 1, 1, 0), (2308, .aload 0, 1, 0), (2309, .iload 4, 2, 0), (2311, .sipush 1, 1, 0), (2312, .iadd, 1, 0), (2313, .iaload, 1, 0), (2314, .aload 3, 1, 0), (2315, .multianewarray 8030 3, 3, 305), 
  (2318, .istore 5, 2, 0), (2320, .aload 2, 1, 0), (2321, .aload 0, 1, 0)]
noncomputable def am_t8900_13 : List am_I := [
  (2322, .iload 4, 2, 0), (2324, .sipush 1, 1, 0), (2325, .iadd, 1, 0), (2326, .iaload, 1, 0), (2327, .invokeinterface 7111 1, 3, 307), (2330, .istore 6, 2, 0), (2332, .aload 2, 1, 0), (2333, .invokeinterface 7002 0, 3, 151), 
  (2336, .iload 5, 2, 0), (2338, .if_icmp .eq 2343, 3, 0), (2341, .sipush 0, 1, 0), (2342, .freturn, 1, 0), (2343, .iload 5, 2, 0), (2345, .ifCond .ne 2360, 3, 0), (2348, .aload 3, 1, 0), (2349, .sipush 0, 1, 0), (2350, .laload, 1, 0), 
  (2351, .iload 6, 2, 0), (2353, .i2l, 1, 0), (2354, .lcmp, 1, 0), (2355, .ifCond .eq 2360, 3, 0), (2358, .sipush 0, 1, 0), (2359, .freturn, 1, 0), (2360, .goto 2998, 3, 0), (2363, .aload 1, 1, 0), (2364, .aload 0, 1, 0), 
  (2365, .iload 4, 2, 0), (2367, .sipush 1, 1, 0), (2368, .iadd, 1, 0), (2369, .iaload, 1, 0), (2370, .aload 0, 1, 0), (2371, .iload 4, 2, 0), (2373, .sipush 2, 1, 0), (2374, .iadd, 1, 0), (2375, .iaload, 1, 0), (2376, .aload 3, 1, 0), 
  (2377, .multianewarray 8031 4, 3, 308), (2380, .istore 5, 2, 0), (2382, .aload 2, 1, 0), (2383, .aload 0, 1, 0), (2384, .iload 4, 2, 0), (2386, .sipush 1, 1, 0), (2387, .iadd, 1, 0), (2388, .iaload, 1, 0), (2389, .aload 0, 1, 0), 
  (2390, .iload 4, 2, 0), (2392, .sipush 2, 1, 0), (2393, .iadd, 1, 0), (2394, .iaload, 1, 0), (2395, .invokeinterface 7112 2, 3, 310), (2398, .istore 6, 2, 0), (2400, .aload 2, 1, 0), (2401, .invokeinterface 7002 0, 3, 151), 
  (2404, .iload 5, 2, 0), (2406, .if_icmp .eq 2411, 3, 0), (2409, .sipush 0, 1, 0), (2410, .freturn, 1, 0), (2411, .iload 5, 2, 0), (2413, .ifCond .ne 2428, 3, 0), (2416, .aload 3, 1, 0), (2417, .sipush 0, 1, 0), (2418, .laload, 1, 0), 
  (2419, .iload 6, 2, 0), (2421, .i2l, 1, 0), (2422, .lcmp, 1, 0), (2423, .ifCond .eq 2428, 3, 0), (2426, .sipush 0, 1, 0), (2427, .freturn, 1, 0), (2428, .goto 2998, 3, 0), (2431, .aload 1, 1, 0), (2432, .aload 0, 1, 0), 
  (2433, .iload 4, 2, 0), (2435, .sipush 1, 1, 0), (2436, .iadd, 1, 0), (2437, .iaload, 1, 0), (2438, .aload 0, 1, 0), (2439, .iload 4, 2, 0), (2441, .sipush 2, 1, 0), (2442, .iadd, 1, 0), (2443, .iaload, 1, 0), (2444, .aload 3, 1, 0), 
  (2445, .multianewarray 8032 4, 3, 311), (2448, .istore 5, 2, 0), (2450, .aload 2, 1, 0), (2451, .aload 0, 1, 0), (2452, .iload 4, 2, 0), (2454, .sipush 1, 1, 0), (2455, .iadd, 1, 0), (2456, .iaload, 1, 0), (2457, .aload 0, 1, 0), 
  (2458, .iload 4, 2, 0), (2460, .sipush 2, 1, 0), (2461, .iadd, 1, 0), (2462, .iaload, 1, 0), (2463, .invokeinterface 7114 2, 3, 313), (2466, .istore 6, 2, 0), (2468, .aload 2, 1, 0), (2469, .invokeinterface 7002 0, 3, 151), 
  (2472, .iload 5, 2, 0), (2474, .if_icmp .eq 2479, 3, 0)]
noncomputable def am_t8900_14 : List am_I := [
  (2477, .sipush 0, 1, 0), (2478, .freturn, 1, 0), (2479, .iload 5, 2, 0), (2481, .ifCond .ne 2496, 3, 0), (2484, .aload 3, 1, 0), (2485, .sipush 0, 1, 0), (2486, .laload, 1, 0), (2487, .iload 6, 2, 0), (2489, .i2l, 1, 0), 
  (2490, .lcmp, 1, 0), (2491, .ifCond .eq 2496, 3, 0), (2494, .sipush 0, 1, 0), (2495, .freturn, 1, 0), (2496, .goto 2998, 3, 0), (2499, .aload 1, 1, 0), (2500, .aload 0, 1, 0), (2501, .iload 4, 2, 0), (2503, .sipush 1, 1, 0), 
  (2504, .iadd, 1, 0), (2505, .iaload, 1, 0), (2506, .aload 3, 1, 0), (2507, .multianewarray 8033 3, 3, 314), (2510, .istore 5, 2, 0), (2512, .aload 2, 1, 0), (2513, .aload 0, 1, 0), (2514, .iload 4, 2, 0), (2516, .sipush 1, 1, 0), 
  (2517, .iadd, 1, 0), (2518, .iaload, 1, 0), (2519, .invokeinterface 7115 1, 3, 316), (2522, .istore 6, 2, 0), (2524, .aload 2, 1, 0), (2525, .invokeinterface 7002 0, 3, 151), (2528, .iload 5, 2, 0), (2530, .if_icmp .eq 2535, 3, 0), 
  (2533, .sipush 0, 1, 0), (2534, .freturn, 1, 0), (2535, .iload 5, 2, 0), (2537, .ifCond .ne 2552, 3, 0), (2540, .aload 3, 1, 0), (2541, .sipush 0, 1, 0), (2542, .laload, 1, 0), (2543, .iload 6, 2, 0), (2545, .i2l, 1, 0), 
  (2546, .lcmp, 1, 0), (2547, .ifCond .eq 2552, 3, 0), (2550, .sipush 0, 1, 0), (2551, .freturn, 1, 0), (2552, .goto 2998, 3, 0), (2555, .aload 1, 1, 0), (2556, .aload 0, 1, 0), (2557, .iload 4, 2, 0), (2559, .sipush 1, 1, 0), 
  (2560, .iadd, 1, 0), (2561, .iaload, 1, 0), (2562, .aload 0, 1, 0), (2563, .iload 4, 2, 0), (2565, .sipush 2, 1, 0), (2566, .iadd, 1, 0), (2567, .iaload, 1, 0), (2568, .aload 3, 1, 0), (2569, .multianewarray 8034 4, 3, 317), 
  (2572, .istore 5, 2, 0), (2574, .aload 2, 1, 0), (2575, .aload 0, 1, 0), (2576, .iload 4, 2, 0), (2578, .sipush 1, 1, 0), (2579, .iadd, 1, 0), (2580, .iaload, 1, 0), (2581, .aload 0, 1, 0), (2582, .iload 4, 2, 0), (2584, .sipush 2, 1, 0), 
  (2585, .iadd, 1, 0), (2586, .iaload, 1, 0), (2587, .invokeinterface 7116 2, 3, 319), (2590, .istore 6, 2, 0), (2592, .aload 2, 1, 0), (2593, .invokeinterface 7002 0, 3, 151), (2596, .iload 5, 2, 0), (2598, .if_icmp .eq 2603, 3, 0), 
  (2601, .sipush 0, 1, 0), (2602, .freturn, 1, 0), (2603, .iload 5, 2, 0), (2605, .ifCond .ne 2620, 3, 0), (2608, .aload 3, 1, 0), (2609, .sipush 0, 1, 0), (2610, .laload, 1, 0), (2611, .iload 6, 2, 0), (2613, .i2l, 1, 0), 
  (2614, .lcmp, 1, 0), (2615, .ifCond .eq 2620, 3, 0), (2618, .sipush 0, 1, 0), (2619, .freturn, 1, 0), (2620, .goto 2998, 3, 0), (2623, .aload 1, 1, 0), (2624, .aload 0, 1, 0), (2625, .iload 4, 2, 0), (2627, .sipush 1, 1, 0), 
  (2628, .iadd, 1, 0), (2629, .iaload, 1, 0)]
noncomputable def am_t8900_15 : List am_I := [
  (2630, .aload 0, 1, 0), (2631, .iload 4, 2, 0), (2633, .sipush 2, 1, 0), (2634, .iadd, 1, 0), (2635, .iaload, 1, 0), (2636, .aload 3, 1, 0), (2637, .multianewarray 8035 4, 3, 320), (2640, .istore 5, 2, 0), (2642, .aload 2, 1, 0), 
  (2643, .aload 0, 1, 0), (2644, .iload 4, 2, 0), (2646, .sipush 1, 1, 0), (2647, .iadd, 1, 0), (2648, .iaload, 1, 0), (2649, .aload 0, 1, 0), (2650, .iload 4, 2, 0), (2652, .sipush 2, 1, 0), (2653, .iadd, 1, 0), (2654, .iaload, 1, 0), 
  (2655, .invokeinterface 7117 2, 3, 322), (2658, .istore 6, 2, 0), (2660, .aload 2, 1, 0), (2661, .invokeinterface 7002 0, 3, 151), (2664, .iload 5, 2, 0), (2666, .if_icmp .eq 2671, 3, 0), (2669, .sipush 0, 1, 0), (2670, .freturn, 1, 0), 
  (2671, .iload 5, 2, 0), (2673, .ifCond .ne 2688, 3, 0), (2676, .aload 3, 1, 0), (2677, .sipush 0, 1, 0), (2678, .laload, 1, 0), (2679, .iload 6, 2, 0), (2681, .i2l, 1, 0), (2682, .lcmp, 1, 0), (2683, .ifCond .eq 2688, 3, 0), 
  (2686, .sipush 0, 1, 0), (2687, .freturn, 1, 0), (2688, .goto 2998, 3, 0), (2691, .aload 1, 1, 0), (2692, .aload 0, 1, 0), (2693, .iload 4, 2, 0), (2695, .sipush 1, 1, 0), (2696, .iadd, 1, 0), (2697, .iaload, 1, 0), (2698, .aload 0, 1, 0), 
  (2699, .iload 4, 2, 0), (2701, .sipush 2, 1, 0), (2702, .iadd, 1, 0), (2703, .iaload, 1, 0), (2704, .aload 3, 1, 0), (2705, .multianewarray 8036 4, 3, 323), (2708, .istore 5, 2, 0), (2710, .aload 2, 1, 0), (2711, .aload 0, 1, 0), 
  (2712, .iload 4, 2, 0), (2714, .sipush 1, 1, 0), (2715, .iadd, 1, 0), (2716, .iaload, 1, 0), (2717, .aload 0, 1, 0), (2718, .iload 4, 2, 0), (2720, .sipush 2, 1, 0), (2721, .iadd, 1, 0), (2722, .iaload, 1, 0), (2723, .invokeinterface 7118 2, 3, 325), 
  (2726, .istore 6, 2, 0), (2728, .aload 2, 1, 0), (2729, .invokeinterface 7002 0, 3, 151), (2732, .iload 5, 2, 0), (2734, .if_icmp .eq 2739, 3, 0), (2737, .sipush 0, 1, 0), (2738, .freturn, 1, 0), (2739, .iload 5, 2, 0), 
  (2741, .ifCond .ne 2756, 3, 0), (2744, .aload 3, 1, 0), (2745, .sipush 0, 1, 0), (2746, .laload, 1, 0), (2747, .iload 6, 2, 0), (2749, .i2l, 1, 0), (2750, .lcmp, 1, 0), (2751, .ifCond .eq 2756, 3, 0), (2754, .sipush 0, 1, 0), 
  (2755, .freturn, 1, 0), (2756, .goto 2998, 3, 0), (2759, .aload 1, 1, 0), (2760, .aload 0, 1, 0), (2761, .iload 4, 2, 0), (2763, .sipush 1, 1, 0), (2764, .iadd, 1, 0), (2765, .iaload, 1, 0), (2766, .aload 3, 1, 0), (2767, .multianewarray 8037 3, 3, 326), 
  (2770, .istore 5, 2, 0), (2772, .aload 2, 1, 0), (2773, .aload 0, 1, 0), (2774, .iload 4, 2, 0), (2776, .sipush 1, 1, 0), (2777, .iadd, 1, 0), (2778, .iaload, 1, 0), (2779, .invokeinterface 7120 1, 3, 328)]
noncomputable def am_t8900_16 : List am_I := [
  (2782, .istore 6, 2, 0), (2784, .aload 2, 1, 0), (2785, .invokeinterface 7002 0, 3, 151), (2788, .iload 5, 2, 0), (2790, .if_icmp .eq 2795, 3, 0), (2793, .sipush 0, 1, 0), (2794, .freturn, 1, 0), (2795, .iload 5, 2, 0), 
  (2797, .ifCond .ne 2812, 3, 0), (2800, .aload 3, 1, 0), (2801, .sipush 0, 1, 0), (2802, .laload, 1, 0), (2803, .iload 6, 2, 0), (2805, .i2l, 1, 0), (2806, .lcmp, 1, 0), (2807, .ifCond .eq 2812, 3, 0), (2810, .sipush 0, 1, 0), 
  (2811, .freturn, 1, 0), (2812, .goto 2998, 3, 0), (2815, .aload 1, 1, 0), (2816, .aload 0, 1, 0), (2817, .iload 4, 2, 0), (2819, .sipush 1, 1, 0), (2820, .iadd, 1, 0), (2821, .iaload, 1, 0), (2822, .aload 3, 1, 0), (2823, .multianewarray 8038 3, 3, 329), 
  (2826, .istore 5, 2, 0), (2828, .aload 2, 1, 0), (2829, .aload 0, 1, 0), (2830, .iload 4, 2, 0), (2832, .sipush 1, 1, 0), (2833, .iadd, 1, 0), (2834, .iaload, 1, 0), (2835, .invokeinterface 7121 1, 3, 331), (2838, .istore 6, 2, 0), 
  (2840, .aload 2, 1, 0), (2841, .invokeinterface 7002 0, 3, 151), (2844, .iload 5, 2, 0), (2846, .if_icmp .eq 2851, 3, 0), (2849, .sipush 0, 1, 0), (2850, .freturn, 1, 0), (2851, .iload 5, 2, 0), (2853, .ifCond .ne 2868, 3, 0), 
  (2856, .aload 3, 1, 0), (2857, .sipush 0, 1, 0), (2858, .laload, 1, 0), (2859, .iload 6, 2, 0), (2861, .i2l, 1, 0), (2862, .lcmp, 1, 0), (2863, .ifCond .eq 2868, 3, 0), (2866, .sipush 0, 1, 0), (2867, .freturn, 1, 0), (2868, .goto 2998, 3, 0), 
  (2871, .aload 1, 1, 0), (2872, .invokeinterface 6055 0, 3, 332), (2875, .aload 2, 1, 0), (2876, .invokeinterface 7122 0, 3, 335), (2879, .if_icmp .eq 2998, 3, 0), (2882, .sipush 0, 1, 0), (2883, .freturn, 1, 0), (2884, .aload 1, 1, 0), 
  (2885, .invokeinterface 6056 0, 3, 336), (2888, .aload 2, 1, 0), (2889, .invokeinterface 7123 0, 3, 339), (2892, .if_icmp .eq 2998, 3, 0), (2895, .sipush 0, 1, 0), (2896, .freturn, 1, 0), (2897, .aload 1, 1, 0), (2898, .invokeinterface 6057 0, 3, 340), 
  (2901, .aload 2, 1, 0), (2902, .invokeinterface 7067 0, 3, 343), (2905, .if_icmp .eq 2998, 3, 0), (2908, .sipush 0, 1, 0), (2909, .freturn, 1, 0), (2910, .aload 1, 1, 0), (2911, .aload 3, 1, 0), (2912, .multianewarray 8039 2, 3, 344), 
  (2915, .istore 5, 2, 0), (2917, .aload 2, 1, 0), (2918, .invokeinterface 7068 0, 3, 346), (2921, .istore 6, 2, 0), (2923, .aload 2, 1, 0), (2924, .invokeinterface 7002 0, 3, 151), (2927, .iload 5, 2, 0), (2929, .if_icmp .eq 2934, 3, 0), 
  (2932, .sipush 0, 1, 0), (2933, .freturn, 1, 0), (2934, .iload 5, 2, 0), (2936, .ifCond .ne 2951, 3, 0), (2939, .aload 3, 1, 0), (2940, .sipush 0, 1, 0), (2941, .laload, 1, 0), (2942, .iload 6, 2, 0), (2944, .i2l, 1, 0), 
  (2945, .lcmp, 1, 0), (2946, .ifCond .eq 2951, 3, 0), (2949, .sipush 0, 1, 0), (2950, .freturn, 1, 0), (2951, .goto 2998, 3, 0)]
noncomputable def am_t8900_17 : List am_I := [
  (2954, .aload 1, 1, 0), (2955, .aload 3, 1, 0), (2956, .multianewarray 8040 2, 3, 347), (2959, .istore 5, 2, 0), (2961, .aload 2, 1, 0), (2962, .invokeinterface 7069 0, 3, 349), (2965, .istore 6, 2, 0), (2967, .aload 2, 1, 0), 
  (2968, .invokeinterface 7002 0, 3, 151), (2971, .iload 5, 2, 0), (2973, .if_icmp .eq 2978, 3, 0), (2976, .sipush 0, 1, 0), (2977, .freturn, 1, 0), (2978, .iload 5, 2, 0), (2980, .ifCond .ne 2995, 3, 0), (2983, .aload 3, 1, 0), 
  (2984, .sipush 0, 1, 0), (2985, .laload, 1, 0), (2986, .iload 6, 2, 0), (2988, .i2l, 1, 0), (2989, .lcmp, 1, 0), (2990, .ifCond .eq 2995, 3, 0), (2993, .sipush 0, 1, 0), (2994, .freturn, 1, 0), (2995, .goto 2998, 3, 0), 
  (2998, .iinc 4 5, 3, 0), (3001, .goto 23, 3, 0), (3004, .sipush 1, 1, 0), (3005, .freturn, 1, 0)]
noncomputable def am_m8900 : am_M := (8900, ("law", "([I)Z"), code, 9, (some .boolean), [], [], am_t8900_0 ++ (am_t8900_1 ++ (am_t8900_2 ++ (am_t8900_3 ++ (am_t8900_4 ++ (am_t8900_5 ++ (am_t8900_6 ++ (am_t8900_7 ++ (am_t8900_8 ++ (am_t8900_9 ++ (am_t8900_10 ++ (am_t8900_11 ++ (am_t8900_12 ++ (am_t8900_13 ++ (am_t8900_14 ++ (am_t8900_15 ++ (am_t8900_16 ++ (am_t8900_17))))))))))))))))))
noncomputable def am_ms : List am_M := [am_m1, am_m2, am_m3, am_m1001, am_m1002, am_m1003, am_m1004, am_m1005, am_m1006, am_m1007, am_m1008, am_m1009, am_m1010, am_m1011, am_m1012, am_m1013, am_m1014, am_m1015, am_m1016, am_m1017, am_m2001, am_m2002, am_m2003, am_m2004, am_m2005, am_m2006, am_m2007, am_m2008, am_m2009, am_m2010, am_m2011, am_m2012, am_m2013, am_m3001, am_m3002, am_m3003, am_m3004, am_m4001, am_m4002, am_m4003, am_m4004, am_m4005, am_m4006, am_m4007, am_m4008, am_m4009, am_m4010, am_m4011, am_m4012, am_m4013, am_m4014, am_m4015, am_m4016, am_m4017, am_m4018, am_m4019, am_m4020, am_m4021, am_m4022, am_m4023, am_m4024, am_m4025, am_m4026, am_m4027, am_m4028, am_m4029, am_m4030, am_m4031, am_m4032, am_m5001, am_m5002, am_m5003, am_m5004, am_m5005, am_m5006, am_m5007, am_m5008, am_m5009, am_m5010, am_m5011, am_m5012, am_m5013, am_m5014, am_m5015, am_m5016, am_m5017, am_m5018, am_m5019, am_m5020, am_m5021, am_m5022, am_m5023, am_m5024, am_m5025, am_m5026, am_m5027, am_m5028, am_m5029, am_m5030, am_m5031, am_m5032, am_m5033, am_m5034, am_m6001, am_m6002, am_m6003, am_m6004, am_m6005, am_m6006, am_m6007, am_m6008, am_m6009, am_m6010, am_m6011, am_m6012, am_m6013, am_m6014, am_m6015, am_m6016, am_m6017, am_m6018, am_m6019, am_m6020, am_m6021, am_m6022, am_m6023, am_m6024, am_m6025, am_m6026, am_m6027, am_m6028, am_m6029, am_m6030, am_m6031, am_m6032, am_m6033, am_m6034, am_m6035, am_m6036, am_m6037, am_m6038, am_m6039, am_m6040, am_m6041, am_m6042, am_m6043, am_m6044, am_m6045, am_m6046, am_m6047, am_m6048, am_m6049, am_m6050, am_m6051, am_m6052, am_m6053, am_m6054, am_m6055, am_m6056, am_m6057, am_m6058, am_m6059, am_m6060, am_m6061, am_m6062, am_m6063, am_m6064, am_m6065, am_m6066, am_m6067, am_m6068, am_m6069, am_m7001, am_m7002, am_m7003, am_m7004, am_m7005, am_m7006, am_m7007, am_m7008, am_m7009, am_m7010, am_m7011, am_m7012, am_m7013, am_m7014, am_m7015, am_m7016, am_m7017, am_m7018, am_m7019, am_m7020, am_m7021, am_m7022, am_m7023, am_m7024, am_m7025, am_m7026, am_m7027, am_m7028, am_m7029, am_m7030, am_m7031, am_m7032, am_m7033, am_m7034, am_m7035, am_m7036, am_m7037, am_m7038, am_m7039, am_m7040, am_m7041, am_m7042, am_m7043, am_m7044, am_m7045, am_m7046, am_m7047, am_m7048, am_m7049, am_m7050, am_m7051, am_m7052, am_m7053, am_m7054, am_m7055, am_m7056, am_m7057, am_m7058, am_m7059, am_m7060, am_m7061, am_m7062, am_m7063, am_m7064, am_m7065, am_m7066, am_m7067, am_m7068, am_m7069, am_m7070, am_m7071, am_m7072, am_m7073, am_m7074, am_m7075, am_m7076, am_m7077, am_m7078, am_m7079, am_m7080, am_m7081, am_m7082, am_m7083, am_m7084, am_m7085, am_m7086, am_m7087, am_m7088, am_m7089, am_m7090, am_m7091, am_m7092, am_m7093, am_m7094, am_m7095, am_m7096, am_m7097, am_m7098, am_m7099, am_m7100, am_m7101, am_m7102, am_m7103, am_m7104, am_m7105, am_m7106, am_m7107, am_m7108, am_m7109, am_m7110, am_m7111, am_m7112, am_m7113, am_m7114, am_m7115, am_m7116, am_m7117, am_m7118, am_m7119, am_m7120, am_m7121, am_m7122, am_m7123, am_m9000, am_m8001, am_m8002, am_m8003, am_m8004, am_m8005, am_m8006, am_m8007, am_m8008, am_m8009, am_m8010, am_m8011, am_m8012, am_m8013, am_m8014, am_m8015, am_m8016, am_m8017, am_m8018, am_m8019, am_m8020, am_m8021, am_m8022, am_m8023, am_m8024, am_m8025, am_m8026, am_m8027, am_m8028, am_m8029, am_m8030, am_m8031, am_m8032, am_m8033, am_m8034, am_m8035, am_m8036, am_m8037, am_m8038, am_m8039, am_m8040, am_m8900]
def am_y (e : am_M) : MethodName := ⟨am_nm (e.1 / 1000), e.2.1.1, e.2.1.2⟩
abbrev am_co (e : am_M) : ByteArray := e.2.2.1
abbrev am_nl (e : am_M) : Nat := e.2.2.2.1
abbrev am_rt (e : am_M) : Option FieldType := e.2.2.2.2.1
abbrev am_hh (e : am_M) : List (Nat × Nat × Nat × Nat) := e.2.2.2.2.2.1
abbrev am_hd (e : am_M) : List (Nat × Nat × Nat × Nat × Nat × Nat) := e.2.2.2.2.2.2.1
abbrev am_tb (e : am_M) : List am_I := e.2.2.2.2.2.2.2
noncomputable def am_of (m : Nat) : Option am_M := am_ms.find? fun e => e.1 == m
def am_lk : List am_I → Nat → Option am_I
  | [], _ => none
  | q :: l, pc => if q.1 = pc then some q else am_lk l pc
theorem am_lk_mem {l : List am_I} {pc : Nat} {q : am_I} (h : am_lk l pc = some q) : q ∈ l ∧ q.1 = pc := by
  induction l with
  | nil => cases h
  | cons a l ih =>
    simp only [am_lk] at h
    split at h
    · cases h; exact ⟨List.mem_cons_self, by assumption⟩
    · exact ⟨List.mem_cons_of_mem _ (ih h).1, (ih h).2⟩
theorem am_of_mem {m : Nat} {e : am_M} (h : am_of m = some e) : e ∈ am_ms ∧ e.1 = m := ⟨List.mem_of_find?_eq_some h, by simpa using List.find?_some h⟩
def am_mlw (q : Nat × Nat × Nat × Nat × Nat) (e : am_M) : Cond := if q.2.2.2.2 = 1 then .methodLinkNest (am_nm q.1) q.2.1 (am_y e) "BranchedSource" else .methodLink (am_nm q.1) q.2.1 (am_y e)
theorem am_ml_ok : am_ml.all (fun q => match am_of q.2.2.1 with | some e => am_at q.2.2.2.1 (am_mlw q e) | none => false) = true := by decide +kernel
def am_mlk (o i m : Nat) : Bool := am_ml.any fun q => q.1 == o && q.2.1 == i && q.2.2.1 == m
