/-! the tables: classes, fields, methods, instructions resolved (by program out of the claim's own names) -/
def RX0 : String := "BranchedSource$Combination"
def TX0 : u_T := fun k => match k with
  | 0 => ("BranchedSource$Combination", "oldTree", "[I", true)
  | 1 => ("BranchedSource$Combination", "newTree", "[I", true)
  | 2 => ("BranchedSource$Combination", "tree", "[I", true)
  | 3 => ("BranchedSource$Combination", "otherSides", "[I", true)
  | 4 => ("BranchedSource$Combination", "becoming", "I", false)
  | _ => ("BranchedSource$Combination", "conflicting", "I", false)
def tyX0 : Nat → FieldType := fun k => match k with
  | 0 => .array .int
  | 1 => .array .int
  | 2 => .array .int
  | 3 => .array .int
  | 4 => .int
  | _ => .int
theorem nmX0 : ∀ a, a < 6 → ∀ b, b < 6 → a ≠ b → (TX0 a).2.1 ≠ (TX0 b).2.1 := by decide +kernel
theorem tyX0_ok : ∀ k, k < 6 → parseFieldDescriptor (TX0 k).2.2.1 = some (tyX0 k) := by decide +kernel
def RX1 : String := "BranchedSource$Histories"
def TX1 : u_T := fun k => match k with
  | 0 => ("BranchedSource$Histories", "marks", "[I", true)
  | 1 => ("BranchedSource$Histories", "otherMarks", "[I", true)
  | _ => ("BranchedSource$Histories", "steps", "[I", true)
def tyX1 : Nat → FieldType := fun k => match k with
  | 0 => .array .int
  | 1 => .array .int
  | _ => .array .int
theorem nmX1 : ∀ a, a < 3 → ∀ b, b < 3 → a ≠ b → (TX1 a).2.1 ≠ (TX1 b).2.1 := by decide +kernel
theorem tyX1_ok : ∀ k, k < 3 → parseFieldDescriptor (TX1 k).2.2.1 = some (tyX1 k) := by decide +kernel
def RX2 : String := "BranchedSource$Pad"
def TX2 : u_T := fun k => match k with
  | 0 => ("BranchedSource$Pad", "signs", "[I", true)
  | _ => ("BranchedSource$Pad", "used", "I", false)
def tyX2 : Nat → FieldType := fun k => match k with
  | 0 => .array .int
  | _ => .int
theorem nmX2 : ∀ a, a < 2 → ∀ b, b < 2 → a ≠ b → (TX2 a).2.1 ≠ (TX2 b).2.1 := by decide +kernel
theorem tyX2_ok : ∀ k, k < 2 → parseFieldDescriptor (TX2 k).2.2.1 = some (tyX2 k) := by decide +kernel
def RX3 : String := "BranchedSource$Records"
def TX3 : u_T := fun k => match k with
  | 0 => ("BranchedSource$Records", "ring", "[LBranchedSource$State;", true)
  | 1 => ("BranchedSource$Records", "oldest", "I", false)
  | _ => ("BranchedSource$Records", "count", "I", false)
def tyX3 : Nat → FieldType := fun k => match k with
  | 0 => .array (.object "BranchedSource$State")
  | 1 => .int
  | _ => .int
theorem nmX3 : ∀ a, a < 3 → ∀ b, b < 3 → a ≠ b → (TX3 a).2.1 ≠ (TX3 b).2.1 := by decide +kernel
theorem tyX3_ok : ∀ k, k < 3 → parseFieldDescriptor (TX3 k).2.2.1 = some (tyX3 k) := by decide +kernel
def RX4 : String := "BranchedSource$Repository"
def TX4 : u_T := fun k => match k with
  | 0 => ("BranchedSource$Repository", "now", "LBranchedSource$State;", true)
  | 1 => ("BranchedSource$Repository", "histories", "LBranchedSource$Histories;", true)
  | 2 => ("BranchedSource$Repository", "combination", "LBranchedSource$Combination;", true)
  | _ => ("BranchedSource$Repository", "replayed", "[I", true)
def tyX4 : Nat → FieldType := fun k => match k with
  | 0 => .object "BranchedSource$State"
  | 1 => .object "BranchedSource$Histories"
  | 2 => .object "BranchedSource$Combination"
  | _ => .array .int
theorem nmX4 : ∀ a, a < 4 → ∀ b, b < 4 → a ≠ b → (TX4 a).2.1 ≠ (TX4 b).2.1 := by decide +kernel
theorem tyX4_ok : ∀ k, k < 4 → parseFieldDescriptor (TX4 k).2.2.1 = some (tyX4 k) := by decide +kernel
def RX5 : String := "BranchedSource$State"
def TX5 : u_T := fun k => match k with
  | 0 => ("BranchedSource$State", "commitCount", "I", false)
  | 1 => ("BranchedSource$State", "firstParents", "[I", true)
  | 2 => ("BranchedSource$State", "secondParents", "[I", true)
  | 3 => ("BranchedSource$State", "trees", "[I", true)
  | 4 => ("BranchedSource$State", "branchCommits", "[I", true)
  | 5 => ("BranchedSource$State", "currentBranch", "I", false)
  | 6 => ("BranchedSource$State", "work", "[I", true)
  | 7 => ("BranchedSource$State", "otherSides", "[I", true)
  | 8 => ("BranchedSource$State", "open", "I", false)
  | 9 => ("BranchedSource$State", "mergedCommit", "I", false)
  | 10 => ("BranchedSource$State", "asideCount", "I", false)
  | 11 => ("BranchedSource$State", "asideHeads", "[I", true)
  | 12 => ("BranchedSource$State", "asideTrees", "[I", true)
  | _ => ("BranchedSource$State", "conflictsSoFar", "I", false)
def tyX5 : Nat → FieldType := fun k => match k with
  | 0 => .int
  | 1 => .array .int
  | 2 => .array .int
  | 3 => .array .int
  | 4 => .array .int
  | 5 => .int
  | 6 => .array .int
  | 7 => .array .int
  | 8 => .int
  | 9 => .int
  | 10 => .int
  | 11 => .array .int
  | 12 => .array .int
  | _ => .int
theorem nmX5 : ∀ a, a < 14 → ∀ b, b < 14 → a ≠ b → (TX5 a).2.1 ≠ (TX5 b).2.1 := by decide +kernel
theorem tyX5_ok : ∀ k, k < 14 → parseFieldDescriptor (TX5 k).2.2.1 = some (tyX5 k) := by decide +kernel
def RX6 : String := "BranchedSource"
def TX6 : u_T := fun k => match k with
  | 0 => ("BranchedSource", "pad", "LBranchedSource$Pad;", true)
  | 1 => ("BranchedSource", "repository", "LBranchedSource$Repository;", true)
  | 2 => ("BranchedSource", "records", "LBranchedSource$Records;", true)
  | 3 => ("BranchedSource", "snapshot", "LBranchedSource$State;", true)
  | _ => ("BranchedSource", "hasSnapshot", "Z", false)
def tyX6 : Nat → FieldType := fun k => match k with
  | 0 => .object "BranchedSource$Pad"
  | 1 => .object "BranchedSource$Repository"
  | 2 => .object "BranchedSource$Records"
  | 3 => .object "BranchedSource$State"
  | _ => .boolean
theorem nmX6 : ∀ a, a < 5 → ∀ b, b < 5 → a ≠ b → (TX6 a).2.1 ≠ (TX6 b).2.1 := by decide +kernel
theorem tyX6_ok : ∀ k, k < 5 → parseFieldDescriptor (TX6 k).2.2.1 = some (tyX6 k) := by decide +kernel
def am_TE : u_T := fun _ => ("", "", "", false)
def am_IAE : String := "java/lang/IllegalArgumentException"
def am_ISE : String := "java/lang/IllegalStateException"
abbrev am_cl : List vw_C := [(RX0, TX0, 6), (RX1, TX1, 3), (RX2, TX2, 2), (RX3, TX3, 3), (RX4, TX4, 4), (RX5, TX5, 14), (RX6, TX6, 5), (am_IAE, am_TE, 0), (am_ISE, am_TE, 0)]
def am_nm : Nat → String := fun c => match c with
  | 0 => RX0
  | 1 => RX1
  | 2 => RX2
  | 3 => RX3
  | 4 => RX4
  | 5 => RX5
  | 6 => RX6
  | 7 => "BranchedSourceModel"
  | 8 => "BranchedSourceLaw"
  | _ => "java/util/Arrays"
def am_T : Nat → u_T := fun c => match c with
  | 0 => TX0
  | 1 => TX1
  | 2 => TX2
  | 3 => TX3
  | 4 => TX4
  | 5 => TX5
  | 6 => TX6
  | _ => am_TE
def am_N : Nat → Nat := fun c => match c with
  | 0 => 6
  | 1 => 3
  | 2 => 2
  | 3 => 3
  | 4 => 4
  | 5 => 14
  | 6 => 5
  | _ => 0
def am_ty : Nat → (Nat → FieldType) := fun c => match c with
  | 0 => tyX0
  | 1 => tyX1
  | 2 => tyX2
  | 3 => tyX3
  | 4 => tyX4
  | 5 => tyX5
  | 6 => tyX6
  | _ => fun _ => .int
/-- the words that hold in every method's start: those of the law's table that a warmed machine keeps -/
def am_kw (w : Cond) : Bool := goodWord w || (match w with | .fieldLinkNest .. => true | .methodLinkNest .. => true | .castable .. => true | .declares .. => true | _ => false)
def am_gw : List Cond := lw_tbl.filter am_kw
theorem am_mem {w : Cond} (h : w ∈ lw_tbl) (hk : am_kw w = true) : w ∈ am_gw := List.mem_filter.mpr ⟨h, hk⟩
def am_at (i : Nat) (w : Cond) : Bool := decide (lw_tbl[i]? = some w) && am_kw w
theorem am_at_mem {i : Nat} {w : Cond} (h : am_at i w = true) : w ∈ am_gw := by
  simp only [am_at, Bool.and_eq_true, decide_eq_true_eq] at h
  exact am_mem (List.mem_of_getElem? h.1) h.2
def am_in (w : Cond) : Bool := decide (w ∈ lw_tbl) && am_kw w
theorem am_in_mem {w : Cond} (h : am_in w = true) : w ∈ am_gw := by
  simp only [am_in, Bool.and_eq_true, decide_eq_true_eq] at h
  exact am_mem h.1 h.2
/-- field links: own class, index, field, place of the word, 1 where it is a nest mate's -/
def am_fl : List (Nat × Nat × Nat × Nat × Nat) := [(0, 9, 0, 150, 0), (0, 15, 1, 152, 0), (0, 18, 2, 154, 0), (0, 21, 3, 156, 0), (0, 24, 4, 158, 0), (0, 28, 5, 160, 0), (1, 9, 32, 134, 0), (1, 15, 33, 135, 0), (1, 18, 34, 136, 0), (1, 45, 160, 72, 1), (2, 9, 64, 48, 0), (2, 15, 65, 49, 0), (3, 11, 96, 201, 0), (3, 17, 97, 202, 0), (3, 21, 98, 203, 0), (4, 12, 128, 176, 0), (4, 21, 129, 178, 0), (4, 28, 130, 180, 0), (4, 32, 131, 182, 0), (4, 44, 168, 87, 1), (4, 55, 169, 90, 1), (4, 69, 170, 92, 1), (4, 78, 5, 161, 1), (4, 84, 4, 159, 1), (4, 97, 165, 80, 1), (4, 129, 160, 73, 1), (4, 136, 2, 155, 1), (4, 167, 0, 151, 1), (4, 170, 1, 153, 1), (4, 173, 166, 83, 1), (4, 192, 3, 157, 1), (4, 195, 167, 85, 1), (4, 196, 173, 97, 1), (5, 9, 160, 71, 0), (5, 15, 161, 75, 0), (5, 19, 162, 76, 0), (5, 22, 163, 77, 0), (5, 25, 164, 78, 0), (5, 28, 165, 79, 0), (5, 31, 166, 82, 0), (5, 34, 167, 84, 0), (5, 37, 168, 86, 0), (5, 40, 169, 89, 0), (5, 43, 170, 91, 0), (5, 46, 171, 94, 0), (5, 49, 172, 95, 0), (5, 52, 173, 96, 0), (6, 12, 192, 214, 0), (6, 19, 193, 215, 0), (6, 26, 194, 216, 0), (6, 33, 195, 217, 0), (6, 37, 196, 218, 0), (6, 199, 128, 177, 1), (6, 217, 168, 88, 1), (6, 239, 129, 179, 1), (6, 254, 160, 74, 1), (6, 275, 165, 81, 1), (6, 281, 170, 93, 1), (6, 320, 130, 181, 1), (6, 324, 5, 162, 1), (6, 335, 173, 98, 1), (6, 344, 98, 204, 1)]
def am_flw (q : Nat × Nat × Nat × Nat × Nat) : Cond := if q.2.2.2.2 = 1 then .fieldLinkNest (am_nm q.1) q.2.1 (am_T (q.2.2.1 / 32) (q.2.2.1 % 32)).1 (am_T (q.2.2.1 / 32) (q.2.2.1 % 32)).2.1 (am_T (q.2.2.1 / 32) (q.2.2.1 % 32)).2.2.1 "BranchedSource" else .fieldLink (am_nm q.1) q.2.1 (am_T (q.2.2.1 / 32) (q.2.2.1 % 32)).1 (am_T (q.2.2.1 / 32) (q.2.2.1 % 32)).2.1 (am_T (q.2.2.1 / 32) (q.2.2.1 % 32)).2.2.1
theorem am_fl_ok : am_fl.all (fun q => am_at q.2.2.2.1 (am_flw q)) = true := by decide +kernel
def am_flk (o i ck : Nat) : Bool := am_fl.any fun q => q.1 == o && q.2.1 == i && q.2.2.1 == ck
/-- method links: own class, index, method, place of the word, 1 where it is a nest mate's -/
def am_ml : List (Nat × Nat × Nat × Nat × Nat) := [(1, 21, 9000, 538, 0), (1, 27, 1017, 630, 0), (1, 31, 1015, 634, 0), (1, 35, 5007, 776, 0), (1, 41, 5015, 629, 0), (1, 49, 1009, 698, 0), (1, 53, 1008, 674, 0), (1, 56, 5005, 542, 0), (1, 59, 5006, 543, 0), (1, 67, 1016, 539, 0), (1, 71, 5016, 958, 0), (2, 19, 2006, 1117, 0), (2, 23, 2011, 1121, 0), (2, 27, 2010, 1127, 0), (2, 31, 2012, 1124, 0), (2, 34, 2013, 1130, 0), (3, 24, 5001, 200, 0), (3, 25, 3004, 339, 0), (3, 29, 5002, 343, 0), (4, 11, 5001, 64, 0), (4, 20, 1001, 130, 1), (4, 27, 1, 146, 1), (4, 36, 5022, 793, 0), (4, 40, 5024, 810, 0), (4, 48, 5029, 797, 0), (4, 51, 5004, 822, 0), (4, 58, 5013, 831, 0), (4, 62, 5016, 533, 0), (4, 65, 5020, 904, 0), (4, 72, 5032, 1046, 0), (4, 75, 4029, 1061, 0), (4, 81, 4031, 938, 0), (4, 87, 5018, 855, 0), (4, 90, 5019, 864, 0), (4, 93, 5014, 876, 0), (4, 100, 5015, 882, 0), (4, 103, 5026, 894, 0), (4, 106, 4025, 919, 0), (4, 109, 4026, 924, 0), (4, 112, 4027, 933, 0), (4, 115, 4032, 934, 0), (4, 119, 5003, 985, 0), (4, 122, 4028, 970, 0), (4, 126, 3, 986, 0), (4, 132, 1014, 954, 0), (4, 139, 5008, 544, 0), (4, 143, 1015, 959, 0), (4, 147, 4030, 960, 0), (4, 150, 2, 548, 0), (4, 153, 5027, 791, 0), (4, 156, 5021, 792, 0), (4, 159, 1002, 923, 0), (4, 163, 1011, 534, 0), (4, 182, 5033, 1065, 0), (4, 185, 5034, 1069, 0), (4, 189, 5005, 964, 0), (5, 55, 9000, 68, 0), (5, 73, 5007, 562, 0), (5, 76, 5006, 648, 0), (5, 80, 5012, 744, 0), (5, 83, 5005, 748, 0), (5, 86, 5016, 561, 0), (5, 90, 5020, 835, 0), (5, 94, 5015, 455, 0), (5, 97, 5014, 620, 0), (5, 101, 5019, 839, 0), (5, 105, 5008, 843, 0), (5, 109, 5021, 560, 0), (5, 112, 5024, 898, 0), (5, 115, 5027, 430, 0), (5, 118, 5028, 582, 0), (6, 11, 2001, 44, 1), (6, 18, 4001, 58, 1), (6, 25, 3001, 194, 0), (6, 32, 5001, 213, 0), (6, 48, 2003, 1097, 0), (6, 57, 2004, 1102, 0), (6, 61, 2005, 1085, 0), (6, 65, 2007, 1113, 0), (6, 70, 6066, 331, 0), (6, 73, 2002, 1141, 0), (6, 76, 6067, 1145, 0), (6, 80, 6068, 1154, 0), (6, 84, 2008, 1158, 0), (6, 87, 6061, 385, 0), (6, 93, 6060, 407, 0), (6, 97, 4002, 806, 0), (6, 100, 4003, 818, 0), (6, 105, 4004, 827, 0), (6, 108, 6064, 465, 0), (6, 111, 4005, 1026, 0), (6, 114, 4006, 1037, 0), (6, 119, 4007, 1042, 0), (6, 122, 4008, 1057, 0), (6, 127, 4009, 1074, 0), (6, 130, 4010, 851, 0), (6, 135, 4011, 860, 0), (6, 138, 6062, 443, 0), (6, 141, 4012, 872, 0), (6, 146, 4013, 878, 0), (6, 149, 4014, 890, 0), (6, 154, 4015, 900, 0), (6, 157, 4016, 915, 0), (6, 162, 4017, 929, 0), (6, 165, 4018, 981, 0), (6, 171, 4019, 991, 0), (6, 177, 4020, 950, 0), (6, 182, 4021, 966, 0), (6, 185, 6065, 422, 0), (6, 188, 4022, 787, 0), (6, 191, 4023, 1010, 0), (6, 196, 4024, 1015, 0), (6, 202, 5028, 426, 0), (6, 205, 5027, 435, 0), (6, 208, 5029, 578, 0), (6, 211, 5030, 587, 0), (6, 214, 5031, 595, 0), (6, 221, 5021, 410, 0), (6, 224, 5023, 556, 0), (6, 227, 5024, 570, 0), (6, 230, 5007, 490, 0), (6, 233, 5009, 712, 0), (6, 236, 5011, 740, 0), (6, 243, 1005, 772, 0), (6, 249, 5025, 606, 0), (6, 257, 5005, 474, 0), (6, 260, 5006, 482, 0), (6, 263, 5017, 616, 0), (6, 266, 5014, 451, 0), (6, 269, 6063, 447, 0), (6, 272, 5015, 460, 0), (6, 278, 5016, 505, 0), (6, 284, 1006, 625, 0), (6, 288, 1002, 732, 0), (6, 292, 1003, 659, 0), (6, 298, 1004, 724, 0), (6, 302, 1007, 694, 0), (6, 305, 1010, 670, 0), (6, 308, 1011, 686, 0), (6, 311, 1012, 756, 0), (6, 314, 1013, 764, 0), (6, 317, 4027, 529, 0), (6, 332, 5010, 644, 0), (6, 338, 5002, 238, 0), (6, 349, 3003, 352, 0), (6, 352, 6059, 388, 0), (6, 362, 5003, 469, 0), (6, 369, 3002, 335, 0), (6, 372, 2009, 1149, 0), (6, 375, 2006, 1153, 0), (8, 9, 6002, 1092, 0), (8, 19, 6005, 1136, 0), (8, 23, 6006, 801, 0), (8, 27, 6007, 814, 0), (8, 30, 6008, 1022, 0), (8, 33, 6009, 1033, 0), (8, 36, 6010, 1053, 0), (8, 39, 6011, 847, 0), (8, 42, 6012, 868, 0), (8, 45, 6013, 886, 0), (8, 48, 6014, 911, 0), (8, 51, 6015, 977, 0), (8, 54, 6016, 998, 0), (8, 57, 6017, 946, 0), (8, 60, 6018, 783, 0), (8, 64, 6019, 1006, 0), (8, 67, 6020, 512, 0), (8, 71, 6021, 418, 0), (8, 75, 6027, 381, 0), (8, 81, 6030, 486, 0), (8, 91, 6039, 497, 0), (8, 95, 6040, 439, 0), (8, 101, 6047, 719, 0), (8, 104, 6053, 525, 0), (8, 110, 6057, 260, 0), (8, 113, 6058, 347, 0), (8, 116, 6031, 708, 0), (8, 119, 6048, 690, 0), (8, 122, 6050, 682, 0), (8, 137, 6046, 655, 0), (8, 140, 6049, 666, 0), (8, 147, 6035, 230, 0), (8, 150, 6041, 361, 0), (8, 153, 6043, 365, 0), (8, 156, 6055, 369, 0), (8, 159, 6025, 373, 0), (8, 163, 6026, 377, 0), (8, 166, 8020, 414, 0), (8, 171, 8024, 436, 0), (8, 131, 6036, 461, 0), (8, 134, 6037, 478, 0), (8, 174, 8002, 252, 0), (8, 177, 8035, 563, 0), (8, 181, 8032, 652, 0), (8, 183, 8033, 663, 0), (8, 185, 8031, 679, 0), (8, 187, 8030, 687, 0), (8, 189, 8022, 702, 0), (8, 192, 8029, 705, 0), (8, 194, 8025, 716, 0), (8, 98, 6045, 728, 0), (8, 84, 6032, 736, 0), (8, 196, 8037, 749, 0), (8, 125, 6051, 752, 0), (8, 128, 6052, 760, 0), (8, 200, 8036, 637, 0), (8, 87, 6033, 768, 0), (8, 203, 6042, 501, 0), (8, 206, 8019, 509, 0), (8, 208, 8021, 516, 0), (8, 210, 8023, 519, 0), (8, 212, 8026, 522, 0), (8, 78, 6028, 552, 0), (8, 214, 6029, 566, 0), (8, 217, 6022, 574, 0), (8, 220, 6023, 583, 0), (8, 223, 6024, 591, 0), (8, 226, 6034, 602, 0), (8, 232, 6038, 612, 0), (8, 235, 6044, 621, 0), (8, 238, 6054, 640, 0), (8, 241, 8038, 649, 0), (8, 245, 8003, 1089, 0), (8, 247, 8034, 356, 0), (8, 251, 6003, 1081, 0), (8, 254, 8040, 1106, 0), (8, 257, 6004, 1109, 0), (8, 260, 8004, 1133, 0), (8, 263, 8028, 344, 0), (8, 265, 8013, 908, 0), (8, 267, 8016, 943, 0), (8, 269, 8014, 974, 0), (8, 271, 8015, 995, 0), (8, 273, 8017, 780, 0), (8, 276, 8005, 798, 0), (8, 278, 8006, 811, 0), (8, 280, 8010, 844, 0), (8, 282, 8011, 865, 0), (8, 284, 8012, 883, 0), (8, 286, 8042, 905, 0), (8, 290, 8018, 1003, 0), (8, 292, 8007, 1019, 0), (8, 294, 8008, 1030, 0), (8, 296, 8009, 1050, 0), (8, 298, 8041, 1078, 0), (8, 301, 6001, 36, 0), (8, 302, 8039, 494, 0), (8, 305, 8027, 256, 0), (8, 307, 8001, 248, 0), (8, 311, 8043, 777, 0), (8, 314, 6056, 234, 0)]
/-- an instruction: pc, what it is (resolved), its length, its own index -/
abbrev am_I : Type := Nat × Instr × Nat × Nat
/-- a method: number (its class is the thousands), name, descriptor, code, locals, result, handlers as the class file has them, handlers resolved, instructions -/
abbrev am_M : Type := Nat × (String × String) × ByteArray × Nat × Option FieldType × List (Nat × Nat × Nat × Nat) × List (Nat × Nat × Nat × Nat × Nat × Nat) × List am_I
noncomputable def am_t1_0 : List am_I := [
  (0, .aload 0, 1, 0), (1, .invokespecial 0, 3, 3), (4, .aload 0, 1, 0), (5, .sipush 24, 2, 0), (7, .newarray .int, 2, 0), (9, .putfield 0, 3, 9), (12, .aload 0, 1, 0), (13, .sipush 24, 2, 0), (15, .newarray .int, 2, 0), 
  (17, .putfield 1, 3, 15), (20, .aload 0, 1, 0), (21, .sipush 24, 2, 0), (23, .newarray .int, 2, 0), (25, .putfield 2, 3, 18), (28, .aload 0, 1, 0), (29, .sipush 24, 2, 0), (31, .newarray .int, 2, 0), (33, .putfield 3, 3, 21), 
  (36, .aload 0, 1, 0), (37, .sipush 0, 1, 0), (38, .putfield 4, 3, 24), (41, .aload 0, 1, 0), (42, .sipush 0, 1, 0), (43, .putfield 5, 3, 28), (46, .return_, 1, 0)]
noncomputable def am_m1 : am_M := (1, ("<init>", "()V"), prog_2_method_1_code, 1, none, [], [], am_t1_0)
noncomputable def am_t2_0 : List am_I := [
  (0, .aload 0, 1, 0), (1, .sipush 0, 1, 0), (2, .putfield 4, 3, 24), (5, .aload 0, 1, 0), (6, .sipush 0, 1, 0), (7, .putfield 5, 3, 28), (10, .sipush 0, 1, 0), (11, .istore 1, 1, 0), (12, .iload 1, 1, 0), (13, .sipush 24, 2, 0), 
  (15, .if_icmp .ge 113, 3, 0), (18, .aload 0, 1, 0), (19, .getfield 3, 3, 21), (22, .iload 1, 1, 0), (23, .sipush (-1), 1, 0), (24, .iastore, 1, 0), (25, .aload 0, 1, 0), (26, .getfield 1, 3, 15), (29, .iload 1, 1, 0), (30, .iaload, 1, 0), 
  (31, .istore 2, 1, 0), (32, .iload 2, 1, 0), (33, .aload 0, 1, 0), (34, .getfield 0, 3, 9), (37, .iload 1, 1, 0), (38, .iaload, 1, 0), (39, .if_icmp .eq 107, 3, 0), (42, .iload 2, 1, 0), (43, .aload 0, 1, 0), (44, .getfield 2, 3, 18), 
  (47, .iload 1, 1, 0), (48, .iaload, 1, 0), (49, .if_icmp .ne 55, 3, 0), (52, .goto 107, 3, 0), (55, .aload 0, 1, 0), (56, .getfield 2, 3, 18), (59, .iload 1, 1, 0), (60, .iaload, 1, 0), (61, .aload 0, 1, 0), (62, .getfield 0, 3, 9), 
  (65, .iload 1, 1, 0), (66, .iaload, 1, 0), (67, .if_icmp .ne 90, 3, 0), (70, .aload 0, 1, 0), (71, .getfield 2, 3, 18), (74, .iload 1, 1, 0), (75, .iload 2, 1, 0), (76, .iastore, 1, 0), (77, .aload 0, 1, 0), (78, .dup, 1, 0), 
  (79, .getfield 4, 3, 24), (82, .sipush 1, 1, 0), (83, .iadd, 1, 0), (84, .putfield 4, 3, 24), (87, .goto 107, 3, 0), (90, .aload 0, 1, 0), (91, .getfield 3, 3, 21), (94, .iload 1, 1, 0), (95, .iload 2, 1, 0), (96, .iastore, 1, 0), 
  (97, .aload 0, 1, 0), (98, .dup, 1, 0), (99, .getfield 5, 3, 28), (102, .sipush 1, 1, 0), (103, .iadd, 1, 0), (104, .putfield 5, 3, 28), (107, .iinc 1 1, 3, 0), (110, .goto 12, 3, 0), (113, .return_, 1, 0)]
noncomputable def am_m2 : am_M := (2, ("combine", "()V"), prog_2_method_2_code, 3, none, [], [], am_t2_0)
noncomputable def am_t3_0 : List am_I := [
  (0, .aload 0, 1, 0), (1, .getfield 4, 3, 24), (4, .ifCond .ne 18, 3, 0), (7, .aload 0, 1, 0), (8, .getfield 5, 3, 28), (11, .ifCond .ne 18, 3, 0), (14, .sipush 1, 1, 0), (15, .goto 19, 3, 0), (18, .sipush 0, 1, 0), (19, .freturn, 1, 0)
  ]
noncomputable def am_m3 : am_M := (3, ("isEmpty", "()Z"), prog_2_method_3_code, 1, (some .boolean), [], [], am_t3_0)
noncomputable def am_t1001_0 : List am_I := [
  (0, .aload 0, 1, 0), (1, .invokespecial 0, 3, 3), (4, .aload 0, 1, 0), (5, .sipush 60, 2, 0), (7, .newarray .int, 2, 0), (9, .putfield 32, 3, 9), (12, .aload 0, 1, 0), (13, .sipush 60, 2, 0), (15, .newarray .int, 2, 0), 
  (17, .putfield 33, 3, 15), (20, .aload 0, 1, 0), (21, .sipush 60, 2, 0), (23, .newarray .int, 2, 0), (25, .putfield 34, 3, 18), (28, .return_, 1, 0)]
noncomputable def am_m1001 : am_M := (1001, ("<init>", "()V"), prog_3_method_1_code, 1, none, [], [], am_t1001_0)
noncomputable def am_t1002_0 : List am_I := [
  (0, .aload 0, 1, 0), (1, .getfield 32, 3, 9), (4, .sipush 0, 1, 0), (5, .multianewarray 9000 2, 3, 21), (8, .aload 1, 1, 0), (9, .iload 2, 1, 0), (10, .aload 0, 1, 0), (11, .getfield 32, 3, 9), (14, .multianewarray 1017 3, 3, 27), 
  (17, .aload 0, 1, 0), (18, .getfield 32, 3, 9), (21, .iload 3, 1, 0), (22, .multianewarray 1015 2, 3, 31), (25, .freturn, 1, 0)]
noncomputable def am_m1002 : am_M := (1002, ("isReached", "(LBranchedSource$State;II)Z"), prog_3_method_2_code, 4, (some .boolean), [], [], am_t1002_0)
noncomputable def am_t1003_0 : List am_I := [
  (0, .aload 0, 1, 0), (1, .getfield 32, 3, 9), (4, .sipush 0, 1, 0), (5, .multianewarray 9000 2, 3, 21), (8, .aload 1, 1, 0), (9, .iload 2, 1, 0), (10, .aload 0, 1, 0), (11, .getfield 32, 3, 9), (14, .multianewarray 1017 3, 3, 27), 
  (17, .sipush 0, 1, 0), (18, .istore 3, 1, 0), (19, .sipush 0, 1, 0), (20, .istore 4, 2, 0), (22, .iload 4, 2, 0), (24, .sipush 60, 2, 0), (26, .if_icmp .ge 50, 3, 0), (29, .aload 0, 1, 0), (30, .getfield 32, 3, 9), (33, .iload 4, 2, 0), 
  (35, .multianewarray 1015 2, 3, 31), (38, .ifCond .eq 44, 3, 0), (41, .iinc 3 1, 3, 0), (44, .iinc 4 1, 3, 0), (47, .goto 22, 3, 0), (50, .iload 3, 1, 0), (51, .ireturn, 1, 0)]
noncomputable def am_m1003 : am_M := (1003, ("countReached", "(LBranchedSource$State;I)I"), prog_3_method_3_code, 5, (some .int), [], [], am_t1003_0)
noncomputable def am_t1004_0 : List am_I := [
  (0, .aload 0, 1, 0), (1, .getfield 32, 3, 9), (4, .sipush 0, 1, 0), (5, .multianewarray 9000 2, 3, 21), (8, .aload 1, 1, 0), (9, .iload 2, 1, 0), (10, .aload 0, 1, 0), (11, .getfield 32, 3, 9), (14, .multianewarray 1017 3, 3, 27), 
  (17, .sipush 0, 1, 0), (18, .istore 4, 2, 0), (20, .sipush 59, 2, 0), (22, .istore 5, 2, 0), (24, .iload 5, 2, 0), (26, .ifCond .lt 59, 3, 0), (29, .aload 0, 1, 0), (30, .getfield 32, 3, 9), (33, .iload 5, 2, 0), (35, .multianewarray 1015 2, 3, 31), 
  (38, .ifCond .eq 53, 3, 0), (41, .iload 4, 2, 0), (43, .iload 3, 1, 0), (44, .if_icmp .ne 50, 3, 0), (47, .iload 5, 2, 0), (49, .ireturn, 1, 0), (50, .iinc 4 1, 3, 0), (53, .iinc 5 (-1), 3, 0), (56, .goto 24, 3, 0), (59, .sipush (-1), 1, 0), 
  (60, .ireturn, 1, 0)]
noncomputable def am_m1004 : am_M := (1004, ("reachedAt", "(LBranchedSource$State;II)I"), prog_3_method_4_code, 6, (some .int), [], [], am_t1004_0)
noncomputable def am_t1005_0 : List am_I := [
  (0, .aload 0, 1, 0), (1, .getfield 32, 3, 9), (4, .sipush 0, 1, 0), (5, .multianewarray 9000 2, 3, 21), (8, .aload 1, 1, 0), (9, .iload 2, 1, 0), (10, .aload 0, 1, 0), (11, .getfield 32, 3, 9), (14, .multianewarray 1017 3, 3, 27), 
  (17, .sipush 0, 1, 0), (18, .istore 5, 2, 0), (20, .iload 5, 2, 0), (22, .sipush 60, 2, 0), (24, .if_icmp .ge 60, 3, 0), (27, .aload 0, 1, 0), (28, .getfield 32, 3, 9), (31, .iload 5, 2, 0), (33, .multianewarray 1015 2, 3, 31), 
  (36, .ifCond .eq 54, 3, 0), (39, .aload 1, 1, 0), (40, .iload 5, 2, 0), (42, .iload 3, 1, 0), (43, .invokeinterface 5007 2, 3, 35), (46, .iload 4, 2, 0), (48, .if_icmp .ne 54, 3, 0), (51, .iload 5, 2, 0), (53, .ireturn, 1, 0), 
  (54, .iinc 5 1, 3, 0), (57, .goto 20, 3, 0), (60, .sipush (-1), 1, 0), (61, .ireturn, 1, 0)]
noncomputable def am_m1005 : am_M := (1005, ("lowestWith", "(LBranchedSource$State;III)I"), prog_3_method_5_code, 6, (some .int), [], [], am_t1005_0)
noncomputable def am_t1006_0 : List am_I := [
  (0, .aload 0, 1, 0), (1, .getfield 32, 3, 9), (4, .sipush 0, 1, 0), (5, .multianewarray 9000 2, 3, 21), (8, .sipush 0, 1, 0), (9, .istore 2, 1, 0), (10, .iload 2, 1, 0), (11, .sipush 6, 2, 0), (13, .if_icmp .ge 35, 3, 0), 
  (16, .aload 1, 1, 0), (17, .aload 1, 1, 0), (18, .iload 2, 1, 0), (19, .invokeinterface 5015 1, 3, 41), (22, .aload 0, 1, 0), (23, .getfield 32, 3, 9), (26, .multianewarray 1017 3, 3, 27), (29, .iinc 2 1, 3, 0), (32, .goto 10, 3, 0), 
  (35, .sipush 0, 1, 0), (36, .istore 2, 1, 0), (37, .sipush 0, 1, 0), (38, .istore 3, 1, 0), (39, .iload 3, 1, 0), (40, .aload 1, 1, 0), (41, .getfield 160, 3, 45), (44, .if_icmp .ge 67, 3, 0), (47, .aload 0, 1, 0), (48, .getfield 32, 3, 9), 
  (51, .iload 3, 1, 0), (52, .multianewarray 1015 2, 3, 31), (55, .ifCond .ne 61, 3, 0), (58, .iinc 2 1, 3, 0), (61, .iinc 3 1, 3, 0), (64, .goto 39, 3, 0), (67, .iload 2, 1, 0), (68, .ireturn, 1, 0)]
noncomputable def am_m1006 : am_M := (1006, ("countUnreached", "(LBranchedSource$State;)I"), prog_3_method_6_code, 4, (some .int), [], [], am_t1006_0)
noncomputable def am_t1007_0 : List am_I := [
  (0, .aload 0, 1, 0), (1, .getfield 34, 3, 18), (4, .sipush (-1), 1, 0), (5, .multianewarray 9000 2, 3, 21), (8, .aload 0, 1, 0), (9, .iload 2, 1, 0), (10, .sipush 0, 1, 0), (11, .invokeinterface 1009 2, 3, 49), (14, .sipush 59, 2, 0), 
  (16, .istore 4, 2, 0), (18, .iload 4, 2, 0), (20, .ifCond .lt 75, 3, 0), (23, .aload 0, 1, 0), (24, .iload 4, 2, 0), (26, .invokeinterface 1008 1, 3, 53), (29, .sipush (-1), 1, 0), (30, .if_icmp .eq 69, 3, 0), (33, .aload 0, 1, 0), 
  (34, .aload 1, 1, 0), (35, .iload 4, 2, 0), (37, .invokeinterface 5005 1, 3, 56), (40, .aload 0, 1, 0), (41, .iload 4, 2, 0), (43, .invokeinterface 1008 1, 3, 53), (46, .sipush 1, 1, 0), (47, .iadd, 1, 0), (48, .invokeinterface 1009 2, 3, 49), 
  (51, .aload 0, 1, 0), (52, .aload 1, 1, 0), (53, .iload 4, 2, 0), (55, .invokeinterface 5006 1, 3, 59), (58, .aload 0, 1, 0), (59, .iload 4, 2, 0), (61, .invokeinterface 1008 1, 3, 53), (64, .sipush 1, 1, 0), (65, .iadd, 1, 0), 
  (66, .invokeinterface 1009 2, 3, 49), (69, .iinc 4 (-1), 3, 0), (72, .goto 18, 3, 0), (75, .aload 0, 1, 0), (76, .iload 3, 1, 0), (77, .invokeinterface 1008 1, 3, 53), (80, .ireturn, 1, 0)]
noncomputable def am_m1007 : am_M := (1007, ("fewestSteps", "(LBranchedSource$State;II)I"), prog_3_method_7_code, 5, (some .int), [], [], am_t1007_0)
noncomputable def am_t1008_0 : List am_I := [
  (0, .iload 1, 1, 0), (1, .ifCond .lt 19, 3, 0), (4, .iload 1, 1, 0), (5, .sipush 60, 2, 0), (7, .if_icmp .ge 19, 3, 0), (10, .aload 0, 1, 0), (11, .getfield 34, 3, 18), (14, .iload 1, 1, 0), (15, .iaload, 1, 0), (16, .goto 20, 3, 0), 
  (19, .sipush (-1), 1, 0), (20, .ireturn, 1, 0)]
noncomputable def am_m1008 : am_M := (1008, ("stepsOf", "(I)I"), prog_3_method_8_code, 2, (some .int), [], [], am_t1008_0)
noncomputable def am_t1009_0 : List am_I := [
  (0, .iload 1, 1, 0), (1, .ifCond .lt 37, 3, 0), (4, .iload 1, 1, 0), (5, .sipush 60, 2, 0), (7, .if_icmp .ge 37, 3, 0), (10, .aload 0, 1, 0), (11, .getfield 34, 3, 18), (14, .iload 1, 1, 0), (15, .iaload, 1, 0), (16, .sipush (-1), 1, 0), 
  (17, .if_icmp .eq 30, 3, 0), (20, .aload 0, 1, 0), (21, .getfield 34, 3, 18), (24, .iload 1, 1, 0), (25, .iaload, 1, 0), (26, .iload 2, 1, 0), (27, .if_icmp .le 37, 3, 0), (30, .aload 0, 1, 0), (31, .getfield 34, 3, 18), 
  (34, .iload 1, 1, 0), (35, .iload 2, 1, 0), (36, .iastore, 1, 0), (37, .return_, 1, 0)]
noncomputable def am_m1009 : am_M := (1009, ("lowerSteps", "(II)V"), prog_3_method_9_code, 3, none, [], [], am_t1009_0)
noncomputable def am_t1010_0 : List am_I := [
  (0, .sipush 0, 1, 0), (1, .istore 3, 1, 0), (2, .iload 3, 1, 0), (3, .sipush 60, 2, 0), (5, .if_icmp .ge 52, 3, 0), (8, .iload 3, 1, 0), (9, .iload 2, 1, 0), (10, .if_icmp .gt 52, 3, 0), (13, .aload 0, 1, 0), (14, .aload 1, 1, 0), 
  (15, .iload 3, 1, 0), (16, .invokeinterface 5005 1, 3, 56), (19, .invokeinterface 1008 1, 3, 53), (22, .aload 0, 1, 0), (23, .aload 1, 1, 0), (24, .iload 3, 1, 0), (25, .invokeinterface 5006 1, 3, 59), (28, .invokeinterface 1008 1, 3, 53), 
  (31, .invokestatic 2, 3, 62), (34, .istore 4, 2, 0), (36, .aload 0, 1, 0), (37, .getfield 34, 3, 18), (40, .iload 3, 1, 0), (41, .iload 4, 2, 0), (43, .sipush 1, 1, 0), (44, .iadd, 1, 0), (45, .iastore, 1, 0), (46, .iinc 3 1, 3, 0), 
  (49, .goto 2, 3, 0), (52, .aload 0, 1, 0), (53, .iload 2, 1, 0), (54, .invokeinterface 1008 1, 3, 53), (57, .ireturn, 1, 0)]
noncomputable def am_m1010 : am_M := (1010, ("mostSteps", "(LBranchedSource$State;I)I"), prog_3_method_10_code, 5, (some .int), [], [], am_t1010_0)
noncomputable def am_t1011_0 : List am_I := [
  (0, .aload 0, 1, 0), (1, .getfield 32, 3, 9), (4, .sipush 0, 1, 0), (5, .multianewarray 9000 2, 3, 21), (8, .aload 0, 1, 0), (9, .getfield 32, 3, 9), (12, .iload 2, 1, 0), (13, .sipush 1, 1, 0), (14, .multianewarray 1016 3, 3, 67), 
  (17, .aload 0, 1, 0), (18, .getfield 32, 3, 9), (21, .iload 3, 1, 0), (22, .sipush 2, 1, 0), (23, .multianewarray 1016 3, 3, 67), (26, .sipush 59, 2, 0), (28, .istore 4, 2, 0), (30, .iload 4, 2, 0), (32, .ifCond .lt 95, 3, 0), 
  (35, .aload 0, 1, 0), (36, .getfield 32, 3, 9), (39, .iload 4, 2, 0), (41, .iaload, 1, 0), (42, .sipush 3, 1, 0), (43, .if_icmp .ne 49, 3, 0), (46, .iload 4, 2, 0), (48, .ireturn, 1, 0), (49, .aload 0, 1, 0), (50, .getfield 32, 3, 9), 
  (53, .aload 1, 1, 0), (54, .iload 4, 2, 0), (56, .invokeinterface 5005 1, 3, 56), (59, .aload 0, 1, 0), (60, .getfield 32, 3, 9), (63, .iload 4, 2, 0), (65, .iaload, 1, 0), (66, .multianewarray 1016 3, 3, 67), (69, .aload 0, 1, 0), 
  (70, .getfield 32, 3, 9), (73, .aload 1, 1, 0), (74, .iload 4, 2, 0), (76, .invokeinterface 5006 1, 3, 59), (79, .aload 0, 1, 0), (80, .getfield 32, 3, 9), (83, .iload 4, 2, 0), (85, .iaload, 1, 0), (86, .multianewarray 1016 3, 3, 67), 
  (89, .iinc 4 (-1), 3, 0), (92, .goto 30, 3, 0), (95, .sipush (-1), 1, 0), (96, .ireturn, 1, 0)]
noncomputable def am_m1011 : am_M := (1011, ("commonByGoingDown", "(LBranchedSource$State;II)I"), prog_3_method_11_code, 5, (some .int), [], [], am_t1011_0)
noncomputable def am_t1012_0 : List am_I := [
  (0, .aload 0, 1, 0), (1, .getfield 32, 3, 9), (4, .sipush 0, 1, 0), (5, .multianewarray 9000 2, 3, 21), (8, .aload 1, 1, 0), (9, .iload 2, 1, 0), (10, .aload 0, 1, 0), (11, .getfield 32, 3, 9), (14, .multianewarray 1017 3, 3, 27), 
  (17, .aload 0, 1, 0), (18, .getfield 33, 3, 15), (21, .sipush 0, 1, 0), (22, .multianewarray 9000 2, 3, 21), (25, .aload 1, 1, 0), (26, .iload 3, 1, 0), (27, .aload 0, 1, 0), (28, .getfield 33, 3, 15), (31, .multianewarray 1017 3, 3, 27), 
  (34, .sipush 59, 2, 0), (36, .istore 4, 2, 0), (38, .iload 4, 2, 0), (40, .ifCond .lt 76, 3, 0), (43, .aload 0, 1, 0), (44, .getfield 32, 3, 9), (47, .iload 4, 2, 0), (49, .multianewarray 1015 2, 3, 31), (52, .ifCond .eq 70, 3, 0), 
  (55, .aload 0, 1, 0), (56, .getfield 33, 3, 15), (59, .iload 4, 2, 0), (61, .multianewarray 1015 2, 3, 31), (64, .ifCond .eq 70, 3, 0), (67, .iload 4, 2, 0), (69, .ireturn, 1, 0), (70, .iinc 4 (-1), 3, 0), (73, .goto 38, 3, 0), 
  (76, .sipush (-1), 1, 0), (77, .ireturn, 1, 0)]
noncomputable def am_m1012 : am_M := (1012, ("commonByMarks", "(LBranchedSource$State;II)I"), prog_3_method_12_code, 5, (some .int), [], [], am_t1012_0)
noncomputable def am_t1013_0 : List am_I := [
  (0, .aload 0, 1, 0), (1, .getfield 32, 3, 9), (4, .sipush 0, 1, 0), (5, .multianewarray 9000 2, 3, 21), (8, .aload 0, 1, 0), (9, .getfield 32, 3, 9), (12, .iload 2, 1, 0), (13, .sipush 1, 1, 0), (14, .multianewarray 1016 3, 3, 67), 
  (17, .aload 0, 1, 0), (18, .getfield 32, 3, 9), (21, .iload 3, 1, 0), (22, .sipush 2, 1, 0), (23, .multianewarray 1016 3, 3, 67), (26, .sipush 0, 1, 0), (27, .istore 4, 2, 0), (29, .sipush 59, 2, 0), (31, .istore 5, 2, 0), 
  (33, .iload 5, 2, 0), (35, .ifCond .lt 107, 3, 0), (38, .aload 0, 1, 0), (39, .getfield 32, 3, 9), (42, .iload 5, 2, 0), (44, .iaload, 1, 0), (45, .sipush 3, 1, 0), (46, .if_icmp .ne 61, 3, 0), (49, .iinc 4 1, 3, 0), (52, .aload 0, 1, 0), 
  (53, .getfield 32, 3, 9), (56, .iload 5, 2, 0), (58, .sipush 7, 2, 0), (60, .iastore, 1, 0), (61, .aload 0, 1, 0), (62, .getfield 32, 3, 9), (65, .aload 1, 1, 0), (66, .iload 5, 2, 0), (68, .invokeinterface 5005 1, 3, 56), 
  (71, .aload 0, 1, 0), (72, .getfield 32, 3, 9), (75, .iload 5, 2, 0), (77, .iaload, 1, 0), (78, .multianewarray 1016 3, 3, 67), (81, .aload 0, 1, 0), (82, .getfield 32, 3, 9), (85, .aload 1, 1, 0), (86, .iload 5, 2, 0), 
  (88, .invokeinterface 5006 1, 3, 59), (91, .aload 0, 1, 0), (92, .getfield 32, 3, 9), (95, .iload 5, 2, 0), (97, .iaload, 1, 0), (98, .multianewarray 1016 3, 3, 67), (101, .iinc 5 (-1), 3, 0), (104, .goto 33, 3, 0), (107, .iload 4, 2, 0), 
  (109, .ireturn, 1, 0)]
noncomputable def am_m1013 : am_M := (1013, ("countBest", "(LBranchedSource$State;II)I"), prog_3_method_13_code, 6, (some .int), [], [], am_t1013_0)
noncomputable def am_t1014_0 : List am_I := [
  (0, .aload 0, 1, 0), (1, .getfield 32, 3, 9), (4, .sipush 0, 1, 0), (5, .multianewarray 9000 2, 3, 21), (8, .aload 1, 1, 0), (9, .iload 2, 1, 0), (10, .aload 0, 1, 0), (11, .getfield 32, 3, 9), (14, .multianewarray 1017 3, 3, 27), 
  (17, .aload 3, 1, 0), (18, .sipush 0, 1, 0), (19, .multianewarray 9000 2, 3, 21), (22, .aload 1, 1, 0), (23, .invokeinterface 5016 0, 3, 71), (26, .istore 4, 2, 0), (28, .sipush 0, 1, 0), (29, .istore 5, 2, 0), (31, .iload 5, 2, 0), 
  (33, .sipush 60, 2, 0), (35, .if_icmp .ge 77, 3, 0), (38, .iload 4, 2, 0), (40, .sipush (-1), 1, 0), (41, .if_icmp .eq 77, 3, 0), (44, .aload 0, 1, 0), (45, .getfield 32, 3, 9), (48, .iload 4, 2, 0), (50, .multianewarray 1015 2, 3, 31), 
  (53, .ifCond .ne 77, 3, 0), (56, .aload 3, 1, 0), (57, .iload 4, 2, 0), (59, .sipush 1, 1, 0), (60, .multianewarray 1016 3, 3, 67), (63, .aload 1, 1, 0), (64, .iload 4, 2, 0), (66, .invokeinterface 5005 1, 3, 56), (69, .istore 4, 2, 0), 
  (71, .iinc 5 1, 3, 0), (74, .goto 31, 3, 0), (77, .return_, 1, 0)]
noncomputable def am_m1014 : am_M := (1014, ("markReplayed", "(LBranchedSource$State;I[I)V"), prog_3_method_14_code, 6, none, [], [], am_t1014_0)
noncomputable def am_t1015_0 : List am_I := [
  (0, .iload 1, 1, 0), (1, .ifCond .lt 20, 3, 0), (4, .iload 1, 1, 0), (5, .aload 0, 1, 0), (6, .arraylength, 1, 0), (7, .if_icmp .ge 20, 3, 0), (10, .aload 0, 1, 0), (11, .iload 1, 1, 0), (12, .iaload, 1, 0), (13, .ifCond .eq 20, 3, 0), 
  (16, .sipush 1, 1, 0), (17, .goto 21, 3, 0), (20, .sipush 0, 1, 0), (21, .freturn, 1, 0)]
noncomputable def am_m1015 : am_M := (1015, ("isMarked", "([II)Z"), prog_3_method_15_code, 2, (some .boolean), [], [], am_t1015_0)
noncomputable def am_t1016_0 : List am_I := [
  (0, .iload 1, 1, 0), (1, .ifCond .lt 17, 3, 0), (4, .iload 1, 1, 0), (5, .aload 0, 1, 0), (6, .arraylength, 1, 0), (7, .if_icmp .ge 17, 3, 0), (10, .aload 0, 1, 0), (11, .iload 1, 1, 0), (12, .dup2, 1, 0), (13, .iaload, 1, 0), 
  (14, .iload 2, 1, 0), (15, .ior, 1, 0), (16, .iastore, 1, 0), (17, .return_, 1, 0)]
noncomputable def am_m1016 : am_M := (1016, ("addMark", "([III)V"), prog_3_method_16_code, 3, none, [], [], am_t1016_0)
noncomputable def am_t1017_0 : List am_I := [
  (0, .aload 2, 1, 0), (1, .iload 1, 1, 0), (2, .sipush 1, 1, 0), (3, .multianewarray 1016 3, 3, 67), (6, .iload 1, 1, 0), (7, .aload 2, 1, 0), (8, .arraylength, 1, 0), (9, .sipush 1, 1, 0), (10, .isub, 1, 0), (11, .invokestatic 3, 3, 75), 
  (14, .istore 3, 1, 0), (15, .iload 3, 1, 0), (16, .ifCond .lt 51, 3, 0), (19, .aload 2, 1, 0), (20, .iload 3, 1, 0), (21, .iaload, 1, 0), (22, .ifCond .eq 45, 3, 0), (25, .aload 2, 1, 0), (26, .aload 0, 1, 0), (27, .iload 3, 1, 0), 
  (28, .invokeinterface 5005 1, 3, 56), (31, .sipush 1, 1, 0), (32, .multianewarray 1016 3, 3, 67), (35, .aload 2, 1, 0), (36, .aload 0, 1, 0), (37, .iload 3, 1, 0), (38, .invokeinterface 5006 1, 3, 59), (41, .sipush 1, 1, 0), 
  (42, .multianewarray 1016 3, 3, 67), (45, .iinc 3 (-1), 3, 0), (48, .goto 15, 3, 0), (51, .return_, 1, 0)]
noncomputable def am_m1017 : am_M := (1017, ("markReached", "(LBranchedSource$State;I[I)V"), prog_3_method_17_code, 4, none, [], [], am_t1017_0)
noncomputable def am_t2001_0 : List am_I := [
  (0, .aload 0, 1, 0), (1, .invokespecial 0, 3, 3), (4, .aload 0, 1, 0), (5, .sipush 60, 2, 0), (7, .newarray .int, 2, 0), (9, .putfield 64, 3, 9), (12, .aload 0, 1, 0), (13, .sipush 0, 1, 0), (14, .putfield 65, 3, 15), (17, .return_, 1, 0)
  ]
noncomputable def am_m2001 : am_M := (2001, ("<init>", "()V"), prog_4_method_1_code, 1, none, [], [], am_t2001_0)
noncomputable def am_t2002_0 : List am_I := [
  (0, .aload 0, 1, 0), (1, .getfield 65, 3, 15), (4, .ireturn, 1, 0)]
noncomputable def am_m2002 : am_M := (2002, ("length", "()I"), prog_4_method_2_code, 1, (some .int), [], [], am_t2002_0)
noncomputable def am_t2003_0 : List am_I := [
  (0, .aload 0, 1, 0), (1, .getfield 65, 3, 15), (4, .sipush 60, 2, 0), (6, .if_icmp .lt 13, 3, 0), (9, .sipush 1, 1, 0), (10, .goto 14, 3, 0), (13, .sipush 0, 1, 0), (14, .freturn, 1, 0)]
noncomputable def am_m2003 : am_M := (2003, ("isFull", "()Z"), prog_4_method_3_code, 1, (some .boolean), [], [], am_t2003_0)
noncomputable def am_t2004_0 : List am_I := [
  (0, .aload 0, 1, 0), (1, .getfield 65, 3, 15), (4, .sipush 60, 2, 0), (6, .if_icmp .ge 29, 3, 0), (9, .aload 0, 1, 0), (10, .getfield 64, 3, 9), (13, .aload 0, 1, 0), (14, .getfield 65, 3, 15), (17, .iload 1, 1, 0), (18, .iastore, 1, 0), 
  (19, .aload 0, 1, 0), (20, .dup, 1, 0), (21, .getfield 65, 3, 15), (24, .sipush 1, 1, 0), (25, .iadd, 1, 0), (26, .putfield 65, 3, 15), (29, .aload 0, 1, 0), (30, .getfield 65, 3, 15), (33, .ireturn, 1, 0)]
noncomputable def am_m2004 : am_M := (2004, ("append", "(I)I"), prog_4_method_4_code, 2, (some .int), [], [], am_t2004_0)
noncomputable def am_t2005_0 : List am_I := [
  (0, .aload 0, 1, 0), (1, .getfield 65, 3, 15), (4, .istore 1, 1, 0), (5, .aload 0, 1, 0), (6, .sipush 0, 1, 0), (7, .putfield 65, 3, 15), (10, .iload 1, 1, 0), (11, .ireturn, 1, 0)]
noncomputable def am_m2005 : am_M := (2005, ("empty", "()I"), prog_4_method_5_code, 2, (some .int), [], [], am_t2005_0)
noncomputable def am_t2006_0 : List am_I := [
  (0, .iload 1, 1, 0), (1, .ifCond .lt 27, 3, 0), (4, .iload 1, 1, 0), (5, .aload 0, 1, 0), (6, .getfield 65, 3, 15), (9, .if_icmp .ge 27, 3, 0), (12, .iload 1, 1, 0), (13, .sipush 60, 2, 0), (15, .if_icmp .ge 27, 3, 0), 
  (18, .aload 0, 1, 0), (19, .getfield 64, 3, 9), (22, .iload 1, 1, 0), (23, .iaload, 1, 0), (24, .goto 29, 3, 0), (27, .sipush 59, 2, 0), (29, .ireturn, 1, 0)]
noncomputable def am_m2006 : am_M := (2006, ("signAt", "(I)I"), prog_4_method_6_code, 2, (some .int), [], [], am_t2006_0)
noncomputable def am_t2007_0 : List am_I := [
  (0, .sipush 0, 1, 0), (1, .istore 1, 1, 0), (2, .sipush 0, 1, 0), (3, .istore 2, 1, 0), (4, .iload 2, 1, 0), (5, .aload 0, 1, 0), (6, .getfield 65, 3, 15), (9, .if_icmp .ge 36, 3, 0), (12, .iload 1, 1, 0), (13, .aload 0, 1, 0), 
  (14, .iload 2, 1, 0), (15, .invokeinterface 2006 1, 3, 19), (18, .multianewarray 2011 2, 3, 23), (21, .istore 1, 1, 0), (22, .iload 1, 1, 0), (23, .sipush 9, 2, 0), (25, .if_icmp .ne 30, 3, 0), (28, .iload 2, 1, 0), (29, .ireturn, 1, 0), 
  (30, .iinc 2 1, 3, 0), (33, .goto 4, 3, 0), (36, .iload 1, 1, 0), (37, .ifCond .ne 44, 3, 0), (40, .sipush (-1), 1, 0), (41, .goto 48, 3, 0), (44, .aload 0, 1, 0), (45, .getfield 65, 3, 15), (48, .ireturn, 1, 0)]
noncomputable def am_m2007 : am_M := (2007, ("firstFault", "()I"), prog_4_method_7_code, 3, (some .int), [], [], am_t2007_0)
noncomputable def am_t2008_0 : List am_I := [
  (0, .iload 1, 1, 0), (1, .istore 2, 1, 0), (2, .iload 2, 1, 0), (3, .aload 0, 1, 0), (4, .getfield 65, 3, 15), (7, .if_icmp .ge 26, 3, 0), (10, .aload 0, 1, 0), (11, .iload 2, 1, 0), (12, .invokeinterface 2006 1, 3, 19), 
  (15, .sipush 59, 2, 0), (17, .if_icmp .eq 26, 3, 0), (20, .iinc 2 1, 3, 0), (23, .goto 2, 3, 0), (26, .iload 2, 1, 0), (27, .ireturn, 1, 0)]
noncomputable def am_m2008 : am_M := (2008, ("endOfOrder", "(I)I"), prog_4_method_8_code, 3, (some .int), [], [], am_t2008_0)
noncomputable def am_t2009_0 : List am_I := [
  (0, .sipush 0, 1, 0), (1, .istore 2, 1, 0), (2, .iload 1, 1, 0), (3, .istore 3, 1, 0), (4, .iload 3, 1, 0), (5, .iload 1, 1, 0), (6, .sipush 2, 1, 0), (7, .iadd, 1, 0), (8, .if_icmp .ge 46, 3, 0), (11, .aload 0, 1, 0), 
  (12, .iload 3, 1, 0), (13, .invokeinterface 2006 1, 3, 19), (16, .sipush 48, 2, 0), (18, .sipush 57, 2, 0), (20, .multianewarray 2010 3, 3, 27), (23, .ifCond .eq 46, 3, 0), (26, .iload 2, 1, 0), (27, .sipush 10, 2, 0), 
  (29, .imul, 1, 0), (30, .aload 0, 1, 0), (31, .iload 3, 1, 0), (32, .invokeinterface 2006 1, 3, 19), (35, .sipush 48, 2, 0), (37, .isub, 1, 0), (38, .iadd, 1, 0), (39, .istore 2, 1, 0), (40, .iinc 3 1, 3, 0), (43, .goto 4, 3, 0), 
  (46, .iload 2, 1, 0), (47, .ireturn, 1, 0)]
noncomputable def am_m2009 : am_M := (2009, ("numberFrom", "(I)I"), prog_4_method_9_code, 4, (some .int), [], [], am_t2009_0)
noncomputable def am_t2010_0 : List am_I := [
  (0, .iload 0, 1, 0), (1, .iload 1, 1, 0), (2, .if_icmp .lt 14, 3, 0), (5, .iload 0, 1, 0), (6, .iload 2, 1, 0), (7, .if_icmp .gt 14, 3, 0), (10, .sipush 1, 1, 0), (11, .goto 15, 3, 0), (14, .sipush 0, 1, 0), (15, .freturn, 1, 0)
  ]
noncomputable def am_m2010 : am_M := (2010, ("isBetween", "(III)Z"), prog_4_method_10_code, 3, (some .boolean), [], [], am_t2010_0)
noncomputable def am_t2011_0 : List am_I := [
  (0, .iload 0, 1, 0), (1, .tableswitch 157 0 7 #[48, 53, 66, 84, 97, 104, 123, 130], 47, 0), (48, .iload 1, 1, 0), (49, .multianewarray 2012 1, 3, 31), (52, .ireturn, 1, 0), (53, .iload 1, 1, 0), (54, .sipush 46, 2, 0), 
  (56, .if_icmp .ne 63, 3, 0), (59, .sipush 2, 1, 0), (60, .goto 65, 3, 0), (63, .sipush 9, 2, 0), (65, .ireturn, 1, 0), (66, .iload 1, 1, 0), (67, .sipush 48, 2, 0), (69, .sipush 53, 2, 0), (71, .multianewarray 2010 3, 3, 27), 
  (74, .ifCond .eq 81, 3, 0), (77, .sipush 3, 1, 0), (78, .goto 83, 3, 0), (81, .sipush 9, 2, 0), (83, .ireturn, 1, 0), (84, .iload 1, 1, 0), (85, .sipush 61, 2, 0), (87, .if_icmp .ne 94, 3, 0), (90, .sipush 4, 1, 0), (91, .goto 96, 3, 0), 
  (94, .sipush 9, 2, 0), (96, .ireturn, 1, 0), (97, .iload 1, 1, 0), (98, .sipush 57, 2, 0), (100, .multianewarray 2013 2, 3, 34), (103, .ireturn, 1, 0), (104, .iload 1, 1, 0), (105, .sipush 48, 2, 0), (107, .sipush 53, 2, 0), 
  (109, .multianewarray 2010 3, 3, 27), (112, .ifCond .eq 120, 3, 0), (115, .sipush 8, 2, 0), (117, .goto 122, 3, 0), (120, .sipush 9, 2, 0), (122, .ireturn, 1, 0), (123, .iload 1, 1, 0), (124, .sipush 53, 2, 0), (126, .multianewarray 2013 2, 3, 34), 
  (129, .ireturn, 1, 0), (130, .iload 1, 1, 0), (131, .sipush 48, 2, 0), (133, .sipush 57, 2, 0), (135, .multianewarray 2010 3, 3, 27), (138, .ifCond .eq 144, 3, 0), (141, .sipush 8, 2, 0), (143, .ireturn, 1, 0), (144, .iload 1, 1, 0), 
  (145, .sipush 59, 2, 0), (147, .if_icmp .ne 154, 3, 0), (150, .sipush 0, 1, 0), (151, .goto 156, 3, 0), (154, .sipush 9, 2, 0), (156, .ireturn, 1, 0), (157, .iload 1, 1, 0), (158, .sipush 59, 2, 0), (160, .if_icmp .ne 167, 3, 0), 
  (163, .sipush 0, 1, 0), (164, .goto 169, 3, 0), (167, .sipush 9, 2, 0), (169, .ireturn, 1, 0)]
noncomputable def am_m2011 : am_M := (2011, ("awaitedAfter", "(II)I"), prog_4_method_11_code, 2, (some .int), [], [], am_t2011_0)
noncomputable def am_t2012_0 : List am_I := [
  (0, .iload 0, 1, 0), (1, .tableswitch 100 97 115 #[92, 92, 92, 100, 100, 100, 100, 100, 100, 100, 100, 100, 95, 100, 100, 97, 100, 97, 95], 91, 0), (92, .sipush 8, 2, 0), (94, .ireturn, 1, 0), (95, .sipush 5, 1, 0), (96, .ireturn, 1, 0), 
  (97, .sipush 6, 2, 0), (99, .ireturn, 1, 0), (100, .iload 0, 1, 0), (101, .sipush 48, 2, 0), (103, .sipush 51, 2, 0), (105, .multianewarray 2010 3, 3, 27), (108, .ifCond .eq 115, 3, 0), (111, .sipush 1, 1, 0), (112, .goto 117, 3, 0), 
  (115, .sipush 9, 2, 0), (117, .ireturn, 1, 0)]
noncomputable def am_m2012 : am_M := (2012, ("awaitedAfterStart", "(I)I"), prog_4_method_12_code, 1, (some .int), [], [], am_t2012_0)
noncomputable def am_t2013_0 : List am_I := [
  (0, .iload 0, 1, 0), (1, .sipush 48, 2, 0), (3, .sipush 57, 2, 0), (5, .multianewarray 2010 3, 3, 27), (8, .ifCond .ne 14, 3, 0), (11, .sipush 9, 2, 0), (13, .ireturn, 1, 0), (14, .iload 0, 1, 0), (15, .sipush 49, 2, 0), 
  (17, .iload 1, 1, 0), (18, .multianewarray 2010 3, 3, 27), (21, .ifCond .eq 29, 3, 0), (24, .sipush 7, 2, 0), (26, .goto 31, 3, 0), (29, .sipush 8, 2, 0), (31, .ireturn, 1, 0)]
noncomputable def am_m2013 : am_M := (2013, ("awaitedAfterFirstDigit", "(II)I"), prog_4_method_13_code, 2, (some .int), [], [], am_t2013_0)
noncomputable def am_t3001_0 : List am_I := [
  (0, .aload 0, 1, 0), (1, .invokespecial 0, 3, 3), (4, .aload 0, 1, 0), (5, .sipush 4, 1, 0), (6, .anewarray 5, 3, 9), (9, .putfield 96, 3, 11), (12, .aload 0, 1, 0), (13, .sipush 0, 1, 0), (14, .putfield 97, 3, 17), (17, .aload 0, 1, 0), 
  (18, .sipush 0, 1, 0), (19, .putfield 98, 3, 21), (22, .sipush 0, 1, 0), (23, .istore 1, 1, 0), (24, .iload 1, 1, 0), (25, .sipush 4, 1, 0), (26, .if_icmp .ge 48, 3, 0), (29, .aload 0, 1, 0), (30, .getfield 96, 3, 11), 
  (33, .iload 1, 1, 0), (34, .new 5, 3, 9), (37, .dup, 1, 0), (38, .invokespecial 5001, 3, 24), (41, .aastore, 1, 0), (42, .iinc 1 1, 3, 0), (45, .goto 24, 3, 0), (48, .return_, 1, 0)]
noncomputable def am_m3001 : am_M := (3001, ("<init>", "()V"), prog_5_method_1_code, 2, none, [], [], am_t3001_0)
noncomputable def am_t3002_0 : List am_I := [
  (0, .aload 0, 1, 0), (1, .getfield 98, 3, 21), (4, .sipush 4, 1, 0), (5, .if_icmp .ne 30, 3, 0), (8, .aload 0, 1, 0), (9, .aload 0, 1, 0), (10, .getfield 97, 3, 17), (13, .sipush 1, 1, 0), (14, .iadd, 1, 0), (15, .sipush 4, 1, 0), 
  (16, .irem, 1, 0), (17, .putfield 97, 3, 17), (20, .aload 0, 1, 0), (21, .dup, 1, 0), (22, .getfield 98, 3, 21), (25, .sipush 1, 1, 0), (26, .isub, 1, 0), (27, .putfield 98, 3, 21), (30, .aload 0, 1, 0), (31, .aload 0, 1, 0), 
  (32, .getfield 98, 3, 21), (35, .invokeinterface 3004 1, 3, 25), (38, .astore 2, 1, 0), (39, .aload 2, 1, 0), (40, .ifnull 58, 3, 0), (43, .aload 2, 1, 0), (44, .aload 1, 1, 0), (45, .invokeinterface 5002 1, 3, 29), (48, .aload 0, 1, 0), 
  (49, .dup, 1, 0), (50, .getfield 98, 3, 21), (53, .sipush 1, 1, 0), (54, .iadd, 1, 0), (55, .putfield 98, 3, 21), (58, .return_, 1, 0)]
noncomputable def am_m3002 : am_M := (3002, ("add", "(LBranchedSource$State;)V"), prog_5_method_2_code, 3, none, [], [], am_t3002_0)
noncomputable def am_t3003_0 : List am_I := [
  (0, .aload 0, 1, 0), (1, .aload 0, 1, 0), (2, .getfield 98, 3, 21), (5, .sipush 1, 1, 0), (6, .isub, 1, 0), (7, .invokeinterface 3004 1, 3, 25), (10, .astore 2, 1, 0), (11, .aload 2, 1, 0), (12, .ifnull 30, 3, 0), (15, .aload 1, 1, 0), 
  (16, .aload 2, 1, 0), (17, .invokeinterface 5002 1, 3, 29), (20, .aload 0, 1, 0), (21, .dup, 1, 0), (22, .getfield 98, 3, 21), (25, .sipush 1, 1, 0), (26, .isub, 1, 0), (27, .putfield 98, 3, 21), (30, .return_, 1, 0)]
noncomputable def am_m3003 : am_M := (3003, ("bringBack", "(LBranchedSource$State;)V"), prog_5_method_3_code, 3, none, [], [], am_t3003_0)
noncomputable def am_t3004_0 : List am_I := [
  (0, .iload 1, 1, 0), (1, .ifCond .lt 25, 3, 0), (4, .iload 1, 1, 0), (5, .sipush 4, 1, 0), (6, .if_icmp .ge 25, 3, 0), (9, .aload 0, 1, 0), (10, .getfield 96, 3, 11), (13, .aload 0, 1, 0), (14, .getfield 97, 3, 17), (17, .iload 1, 1, 0), 
  (18, .iadd, 1, 0), (19, .sipush 4, 1, 0), (20, .irem, 1, 0), (21, .aaload, 1, 0), (22, .goto 26, 3, 0), (26, .areturn, 1, 0)]
noncomputable def am_m3004 : am_M := (3004, ("stateAt", "(I)LBranchedSource$State;"), prog_5_method_4_code, 2, (some (.object "BranchedSource$State")), [], [], am_t3004_0)
noncomputable def am_t4001_0 : List am_I := [
  (0, .aload 0, 1, 0), (1, .invokespecial 0, 3, 3), (4, .aload 0, 1, 0), (5, .new 5, 3, 9), (8, .dup, 1, 0), (9, .invokespecial 5001, 3, 11), (12, .putfield 128, 3, 12), (15, .aload 0, 1, 0), (16, .new 1, 3, 18), (19, .dup, 1, 0), 
  (20, .invokespecial 1001, 3, 20), (23, .putfield 129, 3, 21), (26, .aload 0, 1, 0), (27, .new 0, 3, 25), (30, .dup, 1, 0), (31, .invokespecial 1, 3, 27), (34, .putfield 130, 3, 28), (37, .aload 0, 1, 0), (38, .sipush 60, 2, 0), 
  (40, .newarray .int, 2, 0), (42, .putfield 131, 3, 32), (45, .return_, 1, 0)]
noncomputable def am_m4001 : am_M := (4001, ("<init>", "()V"), prog_6_method_1_code, 1, none, [], [], am_t4001_0)
noncomputable def am_t4002_0 : List am_I := [
  (0, .aload 0, 1, 0), (1, .getfield 128, 3, 12), (4, .iload 1, 1, 0), (5, .iload 2, 1, 0), (6, .invokeinterface 5022 2, 3, 36), (9, .aload 0, 1, 0), (10, .getfield 128, 3, 12), (13, .invokeinterface 5024 0, 3, 40), (16, .ireturn, 1, 0)
  ]
noncomputable def am_m4002 : am_M := (4002, ("doEdit", "(II)I"), prog_6_method_2_code, 3, (some .int), [], [], am_t4002_0)
noncomputable def am_t4003_0 : List am_I := [
  (0, .aload 0, 1, 0), (1, .getfield 128, 3, 12), (4, .getfield 168, 3, 44), (7, .sipush 1, 1, 0), (8, .if_icmp .eq 21, 3, 0), (11, .aload 0, 1, 0), (12, .getfield 128, 3, 12), (15, .invokeinterface 5024 0, 3, 40), (18, .ifCond .le 25, 3, 0), 
  (21, .sipush 1, 1, 0), (22, .goto 26, 3, 0), (25, .sipush 0, 1, 0), (26, .istore 1, 1, 0), (27, .iload 1, 1, 0), (28, .ifCond .eq 55, 3, 0), (31, .aload 0, 1, 0), (32, .getfield 128, 3, 12), (35, .invokeinterface 5029 0, 3, 48), 
  (38, .ifCond .ne 55, 3, 0), (41, .aload 0, 1, 0), (42, .getfield 128, 3, 12), (45, .invokeinterface 5004 0, 3, 51), (48, .ifCond .eq 55, 3, 0), (51, .sipush 1, 1, 0), (52, .goto 56, 3, 0), (55, .sipush 0, 1, 0), (56, .freturn, 1, 0)
  ]
noncomputable def am_m4003 : am_M := (4003, ("mayCommit", "()Z"), prog_6_method_3_code, 2, (some .boolean), [], [], am_t4003_0)
noncomputable def am_t4004_0 : List am_I := [
  (0, .aload 0, 1, 0), (1, .getfield 128, 3, 12), (4, .aload 0, 1, 0), (5, .getfield 128, 3, 12), (8, .getfield 168, 3, 44), (11, .sipush 1, 1, 0), (12, .if_icmp .ne 25, 3, 0), (15, .aload 0, 1, 0), (16, .getfield 128, 3, 12), 
  (19, .getfield 169, 3, 55), (22, .goto 26, 3, 0), (25, .sipush (-1), 1, 0), (26, .invokeinterface 5013 1, 3, 58), (29, .ireturn, 1, 0)]
noncomputable def am_m4004 : am_M := (4004, ("doCommit", "()I"), prog_6_method_4_code, 1, (some .int), [], [], am_t4004_0)
noncomputable def am_t4005_0 : List am_I := [
  (0, .aload 0, 1, 0), (1, .getfield 128, 3, 12), (4, .invokeinterface 5016 0, 3, 62), (7, .istore 2, 1, 0), (8, .aload 0, 1, 0), (9, .getfield 128, 3, 12), (12, .iload 1, 1, 0), (13, .invokeinterface 5020 1, 3, 65), (16, .iload 2, 1, 0), 
  (17, .ireturn, 1, 0)]
noncomputable def am_m4005 : am_M := (4005, ("doReset", "(I)I"), prog_6_method_5_code, 3, (some .int), [], [], am_t4005_0)
noncomputable def am_t4006_0 : List am_I := [
  (0, .aload 0, 1, 0), (1, .getfield 128, 3, 12), (4, .getfield 168, 3, 44), (7, .ifCond .ne 35, 3, 0), (10, .aload 0, 1, 0), (11, .getfield 128, 3, 12), (14, .invokeinterface 5024 0, 3, 40), (17, .ifCond .le 35, 3, 0), (20, .aload 0, 1, 0), 
  (21, .getfield 128, 3, 12), (24, .getfield 170, 3, 69), (27, .sipush 3, 1, 0), (28, .if_icmp .ge 35, 3, 0), (31, .sipush 1, 1, 0), (32, .goto 36, 3, 0), (35, .sipush 0, 1, 0), (36, .freturn, 1, 0)]
noncomputable def am_m4006 : am_M := (4006, ("mayPutAside", "()Z"), prog_6_method_6_code, 1, (some .boolean), [], [], am_t4006_0)
noncomputable def am_t4007_0 : List am_I := [
  (0, .aload 0, 1, 0), (1, .getfield 128, 3, 12), (4, .invokeinterface 5032 0, 3, 72), (7, .aload 0, 1, 0), (8, .getfield 128, 3, 12), (11, .aload 0, 1, 0), (12, .getfield 128, 3, 12), (15, .invokeinterface 5016 0, 3, 62), 
  (18, .invokeinterface 5020 1, 3, 65), (21, .aload 0, 1, 0), (22, .getfield 128, 3, 12), (25, .getfield 170, 3, 69), (28, .ireturn, 1, 0)]
noncomputable def am_m4007 : am_M := (4007, ("doPutAside", "()I"), prog_6_method_7_code, 1, (some .int), [], [], am_t4007_0)
noncomputable def am_t4008_0 : List am_I := [
  (0, .aload 0, 1, 0), (1, .getfield 128, 3, 12), (4, .getfield 170, 3, 69), (7, .ifCond .eq 20, 3, 0), (10, .aload 0, 1, 0), (11, .getfield 128, 3, 12), (14, .getfield 168, 3, 44), (17, .ifCond .eq 22, 3, 0), (20, .sipush 0, 1, 0), 
  (21, .freturn, 1, 0), (22, .aload 0, 1, 0), (23, .invokeinterface 4029 0, 3, 75), (26, .aload 0, 1, 0), (27, .getfield 130, 3, 28), (30, .getfield 5, 3, 78), (33, .ifCond .ne 40, 3, 0), (36, .sipush 1, 1, 0), (37, .goto 41, 3, 0), 
  (40, .sipush 0, 1, 0), (41, .freturn, 1, 0)]
noncomputable def am_m4008 : am_M := (4008, ("mayTakeBack", "()Z"), prog_6_method_8_code, 1, (some .boolean), [], [], am_t4008_0)
noncomputable def am_t4009_0 : List am_I := [
  (0, .aload 0, 1, 0), (1, .invokeinterface 4029 0, 3, 75), (4, .aload 0, 1, 0), (5, .invokeinterface 4031 0, 3, 81), (8, .aload 0, 1, 0), (9, .getfield 128, 3, 12), (12, .dup, 1, 0), (13, .getfield 170, 3, 69), (16, .sipush 1, 1, 0), 
  (17, .isub, 1, 0), (18, .putfield 170, 3, 69), (21, .aload 0, 1, 0), (22, .getfield 130, 3, 28), (25, .getfield 4, 3, 84), (28, .ireturn, 1, 0)]
noncomputable def am_m4009 : am_M := (4009, ("doTakeBack", "()I"), prog_6_method_9_code, 1, (some .int), [], [], am_t4009_0)
noncomputable def am_t4010_0 : List am_I := [
  (0, .aload 0, 1, 0), (1, .getfield 128, 3, 12), (4, .invokeinterface 5018 0, 3, 87), (7, .sipush (-1), 1, 0), (8, .if_icmp .eq 15, 3, 0), (11, .sipush 1, 1, 0), (12, .goto 16, 3, 0), (15, .sipush 0, 1, 0), (16, .freturn, 1, 0)
  ]
noncomputable def am_m4010 : am_M := (4010, ("mayBranch", "()Z"), prog_6_method_10_code, 1, (some .boolean), [], [], am_t4010_0)
noncomputable def am_t4011_0 : List am_I := [
  (0, .aload 0, 1, 0), (1, .getfield 128, 3, 12), (4, .invokeinterface 5018 0, 3, 87), (7, .istore 1, 1, 0), (8, .aload 0, 1, 0), (9, .getfield 128, 3, 12), (12, .iload 1, 1, 0), (13, .aload 0, 1, 0), (14, .getfield 128, 3, 12), 
  (17, .invokeinterface 5016 0, 3, 62), (20, .invokeinterface 5019 2, 3, 90), (23, .iload 1, 1, 0), (24, .ireturn, 1, 0)]
noncomputable def am_m4011 : am_M := (4011, ("doBranch", "()I"), prog_6_method_11_code, 2, (some .int), [], [], am_t4011_0)
noncomputable def am_t4012_0 : List am_I := [
  (0, .aload 0, 1, 0), (1, .getfield 128, 3, 12), (4, .iload 1, 1, 0), (5, .invokeinterface 5014 1, 3, 93), (8, .ifCond .eq 26, 3, 0), (11, .iload 1, 1, 0), (12, .aload 0, 1, 0), (13, .getfield 128, 3, 12), (16, .getfield 165, 3, 97), 
  (19, .if_icmp .eq 26, 3, 0), (22, .sipush 1, 1, 0), (23, .goto 27, 3, 0), (26, .sipush 0, 1, 0), (27, .freturn, 1, 0)]
noncomputable def am_m4012 : am_M := (4012, ("mayDrop", "(I)Z"), prog_6_method_12_code, 2, (some .boolean), [], [], am_t4012_0)
noncomputable def am_t4013_0 : List am_I := [
  (0, .aload 0, 1, 0), (1, .getfield 128, 3, 12), (4, .iload 1, 1, 0), (5, .invokeinterface 5015 1, 3, 100), (8, .istore 2, 1, 0), (9, .aload 0, 1, 0), (10, .getfield 128, 3, 12), (13, .iload 1, 1, 0), (14, .sipush (-1), 1, 0), 
  (15, .invokeinterface 5019 2, 3, 90), (18, .iload 2, 1, 0), (19, .ireturn, 1, 0)]
noncomputable def am_m4013 : am_M := (4013, ("doDrop", "(I)I"), prog_6_method_13_code, 3, (some .int), [], [], am_t4013_0)
noncomputable def am_t4014_0 : List am_I := [
  (0, .aload 0, 1, 0), (1, .getfield 128, 3, 12), (4, .iload 1, 1, 0), (5, .invokeinterface 5014 1, 3, 93), (8, .ifCond .eq 36, 3, 0), (11, .iload 1, 1, 0), (12, .aload 0, 1, 0), (13, .getfield 128, 3, 12), (16, .getfield 165, 3, 97), 
  (19, .if_icmp .eq 36, 3, 0), (22, .aload 0, 1, 0), (23, .getfield 128, 3, 12), (26, .invokeinterface 5026 0, 3, 103), (29, .ifCond .eq 36, 3, 0), (32, .sipush 1, 1, 0), (33, .goto 37, 3, 0), (36, .sipush 0, 1, 0), (37, .freturn, 1, 0)
  ]
noncomputable def am_m4014 : am_M := (4014, ("maySwitch", "(I)Z"), prog_6_method_14_code, 2, (some .boolean), [], [], am_t4014_0)
noncomputable def am_t4015_0 : List am_I := [
  (0, .aload 0, 1, 0), (1, .getfield 128, 3, 12), (4, .iload 1, 1, 0), (5, .putfield 165, 3, 97), (8, .aload 0, 1, 0), (9, .getfield 128, 3, 12), (12, .aload 0, 1, 0), (13, .getfield 128, 3, 12), (16, .invokeinterface 5016 0, 3, 62), 
  (19, .invokeinterface 5020 1, 3, 65), (22, .aload 0, 1, 0), (23, .getfield 128, 3, 12), (26, .invokeinterface 5016 0, 3, 62), (29, .ireturn, 1, 0)]
noncomputable def am_m4015 : am_M := (4015, ("doSwitch", "(I)I"), prog_6_method_15_code, 2, (some .int), [], [], am_t4015_0)
noncomputable def am_t4016_0 : List am_I := [
  (0, .aload 0, 1, 0), (1, .iload 1, 1, 0), (2, .invokeinterface 4025 1, 3, 106), (5, .ifCond .eq 37, 3, 0), (8, .aload 0, 1, 0), (9, .aload 0, 1, 0), (10, .getfield 128, 3, 12), (13, .iload 1, 1, 0), (14, .invokeinterface 5015 1, 3, 100), 
  (17, .invokeinterface 4026 1, 3, 109), (20, .ifCond .ne 33, 3, 0), (23, .aload 0, 1, 0), (24, .getfield 128, 3, 12), (27, .invokeinterface 5004 0, 3, 51), (30, .ifCond .eq 37, 3, 0), (33, .sipush 1, 1, 0), (34, .goto 38, 3, 0), 
  (37, .sipush 0, 1, 0), (38, .freturn, 1, 0)]
noncomputable def am_m4016 : am_M := (4016, ("mayMerge", "(I)Z"), prog_6_method_16_code, 2, (some .boolean), [], [], am_t4016_0)
noncomputable def am_t4017_0 : List am_I := [
  (0, .aload 0, 1, 0), (1, .getfield 128, 3, 12), (4, .iload 1, 1, 0), (5, .invokeinterface 5015 1, 3, 100), (8, .istore 2, 1, 0), (9, .aload 0, 1, 0), (10, .iload 2, 1, 0), (11, .invokeinterface 4026 1, 3, 109), (14, .ifCond .eq 27, 3, 0), 
  (17, .aload 0, 1, 0), (18, .getfield 128, 3, 12), (21, .iload 2, 1, 0), (22, .invokeinterface 5020 1, 3, 65), (25, .sipush 0, 1, 0), (26, .ireturn, 1, 0), (27, .aload 0, 1, 0), (28, .iload 2, 1, 0), (29, .invokeinterface 4027 1, 3, 112), 
  (32, .aload 0, 1, 0), (33, .sipush 1, 1, 0), (34, .iload 2, 1, 0), (35, .invokeinterface 4032 2, 3, 115), (38, .ireturn, 1, 0)]
noncomputable def am_m4017 : am_M := (4017, ("doMerge", "(I)I"), prog_6_method_17_code, 3, (some .int), [], [], am_t4017_0)
noncomputable def am_t4018_0 : List am_I := [
  (0, .aload 0, 1, 0), (1, .getfield 128, 3, 12), (4, .iload 1, 1, 0), (5, .invokeinterface 5003 1, 3, 119), (8, .ifCond .eq 35, 3, 0), (11, .iload 1, 1, 0), (12, .ifCond .eq 35, 3, 0), (15, .aload 0, 1, 0), (16, .getfield 128, 3, 12), 
  (19, .invokeinterface 5026 0, 3, 103), (22, .ifCond .eq 35, 3, 0), (25, .aload 0, 1, 0), (26, .getfield 128, 3, 12), (29, .invokeinterface 5004 0, 3, 51), (32, .ifCond .ne 37, 3, 0), (35, .sipush 0, 1, 0), (36, .freturn, 1, 0), 
  (37, .aload 0, 1, 0), (38, .iload 1, 1, 0), (39, .iload 2, 1, 0), (40, .invokeinterface 4028 2, 3, 122), (43, .aload 0, 1, 0), (44, .getfield 130, 3, 28), (47, .invokeinterface 3 0, 3, 126), (50, .ifCond .ne 57, 3, 0), 
  (53, .sipush 1, 1, 0), (54, .goto 58, 3, 0), (57, .sipush 0, 1, 0), (58, .freturn, 1, 0)]
noncomputable def am_m4018 : am_M := (4018, ("mayPick", "(IZ)Z"), prog_6_method_18_code, 3, (some .boolean), [], [], am_t4018_0)
noncomputable def am_t4019_0 : List am_I := [
  (0, .aload 0, 1, 0), (1, .iload 1, 1, 0), (2, .iload 2, 1, 0), (3, .invokeinterface 4028 2, 3, 122), (6, .aload 0, 1, 0), (7, .sipush 2, 1, 0), (8, .sipush (-1), 1, 0), (9, .invokeinterface 4032 2, 3, 115), (12, .ireturn, 1, 0)
  ]
noncomputable def am_m4019 : am_M := (4019, ("doPick", "(IZ)I"), prog_6_method_19_code, 3, (some .int), [], [], am_t4019_0)
noncomputable def am_t4020_0 : List am_I := [
  (0, .aload 0, 1, 0), (1, .iload 1, 1, 0), (2, .invokeinterface 4025 1, 3, 106), (5, .ifCond .ne 10, 3, 0), (8, .sipush 0, 1, 0), (9, .freturn, 1, 0), (10, .aload 0, 1, 0), (11, .getfield 128, 3, 12), (14, .iload 1, 1, 0), 
  (15, .invokeinterface 5015 1, 3, 100), (18, .istore 2, 1, 0), (19, .aload 0, 1, 0), (20, .getfield 128, 3, 12), (23, .getfield 160, 3, 129), (26, .istore 3, 1, 0), (27, .aload 0, 1, 0), (28, .getfield 129, 3, 21), (31, .aload 0, 1, 0), 
  (32, .getfield 128, 3, 12), (35, .iload 2, 1, 0), (36, .aload 0, 1, 0), (37, .getfield 131, 3, 32), (40, .invokeinterface 1014 3, 3, 132), (43, .aload 0, 1, 0), (44, .getfield 128, 3, 12), (47, .iload 2, 1, 0), (48, .aload 0, 1, 0), 
  (49, .getfield 130, 3, 28), (52, .getfield 2, 3, 136), (55, .invokeinterface 5008 2, 3, 139), (58, .sipush 0, 1, 0), (59, .istore 4, 2, 0), (61, .iload 4, 2, 0), (63, .sipush 60, 2, 0), (65, .if_icmp .ge 136, 3, 0), (68, .aload 0, 1, 0), 
  (69, .getfield 131, 3, 32), (72, .iload 4, 2, 0), (74, .multianewarray 1015 2, 3, 143), (77, .ifCond .eq 130, 3, 0), (80, .aload 0, 1, 0), (81, .iload 4, 2, 0), (83, .sipush 0, 1, 0), (84, .invokeinterface 4030 2, 3, 147), 
  (87, .aload 0, 1, 0), (88, .getfield 130, 3, 28), (91, .invokeinterface 2 0, 3, 150), (94, .iload 3, 1, 0), (95, .aload 0, 1, 0), (96, .getfield 130, 3, 28), (99, .getfield 4, 3, 84), (102, .ifCond .le 109, 3, 0), (105, .sipush 1, 1, 0), 
  (106, .goto 110, 3, 0), (109, .sipush 0, 1, 0), (110, .iadd, 1, 0), (111, .istore 3, 1, 0), (112, .aload 0, 1, 0), (113, .getfield 130, 3, 28), (116, .getfield 5, 3, 78), (119, .ifCond .gt 128, 3, 0), (122, .iload 3, 1, 0), 
  (123, .sipush 60, 2, 0), (125, .if_icmp .le 130, 3, 0), (128, .sipush 0, 1, 0), (129, .freturn, 1, 0), (130, .iinc 4 1, 3, 0), (133, .goto 61, 3, 0), (136, .sipush 1, 1, 0), (137, .freturn, 1, 0)]
noncomputable def am_m4020 : am_M := (4020, ("mayReplay", "(I)Z"), prog_6_method_20_code, 5, (some .boolean), [], [], am_t4020_0)
noncomputable def am_t4021_0 : List am_I := [
  (0, .sipush 0, 1, 0), (1, .istore 2, 1, 0), (2, .aload 0, 1, 0), (3, .getfield 128, 3, 12), (6, .iload 1, 1, 0), (7, .invokeinterface 5015 1, 3, 100), (10, .istore 3, 1, 0), (11, .aload 0, 1, 0), (12, .getfield 129, 3, 21), 
  (15, .aload 0, 1, 0), (16, .getfield 128, 3, 12), (19, .iload 3, 1, 0), (20, .aload 0, 1, 0), (21, .getfield 131, 3, 32), (24, .invokeinterface 1014 3, 3, 132), (27, .aload 0, 1, 0), (28, .getfield 128, 3, 12), (31, .iload 3, 1, 0), 
  (32, .invokeinterface 5020 1, 3, 65), (35, .sipush 0, 1, 0), (36, .istore 4, 2, 0), (38, .iload 4, 2, 0), (40, .sipush 60, 2, 0), (42, .if_icmp .ge 96, 3, 0), (45, .aload 0, 1, 0), (46, .getfield 131, 3, 32), (49, .iload 4, 2, 0), 
  (51, .multianewarray 1015 2, 3, 143), (54, .ifCond .eq 90, 3, 0), (57, .aload 0, 1, 0), (58, .iload 4, 2, 0), (60, .sipush 0, 1, 0), (61, .invokeinterface 4028 2, 3, 122), (64, .aload 0, 1, 0), (65, .getfield 130, 3, 28), 
  (68, .getfield 4, 3, 84), (71, .ifCond .le 90, 3, 0), (74, .aload 0, 1, 0), (75, .invokeinterface 4031 0, 3, 81), (78, .aload 0, 1, 0), (79, .getfield 128, 3, 12), (82, .sipush (-1), 1, 0), (83, .invokeinterface 5013 1, 3, 58), 
  (86, .pop, 1, 0), (87, .iinc 2 1, 3, 0), (90, .iinc 4 1, 3, 0), (93, .goto 38, 3, 0), (96, .iload 2, 1, 0), (97, .ireturn, 1, 0)]
noncomputable def am_m4021 : am_M := (4021, ("doReplay", "(I)I"), prog_6_method_21_code, 5, (some .int), [], [], am_t4021_0)
noncomputable def am_t4022_0 : List am_I := [
  (0, .aload 0, 1, 0), (1, .getfield 128, 3, 12), (4, .iload 1, 1, 0), (5, .iload 2, 1, 0), (6, .ifCond .eq 20, 3, 0), (9, .aload 0, 1, 0), (10, .getfield 128, 3, 12), (13, .iload 1, 1, 0), (14, .invokeinterface 5027 1, 3, 153), 
  (17, .goto 28, 3, 0), (20, .aload 0, 1, 0), (21, .getfield 128, 3, 12), (24, .iload 1, 1, 0), (25, .invokeinterface 5021 1, 3, 156), (28, .invokeinterface 5022 2, 3, 36), (31, .aload 0, 1, 0), (32, .getfield 128, 3, 12), 
  (35, .invokeinterface 5029 0, 3, 48), (38, .ireturn, 1, 0)]
noncomputable def am_m4022 : am_M := (4022, ("doResolve", "(IZ)I"), prog_6_method_22_code, 3, (some .int), [], [], am_t4022_0)
noncomputable def am_t4023_0 : List am_I := [
  (0, .aload 0, 1, 0), (1, .getfield 128, 3, 12), (4, .getfield 168, 3, 44), (7, .ifCond .eq 14, 3, 0), (10, .sipush 1, 1, 0), (11, .goto 15, 3, 0), (14, .sipush 0, 1, 0), (15, .freturn, 1, 0)]
noncomputable def am_m4023 : am_M := (4023, ("mayAbort", "()Z"), prog_6_method_23_code, 1, (some .boolean), [], [], am_t4023_0)
noncomputable def am_t4024_0 : List am_I := [
  (0, .aload 0, 1, 0), (1, .getfield 128, 3, 12), (4, .invokeinterface 5029 0, 3, 48), (7, .istore 1, 1, 0), (8, .aload 0, 1, 0), (9, .getfield 128, 3, 12), (12, .aload 0, 1, 0), (13, .getfield 128, 3, 12), (16, .invokeinterface 5016 0, 3, 62), 
  (19, .invokeinterface 5020 1, 3, 65), (22, .iload 1, 1, 0), (23, .ireturn, 1, 0)]
noncomputable def am_m4024 : am_M := (4024, ("doAbort", "()I"), prog_6_method_24_code, 2, (some .int), [], [], am_t4024_0)
noncomputable def am_t4025_0 : List am_I := [
  (0, .aload 0, 1, 0), (1, .getfield 128, 3, 12), (4, .iload 1, 1, 0), (5, .invokeinterface 5014 1, 3, 93), (8, .ifCond .eq 54, 3, 0), (11, .aload 0, 1, 0), (12, .getfield 128, 3, 12), (15, .invokeinterface 5026 0, 3, 103), 
  (18, .ifCond .eq 54, 3, 0), (21, .aload 0, 1, 0), (22, .getfield 129, 3, 21), (25, .aload 0, 1, 0), (26, .getfield 128, 3, 12), (29, .aload 0, 1, 0), (30, .getfield 128, 3, 12), (33, .invokeinterface 5016 0, 3, 62), (36, .aload 0, 1, 0), 
  (37, .getfield 128, 3, 12), (40, .iload 1, 1, 0), (41, .invokeinterface 5015 1, 3, 100), (44, .invokeinterface 1002 3, 3, 159), (47, .ifCond .ne 54, 3, 0), (50, .sipush 1, 1, 0), (51, .goto 55, 3, 0), (54, .sipush 0, 1, 0), 
  (55, .freturn, 1, 0)]
noncomputable def am_m4025 : am_M := (4025, ("mayGoOnTo", "(I)Z"), prog_6_method_25_code, 2, (some .boolean), [], [], am_t4025_0)
noncomputable def am_t4026_0 : List am_I := [
  (0, .aload 0, 1, 0), (1, .getfield 129, 3, 21), (4, .aload 0, 1, 0), (5, .getfield 128, 3, 12), (8, .iload 1, 1, 0), (9, .aload 0, 1, 0), (10, .getfield 128, 3, 12), (13, .invokeinterface 5016 0, 3, 62), (16, .invokeinterface 1002 3, 3, 159), 
  (19, .freturn, 1, 0)]
noncomputable def am_m4026 : am_M := (4026, ("isAhead", "(I)Z"), prog_6_method_26_code, 2, (some .boolean), [], [], am_t4026_0)
noncomputable def am_t4027_0 : List am_I := [
  (0, .aload 0, 1, 0), (1, .getfield 128, 3, 12), (4, .invokeinterface 5016 0, 3, 62), (7, .istore 2, 1, 0), (8, .aload 0, 1, 0), (9, .getfield 128, 3, 12), (12, .aload 0, 1, 0), (13, .getfield 129, 3, 21), (16, .aload 0, 1, 0), 
  (17, .getfield 128, 3, 12), (20, .iload 2, 1, 0), (21, .iload 1, 1, 0), (22, .invokeinterface 1011 3, 3, 163), (25, .aload 0, 1, 0), (26, .getfield 130, 3, 28), (29, .getfield 0, 3, 167), (32, .invokeinterface 5008 2, 3, 139), 
  (35, .aload 0, 1, 0), (36, .getfield 128, 3, 12), (39, .iload 1, 1, 0), (40, .aload 0, 1, 0), (41, .getfield 130, 3, 28), (44, .getfield 1, 3, 170), (47, .invokeinterface 5008 2, 3, 139), (50, .aload 0, 1, 0), (51, .getfield 128, 3, 12), 
  (54, .iload 2, 1, 0), (55, .aload 0, 1, 0), (56, .getfield 130, 3, 28), (59, .getfield 2, 3, 136), (62, .invokeinterface 5008 2, 3, 139), (65, .aload 0, 1, 0), (66, .getfield 130, 3, 28), (69, .invokeinterface 2 0, 3, 150), 
  (72, .return_, 1, 0)]
noncomputable def am_m4027 : am_M := (4027, ("combineWithHead", "(I)V"), prog_6_method_27_code, 3, none, [], [], am_t4027_0)
noncomputable def am_t4028_0 : List am_I := [
  (0, .aload 0, 1, 0), (1, .iload 1, 1, 0), (2, .iload 2, 1, 0), (3, .invokeinterface 4030 2, 3, 147), (6, .aload 0, 1, 0), (7, .getfield 128, 3, 12), (10, .getfield 166, 3, 173), (13, .sipush 0, 1, 0), (14, .aload 0, 1, 0), 
  (15, .getfield 130, 3, 28), (18, .getfield 2, 3, 136), (21, .sipush 0, 1, 0), (22, .sipush 24, 2, 0), (24, .invokestatic 1, 3, 176), (27, .aload 0, 1, 0), (28, .getfield 130, 3, 28), (31, .invokeinterface 2 0, 3, 150), 
  (34, .return_, 1, 0)]
noncomputable def am_m4028 : am_M := (4028, ("combineWithWork", "(IZ)V"), prog_6_method_28_code, 3, none, [], [], am_t4028_0)
noncomputable def am_t4029_0 : List am_I := [
  (0, .aload 0, 1, 0), (1, .getfield 128, 3, 12), (4, .aload 0, 1, 0), (5, .getfield 128, 3, 12), (8, .invokeinterface 5033 0, 3, 182), (11, .aload 0, 1, 0), (12, .getfield 130, 3, 28), (15, .getfield 0, 3, 167), (18, .invokeinterface 5008 2, 3, 139), 
  (21, .aload 0, 1, 0), (22, .getfield 128, 3, 12), (25, .aload 0, 1, 0), (26, .getfield 130, 3, 28), (29, .getfield 1, 3, 170), (32, .invokeinterface 5034 1, 3, 185), (35, .aload 0, 1, 0), (36, .getfield 128, 3, 12), (39, .getfield 166, 3, 173), 
  (42, .sipush 0, 1, 0), (43, .aload 0, 1, 0), (44, .getfield 130, 3, 28), (47, .getfield 2, 3, 136), (50, .sipush 0, 1, 0), (51, .sipush 24, 2, 0), (53, .invokestatic 1, 3, 176), (56, .aload 0, 1, 0), (57, .getfield 130, 3, 28), 
  (60, .invokeinterface 2 0, 3, 150), (63, .return_, 1, 0)]
noncomputable def am_m4029 : am_M := (4029, ("combineWithAside", "()V"), prog_6_method_29_code, 1, none, [], [], am_t4029_0)
noncomputable def am_t4030_0 : List am_I := [
  (0, .aload 0, 1, 0), (1, .getfield 128, 3, 12), (4, .iload 1, 1, 0), (5, .invokeinterface 5005 1, 3, 189), (8, .istore 3, 1, 0), (9, .aload 0, 1, 0), (10, .getfield 128, 3, 12), (13, .iload 2, 1, 0), (14, .ifCond .eq 21, 3, 0), 
  (17, .iload 1, 1, 0), (18, .goto 22, 3, 0), (21, .iload 3, 1, 0), (22, .aload 0, 1, 0), (23, .getfield 130, 3, 28), (26, .getfield 0, 3, 167), (29, .invokeinterface 5008 2, 3, 139), (32, .aload 0, 1, 0), (33, .getfield 128, 3, 12), 
  (36, .iload 2, 1, 0), (37, .ifCond .eq 44, 3, 0), (40, .iload 3, 1, 0), (41, .goto 45, 3, 0), (44, .iload 1, 1, 0), (45, .aload 0, 1, 0), (46, .getfield 130, 3, 28), (49, .getfield 1, 3, 170), (52, .invokeinterface 5008 2, 3, 139), 
  (55, .return_, 1, 0)]
noncomputable def am_m4030 : am_M := (4030, ("readChange", "(IZ)V"), prog_6_method_30_code, 4, none, [], [], am_t4030_0)
noncomputable def am_t4031_0 : List am_I := [
  (0, .aload 0, 1, 0), (1, .getfield 130, 3, 28), (4, .getfield 2, 3, 136), (7, .sipush 0, 1, 0), (8, .aload 0, 1, 0), (9, .getfield 128, 3, 12), (12, .getfield 166, 3, 173), (15, .sipush 0, 1, 0), (16, .sipush 24, 2, 0), 
  (18, .invokestatic 1, 3, 176), (21, .aload 0, 1, 0), (22, .getfield 130, 3, 28), (25, .getfield 3, 3, 192), (28, .sipush 0, 1, 0), (29, .aload 0, 1, 0), (30, .getfield 128, 3, 12), (33, .getfield 167, 3, 195), (36, .sipush 0, 1, 0), 
  (37, .sipush 24, 2, 0), (39, .invokestatic 1, 3, 176), (42, .return_, 1, 0)]
noncomputable def am_m4031 : am_M := (4031, ("takeCombined", "()V"), prog_6_method_31_code, 1, none, [], [], am_t4031_0)
noncomputable def am_t4032_0 : List am_I := [
  (0, .aload 0, 1, 0), (1, .invokeinterface 4031 0, 3, 81), (4, .aload 0, 1, 0), (5, .getfield 130, 3, 28), (8, .getfield 5, 3, 78), (11, .ifCond .ne 25, 3, 0), (14, .aload 0, 1, 0), (15, .getfield 128, 3, 12), (18, .iload 2, 1, 0), 
  (19, .invokeinterface 5013 1, 3, 58), (22, .pop, 1, 0), (23, .sipush 0, 1, 0), (24, .ireturn, 1, 0), (25, .aload 0, 1, 0), (26, .getfield 128, 3, 12), (29, .iload 1, 1, 0), (30, .putfield 168, 3, 44), (33, .aload 0, 1, 0), 
  (34, .getfield 128, 3, 12), (37, .iload 2, 1, 0), (38, .putfield 169, 3, 55), (41, .aload 0, 1, 0), (42, .getfield 128, 3, 12), (45, .dup, 1, 0), (46, .getfield 173, 3, 196), (49, .aload 0, 1, 0), (50, .getfield 130, 3, 28), 
  (53, .getfield 5, 3, 78), (56, .iadd, 1, 0), (57, .putfield 173, 3, 196), (60, .aload 0, 1, 0), (61, .getfield 130, 3, 28), (64, .getfield 5, 3, 78), (67, .ireturn, 1, 0)]
noncomputable def am_m4032 : am_M := (4032, ("settle", "(II)I"), prog_6_method_32_code, 3, (some .int), [], [], am_t4032_0)
noncomputable def am_t5001_0 : List am_I := [
  (0, .aload 0, 1, 0), (1, .invokespecial 0, 3, 3), (4, .aload 0, 1, 0), (5, .sipush 1, 1, 0), (6, .putfield 160, 3, 9), (9, .aload 0, 1, 0), (10, .sipush 60, 2, 0), (12, .newarray .int, 2, 0), (14, .putfield 161, 3, 15), 
  (17, .aload 0, 1, 0), (18, .sipush 60, 2, 0), (20, .newarray .int, 2, 0), (22, .putfield 162, 3, 19), (25, .aload 0, 1, 0), (26, .sipush 1440, 3, 0), (29, .newarray .int, 2, 0), (31, .putfield 163, 3, 22), (34, .aload 0, 1, 0), 
  (35, .sipush 6, 2, 0), (37, .newarray .int, 2, 0), (39, .putfield 164, 3, 25), (42, .aload 0, 1, 0), (43, .sipush 0, 1, 0), (44, .putfield 165, 3, 28), (47, .aload 0, 1, 0), (48, .sipush 24, 2, 0), (50, .newarray .int, 2, 0), 
  (52, .putfield 166, 3, 31), (55, .aload 0, 1, 0), (56, .sipush 24, 2, 0), (58, .newarray .int, 2, 0), (60, .putfield 167, 3, 34), (63, .aload 0, 1, 0), (64, .sipush 0, 1, 0), (65, .putfield 168, 3, 37), (68, .aload 0, 1, 0), 
  (69, .sipush (-1), 1, 0), (70, .putfield 169, 3, 40), (73, .aload 0, 1, 0), (74, .sipush 0, 1, 0), (75, .putfield 170, 3, 43), (78, .aload 0, 1, 0), (79, .sipush 3, 1, 0), (80, .newarray .int, 2, 0), (82, .putfield 171, 3, 46), 
  (85, .aload 0, 1, 0), (86, .sipush 72, 2, 0), (88, .newarray .int, 2, 0), (90, .putfield 172, 3, 49), (93, .aload 0, 1, 0), (94, .sipush 0, 1, 0), (95, .putfield 173, 3, 52), (98, .aload 0, 1, 0), (99, .getfield 161, 3, 15), 
  (102, .sipush (-1), 1, 0), (103, .multianewarray 9000 2, 3, 55), (106, .aload 0, 1, 0), (107, .getfield 162, 3, 19), (110, .sipush (-1), 1, 0), (111, .multianewarray 9000 2, 3, 55), (114, .aload 0, 1, 0), (115, .getfield 164, 3, 25), 
  (118, .sipush (-1), 1, 0), (119, .multianewarray 9000 2, 3, 55), (122, .aload 0, 1, 0), (123, .getfield 167, 3, 34), (126, .sipush (-1), 1, 0), (127, .multianewarray 9000 2, 3, 55), (130, .aload 0, 1, 0), (131, .getfield 164, 3, 25), 
  (134, .sipush 0, 1, 0), (135, .sipush 0, 1, 0), (136, .iastore, 1, 0), (137, .return_, 1, 0)]
noncomputable def am_m5001 : am_M := (5001, ("<init>", "()V"), prog_7_method_1_code, 1, none, [], [], am_t5001_0)
noncomputable def am_t5002_0 : List am_I := [
  (0, .aload 1, 1, 0), (1, .getfield 160, 3, 9), (4, .sipush 60, 2, 0), (6, .invokestatic 3, 3, 61), (9, .istore 2, 1, 0), (10, .aload 0, 1, 0), (11, .iload 2, 1, 0), (12, .putfield 160, 3, 9), (15, .aload 1, 1, 0), (16, .getfield 161, 3, 15), 
  (19, .sipush 0, 1, 0), (20, .aload 0, 1, 0), (21, .getfield 161, 3, 15), (24, .sipush 0, 1, 0), (25, .iload 2, 1, 0), (26, .invokestatic 1, 3, 67), (29, .aload 1, 1, 0), (30, .getfield 162, 3, 19), (33, .sipush 0, 1, 0), 
  (34, .aload 0, 1, 0), (35, .getfield 162, 3, 19), (38, .sipush 0, 1, 0), (39, .iload 2, 1, 0), (40, .invokestatic 1, 3, 67), (43, .aload 1, 1, 0), (44, .getfield 163, 3, 22), (47, .sipush 0, 1, 0), (48, .aload 0, 1, 0), 
  (49, .getfield 163, 3, 22), (52, .sipush 0, 1, 0), (53, .iload 2, 1, 0), (54, .sipush 24, 2, 0), (56, .imul, 1, 0), (57, .invokestatic 1, 3, 67), (60, .aload 1, 1, 0), (61, .getfield 164, 3, 25), (64, .sipush 0, 1, 0), 
  (65, .aload 0, 1, 0), (66, .getfield 164, 3, 25), (69, .sipush 0, 1, 0), (70, .sipush 6, 2, 0), (72, .invokestatic 1, 3, 67), (75, .aload 0, 1, 0), (76, .aload 1, 1, 0), (77, .getfield 165, 3, 28), (80, .putfield 165, 3, 28), 
  (83, .aload 1, 1, 0), (84, .getfield 166, 3, 31), (87, .sipush 0, 1, 0), (88, .aload 0, 1, 0), (89, .getfield 166, 3, 31), (92, .sipush 0, 1, 0), (93, .sipush 24, 2, 0), (95, .invokestatic 1, 3, 67), (98, .aload 1, 1, 0), 
  (99, .getfield 167, 3, 34), (102, .sipush 0, 1, 0), (103, .aload 0, 1, 0), (104, .getfield 167, 3, 34), (107, .sipush 0, 1, 0), (108, .sipush 24, 2, 0), (110, .invokestatic 1, 3, 67), (113, .aload 0, 1, 0), (114, .aload 1, 1, 0), 
  (115, .getfield 168, 3, 37), (118, .putfield 168, 3, 37), (121, .aload 0, 1, 0), (122, .aload 1, 1, 0), (123, .getfield 169, 3, 40), (126, .putfield 169, 3, 40), (129, .aload 0, 1, 0), (130, .aload 1, 1, 0), (131, .getfield 170, 3, 43), 
  (134, .putfield 170, 3, 43), (137, .aload 1, 1, 0), (138, .getfield 171, 3, 46), (141, .sipush 0, 1, 0), (142, .aload 0, 1, 0), (143, .getfield 171, 3, 46), (146, .sipush 0, 1, 0), (147, .sipush 3, 1, 0), (148, .invokestatic 1, 3, 67), 
  (151, .aload 1, 1, 0), (152, .getfield 172, 3, 49), (155, .sipush 0, 1, 0), (156, .aload 0, 1, 0), (157, .getfield 172, 3, 49), (160, .sipush 0, 1, 0), (161, .sipush 72, 2, 0), (163, .invokestatic 1, 3, 67), (166, .aload 0, 1, 0), 
  (167, .aload 1, 1, 0), (168, .getfield 173, 3, 52), (171, .putfield 173, 3, 52), (174, .return_, 1, 0)]
noncomputable def am_m5002 : am_M := (5002, ("copyFrom", "(LBranchedSource$State;)V"), prog_7_method_2_code, 3, none, [], [], am_t5002_0)
noncomputable def am_t5003_0 : List am_I := [
  (0, .iload 1, 1, 0), (1, .ifCond .lt 22, 3, 0), (4, .iload 1, 1, 0), (5, .aload 0, 1, 0), (6, .getfield 160, 3, 9), (9, .if_icmp .ge 22, 3, 0), (12, .iload 1, 1, 0), (13, .sipush 60, 2, 0), (15, .if_icmp .ge 22, 3, 0), 
  (18, .sipush 1, 1, 0), (19, .goto 23, 3, 0), (22, .sipush 0, 1, 0), (23, .freturn, 1, 0)]
noncomputable def am_m5003 : am_M := (5003, ("hasCommit", "(I)Z"), prog_7_method_3_code, 2, (some .boolean), [], [], am_t5003_0)
noncomputable def am_t5004_0 : List am_I := [
  (0, .aload 0, 1, 0), (1, .getfield 160, 3, 9), (4, .sipush 60, 2, 0), (6, .if_icmp .ge 13, 3, 0), (9, .sipush 1, 1, 0), (10, .goto 14, 3, 0), (13, .sipush 0, 1, 0), (14, .freturn, 1, 0)]
noncomputable def am_m5004 : am_M := (5004, ("hasRoom", "()Z"), prog_7_method_4_code, 1, (some .boolean), [], [], am_t5004_0)
noncomputable def am_t5005_0 : List am_I := [
  (0, .iload 1, 1, 0), (1, .ifCond .lt 27, 3, 0), (4, .iload 1, 1, 0), (5, .aload 0, 1, 0), (6, .getfield 160, 3, 9), (9, .if_icmp .ge 27, 3, 0), (12, .iload 1, 1, 0), (13, .sipush 60, 2, 0), (15, .if_icmp .ge 27, 3, 0), 
  (18, .aload 0, 1, 0), (19, .getfield 161, 3, 15), (22, .iload 1, 1, 0), (23, .iaload, 1, 0), (24, .goto 28, 3, 0), (27, .sipush (-1), 1, 0), (28, .ireturn, 1, 0)]
noncomputable def am_m5005 : am_M := (5005, ("parentOne", "(I)I"), prog_7_method_5_code, 2, (some .int), [], [], am_t5005_0)
noncomputable def am_t5006_0 : List am_I := [
  (0, .iload 1, 1, 0), (1, .ifCond .lt 27, 3, 0), (4, .iload 1, 1, 0), (5, .aload 0, 1, 0), (6, .getfield 160, 3, 9), (9, .if_icmp .ge 27, 3, 0), (12, .iload 1, 1, 0), (13, .sipush 60, 2, 0), (15, .if_icmp .ge 27, 3, 0), 
  (18, .aload 0, 1, 0), (19, .getfield 162, 3, 19), (22, .iload 1, 1, 0), (23, .iaload, 1, 0), (24, .goto 28, 3, 0), (27, .sipush (-1), 1, 0), (28, .ireturn, 1, 0)]
noncomputable def am_m5006 : am_M := (5006, ("parentTwo", "(I)I"), prog_7_method_6_code, 2, (some .int), [], [], am_t5006_0)
noncomputable def am_t5007_0 : List am_I := [
  (0, .iload 1, 1, 0), (1, .ifCond .lt 24, 3, 0), (4, .iload 1, 1, 0), (5, .sipush 60, 2, 0), (7, .if_icmp .ge 24, 3, 0), (10, .iload 2, 1, 0), (11, .ifCond .lt 24, 3, 0), (14, .iload 2, 1, 0), (15, .sipush 24, 2, 0), (17, .if_icmp .ge 24, 3, 0), 
  (20, .sipush 1, 1, 0), (21, .goto 25, 3, 0), (24, .sipush 0, 1, 0), (25, .istore 3, 1, 0), (26, .iload 3, 1, 0), (27, .ifCond .eq 44, 3, 0), (30, .aload 0, 1, 0), (31, .getfield 163, 3, 22), (34, .iload 1, 1, 0), (35, .sipush 24, 2, 0), 
  (37, .imul, 1, 0), (38, .iload 2, 1, 0), (39, .iadd, 1, 0), (40, .iaload, 1, 0), (41, .goto 45, 3, 0), (44, .sipush 0, 1, 0), (45, .ireturn, 1, 0)]
noncomputable def am_m5007 : am_M := (5007, ("treeLine", "(II)I"), prog_7_method_7_code, 4, (some .int), [], [], am_t5007_0)
noncomputable def am_t5008_0 : List am_I := [
  (0, .iload 1, 1, 0), (1, .ifCond .lt 32, 3, 0), (4, .iload 1, 1, 0), (5, .sipush 60, 2, 0), (7, .if_icmp .ge 32, 3, 0), (10, .aload 2, 1, 0), (11, .arraylength, 1, 0), (12, .sipush 24, 2, 0), (14, .if_icmp .lt 32, 3, 0), 
  (17, .aload 0, 1, 0), (18, .getfield 163, 3, 22), (21, .iload 1, 1, 0), (22, .sipush 24, 2, 0), (24, .imul, 1, 0), (25, .aload 2, 1, 0), (26, .sipush 0, 1, 0), (27, .sipush 24, 2, 0), (29, .invokestatic 1, 3, 67), (32, .return_, 1, 0)
  ]
noncomputable def am_m5008 : am_M := (5008, ("copyTree", "(I[I)V"), prog_7_method_8_code, 3, none, [], [], am_t5008_0)
noncomputable def am_t5009_0 : List am_I := [
  (0, .sipush 0, 1, 0), (1, .istore 3, 1, 0), (2, .sipush 0, 1, 0), (3, .istore 4, 2, 0), (5, .iload 4, 2, 0), (7, .sipush 24, 2, 0), (9, .if_icmp .ge 38, 3, 0), (12, .aload 0, 1, 0), (13, .iload 1, 1, 0), (14, .iload 4, 2, 0), 
  (16, .invokeinterface 5007 2, 3, 73), (19, .aload 0, 1, 0), (20, .iload 2, 1, 0), (21, .iload 4, 2, 0), (23, .invokeinterface 5007 2, 3, 73), (26, .if_icmp .eq 32, 3, 0), (29, .iinc 3 1, 3, 0), (32, .iinc 4 1, 3, 0), (35, .goto 5, 3, 0), 
  (38, .iload 3, 1, 0), (39, .ireturn, 1, 0)]
noncomputable def am_m5009 : am_M := (5009, ("countDifferences", "(II)I"), prog_7_method_9_code, 5, (some .int), [], [], am_t5009_0)
noncomputable def am_t5010_0 : List am_I := [
  (0, .sipush 0, 1, 0), (1, .istore 1, 1, 0), (2, .sipush 0, 1, 0), (3, .istore 2, 1, 0), (4, .iload 2, 1, 0), (5, .aload 0, 1, 0), (6, .getfield 160, 3, 9), (9, .if_icmp .ge 30, 3, 0), (12, .aload 0, 1, 0), (13, .iload 2, 1, 0), 
  (14, .invokeinterface 5006 1, 3, 76), (17, .sipush (-1), 1, 0), (18, .if_icmp .eq 24, 3, 0), (21, .iinc 1 1, 3, 0), (24, .iinc 2 1, 3, 0), (27, .goto 4, 3, 0), (30, .iload 1, 1, 0), (31, .ireturn, 1, 0)]
noncomputable def am_m5010 : am_M := (5010, ("countMerges", "()I"), prog_7_method_10_code, 3, (some .int), [], [], am_t5010_0)
noncomputable def am_t5011_0 : List am_I := [
  (0, .iload 1, 1, 0), (1, .istore 3, 1, 0), (2, .sipush 0, 1, 0), (3, .istore 4, 2, 0), (5, .iload 4, 2, 0), (7, .sipush 60, 2, 0), (9, .if_icmp .ge 37, 3, 0), (12, .aload 0, 1, 0), (13, .iload 3, 1, 0), (14, .iload 2, 1, 0), 
  (15, .invokeinterface 5012 2, 3, 80), (18, .istore 5, 2, 0), (20, .iload 5, 2, 0), (22, .sipush (-1), 1, 0), (23, .if_icmp .ne 28, 3, 0), (26, .iload 3, 1, 0), (27, .ireturn, 1, 0), (28, .iload 5, 2, 0), (30, .istore 3, 1, 0), 
  (31, .iinc 4 1, 3, 0), (34, .goto 5, 3, 0), (37, .iload 3, 1, 0), (38, .ireturn, 1, 0)]
noncomputable def am_m5011 : am_M := (5011, ("bringerOf", "(II)I"), prog_7_method_11_code, 6, (some .int), [], [], am_t5011_0)
noncomputable def am_t5012_0 : List am_I := [
  (0, .aload 0, 1, 0), (1, .iload 1, 1, 0), (2, .iload 2, 1, 0), (3, .invokeinterface 5007 2, 3, 73), (6, .istore 3, 1, 0), (7, .aload 0, 1, 0), (8, .iload 1, 1, 0), (9, .invokeinterface 5005 1, 3, 83), (12, .istore 4, 2, 0), 
  (14, .iload 4, 2, 0), (16, .sipush (-1), 1, 0), (17, .if_icmp .eq 34, 3, 0), (20, .aload 0, 1, 0), (21, .iload 4, 2, 0), (23, .iload 2, 1, 0), (24, .invokeinterface 5007 2, 3, 73), (27, .iload 3, 1, 0), (28, .if_icmp .ne 34, 3, 0), 
  (31, .iload 4, 2, 0), (33, .ireturn, 1, 0), (34, .aload 0, 1, 0), (35, .iload 1, 1, 0), (36, .invokeinterface 5006 1, 3, 76), (39, .istore 5, 2, 0), (41, .iload 5, 2, 0), (43, .sipush (-1), 1, 0), (44, .if_icmp .eq 63, 3, 0), 
  (47, .aload 0, 1, 0), (48, .iload 5, 2, 0), (50, .iload 2, 1, 0), (51, .invokeinterface 5007 2, 3, 73), (54, .iload 3, 1, 0), (55, .if_icmp .ne 63, 3, 0), (58, .iload 5, 2, 0), (60, .goto 64, 3, 0), (63, .sipush (-1), 1, 0), 
  (64, .ireturn, 1, 0)]
noncomputable def am_m5012 : am_M := (5012, ("parentWithLine", "(II)I"), prog_7_method_12_code, 6, (some .int), [], [], am_t5012_0)
noncomputable def am_t5013_0 : List am_I := [
  (0, .aload 0, 1, 0), (1, .getfield 160, 3, 9), (4, .istore 2, 1, 0), (5, .iload 2, 1, 0), (6, .ifCond .lt 15, 3, 0), (9, .iload 2, 1, 0), (10, .sipush 60, 2, 0), (12, .if_icmp .lt 17, 3, 0), (15, .sipush (-1), 1, 0), (16, .ireturn, 1, 0), 
  (17, .aload 0, 1, 0), (18, .getfield 161, 3, 15), (21, .iload 2, 1, 0), (22, .aload 0, 1, 0), (23, .invokeinterface 5016 0, 3, 86), (26, .iastore, 1, 0), (27, .aload 0, 1, 0), (28, .getfield 162, 3, 19), (31, .iload 2, 1, 0), 
  (32, .iload 1, 1, 0), (33, .iastore, 1, 0), (34, .aload 0, 1, 0), (35, .getfield 166, 3, 31), (38, .sipush 0, 1, 0), (39, .aload 0, 1, 0), (40, .getfield 163, 3, 22), (43, .iload 2, 1, 0), (44, .sipush 24, 2, 0), (46, .imul, 1, 0), 
  (47, .sipush 24, 2, 0), (49, .invokestatic 1, 3, 67), (52, .aload 0, 1, 0), (53, .dup, 1, 0), (54, .getfield 160, 3, 9), (57, .sipush 1, 1, 0), (58, .iadd, 1, 0), (59, .putfield 160, 3, 9), (62, .aload 0, 1, 0), (63, .iload 2, 1, 0), 
  (64, .invokeinterface 5020 1, 3, 90), (67, .iload 2, 1, 0), (68, .ireturn, 1, 0)]
noncomputable def am_m5013 : am_M := (5013, ("addCommit", "(I)I"), prog_7_method_13_code, 3, (some .int), [], [], am_t5013_0)
noncomputable def am_t5014_0 : List am_I := [
  (0, .aload 0, 1, 0), (1, .iload 1, 1, 0), (2, .invokeinterface 5015 1, 3, 94), (5, .sipush (-1), 1, 0), (6, .if_icmp .eq 13, 3, 0), (9, .sipush 1, 1, 0), (10, .goto 14, 3, 0), (13, .sipush 0, 1, 0), (14, .freturn, 1, 0)
  ]
noncomputable def am_m5014 : am_M := (5014, ("hasBranch", "(I)Z"), prog_7_method_14_code, 2, (some .boolean), [], [], am_t5014_0)
noncomputable def am_t5015_0 : List am_I := [
  (0, .iload 1, 1, 0), (1, .ifCond .lt 19, 3, 0), (4, .iload 1, 1, 0), (5, .sipush 6, 2, 0), (7, .if_icmp .ge 19, 3, 0), (10, .aload 0, 1, 0), (11, .getfield 164, 3, 25), (14, .iload 1, 1, 0), (15, .iaload, 1, 0), (16, .goto 20, 3, 0), 
  (19, .sipush (-1), 1, 0), (20, .ireturn, 1, 0)]
noncomputable def am_m5015 : am_M := (5015, ("commitOf", "(I)I"), prog_7_method_15_code, 2, (some .int), [], [], am_t5015_0)
noncomputable def am_t5016_0 : List am_I := [
  (0, .aload 0, 1, 0), (1, .getfield 165, 3, 28), (4, .ifCond .lt 28, 3, 0), (7, .aload 0, 1, 0), (8, .getfield 165, 3, 28), (11, .sipush 6, 2, 0), (13, .if_icmp .ge 28, 3, 0), (16, .aload 0, 1, 0), (17, .getfield 164, 3, 25), 
  (20, .aload 0, 1, 0), (21, .getfield 165, 3, 28), (24, .iaload, 1, 0), (25, .goto 29, 3, 0), (28, .sipush (-1), 1, 0), (29, .ireturn, 1, 0)]
noncomputable def am_m5016 : am_M := (5016, ("headCommit", "()I"), prog_7_method_16_code, 1, (some .int), [], [], am_t5016_0)
noncomputable def am_t5017_0 : List am_I := [
  (0, .sipush 0, 1, 0), (1, .istore 1, 1, 0), (2, .sipush 0, 1, 0), (3, .istore 2, 1, 0), (4, .iload 2, 1, 0), (5, .sipush 6, 2, 0), (7, .if_icmp .ge 27, 3, 0), (10, .aload 0, 1, 0), (11, .iload 2, 1, 0), (12, .invokeinterface 5014 1, 3, 97), 
  (15, .ifCond .eq 21, 3, 0), (18, .iinc 1 1, 3, 0), (21, .iinc 2 1, 3, 0), (24, .goto 4, 3, 0), (27, .iload 1, 1, 0), (28, .ireturn, 1, 0)]
noncomputable def am_m5017 : am_M := (5017, ("countBranches", "()I"), prog_7_method_17_code, 3, (some .int), [], [], am_t5017_0)
noncomputable def am_t5018_0 : List am_I := [
  (0, .sipush 0, 1, 0), (1, .istore 1, 1, 0), (2, .iload 1, 1, 0), (3, .sipush 6, 2, 0), (5, .if_icmp .ge 24, 3, 0), (8, .aload 0, 1, 0), (9, .iload 1, 1, 0), (10, .invokeinterface 5014 1, 3, 97), (13, .ifCond .ne 18, 3, 0), 
  (16, .iload 1, 1, 0), (17, .ireturn, 1, 0), (18, .iinc 1 1, 3, 0), (21, .goto 2, 3, 0), (24, .sipush (-1), 1, 0), (25, .ireturn, 1, 0)]
noncomputable def am_m5018 : am_M := (5018, ("lowestFreeBranch", "()I"), prog_7_method_18_code, 2, (some .int), [], [], am_t5018_0)
noncomputable def am_t5019_0 : List am_I := [
  (0, .iload 1, 1, 0), (1, .ifCond .lt 17, 3, 0), (4, .iload 1, 1, 0), (5, .sipush 6, 2, 0), (7, .if_icmp .ge 17, 3, 0), (10, .aload 0, 1, 0), (11, .getfield 164, 3, 25), (14, .iload 1, 1, 0), (15, .iload 2, 1, 0), (16, .iastore, 1, 0), 
  (17, .return_, 1, 0)]
noncomputable def am_m5019 : am_M := (5019, ("setBranch", "(II)V"), prog_7_method_19_code, 3, none, [], [], am_t5019_0)
noncomputable def am_t5020_0 : List am_I := [
  (0, .aload 0, 1, 0), (1, .aload 0, 1, 0), (2, .getfield 165, 3, 28), (5, .iload 1, 1, 0), (6, .invokeinterface 5019 2, 3, 101), (9, .aload 0, 1, 0), (10, .iload 1, 1, 0), (11, .aload 0, 1, 0), (12, .getfield 166, 3, 31), 
  (15, .invokeinterface 5008 2, 3, 105), (18, .aload 0, 1, 0), (19, .getfield 167, 3, 34), (22, .sipush (-1), 1, 0), (23, .multianewarray 9000 2, 3, 55), (26, .aload 0, 1, 0), (27, .sipush 0, 1, 0), (28, .putfield 168, 3, 37), 
  (31, .aload 0, 1, 0), (32, .sipush (-1), 1, 0), (33, .putfield 169, 3, 40), (36, .return_, 1, 0)]
noncomputable def am_m5020 : am_M := (5020, ("standAt", "(I)V"), prog_7_method_20_code, 2, none, [], [], am_t5020_0)
noncomputable def am_t5021_0 : List am_I := [
  (0, .iload 1, 1, 0), (1, .ifCond .lt 19, 3, 0), (4, .iload 1, 1, 0), (5, .sipush 24, 2, 0), (7, .if_icmp .ge 19, 3, 0), (10, .aload 0, 1, 0), (11, .getfield 166, 3, 31), (14, .iload 1, 1, 0), (15, .iaload, 1, 0), (16, .goto 20, 3, 0), 
  (19, .sipush 0, 1, 0), (20, .ireturn, 1, 0)]
noncomputable def am_m5021 : am_M := (5021, ("workLine", "(I)I"), prog_7_method_21_code, 2, (some .int), [], [], am_t5021_0)
noncomputable def am_t5022_0 : List am_I := [
  (0, .iload 1, 1, 0), (1, .ifCond .lt 24, 3, 0), (4, .iload 1, 1, 0), (5, .sipush 24, 2, 0), (7, .if_icmp .ge 24, 3, 0), (10, .aload 0, 1, 0), (11, .getfield 166, 3, 31), (14, .iload 1, 1, 0), (15, .iload 2, 1, 0), (16, .iastore, 1, 0), 
  (17, .aload 0, 1, 0), (18, .getfield 167, 3, 34), (21, .iload 1, 1, 0), (22, .sipush (-1), 1, 0), (23, .iastore, 1, 0), (24, .return_, 1, 0)]
noncomputable def am_m5022 : am_M := (5022, ("setLine", "(II)V"), prog_7_method_22_code, 3, none, [], [], am_t5022_0)
noncomputable def am_t5023_0 : List am_I := [
  (0, .aload 0, 1, 0), (1, .iload 1, 1, 0), (2, .invokeinterface 5021 1, 3, 109), (5, .aload 0, 1, 0), (6, .aload 0, 1, 0), (7, .invokeinterface 5016 0, 3, 86), (10, .iload 1, 1, 0), (11, .invokeinterface 5007 2, 3, 73), 
  (14, .if_icmp .eq 21, 3, 0), (17, .sipush 1, 1, 0), (18, .goto 22, 3, 0), (21, .sipush 0, 1, 0), (22, .freturn, 1, 0)]
noncomputable def am_m5023 : am_M := (5023, ("isOther", "(I)Z"), prog_7_method_23_code, 2, (some .boolean), [], [], am_t5023_0)
noncomputable def am_t5024_0 : List am_I := [
  (0, .aload 0, 1, 0), (1, .invokeinterface 5016 0, 3, 86), (4, .istore 1, 1, 0), (5, .sipush 0, 1, 0), (6, .istore 2, 1, 0), (7, .sipush 0, 1, 0), (8, .istore 3, 1, 0), (9, .iload 3, 1, 0), (10, .sipush 24, 2, 0), (12, .if_icmp .ge 39, 3, 0), 
  (15, .aload 0, 1, 0), (16, .getfield 166, 3, 31), (19, .iload 3, 1, 0), (20, .iaload, 1, 0), (21, .aload 0, 1, 0), (22, .iload 1, 1, 0), (23, .iload 3, 1, 0), (24, .invokeinterface 5007 2, 3, 73), (27, .if_icmp .eq 33, 3, 0), 
  (30, .iinc 2 1, 3, 0), (33, .iinc 3 1, 3, 0), (36, .goto 9, 3, 0), (39, .iload 2, 1, 0), (40, .ireturn, 1, 0)]
noncomputable def am_m5024 : am_M := (5024, ("countChanged", "()I"), prog_7_method_24_code, 4, (some .int), [], [], am_t5024_0)
noncomputable def am_t5025_0 : List am_I := [
  (0, .sipush 0, 1, 0), (1, .istore 1, 1, 0), (2, .sipush 0, 1, 0), (3, .istore 2, 1, 0), (4, .iload 2, 1, 0), (5, .sipush 24, 2, 0), (7, .if_icmp .ge 28, 3, 0), (10, .aload 0, 1, 0), (11, .getfield 166, 3, 31), (14, .iload 2, 1, 0), 
  (15, .iaload, 1, 0), (16, .ifCond .eq 22, 3, 0), (19, .iinc 1 1, 3, 0), (22, .iinc 2 1, 3, 0), (25, .goto 4, 3, 0), (28, .iload 1, 1, 0), (29, .ireturn, 1, 0)]
noncomputable def am_m5025 : am_M := (5025, ("countFilled", "()I"), prog_7_method_25_code, 3, (some .int), [], [], am_t5025_0)
noncomputable def am_t5026_0 : List am_I := [
  (0, .aload 0, 1, 0), (1, .getfield 168, 3, 37), (4, .ifCond .ne 18, 3, 0), (7, .aload 0, 1, 0), (8, .invokeinterface 5024 0, 3, 112), (11, .ifCond .ne 18, 3, 0), (14, .sipush 1, 1, 0), (15, .goto 19, 3, 0), (18, .sipush 0, 1, 0), 
  (19, .freturn, 1, 0)]
noncomputable def am_m5026 : am_M := (5026, ("isAtRest", "()Z"), prog_7_method_26_code, 1, (some .boolean), [], [], am_t5026_0)
noncomputable def am_t5027_0 : List am_I := [
  (0, .iload 1, 1, 0), (1, .ifCond .lt 19, 3, 0), (4, .iload 1, 1, 0), (5, .sipush 24, 2, 0), (7, .if_icmp .ge 19, 3, 0), (10, .aload 0, 1, 0), (11, .getfield 167, 3, 34), (14, .iload 1, 1, 0), (15, .iaload, 1, 0), (16, .goto 20, 3, 0), 
  (19, .sipush (-1), 1, 0), (20, .ireturn, 1, 0)]
noncomputable def am_m5027 : am_M := (5027, ("otherSide", "(I)I"), prog_7_method_27_code, 2, (some .int), [], [], am_t5027_0)
noncomputable def am_t5028_0 : List am_I := [
  (0, .aload 0, 1, 0), (1, .iload 1, 1, 0), (2, .invokeinterface 5027 1, 3, 115), (5, .sipush (-1), 1, 0), (6, .if_icmp .eq 13, 3, 0), (9, .sipush 1, 1, 0), (10, .goto 14, 3, 0), (13, .sipush 0, 1, 0), (14, .freturn, 1, 0)
  ]
noncomputable def am_m5028 : am_M := (5028, ("isInConflict", "(I)Z"), prog_7_method_28_code, 2, (some .boolean), [], [], am_t5028_0)
noncomputable def am_t5029_0 : List am_I := [
  (0, .sipush 0, 1, 0), (1, .istore 1, 1, 0), (2, .sipush 0, 1, 0), (3, .istore 2, 1, 0), (4, .iload 2, 1, 0), (5, .sipush 24, 2, 0), (7, .if_icmp .ge 27, 3, 0), (10, .aload 0, 1, 0), (11, .iload 2, 1, 0), (12, .invokeinterface 5028 1, 3, 118), 
  (15, .ifCond .eq 21, 3, 0), (18, .iinc 1 1, 3, 0), (21, .iinc 2 1, 3, 0), (24, .goto 4, 3, 0), (27, .iload 1, 1, 0), (28, .ireturn, 1, 0)]
noncomputable def am_m5029 : am_M := (5029, ("countConflicts", "()I"), prog_7_method_29_code, 3, (some .int), [], [], am_t5029_0)
noncomputable def am_t5030_0 : List am_I := [
  (0, .sipush 0, 1, 0), (1, .istore 1, 1, 0), (2, .sipush 0, 1, 0), (3, .istore 2, 1, 0), (4, .iload 2, 1, 0), (5, .sipush 24, 2, 0), (7, .if_icmp .ge 54, 3, 0), (10, .iload 2, 1, 0), (11, .sipush 6, 2, 0), (13, .irem, 1, 0), 
  (14, .ifCond .eq 31, 3, 0), (17, .aload 0, 1, 0), (18, .iload 2, 1, 0), (19, .sipush 1, 1, 0), (20, .isub, 1, 0), (21, .invokeinterface 5028 1, 3, 118), (24, .ifCond .eq 31, 3, 0), (27, .sipush 1, 1, 0), (28, .goto 32, 3, 0), 
  (31, .sipush 0, 1, 0), (32, .istore 3, 1, 0), (33, .aload 0, 1, 0), (34, .iload 2, 1, 0), (35, .invokeinterface 5028 1, 3, 118), (38, .ifCond .eq 48, 3, 0), (41, .iload 3, 1, 0), (42, .ifCond .ne 48, 3, 0), (45, .iinc 1 1, 3, 0), 
  (48, .iinc 2 1, 3, 0), (51, .goto 4, 3, 0), (54, .iload 1, 1, 0), (55, .ireturn, 1, 0)]
noncomputable def am_m5030 : am_M := (5030, ("countRegions", "()I"), prog_7_method_30_code, 4, (some .int), [], [], am_t5030_0)
noncomputable def am_t5031_0 : List am_I := [
  (0, .sipush 0, 1, 0), (1, .istore 1, 1, 0), (2, .sipush 0, 1, 0), (3, .istore 2, 1, 0), (4, .sipush 0, 1, 0), (5, .istore 3, 1, 0), (6, .iload 3, 1, 0), (7, .sipush 24, 2, 0), (9, .if_icmp .ge 49, 3, 0), (12, .iload 3, 1, 0), 
  (13, .sipush 6, 2, 0), (15, .irem, 1, 0), (16, .ifCond .ne 21, 3, 0), (19, .sipush 0, 1, 0), (20, .istore 2, 1, 0), (21, .aload 0, 1, 0), (22, .iload 3, 1, 0), (23, .invokeinterface 5028 1, 3, 118), (26, .ifCond .eq 35, 3, 0), 
  (29, .iload 2, 1, 0), (30, .sipush 1, 1, 0), (31, .iadd, 1, 0), (32, .goto 36, 3, 0), (35, .sipush 0, 1, 0), (36, .istore 2, 1, 0), (37, .iload 1, 1, 0), (38, .iload 2, 1, 0), (39, .invokestatic 2, 3, 121), (42, .istore 1, 1, 0), 
  (43, .iinc 3 1, 3, 0), (46, .goto 6, 3, 0), (49, .iload 1, 1, 0), (50, .ireturn, 1, 0)]
noncomputable def am_m5031 : am_M := (5031, ("longestRow", "()I"), prog_7_method_31_code, 4, (some .int), [], [], am_t5031_0)
noncomputable def am_t5032_0 : List am_I := [
  (0, .aload 0, 1, 0), (1, .getfield 170, 3, 43), (4, .ifCond .lt 59, 3, 0), (7, .aload 0, 1, 0), (8, .getfield 170, 3, 43), (11, .sipush 3, 1, 0), (12, .if_icmp .ge 59, 3, 0), (15, .aload 0, 1, 0), (16, .getfield 171, 3, 46), 
  (19, .aload 0, 1, 0), (20, .getfield 170, 3, 43), (23, .aload 0, 1, 0), (24, .invokeinterface 5016 0, 3, 86), (27, .iastore, 1, 0), (28, .aload 0, 1, 0), (29, .getfield 166, 3, 31), (32, .sipush 0, 1, 0), (33, .aload 0, 1, 0), 
  (34, .getfield 172, 3, 49), (37, .aload 0, 1, 0), (38, .getfield 170, 3, 43), (41, .sipush 24, 2, 0), (43, .imul, 1, 0), (44, .sipush 24, 2, 0), (46, .invokestatic 1, 3, 67), (49, .aload 0, 1, 0), (50, .dup, 1, 0), (51, .getfield 170, 3, 43), 
  (54, .sipush 1, 1, 0), (55, .iadd, 1, 0), (56, .putfield 170, 3, 43), (59, .return_, 1, 0)]
noncomputable def am_m5032 : am_M := (5032, ("pushAside", "()V"), prog_7_method_32_code, 1, none, [], [], am_t5032_0)
noncomputable def am_t5033_0 : List am_I := [
  (0, .aload 0, 1, 0), (1, .getfield 170, 3, 43), (4, .sipush 1, 1, 0), (5, .isub, 1, 0), (6, .istore 1, 1, 0), (7, .iload 1, 1, 0), (8, .ifCond .lt 25, 3, 0), (11, .iload 1, 1, 0), (12, .sipush 3, 1, 0), (13, .if_icmp .ge 25, 3, 0), 
  (16, .aload 0, 1, 0), (17, .getfield 171, 3, 46), (20, .iload 1, 1, 0), (21, .iaload, 1, 0), (22, .goto 26, 3, 0), (25, .sipush (-1), 1, 0), (26, .ireturn, 1, 0)]
noncomputable def am_m5033 : am_M := (5033, ("latestAsideHead", "()I"), prog_7_method_33_code, 2, (some .int), [], [], am_t5033_0)
noncomputable def am_t5034_0 : List am_I := [
  (0, .aload 0, 1, 0), (1, .getfield 170, 3, 43), (4, .sipush 1, 1, 0), (5, .isub, 1, 0), (6, .istore 2, 1, 0), (7, .iload 2, 1, 0), (8, .ifCond .lt 38, 3, 0), (11, .iload 2, 1, 0), (12, .sipush 3, 1, 0), (13, .if_icmp .ge 38, 3, 0), 
  (16, .aload 1, 1, 0), (17, .arraylength, 1, 0), (18, .sipush 24, 2, 0), (20, .if_icmp .lt 38, 3, 0), (23, .aload 0, 1, 0), (24, .getfield 172, 3, 49), (27, .iload 2, 1, 0), (28, .sipush 24, 2, 0), (30, .imul, 1, 0), (31, .aload 1, 1, 0), 
  (32, .sipush 0, 1, 0), (33, .sipush 24, 2, 0), (35, .invokestatic 1, 3, 67), (38, .return_, 1, 0)]
noncomputable def am_m5034 : am_M := (5034, ("copyLatestAside", "([I)V"), prog_7_method_34_code, 3, none, [], [], am_t5034_0)
noncomputable def am_t6001_0 : List am_I := [
  (0, .aload 0, 1, 0), (1, .invokespecial 0, 3, 3), (4, .aload 0, 1, 0), (5, .new 2, 3, 9), (8, .dup, 1, 0), (9, .invokespecial 2001, 3, 11), (12, .putfield 192, 3, 12), (15, .aload 0, 1, 0), (16, .new 4, 3, 16), (19, .dup, 1, 0), 
  (20, .invokespecial 4001, 3, 18), (23, .putfield 193, 3, 19), (26, .aload 0, 1, 0), (27, .new 3, 3, 23), (30, .dup, 1, 0), (31, .invokespecial 3001, 3, 25), (34, .putfield 194, 3, 26), (37, .aload 0, 1, 0), (38, .new 5, 3, 30), 
  (41, .dup, 1, 0), (42, .invokespecial 5001, 3, 32), (45, .putfield 195, 3, 33), (48, .aload 0, 1, 0), (49, .sipush 0, 1, 0), (50, .putfield 196, 3, 37), (53, .return_, 1, 0)]
noncomputable def am_m6001 : am_M := (6001, ("<init>", "()V"), prog_1_method_1_code, 1, none, [], [], am_t6001_0)
noncomputable def am_t6002_0 : List am_I := [
  (0, .iload 1, 1, 0), (1, .sipush 32, 2, 0), (3, .if_icmp .lt 12, 3, 0), (6, .iload 1, 1, 0), (7, .sipush 126, 2, 0), (9, .if_icmp .le 22, 3, 0), (12, .jsr 0, 3, 0), (22, .aload 0, 1, 0), (23, .getfield 192, 3, 12), (26, .invokeinterface 2003 0, 3, 48), 
  (29, .ifCond .eq 42, 3, 0), (32, .jsr 1, 3, 1), (42, .aload 0, 1, 0), (43, .getfield 192, 3, 12), (46, .iload 1, 1, 0), (47, .invokeinterface 2004 1, 3, 57), (50, .ireturn, 1, 0)]
noncomputable def am_m6002 : am_M := (6002, ("type", "(I)I"), prog_1_method_2_code, 2, (some .int), [], [], am_t6002_0)
noncomputable def am_t6003_0 : List am_I := [
  (0, .aload 0, 1, 0), (1, .getfield 192, 3, 12), (4, .invokeinterface 2005 0, 3, 61), (7, .ireturn, 1, 0)]
noncomputable def am_m6003 : am_M := (6003, ("clearPad", "()I"), prog_1_method_3_code, 1, (some .int), [], [], am_t6003_0)
noncomputable def am_t6004_0 : List am_I := [
  (0, .aload 0, 1, 0), (1, .getfield 192, 3, 12), (4, .invokeinterface 2007 0, 3, 65), (7, .ireturn, 1, 0)]
noncomputable def am_m6004 : am_M := (6004, ("fault", "()I"), prog_1_method_4_code, 1, (some .int), [], [], am_t6004_0)
noncomputable def am_t6005_0 : List am_I := [
  (0, .aload 0, 1, 0), (1, .getfield 192, 3, 12), (4, .invokeinterface 2007 0, 3, 65), (7, .sipush (-1), 1, 0), (8, .if_icmp .eq 21, 3, 0), (11, .jsr 1, 3, 2), (21, .aload 0, 1, 0), (22, .invokeinterface 6066 0, 3, 70), (25, .sipush 0, 1, 0), 
  (26, .istore 1, 1, 0), (27, .sipush 0, 1, 0), (28, .istore 2, 1, 0), (29, .iload 2, 1, 0), (30, .sipush 60, 2, 0), (32, .if_icmp .ge 78, 3, 0), (35, .iload 1, 1, 0), (36, .aload 0, 1, 0), (37, .getfield 192, 3, 12), (40, .invokeinterface 2002 0, 3, 73), 
  (43, .if_icmp .ge 54, 3, 0), (46, .aload 0, 1, 0), (47, .iload 1, 1, 0), (48, .invokeinterface 6067 1, 3, 76), (51, .ifCond .ne 56, 3, 0), (54, .iload 2, 1, 0), (55, .ireturn, 1, 0), (56, .aload 0, 1, 0), (57, .iload 1, 1, 0), 
  (58, .invokeinterface 6068 1, 3, 80), (61, .aload 0, 1, 0), (62, .getfield 192, 3, 12), (65, .iload 1, 1, 0), (66, .invokeinterface 2008 1, 3, 84), (69, .sipush 1, 1, 0), (70, .iadd, 1, 0), (71, .istore 1, 1, 0), (72, .iinc 2 1, 3, 0), 
  (75, .goto 29, 3, 0), (78, .sipush 60, 2, 0), (80, .ireturn, 1, 0)]
noncomputable def am_m6005 : am_M := (6005, ("runOrders", "()I"), prog_1_method_5_code, 3, (some .int), [], [], am_t6005_0)
noncomputable def am_t6006_0 : List am_I := [
  (0, .iload 1, 1, 0), (1, .iload 2, 1, 0), (2, .multianewarray 6061 2, 3, 87), (5, .iload 3, 1, 0), (6, .ifCond .lt 15, 3, 0), (9, .iload 3, 1, 0), (10, .sipush 100, 2, 0), (12, .if_icmp .lt 25, 3, 0), (15, .jsr 0, 3, 3), 
  (25, .aload 0, 1, 0), (26, .invokeinterface 6066 0, 3, 70), (29, .aload 0, 1, 0), (30, .getfield 193, 3, 19), (33, .iload 1, 1, 0), (34, .iload 2, 1, 0), (35, .multianewarray 6060 2, 3, 93), (38, .iload 3, 1, 0), (39, .invokeinterface 4002 2, 3, 97), 
  (42, .ireturn, 1, 0)]
noncomputable def am_m6006 : am_M := (6006, ("edit", "(III)I"), prog_1_method_6_code, 4, (some .int), [], [], am_t6006_0)
noncomputable def am_t6007_0 : List am_I := [
  (0, .aload 0, 1, 0), (1, .getfield 193, 3, 19), (4, .invokeinterface 4003 0, 3, 100), (7, .ifCond .ne 20, 3, 0), (10, .jsr 1, 3, 4), (20, .aload 0, 1, 0), (21, .invokeinterface 6066 0, 3, 70), (24, .aload 0, 1, 0), (25, .getfield 193, 3, 19), 
  (28, .invokeinterface 4004 0, 3, 105), (31, .ireturn, 1, 0)]
noncomputable def am_m6007 : am_M := (6007, ("commit", "()I"), prog_1_method_7_code, 1, (some .int), [], [], am_t6007_0)
noncomputable def am_t6008_0 : List am_I := [
  (0, .aload 0, 1, 0), (1, .iload 1, 1, 0), (2, .invokeinterface 6064 1, 3, 108), (5, .aload 0, 1, 0), (6, .invokeinterface 6066 0, 3, 70), (9, .aload 0, 1, 0), (10, .getfield 193, 3, 19), (13, .iload 1, 1, 0), (14, .invokeinterface 4005 1, 3, 111), 
  (17, .ireturn, 1, 0)]
noncomputable def am_m6008 : am_M := (6008, ("reset", "(I)I"), prog_1_method_8_code, 2, (some .int), [], [], am_t6008_0)
noncomputable def am_t6009_0 : List am_I := [
  (0, .aload 0, 1, 0), (1, .getfield 193, 3, 19), (4, .invokeinterface 4006 0, 3, 114), (7, .ifCond .ne 20, 3, 0), (10, .jsr 1, 3, 5), (20, .aload 0, 1, 0), (21, .invokeinterface 6066 0, 3, 70), (24, .aload 0, 1, 0), (25, .getfield 193, 3, 19), 
  (28, .invokeinterface 4007 0, 3, 119), (31, .ireturn, 1, 0)]
noncomputable def am_m6009 : am_M := (6009, ("putAside", "()I"), prog_1_method_9_code, 1, (some .int), [], [], am_t6009_0)
noncomputable def am_t6010_0 : List am_I := [
  (0, .aload 0, 1, 0), (1, .getfield 193, 3, 19), (4, .invokeinterface 4008 0, 3, 122), (7, .ifCond .ne 20, 3, 0), (10, .jsr 1, 3, 6), (20, .aload 0, 1, 0), (21, .invokeinterface 6066 0, 3, 70), (24, .aload 0, 1, 0), (25, .getfield 193, 3, 19), 
  (28, .invokeinterface 4009 0, 3, 127), (31, .ireturn, 1, 0)]
noncomputable def am_m6010 : am_M := (6010, ("takeBack", "()I"), prog_1_method_10_code, 1, (some .int), [], [], am_t6010_0)
noncomputable def am_t6011_0 : List am_I := [
  (0, .aload 0, 1, 0), (1, .getfield 193, 3, 19), (4, .invokeinterface 4010 0, 3, 130), (7, .ifCond .ne 20, 3, 0), (10, .jsr 1, 3, 7), (20, .aload 0, 1, 0), (21, .invokeinterface 6066 0, 3, 70), (24, .aload 0, 1, 0), (25, .getfield 193, 3, 19), 
  (28, .invokeinterface 4011 0, 3, 135), (31, .ireturn, 1, 0)]
noncomputable def am_m6011 : am_M := (6011, ("newBranch", "()I"), prog_1_method_11_code, 1, (some .int), [], [], am_t6011_0)
noncomputable def am_t6012_0 : List am_I := [
  (0, .iload 1, 1, 0), (1, .multianewarray 6062 1, 3, 138), (4, .aload 0, 1, 0), (5, .getfield 193, 3, 19), (8, .iload 1, 1, 0), (9, .invokeinterface 4012 1, 3, 141), (12, .ifCond .ne 25, 3, 0), (15, .jsr 1, 3, 8), (25, .aload 0, 1, 0), 
  (26, .invokeinterface 6066 0, 3, 70), (29, .aload 0, 1, 0), (30, .getfield 193, 3, 19), (33, .iload 1, 1, 0), (34, .invokeinterface 4013 1, 3, 146), (37, .ireturn, 1, 0)]
noncomputable def am_m6012 : am_M := (6012, ("dropBranch", "(I)I"), prog_1_method_12_code, 2, (some .int), [], [], am_t6012_0)
noncomputable def am_t6013_0 : List am_I := [
  (0, .iload 1, 1, 0), (1, .multianewarray 6062 1, 3, 138), (4, .aload 0, 1, 0), (5, .getfield 193, 3, 19), (8, .iload 1, 1, 0), (9, .invokeinterface 4014 1, 3, 149), (12, .ifCond .ne 25, 3, 0), (15, .jsr 1, 3, 9), (25, .aload 0, 1, 0), 
  (26, .invokeinterface 6066 0, 3, 70), (29, .aload 0, 1, 0), (30, .getfield 193, 3, 19), (33, .iload 1, 1, 0), (34, .invokeinterface 4015 1, 3, 154), (37, .ireturn, 1, 0)]
noncomputable def am_m6013 : am_M := (6013, ("switchTo", "(I)I"), prog_1_method_13_code, 2, (some .int), [], [], am_t6013_0)
noncomputable def am_t6014_0 : List am_I := [
  (0, .iload 1, 1, 0), (1, .multianewarray 6062 1, 3, 138), (4, .aload 0, 1, 0), (5, .getfield 193, 3, 19), (8, .iload 1, 1, 0), (9, .invokeinterface 4016 1, 3, 157), (12, .ifCond .ne 25, 3, 0), (15, .jsr 1, 3, 10), (25, .aload 0, 1, 0), 
  (26, .invokeinterface 6066 0, 3, 70), (29, .aload 0, 1, 0), (30, .getfield 193, 3, 19), (33, .iload 1, 1, 0), (34, .invokeinterface 4017 1, 3, 162), (37, .ireturn, 1, 0)]
noncomputable def am_m6014 : am_M := (6014, ("merge", "(I)I"), prog_1_method_14_code, 2, (some .int), [], [], am_t6014_0)
noncomputable def am_t6015_0 : List am_I := [
  (0, .aload 0, 1, 0), (1, .iload 1, 1, 0), (2, .invokeinterface 6064 1, 3, 108), (5, .aload 0, 1, 0), (6, .getfield 193, 3, 19), (9, .iload 1, 1, 0), (10, .sipush 0, 1, 0), (11, .invokeinterface 4018 2, 3, 165), (14, .ifCond .ne 27, 3, 0), 
  (17, .jsr 1, 3, 11), (27, .aload 0, 1, 0), (28, .invokeinterface 6066 0, 3, 70), (31, .aload 0, 1, 0), (32, .getfield 193, 3, 19), (35, .iload 1, 1, 0), (36, .sipush 0, 1, 0), (37, .invokeinterface 4019 2, 3, 171), (40, .ireturn, 1, 0)
  ]
noncomputable def am_m6015 : am_M := (6015, ("pick", "(I)I"), prog_1_method_15_code, 2, (some .int), [], [], am_t6015_0)
noncomputable def am_t6016_0 : List am_I := [
  (0, .aload 0, 1, 0), (1, .iload 1, 1, 0), (2, .invokeinterface 6064 1, 3, 108), (5, .aload 0, 1, 0), (6, .getfield 193, 3, 19), (9, .iload 1, 1, 0), (10, .sipush 1, 1, 0), (11, .invokeinterface 4018 2, 3, 165), (14, .ifCond .ne 27, 3, 0), 
  (17, .jsr 1, 3, 12), (27, .aload 0, 1, 0), (28, .invokeinterface 6066 0, 3, 70), (31, .aload 0, 1, 0), (32, .getfield 193, 3, 19), (35, .iload 1, 1, 0), (36, .sipush 1, 1, 0), (37, .invokeinterface 4019 2, 3, 171), (40, .ireturn, 1, 0)
  ]
noncomputable def am_m6016 : am_M := (6016, ("revert", "(I)I"), prog_1_method_16_code, 2, (some .int), [], [], am_t6016_0)
noncomputable def am_t6017_0 : List am_I := [
  (0, .iload 1, 1, 0), (1, .multianewarray 6062 1, 3, 138), (4, .aload 0, 1, 0), (5, .getfield 193, 3, 19), (8, .iload 1, 1, 0), (9, .invokeinterface 4020 1, 3, 177), (12, .ifCond .ne 25, 3, 0), (15, .jsr 1, 3, 13), (25, .aload 0, 1, 0), 
  (26, .invokeinterface 6066 0, 3, 70), (29, .aload 0, 1, 0), (30, .getfield 193, 3, 19), (33, .iload 1, 1, 0), (34, .invokeinterface 4021 1, 3, 182), (37, .ireturn, 1, 0)]
noncomputable def am_m6017 : am_M := (6017, ("replay", "(I)I"), prog_1_method_17_code, 2, (some .int), [], [], am_t6017_0)
noncomputable def am_t6018_0 : List am_I := [
  (0, .iload 1, 1, 0), (1, .iload 2, 1, 0), (2, .multianewarray 6061 2, 3, 87), (5, .aload 0, 1, 0), (6, .iload 1, 1, 0), (7, .iload 2, 1, 0), (8, .multianewarray 6060 2, 3, 93), (11, .invokeinterface 6065 1, 3, 185), (14, .aload 0, 1, 0), 
  (15, .invokeinterface 6066 0, 3, 70), (18, .aload 0, 1, 0), (19, .getfield 193, 3, 19), (22, .iload 1, 1, 0), (23, .iload 2, 1, 0), (24, .multianewarray 6060 2, 3, 93), (27, .iload 3, 1, 0), (28, .invokeinterface 4022 2, 3, 188), 
  (31, .ireturn, 1, 0)]
noncomputable def am_m6018 : am_M := (6018, ("resolve", "(IIZ)I"), prog_1_method_18_code, 4, (some .int), [], [], am_t6018_0)
noncomputable def am_t6019_0 : List am_I := [
  (0, .aload 0, 1, 0), (1, .getfield 193, 3, 19), (4, .invokeinterface 4023 0, 3, 191), (7, .ifCond .ne 20, 3, 0), (10, .jsr 1, 3, 14), (20, .aload 0, 1, 0), (21, .invokeinterface 6066 0, 3, 70), (24, .aload 0, 1, 0), (25, .getfield 193, 3, 19), 
  (28, .invokeinterface 4024 0, 3, 196), (31, .ireturn, 1, 0)]
noncomputable def am_m6019 : am_M := (6019, ("abort", "()I"), prog_1_method_19_code, 1, (some .int), [], [], am_t6019_0)
noncomputable def am_t6020_0 : List am_I := [
  (0, .iload 1, 1, 0), (1, .iload 2, 1, 0), (2, .multianewarray 6061 2, 3, 87), (5, .aload 0, 1, 0), (6, .getfield 193, 3, 19), (9, .getfield 128, 3, 199), (12, .iload 1, 1, 0), (13, .iload 2, 1, 0), (14, .multianewarray 6060 2, 3, 93), 
  (17, .invokeinterface 5028 1, 3, 202), (20, .freturn, 1, 0)]
noncomputable def am_m6020 : am_M := (6020, ("isConflict", "(II)Z"), prog_1_method_20_code, 3, (some .boolean), [], [], am_t6020_0)
noncomputable def am_t6021_0 : List am_I := [
  (0, .iload 1, 1, 0), (1, .iload 2, 1, 0), (2, .multianewarray 6061 2, 3, 87), (5, .aload 0, 1, 0), (6, .iload 1, 1, 0), (7, .iload 2, 1, 0), (8, .multianewarray 6060 2, 3, 93), (11, .invokeinterface 6065 1, 3, 185), (14, .aload 0, 1, 0), 
  (15, .getfield 193, 3, 19), (18, .getfield 128, 3, 199), (21, .iload 1, 1, 0), (22, .iload 2, 1, 0), (23, .multianewarray 6060 2, 3, 93), (26, .invokeinterface 5027 1, 3, 205), (29, .ireturn, 1, 0)]
noncomputable def am_m6021 : am_M := (6021, ("theirs", "(II)I"), prog_1_method_21_code, 3, (some .int), [], [], am_t6021_0)
noncomputable def am_t6022_0 : List am_I := [
  (0, .aload 0, 1, 0), (1, .getfield 193, 3, 19), (4, .getfield 128, 3, 199), (7, .invokeinterface 5029 0, 3, 208), (10, .ireturn, 1, 0)]
noncomputable def am_m6022 : am_M := (6022, ("conflicts", "()I"), prog_1_method_22_code, 1, (some .int), [], [], am_t6022_0)
noncomputable def am_t6023_0 : List am_I := [
  (0, .aload 0, 1, 0), (1, .getfield 193, 3, 19), (4, .getfield 128, 3, 199), (7, .invokeinterface 5030 0, 3, 211), (10, .ireturn, 1, 0)]
noncomputable def am_m6023 : am_M := (6023, ("regions", "()I"), prog_1_method_23_code, 1, (some .int), [], [], am_t6023_0)
noncomputable def am_t6024_0 : List am_I := [
  (0, .aload 0, 1, 0), (1, .getfield 193, 3, 19), (4, .getfield 128, 3, 199), (7, .invokeinterface 5031 0, 3, 214), (10, .ireturn, 1, 0)]
noncomputable def am_m6024 : am_M := (6024, ("longestRegion", "()I"), prog_1_method_24_code, 1, (some .int), [], [], am_t6024_0)
noncomputable def am_t6025_0 : List am_I := [
  (0, .aload 0, 1, 0), (1, .getfield 193, 3, 19), (4, .getfield 128, 3, 199), (7, .getfield 168, 3, 217), (10, .sipush 1, 1, 0), (11, .if_icmp .ne 18, 3, 0), (14, .sipush 1, 1, 0), (15, .goto 19, 3, 0), (18, .sipush 0, 1, 0), 
  (19, .freturn, 1, 0)]
noncomputable def am_m6025 : am_M := (6025, ("isMerging", "()Z"), prog_1_method_25_code, 1, (some .boolean), [], [], am_t6025_0)
noncomputable def am_t6026_0 : List am_I := [
  (0, .aload 0, 1, 0), (1, .getfield 193, 3, 19), (4, .getfield 128, 3, 199), (7, .getfield 168, 3, 217), (10, .sipush 2, 1, 0), (11, .if_icmp .ne 18, 3, 0), (14, .sipush 1, 1, 0), (15, .goto 19, 3, 0), (18, .sipush 0, 1, 0), 
  (19, .freturn, 1, 0)]
noncomputable def am_m6026 : am_M := (6026, ("isPicking", "()Z"), prog_1_method_26_code, 1, (some .boolean), [], [], am_t6026_0)
noncomputable def am_t6027_0 : List am_I := [
  (0, .iload 1, 1, 0), (1, .iload 2, 1, 0), (2, .multianewarray 6061 2, 3, 87), (5, .aload 0, 1, 0), (6, .getfield 193, 3, 19), (9, .getfield 128, 3, 199), (12, .iload 1, 1, 0), (13, .iload 2, 1, 0), (14, .multianewarray 6060 2, 3, 93), 
  (17, .invokeinterface 5021 1, 3, 221), (20, .ireturn, 1, 0)]
noncomputable def am_m6027 : am_M := (6027, ("lineOf", "(II)I"), prog_1_method_27_code, 3, (some .int), [], [], am_t6027_0)
noncomputable def am_t6028_0 : List am_I := [
  (0, .iload 1, 1, 0), (1, .iload 2, 1, 0), (2, .multianewarray 6061 2, 3, 87), (5, .aload 0, 1, 0), (6, .getfield 193, 3, 19), (9, .getfield 128, 3, 199), (12, .iload 1, 1, 0), (13, .iload 2, 1, 0), (14, .multianewarray 6060 2, 3, 93), 
  (17, .invokeinterface 5023 1, 3, 224), (20, .freturn, 1, 0)]
noncomputable def am_m6028 : am_M := (6028, ("isChanged", "(II)Z"), prog_1_method_28_code, 3, (some .boolean), [], [], am_t6028_0)
noncomputable def am_t6029_0 : List am_I := [
  (0, .aload 0, 1, 0), (1, .getfield 193, 3, 19), (4, .getfield 128, 3, 199), (7, .invokeinterface 5024 0, 3, 227), (10, .ireturn, 1, 0)]
noncomputable def am_m6029 : am_M := (6029, ("changed", "()I"), prog_1_method_29_code, 1, (some .int), [], [], am_t6029_0)
noncomputable def am_t6030_0 : List am_I := [
  (0, .aload 0, 1, 0), (1, .iload 1, 1, 0), (2, .invokeinterface 6064 1, 3, 108), (5, .iload 2, 1, 0), (6, .iload 3, 1, 0), (7, .multianewarray 6061 2, 3, 87), (10, .aload 0, 1, 0), (11, .getfield 193, 3, 19), (14, .getfield 128, 3, 199), 
  (17, .iload 1, 1, 0), (18, .iload 2, 1, 0), (19, .iload 3, 1, 0), (20, .multianewarray 6060 2, 3, 93), (23, .invokeinterface 5007 2, 3, 230), (26, .ireturn, 1, 0)]
noncomputable def am_m6030 : am_M := (6030, ("lineAt", "(III)I"), prog_1_method_30_code, 4, (some .int), [], [], am_t6030_0)
noncomputable def am_t6031_0 : List am_I := [
  (0, .aload 0, 1, 0), (1, .iload 1, 1, 0), (2, .invokeinterface 6064 1, 3, 108), (5, .aload 0, 1, 0), (6, .iload 2, 1, 0), (7, .invokeinterface 6064 1, 3, 108), (10, .aload 0, 1, 0), (11, .getfield 193, 3, 19), (14, .getfield 128, 3, 199), 
  (17, .iload 1, 1, 0), (18, .iload 2, 1, 0), (19, .invokeinterface 5009 2, 3, 233), (22, .ireturn, 1, 0)]
noncomputable def am_m6031 : am_M := (6031, ("differences", "(II)I"), prog_1_method_31_code, 3, (some .int), [], [], am_t6031_0)
noncomputable def am_t6032_0 : List am_I := [
  (0, .aload 0, 1, 0), (1, .iload 1, 1, 0), (2, .invokeinterface 6064 1, 3, 108), (5, .iload 2, 1, 0), (6, .iload 3, 1, 0), (7, .multianewarray 6061 2, 3, 87), (10, .aload 0, 1, 0), (11, .getfield 193, 3, 19), (14, .getfield 128, 3, 199), 
  (17, .iload 1, 1, 0), (18, .iload 2, 1, 0), (19, .iload 3, 1, 0), (20, .multianewarray 6060 2, 3, 93), (23, .invokeinterface 5011 2, 3, 236), (26, .ireturn, 1, 0)]
noncomputable def am_m6032 : am_M := (6032, ("broughtBy", "(III)I"), prog_1_method_32_code, 4, (some .int), [], [], am_t6032_0)
noncomputable def am_t6033_0 : List am_I := [
  (0, .aload 0, 1, 0), (1, .iload 1, 1, 0), (2, .invokeinterface 6064 1, 3, 108), (5, .iload 2, 1, 0), (6, .iload 3, 1, 0), (7, .multianewarray 6061 2, 3, 87), (10, .aload 0, 1, 0), (11, .getfield 193, 3, 19), (14, .getfield 129, 3, 239), 
  (17, .aload 0, 1, 0), (18, .getfield 193, 3, 19), (21, .getfield 128, 3, 199), (24, .iload 1, 1, 0), (25, .iload 2, 1, 0), (26, .iload 3, 1, 0), (27, .multianewarray 6060 2, 3, 93), (30, .iload 4, 2, 0), (32, .invokeinterface 1005 4, 3, 243), 
  (35, .ireturn, 1, 0)]
noncomputable def am_m6033 : am_M := (6033, ("firstWith", "(IIII)I"), prog_1_method_33_code, 5, (some .int), [], [], am_t6033_0)
noncomputable def am_t6034_0 : List am_I := [
  (0, .aload 0, 1, 0), (1, .getfield 193, 3, 19), (4, .getfield 128, 3, 199), (7, .invokeinterface 5025 0, 3, 249), (10, .i2d, 1, 0), (11, .ldc2_w 4627448617123184640, 3, 252), (14, .ddiv, 1, 0), (15, .dreturn, 1, 0)]
noncomputable def am_m6034 : am_M := (6034, ("fullness", "()D"), prog_1_method_34_code, 1, (some .double), [], [], am_t6034_0)
noncomputable def am_t6035_0 : List am_I := [
  (0, .aload 0, 1, 0), (1, .getfield 193, 3, 19), (4, .getfield 128, 3, 199), (7, .getfield 160, 3, 254), (10, .ireturn, 1, 0)]
noncomputable def am_m6035 : am_M := (6035, ("commits", "()I"), prog_1_method_35_code, 1, (some .int), [], [], am_t6035_0)
noncomputable def am_t6036_0 : List am_I := [
  (0, .aload 0, 1, 0), (1, .iload 1, 1, 0), (2, .invokeinterface 6064 1, 3, 108), (5, .aload 0, 1, 0), (6, .getfield 193, 3, 19), (9, .getfield 128, 3, 199), (12, .iload 1, 1, 0), (13, .invokeinterface 5005 1, 3, 257), (16, .ireturn, 1, 0)
  ]
noncomputable def am_m6036 : am_M := (6036, ("firstParent", "(I)I"), prog_1_method_36_code, 2, (some .int), [], [], am_t6036_0)
noncomputable def am_t6037_0 : List am_I := [
  (0, .aload 0, 1, 0), (1, .iload 1, 1, 0), (2, .invokeinterface 6064 1, 3, 108), (5, .aload 0, 1, 0), (6, .getfield 193, 3, 19), (9, .getfield 128, 3, 199), (12, .iload 1, 1, 0), (13, .invokeinterface 5006 1, 3, 260), (16, .ireturn, 1, 0)
  ]
noncomputable def am_m6037 : am_M := (6037, ("secondParent", "(I)I"), prog_1_method_37_code, 2, (some .int), [], [], am_t6037_0)
noncomputable def am_t6038_0 : List am_I := [
  (0, .aload 0, 1, 0), (1, .getfield 193, 3, 19), (4, .getfield 128, 3, 199), (7, .invokeinterface 5017 0, 3, 263), (10, .ireturn, 1, 0)]
noncomputable def am_m6038 : am_M := (6038, ("branches", "()I"), prog_1_method_38_code, 1, (some .int), [], [], am_t6038_0)
noncomputable def am_t6039_0 : List am_I := [
  (0, .iload 1, 1, 0), (1, .multianewarray 6062 1, 3, 138), (4, .aload 0, 1, 0), (5, .getfield 193, 3, 19), (8, .getfield 128, 3, 199), (11, .iload 1, 1, 0), (12, .invokeinterface 5014 1, 3, 266), (15, .freturn, 1, 0)]
noncomputable def am_m6039 : am_M := (6039, ("isBranch", "(I)Z"), prog_1_method_39_code, 2, (some .boolean), [], [], am_t6039_0)
noncomputable def am_t6040_0 : List am_I := [
  (0, .iload 1, 1, 0), (1, .multianewarray 6062 1, 3, 138), (4, .aload 0, 1, 0), (5, .iload 1, 1, 0), (6, .invokeinterface 6063 1, 3, 269), (9, .aload 0, 1, 0), (10, .getfield 193, 3, 19), (13, .getfield 128, 3, 199), (16, .iload 1, 1, 0), 
  (17, .invokeinterface 5015 1, 3, 272), (20, .ireturn, 1, 0)]
noncomputable def am_m6040 : am_M := (6040, ("standsAt", "(I)I"), prog_1_method_40_code, 2, (some .int), [], [], am_t6040_0)
noncomputable def am_t6041_0 : List am_I := [
  (0, .aload 0, 1, 0), (1, .getfield 193, 3, 19), (4, .getfield 128, 3, 199), (7, .getfield 165, 3, 275), (10, .ireturn, 1, 0)]
noncomputable def am_m6041 : am_M := (6041, ("current", "()I"), prog_1_method_41_code, 1, (some .int), [], [], am_t6041_0)
noncomputable def am_t6042_0 : List am_I := [
  (0, .aload 0, 1, 0), (1, .getfield 193, 3, 19), (4, .getfield 128, 3, 199), (7, .invokeinterface 5016 0, 3, 278), (10, .ireturn, 1, 0)]
noncomputable def am_m6042 : am_M := (6042, ("head", "()I"), prog_1_method_42_code, 1, (some .int), [], [], am_t6042_0)
noncomputable def am_t6043_0 : List am_I := [
  (0, .aload 0, 1, 0), (1, .getfield 193, 3, 19), (4, .getfield 128, 3, 199), (7, .getfield 170, 3, 281), (10, .ireturn, 1, 0)]
noncomputable def am_m6043 : am_M := (6043, ("aside", "()I"), prog_1_method_43_code, 1, (some .int), [], [], am_t6043_0)
noncomputable def am_t6044_0 : List am_I := [
  (0, .aload 0, 1, 0), (1, .getfield 193, 3, 19), (4, .getfield 129, 3, 239), (7, .aload 0, 1, 0), (8, .getfield 193, 3, 19), (11, .getfield 128, 3, 199), (14, .invokeinterface 1006 1, 3, 284), (17, .ireturn, 1, 0)]
noncomputable def am_m6044 : am_M := (6044, ("lost", "()I"), prog_1_method_44_code, 1, (some .int), [], [], am_t6044_0)
noncomputable def am_t6045_0 : List am_I := [
  (0, .aload 0, 1, 0), (1, .iload 1, 1, 0), (2, .invokeinterface 6064 1, 3, 108), (5, .aload 0, 1, 0), (6, .iload 2, 1, 0), (7, .invokeinterface 6064 1, 3, 108), (10, .aload 0, 1, 0), (11, .getfield 193, 3, 19), (14, .getfield 129, 3, 239), 
  (17, .aload 0, 1, 0), (18, .getfield 193, 3, 19), (21, .getfield 128, 3, 199), (24, .iload 1, 1, 0), (25, .iload 2, 1, 0), (26, .invokeinterface 1002 3, 3, 288), (29, .freturn, 1, 0)]
noncomputable def am_m6045 : am_M := (6045, ("reaches", "(II)Z"), prog_1_method_45_code, 3, (some .boolean), [], [], am_t6045_0)
noncomputable def am_t6046_0 : List am_I := [
  (0, .aload 0, 1, 0), (1, .iload 1, 1, 0), (2, .invokeinterface 6064 1, 3, 108), (5, .aload 0, 1, 0), (6, .getfield 193, 3, 19), (9, .getfield 129, 3, 239), (12, .aload 0, 1, 0), (13, .getfield 193, 3, 19), (16, .getfield 128, 3, 199), 
  (19, .iload 1, 1, 0), (20, .invokeinterface 1003 2, 3, 292), (23, .ireturn, 1, 0)]
noncomputable def am_m6046 : am_M := (6046, ("history", "(I)I"), prog_1_method_46_code, 2, (some .int), [], [], am_t6046_0)
noncomputable def am_t6047_0 : List am_I := [
  (0, .aload 0, 1, 0), (1, .iload 1, 1, 0), (2, .invokeinterface 6064 1, 3, 108), (5, .iload 2, 1, 0), (6, .ifCond .ge 20, 3, 0), (9, .jsr 0, 3, 15), (20, .aload 0, 1, 0), (21, .getfield 193, 3, 19), (24, .getfield 129, 3, 239), 
  (27, .aload 0, 1, 0), (28, .getfield 193, 3, 19), (31, .getfield 128, 3, 199), (34, .iload 1, 1, 0), (35, .iload 2, 1, 0), (36, .invokeinterface 1004 3, 3, 298), (39, .ireturn, 1, 0)]
noncomputable def am_m6047 : am_M := (6047, ("historyAt", "(II)I"), prog_1_method_47_code, 3, (some .int), [], [], am_t6047_0)
noncomputable def am_t6048_0 : List am_I := [
  (0, .aload 0, 1, 0), (1, .iload 1, 1, 0), (2, .invokeinterface 6064 1, 3, 108), (5, .aload 0, 1, 0), (6, .iload 2, 1, 0), (7, .invokeinterface 6064 1, 3, 108), (10, .aload 0, 1, 0), (11, .getfield 193, 3, 19), (14, .getfield 129, 3, 239), 
  (17, .aload 0, 1, 0), (18, .getfield 193, 3, 19), (21, .getfield 128, 3, 199), (24, .iload 1, 1, 0), (25, .iload 2, 1, 0), (26, .invokeinterface 1007 3, 3, 302), (29, .ireturn, 1, 0)]
noncomputable def am_m6048 : am_M := (6048, ("distance", "(II)I"), prog_1_method_48_code, 3, (some .int), [], [], am_t6048_0)
noncomputable def am_t6049_0 : List am_I := [
  (0, .aload 0, 1, 0), (1, .iload 1, 1, 0), (2, .invokeinterface 6064 1, 3, 108), (5, .aload 0, 1, 0), (6, .getfield 193, 3, 19), (9, .getfield 129, 3, 239), (12, .aload 0, 1, 0), (13, .getfield 193, 3, 19), (16, .getfield 128, 3, 199), 
  (19, .iload 1, 1, 0), (20, .invokeinterface 1010 2, 3, 305), (23, .ireturn, 1, 0)]
noncomputable def am_m6049 : am_M := (6049, ("depth", "(I)I"), prog_1_method_49_code, 2, (some .int), [], [], am_t6049_0)
noncomputable def am_t6050_0 : List am_I := [
  (0, .aload 0, 1, 0), (1, .iload 1, 1, 0), (2, .invokeinterface 6064 1, 3, 108), (5, .aload 0, 1, 0), (6, .iload 2, 1, 0), (7, .invokeinterface 6064 1, 3, 108), (10, .aload 0, 1, 0), (11, .getfield 193, 3, 19), (14, .getfield 129, 3, 239), 
  (17, .aload 0, 1, 0), (18, .getfield 193, 3, 19), (21, .getfield 128, 3, 199), (24, .iload 1, 1, 0), (25, .iload 2, 1, 0), (26, .invokeinterface 1011 3, 3, 308), (29, .ireturn, 1, 0)]
noncomputable def am_m6050 : am_M := (6050, ("base", "(II)I"), prog_1_method_50_code, 3, (some .int), [], [], am_t6050_0)
noncomputable def am_t6051_0 : List am_I := [
  (0, .aload 0, 1, 0), (1, .iload 1, 1, 0), (2, .invokeinterface 6064 1, 3, 108), (5, .aload 0, 1, 0), (6, .iload 2, 1, 0), (7, .invokeinterface 6064 1, 3, 108), (10, .aload 0, 1, 0), (11, .getfield 193, 3, 19), (14, .getfield 129, 3, 239), 
  (17, .aload 0, 1, 0), (18, .getfield 193, 3, 19), (21, .getfield 128, 3, 199), (24, .iload 1, 1, 0), (25, .iload 2, 1, 0), (26, .invokeinterface 1012 3, 3, 311), (29, .ireturn, 1, 0)]
noncomputable def am_m6051 : am_M := (6051, ("baseByMarks", "(II)I"), prog_1_method_51_code, 3, (some .int), [], [], am_t6051_0)
noncomputable def am_t6052_0 : List am_I := [
  (0, .aload 0, 1, 0), (1, .iload 1, 1, 0), (2, .invokeinterface 6064 1, 3, 108), (5, .aload 0, 1, 0), (6, .iload 2, 1, 0), (7, .invokeinterface 6064 1, 3, 108), (10, .aload 0, 1, 0), (11, .getfield 193, 3, 19), (14, .getfield 129, 3, 239), 
  (17, .aload 0, 1, 0), (18, .getfield 193, 3, 19), (21, .getfield 128, 3, 199), (24, .iload 1, 1, 0), (25, .iload 2, 1, 0), (26, .invokeinterface 1013 3, 3, 314), (29, .ireturn, 1, 0)]
noncomputable def am_m6052 : am_M := (6052, ("bestCommon", "(II)I"), prog_1_method_52_code, 3, (some .int), [], [], am_t6052_0)
noncomputable def am_t6053_0 : List am_I := [
  (0, .iload 1, 1, 0), (1, .multianewarray 6062 1, 3, 138), (4, .aload 0, 1, 0), (5, .iload 1, 1, 0), (6, .invokeinterface 6063 1, 3, 269), (9, .aload 0, 1, 0), (10, .getfield 193, 3, 19), (13, .aload 0, 1, 0), (14, .getfield 193, 3, 19), 
  (17, .getfield 128, 3, 199), (20, .iload 1, 1, 0), (21, .invokeinterface 5015 1, 3, 272), (24, .invokeinterface 4027 1, 3, 317), (27, .aload 0, 1, 0), (28, .getfield 193, 3, 19), (31, .getfield 130, 3, 320), (34, .getfield 5, 3, 324), 
  (37, .ireturn, 1, 0)]
noncomputable def am_m6053 : am_M := (6053, ("wouldConflict", "(I)I"), prog_1_method_53_code, 2, (some .int), [], [], am_t6053_0)
noncomputable def am_t6054_0 : List am_I := [
  (0, .aload 0, 1, 0), (1, .getfield 193, 3, 19), (4, .getfield 128, 3, 199), (7, .invokeinterface 5010 0, 3, 332), (10, .ireturn, 1, 0)]
noncomputable def am_m6054 : am_M := (6054, ("merges", "()I"), prog_1_method_55_code, 1, (some .int), [], [], am_t6054_0)
noncomputable def am_t6055_0 : List am_I := [
  (0, .aload 0, 1, 0), (1, .getfield 193, 3, 19), (4, .getfield 128, 3, 199), (7, .getfield 173, 3, 335), (10, .ireturn, 1, 0)]
noncomputable def am_m6055 : am_M := (6055, ("allConflicts", "()I"), prog_1_method_56_code, 1, (some .int), [], [], am_t6055_0)
noncomputable def am_t6056_0 : List am_I := [
  (0, .aload 0, 1, 0), (1, .getfield 195, 3, 33), (4, .aload 0, 1, 0), (5, .getfield 193, 3, 19), (8, .getfield 128, 3, 199), (11, .invokeinterface 5002 1, 3, 338), (14, .aload 0, 1, 0), (15, .sipush 1, 1, 0), (16, .putfield 196, 3, 37), 
  (19, .aload 0, 1, 0), (20, .getfield 193, 3, 19), (23, .getfield 128, 3, 199), (26, .getfield 160, 3, 254), (29, .ireturn, 1, 0)]
noncomputable def am_m6056 : am_M := (6056, ("keep", "()I"), prog_1_method_57_code, 1, (some .int), [], [], am_t6056_0)
noncomputable def am_t6057_0 : List am_I := [
  (0, .aload 0, 1, 0), (1, .getfield 196, 3, 37), (4, .ifCond .ne 18, 3, 0), (7, .jsr 1, 3, 16), (18, .aload 0, 1, 0), (19, .invokeinterface 6066 0, 3, 70), (22, .aload 0, 1, 0), (23, .getfield 193, 3, 19), (26, .getfield 128, 3, 199), 
  (29, .aload 0, 1, 0), (30, .getfield 195, 3, 33), (33, .invokeinterface 5002 1, 3, 338), (36, .aload 0, 1, 0), (37, .getfield 193, 3, 19), (40, .getfield 128, 3, 199), (43, .getfield 160, 3, 254), (46, .ireturn, 1, 0)]
noncomputable def am_m6057 : am_M := (6057, ("goBack", "()I"), prog_1_method_58_code, 1, (some .int), [], [], am_t6057_0)
noncomputable def am_t6058_0 : List am_I := [
  (0, .aload 0, 1, 0), (1, .getfield 194, 3, 26), (4, .getfield 98, 3, 344), (7, .ifCond .ne 21, 3, 0), (10, .jsr 1, 3, 17), (21, .aload 0, 1, 0), (22, .getfield 194, 3, 26), (25, .aload 0, 1, 0), (26, .getfield 193, 3, 19), 
  (29, .getfield 128, 3, 199), (32, .invokeinterface 3003 1, 3, 349), (35, .aload 0, 1, 0), (36, .getfield 194, 3, 26), (39, .getfield 98, 3, 344), (42, .ireturn, 1, 0)]
noncomputable def am_m6058 : am_M := (6058, ("undo", "()I"), prog_1_method_59_code, 1, (some .int), [], [], am_t6058_0)
noncomputable def am_t6059_0 : List am_I := [
  (0, .iload 0, 1, 0), (1, .ifCond .lt 23, 3, 0), (4, .iload 0, 1, 0), (5, .sipush 4, 1, 0), (6, .if_icmp .ge 23, 3, 0), (9, .iload 1, 1, 0), (10, .ifCond .lt 23, 3, 0), (13, .iload 1, 1, 0), (14, .sipush 6, 2, 0), (16, .if_icmp .ge 23, 3, 0), 
  (19, .sipush 1, 1, 0), (20, .goto 24, 3, 0), (23, .sipush 0, 1, 0), (24, .freturn, 1, 0)]
noncomputable def am_m6059 : am_M := (6059, ("isPlace", "(II)Z"), prog_1_method_60_code, 2, (some .boolean), [], [], am_t6059_0)
noncomputable def am_t6060_0 : List am_I := [
  (0, .iload 0, 1, 0), (1, .sipush 6, 2, 0), (3, .imul, 1, 0), (4, .iload 1, 1, 0), (5, .iadd, 1, 0), (6, .ireturn, 1, 0)]
noncomputable def am_m6060 : am_M := (6060, ("placeOf", "(II)I"), prog_1_method_61_code, 2, (some .int), [], [], am_t6060_0)
noncomputable def am_t6061_0 : List am_I := [
  (0, .iload 0, 1, 0), (1, .iload 1, 1, 0), (2, .multianewarray 6059 2, 3, 352), (5, .ifCond .ne 19, 3, 0), (8, .jsr 0, 3, 18), (19, .return_, 1, 0)]
noncomputable def am_m6061 : am_M := (6061, ("requirePlace", "(II)V"), prog_1_method_62_code, 2, none, [], [], am_t6061_0)
noncomputable def am_t6062_0 : List am_I := [
  (0, .iload 0, 1, 0), (1, .ifCond .lt 10, 3, 0), (4, .iload 0, 1, 0), (5, .sipush 6, 2, 0), (7, .if_icmp .lt 21, 3, 0), (10, .jsr 0, 3, 19), (21, .return_, 1, 0)]
noncomputable def am_m6062 : am_M := (6062, ("requireBranchNumber", "(I)V"), prog_1_method_63_code, 1, none, [], [], am_t6062_0)
noncomputable def am_t6063_0 : List am_I := [
  (0, .aload 0, 1, 0), (1, .getfield 193, 3, 19), (4, .getfield 128, 3, 199), (7, .iload 1, 1, 0), (8, .invokeinterface 5014 1, 3, 266), (11, .ifCond .ne 25, 3, 0), (14, .jsr 1, 3, 20), (25, .return_, 1, 0)]
noncomputable def am_m6063 : am_M := (6063, ("requireBranch", "(I)V"), prog_1_method_64_code, 2, none, [], [], am_t6063_0)
noncomputable def am_t6064_0 : List am_I := [
  (0, .aload 0, 1, 0), (1, .getfield 193, 3, 19), (4, .getfield 128, 3, 199), (7, .iload 1, 1, 0), (8, .invokeinterface 5003 1, 3, 362), (11, .ifCond .ne 25, 3, 0), (14, .jsr 0, 3, 21), (25, .return_, 1, 0)]
noncomputable def am_m6064 : am_M := (6064, ("requireCommit", "(I)V"), prog_1_method_65_code, 2, none, [], [], am_t6064_0)
noncomputable def am_t6065_0 : List am_I := [
  (0, .aload 0, 1, 0), (1, .getfield 193, 3, 19), (4, .getfield 128, 3, 199), (7, .iload 1, 1, 0), (8, .invokeinterface 5028 1, 3, 202), (11, .ifCond .ne 25, 3, 0), (14, .jsr 1, 3, 22), (25, .return_, 1, 0)]
noncomputable def am_m6065 : am_M := (6065, ("requireConflict", "(I)V"), prog_1_method_66_code, 2, none, [], [], am_t6065_0)
noncomputable def am_t6066_0 : List am_I := [
  (0, .aload 0, 1, 0), (1, .getfield 194, 3, 26), (4, .aload 0, 1, 0), (5, .getfield 193, 3, 19), (8, .getfield 128, 3, 199), (11, .invokeinterface 3002 1, 3, 369), (14, .return_, 1, 0)]
noncomputable def am_m6066 : am_M := (6066, ("recordState", "()V"), prog_1_method_67_code, 1, none, [], [], am_t6066_0)
noncomputable def am_t6067_0 : List am_I := [
  (0, .aload 0, 1, 0), (1, .getfield 192, 3, 12), (4, .iload 1, 1, 0), (5, .sipush 1, 1, 0), (6, .iadd, 1, 0), (7, .invokeinterface 2009 1, 3, 372), (10, .istore 2, 1, 0), (11, .aload 0, 1, 0), (12, .getfield 192, 3, 12), 
  (15, .iload 1, 1, 0), (16, .invokeinterface 2006 1, 3, 375), (19, .tableswitch 170 97 115 #[124, 116, 108, 170, 170, 170, 170, 170, 170, 170, 170, 170, 141, 170, 170, 150, 170, 160, 132], 89, 0), (108, .aload 0, 1, 0), 
  (109, .getfield 193, 3, 19), (112, .invokeinterface 4003 0, 3, 100), (115, .freturn, 1, 0), (116, .aload 0, 1, 0), (117, .getfield 193, 3, 19), (120, .invokeinterface 4010 0, 3, 130), (123, .freturn, 1, 0), (124, .aload 0, 1, 0), 
  (125, .getfield 193, 3, 19), (128, .invokeinterface 4023 0, 3, 191), (131, .freturn, 1, 0), (132, .aload 0, 1, 0), (133, .getfield 193, 3, 19), (136, .iload 2, 1, 0), (137, .invokeinterface 4014 1, 3, 149), (140, .freturn, 1, 0), 
  (141, .aload 0, 1, 0), (142, .getfield 193, 3, 19), (145, .iload 2, 1, 0), (146, .invokeinterface 4016 1, 3, 157), (149, .freturn, 1, 0), (150, .aload 0, 1, 0), (151, .getfield 193, 3, 19), (154, .iload 2, 1, 0), (155, .sipush 0, 1, 0), 
  (156, .invokeinterface 4018 2, 3, 165), (159, .freturn, 1, 0), (160, .aload 0, 1, 0), (161, .getfield 193, 3, 19), (164, .iload 2, 1, 0), (165, .sipush 1, 1, 0), (166, .invokeinterface 4018 2, 3, 165), (169, .freturn, 1, 0), 
  (170, .sipush 1, 1, 0), (171, .freturn, 1, 0)]
noncomputable def am_m6067 : am_M := (6067, ("mayCarryOut", "(I)Z"), prog_1_method_68_code, 3, (some .boolean), [], [], am_t6067_0)
noncomputable def am_t6068_0 : List am_I := [
  (0, .aload 0, 1, 0), (1, .getfield 192, 3, 12), (4, .iload 1, 1, 0), (5, .sipush 1, 1, 0), (6, .iadd, 1, 0), (7, .invokeinterface 2009 1, 3, 372), (10, .istore 2, 1, 0), (11, .aload 0, 1, 0), (12, .getfield 192, 3, 12), 
  (15, .iload 1, 1, 0), (16, .invokeinterface 2006 1, 3, 375), (19, .tableswitch 191 97 115 #[130, 119, 108, 191, 191, 191, 191, 191, 191, 191, 191, 191, 153, 191, 191, 165, 191, 178, 141], 89, 0), (108, .aload 0, 1, 0), 
  (109, .getfield 193, 3, 19), (112, .invokeinterface 4004 0, 3, 105), (115, .pop, 1, 0), (116, .goto 232, 3, 0), (119, .aload 0, 1, 0), (120, .getfield 193, 3, 19), (123, .invokeinterface 4011 0, 3, 135), (126, .pop, 1, 0), 
  (127, .goto 232, 3, 0), (130, .aload 0, 1, 0), (131, .getfield 193, 3, 19), (134, .invokeinterface 4024 0, 3, 196), (137, .pop, 1, 0), (138, .goto 232, 3, 0), (141, .aload 0, 1, 0), (142, .getfield 193, 3, 19), (145, .iload 2, 1, 0), 
  (146, .invokeinterface 4015 1, 3, 154), (149, .pop, 1, 0), (150, .goto 232, 3, 0), (153, .aload 0, 1, 0), (154, .getfield 193, 3, 19), (157, .iload 2, 1, 0), (158, .invokeinterface 4017 1, 3, 162), (161, .pop, 1, 0), (162, .goto 232, 3, 0), 
  (165, .aload 0, 1, 0), (166, .getfield 193, 3, 19), (169, .iload 2, 1, 0), (170, .sipush 0, 1, 0), (171, .invokeinterface 4019 2, 3, 171), (174, .pop, 1, 0), (175, .goto 232, 3, 0), (178, .aload 0, 1, 0), (179, .getfield 193, 3, 19), 
  (182, .iload 2, 1, 0), (183, .sipush 1, 1, 0), (184, .invokeinterface 4019 2, 3, 171), (187, .pop, 1, 0), (188, .goto 232, 3, 0), (191, .aload 0, 1, 0), (192, .getfield 192, 3, 12), (195, .iload 1, 1, 0), (196, .invokeinterface 2009 1, 3, 372), 
  (199, .aload 0, 1, 0), (200, .getfield 192, 3, 12), (203, .iload 1, 1, 0), (204, .sipush 2, 1, 0), (205, .iadd, 1, 0), (206, .invokeinterface 2009 1, 3, 372), (209, .multianewarray 6060 2, 3, 93), (212, .istore 3, 1, 0), 
  (213, .aload 0, 1, 0), (214, .getfield 193, 3, 19), (217, .iload 3, 1, 0), (218, .aload 0, 1, 0), (219, .getfield 192, 3, 12), (222, .iload 1, 1, 0), (223, .sipush 4, 1, 0), (224, .iadd, 1, 0), (225, .invokeinterface 2009 1, 3, 372), 
  (228, .invokeinterface 4002 2, 3, 97), (231, .pop, 1, 0), (232, .return_, 1, 0)]
noncomputable def am_m6068 : am_M := (6068, ("carryOut", "(I)V"), prog_1_method_69_code, 4, none, [], [], am_t6068_0)
noncomputable def am_t9000_0 : List am_I := [
  (0, .sipush 0, 1, 0), (1, .istore 2, 1, 0), (2, .aload 0, 1, 0), (3, .arraylength, 1, 0), (4, .istore 3, 1, 0), (5, .iload 2, 1, 0), (6, .iload 3, 1, 0), (7, .if_icmp .ge 20, 3, 0), (10, .aload 0, 1, 0), (11, .iload 2, 1, 0), 
  (12, .iload 1, 1, 0), (13, .iastore, 1, 0), (14, .iinc 2 1, 3, 0), (17, .goto 5, 3, 0), (20, .return_, 1, 0)]
noncomputable def am_m9000 : am_M := (9000, ("fill", "([II)V"), prog_18_method_103_code, 4, none, [], [], am_t9000_0)
noncomputable def am_t8001_0 : List am_I := [
  (0, .iload 1, 1, 0), (1, .aload 0, 1, 0), (2, .arraylength, 1, 0), (3, .if_icmp .ge 12, 3, 0), (6, .aload 0, 1, 0), (7, .iload 1, 1, 0), (8, .iaload, 1, 0), (9, .goto 24, 3, 0), (12, .ldc 2384334445, 2, 7), (14, .iload 1, 1, 0), 
  (15, .sipush 5717, 3, 0), (18, .iadd, 1, 0), (19, .imul, 1, 0), (20, .sipush 5507, 3, 0), (23, .iadd, 1, 0), (24, .ireturn, 1, 0)]
noncomputable def am_m8001 : am_M := (8001, ("lot", "([II)I"), method_2_code, 2, (some .int), [], [], am_t8001_0)
noncomputable def am_t8002_0 : List am_I := [
  (0, .iload 0, 1, 0), (1, .ldc 2147483647, 2, 8), (3, .iand, 1, 0), (4, .iload 1, 1, 0), (5, .irem, 1, 0), (6, .ireturn, 1, 0)]
noncomputable def am_m8002 : am_M := (8002, ("low", "(II)I"), method_3_code, 2, (some .int), [], [], am_t8002_0)
noncomputable def am_t8003_0 : List am_I := [
  (0, .aload 0, 1, 0), (1, .iload 1, 1, 0), (2, .invokeinterface 6002 1, 3, 9), (5, .ireturn, 1, 0), (7, .sipush (-102), 2, 0), (9, .ireturn, 1, 0), (11, .sipush (-103), 2, 0), (13, .ireturn, 1, 0)]
noncomputable def am_m8003 : am_M := (8003, ("type", "(LBranchedSource;I)I"), method_4_code, 3, (some .int), [(0, 5, 6, 15), (0, 5, 10, 17)], [(0, 5, 6, 0, 2, 1), (0, 5, 10, 1, 2, 1)], am_t8003_0)
noncomputable def am_t8004_0 : List am_I := [
  (0, .aload 0, 1, 0), (1, .invokeinterface 6005 0, 3, 19), (4, .ireturn, 1, 0), (6, .sipush (-103), 2, 0), (8, .ireturn, 1, 0)]
noncomputable def am_m8004 : am_M := (8004, ("runOrders", "(LBranchedSource;)I"), method_5_code, 2, (some .int), [(0, 4, 5, 17)], [(0, 4, 5, 1, 1, 1)], am_t8004_0)
noncomputable def am_t8005_0 : List am_I := [
  (0, .aload 0, 1, 0), (1, .iload 1, 1, 0), (2, .iload 2, 1, 0), (3, .iload 3, 1, 0), (4, .invokeinterface 6006 3, 3, 23), (7, .ireturn, 1, 0), (10, .sipush (-102), 2, 0), (12, .ireturn, 1, 0)]
noncomputable def am_m8005 : am_M := (8005, ("edit", "(LBranchedSource;III)I"), method_6_code, 5, (some .int), [(0, 7, 8, 15)], [(0, 7, 8, 0, 4, 2)], am_t8005_0)
noncomputable def am_t8006_0 : List am_I := [
  (0, .aload 0, 1, 0), (1, .invokeinterface 6007 0, 3, 27), (4, .ireturn, 1, 0), (6, .sipush (-103), 2, 0), (8, .ireturn, 1, 0)]
noncomputable def am_m8006 : am_M := (8006, ("commit", "(LBranchedSource;)I"), method_7_code, 2, (some .int), [(0, 4, 5, 17)], [(0, 4, 5, 1, 1, 1)], am_t8006_0)
noncomputable def am_t8007_0 : List am_I := [
  (0, .aload 0, 1, 0), (1, .iload 1, 1, 0), (2, .invokeinterface 6008 1, 3, 30), (5, .ireturn, 1, 0), (7, .sipush (-102), 2, 0), (9, .ireturn, 1, 0)]
noncomputable def am_m8007 : am_M := (8007, ("reset", "(LBranchedSource;I)I"), method_8_code, 3, (some .int), [(0, 5, 6, 15)], [(0, 5, 6, 0, 2, 1)], am_t8007_0)
noncomputable def am_t8008_0 : List am_I := [
  (0, .aload 0, 1, 0), (1, .invokeinterface 6009 0, 3, 33), (4, .ireturn, 1, 0), (6, .sipush (-103), 2, 0), (8, .ireturn, 1, 0)]
noncomputable def am_m8008 : am_M := (8008, ("putAside", "(LBranchedSource;)I"), method_9_code, 2, (some .int), [(0, 4, 5, 17)], [(0, 4, 5, 1, 1, 1)], am_t8008_0)
noncomputable def am_t8009_0 : List am_I := [
  (0, .aload 0, 1, 0), (1, .invokeinterface 6010 0, 3, 36), (4, .ireturn, 1, 0), (6, .sipush (-103), 2, 0), (8, .ireturn, 1, 0)]
noncomputable def am_m8009 : am_M := (8009, ("takeBack", "(LBranchedSource;)I"), method_10_code, 2, (some .int), [(0, 4, 5, 17)], [(0, 4, 5, 1, 1, 1)], am_t8009_0)
noncomputable def am_t8010_0 : List am_I := [
  (0, .aload 0, 1, 0), (1, .invokeinterface 6011 0, 3, 39), (4, .ireturn, 1, 0), (6, .sipush (-103), 2, 0), (8, .ireturn, 1, 0)]
noncomputable def am_m8010 : am_M := (8010, ("newBranch", "(LBranchedSource;)I"), method_11_code, 2, (some .int), [(0, 4, 5, 17)], [(0, 4, 5, 1, 1, 1)], am_t8010_0)
noncomputable def am_t8011_0 : List am_I := [
  (0, .aload 0, 1, 0), (1, .iload 1, 1, 0), (2, .invokeinterface 6012 1, 3, 42), (5, .ireturn, 1, 0), (7, .sipush (-102), 2, 0), (9, .ireturn, 1, 0), (11, .sipush (-103), 2, 0), (13, .ireturn, 1, 0)]
noncomputable def am_m8011 : am_M := (8011, ("dropBranch", "(LBranchedSource;I)I"), method_12_code, 3, (some .int), [(0, 5, 6, 15), (0, 5, 10, 17)], [(0, 5, 6, 0, 2, 1), (0, 5, 10, 1, 2, 1)], am_t8011_0)
noncomputable def am_t8012_0 : List am_I := [
  (0, .aload 0, 1, 0), (1, .iload 1, 1, 0), (2, .invokeinterface 6013 1, 3, 45), (5, .ireturn, 1, 0), (7, .sipush (-102), 2, 0), (9, .ireturn, 1, 0), (11, .sipush (-103), 2, 0), (13, .ireturn, 1, 0)]
noncomputable def am_m8012 : am_M := (8012, ("switchTo", "(LBranchedSource;I)I"), method_13_code, 3, (some .int), [(0, 5, 6, 15), (0, 5, 10, 17)], [(0, 5, 6, 0, 2, 1), (0, 5, 10, 1, 2, 1)], am_t8012_0)
noncomputable def am_t8013_0 : List am_I := [
  (0, .aload 0, 1, 0), (1, .iload 1, 1, 0), (2, .invokeinterface 6014 1, 3, 48), (5, .ireturn, 1, 0), (7, .sipush (-102), 2, 0), (9, .ireturn, 1, 0), (11, .sipush (-103), 2, 0), (13, .ireturn, 1, 0)]
noncomputable def am_m8013 : am_M := (8013, ("merge", "(LBranchedSource;I)I"), method_14_code, 3, (some .int), [(0, 5, 6, 15), (0, 5, 10, 17)], [(0, 5, 6, 0, 2, 1), (0, 5, 10, 1, 2, 1)], am_t8013_0)
noncomputable def am_t8014_0 : List am_I := [
  (0, .aload 0, 1, 0), (1, .iload 1, 1, 0), (2, .invokeinterface 6015 1, 3, 51), (5, .ireturn, 1, 0), (7, .sipush (-102), 2, 0), (9, .ireturn, 1, 0), (11, .sipush (-103), 2, 0), (13, .ireturn, 1, 0)]
noncomputable def am_m8014 : am_M := (8014, ("pick", "(LBranchedSource;I)I"), method_15_code, 3, (some .int), [(0, 5, 6, 15), (0, 5, 10, 17)], [(0, 5, 6, 0, 2, 1), (0, 5, 10, 1, 2, 1)], am_t8014_0)
noncomputable def am_t8015_0 : List am_I := [
  (0, .aload 0, 1, 0), (1, .iload 1, 1, 0), (2, .invokeinterface 6016 1, 3, 54), (5, .ireturn, 1, 0), (7, .sipush (-102), 2, 0), (9, .ireturn, 1, 0), (11, .sipush (-103), 2, 0), (13, .ireturn, 1, 0)]
noncomputable def am_m8015 : am_M := (8015, ("revert", "(LBranchedSource;I)I"), method_16_code, 3, (some .int), [(0, 5, 6, 15), (0, 5, 10, 17)], [(0, 5, 6, 0, 2, 1), (0, 5, 10, 1, 2, 1)], am_t8015_0)
noncomputable def am_t8016_0 : List am_I := [
  (0, .aload 0, 1, 0), (1, .iload 1, 1, 0), (2, .invokeinterface 6017 1, 3, 57), (5, .ireturn, 1, 0), (7, .sipush (-102), 2, 0), (9, .ireturn, 1, 0), (11, .sipush (-103), 2, 0), (13, .ireturn, 1, 0)]
noncomputable def am_m8016 : am_M := (8016, ("replay", "(LBranchedSource;I)I"), method_17_code, 3, (some .int), [(0, 5, 6, 15), (0, 5, 10, 17)], [(0, 5, 6, 0, 2, 1), (0, 5, 10, 1, 2, 1)], am_t8016_0)
noncomputable def am_t8017_0 : List am_I := [
  (0, .aload 0, 1, 0), (1, .iload 1, 1, 0), (2, .iload 2, 1, 0), (3, .iload 3, 1, 0), (4, .invokeinterface 6018 3, 3, 60), (7, .ireturn, 1, 0), (10, .sipush (-102), 2, 0), (12, .ireturn, 1, 0), (15, .sipush (-103), 2, 0), 
  (17, .ireturn, 1, 0)]
noncomputable def am_m8017 : am_M := (8017, ("resolve", "(LBranchedSource;IIZ)I"), method_18_code, 5, (some .int), [(0, 7, 8, 15), (0, 7, 13, 17)], [(0, 7, 8, 0, 4, 2), (0, 7, 13, 1, 4, 2)], am_t8017_0)
noncomputable def am_t8018_0 : List am_I := [
  (0, .aload 0, 1, 0), (1, .invokeinterface 6019 0, 3, 64), (4, .ireturn, 1, 0), (6, .sipush (-103), 2, 0), (8, .ireturn, 1, 0)]
noncomputable def am_m8018 : am_M := (8018, ("abort", "(LBranchedSource;)I"), method_19_code, 2, (some .int), [(0, 4, 5, 17)], [(0, 4, 5, 1, 1, 1)], am_t8018_0)
noncomputable def am_t8019_0 : List am_I := [
  (0, .sipush 0, 1, 0), (1, .istore 3, 1, 0), (2, .aload 0, 1, 0), (3, .iload 1, 1, 0), (4, .iload 2, 1, 0), (5, .invokeinterface 6020 2, 3, 67), (8, .istore 3, 1, 0), (9, .goto 17, 3, 0), (14, .sipush (-102), 2, 0), (16, .ireturn, 1, 0), 
  (17, .iload 3, 1, 0), (18, .ifCond .eq 25, 3, 0), (21, .sipush 1, 1, 0), (22, .goto 26, 3, 0), (25, .sipush 0, 1, 0), (26, .ireturn, 1, 0)]
noncomputable def am_m8019 : am_M := (8019, ("isConflict", "(LBranchedSource;II)I"), method_20_code, 5, (some .int), [(2, 9, 12, 15)], [(2, 9, 12, 0, 4, 2)], am_t8019_0)
noncomputable def am_t8020_0 : List am_I := [
  (0, .aload 0, 1, 0), (1, .iload 1, 1, 0), (2, .iload 2, 1, 0), (3, .invokeinterface 6021 2, 3, 71), (6, .ireturn, 1, 0), (8, .sipush (-102), 2, 0), (10, .ireturn, 1, 0), (12, .sipush (-103), 2, 0), (14, .ireturn, 1, 0)]
noncomputable def am_m8020 : am_M := (8020, ("theirs", "(LBranchedSource;II)I"), method_21_code, 4, (some .int), [(0, 6, 7, 15), (0, 6, 11, 17)], [(0, 6, 7, 0, 3, 1), (0, 6, 11, 1, 3, 1)], am_t8020_0)
noncomputable def am_t8021_0 : List am_I := [
  (0, .aload 0, 1, 0), (1, .iload 1, 1, 0), (2, .iload 2, 1, 0), (3, .invokeinterface 6027 2, 3, 75), (6, .ireturn, 1, 0), (8, .sipush (-102), 2, 0), (10, .ireturn, 1, 0)]
noncomputable def am_m8021 : am_M := (8021, ("lineOf", "(LBranchedSource;II)I"), method_22_code, 4, (some .int), [(0, 6, 7, 15)], [(0, 6, 7, 0, 3, 1)], am_t8021_0)
noncomputable def am_t8022_0 : List am_I := [
  (0, .aload 0, 1, 0), (1, .iload 1, 1, 0), (2, .iload 2, 1, 0), (3, .iload 3, 1, 0), (4, .invokeinterface 6030 3, 3, 81), (7, .ireturn, 1, 0), (10, .sipush (-102), 2, 0), (12, .ireturn, 1, 0)]
noncomputable def am_m8022 : am_M := (8022, ("lineAt", "(LBranchedSource;III)I"), method_24_code, 5, (some .int), [(0, 7, 8, 15)], [(0, 7, 8, 0, 4, 2)], am_t8022_0)
noncomputable def am_t8023_0 : List am_I := [
  (0, .sipush 0, 1, 0), (1, .istore 2, 1, 0), (2, .aload 0, 1, 0), (3, .iload 1, 1, 0), (4, .invokeinterface 6039 1, 3, 91), (7, .istore 2, 1, 0), (8, .goto 15, 3, 0), (12, .sipush (-102), 2, 0), (14, .ireturn, 1, 0), (15, .iload 2, 1, 0), 
  (16, .ifCond .eq 23, 3, 0), (19, .sipush 1, 1, 0), (20, .goto 24, 3, 0), (23, .sipush 0, 1, 0), (24, .ireturn, 1, 0)]
noncomputable def am_m8023 : am_M := (8023, ("isBranch", "(LBranchedSource;I)I"), method_27_code, 4, (some .int), [(2, 8, 11, 15)], [(2, 8, 11, 0, 3, 1)], am_t8023_0)
noncomputable def am_t8024_0 : List am_I := [
  (0, .aload 0, 1, 0), (1, .iload 1, 1, 0), (2, .invokeinterface 6040 1, 3, 95), (5, .ireturn, 1, 0), (7, .sipush (-102), 2, 0), (9, .ireturn, 1, 0), (11, .sipush (-103), 2, 0), (13, .ireturn, 1, 0)]
noncomputable def am_m8024 : am_M := (8024, ("standsAt", "(LBranchedSource;I)I"), method_28_code, 3, (some .int), [(0, 5, 6, 15), (0, 5, 10, 17)], [(0, 5, 6, 0, 2, 1), (0, 5, 10, 1, 2, 1)], am_t8024_0)
noncomputable def am_t8025_0 : List am_I := [
  (0, .aload 0, 1, 0), (1, .iload 1, 1, 0), (2, .iload 2, 1, 0), (3, .invokeinterface 6047 2, 3, 101), (6, .ireturn, 1, 0), (8, .sipush (-102), 2, 0), (10, .ireturn, 1, 0)]
noncomputable def am_m8025 : am_M := (8025, ("historyAt", "(LBranchedSource;II)I"), method_30_code, 4, (some .int), [(0, 6, 7, 15)], [(0, 6, 7, 0, 3, 1)], am_t8025_0)
noncomputable def am_t8026_0 : List am_I := [
  (0, .aload 0, 1, 0), (1, .iload 1, 1, 0), (2, .invokeinterface 6053 1, 3, 104), (5, .ireturn, 1, 0), (7, .sipush (-102), 2, 0), (9, .ireturn, 1, 0), (11, .sipush (-103), 2, 0), (13, .ireturn, 1, 0)]
noncomputable def am_m8026 : am_M := (8026, ("wouldConflict", "(LBranchedSource;I)I"), method_31_code, 3, (some .int), [(0, 5, 6, 15), (0, 5, 10, 17)], [(0, 5, 6, 0, 2, 1), (0, 5, 10, 1, 2, 1)], am_t8026_0)
noncomputable def am_t8027_0 : List am_I := [
  (0, .aload 0, 1, 0), (1, .invokeinterface 6057 0, 3, 110), (4, .ireturn, 1, 0), (6, .sipush (-103), 2, 0), (8, .ireturn, 1, 0)]
noncomputable def am_m8027 : am_M := (8027, ("goBack", "(LBranchedSource;)I"), method_33_code, 2, (some .int), [(0, 4, 5, 17)], [(0, 4, 5, 1, 1, 1)], am_t8027_0)
noncomputable def am_t8028_0 : List am_I := [
  (0, .aload 0, 1, 0), (1, .invokeinterface 6058 0, 3, 113), (4, .ireturn, 1, 0), (6, .sipush (-103), 2, 0), (8, .ireturn, 1, 0)]
noncomputable def am_m8028 : am_M := (8028, ("undo", "(LBranchedSource;)I"), method_34_code, 2, (some .int), [(0, 4, 5, 17)], [(0, 4, 5, 1, 1, 1)], am_t8028_0)
noncomputable def am_t8029_0 : List am_I := [
  (0, .aload 0, 1, 0), (1, .iload 1, 1, 0), (2, .iload 2, 1, 0), (3, .invokeinterface 6031 2, 3, 116), (6, .ireturn, 1, 0), (8, .sipush (-102), 2, 0), (10, .ireturn, 1, 0)]
noncomputable def am_m8029 : am_M := (8029, ("differences", "(LBranchedSource;II)I"), method_35_code, 4, (some .int), [(0, 6, 7, 15)], [(0, 6, 7, 0, 3, 1)], am_t8029_0)
noncomputable def am_t8030_0 : List am_I := [
  (0, .aload 0, 1, 0), (1, .iload 1, 1, 0), (2, .iload 2, 1, 0), (3, .invokeinterface 6048 2, 3, 119), (6, .ireturn, 1, 0), (8, .sipush (-102), 2, 0), (10, .ireturn, 1, 0)]
noncomputable def am_m8030 : am_M := (8030, ("distance", "(LBranchedSource;II)I"), method_36_code, 4, (some .int), [(0, 6, 7, 15)], [(0, 6, 7, 0, 3, 1)], am_t8030_0)
noncomputable def am_t8031_0 : List am_I := [
  (0, .aload 0, 1, 0), (1, .iload 1, 1, 0), (2, .iload 2, 1, 0), (3, .invokeinterface 6050 2, 3, 122), (6, .ireturn, 1, 0), (8, .sipush (-102), 2, 0), (10, .ireturn, 1, 0)]
noncomputable def am_m8031 : am_M := (8031, ("base", "(LBranchedSource;II)I"), method_37_code, 4, (some .int), [(0, 6, 7, 15)], [(0, 6, 7, 0, 3, 1)], am_t8031_0)
noncomputable def am_t8032_0 : List am_I := [
  (0, .aload 0, 1, 0), (1, .iload 1, 1, 0), (2, .invokeinterface 6046 1, 3, 137), (5, .ireturn, 1, 0), (7, .sipush (-102), 2, 0), (9, .ireturn, 1, 0)]
noncomputable def am_m8032 : am_M := (8032, ("history", "(LBranchedSource;I)I"), method_42_code, 3, (some .int), [(0, 5, 6, 15)], [(0, 5, 6, 0, 2, 1)], am_t8032_0)
noncomputable def am_t8033_0 : List am_I := [
  (0, .aload 0, 1, 0), (1, .iload 1, 1, 0), (2, .invokeinterface 6049 1, 3, 140), (5, .ireturn, 1, 0), (7, .sipush (-102), 2, 0), (9, .ireturn, 1, 0)]
noncomputable def am_m8033 : am_M := (8033, ("depth", "(LBranchedSource;I)I"), method_43_code, 3, (some .int), [(0, 5, 6, 15)], [(0, 5, 6, 0, 2, 1)], am_t8033_0)
noncomputable def am_t8034_0 : List am_I := [
  (0, .ldc_w 31, 3, 143), (3, .ldc_w 31, 3, 143), (6, .ldc_w 31, 3, 143), (9, .ldc_w 31, 3, 143), (12, .ldc_w 709, 3, 145), (15, .aload 0, 1, 0), (16, .invokeinterface 6035 0, 3, 147), (19, .i2l, 1, 0), (20, .ladd, 1, 0), 
  (21, .lmul, 1, 0), (22, .aload 0, 1, 0), (23, .invokeinterface 6041 0, 3, 150), (26, .i2l, 1, 0), (27, .ladd, 1, 0), (28, .lmul, 1, 0), (29, .aload 0, 1, 0), (30, .invokeinterface 6043 0, 3, 153), (33, .i2l, 1, 0), (34, .ladd, 1, 0), 
  (35, .lmul, 1, 0), (36, .aload 0, 1, 0), (37, .invokeinterface 6055 0, 3, 156), (40, .i2l, 1, 0), (41, .ladd, 1, 0), (42, .lmul, 1, 0), (43, .aload 0, 1, 0), (44, .invokeinterface 6025 0, 3, 159), (47, .ifCond .eq 54, 3, 0), 
  (50, .sipush 1, 1, 0), (51, .goto 66, 3, 0), (54, .aload 0, 1, 0), (55, .invokeinterface 6026 0, 3, 163), (58, .ifCond .eq 65, 3, 0), (61, .sipush 2, 1, 0), (62, .goto 66, 3, 0), (65, .sipush 0, 1, 0), (66, .i2l, 1, 0), 
  (67, .ladd, 1, 0), (68, .lstore 1, 1, 0), (69, .sipush 0, 1, 0), (70, .istore 3, 1, 0), (71, .iload 3, 1, 0), (72, .sipush 24, 2, 0), (74, .if_icmp .ge 121, 3, 0), (77, .ldc_w 31, 3, 143), (80, .ldc_w 31, 3, 143), (83, .lload 1, 1, 0), 
  (84, .lmul, 1, 0), (85, .aload 0, 1, 0), (86, .iload 3, 1, 0), (87, .sipush 6, 2, 0), (89, .idiv, 1, 0), (90, .iload 3, 1, 0), (91, .sipush 6, 2, 0), (93, .irem, 1, 0), (94, .invokeinterface 6027 2, 3, 75), (97, .i2l, 1, 0), 
  (98, .ladd, 1, 0), (99, .lmul, 1, 0), (100, .aload 0, 1, 0), (101, .iload 3, 1, 0), (102, .sipush 6, 2, 0), (104, .idiv, 1, 0), (105, .iload 3, 1, 0), (106, .sipush 6, 2, 0), (108, .irem, 1, 0), (109, .multianewarray 8020 3, 3, 166), 
  (112, .i2l, 1, 0), (113, .ladd, 1, 0), (114, .lstore 1, 1, 0), (115, .iinc 3 1, 3, 0), (118, .goto 71, 3, 0), (121, .sipush 0, 1, 0), (122, .istore 3, 1, 0), (123, .iload 3, 1, 0), (124, .sipush 6, 2, 0), (126, .if_icmp .ge 148, 3, 0), 
  (129, .ldc_w 31, 3, 143), (132, .lload 1, 1, 0), (133, .lmul, 1, 0), (134, .aload 0, 1, 0), (135, .iload 3, 1, 0), (136, .multianewarray 8024 2, 3, 171), (139, .i2l, 1, 0), (140, .ladd, 1, 0), (141, .lstore 1, 1, 0), (142, .iinc 3 1, 3, 0), 
  (145, .goto 123, 3, 0), (148, .sipush 0, 1, 0), (149, .istore 3, 1, 0), (150, .iload 3, 1, 0), (151, .aload 0, 1, 0), (152, .invokeinterface 6035 0, 3, 147), (155, .if_icmp .ge 188, 3, 0), (158, .ldc_w 31, 3, 143), (161, .ldc_w 31, 3, 143), 
  (164, .lload 1, 1, 0), (165, .lmul, 1, 0), (166, .aload 0, 1, 0), (167, .iload 3, 1, 0)]
noncomputable def am_t8034_1 : List am_I := [
  (168, .invokeinterface 6036 1, 3, 131), (171, .i2l, 1, 0), (172, .ladd, 1, 0), (173, .lmul, 1, 0), (174, .aload 0, 1, 0), (175, .iload 3, 1, 0), (176, .invokeinterface 6037 1, 3, 134), (179, .i2l, 1, 0), (180, .ladd, 1, 0), 
  (181, .lstore 1, 1, 0), (182, .iinc 3 1, 3, 0), (185, .goto 150, 3, 0), (188, .sipush 0, 1, 0), (189, .istore 3, 1, 0), (190, .iload 3, 1, 0), (191, .sipush 24, 2, 0), (193, .if_icmp .ge 228, 3, 0), (196, .ldc_w 31, 3, 143), 
  (199, .lload 1, 1, 0), (200, .lmul, 1, 0), (201, .aload 0, 1, 0), (202, .aload 0, 1, 0), (203, .invokeinterface 6035 0, 3, 147), (206, .sipush 1, 1, 0), (207, .isub, 1, 0), (208, .iload 3, 1, 0), (209, .sipush 6, 2, 0), 
  (211, .idiv, 1, 0), (212, .iload 3, 1, 0), (213, .sipush 6, 2, 0), (215, .irem, 1, 0), (216, .invokeinterface 6030 3, 3, 81), (219, .i2l, 1, 0), (220, .ladd, 1, 0), (221, .lstore 1, 1, 0), (222, .iinc 3 1, 3, 0), (225, .goto 190, 3, 0), 
  (228, .lload 1, 1, 0), (229, .lreturn, 1, 0)]
noncomputable def am_m8034 : am_M := (8034, ("look", "(LBranchedSource;)J"), method_44_code, 4, (some .long), [], [], am_t8034_0 ++ (am_t8034_1))
noncomputable def am_t8035_0 : List am_I := [
  (0, .lconst 1, 1, 0), (1, .iload 1, 1, 0), (2, .lshl, 1, 0), (3, .lstore 2, 1, 0), (4, .iload 1, 1, 0), (5, .istore 4, 2, 0), (7, .iload 4, 2, 0), (9, .ifCond .le 65, 3, 0), (12, .lload 2, 1, 0), (13, .iload 4, 2, 0), (15, .lshr, 1, 0), 
  (16, .lconst 1, 1, 0), (17, .land, 1, 0), (18, .lconst 1, 1, 0), (19, .lcmp, 1, 0), (20, .ifCond .ne 59, 3, 0), (23, .lload 2, 1, 0), (24, .lconst 1, 1, 0), (25, .aload 0, 1, 0), (26, .iload 4, 2, 0), (28, .invokeinterface 6036 1, 3, 131), 
  (31, .lshl, 1, 0), (32, .lor, 1, 0), (33, .lstore 2, 1, 0), (34, .lload 2, 1, 0), (35, .aload 0, 1, 0), (36, .iload 4, 2, 0), (38, .invokeinterface 6037 1, 3, 134), (41, .sipush (-1), 1, 0), (42, .if_icmp .ne 49, 3, 0), 
  (45, .lconst 0, 1, 0), (46, .goto 57, 3, 0), (49, .lconst 1, 1, 0), (50, .aload 0, 1, 0), (51, .iload 4, 2, 0), (53, .invokeinterface 6037 1, 3, 134), (56, .lshl, 1, 0), (57, .lor, 1, 0), (58, .lstore 2, 1, 0), (59, .iinc 4 (-1), 3, 0), 
  (62, .goto 7, 3, 0), (65, .lload 2, 1, 0), (66, .lreturn, 1, 0)]
noncomputable def am_m8035 : am_M := (8035, ("all", "(LBranchedSource;I)J"), method_45_code, 5, (some .long), [], [], am_t8035_0)
noncomputable def am_t8036_0 : List am_I := [
  (0, .sipush 0, 1, 0), (1, .istore 2, 1, 0), (2, .sipush 0, 1, 0), (3, .istore 3, 1, 0), (4, .iload 3, 1, 0), (5, .sipush 60, 2, 0), (7, .if_icmp .ge 25, 3, 0), (10, .iload 2, 1, 0), (11, .lload 0, 1, 0), (12, .iload 3, 1, 0), 
  (13, .lshr, 1, 0), (14, .lconst 1, 1, 0), (15, .land, 1, 0), (16, .l2i, 1, 0), (17, .iadd, 1, 0), (18, .istore 2, 1, 0), (19, .iinc 3 1, 3, 0), (22, .goto 4, 3, 0), (25, .iload 2, 1, 0), (26, .ireturn, 1, 0)]
noncomputable def am_m8036 : am_M := (8036, ("many", "(J)I"), method_46_code, 4, (some .int), [], [], am_t8036_0)
noncomputable def am_t8037_0 : List am_I := [
  (0, .sipush (-1), 1, 0), (1, .istore 2, 1, 0), (2, .sipush 0, 1, 0), (3, .istore 3, 1, 0), (4, .iload 3, 1, 0), (5, .sipush 60, 2, 0), (7, .if_icmp .ge 32, 3, 0), (10, .lload 0, 1, 0), (11, .iload 3, 1, 0), (12, .lshr, 1, 0), 
  (13, .lconst 1, 1, 0), (14, .land, 1, 0), (15, .lconst 1, 1, 0), (16, .lcmp, 1, 0), (17, .ifCond .ne 24, 3, 0), (20, .iload 3, 1, 0), (21, .goto 25, 3, 0), (24, .iload 2, 1, 0), (25, .istore 2, 1, 0), (26, .iinc 3 1, 3, 0), 
  (29, .goto 4, 3, 0), (32, .iload 2, 1, 0), (33, .ireturn, 1, 0)]
noncomputable def am_m8037 : am_M := (8037, ("top", "(J)I"), method_47_code, 4, (some .int), [], [], am_t8037_0)
noncomputable def am_t8038_0 : List am_I := [
  (0, .iload 1, 1, 0), (1, .aload 0, 1, 0), (2, .invokeinterface 6035 0, 3, 147), (5, .multianewarray 8002 2, 3, 174), (8, .istore 2, 1, 0), (9, .iload 1, 1, 0), (10, .sipush 6, 2, 0), (12, .ishr, 1, 0), (13, .aload 0, 1, 0), 
  (14, .invokeinterface 6035 0, 3, 147), (17, .multianewarray 8002 2, 3, 174), (20, .istore 3, 1, 0), (21, .iload 1, 1, 0), (22, .sipush 11, 2, 0), (24, .ishr, 1, 0), (25, .sipush 24, 2, 0), (27, .multianewarray 8002 2, 3, 174), 
  (30, .istore 4, 2, 0), (32, .aload 0, 1, 0), (33, .iload 2, 1, 0), (34, .multianewarray 8035 2, 3, 177), (37, .lstore 5, 2, 0), (39, .lload 5, 2, 0), (41, .aload 0, 1, 0), (42, .iload 3, 1, 0), (43, .multianewarray 8035 2, 3, 177), 
  (46, .land, 1, 0), (47, .lstore 7, 2, 0), (49, .aload 0, 1, 0), (50, .iload 2, 1, 0), (51, .iload 4, 2, 0), (53, .sipush 6, 2, 0), (55, .idiv, 1, 0), (56, .iload 4, 2, 0), (58, .sipush 6, 2, 0), (60, .irem, 1, 0), (61, .invokeinterface 6030 3, 3, 81), 
  (64, .istore 9, 2, 0), (66, .sipush (-1), 1, 0), (67, .istore 10, 2, 0), (69, .sipush 0, 1, 0), (70, .istore 11, 2, 0), (72, .aload 0, 1, 0), (73, .aload 0, 1, 0), (74, .invokeinterface 6035 0, 3, 147), (77, .multianewarray 8032 2, 3, 181), 
  (80, .sipush (-102), 2, 0), (82, .if_icmp .ne 158, 3, 0), (85, .aload 0, 1, 0), (86, .sipush (-1), 1, 0), (87, .multianewarray 8033 2, 3, 183), (90, .sipush (-102), 2, 0), (92, .if_icmp .ne 158, 3, 0), (95, .aload 0, 1, 0), 
  (96, .sipush 0, 1, 0), (97, .aload 0, 1, 0), (98, .invokeinterface 6035 0, 3, 147), (101, .multianewarray 8031 3, 3, 185), (104, .sipush (-102), 2, 0), (106, .if_icmp .ne 158, 3, 0), (109, .aload 0, 1, 0), (110, .sipush (-1), 1, 0), 
  (111, .sipush 0, 1, 0), (112, .multianewarray 8030 3, 3, 187), (115, .sipush (-102), 2, 0), (117, .if_icmp .ne 158, 3, 0), (120, .aload 0, 1, 0), (121, .sipush 0, 1, 0), (122, .sipush 4, 1, 0), (123, .sipush 0, 1, 0), (124, .multianewarray 8022 4, 3, 189), 
  (127, .sipush (-102), 2, 0), (129, .if_icmp .ne 158, 3, 0), (132, .aload 0, 1, 0), (133, .sipush 0, 1, 0), (134, .sipush (-1), 1, 0), (135, .multianewarray 8029 3, 3, 192), (138, .sipush (-102), 2, 0), (140, .if_icmp .ne 158, 3, 0), 
  (143, .aload 0, 1, 0), (144, .sipush 0, 1, 0), (145, .sipush (-1), 1, 0), (146, .multianewarray 8025 3, 3, 194), (149, .sipush (-102), 2, 0), (151, .if_icmp .ne 158, 3, 0), (154, .sipush 1, 1, 0), (155, .goto 159, 3, 0), 
  (158, .sipush 0, 1, 0), (159, .istore 12, 2, 0), (161, .aload 0, 1, 0), (162, .invokeinterface 6035 0, 3, 147), (165, .sipush 1, 1, 0), (166, .isub, 1, 0), (167, .istore 13, 2, 0), (169, .iload 13, 2, 0), (171, .ifCond .lt 319, 3, 0), 
  (174, .iload 12, 2, 0), (176, .ifCond .eq 319, 3, 0), (179, .lload 5, 2, 0), (181, .iload 13, 2, 0)]
noncomputable def am_t8038_1 : List am_I := [
  (183, .lshr, 1, 0), (184, .lconst 1, 1, 0), (185, .land, 1, 0), (186, .lconst 1, 1, 0), (187, .lcmp, 1, 0), (188, .ifCond .ne 195, 3, 0), (191, .sipush 1, 1, 0), (192, .goto 196, 3, 0), (195, .sipush 0, 1, 0), (196, .istore 14, 2, 0), 
  (198, .iload 14, 2, 0), (200, .ifCond .eq 229, 3, 0), (203, .aload 0, 1, 0), (204, .iload 13, 2, 0), (206, .iload 4, 2, 0), (208, .sipush 6, 2, 0), (210, .idiv, 1, 0), (211, .iload 4, 2, 0), (213, .sipush 6, 2, 0), (215, .irem, 1, 0), 
  (216, .invokeinterface 6030 3, 3, 81), (219, .iload 9, 2, 0), (221, .if_icmp .ne 229, 3, 0), (224, .iload 13, 2, 0), (226, .goto 231, 3, 0), (229, .iload 10, 2, 0), (231, .istore 10, 2, 0), (233, .aload 0, 1, 0), (234, .iload 2, 1, 0), 
  (235, .iload 13, 2, 0), (237, .invokeinterface 6045 2, 3, 98), (240, .iload 14, 2, 0), (242, .if_icmp .ne 295, 3, 0), (245, .iload 14, 2, 0), (247, .ifCond .eq 262, 3, 0), (250, .aload 0, 1, 0), (251, .iload 2, 1, 0), (252, .iload 11, 2, 0), 
  (254, .invokeinterface 6047 2, 3, 101), (257, .iload 13, 2, 0), (259, .if_icmp .ne 295, 3, 0), (262, .aload 0, 1, 0), (263, .iload 2, 1, 0), (264, .iload 13, 2, 0), (266, .invokeinterface 6048 2, 3, 119), (269, .sipush (-1), 1, 0), 
  (270, .if_icmp .ne 277, 3, 0), (273, .sipush 1, 1, 0), (274, .goto 278, 3, 0), (277, .sipush 0, 1, 0), (278, .iload 14, 2, 0), (280, .ifCond .ne 287, 3, 0), (283, .sipush 1, 1, 0), (284, .goto 288, 3, 0), (287, .sipush 0, 1, 0), 
  (288, .if_icmp .ne 295, 3, 0), (291, .sipush 1, 1, 0), (292, .goto 296, 3, 0), (295, .sipush 0, 1, 0), (296, .istore 12, 2, 0), (298, .iload 11, 2, 0), (300, .iload 14, 2, 0), (302, .ifCond .eq 309, 3, 0), (305, .sipush 1, 1, 0), 
  (306, .goto 310, 3, 0), (309, .sipush 0, 1, 0), (310, .iadd, 1, 0), (311, .istore 11, 2, 0), (313, .iinc 13 (-1), 3, 0), (316, .goto 169, 3, 0), (319, .aload 0, 1, 0), (320, .iload 2, 1, 0), (321, .iload 4, 2, 0), (323, .sipush 6, 2, 0), 
  (325, .idiv, 1, 0), (326, .iload 4, 2, 0), (328, .sipush 6, 2, 0), (330, .irem, 1, 0), (331, .invokeinterface 6032 3, 3, 84), (334, .istore 13, 2, 0), (336, .aload 0, 1, 0), (337, .iload 13, 2, 0), (339, .invokeinterface 6036 1, 3, 131), 
  (342, .istore 14, 2, 0), (344, .aload 0, 1, 0), (345, .iload 13, 2, 0), (347, .invokeinterface 6037 1, 3, 134), (350, .istore 15, 2, 0), (352, .sipush 0, 1, 0), (353, .istore 16, 2, 0), (355, .sipush 0, 1, 0), (356, .istore 17, 2, 0), 
  (358, .iload 17, 2, 0), (360, .sipush 24, 2, 0), (362, .if_icmp .ge 414, 3, 0), (365, .iload 16, 2, 0), (367, .aload 0, 1, 0), (368, .iload 2, 1, 0), (369, .iload 17, 2, 0), (371, .sipush 6, 2, 0)]
noncomputable def am_t8038_2 : List am_I := [
  (373, .idiv, 1, 0), (374, .iload 17, 2, 0), (376, .sipush 6, 2, 0), (378, .irem, 1, 0), (379, .invokeinterface 6030 3, 3, 81), (382, .aload 0, 1, 0), (383, .iload 3, 1, 0), (384, .iload 17, 2, 0), (386, .sipush 6, 2, 0), 
  (388, .idiv, 1, 0), (389, .iload 17, 2, 0), (391, .sipush 6, 2, 0), (393, .irem, 1, 0), (394, .invokeinterface 6030 3, 3, 81), (397, .if_icmp .ne 404, 3, 0), (400, .sipush 0, 1, 0), (401, .goto 405, 3, 0), (404, .sipush 1, 1, 0), 
  (405, .iadd, 1, 0), (406, .istore 16, 2, 0), (408, .iinc 17 1, 3, 0), (411, .goto 358, 3, 0), (414, .iload 12, 2, 0), (416, .ifCond .eq 616, 3, 0), (419, .aload 0, 1, 0), (420, .iload 2, 1, 0), (421, .invokeinterface 6046 1, 3, 137), 
  (424, .iload 11, 2, 0), (426, .if_icmp .ne 616, 3, 0), (429, .aload 0, 1, 0), (430, .iload 2, 1, 0), (431, .iload 11, 2, 0), (433, .multianewarray 8025 3, 3, 194), (436, .sipush (-1), 1, 0), (437, .if_icmp .ne 616, 3, 0), 
  (440, .aload 0, 1, 0), (441, .iload 2, 1, 0), (442, .iload 3, 1, 0), (443, .invokeinterface 6050 2, 3, 122), (446, .lload 7, 2, 0), (448, .multianewarray 8037 1, 3, 196), (451, .if_icmp .ne 616, 3, 0), (454, .aload 0, 1, 0), 
  (455, .iload 2, 1, 0), (456, .iload 3, 1, 0), (457, .invokeinterface 6051 2, 3, 125), (460, .lload 7, 2, 0), (462, .multianewarray 8037 1, 3, 196), (465, .if_icmp .ne 616, 3, 0), (468, .aload 0, 1, 0), (469, .iload 2, 1, 0), 
  (470, .iload 3, 1, 0), (471, .invokeinterface 6052 2, 3, 128), (474, .sipush 1, 1, 0), (475, .if_icmp .lt 616, 3, 0), (478, .aload 0, 1, 0), (479, .iload 2, 1, 0), (480, .iload 3, 1, 0), (481, .invokeinterface 6052 2, 3, 128), 
  (484, .lload 7, 2, 0), (486, .multianewarray 8036 1, 3, 200), (489, .if_icmp .gt 616, 3, 0), (492, .aload 0, 1, 0), (493, .iload 2, 1, 0), (494, .iload 4, 2, 0), (496, .sipush 6, 2, 0), (498, .idiv, 1, 0), (499, .iload 4, 2, 0), 
  (501, .sipush 6, 2, 0), (503, .irem, 1, 0), (504, .iload 9, 2, 0), (506, .invokeinterface 6033 4, 3, 87), (509, .iload 10, 2, 0), (511, .if_icmp .ne 616, 3, 0), (514, .lload 5, 2, 0), (516, .iload 13, 2, 0), (518, .lshr, 1, 0), 
  (519, .lconst 1, 1, 0), (520, .land, 1, 0), (521, .lconst 1, 1, 0), (522, .lcmp, 1, 0), (523, .ifCond .ne 616, 3, 0), (526, .aload 0, 1, 0), (527, .iload 13, 2, 0), (529, .iload 4, 2, 0), (531, .sipush 6, 2, 0), (533, .idiv, 1, 0), 
  (534, .iload 4, 2, 0), (536, .sipush 6, 2, 0), (538, .irem, 1, 0), (539, .invokeinterface 6030 3, 3, 81), (542, .iload 9, 2, 0), (544, .if_icmp .ne 616, 3, 0), (547, .iload 14, 2, 0), (549, .sipush (-1), 1, 0), (550, .if_icmp .eq 574, 3, 0), 
  (553, .aload 0, 1, 0), (554, .iload 14, 2, 0), (556, .iload 4, 2, 0), (558, .sipush 6, 2, 0)]
noncomputable def am_t8038_3 : List am_I := [
  (560, .idiv, 1, 0), (561, .iload 4, 2, 0), (563, .sipush 6, 2, 0), (565, .irem, 1, 0), (566, .invokeinterface 6030 3, 3, 81), (569, .iload 9, 2, 0), (571, .if_icmp .eq 616, 3, 0), (574, .iload 15, 2, 0), (576, .sipush (-1), 1, 0), 
  (577, .if_icmp .eq 601, 3, 0), (580, .aload 0, 1, 0), (581, .iload 15, 2, 0), (583, .iload 4, 2, 0), (585, .sipush 6, 2, 0), (587, .idiv, 1, 0), (588, .iload 4, 2, 0), (590, .sipush 6, 2, 0), (592, .irem, 1, 0), (593, .invokeinterface 6030 3, 3, 81), 
  (596, .iload 9, 2, 0), (598, .if_icmp .eq 616, 3, 0), (601, .aload 0, 1, 0), (602, .iload 2, 1, 0), (603, .iload 3, 1, 0), (604, .invokeinterface 6031 2, 3, 116), (607, .iload 16, 2, 0), (609, .if_icmp .ne 616, 3, 0), (612, .sipush 1, 1, 0), 
  (613, .goto 617, 3, 0), (616, .sipush 0, 1, 0), (617, .istore 12, 2, 0), (619, .aload 0, 1, 0), (620, .iload 2, 1, 0), (621, .invokeinterface 6036 1, 3, 131), (624, .istore 17, 2, 0), (626, .aload 0, 1, 0), (627, .iload 2, 1, 0), 
  (628, .invokeinterface 6037 1, 3, 134), (631, .istore 18, 2, 0), (633, .iload 17, 2, 0), (635, .sipush (-1), 1, 0), (636, .if_icmp .ne 643, 3, 0), (639, .sipush 0, 1, 0), (640, .goto 651, 3, 0), (643, .sipush 1, 1, 0), 
  (644, .aload 0, 1, 0), (645, .iload 17, 2, 0), (647, .invokeinterface 6049 1, 3, 140), (650, .iadd, 1, 0), (651, .istore 19, 2, 0), (653, .iload 17, 2, 0), (655, .sipush (-1), 1, 0), (656, .if_icmp .ne 663, 3, 0), (659, .sipush 0, 1, 0), 
  (660, .goto 672, 3, 0), (663, .sipush 1, 1, 0), (664, .aload 0, 1, 0), (665, .iload 17, 2, 0), (667, .sipush 0, 1, 0), (668, .invokeinterface 6048 2, 3, 119), (671, .iadd, 1, 0), (672, .istore 20, 2, 0), (674, .iload 18, 2, 0), 
  (676, .sipush (-1), 1, 0), (677, .if_icmp .eq 704, 3, 0), (680, .aload 0, 1, 0), (681, .iload 18, 2, 0), (683, .invokeinterface 6049 1, 3, 140), (686, .sipush 1, 1, 0), (687, .iadd, 1, 0), (688, .iload 19, 2, 0), (690, .if_icmp .le 704, 3, 0), 
  (693, .aload 0, 1, 0), (694, .iload 18, 2, 0), (696, .invokeinterface 6049 1, 3, 140), (699, .sipush 1, 1, 0), (700, .iadd, 1, 0), (701, .goto 706, 3, 0), (704, .iload 19, 2, 0), (706, .istore 19, 2, 0), (708, .iload 18, 2, 0), 
  (710, .sipush (-1), 1, 0), (711, .if_icmp .eq 740, 3, 0), (714, .aload 0, 1, 0), (715, .iload 18, 2, 0), (717, .sipush 0, 1, 0), (718, .invokeinterface 6048 2, 3, 119), (721, .sipush 1, 1, 0), (722, .iadd, 1, 0), (723, .iload 20, 2, 0), 
  (725, .if_icmp .ge 740, 3, 0), (728, .aload 0, 1, 0), (729, .iload 18, 2, 0), (731, .sipush 0, 1, 0), (732, .invokeinterface 6048 2, 3, 119), (735, .sipush 1, 1, 0), (736, .iadd, 1, 0), (737, .goto 742, 3, 0), (740, .iload 20, 2, 0), 
  (742, .istore 20, 2, 0)]
noncomputable def am_t8038_4 : List am_I := [
  (744, .iload 12, 2, 0), (746, .ifCond .eq 783, 3, 0), (749, .aload 0, 1, 0), (750, .iload 2, 1, 0), (751, .invokeinterface 6049 1, 3, 140), (754, .iload 19, 2, 0), (756, .if_icmp .ne 783, 3, 0), (759, .aload 0, 1, 0), (760, .iload 2, 1, 0), 
  (761, .sipush 0, 1, 0), (762, .invokeinterface 6048 2, 3, 119), (765, .iload 20, 2, 0), (767, .if_icmp .ne 783, 3, 0), (770, .aload 0, 1, 0), (771, .iload 2, 1, 0), (772, .iload 2, 1, 0), (773, .invokeinterface 6048 2, 3, 119), 
  (776, .ifCond .ne 783, 3, 0), (779, .sipush 1, 1, 0), (780, .goto 784, 3, 0), (783, .sipush 0, 1, 0), (784, .freturn, 1, 0)]
noncomputable def am_m8038 : am_M := (8038, ("histories", "(LBranchedSource;I)Z"), method_48_code, 21, (some .boolean), [], [], am_t8038_0 ++ (am_t8038_1 ++ (am_t8038_2 ++ (am_t8038_3 ++ (am_t8038_4)))))
noncomputable def am_t8039_0 : List am_I := [
  (0, .sipush 0, 1, 0), (1, .istore 2, 1, 0), (2, .sipush 0, 1, 0), (3, .istore 3, 1, 0), (4, .sipush 0, 1, 0), (5, .istore 4, 2, 0), (7, .sipush 0, 1, 0), (8, .istore 5, 2, 0), (10, .sipush 0, 1, 0), (11, .istore 6, 2, 0), 
  (13, .sipush 0, 1, 0), (14, .istore 7, 2, 0), (16, .aload 0, 1, 0), (17, .invokeinterface 6035 0, 3, 147), (20, .sipush 1, 1, 0), (21, .if_icmp .lt 136, 3, 0), (24, .aload 0, 1, 0), (25, .invokeinterface 6035 0, 3, 147), 
  (28, .sipush 60, 2, 0), (30, .if_icmp .gt 136, 3, 0), (33, .aload 0, 1, 0), (34, .invokeinterface 6043 0, 3, 153), (37, .ifCond .lt 136, 3, 0), (40, .aload 0, 1, 0), (41, .invokeinterface 6043 0, 3, 153), (44, .sipush 3, 1, 0), 
  (45, .if_icmp .gt 136, 3, 0), (48, .aload 0, 1, 0), (49, .aload 0, 1, 0), (50, .invokeinterface 6041 0, 3, 150), (53, .invokeinterface 6039 1, 3, 91), (56, .ifCond .eq 136, 3, 0), (59, .aload 0, 1, 0), (60, .aload 0, 1, 0), 
  (61, .invokeinterface 6041 0, 3, 150), (64, .invokeinterface 6040 1, 3, 95), (67, .aload 0, 1, 0), (68, .invokeinterface 6042 0, 3, 203), (71, .if_icmp .ne 136, 3, 0), (74, .aload 0, 1, 0), (75, .invokeinterface 6025 0, 3, 159), 
  (78, .ifCond .eq 88, 3, 0), (81, .aload 0, 1, 0), (82, .invokeinterface 6026 0, 3, 163), (85, .ifCond .ne 136, 3, 0), (88, .aload 0, 1, 0), (89, .sipush 4, 1, 0), (90, .sipush 0, 1, 0), (91, .multianewarray 8019 3, 3, 206), 
  (94, .sipush (-102), 2, 0), (96, .if_icmp .ne 136, 3, 0), (99, .aload 0, 1, 0), (100, .sipush 0, 1, 0), (101, .sipush 6, 2, 0), (103, .multianewarray 8021 3, 3, 208), (106, .sipush (-102), 2, 0), (108, .if_icmp .ne 136, 3, 0), 
  (111, .aload 0, 1, 0), (112, .sipush 6, 2, 0), (114, .multianewarray 8023 2, 3, 210), (117, .sipush (-102), 2, 0), (119, .if_icmp .ne 136, 3, 0), (122, .aload 0, 1, 0), (123, .sipush (-1), 1, 0), (124, .multianewarray 8026 2, 3, 212), 
  (127, .sipush (-102), 2, 0), (129, .if_icmp .ne 136, 3, 0), (132, .sipush 1, 1, 0), (133, .goto 137, 3, 0), (136, .sipush 0, 1, 0), (137, .istore 8, 2, 0), (139, .sipush 0, 1, 0), (140, .istore 9, 2, 0), (142, .iload 9, 2, 0), 
  (144, .sipush 24, 2, 0), (146, .if_icmp .ge 422, 3, 0), (149, .iload 8, 2, 0), (151, .ifCond .eq 422, 3, 0), (154, .aload 0, 1, 0), (155, .iload 9, 2, 0), (157, .sipush 6, 2, 0), (159, .idiv, 1, 0), (160, .iload 9, 2, 0), 
  (162, .sipush 6, 2, 0), (164, .irem, 1, 0), (165, .invokeinterface 6027 2, 3, 75), (168, .istore 10, 2, 0), (170, .aload 0, 1, 0), (171, .iload 9, 2, 0), (173, .sipush 6, 2, 0), (175, .idiv, 1, 0), (176, .iload 9, 2, 0), 
  (178, .sipush 6, 2, 0), (180, .irem, 1, 0), (181, .multianewarray 8020 3, 3, 166), (184, .istore 11, 2, 0), (186, .iload 10, 2, 0), (188, .aload 0, 1, 0), (189, .aload 0, 1, 0), (190, .invokeinterface 6042 0, 3, 203)]
noncomputable def am_t8039_1 : List am_I := [
  (193, .iload 9, 2, 0), (195, .sipush 6, 2, 0), (197, .idiv, 1, 0), (198, .iload 9, 2, 0), (200, .sipush 6, 2, 0), (202, .irem, 1, 0), (203, .invokeinterface 6030 3, 3, 81), (206, .if_icmp .eq 213, 3, 0), (209, .sipush 1, 1, 0), 
  (210, .goto 214, 3, 0), (213, .sipush 0, 1, 0), (214, .istore 12, 2, 0), (216, .iload 9, 2, 0), (218, .sipush 6, 2, 0), (220, .irem, 1, 0), (221, .ifCond .ne 228, 3, 0), (224, .sipush 0, 1, 0), (225, .goto 230, 3, 0), (228, .iload 6, 2, 0), 
  (230, .istore 6, 2, 0), (232, .iload 4, 2, 0), (234, .iload 11, 2, 0), (236, .sipush (-103), 2, 0), (238, .if_icmp .eq 250, 3, 0), (241, .iload 6, 2, 0), (243, .ifCond .ne 250, 3, 0), (246, .sipush 1, 1, 0), (247, .goto 251, 3, 0), 
  (250, .sipush 0, 1, 0), (251, .iadd, 1, 0), (252, .istore 4, 2, 0), (254, .iload 11, 2, 0), (256, .sipush (-103), 2, 0), (258, .if_icmp .eq 268, 3, 0), (261, .iload 6, 2, 0), (263, .sipush 1, 1, 0), (264, .iadd, 1, 0), 
  (265, .goto 269, 3, 0), (268, .sipush 0, 1, 0), (269, .istore 6, 2, 0), (271, .iload 6, 2, 0), (273, .iload 5, 2, 0), (275, .if_icmp .le 283, 3, 0), (278, .iload 6, 2, 0), (280, .goto 285, 3, 0), (283, .iload 5, 2, 0), 
  (285, .istore 5, 2, 0), (287, .iload 3, 1, 0), (288, .iload 11, 2, 0), (290, .sipush (-103), 2, 0), (292, .if_icmp .eq 299, 3, 0), (295, .sipush 1, 1, 0), (296, .goto 300, 3, 0), (299, .sipush 0, 1, 0), (300, .iadd, 1, 0), 
  (301, .istore 3, 1, 0), (302, .iload 2, 1, 0), (303, .iload 12, 2, 0), (305, .ifCond .eq 312, 3, 0), (308, .sipush 1, 1, 0), (309, .goto 313, 3, 0), (312, .sipush 0, 1, 0), (313, .iadd, 1, 0), (314, .istore 2, 1, 0), (315, .iload 7, 2, 0), 
  (317, .iload 10, 2, 0), (319, .ifCond .eq 326, 3, 0), (322, .sipush 1, 1, 0), (323, .goto 327, 3, 0), (326, .sipush 0, 1, 0), (327, .iadd, 1, 0), (328, .istore 7, 2, 0), (330, .iload 10, 2, 0), (332, .ifCond .lt 413, 3, 0), 
  (335, .iload 10, 2, 0), (337, .sipush 99, 2, 0), (339, .if_icmp .gt 413, 3, 0), (342, .aload 0, 1, 0), (343, .iload 9, 2, 0), (345, .sipush 6, 2, 0), (347, .idiv, 1, 0), (348, .iload 9, 2, 0), (350, .sipush 6, 2, 0), (352, .irem, 1, 0), 
  (353, .invokeinterface 6028 2, 3, 78), (356, .iload 12, 2, 0), (358, .if_icmp .ne 413, 3, 0), (361, .aload 0, 1, 0), (362, .iload 9, 2, 0), (364, .sipush 6, 2, 0), (366, .idiv, 1, 0), (367, .iload 9, 2, 0), (369, .sipush 6, 2, 0), 
  (371, .irem, 1, 0), (372, .invokeinterface 6020 2, 3, 67), (375, .iload 11, 2, 0), (377, .sipush (-103), 2, 0), (379, .if_icmp .eq 386, 3, 0), (382, .sipush 1, 1, 0), (383, .goto 387, 3, 0)]
noncomputable def am_t8039_2 : List am_I := [
  (386, .sipush 0, 1, 0), (387, .if_icmp .ne 413, 3, 0), (390, .iload 11, 2, 0), (392, .sipush (-103), 2, 0), (394, .if_icmp .eq 409, 3, 0), (397, .iload 11, 2, 0), (399, .iload 10, 2, 0), (401, .if_icmp .eq 413, 3, 0), (404, .iload 12, 2, 0), 
  (406, .ifCond .ne 413, 3, 0), (409, .sipush 1, 1, 0), (410, .goto 414, 3, 0), (413, .sipush 0, 1, 0), (414, .istore 8, 2, 0), (416, .iinc 9 1, 3, 0), (419, .goto 142, 3, 0), (422, .lconst 0, 1, 0), (423, .lstore 9, 2, 0), 
  (425, .sipush 0, 1, 0), (426, .istore 11, 2, 0), (428, .sipush 0, 1, 0), (429, .istore 12, 2, 0), (431, .iload 12, 2, 0), (433, .sipush 6, 2, 0), (435, .if_icmp .ge 550, 3, 0), (438, .iload 8, 2, 0), (440, .ifCond .eq 550, 3, 0), 
  (443, .aload 0, 1, 0), (444, .iload 12, 2, 0), (446, .multianewarray 8024 2, 3, 171), (449, .istore 13, 2, 0), (451, .iload 11, 2, 0), (453, .iload 13, 2, 0), (455, .sipush (-103), 2, 0), (457, .if_icmp .ne 464, 3, 0), 
  (460, .sipush 0, 1, 0), (461, .goto 465, 3, 0), (464, .sipush 1, 1, 0), (465, .iadd, 1, 0), (466, .istore 11, 2, 0), (468, .aload 0, 1, 0), (469, .iload 12, 2, 0), (471, .invokeinterface 6039 1, 3, 91), (474, .iload 13, 2, 0), 
  (476, .sipush (-103), 2, 0), (478, .if_icmp .eq 485, 3, 0), (481, .sipush 1, 1, 0), (482, .goto 486, 3, 0), (485, .sipush 0, 1, 0), (486, .if_icmp .ne 514, 3, 0), (489, .iload 13, 2, 0), (491, .sipush (-103), 2, 0), (493, .if_icmp .eq 510, 3, 0), 
  (496, .iload 13, 2, 0), (498, .ifCond .lt 514, 3, 0), (501, .iload 13, 2, 0), (503, .aload 0, 1, 0), (504, .invokeinterface 6035 0, 3, 147), (507, .if_icmp .ge 514, 3, 0), (510, .sipush 1, 1, 0), (511, .goto 515, 3, 0), 
  (514, .sipush 0, 1, 0), (515, .istore 8, 2, 0), (517, .lload 9, 2, 0), (519, .iload 13, 2, 0), (521, .sipush (-103), 2, 0), (523, .if_icmp .eq 531, 3, 0), (526, .iload 8, 2, 0), (528, .ifCond .ne 535, 3, 0), (531, .lconst 0, 1, 0), 
  (532, .goto 541, 3, 0), (535, .aload 0, 1, 0), (536, .iload 13, 2, 0), (538, .multianewarray 8035 2, 3, 177), (541, .lor, 1, 0), (542, .lstore 9, 2, 0), (544, .iinc 12 1, 3, 0), (547, .goto 431, 3, 0), (550, .sipush 0, 1, 0), 
  (551, .istore 12, 2, 0), (553, .sipush 0, 1, 0), (554, .istore 13, 2, 0), (556, .iload 13, 2, 0), (558, .aload 0, 1, 0), (559, .invokeinterface 6035 0, 3, 147), (562, .if_icmp .ge 666, 3, 0), (565, .iload 8, 2, 0), (567, .ifCond .eq 666, 3, 0), 
  (570, .aload 0, 1, 0), (571, .iload 13, 2, 0), (573, .invokeinterface 6036 1, 3, 131), (576, .istore 14, 2, 0), (578, .aload 0, 1, 0), (579, .iload 13, 2, 0), (581, .invokeinterface 6037 1, 3, 134), (584, .istore 15, 2, 0), 
  (586, .iload 12, 2, 0), (588, .iload 15, 2, 0), (590, .sipush (-1), 1, 0), (591, .if_icmp .ne 598, 3, 0)]
noncomputable def am_t8039_3 : List am_I := [
  (594, .sipush 0, 1, 0), (595, .goto 599, 3, 0), (598, .sipush 1, 1, 0), (599, .iadd, 1, 0), (600, .istore 12, 2, 0), (602, .iload 13, 2, 0), (604, .ifCond .ne 627, 3, 0), (607, .iload 14, 2, 0), (609, .sipush (-1), 1, 0), 
  (610, .if_icmp .ne 623, 3, 0), (613, .iload 15, 2, 0), (615, .sipush (-1), 1, 0), (616, .if_icmp .ne 623, 3, 0), (619, .sipush 1, 1, 0), (620, .goto 658, 3, 0), (623, .sipush 0, 1, 0), (624, .goto 658, 3, 0), (627, .iload 14, 2, 0), 
  (629, .ifCond .lt 657, 3, 0), (632, .iload 14, 2, 0), (634, .iload 13, 2, 0), (636, .if_icmp .ge 657, 3, 0), (639, .iload 15, 2, 0), (641, .iload 13, 2, 0), (643, .if_icmp .ge 657, 3, 0), (646, .iload 15, 2, 0), (648, .iload 14, 2, 0), 
  (650, .if_icmp .eq 657, 3, 0), (653, .sipush 1, 1, 0), (654, .goto 658, 3, 0), (657, .sipush 0, 1, 0), (658, .istore 8, 2, 0), (660, .iinc 13 1, 3, 0), (663, .goto 556, 3, 0), (666, .iload 8, 2, 0), (668, .ifCond .eq 785, 3, 0), 
  (671, .iload 2, 1, 0), (672, .aload 0, 1, 0), (673, .invokeinterface 6029 0, 3, 214), (676, .if_icmp .ne 785, 3, 0), (679, .iload 3, 1, 0), (680, .aload 0, 1, 0), (681, .invokeinterface 6022 0, 3, 217), (684, .if_icmp .ne 785, 3, 0), 
  (687, .iload 3, 1, 0), (688, .ifCond .eq 705, 3, 0), (691, .aload 0, 1, 0), (692, .invokeinterface 6025 0, 3, 159), (695, .ifCond .ne 705, 3, 0), (698, .aload 0, 1, 0), (699, .invokeinterface 6026 0, 3, 163), (702, .ifCond .eq 785, 3, 0), 
  (705, .iload 4, 2, 0), (707, .aload 0, 1, 0), (708, .invokeinterface 6023 0, 3, 220), (711, .if_icmp .ne 785, 3, 0), (714, .iload 5, 2, 0), (716, .aload 0, 1, 0), (717, .invokeinterface 6024 0, 3, 223), (720, .if_icmp .ne 785, 3, 0), 
  (723, .aload 0, 1, 0), (724, .invokeinterface 6034 0, 3, 226), (727, .iload 7, 2, 0), (729, .i2d, 1, 0), (730, .ldc2_w 4627448617123184640, 3, 230), (733, .ddiv, 1, 0), (734, .dcmp .l, 1, 0), (735, .ifCond .ne 785, 3, 0), 
  (738, .iload 11, 2, 0), (740, .aload 0, 1, 0), (741, .invokeinterface 6038 0, 3, 232), (744, .if_icmp .ne 785, 3, 0), (747, .aload 0, 1, 0), (748, .invokeinterface 6044 0, 3, 235), (751, .aload 0, 1, 0), (752, .invokeinterface 6035 0, 3, 147), 
  (755, .lload 9, 2, 0), (757, .multianewarray 8036 1, 3, 200), (760, .isub, 1, 0), (761, .if_icmp .ne 785, 3, 0), (764, .iload 12, 2, 0), (766, .aload 0, 1, 0), (767, .invokeinterface 6054 0, 3, 238), (770, .if_icmp .ne 785, 3, 0), 
  (773, .aload 0, 1, 0), (774, .iload 1, 1, 0), (775, .multianewarray 8038 2, 3, 241), (778, .ifCond .eq 785, 3, 0), (781, .sipush 1, 1, 0), (782, .goto 786, 3, 0), (785, .sipush 0, 1, 0), (786, .freturn, 1, 0)]
noncomputable def am_m8039 : am_M := (8039, ("holds", "(LBranchedSource;I)Z"), method_49_code, 16, (some .boolean), [], [], am_t8039_0 ++ (am_t8039_1 ++ (am_t8039_2 ++ (am_t8039_3))))
noncomputable def am_t8040_0 : List am_I := [
  (0, .iload 1, 1, 0), (1, .sipush 10, 2, 0), (3, .if_icmp .lt 20, 3, 0), (6, .aload 0, 1, 0), (7, .sipush 48, 2, 0), (9, .iload 1, 1, 0), (10, .sipush 10, 2, 0), (12, .idiv, 1, 0), (13, .iadd, 1, 0), (14, .multianewarray 8003 2, 3, 245), 
  (17, .ifCond .le 38, 3, 0), (20, .aload 0, 1, 0), (21, .sipush 48, 2, 0), (23, .iload 1, 1, 0), (24, .sipush 10, 2, 0), (26, .irem, 1, 0), (27, .iadd, 1, 0), (28, .multianewarray 8003 2, 3, 245), (31, .ifCond .le 38, 3, 0), 
  (34, .sipush 1, 1, 0), (35, .goto 39, 3, 0), (38, .sipush 0, 1, 0), (39, .freturn, 1, 0)]
noncomputable def am_m8040 : am_M := (8040, ("number", "(LBranchedSource;I)Z"), method_50_code, 2, (some .boolean), [], [], am_t8040_0)
noncomputable def am_t8041_0 : List am_I := [
  (0, .iload 1, 1, 0), (1, .sipush 8, 2, 0), (3, .multianewarray 8002 2, 3, 174), (6, .istore 2, 1, 0), (7, .aload 0, 1, 0), (8, .multianewarray 8034 1, 3, 247), (11, .lstore 3, 1, 0), (12, .aload 0, 1, 0), (13, .invokeinterface 6003 0, 3, 251), 
  (16, .ifCond .lt 23, 3, 0), (19, .sipush 1, 1, 0), (20, .goto 24, 3, 0), (23, .sipush 0, 1, 0), (24, .istore 5, 2, 0), (26, .sipush 0, 1, 0), (27, .istore 6, 2, 0), (29, .iload 6, 2, 0), (31, .iload 2, 1, 0), (32, .if_icmp .ge 453, 3, 0), 
  (35, .iload 5, 2, 0), (37, .ifCond .eq 453, 3, 0), (40, .iload 1, 1, 0), (41, .sipush 1, 1, 0), (42, .sipush 2, 1, 0), (43, .iload 6, 2, 0), (45, .imul, 1, 0), (46, .iadd, 1, 0), (47, .ishr, 1, 0), (48, .istore 7, 2, 0), 
  (50, .iload 7, 2, 0), (52, .sipush 20, 2, 0), (54, .multianewarray 8002 2, 3, 174), (57, .istore 8, 2, 0), (59, .iload 1, 1, 0), (60, .sipush 22, 2, 0), (62, .ishr, 1, 0), (63, .sipush 9, 2, 0), (65, .multianewarray 8002 2, 3, 174), 
  (68, .ifCond .ne 75, 3, 0), (71, .sipush 1, 1, 0), (72, .goto 76, 3, 0), (75, .sipush 0, 1, 0), (76, .istore 9, 2, 0), (78, .iload 8, 2, 0), (80, .sipush 7, 2, 0), (82, .if_icmp .ge 89, 3, 0), (85, .sipush 0, 1, 0), (86, .goto 158, 3, 0), 
  (89, .iload 8, 2, 0), (91, .sipush 11, 2, 0), (93, .if_icmp .ge 100, 3, 0), (96, .sipush 1, 1, 0), (97, .goto 158, 3, 0), (100, .iload 8, 2, 0), (102, .sipush 13, 2, 0), (104, .if_icmp .ge 111, 3, 0), (107, .sipush 2, 1, 0), 
  (108, .goto 158, 3, 0), (111, .iload 8, 2, 0), (113, .sipush 14, 2, 0), (115, .if_icmp .ge 122, 3, 0), (118, .sipush 3, 1, 0), (119, .goto 158, 3, 0), (122, .iload 8, 2, 0), (124, .sipush 16, 2, 0), (126, .if_icmp .ge 133, 3, 0), 
  (129, .sipush 4, 1, 0), (130, .goto 158, 3, 0), (133, .iload 8, 2, 0), (135, .sipush 18, 2, 0), (137, .if_icmp .ge 144, 3, 0), (140, .sipush 5, 1, 0), (141, .goto 158, 3, 0), (144, .iload 8, 2, 0), (146, .sipush 19, 2, 0), 
  (148, .if_icmp .ge 156, 3, 0), (151, .sipush 6, 2, 0), (153, .goto 158, 3, 0), (156, .sipush 7, 2, 0), (158, .istore 10, 2, 0), (160, .iload 10, 2, 0), (162, .ifCond .ne 255, 3, 0), (165, .aload 0, 1, 0), (166, .sipush 48, 2, 0), 
  (168, .iload 7, 2, 0), (170, .sipush 3, 1, 0), (171, .ishr, 1, 0), (172, .iload 9, 2, 0), (174, .ifCond .eq 181, 3, 0), (177, .sipush 5, 1, 0), (178, .goto 182, 3, 0), (181, .sipush 4, 1, 0), (182, .multianewarray 8002 2, 3, 174), 
  (185, .iadd, 1, 0), (186, .multianewarray 8003 2, 3, 245), (189, .ifCond .le 251, 3, 0), (192, .aload 0, 1, 0), (193, .sipush 46, 2, 0), (195, .multianewarray 8003 2, 3, 245), (198, .ifCond .le 251, 3, 0)]
noncomputable def am_t8041_1 : List am_I := [
  (201, .aload 0, 1, 0), (202, .sipush 48, 2, 0), (204, .iload 7, 2, 0), (206, .sipush 5, 1, 0), (207, .ishr, 1, 0), (208, .sipush 6, 2, 0), (210, .multianewarray 8002 2, 3, 174), (213, .iadd, 1, 0), (214, .multianewarray 8003 2, 3, 245), 
  (217, .ifCond .le 251, 3, 0), (220, .aload 0, 1, 0), (221, .sipush 61, 2, 0), (223, .multianewarray 8003 2, 3, 245), (226, .ifCond .le 251, 3, 0), (229, .aload 0, 1, 0), (230, .iload 7, 2, 0), (232, .sipush 4, 1, 0), (233, .ishr, 1, 0), 
  (234, .sipush 5, 1, 0), (235, .multianewarray 8002 2, 3, 174), (238, .sipush 9, 2, 0), (240, .imul, 1, 0), (241, .multianewarray 8040 2, 3, 254), (244, .ifCond .eq 251, 3, 0), (247, .sipush 1, 1, 0), (248, .goto 336, 3, 0), 
  (251, .sipush 0, 1, 0), (252, .goto 336, 3, 0), (255, .aload 0, 1, 0), (256, .iload 10, 2, 0), (258, .sipush 1, 1, 0), (259, .if_icmp .ne 267, 3, 0), (262, .sipush 99, 2, 0), (264, .goto 325, 3, 0), (267, .iload 10, 2, 0), 
  (269, .sipush 2, 1, 0), (270, .if_icmp .ne 278, 3, 0), (273, .sipush 98, 2, 0), (275, .goto 325, 3, 0), (278, .iload 10, 2, 0), (280, .sipush 3, 1, 0), (281, .if_icmp .ne 289, 3, 0), (284, .sipush 97, 2, 0), (286, .goto 325, 3, 0), 
  (289, .iload 10, 2, 0), (291, .sipush 4, 1, 0), (292, .if_icmp .ne 300, 3, 0), (295, .sipush 115, 2, 0), (297, .goto 325, 3, 0), (300, .iload 10, 2, 0), (302, .sipush 5, 1, 0), (303, .if_icmp .ne 311, 3, 0), (306, .sipush 109, 2, 0), 
  (308, .goto 325, 3, 0), (311, .iload 10, 2, 0), (313, .sipush 6, 2, 0), (315, .if_icmp .ne 323, 3, 0), (318, .sipush 112, 2, 0), (320, .goto 325, 3, 0), (323, .sipush 114, 2, 0), (325, .multianewarray 8003 2, 3, 245), (328, .ifCond .le 335, 3, 0), 
  (331, .sipush 1, 1, 0), (332, .goto 336, 3, 0), (335, .sipush 0, 1, 0), (336, .istore 5, 2, 0), (338, .iload 5, 2, 0), (340, .ifCond .eq 444, 3, 0), (343, .iload 10, 2, 0), (345, .sipush 4, 1, 0), (346, .if_icmp .lt 406, 3, 0), 
  (349, .aload 0, 1, 0), (350, .iload 10, 2, 0), (352, .sipush 6, 2, 0), (354, .if_icmp .ge 379, 3, 0), (357, .iload 7, 2, 0), (359, .sipush 3, 1, 0), (360, .ishr, 1, 0), (361, .iload 9, 2, 0), (363, .ifCond .eq 371, 3, 0), 
  (366, .sipush 7, 2, 0), (368, .goto 373, 3, 0), (371, .sipush 6, 2, 0), (373, .multianewarray 8002 2, 3, 174), (376, .goto 400, 3, 0), (379, .iload 7, 2, 0), (381, .sipush 3, 1, 0), (382, .ishr, 1, 0), (383, .iload 9, 2, 0), 
  (385, .ifCond .eq 393, 3, 0), (388, .sipush 62, 2, 0), (390, .goto 397, 3, 0), (393, .aload 0, 1, 0), (394, .invokeinterface 6035 0, 3, 147), (397, .multianewarray 8002 2, 3, 174), (400, .multianewarray 8040 2, 3, 254), 
  (403, .ifCond .eq 444, 3, 0), (406, .aload 0, 1, 0), (407, .iload 6, 2, 0), (409, .iload 2, 1, 0)]
noncomputable def am_t8041_2 : List am_I := [
  (410, .sipush 1, 1, 0), (411, .isub, 1, 0), (412, .if_icmp .ne 432, 3, 0), (415, .iload 1, 1, 0), (416, .sipush 26, 2, 0), (418, .ishr, 1, 0), (419, .sipush 7, 2, 0), (421, .multianewarray 8002 2, 3, 174), (424, .ifCond .ne 432, 3, 0), 
  (427, .sipush 44, 2, 0), (429, .goto 434, 3, 0), (432, .sipush 59, 2, 0), (434, .multianewarray 8003 2, 3, 245), (437, .ifCond .le 444, 3, 0), (440, .sipush 1, 1, 0), (441, .goto 445, 3, 0), (444, .sipush 0, 1, 0), (445, .istore 5, 2, 0), 
  (447, .iinc 6 1, 3, 0), (450, .goto 29, 3, 0), (453, .aload 0, 1, 0), (454, .invokeinterface 6004 0, 3, 257), (457, .istore 6, 2, 0), (459, .aload 0, 1, 0), (460, .multianewarray 8004 1, 3, 260), (463, .istore 7, 2, 0), 
  (465, .aload 0, 1, 0), (466, .invokeinterface 6003 0, 3, 251), (469, .istore 8, 2, 0), (471, .iload 6, 2, 0), (473, .sipush (-1), 1, 0), (474, .if_icmp .eq 516, 3, 0), (477, .iload 5, 2, 0), (479, .ifCond .eq 514, 3, 0), 
  (482, .iload 7, 2, 0), (484, .sipush (-103), 2, 0), (486, .if_icmp .ne 514, 3, 0), (489, .iload 6, 2, 0), (491, .ifCond .lt 514, 3, 0), (494, .iload 6, 2, 0), (496, .iload 8, 2, 0), (498, .if_icmp .ge 514, 3, 0), (501, .aload 0, 1, 0), 
  (502, .multianewarray 8034 1, 3, 247), (505, .lload 3, 1, 0), (506, .lcmp, 1, 0), (507, .ifCond .ne 514, 3, 0), (510, .sipush 1, 1, 0), (511, .goto 515, 3, 0), (514, .sipush 0, 1, 0), (515, .freturn, 1, 0), (516, .iload 5, 2, 0), 
  (518, .ifCond .eq 563, 3, 0), (521, .iload 7, 2, 0), (523, .ifCond .lt 563, 3, 0), (526, .iload 7, 2, 0), (528, .iload 2, 1, 0), (529, .if_icmp .gt 563, 3, 0), (532, .iload 1, 1, 0), (533, .sipush 21, 2, 0), (535, .ishr, 1, 0), 
  (536, .sipush 2, 1, 0), (537, .multianewarray 8002 2, 3, 174), (540, .ifCond .eq 559, 3, 0), (543, .aload 0, 1, 0), (544, .multianewarray 8028 1, 3, 263), (547, .ifCond .lt 563, 3, 0), (550, .aload 0, 1, 0), (551, .multianewarray 8034 1, 3, 247), 
  (554, .lload 3, 1, 0), (555, .lcmp, 1, 0), (556, .ifCond .ne 563, 3, 0), (559, .sipush 1, 1, 0), (560, .goto 564, 3, 0), (563, .sipush 0, 1, 0), (564, .freturn, 1, 0)]
noncomputable def am_m8041 : am_M := (8041, ("runs", "(LBranchedSource;I)Z"), method_51_code, 11, (some .boolean), [], [], am_t8041_0 ++ (am_t8041_1 ++ (am_t8041_2)))
noncomputable def am_t8042_0 : List am_I := [
  (0, .aload 0, 1, 0), (1, .invokeinterface 6042 0, 3, 203), (4, .istore 3, 1, 0), (5, .aload 0, 1, 0), (6, .invokeinterface 6035 0, 3, 147), (9, .istore 4, 2, 0), (11, .aload 0, 1, 0), (12, .invokeinterface 6055 0, 3, 156), 
  (15, .istore 5, 2, 0), (17, .aload 0, 1, 0), (18, .invokeinterface 6029 0, 3, 214), (21, .ifCond .ne 42, 3, 0), (24, .aload 0, 1, 0), (25, .invokeinterface 6025 0, 3, 159), (28, .ifCond .ne 42, 3, 0), (31, .aload 0, 1, 0), 
  (32, .invokeinterface 6026 0, 3, 163), (35, .ifCond .ne 42, 3, 0), (38, .sipush 1, 1, 0), (39, .goto 43, 3, 0), (42, .sipush 0, 1, 0), (43, .istore 6, 2, 0), (45, .iload 1, 1, 0), (46, .sipush 2, 1, 0), (47, .if_icmp .ge 606, 3, 0), 
  (50, .iload 2, 1, 0), (51, .iload 2, 1, 0), (52, .sipush 12, 2, 0), (54, .ishr, 1, 0), (55, .sipush 9, 2, 0), (57, .multianewarray 8002 2, 3, 174), (60, .ifCond .ne 68, 3, 0), (63, .sipush 7, 2, 0), (65, .goto 70, 3, 0), 
  (68, .sipush 6, 2, 0), (70, .multianewarray 8002 2, 3, 174), (73, .istore 7, 2, 0), (75, .sipush 0, 1, 0), (76, .istore 8, 2, 0), (78, .iload 8, 2, 0), (80, .sipush 6, 2, 0), (82, .if_icmp .ge 140, 3, 0), (85, .iload 7, 2, 0), 
  (87, .sipush 6, 2, 0), (89, .if_icmp .ge 140, 3, 0), (92, .iload 2, 1, 0), (93, .sipush 5, 1, 0), (94, .ishr, 1, 0), (95, .sipush 4, 1, 0), (96, .multianewarray 8002 2, 3, 174), (99, .ifCond .le 140, 3, 0), (102, .aload 0, 1, 0), 
  (103, .iload 7, 2, 0), (105, .invokeinterface 6039 1, 3, 91), (108, .ifCond .eq 125, 3, 0), (111, .iload 7, 2, 0), (113, .aload 0, 1, 0), (114, .invokeinterface 6041 0, 3, 150), (117, .if_icmp .eq 125, 3, 0), (120, .iload 7, 2, 0), 
  (122, .goto 132, 3, 0), (125, .iload 7, 2, 0), (127, .sipush 1, 1, 0), (128, .iadd, 1, 0), (129, .sipush 6, 2, 0), (131, .irem, 1, 0), (132, .istore 7, 2, 0), (134, .iinc 8 1, 3, 0), (137, .goto 78, 3, 0), (140, .iload 7, 2, 0), 
  (142, .sipush 6, 2, 0), (144, .if_icmp .ne 152, 3, 0), (147, .sipush (-103), 2, 0), (149, .goto 158, 3, 0), (152, .aload 0, 1, 0), (153, .iload 7, 2, 0), (155, .multianewarray 8024 2, 3, 171), (158, .istore 8, 2, 0), (160, .iload 8, 2, 0), 
  (162, .sipush (-103), 2, 0), (164, .if_icmp .eq 181, 3, 0), (167, .aload 0, 1, 0), (168, .iload 8, 2, 0), (170, .iload 3, 1, 0), (171, .invokeinterface 6045 2, 3, 98), (174, .ifCond .eq 181, 3, 0), (177, .sipush 1, 1, 0), 
  (178, .goto 182, 3, 0), (181, .sipush 0, 1, 0), (182, .istore 9, 2, 0), (184, .iload 8, 2, 0), (186, .sipush (-103), 2, 0), (188, .if_icmp .eq 206, 3, 0), (191, .iload 6, 2, 0), (193, .ifCond .eq 206, 3, 0), (196, .aload 0, 1, 0), 
  (197, .iload 3, 1, 0), (198, .iload 8, 2, 0), (200, .invokeinterface 6045 2, 3, 98), (203, .ifCond .eq 210, 3, 0)]
noncomputable def am_t8042_1 : List am_I := [
  (206, .sipush 1, 1, 0), (207, .goto 211, 3, 0), (210, .sipush 0, 1, 0), (211, .istore 10, 2, 0), (213, .iload 8, 2, 0), (215, .sipush (-103), 2, 0), (217, .if_icmp .ne 224, 3, 0), (220, .sipush 0, 1, 0), (221, .goto 230, 3, 0), 
  (224, .aload 0, 1, 0), (225, .iload 7, 2, 0), (227, .invokeinterface 6053 1, 3, 104), (230, .istore 11, 2, 0), (232, .iload 1, 1, 0), (233, .ifCond .ne 245, 3, 0), (236, .aload 0, 1, 0), (237, .iload 7, 2, 0), (239, .multianewarray 8013 2, 3, 265), 
  (242, .goto 251, 3, 0), (245, .aload 0, 1, 0), (246, .iload 7, 2, 0), (248, .multianewarray 8016 2, 3, 267), (251, .istore 12, 2, 0), (253, .iload 7, 2, 0), (255, .sipush 6, 2, 0), (257, .if_icmp .eq 265, 3, 0), (260, .iload 10, 2, 0), 
  (262, .ifCond .eq 307, 3, 0), (265, .iload 12, 2, 0), (267, .iload 7, 2, 0), (269, .sipush 6, 2, 0), (271, .if_icmp .ne 279, 3, 0), (274, .sipush (-102), 2, 0), (276, .goto 281, 3, 0), (279, .sipush (-103), 2, 0), (281, .if_icmp .ne 305, 3, 0), 
  (284, .aload 0, 1, 0), (285, .invokeinterface 6042 0, 3, 203), (288, .iload 3, 1, 0), (289, .if_icmp .ne 305, 3, 0), (292, .aload 0, 1, 0), (293, .invokeinterface 6035 0, 3, 147), (296, .iload 4, 2, 0), (298, .if_icmp .ne 305, 3, 0), 
  (301, .sipush 1, 1, 0), (302, .goto 306, 3, 0), (305, .sipush 0, 1, 0), (306, .freturn, 1, 0), (307, .iload 1, 1, 0), (308, .sipush 1, 1, 0), (309, .if_icmp .ne 415, 3, 0), (312, .iload 12, 2, 0), (314, .sipush (-103), 2, 0), 
  (316, .if_icmp .ne 349, 3, 0), (319, .aload 0, 1, 0), (320, .invokeinterface 6042 0, 3, 203), (323, .iload 3, 1, 0), (324, .if_icmp .ne 345, 3, 0), (327, .aload 0, 1, 0), (328, .invokeinterface 6035 0, 3, 147), (331, .iload 4, 2, 0), 
  (333, .if_icmp .ne 345, 3, 0), (336, .iload 9, 2, 0), (338, .ifCond .ne 345, 3, 0), (341, .sipush 1, 1, 0), (342, .goto 414, 3, 0), (345, .sipush 0, 1, 0), (346, .goto 414, 3, 0), (349, .iload 12, 2, 0), (351, .ifCond .lt 413, 3, 0), 
  (354, .aload 0, 1, 0), (355, .invokeinterface 6035 0, 3, 147), (358, .iload 4, 2, 0), (360, .iload 12, 2, 0), (362, .iadd, 1, 0), (363, .if_icmp .ne 413, 3, 0), (366, .aload 0, 1, 0), (367, .aload 0, 1, 0), (368, .invokeinterface 6042 0, 3, 203), 
  (371, .iload 8, 2, 0), (373, .invokeinterface 6045 2, 3, 98), (376, .ifCond .eq 413, 3, 0), (379, .aload 0, 1, 0), (380, .invokeinterface 6029 0, 3, 214), (383, .ifCond .ne 413, 3, 0), (386, .iload 12, 2, 0), (388, .ifCond .gt 400, 3, 0), 
  (391, .aload 0, 1, 0), (392, .invokeinterface 6042 0, 3, 203), (395, .iload 8, 2, 0), (397, .if_icmp .ne 413, 3, 0), (400, .aload 0, 1, 0), (401, .invokeinterface 6055 0, 3, 156), (404, .iload 5, 2, 0), (406, .if_icmp .ne 413, 3, 0), 
  (409, .sipush 1, 1, 0), (410, .goto 414, 3, 0), (413, .sipush 0, 1, 0), (414, .freturn, 1, 0), (415, .iload 9, 2, 0)]
noncomputable def am_t8042_2 : List am_I := [
  (417, .ifCond .ne 448, 3, 0), (420, .iload 4, 2, 0), (422, .sipush 60, 2, 0), (424, .if_icmp .ne 448, 3, 0), (427, .iload 12, 2, 0), (429, .sipush (-103), 2, 0), (431, .if_icmp .ne 446, 3, 0), (434, .aload 0, 1, 0), (435, .invokeinterface 6042 0, 3, 203), 
  (438, .iload 3, 1, 0), (439, .if_icmp .ne 446, 3, 0), (442, .sipush 1, 1, 0), (443, .goto 447, 3, 0), (446, .sipush 0, 1, 0), (447, .freturn, 1, 0), (448, .iload 9, 2, 0), (450, .ifCond .ne 462, 3, 0), (453, .iload 11, 2, 0), 
  (455, .ifCond .ne 462, 3, 0), (458, .sipush 1, 1, 0), (459, .goto 463, 3, 0), (462, .sipush 0, 1, 0), (463, .istore 13, 2, 0), (465, .iload 12, 2, 0), (467, .iload 9, 2, 0), (469, .ifCond .eq 476, 3, 0), (472, .sipush 0, 1, 0), 
  (473, .goto 478, 3, 0), (476, .iload 11, 2, 0), (478, .if_icmp .ne 604, 3, 0), (481, .aload 0, 1, 0), (482, .invokeinterface 6035 0, 3, 147), (485, .iload 4, 2, 0), (487, .iload 13, 2, 0), (489, .ifCond .eq 496, 3, 0), 
  (492, .sipush 1, 1, 0), (493, .goto 497, 3, 0), (496, .sipush 0, 1, 0), (497, .iadd, 1, 0), (498, .if_icmp .ne 604, 3, 0), (501, .aload 0, 1, 0), (502, .invokeinterface 6042 0, 3, 203), (505, .iload 9, 2, 0), (507, .ifCond .eq 515, 3, 0), 
  (510, .iload 8, 2, 0), (512, .goto 526, 3, 0), (515, .iload 13, 2, 0), (517, .ifCond .eq 525, 3, 0), (520, .iload 4, 2, 0), (522, .goto 526, 3, 0), (525, .iload 3, 1, 0), (526, .if_icmp .ne 604, 3, 0), (529, .iload 13, 2, 0), 
  (531, .ifCond .eq 562, 3, 0), (534, .aload 0, 1, 0), (535, .iload 4, 2, 0), (537, .invokeinterface 6036 1, 3, 131), (540, .iload 3, 1, 0), (541, .if_icmp .ne 604, 3, 0), (544, .aload 0, 1, 0), (545, .iload 4, 2, 0), (547, .invokeinterface 6037 1, 3, 134), 
  (550, .iload 8, 2, 0), (552, .if_icmp .ne 604, 3, 0), (555, .aload 0, 1, 0), (556, .invokeinterface 6029 0, 3, 214), (559, .ifCond .ne 604, 3, 0), (562, .aload 0, 1, 0), (563, .invokeinterface 6025 0, 3, 159), (566, .iload 12, 2, 0), 
  (568, .ifCond .le 575, 3, 0), (571, .sipush 1, 1, 0), (572, .goto 576, 3, 0), (575, .sipush 0, 1, 0), (576, .if_icmp .ne 604, 3, 0), (579, .aload 0, 1, 0), (580, .invokeinterface 6022 0, 3, 217), (583, .iload 12, 2, 0), 
  (585, .if_icmp .ne 604, 3, 0), (588, .aload 0, 1, 0), (589, .invokeinterface 6055 0, 3, 156), (592, .iload 5, 2, 0), (594, .iload 12, 2, 0), (596, .iadd, 1, 0), (597, .if_icmp .ne 604, 3, 0), (600, .sipush 1, 1, 0), (601, .goto 605, 3, 0), 
  (604, .sipush 0, 1, 0), (605, .freturn, 1, 0), (606, .iload 2, 1, 0), (607, .iload 2, 1, 0), (608, .sipush 12, 2, 0), (610, .ishr, 1, 0), (611, .sipush 9, 2, 0), (613, .multianewarray 8002 2, 3, 174), (616, .ifCond .ne 624, 3, 0), 
  (619, .sipush 61, 2, 0), (621, .goto 626, 3, 0), (624, .iload 4, 2, 0), (626, .multianewarray 8002 2, 3, 174)]
noncomputable def am_t8042_3 : List am_I := [
  (629, .istore 7, 2, 0), (631, .iload 1, 1, 0), (632, .sipush 2, 1, 0), (633, .if_icmp .ne 645, 3, 0), (636, .aload 0, 1, 0), (637, .iload 7, 2, 0), (639, .multianewarray 8014 2, 3, 269), (642, .goto 651, 3, 0), (645, .aload 0, 1, 0), 
  (646, .iload 7, 2, 0), (648, .multianewarray 8015 2, 3, 271), (651, .istore 8, 2, 0), (653, .iload 7, 2, 0), (655, .iload 4, 2, 0), (657, .if_icmp .lt 673, 3, 0), (660, .iload 8, 2, 0), (662, .sipush (-102), 2, 0), (664, .if_icmp .ne 671, 3, 0), 
  (667, .sipush 1, 1, 0), (668, .goto 672, 3, 0), (671, .sipush 0, 1, 0), (672, .freturn, 1, 0), (673, .iload 8, 2, 0), (675, .sipush (-103), 2, 0), (677, .if_icmp .ne 727, 3, 0), (680, .aload 0, 1, 0), (681, .invokeinterface 6042 0, 3, 203), 
  (684, .iload 3, 1, 0), (685, .if_icmp .ne 725, 3, 0), (688, .aload 0, 1, 0), (689, .invokeinterface 6035 0, 3, 147), (692, .iload 4, 2, 0), (694, .if_icmp .ne 725, 3, 0), (697, .iload 7, 2, 0), (699, .ifCond .eq 721, 3, 0), 
  (702, .iload 6, 2, 0), (704, .ifCond .eq 721, 3, 0), (707, .iload 4, 2, 0), (709, .sipush 60, 2, 0), (711, .if_icmp .eq 721, 3, 0), (714, .aload 0, 1, 0), (715, .invokeinterface 6029 0, 3, 214), (718, .ifCond .ne 725, 3, 0), 
  (721, .sipush 1, 1, 0), (722, .goto 726, 3, 0), (725, .sipush 0, 1, 0), (726, .freturn, 1, 0), (727, .iload 6, 2, 0), (729, .ifCond .eq 856, 3, 0), (732, .iload 7, 2, 0), (734, .ifCond .le 856, 3, 0), (737, .iload 8, 2, 0), 
  (739, .ifCond .lt 856, 3, 0), (742, .aload 0, 1, 0), (743, .invokeinterface 6035 0, 3, 147), (746, .iload 4, 2, 0), (748, .iload 8, 2, 0), (750, .ifCond .ne 757, 3, 0), (753, .sipush 1, 1, 0), (754, .goto 758, 3, 0), (757, .sipush 0, 1, 0), 
  (758, .iadd, 1, 0), (759, .if_icmp .ne 856, 3, 0), (762, .iload 8, 2, 0), (764, .ifCond .ne 816, 3, 0), (767, .aload 0, 1, 0), (768, .iload 4, 2, 0), (770, .invokeinterface 6036 1, 3, 131), (773, .iload 3, 1, 0), (774, .if_icmp .ne 856, 3, 0), 
  (777, .aload 0, 1, 0), (778, .iload 4, 2, 0), (780, .invokeinterface 6037 1, 3, 134), (783, .sipush (-1), 1, 0), (784, .if_icmp .ne 856, 3, 0), (787, .aload 0, 1, 0), (788, .invokeinterface 6042 0, 3, 203), (791, .iload 4, 2, 0), 
  (793, .if_icmp .ne 856, 3, 0), (796, .aload 0, 1, 0), (797, .invokeinterface 6029 0, 3, 214), (800, .ifCond .ne 856, 3, 0), (803, .aload 0, 1, 0), (804, .iload 3, 1, 0), (805, .iload 4, 2, 0), (807, .invokeinterface 6031 2, 3, 116), 
  (810, .ifCond .le 856, 3, 0), (813, .goto 840, 3, 0), (816, .aload 0, 1, 0), (817, .invokeinterface 6026 0, 3, 163), (820, .ifCond .eq 856, 3, 0), (823, .aload 0, 1, 0), (824, .invokeinterface 6042 0, 3, 203), (827, .iload 3, 1, 0), 
  (828, .if_icmp .ne 856, 3, 0), (831, .aload 0, 1, 0), (832, .invokeinterface 6022 0, 3, 217), (835, .iload 8, 2, 0), (837, .if_icmp .ne 856, 3, 0), (840, .aload 0, 1, 0)]
noncomputable def am_t8042_4 : List am_I := [
  (841, .invokeinterface 6055 0, 3, 156), (844, .iload 5, 2, 0), (846, .iload 8, 2, 0), (848, .iadd, 1, 0), (849, .if_icmp .ne 856, 3, 0), (852, .sipush 1, 1, 0), (853, .goto 857, 3, 0), (856, .sipush 0, 1, 0), (857, .freturn, 1, 0)
  ]
noncomputable def am_m8042 : am_M := (8042, ("bring", "(LBranchedSource;II)Z"), method_52_code, 14, (some .boolean), [], [], am_t8042_0 ++ (am_t8042_1 ++ (am_t8042_2 ++ (am_t8042_3 ++ (am_t8042_4)))))
noncomputable def am_t8043_0 : List am_I := [
  (0, .iload 1, 1, 0), (1, .sipush 40, 2, 0), (3, .multianewarray 8002 2, 3, 174), (6, .istore 3, 1, 0), (7, .aload 0, 1, 0), (8, .invokeinterface 6042 0, 3, 203), (11, .istore 4, 2, 0), (13, .aload 0, 1, 0), (14, .invokeinterface 6035 0, 3, 147), 
  (17, .istore 5, 2, 0), (19, .aload 0, 1, 0), (20, .invokeinterface 6022 0, 3, 217), (23, .istore 6, 2, 0), (25, .aload 0, 1, 0), (26, .invokeinterface 6029 0, 3, 214), (29, .istore 7, 2, 0), (31, .aload 0, 1, 0), (32, .invokeinterface 6025 0, 3, 159), 
  (35, .ifCond .ne 45, 3, 0), (38, .aload 0, 1, 0), (39, .invokeinterface 6026 0, 3, 163), (42, .ifCond .eq 49, 3, 0), (45, .sipush 1, 1, 0), (46, .goto 50, 3, 0), (49, .sipush 0, 1, 0), (50, .istore 8, 2, 0), (52, .aload 0, 1, 0), 
  (53, .invokeinterface 6025 0, 3, 159), (56, .istore 9, 2, 0), (58, .iload 2, 1, 0), (59, .iload 2, 1, 0), (60, .sipush 12, 2, 0), (62, .ishr, 1, 0), (63, .sipush 9, 2, 0), (65, .multianewarray 8002 2, 3, 174), (68, .ifCond .ne 75, 3, 0), 
  (71, .sipush 5, 1, 0), (72, .goto 76, 3, 0), (75, .sipush 4, 1, 0), (76, .multianewarray 8002 2, 3, 174), (79, .istore 10, 2, 0), (81, .iload 2, 1, 0), (82, .sipush 3, 1, 0), (83, .ishr, 1, 0), (84, .iload 2, 1, 0), (85, .sipush 13, 2, 0), 
  (87, .ishr, 1, 0), (88, .sipush 9, 2, 0), (90, .multianewarray 8002 2, 3, 174), (93, .ifCond .ne 101, 3, 0), (96, .sipush 7, 2, 0), (98, .goto 103, 3, 0), (101, .sipush 6, 2, 0), (103, .multianewarray 8002 2, 3, 174), (106, .istore 11, 2, 0), 
  (108, .iload 10, 2, 0), (110, .sipush 4, 1, 0), (111, .if_icmp .eq 121, 3, 0), (114, .iload 11, 2, 0), (116, .sipush 6, 2, 0), (118, .if_icmp .ne 125, 3, 0), (121, .sipush 1, 1, 0), (122, .goto 126, 3, 0), (125, .sipush 0, 1, 0), 
  (126, .istore 12, 2, 0), (128, .iload 6, 2, 0), (130, .ifCond .le 395, 3, 0), (133, .iload 2, 1, 0), (134, .sipush 7, 2, 0), (136, .ishr, 1, 0), (137, .sipush 3, 1, 0), (138, .multianewarray 8002 2, 3, 174), (141, .ifCond .le 395, 3, 0), 
  (144, .iload 3, 1, 0), (145, .sipush 30, 2, 0), (147, .if_icmp .ge 395, 3, 0), (150, .sipush 0, 1, 0), (151, .istore 13, 2, 0), (153, .iload 13, 2, 0), (155, .sipush 24, 2, 0), (157, .if_icmp .ge 224, 3, 0), (160, .iload 12, 2, 0), 
  (162, .ifCond .ne 224, 3, 0), (165, .aload 0, 1, 0), (166, .iload 10, 2, 0), (168, .iload 11, 2, 0), (170, .invokeinterface 6020 2, 3, 67), (173, .istore 14, 2, 0), (175, .iload 14, 2, 0), (177, .ifCond .ne 186, 3, 0), 
  (180, .iload 11, 2, 0), (182, .sipush 5, 1, 0), (183, .if_icmp .ge 191, 3, 0), (186, .iload 10, 2, 0), (188, .goto 197, 3, 0), (191, .iload 10, 2, 0), (193, .sipush 1, 1, 0), (194, .iadd, 1, 0), (195, .sipush 4, 1, 0), 
  (196, .irem, 1, 0)]
noncomputable def am_t8043_1 : List am_I := [
  (197, .istore 10, 2, 0), (199, .iload 14, 2, 0), (201, .ifCond .eq 209, 3, 0), (204, .iload 11, 2, 0), (206, .goto 216, 3, 0), (209, .iload 11, 2, 0), (211, .sipush 1, 1, 0), (212, .iadd, 1, 0), (213, .sipush 6, 2, 0), 
  (215, .irem, 1, 0), (216, .istore 11, 2, 0), (218, .iinc 13 1, 3, 0), (221, .goto 153, 3, 0), (224, .iload 2, 1, 0), (225, .sipush 5, 1, 0), (226, .ishr, 1, 0), (227, .sipush 2, 1, 0), (228, .multianewarray 8002 2, 3, 174), 
  (231, .ifCond .ne 238, 3, 0), (234, .sipush 1, 1, 0), (235, .goto 239, 3, 0), (238, .sipush 0, 1, 0), (239, .istore 13, 2, 0), (241, .iload 12, 2, 0), (243, .ifCond .ne 261, 3, 0), (246, .aload 0, 1, 0), (247, .iload 10, 2, 0), 
  (249, .iload 11, 2, 0), (251, .invokeinterface 6020 2, 3, 67), (254, .ifCond .eq 261, 3, 0), (257, .sipush 1, 1, 0), (258, .goto 262, 3, 0), (261, .sipush 0, 1, 0), (262, .istore 14, 2, 0), (264, .iload 14, 2, 0), (266, .ifCond .ne 273, 3, 0), 
  (269, .sipush 0, 1, 0), (270, .goto 297, 3, 0), (273, .iload 13, 2, 0), (275, .ifCond .eq 289, 3, 0), (278, .aload 0, 1, 0), (279, .iload 10, 2, 0), (281, .iload 11, 2, 0), (283, .invokeinterface 6021 2, 3, 71), (286, .goto 297, 3, 0), 
  (289, .aload 0, 1, 0), (290, .iload 10, 2, 0), (292, .iload 11, 2, 0), (294, .invokeinterface 6027 2, 3, 75), (297, .istore 15, 2, 0), (299, .aload 0, 1, 0), (300, .iload 10, 2, 0), (302, .iload 11, 2, 0), (304, .iload 13, 2, 0), 
  (306, .multianewarray 8017 4, 3, 273), (309, .iload 12, 2, 0), (311, .ifCond .eq 319, 3, 0), (314, .sipush (-102), 2, 0), (316, .goto 333, 3, 0), (319, .iload 14, 2, 0), (321, .ifCond .eq 331, 3, 0), (324, .iload 6, 2, 0), 
  (326, .sipush 1, 1, 0), (327, .isub, 1, 0), (328, .goto 333, 3, 0), (331, .sipush (-103), 2, 0), (333, .if_icmp .ne 393, 3, 0), (336, .iload 14, 2, 0), (338, .ifCond .eq 365, 3, 0), (341, .aload 0, 1, 0), (342, .iload 10, 2, 0), 
  (344, .iload 11, 2, 0), (346, .invokeinterface 6027 2, 3, 75), (349, .iload 15, 2, 0), (351, .if_icmp .ne 393, 3, 0), (354, .aload 0, 1, 0), (355, .iload 10, 2, 0), (357, .iload 11, 2, 0), (359, .invokeinterface 6020 2, 3, 67), 
  (362, .ifCond .ne 393, 3, 0), (365, .aload 0, 1, 0), (366, .invokeinterface 6025 0, 3, 159), (369, .ifCond .ne 379, 3, 0), (372, .aload 0, 1, 0), (373, .invokeinterface 6026 0, 3, 163), (376, .ifCond .eq 383, 3, 0), (379, .sipush 1, 1, 0), 
  (380, .goto 384, 3, 0), (383, .sipush 0, 1, 0), (384, .iload 8, 2, 0), (386, .if_icmp .ne 393, 3, 0), (389, .sipush 1, 1, 0), (390, .goto 394, 3, 0), (393, .sipush 0, 1, 0), (394, .freturn, 1, 0), (395, .iload 3, 1, 0), 
  (396, .sipush 11, 2, 0), (398, .if_icmp .ge 578, 3, 0), (401, .iload 2, 1, 0), (402, .sipush 5, 1, 0)]
noncomputable def am_t8043_2 : List am_I := [
  (403, .ishr, 1, 0), (404, .iload 2, 1, 0), (405, .sipush 11, 2, 0), (407, .ishr, 1, 0), (408, .sipush 14, 2, 0), (410, .multianewarray 8002 2, 3, 174), (413, .ifCond .ne 421, 3, 0), (416, .sipush 101, 2, 0), (418, .goto 422, 3, 0), 
  (421, .sipush 4, 1, 0), (422, .multianewarray 8002 2, 3, 174), (425, .istore 13, 2, 0), (427, .iload 12, 2, 0), (429, .ifCond .ne 439, 3, 0), (432, .iload 13, 2, 0), (434, .sipush 100, 2, 0), (436, .if_icmp .ne 443, 3, 0), 
  (439, .sipush 1, 1, 0), (440, .goto 444, 3, 0), (443, .sipush 0, 1, 0), (444, .istore 14, 2, 0), (446, .iload 12, 2, 0), (448, .ifCond .ne 466, 3, 0), (451, .aload 0, 1, 0), (452, .iload 10, 2, 0), (454, .iload 11, 2, 0), 
  (456, .invokeinterface 6020 2, 3, 67), (459, .ifCond .eq 466, 3, 0), (462, .sipush 1, 1, 0), (463, .goto 467, 3, 0), (466, .sipush 0, 1, 0), (467, .istore 15, 2, 0), (469, .aload 0, 1, 0), (470, .iload 10, 2, 0), (472, .iload 11, 2, 0), 
  (474, .iload 13, 2, 0), (476, .multianewarray 8005 4, 3, 276), (479, .istore 16, 2, 0), (481, .iload 14, 2, 0), (483, .ifCond .eq 510, 3, 0), (486, .iload 16, 2, 0), (488, .sipush (-102), 2, 0), (490, .if_icmp .ne 506, 3, 0), 
  (493, .aload 0, 1, 0), (494, .invokeinterface 6029 0, 3, 214), (497, .iload 7, 2, 0), (499, .if_icmp .ne 506, 3, 0), (502, .sipush 1, 1, 0), (503, .goto 577, 3, 0), (506, .sipush 0, 1, 0), (507, .goto 577, 3, 0), (510, .iload 16, 2, 0), 
  (512, .aload 0, 1, 0), (513, .invokeinterface 6029 0, 3, 214), (516, .if_icmp .ne 576, 3, 0), (519, .aload 0, 1, 0), (520, .iload 10, 2, 0), (522, .iload 11, 2, 0), (524, .invokeinterface 6027 2, 3, 75), (527, .iload 13, 2, 0), 
  (529, .if_icmp .ne 576, 3, 0), (532, .aload 0, 1, 0), (533, .iload 10, 2, 0), (535, .iload 11, 2, 0), (537, .invokeinterface 6020 2, 3, 67), (540, .ifCond .ne 576, 3, 0), (543, .aload 0, 1, 0), (544, .invokeinterface 6022 0, 3, 217), 
  (547, .iload 6, 2, 0), (549, .iload 15, 2, 0), (551, .ifCond .eq 558, 3, 0), (554, .sipush 1, 1, 0), (555, .goto 559, 3, 0), (558, .sipush 0, 1, 0), (559, .isub, 1, 0), (560, .if_icmp .ne 576, 3, 0), (563, .aload 0, 1, 0), 
  (564, .invokeinterface 6042 0, 3, 203), (567, .iload 4, 2, 0), (569, .if_icmp .ne 576, 3, 0), (572, .sipush 1, 1, 0), (573, .goto 577, 3, 0), (576, .sipush 0, 1, 0), (577, .freturn, 1, 0), (578, .iload 3, 1, 0), (579, .sipush 20, 2, 0), 
  (581, .if_icmp .ge 733, 3, 0), (584, .iload 6, 2, 0), (586, .ifCond .ne 610, 3, 0), (589, .iload 7, 2, 0), (591, .ifCond .gt 599, 3, 0), (594, .iload 9, 2, 0), (596, .ifCond .eq 610, 3, 0), (599, .iload 5, 2, 0), (601, .sipush 60, 2, 0), 
  (603, .if_icmp .ge 610, 3, 0), (606, .sipush 1, 1, 0), (607, .goto 611, 3, 0), (610, .sipush 0, 1, 0), (611, .istore 13, 2, 0)]
noncomputable def am_t8043_3 : List am_I := [
  (613, .aload 0, 1, 0), (614, .multianewarray 8006 1, 3, 278), (617, .istore 14, 2, 0), (619, .iload 14, 2, 0), (621, .iload 13, 2, 0), (623, .ifCond .eq 631, 3, 0), (626, .iload 5, 2, 0), (628, .goto 633, 3, 0), (631, .sipush (-103), 2, 0), 
  (633, .if_icmp .ne 731, 3, 0), (636, .iload 13, 2, 0), (638, .ifCond .eq 718, 3, 0), (641, .aload 0, 1, 0), (642, .invokeinterface 6042 0, 3, 203), (645, .iload 5, 2, 0), (647, .if_icmp .ne 731, 3, 0), (650, .aload 0, 1, 0), 
  (651, .iload 5, 2, 0), (653, .invokeinterface 6036 1, 3, 131), (656, .iload 4, 2, 0), (658, .if_icmp .ne 731, 3, 0), (661, .aload 0, 1, 0), (662, .iload 5, 2, 0), (664, .invokeinterface 6037 1, 3, 134), (667, .sipush (-1), 1, 0), 
  (668, .if_icmp .eq 675, 3, 0), (671, .sipush 1, 1, 0), (672, .goto 676, 3, 0), (675, .sipush 0, 1, 0), (676, .iload 9, 2, 0), (678, .if_icmp .ne 731, 3, 0), (681, .aload 0, 1, 0), (682, .invokeinterface 6029 0, 3, 214), 
  (685, .ifCond .ne 731, 3, 0), (688, .aload 0, 1, 0), (689, .invokeinterface 6025 0, 3, 159), (692, .ifCond .ne 731, 3, 0), (695, .aload 0, 1, 0), (696, .invokeinterface 6026 0, 3, 163), (699, .ifCond .ne 731, 3, 0), (702, .aload 0, 1, 0), 
  (703, .iload 4, 2, 0), (705, .iload 5, 2, 0), (707, .invokeinterface 6031 2, 3, 116), (710, .iload 7, 2, 0), (712, .if_icmp .ne 731, 3, 0), (715, .goto 727, 3, 0), (718, .aload 0, 1, 0), (719, .invokeinterface 6042 0, 3, 203), 
  (722, .iload 4, 2, 0), (724, .if_icmp .ne 731, 3, 0), (727, .sipush 1, 1, 0), (728, .goto 732, 3, 0), (731, .sipush 0, 1, 0), (732, .freturn, 1, 0), (733, .iload 3, 1, 0), (734, .sipush 22, 2, 0), (736, .if_icmp .ge 822, 3, 0), 
  (739, .aload 0, 1, 0), (740, .invokeinterface 6038 0, 3, 232), (743, .istore 13, 2, 0), (745, .aload 0, 1, 0), (746, .multianewarray 8010 1, 3, 280), (749, .istore 14, 2, 0), (751, .iload 13, 2, 0), (753, .sipush 6, 2, 0), 
  (755, .if_icmp .ne 773, 3, 0), (758, .iload 14, 2, 0), (760, .sipush (-103), 2, 0), (762, .if_icmp .ne 769, 3, 0), (765, .sipush 1, 1, 0), (766, .goto 821, 3, 0), (769, .sipush 0, 1, 0), (770, .goto 821, 3, 0), (773, .iload 14, 2, 0), 
  (775, .ifCond .lt 820, 3, 0), (778, .iload 14, 2, 0), (780, .sipush 6, 2, 0), (782, .if_icmp .ge 820, 3, 0), (785, .aload 0, 1, 0), (786, .invokeinterface 6038 0, 3, 232), (789, .iload 13, 2, 0), (791, .sipush 1, 1, 0), 
  (792, .iadd, 1, 0), (793, .if_icmp .ne 820, 3, 0), (796, .aload 0, 1, 0), (797, .iload 14, 2, 0), (799, .invokeinterface 6040 1, 3, 95), (802, .iload 4, 2, 0), (804, .if_icmp .ne 820, 3, 0), (807, .iload 14, 2, 0), (809, .aload 0, 1, 0), 
  (810, .invokeinterface 6041 0, 3, 150), (813, .if_icmp .eq 820, 3, 0), (816, .sipush 1, 1, 0), (817, .goto 821, 3, 0), (820, .sipush 0, 1, 0), (821, .freturn, 1, 0), (822, .iload 2, 1, 0), (823, .iload 2, 1, 0)]
noncomputable def am_t8043_4 : List am_I := [
  (824, .sipush 12, 2, 0), (826, .ishr, 1, 0), (827, .sipush 9, 2, 0), (829, .multianewarray 8002 2, 3, 174), (832, .ifCond .ne 840, 3, 0), (835, .sipush 7, 2, 0), (837, .goto 842, 3, 0), (840, .sipush 6, 2, 0), (842, .multianewarray 8002 2, 3, 174), 
  (845, .istore 13, 2, 0), (847, .iload 13, 2, 0), (849, .sipush 6, 2, 0), (851, .if_icmp .ne 859, 3, 0), (854, .sipush (-103), 2, 0), (856, .goto 865, 3, 0), (859, .aload 0, 1, 0), (860, .iload 13, 2, 0), (862, .multianewarray 8024 2, 3, 171), 
  (865, .istore 14, 2, 0), (867, .iload 3, 1, 0), (868, .sipush 22, 2, 0), (870, .if_icmp .ne 958, 3, 0), (873, .iload 14, 2, 0), (875, .sipush (-103), 2, 0), (877, .if_icmp .eq 893, 3, 0), (880, .iload 13, 2, 0), (882, .aload 0, 1, 0), 
  (883, .invokeinterface 6041 0, 3, 150), (886, .if_icmp .eq 893, 3, 0), (889, .sipush 1, 1, 0), (890, .goto 894, 3, 0), (893, .sipush 0, 1, 0), (894, .istore 15, 2, 0), (896, .aload 0, 1, 0), (897, .iload 13, 2, 0), (899, .multianewarray 8011 2, 3, 282), 
  (902, .iload 13, 2, 0), (904, .sipush 6, 2, 0), (906, .if_icmp .ne 914, 3, 0), (909, .sipush (-102), 2, 0), (911, .goto 926, 3, 0), (914, .iload 15, 2, 0), (916, .ifCond .eq 924, 3, 0), (919, .iload 14, 2, 0), (921, .goto 926, 3, 0), 
  (924, .sipush (-103), 2, 0), (926, .if_icmp .ne 956, 3, 0), (929, .iload 15, 2, 0), (931, .ifCond .eq 943, 3, 0), (934, .aload 0, 1, 0), (935, .iload 13, 2, 0), (937, .invokeinterface 6039 1, 3, 91), (940, .ifCond .ne 956, 3, 0), 
  (943, .aload 0, 1, 0), (944, .invokeinterface 6035 0, 3, 147), (947, .iload 5, 2, 0), (949, .if_icmp .ne 956, 3, 0), (952, .sipush 1, 1, 0), (953, .goto 957, 3, 0), (956, .sipush 0, 1, 0), (957, .freturn, 1, 0), (958, .iload 3, 1, 0), 
  (959, .sipush 26, 2, 0), (961, .if_icmp .ge 1066, 3, 0), (964, .iload 14, 2, 0), (966, .sipush (-103), 2, 0), (968, .if_icmp .eq 994, 3, 0), (971, .iload 13, 2, 0), (973, .aload 0, 1, 0), (974, .invokeinterface 6041 0, 3, 150), 
  (977, .if_icmp .eq 994, 3, 0), (980, .iload 7, 2, 0), (982, .ifCond .ne 994, 3, 0), (985, .iload 8, 2, 0), (987, .ifCond .ne 994, 3, 0), (990, .sipush 1, 1, 0), (991, .goto 995, 3, 0), (994, .sipush 0, 1, 0), (995, .istore 15, 2, 0), 
  (997, .aload 0, 1, 0), (998, .iload 13, 2, 0), (1000, .multianewarray 8012 2, 3, 284), (1003, .iload 13, 2, 0), (1005, .sipush 6, 2, 0), (1007, .if_icmp .ne 1015, 3, 0), (1010, .sipush (-102), 2, 0), (1012, .goto 1027, 3, 0), 
  (1015, .iload 15, 2, 0), (1017, .ifCond .eq 1025, 3, 0), (1020, .iload 14, 2, 0), (1022, .goto 1027, 3, 0), (1025, .sipush (-103), 2, 0), (1027, .if_icmp .ne 1064, 3, 0), (1030, .iload 15, 2, 0), (1032, .ifCond .eq 1060, 3, 0), 
  (1035, .aload 0, 1, 0), (1036, .invokeinterface 6041 0, 3, 150), (1039, .iload 13, 2, 0), (1041, .if_icmp .ne 1064, 3, 0), (1044, .aload 0, 1, 0)]
noncomputable def am_t8043_5 : List am_I := [
  (1045, .invokeinterface 6042 0, 3, 203), (1048, .iload 14, 2, 0), (1050, .if_icmp .ne 1064, 3, 0), (1053, .aload 0, 1, 0), (1054, .invokeinterface 6029 0, 3, 214), (1057, .ifCond .ne 1064, 3, 0), (1060, .sipush 1, 1, 0), 
  (1061, .goto 1065, 3, 0), (1064, .sipush 0, 1, 0), (1065, .freturn, 1, 0), (1066, .iload 3, 1, 0), (1067, .sipush 34, 2, 0), (1069, .if_icmp .ge 1109, 3, 0), (1072, .aload 0, 1, 0), (1073, .iload 3, 1, 0), (1074, .sipush 30, 2, 0), 
  (1076, .if_icmp .ge 1083, 3, 0), (1079, .sipush 0, 1, 0), (1080, .goto 1104, 3, 0), (1083, .iload 3, 1, 0), (1084, .sipush 31, 2, 0), (1086, .if_icmp .ge 1093, 3, 0), (1089, .sipush 1, 1, 0), (1090, .goto 1104, 3, 0), (1093, .iload 3, 1, 0), 
  (1094, .sipush 33, 2, 0), (1096, .if_icmp .ge 1103, 3, 0), (1099, .sipush 2, 1, 0), (1100, .goto 1104, 3, 0), (1103, .sipush 3, 1, 0), (1104, .iload 2, 1, 0), (1105, .multianewarray 8042 3, 3, 286), (1108, .freturn, 1, 0), 
  (1109, .iload 3, 1, 0), (1110, .sipush 34, 2, 0), (1112, .if_icmp .ne 1181, 3, 0), (1115, .aload 0, 1, 0), (1116, .multianewarray 8018 1, 3, 290), (1119, .iload 8, 2, 0), (1121, .ifCond .eq 1129, 3, 0), (1124, .iload 6, 2, 0), 
  (1126, .goto 1131, 3, 0), (1129, .sipush (-103), 2, 0), (1131, .if_icmp .ne 1179, 3, 0), (1134, .aload 0, 1, 0), (1135, .invokeinterface 6029 0, 3, 214), (1138, .iload 8, 2, 0), (1140, .ifCond .eq 1147, 3, 0), (1143, .sipush 0, 1, 0), 
  (1144, .goto 1149, 3, 0), (1147, .iload 7, 2, 0), (1149, .if_icmp .ne 1179, 3, 0), (1152, .aload 0, 1, 0), (1153, .invokeinterface 6025 0, 3, 159), (1156, .ifCond .ne 1179, 3, 0), (1159, .aload 0, 1, 0), (1160, .invokeinterface 6026 0, 3, 163), 
  (1163, .ifCond .ne 1179, 3, 0), (1166, .aload 0, 1, 0), (1167, .invokeinterface 6042 0, 3, 203), (1170, .iload 4, 2, 0), (1172, .if_icmp .ne 1179, 3, 0), (1175, .sipush 1, 1, 0), (1176, .goto 1180, 3, 0), (1179, .sipush 0, 1, 0), 
  (1180, .freturn, 1, 0), (1181, .iload 3, 1, 0), (1182, .sipush 35, 2, 0), (1184, .if_icmp .ne 1271, 3, 0), (1187, .iload 2, 1, 0), (1188, .iload 2, 1, 0), (1189, .sipush 12, 2, 0), (1191, .ishr, 1, 0), (1192, .sipush 9, 2, 0), 
  (1194, .multianewarray 8002 2, 3, 174), (1197, .ifCond .ne 1205, 3, 0), (1200, .sipush 61, 2, 0), (1202, .goto 1207, 3, 0), (1205, .iload 5, 2, 0), (1207, .multianewarray 8002 2, 3, 174), (1210, .istore 15, 2, 0), (1212, .aload 0, 1, 0), 
  (1213, .iload 15, 2, 0), (1215, .multianewarray 8007 2, 3, 292), (1218, .iload 15, 2, 0), (1220, .iload 5, 2, 0), (1222, .if_icmp .lt 1230, 3, 0), (1225, .sipush (-102), 2, 0), (1227, .goto 1232, 3, 0), (1230, .iload 4, 2, 0), 
  (1232, .if_icmp .ne 1269, 3, 0), (1235, .iload 15, 2, 0), (1237, .iload 5, 2, 0), (1239, .if_icmp .ge 1265, 3, 0), (1242, .aload 0, 1, 0), (1243, .invokeinterface 6042 0, 3, 203), (1246, .iload 15, 2, 0), (1248, .if_icmp .ne 1269, 3, 0), 
  (1251, .aload 0, 1, 0), (1252, .invokeinterface 6029 0, 3, 214)]
noncomputable def am_t8043_6 : List am_I := [
  (1255, .ifCond .ne 1269, 3, 0), (1258, .aload 0, 1, 0), (1259, .invokeinterface 6022 0, 3, 217), (1262, .ifCond .ne 1269, 3, 0), (1265, .sipush 1, 1, 0), (1266, .goto 1270, 3, 0), (1269, .sipush 0, 1, 0), (1270, .freturn, 1, 0), 
  (1271, .aload 0, 1, 0), (1272, .invokeinterface 6043 0, 3, 153), (1275, .istore 15, 2, 0), (1277, .iload 3, 1, 0), (1278, .sipush 36, 2, 0), (1280, .if_icmp .ne 1371, 3, 0), (1283, .iload 7, 2, 0), (1285, .ifCond .le 1303, 3, 0), 
  (1288, .iload 8, 2, 0), (1290, .ifCond .ne 1303, 3, 0), (1293, .iload 15, 2, 0), (1295, .sipush 3, 1, 0), (1296, .if_icmp .ge 1303, 3, 0), (1299, .sipush 1, 1, 0), (1300, .goto 1304, 3, 0), (1303, .sipush 0, 1, 0), (1304, .istore 16, 2, 0), 
  (1306, .aload 0, 1, 0), (1307, .multianewarray 8008 1, 3, 294), (1310, .iload 16, 2, 0), (1312, .ifCond .eq 1322, 3, 0), (1315, .iload 15, 2, 0), (1317, .sipush 1, 1, 0), (1318, .iadd, 1, 0), (1319, .goto 1324, 3, 0), (1322, .sipush (-103), 2, 0), 
  (1324, .if_icmp .ne 1369, 3, 0), (1327, .aload 0, 1, 0), (1328, .invokeinterface 6029 0, 3, 214), (1331, .iload 16, 2, 0), (1333, .ifCond .eq 1340, 3, 0), (1336, .sipush 0, 1, 0), (1337, .goto 1342, 3, 0), (1340, .iload 7, 2, 0), 
  (1342, .if_icmp .ne 1369, 3, 0), (1345, .aload 0, 1, 0), (1346, .invokeinterface 6043 0, 3, 153), (1349, .iload 15, 2, 0), (1351, .iload 16, 2, 0), (1353, .ifCond .eq 1360, 3, 0), (1356, .sipush 1, 1, 0), (1357, .goto 1361, 3, 0), 
  (1360, .sipush 0, 1, 0), (1361, .iadd, 1, 0), (1362, .if_icmp .ne 1369, 3, 0), (1365, .sipush 1, 1, 0), (1366, .goto 1370, 3, 0), (1369, .sipush 0, 1, 0), (1370, .freturn, 1, 0), (1371, .iload 3, 1, 0), (1372, .sipush 37, 2, 0), 
  (1374, .if_icmp .ne 1471, 3, 0), (1377, .aload 0, 1, 0), (1378, .multianewarray 8009 1, 3, 296), (1381, .istore 16, 2, 0), (1383, .iload 16, 2, 0), (1385, .sipush (-103), 2, 0), (1387, .if_icmp .ne 1416, 3, 0), (1390, .aload 0, 1, 0), 
  (1391, .invokeinterface 6043 0, 3, 153), (1394, .iload 15, 2, 0), (1396, .if_icmp .ne 1412, 3, 0), (1399, .aload 0, 1, 0), (1400, .invokeinterface 6029 0, 3, 214), (1403, .iload 7, 2, 0), (1405, .if_icmp .ne 1412, 3, 0), 
  (1408, .sipush 1, 1, 0), (1409, .goto 1470, 3, 0), (1412, .sipush 0, 1, 0), (1413, .goto 1470, 3, 0), (1416, .iload 8, 2, 0), (1418, .ifCond .ne 1469, 3, 0), (1421, .iload 15, 2, 0), (1423, .ifCond .le 1469, 3, 0), (1426, .iload 16, 2, 0), 
  (1428, .ifCond .lt 1469, 3, 0), (1431, .iload 16, 2, 0), (1433, .sipush 24, 2, 0), (1435, .if_icmp .gt 1469, 3, 0), (1438, .aload 0, 1, 0), (1439, .invokeinterface 6043 0, 3, 153), (1442, .iload 15, 2, 0), (1444, .sipush 1, 1, 0), 
  (1445, .isub, 1, 0), (1446, .if_icmp .ne 1469, 3, 0), (1449, .aload 0, 1, 0), (1450, .invokeinterface 6022 0, 3, 217), (1453, .ifCond .ne 1469, 3, 0), (1456, .aload 0, 1, 0), (1457, .invokeinterface 6042 0, 3, 203), (1460, .iload 4, 2, 0), 
  (1462, .if_icmp .ne 1469, 3, 0)]
noncomputable def am_t8043_7 : List am_I := [
  (1465, .sipush 1, 1, 0), (1466, .goto 1470, 3, 0), (1469, .sipush 0, 1, 0), (1470, .freturn, 1, 0), (1471, .aload 0, 1, 0), (1472, .iload 2, 1, 0), (1473, .multianewarray 8041 2, 3, 298), (1476, .freturn, 1, 0)]
noncomputable def am_m8043 : am_M := (8043, ("acts", "(LBranchedSource;II)Z"), method_53_code, 17, (some .boolean), [], [], am_t8043_0 ++ (am_t8043_1 ++ (am_t8043_2 ++ (am_t8043_3 ++ (am_t8043_4 ++ (am_t8043_5 ++ (am_t8043_6 ++ (am_t8043_7))))))))
noncomputable def am_t8900_0 : List am_I := [
  (0, .new 6, 3, 10), (3, .dup, 1, 0), (4, .invokespecial 6001, 3, 301), (7, .astore 1, 1, 0), (8, .lconst 0, 1, 0), (9, .lstore 2, 1, 0), (10, .aload 1, 1, 0), (11, .monitorenter, 1, 0), (12, .multianewarray 8039 2, 3, 302), 
  (15, .ifCond .eq 40, 3, 0), (18, .aload 1, 1, 0), (19, .multianewarray 8028 1, 3, 263), (22, .sipush (-103), 2, 0), (24, .if_icmp .ne 40, 3, 0), (27, .aload 1, 1, 0), (28, .multianewarray 8027 1, 3, 305), (31, .sipush (-103), 2, 0), 
  (33, .if_icmp .ne 40, 3, 0), (36, .sipush 1, 1, 0), (37, .goto 41, 3, 0), (40, .sipush 0, 1, 0), (41, .istore 4, 2, 0), (43, .sipush 0, 1, 0), (44, .istore 5, 2, 0), (46, .iload 5, 2, 0), (48, .sipush 58, 2, 0), (50, .if_icmp .ge 329, 3, 0), 
  (53, .iload 4, 2, 0), (55, .ifCond .eq 329, 3, 0), (58, .aload 0, 1, 0), (59, .sipush 2, 1, 0), (60, .iload 5, 2, 0), (62, .imul, 1, 0), (63, .multianewarray 8001 2, 3, 307), (66, .istore 6, 2, 0), (68, .aload 0, 1, 0), 
  (69, .sipush 2, 1, 0), (70, .iload 5, 2, 0), (72, .imul, 1, 0), (73, .sipush 1, 1, 0), (74, .iadd, 1, 0), (75, .multianewarray 8001 2, 3, 307), (78, .istore 7, 2, 0), (80, .aload 1, 1, 0), (81, .multianewarray 8034 1, 3, 247), 
  (84, .lstore 8, 2, 0), (86, .iload 6, 2, 0), (88, .sipush 40, 2, 0), (90, .multianewarray 8002 2, 3, 174), (93, .sipush 37, 2, 0), (95, .if_icmp .le 102, 3, 0), (98, .sipush 1, 1, 0), (99, .goto 103, 3, 0), (102, .sipush 0, 1, 0), 
  (103, .istore 10, 2, 0), (105, .aload 1, 1, 0), (106, .iload 6, 2, 0), (108, .iload 7, 2, 0), (110, .multianewarray 8043 3, 3, 311), (113, .ifCond .eq 138, 3, 0), (116, .iload 5, 2, 0), (118, .sipush 3, 1, 0), (119, .irem, 1, 0), 
  (120, .ifCond .gt 134, 3, 0), (123, .aload 1, 1, 0), (124, .iload 7, 2, 0), (126, .sipush 2, 1, 0), (127, .ishr, 1, 0), (128, .multianewarray 8039 2, 3, 302), (131, .ifCond .eq 138, 3, 0), (134, .sipush 1, 1, 0), (135, .goto 139, 3, 0), 
  (138, .sipush 0, 1, 0), (139, .istore 4, 2, 0), (141, .iload 4, 2, 0), (143, .ifCond .eq 197, 3, 0), (146, .iload 10, 2, 0), (148, .ifCond .ne 197, 3, 0), (151, .aload 1, 1, 0), (152, .multianewarray 8034 1, 3, 247), (155, .lload 8, 2, 0), 
  (157, .lcmp, 1, 0), (158, .ifCond .eq 197, 3, 0), (161, .iload 7, 2, 0), (163, .sipush 8, 2, 0), (165, .ishr, 1, 0), (166, .sipush 4, 1, 0), (167, .multianewarray 8002 2, 3, 174), (170, .ifCond .ne 197, 3, 0), (173, .aload 1, 1, 0), 
  (174, .multianewarray 8028 1, 3, 263), (177, .ifCond .lt 194, 3, 0), (180, .aload 1, 1, 0), (181, .multianewarray 8034 1, 3, 247), (184, .lload 8, 2, 0), (186, .lcmp, 1, 0), (187, .ifCond .ne 194, 3, 0), (190, .sipush 1, 1, 0), 
  (191, .goto 195, 3, 0), (194, .sipush 0, 1, 0)]
noncomputable def am_t8900_1 : List am_I := [
  (195, .istore 4, 2, 0), (197, .iload 4, 2, 0), (199, .ifCond .eq 235, 3, 0), (202, .iload 5, 2, 0), (204, .sipush 20, 2, 0), (206, .irem, 1, 0), (207, .sipush 7, 2, 0), (209, .if_icmp .ne 235, 3, 0), (212, .aload 1, 1, 0), 
  (213, .invokeinterface 6056 0, 3, 314), (216, .aload 1, 1, 0), (217, .invokeinterface 6035 0, 3, 147), (220, .if_icmp .ne 227, 3, 0), (223, .sipush 1, 1, 0), (224, .goto 228, 3, 0), (227, .sipush 0, 1, 0), (228, .istore 4, 2, 0), 
  (230, .aload 1, 1, 0), (231, .multianewarray 8034 1, 3, 247), (234, .lstore 2, 1, 0), (235, .iload 4, 2, 0), (237, .ifCond .eq 277, 3, 0), (240, .iload 5, 2, 0), (242, .sipush 20, 2, 0), (244, .irem, 1, 0), (245, .sipush 17, 2, 0), 
  (247, .if_icmp .ne 277, 3, 0), (250, .aload 1, 1, 0), (251, .multianewarray 8027 1, 3, 305), (254, .aload 1, 1, 0), (255, .invokeinterface 6035 0, 3, 147), (258, .if_icmp .ne 274, 3, 0), (261, .aload 1, 1, 0), (262, .multianewarray 8034 1, 3, 247), 
  (265, .lload 2, 1, 0), (266, .lcmp, 1, 0), (267, .ifCond .ne 274, 3, 0), (270, .sipush 1, 1, 0), (271, .goto 275, 3, 0), (274, .sipush 0, 1, 0), (275, .istore 4, 2, 0), (277, .iload 4, 2, 0), (279, .ifCond .eq 323, 3, 0), 
  (282, .iload 5, 2, 0), (284, .sipush 11, 2, 0), (286, .irem, 1, 0), (287, .sipush 10, 2, 0), (289, .if_icmp .ne 323, 3, 0), (292, .aload 1, 1, 0), (293, .multianewarray 8028 1, 3, 263), (296, .istore 11, 2, 0), (298, .iload 11, 2, 0), 
  (300, .sipush (-103), 2, 0), (302, .if_icmp .eq 316, 3, 0), (305, .iload 11, 2, 0), (307, .ifCond .lt 320, 3, 0), (310, .iload 11, 2, 0), (312, .sipush 4, 1, 0), (313, .if_icmp .ge 320, 3, 0), (316, .sipush 1, 1, 0), (317, .goto 321, 3, 0), 
  (320, .sipush 0, 1, 0), (321, .istore 4, 2, 0), (323, .iinc 5 1, 3, 0), (326, .goto 46, 3, 0), (329, .iload 4, 2, 0), (331, .ifCond .eq 347, 3, 0), (334, .aload 1, 1, 0), (335, .sipush 9, 2, 0), (337, .multianewarray 8039 2, 3, 302), 
  (340, .ifCond .eq 347, 3, 0), (343, .sipush 1, 1, 0), (344, .goto 348, 3, 0), (347, .sipush 0, 1, 0), (348, .freturn, 1, 0)]
noncomputable def am_m8900 : am_M := (8900, ("law", "([I)Z"), code, 12, (some .boolean), [], [], am_t8900_0 ++ (am_t8900_1))
noncomputable def am_ms : List am_M := [am_m1, am_m2, am_m3, am_m1001, am_m1002, am_m1003, am_m1004, am_m1005, am_m1006, am_m1007, am_m1008, am_m1009, am_m1010, am_m1011, am_m1012, am_m1013, am_m1014, am_m1015, am_m1016, am_m1017, am_m2001, am_m2002, am_m2003, am_m2004, am_m2005, am_m2006, am_m2007, am_m2008, am_m2009, am_m2010, am_m2011, am_m2012, am_m2013, am_m3001, am_m3002, am_m3003, am_m3004, am_m4001, am_m4002, am_m4003, am_m4004, am_m4005, am_m4006, am_m4007, am_m4008, am_m4009, am_m4010, am_m4011, am_m4012, am_m4013, am_m4014, am_m4015, am_m4016, am_m4017, am_m4018, am_m4019, am_m4020, am_m4021, am_m4022, am_m4023, am_m4024, am_m4025, am_m4026, am_m4027, am_m4028, am_m4029, am_m4030, am_m4031, am_m4032, am_m5001, am_m5002, am_m5003, am_m5004, am_m5005, am_m5006, am_m5007, am_m5008, am_m5009, am_m5010, am_m5011, am_m5012, am_m5013, am_m5014, am_m5015, am_m5016, am_m5017, am_m5018, am_m5019, am_m5020, am_m5021, am_m5022, am_m5023, am_m5024, am_m5025, am_m5026, am_m5027, am_m5028, am_m5029, am_m5030, am_m5031, am_m5032, am_m5033, am_m5034, am_m6001, am_m6002, am_m6003, am_m6004, am_m6005, am_m6006, am_m6007, am_m6008, am_m6009, am_m6010, am_m6011, am_m6012, am_m6013, am_m6014, am_m6015, am_m6016, am_m6017, am_m6018, am_m6019, am_m6020, am_m6021, am_m6022, am_m6023, am_m6024, am_m6025, am_m6026, am_m6027, am_m6028, am_m6029, am_m6030, am_m6031, am_m6032, am_m6033, am_m6034, am_m6035, am_m6036, am_m6037, am_m6038, am_m6039, am_m6040, am_m6041, am_m6042, am_m6043, am_m6044, am_m6045, am_m6046, am_m6047, am_m6048, am_m6049, am_m6050, am_m6051, am_m6052, am_m6053, am_m6054, am_m6055, am_m6056, am_m6057, am_m6058, am_m6059, am_m6060, am_m6061, am_m6062, am_m6063, am_m6064, am_m6065, am_m6066, am_m6067, am_m6068, am_m9000, am_m8001, am_m8002, am_m8003, am_m8004, am_m8005, am_m8006, am_m8007, am_m8008, am_m8009, am_m8010, am_m8011, am_m8012, am_m8013, am_m8014, am_m8015, am_m8016, am_m8017, am_m8018, am_m8019, am_m8020, am_m8021, am_m8022, am_m8023, am_m8024, am_m8025, am_m8026, am_m8027, am_m8028, am_m8029, am_m8030, am_m8031, am_m8032, am_m8033, am_m8034, am_m8035, am_m8036, am_m8037, am_m8038, am_m8039, am_m8040, am_m8041, am_m8042, am_m8043, am_m8900]
def am_y (e : am_M) : MethodName := ⟨am_nm (e.1 / 1000), e.2.1.1, e.2.1.2⟩
abbrev am_co (e : am_M) : ByteArray := e.2.2.1
abbrev am_nl (e : am_M) : Nat := e.2.2.2.1
abbrev am_rt (e : am_M) : Option FieldType := e.2.2.2.2.1
abbrev am_hh (e : am_M) : List (Nat × Nat × Nat × Nat) := e.2.2.2.2.2.1
abbrev am_hd (e : am_M) : List (Nat × Nat × Nat × Nat × Nat × Nat) := e.2.2.2.2.2.2.1
abbrev am_tb (e : am_M) : List am_I := e.2.2.2.2.2.2.2
noncomputable def am_of (m : Nat) : Option am_M := am_ms.find? fun e => e.1 == m
def am_lk : List am_I → Nat → Option am_I
  | [], _ => none
  | q :: l, pc => if q.1 = pc then some q else am_lk l pc
theorem am_lk_mem {l : List am_I} {pc : Nat} {q : am_I} (h : am_lk l pc = some q) : q ∈ l ∧ q.1 = pc := by
  induction l with
  | nil => cases h
  | cons a l ih =>
    simp only [am_lk] at h
    split at h
    · cases h; exact ⟨List.mem_cons_self, by assumption⟩
    · exact ⟨List.mem_cons_of_mem _ (ih h).1, (ih h).2⟩
theorem am_of_mem {m : Nat} {e : am_M} (h : am_of m = some e) : e ∈ am_ms ∧ e.1 = m := ⟨List.mem_of_find?_eq_some h, by simpa using List.find?_some h⟩
def am_mlw (q : Nat × Nat × Nat × Nat × Nat) (e : am_M) : Cond := if q.2.2.2.2 = 1 then .methodLinkNest (am_nm q.1) q.2.1 (am_y e) "BranchedSource" else .methodLink (am_nm q.1) q.2.1 (am_y e)
theorem am_ml_ok : am_ml.all (fun q => match am_of q.2.2.1 with | some e => am_at q.2.2.2.1 (am_mlw q e) | none => false) = true := by decide +kernel
def am_mlk (o i m : Nat) : Bool := am_ml.any fun q => q.1 == o && q.2.1 == i && q.2.2.1 == m
