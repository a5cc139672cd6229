
/-! words of the methods: method, kind (0 of an object, 1 static, 2 constructor), places of: code, initialized, instanceMethod or static, selects -/
def am_mw_0 : List (Nat × Nat × Nat × Nat × Nat × Nat) := [(1, 2, 148, 25, 147, 0), (2, 0, 551, 25, 549, 550), (3, 0, 989, 25, 987, 988), (1001, 2, 132, 24, 131, 0), (1002, 0, 735, 24, 733, 734), (1003, 0, 662, 24, 660, 661), (1004, 0, 727, 24, 725, 726), (1005, 0, 775, 24, 773, 774), (1006, 0, 628, 24, 626, 627), (1007, 0, 697, 24, 695, 696), (1008, 0, 677, 24, 676, 6), (1009, 0, 701, 24, 700, 7), (1010, 0, 673, 24, 671, 672), (1011, 0, 537, 24, 535, 536), (1012, 0, 759, 24, 757, 758), (1013, 0, 767, 24, 765, 766), (1014, 0, 957, 24, 955, 956), (1015, 1, 636, 24, 635, 0), (1016, 1, 541, 24, 540, 0), (1017, 1, 632, 24, 631, 0), (2001, 2, 46, 20, 45, 0), (2002, 0, 1144, 20, 1142, 1143), (2003, 0, 1100, 20, 1098, 1099), (2004, 0, 1105, 20, 1103, 1104)]
def am_mw_1 : List (Nat × Nat × Nat × Nat × Nat × Nat) := [(2005, 0, 1088, 20, 1086, 1087), (2006, 0, 1120, 20, 1118, 1119), (2007, 0, 1116, 20, 1114, 1115), (2008, 0, 1161, 20, 1159, 1160), (2009, 0, 1152, 20, 1150, 1151), (2010, 1, 1129, 20, 1128, 0), (2011, 1, 1123, 20, 1122, 0), (2012, 1, 1126, 20, 1125, 0), (2013, 1, 1132, 20, 1131, 0), (3001, 2, 196, 26, 195, 0), (3002, 0, 338, 26, 336, 337), (3003, 0, 355, 26, 353, 354), (3004, 0, 342, 26, 341, 2), (4001, 2, 60, 21, 59, 0), (4002, 0, 809, 21, 807, 808), (4003, 0, 821, 21, 819, 820), (4004, 0, 830, 21, 828, 829), (4005, 0, 1029, 21, 1027, 1028), (4006, 0, 1040, 21, 1038, 1039), (4007, 0, 1045, 21, 1043, 1044), (4008, 0, 1060, 21, 1058, 1059), (4009, 0, 1077, 21, 1075, 1076), (4010, 0, 854, 21, 852, 853), (4011, 0, 863, 21, 861, 862)]
def am_mw_2 : List (Nat × Nat × Nat × Nat × Nat × Nat) := [(4012, 0, 875, 21, 873, 874), (4013, 0, 881, 21, 879, 880), (4014, 0, 893, 21, 891, 892), (4015, 0, 903, 21, 901, 902), (4016, 0, 918, 21, 916, 917), (4017, 0, 932, 21, 930, 931), (4018, 0, 984, 21, 982, 983), (4019, 0, 994, 21, 992, 993), (4020, 0, 953, 21, 951, 952), (4021, 0, 969, 21, 967, 968), (4022, 0, 790, 21, 788, 789), (4023, 0, 1013, 21, 1011, 1012), (4024, 0, 1018, 21, 1016, 1017), (4025, 0, 922, 21, 921, 9), (4026, 0, 927, 21, 926, 10), (4027, 0, 532, 21, 530, 531), (4028, 0, 973, 21, 972, 14), (4029, 0, 1064, 21, 1063, 15), (4030, 0, 963, 21, 962, 13), (4031, 0, 941, 21, 940, 12), (4032, 0, 937, 21, 936, 11), (5001, 2, 66, 22, 65, 0), (5002, 0, 241, 22, 239, 240), (5003, 0, 472, 22, 470, 471)]
def am_mw_3 : List (Nat × Nat × Nat × Nat × Nat × Nat) := [(5004, 0, 825, 22, 823, 824), (5005, 0, 477, 22, 475, 476), (5006, 0, 485, 22, 483, 484), (5007, 0, 493, 22, 491, 492), (5008, 0, 547, 22, 545, 546), (5009, 0, 715, 22, 713, 714), (5010, 0, 647, 22, 645, 646), (5011, 0, 743, 22, 741, 742), (5012, 0, 747, 22, 746, 8), (5013, 0, 834, 22, 832, 833), (5014, 0, 454, 22, 452, 453), (5015, 0, 458, 22, 456, 457), (5016, 0, 508, 22, 506, 507), (5017, 0, 619, 22, 617, 618), (5018, 0, 858, 22, 856, 857), (5019, 0, 842, 22, 840, 841), (5020, 0, 838, 22, 836, 837), (5021, 0, 413, 22, 411, 412), (5022, 0, 796, 22, 794, 795), (5023, 0, 559, 22, 557, 558), (5024, 0, 573, 22, 571, 572), (5025, 0, 609, 22, 607, 608), (5026, 0, 897, 22, 895, 896), (5027, 0, 433, 22, 431, 432)]
def am_mw_4 : List (Nat × Nat × Nat × Nat × Nat × Nat) := [(5028, 0, 429, 22, 427, 428), (5029, 0, 581, 22, 579, 580), (5030, 0, 590, 22, 588, 589), (5031, 0, 598, 22, 596, 597), (5032, 0, 1049, 22, 1047, 1048), (5033, 0, 1068, 22, 1066, 1067), (5034, 0, 1072, 22, 1070, 1071), (6001, 2, 38, 19, 37, 0), (6002, 0, 1095, 19, 1093, 1094), (6003, 0, 1084, 19, 1082, 1083), (6004, 0, 1112, 19, 1110, 1111), (6005, 0, 1139, 19, 1137, 1138), (6006, 0, 804, 19, 802, 803), (6007, 0, 817, 19, 815, 816), (6008, 0, 1025, 19, 1023, 1024), (6009, 0, 1036, 19, 1034, 1035), (6010, 0, 1056, 19, 1054, 1055), (6011, 0, 850, 19, 848, 849), (6012, 0, 871, 19, 869, 870), (6013, 0, 889, 19, 887, 888), (6014, 0, 914, 19, 912, 913), (6015, 0, 980, 19, 978, 979), (6016, 0, 1001, 19, 999, 1000), (6017, 0, 949, 19, 947, 948)]
def am_mw_5 : List (Nat × Nat × Nat × Nat × Nat × Nat) := [(6018, 0, 786, 19, 784, 785), (6019, 0, 1009, 19, 1007, 1008), (6020, 0, 515, 19, 513, 514), (6021, 0, 421, 19, 419, 420), (6022, 0, 577, 19, 575, 576), (6023, 0, 586, 19, 584, 585), (6024, 0, 594, 19, 592, 593), (6025, 0, 376, 19, 374, 375), (6026, 0, 380, 19, 378, 379), (6027, 0, 384, 19, 382, 383), (6028, 0, 555, 19, 553, 554), (6029, 0, 569, 19, 567, 568), (6030, 0, 489, 19, 487, 488), (6031, 0, 711, 19, 709, 710), (6032, 0, 739, 19, 737, 738), (6033, 0, 771, 19, 769, 770), (6034, 0, 605, 19, 603, 604), (6035, 0, 233, 19, 231, 232), (6036, 0, 464, 19, 462, 463), (6037, 0, 481, 19, 479, 480), (6038, 0, 615, 19, 613, 614), (6039, 0, 500, 19, 498, 499), (6040, 0, 442, 19, 440, 441), (6041, 0, 364, 19, 362, 363)]
def am_mw_6 : List (Nat × Nat × Nat × Nat × Nat × Nat) := [(6042, 0, 504, 19, 502, 503), (6043, 0, 368, 19, 366, 367), (6044, 0, 624, 19, 622, 623), (6045, 0, 731, 19, 729, 730), (6046, 0, 658, 19, 656, 657), (6047, 0, 722, 19, 720, 721), (6048, 0, 693, 19, 691, 692), (6049, 0, 669, 19, 667, 668), (6050, 0, 685, 19, 683, 684), (6051, 0, 755, 19, 753, 754), (6052, 0, 763, 19, 761, 762), (6053, 0, 528, 19, 526, 527), (6054, 0, 643, 19, 641, 642), (6055, 0, 372, 19, 370, 371), (6056, 0, 237, 19, 235, 236), (6057, 0, 263, 19, 261, 262), (6058, 0, 350, 19, 348, 349), (6059, 1, 390, 19, 389, 0), (6060, 1, 409, 19, 408, 0), (6061, 1, 387, 19, 386, 0), (6062, 1, 445, 19, 444, 0), (6063, 0, 450, 19, 449, 4), (6064, 0, 468, 19, 467, 5), (6065, 0, 425, 19, 424, 3)]
def am_mw_7 : List (Nat × Nat × Nat × Nat × Nat × Nat) := [(6066, 0, 334, 19, 333, 1), (6067, 0, 1148, 19, 1147, 16), (6068, 0, 1157, 19, 1156, 17), (9000, 1, 70, 23, 69, 0), (8001, 1, 250, 18, 249, 0), (8002, 1, 254, 18, 253, 0), (8003, 1, 1091, 18, 1090, 0), (8004, 1, 1135, 18, 1134, 0), (8005, 1, 800, 18, 799, 0), (8006, 1, 813, 18, 812, 0), (8007, 1, 1021, 18, 1020, 0), (8008, 1, 1032, 18, 1031, 0), (8009, 1, 1052, 18, 1051, 0), (8010, 1, 846, 18, 845, 0), (8011, 1, 867, 18, 866, 0), (8012, 1, 885, 18, 884, 0), (8013, 1, 910, 18, 909, 0), (8014, 1, 976, 18, 975, 0), (8015, 1, 997, 18, 996, 0), (8016, 1, 945, 18, 944, 0), (8017, 1, 782, 18, 781, 0), (8018, 1, 1005, 18, 1004, 0), (8019, 1, 511, 18, 510, 0), (8020, 1, 416, 18, 415, 0)]
def am_mw_8 : List (Nat × Nat × Nat × Nat × Nat × Nat) := [(8021, 1, 518, 18, 517, 0), (8022, 1, 704, 18, 703, 0), (8023, 1, 521, 18, 520, 0), (8024, 1, 438, 18, 437, 0), (8025, 1, 718, 18, 717, 0), (8026, 1, 524, 18, 523, 0), (8027, 1, 258, 18, 257, 0), (8028, 1, 346, 18, 345, 0), (8029, 1, 707, 18, 706, 0), (8030, 1, 689, 18, 688, 0), (8031, 1, 681, 18, 680, 0), (8032, 1, 654, 18, 653, 0), (8033, 1, 665, 18, 664, 0), (8034, 1, 358, 18, 357, 0), (8035, 1, 565, 18, 564, 0), (8036, 1, 639, 18, 638, 0), (8037, 1, 751, 18, 750, 0), (8040, 1, 1108, 18, 1107, 0)]
def am_mw_9 : List (Nat × Nat × Nat × Nat × Nat × Nat) := [(8038, 1, 651, 18, 650, 0)]
def am_mw_10 : List (Nat × Nat × Nat × Nat × Nat × Nat) := [(8039, 1, 496, 18, 495, 0)]
def am_mw_11 : List (Nat × Nat × Nat × Nat × Nat × Nat) := [(8041, 1, 1080, 18, 1079, 0)]
def am_mw_12 : List (Nat × Nat × Nat × Nat × Nat × Nat) := [(8042, 1, 907, 18, 906, 0)]
def am_mw_13 : List (Nat × Nat × Nat × Nat × Nat × Nat) := [(8043, 1, 779, 18, 778, 0)]
def am_mw : List (Nat × Nat × Nat × Nat × Nat × Nat) := am_mw_0 ++ (am_mw_1 ++ (am_mw_2 ++ (am_mw_3 ++ (am_mw_4 ++ (am_mw_5 ++ (am_mw_6 ++ (am_mw_7 ++ (am_mw_8 ++ (am_mw_9 ++ (am_mw_10 ++ (am_mw_11 ++ (am_mw_12 ++ (am_mw_13)))))))))))))
def am_cw (e : am_M) : Cond := if (am_hh e).isEmpty then .code (am_y e) (am_co e) (am_nl e) (am_rt e) else .codeWith (am_y e) (am_co e) (am_nl e) (am_rt e) (am_hh e)
def am_mwc (q : Nat × Nat × Nat × Nat × Nat × Nat) (e : am_M) : Bool := am_at q.2.2.1 (am_cw e) && am_at q.2.2.2.1 (.initialized (am_nm (e.1 / 1000))) && am_at q.2.2.2.2.1 (if q.2.1 = 1 then .static (am_y e) else .instanceMethod (am_y e)) && (if q.2.1 = 0 then am_at q.2.2.2.2.2 (.selects (am_nm (e.1 / 1000)) (am_y e) (am_y e)) else true)
noncomputable def am_mwo (q : Nat × Nat × Nat × Nat × Nat × Nat) : Bool := match am_of q.1 with | some e => am_mwc q e | none => false
theorem am_cx {i : Nat} {w : Cond} (h : lw_tbl[i]? = some w) (k : am_kw w = true) : am_at i w = true := by
  unfold am_at
  rw [decide_eq_true h, k]
  rfl
theorem am_mw_ok0 : am_mw_0.all am_mwo = true := by decide +kernel
theorem am_mw_ok1 : am_mw_1.all am_mwo = true := by decide +kernel
theorem am_mw_ok2 : am_mw_2.all am_mwo = true := by decide +kernel
theorem am_mw_ok3 : am_mw_3.all am_mwo = true := by decide +kernel
theorem am_mw_ok4 : am_mw_4.all am_mwo = true := by decide +kernel
theorem am_mw_ok5 : am_mw_5.all am_mwo = true := by decide +kernel
theorem am_mw_ok6 : am_mw_6.all am_mwo = true := by decide +kernel
theorem am_mw_ok7 : am_mw_7.all am_mwo = true := by decide +kernel
theorem am_mw_ok8 : am_mw_8.all am_mwo = true := by decide +kernel
set_option maxRecDepth 100000 in
theorem am_mwf9 : am_of 8038 = some am_m8038 := rfl
set_option maxRecDepth 100000 in
theorem am_mwg9 : lw_tbl[651]? = some (am_cw am_m8038) := rfl
theorem am_mw_ok9 : am_mw_9.all am_mwo = true := by
  have h : am_mwo (8038, 1, 651, 18, 650, 0) = true := by
    unfold am_mwo
    dsimp only
    rw [am_mwf9]
    dsimp only
    unfold am_mwc
    dsimp only
    rw [am_cx am_mwg9 (by decide +kernel)]
    decide +kernel
  show (am_mwo (8038, 1, 651, 18, 650, 0) && true) = true
  rw [h]
  rfl
set_option maxRecDepth 100000 in
theorem am_mwf10 : am_of 8039 = some am_m8039 := rfl
set_option maxRecDepth 100000 in
theorem am_mwg10 : lw_tbl[496]? = some (am_cw am_m8039) := rfl
theorem am_mw_ok10 : am_mw_10.all am_mwo = true := by
  have h : am_mwo (8039, 1, 496, 18, 495, 0) = true := by
    unfold am_mwo
    dsimp only
    rw [am_mwf10]
    dsimp only
    unfold am_mwc
    dsimp only
    rw [am_cx am_mwg10 (by decide +kernel)]
    decide +kernel
  show (am_mwo (8039, 1, 496, 18, 495, 0) && true) = true
  rw [h]
  rfl
set_option maxRecDepth 100000 in
theorem am_mwf11 : am_of 8041 = some am_m8041 := rfl
set_option maxRecDepth 100000 in
theorem am_mwg11 : lw_tbl[1080]? = some (am_cw am_m8041) := rfl
theorem am_mw_ok11 : am_mw_11.all am_mwo = true := by
  have h : am_mwo (8041, 1, 1080, 18, 1079, 0) = true := by
    unfold am_mwo
    dsimp only
    rw [am_mwf11]
    dsimp only
    unfold am_mwc
    dsimp only
    rw [am_cx am_mwg11 (by decide +kernel)]
    decide +kernel
  show (am_mwo (8041, 1, 1080, 18, 1079, 0) && true) = true
  rw [h]
  rfl
set_option maxRecDepth 100000 in
theorem am_mwf12 : am_of 8042 = some am_m8042 := rfl
set_option maxRecDepth 100000 in
theorem am_mwg12 : lw_tbl[907]? = some (am_cw am_m8042) := rfl
theorem am_mw_ok12 : am_mw_12.all am_mwo = true := by
  have h : am_mwo (8042, 1, 907, 18, 906, 0) = true := by
    unfold am_mwo
    dsimp only
    rw [am_mwf12]
    dsimp only
    unfold am_mwc
    dsimp only
    rw [am_cx am_mwg12 (by decide +kernel)]
    decide +kernel
  show (am_mwo (8042, 1, 907, 18, 906, 0) && true) = true
  rw [h]
  rfl
set_option maxRecDepth 100000 in
theorem am_mwf13 : am_of 8043 = some am_m8043 := rfl
set_option maxRecDepth 100000 in
theorem am_mwg13 : lw_tbl[779]? = some (am_cw am_m8043) := rfl
theorem am_mw_ok13 : am_mw_13.all am_mwo = true := by
  have h : am_mwo (8043, 1, 779, 18, 778, 0) = true := by
    unfold am_mwo
    dsimp only
    rw [am_mwf13]
    dsimp only
    unfold am_mwc
    dsimp only
    rw [am_cx am_mwg13 (by decide +kernel)]
    decide +kernel
  show (am_mwo (8043, 1, 779, 18, 778, 0) && true) = true
  rw [h]
  rfl
theorem am_mw_ok : am_mw.all am_mwo = true := by
  unfold am_mw
  simp only [List.all_append, Bool.and_eq_true]
  exact ⟨am_mw_ok0, ⟨am_mw_ok1, ⟨am_mw_ok2, ⟨am_mw_ok3, ⟨am_mw_ok4, ⟨am_mw_ok5, ⟨am_mw_ok6, ⟨am_mw_ok7, ⟨am_mw_ok8, ⟨am_mw_ok9, ⟨am_mw_ok10, ⟨am_mw_ok11, ⟨am_mw_ok12, am_mw_ok13⟩⟩⟩⟩⟩⟩⟩⟩⟩⟩⟩⟩⟩

def am_kd (m k : Nat) : Bool := am_mw.any fun q => q.1 == m && q.2.1 == k
def am_y0 (e : am_M) (n : Nat) : Bool := plainName (am_y e).cls && decide ((am_y e).cls ≠ "java/lang/invoke/MethodHandle" ∧ (am_y e).cls ≠ "java/lang/invoke/VarHandle") && decide ((parseMethodDescriptor (am_y e).desc).map (fun d => d.parameters.length) = some n)
/-- throws: own class, exception (0 argument, 1 state), indices of class, text, constructor; 1 where the text is loaded by ldc_w; the text -/
def am_th : List (Nat × Nat × Nat × Nat × Nat × Nat × String) := [(6, 0, 41, 43, 45, 0, "the character is out of range"), (6, 1, 52, 54, 56, 0, "the pad is full"), (6, 1, 52, 68, 56, 0, "the pad has a fault"), (6, 0, 41, 91, 45, 0, "the value is out of range"), (6, 1, 52, 103, 56, 0, "there is nothing to commit, or something against it"), (6, 1, 52, 117, 56, 0, "nothing can be put aside"), (6, 1, 52, 125, 56, 0, "nothing can be taken back"), (6, 1, 52, 133, 56, 0, "there are 6 branches"), (6, 1, 52, 144, 56, 0, "there is no such branch, or it is the current one"), (6, 1, 52, 152, 56, 0, "the branch can't become the current one"), (6, 1, 52, 160, 56, 0, "the branch can't be merged"), (6, 1, 52, 169, 56, 0, "the commit can't be picked"), (6, 1, 52, 175, 56, 0, "the commit can't be reverted"), (6, 1, 52, 180, 56, 0, "the commits can't be replayed on the branch"), (6, 1, 52, 194, 56, 0, "nothing is open"), (6, 0, 41, 296, 45, 1, "the place is below 0"), (6, 1, 52, 342, 56, 1, "there is no snapshot"), (6, 1, 52, 347, 56, 1, "no state is recorded"), (6, 0, 41, 356, 45, 1, "the file or the line is out of range"), (6, 0, 41, 358, 45, 1, "the branch is out of range"), (6, 1, 52, 360, 56, 1, "there is no such branch"), (6, 0, 41, 365, 45, 1, "there is no such commit"), (6, 1, 52, 367, 56, 1, "the line is not in conflict")]
def am_E (x : Nat) : String := if x = 0 then am_IAE else am_ISE
def am_up : List String := ["java/lang/RuntimeException", "java/lang/Exception"]
def am_thw (q : Nat × Nat × Nat × Nat × Nat × Nat × String) : List Cond := Cond.classLink (am_nm q.1) q.2.2.1 (am_E q.2.1) :: Cond.initialized (am_E q.2.1) :: vx_atS (am_nm q.1) q.2.2.2.2.1 (am_E q.2.1) am_up
set_option maxRecDepth 100000 in
theorem am_th0 : (am_thw (6, 0, 41, 0, 45, 0, "")).all (fun w => am_in w && vx_ot w) = true := by decide +kernel
set_option maxRecDepth 100000 in
theorem am_th1 : (am_thw (6, 1, 52, 0, 56, 0, "")).all (fun w => am_in w && vx_ot w) = true := by decide +kernel
theorem am_th_of : am_th.all (fun q => decide ((q.1 = 6 ∧ q.2.1 = 0 ∧ q.2.2.1 = 41 ∧ q.2.2.2.2.1 = 45) ∨ (q.1 = 6 ∧ q.2.1 = 1 ∧ q.2.2.1 = 52 ∧ q.2.2.2.2.1 = 56))) = true := by decide +kernel
