/-! ===== the start: the Statement's own words, found by the turns of its tree ===== -/
def pkC : Nat → Nat → Cond → Option Cond
  | 0, _, _ => none
  | f + 1, k, T => if k = 1 then some T else match T with
    | .and a b => if k % 2 = 0 then pkC f (k / 2) a else pkC f (k / 2) b
    | _ => none
theorem pk_before {args : Array Value} {s : State} {w : Cond} : ∀ (f k : Nat) (T : Cond), pkC f k T = some w → T.before args s = true → w.before args s = true := by
  intro f
  induction f with
  | zero => intro k T h _; cases h
  | succ f ih =>
    intro k T h hT
    unfold pkC at h
    by_cases hk : k = 1
    · rw [if_pos hk] at h
      cases h
      exact hT
    · rw [if_neg hk] at h
      cases T with
      | and a b =>
        rw [Cond.before_and, Bool.and_eq_true] at hT
        dsimp only at h
        by_cases h2 : k % 2 = 0
        · rw [if_pos h2] at h
          exact ih _ _ h hT.1
        · rw [if_neg h2] at h
          exact ih _ _ h hT.2
      | _ => simp at h
theorem pkb {args : Array Value} {s : State} {k : Nat} {w : Cond} (h : pkC 13 k narrow_1 = some w) (hg : narrow_1.before args s = true) : w.before args s = true := pk_before _ _ _ h hg
theorem pkA {args : Array Value} {s : State} {n : Nat} {K : List Nat} {f : Nat → Cond} (h : (List.range n).all (fun i => decide (pkC 13 (K.getD i 0) narrow_1 = some (f i))) = true) (hg : narrow_1.before args s = true) : ∀ i, i < n → (f i).before args s = true := fun i hi => pkb (of_decide_eq_true (List.all_eq_true.mp h i (List.mem_range.mpr hi))) hg
theorem pkE {args : Array Value} {s : State} {n : Nat} {m : Nat → Nat} {K : List (List Nat)} {f : Nat → Nat → Cond} (h : (List.range n).all (fun i => (List.range (m i)).all (fun j => decide (pkC 13 ((K.getD i []).getD j 0) narrow_1 = some (f i j)))) = true) (hg : narrow_1.before args s = true) : ∀ i, i < n → ∀ j, j < m i → (f i j).before args s = true := fun i hi j hj => pkb (of_decide_eq_true (List.all_eq_true.mp (List.all_eq_true.mp h i (List.mem_range.mpr hi)) j (List.mem_range.mpr hj))) hg
theorem pkD {args : Array Value} {s : State} {n : Nat} {K : List (List Nat)} {f : Nat → Term} (h : (List.range n).all (fun i => (List.range n).all (fun j => decide (i = j) || (decide (pkC 13 ((K.getD i []).getD j 0) narrow_1 = some (.not (.eq (f i) (f j)))) || decide (pkC 13 ((K.getD i []).getD j 0) narrow_1 = some (.not (.eq (f j) (f i))))))) = true) (hg : narrow_1.before args s = true) : ∀ i j, i < n → j < n → i ≠ j → (Cond.not (.eq (f i) (f j))).before args s = true ∨ (Cond.not (.eq (f j) (f i))).before args s = true := by
  intro i j hi hj hne
  have h1 := List.all_eq_true.mp (List.all_eq_true.mp h i (List.mem_range.mpr hi)) j (List.mem_range.mpr hj)
  simp only [Bool.or_eq_true, decide_eq_true_eq] at h1
  rcases h1 with h1 | h1 | h1
  · exact absurd h1 hne
  · exact .inl (pkb h1 hg)
  · exact .inr (pkb h1 hg)
theorem pkX {args : Array Value} {s : State} {n n2 : Nat} {K : List (List Nat)} {f : Nat → Nat → Cond} (h : (List.range n).all (fun i => (List.range n2).all (fun j => decide (i = j) || decide (pkC 13 ((K.getD i []).getD j 0) narrow_1 = some (f i j)))) = true) (hg : narrow_1.before args s = true) : ∀ i j, i < n → j < n2 → i ≠ j → (f i j).before args s = true := by
  intro i j hi hj hne
  have h1 := List.all_eq_true.mp (List.all_eq_true.mp h i (List.mem_range.mpr hi)) j (List.mem_range.mpr hj)
  simp only [Bool.or_eq_true, decide_eq_true_eq] at h1
  rcases h1 with h1 | h1
  · exact absurd h1 hne
  · exact pkb h1 hg
theorem tbA {args : Array Value} {s : State} {n : Nat} {K : List Nat} {f : Nat → Cond} (h : (List.range n).all (fun i => decide (lw_tbl[K.getD i 0]? = some (f i))) = true) (hts : ∀ w ∈ lw_tbl, w.before args s = true) : ∀ i, i < n → (f i).before args s = true := fun i hi => hts _ (List.mem_of_getElem? (of_decide_eq_true (List.all_eq_true.mp h i (List.mem_range.mpr hi))))
def xKs : List Nat := [58, 66, 71, 76, 81, 84, 87, 90, 95, 60, 68, 73, 78, 92, 97]
theorem n_Fl : (List.range 6).all (fun i => decide (lw_tbl[([395, 393, 474, 492, 397, 527] : List Nat).getD i 0]? = some (Cond.laysStatic "TheatreLedger$Fault" (xFn.getD i "") "LTheatreLedger$Fault;"))) = true := by decide +kernel
theorem n_Fx : (List.range 6).all (fun i => decide (pkC 13 (([1408, 2688, 1216, 3008, 1088, 2848] : List Nat).getD i 0) narrow_1 = some (Cond.exactly (.static "TheatreLedger$Fault" (xFn.getD i "") "LTheatreLedger$Fault;") "TheatreLedger$Fault"))) = true := by decide +kernel
theorem n_Fd : (List.range 6).all (fun i => (List.range 6).all (fun j => decide (i = j) || (decide (pkC 13 ((([[0, 3968, 2496, 2592, 1344, 2720], [3968, 0, 3776, 1056, 3648, 1184], [2496, 3776, 0, 1312, 3520, 1440], [2592, 1056, 1312, 0, 3616, 2976], [1344, 3648, 3520, 3616, 0, 3744], [2720, 1184, 1440, 2976, 3744, 0]] : List (List Nat)).getD i []).getD j 0) narrow_1 = some (.not (.eq (.static "TheatreLedger$Fault" (xFn.getD i "") "LTheatreLedger$Fault;") (.static "TheatreLedger$Fault" (xFn.getD j "") "LTheatreLedger$Fault;")))) || decide (pkC 13 ((([[0, 3968, 2496, 2592, 1344, 2720], [3968, 0, 3776, 1056, 3648, 1184], [2496, 3776, 0, 1312, 3520, 1440], [2592, 1056, 1312, 0, 3616, 2976], [1344, 3648, 3520, 3616, 0, 3744], [2720, 1184, 1440, 2976, 3744, 0]] : List (List Nat)).getD i []).getD j 0) narrow_1 = some (.not (.eq (.static "TheatreLedger$Fault" (xFn.getD j "") "LTheatreLedger$Fault;") (.static "TheatreLedger$Fault" (xFn.getD i "") "LTheatreLedger$Fault;"))))))) = true := by decide +kernel
theorem n_Vl : (List.range 9).all (fun i => decide (lw_tbl[([1550, 1551, 1552, 1553, 1554, 1555, 1556, 1557, 1558] : List Nat).getD i 0]? = some (Cond.laysStatic "TheatreLedger$Verb" (xVn.getD i "") "LTheatreLedger$Verb;"))) = true := by decide +kernel
theorem n_Vx : (List.range 9).all (fun i => decide (pkC 13 (([1104, 3536, 3760, 3824, 3720, 3528, 1128, 1304, 3800] : List Nat).getD i 0) narrow_1 = some (Cond.exactly (.static "TheatreLedger$Verb" (xVn.getD i "") "LTheatreLedger$Verb;") "TheatreLedger$Verb"))) = true := by decide +kernel
theorem n_Vd : (List.range 9).all (fun i => (List.range 9).all (fun j => decide (i = j) || (decide (pkC 13 ((([[0, 2736, 1264, 3848, 1224, 2728, 3560, 2648, 3896], [2736, 0, 2800, 1160, 2760, 3752, 3048, 3672, 1208], [1264, 2800, 0, 2696, 3784, 1448, 4072, 1368, 2744], [3848, 1160, 2696, 0, 2504, 2984, 1048, 2904, 3768], [1224, 2760, 3784, 2504, 0, 4008, 2584, 3928, 1464], [2728, 3752, 1448, 2984, 4008, 0, 3608, 1240, 3000], [3560, 3048, 4072, 1048, 2584, 3608, 0, 2776, 4024], [2648, 3672, 1368, 2904, 3928, 1240, 2776, 0, 1144], [3896, 1208, 2744, 3768, 1464, 3000, 4024, 1144, 0]] : List (List Nat)).getD i []).getD j 0) narrow_1 = some (.not (.eq (.static "TheatreLedger$Verb" (xVn.getD i "") "LTheatreLedger$Verb;") (.static "TheatreLedger$Verb" (xVn.getD j "") "LTheatreLedger$Verb;")))) || decide (pkC 13 ((([[0, 2736, 1264, 3848, 1224, 2728, 3560, 2648, 3896], [2736, 0, 2800, 1160, 2760, 3752, 3048, 3672, 1208], [1264, 2800, 0, 2696, 3784, 1448, 4072, 1368, 2744], [3848, 1160, 2696, 0, 2504, 2984, 1048, 2904, 3768], [1224, 2760, 3784, 2504, 0, 4008, 2584, 3928, 1464], [2728, 3752, 1448, 2984, 4008, 0, 3608, 1240, 3000], [3560, 3048, 4072, 1048, 2584, 3608, 0, 2776, 4024], [2648, 3672, 1368, 2904, 3928, 1240, 2776, 0, 1144], [3896, 1208, 2744, 3768, 1464, 3000, 4024, 1144, 0]] : List (List Nat)).getD i []).getD j 0) narrow_1 = some (.not (.eq (.static "TheatreLedger$Verb" (xVn.getD j "") "LTheatreLedger$Verb;") (.static "TheatreLedger$Verb" (xVn.getD i "") "LTheatreLedger$Verb;"))))))) = true := by decide +kernel
theorem n_Vo : (List.range 9).all (fun i => decide (pkC 13 (([2640, 3024, 1456, 2544, 1416, 3016, 2664, 2840, 2520] : List Nat).getD i 0) narrow_1 = some (Cond.eq (.field (.static "TheatreLedger$Verb" (xVn.getD i "") "LTheatreLedger$Verb;") "java/lang/Enum" "ordinal" "I") (.int (([0, 1, 2, 3, 4, 5, 6, 7, 8] : List Int32).getD i 0))))) = true := by decide +kernel
theorem n_Vw : (List.range 9).all (fun i => decide (pkC 13 (([3664, 4048, 2992, 3568, 2952, 4040, 3688, 3864, 3544] : List Nat).getD i 0) narrow_1 = some (Cond.eq (.field (.static "TheatreLedger$Verb" (xVn.getD i "") "LTheatreLedger$Verb;") "TheatreLedger$Verb" "word" "Ljava/lang/String;") (.string "TheatreLedger$Verb" (xKs.getD i 0))))) = true := by decide +kernel
theorem n_Vf : (List.range 9).all (fun i => decide (pkC 13 (([1360, 1072, 4016, 3056, 3976, 1064, 1384, 1176, 3032] : List Nat).getD i 0) narrow_1 = some (Cond.eq (.field (.static "TheatreLedger$Verb" (xVn.getD i "") "LTheatreLedger$Verb;") "TheatreLedger$Verb" "form" "Ljava/lang/String;") (.string "TheatreLedger$Verb" (xKs.getD (xForm.getD i 0) 0))))) = true := by decide +kernel
theorem n_Ba : pkC 13 2656 narrow_1 = some (Cond.arrayOf (.static "TheatreLedger" "VERBS" "[LTheatreLedger$Verb;") (.object "TheatreLedger$Verb")) := by decide +kernel
theorem n_Bl : pkC 13 3680 narrow_1 = some (Cond.eq (.length (.static "TheatreLedger" "VERBS" "[LTheatreLedger$Verb;")) (.int (Int32.ofNat 9))) := by decide +kernel
theorem n_Be : (List.range 9).all (fun i => decide (pkC 13 (([2912, 3936, 1248, 2784, 3808, 2528, 3552, 3040, 4064] : List Nat).getD i 0) narrow_1 = some (Cond.eq (.elem (.static "TheatreLedger" "VERBS" "[LTheatreLedger$Verb;") (.int (Int32.ofNat i))) (.static "TheatreLedger$Verb" (xVn.getD i "") "LTheatreLedger$Verb;")))) = true := by decide +kernel
theorem n_Wa : pkC 13 2576 narrow_1 = some (Cond.arrayOf (.static "TheatreLedger$1" "$SwitchMap$TheatreLedger$Verb" "[I") .int) := by decide +kernel
theorem n_Wl : pkC 13 3600 narrow_1 = some (Cond.eq (.length (.static "TheatreLedger$1" "$SwitchMap$TheatreLedger$Verb" "[I")) (.int (Int32.ofNat 9))) := by decide +kernel
theorem n_We : (List.range 9).all (fun i => decide (pkC 13 (([1296, 2832, 3856, 1168, 2704, 3728, 1424, 2960, 3984] : List Nat).getD i 0) narrow_1 = some (Cond.eq (.elem (.static "TheatreLedger$1" "$SwitchMap$TheatreLedger$Verb" "[I") (.int (Int32.ofNat i))) (.int (Int32.ofNat (i + 1)))))) = true := by decide +kernel
theorem n_Sx : (List.range 15).all (fun i => decide (pkC 13 (([3901, 3837, 355, 395, 731, 263, 359, 983, 687, 2685, 707, 691, 363, 399, 319] : List Nat).getD i 0) narrow_1 = some (Cond.exactly (.string "TheatreLedger$Verb" (xKs.getD i 0)) "java/lang/String"))) = true := by decide +kernel
theorem n_Sc : (List.range 15).all (fun i => decide (pkC 13 (([1213, 2557, 739, 331, 987, 391, 743, 311, 943, 3709, 963, 947, 747, 335, 703] : List Nat).getD i 0) narrow_1 = some (Cond.eq (.field (.string "TheatreLedger$Verb" (xKs.getD i 0)) "java/lang/String" "coder" "B") (.int 0)))) = true := by decide +kernel
theorem n_Sa : (List.range 15).all (fun i => decide (pkC 13 (([2749, 3581, 995, 715, 315, 327, 999, 695, 367, 1405, 291, 371, 1003, 719, 959] : List Nat).getD i 0) narrow_1 = some (Cond.arrayOf (.field (.string "TheatreLedger$Verb" (xKs.getD i 0)) "java/lang/String" "value" "[B") .byte))) = true := by decide +kernel
theorem n_Sl : (List.range 15).all (fun i => decide (pkC 13 (([3773, 3069, 275, 971, 699, 711, 279, 951, 751, 2941, 675, 755, 283, 975, 383] : List Nat).getD i 0) narrow_1 = some (Cond.eq (.length (.field (.string "TheatreLedger$Verb" (xKs.getD i 0)) "java/lang/String" "value" "[B")) (.int (Int32.ofNat (xTln.getD i 0)))))) = true := by decide +kernel
theorem n_Se : (List.range 15).all (fun i => (List.range (xTln.getD i 0)).all (fun j => decide (pkC 13 ((([[1469, 3005, 4029, 1149], [4093, 259, 387, 323], [403, 339, 723, 979], [299, 683, 939], [955, 379, 763, 1019], [967, 295, 679, 935], [407, 343, 727], [375, 759, 1015, 271], [1007, 287, 671, 927, 351, 735, 991], [3965, 1277, 2813], [931], [1011, 267], [411, 347], [303], []] : List (List Nat)).getD i []).getD j 0) narrow_1 = some (Cond.eq (.elem (.field (.string "TheatreLedger$Verb" (xKs.getD i 0)) "java/lang/String" "value" "[B") (.int (Int32.ofNat j))) (.int ((xTxt.getD i []).getD j 0)))))) = true := by decide +kernel
theorem n_Tx : (List.range 19).all (fun i => decide (pkC 13 (([1169, 2921, 3673, 1337, 3705, 2809, 4089, 3973, 2757, 3877, 2917, 3813, 2837, 3669, 2613, 1205, 1261, 1181, 1245] : List Nat).getD i 0) narrow_1 = some (Cond.exactly (.string "TheatreLedgerLaw" (tPl.getD i (0, "")).1) "java/lang/String"))) = true := by decide +kernel
theorem n_Tc : (List.range 19).all (fun i => decide (pkC 13 (([2705, 3945, 1369, 2873, 1401, 3833, 1029, 1093, 3781, 1189, 3941, 2533, 3861, 1365, 3637, 2741, 2797, 2717, 2781] : List Nat).getD i 0) narrow_1 = some (Cond.eq (.field (.string "TheatreLedgerLaw" (tPl.getD i (0, "")).1) "java/lang/String" "coder" "B") (.int 0)))) = true := by decide +kernel
theorem n_Ta : (List.range 19).all (fun i => decide (pkC 13 (([3729, 1257, 2905, 3897, 2937, 2553, 2565, 2629, 2501, 2725, 1253, 3557, 1173, 2901, 1333, 3765, 3821, 3741, 3805] : List Nat).getD i 0) narrow_1 = some (Cond.arrayOf (.field (.string "TheatreLedgerLaw" (tPl.getD i (0, "")).1) "java/lang/String" "value" "[B") .byte))) = true := by decide +kernel
theorem n_Tl : (List.range 19).all (fun i => decide (pkC 13 (([1425, 2793, 3929, 1209, 3961, 3577, 3589, 3653, 3525, 3749, 2789, 3045, 2709, 3925, 2869, 1461, 2541, 1437, 2525] : List Nat).getD i 0) narrow_1 = some (Cond.eq (.length (.field (.string "TheatreLedgerLaw" (tPl.getD i (0, "")).1) "java/lang/String" "value" "[B")) (.int (Int32.ofNat (tTln.getD i 0)))))) = true := by decide +kernel
theorem n_Te : (List.range 19).all (fun i => (List.range (tTln.getD i 0)).all (fun j => decide (pkC 13 ((([[2961, 3985, 1105, 2641], [3817, 2537, 3561, 3049, 4073, 1049, 2585, 3609, 1305, 2841, 3865, 1177, 2713, 3737, 1433, 2969, 3993, 1113, 2649], [1241, 2777, 3801, 2521, 3545, 3033, 4057, 1081, 2617, 3641], [2745, 3769, 1465, 3001, 4025, 1145, 2681], [1273], [3065], [1285, 2821, 3845, 1157, 2693, 3717, 1413, 2949], [1349, 2885, 3909, 1221], [3013, 4037, 1061, 2597, 3621, 1317, 2853], [1445, 2981, 4005, 1125, 2661, 3685, 1381], [], [4069, 1045, 2581, 3605, 1301], [3733, 1429, 2965, 3989, 1109, 2645], [1237, 2773, 3797, 2517, 3541, 3029, 4053, 1077], [3893], [2997, 4021, 1141, 2677, 3701, 1397, 2933, 3957, 1269, 2805, 3829, 2549, 3573, 3061, 4085, 1037, 2573, 3597, 1293, 2829, 3853, 1165, 2701, 3725, 1421, 2957, 3981, 1101, 2637, 3661, 1357, 2893, 3917, 1229, 2765, 3789, 2509, 3533, 3021, 4045, 1069, 2605, 3629, 1325, 2861, 3885, 1197, 2733, 3757, 1453, 2989, 4013, 1133, 2669, 3693, 1389, 2925, 3949], [3565, 3053, 4077, 1053, 2589, 3613, 1309, 2845, 3869], [2973, 3997, 1117, 2653, 3677, 1373, 2909, 3933], [3549, 3037, 4061, 1085, 2621, 3645, 1341, 2877]] : List (List Nat)).getD i []).getD j 0) narrow_1 = some (Cond.eq (.elem (.field (.string "TheatreLedgerLaw" (tPl.getD i (0, "")).1) "java/lang/String" "value" "[B") (.int (Int32.ofNat j))) (.int ((tTxt.getD i []).getD j 0)))))) = true := by decide +kernel
theorem n_TR : (List.range 19).all (fun i => decide (lw_tbl[([1425, 1489, 1491, 1492, 1493, 1494, 1495, 1496, 1497, 1498, 1499, 1500, 1501, 1502, 1503, 1505, 1517, 1518, 1521] : List Nat).getD i 0]? = some (Cond.stringRef "TheatreLedgerLaw" (tPl.getD i (0, "")).1 (tPl.getD i (0, "")).2))) = true := by decide +kernel
theorem n_Ax : (List.range 1).all (fun i => decide (pkC 13 (([3916] : List Nat).getD i 0) narrow_1 = some (Cond.exactly (.string "TheatreLedger$Accounts" 26) "java/lang/String"))) = true := by decide +kernel
theorem n_Ac : (List.range 1).all (fun i => decide (pkC 13 (([1228] : List Nat).getD i 0) narrow_1 = some (Cond.eq (.field (.string "TheatreLedger$Accounts" 26) "java/lang/String" "coder" "B") (.int 0)))) = true := by decide +kernel
theorem n_Aa : (List.range 1).all (fun i => decide (pkC 13 (([2764] : List Nat).getD i 0) narrow_1 = some (Cond.arrayOf (.field (.string "TheatreLedger$Accounts" 26) "java/lang/String" "value" "[B") .byte))) = true := by decide +kernel
theorem n_Al : (List.range 1).all (fun i => decide (pkC 13 (([3788] : List Nat).getD i 0) narrow_1 = some (Cond.eq (.length (.field (.string "TheatreLedger$Accounts" 26) "java/lang/String" "value" "[B")) (.int (Int32.ofNat (wTln.getD i 0)))))) = true := by decide +kernel
theorem n_Ae : (List.range 1).all (fun i => (List.range (wTln.getD i 0)).all (fun j => decide (pkC 13 ((([[2508, 3532, 3020, 4044, 1068, 2604]] : List (List Nat)).getD i []).getD j 0) narrow_1 = some (Cond.eq (.elem (.field (.string "TheatreLedger$Accounts" 26) "java/lang/String" "value" "[B") (.int (Int32.ofNat j))) (.int ((wTxt.getD i []).getD j 0)))))) = true := by decide +kernel
theorem n_C : pkC 13 3584 narrow_1 = some (Cond.eq (.static "java/lang/String" "COMPACT_STRINGS" "Z") (.int 1)) := by decide +kernel
theorem n_P : pkC 13 1280 narrow_1 = some (Cond.isRef (.static "jdk/internal/util/Preconditions" "SIOOBE_FORMATTER" "Ljava/util/function/BiFunction;")) := by decide +kernel
theorem n_T1 : pkC 13 2880 narrow_1 = some (Cond.isRef (.static Bundle.tN "UNASSIGNED_STACK" Bundle.steD)) := by decide +kernel
theorem n_T2 : pkC 13 3904 narrow_1 = some (Cond.isRef (.static Bundle.tN "SUPPRESSED_SENTINEL" Bundle.listD)) := by decide +kernel
theorem n_X : (List.range 6).all (fun i => (List.range 5).all (fun j => decide (i = j) || decide (pkC 13 ((([[0, 2516, 3908, 2980, 1300], [4088, 0, 1220, 4004, 2836], [1028, 3540, 0, 1124, 3860], [2564, 3028, 2756, 0, 1172], [3588, 4052, 3780, 2660, 0], [2820, 2612, 3524, 1380, 3732]] : List (List Nat)).getD i []).getD j 0) narrow_1 = some (.not (.castable (xEx (i + 1)) (xEx (j + 1))))))) = true := by decide +kernel
theorem n_R : (List.range 23).all (fun i => decide (lw_tbl[([447, 484, 502, 519, 537, 838, 907, 933, 987, 1004, 1055, 1072, 1086, 1108, 1187, 1296, 1301, 1323, 1338, 1355, 1433, 1477, 1488] : List Nat).getD i 0]? = some (Cond.stringRef "TheatreLedger" (xTx.getD i (0, "")).1 (xTx.getD i (0, "")).2))) = true := by decide +kernel
theorem n_LV : lw_tbl[1154]? = some (Cond.laysStatic "TheatreLedger" "VERBS" "[LTheatreLedger$Verb;") := by decide +kernel
theorem n_LW : lw_tbl[1201]? = some (Cond.laysStatic "TheatreLedger$1" "$SwitchMap$TheatreLedger$Verb" "[I") := by decide +kernel
theorem n_LC : lw_tbl[97]? = some (Cond.laysStatic "java/lang/String" "COMPACT_STRINGS" "Z") := by decide +kernel
theorem n_LP : lw_tbl[113]? = some (Cond.laysStatic "jdk/internal/util/Preconditions" "SIOOBE_FORMATTER" "Ljava/util/function/BiFunction;") := by decide +kernel
theorem n_L1 : lw_tbl[429]? = some (Cond.laysStatic Bundle.tN "UNASSIGNED_STACK" Bundle.steD) := by decide +kernel
theorem n_L2 : lw_tbl[431]? = some (Cond.laysStatic Bundle.tN "SUPPRESSED_SENTINEL" Bundle.listD) := by decide +kernel
theorem n_LA : lw_tbl[87]? = some (Cond.stringRef "TheatreLedger$Accounts" 26 "aaalie") := by decide +kernel
theorem n_IF : lw_tbl[57]? = some (Cond.initialized "TheatreLedger$Fault") := by decide +kernel
theorem n_IL : lw_tbl[37]? = some (Cond.initialized "TheatreLedger") := by decide +kernel
theorem n_I1 : lw_tbl[65]? = some (Cond.initialized "TheatreLedger$1") := by decide +kernel
theorem n_IS : lw_tbl[40]? = some (Cond.initialized "java/lang/String") := by decide +kernel
theorem n_IP : lw_tbl[42]? = some (Cond.initialized "jdk/internal/util/Preconditions") := by decide +kernel
theorem n_IT : lw_tbl[51]? = some (Cond.initialized "java/lang/Throwable") := by decide +kernel
theorem n_OB : lw_tbl[289]? = some (Cond.arrayOver (.object "TheatreLedger$Books")) := by decide +kernel
theorem n_OV : lw_tbl[323]? = some (Cond.arrayOver (.object "TheatreLedger$Verb")) := by decide +kernel
