/-! ===== the start: the Statement's own words, found by the turns of its tree ===== -/
def pkC : Nat → Nat → Cond → Option Cond
  | 0, _, _ => none
  | f + 1, k, T => if k = 1 then some T else match T with
    | .and a b => if k % 2 = 0 then pkC f (k / 2) a else pkC f (k / 2) b
    | _ => none
theorem pk_before {args : Array Value} {s : State} {w : Cond} : ∀ (f k : Nat) (T : Cond), pkC f k T = some w → T.before args s = true → w.before args s = true := by
  intro f
  induction f with
  | zero => intro k T h _; cases h
  | succ f ih =>
    intro k T h hT
    unfold pkC at h
    by_cases hk : k = 1
    · rw [if_pos hk] at h
      cases h
      exact hT
    · rw [if_neg hk] at h
      cases T with
      | and a b =>
        rw [Cond.before_and, Bool.and_eq_true] at hT
        dsimp only at h
        by_cases h2 : k % 2 = 0
        · rw [if_pos h2] at h
          exact ih _ _ h hT.1
        · rw [if_neg h2] at h
          exact ih _ _ h hT.2
      | _ => simp at h
theorem pkb {args : Array Value} {s : State} {k : Nat} {w : Cond} (h : pkC 13 k narrow_1 = some w) (hg : narrow_1.before args s = true) : w.before args s = true := pk_before _ _ _ h hg
theorem pkA {args : Array Value} {s : State} {n : Nat} {K : List Nat} {f : Nat → Cond} (h : (List.range n).all (fun i => decide (pkC 13 (K.getD i 0) narrow_1 = some (f i))) = true) (hg : narrow_1.before args s = true) : ∀ i, i < n → (f i).before args s = true := fun i hi => pkb (of_decide_eq_true (List.all_eq_true.mp h i (List.mem_range.mpr hi))) hg
theorem pkE {args : Array Value} {s : State} {n : Nat} {m : Nat → Nat} {K : List (List Nat)} {f : Nat → Nat → Cond} (h : (List.range n).all (fun i => (List.range (m i)).all (fun j => decide (pkC 13 ((K.getD i []).getD j 0) narrow_1 = some (f i j)))) = true) (hg : narrow_1.before args s = true) : ∀ i, i < n → ∀ j, j < m i → (f i j).before args s = true := fun i hi j hj => pkb (of_decide_eq_true (List.all_eq_true.mp (List.all_eq_true.mp h i (List.mem_range.mpr hi)) j (List.mem_range.mpr hj))) hg
theorem pkD {args : Array Value} {s : State} {n : Nat} {K : List (List Nat)} {f : Nat → Term} (h : (List.range n).all (fun i => (List.range n).all (fun j => decide (i = j) || (decide (pkC 13 ((K.getD i []).getD j 0) narrow_1 = some (.not (.eq (f i) (f j)))) || decide (pkC 13 ((K.getD i []).getD j 0) narrow_1 = some (.not (.eq (f j) (f i))))))) = true) (hg : narrow_1.before args s = true) : ∀ i j, i < n → j < n → i ≠ j → (Cond.not (.eq (f i) (f j))).before args s = true ∨ (Cond.not (.eq (f j) (f i))).before args s = true := by
  intro i j hi hj hne
  have h1 := List.all_eq_true.mp (List.all_eq_true.mp h i (List.mem_range.mpr hi)) j (List.mem_range.mpr hj)
  simp only [Bool.or_eq_true, decide_eq_true_eq] at h1
  rcases h1 with h1 | h1 | h1
  · exact absurd h1 hne
  · exact .inl (pkb h1 hg)
  · exact .inr (pkb h1 hg)
theorem pkX {args : Array Value} {s : State} {n : Nat} {K : List (List Nat)} {f : Nat → Nat → Cond} (h : (List.range n).all (fun i => (List.range n).all (fun j => decide (i = j) || decide (pkC 13 ((K.getD i []).getD j 0) narrow_1 = some (f i j)))) = true) (hg : narrow_1.before args s = true) : ∀ i j, i < n → j < n → i ≠ j → (f i j).before args s = true := by
  intro i j hi hj hne
  have h1 := List.all_eq_true.mp (List.all_eq_true.mp h i (List.mem_range.mpr hi)) j (List.mem_range.mpr hj)
  simp only [Bool.or_eq_true, decide_eq_true_eq] at h1
  rcases h1 with h1 | h1
  · exact absurd h1 hne
  · exact pkb h1 hg
theorem tbA {args : Array Value} {s : State} {n : Nat} {K : List Nat} {f : Nat → Cond} (h : (List.range n).all (fun i => decide (lw_tbl[K.getD i 0]? = some (f i))) = true) (hts : ∀ w ∈ lw_tbl, w.before args s = true) : ∀ i, i < n → (f i).before args s = true := fun i hi => hts _ (List.mem_of_getElem? (of_decide_eq_true (List.all_eq_true.mp h i (List.mem_range.mpr hi))))
def xKs : List Nat := [58, 66, 71, 76, 81, 84, 87, 90, 95, 60, 68, 73, 78, 92, 97]
theorem n_Fl : (List.range 6).all (fun i => decide (lw_tbl[([698, 705, 778, 696, 700, 830] : List Nat).getD i 0]? = some (Cond.laysStatic "TheatreLedger$Fault" (xFn.getD i "") "LTheatreLedger$Fault;"))) = true := by decide +kernel
theorem n_Fx : (List.range 6).all (fun i => decide (pkC 13 (([1600, 1056, 1952, 1920, 1216, 1760] : List Nat).getD i 0) narrow_1 = some (Cond.exactly (.static "TheatreLedger$Fault" (xFn.getD i "") "LTheatreLedger$Fault;") "TheatreLedger$Fault"))) = true := by decide +kernel
theorem n_Fd : (List.range 6).all (fun i => (List.range 6).all (fun j => decide (i = j) || (decide (pkC 13 ((([[0, 1824, 1376, 1856, 1984, 4064], [1824, 0, 1248, 1312, 1184, 1552], [1376, 1248, 0, 1632, 1888, 1296], [1856, 1312, 1632, 0, 1472, 3040], [1984, 1184, 1888, 1472, 0, 1040], [4064, 1552, 1296, 3040, 1040, 0]] : List (List Nat)).getD i []).getD j 0) narrow_1 = some (.not (.eq (.static "TheatreLedger$Fault" (xFn.getD i "") "LTheatreLedger$Fault;") (.static "TheatreLedger$Fault" (xFn.getD j "") "LTheatreLedger$Fault;")))) || decide (pkC 13 ((([[0, 1824, 1376, 1856, 1984, 4064], [1824, 0, 1248, 1312, 1184, 1552], [1376, 1248, 0, 1632, 1888, 1296], [1856, 1312, 1632, 0, 1472, 3040], [1984, 1184, 1888, 1472, 0, 1040], [4064, 1552, 1296, 3040, 1040, 0]] : List (List Nat)).getD i []).getD j 0) narrow_1 = some (.not (.eq (.static "TheatreLedger$Fault" (xFn.getD j "") "LTheatreLedger$Fault;") (.static "TheatreLedger$Fault" (xFn.getD i "") "LTheatreLedger$Fault;"))))))) = true := by decide +kernel
theorem n_Vl : (List.range 9).all (fun i => decide (lw_tbl[([2209, 2210, 2211, 2212, 2213, 2214, 2215, 2216, 2217] : List Nat).getD i 0]? = some (Cond.laysStatic "TheatreLedger$Verb" (xVn.getD i "") "LTheatreLedger$Verb;"))) = true := by decide +kernel
theorem n_Vx : (List.range 9).all (fun i => decide (pkC 13 (([1776, 1416, 1576, 1768, 1624, 1464, 1156, 1188, 1172] : List Nat).getD i 0) narrow_1 = some (Cond.exactly (.static "TheatreLedger$Verb" (xVn.getD i "") "LTheatreLedger$Verb;") "TheatreLedger$Verb"))) = true := by decide +kernel
theorem n_Vd : (List.range 9).all (fun i => (List.range 9).all (fun j => decide (i = j) || (decide (pkC 13 ((([[0, 1064, 1896, 1432, 1336, 4088, 1476, 1508, 1492], [1064, 0, 1256, 1944, 1848, 1028, 1988, 3044, 2004], [1896, 1256, 0, 1112, 1208, 1540, 1060, 4068, 1076], [1432, 1944, 1112, 0, 1720, 1284, 1572, 1044, 1588], [1336, 1848, 1208, 1720, 0, 1796, 1316, 1556, 1332], [4088, 1028, 1540, 1284, 1796, 0, 1828, 1300, 1844], [1476, 1988, 1060, 1572, 1316, 1828, 0, 1812, 1204], [1508, 3044, 4068, 1044, 1556, 1300, 1812, 0, 1716], [1492, 2004, 1076, 1588, 1332, 1844, 1204, 1716, 0]] : List (List Nat)).getD i []).getD j 0) narrow_1 = some (.not (.eq (.static "TheatreLedger$Verb" (xVn.getD i "") "LTheatreLedger$Verb;") (.static "TheatreLedger$Verb" (xVn.getD j "") "LTheatreLedger$Verb;")))) || decide (pkC 13 ((([[0, 1064, 1896, 1432, 1336, 4088, 1476, 1508, 1492], [1064, 0, 1256, 1944, 1848, 1028, 1988, 3044, 2004], [1896, 1256, 0, 1112, 1208, 1540, 1060, 4068, 1076], [1432, 1944, 1112, 0, 1720, 1284, 1572, 1044, 1588], [1336, 1848, 1208, 1720, 0, 1796, 1316, 1556, 1332], [4088, 1028, 1540, 1284, 1796, 0, 1828, 1300, 1844], [1476, 1988, 1060, 1572, 1316, 1828, 0, 1812, 1204], [1508, 3044, 4068, 1044, 1556, 1300, 1812, 0, 1716], [1492, 2004, 1076, 1588, 1332, 1844, 1204, 1716, 0]] : List (List Nat)).getD i []).getD j 0) narrow_1 = some (.not (.eq (.static "TheatreLedger$Verb" (xVn.getD j "") "LTheatreLedger$Verb;") (.static "TheatreLedger$Verb" (xVn.getD i "") "LTheatreLedger$Verb;"))))))) = true := by decide +kernel
theorem n_Vo : (List.range 9).all (fun i => decide (pkC 13 (([1520, 1928, 1320, 1512, 1368, 1976, 1668, 1700, 1684] : List Nat).getD i 0) narrow_1 = some (Cond.eq (.field (.static "TheatreLedger$Verb" (xVn.getD i "") "LTheatreLedger$Verb;") "java/lang/Enum" "ordinal" "I") (.int (([0, 1, 2, 3, 4, 5, 6, 7, 8] : List Int32).getD i 0))))) = true := by decide +kernel
theorem n_Vw : (List.range 9).all (fun i => decide (pkC 13 (([3056, 1096, 1832, 3048, 1880, 1144, 1412, 1444, 1428] : List Nat).getD i 0) narrow_1 = some (Cond.eq (.field (.static "TheatreLedger$Verb" (xVn.getD i "") "LTheatreLedger$Verb;") "TheatreLedger$Verb" "word" "Ljava/lang/String;") (.string "TheatreLedger$Verb" (xKs.getD i 0))))) = true := by decide +kernel
theorem n_Vf : (List.range 9).all (fun i => decide (pkC 13 (([4080, 1608, 1192, 4072, 1240, 1656, 1924, 1956, 1940] : List Nat).getD i 0) narrow_1 = some (Cond.eq (.field (.static "TheatreLedger$Verb" (xVn.getD i "") "LTheatreLedger$Verb;") "TheatreLedger$Verb" "form" "Ljava/lang/String;") (.string "TheatreLedger$Verb" (xKs.getD (xForm.getD i 0) 0))))) = true := by decide +kernel
theorem n_Ba : pkC 13 1680 narrow_1 = some (Cond.arrayOf (.static "TheatreLedger" "VERBS" "[LTheatreLedger$Verb;") (.object "TheatreLedger$Verb")) := by decide +kernel
theorem n_Bl : pkC 13 1424 narrow_1 = some (Cond.eq (.length (.static "TheatreLedger" "VERBS" "[LTheatreLedger$Verb;")) (.int (Int32.ofNat 9))) := by decide +kernel
theorem n_Be : (List.range 9).all (fun i => decide (pkC 13 (([1104, 1616, 1360, 1872, 1232, 1744, 1488, 2000, 1072] : List Nat).getD i 0) narrow_1 = some (Cond.eq (.elem (.static "TheatreLedger" "VERBS" "[LTheatreLedger$Verb;") (.int (Int32.ofNat i))) (.static "TheatreLedger$Verb" (xVn.getD i "") "LTheatreLedger$Verb;")))) = true := by decide +kernel
theorem n_Wa : pkC 13 1328 narrow_1 = some (Cond.arrayOf (.static "TheatreLedger$1" "$SwitchMap$TheatreLedger$Verb" "[I") .int) := by decide +kernel
theorem n_Wl : pkC 13 1840 narrow_1 = some (Cond.eq (.length (.static "TheatreLedger$1" "$SwitchMap$TheatreLedger$Verb" "[I")) (.int (Int32.ofNat 9))) := by decide +kernel
theorem n_We : (List.range 9).all (fun i => decide (pkC 13 (([1200, 1712, 1456, 1968, 1136, 1648, 1392, 1904, 1264] : List Nat).getD i 0) narrow_1 = some (Cond.eq (.elem (.static "TheatreLedger$1" "$SwitchMap$TheatreLedger$Verb" "[I") (.int (Int32.ofNat i))) (.int (Int32.ofNat (i + 1)))))) = true := by decide +kernel
theorem n_Sx : (List.range 15).all (fun i => decide (pkC 13 (([1895, 1623, 1719, 1295, 1999, 1967, 3055, 1695, 1599, 1303, 1079, 1783, 1615, 1759, 1279] : List Nat).getD i 0) narrow_1 = some (Cond.exactly (.string "TheatreLedger$Verb" (xKs.getD i 0)) "java/lang/String"))) = true := by decide +kernel
theorem n_Sc : (List.range 15).all (fun i => decide (pkC 13 (([1255, 1367, 1463, 1807, 1071, 1135, 4079, 1439, 1343, 1815, 1591, 1527, 1359, 1503, 1791] : List Nat).getD i 0) narrow_1 = some (Cond.eq (.field (.string "TheatreLedger$Verb" (xKs.getD i 0)) "java/lang/String" "coder" "B") (.int 0)))) = true := by decide +kernel
theorem n_Sa : (List.range 15).all (fun i => decide (pkC 13 (([1767, 1879, 1975, 1167, 1583, 1647, 1055, 1951, 1855, 1175, 1335, 3063, 1871, 3039, 1535] : List Nat).getD i 0) narrow_1 = some (Cond.arrayOf (.field (.string "TheatreLedger$Verb" (xKs.getD i 0)) "java/lang/String" "value" "[B") .byte))) = true := by decide +kernel
theorem n_Sl : (List.range 15).all (fun i => decide (pkC 13 (([1511, 1239, 1143, 1679, 1327, 1391, 1567, 1119, 1215, 1687, 1847, 4087, 1231, 4063, 3071] : List Nat).getD i 0) narrow_1 = some (Cond.eq (.length (.field (.string "TheatreLedger$Verb" (xKs.getD i 0)) "java/lang/String" "value" "[B")) (.int (Int32.ofNat (xTln.getD i 0)))))) = true := by decide +kernel
theorem n_Se : (List.range 15).all (fun i => (List.range (xTln.getD i 0)).all (fun j => decide (pkC 13 ((([[3047, 4071, 1047, 1559], [1751, 1495, 3031, 4055], [1655, 1399, 1911, 1271], [1423, 1935, 1103], [1839, 1199, 1711, 1455], [1903, 1263, 1775, 1519], [1311, 1823, 1183], [1631, 1375, 1887, 1247], [1727, 1471, 1983, 1151, 1663, 1407, 1919], [1431, 1943, 1111], [1207], [1039, 1551], [1743, 1487], [1087], []] : List (List Nat)).getD i []).getD j 0) narrow_1 = some (Cond.eq (.elem (.field (.string "TheatreLedger$Verb" (xKs.getD i 0)) "java/lang/String" "value" "[B") (.int (Int32.ofNat j))) (.int ((xTxt.getD i []).getD j 0)))))) = true := by decide +kernel
theorem n_Ax : (List.range 1).all (fun i => decide (pkC 13 (([1866] : List Nat).getD i 0) narrow_1 = some (Cond.exactly (.string "TheatreLedger$Accounts" 26) "java/lang/String"))) = true := by decide +kernel
theorem n_Ac : (List.range 1).all (fun i => decide (pkC 13 (([1226] : List Nat).getD i 0) narrow_1 = some (Cond.eq (.field (.string "TheatreLedger$Accounts" 26) "java/lang/String" "coder" "B") (.int 0)))) = true := by decide +kernel
theorem n_Aa : (List.range 1).all (fun i => decide (pkC 13 (([1738] : List Nat).getD i 0) narrow_1 = some (Cond.arrayOf (.field (.string "TheatreLedger$Accounts" 26) "java/lang/String" "value" "[B") .byte))) = true := by decide +kernel
theorem n_Al : (List.range 1).all (fun i => decide (pkC 13 (([1482] : List Nat).getD i 0) narrow_1 = some (Cond.eq (.length (.field (.string "TheatreLedger$Accounts" 26) "java/lang/String" "value" "[B")) (.int (Int32.ofNat (wTln.getD i 0)))))) = true := by decide +kernel
theorem n_Ae : (List.range 1).all (fun i => (List.range (wTln.getD i 0)).all (fun j => decide (pkC 13 ((([[1994, 1066, 1578, 1322, 1834, 1194]] : List (List Nat)).getD i []).getD j 0) narrow_1 = some (Cond.eq (.elem (.field (.string "TheatreLedger$Accounts" 26) "java/lang/String" "value" "[B") (.int (Int32.ofNat j))) (.int ((wTxt.getD i []).getD j 0)))))) = true := by decide +kernel
theorem n_C : pkC 13 1280 narrow_1 = some (Cond.eq (.static "java/lang/String" "COMPACT_STRINGS" "Z") (.int 1)) := by decide +kernel
theorem n_P : pkC 13 1792 narrow_1 = some (Cond.isRef (.static "jdk/internal/util/Preconditions" "SIOOBE_FORMATTER" "Ljava/util/function/BiFunction;")) := by decide +kernel
theorem n_T1 : pkC 13 1696 narrow_1 = some (Cond.isRef (.static Bundle.tN "UNASSIGNED_STACK" Bundle.steD)) := by decide +kernel
theorem n_T2 : pkC 13 1440 narrow_1 = some (Cond.isRef (.static Bundle.tN "SUPPRESSED_SENTINEL" Bundle.listD)) := by decide +kernel
theorem n_X : (List.range 6).all (fun i => (List.range 6).all (fun j => decide (i = j) || decide (pkC 13 ((([[0, 1980, 1548, 1196, 1602, 1250], [1436, 0, 1292, 1708, 1346, 1762], [1948, 1148, 0, 1452, 1858, 1506], [1116, 1660, 1804, 0, 1218, 3042], [1628, 1404, 1164, 1964, 0, 4066], [1372, 1276, 1420, 1644, 1474, 0]] : List (List Nat)).getD i []).getD j 0) narrow_1 = some (.not (.castable (xEx (i + 1)) (xEx (j + 1))))))) = true := by decide +kernel
theorem n_R : (List.range 23).all (fun i => decide (lw_tbl[([751, 788, 805, 822, 840, 984, 1176, 1236, 1321, 1369, 1397, 1409, 1426, 1443, 1459, 1467, 1523, 1580, 1588, 1596, 1622, 1630, 1643] : List Nat).getD i 0]? = some (Cond.stringRef "TheatreLedger" (xTx.getD i (0, "")).1 (xTx.getD i (0, "")).2))) = true := by decide +kernel
theorem n_LV : lw_tbl[1492]? = some (Cond.laysStatic "TheatreLedger" "VERBS" "[LTheatreLedger$Verb;") := by decide +kernel
theorem n_LW : lw_tbl[1537]? = some (Cond.laysStatic "TheatreLedger$1" "$SwitchMap$TheatreLedger$Verb" "[I") := by decide +kernel
theorem n_LC : lw_tbl[148]? = some (Cond.laysStatic "java/lang/String" "COMPACT_STRINGS" "Z") := by decide +kernel
theorem n_LP : lw_tbl[164]? = some (Cond.laysStatic "jdk/internal/util/Preconditions" "SIOOBE_FORMATTER" "Ljava/util/function/BiFunction;") := by decide +kernel
theorem n_L1 : lw_tbl[733]? = some (Cond.laysStatic Bundle.tN "UNASSIGNED_STACK" Bundle.steD) := by decide +kernel
theorem n_L2 : lw_tbl[735]? = some (Cond.laysStatic Bundle.tN "SUPPRESSED_SENTINEL" Bundle.listD) := by decide +kernel
theorem n_LA : lw_tbl[138]? = some (Cond.stringRef "TheatreLedger$Accounts" 26 "aaalie") := by decide +kernel
theorem n_IF : lw_tbl[103]? = some (Cond.initialized "TheatreLedger$Fault") := by decide +kernel
theorem n_IL : lw_tbl[87]? = some (Cond.initialized "TheatreLedger") := by decide +kernel
theorem n_I1 : lw_tbl[117]? = some (Cond.initialized "TheatreLedger$1") := by decide +kernel
theorem n_IS : lw_tbl[90]? = some (Cond.initialized "java/lang/String") := by decide +kernel
theorem n_IP : lw_tbl[92]? = some (Cond.initialized "jdk/internal/util/Preconditions") := by decide +kernel
theorem n_IT : lw_tbl[104]? = some (Cond.initialized "java/lang/Throwable") := by decide +kernel
theorem n_OB : lw_tbl[340]? = some (Cond.arrayOver (.object "TheatreLedger$Books")) := by decide +kernel
theorem n_OV : lw_tbl[374]? = some (Cond.arrayOver (.object "TheatreLedger$Verb")) := by decide +kernel
