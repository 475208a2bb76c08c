def R_law : String := "ThreeMillsLaw"
def lw_P (b : Addr) (xs : List Int32) (args : Array Value) (s : State) : Prop := args = #[.ref b] ∧ s.IntsAt b xs ∧ xs.length ≤ 6 ∧ (Jvm.Cond.and given_1 narrow_1).before args s = true
def lw_Q (_ : Array Value) (s : State) (o : Outcome) (t : State) : Prop := o = .returned (some (.int 1)) ∧ Framed s o t [] 600002 7302232
def lw_Z (below : List Frame) (a : Array Value) (s : State) : State → Prop := fun t => ∃ o, t.status = .running ∧ Ended t below o ∧ lw_Q a s o t
/-- the law's own end, with 1 on the stack, nothing written that was there before, its room as the claim has it -/
theorem lw_ret {p : Program} {l : Launch} {e : Env} {s : State} {m : MethodId} {below : List Frame} {meth : Method} {c : Code} {b : Nat} (hx : p.tables.exec = Jvm.exec) (hb : c.code = code) (hr : meth.sig.returnType = ret) (hlocks : meth.locks = false) {pc : Nat} {H : Heap} {ls : Array Slot} (hdg : decode code pc = .ok (.ireturn, 1)) : W p l e room_1 s m #[Value.ref b] below meth c H [] 600002 7302232 (lw_Z below #[Value.ref b] s) (F0 m pc ls [.int 1]) := by
  intro T hT X
  obtain ⟨fs, hret, hrun, hended, hW, hframe⟩ := X.leave (v := some (.int 1)) (hlocks := hlocks) (fun h => by rw [hr] at h; cases h)
  have hmeth' : T.vm.method? m = some meth := X.method'
  refine ⟨T.setFrames fs, ?_, .returned (some (.int 1)), hrun, hended, rfl, ⟨_, rfl⟩, hW, hframe⟩
  jvm_step X.here [X.here.top, hx, hb, hdg, hmeth', hr, ret, narrow_b1]
  (try refine ⟨rfl, ?_⟩); (try refine ⟨rfl, ?_⟩)
  first | (intro acts; rw [hret _ acts rfl rfl rfl]) | rw [hret _ _ rfl rfl rfl]
  exact Steps.refl _
/-- what holds at the law's entry: the machine, the code, the tables' words (any of lw_tbl by 'hts w (by decide +kernel)'), the script of L ints xs at the cell b, what the Statement gives of the start (any of its parts by flat_of_before) -/
def lw_At (p : Program) (s : State) (m : MethodId) (meth : Method) (c : Code) (b L : Nat) (xs : Nat → Int32) : Prop :=
  p.tables.exec = Jvm.exec ∧ c.code = code ∧ meth.sig.returnType = ret ∧ c.maxLocals = 7 ∧ s.vm.findClass R_law = some m.cls ∧ (∀ w ∈ lw_tbl, w.before #[Value.ref b] s = true) ∧ va_X b L xs s s.heap ∧ b < s.heap.size ∧ meth.locks = false ∧ (Jvm.Cond.and given_1 narrow_1).before #[Value.ref b] s = true

theorem q_places {big ws : List Cond} (ps : List Nat) (hp : ws = ps.filterMap (fun i => big[i]?)) : ∀ w ∈ ws, w ∈ big := by
  intro w hw
  rw [hp] at hw
  obtain ⟨i, -, hi⟩ := List.mem_filterMap.mp hw
  first | exact List.mem_of_getElem? hi | exact List.getElem?_mem hi
theorem q_and {x z : Int32} (h : z = x &&& 15) : z = 0 ∨ z = 1 ∨ z = 2 ∨ z = 3 ∨ z = 4 ∨ z = 5 ∨ z = 6 ∨ z = 7 ∨ z = 8 ∨ z = 9 ∨ z = 10 ∨ z = 11 ∨ z = 12 ∨ z = 13 ∨ z = 14 ∨ z = 15 := by
  have h1 : z.toBitVec.toNat ≤ 15 := by
    rw [h, Int32.toBitVec_and, BitVec.toNat_and]
    exact Nat.and_le_right
  have h2 : z = Int32.ofBitVec (BitVec.ofNat 32 z.toBitVec.toNat) := by
    rw [BitVec.ofNat_toNat, BitVec.setWidth_eq]
    first | rfl | exact (Int32.ofBitVec_toBitVec z).symm | simp
  generalize z.toBitVec.toNat = n at h1 h2
  have h3 : n = 0 ∨ n = 1 ∨ n = 2 ∨ n = 3 ∨ n = 4 ∨ n = 5 ∨ n = 6 ∨ n = 7 ∨ n = 8 ∨ n = 9 ∨ n = 10 ∨ n = 11 ∨ n = 12 ∨ n = 13 ∨ n = 14 ∨ n = 15 := by omega
  rw [h2]
  rcases h3 with rfl | rfl | rfl | rfl | rfl | rfl | rfl | rfl | rfl | rfl | rfl | rfl | rfl | rfl | rfl | rfl <;> decide
theorem q_split {x : Int32} (hi : Nat) (M : Int32) (hM : M.toInt = hi) : (∃ k : Nat, k ≤ hi ∧ x = nI k) ∨ x.toInt < 0 ∨ (hi : Int) < x.toInt := by
  by_cases h0 : x < 0
  · exact Or.inr (Or.inl (by rw [Int32.lt_iff_toInt_lt] at h0; have h9 : (0 : Int32).toInt = 0 := by decide
                             omega))
  · by_cases h1 : x ≤ M
    · exact Or.inl (nI_of2 hM h0 h1)
    · refine Or.inr (Or.inr ?_)
      rw [Int32.le_iff_toInt_le] at h1
      omega
theorem q_len {L : Nat} (h : L ≤ 5) : Int32.ofNat L - 6 < 0 := by
  have h3 : L = 0 ∨ L = 1 ∨ L = 2 ∨ L = 3 ∨ L = 4 ∨ L = 5 := by omega
  rcases h3 with rfl | rfl | rfl | rfl | rfl | rfl <;> decide
theorem q_str {args : Array Value} {s : State} {own tx : String} {k : Nat} {A : Nat → Prop} (h1 : (Cond.stringRef own k tx).before args s = true) (h2 : (Cond.exactly (.string own k) "java/lang/String").before args s = true) (hA : ∀ a : Nat, a < s.heap.size → ¬ A a) : ∃ q : Nat, vk_R own k tx q s ∧ va_O "java/lang/String" q A s s.heap := by
  obtain ⟨a, c, cA, kA, q1, -⟩ := Cond.exactly_spec (args := args) (first := s) (o := none) (s := s) (idx := []) (t := .string own k) (cls := "java/lang/String") h2
  exact ⟨a, vk_R.of h1 q1, va_Oof h2 q1 hA⟩

theorem bgi_0 : ∀ w ∈ bg0, w ∈ lw_tbl := q_places [208, 209, 210, 224, 602, 603, 211, 212, 179, 216, 217, 218, 215, 213, 214, 604, 225, 226, 180, 230, 330, 331, 265, 332, 333, 334, 335, 336, 337, 338, 339, 340, 341, 342, 343, 231, 232, 181, 236, 237] (by decide +kernel)
theorem bgi_1 : ∀ w ∈ bg1, w ∈ lw_tbl := q_places [238, 239, 240, 241, 242, 243, 244, 245, 235, 233, 234, 344, 266, 267, 182, 271, 272, 273, 274, 275, 276, 277, 278, 279, 280, 281, 282, 283, 284, 285, 286, 287, 288, 289, 290, 270, 268, 269, 345, 229] (by decide +kernel)
theorem bgi_2 : ∀ w ∈ bg2, w ∈ lw_tbl := q_places [227, 228, 605, 606, 607, 608, 609, 379, 380, 183, 384, 423, 388, 385, 386, 387, 424, 389, 390, 184, 394, 395, 396, 397, 398, 399, 400, 401, 402, 403, 393, 391, 392, 425, 426, 427, 428, 383, 381, 382] (by decide +kernel)
theorem bgi_3 : ∀ w ∈ bg3, w ∈ lw_tbl := q_places [610, 442, 443, 185, 447, 453, 451, 448, 449, 450, 454, 452, 455, 446, 444, 445, 611, 463, 464, 186, 468, 469, 467, 465, 466, 612, 473, 474, 187, 478, 481, 482, 479, 483, 480, 484, 485, 486, 477, 475] (by decide +kernel)
theorem bgi_4 : ∀ w ∈ bg4, w ∈ lw_tbl := q_places [476, 613, 500, 501, 188, 505, 507, 508, 509, 510, 511, 506, 512, 513, 514, 504, 502, 503, 614, 532, 533, 189, 537, 541, 538, 539, 542, 543, 540, 544, 545, 547, 548, 550, 555, 536, 534, 535, 615, 207] (by decide +kernel)
theorem bgi_5 : ∀ w ∈ bg5, w ∈ lw_tbl := q_places [1793, 1794, 1808, 1810, 1811, 1812, 1826, 1829, 1830, 1831, 1832, 1833, 1834, 1835, 2052, 1836, 1838, 1839, 1840, 1841, 1843, 1844, 1845, 1846, 1847, 1848, 1849, 1850, 1851, 1852, 1853, 1854, 1856, 1857, 1859, 1860, 1861, 2053, 1862, 1863] (by decide +kernel)
theorem bgi_6 : ∀ w ∈ bg6, w ∈ lw_tbl := q_places [1874, 1878, 1879, 1880, 1881, 1882, 1885, 1886, 1888, 1792, 652, 178, 649, 651, 0, 648, 645, 646, 647, 1809, 1813, 2273, 190, 2270, 2271, 2272, 1218, 1219, 195, 1220, 1221, 1222, 1223, 1224, 1226, 1225, 196, 934, 933, 1234] (by decide +kernel)
theorem bgi_7 : ∀ w ∈ bg7, w ∈ lw_tbl := q_places [1231, 1233, 41, 1230, 1227, 1228, 1229, 1238, 1235, 1236, 1237, 1217, 1214, 1215, 1216, 1254, 1251, 1252, 1253, 790, 1255, 788, 789, 1250, 1247, 1249, 42, 750, 749, 1307, 1304, 1305, 1306, 1246, 1243, 1244, 1245, 1320, 1317, 1318] (by decide +kernel)
theorem bgi_8 : ∀ w ∈ bg8, w ∈ lw_tbl := q_places [1319, 1324, 1321, 1323, 50, 1316, 1313, 1315, 49, 1332, 1329, 1330, 1331, 1336, 1333, 1334, 1335, 1340, 1337, 1338, 1339, 1328, 1325, 1327, 51, 1312, 1309, 1311, 48, 1531, 1528, 1529, 1530, 1368, 1365, 1367, 54, 1242, 1239, 1240] (by decide +kernel)
theorem bgi_9 : ∀ w ∈ bg9, w ∈ lw_tbl := q_places [1241, 1535, 1532, 1533, 1534, 1686, 1683, 1684, 1685, 1147, 1144, 1145, 1146, 1142, 177, 1140, 1141, 1814, 1827, 1837, 1842, 1858, 1864, 1855, 1823, 1816, 2077, 2074, 2076, 100, 1821, 1820, 1819, 1818, 1822, 2073, 2070, 2072, 99, 2108] (by decide +kernel)
theorem bgi_10 : ∀ w ∈ bg10, w ∈ lw_tbl := q_places [2105, 2107, 105, 2112, 2109, 2111, 106, 2104, 2101, 2103, 104, 2100, 2097, 2099, 103, 1824, 2120, 2117, 2119, 108, 2116, 2113, 2115, 107, 2096, 2093, 2095, 102, 1828, 2069, 2066, 2068, 98, 1825, 1817, 2061, 2058, 2059, 2060, 2057] (by decide +kernel)
theorem bgi_11 : ∀ w ∈ bg11, w ∈ lw_tbl := q_places [2054, 2055, 2056, 1148, 194, 1143, 2065, 2062, 2064, 97, 1694, 1691, 1692, 1693, 1689, 1687, 1688, 2277, 2274, 2275, 2276, 1695, 202, 1690, 1717, 1714, 1715, 1716, 1713, 1711, 1712, 2281, 2278, 2279, 2280, 920, 917, 918, 919, 1887] (by decide +kernel)
theorem bgi_12 : ∀ w ∈ bg12, w ∈ lw_tbl := q_places [2282, 559, 1725, 1722, 1723, 1724, 1865, 1737, 1734, 1736, 96, 1733, 1730, 1731, 1732, 1729, 1727, 1728, 2286, 2283, 2284, 2285, 1755, 1752, 1753, 1754, 1751, 1749, 1750, 2290, 2287, 2288, 2289, 660, 657, 658, 659, 656, 653, 654] (by decide +kernel)
theorem bgi_13 : ∀ w ∈ bg13, w ∈ lw_tbl := q_places [655, 2294, 2291, 2292, 2293, 924, 921, 922, 923, 2369, 2366, 2367, 2368, 955, 952, 953, 954, 2379, 2376, 2377, 2378, 1122, 1119, 1120, 1121, 1764, 1761, 1762, 1763, 1760, 1758, 1759, 2444, 2441, 2442, 2443, 556, 1768, 1765, 1766] (by decide +kernel)
theorem bgi_14 : ∀ w ∈ bg14, w ∈ lw_tbl := q_places [1767, 557, 1772, 1769, 1770, 1771, 558, 1776, 1773, 1774, 1775, 1118, 1115, 1116, 1117, 1877, 2448, 2445, 2446, 2447, 1139, 1785, 1137, 1138, 1784, 1781, 1782, 1783, 1780, 1778, 1779, 2457, 2454, 2455, 2456, 203, 204, 205, 206, 1788] (by decide +kernel)
theorem bgi_15 : ∀ w ∈ bg15, w ∈ lw_tbl := q_places [1789, 1790, 1791] (by decide +kernel)
theorem bgi_X0 : ∀ w ∈ wsX00, w ∈ lw_tbl := q_places [291, 293, 295, 297, 299, 301, 303, 305, 307, 309, 311, 313, 315, 317, 319, 321, 323, 325, 327] (by decide +kernel)
theorem bgi_X1 : ∀ w ∈ wsX10, w ∈ lw_tbl := q_places [456, 458, 460] (by decide +kernel)
theorem bgi_X2 : ∀ w ∈ wsX20, w ∈ lw_tbl := q_places [515, 517, 519, 521, 523, 525, 527, 529] (by decide +kernel)
theorem bgi_X3 : ∀ w ∈ wsX30, w ∈ lw_tbl := q_places [219, 221] (by decide +kernel)
theorem bgi_X4 : ∀ w ∈ wsX40, w ∈ lw_tbl := q_places [561, 563, 565, 567, 569, 571, 573, 575, 577, 579, 581, 583, 585, 587, 589, 591, 593, 595, 597, 599] (by decide +kernel)
theorem bgi_X5 : ∀ w ∈ wsX50, w ∈ lw_tbl := q_places [470] (by decide +kernel)
theorem bgi_X6 : ∀ w ∈ wsX60, w ∈ lw_tbl := q_places [429, 431, 433, 435, 437, 439] (by decide +kernel)
theorem bgi_X7 : ∀ w ∈ wsX70, w ∈ lw_tbl := q_places [346, 348, 350, 352, 354, 356, 358, 360, 362, 364, 366, 368, 370, 372, 374, 376] (by decide +kernel)
theorem bgi_X8 : ∀ w ∈ wsX80, w ∈ lw_tbl := q_places [404, 406, 408, 410, 412, 414, 416, 418, 420] (by decide +kernel)
theorem bgi_X9 : ∀ w ∈ wsX90, w ∈ lw_tbl := q_places [487, 489, 491, 493, 495, 497] (by decide +kernel)
theorem bgi_X10 : ∀ w ∈ wsX100, w ∈ lw_tbl := q_places [246, 248, 250, 252, 254, 256, 258, 260, 262] (by decide +kernel)
theorem bgi_X11 : ∀ w ∈ wsX110, w ∈ lw_tbl := q_places [616, 618, 620, 622, 624, 626, 628, 630, 632, 634, 636, 638, 640, 642] (by decide +kernel)
theorem bgi_X12 : ∀ w ∈ wsX120, w ∈ lw_tbl := q_places [1889, 1891, 1893, 1895, 1897, 1899, 1901, 1903, 1905, 1907, 1909, 1911, 1913, 1915, 1917, 1919, 1921, 1923, 1925, 1927, 1929, 1931, 1933, 1935, 1937, 1939, 1941, 1943, 1945, 1947, 1949, 1951, 1953, 1955, 1957, 1959, 1961, 1963, 1965, 1967, 1969, 1971, 1973, 1975, 1977, 1979, 1981, 1983, 1985, 1987, 1989, 1991, 1993, 1995, 1997, 1999, 2001, 2003, 2005, 2007, 2009, 2011, 2013, 2015, 2017, 2019, 2021, 2023, 2025, 2027, 2029, 2031, 2033, 2035, 2037, 2039, 2041, 2043, 2045, 2047, 2049] (by decide +kernel)
theorem bgi_thrN : ∀ w ∈ thrN, w ∈ lw_tbl := by decide +kernel
theorem bgi_thrI : ∀ w ∈ thrI, w ∈ lw_tbl := by decide +kernel
theorem bigIn_A : ∀ w ∈ bigA, w ∈ lw_tbl := (fun w h => (List.mem_append.mp h).elim (bgi_0 w) ((fun w h => (List.mem_append.mp h).elim (bgi_1 w) ((fun w h => (List.mem_append.mp h).elim (bgi_2 w) ((fun w h => (List.mem_append.mp h).elim (bgi_3 w) ((fun w h => (List.mem_append.mp h).elim (bgi_4 w) ((fun w h => (List.mem_append.mp h).elim (bgi_5 w) ((fun w h => (List.mem_append.mp h).elim (bgi_6 w) ((fun w h => (List.mem_append.mp h).elim (bgi_7 w) ((fun w h => (List.mem_append.mp h).elim (bgi_8 w) ((fun w h => (List.mem_append.mp h).elim (bgi_9 w) ((fun w h => (List.mem_append.mp h).elim (bgi_10 w) ((fun w h => (List.mem_append.mp h).elim (bgi_11 w) ((fun w h => (List.mem_append.mp h).elim (bgi_12 w) ((fun w h => (List.mem_append.mp h).elim (bgi_13 w) ((fun w h => (List.mem_append.mp h).elim (bgi_14 w) (bgi_15 w)) w)) w)) w)) w)) w)) w)) w)) w)) w)) w)) w)) w)) w)) w))
theorem bigIn_X : ∀ w ∈ wsX00 ++ (wsX10 ++ (wsX20 ++ (wsX30 ++ (wsX40 ++ (wsX50 ++ (wsX60 ++ (wsX70 ++ (wsX80 ++ (wsX90 ++ (wsX100 ++ (wsX110 ++ (wsX120)))))))))))), w ∈ lw_tbl := (fun w h => (List.mem_append.mp h).elim (bgi_X0 w) ((fun w h => (List.mem_append.mp h).elim (bgi_X1 w) ((fun w h => (List.mem_append.mp h).elim (bgi_X2 w) ((fun w h => (List.mem_append.mp h).elim (bgi_X3 w) ((fun w h => (List.mem_append.mp h).elim (bgi_X4 w) ((fun w h => (List.mem_append.mp h).elim (bgi_X5 w) ((fun w h => (List.mem_append.mp h).elim (bgi_X6 w) ((fun w h => (List.mem_append.mp h).elim (bgi_X7 w) ((fun w h => (List.mem_append.mp h).elim (bgi_X8 w) ((fun w h => (List.mem_append.mp h).elim (bgi_X9 w) ((fun w h => (List.mem_append.mp h).elim (bgi_X10 w) ((fun w h => (List.mem_append.mp h).elim (bgi_X11 w) (bgi_X12 w)) w)) w)) w)) w)) w)) w)) w)) w)) w)) w)) w))
theorem bigIn : ∀ w ∈ bigW, w ∈ lw_tbl := fun w h => (List.mem_append.mp h).elim (fun h => (List.mem_append.mp h).elim (bigIn_A w) ((fun w h => (List.mem_append.mp h).elim (bgi_thrN w) (bgi_thrI w)) w)) (bigIn_X w)

theorem gIl {cy : Cond} (h : cy ∈ bigW) : GoodIn lw_tbl (cy :: bigW) := gC bigIn h
theorem gVl {cy : Cond} {own : String} {idx : Nat} {C : String} {y : MethodName} (h1 : Cond.methodLink own idx y ∈ bigW) (h2 : Cond.instanceMethod y ∈ bigW) (h3 : Cond.selects C y y ∈ bigW) (h4 : Cond.initialized C ∈ bigW) (h5 : cy ∈ bigW) : GoodIn lw_tbl (wsV own idx C y (cy :: bigW)) := g4 bigIn h1 h2 h3 h4 h5
theorem gSl {cy : Cond} {own : String} {idx : Nat} {y : MethodName} (h1 : Cond.methodLink own idx y ∈ bigW) (h2 : Cond.static y ∈ bigW) (h3 : Cond.initialized y.cls ∈ bigW) (h5 : cy ∈ bigW) : GoodIn lw_tbl (va_wsS own idx y (cy :: bigW)) := g3 bigIn h1 h2 h3 h5

theorem q_nest_in : ∀ w ∈ q_nest.map (fun q => Cond.methodLinkNest q.1 q.2.1 q.2.2.1 q.2.2.2), w ∈ lw_tbl := by decide +kernel
theorem q_casts_in : ∀ w ∈ q_casts, w ∈ lw_tbl ∧ w.onTables = true := by decide +kernel
theorem q_ao_in : Cond.arrayOver (.object "java/lang/String") ∈ lw_tbl := by decide +kernel
theorem q_lsU_in : Cond.laysStatic Bundle.tN "UNASSIGNED_STACK" Bundle.steD ∈ lw_tbl := by decide +kernel
theorem q_lsN_in : Cond.laysStatic Bundle.tN "SUPPRESSED_SENTINEL" Bundle.listD ∈ lw_tbl := by decide +kernel
theorem q_ti_in : Cond.initialized Bundle.tN ∈ lw_tbl := by decide +kernel
theorem q_sr0_in : Cond.stringRef RX12 9 "let" ∈ lw_tbl := by decide +kernel
theorem q_sr1_in : Cond.stringRef RX12 11 "rec" ∈ lw_tbl := by decide +kernel
theorem q_sr2_in : Cond.stringRef RX12 13 "in" ∈ lw_tbl := by decide +kernel
theorem q_sr3_in : Cond.stringRef RX12 15 "if" ∈ lw_tbl := by decide +kernel
theorem q_sr4_in : Cond.stringRef RX12 17 "then" ∈ lw_tbl := by decide +kernel
theorem q_sr5_in : Cond.stringRef RX12 19 "else" ∈ lw_tbl := by decide +kernel
theorem q_sr6_in : Cond.stringRef RX12 21 "true" ∈ lw_tbl := by decide +kernel
theorem q_sr7_in : Cond.stringRef RX12 23 "false" ∈ lw_tbl := by decide +kernel
theorem q_sr8_in : Cond.stringRef RX12 25 "fst" ∈ lw_tbl := by decide +kernel
theorem q_sr9_in : Cond.stringRef RX12 27 "snd" ∈ lw_tbl := by decide +kernel
theorem q_sr10_in : Cond.stringRef RX12 29 "int" ∈ lw_tbl := by decide +kernel
theorem q_sr11_in : Cond.stringRef RX12 31 "bool" ∈ lw_tbl := by decide +kernel
theorem q_sr12_in : Cond.stringRef RX11 99 "the tape has not so many bytes" ∈ lw_tbl := by decide +kernel
theorem q_sr13_in : Cond.stringRef RX11 124 "no such part of a fault" ∈ lw_tbl := by decide +kernel
theorem q_sr14_in : Cond.stringRef RX11 154 "no such count" ∈ lw_tbl := by decide +kernel
theorem q_sr15_in : Cond.stringRef RX11 160 "no such function" ∈ lw_tbl := by decide +kernel
theorem q_sr16_in : Cond.stringRef RX11 184 "no such need" ∈ lw_tbl := by decide +kernel
theorem q_sr17_in : Cond.stringRef RX11 228 "no such cost" ∈ lw_tbl := by decide +kernel
theorem q_sr18_in : Cond.stringRef RX11 241 "no such byte" ∈ lw_tbl := by decide +kernel
set_option maxHeartbeats 4000000 in
set_option maxRecDepth 100000 in
theorem law_E {p : Program} {s : State} {m : MethodId} {meth : Method} {c : Code} {b L : Nat} {xs : Nat → Int32} (C0 : lw_At p s m meth c b L xs) : q_E (fun q : Nat => s.heap.size ≤ q) s := by
  obtain ⟨hx, hb, hr, hml, hown, hts, hX, hbl, hlocks, hgv⟩ := C0
  have hf := flat_of_before _ hgv
  have hA : ∀ a : Nat, a < s.heap.size → ¬ (fun q : Nat => s.heap.size ≤ q) a := fun a h h2 => Nat.not_le.mpr h h2
  refine ⟨?_, vx_Zqof (hts _ q_lsU_in) (hts _ q_ti_in) (hf _ (by decide +kernel)) hA, vx_Zqof (hts _ q_lsN_in) (hts _ q_ti_in) (hf _ (by decide +kernel)) hA, fun q hq => va_Nw.of rfl (hts _ (q_nest_in _ (List.mem_map.mpr ⟨q, hq, rfl⟩))), fun w hw => va_Nw.of (q_casts_in w hw).2 (hts _ (q_casts_in w hw).1), va_AO.of (hts _ q_ao_in)⟩
  intro z hz
  simp only [q_strs, List.mem_cons, List.not_mem_nil, or_false] at hz
  rcases hz with rfl | rfl | rfl | rfl | rfl | rfl | rfl | rfl | rfl | rfl | rfl | rfl | rfl | rfl | rfl | rfl | rfl | rfl | rfl
  · exact q_str (hts _ q_sr0_in) (hf _ (by decide +kernel)) hA
  · exact q_str (hts _ q_sr1_in) (hf _ (by decide +kernel)) hA
  · exact q_str (hts _ q_sr2_in) (hf _ (by decide +kernel)) hA
  · exact q_str (hts _ q_sr3_in) (hf _ (by decide +kernel)) hA
  · exact q_str (hts _ q_sr4_in) (hf _ (by decide +kernel)) hA
  · exact q_str (hts _ q_sr5_in) (hf _ (by decide +kernel)) hA
  · exact q_str (hts _ q_sr6_in) (hf _ (by decide +kernel)) hA
  · exact q_str (hts _ q_sr7_in) (hf _ (by decide +kernel)) hA
  · exact q_str (hts _ q_sr8_in) (hf _ (by decide +kernel)) hA
  · exact q_str (hts _ q_sr9_in) (hf _ (by decide +kernel)) hA
  · exact q_str (hts _ q_sr10_in) (hf _ (by decide +kernel)) hA
  · exact q_str (hts _ q_sr11_in) (hf _ (by decide +kernel)) hA
  · exact q_str (hts _ q_sr12_in) (hf _ (by decide +kernel)) hA
  · exact q_str (hts _ q_sr13_in) (hf _ (by decide +kernel)) hA
  · exact q_str (hts _ q_sr14_in) (hf _ (by decide +kernel)) hA
  · exact q_str (hts _ q_sr15_in) (hf _ (by decide +kernel)) hA
  · exact q_str (hts _ q_sr16_in) (hf _ (by decide +kernel)) hA
  · exact q_str (hts _ q_sr17_in) (hf _ (by decide +kernel)) hA
  · exact q_str (hts _ q_sr18_in) (hf _ (by decide +kernel)) hA
