/-! ===== the classes, and what the tables say of them ===== -/
abbrev bCL : List vw_C := [(RX0, TX0, 8), (RX1, TX1, 10), (RX2, TX2, 16), (RX3, TX3, 17), (RX4, TX4, 10), (RX5, TX5, 18), (RX6, TX6, 16), (RX7, TX7, 9), (RX8, TX8, 11), (RX9, TX9, 15), (RX10, TX10, 11), (RX11, TX11, 17), (RX12, TX12, 97)]
def bT : List Cond := lw_tbl.filter goodWord
theorem bT_of {w : Cond} (i : Nat) (h : lw_tbl[i]? = some w) (hg : goodWord w = true) : w ∈ bT := List.mem_filter.mpr ⟨List.mem_of_getElem? h, hg⟩
theorem bT_good {w : Cond} (h : w ∈ bT) : (w.onTables && w.keeps) = true ∨ ∃ ty, w = .arrayClass ty := good_of_word (List.mem_filter.mp h).2
theorem bT_in (w : Cond) : GoodIn (w :: bT) bT := fun v h => ⟨List.mem_cons_of_mem _ h, bT_good h⟩
theorem bT_code {y : MethodName} {cc : ByteArray} {n : Nat} {ret : Option FieldType} (h : Cond.code y cc n ret ∈ bT) : GoodIn bT (Cond.code y cc n ret :: bT) := by
  intro v hv
  have hm : v ∈ bT := by
    rcases List.mem_cons.mp hv with e | e
    · rw [e]; exact h
    · exact e
  exact ⟨hm, bT_good hm⟩
theorem bT_ps {ws : List Cond} (ps : List Nat) (hp : ws = ps.filterMap (fun i => lw_tbl[i]?)) (hg : ws.all goodWord = true) : ∀ w ∈ ws, w ∈ bT := by
  intro w hw
  refine List.mem_filter.mpr ⟨?_, List.all_eq_true.mp hg w hw⟩
  rw [hp] at hw
  obtain ⟨i, -, hi⟩ := List.mem_filterMap.mp hw
  exact List.mem_of_getElem? hi
/-- class number ci of bCL is q, its fields of the types ty -/
def bCI (ci : Nat) (q : vw_C) (ty : Nat → FieldType) : Prop := bCL[ci]? = some q ∧ (∀ w ∈ u_ws q.1 q.2.1 q.2.2, w ∈ bT) ∧ (∀ k, k < q.2.2 → parseFieldDescriptor (q.2.1 k).2.2.1 = some (ty k)) ∧ (∀ a, a < q.2.2 → ∀ b, b < q.2.2 → a ≠ b → (q.2.1 a).2.1 ≠ (q.2.1 b).2.1)
set_option maxRecDepth 100000 in
theorem ciT0 : ∀ w ∈ u_ws RX0 TX0 8, w ∈ bT := bT_ps [388, 390, 392, 394, 396, 398, 400, 402] (by decide +kernel) (by decide +kernel)
theorem ci0 : bCI 0 (RX0, TX0, 8) tyX0 := ⟨rfl, ciT0, tyX0_ok, nmX0⟩
set_option maxRecDepth 100000 in
theorem ciT1 : ∀ w ∈ u_ws RX1 TX1 10, w ∈ bT := bT_ps [442, 444, 446, 448, 450, 452, 454, 456, 458, 460] (by decide +kernel) (by decide +kernel)
theorem ci1 : bCI 1 (RX1, TX1, 10) tyX1 := ⟨rfl, ciT1, tyX1_ok, nmX1⟩
set_option maxRecDepth 100000 in
theorem ciT2 : ∀ w ∈ u_ws RX2 TX2 16, w ∈ bT := bT_ps [327, 329, 331, 333, 335, 337, 339, 341, 343, 345, 347, 349, 351, 353, 355, 357] (by decide +kernel) (by decide +kernel)
theorem ci2 : bCI 2 (RX2, TX2, 16) tyX2 := ⟨rfl, ciT2, tyX2_ok, nmX2⟩
set_option maxRecDepth 100000 in
theorem ciT3 : ∀ w ∈ u_ws RX3 TX3 17, w ∈ bT := bT_ps [743, 745, 747, 749, 751, 753, 755, 757, 759, 761, 763, 765, 767, 769, 771, 773, 775] (by decide +kernel) (by decide +kernel)
theorem ci3 : bCI 3 (RX3, TX3, 17) tyX3 := ⟨rfl, ciT3, tyX3_ok, nmX3⟩
set_option maxRecDepth 100000 in
theorem ciT4 : ∀ w ∈ u_ws RX4 TX4 10, w ∈ bT := bT_ps [637, 639, 641, 643, 645, 647, 649, 651, 653, 655] (by decide +kernel) (by decide +kernel)
theorem ci4 : bCI 4 (RX4, TX4, 10) tyX4 := ⟨rfl, ciT4, tyX4_ok, nmX4⟩
set_option maxRecDepth 100000 in
theorem ciT5 : ∀ w ∈ u_ws RX5 TX5 18, w ∈ bT := bT_ps [492, 494, 496, 498, 500, 502, 504, 506, 508, 510, 512, 514, 516, 518, 520, 522, 524, 526] (by decide +kernel) (by decide +kernel)
theorem ci5 : bCI 5 (RX5, TX5, 18) tyX5 := ⟨rfl, ciT5, tyX5_ok, nmX5⟩
set_option maxRecDepth 100000 in
theorem ciT6 : ∀ w ∈ u_ws RX6 TX6 16, w ∈ bT := bT_ps [551, 553, 555, 557, 559, 561, 563, 565, 567, 569, 571, 573, 575, 577, 579, 581] (by decide +kernel) (by decide +kernel)
theorem ci6 : bCI 6 (RX6, TX6, 16) tyX6 := ⟨rfl, ciT6, tyX6_ok, nmX6⟩
set_option maxRecDepth 100000 in
theorem ciT7 : ∀ w ∈ u_ws RX7 TX7 9, w ∈ bT := bT_ps [600, 602, 604, 606, 608, 610, 612, 614, 616] (by decide +kernel) (by decide +kernel)
theorem ci7 : bCI 7 (RX7, TX7, 9) tyX7 := ⟨rfl, ciT7, tyX7_ok, nmX7⟩
set_option maxRecDepth 100000 in
theorem ciT8 : ∀ w ∈ u_ws RX8 TX8 11, w ∈ bT := bT_ps [247, 249, 251, 253, 255, 257, 259, 261, 263, 265, 267] (by decide +kernel) (by decide +kernel)
theorem ci8 : bCI 8 (RX8, TX8, 11) tyX8 := ⟨rfl, ciT8, tyX8_ok, nmX8⟩
set_option maxRecDepth 100000 in
theorem ciT9 : ∀ w ∈ u_ws RX9 TX9 15, w ∈ bT := bT_ps [683, 685, 687, 689, 691, 693, 695, 697, 699, 701, 703, 705, 707, 709, 711] (by decide +kernel) (by decide +kernel)
theorem ci9 : bCI 9 (RX9, TX9, 15) tyX9 := ⟨rfl, ciT9, tyX9_ok, nmX9⟩
set_option maxRecDepth 100000 in
theorem ciT10 : ∀ w ∈ u_ws RX10 TX10 11, w ∈ bT := bT_ps [188, 190, 192, 194, 196, 198, 200, 202, 204, 206, 208] (by decide +kernel) (by decide +kernel)
theorem ci10 : bCI 10 (RX10, TX10, 11) tyX10 := ⟨rfl, ciT10, tyX10_ok, nmX10⟩
set_option maxRecDepth 100000 in
theorem ciT11 : ∀ w ∈ u_ws RX11 TX11 17, w ∈ bT := bT_ps [795, 797, 799, 801, 803, 805, 807, 809, 811, 813, 815, 817, 819, 821, 823, 825, 827] (by decide +kernel) (by decide +kernel)
theorem ci11 : bCI 11 (RX11, TX11, 17) tyX11 := ⟨rfl, ciT11, tyX11_ok, nmX11⟩
set_option maxRecDepth 100000 in
theorem ciT12 : ∀ w ∈ u_ws RX12 TX12 97, w ∈ bT := bT_ps [1765, 1767, 1769, 1771, 1773, 1775, 1777, 1779, 1781, 1783, 1785, 1787, 1789, 1791, 1793, 1795, 1797, 1799, 1801, 1803, 1805, 1807, 1809, 1811, 1813, 1815, 1817, 1819, 1821, 1823, 1825, 1827, 1829, 1831, 1833, 1835, 1837, 1839, 1841, 1843, 1845, 1847, 1849, 1851, 1853, 1855, 1857, 1859, 1861, 1863, 1865, 1867, 1869, 1871, 1873, 1875, 1877, 1879, 1881, 1883, 1885, 1887, 1889, 1891, 1893, 1895, 1897, 1899, 1901, 1903, 1905, 1907, 1909, 1911, 1913, 1915, 1917, 1919, 1921, 1923, 1925, 1927, 1929, 1931, 1933, 1935, 1937, 1939, 1941, 1943, 1945, 1947, 1949, 1951, 1953, 1955, 1957] (by decide +kernel) (by decide +kernel)
theorem ci12 : bCI 12 (RX12, TX12, 97) tyX12 := ⟨rfl, ciT12, tyX12_ok, nmX12⟩
