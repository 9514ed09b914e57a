theorem lw_ps {ws : List Cond} (ps : List Nat) (h : ws = ps.filterMap (fun i => tables_1[i]?)) (g : ws.all goodWord = true) : ∀ w ∈ ws, w ∈ lw_all := by
  intro w hw
  have h1 := List.all_eq_true.mp g w hw
  rw [h] at hw
  obtain ⟨i, -, hi⟩ := List.mem_filterMap.mp hw
  exact List.mem_filter.mpr ⟨List.mem_append_right _ (List.mem_of_getElem? hi), h1⟩
theorem inX1 : ∀ w ∈ u_ws RX1 TX1 10, w ∈ lw_all := lw_ps [261, 263, 265, 267, 269, 271, 273, 275, 277, 279] (by decide +kernel) (by decide +kernel)
theorem inX2 : ∀ w ∈ u_ws RX2 TX2 4, w ∈ lw_all := lw_ps [119, 121, 123, 125] (by decide +kernel) (by decide +kernel)
theorem inX3 : ∀ w ∈ u_ws RX3 TX3 9, w ∈ lw_all := lw_ps [47, 49, 51, 53, 55, 57, 59, 61, 63] (by decide +kernel) (by decide +kernel)
theorem inX4 : ∀ w ∈ u_ws RX4 TX4 7, w ∈ lw_all := lw_ps [80, 82, 84, 86, 88, 90, 92] (by decide +kernel) (by decide +kernel)
theorem inX5 : ∀ w ∈ u_ws RX5 TX5 14, w ∈ lw_all := lw_ps [201, 203, 205, 207, 209, 211, 213, 215, 217, 219, 221, 223, 225, 227] (by decide +kernel) (by decide +kernel)
theorem inX6 : ∀ w ∈ u_ws RX6 TX6 9, w ∈ lw_all := lw_ps [392, 394, 396, 398, 400, 402, 404, 406, 408] (by decide +kernel) (by decide +kernel)
theorem inX7 : ∀ w ∈ u_ws RX7 TX7 6, w ∈ lw_all := lw_ps [364, 366, 368, 370, 372, 374] (by decide +kernel) (by decide +kernel)
theorem inX8 : ∀ w ∈ u_ws RX8 TX8 11, w ∈ lw_all := lw_ps [148, 150, 152, 154, 156, 158, 160, 162, 164, 166, 168] (by decide +kernel) (by decide +kernel)
theorem inX9 : ∀ w ∈ u_ws RX9 TX9 2, w ∈ lw_all := lw_ps [420, 422] (by decide +kernel) (by decide +kernel)
theorem inX10 : ∀ w ∈ u_ws RX10 TX10 18, w ∈ lw_all := lw_ps [315, 317, 319, 321, 323, 325, 327, 329, 331, 333, 335, 337, 339, 341, 343, 345, 347, 349] (by decide +kernel) (by decide +kernel)
theorem inX11 : ∀ w ∈ u_ws RX11 TX11 20, w ∈ lw_all := lw_ps [446, 448, 450, 452, 454, 456, 458, 460, 462, 464, 466, 468, 470, 472, 474, 476, 478, 480, 482, 484] (by decide +kernel) (by decide +kernel)
theorem inX12 : ∀ w ∈ u_ws RX12 TX12 141, w ∈ lw_all := lw_ps [1655, 1657, 1659, 1661, 1663, 1665, 1667, 1669, 1671, 1673, 1675, 1677, 1679, 1681, 1683, 1685, 1687, 1689, 1691, 1693, 1695, 1697, 1699, 1701, 1703, 1705, 1707, 1709, 1711, 1713, 1715, 1717, 1719, 1721, 1723, 1725, 1727, 1729, 1731, 1733, 1735, 1737, 1739, 1741, 1743, 1745, 1747, 1749, 1751, 1753, 1755, 1757, 1759, 1761, 1763, 1765, 1767, 1769, 1771, 1773, 1775, 1777, 1779, 1781, 1783, 1785, 1787, 1789, 1791, 1793, 1795, 1797, 1799, 1801, 1803, 1805, 1807, 1809, 1811, 1813, 1815, 1817, 1819, 1821, 1823, 1825, 1827, 1829, 1831, 1833, 1835, 1837, 1839, 1841, 1843, 1845, 1847, 1849, 1851, 1853, 1855, 1857, 1859, 1861, 1863, 1865, 1867, 1869, 1871, 1873, 1875, 1877, 1879, 1881, 1883, 1885, 1887, 1889, 1891, 1893, 1895, 1897, 1899, 1901, 1903, 1905, 1907, 1909, 1911, 1913, 1915, 1917, 1919, 1921, 1923, 1925, 1927, 1929, 1931, 1933, 1935] (by decide +kernel) (by decide +kernel)
theorem in_L : Cond.initialized RL ∈ lw_all := lw_t1 (i := 0) (by decide +kernel) rfl
theorem in_X11 : Cond.initialized RX11 ∈ lw_all := lw_t1 (i := 1) (by decide +kernel) rfl
theorem in_X3 : Cond.initialized RX3 ∈ lw_all := lw_t1 (i := 2) (by decide +kernel) rfl
theorem in_X4 : Cond.initialized RX4 ∈ lw_all := lw_t1 (i := 3) (by decide +kernel) rfl
theorem in_X2 : Cond.initialized RX2 ∈ lw_all := lw_t1 (i := 4) (by decide +kernel) rfl
theorem in_X8 : Cond.initialized RX8 ∈ lw_all := lw_t1 (i := 5) (by decide +kernel) rfl
theorem in_X5 : Cond.initialized RX5 ∈ lw_all := lw_t1 (i := 6) (by decide +kernel) rfl
theorem in_X1 : Cond.initialized RX1 ∈ lw_all := lw_t1 (i := 7) (by decide +kernel) rfl
theorem in_X10 : Cond.initialized RX10 ∈ lw_all := lw_t1 (i := 8) (by decide +kernel) rfl
theorem in_X0 : Cond.initialized RX0 ∈ lw_all := lw_t1 (i := 9) (by decide +kernel) rfl
theorem in_X7 : Cond.initialized RX7 ∈ lw_all := lw_t1 (i := 10) (by decide +kernel) rfl
theorem in_X6 : Cond.initialized RX6 ∈ lw_all := lw_t1 (i := 11) (by decide +kernel) rfl
theorem in_X9 : Cond.initialized RX9 ∈ lw_all := lw_t1 (i := 12) (by decide +kernel) rfl
theorem in_X12 : Cond.initialized RX12 ∈ lw_all := lw_t1 (i := 13) (by decide +kernel) rfl
theorem in_J9 : Cond.initialized RJ9 ∈ lw_all := lw_t1 (i := 14) (by decide +kernel) rfl
theorem in_J13 : Cond.initialized RJ13 ∈ lw_all := lw_t1 (i := 15) (by decide +kernel) rfl
theorem in_J6 : Cond.initialized RJ6 ∈ lw_all := lw_t1 (i := 16) (by decide +kernel) rfl
theorem in_Jxf58ca : Cond.initialized RJxf58ca ∈ lw_all := lw_t1 (i := 17) (by decide +kernel) rfl
theorem in_J0 : Cond.initialized RJ0 ∈ lw_all := lw_t1 (i := 18) (by decide +kernel) rfl
theorem in_J1 : Cond.initialized RJ1 ∈ lw_all := lw_t1 (i := 19) (by decide +kernel) rfl
theorem in_J3 : Cond.initialized RJ3 ∈ lw_all := lw_t1 (i := 20) (by decide +kernel) rfl
theorem in_J2 : Cond.initialized RJ2 ∈ lw_all := lw_t1 (i := 21) (by decide +kernel) rfl
theorem cl_L_7 : Cond.classLink RL 7 RX11 ∈ lw_all := lw_t1 (i := 22) (by decide +kernel) rfl
theorem ia_X11 : Cond.instantiable RX11 20 ∈ lw_all := lw_t1 (i := 23) (by decide +kernel) rfl
theorem ml_L_9 : Cond.methodLink RL 9 yX11_init ∈ lw_all := lw_t1 (i := 24) (by decide +kernel) rfl
theorem im_X11_init : Cond.instanceMethod yX11_init ∈ lw_all := lw_t1 (i := 25) (by decide +kernel) rfl
theorem co_X11_init : Cond.code yX11_init cX11_init 2 none ∈ lw_all := lw_t1 (i := 26) rfl rfl
theorem ml_X11_1 : Cond.methodLink RX11 1 objectInit ∈ lw_all := lw_t1 (i := 27) (by decide +kernel) rfl
theorem im_objInit : Cond.instanceMethod objectInit ∈ lw_all := lw_t1 (i := 28) (by decide +kernel) rfl
theorem co_objInit : Cond.code objectInit ⟨#[0xb1]⟩ 1 none ∈ lw_all := lw_t1 (i := 29) rfl rfl
theorem cl_X11_20 : Cond.classLink RX11 20 RX3 ∈ lw_all := lw_t1 (i := 30) (by decide +kernel) rfl
theorem ia_X3 : Cond.instantiable RX3 9 ∈ lw_all := lw_t1 (i := 31) (by decide +kernel) rfl
theorem ml_X11_22 : Cond.methodLink RX11 22 yX3_init ∈ lw_all := lw_t1 (i := 32) (by decide +kernel) rfl
theorem im_X3_init : Cond.instanceMethod yX3_init ∈ lw_all := lw_t1 (i := 33) (by decide +kernel) rfl
theorem co_X3_init : Cond.code yX3_init cX3_init 2 none ∈ lw_all := lw_t1 (i := 34) rfl rfl
theorem ml_X3_5 : Cond.methodLink RX3 5 objectInit ∈ lw_all := lw_t1 (i := 35) (by decide +kernel) rfl
theorem fl_X3_30 : Cond.fieldLink RX3 30 "OnlineParts$Program" "size" "I" ∈ lw_all := lw_t1 (i := 36) (by decide +kernel) rfl
theorem fl_X11_138 : Cond.fieldLink RX11 138 "OnlineParts$Program" "size" "I" ∈ lw_all := lw_t1 (i := 37) (by decide +kernel) rfl
theorem fl_X3_34 : Cond.fieldLink RX3 34 "OnlineParts$Program" "things" "I" ∈ lw_all := lw_t1 (i := 38) (by decide +kernel) rfl
theorem fl_X11_169 : Cond.fieldLink RX11 169 "OnlineParts$Program" "things" "I" ∈ lw_all := lw_t1 (i := 39) (by decide +kernel) rfl
theorem fl_X3_37 : Cond.fieldLink RX3 37 "OnlineParts$Program" "stepCount" "I" ∈ lw_all := lw_t1 (i := 40) (by decide +kernel) rfl
theorem fl_X3_11 : Cond.fieldLink RX3 11 "OnlineParts$Program" "about" "[I" ∈ lw_all := lw_t1 (i := 41) (by decide +kernel) rfl
theorem fl_X3_15 : Cond.fieldLink RX3 15 "OnlineParts$Program" "start" "[I" ∈ lw_all := lw_t1 (i := 42) (by decide +kernel) rfl
theorem fl_X3_18 : Cond.fieldLink RX3 18 "OnlineParts$Program" "toldAs" "[I" ∈ lw_all := lw_t1 (i := 43) (by decide +kernel) rfl
theorem fl_X3_21 : Cond.fieldLink RX3 21 "OnlineParts$Program" "step" "[I" ∈ lw_all := lw_t1 (i := 44) (by decide +kernel) rfl
theorem fl_X3_24 : Cond.fieldLink RX3 24 "OnlineParts$Program" "mark" "[I" ∈ lw_all := lw_t1 (i := 45) (by decide +kernel) rfl
theorem fl_X3_27 : Cond.fieldLink RX3 27 "OnlineParts$Program" "bits" "[I" ∈ lw_all := lw_t1 (i := 46) (by decide +kernel) rfl
theorem ac_int : Cond.arrayClass .int ∈ lw_all := lw_t1 (i := 66) (by decide +kernel) rfl
theorem cl_X11_30 : Cond.classLink RX11 30 RX4 ∈ lw_all := lw_t1 (i := 67) (by decide +kernel) rfl
theorem ia_X4 : Cond.instantiable RX4 7 ∈ lw_all := lw_t1 (i := 68) (by decide +kernel) rfl
theorem ml_X11_32 : Cond.methodLink RX11 32 yX4_init ∈ lw_all := lw_t1 (i := 69) (by decide +kernel) rfl
theorem im_X4_init : Cond.instanceMethod yX4_init ∈ lw_all := lw_t1 (i := 70) (by decide +kernel) rfl
theorem co_X4_init : Cond.code yX4_init cX4_init 3 none ∈ lw_all := lw_t1 (i := 71) rfl rfl
theorem ml_X4_3 : Cond.methodLink RX4 3 objectInit ∈ lw_all := lw_t1 (i := 72) (by decide +kernel) rfl
theorem fl_X4_9 : Cond.fieldLink RX4 9 "OnlineParts$Reader" "tape" "[I" ∈ lw_all := lw_t1 (i := 73) (by decide +kernel) rfl
theorem fl_X4_15 : Cond.fieldLink RX4 15 "OnlineParts$Reader" "size" "I" ∈ lw_all := lw_t1 (i := 74) (by decide +kernel) rfl
theorem fl_X4_19 : Cond.fieldLink RX4 19 "OnlineParts$Reader" "at" "I" ∈ lw_all := lw_t1 (i := 75) (by decide +kernel) rfl
theorem fl_X4_22 : Cond.fieldLink RX4 22 "OnlineParts$Reader" "bad" "I" ∈ lw_all := lw_t1 (i := 76) (by decide +kernel) rfl
theorem fl_X4_25 : Cond.fieldLink RX4 25 "OnlineParts$Reader" "into" "LOnlineParts$Program;" ∈ lw_all := lw_t1 (i := 77) (by decide +kernel) rfl
theorem fl_X4_31 : Cond.fieldLink RX4 31 "OnlineParts$Reader" "names" "[I" ∈ lw_all := lw_t1 (i := 78) (by decide +kernel) rfl
theorem fl_X4_34 : Cond.fieldLink RX4 34 "OnlineParts$Reader" "nameCount" "I" ∈ lw_all := lw_t1 (i := 79) (by decide +kernel) rfl
theorem cl_X11_39 : Cond.classLink RX11 39 RX2 ∈ lw_all := lw_t1 (i := 95) (by decide +kernel) rfl
theorem ia_X2 : Cond.instantiable RX2 4 ∈ lw_all := lw_t1 (i := 96) (by decide +kernel) rfl
theorem ml_X11_41 : Cond.methodLink RX11 41 yX2_init ∈ lw_all := lw_t1 (i := 97) (by decide +kernel) rfl
theorem im_X2_init : Cond.instanceMethod yX2_init ∈ lw_all := lw_t1 (i := 98) (by decide +kernel) rfl
theorem co_X2_init : Cond.code yX2_init cX2_init 2 none ∈ lw_all := lw_t1 (i := 99) rfl rfl
theorem ml_X2_3 : Cond.methodLink RX2 3 objectInit ∈ lw_all := lw_t1 (i := 100) (by decide +kernel) rfl
theorem fl_X2_9 : Cond.fieldLink RX2 9 "OnlineParts$Pattern" "row" "[J" ∈ lw_all := lw_t1 (i := 101) (by decide +kernel) rfl
theorem fl_X9_71 : Cond.fieldLink RX9 71 "OnlineParts$Pattern" "row" "[J" ∈ lw_all := lw_t1 (i := 102) (by decide +kernel) rfl
theorem fl_X8_103 : Cond.fieldLink RX8 103 "OnlineParts$Pattern" "row" "[J" ∈ lw_all := lw_t1 (i := 103) (by decide +kernel) rfl
theorem fl_X10_354 : Cond.fieldLink RX10 354 "OnlineParts$Pattern" "row" "[J" ∈ lw_all := lw_t1 (i := 104) (by decide +kernel) rfl
theorem fl_X2_15 : Cond.fieldLink RX2 15 "OnlineParts$Pattern" "standing" "[J" ∈ lw_all := lw_t1 (i := 105) (by decide +kernel) rfl
theorem fl_X10_359 : Cond.fieldLink RX10 359 "OnlineParts$Pattern" "standing" "[J" ∈ lw_all := lw_t1 (i := 106) (by decide +kernel) rfl
theorem fl_X2_18 : Cond.fieldLink RX2 18 "OnlineParts$Pattern" "size" "I" ∈ lw_all := lw_t1 (i := 107) (by decide +kernel) rfl
theorem fl_X9_65 : Cond.fieldLink RX9 65 "OnlineParts$Pattern" "size" "I" ∈ lw_all := lw_t1 (i := 108) (by decide +kernel) rfl
theorem fl_X11_233 : Cond.fieldLink RX11 233 "OnlineParts$Pattern" "size" "I" ∈ lw_all := lw_t1 (i := 109) (by decide +kernel) rfl
theorem fl_X8_102 : Cond.fieldLink RX8 102 "OnlineParts$Pattern" "size" "I" ∈ lw_all := lw_t1 (i := 110) (by decide +kernel) rfl
theorem fl_X10_351 : Cond.fieldLink RX10 351 "OnlineParts$Pattern" "size" "I" ∈ lw_all := lw_t1 (i := 111) (by decide +kernel) rfl
theorem fl_X4_180 : Cond.fieldLink RX4 180 "OnlineParts$Pattern" "size" "I" ∈ lw_all := lw_t1 (i := 112) (by decide +kernel) rfl
theorem fl_X2_22 : Cond.fieldLink RX2 22 "OnlineParts$Pattern" "key" "I" ∈ lw_all := lw_t1 (i := 113) (by decide +kernel) rfl
theorem fl_X7_61 : Cond.fieldLink RX7 61 "OnlineParts$Pattern" "key" "I" ∈ lw_all := lw_t1 (i := 114) (by decide +kernel) rfl
theorem fl_X10_76 : Cond.fieldLink RX10 76 "OnlineParts$Pattern" "key" "I" ∈ lw_all := lw_t1 (i := 115) (by decide +kernel) rfl
theorem fl_X9_60 : Cond.fieldLink RX9 60 "OnlineParts$Pattern" "key" "I" ∈ lw_all := lw_t1 (i := 116) (by decide +kernel) rfl
theorem fl_X5_76 : Cond.fieldLink RX5 76 "OnlineParts$Pattern" "key" "I" ∈ lw_all := lw_t1 (i := 117) (by decide +kernel) rfl
theorem fl_X4_174 : Cond.fieldLink RX4 174 "OnlineParts$Pattern" "key" "I" ∈ lw_all := lw_t1 (i := 118) (by decide +kernel) rfl
theorem ac_long : Cond.arrayClass .long ∈ lw_all := lw_t1 (i := 128) (by decide +kernel) rfl
theorem cl_X11_61 : Cond.classLink RX11 61 RX8 ∈ lw_all := lw_t1 (i := 129) (by decide +kernel) rfl
theorem ia_X8 : Cond.instantiable RX8 11 ∈ lw_all := lw_t1 (i := 130) (by decide +kernel) rfl
theorem ml_X11_63 : Cond.methodLink RX11 63 yX8_init ∈ lw_all := lw_t1 (i := 131) (by decide +kernel) rfl
theorem im_X8_init : Cond.instanceMethod yX8_init ∈ lw_all := lw_t1 (i := 132) (by decide +kernel) rfl
theorem co_X8_init : Cond.code yX8_init cX8_init 1 none ∈ lw_all := lw_t1 (i := 133) rfl rfl
theorem ml_X8_5 : Cond.methodLink RX8 5 objectInit ∈ lw_all := lw_t1 (i := 134) (by decide +kernel) rfl
theorem fl_X8_13 : Cond.fieldLink RX8 13 "OnlineParts$Store" "first" "[J" ∈ lw_all := lw_t1 (i := 135) (by decide +kernel) rfl
theorem fl_X8_17 : Cond.fieldLink RX8 17 "OnlineParts$Store" "second" "[J" ∈ lw_all := lw_t1 (i := 136) (by decide +kernel) rfl
theorem fl_X8_20 : Cond.fieldLink RX8 20 "OnlineParts$Store" "weight" "[I" ∈ lw_all := lw_t1 (i := 137) (by decide +kernel) rfl
theorem fl_X8_24 : Cond.fieldLink RX8 24 "OnlineParts$Store" "deep" "[I" ∈ lw_all := lw_t1 (i := 138) (by decide +kernel) rfl
theorem fl_X8_29 : Cond.fieldLink RX8 29 "OnlineParts$Store" "pile" "[J" ∈ lw_all := lw_t1 (i := 139) (by decide +kernel) rfl
theorem fl_X8_41 : Cond.fieldLink RX8 41 "OnlineParts$Store" "size" "I" ∈ lw_all := lw_t1 (i := 140) (by decide +kernel) rfl
theorem fl_X8_32 : Cond.fieldLink RX8 32 "OnlineParts$Store" "stack" "[J" ∈ lw_all := lw_t1 (i := 141) (by decide +kernel) rfl
theorem fl_X8_45 : Cond.fieldLink RX8 45 "OnlineParts$Store" "top" "I" ∈ lw_all := lw_t1 (i := 142) (by decide +kernel) rfl
theorem fl_X8_35 : Cond.fieldLink RX8 35 "OnlineParts$Store" "vars" "[J" ∈ lw_all := lw_t1 (i := 143) (by decide +kernel) rfl
theorem fl_X8_38 : Cond.fieldLink RX8 38 "OnlineParts$Store" "back" "[I" ∈ lw_all := lw_t1 (i := 144) (by decide +kernel) rfl
theorem fl_X8_48 : Cond.fieldLink RX8 48 "OnlineParts$Store" "depth" "I" ∈ lw_all := lw_t1 (i := 145) (by decide +kernel) rfl
theorem fl_X7_176 : Cond.fieldLink RX7 176 "OnlineParts$Store" "depth" "I" ∈ lw_all := lw_t1 (i := 146) (by decide +kernel) rfl
theorem fl_X10_298 : Cond.fieldLink RX10 298 "OnlineParts$Store" "depth" "I" ∈ lw_all := lw_t1 (i := 147) (by decide +kernel) rfl
theorem cl_X11_64 : Cond.classLink RX11 64 RX5 ∈ lw_all := lw_t1 (i := 171) (by decide +kernel) rfl
theorem ia_X5 : Cond.instantiable RX5 14 ∈ lw_all := lw_t1 (i := 172) (by decide +kernel) rfl
theorem ml_X11_66 : Cond.methodLink RX11 66 yX5_init ∈ lw_all := lw_t1 (i := 173) (by decide +kernel) rfl
theorem im_X5_init : Cond.instanceMethod yX5_init ∈ lw_all := lw_t1 (i := 174) (by decide +kernel) rfl
theorem co_X5_init : Cond.code yX5_init cX5_init 2 none ∈ lw_all := lw_t1 (i := 175) rfl rfl
theorem ml_X5_5 : Cond.methodLink RX5 5 objectInit ∈ lw_all := lw_t1 (i := 176) (by decide +kernel) rfl
theorem cl_X5_31 : Cond.classLink RX5 31 RX2 ∈ lw_all := lw_t1 (i := 177) (by decide +kernel) rfl
theorem ml_X5_37 : Cond.methodLink RX5 37 yX2_init ∈ lw_all := lw_t1 (i := 179) (by decide +kernel) rfl
theorem fl_X5_40 : Cond.fieldLink RX5 40 "OnlineParts$Residue" "there" "Z" ∈ lw_all := lw_t1 (i := 180) (by decide +kernel) rfl
theorem fl_X10_96 : Cond.fieldLink RX10 96 "OnlineParts$Residue" "there" "Z" ∈ lw_all := lw_t1 (i := 181) (by decide +kernel) rfl
theorem fl_X11_224 : Cond.fieldLink RX11 224 "OnlineParts$Residue" "there" "Z" ∈ lw_all := lw_t1 (i := 182) (by decide +kernel) rfl
theorem fl_X5_44 : Cond.fieldLink RX5 44 "OnlineParts$Residue" "count" "I" ∈ lw_all := lw_t1 (i := 183) (by decide +kernel) rfl
theorem fl_X10_286 : Cond.fieldLink RX10 286 "OnlineParts$Residue" "count" "I" ∈ lw_all := lw_t1 (i := 184) (by decide +kernel) rfl
theorem fl_X5_48 : Cond.fieldLink RX5 48 "OnlineParts$Residue" "variants" "I" ∈ lw_all := lw_t1 (i := 185) (by decide +kernel) rfl
theorem fl_X10_95 : Cond.fieldLink RX10 95 "OnlineParts$Residue" "variants" "I" ∈ lw_all := lw_t1 (i := 186) (by decide +kernel) rfl
theorem fl_X5_51 : Cond.fieldLink RX5 51 "OnlineParts$Residue" "unrolled" "I" ∈ lw_all := lw_t1 (i := 187) (by decide +kernel) rfl
theorem fl_X10_301 : Cond.fieldLink RX10 301 "OnlineParts$Residue" "unrolled" "I" ∈ lw_all := lw_t1 (i := 188) (by decide +kernel) rfl
theorem fl_X5_54 : Cond.fieldLink RX5 54 "OnlineParts$Residue" "grown" "I" ∈ lw_all := lw_t1 (i := 189) (by decide +kernel) rfl
theorem fl_X10_314 : Cond.fieldLink RX10 314 "OnlineParts$Residue" "grown" "I" ∈ lw_all := lw_t1 (i := 190) (by decide +kernel) rfl
theorem fl_X5_57 : Cond.fieldLink RX5 57 "OnlineParts$Residue" "letGo" "I" ∈ lw_all := lw_t1 (i := 191) (by decide +kernel) rfl
theorem fl_X10_335 : Cond.fieldLink RX10 335 "OnlineParts$Residue" "letGo" "I" ∈ lw_all := lw_t1 (i := 192) (by decide +kernel) rfl
theorem fl_X5_60 : Cond.fieldLink RX5 60 "OnlineParts$Residue" "blocks" "I" ∈ lw_all := lw_t1 (i := 193) (by decide +kernel) rfl
theorem fl_X5_11 : Cond.fieldLink RX5 11 "OnlineParts$Residue" "cells" "[I" ∈ lw_all := lw_t1 (i := 194) (by decide +kernel) rfl
theorem fl_X5_15 : Cond.fieldLink RX5 15 "OnlineParts$Residue" "operands" "[J" ∈ lw_all := lw_t1 (i := 195) (by decide +kernel) rfl
theorem fl_X5_19 : Cond.fieldLink RX5 19 "OnlineParts$Residue" "blockFirst" "[I" ∈ lw_all := lw_t1 (i := 196) (by decide +kernel) rfl
theorem fl_X5_22 : Cond.fieldLink RX5 22 "OnlineParts$Residue" "blockLast" "[I" ∈ lw_all := lw_t1 (i := 197) (by decide +kernel) rfl
theorem fl_X5_25 : Cond.fieldLink RX5 25 "OnlineParts$Residue" "blockEnd" "[J" ∈ lw_all := lw_t1 (i := 198) (by decide +kernel) rfl
theorem fl_X5_28 : Cond.fieldLink RX5 28 "OnlineParts$Residue" "variantCells" "[I" ∈ lw_all := lw_t1 (i := 199) (by decide +kernel) rfl
theorem fl_X5_33 : Cond.fieldLink RX5 33 "OnlineParts$Residue" "patterns" "[LOnlineParts$Pattern;" ∈ lw_all := lw_t1 (i := 200) (by decide +kernel) rfl
theorem cl_X11_71 : Cond.classLink RX11 71 RX1 ∈ lw_all := lw_t1 (i := 230) (by decide +kernel) rfl
theorem ia_X1 : Cond.instantiable RX1 10 ∈ lw_all := lw_t1 (i := 231) (by decide +kernel) rfl
theorem ml_X11_73 : Cond.methodLink RX11 73 yX1_init ∈ lw_all := lw_t1 (i := 232) (by decide +kernel) rfl
theorem im_X1_init : Cond.instanceMethod yX1_init ∈ lw_all := lw_t1 (i := 233) (by decide +kernel) rfl
theorem co_X1_init : Cond.code yX1_init cX1_init 1 none ∈ lw_all := lw_t1 (i := 234) rfl rfl
theorem ml_X1_3 : Cond.methodLink RX1 3 objectInit ∈ lw_all := lw_t1 (i := 235) (by decide +kernel) rfl
theorem cl_X1_19 : Cond.classLink RX1 19 RX2 ∈ lw_all := lw_t1 (i := 236) (by decide +kernel) rfl
theorem ml_X1_21 : Cond.methodLink RX1 21 yX2_init ∈ lw_all := lw_t1 (i := 237) (by decide +kernel) rfl
theorem ml_X1_28 : Cond.methodLink RX1 28 yX1_begin ∈ lw_all := lw_t1 (i := 238) (by decide +kernel) rfl
theorem im_X1_begin : Cond.instanceMethod yX1_begin ∈ lw_all := lw_t2 (i := 0) (by decide +kernel) rfl
theorem co_X1_begin : Cond.code yX1_begin cX1_begin 2 none ∈ lw_all := lw_t2 (i := 1) rfl rfl
theorem ml_X1_53 : Cond.methodLink RX1 53 yX2_begin ∈ lw_all := lw_t2 (i := 2) (by decide +kernel) rfl
theorem im_X2_begin : Cond.instanceMethod yX2_begin ∈ lw_all := lw_t2 (i := 3) (by decide +kernel) rfl
theorem se_X2_begin : Cond.selects RX2 yX2_begin yX2_begin ∈ lw_all := lw_t2 (i := 4) (by decide +kernel) rfl
theorem co_X2_begin : Cond.code yX2_begin cX2_begin 2 none ∈ lw_all := lw_t2 (i := 5) rfl rfl
theorem fl_X1_31 : Cond.fieldLink RX1 31 "OnlineParts$Outcome" "end" "I" ∈ lw_all := lw_t2 (i := 6) (by decide +kernel) rfl
theorem fl_X7_54 : Cond.fieldLink RX7 54 "OnlineParts$Outcome" "end" "I" ∈ lw_all := lw_t2 (i := 7) (by decide +kernel) rfl
theorem fl_X6_166 : Cond.fieldLink RX6 166 "OnlineParts$Outcome" "end" "I" ∈ lw_all := lw_t2 (i := 8) (by decide +kernel) rfl
theorem fl_X11_214 : Cond.fieldLink RX11 214 "OnlineParts$Outcome" "end" "I" ∈ lw_all := lw_t2 (i := 9) (by decide +kernel) rfl
theorem fl_X1_35 : Cond.fieldLink RX1 35 "OnlineParts$Outcome" "calls" "I" ∈ lw_all := lw_t2 (i := 10) (by decide +kernel) rfl
theorem fl_X11_252 : Cond.fieldLink RX11 252 "OnlineParts$Outcome" "calls" "I" ∈ lw_all := lw_t2 (i := 11) (by decide +kernel) rfl
theorem fl_X1_38 : Cond.fieldLink RX1 38 "OnlineParts$Outcome" "depth" "I" ∈ lw_all := lw_t2 (i := 12) (by decide +kernel) rfl
theorem fl_X1_41 : Cond.fieldLink RX1 41 "OnlineParts$Outcome" "most" "I" ∈ lw_all := lw_t2 (i := 13) (by decide +kernel) rfl
theorem fl_X1_44 : Cond.fieldLink RX1 44 "OnlineParts$Outcome" "written" "I" ∈ lw_all := lw_t2 (i := 14) (by decide +kernel) rfl
theorem fl_X1_47 : Cond.fieldLink RX1 47 "OnlineParts$Outcome" "weight" "I" ∈ lw_all := lw_t2 (i := 15) (by decide +kernel) rfl
theorem fl_X1_50 : Cond.fieldLink RX1 50 "OnlineParts$Outcome" "deep" "I" ∈ lw_all := lw_t2 (i := 16) (by decide +kernel) rfl
theorem fl_X1_11 : Cond.fieldLink RX1 11 "OnlineParts$Outcome" "kept" "[J" ∈ lw_all := lw_t2 (i := 17) (by decide +kernel) rfl
theorem fl_X1_15 : Cond.fieldLink RX1 15 "OnlineParts$Outcome" "places" "[I" ∈ lw_all := lw_t2 (i := 18) (by decide +kernel) rfl
theorem fl_X1_24 : Cond.fieldLink RX1 24 "OnlineParts$Outcome" "value" "LOnlineParts$Pattern;" ∈ lw_all := lw_t2 (i := 19) (by decide +kernel) rfl
theorem fl_X11_217 : Cond.fieldLink RX11 217 "OnlineParts$Outcome" "value" "LOnlineParts$Pattern;" ∈ lw_all := lw_t2 (i := 20) (by decide +kernel) rfl
theorem cl_X11_78 : Cond.classLink RX11 78 RX10 ∈ lw_all := lw_t2 (i := 42) (by decide +kernel) rfl
theorem ia_X10 : Cond.instantiable RX10 18 ∈ lw_all := lw_t2 (i := 43) (by decide +kernel) rfl
theorem ml_X11_80 : Cond.methodLink RX11 80 yX10_init ∈ lw_all := lw_t2 (i := 44) (by decide +kernel) rfl
theorem im_X10_init : Cond.instanceMethod yX10_init ∈ lw_all := lw_t2 (i := 45) (by decide +kernel) rfl
theorem co_X10_init : Cond.code yX10_init cX10_init 5 none ∈ lw_all := lw_t2 (i := 46) rfl rfl
theorem ml_X10_5 : Cond.methodLink RX10 5 objectInit ∈ lw_all := lw_t2 (i := 47) (by decide +kernel) rfl
theorem cl_X10_41 : Cond.classLink RX10 41 RX2 ∈ lw_all := lw_t2 (i := 48) (by decide +kernel) rfl
theorem ml_X10_43 : Cond.methodLink RX10 43 yX2_init ∈ lw_all := lw_t2 (i := 49) (by decide +kernel) rfl
theorem ml_X10_63 : Cond.methodLink RX10 63 yX0_make ∈ lw_all := lw_t2 (i := 50) (by decide +kernel) rfl
theorem st_X0_make : Cond.static yX0_make ∈ lw_all := lw_t2 (i := 51) (by decide +kernel) rfl
theorem co_X0_make : Cond.code yX0_make cX0_make 2 (some .long) ∈ lw_all := lw_t2 (i := 52) rfl rfl
theorem cs_X0_7 : Cond.constantLong RX0 7 (4294967295) ∈ lw_all := lw_t2 (i := 53) (by decide +kernel) rfl
theorem fl_X10_11 : Cond.fieldLink RX10 11 "OnlineParts$Worker" "unroll" "I" ∈ lw_all := lw_t2 (i := 54) (by decide +kernel) rfl
theorem fl_X11_160 : Cond.fieldLink RX11 160 "OnlineParts$Worker" "unroll" "I" ∈ lw_all := lw_t2 (i := 55) (by decide +kernel) rfl
theorem fl_X10_15 : Cond.fieldLink RX10 15 "OnlineParts$Worker" "variants" "I" ∈ lw_all := lw_t2 (i := 56) (by decide +kernel) rfl
theorem fl_X11_163 : Cond.fieldLink RX11 163 "OnlineParts$Worker" "variants" "I" ∈ lw_all := lw_t2 (i := 57) (by decide +kernel) rfl
theorem fl_X10_18 : Cond.fieldLink RX10 18 "OnlineParts$Worker" "budget" "I" ∈ lw_all := lw_t2 (i := 58) (by decide +kernel) rfl
theorem fl_X11_166 : Cond.fieldLink RX11 166 "OnlineParts$Worker" "budget" "I" ∈ lw_all := lw_t2 (i := 59) (by decide +kernel) rfl
theorem fl_X10_21 : Cond.fieldLink RX10 21 "OnlineParts$Worker" "store" "LOnlineParts$Store;" ∈ lw_all := lw_t2 (i := 60) (by decide +kernel) rfl
theorem fl_X10_25 : Cond.fieldLink RX10 25 "OnlineParts$Worker" "left" "LOnlineParts$Residue;" ∈ lw_all := lw_t2 (i := 61) (by decide +kernel) rfl
theorem fl_X10_29 : Cond.fieldLink RX10 29 "OnlineParts$Worker" "program" "LOnlineParts$Program;" ∈ lw_all := lw_t2 (i := 62) (by decide +kernel) rfl
theorem fl_X10_70 : Cond.fieldLink RX10 70 "OnlineParts$Worker" "broken" "I" ∈ lw_all := lw_t2 (i := 63) (by decide +kernel) rfl
theorem fl_X10_92 : Cond.fieldLink RX10 92 "OnlineParts$Worker" "variant" "I" ∈ lw_all := lw_t2 (i := 64) (by decide +kernel) rfl
theorem fl_X10_108 : Cond.fieldLink RX10 108 "OnlineParts$Worker" "block" "I" ∈ lw_all := lw_t2 (i := 65) (by decide +kernel) rfl
theorem fl_X10_73 : Cond.fieldLink RX10 73 "OnlineParts$Worker" "at" "I" ∈ lw_all := lw_t2 (i := 66) (by decide +kernel) rfl
theorem fl_X10_33 : Cond.fieldLink RX10 33 "OnlineParts$Worker" "branches" "[I" ∈ lw_all := lw_t2 (i := 67) (by decide +kernel) rfl
theorem fl_X10_37 : Cond.fieldLink RX10 37 "OnlineParts$Worker" "conditions" "[J" ∈ lw_all := lw_t2 (i := 68) (by decide +kernel) rfl
theorem fl_X10_118 : Cond.fieldLink RX10 118 "OnlineParts$Worker" "branchCount" "I" ∈ lw_all := lw_t2 (i := 69) (by decide +kernel) rfl
theorem fl_X10_121 : Cond.fieldLink RX10 121 "OnlineParts$Worker" "openBlocks" "I" ∈ lw_all := lw_t2 (i := 70) (by decide +kernel) rfl
theorem fl_X10_46 : Cond.fieldLink RX10 46 "OnlineParts$Worker" "call" "LOnlineParts$Pattern;" ∈ lw_all := lw_t2 (i := 71) (by decide +kernel) rfl
theorem fl_X10_50 : Cond.fieldLink RX10 50 "OnlineParts$Worker" "spare" "LOnlineParts$Pattern;" ∈ lw_all := lw_t2 (i := 72) (by decide +kernel) rfl
theorem fl_X10_55 : Cond.fieldLink RX10 55 "OnlineParts$Worker" "leaves" "[J" ∈ lw_all := lw_t2 (i := 73) (by decide +kernel) rfl
theorem fl_X10_58 : Cond.fieldLink RX10 58 "OnlineParts$Worker" "symbols" "[J" ∈ lw_all := lw_t2 (i := 74) (by decide +kernel) rfl
theorem cl_X11_87 : Cond.classLink RX11 87 RX7 ∈ lw_all := lw_t2 (i := 112) (by decide +kernel) rfl
theorem ia_X7 : Cond.instantiable RX7 6 ∈ lw_all := lw_t2 (i := 113) (by decide +kernel) rfl
theorem ml_X11_89 : Cond.methodLink RX11 89 yX7_init ∈ lw_all := lw_t2 (i := 114) (by decide +kernel) rfl
theorem im_X7_init : Cond.instanceMethod yX7_init ∈ lw_all := lw_t2 (i := 115) (by decide +kernel) rfl
theorem co_X7_init : Cond.code yX7_init cX7_init 4 none ∈ lw_all := lw_t2 (i := 116) rfl rfl
theorem ml_X7_3 : Cond.methodLink RX7 3 objectInit ∈ lw_all := lw_t2 (i := 117) (by decide +kernel) rfl
theorem fl_X7_9 : Cond.fieldLink RX7 9 "OnlineParts$SourceRun" "store" "LOnlineParts$Store;" ∈ lw_all := lw_t2 (i := 118) (by decide +kernel) rfl
theorem fl_X7_17 : Cond.fieldLink RX7 17 "OnlineParts$SourceRun" "leaves" "[J" ∈ lw_all := lw_t2 (i := 119) (by decide +kernel) rfl
theorem fl_X7_23 : Cond.fieldLink RX7 23 "OnlineParts$SourceRun" "arguments" "[J" ∈ lw_all := lw_t2 (i := 120) (by decide +kernel) rfl
theorem fl_X7_26 : Cond.fieldLink RX7 26 "OnlineParts$SourceRun" "program" "LOnlineParts$Program;" ∈ lw_all := lw_t2 (i := 121) (by decide +kernel) rfl
theorem fl_X7_30 : Cond.fieldLink RX7 30 "OnlineParts$SourceRun" "out" "LOnlineParts$Outcome;" ∈ lw_all := lw_t2 (i := 122) (by decide +kernel) rfl
theorem fl_X7_34 : Cond.fieldLink RX7 34 "OnlineParts$SourceRun" "at" "I" ∈ lw_all := lw_t2 (i := 123) (by decide +kernel) rfl
theorem cl_X11_96 : Cond.classLink RX11 96 RX6 ∈ lw_all := lw_t2 (i := 137) (by decide +kernel) rfl
theorem ia_X6 : Cond.instantiable RX6 9 ∈ lw_all := lw_t2 (i := 138) (by decide +kernel) rfl
theorem ml_X11_98 : Cond.methodLink RX11 98 yX6_init ∈ lw_all := lw_t2 (i := 139) (by decide +kernel) rfl
theorem im_X6_init : Cond.instanceMethod yX6_init ∈ lw_all := lw_t2 (i := 140) (by decide +kernel) rfl
theorem co_X6_init : Cond.code yX6_init cX6_init 4 none ∈ lw_all := lw_t2 (i := 141) rfl rfl
theorem ml_X6_7 : Cond.methodLink RX6 7 objectInit ∈ lw_all := lw_t2 (i := 142) (by decide +kernel) rfl
theorem fl_X6_13 : Cond.fieldLink RX6 13 "OnlineParts$ResidueRun" "store" "LOnlineParts$Store;" ∈ lw_all := lw_t2 (i := 143) (by decide +kernel) rfl
theorem fl_X6_19 : Cond.fieldLink RX6 19 "OnlineParts$ResidueRun" "registers" "[J" ∈ lw_all := lw_t2 (i := 144) (by decide +kernel) rfl
theorem fl_X6_23 : Cond.fieldLink RX6 23 "OnlineParts$ResidueRun" "leaves" "[J" ∈ lw_all := lw_t2 (i := 145) (by decide +kernel) rfl
theorem fl_X6_26 : Cond.fieldLink RX6 26 "OnlineParts$ResidueRun" "openBlock" "[I" ∈ lw_all := lw_t2 (i := 146) (by decide +kernel) rfl
theorem fl_X6_30 : Cond.fieldLink RX6 30 "OnlineParts$ResidueRun" "openAt" "[I" ∈ lw_all := lw_t2 (i := 147) (by decide +kernel) rfl
theorem fl_X6_41 : Cond.fieldLink RX6 41 "OnlineParts$ResidueRun" "open" "I" ∈ lw_all := lw_t2 (i := 148) (by decide +kernel) rfl
theorem fl_X6_45 : Cond.fieldLink RX6 45 "OnlineParts$ResidueRun" "base" "I" ∈ lw_all := lw_t2 (i := 149) (by decide +kernel) rfl
theorem fl_X6_33 : Cond.fieldLink RX6 33 "OnlineParts$ResidueRun" "code" "LOnlineParts$Residue;" ∈ lw_all := lw_t2 (i := 150) (by decide +kernel) rfl
theorem fl_X6_37 : Cond.fieldLink RX6 37 "OnlineParts$ResidueRun" "out" "LOnlineParts$Outcome;" ∈ lw_all := lw_t2 (i := 151) (by decide +kernel) rfl
theorem cl_X11_114 : Cond.classLink RX11 114 RX9 ∈ lw_all := lw_t2 (i := 171) (by decide +kernel) rfl
theorem ia_X9 : Cond.instantiable RX9 2 ∈ lw_all := lw_t2 (i := 172) (by decide +kernel) rfl
theorem ml_X11_116 : Cond.methodLink RX11 116 yX9_init ∈ lw_all := lw_t2 (i := 173) (by decide +kernel) rfl
theorem im_X9_init : Cond.instanceMethod yX9_init ∈ lw_all := lw_t2 (i := 174) (by decide +kernel) rfl
theorem co_X9_init : Cond.code yX9_init cX9_init 1 none ∈ lw_all := lw_t2 (i := 175) rfl rfl
theorem ml_X9_3 : Cond.methodLink RX9 3 objectInit ∈ lw_all := lw_t2 (i := 176) (by decide +kernel) rfl
theorem cs_X9_11 : Cond.constant RX9 11 (40000) ∈ lw_all := lw_t2 (i := 177) (by decide +kernel) rfl
theorem fl_X9_12 : Cond.fieldLink RX9 12 "OnlineParts$Text" "bytes" "[B" ∈ lw_all := lw_t2 (i := 178) (by decide +kernel) rfl
theorem fl_X9_16 : Cond.fieldLink RX9 16 "OnlineParts$Text" "size" "I" ∈ lw_all := lw_t2 (i := 179) (by decide +kernel) rfl
theorem ac_byte : Cond.arrayClass .byte ∈ lw_all := lw_t2 (i := 185) (by decide +kernel) rfl
theorem fl_X11_9 : Cond.fieldLink RX11 9 "OnlineParts" "tape" "[I" ∈ lw_all := lw_t2 (i := 186) (by decide +kernel) rfl
theorem fl_X11_13 : Cond.fieldLink RX11 13 "OnlineParts" "tapeSize" "I" ∈ lw_all := lw_t2 (i := 187) (by decide +kernel) rfl
theorem fl_X11_17 : Cond.fieldLink RX11 17 "OnlineParts" "faultAt" "I" ∈ lw_all := lw_t2 (i := 188) (by decide +kernel) rfl
theorem fl_X11_35 : Cond.fieldLink RX11 35 "OnlineParts" "reader" "LOnlineParts$Reader;" ∈ lw_all := lw_t2 (i := 189) (by decide +kernel) rfl
theorem fl_X11_23 : Cond.fieldLink RX11 23 "OnlineParts" "functions" "LOnlineParts$Program;" ∈ lw_all := lw_t2 (i := 190) (by decide +kernel) rfl
theorem fl_X11_27 : Cond.fieldLink RX11 27 "OnlineParts" "spareFunctions" "LOnlineParts$Program;" ∈ lw_all := lw_t2 (i := 191) (by decide +kernel) rfl
theorem fl_X11_44 : Cond.fieldLink RX11 44 "OnlineParts" "asked" "LOnlineParts$Pattern;" ∈ lw_all := lw_t2 (i := 192) (by decide +kernel) rfl
theorem fl_X11_48 : Cond.fieldLink RX11 48 "OnlineParts" "spareAsked" "LOnlineParts$Pattern;" ∈ lw_all := lw_t2 (i := 193) (by decide +kernel) rfl
theorem fl_X11_51 : Cond.fieldLink RX11 51 "OnlineParts" "told" "LOnlineParts$Pattern;" ∈ lw_all := lw_t2 (i := 194) (by decide +kernel) rfl
theorem fl_X11_54 : Cond.fieldLink RX11 54 "OnlineParts" "spareTold" "LOnlineParts$Pattern;" ∈ lw_all := lw_t2 (i := 195) (by decide +kernel) rfl
theorem fl_X11_57 : Cond.fieldLink RX11 57 "OnlineParts" "areTold" "Z" ∈ lw_all := lw_t2 (i := 196) (by decide +kernel) rfl
theorem fl_X11_83 : Cond.fieldLink RX11 83 "OnlineParts" "worker" "LOnlineParts$Worker;" ∈ lw_all := lw_t2 (i := 197) (by decide +kernel) rfl
theorem fl_X11_67 : Cond.fieldLink RX11 67 "OnlineParts" "left" "LOnlineParts$Residue;" ∈ lw_all := lw_t2 (i := 198) (by decide +kernel) rfl
theorem fl_X11_92 : Cond.fieldLink RX11 92 "OnlineParts" "sourceRun" "LOnlineParts$SourceRun;" ∈ lw_all := lw_t2 (i := 199) (by decide +kernel) rfl
theorem fl_X11_101 : Cond.fieldLink RX11 101 "OnlineParts" "residueRun" "LOnlineParts$ResidueRun;" ∈ lw_all := lw_t2 (i := 200) (by decide +kernel) rfl
theorem fl_X11_74 : Cond.fieldLink RX11 74 "OnlineParts" "latest" "LOnlineParts$Outcome;" ∈ lw_all := lw_t2 (i := 201) (by decide +kernel) rfl
theorem fl_X11_105 : Cond.fieldLink RX11 105 "OnlineParts" "ofSource" "LOnlineParts$Outcome;" ∈ lw_all := lw_t2 (i := 202) (by decide +kernel) rfl
theorem fl_X11_108 : Cond.fieldLink RX11 108 "OnlineParts" "ofResidue" "LOnlineParts$Outcome;" ∈ lw_all := lw_t2 (i := 203) (by decide +kernel) rfl
theorem fl_X11_111 : Cond.fieldLink RX11 111 "OnlineParts" "shown" "LOnlineParts$Pattern;" ∈ lw_all := lw_t2 (i := 204) (by decide +kernel) rfl
theorem fl_X11_117 : Cond.fieldLink RX11 117 "OnlineParts" "text" "LOnlineParts$Text;" ∈ lw_all := lw_t2 (i := 205) (by decide +kernel) rfl
theorem ml_L_13 : Cond.methodLink RL 13 yX11_feed ∈ lw_all := lw_t3 (i := 7) (by decide +kernel) rfl
theorem im_X11_feed : Cond.instanceMethod yX11_feed ∈ lw_all := lw_t3 (i := 8) (by decide +kernel) rfl
theorem se_X11_feed : Cond.selects RX11 yX11_feed yX11_feed ∈ lw_all := lw_t3 (i := 9) (by decide +kernel) rfl
theorem co_X11_feed : Cond.code yX11_feed cX11_feed 6 (some .int) ∈ lw_all := lw_t3 (i := 10) rfl rfl
theorem ml_X11_121 : Cond.methodLink RX11 121 yX11_feedFour ∈ lw_all := lw_t3 (i := 11) (by decide +kernel) rfl
theorem im_X11_feedFour : Cond.instanceMethod yX11_feedFour ∈ lw_all := lw_t3 (i := 13) (by decide +kernel) rfl
theorem co_X11_feedFour : Cond.code yX11_feedFour cX11_feedFour 3 none ∈ lw_all := lw_t3 (i := 14) rfl rfl
theorem ml_L_18 : Cond.methodLink RL 18 yX11_end ∈ lw_all := lw_t3 (i := 15) (by decide +kernel) rfl
theorem im_X11_end : Cond.instanceMethod yX11_end ∈ lw_all := lw_t3 (i := 16) (by decide +kernel) rfl
theorem se_X11_end : Cond.selects RX11 yX11_end yX11_end ∈ lw_all := lw_t3 (i := 17) (by decide +kernel) rfl
theorem co_X11_end : Cond.code yX11_end cX11_end 2 (some .int) ∈ lw_all := lw_t3 (i := 18) rfl rfl
theorem ml_L_23 : Cond.methodLink RL 23 yX11_program ∈ lw_all := lw_t3 (i := 19) (by decide +kernel) rfl
theorem im_X11_program : Cond.instanceMethod yX11_program ∈ lw_all := lw_t3 (i := 20) (by decide +kernel) rfl
theorem se_X11_program : Cond.selects RX11 yX11_program yX11_program ∈ lw_all := lw_t3 (i := 21) (by decide +kernel) rfl
theorem co_X11_program : Cond.code yX11_program cX11_program 2 (some .int) ∈ lw_all := lw_t3 (i := 22) rfl rfl
theorem ml_X11_124 : Cond.methodLink RX11 124 yX11_takeTape ∈ lw_all := lw_t3 (i := 23) (by decide +kernel) rfl
theorem im_X11_takeTape : Cond.instanceMethod yX11_takeTape ∈ lw_all := lw_t3 (i := 25) (by decide +kernel) rfl
theorem co_X11_takeTape : Cond.code yX11_takeTape cX11_takeTape 1 none ∈ lw_all := lw_t3 (i := 26) rfl rfl
theorem ml_X11_155 : Cond.methodLink RX11 155 yX4_begin ∈ lw_all := lw_t3 (i := 27) (by decide +kernel) rfl
theorem im_X4_begin : Cond.instanceMethod yX4_begin ∈ lw_all := lw_t3 (i := 28) (by decide +kernel) rfl
theorem se_X4_begin : Cond.selects RX4 yX4_begin yX4_begin ∈ lw_all := lw_t3 (i := 29) (by decide +kernel) rfl
theorem co_X4_begin : Cond.code yX4_begin cX4_begin 2 none ∈ lw_all := lw_t3 (i := 30) rfl rfl
theorem ml_X4_37 : Cond.methodLink RX4 37 yJ9_min_7cf53 ∈ lw_all := lw_t3 (i := 31) (by decide +kernel) rfl
theorem st_J9_min_7cf53 : Cond.static yJ9_min_7cf53 ∈ lw_all := lw_t3 (i := 32) (by decide +kernel) rfl
theorem co_J9_min_7cf53 : Cond.code yJ9_min_7cf53 cJ9_min_7cf53 2 (some .int) ∈ lw_all := lw_t3 (i := 33) rfl rfl
theorem ml_X11_127 : Cond.methodLink RX11 127 yX4_readProgram ∈ lw_all := lw_t3 (i := 34) (by decide +kernel) rfl
theorem im_X4_readProgram : Cond.instanceMethod yX4_readProgram ∈ lw_all := lw_t3 (i := 35) (by decide +kernel) rfl
theorem se_X4_readProgram : Cond.selects RX4 yX4_readProgram yX4_readProgram ∈ lw_all := lw_t3 (i := 36) (by decide +kernel) rfl
theorem co_X4_readProgram : Cond.code yX4_readProgram cX4_readProgram 3 none ∈ lw_all := lw_t3 (i := 37) rfl rfl
theorem ml_X4_59 : Cond.methodLink RX4 59 yX3_clear ∈ lw_all := lw_t3 (i := 38) (by decide +kernel) rfl
theorem im_X3_clear : Cond.instanceMethod yX3_clear ∈ lw_all := lw_t3 (i := 39) (by decide +kernel) rfl
theorem se_X3_clear : Cond.selects RX3 yX3_clear yX3_clear ∈ lw_all := lw_t3 (i := 40) (by decide +kernel) rfl
theorem co_X3_clear : Cond.code yX3_clear cX3_clear 2 none ∈ lw_all := lw_t3 (i := 41) rfl rfl
theorem ml_X4_43 : Cond.methodLink RX4 43 yX4_isWell ∈ lw_all := lw_t3 (i := 42) (by decide +kernel) rfl
theorem im_X4_isWell : Cond.instanceMethod yX4_isWell ∈ lw_all := lw_t3 (i := 44) (by decide +kernel) rfl
theorem co_X4_isWell : Cond.code yX4_isWell cX4_isWell 1 (some .boolean) ∈ lw_all := lw_t3 (i := 45) rfl rfl
theorem ml_X4_47 : Cond.methodLink RX4 47 yX4_here ∈ lw_all := lw_t3 (i := 50) (by decide +kernel) rfl
theorem im_X4_here : Cond.instanceMethod yX4_here ∈ lw_all := lw_t3 (i := 52) (by decide +kernel) rfl
theorem co_X4_here : Cond.code yX4_here cX4_here 1 (some .int) ∈ lw_all := lw_t3 (i := 53) rfl rfl
theorem ml_X4_67 : Cond.methodLink RX4 67 yX4_isLetter ∈ lw_all := lw_t3 (i := 54) (by decide +kernel) rfl
theorem st_X4_isLetter : Cond.static yX4_isLetter ∈ lw_all := lw_t3 (i := 55) (by decide +kernel) rfl
theorem co_X4_isLetter : Cond.code yX4_isLetter cX4_isLetter 1 (some .boolean) ∈ lw_all := lw_t3 (i := 56) rfl rfl
theorem ml_X4_51 : Cond.methodLink RX4 51 yX4_fail ∈ lw_all := lw_t3 (i := 57) (by decide +kernel) rfl
theorem im_X4_fail : Cond.instanceMethod yX4_fail ∈ lw_all := lw_t3 (i := 59) (by decide +kernel) rfl
theorem co_X4_fail : Cond.code yX4_fail cX4_fail 2 none ∈ lw_all := lw_t3 (i := 60) rfl rfl
theorem ml_X4_76 : Cond.methodLink RX4 76 yX3_startOf ∈ lw_all := lw_t3 (i := 84) (by decide +kernel) rfl
theorem im_X3_startOf : Cond.instanceMethod yX3_startOf ∈ lw_all := lw_t3 (i := 85) (by decide +kernel) rfl
theorem se_X3_startOf : Cond.selects RX3 yX3_startOf yX3_startOf ∈ lw_all := lw_t3 (i := 86) (by decide +kernel) rfl
theorem co_X3_startOf : Cond.code yX3_startOf cX3_startOf 2 (some .int) ∈ lw_all := lw_t3 (i := 87) rfl rfl
theorem ml_X4_136 : Cond.methodLink RX4 136 yX0_make ∈ lw_all := lw_t3 (i := 114) (by decide +kernel) rfl
theorem ml_X4_140 : Cond.methodLink RX4 140 yX0_floatBits ∈ lw_all := lw_t3 (i := 115) (by decide +kernel) rfl
theorem st_X0_floatBits : Cond.static yX0_floatBits ∈ lw_all := lw_t3 (i := 116) (by decide +kernel) rfl
theorem co_X0_floatBits : Cond.code yX0_floatBits cX0_floatBits 5 (some .int) ∈ lw_all := lw_t3 (i := 117) rfl rfl
theorem ml_X0_26 : Cond.methodLink RX0 26 yX0_bits ∈ lw_all := lw_t3 (i := 118) (by decide +kernel) rfl
theorem st_X0_bits : Cond.static yX0_bits ∈ lw_all := lw_t3 (i := 119) (by decide +kernel) rfl
theorem co_X0_bits : Cond.code yX0_bits cX0_bits 2 (some .int) ∈ lw_all := lw_t3 (i := 120) rfl rfl
theorem ml_X0_23 : Cond.methodLink RX0 23 yX0_kind ∈ lw_all := lw_t3 (i := 121) (by decide +kernel) rfl
theorem st_X0_kind : Cond.static yX0_kind ∈ lw_all := lw_t3 (i := 122) (by decide +kernel) rfl
theorem co_X0_kind : Cond.code yX0_kind cX0_kind 2 (some .int) ∈ lw_all := lw_t3 (i := 123) rfl rfl
theorem ml_X0_36 : Cond.methodLink RX0 36 yX0_isNan ∈ lw_all := lw_t3 (i := 124) (by decide +kernel) rfl
theorem st_X0_isNan : Cond.static yX0_isNan ∈ lw_all := lw_t3 (i := 125) (by decide +kernel) rfl
theorem co_X0_isNan : Cond.code yX0_isNan cX0_isNan 1 (some .boolean) ∈ lw_all := lw_t3 (i := 126) rfl rfl
theorem cs_X0_58 : Cond.constant RX0 58 (2147483647) ∈ lw_all := lw_t3 (i := 127) (by decide +kernel) rfl
theorem cs_X0_71 : Cond.constant RX0 71 (2139095040) ∈ lw_all := lw_t3 (i := 128) (by decide +kernel) rfl
theorem cs_X0_47 : Cond.constant RX0 47 (2143289344) ∈ lw_all := lw_t3 (i := 129) (by decide +kernel) rfl
theorem ml_X0_59 : Cond.methodLink RX0 59 yX0_pack ∈ lw_all := lw_t3 (i := 130) (by decide +kernel) rfl
theorem st_X0_pack : Cond.static yX0_pack ∈ lw_all := lw_t3 (i := 131) (by decide +kernel) rfl
theorem co_X0_pack : Cond.code yX0_pack cX0_pack 13 (some .int) ∈ lw_all := lw_t3 (i := 132) rfl rfl
theorem ml_X0_77 : Cond.methodLink RX0 77 yJ13_numberOfLeadingZeros_95d88 ∈ lw_all := lw_t3 (i := 133) (by decide +kernel) rfl
theorem st_J13_numberOfLeadingZeros_95d88 : Cond.static yJ13_numberOfLeadingZeros_95d88 ∈ lw_all := lw_t3 (i := 134) (by decide +kernel) rfl
theorem co_J13_numberOfLeadingZeros_95d88 : Cond.code yJ13_numberOfLeadingZeros_95d88 cJ13_numberOfLeadingZeros_95d88 3 (some .int) ∈ lw_all := lw_t3 (i := 135) rfl rfl
theorem ml_J13_308 : Cond.methodLink RJ13 308 yJ6_numberOfLeadingZeros_0f7a4 ∈ lw_all := lw_t3 (i := 136) (by decide +kernel) rfl
theorem st_J6_numberOfLeadingZeros_0f7a4 : Cond.static yJ6_numberOfLeadingZeros_0f7a4 ∈ lw_all := lw_t3 (i := 137) (by decide +kernel) rfl
theorem co_J6_numberOfLeadingZeros_0f7a4 : Cond.code yJ6_numberOfLeadingZeros_0f7a4 cJ6_numberOfLeadingZeros_0f7a4 2 (some .int) ∈ lw_all := lw_t3 (i := 138) rfl rfl
theorem cs_J6_264 : Cond.constant RJ6 264 (65536) ∈ lw_all := lw_t3 (i := 139) (by decide +kernel) rfl
theorem ml_X0_82 : Cond.methodLink RX0 82 yJ9_max_7cf53 ∈ lw_all := lw_t3 (i := 140) (by decide +kernel) rfl
theorem st_J9_max_7cf53 : Cond.static yJ9_max_7cf53 ∈ lw_all := lw_t3 (i := 141) (by decide +kernel) rfl
theorem co_J9_max_7cf53 : Cond.code yJ9_max_7cf53 cJ9_max_7cf53 2 (some .int) ∈ lw_all := lw_t3 (i := 142) rfl rfl
theorem cs_X0_87 : Cond.constantLong RX0 87 (16777216) ∈ lw_all := lw_t3 (i := 143) (by decide +kernel) rfl
theorem cs_X0_89 : Cond.constantLong RX0 89 (8388608) ∈ lw_all := lw_t3 (i := 144) (by decide +kernel) rfl
theorem cs_X0_75 : Cond.constant RX0 75 (8388607) ∈ lw_all := lw_t3 (i := 145) (by decide +kernel) rfl
theorem ml_X4_143 : Cond.methodLink RX4 143 yX0_divide ∈ lw_all := lw_t3 (i := 146) (by decide +kernel) rfl
theorem st_X0_divide : Cond.static yX0_divide ∈ lw_all := lw_t3 (i := 147) (by decide +kernel) rfl
theorem co_X0_divide : Cond.code yX0_divide cX0_divide 14 (some .int) ∈ lw_all := lw_t3 (i := 148) rfl rfl
theorem ml_X0_67 : Cond.methodLink RX0 67 yX0_wholeOf ∈ lw_all := lw_t3 (i := 149) (by decide +kernel) rfl
theorem st_X0_wholeOf : Cond.static yX0_wholeOf ∈ lw_all := lw_t3 (i := 150) (by decide +kernel) rfl
theorem co_X0_wholeOf : Cond.code yX0_wholeOf cX0_wholeOf 2 (some .long) ∈ lw_all := lw_t3 (i := 151) rfl rfl
theorem cs_X0_76 : Cond.constant RX0 76 (8388608) ∈ lw_all := lw_t3 (i := 152) (by decide +kernel) rfl
theorem ml_X0_63 : Cond.methodLink RX0 63 yX0_lastBitOf ∈ lw_all := lw_t3 (i := 153) (by decide +kernel) rfl
theorem st_X0_lastBitOf : Cond.static yX0_lastBitOf ∈ lw_all := lw_t3 (i := 154) (by decide +kernel) rfl
theorem co_X0_lastBitOf : Cond.code yX0_lastBitOf cX0_lastBitOf 2 (some .int) ∈ lw_all := lw_t3 (i := 155) rfl rfl
theorem ml_X4_114 : Cond.methodLink RX4 114 yX0_kind ∈ lw_all := lw_t3 (i := 156) (by decide +kernel) rfl
theorem ml_X4_120 : Cond.methodLink RX4 120 yX0_bits ∈ lw_all := lw_t3 (i := 157) (by decide +kernel) rfl
theorem ml_X4_161 : Cond.methodLink RX4 161 yX0_isSign ∈ lw_all := lw_t3 (i := 178) (by decide +kernel) rfl
theorem st_X0_isSign : Cond.static yX0_isSign ∈ lw_all := lw_t3 (i := 179) (by decide +kernel) rfl
theorem co_X0_isSign : Cond.code yX0_isSign cX0_isSign 1 (some .boolean) ∈ lw_all := lw_t3 (i := 180) rfl rfl
theorem ml_X11_131 : Cond.methodLink RX11 131 yX4_badPlace ∈ lw_all := lw_t3 (i := 201) (by decide +kernel) rfl
theorem im_X4_badPlace : Cond.instanceMethod yX4_badPlace ∈ lw_all := lw_t3 (i := 202) (by decide +kernel) rfl
theorem se_X4_badPlace : Cond.selects RX4 yX4_badPlace yX4_badPlace ∈ lw_all := lw_t3 (i := 203) (by decide +kernel) rfl
theorem co_X4_badPlace : Cond.code yX4_badPlace cX4_badPlace 1 (some .int) ∈ lw_all := lw_t3 (i := 204) rfl rfl
theorem ml_X11_135 : Cond.methodLink RX11 135 yX5_clear ∈ lw_all := lw_t3 (i := 205) (by decide +kernel) rfl
theorem im_X5_clear : Cond.instanceMethod yX5_clear ∈ lw_all := lw_t3 (i := 206) (by decide +kernel) rfl
theorem se_X5_clear : Cond.selects RX5 yX5_clear yX5_clear ∈ lw_all := lw_t3 (i := 207) (by decide +kernel) rfl
theorem co_X5_clear : Cond.code yX5_clear cX5_clear 1 none ∈ lw_all := lw_t3 (i := 208) rfl rfl
theorem ml_L_28 : Cond.methodLink RL 28 yX11_task ∈ lw_all := lw_t3 (i := 209) (by decide +kernel) rfl
theorem im_X11_task : Cond.instanceMethod yX11_task ∈ lw_all := lw_t3 (i := 210) (by decide +kernel) rfl
theorem se_X11_task : Cond.selects RX11 yX11_task yX11_task ∈ lw_all := lw_t3 (i := 211) (by decide +kernel) rfl
theorem co_X11_task : Cond.code yX11_task cX11_task 2 (some .int) ∈ lw_all := lw_t3 (i := 212) rfl rfl
theorem ml_X11_141 : Cond.methodLink RX11 141 yX4_readTask ∈ lw_all := lw_t3 (i := 213) (by decide +kernel) rfl
theorem im_X4_readTask : Cond.instanceMethod yX4_readTask ∈ lw_all := lw_t3 (i := 214) (by decide +kernel) rfl
theorem se_X4_readTask : Cond.selects RX4 yX4_readTask yX4_readTask ∈ lw_all := lw_t3 (i := 215) (by decide +kernel) rfl
theorem co_X4_readTask : Cond.code yX4_readTask cX4_readTask 4 none ∈ lw_all := lw_t3 (i := 216) rfl rfl
theorem ml_X4_169 : Cond.methodLink RX4 169 yX2_begin ∈ lw_all := lw_t3 (i := 217) (by decide +kernel) rfl
theorem cs_X4_181 : Cond.constantLong RX4 181 (8589934592) ∈ lw_all := lw_t3 (i := 222) (by decide +kernel) rfl
theorem ml_X4_186 : Cond.methodLink RX4 186 yX2_stars ∈ lw_all := lw_t3 (i := 227) (by decide +kernel) rfl
theorem im_X2_stars : Cond.instanceMethod yX2_stars ∈ lw_all := lw_t3 (i := 228) (by decide +kernel) rfl
theorem se_X2_stars : Cond.selects RX2 yX2_stars yX2_stars ∈ lw_all := lw_t3 (i := 229) (by decide +kernel) rfl
theorem co_X2_stars : Cond.code yX2_stars cX2_stars 3 (some .int) ∈ lw_all := lw_t3 (i := 230) rfl rfl
theorem ml_X2_37 : Cond.methodLink RX2 37 yX0_kind ∈ lw_all := lw_t3 (i := 231) (by decide +kernel) rfl
theorem cs_X4_189 : Cond.constantLong RX4 189 (17179869184) ∈ lw_all := lw_t3 (i := 232) (by decide +kernel) rfl
theorem ml_X4_177 : Cond.methodLink RX4 177 yX4_takeEnd ∈ lw_all := lw_t3 (i := 233) (by decide +kernel) rfl
theorem im_X4_takeEnd : Cond.instanceMethod yX4_takeEnd ∈ lw_all := lw_t3 (i := 235) (by decide +kernel) rfl
theorem co_X4_takeEnd : Cond.code yX4_takeEnd cX4_takeEnd 1 none ∈ lw_all := lw_t3 (i := 236) rfl rfl
theorem ml_X11_145 : Cond.methodLink RX11 145 yX2_begin ∈ lw_all := lw_t3 (i := 237) (by decide +kernel) rfl
theorem ml_X11_148 : Cond.methodLink RX11 148 yX2_stars ∈ lw_all := lw_t3 (i := 238) (by decide +kernel) rfl
theorem ml_L_32 : Cond.methodLink RL 32 yX11_values ∈ lw_all := lw_t3 (i := 239) (by decide +kernel) rfl
theorem im_X11_values : Cond.instanceMethod yX11_values ∈ lw_all := lw_t4 (i := 0) (by decide +kernel) rfl
theorem se_X11_values : Cond.selects RX11 yX11_values yX11_values ∈ lw_all := lw_t4 (i := 1) (by decide +kernel) rfl
theorem co_X11_values : Cond.code yX11_values cX11_values 3 (some .int) ∈ lw_all := lw_t4 (i := 2) rfl rfl
theorem ml_X11_151 : Cond.methodLink RX11 151 yX4_readValues ∈ lw_all := lw_t4 (i := 3) (by decide +kernel) rfl
theorem im_X4_readValues : Cond.instanceMethod yX4_readValues ∈ lw_all := lw_t4 (i := 4) (by decide +kernel) rfl
theorem se_X4_readValues : Cond.selects RX4 yX4_readValues yX4_readValues ∈ lw_all := lw_t4 (i := 5) (by decide +kernel) rfl
theorem co_X4_readValues : Cond.code yX4_readValues cX4_readValues 4 none ∈ lw_all := lw_t4 (i := 6) rfl rfl
theorem ml_L_36 : Cond.methodLink RL 36 yX11_fault ∈ lw_all := lw_t4 (i := 7) (by decide +kernel) rfl
theorem im_X11_fault : Cond.instanceMethod yX11_fault ∈ lw_all := lw_t4 (i := 8) (by decide +kernel) rfl
theorem se_X11_fault : Cond.selects RX11 yX11_fault yX11_fault ∈ lw_all := lw_t4 (i := 9) (by decide +kernel) rfl
theorem co_X11_fault : Cond.code yX11_fault cX11_fault 1 (some .int) ∈ lw_all := lw_t4 (i := 10) rfl rfl
theorem ml_L_40 : Cond.methodLink RL 40 yX11_set ∈ lw_all := lw_t4 (i := 11) (by decide +kernel) rfl
theorem im_X11_set : Cond.instanceMethod yX11_set ∈ lw_all := lw_t4 (i := 12) (by decide +kernel) rfl
theorem se_X11_set : Cond.selects RX11 yX11_set yX11_set ∈ lw_all := lw_t4 (i := 13) (by decide +kernel) rfl
theorem co_X11_set : Cond.code yX11_set cX11_set 3 (some .boolean) ∈ lw_all := lw_t4 (i := 14) rfl rfl
theorem ml_X11_156 : Cond.methodLink RX11 156 yX10_setLimit ∈ lw_all := lw_t4 (i := 15) (by decide +kernel) rfl
theorem im_X10_setLimit : Cond.instanceMethod yX10_setLimit ∈ lw_all := lw_t4 (i := 16) (by decide +kernel) rfl
theorem se_X10_setLimit : Cond.selects RX10 yX10_setLimit yX10_setLimit ∈ lw_all := lw_t4 (i := 17) (by decide +kernel) rfl
theorem co_X10_setLimit : Cond.code yX10_setLimit cX10_setLimit 3 (some .boolean) ∈ lw_all := lw_t4 (i := 18) rfl rfl
theorem ml_L_45 : Cond.methodLink RL 45 yX11_is ∈ lw_all := lw_t4 (i := 19) (by decide +kernel) rfl
theorem im_X11_is : Cond.instanceMethod yX11_is ∈ lw_all := lw_t4 (i := 20) (by decide +kernel) rfl
theorem se_X11_is : Cond.selects RX11 yX11_is yX11_is ∈ lw_all := lw_t4 (i := 21) (by decide +kernel) rfl
theorem co_X11_is : Cond.code yX11_is cX11_is 2 (some .int) ∈ lw_all := lw_t4 (i := 22) rfl rfl
theorem ml_L_49 : Cond.methodLink RL 49 yX11_function ∈ lw_all := lw_t4 (i := 23) (by decide +kernel) rfl
theorem im_X11_function : Cond.instanceMethod yX11_function ∈ lw_all := lw_t4 (i := 24) (by decide +kernel) rfl
theorem se_X11_function : Cond.selects RX11 yX11_function yX11_function ∈ lw_all := lw_t4 (i := 25) (by decide +kernel) rfl
theorem co_X11_function : Cond.code yX11_function cX11_function 3 (some .int) ∈ lw_all := lw_t4 (i := 26) rfl rfl
theorem ml_X11_172 : Cond.methodLink RX11 172 yX3_about ∈ lw_all := lw_t4 (i := 27) (by decide +kernel) rfl
theorem im_X3_about : Cond.instanceMethod yX3_about ∈ lw_all := lw_t4 (i := 28) (by decide +kernel) rfl
theorem se_X3_about : Cond.selects RX3 yX3_about yX3_about ∈ lw_all := lw_t4 (i := 29) (by decide +kernel) rfl
theorem co_X3_about : Cond.code yX3_about cX3_about 3 (some .int) ∈ lw_all := lw_t4 (i := 30) rfl rfl
theorem ml_L_54 : Cond.methodLink RL 54 yX11_specialise ∈ lw_all := lw_t4 (i := 31) (by decide +kernel) rfl
theorem im_X11_specialise : Cond.instanceMethod yX11_specialise ∈ lw_all := lw_t4 (i := 32) (by decide +kernel) rfl
theorem se_X11_specialise : Cond.selects RX11 yX11_specialise yX11_specialise ∈ lw_all := lw_t4 (i := 33) (by decide +kernel) rfl
theorem co_X11_specialise : Cond.code yX11_specialise cX11_specialise 2 (some .int) ∈ lw_all := lw_t4 (i := 34) rfl rfl
theorem ml_X11_176 : Cond.methodLink RX11 176 yX10_begin ∈ lw_all := lw_t4 (i := 35) (by decide +kernel) rfl
theorem im_X10_begin : Cond.instanceMethod yX10_begin ∈ lw_all := lw_t4 (i := 36) (by decide +kernel) rfl
theorem se_X10_begin : Cond.selects RX10 yX10_begin yX10_begin ∈ lw_all := lw_t4 (i := 37) (by decide +kernel) rfl
theorem co_X10_begin : Cond.code yX10_begin cX10_begin 3 none ∈ lw_all := lw_t4 (i := 38) rfl rfl
theorem ml_X10_67 : Cond.methodLink RX10 67 yX5_clear ∈ lw_all := lw_t4 (i := 39) (by decide +kernel) rfl
theorem ml_X10_79 : Cond.methodLink RX10 79 yX3_startOf ∈ lw_all := lw_t4 (i := 40) (by decide +kernel) rfl
theorem ml_X2_25 : Cond.methodLink RX2 25 yX2_begin ∈ lw_all := lw_t4 (i := 49) (by decide +kernel) rfl
theorem ml_X5_87 : Cond.methodLink RX5 87 yX2_stars ∈ lw_all := lw_t4 (i := 59) (by decide +kernel) rfl
theorem ml_X5_63 : Cond.methodLink RX5 63 yJ9_min_7cf53 ∈ lw_all := lw_t4 (i := 68) (by decide +kernel) rfl
theorem ml_X5_69 : Cond.methodLink RX5 69 yJ9_max_7cf53 ∈ lw_all := lw_t4 (i := 69) (by decide +kernel) rfl
theorem ml_X10_115 : Cond.methodLink RX10 115 yX8_clear ∈ lw_all := lw_t4 (i := 75) (by decide +kernel) rfl
theorem im_X8_clear : Cond.instanceMethod yX8_clear ∈ lw_all := lw_t4 (i := 76) (by decide +kernel) rfl
theorem se_X8_clear : Cond.selects RX8 yX8_clear yX8_clear ∈ lw_all := lw_t4 (i := 77) (by decide +kernel) rfl
theorem co_X8_clear : Cond.code yX8_clear cX8_clear 1 none ∈ lw_all := lw_t4 (i := 78) rfl rfl
theorem ml_X10_124 : Cond.methodLink RX10 124 yX8_build ∈ lw_all := lw_t4 (i := 79) (by decide +kernel) rfl
theorem im_X8_build : Cond.instanceMethod yX8_build ∈ lw_all := lw_t4 (i := 80) (by decide +kernel) rfl
theorem se_X8_build : Cond.selects RX8 yX8_build yX8_build ∈ lw_all := lw_t4 (i := 81) (by decide +kernel) rfl
theorem co_X8_build : Cond.code yX8_build cX8_build 9 (some .int) ∈ lw_all := lw_t4 (i := 82) rfl rfl
theorem ml_X8_98 : Cond.methodLink RX8 98 yX2_stars ∈ lw_all := lw_t4 (i := 83) (by decide +kernel) rfl
theorem ml_X8_106 : Cond.methodLink RX8 106 yX0_kind ∈ lw_all := lw_t4 (i := 84) (by decide +kernel) rfl
theorem cs_X8_86 : Cond.constantLong RX8 86 (2) ∈ lw_all := lw_t4 (i := 97) (by decide +kernel) rfl
theorem ml_X8_92 : Cond.methodLink RX8 92 yX0_bits ∈ lw_all := lw_t4 (i := 98) (by decide +kernel) rfl
theorem ml_X8_61 : Cond.methodLink RX8 61 yJ9_max_7cf53 ∈ lw_all := lw_t4 (i := 103) (by decide +kernel) rfl
theorem ml_X8_82 : Cond.methodLink RX8 82 yX0_make ∈ lw_all := lw_t4 (i := 104) (by decide +kernel) rfl
theorem ml_X8_113 : Cond.methodLink RX8 113 yJ9_min_7cf53 ∈ lw_all := lw_t4 (i := 105) (by decide +kernel) rfl
theorem cs_X11_179 : Cond.constant RX11 179 (1000000) ∈ lw_all := lw_t4 (i := 110) (by decide +kernel) rfl
theorem ml_X11_180 : Cond.methodLink RX11 180 yX10_isWorking ∈ lw_all := lw_t4 (i := 111) (by decide +kernel) rfl
theorem im_X10_isWorking : Cond.instanceMethod yX10_isWorking ∈ lw_all := lw_t4 (i := 112) (by decide +kernel) rfl
theorem se_X10_isWorking : Cond.selects RX10 yX10_isWorking yX10_isWorking ∈ lw_all := lw_t4 (i := 113) (by decide +kernel) rfl
theorem co_X10_isWorking : Cond.code yX10_isWorking cX10_isWorking 1 (some .boolean) ∈ lw_all := lw_t4 (i := 114) rfl rfl
theorem ml_X10_215 : Cond.methodLink RX10 215 yX0_isKnown ∈ lw_all := lw_t4 (i := 159) (by decide +kernel) rfl
theorem st_X0_isKnown : Cond.static yX0_isKnown ∈ lw_all := lw_t4 (i := 160) (by decide +kernel) rfl
theorem co_X0_isKnown : Cond.code yX0_isKnown cX0_isKnown 2 (some .boolean) ∈ lw_all := lw_t4 (i := 161) rfl rfl
theorem ml_X10_247 : Cond.methodLink RX10 247 yX0_apply ∈ lw_all := lw_t4 (i := 162) (by decide +kernel) rfl
theorem st_X0_apply : Cond.static yX0_apply ∈ lw_all := lw_t4 (i := 163) (by decide +kernel) rfl
theorem co_X0_apply : Cond.code yX0_apply cX0_apply 8 (some .long) ∈ lw_all := lw_t4 (i := 164) rfl rfl
theorem ml_X0_11 : Cond.methodLink RX0 11 yX0_cut ∈ lw_all := lw_t4 (i := 165) (by decide +kernel) rfl
theorem st_X0_cut : Cond.static yX0_cut ∈ lw_all := lw_t4 (i := 166) (by decide +kernel) rfl
theorem co_X0_cut : Cond.code yX0_cut cX0_cut 5 (some .int) ∈ lw_all := lw_t4 (i := 167) rfl rfl
theorem cs_X0_51 : Cond.constant RX0 51 (-2147483648) ∈ lw_all := lw_t4 (i := 168) (by decide +kernel) rfl
theorem ml_X0_15 : Cond.methodLink RX0 15 yX0_rest ∈ lw_all := lw_t4 (i := 169) (by decide +kernel) rfl
theorem st_X0_rest : Cond.static yX0_rest ∈ lw_all := lw_t4 (i := 170) (by decide +kernel) rfl
theorem co_X0_rest : Cond.code yX0_rest cX0_rest 2 (some .int) ∈ lw_all := lw_t4 (i := 171) rfl rfl
theorem ml_X0_19 : Cond.methodLink RX0 19 yX0_make ∈ lw_all := lw_t4 (i := 172) (by decide +kernel) rfl
theorem ml_X0_29 : Cond.methodLink RX0 29 yX0_applyInts ∈ lw_all := lw_t4 (i := 173) (by decide +kernel) rfl
theorem st_X0_applyInts : Cond.static yX0_applyInts ∈ lw_all := lw_t4 (i := 174) (by decide +kernel) rfl
theorem co_X0_applyInts : Cond.code yX0_applyInts cX0_applyInts 3 (some .int) ∈ lw_all := lw_t4 (i := 175) rfl rfl
theorem ml_X0_33 : Cond.methodLink RX0 33 yX0_floatBits ∈ lw_all := lw_t4 (i := 176) (by decide +kernel) rfl
theorem ml_X0_40 : Cond.methodLink RX0 40 yX0_isBelow ∈ lw_all := lw_t4 (i := 177) (by decide +kernel) rfl
theorem st_X0_isBelow : Cond.static yX0_isBelow ∈ lw_all := lw_t4 (i := 178) (by decide +kernel) rfl
theorem co_X0_isBelow : Cond.code yX0_isBelow cX0_isBelow 2 (some .boolean) ∈ lw_all := lw_t4 (i := 179) rfl rfl
theorem ml_X0_72 : Cond.methodLink RX0 72 yX0_ordered ∈ lw_all := lw_t4 (i := 180) (by decide +kernel) rfl
theorem st_X0_ordered : Cond.static yX0_ordered ∈ lw_all := lw_t4 (i := 181) (by decide +kernel) rfl
theorem co_X0_ordered : Cond.code yX0_ordered cX0_ordered 1 (some .int) ∈ lw_all := lw_t4 (i := 182) rfl rfl
theorem ml_X0_44 : Cond.methodLink RX0 44 yX0_isEqual ∈ lw_all := lw_t4 (i := 183) (by decide +kernel) rfl
theorem st_X0_isEqual : Cond.static yX0_isEqual ∈ lw_all := lw_t4 (i := 184) (by decide +kernel) rfl
theorem co_X0_isEqual : Cond.code yX0_isEqual cX0_isEqual 2 (some .boolean) ∈ lw_all := lw_t4 (i := 185) rfl rfl
theorem ml_X0_48 : Cond.methodLink RX0 48 yX0_add ∈ lw_all := lw_t4 (i := 186) (by decide +kernel) rfl
theorem st_X0_add : Cond.static yX0_add ∈ lw_all := lw_t4 (i := 187) (by decide +kernel) rfl
theorem co_X0_add : Cond.code yX0_add cX0_add 8 (some .int) ∈ lw_all := lw_t4 (i := 188) rfl rfl
theorem ml_X0_52 : Cond.methodLink RX0 52 yX0_multiply ∈ lw_all := lw_t4 (i := 189) (by decide +kernel) rfl
theorem st_X0_multiply : Cond.static yX0_multiply ∈ lw_all := lw_t4 (i := 190) (by decide +kernel) rfl
theorem co_X0_multiply : Cond.code yX0_multiply cX0_multiply 5 (some .int) ∈ lw_all := lw_t4 (i := 191) rfl rfl
theorem ml_X0_55 : Cond.methodLink RX0 55 yX0_divide ∈ lw_all := lw_t4 (i := 192) (by decide +kernel) rfl
theorem ml_X10_251 : Cond.methodLink RX10 251 yX0_turn ∈ lw_all := lw_t4 (i := 217) (by decide +kernel) rfl
theorem st_X0_turn : Cond.static yX0_turn ∈ lw_all := lw_t4 (i := 218) (by decide +kernel) rfl
theorem co_X0_turn : Cond.code yX0_turn cX0_turn 3 (some .long) ∈ lw_all := lw_t4 (i := 219) rfl rfl
theorem ml_X10_253 : Cond.methodLink RX10 253 yX0_kind ∈ lw_all := lw_t4 (i := 225) (by decide +kernel) rfl
theorem ml_X10_269 : Cond.methodLink RX10 269 yX0_isTrue ∈ lw_all := lw_t5 (i := 12) (by decide +kernel) rfl
theorem st_X0_isTrue : Cond.static yX0_isTrue ∈ lw_all := lw_t5 (i := 13) (by decide +kernel) rfl
theorem co_X0_isTrue : Cond.code yX0_isTrue cX0_isTrue 2 (some .boolean) ∈ lw_all := lw_t5 (i := 14) rfl rfl
theorem ml_X10_275 : Cond.methodLink RX10 275 yJ9_max_7cf53 ∈ lw_all := lw_t5 (i := 27) (by decide +kernel) rfl
theorem ml_X10_219 : Cond.methodLink RX10 219 yX0_stored ∈ lw_all := lw_t5 (i := 62) (by decide +kernel) rfl
theorem st_X0_stored : Cond.static yX0_stored ∈ lw_all := lw_t5 (i := 63) (by decide +kernel) rfl
theorem co_X0_stored : Cond.code yX0_stored cX0_stored 3 (some .long) ∈ lw_all := lw_t5 (i := 64) rfl rfl
theorem ml_X10_307 : Cond.methodLink RX10 307 yX2_begin ∈ lw_all := lw_t5 (i := 86) (by decide +kernel) rfl
theorem cs_X8_116 : Cond.constantLong RX8 116 (8589934592) ∈ lw_all := lw_t5 (i := 91) (by decide +kernel) rfl
theorem cs_X8_122 : Cond.constantLong RX8 122 (17179869184) ∈ lw_all := lw_t5 (i := 93) (by decide +kernel) rfl
theorem ml_X2_45 : Cond.methodLink RX2 45 yJ9_max_7cf53 ∈ lw_all := lw_t5 (i := 102) (by decide +kernel) rfl
theorem cs_X2_55 : Cond.constantLong RX2 55 (8589934592) ∈ lw_all := lw_t5 (i := 103) (by decide +kernel) rfl
theorem ml_X2_41 : Cond.methodLink RX2 41 yX0_isKnown ∈ lw_all := lw_t5 (i := 107) (by decide +kernel) rfl
theorem ml_X2_63 : Cond.methodLink RX2 63 yX0_floatBits ∈ lw_all := lw_t5 (i := 108) (by decide +kernel) rfl
theorem cs_X2_66 : Cond.constant RX2 66 (2147483647) ∈ lw_all := lw_t5 (i := 109) (by decide +kernel) rfl
theorem ml_X2_67 : Cond.methodLink RX2 67 yX0_isBelow ∈ lw_all := lw_t5 (i := 110) (by decide +kernel) rfl
theorem cs_X2_61 : Cond.constantLong RX2 61 (17179869184) ∈ lw_all := lw_t5 (i := 111) (by decide +kernel) rfl
theorem ml_X10_348 : Cond.methodLink RX10 348 yX2_stars ∈ lw_all := lw_t5 (i := 140) (by decide +kernel) rfl
theorem cs_X10_357 : Cond.constantLong RX10 357 (17179869184) ∈ lw_all := lw_t5 (i := 149) (by decide +kernel) rfl
theorem ml_X11_187 : Cond.methodLink RX11 187 yX10_answer ∈ lw_all := lw_t5 (i := 158) (by decide +kernel) rfl
theorem im_X10_answer : Cond.instanceMethod yX10_answer ∈ lw_all := lw_t5 (i := 159) (by decide +kernel) rfl
theorem se_X10_answer : Cond.selects RX10 yX10_answer yX10_answer ∈ lw_all := lw_t5 (i := 160) (by decide +kernel) rfl
theorem co_X10_answer : Cond.code yX10_answer cX10_answer 1 (some .int) ∈ lw_all := lw_t5 (i := 161) rfl rfl
theorem ml_L_58 : Cond.methodLink RL 58 yX11_residue ∈ lw_all := lw_t5 (i := 162) (by decide +kernel) rfl
theorem im_X11_residue : Cond.instanceMethod yX11_residue ∈ lw_all := lw_t5 (i := 163) (by decide +kernel) rfl
theorem se_X11_residue : Cond.selects RX11 yX11_residue yX11_residue ∈ lw_all := lw_t5 (i := 164) (by decide +kernel) rfl
theorem co_X11_residue : Cond.code yX11_residue cX11_residue 2 (some .int) ∈ lw_all := lw_t5 (i := 165) rfl rfl
theorem ml_X11_190 : Cond.methodLink RX11 190 yX5_about ∈ lw_all := lw_t5 (i := 166) (by decide +kernel) rfl
theorem im_X5_about : Cond.instanceMethod yX5_about ∈ lw_all := lw_t5 (i := 167) (by decide +kernel) rfl
theorem se_X5_about : Cond.selects RX5 yX5_about yX5_about ∈ lw_all := lw_t5 (i := 168) (by decide +kernel) rfl
theorem co_X5_about : Cond.code yX5_about cX5_about 2 (some .int) ∈ lw_all := lw_t5 (i := 169) rfl rfl
theorem ml_L_62 : Cond.methodLink RL 62 yX11_variant ∈ lw_all := lw_t5 (i := 175) (by decide +kernel) rfl
theorem im_X11_variant : Cond.instanceMethod yX11_variant ∈ lw_all := lw_t5 (i := 176) (by decide +kernel) rfl
theorem se_X11_variant : Cond.selects RX11 yX11_variant yX11_variant ∈ lw_all := lw_t5 (i := 177) (by decide +kernel) rfl
theorem co_X11_variant : Cond.code yX11_variant cX11_variant 3 (some .int) ∈ lw_all := lw_t5 (i := 178) rfl rfl
theorem ml_X11_193 : Cond.methodLink RX11 193 yX5_aboutVariant ∈ lw_all := lw_t5 (i := 179) (by decide +kernel) rfl
theorem im_X5_aboutVariant : Cond.instanceMethod yX5_aboutVariant ∈ lw_all := lw_t5 (i := 180) (by decide +kernel) rfl
theorem se_X5_aboutVariant : Cond.selects RX5 yX5_aboutVariant yX5_aboutVariant ∈ lw_all := lw_t5 (i := 181) (by decide +kernel) rfl
theorem co_X5_aboutVariant : Cond.code yX5_aboutVariant cX5_aboutVariant 3 (some .int) ∈ lw_all := lw_t5 (i := 182) rfl rfl
theorem ml_X5_103 : Cond.methodLink RX5 103 yX5_hasVariant ∈ lw_all := lw_t5 (i := 183) (by decide +kernel) rfl
theorem im_X5_hasVariant : Cond.instanceMethod yX5_hasVariant ∈ lw_all := lw_t5 (i := 184) (by decide +kernel) rfl
theorem se_X5_hasVariant : Cond.selects RX5 yX5_hasVariant yX5_hasVariant ∈ lw_all := lw_t5 (i := 185) (by decide +kernel) rfl
theorem co_X5_hasVariant : Cond.code yX5_hasVariant cX5_hasVariant 2 (some .boolean) ∈ lw_all := lw_t5 (i := 186) rfl rfl
theorem ml_L_66 : Cond.methodLink RL 66 yX11_kinds ∈ lw_all := lw_t5 (i := 193) (by decide +kernel) rfl
theorem im_X11_kinds : Cond.instanceMethod yX11_kinds ∈ lw_all := lw_t5 (i := 194) (by decide +kernel) rfl
theorem se_X11_kinds : Cond.selects RX11 yX11_kinds yX11_kinds ∈ lw_all := lw_t5 (i := 195) (by decide +kernel) rfl
theorem co_X11_kinds : Cond.code yX11_kinds cX11_kinds 3 (some .int) ∈ lw_all := lw_t5 (i := 196) rfl rfl
theorem ml_X11_196 : Cond.methodLink RX11 196 yX5_hasVariant ∈ lw_all := lw_t5 (i := 197) (by decide +kernel) rfl
theorem ml_L_70 : Cond.methodLink RL 70 yX11_run ∈ lw_all := lw_t5 (i := 199) (by decide +kernel) rfl
theorem im_X11_run : Cond.instanceMethod yX11_run ∈ lw_all := lw_t5 (i := 200) (by decide +kernel) rfl
theorem se_X11_run : Cond.selects RX11 yX11_run yX11_run ∈ lw_all := lw_t5 (i := 201) (by decide +kernel) rfl
theorem co_X11_run : Cond.code yX11_run cX11_run 3 (some .int) ∈ lw_all := lw_t5 (i := 202) rfl rfl
theorem ml_X11_203 : Cond.methodLink RX11 203 yX11_canRun ∈ lw_all := lw_t5 (i := 203) (by decide +kernel) rfl
theorem im_X11_canRun : Cond.instanceMethod yX11_canRun ∈ lw_all := lw_t5 (i := 205) (by decide +kernel) rfl
theorem co_X11_canRun : Cond.code yX11_canRun cX11_canRun 2 (some .boolean) ∈ lw_all := lw_t5 (i := 206) rfl rfl
theorem ml_X11_206 : Cond.methodLink RX11 206 yX7_runTask ∈ lw_all := lw_t5 (i := 207) (by decide +kernel) rfl
theorem im_X7_runTask : Cond.instanceMethod yX7_runTask ∈ lw_all := lw_t5 (i := 208) (by decide +kernel) rfl
theorem se_X7_runTask : Cond.selects RX7 yX7_runTask yX7_runTask ∈ lw_all := lw_t5 (i := 209) (by decide +kernel) rfl
theorem co_X7_runTask : Cond.code yX7_runTask cX7_runTask 7 none ∈ lw_all := lw_t5 (i := 210) rfl rfl
theorem ml_X7_38 : Cond.methodLink RX7 38 yX1_clear ∈ lw_all := lw_t5 (i := 211) (by decide +kernel) rfl
theorem im_X1_clear : Cond.instanceMethod yX1_clear ∈ lw_all := lw_t5 (i := 212) (by decide +kernel) rfl
theorem se_X1_clear : Cond.selects RX1 yX1_clear yX1_clear ∈ lw_all := lw_t5 (i := 213) (by decide +kernel) rfl
theorem co_X1_clear : Cond.code yX1_clear cX1_clear 1 none ∈ lw_all := lw_t5 (i := 214) rfl rfl
theorem ml_X7_43 : Cond.methodLink RX7 43 yX8_clear ∈ lw_all := lw_t5 (i := 215) (by decide +kernel) rfl
theorem ml_X7_46 : Cond.methodLink RX7 46 yX8_build ∈ lw_all := lw_t5 (i := 216) (by decide +kernel) rfl
theorem ml_X7_64 : Cond.methodLink RX7 64 yX7_call ∈ lw_all := lw_t5 (i := 219) (by decide +kernel) rfl
theorem im_X7_call : Cond.instanceMethod yX7_call ∈ lw_all := lw_t5 (i := 221) (by decide +kernel) rfl
theorem co_X7_call : Cond.code yX7_call cX7_call 4 none ∈ lw_all := lw_t5 (i := 222) rfl rfl
theorem ml_X7_160 : Cond.methodLink RX7 160 yX3_startOf ∈ lw_all := lw_t5 (i := 223) (by decide +kernel) rfl
theorem ml_X1_55 : Cond.methodLink RX1 55 yJ9_max_7cf53 ∈ lw_all := lw_t5 (i := 228) (by decide +kernel) rfl
theorem ml_X1_61 : Cond.methodLink RX1 61 yX1_isRunning ∈ lw_all := lw_t5 (i := 229) (by decide +kernel) rfl
theorem im_X1_isRunning : Cond.instanceMethod yX1_isRunning ∈ lw_all := lw_t5 (i := 230) (by decide +kernel) rfl
theorem se_X1_isRunning : Cond.selects RX1 yX1_isRunning yX1_isRunning ∈ lw_all := lw_t5 (i := 231) (by decide +kernel) rfl
theorem co_X1_isRunning : Cond.code yX1_isRunning cX1_isRunning 1 (some .boolean) ∈ lw_all := lw_t5 (i := 232) rfl rfl
theorem cs_X7_68 : Cond.constant RX7 68 (1000000) ∈ lw_all := lw_t5 (i := 234) (by decide +kernel) rfl
theorem ml_X7_69 : Cond.methodLink RX7 69 yX1_isRunning ∈ lw_all := lw_t5 (i := 235) (by decide +kernel) rfl
theorem ml_X7_88 : Cond.methodLink RX7 88 yX0_make ∈ lw_all := lw_t6 (i := 3) (by decide +kernel) rfl
theorem ml_X7_102 : Cond.methodLink RX7 102 yX0_apply ∈ lw_all := lw_t6 (i := 6) (by decide +kernel) rfl
theorem ml_X7_106 : Cond.methodLink RX7 106 yX0_turn ∈ lw_all := lw_t6 (i := 7) (by decide +kernel) rfl
theorem ml_X7_123 : Cond.methodLink RX7 123 yX0_isTrue ∈ lw_all := lw_t6 (i := 17) (by decide +kernel) rfl
theorem ml_X7_136 : Cond.methodLink RX7 136 yX0_stored ∈ lw_all := lw_t6 (i := 24) (by decide +kernel) rfl
theorem ml_X1_78 : Cond.methodLink RX1 78 yX0_bits ∈ lw_all := lw_t6 (i := 29) (by decide +kernel) rfl
theorem ml_X1_83 : Cond.methodLink RX1 83 yX1_placeBits ∈ lw_all := lw_t6 (i := 34) (by decide +kernel) rfl
theorem im_X1_placeBits : Cond.instanceMethod yX1_placeBits ∈ lw_all := lw_t6 (i := 35) (by decide +kernel) rfl
theorem se_X1_placeBits : Cond.selects RX1 yX1_placeBits yX1_placeBits ∈ lw_all := lw_t6 (i := 36) (by decide +kernel) rfl
theorem co_X1_placeBits : Cond.code yX1_placeBits cX1_placeBits 2 (some .int) ∈ lw_all := lw_t6 (i := 37) rfl rfl
theorem ml_X1_87 : Cond.methodLink RX1 87 yX0_make ∈ lw_all := lw_t6 (i := 38) (by decide +kernel) rfl
theorem ml_X6_48 : Cond.methodLink RX6 48 yX1_clear ∈ lw_all := lw_t6 (i := 60) (by decide +kernel) rfl
theorem ml_X6_51 : Cond.methodLink RX6 51 yX8_clear ∈ lw_all := lw_t6 (i := 61) (by decide +kernel) rfl
theorem ml_X6_54 : Cond.methodLink RX6 54 yX8_build ∈ lw_all := lw_t6 (i := 62) (by decide +kernel) rfl
theorem cs_X6_74 : Cond.constant RX6 74 (1000000) ∈ lw_all := lw_t6 (i := 77) (by decide +kernel) rfl
theorem ml_X6_75 : Cond.methodLink RX6 75 yX1_isRunning ∈ lw_all := lw_t6 (i := 78) (by decide +kernel) rfl
theorem ml_X6_88 : Cond.methodLink RX6 88 yX0_kind ∈ lw_all := lw_t6 (i := 88) (by decide +kernel) rfl
theorem ml_X6_94 : Cond.methodLink RX6 94 yX0_bits ∈ lw_all := lw_t6 (i := 89) (by decide +kernel) rfl
theorem ml_X6_129 : Cond.methodLink RX6 129 yX0_apply ∈ lw_all := lw_t6 (i := 114) (by decide +kernel) rfl
theorem ml_X6_133 : Cond.methodLink RX6 133 yX0_turn ∈ lw_all := lw_t6 (i := 115) (by decide +kernel) rfl
theorem ml_X6_142 : Cond.methodLink RX6 142 yX0_isTrue ∈ lw_all := lw_t6 (i := 118) (by decide +kernel) rfl
theorem ml_X6_150 : Cond.methodLink RX6 150 yX0_stored ∈ lw_all := lw_t6 (i := 120) (by decide +kernel) rfl
theorem ml_X11_223 : Cond.methodLink RX11 223 yX1_about ∈ lw_all := lw_t6 (i := 134) (by decide +kernel) rfl
theorem im_X1_about : Cond.instanceMethod yX1_about ∈ lw_all := lw_t6 (i := 135) (by decide +kernel) rfl
theorem se_X1_about : Cond.selects RX1 yX1_about yX1_about ∈ lw_all := lw_t6 (i := 136) (by decide +kernel) rfl
theorem co_X1_about : Cond.code yX1_about cX1_about 2 (some .int) ∈ lw_all := lw_t6 (i := 137) rfl rfl
theorem ml_L_74 : Cond.methodLink RL 74 yX11_output ∈ lw_all := lw_t6 (i := 138) (by decide +kernel) rfl
theorem im_X11_output : Cond.instanceMethod yX11_output ∈ lw_all := lw_t6 (i := 139) (by decide +kernel) rfl
theorem se_X11_output : Cond.selects RX11 yX11_output yX11_output ∈ lw_all := lw_t6 (i := 140) (by decide +kernel) rfl
theorem co_X11_output : Cond.code yX11_output cX11_output 3 (some .int) ∈ lw_all := lw_t6 (i := 141) rfl rfl
theorem ml_X11_227 : Cond.methodLink RX11 227 yX1_aboutOutput ∈ lw_all := lw_t6 (i := 142) (by decide +kernel) rfl
theorem im_X1_aboutOutput : Cond.instanceMethod yX1_aboutOutput ∈ lw_all := lw_t6 (i := 143) (by decide +kernel) rfl
theorem se_X1_aboutOutput : Cond.selects RX1 yX1_aboutOutput yX1_aboutOutput ∈ lw_all := lw_t6 (i := 144) (by decide +kernel) rfl
theorem co_X1_aboutOutput : Cond.code yX1_aboutOutput cX1_aboutOutput 3 (some .int) ∈ lw_all := lw_t6 (i := 145) rfl rfl
theorem ml_X1_94 : Cond.methodLink RX1 94 yX1_keptCount ∈ lw_all := lw_t6 (i := 146) (by decide +kernel) rfl
theorem im_X1_keptCount : Cond.instanceMethod yX1_keptCount ∈ lw_all := lw_t6 (i := 148) (by decide +kernel) rfl
theorem co_X1_keptCount : Cond.code yX1_keptCount cX1_keptCount 1 (some .int) ∈ lw_all := lw_t6 (i := 149) rfl rfl
theorem ml_X1_91 : Cond.methodLink RX1 91 yJ9_min_7cf53 ∈ lw_all := lw_t6 (i := 150) (by decide +kernel) rfl
theorem ml_X1_98 : Cond.methodLink RX1 98 yX0_kind ∈ lw_all := lw_t6 (i := 151) (by decide +kernel) rfl
theorem ml_L_78 : Cond.methodLink RL 78 yX11_place ∈ lw_all := lw_t6 (i := 152) (by decide +kernel) rfl
theorem im_X11_place : Cond.instanceMethod yX11_place ∈ lw_all := lw_t6 (i := 153) (by decide +kernel) rfl
theorem se_X11_place : Cond.selects RX11 yX11_place yX11_place ∈ lw_all := lw_t6 (i := 154) (by decide +kernel) rfl
theorem co_X11_place : Cond.code yX11_place cX11_place 2 (some .int) ∈ lw_all := lw_t6 (i := 155) rfl rfl
theorem ml_X11_230 : Cond.methodLink RX11 230 yX1_placeBits ∈ lw_all := lw_t6 (i := 156) (by decide +kernel) rfl
theorem ml_L_82 : Cond.methodLink RL 82 yX11_value ∈ lw_all := lw_t6 (i := 157) (by decide +kernel) rfl
theorem im_X11_value : Cond.instanceMethod yX11_value ∈ lw_all := lw_t6 (i := 158) (by decide +kernel) rfl
theorem se_X11_value : Cond.selects RX11 yX11_value yX11_value ∈ lw_all := lw_t6 (i := 159) (by decide +kernel) rfl
theorem co_X11_value : Cond.code yX11_value cX11_value 1 (some .int) ∈ lw_all := lw_t6 (i := 160) rfl rfl
theorem cs_X9_75 : Cond.constantLong RX9 75 (8589934592) ∈ lw_all := lw_t6 (i := 169) (by decide +kernel) rfl
theorem ml_X9_48 : Cond.methodLink RX9 48 yX0_kind ∈ lw_all := lw_t6 (i := 174) (by decide +kernel) rfl
theorem ml_X9_54 : Cond.methodLink RX9 54 yX0_bits ∈ lw_all := lw_t6 (i := 179) (by decide +kernel) rfl
theorem cs_X9_46 : Cond.constantLong RX9 46 (10) ∈ lw_all := lw_t6 (i := 184) (by decide +kernel) rfl
theorem ml_L_86 : Cond.methodLink RL 86 yX11_write ∈ lw_all := lw_t6 (i := 185) (by decide +kernel) rfl
theorem im_X11_write : Cond.instanceMethod yX11_write ∈ lw_all := lw_t6 (i := 186) (by decide +kernel) rfl
theorem se_X11_write : Cond.selects RX11 yX11_write yX11_write ∈ lw_all := lw_t6 (i := 187) (by decide +kernel) rfl
theorem co_X11_write : Cond.code yX11_write cX11_write 2 (some .int) ∈ lw_all := lw_t6 (i := 188) rfl rfl
theorem ml_X9_66 : Cond.methodLink RX9 66 yJ9_max_7cf53 ∈ lw_all := lw_t6 (i := 198) (by decide +kernel) rfl
theorem ml_X9_95 : Cond.methodLink RX9 95 yX0_make ∈ lw_all := lw_t6 (i := 210) (by decide +kernel) rfl
theorem ml_L_90 : Cond.methodLink RL 90 yX11_octet ∈ lw_all := lw_t7 (i := 34) (by decide +kernel) rfl
theorem im_X11_octet : Cond.instanceMethod yX11_octet ∈ lw_all := lw_t7 (i := 35) (by decide +kernel) rfl
theorem se_X11_octet : Cond.selects RX11 yX11_octet yX11_octet ∈ lw_all := lw_t7 (i := 36) (by decide +kernel) rfl
theorem co_X11_octet : Cond.code yX11_octet cX11_octet 2 (some .int) ∈ lw_all := lw_t7 (i := 37) rfl rfl
theorem ml_X11_242 : Cond.methodLink RX11 242 yX9_byteAt ∈ lw_all := lw_t7 (i := 38) (by decide +kernel) rfl
theorem im_X9_byteAt : Cond.instanceMethod yX9_byteAt ∈ lw_all := lw_t7 (i := 39) (by decide +kernel) rfl
theorem se_X9_byteAt : Cond.selects RX9 yX9_byteAt yX9_byteAt ∈ lw_all := lw_t7 (i := 40) (by decide +kernel) rfl
theorem co_X9_byteAt : Cond.code yX9_byteAt cX9_byteAt 2 (some .int) ∈ lw_all := lw_t7 (i := 41) rfl rfl
theorem ml_L_94 : Cond.methodLink RL 94 yX11_agree ∈ lw_all := lw_t7 (i := 42) (by decide +kernel) rfl
theorem im_X11_agree : Cond.instanceMethod yX11_agree ∈ lw_all := lw_t7 (i := 43) (by decide +kernel) rfl
theorem se_X11_agree : Cond.selects RX11 yX11_agree yX11_agree ∈ lw_all := lw_t7 (i := 44) (by decide +kernel) rfl
theorem co_X11_agree : Cond.code yX11_agree cX11_agree 1 (some .int) ∈ lw_all := lw_t7 (i := 45) rfl rfl
theorem ml_X11_245 : Cond.methodLink RX11 245 yX11_runBoth ∈ lw_all := lw_t7 (i := 46) (by decide +kernel) rfl
theorem im_X11_runBoth : Cond.instanceMethod yX11_runBoth ∈ lw_all := lw_t7 (i := 48) (by decide +kernel) rfl
theorem co_X11_runBoth : Cond.code yX11_runBoth cX11_runBoth 1 (some .boolean) ∈ lw_all := lw_t7 (i := 49) rfl rfl
theorem ml_L_98 : Cond.methodLink RL 98 yX11_saved ∈ lw_all := lw_t7 (i := 55) (by decide +kernel) rfl
theorem im_X11_saved : Cond.instanceMethod yX11_saved ∈ lw_all := lw_t7 (i := 56) (by decide +kernel) rfl
theorem se_X11_saved : Cond.selects RX11 yX11_saved yX11_saved ∈ lw_all := lw_t7 (i := 57) (by decide +kernel) rfl
theorem co_X11_saved : Cond.code yX11_saved cX11_saved 1 (some .int) ∈ lw_all := lw_t7 (i := 58) rfl rfl
theorem ml_L_102 : Cond.methodLink RL 102 yX11_op ∈ lw_all := lw_t7 (i := 59) (by decide +kernel) rfl
theorem im_X11_op : Cond.instanceMethod yX11_op ∈ lw_all := lw_t7 (i := 60) (by decide +kernel) rfl
theorem se_X11_op : Cond.selects RX11 yX11_op yX11_op ∈ lw_all := lw_t7 (i := 61) (by decide +kernel) rfl
theorem co_X11_op : Cond.code yX11_op cX11_op 6 (some .int) ∈ lw_all := lw_t7 (i := 62) rfl rfl
theorem ml_X11_255 : Cond.methodLink RX11 255 yX0_isSign ∈ lw_all := lw_t7 (i := 63) (by decide +kernel) rfl
theorem ml_X11_260 : Cond.methodLink RX11 260 yX0_make ∈ lw_all := lw_t7 (i := 64) (by decide +kernel) rfl
theorem ml_X11_264 : Cond.methodLink RX11 264 yX0_apply ∈ lw_all := lw_t7 (i := 65) (by decide +kernel) rfl
theorem ml_X11_268 : Cond.methodLink RX11 268 yX0_bits ∈ lw_all := lw_t7 (i := 66) (by decide +kernel) rfl
theorem cl_L_10 : Cond.classLink RL 10 RX12 ∈ lw_all := lw_t7 (i := 67) (by decide +kernel) rfl
theorem ia_X12 : Cond.instantiable RX12 141 ∈ lw_all := lw_t7 (i := 68) (by decide +kernel) rfl
theorem ml_L_12 : Cond.methodLink RL 12 yX12_init ∈ lw_all := lw_t7 (i := 69) (by decide +kernel) rfl
theorem im_X12_init : Cond.instanceMethod yX12_init ∈ lw_all := lw_t7 (i := 70) (by decide +kernel) rfl
theorem co_X12_init : Cond.code yX12_init cX12_init 1 none ∈ lw_all := lw_t7 (i := 71) rfl rfl
theorem ml_X12_1 : Cond.methodLink RX12 1 objectInit ∈ lw_all := lw_t7 (i := 72) (by decide +kernel) rfl
theorem cs_X12_105 : Cond.constant RX12 105 (100000) ∈ lw_all := lw_t7 (i := 73) (by decide +kernel) rfl
theorem cs_X12_280 : Cond.constant RX12 280 (50000) ∈ lw_all := lw_t7 (i := 74) (by decide +kernel) rfl
theorem fl_X12_305 : Cond.fieldLink RX12 305 "OnlinePartsModel" "outSort" "I" ∈ lw_all := lw_t7 (i := 75) (by decide +kernel) rfl
theorem fl_X12_308 : Cond.fieldLink RX12 308 "OnlinePartsModel" "outBits" "I" ∈ lw_all := lw_t7 (i := 76) (by decide +kernel) rfl
theorem fl_X12_7 : Cond.fieldLink RX12 7 "OnlinePartsModel" "tape" "[B" ∈ lw_all := lw_t7 (i := 77) (by decide +kernel) rfl
theorem fl_X12_352 : Cond.fieldLink RX12 352 "OnlinePartsModel" "taped" "I" ∈ lw_all := lw_t7 (i := 78) (by decide +kernel) rfl
theorem fl_X12_362 : Cond.fieldLink RX12 362 "OnlinePartsModel" "at" "I" ∈ lw_all := lw_t7 (i := 79) (by decide +kernel) rfl
theorem fl_X12_13 : Cond.fieldLink RX12 13 "OnlinePartsModel" "faultPlace" "I" ∈ lw_all := lw_t7 (i := 80) (by decide +kernel) rfl
theorem fl_X12_378 : Cond.fieldLink RX12 378 "OnlinePartsModel" "readSort" "I" ∈ lw_all := lw_t7 (i := 81) (by decide +kernel) rfl
theorem fl_X12_381 : Cond.fieldLink RX12 381 "OnlinePartsModel" "readBits" "I" ∈ lw_all := lw_t7 (i := 82) (by decide +kernel) rfl
theorem fl_X12_17 : Cond.fieldLink RX12 17 "OnlinePartsModel" "letter" "[I" ∈ lw_all := lw_t7 (i := 83) (by decide +kernel) rfl
theorem fl_X12_21 : Cond.fieldLink RX12 21 "OnlinePartsModel" "arguments" "[I" ∈ lw_all := lw_t7 (i := 84) (by decide +kernel) rfl
theorem fl_X12_24 : Cond.fieldLink RX12 24 "OnlinePartsModel" "varOf" "[I" ∈ lw_all := lw_t7 (i := 85) (by decide +kernel) rfl
theorem fl_X12_27 : Cond.fieldLink RX12 27 "OnlinePartsModel" "beginOf" "[I" ∈ lw_all := lw_t7 (i := 86) (by decide +kernel) rfl
theorem fl_X12_30 : Cond.fieldLink RX12 30 "OnlinePartsModel" "longOf" "[I" ∈ lw_all := lw_t7 (i := 87) (by decide +kernel) rfl
theorem fl_X12_33 : Cond.fieldLink RX12 33 "OnlinePartsModel" "thing" "[I" ∈ lw_all := lw_t7 (i := 88) (by decide +kernel) rfl
theorem fl_X12_36 : Cond.fieldLink RX12 36 "OnlinePartsModel" "worth" "[I" ∈ lw_all := lw_t7 (i := 89) (by decide +kernel) rfl
theorem fl_X12_39 : Cond.fieldLink RX12 39 "OnlinePartsModel" "below" "[I" ∈ lw_all := lw_t7 (i := 90) (by decide +kernel) rfl
theorem fl_X12_42 : Cond.fieldLink RX12 42 "OnlinePartsModel" "behind" "[I" ∈ lw_all := lw_t7 (i := 91) (by decide +kernel) rfl
theorem fl_X12_468 : Cond.fieldLink RX12 468 "OnlinePartsModel" "functions" "I" ∈ lw_all := lw_t7 (i := 92) (by decide +kernel) rfl
theorem fl_X12_458 : Cond.fieldLink RX12 458 "OnlinePartsModel" "things" "I" ∈ lw_all := lw_t7 (i := 93) (by decide +kernel) rfl
theorem fl_X12_45 : Cond.fieldLink RX12 45 "OnlinePartsModel" "newLetter" "[I" ∈ lw_all := lw_t7 (i := 94) (by decide +kernel) rfl
theorem fl_X12_48 : Cond.fieldLink RX12 48 "OnlinePartsModel" "newArguments" "[I" ∈ lw_all := lw_t7 (i := 95) (by decide +kernel) rfl
theorem fl_X12_51 : Cond.fieldLink RX12 51 "OnlinePartsModel" "newVar" "[I" ∈ lw_all := lw_t7 (i := 96) (by decide +kernel) rfl
theorem fl_X12_54 : Cond.fieldLink RX12 54 "OnlinePartsModel" "newBegin" "[I" ∈ lw_all := lw_t7 (i := 97) (by decide +kernel) rfl
theorem fl_X12_57 : Cond.fieldLink RX12 57 "OnlinePartsModel" "newLong" "[I" ∈ lw_all := lw_t7 (i := 98) (by decide +kernel) rfl
theorem fl_X12_60 : Cond.fieldLink RX12 60 "OnlinePartsModel" "newThing" "[I" ∈ lw_all := lw_t7 (i := 99) (by decide +kernel) rfl
theorem fl_X12_63 : Cond.fieldLink RX12 63 "OnlinePartsModel" "newWorth" "[I" ∈ lw_all := lw_t7 (i := 100) (by decide +kernel) rfl
theorem fl_X12_66 : Cond.fieldLink RX12 66 "OnlinePartsModel" "newBelow" "[I" ∈ lw_all := lw_t7 (i := 101) (by decide +kernel) rfl
theorem fl_X12_413 : Cond.fieldLink RX12 413 "OnlinePartsModel" "newFunctions" "I" ∈ lw_all := lw_t7 (i := 102) (by decide +kernel) rfl
theorem fl_X12_387 : Cond.fieldLink RX12 387 "OnlinePartsModel" "newThings" "I" ∈ lw_all := lw_t7 (i := 103) (by decide +kernel) rfl
theorem fl_X12_69 : Cond.fieldLink RX12 69 "OnlinePartsModel" "open" "[I" ∈ lw_all := lw_t7 (i := 104) (by decide +kernel) rfl
theorem fl_X12_72 : Cond.fieldLink RX12 72 "OnlinePartsModel" "had" "[I" ∈ lw_all := lw_t7 (i := 105) (by decide +kernel) rfl
theorem fl_X12_75 : Cond.fieldLink RX12 75 "OnlinePartsModel" "toldVar" "[I" ∈ lw_all := lw_t7 (i := 106) (by decide +kernel) rfl
theorem fl_X12_390 : Cond.fieldLink RX12 390 "OnlinePartsModel" "opened" "I" ∈ lw_all := lw_t7 (i := 107) (by decide +kernel) rfl
theorem fl_X12_78 : Cond.fieldLink RX12 78 "OnlinePartsModel" "readSorts" "[I" ∈ lw_all := lw_t7 (i := 108) (by decide +kernel) rfl
theorem fl_X12_81 : Cond.fieldLink RX12 81 "OnlinePartsModel" "readRow" "[I" ∈ lw_all := lw_t7 (i := 109) (by decide +kernel) rfl
theorem fl_X12_84 : Cond.fieldLink RX12 84 "OnlinePartsModel" "closed" "[I" ∈ lw_all := lw_t7 (i := 110) (by decide +kernel) rfl
theorem fl_X12_478 : Cond.fieldLink RX12 478 "OnlinePartsModel" "readMany" "I" ∈ lw_all := lw_t7 (i := 111) (by decide +kernel) rfl
theorem fl_X12_481 : Cond.fieldLink RX12 481 "OnlinePartsModel" "stars" "I" ∈ lw_all := lw_t7 (i := 112) (by decide +kernel) rfl
theorem fl_X12_87 : Cond.fieldLink RX12 87 "OnlinePartsModel" "taskSorts" "[I" ∈ lw_all := lw_t7 (i := 113) (by decide +kernel) rfl
theorem fl_X12_90 : Cond.fieldLink RX12 90 "OnlinePartsModel" "taskRow" "[I" ∈ lw_all := lw_t7 (i := 114) (by decide +kernel) rfl
theorem fl_X12_93 : Cond.fieldLink RX12 93 "OnlinePartsModel" "valueSorts" "[I" ∈ lw_all := lw_t7 (i := 115) (by decide +kernel) rfl
theorem fl_X12_96 : Cond.fieldLink RX12 96 "OnlinePartsModel" "valueRow" "[I" ∈ lw_all := lw_t7 (i := 116) (by decide +kernel) rfl
theorem fl_X12_99 : Cond.fieldLink RX12 99 "OnlinePartsModel" "taskLetter" "I" ∈ lw_all := lw_t7 (i := 117) (by decide +kernel) rfl
theorem fl_X12_503 : Cond.fieldLink RX12 503 "OnlinePartsModel" "taskArguments" "I" ∈ lw_all := lw_t7 (i := 118) (by decide +kernel) rfl
theorem fl_X12_506 : Cond.fieldLink RX12 506 "OnlinePartsModel" "taskMany" "I" ∈ lw_all := lw_t7 (i := 119) (by decide +kernel) rfl
theorem fl_X12_509 : Cond.fieldLink RX12 509 "OnlinePartsModel" "leaves" "I" ∈ lw_all := lw_t7 (i := 120) (by decide +kernel) rfl
theorem fl_X12_515 : Cond.fieldLink RX12 515 "OnlinePartsModel" "valueMany" "I" ∈ lw_all := lw_t7 (i := 121) (by decide +kernel) rfl
theorem fl_X12_512 : Cond.fieldLink RX12 512 "OnlinePartsModel" "valuesTold" "I" ∈ lw_all := lw_t7 (i := 122) (by decide +kernel) rfl
theorem fl_X12_490 : Cond.fieldLink RX12 490 "OnlinePartsModel" "readArguments" "I" ∈ lw_all := lw_t7 (i := 123) (by decide +kernel) rfl
theorem fl_X12_493 : Cond.fieldLink RX12 493 "OnlinePartsModel" "readLetter" "I" ∈ lw_all := lw_t7 (i := 124) (by decide +kernel) rfl
theorem fl_X12_102 : Cond.fieldLink RX12 102 "OnlinePartsModel" "rule" "[I" ∈ lw_all := lw_t7 (i := 125) (by decide +kernel) rfl
theorem fl_X12_106 : Cond.fieldLink RX12 106 "OnlinePartsModel" "hSort" "[I" ∈ lw_all := lw_t7 (i := 126) (by decide +kernel) rfl
theorem fl_X12_109 : Cond.fieldLink RX12 109 "OnlinePartsModel" "hBits" "[I" ∈ lw_all := lw_t7 (i := 127) (by decide +kernel) rfl
theorem fl_X12_112 : Cond.fieldLink RX12 112 "OnlinePartsModel" "hSecond" "[I" ∈ lw_all := lw_t7 (i := 128) (by decide +kernel) rfl
theorem fl_X12_115 : Cond.fieldLink RX12 115 "OnlinePartsModel" "hWeight" "[I" ∈ lw_all := lw_t7 (i := 129) (by decide +kernel) rfl
theorem fl_X12_118 : Cond.fieldLink RX12 118 "OnlinePartsModel" "hDeep" "[I" ∈ lw_all := lw_t7 (i := 130) (by decide +kernel) rfl
theorem fl_X12_524 : Cond.fieldLink RX12 524 "OnlinePartsModel" "heap" "I" ∈ lw_all := lw_t7 (i := 131) (by decide +kernel) rfl
theorem fl_X12_121 : Cond.fieldLink RX12 121 "OnlinePartsModel" "built" "[I" ∈ lw_all := lw_t7 (i := 132) (by decide +kernel) rfl
theorem fl_X12_530 : Cond.fieldLink RX12 530 "OnlinePartsModel" "builtMany" "I" ∈ lw_all := lw_t7 (i := 133) (by decide +kernel) rfl
theorem fl_X12_124 : Cond.fieldLink RX12 124 "OnlinePartsModel" "leafAt" "[I" ∈ lw_all := lw_t7 (i := 134) (by decide +kernel) rfl
theorem fl_X12_127 : Cond.fieldLink RX12 127 "OnlinePartsModel" "act" "[I" ∈ lw_all := lw_t7 (i := 135) (by decide +kernel) rfl
theorem fl_X12_130 : Cond.fieldLink RX12 130 "OnlinePartsModel" "actA" "[I" ∈ lw_all := lw_t7 (i := 136) (by decide +kernel) rfl
theorem fl_X12_133 : Cond.fieldLink RX12 133 "OnlinePartsModel" "actB" "[I" ∈ lw_all := lw_t7 (i := 137) (by decide +kernel) rfl
theorem fl_X12_136 : Cond.fieldLink RX12 136 "OnlinePartsModel" "came" "[I" ∈ lw_all := lw_t7 (i := 138) (by decide +kernel) rfl
theorem fl_X12_139 : Cond.fieldLink RX12 139 "OnlinePartsModel" "vars" "[I" ∈ lw_all := lw_t7 (i := 139) (by decide +kernel) rfl
theorem fl_X12_545 : Cond.fieldLink RX12 545 "OnlinePartsModel" "acts" "I" ∈ lw_all := lw_t7 (i := 140) (by decide +kernel) rfl
theorem fl_X12_548 : Cond.fieldLink RX12 548 "OnlinePartsModel" "cameMany" "I" ∈ lw_all := lw_t7 (i := 141) (by decide +kernel) rfl
theorem fl_X12_554 : Cond.fieldLink RX12 554 "OnlinePartsModel" "base" "I" ∈ lw_all := lw_t7 (i := 142) (by decide +kernel) rfl
theorem fl_X12_557 : Cond.fieldLink RX12 557 "OnlinePartsModel" "over" "I" ∈ lw_all := lw_t7 (i := 143) (by decide +kernel) rfl
theorem fl_X12_551 : Cond.fieldLink RX12 551 "OnlinePartsModel" "isThought" "Z" ∈ lw_all := lw_t7 (i := 144) (by decide +kernel) rfl
theorem fl_X12_142 : Cond.fieldLink RX12 142 "OnlinePartsModel" "place" "[I" ∈ lw_all := lw_t7 (i := 145) (by decide +kernel) rfl
theorem fl_X12_145 : Cond.fieldLink RX12 145 "OnlinePartsModel" "shownSort" "[I" ∈ lw_all := lw_t7 (i := 146) (by decide +kernel) rfl
theorem fl_X12_148 : Cond.fieldLink RX12 148 "OnlinePartsModel" "shownBits" "[I" ∈ lw_all := lw_t7 (i := 147) (by decide +kernel) rfl
theorem fl_X12_649 : Cond.fieldLink RX12 649 "OnlinePartsModel" "written" "I" ∈ lw_all := lw_t7 (i := 148) (by decide +kernel) rfl
theorem fl_X12_151 : Cond.fieldLink RX12 151 "OnlinePartsModel" "given5" "[I" ∈ lw_all := lw_t7 (i := 149) (by decide +kernel) rfl
theorem fl_X12_658 : Cond.fieldLink RX12 658 "OnlinePartsModel" "calls" "I" ∈ lw_all := lw_t7 (i := 150) (by decide +kernel) rfl
theorem fl_X12_661 : Cond.fieldLink RX12 661 "OnlinePartsModel" "under" "I" ∈ lw_all := lw_t7 (i := 151) (by decide +kernel) rfl
theorem fl_X12_664 : Cond.fieldLink RX12 664 "OnlinePartsModel" "mostUnder" "I" ∈ lw_all := lw_t7 (i := 152) (by decide +kernel) rfl
theorem fl_X12_154 : Cond.fieldLink RX12 154 "OnlinePartsModel" "itemKind" "[I" ∈ lw_all := lw_t7 (i := 153) (by decide +kernel) rfl
theorem fl_X12_157 : Cond.fieldLink RX12 157 "OnlinePartsModel" "itemRegister" "[I" ∈ lw_all := lw_t7 (i := 154) (by decide +kernel) rfl
theorem fl_X12_160 : Cond.fieldLink RX12 160 "OnlinePartsModel" "itemA" "[I" ∈ lw_all := lw_t7 (i := 155) (by decide +kernel) rfl
theorem fl_X12_163 : Cond.fieldLink RX12 163 "OnlinePartsModel" "itemElse" "[I" ∈ lw_all := lw_t7 (i := 156) (by decide +kernel) rfl
theorem fl_X12_166 : Cond.fieldLink RX12 166 "OnlinePartsModel" "itemEnd" "[I" ∈ lw_all := lw_t7 (i := 157) (by decide +kernel) rfl
theorem fl_X12_169 : Cond.fieldLink RX12 169 "OnlinePartsModel" "itemFrom" "[I" ∈ lw_all := lw_t7 (i := 158) (by decide +kernel) rfl
theorem fl_X12_172 : Cond.fieldLink RX12 172 "OnlinePartsModel" "itemMany" "[I" ∈ lw_all := lw_t7 (i := 159) (by decide +kernel) rfl
theorem fl_X12_175 : Cond.fieldLink RX12 175 "OnlinePartsModel" "opSort" "[I" ∈ lw_all := lw_t7 (i := 160) (by decide +kernel) rfl
theorem fl_X12_178 : Cond.fieldLink RX12 178 "OnlinePartsModel" "opBits" "[I" ∈ lw_all := lw_t7 (i := 161) (by decide +kernel) rfl
theorem fl_X12_682 : Cond.fieldLink RX12 682 "OnlinePartsModel" "items" "I" ∈ lw_all := lw_t7 (i := 162) (by decide +kernel) rfl
theorem fl_X12_685 : Cond.fieldLink RX12 685 "OnlinePartsModel" "operands" "I" ∈ lw_all := lw_t7 (i := 163) (by decide +kernel) rfl
theorem fl_X12_688 : Cond.fieldLink RX12 688 "OnlinePartsModel" "code" "I" ∈ lw_all := lw_t7 (i := 164) (by decide +kernel) rfl
theorem fl_X12_612 : Cond.fieldLink RX12 612 "OnlinePartsModel" "blocks" "I" ∈ lw_all := lw_t7 (i := 165) (by decide +kernel) rfl
theorem fl_X12_733 : Cond.fieldLink RX12 733 "OnlinePartsModel" "unrolled" "I" ∈ lw_all := lw_t7 (i := 166) (by decide +kernel) rfl
theorem fl_X12_679 : Cond.fieldLink RX12 679 "OnlinePartsModel" "unrolledNow" "I" ∈ lw_all := lw_t7 (i := 167) (by decide +kernel) rfl
theorem fl_X12_691 : Cond.fieldLink RX12 691 "OnlinePartsModel" "registers" "I" ∈ lw_all := lw_t7 (i := 168) (by decide +kernel) rfl
theorem fl_X12_464 : Cond.fieldLink RX12 464 "OnlinePartsModel" "isLeft" "Z" ∈ lw_all := lw_t7 (i := 169) (by decide +kernel) rfl
theorem fl_X12_717 : Cond.fieldLink RX12 717 "OnlinePartsModel" "grown" "I" ∈ lw_all := lw_t7 (i := 170) (by decide +kernel) rfl
theorem fl_X12_757 : Cond.fieldLink RX12 757 "OnlinePartsModel" "allStars" "I" ∈ lw_all := lw_t7 (i := 171) (by decide +kernel) rfl
theorem fl_X12_181 : Cond.fieldLink RX12 181 "OnlinePartsModel" "lifts" "[I" ∈ lw_all := lw_t7 (i := 172) (by decide +kernel) rfl
theorem fl_X12_184 : Cond.fieldLink RX12 184 "OnlinePartsModel" "lifted" "[I" ∈ lw_all := lw_t7 (i := 173) (by decide +kernel) rfl
theorem fl_X12_187 : Cond.fieldLink RX12 187 "OnlinePartsModel" "variantOf" "[I" ∈ lw_all := lw_t7 (i := 174) (by decide +kernel) rfl
theorem fl_X12_190 : Cond.fieldLink RX12 190 "OnlinePartsModel" "patternLong" "[I" ∈ lw_all := lw_t7 (i := 175) (by decide +kernel) rfl
theorem fl_X12_193 : Cond.fieldLink RX12 193 "OnlinePartsModel" "starMany" "[I" ∈ lw_all := lw_t7 (i := 176) (by decide +kernel) rfl
theorem fl_X12_196 : Cond.fieldLink RX12 196 "OnlinePartsModel" "patternSort" "[I" ∈ lw_all := lw_t7 (i := 177) (by decide +kernel) rfl
theorem fl_X12_199 : Cond.fieldLink RX12 199 "OnlinePartsModel" "patternBits" "[I" ∈ lw_all := lw_t7 (i := 178) (by decide +kernel) rfl
theorem fl_X12_202 : Cond.fieldLink RX12 202 "OnlinePartsModel" "beginAt" "[I" ∈ lw_all := lw_t7 (i := 179) (by decide +kernel) rfl
theorem fl_X12_205 : Cond.fieldLink RX12 205 "OnlinePartsModel" "endAt" "[I" ∈ lw_all := lw_t7 (i := 180) (by decide +kernel) rfl
theorem fl_X12_208 : Cond.fieldLink RX12 208 "OnlinePartsModel" "enderAt" "[I" ∈ lw_all := lw_t7 (i := 181) (by decide +kernel) rfl
theorem fl_X12_211 : Cond.fieldLink RX12 211 "OnlinePartsModel" "registerMany" "[I" ∈ lw_all := lw_t7 (i := 182) (by decide +kernel) rfl
theorem fl_X12_214 : Cond.fieldLink RX12 214 "OnlinePartsModel" "from" "[I" ∈ lw_all := lw_t7 (i := 183) (by decide +kernel) rfl
theorem fl_X12_724 : Cond.fieldLink RX12 724 "OnlinePartsModel" "variants" "I" ∈ lw_all := lw_t7 (i := 184) (by decide +kernel) rfl
theorem fl_X12_742 : Cond.fieldLink RX12 742 "OnlinePartsModel" "atHand" "I" ∈ lw_all := lw_t7 (i := 185) (by decide +kernel) rfl
theorem fl_X12_217 : Cond.fieldLink RX12 217 "OnlinePartsModel" "madeSort" "[I" ∈ lw_all := lw_t7 (i := 186) (by decide +kernel) rfl
theorem fl_X12_220 : Cond.fieldLink RX12 220 "OnlinePartsModel" "madeBits" "[I" ∈ lw_all := lw_t7 (i := 187) (by decide +kernel) rfl
theorem fl_X12_223 : Cond.fieldLink RX12 223 "OnlinePartsModel" "madeAt" "[I" ∈ lw_all := lw_t7 (i := 188) (by decide +kernel) rfl
theorem fl_X12_226 : Cond.fieldLink RX12 226 "OnlinePartsModel" "otherSort" "[I" ∈ lw_all := lw_t7 (i := 189) (by decide +kernel) rfl
theorem fl_X12_229 : Cond.fieldLink RX12 229 "OnlinePartsModel" "otherBits" "[I" ∈ lw_all := lw_t7 (i := 190) (by decide +kernel) rfl
theorem fl_X12_232 : Cond.fieldLink RX12 232 "OnlinePartsModel" "otherAt" "[I" ∈ lw_all := lw_t7 (i := 191) (by decide +kernel) rfl
theorem fl_X12_707 : Cond.fieldLink RX12 707 "OnlinePartsModel" "madeLong" "I" ∈ lw_all := lw_t7 (i := 192) (by decide +kernel) rfl
theorem fl_X12_235 : Cond.fieldLink RX12 235 "OnlinePartsModel" "ran" "[I" ∈ lw_all := lw_t7 (i := 193) (by decide +kernel) rfl
theorem fl_X12_238 : Cond.fieldLink RX12 238 "OnlinePartsModel" "rowSort" "[I" ∈ lw_all := lw_t7 (i := 194) (by decide +kernel) rfl
theorem fl_X12_241 : Cond.fieldLink RX12 241 "OnlinePartsModel" "rowBits" "[I" ∈ lw_all := lw_t7 (i := 195) (by decide +kernel) rfl
theorem fl_X12_797 : Cond.fieldLink RX12 797 "OnlinePartsModel" "rowLong" "I" ∈ lw_all := lw_t7 (i := 196) (by decide +kernel) rfl
theorem fl_X12_244 : Cond.fieldLink RX12 244 "OnlinePartsModel" "register" "[I" ∈ lw_all := lw_t7 (i := 197) (by decide +kernel) rfl
theorem fl_X12_247 : Cond.fieldLink RX12 247 "OnlinePartsModel" "goesOn0" "[I" ∈ lw_all := lw_t7 (i := 198) (by decide +kernel) rfl
theorem fl_X12_250 : Cond.fieldLink RX12 250 "OnlinePartsModel" "variantAt" "[I" ∈ lw_all := lw_t7 (i := 199) (by decide +kernel) rfl
theorem fl_X12_812 : Cond.fieldLink RX12 812 "OnlinePartsModel" "first" "I" ∈ lw_all := lw_t7 (i := 200) (by decide +kernel) rfl
theorem fl_X12_253 : Cond.fieldLink RX12 253 "OnlinePartsModel" "keptSort" "[I" ∈ lw_all := lw_t7 (i := 201) (by decide +kernel) rfl
theorem fl_X12_256 : Cond.fieldLink RX12 256 "OnlinePartsModel" "keptBits" "[I" ∈ lw_all := lw_t7 (i := 202) (by decide +kernel) rfl
theorem fl_X12_259 : Cond.fieldLink RX12 259 "OnlinePartsModel" "keptPlace" "[I" ∈ lw_all := lw_t7 (i := 203) (by decide +kernel) rfl
theorem fl_X12_262 : Cond.fieldLink RX12 262 "OnlinePartsModel" "doneSort" "[I" ∈ lw_all := lw_t7 (i := 204) (by decide +kernel) rfl
theorem fl_X12_265 : Cond.fieldLink RX12 265 "OnlinePartsModel" "doneBits" "[I" ∈ lw_all := lw_t7 (i := 205) (by decide +kernel) rfl
theorem fl_X12_845 : Cond.fieldLink RX12 845 "OnlinePartsModel" "kept" "I" ∈ lw_all := lw_t7 (i := 206) (by decide +kernel) rfl
theorem fl_X12_848 : Cond.fieldLink RX12 848 "OnlinePartsModel" "doneLong" "I" ∈ lw_all := lw_t7 (i := 207) (by decide +kernel) rfl
theorem fl_X12_268 : Cond.fieldLink RX12 268 "OnlinePartsModel" "asideSort" "[I" ∈ lw_all := lw_t7 (i := 208) (by decide +kernel) rfl
theorem fl_X12_271 : Cond.fieldLink RX12 271 "OnlinePartsModel" "asideBits" "[I" ∈ lw_all := lw_t7 (i := 209) (by decide +kernel) rfl
theorem fl_X12_274 : Cond.fieldLink RX12 274 "OnlinePartsModel" "asidePlace" "[I" ∈ lw_all := lw_t7 (i := 210) (by decide +kernel) rfl
theorem fl_X12_277 : Cond.fieldLink RX12 277 "OnlinePartsModel" "asideRan" "[I" ∈ lw_all := lw_t7 (i := 211) (by decide +kernel) rfl
theorem fl_X12_281 : Cond.fieldLink RX12 281 "OnlinePartsModel" "letters" "[B" ∈ lw_all := lw_t7 (i := 212) (by decide +kernel) rfl
theorem fl_X12_859 : Cond.fieldLink RX12 859 "OnlinePartsModel" "lettered" "I" ∈ lw_all := lw_t7 (i := 213) (by decide +kernel) rfl
theorem fl_X12_284 : Cond.fieldLink RX12 284 "OnlinePartsModel" "still" "[I" ∈ lw_all := lw_t7 (i := 214) (by decide +kernel) rfl
theorem ml_L_106 : Cond.methodLink RL 106 yX12_op ∈ lw_all := lw_t9 (i := 18) (by decide +kernel) rfl
theorem im_X12_op : Cond.instanceMethod yX12_op ∈ lw_all := lw_t9 (i := 19) (by decide +kernel) rfl
theorem se_X12_op : Cond.selects RX12 yX12_op yX12_op ∈ lw_all := lw_t9 (i := 20) (by decide +kernel) rfl
theorem co_X12_op : Cond.code yX12_op cX12_op 4 (some .int) ∈ lw_all := lw_t9 (i := 21) rfl rfl
theorem ml_X12_345 : Cond.methodLink RX12 345 yX12_isSign ∈ lw_all := lw_t9 (i := 22) (by decide +kernel) rfl
theorem st_X12_isSign : Cond.static yX12_isSign ∈ lw_all := lw_t9 (i := 23) (by decide +kernel) rfl
theorem co_X12_isSign : Cond.code yX12_isSign cX12_isSign 1 (some .boolean) ∈ lw_all := lw_t9 (i := 24) rfl rfl
theorem ml_X12_348 : Cond.methodLink RX12 348 yX12_join ∈ lw_all := lw_t9 (i := 25) (by decide +kernel) rfl
theorem im_X12_join : Cond.instanceMethod yX12_join ∈ lw_all := lw_t9 (i := 27) (by decide +kernel) rfl
theorem co_X12_join : Cond.code yX12_join cX12_join 8 none ∈ lw_all := lw_t9 (i := 28) rfl rfl
theorem ml_X12_320 : Cond.methodLink RX12 320 yX12_intOf ∈ lw_all := lw_t9 (i := 29) (by decide +kernel) rfl
theorem st_X12_intOf : Cond.static yX12_intOf ∈ lw_all := lw_t9 (i := 30) (by decide +kernel) rfl
theorem co_X12_intOf : Cond.code yX12_intOf cX12_intOf 2 (some .int) ∈ lw_all := lw_t9 (i := 31) rfl rfl
theorem ml_X12_291 : Cond.methodLink RX12 291 yX12_isNan ∈ lw_all := lw_t9 (i := 32) (by decide +kernel) rfl
theorem st_X12_isNan : Cond.static yX12_isNan ∈ lw_all := lw_t9 (i := 33) (by decide +kernel) rfl
theorem co_X12_isNan : Cond.code yX12_isNan cX12_isNan 1 (some .boolean) ∈ lw_all := lw_t9 (i := 34) rfl rfl
theorem cs_X12_311 : Cond.constant RX12 311 (2147483647) ∈ lw_all := lw_t9 (i := 35) (by decide +kernel) rfl
theorem cs_X12_312 : Cond.constant RX12 312 (2139095040) ∈ lw_all := lw_t9 (i := 36) (by decide +kernel) rfl
theorem ml_X12_324 : Cond.methodLink RX12 324 yX12_give ∈ lw_all := lw_t9 (i := 40) (by decide +kernel) rfl
theorem im_X12_give : Cond.instanceMethod yX12_give ∈ lw_all := lw_t9 (i := 42) (by decide +kernel) rfl
theorem co_X12_give : Cond.code yX12_give cX12_give 3 none ∈ lw_all := lw_t9 (i := 43) rfl rfl
theorem ml_X12_328 : Cond.methodLink RX12 328 yX12_floatOf ∈ lw_all := lw_t9 (i := 44) (by decide +kernel) rfl
theorem st_X12_floatOf : Cond.static yX12_floatOf ∈ lw_all := lw_t9 (i := 45) (by decide +kernel) rfl
theorem co_X12_floatOf : Cond.code yX12_floatOf cX12_floatOf 2 (some .int) ∈ lw_all := lw_t9 (i := 46) rfl rfl
theorem ml_X12_287 : Cond.methodLink RX12 287 yX12_bitsOf ∈ lw_all := lw_t9 (i := 47) (by decide +kernel) rfl
theorem st_X12_bitsOf : Cond.static yX12_bitsOf ∈ lw_all := lw_t9 (i := 48) (by decide +kernel) rfl
theorem co_X12_bitsOf : Cond.code yX12_bitsOf cX12_bitsOf 1 (some .int) ∈ lw_all := lw_t9 (i := 49) rfl rfl
theorem ml_X12_302 : Cond.methodLink RX12 302 yJxf58ca_floatToIntBits_5c35a ∈ lw_all := lw_t9 (i := 50) (by decide +kernel) rfl
theorem st_Jxf58ca_floatToIntBits_5c35a : Cond.static yJxf58ca_floatToIntBits_5c35a ∈ lw_all := lw_t9 (i := 51) (by decide +kernel) rfl
theorem co_Jxf58ca_floatToIntBits_5c35a : Cond.code yJxf58ca_floatToIntBits_5c35a cJxf58ca_floatToIntBits_5c35a 1 (some .int) ∈ lw_all := lw_t9 (i := 52) rfl rfl
theorem ml_Jxf58ca_59 : Cond.methodLink RJxf58ca 59 yJxf58ca_isNaN_12338 ∈ lw_all := lw_t9 (i := 53) (by decide +kernel) rfl
theorem st_Jxf58ca_isNaN_12338 : Cond.static yJxf58ca_isNaN_12338 ∈ lw_all := lw_t9 (i := 54) (by decide +kernel) rfl
theorem co_Jxf58ca_isNaN_12338 : Cond.code yJxf58ca_isNaN_12338 cJxf58ca_isNaN_12338 1 (some .boolean) ∈ lw_all := lw_t9 (i := 55) rfl rfl
theorem cs_Jxf58ca_77 : Cond.constant RJxf58ca 77 (2143289344) ∈ lw_all := lw_t9 (i := 59) (by decide +kernel) rfl
theorem cs_X12_295 : Cond.constant RX12 295 (2143289344) ∈ lw_all := lw_t9 (i := 60) (by decide +kernel) rfl
theorem ml_X12_331 : Cond.methodLink RX12 331 yX12_isLess ∈ lw_all := lw_t9 (i := 61) (by decide +kernel) rfl
theorem st_X12_isLess : Cond.static yX12_isLess ∈ lw_all := lw_t9 (i := 62) (by decide +kernel) rfl
theorem co_X12_isLess : Cond.code yX12_isLess cX12_isLess 2 (some .boolean) ∈ lw_all := lw_t9 (i := 63) rfl rfl
theorem ml_X12_335 : Cond.methodLink RX12 335 yX12_isSame ∈ lw_all := lw_t9 (i := 64) (by decide +kernel) rfl
theorem st_X12_isSame : Cond.static yX12_isSame ∈ lw_all := lw_t9 (i := 65) (by decide +kernel) rfl
theorem co_X12_isSame : Cond.code yX12_isSame cX12_isSame 2 (some .boolean) ∈ lw_all := lw_t9 (i := 66) rfl rfl
theorem ml_X12_338 : Cond.methodLink RX12 338 yX12_brokens ∈ lw_all := lw_t9 (i := 67) (by decide +kernel) rfl
theorem st_X12_brokens : Cond.static yX12_brokens ∈ lw_all := lw_t9 (i := 68) (by decide +kernel) rfl
theorem co_X12_brokens : Cond.code yX12_brokens cX12_brokens 5 (some .int) ∈ lw_all := lw_t9 (i := 69) rfl rfl
theorem ml_X12_316 : Cond.methodLink RX12 316 yX12_isNoNumber ∈ lw_all := lw_t9 (i := 70) (by decide +kernel) rfl
theorem st_X12_isNoNumber : Cond.static yX12_isNoNumber ∈ lw_all := lw_t9 (i := 71) (by decide +kernel) rfl
theorem co_X12_isNoNumber : Cond.code yX12_isNoNumber cX12_isNoNumber 4 (some .boolean) ∈ lw_all := lw_t9 (i := 72) rfl rfl
theorem ml_X12_313 : Cond.methodLink RX12 313 yX12_isInfinite ∈ lw_all := lw_t9 (i := 73) (by decide +kernel) rfl
theorem st_X12_isInfinite : Cond.static yX12_isInfinite ∈ lw_all := lw_t9 (i := 74) (by decide +kernel) rfl
theorem co_X12_isInfinite : Cond.code yX12_isInfinite cX12_isInfinite 1 (some .boolean) ∈ lw_all := lw_t9 (i := 75) rfl rfl
theorem ml_X12_342 : Cond.methodLink RX12 342 yX12_wholes ∈ lw_all := lw_t9 (i := 76) (by decide +kernel) rfl
theorem st_X12_wholes : Cond.static yX12_wholes ∈ lw_all := lw_t9 (i := 77) (by decide +kernel) rfl
theorem co_X12_wholes : Cond.code yX12_wholes cX12_wholes 3 (some .int) ∈ lw_all := lw_t9 (i := 78) rfl rfl
theorem ml_L_17 : Cond.methodLink RL 17 yX12_feed ∈ lw_all := lw_t9 (i := 79) (by decide +kernel) rfl
theorem im_X12_feed : Cond.instanceMethod yX12_feed ∈ lw_all := lw_t9 (i := 80) (by decide +kernel) rfl
theorem se_X12_feed : Cond.selects RX12 yX12_feed yX12_feed ∈ lw_all := lw_t9 (i := 81) (by decide +kernel) rfl
theorem co_X12_feed : Cond.code yX12_feed cX12_feed 6 (some .int) ∈ lw_all := lw_t9 (i := 82) rfl rfl
theorem ml_X12_355 : Cond.methodLink RX12 355 yX12_four ∈ lw_all := lw_t9 (i := 83) (by decide +kernel) rfl
theorem im_X12_four : Cond.instanceMethod yX12_four ∈ lw_all := lw_t9 (i := 85) (by decide +kernel) rfl
theorem co_X12_four : Cond.code yX12_four cX12_four 3 none ∈ lw_all := lw_t9 (i := 86) rfl rfl
theorem ml_L_22 : Cond.methodLink RL 22 yX12_end ∈ lw_all := lw_t9 (i := 87) (by decide +kernel) rfl
theorem im_X12_end : Cond.instanceMethod yX12_end ∈ lw_all := lw_t9 (i := 88) (by decide +kernel) rfl
theorem se_X12_end : Cond.selects RX12 yX12_end yX12_end ∈ lw_all := lw_t9 (i := 89) (by decide +kernel) rfl
theorem co_X12_end : Cond.code yX12_end cX12_end 2 (some .int) ∈ lw_all := lw_t9 (i := 90) rfl rfl
theorem ml_X12_359 : Cond.methodLink RX12 359 yX12_isIn ∈ lw_all := lw_t9 (i := 91) (by decide +kernel) rfl
theorem st_X12_isIn : Cond.static yX12_isIn ∈ lw_all := lw_t9 (i := 92) (by decide +kernel) rfl
theorem co_X12_isIn : Cond.code yX12_isIn cX12_isIn 3 (some .boolean) ∈ lw_all := lw_t9 (i := 93) rfl rfl
theorem ml_L_27 : Cond.methodLink RL 27 yX12_program ∈ lw_all := lw_t9 (i := 94) (by decide +kernel) rfl
theorem im_X12_program : Cond.instanceMethod yX12_program ∈ lw_all := lw_t9 (i := 95) (by decide +kernel) rfl
theorem se_X12_program : Cond.selects RX12 yX12_program yX12_program ∈ lw_all := lw_t9 (i := 96) (by decide +kernel) rfl
theorem co_X12_program : Cond.code yX12_program cX12_program 2 (some .int) ∈ lw_all := lw_t9 (i := 97) rfl rfl
theorem ml_X12_461 : Cond.methodLink RX12 461 yX12_readProgram ∈ lw_all := lw_t9 (i := 98) (by decide +kernel) rfl
theorem im_X12_readProgram : Cond.instanceMethod yX12_readProgram ∈ lw_all := lw_t9 (i := 100) (by decide +kernel) rfl
theorem co_X12_readProgram : Cond.code yX12_readProgram cX12_readProgram 1 (some .boolean) ∈ lw_all := lw_t9 (i := 101) rfl rfl
theorem ml_X12_452 : Cond.methodLink RX12 452 yX12_beginText ∈ lw_all := lw_t9 (i := 102) (by decide +kernel) rfl
theorem im_X12_beginText : Cond.instanceMethod yX12_beginText ∈ lw_all := lw_t9 (i := 104) (by decide +kernel) rfl
theorem co_X12_beginText : Cond.code yX12_beginText cX12_beginText 1 none ∈ lw_all := lw_t9 (i := 105) rfl rfl
theorem ml_X12_365 : Cond.methodLink RX12 365 yX12_here ∈ lw_all := lw_t9 (i := 110) (by decide +kernel) rfl
theorem im_X12_here : Cond.instanceMethod yX12_here ∈ lw_all := lw_t9 (i := 112) (by decide +kernel) rfl
theorem co_X12_here : Cond.code yX12_here cX12_here 1 (some .int) ∈ lw_all := lw_t9 (i := 113) rfl rfl
theorem ml_X12_406 : Cond.methodLink RX12 406 yX12_isFunctionLetter ∈ lw_all := lw_t9 (i := 114) (by decide +kernel) rfl
theorem st_X12_isFunctionLetter : Cond.static yX12_isFunctionLetter ∈ lw_all := lw_t9 (i := 115) (by decide +kernel) rfl
theorem co_X12_isFunctionLetter : Cond.code yX12_isFunctionLetter cX12_isFunctionLetter 1 (some .boolean) ∈ lw_all := lw_t9 (i := 116) rfl rfl
theorem ml_X12_369 : Cond.methodLink RX12 369 yX12_fails ∈ lw_all := lw_t9 (i := 117) (by decide +kernel) rfl
theorem im_X12_fails : Cond.instanceMethod yX12_fails ∈ lw_all := lw_t9 (i := 119) (by decide +kernel) rfl
theorem co_X12_fails : Cond.code yX12_fails cX12_fails 2 (some .boolean) ∈ lw_all := lw_t9 (i := 120) rfl rfl
theorem ml_X12_471 : Cond.methodLink RX12 471 yX12_copy ∈ lw_all := lw_t9 (i := 197) (by decide +kernel) rfl
theorem st_X12_copy : Cond.static yX12_copy ∈ lw_all := lw_t9 (i := 198) (by decide +kernel) rfl
theorem co_X12_copy : Cond.code yX12_copy cX12_copy 6 none ∈ lw_all := lw_t9 (i := 199) rfl rfl
theorem ml_X12_475 : Cond.methodLink RX12 475 yX12_layBehind ∈ lw_all := lw_t9 (i := 200) (by decide +kernel) rfl
theorem im_X12_layBehind : Cond.instanceMethod yX12_layBehind ∈ lw_all := lw_t9 (i := 202) (by decide +kernel) rfl
theorem co_X12_layBehind : Cond.code yX12_layBehind cX12_layBehind 4 none ∈ lw_all := lw_t9 (i := 203) rfl rfl
theorem ml_L_31 : Cond.methodLink RL 31 yX12_task ∈ lw_all := lw_t9 (i := 204) (by decide +kernel) rfl
theorem im_X12_task : Cond.instanceMethod yX12_task ∈ lw_all := lw_t9 (i := 205) (by decide +kernel) rfl
theorem se_X12_task : Cond.selects RX12 yX12_task yX12_task ∈ lw_all := lw_t9 (i := 206) (by decide +kernel) rfl
theorem co_X12_task : Cond.code yX12_task cX12_task 2 (some .int) ∈ lw_all := lw_t9 (i := 207) rfl rfl
theorem ml_X12_500 : Cond.methodLink RX12 500 yX12_readTask ∈ lw_all := lw_t9 (i := 208) (by decide +kernel) rfl
theorem im_X12_readTask : Cond.instanceMethod yX12_readTask ∈ lw_all := lw_t9 (i := 210) (by decide +kernel) rfl
theorem co_X12_readTask : Cond.code yX12_readTask cX12_readTask 2 (some .boolean) ∈ lw_all := lw_t9 (i := 211) rfl rfl
theorem ml_L_35 : Cond.methodLink RL 35 yX12_values ∈ lw_all := lw_t9 (i := 224) (by decide +kernel) rfl
theorem im_X12_values : Cond.instanceMethod yX12_values ∈ lw_all := lw_t9 (i := 225) (by decide +kernel) rfl
theorem se_X12_values : Cond.selects RX12 yX12_values yX12_values ∈ lw_all := lw_t9 (i := 226) (by decide +kernel) rfl
theorem co_X12_values : Cond.code yX12_values cX12_values 2 (some .int) ∈ lw_all := lw_t9 (i := 227) rfl rfl
theorem ml_X12_518 : Cond.methodLink RX12 518 yX12_readValues ∈ lw_all := lw_t9 (i := 228) (by decide +kernel) rfl
theorem im_X12_readValues : Cond.instanceMethod yX12_readValues ∈ lw_all := lw_t9 (i := 230) (by decide +kernel) rfl
theorem co_X12_readValues : Cond.code yX12_readValues cX12_readValues 2 (some .boolean) ∈ lw_all := lw_t9 (i := 231) rfl rfl
theorem ml_L_39 : Cond.methodLink RL 39 yX12_fault ∈ lw_all := lw_t9 (i := 232) (by decide +kernel) rfl
theorem im_X12_fault : Cond.instanceMethod yX12_fault ∈ lw_all := lw_t9 (i := 233) (by decide +kernel) rfl
theorem se_X12_fault : Cond.selects RX12 yX12_fault yX12_fault ∈ lw_all := lw_t9 (i := 234) (by decide +kernel) rfl
theorem co_X12_fault : Cond.code yX12_fault cX12_fault 1 (some .int) ∈ lw_all := lw_t9 (i := 235) rfl rfl
theorem ml_L_44 : Cond.methodLink RL 44 yX12_set ∈ lw_all := lw_t9 (i := 236) (by decide +kernel) rfl
theorem im_X12_set : Cond.instanceMethod yX12_set ∈ lw_all := lw_t9 (i := 237) (by decide +kernel) rfl
theorem se_X12_set : Cond.selects RX12 yX12_set yX12_set ∈ lw_all := lw_t9 (i := 238) (by decide +kernel) rfl
theorem co_X12_set : Cond.code yX12_set cX12_set 4 (some .boolean) ∈ lw_all := lw_t9 (i := 239) rfl rfl
theorem ml_L_48 : Cond.methodLink RL 48 yX12_is ∈ lw_all := lw_t10 (i := 0) (by decide +kernel) rfl
theorem im_X12_is : Cond.instanceMethod yX12_is ∈ lw_all := lw_t10 (i := 1) (by decide +kernel) rfl
theorem se_X12_is : Cond.selects RX12 yX12_is yX12_is ∈ lw_all := lw_t10 (i := 2) (by decide +kernel) rfl
theorem co_X12_is : Cond.code yX12_is cX12_is 2 (some .int) ∈ lw_all := lw_t10 (i := 3) rfl rfl
theorem ml_L_53 : Cond.methodLink RL 53 yX12_function ∈ lw_all := lw_t10 (i := 4) (by decide +kernel) rfl
theorem im_X12_function : Cond.instanceMethod yX12_function ∈ lw_all := lw_t10 (i := 5) (by decide +kernel) rfl
theorem se_X12_function : Cond.selects RX12 yX12_function yX12_function ∈ lw_all := lw_t10 (i := 6) (by decide +kernel) rfl
theorem co_X12_function : Cond.code yX12_function cX12_function 3 (some .int) ∈ lw_all := lw_t10 (i := 7) rfl rfl
theorem ml_L_57 : Cond.methodLink RL 57 yX12_specialise ∈ lw_all := lw_t10 (i := 12) (by decide +kernel) rfl
theorem im_X12_specialise : Cond.instanceMethod yX12_specialise ∈ lw_all := lw_t10 (i := 13) (by decide +kernel) rfl
theorem se_X12_specialise : Cond.selects RX12 yX12_specialise yX12_specialise ∈ lw_all := lw_t10 (i := 14) (by decide +kernel) rfl
theorem co_X12_specialise : Cond.code yX12_specialise cX12_specialise 1 (some .int) ∈ lw_all := lw_t10 (i := 15) rfl rfl
theorem ml_X12_776 : Cond.methodLink RX12 776 yX12_specialiseNow ∈ lw_all := lw_t10 (i := 16) (by decide +kernel) rfl
theorem im_X12_specialiseNow : Cond.instanceMethod yX12_specialiseNow ∈ lw_all := lw_t10 (i := 18) (by decide +kernel) rfl
theorem co_X12_specialiseNow : Cond.code yX12_specialiseNow cX12_specialiseNow 4 none ∈ lw_all := lw_t10 (i := 19) rfl rfl
theorem ml_X12_667 : Cond.methodLink RX12 667 yX12_functionOf ∈ lw_all := lw_t10 (i := 20) (by decide +kernel) rfl
theorem im_X12_functionOf : Cond.instanceMethod yX12_functionOf ∈ lw_all := lw_t10 (i := 22) (by decide +kernel) rfl
theorem co_X12_functionOf : Cond.code yX12_functionOf cX12_functionOf 4 (some .int) ∈ lw_all := lw_t10 (i := 23) rfl rfl
theorem ml_X12_770 : Cond.methodLink RX12 770 yX12_buildTask ∈ lw_all := lw_t10 (i := 24) (by decide +kernel) rfl
theorem im_X12_buildTask : Cond.instanceMethod yX12_buildTask ∈ lw_all := lw_t10 (i := 26) (by decide +kernel) rfl
theorem co_X12_buildTask : Cond.code yX12_buildTask cX12_buildTask 4 none ∈ lw_all := lw_t10 (i := 27) rfl rfl
theorem ml_X12_763 : Cond.methodLink RX12 763 yX12_begin ∈ lw_all := lw_t10 (i := 67) (by decide +kernel) rfl
theorem im_X12_begin : Cond.instanceMethod yX12_begin ∈ lw_all := lw_t10 (i := 69) (by decide +kernel) rfl
theorem co_X12_begin : Cond.code yX12_begin cX12_begin 2 none ∈ lw_all := lw_t10 (i := 70) rfl rfl
theorem ml_L_61 : Cond.methodLink RL 61 yX12_residue ∈ lw_all := lw_t11 (i := 12) (by decide +kernel) rfl
theorem im_X12_residue : Cond.instanceMethod yX12_residue ∈ lw_all := lw_t11 (i := 13) (by decide +kernel) rfl
theorem se_X12_residue : Cond.selects RX12 yX12_residue yX12_residue ∈ lw_all := lw_t11 (i := 14) (by decide +kernel) rfl
theorem co_X12_residue : Cond.code yX12_residue cX12_residue 2 (some .int) ∈ lw_all := lw_t11 (i := 15) rfl rfl
theorem ml_L_65 : Cond.methodLink RL 65 yX12_variant ∈ lw_all := lw_t11 (i := 24) (by decide +kernel) rfl
theorem im_X12_variant : Cond.instanceMethod yX12_variant ∈ lw_all := lw_t11 (i := 25) (by decide +kernel) rfl
theorem se_X12_variant : Cond.selects RX12 yX12_variant yX12_variant ∈ lw_all := lw_t11 (i := 26) (by decide +kernel) rfl
theorem co_X12_variant : Cond.code yX12_variant cX12_variant 3 (some .int) ∈ lw_all := lw_t11 (i := 27) rfl rfl
theorem ml_X12_785 : Cond.methodLink RX12 785 yX12_isVariant ∈ lw_all := lw_t11 (i := 28) (by decide +kernel) rfl
theorem im_X12_isVariant : Cond.instanceMethod yX12_isVariant ∈ lw_all := lw_t11 (i := 30) (by decide +kernel) rfl
theorem co_X12_isVariant : Cond.code yX12_isVariant cX12_isVariant 2 (some .boolean) ∈ lw_all := lw_t11 (i := 31) rfl rfl
theorem ml_L_69 : Cond.methodLink RL 69 yX12_kinds ∈ lw_all := lw_t11 (i := 44) (by decide +kernel) rfl
theorem im_X12_kinds : Cond.instanceMethod yX12_kinds ∈ lw_all := lw_t11 (i := 45) (by decide +kernel) rfl
theorem se_X12_kinds : Cond.selects RX12 yX12_kinds yX12_kinds ∈ lw_all := lw_t11 (i := 46) (by decide +kernel) rfl
theorem co_X12_kinds : Cond.code yX12_kinds cX12_kinds 3 (some .int) ∈ lw_all := lw_t11 (i := 47) rfl rfl
theorem ml_L_73 : Cond.methodLink RL 73 yX12_run ∈ lw_all := lw_t11 (i := 48) (by decide +kernel) rfl
theorem im_X12_run : Cond.instanceMethod yX12_run ∈ lw_all := lw_t11 (i := 49) (by decide +kernel) rfl
theorem se_X12_run : Cond.selects RX12 yX12_run yX12_run ∈ lw_all := lw_t11 (i := 50) (by decide +kernel) rfl
theorem co_X12_run : Cond.code yX12_run cX12_run 3 (some .int) ∈ lw_all := lw_t11 (i := 51) rfl rfl
theorem ml_X12_839 : Cond.methodLink RX12 839 yX12_canRun ∈ lw_all := lw_t11 (i := 52) (by decide +kernel) rfl
theorem im_X12_canRun : Cond.instanceMethod yX12_canRun ∈ lw_all := lw_t11 (i := 54) (by decide +kernel) rfl
theorem co_X12_canRun : Cond.code yX12_canRun cX12_canRun 2 (some .boolean) ∈ lw_all := lw_t11 (i := 55) rfl rfl
theorem ml_X12_842 : Cond.methodLink RX12 842 yX12_runNow ∈ lw_all := lw_t11 (i := 56) (by decide +kernel) rfl
theorem im_X12_runNow : Cond.instanceMethod yX12_runNow ∈ lw_all := lw_t11 (i := 58) (by decide +kernel) rfl
theorem co_X12_runNow : Cond.code yX12_runNow cX12_runNow 2 none ∈ lw_all := lw_t11 (i := 59) rfl rfl
theorem ml_X12_833 : Cond.methodLink RX12 833 yX12_runTask ∈ lw_all := lw_t11 (i := 60) (by decide +kernel) rfl
theorem im_X12_runTask : Cond.instanceMethod yX12_runTask ∈ lw_all := lw_t11 (i := 62) (by decide +kernel) rfl
theorem co_X12_runTask : Cond.code yX12_runTask cX12_runTask 2 none ∈ lw_all := lw_t11 (i := 63) rfl rfl
theorem ml_X12_806 : Cond.methodLink RX12 806 yX12_beginRun ∈ lw_all := lw_t11 (i := 64) (by decide +kernel) rfl
theorem im_X12_beginRun : Cond.instanceMethod yX12_beginRun ∈ lw_all := lw_t11 (i := 66) (by decide +kernel) rfl
theorem co_X12_beginRun : Cond.code yX12_beginRun cX12_beginRun 2 none ∈ lw_all := lw_t11 (i := 67) rfl rfl
theorem ml_X12_800 : Cond.methodLink RX12 800 yX12_buildLeaves ∈ lw_all := lw_t11 (i := 68) (by decide +kernel) rfl
theorem im_X12_buildLeaves : Cond.instanceMethod yX12_buildLeaves ∈ lw_all := lw_t11 (i := 70) (by decide +kernel) rfl
theorem co_X12_buildLeaves : Cond.code yX12_buildLeaves cX12_buildLeaves 2 none ∈ lw_all := lw_t11 (i := 71) rfl rfl
theorem ml_X12_809 : Cond.methodLink RX12 809 yX12_endRun ∈ lw_all := lw_t11 (i := 72) (by decide +kernel) rfl
theorem im_X12_endRun : Cond.instanceMethod yX12_endRun ∈ lw_all := lw_t11 (i := 74) (by decide +kernel) rfl
theorem co_X12_endRun : Cond.code yX12_endRun cX12_endRun 2 none ∈ lw_all := lw_t11 (i := 75) rfl rfl
theorem ml_L_77 : Cond.methodLink RL 77 yX12_output ∈ lw_all := lw_t11 (i := 108) (by decide +kernel) rfl
theorem im_X12_output : Cond.instanceMethod yX12_output ∈ lw_all := lw_t11 (i := 109) (by decide +kernel) rfl
theorem se_X12_output : Cond.selects RX12 yX12_output yX12_output ∈ lw_all := lw_t11 (i := 110) (by decide +kernel) rfl
theorem co_X12_output : Cond.code yX12_output cX12_output 3 (some .int) ∈ lw_all := lw_t11 (i := 111) rfl rfl
theorem ml_L_81 : Cond.methodLink RL 81 yX12_place ∈ lw_all := lw_t11 (i := 112) (by decide +kernel) rfl
theorem im_X12_place : Cond.instanceMethod yX12_place ∈ lw_all := lw_t11 (i := 113) (by decide +kernel) rfl
theorem se_X12_place : Cond.selects RX12 yX12_place yX12_place ∈ lw_all := lw_t11 (i := 114) (by decide +kernel) rfl
theorem co_X12_place : Cond.code yX12_place cX12_place 2 (some .int) ∈ lw_all := lw_t11 (i := 115) rfl rfl
theorem ml_L_97 : Cond.methodLink RL 97 yX12_agree ∈ lw_all := lw_t11 (i := 116) (by decide +kernel) rfl
theorem im_X12_agree : Cond.instanceMethod yX12_agree ∈ lw_all := lw_t11 (i := 117) (by decide +kernel) rfl
theorem se_X12_agree : Cond.selects RX12 yX12_agree yX12_agree ∈ lw_all := lw_t11 (i := 118) (by decide +kernel) rfl
theorem co_X12_agree : Cond.code yX12_agree cX12_agree 6 (some .int) ∈ lw_all := lw_t11 (i := 119) rfl rfl
theorem ml_L_101 : Cond.methodLink RL 101 yX12_saved ∈ lw_all := lw_t11 (i := 127) (by decide +kernel) rfl
theorem im_X12_saved : Cond.instanceMethod yX12_saved ∈ lw_all := lw_t11 (i := 128) (by decide +kernel) rfl
theorem se_X12_saved : Cond.selects RX12 yX12_saved yX12_saved ∈ lw_all := lw_t11 (i := 129) (by decide +kernel) rfl
theorem co_X12_saved : Cond.code yX12_saved cX12_saved 2 (some .int) ∈ lw_all := lw_t11 (i := 130) rfl rfl
theorem ml_L_85 : Cond.methodLink RL 85 yX12_value ∈ lw_all := lw_t11 (i := 131) (by decide +kernel) rfl
theorem im_X12_value : Cond.instanceMethod yX12_value ∈ lw_all := lw_t11 (i := 132) (by decide +kernel) rfl
theorem se_X12_value : Cond.selects RX12 yX12_value yX12_value ∈ lw_all := lw_t11 (i := 133) (by decide +kernel) rfl
theorem co_X12_value : Cond.code yX12_value cX12_value 1 (some .int) ∈ lw_all := lw_t11 (i := 134) rfl rfl
theorem cs_X12_865 : Cond.constantLong RX12 865 (9) ∈ lw_all := lw_t11 (i := 151) (by decide +kernel) rfl
theorem cs_X12_867 : Cond.constantLong RX12 867 (10) ∈ lw_all := lw_t11 (i := 152) (by decide +kernel) rfl
theorem cs_X12_869 : Cond.constantLong RX12 869 (48) ∈ lw_all := lw_t11 (i := 153) (by decide +kernel) rfl
theorem ml_L_89 : Cond.methodLink RL 89 yX12_write ∈ lw_all := lw_t11 (i := 154) (by decide +kernel) rfl
theorem im_X12_write : Cond.instanceMethod yX12_write ∈ lw_all := lw_t11 (i := 155) (by decide +kernel) rfl
theorem se_X12_write : Cond.selects RX12 yX12_write yX12_write ∈ lw_all := lw_t11 (i := 156) (by decide +kernel) rfl
theorem co_X12_write : Cond.code yX12_write cX12_write 3 (some .int) ∈ lw_all := lw_t11 (i := 157) rfl rfl
theorem ml_L_93 : Cond.methodLink RL 93 yX12_octet ∈ lw_all := lw_t11 (i := 177) (by decide +kernel) rfl
theorem im_X12_octet : Cond.instanceMethod yX12_octet ∈ lw_all := lw_t11 (i := 178) (by decide +kernel) rfl
theorem se_X12_octet : Cond.selects RX12 yX12_octet yX12_octet ∈ lw_all := lw_t11 (i := 179) (by decide +kernel) rfl
theorem co_X12_octet : Cond.code yX12_octet cX12_octet 2 (some .int) ∈ lw_all := lw_t11 (i := 180) rfl rfl
theorem se_X1_begin : Cond.selects RX1 yX1_begin yX1_begin ∈ lw_all := lw_sel (i := 0) (by decide +kernel) rfl
theorem se_X11_feedFour : Cond.selects RX11 yX11_feedFour yX11_feedFour ∈ lw_all := lw_sel (i := 1) (by decide +kernel) rfl
theorem se_X11_takeTape : Cond.selects RX11 yX11_takeTape yX11_takeTape ∈ lw_all := lw_sel (i := 2) (by decide +kernel) rfl
theorem se_X4_isWell : Cond.selects RX4 yX4_isWell yX4_isWell ∈ lw_all := lw_sel (i := 3) (by decide +kernel) rfl
theorem se_X4_here : Cond.selects RX4 yX4_here yX4_here ∈ lw_all := lw_sel (i := 5) (by decide +kernel) rfl
theorem se_X4_fail : Cond.selects RX4 yX4_fail yX4_fail ∈ lw_all := lw_sel (i := 6) (by decide +kernel) rfl
theorem se_X4_takeEnd : Cond.selects RX4 yX4_takeEnd yX4_takeEnd ∈ lw_all := lw_sel (i := 24) (by decide +kernel) rfl
theorem se_X11_canRun : Cond.selects RX11 yX11_canRun yX11_canRun ∈ lw_all := lw_sel (i := 50) (by decide +kernel) rfl
theorem se_X7_call : Cond.selects RX7 yX7_call yX7_call ∈ lw_all := lw_sel (i := 51) (by decide +kernel) rfl
theorem se_X1_keptCount : Cond.selects RX1 yX1_keptCount yX1_keptCount ∈ lw_all := lw_sel (i := 65) (by decide +kernel) rfl
theorem se_X11_runBoth : Cond.selects RX11 yX11_runBoth yX11_runBoth ∈ lw_all := lw_sel (i := 76) (by decide +kernel) rfl
theorem se_X12_join : Cond.selects RX12 yX12_join yX12_join ∈ lw_all := lw_sel (i := 77) (by decide +kernel) rfl
theorem se_X12_give : Cond.selects RX12 yX12_give yX12_give ∈ lw_all := lw_sel (i := 78) (by decide +kernel) rfl
theorem se_X12_four : Cond.selects RX12 yX12_four yX12_four ∈ lw_all := lw_sel (i := 79) (by decide +kernel) rfl
theorem se_X12_readProgram : Cond.selects RX12 yX12_readProgram yX12_readProgram ∈ lw_all := lw_sel (i := 80) (by decide +kernel) rfl
theorem se_X12_beginText : Cond.selects RX12 yX12_beginText yX12_beginText ∈ lw_all := lw_sel (i := 81) (by decide +kernel) rfl
theorem se_X12_here : Cond.selects RX12 yX12_here yX12_here ∈ lw_all := lw_sel (i := 83) (by decide +kernel) rfl
theorem se_X12_fails : Cond.selects RX12 yX12_fails yX12_fails ∈ lw_all := lw_sel (i := 84) (by decide +kernel) rfl
theorem se_X12_layBehind : Cond.selects RX12 yX12_layBehind yX12_layBehind ∈ lw_all := lw_sel (i := 101) (by decide +kernel) rfl
theorem se_X12_readTask : Cond.selects RX12 yX12_readTask yX12_readTask ∈ lw_all := lw_sel (i := 102) (by decide +kernel) rfl
theorem se_X12_readValues : Cond.selects RX12 yX12_readValues yX12_readValues ∈ lw_all := lw_sel (i := 106) (by decide +kernel) rfl
theorem se_X12_specialiseNow : Cond.selects RX12 yX12_specialiseNow yX12_specialiseNow ∈ lw_all := lw_sel (i := 108) (by decide +kernel) rfl
theorem se_X12_functionOf : Cond.selects RX12 yX12_functionOf yX12_functionOf ∈ lw_all := lw_sel (i := 109) (by decide +kernel) rfl
theorem se_X12_buildTask : Cond.selects RX12 yX12_buildTask yX12_buildTask ∈ lw_all := lw_sel (i := 110) (by decide +kernel) rfl
theorem se_X12_begin : Cond.selects RX12 yX12_begin yX12_begin ∈ lw_all := lw_sel (i := 120) (by decide +kernel) rfl
theorem se_X12_isVariant : Cond.selects RX12 yX12_isVariant yX12_isVariant ∈ lw_all := lw_sel (i := 166) (by decide +kernel) rfl
theorem se_X12_canRun : Cond.selects RX12 yX12_canRun yX12_canRun ∈ lw_all := lw_sel (i := 170) (by decide +kernel) rfl
theorem se_X12_runNow : Cond.selects RX12 yX12_runNow yX12_runNow ∈ lw_all := lw_sel (i := 171) (by decide +kernel) rfl
theorem se_X12_runTask : Cond.selects RX12 yX12_runTask yX12_runTask ∈ lw_all := lw_sel (i := 172) (by decide +kernel) rfl
theorem se_X12_beginRun : Cond.selects RX12 yX12_beginRun yX12_beginRun ∈ lw_all := lw_sel (i := 173) (by decide +kernel) rfl
theorem se_X12_buildLeaves : Cond.selects RX12 yX12_buildLeaves yX12_buildLeaves ∈ lw_all := lw_sel (i := 174) (by decide +kernel) rfl
theorem se_X12_endRun : Cond.selects RX12 yX12_endRun yX12_endRun ∈ lw_all := lw_sel (i := 175) (by decide +kernel) rfl
