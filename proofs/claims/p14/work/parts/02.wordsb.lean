theorem lw_ps {ws : List Cond} (ps : List Nat) (h : ws = ps.filterMap (fun i => tables_1[i]?)) (g : ws.all goodWord = true) : ∀ w ∈ ws, w ∈ lw_all := by
  intro w hw
  have h1 := List.all_eq_true.mp g w hw
  rw [h] at hw
  obtain ⟨i, -, hi⟩ := List.mem_filterMap.mp hw
  exact List.mem_filter.mpr ⟨List.mem_append_right _ (List.mem_of_getElem? hi), h1⟩
theorem inX1 : ∀ w ∈ u_ws RX1 TX1 10, w ∈ lw_all := lw_ps [261, 263, 265, 267, 269, 271, 273, 275, 277, 279] (by decide +kernel) (by decide +kernel)
theorem inX2 : ∀ w ∈ u_ws RX2 TX2 4, w ∈ lw_all := lw_ps [119, 121, 123, 125] (by decide +kernel) (by decide +kernel)
theorem inX3 : ∀ w ∈ u_ws RX3 TX3 9, w ∈ lw_all := lw_ps [47, 49, 51, 53, 55, 57, 59, 61, 63] (by decide +kernel) (by decide +kernel)
theorem inX4 : ∀ w ∈ u_ws RX4 TX4 7, w ∈ lw_all := lw_ps [80, 82, 84, 86, 88, 90, 92] (by decide +kernel) (by decide +kernel)
theorem inX5 : ∀ w ∈ u_ws RX5 TX5 14, w ∈ lw_all := lw_ps [201, 203, 205, 207, 209, 211, 213, 215, 217, 219, 221, 223, 225, 227] (by decide +kernel) (by decide +kernel)
theorem inX6 : ∀ w ∈ u_ws RX6 TX6 9, w ∈ lw_all := lw_ps [392, 394, 396, 398, 400, 402, 404, 406, 408] (by decide +kernel) (by decide +kernel)
theorem inX7 : ∀ w ∈ u_ws RX7 TX7 6, w ∈ lw_all := lw_ps [364, 366, 368, 370, 372, 374] (by decide +kernel) (by decide +kernel)
theorem inX8 : ∀ w ∈ u_ws RX8 TX8 11, w ∈ lw_all := lw_ps [148, 150, 152, 154, 156, 158, 160, 162, 164, 166, 168] (by decide +kernel) (by decide +kernel)
theorem inX9 : ∀ w ∈ u_ws RX9 TX9 2, w ∈ lw_all := lw_ps [420, 422] (by decide +kernel) (by decide +kernel)
theorem inX10 : ∀ w ∈ u_ws RX10 TX10 18, w ∈ lw_all := lw_ps [315, 317, 319, 321, 323, 325, 327, 329, 331, 333, 335, 337, 339, 341, 343, 345, 347, 349] (by decide +kernel) (by decide +kernel)
theorem inX11 : ∀ w ∈ u_ws RX11 TX11 20, w ∈ lw_all := lw_ps [446, 448, 450, 452, 454, 456, 458, 460, 462, 464, 466, 468, 470, 472, 474, 476, 478, 480, 482, 484] (by decide +kernel) (by decide +kernel)
theorem inX12 : ∀ w ∈ u_ws RX12 TX12 141, w ∈ lw_all := lw_ps [1655, 1657, 1659, 1661, 1663, 1665, 1667, 1669, 1671, 1673, 1675, 1677, 1679, 1681, 1683, 1685, 1687, 1689, 1691, 1693, 1695, 1697, 1699, 1701, 1703, 1705, 1707, 1709, 1711, 1713, 1715, 1717, 1719, 1721, 1723, 1725, 1727, 1729, 1731, 1733, 1735, 1737, 1739, 1741, 1743, 1745, 1747, 1749, 1751, 1753, 1755, 1757, 1759, 1761, 1763, 1765, 1767, 1769, 1771, 1773, 1775, 1777, 1779, 1781, 1783, 1785, 1787, 1789, 1791, 1793, 1795, 1797, 1799, 1801, 1803, 1805, 1807, 1809, 1811, 1813, 1815, 1817, 1819, 1821, 1823, 1825, 1827, 1829, 1831, 1833, 1835, 1837, 1839, 1841, 1843, 1845, 1847, 1849, 1851, 1853, 1855, 1857, 1859, 1861, 1863, 1865, 1867, 1869, 1871, 1873, 1875, 1877, 1879, 1881, 1883, 1885, 1887, 1889, 1891, 1893, 1895, 1897, 1899, 1901, 1903, 1905, 1907, 1909, 1911, 1913, 1915, 1917, 1919, 1921, 1923, 1925, 1927, 1929, 1931, 1933, 1935] (by decide +kernel) (by decide +kernel)
theorem in_L : Cond.initialized RL ∈ lw_all := lw_t1 (i := 0) (by decide +kernel) rfl
theorem in_X11 : Cond.initialized RX11 ∈ lw_all := lw_t1 (i := 1) (by decide +kernel) rfl
theorem in_X3 : Cond.initialized RX3 ∈ lw_all := lw_t1 (i := 2) (by decide +kernel) rfl
theorem in_X4 : Cond.initialized RX4 ∈ lw_all := lw_t1 (i := 3) (by decide +kernel) rfl
theorem in_X2 : Cond.initialized RX2 ∈ lw_all := lw_t1 (i := 4) (by decide +kernel) rfl
theorem in_X8 : Cond.initialized RX8 ∈ lw_all := lw_t1 (i := 5) (by decide +kernel) rfl
theorem in_X5 : Cond.initialized RX5 ∈ lw_all := lw_t1 (i := 6) (by decide +kernel) rfl
theorem in_X1 : Cond.initialized RX1 ∈ lw_all := lw_t1 (i := 7) (by decide +kernel) rfl
theorem in_X10 : Cond.initialized RX10 ∈ lw_all := lw_t1 (i := 8) (by decide +kernel) rfl
theorem in_X0 : Cond.initialized RX0 ∈ lw_all := lw_t1 (i := 9) (by decide +kernel) rfl
theorem in_X7 : Cond.initialized RX7 ∈ lw_all := lw_t1 (i := 10) (by decide +kernel) rfl
theorem in_X6 : Cond.initialized RX6 ∈ lw_all := lw_t1 (i := 11) (by decide +kernel) rfl
theorem in_X9 : Cond.initialized RX9 ∈ lw_all := lw_t1 (i := 12) (by decide +kernel) rfl
theorem in_X12 : Cond.initialized RX12 ∈ lw_all := lw_t1 (i := 13) (by decide +kernel) rfl
theorem in_J9 : Cond.initialized RJ9 ∈ lw_all := lw_t1 (i := 14) (by decide +kernel) rfl
theorem in_J13 : Cond.initialized RJ13 ∈ lw_all := lw_t1 (i := 15) (by decide +kernel) rfl
theorem in_J6 : Cond.initialized RJ6 ∈ lw_all := lw_t1 (i := 16) (by decide +kernel) rfl
theorem in_Jxf58ca : Cond.initialized RJxf58ca ∈ lw_all := lw_t1 (i := 17) (by decide +kernel) rfl
theorem in_J0 : Cond.initialized RJ0 ∈ lw_all := lw_t1 (i := 18) (by decide +kernel) rfl
theorem in_J1 : Cond.initialized RJ1 ∈ lw_all := lw_t1 (i := 19) (by decide +kernel) rfl
theorem in_J3 : Cond.initialized RJ3 ∈ lw_all := lw_t1 (i := 20) (by decide +kernel) rfl
theorem in_J2 : Cond.initialized RJ2 ∈ lw_all := lw_t1 (i := 21) (by decide +kernel) rfl
theorem cl_L_7 : Cond.classLink RL 7 RX11 ∈ lw_all := lw_t1 (i := 22) (by decide +kernel) rfl
theorem ia_X11 : Cond.instantiable RX11 20 ∈ lw_all := lw_t1 (i := 23) (by decide +kernel) rfl
theorem ml_L_9 : Cond.methodLink RL 9 yX11_init ∈ lw_all := lw_t1 (i := 24) (by decide +kernel) rfl
theorem im_X11_init : Cond.instanceMethod yX11_init ∈ lw_all := lw_t1 (i := 25) (by decide +kernel) rfl
theorem co_X11_init : Cond.code yX11_init cX11_init 2 none ∈ lw_all := lw_t1 (i := 26) rfl rfl
theorem ml_X11_1 : Cond.methodLink RX11 1 objectInit ∈ lw_all := lw_t1 (i := 27) (by decide +kernel) rfl
theorem im_objInit : Cond.instanceMethod objectInit ∈ lw_all := lw_t1 (i := 28) (by decide +kernel) rfl
theorem co_objInit : Cond.code objectInit ⟨#[0xb1]⟩ 1 none ∈ lw_all := lw_t1 (i := 29) rfl rfl
theorem cl_X11_20 : Cond.classLink RX11 20 RX3 ∈ lw_all := lw_t1 (i := 30) (by decide +kernel) rfl
theorem ia_X3 : Cond.instantiable RX3 9 ∈ lw_all := lw_t1 (i := 31) (by decide +kernel) rfl
theorem ml_X11_22 : Cond.methodLink RX11 22 yX3_init ∈ lw_all := lw_t1 (i := 32) (by decide +kernel) rfl
theorem im_X3_init : Cond.instanceMethod yX3_init ∈ lw_all := lw_t1 (i := 33) (by decide +kernel) rfl
theorem co_X3_init : Cond.code yX3_init cX3_init 2 none ∈ lw_all := lw_t1 (i := 34) rfl rfl
theorem ml_X3_5 : Cond.methodLink RX3 5 objectInit ∈ lw_all := lw_t1 (i := 35) (by decide +kernel) rfl
theorem fl_X3_30 : Cond.fieldLink RX3 30 "OnlineParts$Program" "size" "I" ∈ lw_all := lw_t1 (i := 36) (by decide +kernel) rfl
theorem fl_X11_138 : Cond.fieldLink RX11 138 "OnlineParts$Program" "size" "I" ∈ lw_all := lw_t1 (i := 37) (by decide +kernel) rfl
theorem fl_X3_34 : Cond.fieldLink RX3 34 "OnlineParts$Program" "things" "I" ∈ lw_all := lw_t1 (i := 38) (by decide +kernel) rfl
theorem fl_X11_169 : Cond.fieldLink RX11 169 "OnlineParts$Program" "things" "I" ∈ lw_all := lw_t1 (i := 39) (by decide +kernel) rfl
theorem fl_X3_37 : Cond.fieldLink RX3 37 "OnlineParts$Program" "stepCount" "I" ∈ lw_all := lw_t1 (i := 40) (by decide +kernel) rfl
theorem fl_X3_11 : Cond.fieldLink RX3 11 "OnlineParts$Program" "about" "[I" ∈ lw_all := lw_t1 (i := 41) (by decide +kernel) rfl
theorem fl_X3_15 : Cond.fieldLink RX3 15 "OnlineParts$Program" "start" "[I" ∈ lw_all := lw_t1 (i := 42) (by decide +kernel) rfl
theorem fl_X3_18 : Cond.fieldLink RX3 18 "OnlineParts$Program" "toldAs" "[I" ∈ lw_all := lw_t1 (i := 43) (by decide +kernel) rfl
theorem fl_X3_21 : Cond.fieldLink RX3 21 "OnlineParts$Program" "step" "[I" ∈ lw_all := lw_t1 (i := 44) (by decide +kernel) rfl
theorem fl_X3_24 : Cond.fieldLink RX3 24 "OnlineParts$Program" "mark" "[I" ∈ lw_all := lw_t1 (i := 45) (by decide +kernel) rfl
theorem fl_X3_27 : Cond.fieldLink RX3 27 "OnlineParts$Program" "bits" "[I" ∈ lw_all := lw_t1 (i := 46) (by decide +kernel) rfl
theorem ac_int : Cond.arrayClass .int ∈ lw_all := lw_t1 (i := 66) (by decide +kernel) rfl
theorem cl_X11_30 : Cond.classLink RX11 30 RX4 ∈ lw_all := lw_t1 (i := 67) (by decide +kernel) rfl
theorem ia_X4 : Cond.instantiable RX4 7 ∈ lw_all := lw_t1 (i := 68) (by decide +kernel) rfl
theorem ml_X11_32 : Cond.methodLink RX11 32 yX4_init ∈ lw_all := lw_t1 (i := 69) (by decide +kernel) rfl
theorem im_X4_init : Cond.instanceMethod yX4_init ∈ lw_all := lw_t1 (i := 70) (by decide +kernel) rfl
theorem co_X4_init : Cond.code yX4_init cX4_init 3 none ∈ lw_all := lw_t1 (i := 71) rfl rfl
theorem ml_X4_3 : Cond.methodLink RX4 3 objectInit ∈ lw_all := lw_t1 (i := 72) (by decide +kernel) rfl
theorem fl_X4_9 : Cond.fieldLink RX4 9 "OnlineParts$Reader" "tape" "[I" ∈ lw_all := lw_t1 (i := 73) (by decide +kernel) rfl
theorem fl_X4_15 : Cond.fieldLink RX4 15 "OnlineParts$Reader" "size" "I" ∈ lw_all := lw_t1 (i := 74) (by decide +kernel) rfl
theorem fl_X4_19 : Cond.fieldLink RX4 19 "OnlineParts$Reader" "at" "I" ∈ lw_all := lw_t1 (i := 75) (by decide +kernel) rfl
theorem fl_X4_22 : Cond.fieldLink RX4 22 "OnlineParts$Reader" "bad" "I" ∈ lw_all := lw_t1 (i := 76) (by decide +kernel) rfl
theorem fl_X4_25 : Cond.fieldLink RX4 25 "OnlineParts$Reader" "into" "LOnlineParts$Program;" ∈ lw_all := lw_t1 (i := 77) (by decide +kernel) rfl
theorem fl_X4_31 : Cond.fieldLink RX4 31 "OnlineParts$Reader" "names" "[I" ∈ lw_all := lw_t1 (i := 78) (by decide +kernel) rfl
theorem fl_X4_34 : Cond.fieldLink RX4 34 "OnlineParts$Reader" "nameCount" "I" ∈ lw_all := lw_t1 (i := 79) (by decide +kernel) rfl
theorem cl_X11_39 : Cond.classLink RX11 39 RX2 ∈ lw_all := lw_t1 (i := 95) (by decide +kernel) rfl
theorem ia_X2 : Cond.instantiable RX2 4 ∈ lw_all := lw_t1 (i := 96) (by decide +kernel) rfl
theorem ml_X11_41 : Cond.methodLink RX11 41 yX2_init ∈ lw_all := lw_t1 (i := 97) (by decide +kernel) rfl
theorem im_X2_init : Cond.instanceMethod yX2_init ∈ lw_all := lw_t1 (i := 98) (by decide +kernel) rfl
theorem co_X2_init : Cond.code yX2_init cX2_init 2 none ∈ lw_all := lw_t1 (i := 99) rfl rfl
theorem ml_X2_3 : Cond.methodLink RX2 3 objectInit ∈ lw_all := lw_t1 (i := 100) (by decide +kernel) rfl
theorem fl_X2_9 : Cond.fieldLink RX2 9 "OnlineParts$Pattern" "row" "[J" ∈ lw_all := lw_t1 (i := 101) (by decide +kernel) rfl
theorem fl_X9_71 : Cond.fieldLink RX9 71 "OnlineParts$Pattern" "row" "[J" ∈ lw_all := lw_t1 (i := 102) (by decide +kernel) rfl
theorem fl_X8_103 : Cond.fieldLink RX8 103 "OnlineParts$Pattern" "row" "[J" ∈ lw_all := lw_t1 (i := 103) (by decide +kernel) rfl
theorem fl_X10_354 : Cond.fieldLink RX10 354 "OnlineParts$Pattern" "row" "[J" ∈ lw_all := lw_t1 (i := 104) (by decide +kernel) rfl
theorem fl_X2_15 : Cond.fieldLink RX2 15 "OnlineParts$Pattern" "standing" "[J" ∈ lw_all := lw_t1 (i := 105) (by decide +kernel) rfl
theorem fl_X10_359 : Cond.fieldLink RX10 359 "OnlineParts$Pattern" "standing" "[J" ∈ lw_all := lw_t1 (i := 106) (by decide +kernel) rfl
theorem fl_X2_18 : Cond.fieldLink RX2 18 "OnlineParts$Pattern" "size" "I" ∈ lw_all := lw_t1 (i := 107) (by decide +kernel) rfl
theorem fl_X9_65 : Cond.fieldLink RX9 65 "OnlineParts$Pattern" "size" "I" ∈ lw_all := lw_t1 (i := 108) (by decide +kernel) rfl
theorem fl_X11_233 : Cond.fieldLink RX11 233 "OnlineParts$Pattern" "size" "I" ∈ lw_all := lw_t1 (i := 109) (by decide +kernel) rfl
theorem fl_X8_102 : Cond.fieldLink RX8 102 "OnlineParts$Pattern" "size" "I" ∈ lw_all := lw_t1 (i := 110) (by decide +kernel) rfl
theorem fl_X10_351 : Cond.fieldLink RX10 351 "OnlineParts$Pattern" "size" "I" ∈ lw_all := lw_t1 (i := 111) (by decide +kernel) rfl
theorem fl_X4_180 : Cond.fieldLink RX4 180 "OnlineParts$Pattern" "size" "I" ∈ lw_all := lw_t1 (i := 112) (by decide +kernel) rfl
theorem fl_X2_22 : Cond.fieldLink RX2 22 "OnlineParts$Pattern" "key" "I" ∈ lw_all := lw_t1 (i := 113) (by decide +kernel) rfl
theorem fl_X7_61 : Cond.fieldLink RX7 61 "OnlineParts$Pattern" "key" "I" ∈ lw_all := lw_t1 (i := 114) (by decide +kernel) rfl
theorem fl_X10_76 : Cond.fieldLink RX10 76 "OnlineParts$Pattern" "key" "I" ∈ lw_all := lw_t1 (i := 115) (by decide +kernel) rfl
theorem fl_X9_60 : Cond.fieldLink RX9 60 "OnlineParts$Pattern" "key" "I" ∈ lw_all := lw_t1 (i := 116) (by decide +kernel) rfl
theorem fl_X5_76 : Cond.fieldLink RX5 76 "OnlineParts$Pattern" "key" "I" ∈ lw_all := lw_t1 (i := 117) (by decide +kernel) rfl
theorem fl_X4_174 : Cond.fieldLink RX4 174 "OnlineParts$Pattern" "key" "I" ∈ lw_all := lw_t1 (i := 118) (by decide +kernel) rfl
theorem ac_long : Cond.arrayClass .long ∈ lw_all := lw_t1 (i := 128) (by decide +kernel) rfl
theorem cl_X11_61 : Cond.classLink RX11 61 RX8 ∈ lw_all := lw_t1 (i := 129) (by decide +kernel) rfl
theorem ia_X8 : Cond.instantiable RX8 11 ∈ lw_all := lw_t1 (i := 130) (by decide +kernel) rfl
theorem ml_X11_63 : Cond.methodLink RX11 63 yX8_init ∈ lw_all := lw_t1 (i := 131) (by decide +kernel) rfl
theorem im_X8_init : Cond.instanceMethod yX8_init ∈ lw_all := lw_t1 (i := 132) (by decide +kernel) rfl
theorem co_X8_init : Cond.code yX8_init cX8_init 1 none ∈ lw_all := lw_t1 (i := 133) rfl rfl
theorem ml_X8_5 : Cond.methodLink RX8 5 objectInit ∈ lw_all := lw_t1 (i := 134) (by decide +kernel) rfl
theorem fl_X8_13 : Cond.fieldLink RX8 13 "OnlineParts$Store" "first" "[J" ∈ lw_all := lw_t1 (i := 135) (by decide +kernel) rfl
theorem fl_X8_17 : Cond.fieldLink RX8 17 "OnlineParts$Store" "second" "[J" ∈ lw_all := lw_t1 (i := 136) (by decide +kernel) rfl
theorem fl_X8_20 : Cond.fieldLink RX8 20 "OnlineParts$Store" "weight" "[I" ∈ lw_all := lw_t1 (i := 137) (by decide +kernel) rfl
theorem fl_X8_24 : Cond.fieldLink RX8 24 "OnlineParts$Store" "deep" "[I" ∈ lw_all := lw_t1 (i := 138) (by decide +kernel) rfl
theorem fl_X8_29 : Cond.fieldLink RX8 29 "OnlineParts$Store" "pile" "[J" ∈ lw_all := lw_t1 (i := 139) (by decide +kernel) rfl
theorem fl_X8_41 : Cond.fieldLink RX8 41 "OnlineParts$Store" "size" "I" ∈ lw_all := lw_t1 (i := 140) (by decide +kernel) rfl
theorem fl_X8_32 : Cond.fieldLink RX8 32 "OnlineParts$Store" "stack" "[J" ∈ lw_all := lw_t1 (i := 141) (by decide +kernel) rfl
theorem fl_X8_45 : Cond.fieldLink RX8 45 "OnlineParts$Store" "top" "I" ∈ lw_all := lw_t1 (i := 142) (by decide +kernel) rfl
theorem fl_X8_35 : Cond.fieldLink RX8 35 "OnlineParts$Store" "vars" "[J" ∈ lw_all := lw_t1 (i := 143) (by decide +kernel) rfl
theorem fl_X8_38 : Cond.fieldLink RX8 38 "OnlineParts$Store" "back" "[I" ∈ lw_all := lw_t1 (i := 144) (by decide +kernel) rfl
theorem fl_X8_48 : Cond.fieldLink RX8 48 "OnlineParts$Store" "depth" "I" ∈ lw_all := lw_t1 (i := 145) (by decide +kernel) rfl
theorem fl_X7_176 : Cond.fieldLink RX7 176 "OnlineParts$Store" "depth" "I" ∈ lw_all := lw_t1 (i := 146) (by decide +kernel) rfl
theorem fl_X10_298 : Cond.fieldLink RX10 298 "OnlineParts$Store" "depth" "I" ∈ lw_all := lw_t1 (i := 147) (by decide +kernel) rfl
theorem cl_X11_64 : Cond.classLink RX11 64 RX5 ∈ lw_all := lw_t1 (i := 171) (by decide +kernel) rfl
theorem ia_X5 : Cond.instantiable RX5 14 ∈ lw_all := lw_t1 (i := 172) (by decide +kernel) rfl
theorem ml_X11_66 : Cond.methodLink RX11 66 yX5_init ∈ lw_all := lw_t1 (i := 173) (by decide +kernel) rfl
theorem im_X5_init : Cond.instanceMethod yX5_init ∈ lw_all := lw_t1 (i := 174) (by decide +kernel) rfl
theorem co_X5_init : Cond.code yX5_init cX5_init 2 none ∈ lw_all := lw_t1 (i := 175) rfl rfl
theorem ml_X5_5 : Cond.methodLink RX5 5 objectInit ∈ lw_all := lw_t1 (i := 176) (by decide +kernel) rfl
theorem cl_X5_31 : Cond.classLink RX5 31 RX2 ∈ lw_all := lw_t1 (i := 177) (by decide +kernel) rfl
theorem ml_X5_37 : Cond.methodLink RX5 37 yX2_init ∈ lw_all := lw_t1 (i := 179) (by decide +kernel) rfl
theorem fl_X5_40 : Cond.fieldLink RX5 40 "OnlineParts$Residue" "there" "Z" ∈ lw_all := lw_t1 (i := 180) (by decide +kernel) rfl
theorem fl_X10_96 : Cond.fieldLink RX10 96 "OnlineParts$Residue" "there" "Z" ∈ lw_all := lw_t1 (i := 181) (by decide +kernel) rfl
theorem fl_X11_224 : Cond.fieldLink RX11 224 "OnlineParts$Residue" "there" "Z" ∈ lw_all := lw_t1 (i := 182) (by decide +kernel) rfl
theorem fl_X5_44 : Cond.fieldLink RX5 44 "OnlineParts$Residue" "count" "I" ∈ lw_all := lw_t1 (i := 183) (by decide +kernel) rfl
theorem fl_X10_286 : Cond.fieldLink RX10 286 "OnlineParts$Residue" "count" "I" ∈ lw_all := lw_t1 (i := 184) (by decide +kernel) rfl
theorem fl_X5_48 : Cond.fieldLink RX5 48 "OnlineParts$Residue" "variants" "I" ∈ lw_all := lw_t1 (i := 185) (by decide +kernel) rfl
theorem fl_X10_95 : Cond.fieldLink RX10 95 "OnlineParts$Residue" "variants" "I" ∈ lw_all := lw_t1 (i := 186) (by decide +kernel) rfl
theorem fl_X5_51 : Cond.fieldLink RX5 51 "OnlineParts$Residue" "unrolled" "I" ∈ lw_all := lw_t1 (i := 187) (by decide +kernel) rfl
theorem fl_X10_301 : Cond.fieldLink RX10 301 "OnlineParts$Residue" "unrolled" "I" ∈ lw_all := lw_t1 (i := 188) (by decide +kernel) rfl
theorem fl_X5_54 : Cond.fieldLink RX5 54 "OnlineParts$Residue" "grown" "I" ∈ lw_all := lw_t1 (i := 189) (by decide +kernel) rfl
theorem fl_X10_314 : Cond.fieldLink RX10 314 "OnlineParts$Residue" "grown" "I" ∈ lw_all := lw_t1 (i := 190) (by decide +kernel) rfl
theorem fl_X5_57 : Cond.fieldLink RX5 57 "OnlineParts$Residue" "letGo" "I" ∈ lw_all := lw_t1 (i := 191) (by decide +kernel) rfl
theorem fl_X10_335 : Cond.fieldLink RX10 335 "OnlineParts$Residue" "letGo" "I" ∈ lw_all := lw_t1 (i := 192) (by decide +kernel) rfl
theorem fl_X5_60 : Cond.fieldLink RX5 60 "OnlineParts$Residue" "blocks" "I" ∈ lw_all := lw_t1 (i := 193) (by decide +kernel) rfl
theorem fl_X5_11 : Cond.fieldLink RX5 11 "OnlineParts$Residue" "cells" "[I" ∈ lw_all := lw_t1 (i := 194) (by decide +kernel) rfl
theorem fl_X5_15 : Cond.fieldLink RX5 15 "OnlineParts$Residue" "operands" "[J" ∈ lw_all := lw_t1 (i := 195) (by decide +kernel) rfl
theorem fl_X5_19 : Cond.fieldLink RX5 19 "OnlineParts$Residue" "blockFirst" "[I" ∈ lw_all := lw_t1 (i := 196) (by decide +kernel) rfl
theorem fl_X5_22 : Cond.fieldLink RX5 22 "OnlineParts$Residue" "blockLast" "[I" ∈ lw_all := lw_t1 (i := 197) (by decide +kernel) rfl
theorem fl_X5_25 : Cond.fieldLink RX5 25 "OnlineParts$Residue" "blockEnd" "[J" ∈ lw_all := lw_t1 (i := 198) (by decide +kernel) rfl
theorem fl_X5_28 : Cond.fieldLink RX5 28 "OnlineParts$Residue" "variantCells" "[I" ∈ lw_all := lw_t1 (i := 199) (by decide +kernel) rfl
theorem fl_X5_33 : Cond.fieldLink RX5 33 "OnlineParts$Residue" "patterns" "[LOnlineParts$Pattern;" ∈ lw_all := lw_t1 (i := 200) (by decide +kernel) rfl
theorem cl_X11_71 : Cond.classLink RX11 71 RX1 ∈ lw_all := lw_t1 (i := 230) (by decide +kernel) rfl
theorem ia_X1 : Cond.instantiable RX1 10 ∈ lw_all := lw_t1 (i := 231) (by decide +kernel) rfl
theorem ml_X11_73 : Cond.methodLink RX11 73 yX1_init ∈ lw_all := lw_t1 (i := 232) (by decide +kernel) rfl
theorem im_X1_init : Cond.instanceMethod yX1_init ∈ lw_all := lw_t1 (i := 233) (by decide +kernel) rfl
theorem co_X1_init : Cond.code yX1_init cX1_init 1 none ∈ lw_all := lw_t1 (i := 234) rfl rfl
theorem ml_X1_3 : Cond.methodLink RX1 3 objectInit ∈ lw_all := lw_t1 (i := 235) (by decide +kernel) rfl
theorem cl_X1_19 : Cond.classLink RX1 19 RX2 ∈ lw_all := lw_t1 (i := 236) (by decide +kernel) rfl
theorem ml_X1_21 : Cond.methodLink RX1 21 yX2_init ∈ lw_all := lw_t1 (i := 237) (by decide +kernel) rfl
theorem ml_X1_28 : Cond.methodLink RX1 28 yX1_begin ∈ lw_all := lw_t1 (i := 238) (by decide +kernel) rfl
theorem im_X1_begin : Cond.instanceMethod yX1_begin ∈ lw_all := lw_t2 (i := 0) (by decide +kernel) rfl
theorem co_X1_begin : Cond.code yX1_begin cX1_begin 2 none ∈ lw_all := lw_t2 (i := 1) rfl rfl
theorem ml_X1_53 : Cond.methodLink RX1 53 yX2_begin ∈ lw_all := lw_t2 (i := 2) (by decide +kernel) rfl
theorem im_X2_begin : Cond.instanceMethod yX2_begin ∈ lw_all := lw_t2 (i := 3) (by decide +kernel) rfl
theorem se_X2_begin : Cond.selects RX2 yX2_begin yX2_begin ∈ lw_all := lw_t2 (i := 4) (by decide +kernel) rfl
theorem co_X2_begin : Cond.code yX2_begin cX2_begin 2 none ∈ lw_all := lw_t2 (i := 5) rfl rfl
theorem fl_X1_31 : Cond.fieldLink RX1 31 "OnlineParts$Outcome" "end" "I" ∈ lw_all := lw_t2 (i := 6) (by decide +kernel) rfl
theorem fl_X7_54 : Cond.fieldLink RX7 54 "OnlineParts$Outcome" "end" "I" ∈ lw_all := lw_t2 (i := 7) (by decide +kernel) rfl
theorem fl_X6_166 : Cond.fieldLink RX6 166 "OnlineParts$Outcome" "end" "I" ∈ lw_all := lw_t2 (i := 8) (by decide +kernel) rfl
theorem fl_X11_214 : Cond.fieldLink RX11 214 "OnlineParts$Outcome" "end" "I" ∈ lw_all := lw_t2 (i := 9) (by decide +kernel) rfl
theorem fl_X1_35 : Cond.fieldLink RX1 35 "OnlineParts$Outcome" "calls" "I" ∈ lw_all := lw_t2 (i := 10) (by decide +kernel) rfl
theorem fl_X11_252 : Cond.fieldLink RX11 252 "OnlineParts$Outcome" "calls" "I" ∈ lw_all := lw_t2 (i := 11) (by decide +kernel) rfl
theorem fl_X1_38 : Cond.fieldLink RX1 38 "OnlineParts$Outcome" "depth" "I" ∈ lw_all := lw_t2 (i := 12) (by decide +kernel) rfl
theorem fl_X1_41 : Cond.fieldLink RX1 41 "OnlineParts$Outcome" "most" "I" ∈ lw_all := lw_t2 (i := 13) (by decide +kernel) rfl
theorem fl_X1_44 : Cond.fieldLink RX1 44 "OnlineParts$Outcome" "written" "I" ∈ lw_all := lw_t2 (i := 14) (by decide +kernel) rfl
theorem fl_X1_47 : Cond.fieldLink RX1 47 "OnlineParts$Outcome" "weight" "I" ∈ lw_all := lw_t2 (i := 15) (by decide +kernel) rfl
theorem fl_X1_50 : Cond.fieldLink RX1 50 "OnlineParts$Outcome" "deep" "I" ∈ lw_all := lw_t2 (i := 16) (by decide +kernel) rfl
theorem fl_X1_11 : Cond.fieldLink RX1 11 "OnlineParts$Outcome" "kept" "[J" ∈ lw_all := lw_t2 (i := 17) (by decide +kernel) rfl
theorem fl_X1_15 : Cond.fieldLink RX1 15 "OnlineParts$Outcome" "places" "[I" ∈ lw_all := lw_t2 (i := 18) (by decide +kernel) rfl
theorem fl_X1_24 : Cond.fieldLink RX1 24 "OnlineParts$Outcome" "value" "LOnlineParts$Pattern;" ∈ lw_all := lw_t2 (i := 19) (by decide +kernel) rfl
theorem fl_X11_217 : Cond.fieldLink RX11 217 "OnlineParts$Outcome" "value" "LOnlineParts$Pattern;" ∈ lw_all := lw_t2 (i := 20) (by decide +kernel) rfl
theorem cl_X11_78 : Cond.classLink RX11 78 RX10 ∈ lw_all := lw_t2 (i := 42) (by decide +kernel) rfl
theorem ia_X10 : Cond.instantiable RX10 18 ∈ lw_all := lw_t2 (i := 43) (by decide +kernel) rfl
theorem ml_X11_80 : Cond.methodLink RX11 80 yX10_init ∈ lw_all := lw_t2 (i := 44) (by decide +kernel) rfl
theorem im_X10_init : Cond.instanceMethod yX10_init ∈ lw_all := lw_t2 (i := 45) (by decide +kernel) rfl
theorem co_X10_init : Cond.code yX10_init cX10_init 5 none ∈ lw_all := lw_t2 (i := 46) rfl rfl
theorem ml_X10_5 : Cond.methodLink RX10 5 objectInit ∈ lw_all := lw_t2 (i := 47) (by decide +kernel) rfl
theorem cl_X10_41 : Cond.classLink RX10 41 RX2 ∈ lw_all := lw_t2 (i := 48) (by decide +kernel) rfl
theorem ml_X10_43 : Cond.methodLink RX10 43 yX2_init ∈ lw_all := lw_t2 (i := 49) (by decide +kernel) rfl
theorem ml_X10_63 : Cond.methodLink RX10 63 yX0_make ∈ lw_all := lw_t2 (i := 50) (by decide +kernel) rfl
theorem st_X0_make : Cond.static yX0_make ∈ lw_all := lw_t2 (i := 51) (by decide +kernel) rfl
theorem co_X0_make : Cond.code yX0_make cX0_make 2 (some .long) ∈ lw_all := lw_t2 (i := 52) rfl rfl
theorem cs_X0_7 : Cond.constantLong RX0 7 (4294967295) ∈ lw_all := lw_t2 (i := 53) (by decide +kernel) rfl
theorem fl_X10_11 : Cond.fieldLink RX10 11 "OnlineParts$Worker" "unroll" "I" ∈ lw_all := lw_t2 (i := 54) (by decide +kernel) rfl
theorem fl_X11_160 : Cond.fieldLink RX11 160 "OnlineParts$Worker" "unroll" "I" ∈ lw_all := lw_t2 (i := 55) (by decide +kernel) rfl
theorem fl_X10_15 : Cond.fieldLink RX10 15 "OnlineParts$Worker" "variants" "I" ∈ lw_all := lw_t2 (i := 56) (by decide +kernel) rfl
theorem fl_X11_163 : Cond.fieldLink RX11 163 "OnlineParts$Worker" "variants" "I" ∈ lw_all := lw_t2 (i := 57) (by decide +kernel) rfl
theorem fl_X10_18 : Cond.fieldLink RX10 18 "OnlineParts$Worker" "budget" "I" ∈ lw_all := lw_t2 (i := 58) (by decide +kernel) rfl
theorem fl_X11_166 : Cond.fieldLink RX11 166 "OnlineParts$Worker" "budget" "I" ∈ lw_all := lw_t2 (i := 59) (by decide +kernel) rfl
theorem fl_X10_21 : Cond.fieldLink RX10 21 "OnlineParts$Worker" "store" "LOnlineParts$Store;" ∈ lw_all := lw_t2 (i := 60) (by decide +kernel) rfl
theorem fl_X10_25 : Cond.fieldLink RX10 25 "OnlineParts$Worker" "left" "LOnlineParts$Residue;" ∈ lw_all := lw_t2 (i := 61) (by decide +kernel) rfl
theorem fl_X10_29 : Cond.fieldLink RX10 29 "OnlineParts$Worker" "program" "LOnlineParts$Program;" ∈ lw_all := lw_t2 (i := 62) (by decide +kernel) rfl
theorem fl_X10_70 : Cond.fieldLink RX10 70 "OnlineParts$Worker" "broken" "I" ∈ lw_all := lw_t2 (i := 63) (by decide +kernel) rfl
theorem fl_X10_92 : Cond.fieldLink RX10 92 "OnlineParts$Worker" "variant" "I" ∈ lw_all := lw_t2 (i := 64) (by decide +kernel) rfl
theorem fl_X10_108 : Cond.fieldLink RX10 108 "OnlineParts$Worker" "block" "I" ∈ lw_all := lw_t2 (i := 65) (by decide +kernel) rfl
theorem fl_X10_73 : Cond.fieldLink RX10 73 "OnlineParts$Worker" "at" "I" ∈ lw_all := lw_t2 (i := 66) (by decide +kernel) rfl
theorem fl_X10_33 : Cond.fieldLink RX10 33 "OnlineParts$Worker" "branches" "[I" ∈ lw_all := lw_t2 (i := 67) (by decide +kernel) rfl
theorem fl_X10_37 : Cond.fieldLink RX10 37 "OnlineParts$Worker" "conditions" "[J" ∈ lw_all := lw_t2 (i := 68) (by decide +kernel) rfl
theorem fl_X10_118 : Cond.fieldLink RX10 118 "OnlineParts$Worker" "branchCount" "I" ∈ lw_all := lw_t2 (i := 69) (by decide +kernel) rfl
theorem fl_X10_121 : Cond.fieldLink RX10 121 "OnlineParts$Worker" "openBlocks" "I" ∈ lw_all := lw_t2 (i := 70) (by decide +kernel) rfl
theorem fl_X10_46 : Cond.fieldLink RX10 46 "OnlineParts$Worker" "call" "LOnlineParts$Pattern;" ∈ lw_all := lw_t2 (i := 71) (by decide +kernel) rfl
theorem fl_X10_50 : Cond.fieldLink RX10 50 "OnlineParts$Worker" "spare" "LOnlineParts$Pattern;" ∈ lw_all := lw_t2 (i := 72) (by decide +kernel) rfl
theorem fl_X10_55 : Cond.fieldLink RX10 55 "OnlineParts$Worker" "leaves" "[J" ∈ lw_all := lw_t2 (i := 73) (by decide +kernel) rfl
theorem fl_X10_58 : Cond.fieldLink RX10 58 "OnlineParts$Worker" "symbols" "[J" ∈ lw_all := lw_t2 (i := 74) (by decide +kernel) rfl
theorem cl_X11_87 : Cond.classLink RX11 87 RX7 ∈ lw_all := lw_t2 (i := 112) (by decide +kernel) rfl
theorem ia_X7 : Cond.instantiable RX7 6 ∈ lw_all := lw_t2 (i := 113) (by decide +kernel) rfl
theorem ml_X11_89 : Cond.methodLink RX11 89 yX7_init ∈ lw_all := lw_t2 (i := 114) (by decide +kernel) rfl
theorem im_X7_init : Cond.instanceMethod yX7_init ∈ lw_all := lw_t2 (i := 115) (by decide +kernel) rfl
theorem co_X7_init : Cond.code yX7_init cX7_init 4 none ∈ lw_all := lw_t2 (i := 116) rfl rfl
theorem ml_X7_3 : Cond.methodLink RX7 3 objectInit ∈ lw_all := lw_t2 (i := 117) (by decide +kernel) rfl
theorem fl_X7_9 : Cond.fieldLink RX7 9 "OnlineParts$SourceRun" "store" "LOnlineParts$Store;" ∈ lw_all := lw_t2 (i := 118) (by decide +kernel) rfl
theorem fl_X7_17 : Cond.fieldLink RX7 17 "OnlineParts$SourceRun" "leaves" "[J" ∈ lw_all := lw_t2 (i := 119) (by decide +kernel) rfl
theorem fl_X7_23 : Cond.fieldLink RX7 23 "OnlineParts$SourceRun" "arguments" "[J" ∈ lw_all := lw_t2 (i := 120) (by decide +kernel) rfl
theorem fl_X7_26 : Cond.fieldLink RX7 26 "OnlineParts$SourceRun" "program" "LOnlineParts$Program;" ∈ lw_all := lw_t2 (i := 121) (by decide +kernel) rfl
theorem fl_X7_30 : Cond.fieldLink RX7 30 "OnlineParts$SourceRun" "out" "LOnlineParts$Outcome;" ∈ lw_all := lw_t2 (i := 122) (by decide +kernel) rfl
theorem fl_X7_34 : Cond.fieldLink RX7 34 "OnlineParts$SourceRun" "at" "I" ∈ lw_all := lw_t2 (i := 123) (by decide +kernel) rfl
theorem cl_X11_96 : Cond.classLink RX11 96 RX6 ∈ lw_all := lw_t2 (i := 137) (by decide +kernel) rfl
theorem ia_X6 : Cond.instantiable RX6 9 ∈ lw_all := lw_t2 (i := 138) (by decide +kernel) rfl
theorem ml_X11_98 : Cond.methodLink RX11 98 yX6_init ∈ lw_all := lw_t2 (i := 139) (by decide +kernel) rfl
theorem im_X6_init : Cond.instanceMethod yX6_init ∈ lw_all := lw_t2 (i := 140) (by decide +kernel) rfl
theorem co_X6_init : Cond.code yX6_init cX6_init 4 none ∈ lw_all := lw_t2 (i := 141) rfl rfl
theorem ml_X6_7 : Cond.methodLink RX6 7 objectInit ∈ lw_all := lw_t2 (i := 142) (by decide +kernel) rfl
theorem fl_X6_13 : Cond.fieldLink RX6 13 "OnlineParts$ResidueRun" "store" "LOnlineParts$Store;" ∈ lw_all := lw_t2 (i := 143) (by decide +kernel) rfl
theorem fl_X6_19 : Cond.fieldLink RX6 19 "OnlineParts$ResidueRun" "registers" "[J" ∈ lw_all := lw_t2 (i := 144) (by decide +kernel) rfl
theorem fl_X6_23 : Cond.fieldLink RX6 23 "OnlineParts$ResidueRun" "leaves" "[J" ∈ lw_all := lw_t2 (i := 145) (by decide +kernel) rfl
theorem fl_X6_26 : Cond.fieldLink RX6 26 "OnlineParts$ResidueRun" "openBlock" "[I" ∈ lw_all := lw_t2 (i := 146) (by decide +kernel) rfl
theorem fl_X6_30 : Cond.fieldLink RX6 30 "OnlineParts$ResidueRun" "openAt" "[I" ∈ lw_all := lw_t2 (i := 147) (by decide +kernel) rfl
theorem fl_X6_41 : Cond.fieldLink RX6 41 "OnlineParts$ResidueRun" "open" "I" ∈ lw_all := lw_t2 (i := 148) (by decide +kernel) rfl
theorem fl_X6_45 : Cond.fieldLink RX6 45 "OnlineParts$ResidueRun" "base" "I" ∈ lw_all := lw_t2 (i := 149) (by decide +kernel) rfl
theorem fl_X6_33 : Cond.fieldLink RX6 33 "OnlineParts$ResidueRun" "code" "LOnlineParts$Residue;" ∈ lw_all := lw_t2 (i := 150) (by decide +kernel) rfl
theorem fl_X6_37 : Cond.fieldLink RX6 37 "OnlineParts$ResidueRun" "out" "LOnlineParts$Outcome;" ∈ lw_all := lw_t2 (i := 151) (by decide +kernel) rfl
theorem cl_X11_114 : Cond.classLink RX11 114 RX9 ∈ lw_all := lw_t2 (i := 171) (by decide +kernel) rfl
theorem ia_X9 : Cond.instantiable RX9 2 ∈ lw_all := lw_t2 (i := 172) (by decide +kernel) rfl
theorem ml_X11_116 : Cond.methodLink RX11 116 yX9_init ∈ lw_all := lw_t2 (i := 173) (by decide +kernel) rfl
theorem im_X9_init : Cond.instanceMethod yX9_init ∈ lw_all := lw_t2 (i := 174) (by decide +kernel) rfl
theorem co_X9_init : Cond.code yX9_init cX9_init 1 none ∈ lw_all := lw_t2 (i := 175) rfl rfl
theorem ml_X9_3 : Cond.methodLink RX9 3 objectInit ∈ lw_all := lw_t2 (i := 176) (by decide +kernel) rfl
theorem cs_X9_11 : Cond.constant RX9 11 (40000) ∈ lw_all := lw_t2 (i := 177) (by decide +kernel) rfl
theorem fl_X9_12 : Cond.fieldLink RX9 12 "OnlineParts$Text" "bytes" "[B" ∈ lw_all := lw_t2 (i := 178) (by decide +kernel) rfl
theorem fl_X9_16 : Cond.fieldLink RX9 16 "OnlineParts$Text" "size" "I" ∈ lw_all := lw_t2 (i := 179) (by decide +kernel) rfl
theorem ac_byte : Cond.arrayClass .byte ∈ lw_all := lw_t2 (i := 185) (by decide +kernel) rfl
theorem fl_X11_9 : Cond.fieldLink RX11 9 "OnlineParts" "tape" "[I" ∈ lw_all := lw_t2 (i := 186) (by decide +kernel) rfl
theorem fl_X11_13 : Cond.fieldLink RX11 13 "OnlineParts" "tapeSize" "I" ∈ lw_all := lw_t2 (i := 187) (by decide +kernel) rfl
theorem fl_X11_17 : Cond.fieldLink RX11 17 "OnlineParts" "faultAt" "I" ∈ lw_all := lw_t2 (i := 188) (by decide +kernel) rfl
theorem fl_X11_35 : Cond.fieldLink RX11 35 "OnlineParts" "reader" "LOnlineParts$Reader;" ∈ lw_all := lw_t2 (i := 189) (by decide +kernel) rfl
theorem fl_X11_23 : Cond.fieldLink RX11 23 "OnlineParts" "functions" "LOnlineParts$Program;" ∈ lw_all := lw_t2 (i := 190) (by decide +kernel) rfl
theorem fl_X11_27 : Cond.fieldLink RX11 27 "OnlineParts" "spareFunctions" "LOnlineParts$Program;" ∈ lw_all := lw_t2 (i := 191) (by decide +kernel) rfl
theorem fl_X11_44 : Cond.fieldLink RX11 44 "OnlineParts" "asked" "LOnlineParts$Pattern;" ∈ lw_all := lw_t2 (i := 192) (by decide +kernel) rfl
theorem fl_X11_48 : Cond.fieldLink RX11 48 "OnlineParts" "spareAsked" "LOnlineParts$Pattern;" ∈ lw_all := lw_t2 (i := 193) (by decide +kernel) rfl
theorem fl_X11_51 : Cond.fieldLink RX11 51 "OnlineParts" "told" "LOnlineParts$Pattern;" ∈ lw_all := lw_t2 (i := 194) (by decide +kernel) rfl
theorem fl_X11_54 : Cond.fieldLink RX11 54 "OnlineParts" "spareTold" "LOnlineParts$Pattern;" ∈ lw_all := lw_t2 (i := 195) (by decide +kernel) rfl
theorem fl_X11_57 : Cond.fieldLink RX11 57 "OnlineParts" "areTold" "Z" ∈ lw_all := lw_t2 (i := 196) (by decide +kernel) rfl
theorem fl_X11_83 : Cond.fieldLink RX11 83 "OnlineParts" "worker" "LOnlineParts$Worker;" ∈ lw_all := lw_t2 (i := 197) (by decide +kernel) rfl
theorem fl_X11_67 : Cond.fieldLink RX11 67 "OnlineParts" "left" "LOnlineParts$Residue;" ∈ lw_all := lw_t2 (i := 198) (by decide +kernel) rfl
theorem fl_X11_92 : Cond.fieldLink RX11 92 "OnlineParts" "sourceRun" "LOnlineParts$SourceRun;" ∈ lw_all := lw_t2 (i := 199) (by decide +kernel) rfl
theorem fl_X11_101 : Cond.fieldLink RX11 101 "OnlineParts" "residueRun" "LOnlineParts$ResidueRun;" ∈ lw_all := lw_t2 (i := 200) (by decide +kernel) rfl
theorem fl_X11_74 : Cond.fieldLink RX11 74 "OnlineParts" "latest" "LOnlineParts$Outcome;" ∈ lw_all := lw_t2 (i := 201) (by decide +kernel) rfl
theorem fl_X11_105 : Cond.fieldLink RX11 105 "OnlineParts" "ofSource" "LOnlineParts$Outcome;" ∈ lw_all := lw_t2 (i := 202) (by decide +kernel) rfl
theorem fl_X11_108 : Cond.fieldLink RX11 108 "OnlineParts" "ofResidue" "LOnlineParts$Outcome;" ∈ lw_all := lw_t2 (i := 203) (by decide +kernel) rfl
theorem fl_X11_111 : Cond.fieldLink RX11 111 "OnlineParts" "shown" "LOnlineParts$Pattern;" ∈ lw_all := lw_t2 (i := 204) (by decide +kernel) rfl
theorem fl_X11_117 : Cond.fieldLink RX11 117 "OnlineParts" "text" "LOnlineParts$Text;" ∈ lw_all := lw_t2 (i := 205) (by decide +kernel) rfl
theorem ml_L_13 : Cond.methodLink RL 13 yX11_feed ∈ lw_all := lw_t3 (i := 7) (by decide +kernel) rfl
theorem im_X11_feed : Cond.instanceMethod yX11_feed ∈ lw_all := lw_t3 (i := 8) (by decide +kernel) rfl
theorem se_X11_feed : Cond.selects RX11 yX11_feed yX11_feed ∈ lw_all := lw_t3 (i := 9) (by decide +kernel) rfl
theorem co_X11_feed : Cond.code yX11_feed cX11_feed 6 (some .int) ∈ lw_all := lw_t3 (i := 10) rfl rfl
theorem ml_X11_121 : Cond.methodLink RX11 121 yX11_feedFour ∈ lw_all := lw_t3 (i := 11) (by decide +kernel) rfl
theorem im_X11_feedFour : Cond.instanceMethod yX11_feedFour ∈ lw_all := lw_t3 (i := 13) (by decide +kernel) rfl
theorem co_X11_feedFour : Cond.code yX11_feedFour cX11_feedFour 3 none ∈ lw_all := lw_t3 (i := 14) rfl rfl
theorem ml_L_18 : Cond.methodLink RL 18 yX11_end ∈ lw_all := lw_t3 (i := 15) (by decide +kernel) rfl
theorem im_X11_end : Cond.instanceMethod yX11_end ∈ lw_all := lw_t3 (i := 16) (by decide +kernel) rfl
theorem se_X11_end : Cond.selects RX11 yX11_end yX11_end ∈ lw_all := lw_t3 (i := 17) (by decide +kernel) rfl
theorem co_X11_end : Cond.code yX11_end cX11_end 2 (some .int) ∈ lw_all := lw_t3 (i := 18) rfl rfl
theorem ml_L_23 : Cond.methodLink RL 23 yX11_program ∈ lw_all := lw_t3 (i := 19) (by decide +kernel) rfl
theorem im_X11_program : Cond.instanceMethod yX11_program ∈ lw_all := lw_t3 (i := 20) (by decide +kernel) rfl
theorem se_X11_program : Cond.selects RX11 yX11_program yX11_program ∈ lw_all := lw_t3 (i := 21) (by decide +kernel) rfl
theorem co_X11_program : Cond.code yX11_program cX11_program 2 (some .int) ∈ lw_all := lw_t3 (i := 22) rfl rfl
theorem ml_X11_124 : Cond.methodLink RX11 124 yX11_takeTape ∈ lw_all := lw_t3 (i := 23) (by decide +kernel) rfl
theorem im_X11_takeTape : Cond.instanceMethod yX11_takeTape ∈ lw_all := lw_t3 (i := 25) (by decide +kernel) rfl
theorem co_X11_takeTape : Cond.code yX11_takeTape cX11_takeTape 1 none ∈ lw_all := lw_t3 (i := 26) rfl rfl
theorem ml_X11_155 : Cond.methodLink RX11 155 yX4_begin ∈ lw_all := lw_t3 (i := 27) (by decide +kernel) rfl
theorem im_X4_begin : Cond.instanceMethod yX4_begin ∈ lw_all := lw_t3 (i := 28) (by decide +kernel) rfl
theorem se_X4_begin : Cond.selects RX4 yX4_begin yX4_begin ∈ lw_all := lw_t3 (i := 29) (by decide +kernel) rfl
theorem co_X4_begin : Cond.code yX4_begin cX4_begin 2 none ∈ lw_all := lw_t3 (i := 30) rfl rfl
theorem ml_X4_37 : Cond.methodLink RX4 37 yJ9_min_7cf53 ∈ lw_all := lw_t3 (i := 31) (by decide +kernel) rfl
theorem st_J9_min_7cf53 : Cond.static yJ9_min_7cf53 ∈ lw_all := lw_t3 (i := 32) (by decide +kernel) rfl
theorem co_J9_min_7cf53 : Cond.code yJ9_min_7cf53 cJ9_min_7cf53 2 (some .int) ∈ lw_all := lw_t3 (i := 33) rfl rfl
theorem ml_X11_127 : Cond.methodLink RX11 127 yX4_readProgram ∈ lw_all := lw_t3 (i := 34) (by decide +kernel) rfl
theorem im_X4_readProgram : Cond.instanceMethod yX4_readProgram ∈ lw_all := lw_t3 (i := 35) (by decide +kernel) rfl
theorem se_X4_readProgram : Cond.selects RX4 yX4_readProgram yX4_readProgram ∈ lw_all := lw_t3 (i := 36) (by decide +kernel) rfl
theorem co_X4_readProgram : Cond.code yX4_readProgram cX4_readProgram 3 none ∈ lw_all := lw_t3 (i := 37) rfl rfl
theorem ml_X4_59 : Cond.methodLink RX4 59 yX3_clear ∈ lw_all := lw_t3 (i := 38) (by decide +kernel) rfl
theorem im_X3_clear : Cond.instanceMethod yX3_clear ∈ lw_all := lw_t3 (i := 39) (by decide +kernel) rfl
theorem se_X3_clear : Cond.selects RX3 yX3_clear yX3_clear ∈ lw_all := lw_t3 (i := 40) (by decide +kernel) rfl
theorem co_X3_clear : Cond.code yX3_clear cX3_clear 2 none ∈ lw_all := lw_t3 (i := 41) rfl rfl
theorem ml_X4_43 : Cond.methodLink RX4 43 yX4_isWell ∈ lw_all := lw_t3 (i := 42) (by decide +kernel) rfl
theorem im_X4_isWell : Cond.instanceMethod yX4_isWell ∈ lw_all := lw_t3 (i := 44) (by decide +kernel) rfl
theorem co_X4_isWell : Cond.code yX4_isWell cX4_isWell 1 (some .boolean) ∈ lw_all := lw_t3 (i := 45) rfl rfl
theorem ml_X4_64 : Cond.methodLink RX4 64 yX4_readFunction ∈ lw_all := lw_t3 (i := 46) (by decide +kernel) rfl
theorem im_X4_readFunction : Cond.instanceMethod yX4_readFunction ∈ lw_all := lw_t3 (i := 48) (by decide +kernel) rfl
theorem co_X4_readFunction : Cond.code yX4_readFunction cX4_readFunction 4 none ∈ lw_all := lw_t3 (i := 49) rfl rfl
theorem ml_X4_47 : Cond.methodLink RX4 47 yX4_here ∈ lw_all := lw_t3 (i := 50) (by decide +kernel) rfl
theorem im_X4_here : Cond.instanceMethod yX4_here ∈ lw_all := lw_t3 (i := 52) (by decide +kernel) rfl
theorem co_X4_here : Cond.code yX4_here cX4_here 1 (some .int) ∈ lw_all := lw_t3 (i := 53) rfl rfl
theorem ml_X4_67 : Cond.methodLink RX4 67 yX4_isLetter ∈ lw_all := lw_t3 (i := 54) (by decide +kernel) rfl
theorem st_X4_isLetter : Cond.static yX4_isLetter ∈ lw_all := lw_t3 (i := 55) (by decide +kernel) rfl
theorem co_X4_isLetter : Cond.code yX4_isLetter cX4_isLetter 1 (some .boolean) ∈ lw_all := lw_t3 (i := 56) rfl rfl
theorem ml_X4_51 : Cond.methodLink RX4 51 yX4_fail ∈ lw_all := lw_t3 (i := 57) (by decide +kernel) rfl
theorem im_X4_fail : Cond.instanceMethod yX4_fail ∈ lw_all := lw_t3 (i := 59) (by decide +kernel) rfl
theorem co_X4_fail : Cond.code yX4_fail cX4_fail 2 none ∈ lw_all := lw_t3 (i := 60) rfl rfl
theorem ml_X4_70 : Cond.methodLink RX4 70 yX4_take ∈ lw_all := lw_t3 (i := 61) (by decide +kernel) rfl
theorem im_X4_take : Cond.instanceMethod yX4_take ∈ lw_all := lw_t3 (i := 63) (by decide +kernel) rfl
theorem co_X4_take : Cond.code yX4_take cX4_take 2 (some .boolean) ∈ lw_all := lw_t3 (i := 64) rfl rfl
theorem ml_X4_73 : Cond.methodLink RX4 73 yX4_readNames ∈ lw_all := lw_t3 (i := 65) (by decide +kernel) rfl
theorem im_X4_readNames : Cond.instanceMethod yX4_readNames ∈ lw_all := lw_t3 (i := 67) (by decide +kernel) rfl
theorem co_X4_readNames : Cond.code yX4_readNames cX4_readNames 2 none ∈ lw_all := lw_t3 (i := 68) rfl rfl
theorem ml_X4_90 : Cond.methodLink RX4 90 yX4_readName ∈ lw_all := lw_t3 (i := 69) (by decide +kernel) rfl
theorem im_X4_readName : Cond.instanceMethod yX4_readName ∈ lw_all := lw_t3 (i := 71) (by decide +kernel) rfl
theorem co_X4_readName : Cond.code yX4_readName cX4_readName 2 none ∈ lw_all := lw_t3 (i := 72) rfl rfl
theorem ml_X4_95 : Cond.methodLink RX4 95 yX4_isVar ∈ lw_all := lw_t3 (i := 73) (by decide +kernel) rfl
theorem st_X4_isVar : Cond.static yX4_isVar ∈ lw_all := lw_t3 (i := 74) (by decide +kernel) rfl
theorem co_X4_isVar : Cond.code yX4_isVar cX4_isVar 1 (some .boolean) ∈ lw_all := lw_t3 (i := 75) rfl rfl
theorem ml_X4_98 : Cond.methodLink RX4 98 yX4_slotOf ∈ lw_all := lw_t3 (i := 76) (by decide +kernel) rfl
theorem im_X4_slotOf : Cond.instanceMethod yX4_slotOf ∈ lw_all := lw_t3 (i := 78) (by decide +kernel) rfl
theorem co_X4_slotOf : Cond.code yX4_slotOf cX4_slotOf 3 (some .int) ∈ lw_all := lw_t3 (i := 79) rfl rfl
theorem ml_X4_101 : Cond.methodLink RX4 101 yX4_nameOne ∈ lw_all := lw_t3 (i := 80) (by decide +kernel) rfl
theorem im_X4_nameOne : Cond.instanceMethod yX4_nameOne ∈ lw_all := lw_t3 (i := 82) (by decide +kernel) rfl
theorem co_X4_nameOne : Cond.code yX4_nameOne cX4_nameOne 2 none ∈ lw_all := lw_t3 (i := 83) rfl rfl
theorem ml_X4_76 : Cond.methodLink RX4 76 yX3_startOf ∈ lw_all := lw_t3 (i := 84) (by decide +kernel) rfl
theorem im_X3_startOf : Cond.instanceMethod yX3_startOf ∈ lw_all := lw_t3 (i := 85) (by decide +kernel) rfl
theorem se_X3_startOf : Cond.selects RX3 yX3_startOf yX3_startOf ∈ lw_all := lw_t3 (i := 86) (by decide +kernel) rfl
theorem co_X3_startOf : Cond.code yX3_startOf cX3_startOf 2 (some .int) ∈ lw_all := lw_t3 (i := 87) rfl rfl
theorem ml_X4_80 : Cond.methodLink RX4 80 yX3_begin ∈ lw_all := lw_t3 (i := 88) (by decide +kernel) rfl
theorem im_X3_begin : Cond.instanceMethod yX3_begin ∈ lw_all := lw_t3 (i := 89) (by decide +kernel) rfl
theorem se_X3_begin : Cond.selects RX3 yX3_begin yX3_begin ∈ lw_all := lw_t3 (i := 90) (by decide +kernel) rfl
theorem co_X3_begin : Cond.code yX3_begin cX3_begin 3 none ∈ lw_all := lw_t3 (i := 91) rfl rfl
theorem ml_X4_83 : Cond.methodLink RX4 83 yX4_readExpression ∈ lw_all := lw_t3 (i := 92) (by decide +kernel) rfl
theorem im_X4_readExpression : Cond.instanceMethod yX4_readExpression ∈ lw_all := lw_t3 (i := 94) (by decide +kernel) rfl
theorem co_X4_readExpression : Cond.code yX4_readExpression cX4_readExpression 5 none ∈ lw_all := lw_t3 (i := 95) rfl rfl
theorem ml_X4_104 : Cond.methodLink RX4 104 yX3_count ∈ lw_all := lw_t3 (i := 96) (by decide +kernel) rfl
theorem im_X3_count : Cond.instanceMethod yX3_count ∈ lw_all := lw_t3 (i := 97) (by decide +kernel) rfl
theorem se_X3_count : Cond.selects RX3 yX3_count yX3_count ∈ lw_all := lw_t3 (i := 98) (by decide +kernel) rfl
theorem co_X3_count : Cond.code yX3_count cX3_count 2 (some .int) ∈ lw_all := lw_t3 (i := 99) rfl rfl
theorem ml_X4_107 : Cond.methodLink RX4 107 yX4_isNumber ∈ lw_all := lw_t3 (i := 100) (by decide +kernel) rfl
theorem st_X4_isNumber : Cond.static yX4_isNumber ∈ lw_all := lw_t3 (i := 101) (by decide +kernel) rfl
theorem co_X4_isNumber : Cond.code yX4_isNumber cX4_isNumber 1 (some .boolean) ∈ lw_all := lw_t3 (i := 102) rfl rfl
theorem ml_X4_55 : Cond.methodLink RX4 55 yX4_isDigit ∈ lw_all := lw_t3 (i := 103) (by decide +kernel) rfl
theorem st_X4_isDigit : Cond.static yX4_isDigit ∈ lw_all := lw_t3 (i := 104) (by decide +kernel) rfl
theorem co_X4_isDigit : Cond.code yX4_isDigit cX4_isDigit 1 (some .boolean) ∈ lw_all := lw_t3 (i := 105) rfl rfl
theorem ml_X4_110 : Cond.methodLink RX4 110 yX4_readNumber ∈ lw_all := lw_t3 (i := 106) (by decide +kernel) rfl
theorem im_X4_readNumber : Cond.instanceMethod yX4_readNumber ∈ lw_all := lw_t3 (i := 108) (by decide +kernel) rfl
theorem co_X4_readNumber : Cond.code yX4_readNumber cX4_readNumber 7 (some .long) ∈ lw_all := lw_t3 (i := 109) rfl rfl
theorem ml_X4_133 : Cond.methodLink RX4 133 yX4_readDigits ∈ lw_all := lw_t3 (i := 110) (by decide +kernel) rfl
theorem im_X4_readDigits : Cond.instanceMethod yX4_readDigits ∈ lw_all := lw_t3 (i := 112) (by decide +kernel) rfl
theorem co_X4_readDigits : Cond.code yX4_readDigits cX4_readDigits 5 (some .int) ∈ lw_all := lw_t3 (i := 113) rfl rfl
theorem ml_X4_136 : Cond.methodLink RX4 136 yX0_make ∈ lw_all := lw_t3 (i := 114) (by decide +kernel) rfl
theorem ml_X4_140 : Cond.methodLink RX4 140 yX0_floatBits ∈ lw_all := lw_t3 (i := 115) (by decide +kernel) rfl
theorem st_X0_floatBits : Cond.static yX0_floatBits ∈ lw_all := lw_t3 (i := 116) (by decide +kernel) rfl
theorem co_X0_floatBits : Cond.code yX0_floatBits cX0_floatBits 5 (some .int) ∈ lw_all := lw_t3 (i := 117) rfl rfl
theorem ml_X0_26 : Cond.methodLink RX0 26 yX0_bits ∈ lw_all := lw_t3 (i := 118) (by decide +kernel) rfl
theorem st_X0_bits : Cond.static yX0_bits ∈ lw_all := lw_t3 (i := 119) (by decide +kernel) rfl
theorem co_X0_bits : Cond.code yX0_bits cX0_bits 2 (some .int) ∈ lw_all := lw_t3 (i := 120) rfl rfl
theorem ml_X0_23 : Cond.methodLink RX0 23 yX0_kind ∈ lw_all := lw_t3 (i := 121) (by decide +kernel) rfl
theorem st_X0_kind : Cond.static yX0_kind ∈ lw_all := lw_t3 (i := 122) (by decide +kernel) rfl
theorem co_X0_kind : Cond.code yX0_kind cX0_kind 2 (some .int) ∈ lw_all := lw_t3 (i := 123) rfl rfl
theorem ml_X0_36 : Cond.methodLink RX0 36 yX0_isNan ∈ lw_all := lw_t3 (i := 124) (by decide +kernel) rfl
theorem st_X0_isNan : Cond.static yX0_isNan ∈ lw_all := lw_t3 (i := 125) (by decide +kernel) rfl
theorem co_X0_isNan : Cond.code yX0_isNan cX0_isNan 1 (some .boolean) ∈ lw_all := lw_t3 (i := 126) rfl rfl
theorem cs_X0_58 : Cond.constant RX0 58 (2147483647) ∈ lw_all := lw_t3 (i := 127) (by decide +kernel) rfl
theorem cs_X0_71 : Cond.constant RX0 71 (2139095040) ∈ lw_all := lw_t3 (i := 128) (by decide +kernel) rfl
theorem cs_X0_47 : Cond.constant RX0 47 (2143289344) ∈ lw_all := lw_t3 (i := 129) (by decide +kernel) rfl
theorem ml_X0_59 : Cond.methodLink RX0 59 yX0_pack ∈ lw_all := lw_t3 (i := 130) (by decide +kernel) rfl
theorem st_X0_pack : Cond.static yX0_pack ∈ lw_all := lw_t3 (i := 131) (by decide +kernel) rfl
theorem co_X0_pack : Cond.code yX0_pack cX0_pack 13 (some .int) ∈ lw_all := lw_t3 (i := 132) rfl rfl
theorem ml_X0_77 : Cond.methodLink RX0 77 yJ13_numberOfLeadingZeros_95d88 ∈ lw_all := lw_t3 (i := 133) (by decide +kernel) rfl
theorem st_J13_numberOfLeadingZeros_95d88 : Cond.static yJ13_numberOfLeadingZeros_95d88 ∈ lw_all := lw_t3 (i := 134) (by decide +kernel) rfl
theorem co_J13_numberOfLeadingZeros_95d88 : Cond.code yJ13_numberOfLeadingZeros_95d88 cJ13_numberOfLeadingZeros_95d88 3 (some .int) ∈ lw_all := lw_t3 (i := 135) rfl rfl
theorem ml_J13_308 : Cond.methodLink RJ13 308 yJ6_numberOfLeadingZeros_0f7a4 ∈ lw_all := lw_t3 (i := 136) (by decide +kernel) rfl
theorem st_J6_numberOfLeadingZeros_0f7a4 : Cond.static yJ6_numberOfLeadingZeros_0f7a4 ∈ lw_all := lw_t3 (i := 137) (by decide +kernel) rfl
theorem co_J6_numberOfLeadingZeros_0f7a4 : Cond.code yJ6_numberOfLeadingZeros_0f7a4 cJ6_numberOfLeadingZeros_0f7a4 2 (some .int) ∈ lw_all := lw_t3 (i := 138) rfl rfl
theorem cs_J6_264 : Cond.constant RJ6 264 (65536) ∈ lw_all := lw_t3 (i := 139) (by decide +kernel) rfl
theorem ml_X0_82 : Cond.methodLink RX0 82 yJ9_max_7cf53 ∈ lw_all := lw_t3 (i := 140) (by decide +kernel) rfl
theorem st_J9_max_7cf53 : Cond.static yJ9_max_7cf53 ∈ lw_all := lw_t3 (i := 141) (by decide +kernel) rfl
theorem co_J9_max_7cf53 : Cond.code yJ9_max_7cf53 cJ9_max_7cf53 2 (some .int) ∈ lw_all := lw_t3 (i := 142) rfl rfl
theorem cs_X0_87 : Cond.constantLong RX0 87 (16777216) ∈ lw_all := lw_t3 (i := 143) (by decide +kernel) rfl
theorem cs_X0_89 : Cond.constantLong RX0 89 (8388608) ∈ lw_all := lw_t3 (i := 144) (by decide +kernel) rfl
theorem cs_X0_75 : Cond.constant RX0 75 (8388607) ∈ lw_all := lw_t3 (i := 145) (by decide +kernel) rfl
theorem ml_X4_143 : Cond.methodLink RX4 143 yX0_divide ∈ lw_all := lw_t3 (i := 146) (by decide +kernel) rfl
theorem st_X0_divide : Cond.static yX0_divide ∈ lw_all := lw_t3 (i := 147) (by decide +kernel) rfl
theorem co_X0_divide : Cond.code yX0_divide cX0_divide 14 (some .int) ∈ lw_all := lw_t3 (i := 148) rfl rfl
theorem ml_X0_67 : Cond.methodLink RX0 67 yX0_wholeOf ∈ lw_all := lw_t3 (i := 149) (by decide +kernel) rfl
theorem st_X0_wholeOf : Cond.static yX0_wholeOf ∈ lw_all := lw_t3 (i := 150) (by decide +kernel) rfl
theorem co_X0_wholeOf : Cond.code yX0_wholeOf cX0_wholeOf 2 (some .long) ∈ lw_all := lw_t3 (i := 151) rfl rfl
theorem cs_X0_76 : Cond.constant RX0 76 (8388608) ∈ lw_all := lw_t3 (i := 152) (by decide +kernel) rfl
theorem ml_X0_63 : Cond.methodLink RX0 63 yX0_lastBitOf ∈ lw_all := lw_t3 (i := 153) (by decide +kernel) rfl
theorem st_X0_lastBitOf : Cond.static yX0_lastBitOf ∈ lw_all := lw_t3 (i := 154) (by decide +kernel) rfl
theorem co_X0_lastBitOf : Cond.code yX0_lastBitOf cX0_lastBitOf 2 (some .int) ∈ lw_all := lw_t3 (i := 155) rfl rfl
theorem ml_X4_114 : Cond.methodLink RX4 114 yX0_kind ∈ lw_all := lw_t3 (i := 156) (by decide +kernel) rfl
theorem ml_X4_120 : Cond.methodLink RX4 120 yX0_bits ∈ lw_all := lw_t3 (i := 157) (by decide +kernel) rfl
theorem ml_X4_86 : Cond.methodLink RX4 86 yX3_add ∈ lw_all := lw_t3 (i := 158) (by decide +kernel) rfl
theorem im_X3_add : Cond.instanceMethod yX3_add ∈ lw_all := lw_t3 (i := 159) (by decide +kernel) rfl
theorem se_X3_add : Cond.selects RX3 yX3_add yX3_add ∈ lw_all := lw_t3 (i := 160) (by decide +kernel) rfl
theorem co_X3_add : Cond.code yX3_add cX3_add 4 (some .int) ∈ lw_all := lw_t3 (i := 161) rfl rfl
theorem ml_X4_123 : Cond.methodLink RX4 123 yX4_readVar ∈ lw_all := lw_t3 (i := 162) (by decide +kernel) rfl
theorem im_X4_readVar : Cond.instanceMethod yX4_readVar ∈ lw_all := lw_t3 (i := 164) (by decide +kernel) rfl
theorem co_X4_readVar : Cond.code yX4_readVar cX4_readVar 3 none ∈ lw_all := lw_t3 (i := 165) rfl rfl
theorem ml_X4_126 : Cond.methodLink RX4 126 yX4_readCall ∈ lw_all := lw_t3 (i := 166) (by decide +kernel) rfl
theorem im_X4_readCall : Cond.instanceMethod yX4_readCall ∈ lw_all := lw_t3 (i := 168) (by decide +kernel) rfl
theorem co_X4_readCall : Cond.code yX4_readCall cX4_readCall 4 none ∈ lw_all := lw_t3 (i := 169) rfl rfl
theorem ml_X4_130 : Cond.methodLink RX4 130 yX4_readSigned ∈ lw_all := lw_t3 (i := 170) (by decide +kernel) rfl
theorem im_X4_readSigned : Cond.instanceMethod yX4_readSigned ∈ lw_all := lw_t3 (i := 172) (by decide +kernel) rfl
theorem co_X4_readSigned : Cond.code yX4_readSigned cX4_readSigned 4 none ∈ lw_all := lw_t3 (i := 173) rfl rfl
theorem ml_X4_146 : Cond.methodLink RX4 146 yX4_readReckoned ∈ lw_all := lw_t3 (i := 174) (by decide +kernel) rfl
theorem im_X4_readReckoned : Cond.instanceMethod yX4_readReckoned ∈ lw_all := lw_t3 (i := 176) (by decide +kernel) rfl
theorem co_X4_readReckoned : Cond.code yX4_readReckoned cX4_readReckoned 3 none ∈ lw_all := lw_t3 (i := 177) rfl rfl
theorem ml_X4_161 : Cond.methodLink RX4 161 yX0_isSign ∈ lw_all := lw_t3 (i := 178) (by decide +kernel) rfl
theorem st_X0_isSign : Cond.static yX0_isSign ∈ lw_all := lw_t3 (i := 179) (by decide +kernel) rfl
theorem co_X0_isSign : Cond.code yX0_isSign cX0_isSign 1 (some .boolean) ∈ lw_all := lw_t3 (i := 180) rfl rfl
theorem ml_X4_149 : Cond.methodLink RX4 149 yX4_readTwo ∈ lw_all := lw_t3 (i := 181) (by decide +kernel) rfl
theorem im_X4_readTwo : Cond.instanceMethod yX4_readTwo ∈ lw_all := lw_t3 (i := 183) (by decide +kernel) rfl
theorem co_X4_readTwo : Cond.code yX4_readTwo cX4_readTwo 3 none ∈ lw_all := lw_t3 (i := 184) rfl rfl
theorem ml_X4_152 : Cond.methodLink RX4 152 yX4_readChoice ∈ lw_all := lw_t3 (i := 185) (by decide +kernel) rfl
theorem im_X4_readChoice : Cond.instanceMethod yX4_readChoice ∈ lw_all := lw_t3 (i := 187) (by decide +kernel) rfl
theorem co_X4_readChoice : Cond.code yX4_readChoice cX4_readChoice 4 none ∈ lw_all := lw_t3 (i := 188) rfl rfl
theorem ml_X4_164 : Cond.methodLink RX4 164 yX3_leadHere ∈ lw_all := lw_t3 (i := 189) (by decide +kernel) rfl
theorem im_X3_leadHere : Cond.instanceMethod yX3_leadHere ∈ lw_all := lw_t3 (i := 190) (by decide +kernel) rfl
theorem se_X3_leadHere : Cond.selects RX3 yX3_leadHere yX3_leadHere ∈ lw_all := lw_t3 (i := 191) (by decide +kernel) rfl
theorem co_X3_leadHere : Cond.code yX3_leadHere cX3_leadHere 2 none ∈ lw_all := lw_t3 (i := 192) rfl rfl
theorem ml_X4_155 : Cond.methodLink RX4 155 yX4_readPlace ∈ lw_all := lw_t3 (i := 193) (by decide +kernel) rfl
theorem im_X4_readPlace : Cond.instanceMethod yX4_readPlace ∈ lw_all := lw_t3 (i := 195) (by decide +kernel) rfl
theorem co_X4_readPlace : Cond.code yX4_readPlace cX4_readPlace 4 none ∈ lw_all := lw_t3 (i := 196) rfl rfl
theorem ml_X4_158 : Cond.methodLink RX4 158 yX4_readNaming ∈ lw_all := lw_t3 (i := 197) (by decide +kernel) rfl
theorem im_X4_readNaming : Cond.instanceMethod yX4_readNaming ∈ lw_all := lw_t3 (i := 199) (by decide +kernel) rfl
theorem co_X4_readNaming : Cond.code yX4_readNaming cX4_readNaming 4 none ∈ lw_all := lw_t3 (i := 200) rfl rfl
theorem ml_X11_131 : Cond.methodLink RX11 131 yX4_badPlace ∈ lw_all := lw_t3 (i := 201) (by decide +kernel) rfl
theorem im_X4_badPlace : Cond.instanceMethod yX4_badPlace ∈ lw_all := lw_t3 (i := 202) (by decide +kernel) rfl
theorem se_X4_badPlace : Cond.selects RX4 yX4_badPlace yX4_badPlace ∈ lw_all := lw_t3 (i := 203) (by decide +kernel) rfl
theorem co_X4_badPlace : Cond.code yX4_badPlace cX4_badPlace 1 (some .int) ∈ lw_all := lw_t3 (i := 204) rfl rfl
theorem ml_X11_135 : Cond.methodLink RX11 135 yX5_clear ∈ lw_all := lw_t3 (i := 205) (by decide +kernel) rfl
theorem im_X5_clear : Cond.instanceMethod yX5_clear ∈ lw_all := lw_t3 (i := 206) (by decide +kernel) rfl
theorem se_X5_clear : Cond.selects RX5 yX5_clear yX5_clear ∈ lw_all := lw_t3 (i := 207) (by decide +kernel) rfl
theorem co_X5_clear : Cond.code yX5_clear cX5_clear 1 none ∈ lw_all := lw_t3 (i := 208) rfl rfl
theorem ml_L_28 : Cond.methodLink RL 28 yX11_task ∈ lw_all := lw_t3 (i := 209) (by decide +kernel) rfl
theorem im_X11_task : Cond.instanceMethod yX11_task ∈ lw_all := lw_t3 (i := 210) (by decide +kernel) rfl
theorem se_X11_task : Cond.selects RX11 yX11_task yX11_task ∈ lw_all := lw_t3 (i := 211) (by decide +kernel) rfl
theorem co_X11_task : Cond.code yX11_task cX11_task 2 (some .int) ∈ lw_all := lw_t3 (i := 212) rfl rfl
theorem ml_X11_141 : Cond.methodLink RX11 141 yX4_readTask ∈ lw_all := lw_t3 (i := 213) (by decide +kernel) rfl
theorem im_X4_readTask : Cond.instanceMethod yX4_readTask ∈ lw_all := lw_t3 (i := 214) (by decide +kernel) rfl
theorem se_X4_readTask : Cond.selects RX4 yX4_readTask yX4_readTask ∈ lw_all := lw_t3 (i := 215) (by decide +kernel) rfl
theorem co_X4_readTask : Cond.code yX4_readTask cX4_readTask 4 none ∈ lw_all := lw_t3 (i := 216) rfl rfl
theorem ml_X4_169 : Cond.methodLink RX4 169 yX2_begin ∈ lw_all := lw_t3 (i := 217) (by decide +kernel) rfl
theorem ml_X4_170 : Cond.methodLink RX4 170 yX4_readPart ∈ lw_all := lw_t3 (i := 218) (by decide +kernel) rfl
theorem im_X4_readPart : Cond.instanceMethod yX4_readPart ∈ lw_all := lw_t3 (i := 220) (by decide +kernel) rfl
theorem co_X4_readPart : Cond.code yX4_readPart cX4_readPart 5 none ∈ lw_all := lw_t3 (i := 221) rfl rfl
theorem cs_X4_181 : Cond.constantLong RX4 181 (8589934592) ∈ lw_all := lw_t3 (i := 222) (by decide +kernel) rfl
theorem ml_X4_183 : Cond.methodLink RX4 183 yX2_add ∈ lw_all := lw_t3 (i := 223) (by decide +kernel) rfl
theorem im_X2_add : Cond.instanceMethod yX2_add ∈ lw_all := lw_t3 (i := 224) (by decide +kernel) rfl
theorem se_X2_add : Cond.selects RX2 yX2_add yX2_add ∈ lw_all := lw_t3 (i := 225) (by decide +kernel) rfl
theorem co_X2_add : Cond.code yX2_add cX2_add 5 none ∈ lw_all := lw_t3 (i := 226) rfl rfl
theorem ml_X4_186 : Cond.methodLink RX4 186 yX2_stars ∈ lw_all := lw_t3 (i := 227) (by decide +kernel) rfl
theorem im_X2_stars : Cond.instanceMethod yX2_stars ∈ lw_all := lw_t3 (i := 228) (by decide +kernel) rfl
theorem se_X2_stars : Cond.selects RX2 yX2_stars yX2_stars ∈ lw_all := lw_t3 (i := 229) (by decide +kernel) rfl
theorem co_X2_stars : Cond.code yX2_stars cX2_stars 3 (some .int) ∈ lw_all := lw_t3 (i := 230) rfl rfl
theorem ml_X2_37 : Cond.methodLink RX2 37 yX0_kind ∈ lw_all := lw_t3 (i := 231) (by decide +kernel) rfl
theorem cs_X4_189 : Cond.constantLong RX4 189 (17179869184) ∈ lw_all := lw_t3 (i := 232) (by decide +kernel) rfl
theorem ml_X4_177 : Cond.methodLink RX4 177 yX4_takeEnd ∈ lw_all := lw_t3 (i := 233) (by decide +kernel) rfl
theorem im_X4_takeEnd : Cond.instanceMethod yX4_takeEnd ∈ lw_all := lw_t3 (i := 235) (by decide +kernel) rfl
theorem co_X4_takeEnd : Cond.code yX4_takeEnd cX4_takeEnd 1 none ∈ lw_all := lw_t3 (i := 236) rfl rfl
theorem ml_X11_145 : Cond.methodLink RX11 145 yX2_begin ∈ lw_all := lw_t3 (i := 237) (by decide +kernel) rfl
theorem ml_X11_148 : Cond.methodLink RX11 148 yX2_stars ∈ lw_all := lw_t3 (i := 238) (by decide +kernel) rfl
theorem ml_L_32 : Cond.methodLink RL 32 yX11_values ∈ lw_all := lw_t3 (i := 239) (by decide +kernel) rfl
theorem im_X11_values : Cond.instanceMethod yX11_values ∈ lw_all := lw_t4 (i := 0) (by decide +kernel) rfl
theorem se_X11_values : Cond.selects RX11 yX11_values yX11_values ∈ lw_all := lw_t4 (i := 1) (by decide +kernel) rfl
theorem co_X11_values : Cond.code yX11_values cX11_values 3 (some .int) ∈ lw_all := lw_t4 (i := 2) rfl rfl
theorem ml_X11_151 : Cond.methodLink RX11 151 yX4_readValues ∈ lw_all := lw_t4 (i := 3) (by decide +kernel) rfl
theorem im_X4_readValues : Cond.instanceMethod yX4_readValues ∈ lw_all := lw_t4 (i := 4) (by decide +kernel) rfl
theorem se_X4_readValues : Cond.selects RX4 yX4_readValues yX4_readValues ∈ lw_all := lw_t4 (i := 5) (by decide +kernel) rfl
theorem co_X4_readValues : Cond.code yX4_readValues cX4_readValues 4 none ∈ lw_all := lw_t4 (i := 6) rfl rfl
theorem ml_L_36 : Cond.methodLink RL 36 yX11_fault ∈ lw_all := lw_t4 (i := 7) (by decide +kernel) rfl
theorem im_X11_fault : Cond.instanceMethod yX11_fault ∈ lw_all := lw_t4 (i := 8) (by decide +kernel) rfl
theorem se_X11_fault : Cond.selects RX11 yX11_fault yX11_fault ∈ lw_all := lw_t4 (i := 9) (by decide +kernel) rfl
theorem co_X11_fault : Cond.code yX11_fault cX11_fault 1 (some .int) ∈ lw_all := lw_t4 (i := 10) rfl rfl
theorem ml_L_40 : Cond.methodLink RL 40 yX11_set ∈ lw_all := lw_t4 (i := 11) (by decide +kernel) rfl
theorem im_X11_set : Cond.instanceMethod yX11_set ∈ lw_all := lw_t4 (i := 12) (by decide +kernel) rfl
theorem se_X11_set : Cond.selects RX11 yX11_set yX11_set ∈ lw_all := lw_t4 (i := 13) (by decide +kernel) rfl
theorem co_X11_set : Cond.code yX11_set cX11_set 3 (some .boolean) ∈ lw_all := lw_t4 (i := 14) rfl rfl
theorem ml_X11_156 : Cond.methodLink RX11 156 yX10_setLimit ∈ lw_all := lw_t4 (i := 15) (by decide +kernel) rfl
theorem im_X10_setLimit : Cond.instanceMethod yX10_setLimit ∈ lw_all := lw_t4 (i := 16) (by decide +kernel) rfl
theorem se_X10_setLimit : Cond.selects RX10 yX10_setLimit yX10_setLimit ∈ lw_all := lw_t4 (i := 17) (by decide +kernel) rfl
theorem co_X10_setLimit : Cond.code yX10_setLimit cX10_setLimit 3 (some .boolean) ∈ lw_all := lw_t4 (i := 18) rfl rfl
theorem ml_L_45 : Cond.methodLink RL 45 yX11_is ∈ lw_all := lw_t4 (i := 19) (by decide +kernel) rfl
theorem im_X11_is : Cond.instanceMethod yX11_is ∈ lw_all := lw_t4 (i := 20) (by decide +kernel) rfl
theorem se_X11_is : Cond.selects RX11 yX11_is yX11_is ∈ lw_all := lw_t4 (i := 21) (by decide +kernel) rfl
theorem co_X11_is : Cond.code yX11_is cX11_is 2 (some .int) ∈ lw_all := lw_t4 (i := 22) rfl rfl
theorem ml_L_49 : Cond.methodLink RL 49 yX11_function ∈ lw_all := lw_t4 (i := 23) (by decide +kernel) rfl
theorem im_X11_function : Cond.instanceMethod yX11_function ∈ lw_all := lw_t4 (i := 24) (by decide +kernel) rfl
theorem se_X11_function : Cond.selects RX11 yX11_function yX11_function ∈ lw_all := lw_t4 (i := 25) (by decide +kernel) rfl
theorem co_X11_function : Cond.code yX11_function cX11_function 3 (some .int) ∈ lw_all := lw_t4 (i := 26) rfl rfl
theorem ml_X11_172 : Cond.methodLink RX11 172 yX3_about ∈ lw_all := lw_t4 (i := 27) (by decide +kernel) rfl
theorem im_X3_about : Cond.instanceMethod yX3_about ∈ lw_all := lw_t4 (i := 28) (by decide +kernel) rfl
theorem se_X3_about : Cond.selects RX3 yX3_about yX3_about ∈ lw_all := lw_t4 (i := 29) (by decide +kernel) rfl
theorem co_X3_about : Cond.code yX3_about cX3_about 3 (some .int) ∈ lw_all := lw_t4 (i := 30) rfl rfl
theorem ml_L_54 : Cond.methodLink RL 54 yX11_specialise ∈ lw_all := lw_t4 (i := 31) (by decide +kernel) rfl
theorem im_X11_specialise : Cond.instanceMethod yX11_specialise ∈ lw_all := lw_t4 (i := 32) (by decide +kernel) rfl
theorem se_X11_specialise : Cond.selects RX11 yX11_specialise yX11_specialise ∈ lw_all := lw_t4 (i := 33) (by decide +kernel) rfl
theorem co_X11_specialise : Cond.code yX11_specialise cX11_specialise 2 (some .int) ∈ lw_all := lw_t4 (i := 34) rfl rfl
theorem ml_X11_176 : Cond.methodLink RX11 176 yX10_begin ∈ lw_all := lw_t4 (i := 35) (by decide +kernel) rfl
theorem im_X10_begin : Cond.instanceMethod yX10_begin ∈ lw_all := lw_t4 (i := 36) (by decide +kernel) rfl
theorem se_X10_begin : Cond.selects RX10 yX10_begin yX10_begin ∈ lw_all := lw_t4 (i := 37) (by decide +kernel) rfl
theorem co_X10_begin : Cond.code yX10_begin cX10_begin 3 none ∈ lw_all := lw_t4 (i := 38) rfl rfl
theorem ml_X10_67 : Cond.methodLink RX10 67 yX5_clear ∈ lw_all := lw_t4 (i := 39) (by decide +kernel) rfl
theorem ml_X10_79 : Cond.methodLink RX10 79 yX3_startOf ∈ lw_all := lw_t4 (i := 40) (by decide +kernel) rfl
theorem ml_X10_85 : Cond.methodLink RX10 85 yX5_addVariant ∈ lw_all := lw_t4 (i := 41) (by decide +kernel) rfl
theorem im_X5_addVariant : Cond.instanceMethod yX5_addVariant ∈ lw_all := lw_t4 (i := 42) (by decide +kernel) rfl
theorem se_X5_addVariant : Cond.selects RX5 yX5_addVariant yX5_addVariant ∈ lw_all := lw_t4 (i := 43) (by decide +kernel) rfl
theorem co_X5_addVariant : Cond.code yX5_addVariant cX5_addVariant 4 (some .int) ∈ lw_all := lw_t4 (i := 44) rfl rfl
theorem ml_X5_79 : Cond.methodLink RX5 79 yX2_copyFrom ∈ lw_all := lw_t4 (i := 45) (by decide +kernel) rfl
theorem im_X2_copyFrom : Cond.instanceMethod yX2_copyFrom ∈ lw_all := lw_t4 (i := 46) (by decide +kernel) rfl
theorem se_X2_copyFrom : Cond.selects RX2 yX2_copyFrom yX2_copyFrom ∈ lw_all := lw_t4 (i := 47) (by decide +kernel) rfl
theorem co_X2_copyFrom : Cond.code yX2_copyFrom cX2_copyFrom 2 none ∈ lw_all := lw_t4 (i := 48) rfl rfl
theorem ml_X2_25 : Cond.methodLink RX2 25 yX2_begin ∈ lw_all := lw_t4 (i := 49) (by decide +kernel) rfl
theorem ml_X2_29 : Cond.methodLink RX2 29 yX2_addParts ∈ lw_all := lw_t4 (i := 50) (by decide +kernel) rfl
theorem im_X2_addParts : Cond.instanceMethod yX2_addParts ∈ lw_all := lw_t4 (i := 52) (by decide +kernel) rfl
theorem co_X2_addParts : Cond.code yX2_addParts cX2_addParts 5 none ∈ lw_all := lw_t4 (i := 53) rfl rfl
theorem ml_X2_33 : Cond.methodLink RX2 33 yX2_add ∈ lw_all := lw_t4 (i := 54) (by decide +kernel) rfl
theorem ml_X5_83 : Cond.methodLink RX5 83 yX5_setVariant ∈ lw_all := lw_t4 (i := 55) (by decide +kernel) rfl
theorem im_X5_setVariant : Cond.instanceMethod yX5_setVariant ∈ lw_all := lw_t4 (i := 56) (by decide +kernel) rfl
theorem se_X5_setVariant : Cond.selects RX5 yX5_setVariant yX5_setVariant ∈ lw_all := lw_t4 (i := 57) (by decide +kernel) rfl
theorem co_X5_setVariant : Cond.code yX5_setVariant cX5_setVariant 4 none ∈ lw_all := lw_t4 (i := 58) rfl rfl
theorem ml_X5_87 : Cond.methodLink RX5 87 yX2_stars ∈ lw_all := lw_t4 (i := 59) (by decide +kernel) rfl
theorem ml_X10_89 : Cond.methodLink RX10 89 yX10_beginVariant ∈ lw_all := lw_t4 (i := 60) (by decide +kernel) rfl
theorem im_X10_beginVariant : Cond.instanceMethod yX10_beginVariant ∈ lw_all := lw_t4 (i := 62) (by decide +kernel) rfl
theorem co_X10_beginVariant : Cond.code yX10_beginVariant cX10_beginVariant 5 none ∈ lw_all := lw_t4 (i := 63) rfl rfl
theorem ml_X10_100 : Cond.methodLink RX10 100 yX5_patternOf ∈ lw_all := lw_t4 (i := 64) (by decide +kernel) rfl
theorem im_X5_patternOf : Cond.instanceMethod yX5_patternOf ∈ lw_all := lw_t4 (i := 65) (by decide +kernel) rfl
theorem se_X5_patternOf : Cond.selects RX5 yX5_patternOf yX5_patternOf ∈ lw_all := lw_t4 (i := 66) (by decide +kernel) rfl
theorem co_X5_patternOf : Cond.code yX5_patternOf cX5_patternOf 2 (some (.object "OnlineParts$Pattern")) ∈ lw_all := lw_t4 (i := 67) rfl rfl
theorem ml_X5_63 : Cond.methodLink RX5 63 yJ9_min_7cf53 ∈ lw_all := lw_t4 (i := 68) (by decide +kernel) rfl
theorem ml_X5_69 : Cond.methodLink RX5 69 yJ9_max_7cf53 ∈ lw_all := lw_t4 (i := 69) (by decide +kernel) rfl
theorem ml_X10_104 : Cond.methodLink RX10 104 yX5_addBlock ∈ lw_all := lw_t4 (i := 70) (by decide +kernel) rfl
theorem im_X5_addBlock : Cond.instanceMethod yX5_addBlock ∈ lw_all := lw_t4 (i := 71) (by decide +kernel) rfl
theorem se_X5_addBlock : Cond.selects RX5 yX5_addBlock yX5_addBlock ∈ lw_all := lw_t4 (i := 72) (by decide +kernel) rfl
theorem co_X5_addBlock : Cond.code yX5_addBlock cX5_addBlock 1 (some .int) ∈ lw_all := lw_t4 (i := 73) rfl rfl
theorem ml_X10_111 : Cond.methodLink RX10 111 yX5_setVariant ∈ lw_all := lw_t4 (i := 74) (by decide +kernel) rfl
theorem ml_X10_115 : Cond.methodLink RX10 115 yX8_clear ∈ lw_all := lw_t4 (i := 75) (by decide +kernel) rfl
theorem im_X8_clear : Cond.instanceMethod yX8_clear ∈ lw_all := lw_t4 (i := 76) (by decide +kernel) rfl
theorem se_X8_clear : Cond.selects RX8 yX8_clear yX8_clear ∈ lw_all := lw_t4 (i := 77) (by decide +kernel) rfl
theorem co_X8_clear : Cond.code yX8_clear cX8_clear 1 none ∈ lw_all := lw_t4 (i := 78) rfl rfl
theorem ml_X10_124 : Cond.methodLink RX10 124 yX8_build ∈ lw_all := lw_t4 (i := 79) (by decide +kernel) rfl
theorem im_X8_build : Cond.instanceMethod yX8_build ∈ lw_all := lw_t4 (i := 80) (by decide +kernel) rfl
theorem se_X8_build : Cond.selects RX8 yX8_build yX8_build ∈ lw_all := lw_t4 (i := 81) (by decide +kernel) rfl
theorem co_X8_build : Cond.code yX8_build cX8_build 9 (some .int) ∈ lw_all := lw_t4 (i := 82) rfl rfl
theorem ml_X8_98 : Cond.methodLink RX8 98 yX2_stars ∈ lw_all := lw_t4 (i := 83) (by decide +kernel) rfl
theorem ml_X8_106 : Cond.methodLink RX8 106 yX0_kind ∈ lw_all := lw_t4 (i := 84) (by decide +kernel) rfl
theorem ml_X8_109 : Cond.methodLink RX8 109 yX8_pair ∈ lw_all := lw_t4 (i := 85) (by decide +kernel) rfl
theorem im_X8_pair : Cond.instanceMethod yX8_pair ∈ lw_all := lw_t4 (i := 86) (by decide +kernel) rfl
theorem se_X8_pair : Cond.selects RX8 yX8_pair yX8_pair ∈ lw_all := lw_t4 (i := 87) (by decide +kernel) rfl
theorem co_X8_pair : Cond.code yX8_pair cX8_pair 5 (some .long) ∈ lw_all := lw_t4 (i := 88) rfl rfl
theorem ml_X8_75 : Cond.methodLink RX8 75 yX8_weightOf ∈ lw_all := lw_t4 (i := 89) (by decide +kernel) rfl
theorem im_X8_weightOf : Cond.instanceMethod yX8_weightOf ∈ lw_all := lw_t4 (i := 90) (by decide +kernel) rfl
theorem se_X8_weightOf : Cond.selects RX8 yX8_weightOf yX8_weightOf ∈ lw_all := lw_t4 (i := 91) (by decide +kernel) rfl
theorem co_X8_weightOf : Cond.code yX8_weightOf cX8_weightOf 3 (some .int) ∈ lw_all := lw_t4 (i := 92) rfl rfl
theorem ml_X8_88 : Cond.methodLink RX8 88 yX8_isPair ∈ lw_all := lw_t4 (i := 93) (by decide +kernel) rfl
theorem im_X8_isPair : Cond.instanceMethod yX8_isPair ∈ lw_all := lw_t4 (i := 94) (by decide +kernel) rfl
theorem se_X8_isPair : Cond.selects RX8 yX8_isPair yX8_isPair ∈ lw_all := lw_t4 (i := 95) (by decide +kernel) rfl
theorem co_X8_isPair : Cond.code yX8_isPair cX8_isPair 3 (some .boolean) ∈ lw_all := lw_t4 (i := 96) rfl rfl
theorem cs_X8_86 : Cond.constantLong RX8 86 (2) ∈ lw_all := lw_t4 (i := 97) (by decide +kernel) rfl
theorem ml_X8_92 : Cond.methodLink RX8 92 yX0_bits ∈ lw_all := lw_t4 (i := 98) (by decide +kernel) rfl
theorem ml_X8_79 : Cond.methodLink RX8 79 yX8_deepOf ∈ lw_all := lw_t4 (i := 99) (by decide +kernel) rfl
theorem im_X8_deepOf : Cond.instanceMethod yX8_deepOf ∈ lw_all := lw_t4 (i := 100) (by decide +kernel) rfl
theorem se_X8_deepOf : Cond.selects RX8 yX8_deepOf yX8_deepOf ∈ lw_all := lw_t4 (i := 101) (by decide +kernel) rfl
theorem co_X8_deepOf : Cond.code yX8_deepOf cX8_deepOf 3 (some .int) ∈ lw_all := lw_t4 (i := 102) rfl rfl
theorem ml_X8_61 : Cond.methodLink RX8 61 yJ9_max_7cf53 ∈ lw_all := lw_t4 (i := 103) (by decide +kernel) rfl
theorem ml_X8_82 : Cond.methodLink RX8 82 yX0_make ∈ lw_all := lw_t4 (i := 104) (by decide +kernel) rfl
theorem ml_X8_113 : Cond.methodLink RX8 113 yJ9_min_7cf53 ∈ lw_all := lw_t4 (i := 105) (by decide +kernel) rfl
theorem ml_X10_128 : Cond.methodLink RX10 128 yX8_setVar ∈ lw_all := lw_t4 (i := 106) (by decide +kernel) rfl
theorem im_X8_setVar : Cond.instanceMethod yX8_setVar ∈ lw_all := lw_t4 (i := 107) (by decide +kernel) rfl
theorem se_X8_setVar : Cond.selects RX8 yX8_setVar yX8_setVar ∈ lw_all := lw_t4 (i := 108) (by decide +kernel) rfl
theorem co_X8_setVar : Cond.code yX8_setVar cX8_setVar 5 none ∈ lw_all := lw_t4 (i := 109) rfl rfl
theorem cs_X11_179 : Cond.constant RX11 179 (1000000) ∈ lw_all := lw_t4 (i := 110) (by decide +kernel) rfl
theorem ml_X11_180 : Cond.methodLink RX11 180 yX10_isWorking ∈ lw_all := lw_t4 (i := 111) (by decide +kernel) rfl
theorem im_X10_isWorking : Cond.instanceMethod yX10_isWorking ∈ lw_all := lw_t4 (i := 112) (by decide +kernel) rfl
theorem se_X10_isWorking : Cond.selects RX10 yX10_isWorking yX10_isWorking ∈ lw_all := lw_t4 (i := 113) (by decide +kernel) rfl
theorem co_X10_isWorking : Cond.code yX10_isWorking cX10_isWorking 1 (some .boolean) ∈ lw_all := lw_t4 (i := 114) rfl rfl
theorem ml_X11_184 : Cond.methodLink RX11 184 yX10_step ∈ lw_all := lw_t4 (i := 115) (by decide +kernel) rfl
theorem im_X10_step : Cond.instanceMethod yX10_step ∈ lw_all := lw_t4 (i := 116) (by decide +kernel) rfl
theorem se_X10_step : Cond.selects RX10 yX10_step yX10_step ∈ lw_all := lw_t4 (i := 117) (by decide +kernel) rfl
theorem co_X10_step : Cond.code yX10_step cX10_step 4 none ∈ lw_all := lw_t4 (i := 118) rfl rfl
theorem ml_X10_146 : Cond.methodLink RX10 146 yX3_stepAt ∈ lw_all := lw_t4 (i := 119) (by decide +kernel) rfl
theorem im_X3_stepAt : Cond.instanceMethod yX3_stepAt ∈ lw_all := lw_t4 (i := 120) (by decide +kernel) rfl
theorem se_X3_stepAt : Cond.selects RX3 yX3_stepAt yX3_stepAt ∈ lw_all := lw_t4 (i := 121) (by decide +kernel) rfl
theorem co_X3_stepAt : Cond.code yX3_stepAt cX3_stepAt 2 (some .int) ∈ lw_all := lw_t4 (i := 122) rfl rfl
theorem ml_X10_149 : Cond.methodLink RX10 149 yX3_markAt ∈ lw_all := lw_t4 (i := 123) (by decide +kernel) rfl
theorem im_X3_markAt : Cond.instanceMethod yX3_markAt ∈ lw_all := lw_t4 (i := 124) (by decide +kernel) rfl
theorem se_X3_markAt : Cond.selects RX3 yX3_markAt yX3_markAt ∈ lw_all := lw_t4 (i := 125) (by decide +kernel) rfl
theorem co_X3_markAt : Cond.code yX3_markAt cX3_markAt 2 (some .int) ∈ lw_all := lw_t4 (i := 126) rfl rfl
theorem ml_X10_152 : Cond.methodLink RX10 152 yX3_bitsAt ∈ lw_all := lw_t4 (i := 127) (by decide +kernel) rfl
theorem im_X3_bitsAt : Cond.instanceMethod yX3_bitsAt ∈ lw_all := lw_t4 (i := 128) (by decide +kernel) rfl
theorem se_X3_bitsAt : Cond.selects RX3 yX3_bitsAt yX3_bitsAt ∈ lw_all := lw_t4 (i := 129) (by decide +kernel) rfl
theorem co_X3_bitsAt : Cond.code yX3_bitsAt cX3_bitsAt 2 (some .int) ∈ lw_all := lw_t4 (i := 130) rfl rfl
theorem ml_X10_155 : Cond.methodLink RX10 155 yX8_push ∈ lw_all := lw_t4 (i := 131) (by decide +kernel) rfl
theorem im_X8_push : Cond.instanceMethod yX8_push ∈ lw_all := lw_t4 (i := 132) (by decide +kernel) rfl
theorem se_X8_push : Cond.selects RX8 yX8_push yX8_push ∈ lw_all := lw_t4 (i := 133) (by decide +kernel) rfl
theorem co_X8_push : Cond.code yX8_push cX8_push 3 none ∈ lw_all := lw_t4 (i := 134) rfl rfl
theorem ml_X10_159 : Cond.methodLink RX10 159 yX8_varAt ∈ lw_all := lw_t4 (i := 135) (by decide +kernel) rfl
theorem im_X8_varAt : Cond.instanceMethod yX8_varAt ∈ lw_all := lw_t4 (i := 136) (by decide +kernel) rfl
theorem se_X8_varAt : Cond.selects RX8 yX8_varAt yX8_varAt ∈ lw_all := lw_t4 (i := 137) (by decide +kernel) rfl
theorem co_X8_varAt : Cond.code yX8_varAt cX8_varAt 3 (some .long) ∈ lw_all := lw_t4 (i := 138) rfl rfl
theorem ml_X10_163 : Cond.methodLink RX10 163 yX10_reckon ∈ lw_all := lw_t4 (i := 139) (by decide +kernel) rfl
theorem im_X10_reckon : Cond.instanceMethod yX10_reckon ∈ lw_all := lw_t4 (i := 141) (by decide +kernel) rfl
theorem co_X10_reckon : Cond.code yX10_reckon cX10_reckon 6 none ∈ lw_all := lw_t4 (i := 142) rfl rfl
theorem ml_X10_212 : Cond.methodLink RX10 212 yX8_popNum ∈ lw_all := lw_t4 (i := 143) (by decide +kernel) rfl
theorem im_X8_popNum : Cond.instanceMethod yX8_popNum ∈ lw_all := lw_t4 (i := 144) (by decide +kernel) rfl
theorem se_X8_popNum : Cond.selects RX8 yX8_popNum yX8_popNum ∈ lw_all := lw_t4 (i := 145) (by decide +kernel) rfl
theorem co_X8_popNum : Cond.code yX8_popNum cX8_popNum 1 (some .long) ∈ lw_all := lw_t4 (i := 146) rfl rfl
theorem ml_X8_53 : Cond.methodLink RX8 53 yX8_pop ∈ lw_all := lw_t4 (i := 147) (by decide +kernel) rfl
theorem im_X8_pop : Cond.instanceMethod yX8_pop ∈ lw_all := lw_t4 (i := 148) (by decide +kernel) rfl
theorem se_X8_pop : Cond.selects RX8 yX8_pop yX8_pop ∈ lw_all := lw_t4 (i := 149) (by decide +kernel) rfl
theorem co_X8_pop : Cond.code yX8_pop cX8_pop 1 (some .long) ∈ lw_all := lw_t4 (i := 150) rfl rfl
theorem ml_X8_57 : Cond.methodLink RX8 57 yX8_num ∈ lw_all := lw_t4 (i := 151) (by decide +kernel) rfl
theorem im_X8_num : Cond.instanceMethod yX8_num ∈ lw_all := lw_t4 (i := 152) (by decide +kernel) rfl
theorem se_X8_num : Cond.selects RX8 yX8_num yX8_num ∈ lw_all := lw_t4 (i := 153) (by decide +kernel) rfl
theorem co_X8_num : Cond.code yX8_num cX8_num 6 (some .long) ∈ lw_all := lw_t4 (i := 154) rfl rfl
theorem ml_X8_95 : Cond.methodLink RX8 95 yX8_firstOf ∈ lw_all := lw_t4 (i := 155) (by decide +kernel) rfl
theorem im_X8_firstOf : Cond.instanceMethod yX8_firstOf ∈ lw_all := lw_t4 (i := 156) (by decide +kernel) rfl
theorem se_X8_firstOf : Cond.selects RX8 yX8_firstOf yX8_firstOf ∈ lw_all := lw_t4 (i := 157) (by decide +kernel) rfl
theorem co_X8_firstOf : Cond.code yX8_firstOf cX8_firstOf 3 (some .long) ∈ lw_all := lw_t4 (i := 158) rfl rfl
theorem ml_X10_215 : Cond.methodLink RX10 215 yX0_isKnown ∈ lw_all := lw_t4 (i := 159) (by decide +kernel) rfl
theorem st_X0_isKnown : Cond.static yX0_isKnown ∈ lw_all := lw_t4 (i := 160) (by decide +kernel) rfl
theorem co_X0_isKnown : Cond.code yX0_isKnown cX0_isKnown 2 (some .boolean) ∈ lw_all := lw_t4 (i := 161) rfl rfl
theorem ml_X10_247 : Cond.methodLink RX10 247 yX0_apply ∈ lw_all := lw_t4 (i := 162) (by decide +kernel) rfl
theorem st_X0_apply : Cond.static yX0_apply ∈ lw_all := lw_t4 (i := 163) (by decide +kernel) rfl
theorem co_X0_apply : Cond.code yX0_apply cX0_apply 8 (some .long) ∈ lw_all := lw_t4 (i := 164) rfl rfl
theorem ml_X0_11 : Cond.methodLink RX0 11 yX0_cut ∈ lw_all := lw_t4 (i := 165) (by decide +kernel) rfl
theorem st_X0_cut : Cond.static yX0_cut ∈ lw_all := lw_t4 (i := 166) (by decide +kernel) rfl
theorem co_X0_cut : Cond.code yX0_cut cX0_cut 5 (some .int) ∈ lw_all := lw_t4 (i := 167) rfl rfl
theorem cs_X0_51 : Cond.constant RX0 51 (-2147483648) ∈ lw_all := lw_t4 (i := 168) (by decide +kernel) rfl
theorem ml_X0_15 : Cond.methodLink RX0 15 yX0_rest ∈ lw_all := lw_t4 (i := 169) (by decide +kernel) rfl
theorem st_X0_rest : Cond.static yX0_rest ∈ lw_all := lw_t4 (i := 170) (by decide +kernel) rfl
theorem co_X0_rest : Cond.code yX0_rest cX0_rest 2 (some .int) ∈ lw_all := lw_t4 (i := 171) rfl rfl
theorem ml_X0_19 : Cond.methodLink RX0 19 yX0_make ∈ lw_all := lw_t4 (i := 172) (by decide +kernel) rfl
theorem ml_X0_29 : Cond.methodLink RX0 29 yX0_applyInts ∈ lw_all := lw_t4 (i := 173) (by decide +kernel) rfl
theorem st_X0_applyInts : Cond.static yX0_applyInts ∈ lw_all := lw_t4 (i := 174) (by decide +kernel) rfl
theorem co_X0_applyInts : Cond.code yX0_applyInts cX0_applyInts 3 (some .int) ∈ lw_all := lw_t4 (i := 175) rfl rfl
theorem ml_X0_33 : Cond.methodLink RX0 33 yX0_floatBits ∈ lw_all := lw_t4 (i := 176) (by decide +kernel) rfl
theorem ml_X0_40 : Cond.methodLink RX0 40 yX0_isBelow ∈ lw_all := lw_t4 (i := 177) (by decide +kernel) rfl
theorem st_X0_isBelow : Cond.static yX0_isBelow ∈ lw_all := lw_t4 (i := 178) (by decide +kernel) rfl
theorem co_X0_isBelow : Cond.code yX0_isBelow cX0_isBelow 2 (some .boolean) ∈ lw_all := lw_t4 (i := 179) rfl rfl
theorem ml_X0_72 : Cond.methodLink RX0 72 yX0_ordered ∈ lw_all := lw_t4 (i := 180) (by decide +kernel) rfl
theorem st_X0_ordered : Cond.static yX0_ordered ∈ lw_all := lw_t4 (i := 181) (by decide +kernel) rfl
theorem co_X0_ordered : Cond.code yX0_ordered cX0_ordered 1 (some .int) ∈ lw_all := lw_t4 (i := 182) rfl rfl
theorem ml_X0_44 : Cond.methodLink RX0 44 yX0_isEqual ∈ lw_all := lw_t4 (i := 183) (by decide +kernel) rfl
theorem st_X0_isEqual : Cond.static yX0_isEqual ∈ lw_all := lw_t4 (i := 184) (by decide +kernel) rfl
theorem co_X0_isEqual : Cond.code yX0_isEqual cX0_isEqual 2 (some .boolean) ∈ lw_all := lw_t4 (i := 185) rfl rfl
theorem ml_X0_48 : Cond.methodLink RX0 48 yX0_add ∈ lw_all := lw_t4 (i := 186) (by decide +kernel) rfl
theorem st_X0_add : Cond.static yX0_add ∈ lw_all := lw_t4 (i := 187) (by decide +kernel) rfl
theorem co_X0_add : Cond.code yX0_add cX0_add 8 (some .int) ∈ lw_all := lw_t4 (i := 188) rfl rfl
theorem ml_X0_52 : Cond.methodLink RX0 52 yX0_multiply ∈ lw_all := lw_t4 (i := 189) (by decide +kernel) rfl
theorem st_X0_multiply : Cond.static yX0_multiply ∈ lw_all := lw_t4 (i := 190) (by decide +kernel) rfl
theorem co_X0_multiply : Cond.code yX0_multiply cX0_multiply 5 (some .int) ∈ lw_all := lw_t4 (i := 191) rfl rfl
theorem ml_X0_55 : Cond.methodLink RX0 55 yX0_divide ∈ lw_all := lw_t4 (i := 192) (by decide +kernel) rfl
theorem ml_X10_191 : Cond.methodLink RX10 191 yX10_leave ∈ lw_all := lw_t4 (i := 193) (by decide +kernel) rfl
theorem im_X10_leave : Cond.instanceMethod yX10_leave ∈ lw_all := lw_t4 (i := 195) (by decide +kernel) rfl
theorem co_X10_leave : Cond.code yX10_leave cX10_leave 8 (some .long) ∈ lw_all := lw_t4 (i := 196) rfl rfl
theorem ml_X10_223 : Cond.methodLink RX10 223 yX5_addInstruction ∈ lw_all := lw_t4 (i := 197) (by decide +kernel) rfl
theorem im_X5_addInstruction : Cond.instanceMethod yX5_addInstruction ∈ lw_all := lw_t4 (i := 198) (by decide +kernel) rfl
theorem se_X5_addInstruction : Cond.selects RX5 yX5_addInstruction yX5_addInstruction ∈ lw_all := lw_t4 (i := 199) (by decide +kernel) rfl
theorem co_X5_addInstruction : Cond.code yX5_addInstruction cX5_addInstruction 9 (some .int) ∈ lw_all := lw_t4 (i := 200) rfl rfl
theorem ml_X10_227 : Cond.methodLink RX10 227 yX10_breakOff ∈ lw_all := lw_t4 (i := 201) (by decide +kernel) rfl
theorem im_X10_breakOff : Cond.instanceMethod yX10_breakOff ∈ lw_all := lw_t4 (i := 203) (by decide +kernel) rfl
theorem co_X10_breakOff : Cond.code yX10_breakOff cX10_breakOff 2 none ∈ lw_all := lw_t4 (i := 204) rfl rfl
theorem ml_X10_230 : Cond.methodLink RX10 230 yX5_setOperand ∈ lw_all := lw_t4 (i := 205) (by decide +kernel) rfl
theorem im_X5_setOperand : Cond.instanceMethod yX5_setOperand ∈ lw_all := lw_t4 (i := 206) (by decide +kernel) rfl
theorem se_X5_setOperand : Cond.selects RX5 yX5_setOperand yX5_setOperand ∈ lw_all := lw_t4 (i := 207) (by decide +kernel) rfl
theorem co_X5_setOperand : Cond.code yX5_setOperand cX5_setOperand 5 none ∈ lw_all := lw_t4 (i := 208) rfl rfl
theorem ml_X10_234 : Cond.methodLink RX10 234 yX5_cell ∈ lw_all := lw_t4 (i := 209) (by decide +kernel) rfl
theorem im_X5_cell : Cond.instanceMethod yX5_cell ∈ lw_all := lw_t4 (i := 210) (by decide +kernel) rfl
theorem se_X5_cell : Cond.selects RX5 yX5_cell yX5_cell ∈ lw_all := lw_t4 (i := 211) (by decide +kernel) rfl
theorem co_X5_cell : Cond.code yX5_cell cX5_cell 3 (some .int) ∈ lw_all := lw_t4 (i := 212) rfl rfl
theorem ml_X10_166 : Cond.methodLink RX10 166 yX10_turn ∈ lw_all := lw_t4 (i := 213) (by decide +kernel) rfl
theorem im_X10_turn : Cond.instanceMethod yX10_turn ∈ lw_all := lw_t4 (i := 215) (by decide +kernel) rfl
theorem co_X10_turn : Cond.code yX10_turn cX10_turn 5 none ∈ lw_all := lw_t4 (i := 216) rfl rfl
theorem ml_X10_251 : Cond.methodLink RX10 251 yX0_turn ∈ lw_all := lw_t4 (i := 217) (by decide +kernel) rfl
theorem st_X0_turn : Cond.static yX0_turn ∈ lw_all := lw_t4 (i := 218) (by decide +kernel) rfl
theorem co_X0_turn : Cond.code yX0_turn cX0_turn 3 (some .long) ∈ lw_all := lw_t4 (i := 219) rfl rfl
theorem ml_X10_169 : Cond.methodLink RX10 169 yX10_takePart ∈ lw_all := lw_t4 (i := 220) (by decide +kernel) rfl
theorem im_X10_takePart : Cond.instanceMethod yX10_takePart ∈ lw_all := lw_t4 (i := 222) (by decide +kernel) rfl
theorem co_X10_takePart : Cond.code yX10_takePart cX10_takePart 5 none ∈ lw_all := lw_t4 (i := 223) rfl rfl
theorem ml_X10_135 : Cond.methodLink RX10 135 yX8_pop ∈ lw_all := lw_t4 (i := 224) (by decide +kernel) rfl
theorem ml_X10_253 : Cond.methodLink RX10 253 yX0_kind ∈ lw_all := lw_t4 (i := 225) (by decide +kernel) rfl
theorem ml_X10_241 : Cond.methodLink RX10 241 yX8_firstOf ∈ lw_all := lw_t4 (i := 226) (by decide +kernel) rfl
theorem ml_X10_244 : Cond.methodLink RX10 244 yX8_secondOf ∈ lw_all := lw_t4 (i := 227) (by decide +kernel) rfl
theorem im_X8_secondOf : Cond.instanceMethod yX8_secondOf ∈ lw_all := lw_t4 (i := 228) (by decide +kernel) rfl
theorem se_X8_secondOf : Cond.selects RX8 yX8_secondOf yX8_secondOf ∈ lw_all := lw_t4 (i := 229) (by decide +kernel) rfl
theorem co_X8_secondOf : Cond.code yX8_secondOf cX8_secondOf 3 (some .long) ∈ lw_all := lw_t4 (i := 230) rfl rfl
theorem ml_X10_172 : Cond.methodLink RX10 172 yX10_makePair ∈ lw_all := lw_t4 (i := 231) (by decide +kernel) rfl
theorem im_X10_makePair : Cond.instanceMethod yX10_makePair ∈ lw_all := lw_t4 (i := 233) (by decide +kernel) rfl
theorem co_X10_makePair : Cond.code yX10_makePair cX10_makePair 5 none ∈ lw_all := lw_t4 (i := 234) rfl rfl
theorem ml_X10_257 : Cond.methodLink RX10 257 yX8_isTooHeavy ∈ lw_all := lw_t4 (i := 235) (by decide +kernel) rfl
theorem im_X8_isTooHeavy : Cond.instanceMethod yX8_isTooHeavy ∈ lw_all := lw_t4 (i := 236) (by decide +kernel) rfl
theorem se_X8_isTooHeavy : Cond.selects RX8 yX8_isTooHeavy yX8_isTooHeavy ∈ lw_all := lw_t4 (i := 237) (by decide +kernel) rfl
theorem co_X8_isTooHeavy : Cond.code yX8_isTooHeavy cX8_isTooHeavy 5 (some .boolean) ∈ lw_all := lw_t4 (i := 238) rfl rfl
theorem ml_X10_261 : Cond.methodLink RX10 261 yX8_pair ∈ lw_all := lw_t4 (i := 239) (by decide +kernel) rfl
theorem ml_X10_175 : Cond.methodLink RX10 175 yX10_test ∈ lw_all := lw_t5 (i := 0) (by decide +kernel) rfl
theorem im_X10_test : Cond.instanceMethod yX10_test ∈ lw_all := lw_t5 (i := 2) (by decide +kernel) rfl
theorem co_X10_test : Cond.code yX10_test cX10_test 5 none ∈ lw_all := lw_t5 (i := 3) rfl rfl
theorem ml_X10_265 : Cond.methodLink RX10 265 yX10_openBranch ∈ lw_all := lw_t5 (i := 4) (by decide +kernel) rfl
theorem im_X10_openBranch : Cond.instanceMethod yX10_openBranch ∈ lw_all := lw_t5 (i := 6) (by decide +kernel) rfl
theorem co_X10_openBranch : Cond.code yX10_openBranch cX10_openBranch 4 none ∈ lw_all := lw_t5 (i := 7) rfl rfl
theorem ml_X10_272 : Cond.methodLink RX10 272 yX10_setBranch ∈ lw_all := lw_t5 (i := 8) (by decide +kernel) rfl
theorem im_X10_setBranch : Cond.instanceMethod yX10_setBranch ∈ lw_all := lw_t5 (i := 10) (by decide +kernel) rfl
theorem co_X10_setBranch : Cond.code yX10_setBranch cX10_setBranch 3 none ∈ lw_all := lw_t5 (i := 11) rfl rfl
theorem ml_X10_269 : Cond.methodLink RX10 269 yX0_isTrue ∈ lw_all := lw_t5 (i := 12) (by decide +kernel) rfl
theorem st_X0_isTrue : Cond.static yX0_isTrue ∈ lw_all := lw_t5 (i := 13) (by decide +kernel) rfl
theorem co_X0_isTrue : Cond.code yX0_isTrue cX0_isTrue 2 (some .boolean) ∈ lw_all := lw_t5 (i := 14) rfl rfl
theorem ml_X10_178 : Cond.methodLink RX10 178 yX10_endThen ∈ lw_all := lw_t5 (i := 15) (by decide +kernel) rfl
theorem im_X10_endThen : Cond.instanceMethod yX10_endThen ∈ lw_all := lw_t5 (i := 17) (by decide +kernel) rfl
theorem co_X10_endThen : Cond.code yX10_endThen cX10_endThen 2 none ∈ lw_all := lw_t5 (i := 18) rfl rfl
theorem ml_X10_280 : Cond.methodLink RX10 280 yX10_branch ∈ lw_all := lw_t5 (i := 19) (by decide +kernel) rfl
theorem im_X10_branch : Cond.instanceMethod yX10_branch ∈ lw_all := lw_t5 (i := 21) (by decide +kernel) rfl
theorem co_X10_branch : Cond.code yX10_branch cX10_branch 2 (some .int) ∈ lw_all := lw_t5 (i := 22) rfl rfl
theorem ml_X10_283 : Cond.methodLink RX10 283 yX10_closeBranch ∈ lw_all := lw_t5 (i := 23) (by decide +kernel) rfl
theorem im_X10_closeBranch : Cond.instanceMethod yX10_closeBranch ∈ lw_all := lw_t5 (i := 25) (by decide +kernel) rfl
theorem co_X10_closeBranch : Cond.code yX10_closeBranch cX10_closeBranch 1 none ∈ lw_all := lw_t5 (i := 26) rfl rfl
theorem ml_X10_275 : Cond.methodLink RX10 275 yJ9_max_7cf53 ∈ lw_all := lw_t5 (i := 27) (by decide +kernel) rfl
theorem ml_X10_139 : Cond.methodLink RX10 139 yX10_lift ∈ lw_all := lw_t5 (i := 28) (by decide +kernel) rfl
theorem im_X10_lift : Cond.instanceMethod yX10_lift ∈ lw_all := lw_t5 (i := 30) (by decide +kernel) rfl
theorem co_X10_lift : Cond.code yX10_lift cX10_lift 8 (some .long) ∈ lw_all := lw_t5 (i := 31) rfl rfl
theorem ml_X10_238 : Cond.methodLink RX10 238 yX8_isPair ∈ lw_all := lw_t5 (i := 32) (by decide +kernel) rfl
theorem ml_X10_143 : Cond.methodLink RX10 143 yX5_endBlock ∈ lw_all := lw_t5 (i := 33) (by decide +kernel) rfl
theorem im_X5_endBlock : Cond.instanceMethod yX5_endBlock ∈ lw_all := lw_t5 (i := 34) (by decide +kernel) rfl
theorem se_X5_endBlock : Cond.selects RX5 yX5_endBlock yX5_endBlock ∈ lw_all := lw_t5 (i := 35) (by decide +kernel) rfl
theorem co_X5_endBlock : Cond.code yX5_endBlock cX5_endBlock 4 none ∈ lw_all := lw_t5 (i := 36) rfl rfl
theorem ml_X5_93 : Cond.methodLink RX5 93 yX5_isBlock ∈ lw_all := lw_t5 (i := 37) (by decide +kernel) rfl
theorem im_X5_isBlock : Cond.instanceMethod yX5_isBlock ∈ lw_all := lw_t5 (i := 39) (by decide +kernel) rfl
theorem co_X5_isBlock : Cond.code yX5_isBlock cX5_isBlock 2 (some .boolean) ∈ lw_all := lw_t5 (i := 40) rfl rfl
theorem ml_X10_181 : Cond.methodLink RX10 181 yX10_endElse ∈ lw_all := lw_t5 (i := 41) (by decide +kernel) rfl
theorem im_X10_endElse : Cond.instanceMethod yX10_endElse ∈ lw_all := lw_t5 (i := 43) (by decide +kernel) rfl
theorem co_X10_endElse : Cond.code yX10_endElse cX10_endElse 7 none ∈ lw_all := lw_t5 (i := 44) rfl rfl
theorem ml_X10_289 : Cond.methodLink RX10 289 yX5_setCell ∈ lw_all := lw_t5 (i := 45) (by decide +kernel) rfl
theorem im_X5_setCell : Cond.instanceMethod yX5_setCell ∈ lw_all := lw_t5 (i := 46) (by decide +kernel) rfl
theorem se_X5_setCell : Cond.selects RX5 yX5_setCell yX5_setCell ∈ lw_all := lw_t5 (i := 47) (by decide +kernel) rfl
theorem co_X5_setCell : Cond.code yX5_setCell cX5_setCell 4 none ∈ lw_all := lw_t5 (i := 48) rfl rfl
theorem ml_X10_292 : Cond.methodLink RX10 292 yX5_endOf ∈ lw_all := lw_t5 (i := 49) (by decide +kernel) rfl
theorem im_X5_endOf : Cond.instanceMethod yX5_endOf ∈ lw_all := lw_t5 (i := 50) (by decide +kernel) rfl
theorem se_X5_endOf : Cond.selects RX5 yX5_endOf yX5_endOf ∈ lw_all := lw_t5 (i := 51) (by decide +kernel) rfl
theorem co_X5_endOf : Cond.code yX5_endOf cX5_endOf 2 (some .long) ∈ lw_all := lw_t5 (i := 52) rfl rfl
theorem ml_X10_184 : Cond.methodLink RX10 184 yX8_fromTop ∈ lw_all := lw_t5 (i := 53) (by decide +kernel) rfl
theorem im_X8_fromTop : Cond.instanceMethod yX8_fromTop ∈ lw_all := lw_t5 (i := 54) (by decide +kernel) rfl
theorem se_X8_fromTop : Cond.selects RX8 yX8_fromTop yX8_fromTop ∈ lw_all := lw_t5 (i := 55) (by decide +kernel) rfl
theorem co_X8_fromTop : Cond.code yX8_fromTop cX8_fromTop 3 (some .long) ∈ lw_all := lw_t5 (i := 56) rfl rfl
theorem ml_X10_187 : Cond.methodLink RX10 187 yX8_num ∈ lw_all := lw_t5 (i := 57) (by decide +kernel) rfl
theorem ml_X10_195 : Cond.methodLink RX10 195 yX10_putAt ∈ lw_all := lw_t5 (i := 58) (by decide +kernel) rfl
theorem im_X10_putAt : Cond.instanceMethod yX10_putAt ∈ lw_all := lw_t5 (i := 60) (by decide +kernel) rfl
theorem co_X10_putAt : Cond.code yX10_putAt cX10_putAt 6 none ∈ lw_all := lw_t5 (i := 61) rfl rfl
theorem ml_X10_219 : Cond.methodLink RX10 219 yX0_stored ∈ lw_all := lw_t5 (i := 62) (by decide +kernel) rfl
theorem st_X0_stored : Cond.static yX0_stored ∈ lw_all := lw_t5 (i := 63) (by decide +kernel) rfl
theorem co_X0_stored : Cond.code yX0_stored cX0_stored 3 (some .long) ∈ lw_all := lw_t5 (i := 64) rfl rfl
theorem ml_X10_198 : Cond.methodLink RX10 198 yX10_workCall ∈ lw_all := lw_t5 (i := 65) (by decide +kernel) rfl
theorem im_X10_workCall : Cond.instanceMethod yX10_workCall ∈ lw_all := lw_t5 (i := 67) (by decide +kernel) rfl
theorem co_X10_workCall : Cond.code yX10_workCall cX10_workCall 4 (some .boolean) ∈ lw_all := lw_t5 (i := 68) rfl rfl
theorem ml_X10_295 : Cond.methodLink RX10 295 yX8_drop ∈ lw_all := lw_t5 (i := 69) (by decide +kernel) rfl
theorem im_X8_drop : Cond.instanceMethod yX8_drop ∈ lw_all := lw_t5 (i := 70) (by decide +kernel) rfl
theorem se_X8_drop : Cond.selects RX8 yX8_drop yX8_drop ∈ lw_all := lw_t5 (i := 71) (by decide +kernel) rfl
theorem co_X8_drop : Cond.code yX8_drop cX8_drop 2 none ∈ lw_all := lw_t5 (i := 72) rfl rfl
theorem ml_X10_304 : Cond.methodLink RX10 304 yX8_openFrame ∈ lw_all := lw_t5 (i := 73) (by decide +kernel) rfl
theorem im_X8_openFrame : Cond.instanceMethod yX8_openFrame ∈ lw_all := lw_t5 (i := 74) (by decide +kernel) rfl
theorem se_X8_openFrame : Cond.selects RX8 yX8_openFrame yX8_openFrame ∈ lw_all := lw_t5 (i := 75) (by decide +kernel) rfl
theorem co_X8_openFrame : Cond.code yX8_openFrame cX8_openFrame 3 none ∈ lw_all := lw_t5 (i := 76) rfl rfl
theorem ml_X8_71 : Cond.methodLink RX8 71 yX8_bindArguments ∈ lw_all := lw_t5 (i := 77) (by decide +kernel) rfl
theorem im_X8_bindArguments : Cond.instanceMethod yX8_bindArguments ∈ lw_all := lw_t5 (i := 78) (by decide +kernel) rfl
theorem se_X8_bindArguments : Cond.selects RX8 yX8_bindArguments yX8_bindArguments ∈ lw_all := lw_t5 (i := 79) (by decide +kernel) rfl
theorem co_X8_bindArguments : Cond.code yX8_bindArguments cX8_bindArguments 3 none ∈ lw_all := lw_t5 (i := 80) rfl rfl
theorem ml_X8_67 : Cond.methodLink RX8 67 yX8_setVar ∈ lw_all := lw_t5 (i := 81) (by decide +kernel) rfl
theorem ml_X10_202 : Cond.methodLink RX10 202 yX10_shapeCall ∈ lw_all := lw_t5 (i := 82) (by decide +kernel) rfl
theorem im_X10_shapeCall : Cond.instanceMethod yX10_shapeCall ∈ lw_all := lw_t5 (i := 84) (by decide +kernel) rfl
theorem co_X10_shapeCall : Cond.code yX10_shapeCall cX10_shapeCall 6 none ∈ lw_all := lw_t5 (i := 85) rfl rfl
theorem ml_X10_307 : Cond.methodLink RX10 307 yX2_begin ∈ lw_all := lw_t5 (i := 86) (by decide +kernel) rfl
theorem ml_X10_310 : Cond.methodLink RX10 310 yX8_flatten ∈ lw_all := lw_t5 (i := 87) (by decide +kernel) rfl
theorem im_X8_flatten : Cond.instanceMethod yX8_flatten ∈ lw_all := lw_t5 (i := 88) (by decide +kernel) rfl
theorem se_X8_flatten : Cond.selects RX8 yX8_flatten yX8_flatten ∈ lw_all := lw_t5 (i := 89) (by decide +kernel) rfl
theorem co_X8_flatten : Cond.code yX8_flatten cX8_flatten 9 none ∈ lw_all := lw_t5 (i := 90) rfl rfl
theorem cs_X8_116 : Cond.constantLong RX8 116 (8589934592) ∈ lw_all := lw_t5 (i := 91) (by decide +kernel) rfl
theorem ml_X8_118 : Cond.methodLink RX8 118 yX2_add ∈ lw_all := lw_t5 (i := 92) (by decide +kernel) rfl
theorem cs_X8_122 : Cond.constantLong RX8 122 (17179869184) ∈ lw_all := lw_t5 (i := 93) (by decide +kernel) rfl
theorem ml_X10_317 : Cond.methodLink RX10 317 yX2_growBeside ∈ lw_all := lw_t5 (i := 94) (by decide +kernel) rfl
theorem im_X2_growBeside : Cond.instanceMethod yX2_growBeside ∈ lw_all := lw_t5 (i := 95) (by decide +kernel) rfl
theorem se_X2_growBeside : Cond.selects RX2 yX2_growBeside yX2_growBeside ∈ lw_all := lw_t5 (i := 96) (by decide +kernel) rfl
theorem co_X2_growBeside : Cond.code yX2_growBeside cX2_growBeside 8 (some .int) ∈ lw_all := lw_t5 (i := 97) rfl rfl
theorem ml_X2_51 : Cond.methodLink RX2 51 yX2_behind ∈ lw_all := lw_t5 (i := 98) (by decide +kernel) rfl
theorem im_X2_behind : Cond.instanceMethod yX2_behind ∈ lw_all := lw_t5 (i := 99) (by decide +kernel) rfl
theorem se_X2_behind : Cond.selects RX2 yX2_behind yX2_behind ∈ lw_all := lw_t5 (i := 100) (by decide +kernel) rfl
theorem co_X2_behind : Cond.code yX2_behind cX2_behind 4 (some .int) ∈ lw_all := lw_t5 (i := 101) rfl rfl
theorem ml_X2_45 : Cond.methodLink RX2 45 yJ9_max_7cf53 ∈ lw_all := lw_t5 (i := 102) (by decide +kernel) rfl
theorem cs_X2_55 : Cond.constantLong RX2 55 (8589934592) ∈ lw_all := lw_t5 (i := 103) (by decide +kernel) rfl
theorem ml_X2_57 : Cond.methodLink RX2 57 yX2_isGrown ∈ lw_all := lw_t5 (i := 104) (by decide +kernel) rfl
theorem st_X2_isGrown : Cond.static yX2_isGrown ∈ lw_all := lw_t5 (i := 105) (by decide +kernel) rfl
theorem co_X2_isGrown : Cond.code yX2_isGrown cX2_isGrown 5 (some .boolean) ∈ lw_all := lw_t5 (i := 106) rfl rfl
theorem ml_X2_41 : Cond.methodLink RX2 41 yX0_isKnown ∈ lw_all := lw_t5 (i := 107) (by decide +kernel) rfl
theorem ml_X2_63 : Cond.methodLink RX2 63 yX0_floatBits ∈ lw_all := lw_t5 (i := 108) (by decide +kernel) rfl
theorem cs_X2_66 : Cond.constant RX2 66 (2147483647) ∈ lw_all := lw_t5 (i := 109) (by decide +kernel) rfl
theorem ml_X2_67 : Cond.methodLink RX2 67 yX0_isBelow ∈ lw_all := lw_t5 (i := 110) (by decide +kernel) rfl
theorem cs_X2_61 : Cond.constantLong RX2 61 (17179869184) ∈ lw_all := lw_t5 (i := 111) (by decide +kernel) rfl
theorem ml_X10_321 : Cond.methodLink RX10 321 yX10_swapCalls ∈ lw_all := lw_t5 (i := 112) (by decide +kernel) rfl
theorem im_X10_swapCalls : Cond.instanceMethod yX10_swapCalls ∈ lw_all := lw_t5 (i := 114) (by decide +kernel) rfl
theorem co_X10_swapCalls : Cond.code yX10_swapCalls cX10_swapCalls 2 none ∈ lw_all := lw_t5 (i := 115) rfl rfl
theorem ml_X10_324 : Cond.methodLink RX10 324 yX5_ofVariant ∈ lw_all := lw_t5 (i := 116) (by decide +kernel) rfl
theorem im_X5_ofVariant : Cond.instanceMethod yX5_ofVariant ∈ lw_all := lw_t5 (i := 117) (by decide +kernel) rfl
theorem se_X5_ofVariant : Cond.selects RX5 yX5_ofVariant yX5_ofVariant ∈ lw_all := lw_t5 (i := 118) (by decide +kernel) rfl
theorem co_X5_ofVariant : Cond.code yX5_ofVariant cX5_ofVariant 3 (some .int) ∈ lw_all := lw_t5 (i := 119) rfl rfl
theorem ml_X10_206 : Cond.methodLink RX10 206 yX10_leaveCall ∈ lw_all := lw_t5 (i := 120) (by decide +kernel) rfl
theorem im_X10_leaveCall : Cond.instanceMethod yX10_leaveCall ∈ lw_all := lw_t5 (i := 122) (by decide +kernel) rfl
theorem co_X10_leaveCall : Cond.code yX10_leaveCall cX10_leaveCall 3 none ∈ lw_all := lw_t5 (i := 123) rfl rfl
theorem ml_X10_327 : Cond.methodLink RX10 327 yX5_find ∈ lw_all := lw_t5 (i := 124) (by decide +kernel) rfl
theorem im_X5_find : Cond.instanceMethod yX5_find ∈ lw_all := lw_t5 (i := 125) (by decide +kernel) rfl
theorem se_X5_find : Cond.selects RX5 yX5_find yX5_find ∈ lw_all := lw_t5 (i := 126) (by decide +kernel) rfl
theorem co_X5_find : Cond.code yX5_find cX5_find 3 (some .int) ∈ lw_all := lw_t5 (i := 127) rfl rfl
theorem ml_X5_72 : Cond.methodLink RX5 72 yX2_isSame ∈ lw_all := lw_t5 (i := 128) (by decide +kernel) rfl
theorem im_X2_isSame : Cond.instanceMethod yX2_isSame ∈ lw_all := lw_t5 (i := 129) (by decide +kernel) rfl
theorem se_X2_isSame : Cond.selects RX2 yX2_isSame yX2_isSame ∈ lw_all := lw_t5 (i := 130) (by decide +kernel) rfl
theorem co_X2_isSame : Cond.code yX2_isSame cX2_isSame 3 (some .boolean) ∈ lw_all := lw_t5 (i := 131) rfl rfl
theorem ml_X10_331 : Cond.methodLink RX10 331 yX10_isTooMuch ∈ lw_all := lw_t5 (i := 132) (by decide +kernel) rfl
theorem im_X10_isTooMuch : Cond.instanceMethod yX10_isTooMuch ∈ lw_all := lw_t5 (i := 134) (by decide +kernel) rfl
theorem co_X10_isTooMuch : Cond.code yX10_isTooMuch cX10_isTooMuch 2 (some .boolean) ∈ lw_all := lw_t5 (i := 135) rfl rfl
theorem ml_X10_345 : Cond.methodLink RX10 345 yX5_variantsOf ∈ lw_all := lw_t5 (i := 136) (by decide +kernel) rfl
theorem im_X5_variantsOf : Cond.instanceMethod yX5_variantsOf ∈ lw_all := lw_t5 (i := 137) (by decide +kernel) rfl
theorem se_X5_variantsOf : Cond.selects RX5 yX5_variantsOf yX5_variantsOf ∈ lw_all := lw_t5 (i := 138) (by decide +kernel) rfl
theorem co_X5_variantsOf : Cond.code yX5_variantsOf cX5_variantsOf 4 (some .int) ∈ lw_all := lw_t5 (i := 139) rfl rfl
theorem ml_X10_348 : Cond.methodLink RX10 348 yX2_stars ∈ lw_all := lw_t5 (i := 140) (by decide +kernel) rfl
theorem ml_X10_338 : Cond.methodLink RX10 338 yX2_letAllGo ∈ lw_all := lw_t5 (i := 141) (by decide +kernel) rfl
theorem im_X2_letAllGo : Cond.instanceMethod yX2_letAllGo ∈ lw_all := lw_t5 (i := 142) (by decide +kernel) rfl
theorem se_X2_letAllGo : Cond.selects RX2 yX2_letAllGo yX2_letAllGo ∈ lw_all := lw_t5 (i := 143) (by decide +kernel) rfl
theorem co_X2_letAllGo : Cond.code yX2_letAllGo cX2_letAllGo 3 none ∈ lw_all := lw_t5 (i := 144) rfl rfl
theorem ml_X10_342 : Cond.methodLink RX10 342 yX10_leaveCallTo ∈ lw_all := lw_t5 (i := 145) (by decide +kernel) rfl
theorem im_X10_leaveCallTo : Cond.instanceMethod yX10_leaveCallTo ∈ lw_all := lw_t5 (i := 147) (by decide +kernel) rfl
theorem co_X10_leaveCallTo : Cond.code yX10_leaveCallTo cX10_leaveCallTo 7 none ∈ lw_all := lw_t5 (i := 148) rfl rfl
theorem cs_X10_357 : Cond.constantLong RX10 357 (17179869184) ∈ lw_all := lw_t5 (i := 149) (by decide +kernel) rfl
theorem ml_X10_209 : Cond.methodLink RX10 209 yX10_goBack ∈ lw_all := lw_t5 (i := 150) (by decide +kernel) rfl
theorem im_X10_goBack : Cond.instanceMethod yX10_goBack ∈ lw_all := lw_t5 (i := 152) (by decide +kernel) rfl
theorem co_X10_goBack : Cond.code yX10_goBack cX10_goBack 1 none ∈ lw_all := lw_t5 (i := 153) rfl rfl
theorem ml_X10_132 : Cond.methodLink RX10 132 yX8_closeFrame ∈ lw_all := lw_t5 (i := 154) (by decide +kernel) rfl
theorem im_X8_closeFrame : Cond.instanceMethod yX8_closeFrame ∈ lw_all := lw_t5 (i := 155) (by decide +kernel) rfl
theorem se_X8_closeFrame : Cond.selects RX8 yX8_closeFrame yX8_closeFrame ∈ lw_all := lw_t5 (i := 156) (by decide +kernel) rfl
theorem co_X8_closeFrame : Cond.code yX8_closeFrame cX8_closeFrame 1 (some .int) ∈ lw_all := lw_t5 (i := 157) rfl rfl
theorem ml_X11_187 : Cond.methodLink RX11 187 yX10_answer ∈ lw_all := lw_t5 (i := 158) (by decide +kernel) rfl
theorem im_X10_answer : Cond.instanceMethod yX10_answer ∈ lw_all := lw_t5 (i := 159) (by decide +kernel) rfl
theorem se_X10_answer : Cond.selects RX10 yX10_answer yX10_answer ∈ lw_all := lw_t5 (i := 160) (by decide +kernel) rfl
theorem co_X10_answer : Cond.code yX10_answer cX10_answer 1 (some .int) ∈ lw_all := lw_t5 (i := 161) rfl rfl
theorem ml_L_58 : Cond.methodLink RL 58 yX11_residue ∈ lw_all := lw_t5 (i := 162) (by decide +kernel) rfl
theorem im_X11_residue : Cond.instanceMethod yX11_residue ∈ lw_all := lw_t5 (i := 163) (by decide +kernel) rfl
theorem se_X11_residue : Cond.selects RX11 yX11_residue yX11_residue ∈ lw_all := lw_t5 (i := 164) (by decide +kernel) rfl
theorem co_X11_residue : Cond.code yX11_residue cX11_residue 2 (some .int) ∈ lw_all := lw_t5 (i := 165) rfl rfl
theorem ml_X11_190 : Cond.methodLink RX11 190 yX5_about ∈ lw_all := lw_t5 (i := 166) (by decide +kernel) rfl
theorem im_X5_about : Cond.instanceMethod yX5_about ∈ lw_all := lw_t5 (i := 167) (by decide +kernel) rfl
theorem se_X5_about : Cond.selects RX5 yX5_about yX5_about ∈ lw_all := lw_t5 (i := 168) (by decide +kernel) rfl
theorem co_X5_about : Cond.code yX5_about cX5_about 2 (some .int) ∈ lw_all := lw_t5 (i := 169) rfl rfl
theorem ml_X5_100 : Cond.methodLink RX5 100 yX5_countOf ∈ lw_all := lw_t5 (i := 170) (by decide +kernel) rfl
theorem im_X5_countOf : Cond.instanceMethod yX5_countOf ∈ lw_all := lw_t5 (i := 171) (by decide +kernel) rfl
theorem se_X5_countOf : Cond.selects RX5 yX5_countOf yX5_countOf ∈ lw_all := lw_t5 (i := 172) (by decide +kernel) rfl
theorem co_X5_countOf : Cond.code yX5_countOf cX5_countOf 6 (some .int) ∈ lw_all := lw_t5 (i := 173) rfl rfl
theorem ml_X5_97 : Cond.methodLink RX5 97 yX5_cell ∈ lw_all := lw_t5 (i := 174) (by decide +kernel) rfl
theorem ml_L_62 : Cond.methodLink RL 62 yX11_variant ∈ lw_all := lw_t5 (i := 175) (by decide +kernel) rfl
theorem im_X11_variant : Cond.instanceMethod yX11_variant ∈ lw_all := lw_t5 (i := 176) (by decide +kernel) rfl
theorem se_X11_variant : Cond.selects RX11 yX11_variant yX11_variant ∈ lw_all := lw_t5 (i := 177) (by decide +kernel) rfl
theorem co_X11_variant : Cond.code yX11_variant cX11_variant 3 (some .int) ∈ lw_all := lw_t5 (i := 178) rfl rfl
theorem ml_X11_193 : Cond.methodLink RX11 193 yX5_aboutVariant ∈ lw_all := lw_t5 (i := 179) (by decide +kernel) rfl
theorem im_X5_aboutVariant : Cond.instanceMethod yX5_aboutVariant ∈ lw_all := lw_t5 (i := 180) (by decide +kernel) rfl
theorem se_X5_aboutVariant : Cond.selects RX5 yX5_aboutVariant yX5_aboutVariant ∈ lw_all := lw_t5 (i := 181) (by decide +kernel) rfl
theorem co_X5_aboutVariant : Cond.code yX5_aboutVariant cX5_aboutVariant 3 (some .int) ∈ lw_all := lw_t5 (i := 182) rfl rfl
theorem ml_X5_103 : Cond.methodLink RX5 103 yX5_hasVariant ∈ lw_all := lw_t5 (i := 183) (by decide +kernel) rfl
theorem im_X5_hasVariant : Cond.instanceMethod yX5_hasVariant ∈ lw_all := lw_t5 (i := 184) (by decide +kernel) rfl
theorem se_X5_hasVariant : Cond.selects RX5 yX5_hasVariant yX5_hasVariant ∈ lw_all := lw_t5 (i := 185) (by decide +kernel) rfl
theorem co_X5_hasVariant : Cond.code yX5_hasVariant cX5_hasVariant 2 (some .boolean) ∈ lw_all := lw_t5 (i := 186) rfl rfl
theorem ml_X5_106 : Cond.methodLink RX5 106 yX5_patternOf ∈ lw_all := lw_t5 (i := 187) (by decide +kernel) rfl
theorem ml_X5_110 : Cond.methodLink RX5 110 yX5_ofVariant ∈ lw_all := lw_t5 (i := 188) (by decide +kernel) rfl
theorem ml_X5_113 : Cond.methodLink RX5 113 yX2_numbers ∈ lw_all := lw_t5 (i := 189) (by decide +kernel) rfl
theorem im_X2_numbers : Cond.instanceMethod yX2_numbers ∈ lw_all := lw_t5 (i := 190) (by decide +kernel) rfl
theorem se_X2_numbers : Cond.selects RX2 yX2_numbers yX2_numbers ∈ lw_all := lw_t5 (i := 191) (by decide +kernel) rfl
theorem co_X2_numbers : Cond.code yX2_numbers cX2_numbers 3 (some .int) ∈ lw_all := lw_t5 (i := 192) rfl rfl
theorem ml_L_66 : Cond.methodLink RL 66 yX11_kinds ∈ lw_all := lw_t5 (i := 193) (by decide +kernel) rfl
theorem im_X11_kinds : Cond.instanceMethod yX11_kinds ∈ lw_all := lw_t5 (i := 194) (by decide +kernel) rfl
theorem se_X11_kinds : Cond.selects RX11 yX11_kinds yX11_kinds ∈ lw_all := lw_t5 (i := 195) (by decide +kernel) rfl
theorem co_X11_kinds : Cond.code yX11_kinds cX11_kinds 3 (some .int) ∈ lw_all := lw_t5 (i := 196) rfl rfl
theorem ml_X11_196 : Cond.methodLink RX11 196 yX5_hasVariant ∈ lw_all := lw_t5 (i := 197) (by decide +kernel) rfl
theorem ml_X11_200 : Cond.methodLink RX11 200 yX5_countOf ∈ lw_all := lw_t5 (i := 198) (by decide +kernel) rfl
theorem ml_L_70 : Cond.methodLink RL 70 yX11_run ∈ lw_all := lw_t5 (i := 199) (by decide +kernel) rfl
theorem im_X11_run : Cond.instanceMethod yX11_run ∈ lw_all := lw_t5 (i := 200) (by decide +kernel) rfl
theorem se_X11_run : Cond.selects RX11 yX11_run yX11_run ∈ lw_all := lw_t5 (i := 201) (by decide +kernel) rfl
theorem co_X11_run : Cond.code yX11_run cX11_run 3 (some .int) ∈ lw_all := lw_t5 (i := 202) rfl rfl
theorem ml_X11_203 : Cond.methodLink RX11 203 yX11_canRun ∈ lw_all := lw_t5 (i := 203) (by decide +kernel) rfl
theorem im_X11_canRun : Cond.instanceMethod yX11_canRun ∈ lw_all := lw_t5 (i := 205) (by decide +kernel) rfl
theorem co_X11_canRun : Cond.code yX11_canRun cX11_canRun 2 (some .boolean) ∈ lw_all := lw_t5 (i := 206) rfl rfl
theorem ml_X11_206 : Cond.methodLink RX11 206 yX7_runTask ∈ lw_all := lw_t5 (i := 207) (by decide +kernel) rfl
theorem im_X7_runTask : Cond.instanceMethod yX7_runTask ∈ lw_all := lw_t5 (i := 208) (by decide +kernel) rfl
theorem se_X7_runTask : Cond.selects RX7 yX7_runTask yX7_runTask ∈ lw_all := lw_t5 (i := 209) (by decide +kernel) rfl
theorem co_X7_runTask : Cond.code yX7_runTask cX7_runTask 7 none ∈ lw_all := lw_t5 (i := 210) rfl rfl
theorem ml_X7_38 : Cond.methodLink RX7 38 yX1_clear ∈ lw_all := lw_t5 (i := 211) (by decide +kernel) rfl
theorem im_X1_clear : Cond.instanceMethod yX1_clear ∈ lw_all := lw_t5 (i := 212) (by decide +kernel) rfl
theorem se_X1_clear : Cond.selects RX1 yX1_clear yX1_clear ∈ lw_all := lw_t5 (i := 213) (by decide +kernel) rfl
theorem co_X1_clear : Cond.code yX1_clear cX1_clear 1 none ∈ lw_all := lw_t5 (i := 214) rfl rfl
theorem ml_X7_43 : Cond.methodLink RX7 43 yX8_clear ∈ lw_all := lw_t5 (i := 215) (by decide +kernel) rfl
theorem ml_X7_46 : Cond.methodLink RX7 46 yX8_build ∈ lw_all := lw_t5 (i := 216) (by decide +kernel) rfl
theorem ml_X7_50 : Cond.methodLink RX7 50 yX8_weightOf ∈ lw_all := lw_t5 (i := 217) (by decide +kernel) rfl
theorem ml_X7_57 : Cond.methodLink RX7 57 yX8_push ∈ lw_all := lw_t5 (i := 218) (by decide +kernel) rfl
theorem ml_X7_64 : Cond.methodLink RX7 64 yX7_call ∈ lw_all := lw_t5 (i := 219) (by decide +kernel) rfl
theorem im_X7_call : Cond.instanceMethod yX7_call ∈ lw_all := lw_t5 (i := 221) (by decide +kernel) rfl
theorem co_X7_call : Cond.code yX7_call cX7_call 4 none ∈ lw_all := lw_t5 (i := 222) rfl rfl
theorem ml_X7_160 : Cond.methodLink RX7 160 yX3_startOf ∈ lw_all := lw_t5 (i := 223) (by decide +kernel) rfl
theorem ml_X7_163 : Cond.methodLink RX7 163 yX1_beginCall ∈ lw_all := lw_t5 (i := 224) (by decide +kernel) rfl
theorem im_X1_beginCall : Cond.instanceMethod yX1_beginCall ∈ lw_all := lw_t5 (i := 225) (by decide +kernel) rfl
theorem se_X1_beginCall : Cond.selects RX1 yX1_beginCall yX1_beginCall ∈ lw_all := lw_t5 (i := 226) (by decide +kernel) rfl
theorem co_X1_beginCall : Cond.code yX1_beginCall cX1_beginCall 1 (some .boolean) ∈ lw_all := lw_t5 (i := 227) rfl rfl
theorem ml_X1_55 : Cond.methodLink RX1 55 yJ9_max_7cf53 ∈ lw_all := lw_t5 (i := 228) (by decide +kernel) rfl
theorem ml_X1_61 : Cond.methodLink RX1 61 yX1_isRunning ∈ lw_all := lw_t5 (i := 229) (by decide +kernel) rfl
theorem im_X1_isRunning : Cond.instanceMethod yX1_isRunning ∈ lw_all := lw_t5 (i := 230) (by decide +kernel) rfl
theorem se_X1_isRunning : Cond.selects RX1 yX1_isRunning yX1_isRunning ∈ lw_all := lw_t5 (i := 231) (by decide +kernel) rfl
theorem co_X1_isRunning : Cond.code yX1_isRunning cX1_isRunning 1 (some .boolean) ∈ lw_all := lw_t5 (i := 232) rfl rfl
theorem ml_X7_166 : Cond.methodLink RX7 166 yX8_openFrame ∈ lw_all := lw_t5 (i := 233) (by decide +kernel) rfl
theorem cs_X7_68 : Cond.constant RX7 68 (1000000) ∈ lw_all := lw_t5 (i := 234) (by decide +kernel) rfl
theorem ml_X7_69 : Cond.methodLink RX7 69 yX1_isRunning ∈ lw_all := lw_t5 (i := 235) (by decide +kernel) rfl
theorem ml_X7_73 : Cond.methodLink RX7 73 yX7_step ∈ lw_all := lw_t5 (i := 236) (by decide +kernel) rfl
theorem im_X7_step : Cond.instanceMethod yX7_step ∈ lw_all := lw_t5 (i := 238) (by decide +kernel) rfl
theorem co_X7_step : Cond.code yX7_step cX7_step 8 none ∈ lw_all := lw_t5 (i := 239) rfl rfl
theorem ml_X7_76 : Cond.methodLink RX7 76 yX3_stepAt ∈ lw_all := lw_t6 (i := 0) (by decide +kernel) rfl
theorem ml_X7_82 : Cond.methodLink RX7 82 yX3_markAt ∈ lw_all := lw_t6 (i := 1) (by decide +kernel) rfl
theorem ml_X7_85 : Cond.methodLink RX7 85 yX3_bitsAt ∈ lw_all := lw_t6 (i := 2) (by decide +kernel) rfl
theorem ml_X7_88 : Cond.methodLink RX7 88 yX0_make ∈ lw_all := lw_t6 (i := 3) (by decide +kernel) rfl
theorem ml_X7_94 : Cond.methodLink RX7 94 yX8_varAt ∈ lw_all := lw_t6 (i := 4) (by decide +kernel) rfl
theorem ml_X7_98 : Cond.methodLink RX7 98 yX8_popNum ∈ lw_all := lw_t6 (i := 5) (by decide +kernel) rfl
theorem ml_X7_102 : Cond.methodLink RX7 102 yX0_apply ∈ lw_all := lw_t6 (i := 6) (by decide +kernel) rfl
theorem ml_X7_106 : Cond.methodLink RX7 106 yX0_turn ∈ lw_all := lw_t6 (i := 7) (by decide +kernel) rfl
theorem ml_X7_110 : Cond.methodLink RX7 110 yX8_pop ∈ lw_all := lw_t6 (i := 8) (by decide +kernel) rfl
theorem ml_X7_113 : Cond.methodLink RX7 113 yX8_firstOf ∈ lw_all := lw_t6 (i := 9) (by decide +kernel) rfl
theorem ml_X7_117 : Cond.methodLink RX7 117 yX8_secondOf ∈ lw_all := lw_t6 (i := 10) (by decide +kernel) rfl
theorem ml_X7_120 : Cond.methodLink RX7 120 yX7_makePair ∈ lw_all := lw_t6 (i := 11) (by decide +kernel) rfl
theorem im_X7_makePair : Cond.instanceMethod yX7_makePair ∈ lw_all := lw_t6 (i := 13) (by decide +kernel) rfl
theorem co_X7_makePair : Cond.code yX7_makePair cX7_makePair 5 none ∈ lw_all := lw_t6 (i := 14) rfl rfl
theorem ml_X7_152 : Cond.methodLink RX7 152 yX8_isTooHeavy ∈ lw_all := lw_t6 (i := 15) (by decide +kernel) rfl
theorem ml_X7_156 : Cond.methodLink RX7 156 yX8_pair ∈ lw_all := lw_t6 (i := 16) (by decide +kernel) rfl
theorem ml_X7_123 : Cond.methodLink RX7 123 yX0_isTrue ∈ lw_all := lw_t6 (i := 17) (by decide +kernel) rfl
theorem ml_X7_127 : Cond.methodLink RX7 127 yX8_fromTop ∈ lw_all := lw_t6 (i := 18) (by decide +kernel) rfl
theorem ml_X7_130 : Cond.methodLink RX7 130 yX8_num ∈ lw_all := lw_t6 (i := 19) (by decide +kernel) rfl
theorem ml_X7_133 : Cond.methodLink RX7 133 yX1_writeOut ∈ lw_all := lw_t6 (i := 20) (by decide +kernel) rfl
theorem im_X1_writeOut : Cond.instanceMethod yX1_writeOut ∈ lw_all := lw_t6 (i := 21) (by decide +kernel) rfl
theorem se_X1_writeOut : Cond.selects RX1 yX1_writeOut yX1_writeOut ∈ lw_all := lw_t6 (i := 22) (by decide +kernel) rfl
theorem co_X1_writeOut : Cond.code yX1_writeOut cX1_writeOut 3 none ∈ lw_all := lw_t6 (i := 23) rfl rfl
theorem ml_X7_136 : Cond.methodLink RX7 136 yX0_stored ∈ lw_all := lw_t6 (i := 24) (by decide +kernel) rfl
theorem ml_X7_139 : Cond.methodLink RX7 139 yX1_put ∈ lw_all := lw_t6 (i := 25) (by decide +kernel) rfl
theorem im_X1_put : Cond.instanceMethod yX1_put ∈ lw_all := lw_t6 (i := 26) (by decide +kernel) rfl
theorem se_X1_put : Cond.selects RX1 yX1_put yX1_put ∈ lw_all := lw_t6 (i := 27) (by decide +kernel) rfl
theorem co_X1_put : Cond.code yX1_put cX1_put 4 (some .long) ∈ lw_all := lw_t6 (i := 28) rfl rfl
theorem ml_X1_78 : Cond.methodLink RX1 78 yX0_bits ∈ lw_all := lw_t6 (i := 29) (by decide +kernel) rfl
theorem ml_X7_142 : Cond.methodLink RX7 142 yX1_get ∈ lw_all := lw_t6 (i := 30) (by decide +kernel) rfl
theorem im_X1_get : Cond.instanceMethod yX1_get ∈ lw_all := lw_t6 (i := 31) (by decide +kernel) rfl
theorem se_X1_get : Cond.selects RX1 yX1_get yX1_get ∈ lw_all := lw_t6 (i := 32) (by decide +kernel) rfl
theorem co_X1_get : Cond.code yX1_get cX1_get 2 (some .long) ∈ lw_all := lw_t6 (i := 33) rfl rfl
theorem ml_X1_83 : Cond.methodLink RX1 83 yX1_placeBits ∈ lw_all := lw_t6 (i := 34) (by decide +kernel) rfl
theorem im_X1_placeBits : Cond.instanceMethod yX1_placeBits ∈ lw_all := lw_t6 (i := 35) (by decide +kernel) rfl
theorem se_X1_placeBits : Cond.selects RX1 yX1_placeBits yX1_placeBits ∈ lw_all := lw_t6 (i := 36) (by decide +kernel) rfl
theorem co_X1_placeBits : Cond.code yX1_placeBits cX1_placeBits 2 (some .int) ∈ lw_all := lw_t6 (i := 37) rfl rfl
theorem ml_X1_87 : Cond.methodLink RX1 87 yX0_make ∈ lw_all := lw_t6 (i := 38) (by decide +kernel) rfl
theorem ml_X7_145 : Cond.methodLink RX7 145 yX8_setVar ∈ lw_all := lw_t6 (i := 39) (by decide +kernel) rfl
theorem ml_X7_149 : Cond.methodLink RX7 149 yX7_goBack ∈ lw_all := lw_t6 (i := 40) (by decide +kernel) rfl
theorem im_X7_goBack : Cond.instanceMethod yX7_goBack ∈ lw_all := lw_t6 (i := 42) (by decide +kernel) rfl
theorem co_X7_goBack : Cond.code yX7_goBack cX7_goBack 1 none ∈ lw_all := lw_t6 (i := 43) rfl rfl
theorem ml_X7_169 : Cond.methodLink RX7 169 yX1_endCall ∈ lw_all := lw_t6 (i := 44) (by decide +kernel) rfl
theorem im_X1_endCall : Cond.instanceMethod yX1_endCall ∈ lw_all := lw_t6 (i := 45) (by decide +kernel) rfl
theorem se_X1_endCall : Cond.selects RX1 yX1_endCall yX1_endCall ∈ lw_all := lw_t6 (i := 46) (by decide +kernel) rfl
theorem co_X1_endCall : Cond.code yX1_endCall cX1_endCall 1 none ∈ lw_all := lw_t6 (i := 47) rfl rfl
theorem ml_X7_172 : Cond.methodLink RX7 172 yX8_closeFrame ∈ lw_all := lw_t6 (i := 48) (by decide +kernel) rfl
theorem ml_X7_179 : Cond.methodLink RX7 179 yX1_endWith ∈ lw_all := lw_t6 (i := 49) (by decide +kernel) rfl
theorem im_X1_endWith : Cond.instanceMethod yX1_endWith ∈ lw_all := lw_t6 (i := 50) (by decide +kernel) rfl
theorem se_X1_endWith : Cond.selects RX1 yX1_endWith yX1_endWith ∈ lw_all := lw_t6 (i := 51) (by decide +kernel) rfl
theorem co_X1_endWith : Cond.code yX1_endWith cX1_endWith 4 none ∈ lw_all := lw_t6 (i := 52) rfl rfl
theorem ml_X1_65 : Cond.methodLink RX1 65 yX8_weightOf ∈ lw_all := lw_t6 (i := 53) (by decide +kernel) rfl
theorem ml_X1_71 : Cond.methodLink RX1 71 yX8_deepOf ∈ lw_all := lw_t6 (i := 54) (by decide +kernel) rfl
theorem ml_X1_74 : Cond.methodLink RX1 74 yX8_flatten ∈ lw_all := lw_t6 (i := 55) (by decide +kernel) rfl
theorem ml_X11_210 : Cond.methodLink RX11 210 yX6_runResidue ∈ lw_all := lw_t6 (i := 56) (by decide +kernel) rfl
theorem im_X6_runResidue : Cond.instanceMethod yX6_runResidue ∈ lw_all := lw_t6 (i := 57) (by decide +kernel) rfl
theorem se_X6_runResidue : Cond.selects RX6 yX6_runResidue yX6_runResidue ∈ lw_all := lw_t6 (i := 58) (by decide +kernel) rfl
theorem co_X6_runResidue : Cond.code yX6_runResidue cX6_runResidue 7 none ∈ lw_all := lw_t6 (i := 59) rfl rfl
theorem ml_X6_48 : Cond.methodLink RX6 48 yX1_clear ∈ lw_all := lw_t6 (i := 60) (by decide +kernel) rfl
theorem ml_X6_51 : Cond.methodLink RX6 51 yX8_clear ∈ lw_all := lw_t6 (i := 61) (by decide +kernel) rfl
theorem ml_X6_54 : Cond.methodLink RX6 54 yX8_build ∈ lw_all := lw_t6 (i := 62) (by decide +kernel) rfl
theorem ml_X6_58 : Cond.methodLink RX6 58 yX1_beginCall ∈ lw_all := lw_t6 (i := 63) (by decide +kernel) rfl
theorem ml_X6_62 : Cond.methodLink RX6 62 yX6_setRegister ∈ lw_all := lw_t6 (i := 64) (by decide +kernel) rfl
theorem im_X6_setRegister : Cond.instanceMethod yX6_setRegister ∈ lw_all := lw_t6 (i := 66) (by decide +kernel) rfl
theorem co_X6_setRegister : Cond.code yX6_setRegister cX6_setRegister 6 none ∈ lw_all := lw_t6 (i := 67) rfl rfl
theorem ml_X6_66 : Cond.methodLink RX6 66 yX5_ofVariant ∈ lw_all := lw_t6 (i := 68) (by decide +kernel) rfl
theorem ml_X6_70 : Cond.methodLink RX6 70 yX6_enter ∈ lw_all := lw_t6 (i := 69) (by decide +kernel) rfl
theorem im_X6_enter : Cond.instanceMethod yX6_enter ∈ lw_all := lw_t6 (i := 71) (by decide +kernel) rfl
theorem co_X6_enter : Cond.code yX6_enter cX6_enter 2 none ∈ lw_all := lw_t6 (i := 72) rfl rfl
theorem ml_X6_84 : Cond.methodLink RX6 84 yX5_firstOf ∈ lw_all := lw_t6 (i := 73) (by decide +kernel) rfl
theorem im_X5_firstOf : Cond.instanceMethod yX5_firstOf ∈ lw_all := lw_t6 (i := 74) (by decide +kernel) rfl
theorem se_X5_firstOf : Cond.selects RX5 yX5_firstOf yX5_firstOf ∈ lw_all := lw_t6 (i := 75) (by decide +kernel) rfl
theorem co_X5_firstOf : Cond.code yX5_firstOf cX5_firstOf 2 (some .int) ∈ lw_all := lw_t6 (i := 76) rfl rfl
theorem cs_X6_74 : Cond.constant RX6 74 (1000000) ∈ lw_all := lw_t6 (i := 77) (by decide +kernel) rfl
theorem ml_X6_75 : Cond.methodLink RX6 75 yX1_isRunning ∈ lw_all := lw_t6 (i := 78) (by decide +kernel) rfl
theorem ml_X6_78 : Cond.methodLink RX6 78 yX6_endBlock ∈ lw_all := lw_t6 (i := 79) (by decide +kernel) rfl
theorem im_X6_endBlock : Cond.instanceMethod yX6_endBlock ∈ lw_all := lw_t6 (i := 81) (by decide +kernel) rfl
theorem co_X6_endBlock : Cond.code yX6_endBlock cX6_endBlock 4 none ∈ lw_all := lw_t6 (i := 82) rfl rfl
theorem ml_X6_109 : Cond.methodLink RX6 109 yX5_endOf ∈ lw_all := lw_t6 (i := 83) (by decide +kernel) rfl
theorem ml_X6_101 : Cond.methodLink RX6 101 yX6_known ∈ lw_all := lw_t6 (i := 84) (by decide +kernel) rfl
theorem im_X6_known : Cond.instanceMethod yX6_known ∈ lw_all := lw_t6 (i := 86) (by decide +kernel) rfl
theorem co_X6_known : Cond.code yX6_known cX6_known 4 (some .long) ∈ lw_all := lw_t6 (i := 87) rfl rfl
theorem ml_X6_88 : Cond.methodLink RX6 88 yX0_kind ∈ lw_all := lw_t6 (i := 88) (by decide +kernel) rfl
theorem ml_X6_94 : Cond.methodLink RX6 94 yX0_bits ∈ lw_all := lw_t6 (i := 89) (by decide +kernel) rfl
theorem ml_X6_113 : Cond.methodLink RX6 113 yX1_endWith ∈ lw_all := lw_t6 (i := 90) (by decide +kernel) rfl
theorem ml_X6_117 : Cond.methodLink RX6 117 yX5_cell ∈ lw_all := lw_t6 (i := 91) (by decide +kernel) rfl
theorem ml_X6_120 : Cond.methodLink RX6 120 yX1_endCall ∈ lw_all := lw_t6 (i := 92) (by decide +kernel) rfl
theorem ml_X6_123 : Cond.methodLink RX6 123 yX6_goOn ∈ lw_all := lw_t6 (i := 93) (by decide +kernel) rfl
theorem im_X6_goOn : Cond.instanceMethod yX6_goOn ∈ lw_all := lw_t6 (i := 95) (by decide +kernel) rfl
theorem co_X6_goOn : Cond.code yX6_goOn cX6_goOn 4 none ∈ lw_all := lw_t6 (i := 96) rfl rfl
theorem ml_X6_81 : Cond.methodLink RX6 81 yX6_step ∈ lw_all := lw_t6 (i := 97) (by decide +kernel) rfl
theorem im_X6_step : Cond.instanceMethod yX6_step ∈ lw_all := lw_t6 (i := 99) (by decide +kernel) rfl
theorem co_X6_step : Cond.code yX6_step cX6_step 3 none ∈ lw_all := lw_t6 (i := 100) rfl rfl
theorem ml_X6_127 : Cond.methodLink RX6 127 yX6_num ∈ lw_all := lw_t6 (i := 101) (by decide +kernel) rfl
theorem im_X6_num : Cond.instanceMethod yX6_num ∈ lw_all := lw_t6 (i := 103) (by decide +kernel) rfl
theorem co_X6_num : Cond.code yX6_num cX6_num 3 (some .long) ∈ lw_all := lw_t6 (i := 104) rfl rfl
theorem ml_X6_105 : Cond.methodLink RX6 105 yX6_operand ∈ lw_all := lw_t6 (i := 105) (by decide +kernel) rfl
theorem im_X6_operand : Cond.instanceMethod yX6_operand ∈ lw_all := lw_t6 (i := 107) (by decide +kernel) rfl
theorem co_X6_operand : Cond.code yX6_operand cX6_operand 3 (some .long) ∈ lw_all := lw_t6 (i := 108) rfl rfl
theorem ml_X6_97 : Cond.methodLink RX6 97 yX5_operand ∈ lw_all := lw_t6 (i := 109) (by decide +kernel) rfl
theorem im_X5_operand : Cond.instanceMethod yX5_operand ∈ lw_all := lw_t6 (i := 110) (by decide +kernel) rfl
theorem se_X5_operand : Cond.selects RX5 yX5_operand yX5_operand ∈ lw_all := lw_t6 (i := 111) (by decide +kernel) rfl
theorem co_X5_operand : Cond.code yX5_operand cX5_operand 4 (some .long) ∈ lw_all := lw_t6 (i := 112) rfl rfl
theorem ml_X6_106 : Cond.methodLink RX6 106 yX8_num ∈ lw_all := lw_t6 (i := 113) (by decide +kernel) rfl
theorem ml_X6_129 : Cond.methodLink RX6 129 yX0_apply ∈ lw_all := lw_t6 (i := 114) (by decide +kernel) rfl
theorem ml_X6_133 : Cond.methodLink RX6 133 yX0_turn ∈ lw_all := lw_t6 (i := 115) (by decide +kernel) rfl
theorem ml_X6_137 : Cond.methodLink RX6 137 yX8_firstOf ∈ lw_all := lw_t6 (i := 116) (by decide +kernel) rfl
theorem ml_X6_139 : Cond.methodLink RX6 139 yX8_secondOf ∈ lw_all := lw_t6 (i := 117) (by decide +kernel) rfl
theorem ml_X6_142 : Cond.methodLink RX6 142 yX0_isTrue ∈ lw_all := lw_t6 (i := 118) (by decide +kernel) rfl
theorem ml_X6_146 : Cond.methodLink RX6 146 yX1_writeOut ∈ lw_all := lw_t6 (i := 119) (by decide +kernel) rfl
theorem ml_X6_150 : Cond.methodLink RX6 150 yX0_stored ∈ lw_all := lw_t6 (i := 120) (by decide +kernel) rfl
theorem ml_X6_153 : Cond.methodLink RX6 153 yX1_put ∈ lw_all := lw_t6 (i := 121) (by decide +kernel) rfl
theorem ml_X6_156 : Cond.methodLink RX6 156 yX1_get ∈ lw_all := lw_t6 (i := 122) (by decide +kernel) rfl
theorem ml_X6_159 : Cond.methodLink RX6 159 yX6_makePair ∈ lw_all := lw_t6 (i := 123) (by decide +kernel) rfl
theorem im_X6_makePair : Cond.instanceMethod yX6_makePair ∈ lw_all := lw_t6 (i := 125) (by decide +kernel) rfl
theorem co_X6_makePair : Cond.code yX6_makePair cX6_makePair 6 none ∈ lw_all := lw_t6 (i := 126) rfl rfl
theorem ml_X6_169 : Cond.methodLink RX6 169 yX8_isTooHeavy ∈ lw_all := lw_t6 (i := 127) (by decide +kernel) rfl
theorem ml_X6_173 : Cond.methodLink RX6 173 yX8_pair ∈ lw_all := lw_t6 (i := 128) (by decide +kernel) rfl
theorem ml_X6_162 : Cond.methodLink RX6 162 yX6_call ∈ lw_all := lw_t6 (i := 129) (by decide +kernel) rfl
theorem im_X6_call : Cond.instanceMethod yX6_call ∈ lw_all := lw_t6 (i := 131) (by decide +kernel) rfl
theorem co_X6_call : Cond.code yX6_call cX6_call 7 none ∈ lw_all := lw_t6 (i := 132) rfl rfl
theorem ml_X11_220 : Cond.methodLink RX11 220 yX2_copyFrom ∈ lw_all := lw_t6 (i := 133) (by decide +kernel) rfl
theorem ml_X11_223 : Cond.methodLink RX11 223 yX1_about ∈ lw_all := lw_t6 (i := 134) (by decide +kernel) rfl
theorem im_X1_about : Cond.instanceMethod yX1_about ∈ lw_all := lw_t6 (i := 135) (by decide +kernel) rfl
theorem se_X1_about : Cond.selects RX1 yX1_about yX1_about ∈ lw_all := lw_t6 (i := 136) (by decide +kernel) rfl
theorem co_X1_about : Cond.code yX1_about cX1_about 2 (some .int) ∈ lw_all := lw_t6 (i := 137) rfl rfl
theorem ml_L_74 : Cond.methodLink RL 74 yX11_output ∈ lw_all := lw_t6 (i := 138) (by decide +kernel) rfl
theorem im_X11_output : Cond.instanceMethod yX11_output ∈ lw_all := lw_t6 (i := 139) (by decide +kernel) rfl
theorem se_X11_output : Cond.selects RX11 yX11_output yX11_output ∈ lw_all := lw_t6 (i := 140) (by decide +kernel) rfl
theorem co_X11_output : Cond.code yX11_output cX11_output 3 (some .int) ∈ lw_all := lw_t6 (i := 141) rfl rfl
theorem ml_X11_227 : Cond.methodLink RX11 227 yX1_aboutOutput ∈ lw_all := lw_t6 (i := 142) (by decide +kernel) rfl
theorem im_X1_aboutOutput : Cond.instanceMethod yX1_aboutOutput ∈ lw_all := lw_t6 (i := 143) (by decide +kernel) rfl
theorem se_X1_aboutOutput : Cond.selects RX1 yX1_aboutOutput yX1_aboutOutput ∈ lw_all := lw_t6 (i := 144) (by decide +kernel) rfl
theorem co_X1_aboutOutput : Cond.code yX1_aboutOutput cX1_aboutOutput 3 (some .int) ∈ lw_all := lw_t6 (i := 145) rfl rfl
theorem ml_X1_94 : Cond.methodLink RX1 94 yX1_keptCount ∈ lw_all := lw_t6 (i := 146) (by decide +kernel) rfl
theorem im_X1_keptCount : Cond.instanceMethod yX1_keptCount ∈ lw_all := lw_t6 (i := 148) (by decide +kernel) rfl
theorem co_X1_keptCount : Cond.code yX1_keptCount cX1_keptCount 1 (some .int) ∈ lw_all := lw_t6 (i := 149) rfl rfl
theorem ml_X1_91 : Cond.methodLink RX1 91 yJ9_min_7cf53 ∈ lw_all := lw_t6 (i := 150) (by decide +kernel) rfl
theorem ml_X1_98 : Cond.methodLink RX1 98 yX0_kind ∈ lw_all := lw_t6 (i := 151) (by decide +kernel) rfl
theorem ml_L_78 : Cond.methodLink RL 78 yX11_place ∈ lw_all := lw_t6 (i := 152) (by decide +kernel) rfl
theorem im_X11_place : Cond.instanceMethod yX11_place ∈ lw_all := lw_t6 (i := 153) (by decide +kernel) rfl
theorem se_X11_place : Cond.selects RX11 yX11_place yX11_place ∈ lw_all := lw_t6 (i := 154) (by decide +kernel) rfl
theorem co_X11_place : Cond.code yX11_place cX11_place 2 (some .int) ∈ lw_all := lw_t6 (i := 155) rfl rfl
theorem ml_X11_230 : Cond.methodLink RX11 230 yX1_placeBits ∈ lw_all := lw_t6 (i := 156) (by decide +kernel) rfl
theorem ml_L_82 : Cond.methodLink RL 82 yX11_value ∈ lw_all := lw_t6 (i := 157) (by decide +kernel) rfl
theorem im_X11_value : Cond.instanceMethod yX11_value ∈ lw_all := lw_t6 (i := 158) (by decide +kernel) rfl
theorem se_X11_value : Cond.selects RX11 yX11_value yX11_value ∈ lw_all := lw_t6 (i := 159) (by decide +kernel) rfl
theorem co_X11_value : Cond.code yX11_value cX11_value 1 (some .int) ∈ lw_all := lw_t6 (i := 160) rfl rfl
theorem ml_X11_234 : Cond.methodLink RX11 234 yX9_writeValue ∈ lw_all := lw_t6 (i := 161) (by decide +kernel) rfl
theorem im_X9_writeValue : Cond.instanceMethod yX9_writeValue ∈ lw_all := lw_t6 (i := 162) (by decide +kernel) rfl
theorem se_X9_writeValue : Cond.selects RX9 yX9_writeValue yX9_writeValue ∈ lw_all := lw_t6 (i := 163) (by decide +kernel) rfl
theorem co_X9_writeValue : Cond.code yX9_writeValue cX9_writeValue 2 (some .int) ∈ lw_all := lw_t6 (i := 164) rfl rfl
theorem ml_X9_20 : Cond.methodLink RX9 20 yX9_addPart ∈ lw_all := lw_t6 (i := 165) (by decide +kernel) rfl
theorem im_X9_addPart : Cond.instanceMethod yX9_addPart ∈ lw_all := lw_t6 (i := 167) (by decide +kernel) rfl
theorem co_X9_addPart : Cond.code yX9_addPart cX9_addPart 6 (some .int) ∈ lw_all := lw_t6 (i := 168) rfl rfl
theorem cs_X9_75 : Cond.constantLong RX9 75 (8589934592) ∈ lw_all := lw_t6 (i := 169) (by decide +kernel) rfl
theorem ml_X9_77 : Cond.methodLink RX9 77 yX9_addSymbol ∈ lw_all := lw_t6 (i := 170) (by decide +kernel) rfl
theorem im_X9_addSymbol : Cond.instanceMethod yX9_addSymbol ∈ lw_all := lw_t6 (i := 172) (by decide +kernel) rfl
theorem co_X9_addSymbol : Cond.code yX9_addSymbol cX9_addSymbol 4 none ∈ lw_all := lw_t6 (i := 173) rfl rfl
theorem ml_X9_48 : Cond.methodLink RX9 48 yX0_kind ∈ lw_all := lw_t6 (i := 174) (by decide +kernel) rfl
theorem ml_X9_34 : Cond.methodLink RX9 34 yX9_add ∈ lw_all := lw_t6 (i := 175) (by decide +kernel) rfl
theorem im_X9_add : Cond.instanceMethod yX9_add ∈ lw_all := lw_t6 (i := 177) (by decide +kernel) rfl
theorem co_X9_add : Cond.code yX9_add cX9_add 2 none ∈ lw_all := lw_t6 (i := 178) rfl rfl
theorem ml_X9_54 : Cond.methodLink RX9 54 yX0_bits ∈ lw_all := lw_t6 (i := 179) (by decide +kernel) rfl
theorem ml_X9_57 : Cond.methodLink RX9 57 yX9_addInt ∈ lw_all := lw_t6 (i := 180) (by decide +kernel) rfl
theorem im_X9_addInt : Cond.instanceMethod yX9_addInt ∈ lw_all := lw_t6 (i := 182) (by decide +kernel) rfl
theorem co_X9_addInt : Cond.code yX9_addInt cX9_addInt 7 none ∈ lw_all := lw_t6 (i := 183) rfl rfl
theorem cs_X9_46 : Cond.constantLong RX9 46 (10) ∈ lw_all := lw_t6 (i := 184) (by decide +kernel) rfl
theorem ml_L_86 : Cond.methodLink RL 86 yX11_write ∈ lw_all := lw_t6 (i := 185) (by decide +kernel) rfl
theorem im_X11_write : Cond.instanceMethod yX11_write ∈ lw_all := lw_t6 (i := 186) (by decide +kernel) rfl
theorem se_X11_write : Cond.selects RX11 yX11_write yX11_write ∈ lw_all := lw_t6 (i := 187) (by decide +kernel) rfl
theorem co_X11_write : Cond.code yX11_write cX11_write 2 (some .int) ∈ lw_all := lw_t6 (i := 188) rfl rfl
theorem ml_X11_238 : Cond.methodLink RX11 238 yX9_writeVariant ∈ lw_all := lw_t6 (i := 189) (by decide +kernel) rfl
theorem im_X9_writeVariant : Cond.instanceMethod yX9_writeVariant ∈ lw_all := lw_t6 (i := 190) (by decide +kernel) rfl
theorem se_X9_writeVariant : Cond.selects RX9 yX9_writeVariant yX9_writeVariant ∈ lw_all := lw_t6 (i := 191) (by decide +kernel) rfl
theorem co_X9_writeVariant : Cond.code yX9_writeVariant cX9_writeVariant 3 (some .int) ∈ lw_all := lw_t6 (i := 192) rfl rfl
theorem ml_X9_24 : Cond.methodLink RX9 24 yX5_patternOf ∈ lw_all := lw_t6 (i := 193) (by decide +kernel) rfl
theorem ml_X9_30 : Cond.methodLink RX9 30 yX9_addPatterns ∈ lw_all := lw_t6 (i := 194) (by decide +kernel) rfl
theorem im_X9_addPatterns : Cond.instanceMethod yX9_addPatterns ∈ lw_all := lw_t6 (i := 196) (by decide +kernel) rfl
theorem co_X9_addPatterns : Cond.code yX9_addPatterns cX9_addPatterns 3 none ∈ lw_all := lw_t6 (i := 197) rfl rfl
theorem ml_X9_66 : Cond.methodLink RX9 66 yJ9_max_7cf53 ∈ lw_all := lw_t6 (i := 198) (by decide +kernel) rfl
theorem ml_X9_38 : Cond.methodLink RX9 38 yX5_ofVariant ∈ lw_all := lw_t6 (i := 199) (by decide +kernel) rfl
theorem ml_X9_42 : Cond.methodLink RX9 42 yX9_addBlock ∈ lw_all := lw_t6 (i := 200) (by decide +kernel) rfl
theorem im_X9_addBlock : Cond.instanceMethod yX9_addBlock ∈ lw_all := lw_t6 (i := 202) (by decide +kernel) rfl
theorem co_X9_addBlock : Cond.code yX9_addBlock cX9_addBlock 6 none ∈ lw_all := lw_t6 (i := 203) rfl rfl
theorem ml_X9_81 : Cond.methodLink RX9 81 yX5_firstOf ∈ lw_all := lw_t6 (i := 204) (by decide +kernel) rfl
theorem ml_X9_85 : Cond.methodLink RX9 85 yX9_addInstruction ∈ lw_all := lw_t6 (i := 205) (by decide +kernel) rfl
theorem im_X9_addInstruction : Cond.instanceMethod yX9_addInstruction ∈ lw_all := lw_t6 (i := 207) (by decide +kernel) rfl
theorem co_X9_addInstruction : Cond.code yX9_addInstruction cX9_addInstruction 5 none ∈ lw_all := lw_t6 (i := 208) rfl rfl
theorem ml_X9_88 : Cond.methodLink RX9 88 yX5_cell ∈ lw_all := lw_t6 (i := 209) (by decide +kernel) rfl
theorem ml_X9_95 : Cond.methodLink RX9 95 yX0_make ∈ lw_all := lw_t6 (i := 210) (by decide +kernel) rfl
theorem ml_X9_99 : Cond.methodLink RX9 99 yX9_addTwo ∈ lw_all := lw_t6 (i := 211) (by decide +kernel) rfl
theorem im_X9_addTwo : Cond.instanceMethod yX9_addTwo ∈ lw_all := lw_t6 (i := 213) (by decide +kernel) rfl
theorem co_X9_addTwo : Cond.code yX9_addTwo cX9_addTwo 6 none ∈ lw_all := lw_t6 (i := 214) rfl rfl
theorem ml_X9_106 : Cond.methodLink RX9 106 yX5_operand ∈ lw_all := lw_t6 (i := 215) (by decide +kernel) rfl
theorem ml_X9_103 : Cond.methodLink RX9 103 yX9_addChoice ∈ lw_all := lw_t6 (i := 216) (by decide +kernel) rfl
theorem im_X9_addChoice : Cond.instanceMethod yX9_addChoice ∈ lw_all := lw_t6 (i := 218) (by decide +kernel) rfl
theorem co_X9_addChoice : Cond.code yX9_addChoice cX9_addChoice 4 none ∈ lw_all := lw_t6 (i := 219) rfl rfl
theorem ml_X9_109 : Cond.methodLink RX9 109 yX9_addCall ∈ lw_all := lw_t6 (i := 220) (by decide +kernel) rfl
theorem im_X9_addCall : Cond.instanceMethod yX9_addCall ∈ lw_all := lw_t6 (i := 222) (by decide +kernel) rfl
theorem co_X9_addCall : Cond.code yX9_addCall cX9_addCall 5 none ∈ lw_all := lw_t6 (i := 223) rfl rfl
theorem ml_X9_115 : Cond.methodLink RX9 115 yJ0_length_8abf5 ∈ lw_all := lw_t6 (i := 225) (by decide +kernel) rfl
theorem im_J0_length_8abf5 : Cond.instanceMethod yJ0_length_8abf5 ∈ lw_all := lw_t6 (i := 226) (by decide +kernel) rfl
theorem se_J0_length_8abf5 : Cond.selects RJ0 yJ0_length_8abf5 yJ0_length_8abf5 ∈ lw_all := lw_t6 (i := 227) (by decide +kernel) rfl
theorem co_J0_length_8abf5 : Cond.code yJ0_length_8abf5 cJ0_length_8abf5 1 (some .int) ∈ lw_all := lw_t6 (i := 228) rfl rfl
theorem ml_J0_335 : Cond.methodLink RJ0 335 yJ0_coder_7d493 ∈ lw_all := lw_t6 (i := 229) (by decide +kernel) rfl
theorem im_J0_coder_7d493 : Cond.instanceMethod yJ0_coder_7d493 ∈ lw_all := lw_t6 (i := 230) (by decide +kernel) rfl
theorem se_J0_coder_7d493 : Cond.selects RJ0 yJ0_coder_7d493 yJ0_coder_7d493 ∈ lw_all := lw_t6 (i := 231) (by decide +kernel) rfl
theorem co_J0_coder_7d493 : Cond.code yJ0_coder_7d493 cJ0_coder_7d493 1 (some .byte) ∈ lw_all := lw_t6 (i := 232) rfl rfl
theorem fl_J0_38 : Cond.fieldLink RJ0 38 "java/lang/String" "COMPACT_STRINGS" "Z" ∈ lw_all := lw_t6 (i := 233) (by decide +kernel) rfl
theorem ml_X9_121 : Cond.methodLink RX9 121 yJ0_charAt_5068e ∈ lw_all := lw_t6 (i := 235) (by decide +kernel) rfl
theorem im_J0_charAt_5068e : Cond.instanceMethod yJ0_charAt_5068e ∈ lw_all := lw_t6 (i := 236) (by decide +kernel) rfl
theorem se_J0_charAt_5068e : Cond.selects RJ0 yJ0_charAt_5068e yJ0_charAt_5068e ∈ lw_all := lw_t6 (i := 237) (by decide +kernel) rfl
theorem co_J0_charAt_5068e : Cond.code yJ0_charAt_5068e cJ0_charAt_5068e 2 (some .char) ∈ lw_all := lw_t6 (i := 238) rfl rfl
theorem ml_J0_492 : Cond.methodLink RJ0 492 yJ0_isLatin1_aae02 ∈ lw_all := lw_t6 (i := 239) (by decide +kernel) rfl
theorem im_J0_isLatin1_aae02 : Cond.instanceMethod yJ0_isLatin1_aae02 ∈ lw_all := lw_t7 (i := 0) (by decide +kernel) rfl
theorem se_J0_isLatin1_aae02 : Cond.selects RJ0 yJ0_isLatin1_aae02 yJ0_isLatin1_aae02 ∈ lw_all := lw_t7 (i := 1) (by decide +kernel) rfl
theorem co_J0_isLatin1_aae02 : Cond.code yJ0_isLatin1_aae02 cJ0_isLatin1_aae02 1 (some .boolean) ∈ lw_all := lw_t7 (i := 2) rfl rfl
theorem ml_J0_495 : Cond.methodLink RJ0 495 yJ1_charAt_3b067 ∈ lw_all := lw_t7 (i := 3) (by decide +kernel) rfl
theorem st_J1_charAt_3b067 : Cond.static yJ1_charAt_3b067 ∈ lw_all := lw_t7 (i := 4) (by decide +kernel) rfl
theorem co_J1_charAt_3b067 : Cond.code yJ1_charAt_3b067 cJ1_charAt_3b067 2 (some .char) ∈ lw_all := lw_t7 (i := 5) rfl rfl
theorem ml_J1_9 : Cond.methodLink RJ1 9 yJ0_checkIndex_df160 ∈ lw_all := lw_t7 (i := 6) (by decide +kernel) rfl
theorem st_J0_checkIndex_df160 : Cond.static yJ0_checkIndex_df160 ∈ lw_all := lw_t7 (i := 7) (by decide +kernel) rfl
theorem co_J0_checkIndex_df160 : Cond.code yJ0_checkIndex_df160 cJ0_checkIndex_df160 2 none ∈ lw_all := lw_t7 (i := 8) rfl rfl
theorem fl_J0_1053 : Cond.fieldLink RJ0 1053 "jdk/internal/util/Preconditions" "SIOOBE_FORMATTER" "Ljava/util/function/BiFunction;" ∈ lw_all := lw_t7 (i := 9) (by decide +kernel) rfl
theorem ml_J0_498 : Cond.methodLink RJ0 498 yJ2_charAt_3b067 ∈ lw_all := lw_t7 (i := 14) (by decide +kernel) rfl
theorem st_J2_charAt_3b067 : Cond.static yJ2_charAt_3b067 ∈ lw_all := lw_t7 (i := 15) (by decide +kernel) rfl
theorem co_J2_charAt_3b067 : Cond.code yJ2_charAt_3b067 cJ2_charAt_3b067 2 (some .char) ∈ lw_all := lw_t7 (i := 16) rfl rfl
theorem ml_J2_67 : Cond.methodLink RJ2 67 yJ2_checkIndex_2214a ∈ lw_all := lw_t7 (i := 17) (by decide +kernel) rfl
theorem st_J2_checkIndex_2214a : Cond.static yJ2_checkIndex_2214a ∈ lw_all := lw_t7 (i := 18) (by decide +kernel) rfl
theorem co_J2_checkIndex_2214a : Cond.code yJ2_checkIndex_2214a cJ2_checkIndex_2214a 2 none ∈ lw_all := lw_t7 (i := 19) rfl rfl
theorem ml_J2_48 : Cond.methodLink RJ2 48 yJ2_length_9d52b ∈ lw_all := lw_t7 (i := 20) (by decide +kernel) rfl
theorem st_J2_length_9d52b : Cond.static yJ2_length_9d52b ∈ lw_all := lw_t7 (i := 21) (by decide +kernel) rfl
theorem co_J2_length_9d52b : Cond.code yJ2_length_9d52b cJ2_length_9d52b 1 (some .int) ∈ lw_all := lw_t7 (i := 22) rfl rfl
theorem ml_J2_414 : Cond.methodLink RJ2 414 yJ0_checkIndex_df160 ∈ lw_all := lw_t7 (i := 23) (by decide +kernel) rfl
theorem ml_J2_71 : Cond.methodLink RJ2 71 yJ2_getChar_3b067 ∈ lw_all := lw_t7 (i := 24) (by decide +kernel) rfl
theorem st_J2_getChar_3b067 : Cond.static yJ2_getChar_3b067 ∈ lw_all := lw_t7 (i := 25) (by decide +kernel) rfl
theorem co_J2_getChar_3b067 : Cond.code yJ2_getChar_3b067 cJ2_getChar_3b067 2 (some .char) ∈ lw_all := lw_t7 (i := 26) rfl rfl
theorem fl_J2_44 : Cond.fieldLink RJ2 44 "java/lang/StringUTF16" "$assertionsDisabled" "Z" ∈ lw_all := lw_t7 (i := 27) (by decide +kernel) rfl
theorem fl_J2_59 : Cond.fieldLink RJ2 59 "java/lang/StringUTF16" "HI_BYTE_SHIFT" "I" ∈ lw_all := lw_t7 (i := 29) (by decide +kernel) rfl
theorem fl_J2_63 : Cond.fieldLink RJ2 63 "java/lang/StringUTF16" "LO_BYTE_SHIFT" "I" ∈ lw_all := lw_t7 (i := 31) (by decide +kernel) rfl
theorem ml_X9_91 : Cond.methodLink RX9 91 yX5_endOf ∈ lw_all := lw_t7 (i := 33) (by decide +kernel) rfl
theorem ml_L_90 : Cond.methodLink RL 90 yX11_octet ∈ lw_all := lw_t7 (i := 34) (by decide +kernel) rfl
theorem im_X11_octet : Cond.instanceMethod yX11_octet ∈ lw_all := lw_t7 (i := 35) (by decide +kernel) rfl
theorem se_X11_octet : Cond.selects RX11 yX11_octet yX11_octet ∈ lw_all := lw_t7 (i := 36) (by decide +kernel) rfl
theorem co_X11_octet : Cond.code yX11_octet cX11_octet 2 (some .int) ∈ lw_all := lw_t7 (i := 37) rfl rfl
theorem ml_X11_242 : Cond.methodLink RX11 242 yX9_byteAt ∈ lw_all := lw_t7 (i := 38) (by decide +kernel) rfl
theorem im_X9_byteAt : Cond.instanceMethod yX9_byteAt ∈ lw_all := lw_t7 (i := 39) (by decide +kernel) rfl
theorem se_X9_byteAt : Cond.selects RX9 yX9_byteAt yX9_byteAt ∈ lw_all := lw_t7 (i := 40) (by decide +kernel) rfl
theorem co_X9_byteAt : Cond.code yX9_byteAt cX9_byteAt 2 (some .int) ∈ lw_all := lw_t7 (i := 41) rfl rfl
theorem ml_L_94 : Cond.methodLink RL 94 yX11_agree ∈ lw_all := lw_t7 (i := 42) (by decide +kernel) rfl
theorem im_X11_agree : Cond.instanceMethod yX11_agree ∈ lw_all := lw_t7 (i := 43) (by decide +kernel) rfl
theorem se_X11_agree : Cond.selects RX11 yX11_agree yX11_agree ∈ lw_all := lw_t7 (i := 44) (by decide +kernel) rfl
theorem co_X11_agree : Cond.code yX11_agree cX11_agree 1 (some .int) ∈ lw_all := lw_t7 (i := 45) rfl rfl
theorem ml_X11_245 : Cond.methodLink RX11 245 yX11_runBoth ∈ lw_all := lw_t7 (i := 46) (by decide +kernel) rfl
theorem im_X11_runBoth : Cond.instanceMethod yX11_runBoth ∈ lw_all := lw_t7 (i := 48) (by decide +kernel) rfl
theorem co_X11_runBoth : Cond.code yX11_runBoth cX11_runBoth 1 (some .boolean) ∈ lw_all := lw_t7 (i := 49) rfl rfl
theorem ml_X11_248 : Cond.methodLink RX11 248 yX1_isLike ∈ lw_all := lw_t7 (i := 50) (by decide +kernel) rfl
theorem im_X1_isLike : Cond.instanceMethod yX1_isLike ∈ lw_all := lw_t7 (i := 51) (by decide +kernel) rfl
theorem se_X1_isLike : Cond.selects RX1 yX1_isLike yX1_isLike ∈ lw_all := lw_t7 (i := 52) (by decide +kernel) rfl
theorem co_X1_isLike : Cond.code yX1_isLike cX1_isLike 3 (some .boolean) ∈ lw_all := lw_t7 (i := 53) rfl rfl
theorem ml_X1_101 : Cond.methodLink RX1 101 yX2_isSame ∈ lw_all := lw_t7 (i := 54) (by decide +kernel) rfl
theorem ml_L_98 : Cond.methodLink RL 98 yX11_saved ∈ lw_all := lw_t7 (i := 55) (by decide +kernel) rfl
theorem im_X11_saved : Cond.instanceMethod yX11_saved ∈ lw_all := lw_t7 (i := 56) (by decide +kernel) rfl
theorem se_X11_saved : Cond.selects RX11 yX11_saved yX11_saved ∈ lw_all := lw_t7 (i := 57) (by decide +kernel) rfl
theorem co_X11_saved : Cond.code yX11_saved cX11_saved 1 (some .int) ∈ lw_all := lw_t7 (i := 58) rfl rfl
theorem ml_L_102 : Cond.methodLink RL 102 yX11_op ∈ lw_all := lw_t7 (i := 59) (by decide +kernel) rfl
theorem im_X11_op : Cond.instanceMethod yX11_op ∈ lw_all := lw_t7 (i := 60) (by decide +kernel) rfl
theorem se_X11_op : Cond.selects RX11 yX11_op yX11_op ∈ lw_all := lw_t7 (i := 61) (by decide +kernel) rfl
theorem co_X11_op : Cond.code yX11_op cX11_op 6 (some .int) ∈ lw_all := lw_t7 (i := 62) rfl rfl
theorem ml_X11_255 : Cond.methodLink RX11 255 yX0_isSign ∈ lw_all := lw_t7 (i := 63) (by decide +kernel) rfl
theorem ml_X11_260 : Cond.methodLink RX11 260 yX0_make ∈ lw_all := lw_t7 (i := 64) (by decide +kernel) rfl
theorem ml_X11_264 : Cond.methodLink RX11 264 yX0_apply ∈ lw_all := lw_t7 (i := 65) (by decide +kernel) rfl
theorem ml_X11_268 : Cond.methodLink RX11 268 yX0_bits ∈ lw_all := lw_t7 (i := 66) (by decide +kernel) rfl
theorem cl_L_10 : Cond.classLink RL 10 RX12 ∈ lw_all := lw_t7 (i := 67) (by decide +kernel) rfl
theorem ia_X12 : Cond.instantiable RX12 141 ∈ lw_all := lw_t7 (i := 68) (by decide +kernel) rfl
theorem ml_L_12 : Cond.methodLink RL 12 yX12_init ∈ lw_all := lw_t7 (i := 69) (by decide +kernel) rfl
theorem im_X12_init : Cond.instanceMethod yX12_init ∈ lw_all := lw_t7 (i := 70) (by decide +kernel) rfl
theorem co_X12_init : Cond.code yX12_init cX12_init 1 none ∈ lw_all := lw_t7 (i := 71) rfl rfl
theorem ml_X12_1 : Cond.methodLink RX12 1 objectInit ∈ lw_all := lw_t7 (i := 72) (by decide +kernel) rfl
theorem cs_X12_105 : Cond.constant RX12 105 (100000) ∈ lw_all := lw_t7 (i := 73) (by decide +kernel) rfl
theorem cs_X12_280 : Cond.constant RX12 280 (50000) ∈ lw_all := lw_t7 (i := 74) (by decide +kernel) rfl
theorem fl_X12_305 : Cond.fieldLink RX12 305 "OnlinePartsModel" "outSort" "I" ∈ lw_all := lw_t7 (i := 75) (by decide +kernel) rfl
theorem fl_X12_308 : Cond.fieldLink RX12 308 "OnlinePartsModel" "outBits" "I" ∈ lw_all := lw_t7 (i := 76) (by decide +kernel) rfl
theorem fl_X12_7 : Cond.fieldLink RX12 7 "OnlinePartsModel" "tape" "[B" ∈ lw_all := lw_t7 (i := 77) (by decide +kernel) rfl
theorem fl_X12_352 : Cond.fieldLink RX12 352 "OnlinePartsModel" "taped" "I" ∈ lw_all := lw_t7 (i := 78) (by decide +kernel) rfl
theorem fl_X12_362 : Cond.fieldLink RX12 362 "OnlinePartsModel" "at" "I" ∈ lw_all := lw_t7 (i := 79) (by decide +kernel) rfl
theorem fl_X12_13 : Cond.fieldLink RX12 13 "OnlinePartsModel" "faultPlace" "I" ∈ lw_all := lw_t7 (i := 80) (by decide +kernel) rfl
theorem fl_X12_378 : Cond.fieldLink RX12 378 "OnlinePartsModel" "readSort" "I" ∈ lw_all := lw_t7 (i := 81) (by decide +kernel) rfl
theorem fl_X12_381 : Cond.fieldLink RX12 381 "OnlinePartsModel" "readBits" "I" ∈ lw_all := lw_t7 (i := 82) (by decide +kernel) rfl
theorem fl_X12_17 : Cond.fieldLink RX12 17 "OnlinePartsModel" "letter" "[I" ∈ lw_all := lw_t7 (i := 83) (by decide +kernel) rfl
theorem fl_X12_21 : Cond.fieldLink RX12 21 "OnlinePartsModel" "arguments" "[I" ∈ lw_all := lw_t7 (i := 84) (by decide +kernel) rfl
theorem fl_X12_24 : Cond.fieldLink RX12 24 "OnlinePartsModel" "varOf" "[I" ∈ lw_all := lw_t7 (i := 85) (by decide +kernel) rfl
theorem fl_X12_27 : Cond.fieldLink RX12 27 "OnlinePartsModel" "beginOf" "[I" ∈ lw_all := lw_t7 (i := 86) (by decide +kernel) rfl
theorem fl_X12_30 : Cond.fieldLink RX12 30 "OnlinePartsModel" "longOf" "[I" ∈ lw_all := lw_t7 (i := 87) (by decide +kernel) rfl
theorem fl_X12_33 : Cond.fieldLink RX12 33 "OnlinePartsModel" "thing" "[I" ∈ lw_all := lw_t7 (i := 88) (by decide +kernel) rfl
theorem fl_X12_36 : Cond.fieldLink RX12 36 "OnlinePartsModel" "worth" "[I" ∈ lw_all := lw_t7 (i := 89) (by decide +kernel) rfl
theorem fl_X12_39 : Cond.fieldLink RX12 39 "OnlinePartsModel" "below" "[I" ∈ lw_all := lw_t7 (i := 90) (by decide +kernel) rfl
theorem fl_X12_42 : Cond.fieldLink RX12 42 "OnlinePartsModel" "behind" "[I" ∈ lw_all := lw_t7 (i := 91) (by decide +kernel) rfl
theorem fl_X12_468 : Cond.fieldLink RX12 468 "OnlinePartsModel" "functions" "I" ∈ lw_all := lw_t7 (i := 92) (by decide +kernel) rfl
theorem fl_X12_458 : Cond.fieldLink RX12 458 "OnlinePartsModel" "things" "I" ∈ lw_all := lw_t7 (i := 93) (by decide +kernel) rfl
theorem fl_X12_45 : Cond.fieldLink RX12 45 "OnlinePartsModel" "newLetter" "[I" ∈ lw_all := lw_t7 (i := 94) (by decide +kernel) rfl
theorem fl_X12_48 : Cond.fieldLink RX12 48 "OnlinePartsModel" "newArguments" "[I" ∈ lw_all := lw_t7 (i := 95) (by decide +kernel) rfl
theorem fl_X12_51 : Cond.fieldLink RX12 51 "OnlinePartsModel" "newVar" "[I" ∈ lw_all := lw_t7 (i := 96) (by decide +kernel) rfl
theorem fl_X12_54 : Cond.fieldLink RX12 54 "OnlinePartsModel" "newBegin" "[I" ∈ lw_all := lw_t7 (i := 97) (by decide +kernel) rfl
theorem fl_X12_57 : Cond.fieldLink RX12 57 "OnlinePartsModel" "newLong" "[I" ∈ lw_all := lw_t7 (i := 98) (by decide +kernel) rfl
theorem fl_X12_60 : Cond.fieldLink RX12 60 "OnlinePartsModel" "newThing" "[I" ∈ lw_all := lw_t7 (i := 99) (by decide +kernel) rfl
theorem fl_X12_63 : Cond.fieldLink RX12 63 "OnlinePartsModel" "newWorth" "[I" ∈ lw_all := lw_t7 (i := 100) (by decide +kernel) rfl
theorem fl_X12_66 : Cond.fieldLink RX12 66 "OnlinePartsModel" "newBelow" "[I" ∈ lw_all := lw_t7 (i := 101) (by decide +kernel) rfl
theorem fl_X12_413 : Cond.fieldLink RX12 413 "OnlinePartsModel" "newFunctions" "I" ∈ lw_all := lw_t7 (i := 102) (by decide +kernel) rfl
theorem fl_X12_387 : Cond.fieldLink RX12 387 "OnlinePartsModel" "newThings" "I" ∈ lw_all := lw_t7 (i := 103) (by decide +kernel) rfl
theorem fl_X12_69 : Cond.fieldLink RX12 69 "OnlinePartsModel" "open" "[I" ∈ lw_all := lw_t7 (i := 104) (by decide +kernel) rfl
theorem fl_X12_72 : Cond.fieldLink RX12 72 "OnlinePartsModel" "had" "[I" ∈ lw_all := lw_t7 (i := 105) (by decide +kernel) rfl
theorem fl_X12_75 : Cond.fieldLink RX12 75 "OnlinePartsModel" "toldVar" "[I" ∈ lw_all := lw_t7 (i := 106) (by decide +kernel) rfl
theorem fl_X12_390 : Cond.fieldLink RX12 390 "OnlinePartsModel" "opened" "I" ∈ lw_all := lw_t7 (i := 107) (by decide +kernel) rfl
theorem fl_X12_78 : Cond.fieldLink RX12 78 "OnlinePartsModel" "readSorts" "[I" ∈ lw_all := lw_t7 (i := 108) (by decide +kernel) rfl
theorem fl_X12_81 : Cond.fieldLink RX12 81 "OnlinePartsModel" "readRow" "[I" ∈ lw_all := lw_t7 (i := 109) (by decide +kernel) rfl
theorem fl_X12_84 : Cond.fieldLink RX12 84 "OnlinePartsModel" "closed" "[I" ∈ lw_all := lw_t7 (i := 110) (by decide +kernel) rfl
theorem fl_X12_478 : Cond.fieldLink RX12 478 "OnlinePartsModel" "readMany" "I" ∈ lw_all := lw_t7 (i := 111) (by decide +kernel) rfl
theorem fl_X12_481 : Cond.fieldLink RX12 481 "OnlinePartsModel" "stars" "I" ∈ lw_all := lw_t7 (i := 112) (by decide +kernel) rfl
theorem fl_X12_87 : Cond.fieldLink RX12 87 "OnlinePartsModel" "taskSorts" "[I" ∈ lw_all := lw_t7 (i := 113) (by decide +kernel) rfl
theorem fl_X12_90 : Cond.fieldLink RX12 90 "OnlinePartsModel" "taskRow" "[I" ∈ lw_all := lw_t7 (i := 114) (by decide +kernel) rfl
theorem fl_X12_93 : Cond.fieldLink RX12 93 "OnlinePartsModel" "valueSorts" "[I" ∈ lw_all := lw_t7 (i := 115) (by decide +kernel) rfl
theorem fl_X12_96 : Cond.fieldLink RX12 96 "OnlinePartsModel" "valueRow" "[I" ∈ lw_all := lw_t7 (i := 116) (by decide +kernel) rfl
theorem fl_X12_99 : Cond.fieldLink RX12 99 "OnlinePartsModel" "taskLetter" "I" ∈ lw_all := lw_t7 (i := 117) (by decide +kernel) rfl
theorem fl_X12_503 : Cond.fieldLink RX12 503 "OnlinePartsModel" "taskArguments" "I" ∈ lw_all := lw_t7 (i := 118) (by decide +kernel) rfl
theorem fl_X12_506 : Cond.fieldLink RX12 506 "OnlinePartsModel" "taskMany" "I" ∈ lw_all := lw_t7 (i := 119) (by decide +kernel) rfl
theorem fl_X12_509 : Cond.fieldLink RX12 509 "OnlinePartsModel" "leaves" "I" ∈ lw_all := lw_t7 (i := 120) (by decide +kernel) rfl
theorem fl_X12_515 : Cond.fieldLink RX12 515 "OnlinePartsModel" "valueMany" "I" ∈ lw_all := lw_t7 (i := 121) (by decide +kernel) rfl
theorem fl_X12_512 : Cond.fieldLink RX12 512 "OnlinePartsModel" "valuesTold" "I" ∈ lw_all := lw_t7 (i := 122) (by decide +kernel) rfl
theorem fl_X12_490 : Cond.fieldLink RX12 490 "OnlinePartsModel" "readArguments" "I" ∈ lw_all := lw_t7 (i := 123) (by decide +kernel) rfl
theorem fl_X12_493 : Cond.fieldLink RX12 493 "OnlinePartsModel" "readLetter" "I" ∈ lw_all := lw_t7 (i := 124) (by decide +kernel) rfl
theorem fl_X12_102 : Cond.fieldLink RX12 102 "OnlinePartsModel" "rule" "[I" ∈ lw_all := lw_t7 (i := 125) (by decide +kernel) rfl
theorem fl_X12_106 : Cond.fieldLink RX12 106 "OnlinePartsModel" "hSort" "[I" ∈ lw_all := lw_t7 (i := 126) (by decide +kernel) rfl
theorem fl_X12_109 : Cond.fieldLink RX12 109 "OnlinePartsModel" "hBits" "[I" ∈ lw_all := lw_t7 (i := 127) (by decide +kernel) rfl
theorem fl_X12_112 : Cond.fieldLink RX12 112 "OnlinePartsModel" "hSecond" "[I" ∈ lw_all := lw_t7 (i := 128) (by decide +kernel) rfl
theorem fl_X12_115 : Cond.fieldLink RX12 115 "OnlinePartsModel" "hWeight" "[I" ∈ lw_all := lw_t7 (i := 129) (by decide +kernel) rfl
theorem fl_X12_118 : Cond.fieldLink RX12 118 "OnlinePartsModel" "hDeep" "[I" ∈ lw_all := lw_t7 (i := 130) (by decide +kernel) rfl
theorem fl_X12_524 : Cond.fieldLink RX12 524 "OnlinePartsModel" "heap" "I" ∈ lw_all := lw_t7 (i := 131) (by decide +kernel) rfl
theorem fl_X12_121 : Cond.fieldLink RX12 121 "OnlinePartsModel" "built" "[I" ∈ lw_all := lw_t7 (i := 132) (by decide +kernel) rfl
theorem fl_X12_530 : Cond.fieldLink RX12 530 "OnlinePartsModel" "builtMany" "I" ∈ lw_all := lw_t7 (i := 133) (by decide +kernel) rfl
theorem fl_X12_124 : Cond.fieldLink RX12 124 "OnlinePartsModel" "leafAt" "[I" ∈ lw_all := lw_t7 (i := 134) (by decide +kernel) rfl
theorem fl_X12_127 : Cond.fieldLink RX12 127 "OnlinePartsModel" "act" "[I" ∈ lw_all := lw_t7 (i := 135) (by decide +kernel) rfl
theorem fl_X12_130 : Cond.fieldLink RX12 130 "OnlinePartsModel" "actA" "[I" ∈ lw_all := lw_t7 (i := 136) (by decide +kernel) rfl
theorem fl_X12_133 : Cond.fieldLink RX12 133 "OnlinePartsModel" "actB" "[I" ∈ lw_all := lw_t7 (i := 137) (by decide +kernel) rfl
theorem fl_X12_136 : Cond.fieldLink RX12 136 "OnlinePartsModel" "came" "[I" ∈ lw_all := lw_t7 (i := 138) (by decide +kernel) rfl
theorem fl_X12_139 : Cond.fieldLink RX12 139 "OnlinePartsModel" "vars" "[I" ∈ lw_all := lw_t7 (i := 139) (by decide +kernel) rfl
theorem fl_X12_545 : Cond.fieldLink RX12 545 "OnlinePartsModel" "acts" "I" ∈ lw_all := lw_t7 (i := 140) (by decide +kernel) rfl
theorem fl_X12_548 : Cond.fieldLink RX12 548 "OnlinePartsModel" "cameMany" "I" ∈ lw_all := lw_t7 (i := 141) (by decide +kernel) rfl
theorem fl_X12_554 : Cond.fieldLink RX12 554 "OnlinePartsModel" "base" "I" ∈ lw_all := lw_t7 (i := 142) (by decide +kernel) rfl
theorem fl_X12_557 : Cond.fieldLink RX12 557 "OnlinePartsModel" "over" "I" ∈ lw_all := lw_t7 (i := 143) (by decide +kernel) rfl
theorem fl_X12_551 : Cond.fieldLink RX12 551 "OnlinePartsModel" "isThought" "Z" ∈ lw_all := lw_t7 (i := 144) (by decide +kernel) rfl
theorem fl_X12_142 : Cond.fieldLink RX12 142 "OnlinePartsModel" "place" "[I" ∈ lw_all := lw_t7 (i := 145) (by decide +kernel) rfl
theorem fl_X12_145 : Cond.fieldLink RX12 145 "OnlinePartsModel" "shownSort" "[I" ∈ lw_all := lw_t7 (i := 146) (by decide +kernel) rfl
theorem fl_X12_148 : Cond.fieldLink RX12 148 "OnlinePartsModel" "shownBits" "[I" ∈ lw_all := lw_t7 (i := 147) (by decide +kernel) rfl
theorem fl_X12_649 : Cond.fieldLink RX12 649 "OnlinePartsModel" "written" "I" ∈ lw_all := lw_t7 (i := 148) (by decide +kernel) rfl
theorem fl_X12_151 : Cond.fieldLink RX12 151 "OnlinePartsModel" "given5" "[I" ∈ lw_all := lw_t7 (i := 149) (by decide +kernel) rfl
theorem fl_X12_658 : Cond.fieldLink RX12 658 "OnlinePartsModel" "calls" "I" ∈ lw_all := lw_t7 (i := 150) (by decide +kernel) rfl
theorem fl_X12_661 : Cond.fieldLink RX12 661 "OnlinePartsModel" "under" "I" ∈ lw_all := lw_t7 (i := 151) (by decide +kernel) rfl
theorem fl_X12_664 : Cond.fieldLink RX12 664 "OnlinePartsModel" "mostUnder" "I" ∈ lw_all := lw_t7 (i := 152) (by decide +kernel) rfl
theorem fl_X12_154 : Cond.fieldLink RX12 154 "OnlinePartsModel" "itemKind" "[I" ∈ lw_all := lw_t7 (i := 153) (by decide +kernel) rfl
theorem fl_X12_157 : Cond.fieldLink RX12 157 "OnlinePartsModel" "itemRegister" "[I" ∈ lw_all := lw_t7 (i := 154) (by decide +kernel) rfl
theorem fl_X12_160 : Cond.fieldLink RX12 160 "OnlinePartsModel" "itemA" "[I" ∈ lw_all := lw_t7 (i := 155) (by decide +kernel) rfl
theorem fl_X12_163 : Cond.fieldLink RX12 163 "OnlinePartsModel" "itemElse" "[I" ∈ lw_all := lw_t7 (i := 156) (by decide +kernel) rfl
theorem fl_X12_166 : Cond.fieldLink RX12 166 "OnlinePartsModel" "itemEnd" "[I" ∈ lw_all := lw_t7 (i := 157) (by decide +kernel) rfl
theorem fl_X12_169 : Cond.fieldLink RX12 169 "OnlinePartsModel" "itemFrom" "[I" ∈ lw_all := lw_t7 (i := 158) (by decide +kernel) rfl
theorem fl_X12_172 : Cond.fieldLink RX12 172 "OnlinePartsModel" "itemMany" "[I" ∈ lw_all := lw_t7 (i := 159) (by decide +kernel) rfl
theorem fl_X12_175 : Cond.fieldLink RX12 175 "OnlinePartsModel" "opSort" "[I" ∈ lw_all := lw_t7 (i := 160) (by decide +kernel) rfl
theorem fl_X12_178 : Cond.fieldLink RX12 178 "OnlinePartsModel" "opBits" "[I" ∈ lw_all := lw_t7 (i := 161) (by decide +kernel) rfl
theorem fl_X12_682 : Cond.fieldLink RX12 682 "OnlinePartsModel" "items" "I" ∈ lw_all := lw_t7 (i := 162) (by decide +kernel) rfl
theorem fl_X12_685 : Cond.fieldLink RX12 685 "OnlinePartsModel" "operands" "I" ∈ lw_all := lw_t7 (i := 163) (by decide +kernel) rfl
theorem fl_X12_688 : Cond.fieldLink RX12 688 "OnlinePartsModel" "code" "I" ∈ lw_all := lw_t7 (i := 164) (by decide +kernel) rfl
theorem fl_X12_612 : Cond.fieldLink RX12 612 "OnlinePartsModel" "blocks" "I" ∈ lw_all := lw_t7 (i := 165) (by decide +kernel) rfl
theorem fl_X12_733 : Cond.fieldLink RX12 733 "OnlinePartsModel" "unrolled" "I" ∈ lw_all := lw_t7 (i := 166) (by decide +kernel) rfl
theorem fl_X12_679 : Cond.fieldLink RX12 679 "OnlinePartsModel" "unrolledNow" "I" ∈ lw_all := lw_t7 (i := 167) (by decide +kernel) rfl
theorem fl_X12_691 : Cond.fieldLink RX12 691 "OnlinePartsModel" "registers" "I" ∈ lw_all := lw_t7 (i := 168) (by decide +kernel) rfl
theorem fl_X12_464 : Cond.fieldLink RX12 464 "OnlinePartsModel" "isLeft" "Z" ∈ lw_all := lw_t7 (i := 169) (by decide +kernel) rfl
theorem fl_X12_717 : Cond.fieldLink RX12 717 "OnlinePartsModel" "grown" "I" ∈ lw_all := lw_t7 (i := 170) (by decide +kernel) rfl
theorem fl_X12_757 : Cond.fieldLink RX12 757 "OnlinePartsModel" "allStars" "I" ∈ lw_all := lw_t7 (i := 171) (by decide +kernel) rfl
theorem fl_X12_181 : Cond.fieldLink RX12 181 "OnlinePartsModel" "lifts" "[I" ∈ lw_all := lw_t7 (i := 172) (by decide +kernel) rfl
theorem fl_X12_184 : Cond.fieldLink RX12 184 "OnlinePartsModel" "lifted" "[I" ∈ lw_all := lw_t7 (i := 173) (by decide +kernel) rfl
theorem fl_X12_187 : Cond.fieldLink RX12 187 "OnlinePartsModel" "variantOf" "[I" ∈ lw_all := lw_t7 (i := 174) (by decide +kernel) rfl
theorem fl_X12_190 : Cond.fieldLink RX12 190 "OnlinePartsModel" "patternLong" "[I" ∈ lw_all := lw_t7 (i := 175) (by decide +kernel) rfl
theorem fl_X12_193 : Cond.fieldLink RX12 193 "OnlinePartsModel" "starMany" "[I" ∈ lw_all := lw_t7 (i := 176) (by decide +kernel) rfl
theorem fl_X12_196 : Cond.fieldLink RX12 196 "OnlinePartsModel" "patternSort" "[I" ∈ lw_all := lw_t7 (i := 177) (by decide +kernel) rfl
theorem fl_X12_199 : Cond.fieldLink RX12 199 "OnlinePartsModel" "patternBits" "[I" ∈ lw_all := lw_t7 (i := 178) (by decide +kernel) rfl
theorem fl_X12_202 : Cond.fieldLink RX12 202 "OnlinePartsModel" "beginAt" "[I" ∈ lw_all := lw_t7 (i := 179) (by decide +kernel) rfl
theorem fl_X12_205 : Cond.fieldLink RX12 205 "OnlinePartsModel" "endAt" "[I" ∈ lw_all := lw_t7 (i := 180) (by decide +kernel) rfl
theorem fl_X12_208 : Cond.fieldLink RX12 208 "OnlinePartsModel" "enderAt" "[I" ∈ lw_all := lw_t7 (i := 181) (by decide +kernel) rfl
theorem fl_X12_211 : Cond.fieldLink RX12 211 "OnlinePartsModel" "registerMany" "[I" ∈ lw_all := lw_t7 (i := 182) (by decide +kernel) rfl
theorem fl_X12_214 : Cond.fieldLink RX12 214 "OnlinePartsModel" "from" "[I" ∈ lw_all := lw_t7 (i := 183) (by decide +kernel) rfl
theorem fl_X12_724 : Cond.fieldLink RX12 724 "OnlinePartsModel" "variants" "I" ∈ lw_all := lw_t7 (i := 184) (by decide +kernel) rfl
theorem fl_X12_742 : Cond.fieldLink RX12 742 "OnlinePartsModel" "atHand" "I" ∈ lw_all := lw_t7 (i := 185) (by decide +kernel) rfl
theorem fl_X12_217 : Cond.fieldLink RX12 217 "OnlinePartsModel" "madeSort" "[I" ∈ lw_all := lw_t7 (i := 186) (by decide +kernel) rfl
theorem fl_X12_220 : Cond.fieldLink RX12 220 "OnlinePartsModel" "madeBits" "[I" ∈ lw_all := lw_t7 (i := 187) (by decide +kernel) rfl
theorem fl_X12_223 : Cond.fieldLink RX12 223 "OnlinePartsModel" "madeAt" "[I" ∈ lw_all := lw_t7 (i := 188) (by decide +kernel) rfl
theorem fl_X12_226 : Cond.fieldLink RX12 226 "OnlinePartsModel" "otherSort" "[I" ∈ lw_all := lw_t7 (i := 189) (by decide +kernel) rfl
theorem fl_X12_229 : Cond.fieldLink RX12 229 "OnlinePartsModel" "otherBits" "[I" ∈ lw_all := lw_t7 (i := 190) (by decide +kernel) rfl
theorem fl_X12_232 : Cond.fieldLink RX12 232 "OnlinePartsModel" "otherAt" "[I" ∈ lw_all := lw_t7 (i := 191) (by decide +kernel) rfl
theorem fl_X12_707 : Cond.fieldLink RX12 707 "OnlinePartsModel" "madeLong" "I" ∈ lw_all := lw_t7 (i := 192) (by decide +kernel) rfl
theorem fl_X12_235 : Cond.fieldLink RX12 235 "OnlinePartsModel" "ran" "[I" ∈ lw_all := lw_t7 (i := 193) (by decide +kernel) rfl
theorem fl_X12_238 : Cond.fieldLink RX12 238 "OnlinePartsModel" "rowSort" "[I" ∈ lw_all := lw_t7 (i := 194) (by decide +kernel) rfl
theorem fl_X12_241 : Cond.fieldLink RX12 241 "OnlinePartsModel" "rowBits" "[I" ∈ lw_all := lw_t7 (i := 195) (by decide +kernel) rfl
theorem fl_X12_797 : Cond.fieldLink RX12 797 "OnlinePartsModel" "rowLong" "I" ∈ lw_all := lw_t7 (i := 196) (by decide +kernel) rfl
theorem fl_X12_244 : Cond.fieldLink RX12 244 "OnlinePartsModel" "register" "[I" ∈ lw_all := lw_t7 (i := 197) (by decide +kernel) rfl
theorem fl_X12_247 : Cond.fieldLink RX12 247 "OnlinePartsModel" "goesOn0" "[I" ∈ lw_all := lw_t7 (i := 198) (by decide +kernel) rfl
theorem fl_X12_250 : Cond.fieldLink RX12 250 "OnlinePartsModel" "variantAt" "[I" ∈ lw_all := lw_t7 (i := 199) (by decide +kernel) rfl
theorem fl_X12_812 : Cond.fieldLink RX12 812 "OnlinePartsModel" "first" "I" ∈ lw_all := lw_t7 (i := 200) (by decide +kernel) rfl
theorem fl_X12_253 : Cond.fieldLink RX12 253 "OnlinePartsModel" "keptSort" "[I" ∈ lw_all := lw_t7 (i := 201) (by decide +kernel) rfl
theorem fl_X12_256 : Cond.fieldLink RX12 256 "OnlinePartsModel" "keptBits" "[I" ∈ lw_all := lw_t7 (i := 202) (by decide +kernel) rfl
theorem fl_X12_259 : Cond.fieldLink RX12 259 "OnlinePartsModel" "keptPlace" "[I" ∈ lw_all := lw_t7 (i := 203) (by decide +kernel) rfl
theorem fl_X12_262 : Cond.fieldLink RX12 262 "OnlinePartsModel" "doneSort" "[I" ∈ lw_all := lw_t7 (i := 204) (by decide +kernel) rfl
theorem fl_X12_265 : Cond.fieldLink RX12 265 "OnlinePartsModel" "doneBits" "[I" ∈ lw_all := lw_t7 (i := 205) (by decide +kernel) rfl
theorem fl_X12_845 : Cond.fieldLink RX12 845 "OnlinePartsModel" "kept" "I" ∈ lw_all := lw_t7 (i := 206) (by decide +kernel) rfl
theorem fl_X12_848 : Cond.fieldLink RX12 848 "OnlinePartsModel" "doneLong" "I" ∈ lw_all := lw_t7 (i := 207) (by decide +kernel) rfl
theorem fl_X12_268 : Cond.fieldLink RX12 268 "OnlinePartsModel" "asideSort" "[I" ∈ lw_all := lw_t7 (i := 208) (by decide +kernel) rfl
theorem fl_X12_271 : Cond.fieldLink RX12 271 "OnlinePartsModel" "asideBits" "[I" ∈ lw_all := lw_t7 (i := 209) (by decide +kernel) rfl
theorem fl_X12_274 : Cond.fieldLink RX12 274 "OnlinePartsModel" "asidePlace" "[I" ∈ lw_all := lw_t7 (i := 210) (by decide +kernel) rfl
theorem fl_X12_277 : Cond.fieldLink RX12 277 "OnlinePartsModel" "asideRan" "[I" ∈ lw_all := lw_t7 (i := 211) (by decide +kernel) rfl
theorem fl_X12_281 : Cond.fieldLink RX12 281 "OnlinePartsModel" "letters" "[B" ∈ lw_all := lw_t7 (i := 212) (by decide +kernel) rfl
theorem fl_X12_859 : Cond.fieldLink RX12 859 "OnlinePartsModel" "lettered" "I" ∈ lw_all := lw_t7 (i := 213) (by decide +kernel) rfl
theorem fl_X12_284 : Cond.fieldLink RX12 284 "OnlinePartsModel" "still" "[I" ∈ lw_all := lw_t7 (i := 214) (by decide +kernel) rfl
theorem ml_L_106 : Cond.methodLink RL 106 yX12_op ∈ lw_all := lw_t9 (i := 18) (by decide +kernel) rfl
theorem im_X12_op : Cond.instanceMethod yX12_op ∈ lw_all := lw_t9 (i := 19) (by decide +kernel) rfl
theorem se_X12_op : Cond.selects RX12 yX12_op yX12_op ∈ lw_all := lw_t9 (i := 20) (by decide +kernel) rfl
theorem co_X12_op : Cond.code yX12_op cX12_op 4 (some .int) ∈ lw_all := lw_t9 (i := 21) rfl rfl
theorem ml_X12_345 : Cond.methodLink RX12 345 yX12_isSign ∈ lw_all := lw_t9 (i := 22) (by decide +kernel) rfl
theorem st_X12_isSign : Cond.static yX12_isSign ∈ lw_all := lw_t9 (i := 23) (by decide +kernel) rfl
theorem co_X12_isSign : Cond.code yX12_isSign cX12_isSign 1 (some .boolean) ∈ lw_all := lw_t9 (i := 24) rfl rfl
theorem ml_X12_348 : Cond.methodLink RX12 348 yX12_join ∈ lw_all := lw_t9 (i := 25) (by decide +kernel) rfl
theorem im_X12_join : Cond.instanceMethod yX12_join ∈ lw_all := lw_t9 (i := 27) (by decide +kernel) rfl
theorem co_X12_join : Cond.code yX12_join cX12_join 8 none ∈ lw_all := lw_t9 (i := 28) rfl rfl
theorem ml_X12_320 : Cond.methodLink RX12 320 yX12_intOf ∈ lw_all := lw_t9 (i := 29) (by decide +kernel) rfl
theorem st_X12_intOf : Cond.static yX12_intOf ∈ lw_all := lw_t9 (i := 30) (by decide +kernel) rfl
theorem co_X12_intOf : Cond.code yX12_intOf cX12_intOf 2 (some .int) ∈ lw_all := lw_t9 (i := 31) rfl rfl
theorem ml_X12_291 : Cond.methodLink RX12 291 yX12_isNan ∈ lw_all := lw_t9 (i := 32) (by decide +kernel) rfl
theorem st_X12_isNan : Cond.static yX12_isNan ∈ lw_all := lw_t9 (i := 33) (by decide +kernel) rfl
theorem co_X12_isNan : Cond.code yX12_isNan cX12_isNan 1 (some .boolean) ∈ lw_all := lw_t9 (i := 34) rfl rfl
theorem cs_X12_311 : Cond.constant RX12 311 (2147483647) ∈ lw_all := lw_t9 (i := 35) (by decide +kernel) rfl
theorem cs_X12_312 : Cond.constant RX12 312 (2139095040) ∈ lw_all := lw_t9 (i := 36) (by decide +kernel) rfl
theorem ml_X12_324 : Cond.methodLink RX12 324 yX12_give ∈ lw_all := lw_t9 (i := 40) (by decide +kernel) rfl
theorem im_X12_give : Cond.instanceMethod yX12_give ∈ lw_all := lw_t9 (i := 42) (by decide +kernel) rfl
theorem co_X12_give : Cond.code yX12_give cX12_give 3 none ∈ lw_all := lw_t9 (i := 43) rfl rfl
theorem ml_X12_328 : Cond.methodLink RX12 328 yX12_floatOf ∈ lw_all := lw_t9 (i := 44) (by decide +kernel) rfl
theorem st_X12_floatOf : Cond.static yX12_floatOf ∈ lw_all := lw_t9 (i := 45) (by decide +kernel) rfl
theorem co_X12_floatOf : Cond.code yX12_floatOf cX12_floatOf 2 (some .int) ∈ lw_all := lw_t9 (i := 46) rfl rfl
theorem ml_X12_287 : Cond.methodLink RX12 287 yX12_bitsOf ∈ lw_all := lw_t9 (i := 47) (by decide +kernel) rfl
theorem st_X12_bitsOf : Cond.static yX12_bitsOf ∈ lw_all := lw_t9 (i := 48) (by decide +kernel) rfl
theorem co_X12_bitsOf : Cond.code yX12_bitsOf cX12_bitsOf 1 (some .int) ∈ lw_all := lw_t9 (i := 49) rfl rfl
theorem ml_X12_302 : Cond.methodLink RX12 302 yJxf58ca_floatToIntBits_5c35a ∈ lw_all := lw_t9 (i := 50) (by decide +kernel) rfl
theorem st_Jxf58ca_floatToIntBits_5c35a : Cond.static yJxf58ca_floatToIntBits_5c35a ∈ lw_all := lw_t9 (i := 51) (by decide +kernel) rfl
theorem co_Jxf58ca_floatToIntBits_5c35a : Cond.code yJxf58ca_floatToIntBits_5c35a cJxf58ca_floatToIntBits_5c35a 1 (some .int) ∈ lw_all := lw_t9 (i := 52) rfl rfl
theorem ml_Jxf58ca_59 : Cond.methodLink RJxf58ca 59 yJxf58ca_isNaN_12338 ∈ lw_all := lw_t9 (i := 53) (by decide +kernel) rfl
theorem st_Jxf58ca_isNaN_12338 : Cond.static yJxf58ca_isNaN_12338 ∈ lw_all := lw_t9 (i := 54) (by decide +kernel) rfl
theorem co_Jxf58ca_isNaN_12338 : Cond.code yJxf58ca_isNaN_12338 cJxf58ca_isNaN_12338 1 (some .boolean) ∈ lw_all := lw_t9 (i := 55) rfl rfl
theorem cs_Jxf58ca_77 : Cond.constant RJxf58ca 77 (2143289344) ∈ lw_all := lw_t9 (i := 59) (by decide +kernel) rfl
theorem cs_X12_295 : Cond.constant RX12 295 (2143289344) ∈ lw_all := lw_t9 (i := 60) (by decide +kernel) rfl
theorem ml_X12_331 : Cond.methodLink RX12 331 yX12_isLess ∈ lw_all := lw_t9 (i := 61) (by decide +kernel) rfl
theorem st_X12_isLess : Cond.static yX12_isLess ∈ lw_all := lw_t9 (i := 62) (by decide +kernel) rfl
theorem co_X12_isLess : Cond.code yX12_isLess cX12_isLess 2 (some .boolean) ∈ lw_all := lw_t9 (i := 63) rfl rfl
theorem ml_X12_335 : Cond.methodLink RX12 335 yX12_isSame ∈ lw_all := lw_t9 (i := 64) (by decide +kernel) rfl
theorem st_X12_isSame : Cond.static yX12_isSame ∈ lw_all := lw_t9 (i := 65) (by decide +kernel) rfl
theorem co_X12_isSame : Cond.code yX12_isSame cX12_isSame 2 (some .boolean) ∈ lw_all := lw_t9 (i := 66) rfl rfl
theorem ml_X12_338 : Cond.methodLink RX12 338 yX12_brokens ∈ lw_all := lw_t9 (i := 67) (by decide +kernel) rfl
theorem st_X12_brokens : Cond.static yX12_brokens ∈ lw_all := lw_t9 (i := 68) (by decide +kernel) rfl
theorem co_X12_brokens : Cond.code yX12_brokens cX12_brokens 5 (some .int) ∈ lw_all := lw_t9 (i := 69) rfl rfl
theorem ml_X12_316 : Cond.methodLink RX12 316 yX12_isNoNumber ∈ lw_all := lw_t9 (i := 70) (by decide +kernel) rfl
theorem st_X12_isNoNumber : Cond.static yX12_isNoNumber ∈ lw_all := lw_t9 (i := 71) (by decide +kernel) rfl
theorem co_X12_isNoNumber : Cond.code yX12_isNoNumber cX12_isNoNumber 4 (some .boolean) ∈ lw_all := lw_t9 (i := 72) rfl rfl
theorem ml_X12_313 : Cond.methodLink RX12 313 yX12_isInfinite ∈ lw_all := lw_t9 (i := 73) (by decide +kernel) rfl
theorem st_X12_isInfinite : Cond.static yX12_isInfinite ∈ lw_all := lw_t9 (i := 74) (by decide +kernel) rfl
theorem co_X12_isInfinite : Cond.code yX12_isInfinite cX12_isInfinite 1 (some .boolean) ∈ lw_all := lw_t9 (i := 75) rfl rfl
theorem ml_X12_342 : Cond.methodLink RX12 342 yX12_wholes ∈ lw_all := lw_t9 (i := 76) (by decide +kernel) rfl
theorem st_X12_wholes : Cond.static yX12_wholes ∈ lw_all := lw_t9 (i := 77) (by decide +kernel) rfl
theorem co_X12_wholes : Cond.code yX12_wholes cX12_wholes 3 (some .int) ∈ lw_all := lw_t9 (i := 78) rfl rfl
theorem ml_L_17 : Cond.methodLink RL 17 yX12_feed ∈ lw_all := lw_t9 (i := 79) (by decide +kernel) rfl
theorem im_X12_feed : Cond.instanceMethod yX12_feed ∈ lw_all := lw_t9 (i := 80) (by decide +kernel) rfl
theorem se_X12_feed : Cond.selects RX12 yX12_feed yX12_feed ∈ lw_all := lw_t9 (i := 81) (by decide +kernel) rfl
theorem co_X12_feed : Cond.code yX12_feed cX12_feed 6 (some .int) ∈ lw_all := lw_t9 (i := 82) rfl rfl
theorem ml_X12_355 : Cond.methodLink RX12 355 yX12_four ∈ lw_all := lw_t9 (i := 83) (by decide +kernel) rfl
theorem im_X12_four : Cond.instanceMethod yX12_four ∈ lw_all := lw_t9 (i := 85) (by decide +kernel) rfl
theorem co_X12_four : Cond.code yX12_four cX12_four 3 none ∈ lw_all := lw_t9 (i := 86) rfl rfl
theorem ml_L_22 : Cond.methodLink RL 22 yX12_end ∈ lw_all := lw_t9 (i := 87) (by decide +kernel) rfl
theorem im_X12_end : Cond.instanceMethod yX12_end ∈ lw_all := lw_t9 (i := 88) (by decide +kernel) rfl
theorem se_X12_end : Cond.selects RX12 yX12_end yX12_end ∈ lw_all := lw_t9 (i := 89) (by decide +kernel) rfl
theorem co_X12_end : Cond.code yX12_end cX12_end 2 (some .int) ∈ lw_all := lw_t9 (i := 90) rfl rfl
theorem ml_X12_359 : Cond.methodLink RX12 359 yX12_isIn ∈ lw_all := lw_t9 (i := 91) (by decide +kernel) rfl
theorem st_X12_isIn : Cond.static yX12_isIn ∈ lw_all := lw_t9 (i := 92) (by decide +kernel) rfl
theorem co_X12_isIn : Cond.code yX12_isIn cX12_isIn 3 (some .boolean) ∈ lw_all := lw_t9 (i := 93) rfl rfl
theorem ml_L_27 : Cond.methodLink RL 27 yX12_program ∈ lw_all := lw_t9 (i := 94) (by decide +kernel) rfl
theorem im_X12_program : Cond.instanceMethod yX12_program ∈ lw_all := lw_t9 (i := 95) (by decide +kernel) rfl
theorem se_X12_program : Cond.selects RX12 yX12_program yX12_program ∈ lw_all := lw_t9 (i := 96) (by decide +kernel) rfl
theorem co_X12_program : Cond.code yX12_program cX12_program 2 (some .int) ∈ lw_all := lw_t9 (i := 97) rfl rfl
theorem ml_X12_461 : Cond.methodLink RX12 461 yX12_readProgram ∈ lw_all := lw_t9 (i := 98) (by decide +kernel) rfl
theorem im_X12_readProgram : Cond.instanceMethod yX12_readProgram ∈ lw_all := lw_t9 (i := 100) (by decide +kernel) rfl
theorem co_X12_readProgram : Cond.code yX12_readProgram cX12_readProgram 1 (some .boolean) ∈ lw_all := lw_t9 (i := 101) rfl rfl
theorem ml_X12_452 : Cond.methodLink RX12 452 yX12_beginText ∈ lw_all := lw_t9 (i := 102) (by decide +kernel) rfl
theorem im_X12_beginText : Cond.instanceMethod yX12_beginText ∈ lw_all := lw_t9 (i := 104) (by decide +kernel) rfl
theorem co_X12_beginText : Cond.code yX12_beginText cX12_beginText 1 none ∈ lw_all := lw_t9 (i := 105) rfl rfl
theorem ml_X12_455 : Cond.methodLink RX12 455 yX12_readFunction ∈ lw_all := lw_t9 (i := 106) (by decide +kernel) rfl
theorem im_X12_readFunction : Cond.instanceMethod yX12_readFunction ∈ lw_all := lw_t9 (i := 108) (by decide +kernel) rfl
theorem co_X12_readFunction : Cond.code yX12_readFunction cX12_readFunction 3 (some .boolean) ∈ lw_all := lw_t9 (i := 109) rfl rfl
theorem ml_X12_365 : Cond.methodLink RX12 365 yX12_here ∈ lw_all := lw_t9 (i := 110) (by decide +kernel) rfl
theorem im_X12_here : Cond.instanceMethod yX12_here ∈ lw_all := lw_t9 (i := 112) (by decide +kernel) rfl
theorem co_X12_here : Cond.code yX12_here cX12_here 1 (some .int) ∈ lw_all := lw_t9 (i := 113) rfl rfl
theorem ml_X12_406 : Cond.methodLink RX12 406 yX12_isFunctionLetter ∈ lw_all := lw_t9 (i := 114) (by decide +kernel) rfl
theorem st_X12_isFunctionLetter : Cond.static yX12_isFunctionLetter ∈ lw_all := lw_t9 (i := 115) (by decide +kernel) rfl
theorem co_X12_isFunctionLetter : Cond.code yX12_isFunctionLetter cX12_isFunctionLetter 1 (some .boolean) ∈ lw_all := lw_t9 (i := 116) rfl rfl
theorem ml_X12_369 : Cond.methodLink RX12 369 yX12_fails ∈ lw_all := lw_t9 (i := 117) (by decide +kernel) rfl
theorem im_X12_fails : Cond.instanceMethod yX12_fails ∈ lw_all := lw_t9 (i := 119) (by decide +kernel) rfl
theorem co_X12_fails : Cond.code yX12_fails cX12_fails 2 (some .boolean) ∈ lw_all := lw_t9 (i := 120) rfl rfl
theorem ml_X12_422 : Cond.methodLink RX12 422 yX12_takes ∈ lw_all := lw_t9 (i := 121) (by decide +kernel) rfl
theorem im_X12_takes : Cond.instanceMethod yX12_takes ∈ lw_all := lw_t9 (i := 123) (by decide +kernel) rfl
theorem co_X12_takes : Cond.code yX12_takes cX12_takes 2 (some .boolean) ∈ lw_all := lw_t9 (i := 124) rfl rfl
theorem ml_X12_443 : Cond.methodLink RX12 443 yX12_readVars ∈ lw_all := lw_t9 (i := 125) (by decide +kernel) rfl
theorem im_X12_readVars : Cond.instanceMethod yX12_readVars ∈ lw_all := lw_t9 (i := 127) (by decide +kernel) rfl
theorem co_X12_readVars : Cond.code yX12_readVars cX12_readVars 4 (some .boolean) ∈ lw_all := lw_t9 (i := 128) rfl rfl
theorem ml_X12_403 : Cond.methodLink RX12 403 yX12_isVarLetter ∈ lw_all := lw_t9 (i := 129) (by decide +kernel) rfl
theorem st_X12_isVarLetter : Cond.static yX12_isVarLetter ∈ lw_all := lw_t9 (i := 130) (by decide +kernel) rfl
theorem co_X12_isVarLetter : Cond.code yX12_isVarLetter cX12_isVarLetter 1 (some .boolean) ∈ lw_all := lw_t9 (i := 131) rfl rfl
theorem ml_X12_446 : Cond.methodLink RX12 446 yX12_isNew ∈ lw_all := lw_t9 (i := 132) (by decide +kernel) rfl
theorem im_X12_isNew : Cond.instanceMethod yX12_isNew ∈ lw_all := lw_t9 (i := 134) (by decide +kernel) rfl
theorem co_X12_isNew : Cond.code yX12_isNew cX12_isNew 4 (some .boolean) ∈ lw_all := lw_t9 (i := 135) rfl rfl
theorem ml_X12_449 : Cond.methodLink RX12 449 yX12_readExpression ∈ lw_all := lw_t9 (i := 136) (by decide +kernel) rfl
theorem im_X12_readExpression : Cond.instanceMethod yX12_readExpression ∈ lw_all := lw_t9 (i := 138) (by decide +kernel) rfl
theorem co_X12_readExpression : Cond.code yX12_readExpression cX12_readExpression 5 (some .boolean) ∈ lw_all := lw_t9 (i := 139) rfl rfl
theorem ml_X12_437 : Cond.methodLink RX12 437 yX12_readThing ∈ lw_all := lw_t9 (i := 140) (by decide +kernel) rfl
theorem im_X12_readThing : Cond.instanceMethod yX12_readThing ∈ lw_all := lw_t9 (i := 142) (by decide +kernel) rfl
theorem co_X12_readThing : Cond.code yX12_readThing cX12_readThing 4 (some .boolean) ∈ lw_all := lw_t9 (i := 143) rfl rfl
theorem ml_X12_399 : Cond.methodLink RX12 399 yX12_beginsNumber ∈ lw_all := lw_t9 (i := 144) (by decide +kernel) rfl
theorem im_X12_beginsNumber : Cond.instanceMethod yX12_beginsNumber ∈ lw_all := lw_t9 (i := 146) (by decide +kernel) rfl
theorem co_X12_beginsNumber : Cond.code yX12_beginsNumber cX12_beginsNumber 1 (some .boolean) ∈ lw_all := lw_t9 (i := 147) rfl rfl
theorem ml_X12_372 : Cond.methodLink RX12 372 yX12_isFigure ∈ lw_all := lw_t9 (i := 148) (by decide +kernel) rfl
theorem st_X12_isFigure : Cond.static yX12_isFigure ∈ lw_all := lw_t9 (i := 149) (by decide +kernel) rfl
theorem co_X12_isFigure : Cond.code yX12_isFigure cX12_isFigure 1 (some .boolean) ∈ lw_all := lw_t9 (i := 150) rfl rfl
theorem ml_X12_409 : Cond.methodLink RX12 409 yX12_signOf ∈ lw_all := lw_t9 (i := 151) (by decide +kernel) rfl
theorem st_X12_signOf : Cond.static yX12_signOf ∈ lw_all := lw_t9 (i := 152) (by decide +kernel) rfl
theorem co_X12_signOf : Cond.code yX12_signOf cX12_signOf 1 (some .int) ∈ lw_all := lw_t9 (i := 153) rfl rfl
theorem ml_X12_416 : Cond.methodLink RX12 416 yX12_readNumber ∈ lw_all := lw_t9 (i := 154) (by decide +kernel) rfl
theorem im_X12_readNumber : Cond.instanceMethod yX12_readNumber ∈ lw_all := lw_t9 (i := 156) (by decide +kernel) rfl
theorem co_X12_readNumber : Cond.code yX12_readNumber cX12_readNumber 5 (some .boolean) ∈ lw_all := lw_t9 (i := 157) rfl rfl
theorem ml_X12_375 : Cond.methodLink RX12 375 yX12_digits ∈ lw_all := lw_t9 (i := 158) (by decide +kernel) rfl
theorem im_X12_digits : Cond.instanceMethod yX12_digits ∈ lw_all := lw_t9 (i := 160) (by decide +kernel) rfl
theorem co_X12_digits : Cond.code yX12_digits cX12_digits 5 (some .int) ∈ lw_all := lw_t9 (i := 161) rfl rfl
theorem cs_X12_384 : Cond.constantFloat RX12 384 1092616192 ∈ lw_all := lw_t9 (i := 162) (by decide +kernel) rfl
theorem cs_X12_385 : Cond.constantFloat RX12 385 1120403456 ∈ lw_all := lw_t9 (i := 163) (by decide +kernel) rfl
theorem cs_X12_386 : Cond.constantFloat RX12 386 1148846080 ∈ lw_all := lw_t9 (i := 164) (by decide +kernel) rfl
theorem ml_X12_393 : Cond.methodLink RX12 393 yX12_lay ∈ lw_all := lw_t9 (i := 165) (by decide +kernel) rfl
theorem im_X12_lay : Cond.instanceMethod yX12_lay ∈ lw_all := lw_t9 (i := 167) (by decide +kernel) rfl
theorem co_X12_lay : Cond.code yX12_lay cX12_lay 4 (some .boolean) ∈ lw_all := lw_t9 (i := 168) rfl rfl
theorem ml_X12_419 : Cond.methodLink RX12 419 yX12_layOpen ∈ lw_all := lw_t9 (i := 169) (by decide +kernel) rfl
theorem im_X12_layOpen : Cond.instanceMethod yX12_layOpen ∈ lw_all := lw_t9 (i := 171) (by decide +kernel) rfl
theorem co_X12_layOpen : Cond.code yX12_layOpen cX12_layOpen 5 (some .boolean) ∈ lw_all := lw_t9 (i := 172) rfl rfl
theorem ml_X12_396 : Cond.methodLink RX12 396 yX12_openThing ∈ lw_all := lw_t9 (i := 173) (by decide +kernel) rfl
theorem im_X12_openThing : Cond.instanceMethod yX12_openThing ∈ lw_all := lw_t9 (i := 175) (by decide +kernel) rfl
theorem co_X12_openThing : Cond.code yX12_openThing cX12_openThing 1 none ∈ lw_all := lw_t9 (i := 176) rfl rfl
theorem ml_X12_425 : Cond.methodLink RX12 425 yX12_readPlace ∈ lw_all := lw_t9 (i := 177) (by decide +kernel) rfl
theorem im_X12_readPlace : Cond.instanceMethod yX12_readPlace ∈ lw_all := lw_t9 (i := 179) (by decide +kernel) rfl
theorem co_X12_readPlace : Cond.code yX12_readPlace cX12_readPlace 1 (some .boolean) ∈ lw_all := lw_t9 (i := 180) rfl rfl
theorem ml_X12_428 : Cond.methodLink RX12 428 yX12_readLet ∈ lw_all := lw_t9 (i := 181) (by decide +kernel) rfl
theorem im_X12_readLet : Cond.instanceMethod yX12_readLet ∈ lw_all := lw_t9 (i := 183) (by decide +kernel) rfl
theorem co_X12_readLet : Cond.code yX12_readLet cX12_readLet 2 (some .boolean) ∈ lw_all := lw_t9 (i := 184) rfl rfl
theorem ml_X12_431 : Cond.methodLink RX12 431 yX12_readCall ∈ lw_all := lw_t9 (i := 185) (by decide +kernel) rfl
theorem im_X12_readCall : Cond.instanceMethod yX12_readCall ∈ lw_all := lw_t9 (i := 187) (by decide +kernel) rfl
theorem co_X12_readCall : Cond.code yX12_readCall cX12_readCall 3 (some .boolean) ∈ lw_all := lw_t9 (i := 188) rfl rfl
theorem ml_X12_440 : Cond.methodLink RX12 440 yX12_hasMore ∈ lw_all := lw_t9 (i := 189) (by decide +kernel) rfl
theorem im_X12_hasMore : Cond.instanceMethod yX12_hasMore ∈ lw_all := lw_t9 (i := 191) (by decide +kernel) rfl
theorem co_X12_hasMore : Cond.code yX12_hasMore cX12_hasMore 5 (some .boolean) ∈ lw_all := lw_t9 (i := 192) rfl rfl
theorem ml_X12_434 : Cond.methodLink RX12 434 yX12_goesOn ∈ lw_all := lw_t9 (i := 193) (by decide +kernel) rfl
theorem im_X12_goesOn : Cond.instanceMethod yX12_goesOn ∈ lw_all := lw_t9 (i := 195) (by decide +kernel) rfl
theorem co_X12_goesOn : Cond.code yX12_goesOn cX12_goesOn 3 (some .boolean) ∈ lw_all := lw_t9 (i := 196) rfl rfl
theorem ml_X12_471 : Cond.methodLink RX12 471 yX12_copy ∈ lw_all := lw_t9 (i := 197) (by decide +kernel) rfl
theorem st_X12_copy : Cond.static yX12_copy ∈ lw_all := lw_t9 (i := 198) (by decide +kernel) rfl
theorem co_X12_copy : Cond.code yX12_copy cX12_copy 6 none ∈ lw_all := lw_t9 (i := 199) rfl rfl
theorem ml_X12_475 : Cond.methodLink RX12 475 yX12_layBehind ∈ lw_all := lw_t9 (i := 200) (by decide +kernel) rfl
theorem im_X12_layBehind : Cond.instanceMethod yX12_layBehind ∈ lw_all := lw_t9 (i := 202) (by decide +kernel) rfl
theorem co_X12_layBehind : Cond.code yX12_layBehind cX12_layBehind 4 none ∈ lw_all := lw_t9 (i := 203) rfl rfl
theorem ml_L_31 : Cond.methodLink RL 31 yX12_task ∈ lw_all := lw_t9 (i := 204) (by decide +kernel) rfl
theorem im_X12_task : Cond.instanceMethod yX12_task ∈ lw_all := lw_t9 (i := 205) (by decide +kernel) rfl
theorem se_X12_task : Cond.selects RX12 yX12_task yX12_task ∈ lw_all := lw_t9 (i := 206) (by decide +kernel) rfl
theorem co_X12_task : Cond.code yX12_task cX12_task 2 (some .int) ∈ lw_all := lw_t9 (i := 207) rfl rfl
theorem ml_X12_500 : Cond.methodLink RX12 500 yX12_readTask ∈ lw_all := lw_t9 (i := 208) (by decide +kernel) rfl
theorem im_X12_readTask : Cond.instanceMethod yX12_readTask ∈ lw_all := lw_t9 (i := 210) (by decide +kernel) rfl
theorem co_X12_readTask : Cond.code yX12_readTask cX12_readTask 2 (some .boolean) ∈ lw_all := lw_t9 (i := 211) rfl rfl
theorem ml_X12_496 : Cond.methodLink RX12 496 yX12_readPart ∈ lw_all := lw_t9 (i := 212) (by decide +kernel) rfl
theorem im_X12_readPart : Cond.instanceMethod yX12_readPart ∈ lw_all := lw_t9 (i := 214) (by decide +kernel) rfl
theorem co_X12_readPart : Cond.code yX12_readPart cX12_readPart 6 (some .boolean) ∈ lw_all := lw_t9 (i := 215) rfl rfl
theorem ml_X12_484 : Cond.methodLink RX12 484 yX12_layRead ∈ lw_all := lw_t9 (i := 216) (by decide +kernel) rfl
theorem im_X12_layRead : Cond.instanceMethod yX12_layRead ∈ lw_all := lw_t9 (i := 218) (by decide +kernel) rfl
theorem co_X12_layRead : Cond.code yX12_layRead cX12_layRead 3 none ∈ lw_all := lw_t9 (i := 219) rfl rfl
theorem ml_X12_487 : Cond.methodLink RX12 487 yX12_closeAll ∈ lw_all := lw_t9 (i := 220) (by decide +kernel) rfl
theorem im_X12_closeAll : Cond.instanceMethod yX12_closeAll ∈ lw_all := lw_t9 (i := 222) (by decide +kernel) rfl
theorem co_X12_closeAll : Cond.code yX12_closeAll cX12_closeAll 4 (some .int) ∈ lw_all := lw_t9 (i := 223) rfl rfl
theorem ml_L_35 : Cond.methodLink RL 35 yX12_values ∈ lw_all := lw_t9 (i := 224) (by decide +kernel) rfl
theorem im_X12_values : Cond.instanceMethod yX12_values ∈ lw_all := lw_t9 (i := 225) (by decide +kernel) rfl
theorem se_X12_values : Cond.selects RX12 yX12_values yX12_values ∈ lw_all := lw_t9 (i := 226) (by decide +kernel) rfl
theorem co_X12_values : Cond.code yX12_values cX12_values 2 (some .int) ∈ lw_all := lw_t9 (i := 227) rfl rfl
theorem ml_X12_518 : Cond.methodLink RX12 518 yX12_readValues ∈ lw_all := lw_t9 (i := 228) (by decide +kernel) rfl
theorem im_X12_readValues : Cond.instanceMethod yX12_readValues ∈ lw_all := lw_t9 (i := 230) (by decide +kernel) rfl
theorem co_X12_readValues : Cond.code yX12_readValues cX12_readValues 2 (some .boolean) ∈ lw_all := lw_t9 (i := 231) rfl rfl
theorem ml_L_39 : Cond.methodLink RL 39 yX12_fault ∈ lw_all := lw_t9 (i := 232) (by decide +kernel) rfl
theorem im_X12_fault : Cond.instanceMethod yX12_fault ∈ lw_all := lw_t9 (i := 233) (by decide +kernel) rfl
theorem se_X12_fault : Cond.selects RX12 yX12_fault yX12_fault ∈ lw_all := lw_t9 (i := 234) (by decide +kernel) rfl
theorem co_X12_fault : Cond.code yX12_fault cX12_fault 1 (some .int) ∈ lw_all := lw_t9 (i := 235) rfl rfl
theorem ml_L_44 : Cond.methodLink RL 44 yX12_set ∈ lw_all := lw_t9 (i := 236) (by decide +kernel) rfl
theorem im_X12_set : Cond.instanceMethod yX12_set ∈ lw_all := lw_t9 (i := 237) (by decide +kernel) rfl
theorem se_X12_set : Cond.selects RX12 yX12_set yX12_set ∈ lw_all := lw_t9 (i := 238) (by decide +kernel) rfl
theorem co_X12_set : Cond.code yX12_set cX12_set 4 (some .boolean) ∈ lw_all := lw_t9 (i := 239) rfl rfl
theorem ml_L_48 : Cond.methodLink RL 48 yX12_is ∈ lw_all := lw_t10 (i := 0) (by decide +kernel) rfl
theorem im_X12_is : Cond.instanceMethod yX12_is ∈ lw_all := lw_t10 (i := 1) (by decide +kernel) rfl
theorem se_X12_is : Cond.selects RX12 yX12_is yX12_is ∈ lw_all := lw_t10 (i := 2) (by decide +kernel) rfl
theorem co_X12_is : Cond.code yX12_is cX12_is 2 (some .int) ∈ lw_all := lw_t10 (i := 3) rfl rfl
theorem ml_L_53 : Cond.methodLink RL 53 yX12_function ∈ lw_all := lw_t10 (i := 4) (by decide +kernel) rfl
theorem im_X12_function : Cond.instanceMethod yX12_function ∈ lw_all := lw_t10 (i := 5) (by decide +kernel) rfl
theorem se_X12_function : Cond.selects RX12 yX12_function yX12_function ∈ lw_all := lw_t10 (i := 6) (by decide +kernel) rfl
theorem co_X12_function : Cond.code yX12_function cX12_function 3 (some .int) ∈ lw_all := lw_t10 (i := 7) rfl rfl
theorem ml_X12_521 : Cond.methodLink RX12 521 yX12_countThings ∈ lw_all := lw_t10 (i := 8) (by decide +kernel) rfl
theorem im_X12_countThings : Cond.instanceMethod yX12_countThings ∈ lw_all := lw_t10 (i := 10) (by decide +kernel) rfl
theorem co_X12_countThings : Cond.code yX12_countThings cX12_countThings 6 (some .int) ∈ lw_all := lw_t10 (i := 11) rfl rfl
theorem ml_L_57 : Cond.methodLink RL 57 yX12_specialise ∈ lw_all := lw_t10 (i := 12) (by decide +kernel) rfl
theorem im_X12_specialise : Cond.instanceMethod yX12_specialise ∈ lw_all := lw_t10 (i := 13) (by decide +kernel) rfl
theorem se_X12_specialise : Cond.selects RX12 yX12_specialise yX12_specialise ∈ lw_all := lw_t10 (i := 14) (by decide +kernel) rfl
theorem co_X12_specialise : Cond.code yX12_specialise cX12_specialise 1 (some .int) ∈ lw_all := lw_t10 (i := 15) rfl rfl
theorem ml_X12_776 : Cond.methodLink RX12 776 yX12_specialiseNow ∈ lw_all := lw_t10 (i := 16) (by decide +kernel) rfl
theorem im_X12_specialiseNow : Cond.instanceMethod yX12_specialiseNow ∈ lw_all := lw_t10 (i := 18) (by decide +kernel) rfl
theorem co_X12_specialiseNow : Cond.code yX12_specialiseNow cX12_specialiseNow 4 none ∈ lw_all := lw_t10 (i := 19) rfl rfl
theorem ml_X12_667 : Cond.methodLink RX12 667 yX12_functionOf ∈ lw_all := lw_t10 (i := 20) (by decide +kernel) rfl
theorem im_X12_functionOf : Cond.instanceMethod yX12_functionOf ∈ lw_all := lw_t10 (i := 22) (by decide +kernel) rfl
theorem co_X12_functionOf : Cond.code yX12_functionOf cX12_functionOf 4 (some .int) ∈ lw_all := lw_t10 (i := 23) rfl rfl
theorem ml_X12_770 : Cond.methodLink RX12 770 yX12_buildTask ∈ lw_all := lw_t10 (i := 24) (by decide +kernel) rfl
theorem im_X12_buildTask : Cond.instanceMethod yX12_buildTask ∈ lw_all := lw_t10 (i := 26) (by decide +kernel) rfl
theorem co_X12_buildTask : Cond.code yX12_buildTask cX12_buildTask 4 none ∈ lw_all := lw_t10 (i := 27) rfl rfl
theorem ml_X12_542 : Cond.methodLink RX12 542 yX12_buildOne ∈ lw_all := lw_t10 (i := 28) (by decide +kernel) rfl
theorem im_X12_buildOne : Cond.instanceMethod yX12_buildOne ∈ lw_all := lw_t10 (i := 30) (by decide +kernel) rfl
theorem co_X12_buildOne : Cond.code yX12_buildOne cX12_buildOne 4 none ∈ lw_all := lw_t10 (i := 31) rfl rfl
theorem ml_X12_527 : Cond.methodLink RX12 527 yX12_node ∈ lw_all := lw_t10 (i := 32) (by decide +kernel) rfl
theorem im_X12_node : Cond.instanceMethod yX12_node ∈ lw_all := lw_t10 (i := 34) (by decide +kernel) rfl
theorem co_X12_node : Cond.code yX12_node cX12_node 3 (some .int) ∈ lw_all := lw_t10 (i := 35) rfl rfl
theorem ml_X12_533 : Cond.methodLink RX12 533 yX12_build ∈ lw_all := lw_t10 (i := 36) (by decide +kernel) rfl
theorem im_X12_build : Cond.instanceMethod yX12_build ∈ lw_all := lw_t10 (i := 38) (by decide +kernel) rfl
theorem co_X12_build : Cond.code yX12_build cX12_build 2 none ∈ lw_all := lw_t10 (i := 39) rfl rfl
theorem ml_X12_536 : Cond.methodLink RX12 536 yX12_unbuild ∈ lw_all := lw_t10 (i := 40) (by decide +kernel) rfl
theorem im_X12_unbuild : Cond.instanceMethod yX12_unbuild ∈ lw_all := lw_t10 (i := 42) (by decide +kernel) rfl
theorem co_X12_unbuild : Cond.code yX12_unbuild cX12_unbuild 1 (some .int) ∈ lw_all := lw_t10 (i := 43) rfl rfl
theorem ml_X12_539 : Cond.methodLink RX12 539 yX12_pair ∈ lw_all := lw_t10 (i := 44) (by decide +kernel) rfl
theorem im_X12_pair : Cond.instanceMethod yX12_pair ∈ lw_all := lw_t10 (i := 46) (by decide +kernel) rfl
theorem co_X12_pair : Cond.code yX12_pair cX12_pair 4 (some .int) ∈ lw_all := lw_t10 (i := 47) rfl rfl
theorem ml_X12_739 : Cond.methodLink RX12 739 yX12_layMade ∈ lw_all := lw_t10 (i := 48) (by decide +kernel) rfl
theorem im_X12_layMade : Cond.instanceMethod yX12_layMade ∈ lw_all := lw_t10 (i := 50) (by decide +kernel) rfl
theorem co_X12_layMade : Cond.code yX12_layMade cX12_layMade 4 none ∈ lw_all := lw_t10 (i := 51) rfl rfl
theorem ml_X12_710 : Cond.methodLink RX12 710 yX12_isNumber ∈ lw_all := lw_t10 (i := 52) (by decide +kernel) rfl
theorem st_X12_isNumber : Cond.static yX12_isNumber ∈ lw_all := lw_t10 (i := 53) (by decide +kernel) rfl
theorem co_X12_isNumber : Cond.code yX12_isNumber cX12_isNumber 1 (some .boolean) ∈ lw_all := lw_t10 (i := 54) rfl rfl
theorem ml_X12_760 : Cond.methodLink RX12 760 yX12_newVariant ∈ lw_all := lw_t10 (i := 55) (by decide +kernel) rfl
theorem im_X12_newVariant : Cond.instanceMethod yX12_newVariant ∈ lw_all := lw_t10 (i := 57) (by decide +kernel) rfl
theorem co_X12_newVariant : Cond.code yX12_newVariant cX12_newVariant 4 (some .int) ∈ lw_all := lw_t10 (i := 58) rfl rfl
theorem ml_X12_730 : Cond.methodLink RX12 730 yX12_starsMade ∈ lw_all := lw_t10 (i := 59) (by decide +kernel) rfl
theorem im_X12_starsMade : Cond.instanceMethod yX12_starsMade ∈ lw_all := lw_t10 (i := 61) (by decide +kernel) rfl
theorem co_X12_starsMade : Cond.code yX12_starsMade cX12_starsMade 3 (some .int) ∈ lw_all := lw_t10 (i := 62) rfl rfl
theorem ml_X12_773 : Cond.methodLink RX12 773 yX12_makeVariant ∈ lw_all := lw_t10 (i := 63) (by decide +kernel) rfl
theorem im_X12_makeVariant : Cond.instanceMethod yX12_makeVariant ∈ lw_all := lw_t10 (i := 65) (by decide +kernel) rfl
theorem co_X12_makeVariant : Cond.code yX12_makeVariant cX12_makeVariant 5 none ∈ lw_all := lw_t10 (i := 66) rfl rfl
theorem ml_X12_763 : Cond.methodLink RX12 763 yX12_begin ∈ lw_all := lw_t10 (i := 67) (by decide +kernel) rfl
theorem im_X12_begin : Cond.instanceMethod yX12_begin ∈ lw_all := lw_t10 (i := 69) (by decide +kernel) rfl
theorem co_X12_begin : Cond.code yX12_begin cX12_begin 2 none ∈ lw_all := lw_t10 (i := 70) rfl rfl
theorem ml_X12_588 : Cond.methodLink RX12 588 yX12_push ∈ lw_all := lw_t10 (i := 71) (by decide +kernel) rfl
theorem im_X12_push : Cond.instanceMethod yX12_push ∈ lw_all := lw_t10 (i := 73) (by decide +kernel) rfl
theorem co_X12_push : Cond.code yX12_push cX12_push 4 none ∈ lw_all := lw_t10 (i := 74) rfl rfl
theorem ml_X12_767 : Cond.methodLink RX12 767 yX12_goAll ∈ lw_all := lw_t10 (i := 75) (by decide +kernel) rfl
theorem im_X12_goAll : Cond.instanceMethod yX12_goAll ∈ lw_all := lw_t10 (i := 77) (by decide +kernel) rfl
theorem co_X12_goAll : Cond.code yX12_goAll cX12_goAll 1 none ∈ lw_all := lw_t10 (i := 78) rfl rfl
theorem ml_X12_560 : Cond.methodLink RX12 560 yX12_goOne ∈ lw_all := lw_t10 (i := 79) (by decide +kernel) rfl
theorem im_X12_goOne : Cond.instanceMethod yX12_goOne ∈ lw_all := lw_t10 (i := 81) (by decide +kernel) rfl
theorem co_X12_goOne : Cond.code yX12_goOne cX12_goOne 4 none ∈ lw_all := lw_t10 (i := 82) rfl rfl
theorem ml_X12_564 : Cond.methodLink RX12 564 yX12_work ∈ lw_all := lw_t10 (i := 83) (by decide +kernel) rfl
theorem im_X12_work : Cond.instanceMethod yX12_work ∈ lw_all := lw_t10 (i := 85) (by decide +kernel) rfl
theorem co_X12_work : Cond.code yX12_work cX12_work 3 none ∈ lw_all := lw_t10 (i := 86) rfl rfl
theorem ml_X12_585 : Cond.methodLink RX12 585 yX12_come ∈ lw_all := lw_t10 (i := 87) (by decide +kernel) rfl
theorem im_X12_come : Cond.instanceMethod yX12_come ∈ lw_all := lw_t10 (i := 89) (by decide +kernel) rfl
theorem co_X12_come : Cond.code yX12_come cX12_come 2 none ∈ lw_all := lw_t10 (i := 90) rfl rfl
theorem ml_X12_591 : Cond.methodLink RX12 591 yX12_workBelow ∈ lw_all := lw_t10 (i := 91) (by decide +kernel) rfl
theorem im_X12_workBelow : Cond.instanceMethod yX12_workBelow ∈ lw_all := lw_t10 (i := 93) (by decide +kernel) rfl
theorem co_X12_workBelow : Cond.code yX12_workBelow cX12_workBelow 5 none ∈ lw_all := lw_t10 (i := 94) rfl rfl
theorem ml_X12_567 : Cond.methodLink RX12 567 yX12_doThing ∈ lw_all := lw_t10 (i := 95) (by decide +kernel) rfl
theorem im_X12_doThing : Cond.instanceMethod yX12_doThing ∈ lw_all := lw_t10 (i := 97) (by decide +kernel) rfl
theorem co_X12_doThing : Cond.code yX12_doThing cX12_doThing 2 none ∈ lw_all := lw_t10 (i := 98) rfl rfl
theorem ml_X12_615 : Cond.methodLink RX12 615 yX12_doSign ∈ lw_all := lw_t10 (i := 99) (by decide +kernel) rfl
theorem im_X12_doSign : Cond.instanceMethod yX12_doSign ∈ lw_all := lw_t10 (i := 101) (by decide +kernel) rfl
theorem co_X12_doSign : Cond.code yX12_doSign cX12_doSign 5 none ∈ lw_all := lw_t10 (i := 102) rfl rfl
theorem ml_X12_594 : Cond.methodLink RX12 594 yX12_gone ∈ lw_all := lw_t10 (i := 103) (by decide +kernel) rfl
theorem im_X12_gone : Cond.instanceMethod yX12_gone ∈ lw_all := lw_t10 (i := 105) (by decide +kernel) rfl
theorem co_X12_gone : Cond.code yX12_gone cX12_gone 1 (some .int) ∈ lw_all := lw_t10 (i := 106) rfl rfl
theorem ml_X12_597 : Cond.methodLink RX12 597 yX12_num ∈ lw_all := lw_t10 (i := 107) (by decide +kernel) rfl
theorem im_X12_num : Cond.instanceMethod yX12_num ∈ lw_all := lw_t10 (i := 109) (by decide +kernel) rfl
theorem co_X12_num : Cond.code yX12_num cX12_num 3 (some .int) ∈ lw_all := lw_t10 (i := 110) rfl rfl
theorem ml_X12_600 : Cond.methodLink RX12 600 yX12_isKnown ∈ lw_all := lw_t10 (i := 111) (by decide +kernel) rfl
theorem im_X12_isKnown : Cond.instanceMethod yX12_isKnown ∈ lw_all := lw_t10 (i := 113) (by decide +kernel) rfl
theorem co_X12_isKnown : Cond.code yX12_isKnown cX12_isKnown 2 (some .boolean) ∈ lw_all := lw_t10 (i := 114) rfl rfl
theorem ml_X12_636 : Cond.methodLink RX12 636 yX12_given ∈ lw_all := lw_t10 (i := 115) (by decide +kernel) rfl
theorem im_X12_given : Cond.instanceMethod yX12_given ∈ lw_all := lw_t10 (i := 117) (by decide +kernel) rfl
theorem co_X12_given : Cond.code yX12_given cX12_given 1 (some .int) ∈ lw_all := lw_t10 (i := 118) rfl rfl
theorem ml_X12_639 : Cond.methodLink RX12 639 yX12_instruction ∈ lw_all := lw_t10 (i := 119) (by decide +kernel) rfl
theorem im_X12_instruction : Cond.instanceMethod yX12_instruction ∈ lw_all := lw_t10 (i := 121) (by decide +kernel) rfl
theorem co_X12_instruction : Cond.code yX12_instruction cX12_instruction 4 (some .int) ∈ lw_all := lw_t10 (i := 122) rfl rfl
theorem ml_X12_606 : Cond.methodLink RX12 606 yX12_item ∈ lw_all := lw_t10 (i := 123) (by decide +kernel) rfl
theorem im_X12_item : Cond.instanceMethod yX12_item ∈ lw_all := lw_t10 (i := 125) (by decide +kernel) rfl
theorem co_X12_item : Cond.code yX12_item cX12_item 2 (some .int) ∈ lw_all := lw_t10 (i := 126) rfl rfl
theorem ml_X12_694 : Cond.methodLink RX12 694 yX12_countInstruction ∈ lw_all := lw_t10 (i := 127) (by decide +kernel) rfl
theorem im_X12_countInstruction : Cond.instanceMethod yX12_countInstruction ∈ lw_all := lw_t10 (i := 129) (by decide +kernel) rfl
theorem co_X12_countInstruction : Cond.code yX12_countInstruction cX12_countInstruction 3 none ∈ lw_all := lw_t10 (i := 130) rfl rfl
theorem ml_X12_609 : Cond.methodLink RX12 609 yX12_operand ∈ lw_all := lw_t10 (i := 131) (by decide +kernel) rfl
theorem im_X12_operand : Cond.instanceMethod yX12_operand ∈ lw_all := lw_t10 (i := 133) (by decide +kernel) rfl
theorem co_X12_operand : Cond.code yX12_operand cX12_operand 3 none ∈ lw_all := lw_t10 (i := 134) rfl rfl
theorem ml_X12_643 : Cond.methodLink RX12 643 yX12_registerOf ∈ lw_all := lw_t10 (i := 135) (by decide +kernel) rfl
theorem im_X12_registerOf : Cond.instanceMethod yX12_registerOf ∈ lw_all := lw_t10 (i := 137) (by decide +kernel) rfl
theorem co_X12_registerOf : Cond.code yX12_registerOf cX12_registerOf 2 (some .int) ∈ lw_all := lw_t10 (i := 138) rfl rfl
theorem ml_X12_618 : Cond.methodLink RX12 618 yX12_doOne ∈ lw_all := lw_t10 (i := 139) (by decide +kernel) rfl
theorem im_X12_doOne : Cond.instanceMethod yX12_doOne ∈ lw_all := lw_t10 (i := 141) (by decide +kernel) rfl
theorem co_X12_doOne : Cond.code yX12_doOne cX12_doOne 4 none ∈ lw_all := lw_t10 (i := 142) rfl rfl
theorem ml_X12_646 : Cond.methodLink RX12 646 yX12_turn ∈ lw_all := lw_t10 (i := 143) (by decide +kernel) rfl
theorem im_X12_turn : Cond.instanceMethod yX12_turn ∈ lw_all := lw_t10 (i := 145) (by decide +kernel) rfl
theorem co_X12_turn : Cond.code yX12_turn cX12_turn 4 none ∈ lw_all := lw_t10 (i := 146) rfl rfl
theorem ml_X12_621 : Cond.methodLink RX12 621 yX12_doPair ∈ lw_all := lw_t10 (i := 147) (by decide +kernel) rfl
theorem im_X12_doPair : Cond.instanceMethod yX12_doPair ∈ lw_all := lw_t10 (i := 149) (by decide +kernel) rfl
theorem co_X12_doPair : Cond.code yX12_doPair cX12_doPair 4 none ∈ lw_all := lw_t10 (i := 150) rfl rfl
theorem ml_X12_624 : Cond.methodLink RX12 624 yX12_doOut ∈ lw_all := lw_t10 (i := 151) (by decide +kernel) rfl
theorem im_X12_doOut : Cond.instanceMethod yX12_doOut ∈ lw_all := lw_t10 (i := 153) (by decide +kernel) rfl
theorem co_X12_doOut : Cond.code yX12_doOut cX12_doOut 4 none ∈ lw_all := lw_t10 (i := 154) rfl rfl
theorem ml_X12_652 : Cond.methodLink RX12 652 yX12_show ∈ lw_all := lw_t10 (i := 155) (by decide +kernel) rfl
theorem im_X12_show : Cond.instanceMethod yX12_show ∈ lw_all := lw_t10 (i := 157) (by decide +kernel) rfl
theorem co_X12_show : Cond.code yX12_show cX12_show 2 none ∈ lw_all := lw_t10 (i := 158) rfl rfl
theorem ml_X12_627 : Cond.methodLink RX12 627 yX12_doPut ∈ lw_all := lw_t10 (i := 159) (by decide +kernel) rfl
theorem im_X12_doPut : Cond.instanceMethod yX12_doPut ∈ lw_all := lw_t10 (i := 161) (by decide +kernel) rfl
theorem co_X12_doPut : Cond.code yX12_doPut cX12_doPut 4 none ∈ lw_all := lw_t10 (i := 162) rfl rfl
theorem ml_X12_655 : Cond.methodLink RX12 655 yX12_holdAt ∈ lw_all := lw_t10 (i := 163) (by decide +kernel) rfl
theorem im_X12_holdAt : Cond.instanceMethod yX12_holdAt ∈ lw_all := lw_t10 (i := 165) (by decide +kernel) rfl
theorem co_X12_holdAt : Cond.code yX12_holdAt cX12_holdAt 3 none ∈ lw_all := lw_t10 (i := 166) rfl rfl
theorem ml_X12_630 : Cond.methodLink RX12 630 yX12_doGet ∈ lw_all := lw_t10 (i := 167) (by decide +kernel) rfl
theorem im_X12_doGet : Cond.instanceMethod yX12_doGet ∈ lw_all := lw_t10 (i := 169) (by decide +kernel) rfl
theorem co_X12_doGet : Cond.code yX12_doGet cX12_doGet 3 none ∈ lw_all := lw_t10 (i := 170) rfl rfl
theorem ml_X12_633 : Cond.methodLink RX12 633 yX12_doCall ∈ lw_all := lw_t10 (i := 171) (by decide +kernel) rfl
theorem im_X12_doCall : Cond.instanceMethod yX12_doCall ∈ lw_all := lw_t10 (i := 173) (by decide +kernel) rfl
theorem co_X12_doCall : Cond.code yX12_doCall cX12_doCall 4 none ∈ lw_all := lw_t10 (i := 174) rfl rfl
theorem ml_X12_670 : Cond.methodLink RX12 670 yX12_thinkCall ∈ lw_all := lw_t10 (i := 175) (by decide +kernel) rfl
theorem im_X12_thinkCall : Cond.instanceMethod yX12_thinkCall ∈ lw_all := lw_t10 (i := 177) (by decide +kernel) rfl
theorem co_X12_thinkCall : Cond.code yX12_thinkCall cX12_thinkCall 4 none ∈ lw_all := lw_t10 (i := 178) rfl rfl
theorem ml_X12_676 : Cond.methodLink RX12 676 yX12_enter ∈ lw_all := lw_t10 (i := 179) (by decide +kernel) rfl
theorem im_X12_enter : Cond.instanceMethod yX12_enter ∈ lw_all := lw_t10 (i := 181) (by decide +kernel) rfl
theorem co_X12_enter : Cond.code yX12_enter cX12_enter 3 none ∈ lw_all := lw_t10 (i := 182) rfl rfl
theorem ml_X12_736 : Cond.methodLink RX12 736 yX12_leaveCall ∈ lw_all := lw_t10 (i := 183) (by decide +kernel) rfl
theorem im_X12_leaveCall : Cond.instanceMethod yX12_leaveCall ∈ lw_all := lw_t10 (i := 185) (by decide +kernel) rfl
theorem co_X12_leaveCall : Cond.code yX12_leaveCall cX12_leaveCall 7 none ∈ lw_all := lw_t10 (i := 186) rfl rfl
theorem ml_X12_745 : Cond.methodLink RX12 745 yX12_growBy ∈ lw_all := lw_t10 (i := 187) (by decide +kernel) rfl
theorem im_X12_growBy : Cond.instanceMethod yX12_growBy ∈ lw_all := lw_t10 (i := 189) (by decide +kernel) rfl
theorem co_X12_growBy : Cond.code yX12_growBy cX12_growBy 10 none ∈ lw_all := lw_t10 (i := 190) rfl rfl
theorem ml_X12_713 : Cond.methodLink RX12 713 yX12_isGrown ∈ lw_all := lw_t10 (i := 191) (by decide +kernel) rfl
theorem st_X12_isGrown : Cond.static yX12_isGrown ∈ lw_all := lw_t10 (i := 192) (by decide +kernel) rfl
theorem co_X12_isGrown : Cond.code yX12_isGrown cX12_isGrown 6 (some .boolean) ∈ lw_all := lw_t10 (i := 193) rfl rfl
theorem ml_X12_720 : Cond.methodLink RX12 720 yX12_behindPart ∈ lw_all := lw_t10 (i := 194) (by decide +kernel) rfl
theorem st_X12_behindPart : Cond.static yX12_behindPart ∈ lw_all := lw_t10 (i := 195) (by decide +kernel) rfl
theorem co_X12_behindPart : Cond.code yX12_behindPart cX12_behindPart 4 (some .int) ∈ lw_all := lw_t10 (i := 196) rfl rfl
theorem ml_X12_748 : Cond.methodLink RX12 748 yX12_variantBy ∈ lw_all := lw_t10 (i := 197) (by decide +kernel) rfl
theorem im_X12_variantBy : Cond.instanceMethod yX12_variantBy ∈ lw_all := lw_t10 (i := 199) (by decide +kernel) rfl
theorem co_X12_variantBy : Cond.code yX12_variantBy cX12_variantBy 3 (some .int) ∈ lw_all := lw_t10 (i := 200) rfl rfl
theorem ml_X12_727 : Cond.methodLink RX12 727 yX12_isPattern ∈ lw_all := lw_t10 (i := 201) (by decide +kernel) rfl
theorem im_X12_isPattern : Cond.instanceMethod yX12_isPattern ∈ lw_all := lw_t10 (i := 203) (by decide +kernel) rfl
theorem co_X12_isPattern : Cond.code yX12_isPattern cX12_isPattern 4 (some .boolean) ∈ lw_all := lw_t10 (i := 204) rfl rfl
theorem ml_X12_751 : Cond.methodLink RX12 751 yX12_variantsOf ∈ lw_all := lw_t10 (i := 205) (by decide +kernel) rfl
theorem im_X12_variantsOf : Cond.instanceMethod yX12_variantsOf ∈ lw_all := lw_t10 (i := 207) (by decide +kernel) rfl
theorem co_X12_variantsOf : Cond.code yX12_variantsOf cX12_variantsOf 4 (some .int) ∈ lw_all := lw_t10 (i := 208) rfl rfl
theorem ml_X12_754 : Cond.methodLink RX12 754 yX12_layStars ∈ lw_all := lw_t10 (i := 209) (by decide +kernel) rfl
theorem im_X12_layStars : Cond.instanceMethod yX12_layStars ∈ lw_all := lw_t10 (i := 211) (by decide +kernel) rfl
theorem co_X12_layStars : Cond.code yX12_layStars cX12_layStars 3 none ∈ lw_all := lw_t10 (i := 212) rfl rfl
theorem ml_X12_701 : Cond.methodLink RX12 701 yX12_lift ∈ lw_all := lw_t10 (i := 213) (by decide +kernel) rfl
theorem im_X12_lift : Cond.instanceMethod yX12_lift ∈ lw_all := lw_t10 (i := 215) (by decide +kernel) rfl
theorem co_X12_lift : Cond.code yX12_lift cX12_lift 5 (some .int) ∈ lw_all := lw_t10 (i := 216) rfl rfl
theorem ml_X12_698 : Cond.methodLink RX12 698 yX12_liftPair ∈ lw_all := lw_t10 (i := 217) (by decide +kernel) rfl
theorem im_X12_liftPair : Cond.instanceMethod yX12_liftPair ∈ lw_all := lw_t10 (i := 219) (by decide +kernel) rfl
theorem co_X12_liftPair : Cond.code yX12_liftPair cX12_liftPair 4 (some .int) ∈ lw_all := lw_t10 (i := 220) rfl rfl
theorem ml_X12_673 : Cond.methodLink RX12 673 yX12_beginsCall ∈ lw_all := lw_t10 (i := 221) (by decide +kernel) rfl
theorem im_X12_beginsCall : Cond.instanceMethod yX12_beginsCall ∈ lw_all := lw_t10 (i := 223) (by decide +kernel) rfl
theorem co_X12_beginsCall : Cond.code yX12_beginsCall cX12_beginsCall 1 (some .boolean) ∈ lw_all := lw_t10 (i := 224) rfl rfl
theorem ml_X12_570 : Cond.methodLink RX12 570 yX12_choose ∈ lw_all := lw_t10 (i := 225) (by decide +kernel) rfl
theorem im_X12_choose : Cond.instanceMethod yX12_choose ∈ lw_all := lw_t10 (i := 227) (by decide +kernel) rfl
theorem co_X12_choose : Cond.code yX12_choose cX12_choose 5 none ∈ lw_all := lw_t10 (i := 228) rfl rfl
theorem ml_X12_603 : Cond.methodLink RX12 603 yX12_isTrue ∈ lw_all := lw_t10 (i := 229) (by decide +kernel) rfl
theorem st_X12_isTrue : Cond.static yX12_isTrue ∈ lw_all := lw_t10 (i := 230) (by decide +kernel) rfl
theorem co_X12_isTrue : Cond.code yX12_isTrue cX12_isTrue 2 (some .boolean) ∈ lw_all := lw_t10 (i := 231) rfl rfl
theorem ml_X12_573 : Cond.methodLink RX12 573 yX12_bindVar ∈ lw_all := lw_t10 (i := 232) (by decide +kernel) rfl
theorem im_X12_bindVar : Cond.instanceMethod yX12_bindVar ∈ lw_all := lw_t10 (i := 234) (by decide +kernel) rfl
theorem co_X12_bindVar : Cond.code yX12_bindVar cX12_bindVar 3 none ∈ lw_all := lw_t10 (i := 235) rfl rfl
theorem ml_X12_576 : Cond.methodLink RX12 576 yX12_leave ∈ lw_all := lw_t10 (i := 236) (by decide +kernel) rfl
theorem im_X12_leave : Cond.instanceMethod yX12_leave ∈ lw_all := lw_t10 (i := 238) (by decide +kernel) rfl
theorem co_X12_leave : Cond.code yX12_leave cX12_leave 1 none ∈ lw_all := lw_t10 (i := 239) rfl rfl
theorem ml_X12_579 : Cond.methodLink RX12 579 yX12_otherwise ∈ lw_all := lw_t11 (i := 0) (by decide +kernel) rfl
theorem im_X12_otherwise : Cond.instanceMethod yX12_otherwise ∈ lw_all := lw_t11 (i := 2) (by decide +kernel) rfl
theorem co_X12_otherwise : Cond.code yX12_otherwise cX12_otherwise 4 none ∈ lw_all := lw_t11 (i := 3) rfl rfl
theorem ml_X12_704 : Cond.methodLink RX12 704 yX12_mark ∈ lw_all := lw_t11 (i := 4) (by decide +kernel) rfl
theorem im_X12_mark : Cond.instanceMethod yX12_mark ∈ lw_all := lw_t11 (i := 6) (by decide +kernel) rfl
theorem co_X12_mark : Cond.code yX12_mark cX12_mark 5 (some .int) ∈ lw_all := lw_t11 (i := 7) rfl rfl
theorem ml_X12_582 : Cond.methodLink RX12 582 yX12_whole ∈ lw_all := lw_t11 (i := 8) (by decide +kernel) rfl
theorem im_X12_whole : Cond.instanceMethod yX12_whole ∈ lw_all := lw_t11 (i := 10) (by decide +kernel) rfl
theorem co_X12_whole : Cond.code yX12_whole cX12_whole 5 none ∈ lw_all := lw_t11 (i := 11) rfl rfl
theorem ml_L_61 : Cond.methodLink RL 61 yX12_residue ∈ lw_all := lw_t11 (i := 12) (by decide +kernel) rfl
theorem im_X12_residue : Cond.instanceMethod yX12_residue ∈ lw_all := lw_t11 (i := 13) (by decide +kernel) rfl
theorem se_X12_residue : Cond.selects RX12 yX12_residue yX12_residue ∈ lw_all := lw_t11 (i := 14) (by decide +kernel) rfl
theorem co_X12_residue : Cond.code yX12_residue cX12_residue 2 (some .int) ∈ lw_all := lw_t11 (i := 15) rfl rfl
theorem ml_X12_782 : Cond.methodLink RX12 782 yX12_countAll ∈ lw_all := lw_t11 (i := 16) (by decide +kernel) rfl
theorem im_X12_countAll : Cond.instanceMethod yX12_countAll ∈ lw_all := lw_t11 (i := 18) (by decide +kernel) rfl
theorem co_X12_countAll : Cond.code yX12_countAll cX12_countAll 4 (some .int) ∈ lw_all := lw_t11 (i := 19) rfl rfl
theorem ml_X12_779 : Cond.methodLink RX12 779 yX12_countKind ∈ lw_all := lw_t11 (i := 20) (by decide +kernel) rfl
theorem im_X12_countKind : Cond.instanceMethod yX12_countKind ∈ lw_all := lw_t11 (i := 22) (by decide +kernel) rfl
theorem co_X12_countKind : Cond.code yX12_countKind cX12_countKind 5 (some .int) ∈ lw_all := lw_t11 (i := 23) rfl rfl
theorem ml_L_65 : Cond.methodLink RL 65 yX12_variant ∈ lw_all := lw_t11 (i := 24) (by decide +kernel) rfl
theorem im_X12_variant : Cond.instanceMethod yX12_variant ∈ lw_all := lw_t11 (i := 25) (by decide +kernel) rfl
theorem se_X12_variant : Cond.selects RX12 yX12_variant yX12_variant ∈ lw_all := lw_t11 (i := 26) (by decide +kernel) rfl
theorem co_X12_variant : Cond.code yX12_variant cX12_variant 3 (some .int) ∈ lw_all := lw_t11 (i := 27) rfl rfl
theorem ml_X12_785 : Cond.methodLink RX12 785 yX12_isVariant ∈ lw_all := lw_t11 (i := 28) (by decide +kernel) rfl
theorem im_X12_isVariant : Cond.instanceMethod yX12_isVariant ∈ lw_all := lw_t11 (i := 30) (by decide +kernel) rfl
theorem co_X12_isVariant : Cond.code yX12_isVariant cX12_isVariant 2 (some .boolean) ∈ lw_all := lw_t11 (i := 31) rfl rfl
theorem ml_X12_788 : Cond.methodLink RX12 788 yX12_instructionsOf ∈ lw_all := lw_t11 (i := 32) (by decide +kernel) rfl
theorem im_X12_instructionsOf : Cond.instanceMethod yX12_instructionsOf ∈ lw_all := lw_t11 (i := 34) (by decide +kernel) rfl
theorem co_X12_instructionsOf : Cond.code yX12_instructionsOf cX12_instructionsOf 2 (some .int) ∈ lw_all := lw_t11 (i := 35) rfl rfl
theorem ml_X12_791 : Cond.methodLink RX12 791 yX12_callsOf ∈ lw_all := lw_t11 (i := 36) (by decide +kernel) rfl
theorem im_X12_callsOf : Cond.instanceMethod yX12_callsOf ∈ lw_all := lw_t11 (i := 38) (by decide +kernel) rfl
theorem co_X12_callsOf : Cond.code yX12_callsOf cX12_callsOf 4 (some .int) ∈ lw_all := lw_t11 (i := 39) rfl rfl
theorem ml_X12_794 : Cond.methodLink RX12 794 yX12_knownIn ∈ lw_all := lw_t11 (i := 40) (by decide +kernel) rfl
theorem im_X12_knownIn : Cond.instanceMethod yX12_knownIn ∈ lw_all := lw_t11 (i := 42) (by decide +kernel) rfl
theorem co_X12_knownIn : Cond.code yX12_knownIn cX12_knownIn 4 (some .int) ∈ lw_all := lw_t11 (i := 43) rfl rfl
theorem ml_L_69 : Cond.methodLink RL 69 yX12_kinds ∈ lw_all := lw_t11 (i := 44) (by decide +kernel) rfl
theorem im_X12_kinds : Cond.instanceMethod yX12_kinds ∈ lw_all := lw_t11 (i := 45) (by decide +kernel) rfl
theorem se_X12_kinds : Cond.selects RX12 yX12_kinds yX12_kinds ∈ lw_all := lw_t11 (i := 46) (by decide +kernel) rfl
theorem co_X12_kinds : Cond.code yX12_kinds cX12_kinds 3 (some .int) ∈ lw_all := lw_t11 (i := 47) rfl rfl
theorem ml_L_73 : Cond.methodLink RL 73 yX12_run ∈ lw_all := lw_t11 (i := 48) (by decide +kernel) rfl
theorem im_X12_run : Cond.instanceMethod yX12_run ∈ lw_all := lw_t11 (i := 49) (by decide +kernel) rfl
theorem se_X12_run : Cond.selects RX12 yX12_run yX12_run ∈ lw_all := lw_t11 (i := 50) (by decide +kernel) rfl
theorem co_X12_run : Cond.code yX12_run cX12_run 3 (some .int) ∈ lw_all := lw_t11 (i := 51) rfl rfl
theorem ml_X12_839 : Cond.methodLink RX12 839 yX12_canRun ∈ lw_all := lw_t11 (i := 52) (by decide +kernel) rfl
theorem im_X12_canRun : Cond.instanceMethod yX12_canRun ∈ lw_all := lw_t11 (i := 54) (by decide +kernel) rfl
theorem co_X12_canRun : Cond.code yX12_canRun cX12_canRun 2 (some .boolean) ∈ lw_all := lw_t11 (i := 55) rfl rfl
theorem ml_X12_842 : Cond.methodLink RX12 842 yX12_runNow ∈ lw_all := lw_t11 (i := 56) (by decide +kernel) rfl
theorem im_X12_runNow : Cond.instanceMethod yX12_runNow ∈ lw_all := lw_t11 (i := 58) (by decide +kernel) rfl
theorem co_X12_runNow : Cond.code yX12_runNow cX12_runNow 2 none ∈ lw_all := lw_t11 (i := 59) rfl rfl
theorem ml_X12_833 : Cond.methodLink RX12 833 yX12_runTask ∈ lw_all := lw_t11 (i := 60) (by decide +kernel) rfl
theorem im_X12_runTask : Cond.instanceMethod yX12_runTask ∈ lw_all := lw_t11 (i := 62) (by decide +kernel) rfl
theorem co_X12_runTask : Cond.code yX12_runTask cX12_runTask 2 none ∈ lw_all := lw_t11 (i := 63) rfl rfl
theorem ml_X12_806 : Cond.methodLink RX12 806 yX12_beginRun ∈ lw_all := lw_t11 (i := 64) (by decide +kernel) rfl
theorem im_X12_beginRun : Cond.instanceMethod yX12_beginRun ∈ lw_all := lw_t11 (i := 66) (by decide +kernel) rfl
theorem co_X12_beginRun : Cond.code yX12_beginRun cX12_beginRun 2 none ∈ lw_all := lw_t11 (i := 67) rfl rfl
theorem ml_X12_800 : Cond.methodLink RX12 800 yX12_buildLeaves ∈ lw_all := lw_t11 (i := 68) (by decide +kernel) rfl
theorem im_X12_buildLeaves : Cond.instanceMethod yX12_buildLeaves ∈ lw_all := lw_t11 (i := 70) (by decide +kernel) rfl
theorem co_X12_buildLeaves : Cond.code yX12_buildLeaves cX12_buildLeaves 2 none ∈ lw_all := lw_t11 (i := 71) rfl rfl
theorem ml_X12_809 : Cond.methodLink RX12 809 yX12_endRun ∈ lw_all := lw_t11 (i := 72) (by decide +kernel) rfl
theorem im_X12_endRun : Cond.instanceMethod yX12_endRun ∈ lw_all := lw_t11 (i := 74) (by decide +kernel) rfl
theorem co_X12_endRun : Cond.code yX12_endRun cX12_endRun 2 none ∈ lw_all := lw_t11 (i := 75) rfl rfl
theorem ml_X12_803 : Cond.methodLink RX12 803 yX12_layRow ∈ lw_all := lw_t11 (i := 76) (by decide +kernel) rfl
theorem im_X12_layRow : Cond.instanceMethod yX12_layRow ∈ lw_all := lw_t11 (i := 78) (by decide +kernel) rfl
theorem co_X12_layRow : Cond.code yX12_layRow cX12_layRow 4 none ∈ lw_all := lw_t11 (i := 79) rfl rfl
theorem ml_X12_836 : Cond.methodLink RX12 836 yX12_runResidue ∈ lw_all := lw_t11 (i := 80) (by decide +kernel) rfl
theorem im_X12_runResidue : Cond.instanceMethod yX12_runResidue ∈ lw_all := lw_t11 (i := 82) (by decide +kernel) rfl
theorem co_X12_runResidue : Cond.code yX12_runResidue cX12_runResidue 4 none ∈ lw_all := lw_t11 (i := 83) rfl rfl
theorem ml_X12_815 : Cond.methodLink RX12 815 yX12_enterVariant ∈ lw_all := lw_t11 (i := 84) (by decide +kernel) rfl
theorem im_X12_enterVariant : Cond.instanceMethod yX12_enterVariant ∈ lw_all := lw_t11 (i := 86) (by decide +kernel) rfl
theorem co_X12_enterVariant : Cond.code yX12_enterVariant cX12_enterVariant 3 none ∈ lw_all := lw_t11 (i := 87) rfl rfl
theorem ml_X12_818 : Cond.methodLink RX12 818 yX12_runItem ∈ lw_all := lw_t11 (i := 88) (by decide +kernel) rfl
theorem im_X12_runItem : Cond.instanceMethod yX12_runItem ∈ lw_all := lw_t11 (i := 90) (by decide +kernel) rfl
theorem co_X12_runItem : Cond.code yX12_runItem cX12_runItem 4 (some .int) ∈ lw_all := lw_t11 (i := 91) rfl rfl
theorem ml_X12_821 : Cond.methodLink RX12 821 yX12_valueOf ∈ lw_all := lw_t11 (i := 92) (by decide +kernel) rfl
theorem im_X12_valueOf : Cond.instanceMethod yX12_valueOf ∈ lw_all := lw_t11 (i := 94) (by decide +kernel) rfl
theorem co_X12_valueOf : Cond.code yX12_valueOf cX12_valueOf 2 (some .int) ∈ lw_all := lw_t11 (i := 95) rfl rfl
theorem ml_X12_824 : Cond.methodLink RX12 824 yX12_hold ∈ lw_all := lw_t11 (i := 96) (by decide +kernel) rfl
theorem im_X12_hold : Cond.instanceMethod yX12_hold ∈ lw_all := lw_t11 (i := 98) (by decide +kernel) rfl
theorem co_X12_hold : Cond.code yX12_hold cX12_hold 3 none ∈ lw_all := lw_t11 (i := 99) rfl rfl
theorem ml_X12_827 : Cond.methodLink RX12 827 yX12_runCall ∈ lw_all := lw_t11 (i := 100) (by decide +kernel) rfl
theorem im_X12_runCall : Cond.instanceMethod yX12_runCall ∈ lw_all := lw_t11 (i := 102) (by decide +kernel) rfl
theorem co_X12_runCall : Cond.code yX12_runCall cX12_runCall 3 (some .int) ∈ lw_all := lw_t11 (i := 103) rfl rfl
theorem ml_X12_830 : Cond.methodLink RX12 830 yX12_itemValue ∈ lw_all := lw_t11 (i := 104) (by decide +kernel) rfl
theorem im_X12_itemValue : Cond.instanceMethod yX12_itemValue ∈ lw_all := lw_t11 (i := 106) (by decide +kernel) rfl
theorem co_X12_itemValue : Cond.code yX12_itemValue cX12_itemValue 7 (some .int) ∈ lw_all := lw_t11 (i := 107) rfl rfl
theorem ml_L_77 : Cond.methodLink RL 77 yX12_output ∈ lw_all := lw_t11 (i := 108) (by decide +kernel) rfl
theorem im_X12_output : Cond.instanceMethod yX12_output ∈ lw_all := lw_t11 (i := 109) (by decide +kernel) rfl
theorem se_X12_output : Cond.selects RX12 yX12_output yX12_output ∈ lw_all := lw_t11 (i := 110) (by decide +kernel) rfl
theorem co_X12_output : Cond.code yX12_output cX12_output 3 (some .int) ∈ lw_all := lw_t11 (i := 111) rfl rfl
theorem ml_L_81 : Cond.methodLink RL 81 yX12_place ∈ lw_all := lw_t11 (i := 112) (by decide +kernel) rfl
theorem im_X12_place : Cond.instanceMethod yX12_place ∈ lw_all := lw_t11 (i := 113) (by decide +kernel) rfl
theorem se_X12_place : Cond.selects RX12 yX12_place yX12_place ∈ lw_all := lw_t11 (i := 114) (by decide +kernel) rfl
theorem co_X12_place : Cond.code yX12_place cX12_place 2 (some .int) ∈ lw_all := lw_t11 (i := 115) rfl rfl
theorem ml_L_97 : Cond.methodLink RL 97 yX12_agree ∈ lw_all := lw_t11 (i := 116) (by decide +kernel) rfl
theorem im_X12_agree : Cond.instanceMethod yX12_agree ∈ lw_all := lw_t11 (i := 117) (by decide +kernel) rfl
theorem se_X12_agree : Cond.selects RX12 yX12_agree yX12_agree ∈ lw_all := lw_t11 (i := 118) (by decide +kernel) rfl
theorem co_X12_agree : Cond.code yX12_agree cX12_agree 6 (some .int) ∈ lw_all := lw_t11 (i := 119) rfl rfl
theorem ml_X12_851 : Cond.methodLink RX12 851 yX12_areLike ∈ lw_all := lw_t11 (i := 120) (by decide +kernel) rfl
theorem st_X12_areLike : Cond.static yX12_areLike ∈ lw_all := lw_t11 (i := 121) (by decide +kernel) rfl
theorem co_X12_areLike : Cond.code yX12_areLike cX12_areLike 4 (some .boolean) ∈ lw_all := lw_t11 (i := 122) rfl rfl
theorem ml_X12_855 : Cond.methodLink RX12 855 yX12_areLikeFrom ∈ lw_all := lw_t11 (i := 123) (by decide +kernel) rfl
theorem im_X12_areLikeFrom : Cond.instanceMethod yX12_areLikeFrom ∈ lw_all := lw_t11 (i := 125) (by decide +kernel) rfl
theorem co_X12_areLikeFrom : Cond.code yX12_areLikeFrom cX12_areLikeFrom 6 (some .boolean) ∈ lw_all := lw_t11 (i := 126) rfl rfl
theorem ml_L_101 : Cond.methodLink RL 101 yX12_saved ∈ lw_all := lw_t11 (i := 127) (by decide +kernel) rfl
theorem im_X12_saved : Cond.instanceMethod yX12_saved ∈ lw_all := lw_t11 (i := 128) (by decide +kernel) rfl
theorem se_X12_saved : Cond.selects RX12 yX12_saved yX12_saved ∈ lw_all := lw_t11 (i := 129) (by decide +kernel) rfl
theorem co_X12_saved : Cond.code yX12_saved cX12_saved 2 (some .int) ∈ lw_all := lw_t11 (i := 130) rfl rfl
theorem ml_L_85 : Cond.methodLink RL 85 yX12_value ∈ lw_all := lw_t11 (i := 131) (by decide +kernel) rfl
theorem im_X12_value : Cond.instanceMethod yX12_value ∈ lw_all := lw_t11 (i := 132) (by decide +kernel) rfl
theorem se_X12_value : Cond.selects RX12 yX12_value yX12_value ∈ lw_all := lw_t11 (i := 133) (by decide +kernel) rfl
theorem co_X12_value : Cond.code yX12_value cX12_value 1 (some .int) ∈ lw_all := lw_t11 (i := 134) rfl rfl
theorem ml_X12_877 : Cond.methodLink RX12 877 yX12_putParts ∈ lw_all := lw_t11 (i := 135) (by decide +kernel) rfl
theorem im_X12_putParts : Cond.instanceMethod yX12_putParts ∈ lw_all := lw_t11 (i := 137) (by decide +kernel) rfl
theorem co_X12_putParts : Cond.code yX12_putParts cX12_putParts 8 none ∈ lw_all := lw_t11 (i := 138) rfl rfl
theorem ml_X12_862 : Cond.methodLink RX12 862 yX12_put ∈ lw_all := lw_t11 (i := 139) (by decide +kernel) rfl
theorem im_X12_put : Cond.instanceMethod yX12_put ∈ lw_all := lw_t11 (i := 141) (by decide +kernel) rfl
theorem co_X12_put : Cond.code yX12_put cX12_put 2 none ∈ lw_all := lw_t11 (i := 142) rfl rfl
theorem ml_X12_874 : Cond.methodLink RX12 874 yX12_putOne ∈ lw_all := lw_t11 (i := 143) (by decide +kernel) rfl
theorem im_X12_putOne : Cond.instanceMethod yX12_putOne ∈ lw_all := lw_t11 (i := 145) (by decide +kernel) rfl
theorem co_X12_putOne : Cond.code yX12_putOne cX12_putOne 3 none ∈ lw_all := lw_t11 (i := 146) rfl rfl
theorem ml_X12_871 : Cond.methodLink RX12 871 yX12_putNumber ∈ lw_all := lw_t11 (i := 147) (by decide +kernel) rfl
theorem im_X12_putNumber : Cond.instanceMethod yX12_putNumber ∈ lw_all := lw_t11 (i := 149) (by decide +kernel) rfl
theorem co_X12_putNumber : Cond.code yX12_putNumber cX12_putNumber 8 none ∈ lw_all := lw_t11 (i := 150) rfl rfl
theorem cs_X12_865 : Cond.constantLong RX12 865 (9) ∈ lw_all := lw_t11 (i := 151) (by decide +kernel) rfl
theorem cs_X12_867 : Cond.constantLong RX12 867 (10) ∈ lw_all := lw_t11 (i := 152) (by decide +kernel) rfl
theorem cs_X12_869 : Cond.constantLong RX12 869 (48) ∈ lw_all := lw_t11 (i := 153) (by decide +kernel) rfl
theorem ml_L_89 : Cond.methodLink RL 89 yX12_write ∈ lw_all := lw_t11 (i := 154) (by decide +kernel) rfl
theorem im_X12_write : Cond.instanceMethod yX12_write ∈ lw_all := lw_t11 (i := 155) (by decide +kernel) rfl
theorem se_X12_write : Cond.selects RX12 yX12_write yX12_write ∈ lw_all := lw_t11 (i := 156) (by decide +kernel) rfl
theorem co_X12_write : Cond.code yX12_write cX12_write 3 (some .int) ∈ lw_all := lw_t11 (i := 157) rfl rfl
theorem ml_X12_893 : Cond.methodLink RX12 893 yX12_putItem ∈ lw_all := lw_t11 (i := 158) (by decide +kernel) rfl
theorem im_X12_putItem : Cond.instanceMethod yX12_putItem ∈ lw_all := lw_t11 (i := 160) (by decide +kernel) rfl
theorem co_X12_putItem : Cond.code yX12_putItem cX12_putItem 4 none ∈ lw_all := lw_t11 (i := 161) rfl rfl
theorem ml_X12_881 : Cond.methodLink RX12 881 yX12_putOperand ∈ lw_all := lw_t11 (i := 162) (by decide +kernel) rfl
theorem im_X12_putOperand : Cond.instanceMethod yX12_putOperand ∈ lw_all := lw_t11 (i := 164) (by decide +kernel) rfl
theorem co_X12_putOperand : Cond.code yX12_putOperand cX12_putOperand 2 none ∈ lw_all := lw_t11 (i := 165) rfl rfl
theorem ml_X12_884 : Cond.methodLink RX12 884 yX12_putRest ∈ lw_all := lw_t11 (i := 166) (by decide +kernel) rfl
theorem im_X12_putRest : Cond.instanceMethod yX12_putRest ∈ lw_all := lw_t11 (i := 168) (by decide +kernel) rfl
theorem co_X12_putRest : Cond.code yX12_putRest cX12_putRest 4 none ∈ lw_all := lw_t11 (i := 169) rfl rfl
theorem ml_X12_887 : Cond.methodLink RX12 887 yX12_signOfOne ∈ lw_all := lw_t11 (i := 170) (by decide +kernel) rfl
theorem st_X12_signOfOne : Cond.static yX12_signOfOne ∈ lw_all := lw_t11 (i := 171) (by decide +kernel) rfl
theorem co_X12_signOfOne : Cond.code yX12_signOfOne cX12_signOfOne 1 (some .int) ∈ lw_all := lw_t11 (i := 172) rfl rfl
theorem ml_X12_890 : Cond.methodLink RX12 890 yX12_putList ∈ lw_all := lw_t11 (i := 173) (by decide +kernel) rfl
theorem im_X12_putList : Cond.instanceMethod yX12_putList ∈ lw_all := lw_t11 (i := 175) (by decide +kernel) rfl
theorem co_X12_putList : Cond.code yX12_putList cX12_putList 5 none ∈ lw_all := lw_t11 (i := 176) rfl rfl
theorem ml_L_93 : Cond.methodLink RL 93 yX12_octet ∈ lw_all := lw_t11 (i := 177) (by decide +kernel) rfl
theorem im_X12_octet : Cond.instanceMethod yX12_octet ∈ lw_all := lw_t11 (i := 178) (by decide +kernel) rfl
theorem se_X12_octet : Cond.selects RX12 yX12_octet yX12_octet ∈ lw_all := lw_t11 (i := 179) (by decide +kernel) rfl
theorem co_X12_octet : Cond.code yX12_octet cX12_octet 2 (some .int) ∈ lw_all := lw_t11 (i := 180) rfl rfl
theorem fl_J0_9 : Cond.fieldLink RJ0 9 "java/lang/String" "value" "[B" ∈ lw_all := lw_t11 (i := 181) (by decide +kernel) rfl
theorem fl_J0_15 : Cond.fieldLink RJ0 15 "java/lang/String" "coder" "B" ∈ lw_all := lw_t11 (i := 182) (by decide +kernel) rfl
theorem se_X1_begin : Cond.selects RX1 yX1_begin yX1_begin ∈ lw_all := lw_sel (i := 0) (by decide +kernel) rfl
theorem se_X11_feedFour : Cond.selects RX11 yX11_feedFour yX11_feedFour ∈ lw_all := lw_sel (i := 1) (by decide +kernel) rfl
theorem se_X11_takeTape : Cond.selects RX11 yX11_takeTape yX11_takeTape ∈ lw_all := lw_sel (i := 2) (by decide +kernel) rfl
theorem se_X4_isWell : Cond.selects RX4 yX4_isWell yX4_isWell ∈ lw_all := lw_sel (i := 3) (by decide +kernel) rfl
theorem se_X4_readFunction : Cond.selects RX4 yX4_readFunction yX4_readFunction ∈ lw_all := lw_sel (i := 4) (by decide +kernel) rfl
theorem se_X4_here : Cond.selects RX4 yX4_here yX4_here ∈ lw_all := lw_sel (i := 5) (by decide +kernel) rfl
theorem se_X4_fail : Cond.selects RX4 yX4_fail yX4_fail ∈ lw_all := lw_sel (i := 6) (by decide +kernel) rfl
theorem se_X4_take : Cond.selects RX4 yX4_take yX4_take ∈ lw_all := lw_sel (i := 7) (by decide +kernel) rfl
theorem se_X4_readNames : Cond.selects RX4 yX4_readNames yX4_readNames ∈ lw_all := lw_sel (i := 8) (by decide +kernel) rfl
theorem se_X4_readName : Cond.selects RX4 yX4_readName yX4_readName ∈ lw_all := lw_sel (i := 9) (by decide +kernel) rfl
theorem se_X4_slotOf : Cond.selects RX4 yX4_slotOf yX4_slotOf ∈ lw_all := lw_sel (i := 10) (by decide +kernel) rfl
theorem se_X4_nameOne : Cond.selects RX4 yX4_nameOne yX4_nameOne ∈ lw_all := lw_sel (i := 11) (by decide +kernel) rfl
theorem se_X4_readExpression : Cond.selects RX4 yX4_readExpression yX4_readExpression ∈ lw_all := lw_sel (i := 12) (by decide +kernel) rfl
theorem se_X4_readNumber : Cond.selects RX4 yX4_readNumber yX4_readNumber ∈ lw_all := lw_sel (i := 13) (by decide +kernel) rfl
theorem se_X4_readDigits : Cond.selects RX4 yX4_readDigits yX4_readDigits ∈ lw_all := lw_sel (i := 14) (by decide +kernel) rfl
theorem se_X4_readVar : Cond.selects RX4 yX4_readVar yX4_readVar ∈ lw_all := lw_sel (i := 15) (by decide +kernel) rfl
theorem se_X4_readCall : Cond.selects RX4 yX4_readCall yX4_readCall ∈ lw_all := lw_sel (i := 16) (by decide +kernel) rfl
theorem se_X4_readSigned : Cond.selects RX4 yX4_readSigned yX4_readSigned ∈ lw_all := lw_sel (i := 17) (by decide +kernel) rfl
theorem se_X4_readReckoned : Cond.selects RX4 yX4_readReckoned yX4_readReckoned ∈ lw_all := lw_sel (i := 18) (by decide +kernel) rfl
theorem se_X4_readTwo : Cond.selects RX4 yX4_readTwo yX4_readTwo ∈ lw_all := lw_sel (i := 19) (by decide +kernel) rfl
theorem se_X4_readChoice : Cond.selects RX4 yX4_readChoice yX4_readChoice ∈ lw_all := lw_sel (i := 20) (by decide +kernel) rfl
theorem se_X4_readPlace : Cond.selects RX4 yX4_readPlace yX4_readPlace ∈ lw_all := lw_sel (i := 21) (by decide +kernel) rfl
theorem se_X4_readNaming : Cond.selects RX4 yX4_readNaming yX4_readNaming ∈ lw_all := lw_sel (i := 22) (by decide +kernel) rfl
theorem se_X4_readPart : Cond.selects RX4 yX4_readPart yX4_readPart ∈ lw_all := lw_sel (i := 23) (by decide +kernel) rfl
theorem se_X4_takeEnd : Cond.selects RX4 yX4_takeEnd yX4_takeEnd ∈ lw_all := lw_sel (i := 24) (by decide +kernel) rfl
theorem se_X2_addParts : Cond.selects RX2 yX2_addParts yX2_addParts ∈ lw_all := lw_sel (i := 25) (by decide +kernel) rfl
theorem se_X10_beginVariant : Cond.selects RX10 yX10_beginVariant yX10_beginVariant ∈ lw_all := lw_sel (i := 26) (by decide +kernel) rfl
theorem se_X10_reckon : Cond.selects RX10 yX10_reckon yX10_reckon ∈ lw_all := lw_sel (i := 27) (by decide +kernel) rfl
theorem se_X10_leave : Cond.selects RX10 yX10_leave yX10_leave ∈ lw_all := lw_sel (i := 28) (by decide +kernel) rfl
theorem se_X10_breakOff : Cond.selects RX10 yX10_breakOff yX10_breakOff ∈ lw_all := lw_sel (i := 29) (by decide +kernel) rfl
theorem se_X10_turn : Cond.selects RX10 yX10_turn yX10_turn ∈ lw_all := lw_sel (i := 30) (by decide +kernel) rfl
theorem se_X10_takePart : Cond.selects RX10 yX10_takePart yX10_takePart ∈ lw_all := lw_sel (i := 31) (by decide +kernel) rfl
theorem se_X10_makePair : Cond.selects RX10 yX10_makePair yX10_makePair ∈ lw_all := lw_sel (i := 32) (by decide +kernel) rfl
theorem se_X10_test : Cond.selects RX10 yX10_test yX10_test ∈ lw_all := lw_sel (i := 33) (by decide +kernel) rfl
theorem se_X10_openBranch : Cond.selects RX10 yX10_openBranch yX10_openBranch ∈ lw_all := lw_sel (i := 34) (by decide +kernel) rfl
theorem se_X10_setBranch : Cond.selects RX10 yX10_setBranch yX10_setBranch ∈ lw_all := lw_sel (i := 35) (by decide +kernel) rfl
theorem se_X10_endThen : Cond.selects RX10 yX10_endThen yX10_endThen ∈ lw_all := lw_sel (i := 36) (by decide +kernel) rfl
theorem se_X10_branch : Cond.selects RX10 yX10_branch yX10_branch ∈ lw_all := lw_sel (i := 37) (by decide +kernel) rfl
theorem se_X10_closeBranch : Cond.selects RX10 yX10_closeBranch yX10_closeBranch ∈ lw_all := lw_sel (i := 38) (by decide +kernel) rfl
theorem se_X10_lift : Cond.selects RX10 yX10_lift yX10_lift ∈ lw_all := lw_sel (i := 39) (by decide +kernel) rfl
theorem se_X5_isBlock : Cond.selects RX5 yX5_isBlock yX5_isBlock ∈ lw_all := lw_sel (i := 40) (by decide +kernel) rfl
theorem se_X10_endElse : Cond.selects RX10 yX10_endElse yX10_endElse ∈ lw_all := lw_sel (i := 41) (by decide +kernel) rfl
theorem se_X10_putAt : Cond.selects RX10 yX10_putAt yX10_putAt ∈ lw_all := lw_sel (i := 42) (by decide +kernel) rfl
theorem se_X10_workCall : Cond.selects RX10 yX10_workCall yX10_workCall ∈ lw_all := lw_sel (i := 43) (by decide +kernel) rfl
theorem se_X10_shapeCall : Cond.selects RX10 yX10_shapeCall yX10_shapeCall ∈ lw_all := lw_sel (i := 44) (by decide +kernel) rfl
theorem se_X10_swapCalls : Cond.selects RX10 yX10_swapCalls yX10_swapCalls ∈ lw_all := lw_sel (i := 45) (by decide +kernel) rfl
theorem se_X10_leaveCall : Cond.selects RX10 yX10_leaveCall yX10_leaveCall ∈ lw_all := lw_sel (i := 46) (by decide +kernel) rfl
theorem se_X10_isTooMuch : Cond.selects RX10 yX10_isTooMuch yX10_isTooMuch ∈ lw_all := lw_sel (i := 47) (by decide +kernel) rfl
theorem se_X10_leaveCallTo : Cond.selects RX10 yX10_leaveCallTo yX10_leaveCallTo ∈ lw_all := lw_sel (i := 48) (by decide +kernel) rfl
theorem se_X10_goBack : Cond.selects RX10 yX10_goBack yX10_goBack ∈ lw_all := lw_sel (i := 49) (by decide +kernel) rfl
theorem se_X11_canRun : Cond.selects RX11 yX11_canRun yX11_canRun ∈ lw_all := lw_sel (i := 50) (by decide +kernel) rfl
theorem se_X7_call : Cond.selects RX7 yX7_call yX7_call ∈ lw_all := lw_sel (i := 51) (by decide +kernel) rfl
theorem se_X7_step : Cond.selects RX7 yX7_step yX7_step ∈ lw_all := lw_sel (i := 52) (by decide +kernel) rfl
theorem se_X7_makePair : Cond.selects RX7 yX7_makePair yX7_makePair ∈ lw_all := lw_sel (i := 53) (by decide +kernel) rfl
theorem se_X7_goBack : Cond.selects RX7 yX7_goBack yX7_goBack ∈ lw_all := lw_sel (i := 54) (by decide +kernel) rfl
theorem se_X6_setRegister : Cond.selects RX6 yX6_setRegister yX6_setRegister ∈ lw_all := lw_sel (i := 55) (by decide +kernel) rfl
theorem se_X6_enter : Cond.selects RX6 yX6_enter yX6_enter ∈ lw_all := lw_sel (i := 56) (by decide +kernel) rfl
theorem se_X6_endBlock : Cond.selects RX6 yX6_endBlock yX6_endBlock ∈ lw_all := lw_sel (i := 57) (by decide +kernel) rfl
theorem se_X6_known : Cond.selects RX6 yX6_known yX6_known ∈ lw_all := lw_sel (i := 58) (by decide +kernel) rfl
theorem se_X6_goOn : Cond.selects RX6 yX6_goOn yX6_goOn ∈ lw_all := lw_sel (i := 59) (by decide +kernel) rfl
theorem se_X6_step : Cond.selects RX6 yX6_step yX6_step ∈ lw_all := lw_sel (i := 60) (by decide +kernel) rfl
theorem se_X6_num : Cond.selects RX6 yX6_num yX6_num ∈ lw_all := lw_sel (i := 61) (by decide +kernel) rfl
theorem se_X6_operand : Cond.selects RX6 yX6_operand yX6_operand ∈ lw_all := lw_sel (i := 62) (by decide +kernel) rfl
theorem se_X6_makePair : Cond.selects RX6 yX6_makePair yX6_makePair ∈ lw_all := lw_sel (i := 63) (by decide +kernel) rfl
theorem se_X6_call : Cond.selects RX6 yX6_call yX6_call ∈ lw_all := lw_sel (i := 64) (by decide +kernel) rfl
theorem se_X1_keptCount : Cond.selects RX1 yX1_keptCount yX1_keptCount ∈ lw_all := lw_sel (i := 65) (by decide +kernel) rfl
theorem se_X9_addPart : Cond.selects RX9 yX9_addPart yX9_addPart ∈ lw_all := lw_sel (i := 66) (by decide +kernel) rfl
theorem se_X9_addSymbol : Cond.selects RX9 yX9_addSymbol yX9_addSymbol ∈ lw_all := lw_sel (i := 67) (by decide +kernel) rfl
theorem se_X9_add : Cond.selects RX9 yX9_add yX9_add ∈ lw_all := lw_sel (i := 68) (by decide +kernel) rfl
theorem se_X9_addInt : Cond.selects RX9 yX9_addInt yX9_addInt ∈ lw_all := lw_sel (i := 69) (by decide +kernel) rfl
theorem se_X9_addPatterns : Cond.selects RX9 yX9_addPatterns yX9_addPatterns ∈ lw_all := lw_sel (i := 70) (by decide +kernel) rfl
theorem se_X9_addBlock : Cond.selects RX9 yX9_addBlock yX9_addBlock ∈ lw_all := lw_sel (i := 71) (by decide +kernel) rfl
theorem se_X9_addInstruction : Cond.selects RX9 yX9_addInstruction yX9_addInstruction ∈ lw_all := lw_sel (i := 72) (by decide +kernel) rfl
theorem se_X9_addTwo : Cond.selects RX9 yX9_addTwo yX9_addTwo ∈ lw_all := lw_sel (i := 73) (by decide +kernel) rfl
theorem se_X9_addChoice : Cond.selects RX9 yX9_addChoice yX9_addChoice ∈ lw_all := lw_sel (i := 74) (by decide +kernel) rfl
theorem se_X9_addCall : Cond.selects RX9 yX9_addCall yX9_addCall ∈ lw_all := lw_sel (i := 75) (by decide +kernel) rfl
theorem se_X11_runBoth : Cond.selects RX11 yX11_runBoth yX11_runBoth ∈ lw_all := lw_sel (i := 76) (by decide +kernel) rfl
theorem se_X12_join : Cond.selects RX12 yX12_join yX12_join ∈ lw_all := lw_sel (i := 77) (by decide +kernel) rfl
theorem se_X12_give : Cond.selects RX12 yX12_give yX12_give ∈ lw_all := lw_sel (i := 78) (by decide +kernel) rfl
theorem se_X12_four : Cond.selects RX12 yX12_four yX12_four ∈ lw_all := lw_sel (i := 79) (by decide +kernel) rfl
theorem se_X12_readProgram : Cond.selects RX12 yX12_readProgram yX12_readProgram ∈ lw_all := lw_sel (i := 80) (by decide +kernel) rfl
theorem se_X12_beginText : Cond.selects RX12 yX12_beginText yX12_beginText ∈ lw_all := lw_sel (i := 81) (by decide +kernel) rfl
theorem se_X12_readFunction : Cond.selects RX12 yX12_readFunction yX12_readFunction ∈ lw_all := lw_sel (i := 82) (by decide +kernel) rfl
theorem se_X12_here : Cond.selects RX12 yX12_here yX12_here ∈ lw_all := lw_sel (i := 83) (by decide +kernel) rfl
theorem se_X12_fails : Cond.selects RX12 yX12_fails yX12_fails ∈ lw_all := lw_sel (i := 84) (by decide +kernel) rfl
theorem se_X12_takes : Cond.selects RX12 yX12_takes yX12_takes ∈ lw_all := lw_sel (i := 85) (by decide +kernel) rfl
theorem se_X12_readVars : Cond.selects RX12 yX12_readVars yX12_readVars ∈ lw_all := lw_sel (i := 86) (by decide +kernel) rfl
theorem se_X12_isNew : Cond.selects RX12 yX12_isNew yX12_isNew ∈ lw_all := lw_sel (i := 87) (by decide +kernel) rfl
theorem se_X12_readExpression : Cond.selects RX12 yX12_readExpression yX12_readExpression ∈ lw_all := lw_sel (i := 88) (by decide +kernel) rfl
theorem se_X12_readThing : Cond.selects RX12 yX12_readThing yX12_readThing ∈ lw_all := lw_sel (i := 89) (by decide +kernel) rfl
theorem se_X12_beginsNumber : Cond.selects RX12 yX12_beginsNumber yX12_beginsNumber ∈ lw_all := lw_sel (i := 90) (by decide +kernel) rfl
theorem se_X12_readNumber : Cond.selects RX12 yX12_readNumber yX12_readNumber ∈ lw_all := lw_sel (i := 91) (by decide +kernel) rfl
theorem se_X12_digits : Cond.selects RX12 yX12_digits yX12_digits ∈ lw_all := lw_sel (i := 92) (by decide +kernel) rfl
theorem se_X12_lay : Cond.selects RX12 yX12_lay yX12_lay ∈ lw_all := lw_sel (i := 93) (by decide +kernel) rfl
theorem se_X12_layOpen : Cond.selects RX12 yX12_layOpen yX12_layOpen ∈ lw_all := lw_sel (i := 94) (by decide +kernel) rfl
theorem se_X12_openThing : Cond.selects RX12 yX12_openThing yX12_openThing ∈ lw_all := lw_sel (i := 95) (by decide +kernel) rfl
theorem se_X12_readPlace : Cond.selects RX12 yX12_readPlace yX12_readPlace ∈ lw_all := lw_sel (i := 96) (by decide +kernel) rfl
theorem se_X12_readLet : Cond.selects RX12 yX12_readLet yX12_readLet ∈ lw_all := lw_sel (i := 97) (by decide +kernel) rfl
theorem se_X12_readCall : Cond.selects RX12 yX12_readCall yX12_readCall ∈ lw_all := lw_sel (i := 98) (by decide +kernel) rfl
theorem se_X12_hasMore : Cond.selects RX12 yX12_hasMore yX12_hasMore ∈ lw_all := lw_sel (i := 99) (by decide +kernel) rfl
theorem se_X12_goesOn : Cond.selects RX12 yX12_goesOn yX12_goesOn ∈ lw_all := lw_sel (i := 100) (by decide +kernel) rfl
theorem se_X12_layBehind : Cond.selects RX12 yX12_layBehind yX12_layBehind ∈ lw_all := lw_sel (i := 101) (by decide +kernel) rfl
theorem se_X12_readTask : Cond.selects RX12 yX12_readTask yX12_readTask ∈ lw_all := lw_sel (i := 102) (by decide +kernel) rfl
theorem se_X12_readPart : Cond.selects RX12 yX12_readPart yX12_readPart ∈ lw_all := lw_sel (i := 103) (by decide +kernel) rfl
theorem se_X12_layRead : Cond.selects RX12 yX12_layRead yX12_layRead ∈ lw_all := lw_sel (i := 104) (by decide +kernel) rfl
theorem se_X12_closeAll : Cond.selects RX12 yX12_closeAll yX12_closeAll ∈ lw_all := lw_sel (i := 105) (by decide +kernel) rfl
theorem se_X12_readValues : Cond.selects RX12 yX12_readValues yX12_readValues ∈ lw_all := lw_sel (i := 106) (by decide +kernel) rfl
theorem se_X12_countThings : Cond.selects RX12 yX12_countThings yX12_countThings ∈ lw_all := lw_sel (i := 107) (by decide +kernel) rfl
theorem se_X12_specialiseNow : Cond.selects RX12 yX12_specialiseNow yX12_specialiseNow ∈ lw_all := lw_sel (i := 108) (by decide +kernel) rfl
theorem se_X12_functionOf : Cond.selects RX12 yX12_functionOf yX12_functionOf ∈ lw_all := lw_sel (i := 109) (by decide +kernel) rfl
theorem se_X12_buildTask : Cond.selects RX12 yX12_buildTask yX12_buildTask ∈ lw_all := lw_sel (i := 110) (by decide +kernel) rfl
theorem se_X12_buildOne : Cond.selects RX12 yX12_buildOne yX12_buildOne ∈ lw_all := lw_sel (i := 111) (by decide +kernel) rfl
theorem se_X12_node : Cond.selects RX12 yX12_node yX12_node ∈ lw_all := lw_sel (i := 112) (by decide +kernel) rfl
theorem se_X12_build : Cond.selects RX12 yX12_build yX12_build ∈ lw_all := lw_sel (i := 113) (by decide +kernel) rfl
theorem se_X12_unbuild : Cond.selects RX12 yX12_unbuild yX12_unbuild ∈ lw_all := lw_sel (i := 114) (by decide +kernel) rfl
theorem se_X12_pair : Cond.selects RX12 yX12_pair yX12_pair ∈ lw_all := lw_sel (i := 115) (by decide +kernel) rfl
theorem se_X12_layMade : Cond.selects RX12 yX12_layMade yX12_layMade ∈ lw_all := lw_sel (i := 116) (by decide +kernel) rfl
theorem se_X12_newVariant : Cond.selects RX12 yX12_newVariant yX12_newVariant ∈ lw_all := lw_sel (i := 117) (by decide +kernel) rfl
theorem se_X12_starsMade : Cond.selects RX12 yX12_starsMade yX12_starsMade ∈ lw_all := lw_sel (i := 118) (by decide +kernel) rfl
theorem se_X12_makeVariant : Cond.selects RX12 yX12_makeVariant yX12_makeVariant ∈ lw_all := lw_sel (i := 119) (by decide +kernel) rfl
theorem se_X12_begin : Cond.selects RX12 yX12_begin yX12_begin ∈ lw_all := lw_sel (i := 120) (by decide +kernel) rfl
theorem se_X12_push : Cond.selects RX12 yX12_push yX12_push ∈ lw_all := lw_sel (i := 121) (by decide +kernel) rfl
theorem se_X12_goAll : Cond.selects RX12 yX12_goAll yX12_goAll ∈ lw_all := lw_sel (i := 122) (by decide +kernel) rfl
theorem se_X12_goOne : Cond.selects RX12 yX12_goOne yX12_goOne ∈ lw_all := lw_sel (i := 123) (by decide +kernel) rfl
theorem se_X12_work : Cond.selects RX12 yX12_work yX12_work ∈ lw_all := lw_sel (i := 124) (by decide +kernel) rfl
theorem se_X12_come : Cond.selects RX12 yX12_come yX12_come ∈ lw_all := lw_sel (i := 125) (by decide +kernel) rfl
theorem se_X12_workBelow : Cond.selects RX12 yX12_workBelow yX12_workBelow ∈ lw_all := lw_sel (i := 126) (by decide +kernel) rfl
theorem se_X12_doThing : Cond.selects RX12 yX12_doThing yX12_doThing ∈ lw_all := lw_sel (i := 127) (by decide +kernel) rfl
theorem se_X12_doSign : Cond.selects RX12 yX12_doSign yX12_doSign ∈ lw_all := lw_sel (i := 128) (by decide +kernel) rfl
theorem se_X12_gone : Cond.selects RX12 yX12_gone yX12_gone ∈ lw_all := lw_sel (i := 129) (by decide +kernel) rfl
theorem se_X12_num : Cond.selects RX12 yX12_num yX12_num ∈ lw_all := lw_sel (i := 130) (by decide +kernel) rfl
theorem se_X12_isKnown : Cond.selects RX12 yX12_isKnown yX12_isKnown ∈ lw_all := lw_sel (i := 131) (by decide +kernel) rfl
theorem se_X12_given : Cond.selects RX12 yX12_given yX12_given ∈ lw_all := lw_sel (i := 132) (by decide +kernel) rfl
theorem se_X12_instruction : Cond.selects RX12 yX12_instruction yX12_instruction ∈ lw_all := lw_sel (i := 133) (by decide +kernel) rfl
theorem se_X12_item : Cond.selects RX12 yX12_item yX12_item ∈ lw_all := lw_sel (i := 134) (by decide +kernel) rfl
theorem se_X12_countInstruction : Cond.selects RX12 yX12_countInstruction yX12_countInstruction ∈ lw_all := lw_sel (i := 135) (by decide +kernel) rfl
theorem se_X12_operand : Cond.selects RX12 yX12_operand yX12_operand ∈ lw_all := lw_sel (i := 136) (by decide +kernel) rfl
theorem se_X12_registerOf : Cond.selects RX12 yX12_registerOf yX12_registerOf ∈ lw_all := lw_sel (i := 137) (by decide +kernel) rfl
theorem se_X12_doOne : Cond.selects RX12 yX12_doOne yX12_doOne ∈ lw_all := lw_sel (i := 138) (by decide +kernel) rfl
theorem se_X12_turn : Cond.selects RX12 yX12_turn yX12_turn ∈ lw_all := lw_sel (i := 139) (by decide +kernel) rfl
theorem se_X12_doPair : Cond.selects RX12 yX12_doPair yX12_doPair ∈ lw_all := lw_sel (i := 140) (by decide +kernel) rfl
theorem se_X12_doOut : Cond.selects RX12 yX12_doOut yX12_doOut ∈ lw_all := lw_sel (i := 141) (by decide +kernel) rfl
theorem se_X12_show : Cond.selects RX12 yX12_show yX12_show ∈ lw_all := lw_sel (i := 142) (by decide +kernel) rfl
theorem se_X12_doPut : Cond.selects RX12 yX12_doPut yX12_doPut ∈ lw_all := lw_sel (i := 143) (by decide +kernel) rfl
theorem se_X12_holdAt : Cond.selects RX12 yX12_holdAt yX12_holdAt ∈ lw_all := lw_sel (i := 144) (by decide +kernel) rfl
theorem se_X12_doGet : Cond.selects RX12 yX12_doGet yX12_doGet ∈ lw_all := lw_sel (i := 145) (by decide +kernel) rfl
theorem se_X12_doCall : Cond.selects RX12 yX12_doCall yX12_doCall ∈ lw_all := lw_sel (i := 146) (by decide +kernel) rfl
theorem se_X12_thinkCall : Cond.selects RX12 yX12_thinkCall yX12_thinkCall ∈ lw_all := lw_sel (i := 147) (by decide +kernel) rfl
theorem se_X12_enter : Cond.selects RX12 yX12_enter yX12_enter ∈ lw_all := lw_sel (i := 148) (by decide +kernel) rfl
theorem se_X12_leaveCall : Cond.selects RX12 yX12_leaveCall yX12_leaveCall ∈ lw_all := lw_sel (i := 149) (by decide +kernel) rfl
theorem se_X12_growBy : Cond.selects RX12 yX12_growBy yX12_growBy ∈ lw_all := lw_sel (i := 150) (by decide +kernel) rfl
theorem se_X12_variantBy : Cond.selects RX12 yX12_variantBy yX12_variantBy ∈ lw_all := lw_sel (i := 151) (by decide +kernel) rfl
theorem se_X12_isPattern : Cond.selects RX12 yX12_isPattern yX12_isPattern ∈ lw_all := lw_sel (i := 152) (by decide +kernel) rfl
theorem se_X12_variantsOf : Cond.selects RX12 yX12_variantsOf yX12_variantsOf ∈ lw_all := lw_sel (i := 153) (by decide +kernel) rfl
theorem se_X12_layStars : Cond.selects RX12 yX12_layStars yX12_layStars ∈ lw_all := lw_sel (i := 154) (by decide +kernel) rfl
theorem se_X12_lift : Cond.selects RX12 yX12_lift yX12_lift ∈ lw_all := lw_sel (i := 155) (by decide +kernel) rfl
theorem se_X12_liftPair : Cond.selects RX12 yX12_liftPair yX12_liftPair ∈ lw_all := lw_sel (i := 156) (by decide +kernel) rfl
theorem se_X12_beginsCall : Cond.selects RX12 yX12_beginsCall yX12_beginsCall ∈ lw_all := lw_sel (i := 157) (by decide +kernel) rfl
theorem se_X12_choose : Cond.selects RX12 yX12_choose yX12_choose ∈ lw_all := lw_sel (i := 158) (by decide +kernel) rfl
theorem se_X12_bindVar : Cond.selects RX12 yX12_bindVar yX12_bindVar ∈ lw_all := lw_sel (i := 159) (by decide +kernel) rfl
theorem se_X12_leave : Cond.selects RX12 yX12_leave yX12_leave ∈ lw_all := lw_sel (i := 160) (by decide +kernel) rfl
theorem se_X12_otherwise : Cond.selects RX12 yX12_otherwise yX12_otherwise ∈ lw_all := lw_sel (i := 161) (by decide +kernel) rfl
theorem se_X12_mark : Cond.selects RX12 yX12_mark yX12_mark ∈ lw_all := lw_sel (i := 162) (by decide +kernel) rfl
theorem se_X12_whole : Cond.selects RX12 yX12_whole yX12_whole ∈ lw_all := lw_sel (i := 163) (by decide +kernel) rfl
theorem se_X12_countAll : Cond.selects RX12 yX12_countAll yX12_countAll ∈ lw_all := lw_sel (i := 164) (by decide +kernel) rfl
theorem se_X12_countKind : Cond.selects RX12 yX12_countKind yX12_countKind ∈ lw_all := lw_sel (i := 165) (by decide +kernel) rfl
theorem se_X12_isVariant : Cond.selects RX12 yX12_isVariant yX12_isVariant ∈ lw_all := lw_sel (i := 166) (by decide +kernel) rfl
theorem se_X12_instructionsOf : Cond.selects RX12 yX12_instructionsOf yX12_instructionsOf ∈ lw_all := lw_sel (i := 167) (by decide +kernel) rfl
theorem se_X12_callsOf : Cond.selects RX12 yX12_callsOf yX12_callsOf ∈ lw_all := lw_sel (i := 168) (by decide +kernel) rfl
theorem se_X12_knownIn : Cond.selects RX12 yX12_knownIn yX12_knownIn ∈ lw_all := lw_sel (i := 169) (by decide +kernel) rfl
theorem se_X12_canRun : Cond.selects RX12 yX12_canRun yX12_canRun ∈ lw_all := lw_sel (i := 170) (by decide +kernel) rfl
theorem se_X12_runNow : Cond.selects RX12 yX12_runNow yX12_runNow ∈ lw_all := lw_sel (i := 171) (by decide +kernel) rfl
theorem se_X12_runTask : Cond.selects RX12 yX12_runTask yX12_runTask ∈ lw_all := lw_sel (i := 172) (by decide +kernel) rfl
theorem se_X12_beginRun : Cond.selects RX12 yX12_beginRun yX12_beginRun ∈ lw_all := lw_sel (i := 173) (by decide +kernel) rfl
theorem se_X12_buildLeaves : Cond.selects RX12 yX12_buildLeaves yX12_buildLeaves ∈ lw_all := lw_sel (i := 174) (by decide +kernel) rfl
theorem se_X12_endRun : Cond.selects RX12 yX12_endRun yX12_endRun ∈ lw_all := lw_sel (i := 175) (by decide +kernel) rfl
theorem se_X12_layRow : Cond.selects RX12 yX12_layRow yX12_layRow ∈ lw_all := lw_sel (i := 176) (by decide +kernel) rfl
theorem se_X12_runResidue : Cond.selects RX12 yX12_runResidue yX12_runResidue ∈ lw_all := lw_sel (i := 177) (by decide +kernel) rfl
theorem se_X12_enterVariant : Cond.selects RX12 yX12_enterVariant yX12_enterVariant ∈ lw_all := lw_sel (i := 178) (by decide +kernel) rfl
theorem se_X12_runItem : Cond.selects RX12 yX12_runItem yX12_runItem ∈ lw_all := lw_sel (i := 179) (by decide +kernel) rfl
theorem se_X12_valueOf : Cond.selects RX12 yX12_valueOf yX12_valueOf ∈ lw_all := lw_sel (i := 180) (by decide +kernel) rfl
theorem se_X12_hold : Cond.selects RX12 yX12_hold yX12_hold ∈ lw_all := lw_sel (i := 181) (by decide +kernel) rfl
theorem se_X12_runCall : Cond.selects RX12 yX12_runCall yX12_runCall ∈ lw_all := lw_sel (i := 182) (by decide +kernel) rfl
theorem se_X12_itemValue : Cond.selects RX12 yX12_itemValue yX12_itemValue ∈ lw_all := lw_sel (i := 183) (by decide +kernel) rfl
theorem se_X12_areLikeFrom : Cond.selects RX12 yX12_areLikeFrom yX12_areLikeFrom ∈ lw_all := lw_sel (i := 184) (by decide +kernel) rfl
theorem se_X12_putParts : Cond.selects RX12 yX12_putParts yX12_putParts ∈ lw_all := lw_sel (i := 185) (by decide +kernel) rfl
theorem se_X12_put : Cond.selects RX12 yX12_put yX12_put ∈ lw_all := lw_sel (i := 186) (by decide +kernel) rfl
theorem se_X12_putOne : Cond.selects RX12 yX12_putOne yX12_putOne ∈ lw_all := lw_sel (i := 187) (by decide +kernel) rfl
theorem se_X12_putNumber : Cond.selects RX12 yX12_putNumber yX12_putNumber ∈ lw_all := lw_sel (i := 188) (by decide +kernel) rfl
theorem se_X12_putItem : Cond.selects RX12 yX12_putItem yX12_putItem ∈ lw_all := lw_sel (i := 189) (by decide +kernel) rfl
theorem se_X12_putOperand : Cond.selects RX12 yX12_putOperand yX12_putOperand ∈ lw_all := lw_sel (i := 190) (by decide +kernel) rfl
theorem se_X12_putRest : Cond.selects RX12 yX12_putRest yX12_putRest ∈ lw_all := lw_sel (i := 191) (by decide +kernel) rfl
theorem se_X12_putList : Cond.selects RX12 yX12_putList yX12_putList ∈ lw_all := lw_sel (i := 192) (by decide +kernel) rfl
