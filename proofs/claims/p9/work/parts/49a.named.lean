/-! the named store: every cell has a name, its contents stand in a store by that name; a method is a function on stores -/
abbrev Sto : Type := (Nat → Nat → Int32) × (Nat → Nat → Int64)
abbrev NS : Type := Nat × Nat × List (Nat × Nat)
def uA (s : Nat → Nat → Int32) (k : Nat) (f : Nat → Int32) : Nat → Nat → Int32 := fun k' => if k' = k then f else s k'
def uL (s : Nat → Nat → Int64) (k : Nat) (f : Nat → Int64) : Nat → Nat → Int64 := fun k' => if k' = k then f else s k'
def sI (s : Sto) (k i : Nat) (x : Int32) : Sto := (uA s.1 k (upd (s.1 k) i x), s.2)
def sB (s : Sto) (k i : Nat) (x : Int32) : Sto := sI s k i (vp_nar .byte x)
def sL (s : Sto) (k i : Nat) (x : Int64) : Sto := (s.1, uL s.2 k (vp_updL (s.2 k) i x))
def sC (s : Sto) (k0 k1 sp dp n : Nat) : Sto := (uA s.1 k1 (va_cpy (s.1 k0) (s.1 k1) sp dp n), s.2)
/-- a value gets a name -/
def bnd {α β : Type} (x : α) (f : α → β) : β := f x
theorem bnd_step {α β : Type} {R : β} {x : α} {f : α → β} {z : α} (hR : R = bnd x f) (hz : z = x) : R = f z := by
  subst hz
  exact hR
def ct1 : List Nat := [1, 1729, 2580, 3289, 2642, 630, 1897, 848, 1062, 1919, 193, 797, 2786, 3260, 569, 1746, 296, 2447, 1339, 1476, 3046, 56, 2240, 1333, 1426, 2094, 535, 2882, 2393, 2879, 1974, 821, 289, 331, 3253, 1756, 1197, 2304, 2277, 2055, 650, 1977, 2513, 632, 2865, 33, 1320, 1915, 2319, 1435, 807, 452, 1438, 2868, 1534, 2402, 2647, 2617, 1481, 648, 2474, 3110, 1227, 910, 17, 2761, 583, 2649, 1637, 723, 2288, 1100, 1409, 2662, 3281, 233, 756, 2156, 3015, 3050, 1703, 1651, 2789, 1789, 1847, 952, 1461, 2687, 939, 2308, 2437, 2388, 733, 2337, 268, 641, 1584, 2298, 2037, 3220, 375, 2549, 2090, 1645, 1063, 319, 2773, 757, 2099, 561, 2466, 2594, 2804, 1092, 403, 1026, 1143, 2150, 2775, 886, 1722, 1212, 1874, 1029, 2110, 2935, 885, 2154]
def ct2 : List Nat := [1, 4808194, 3765607, 3761513, 5178923, 5496691, 5234739, 5178987, 7778734, 3542485, 2682288, 2129892, 3764867, 7375178, 557458, 7159240, 5010068, 4317364, 2663378, 6705802, 4855975, 7946292, 676590, 7044481, 5152541, 1714295, 2453983, 1460718, 7737789, 4795319, 2815639, 2283733, 3602218, 3182878, 2740543, 4793971, 5269599, 2101410, 3704823, 1159875, 394148, 928749, 1095468, 4874037, 2071829, 4361428, 3241972, 2156050, 3415069, 1759347, 7562881, 4805951, 3756790, 6444618, 6663429, 4430364, 5483103, 3192354, 556856, 3870317, 2917338, 1853806, 3345963, 1858416, 3073009, 1277625, 5744944, 3852015, 4183372, 5157610, 5258977, 8106357, 2508980, 2028118, 1937570, 4564692, 2811291, 5396636, 7270901, 4158088, 1528066, 482649, 1148858, 5418153, 7814814, 169688, 2462444, 5046034, 4213992, 4892034, 1987814, 5183169, 1736313, 235407, 5130263, 3258457, 5801164, 1787943, 5989328, 6125690, 3482206, 4197502, 7080401, 6018354, 7062739, 2461387, 3035980, 621164, 3901472, 7153756, 2925816, 3374250, 1356448, 5604662, 2683270, 5601629, 4912752, 2312838, 7727142, 7921254, 348812, 8052569, 1011223, 6026202, 4561790, 6458164, 6143691, 1744507, 1753, 6444997, 5720892, 6924527, 2660408, 6600190, 8321269, 2772600, 1182243, 87208, 636927, 4415111, 4423672, 6084020, 5095502, 4663471, 8352605, 822541, 1009365, 5926272, 6400920, 1596822, 4423473, 4620952, 6695264, 4969849, 2678278, 4611469, 4829411, 635956, 8129971, 5925040, 4234153, 6607829, 2192938, 6653329, 2387513, 4768667, 8111961, 5199961, 3747250, 2296099, 1239911, 4541938, 3195676, 2642980, 1254190, 8368000, 2998219, 141835, 8291116, 2513018, 7025525, 613238, 7070156, 6161950, 7921677, 6458423, 4040196, 4908348, 2039144, 6500539, 7561656, 6201452, 6757063, 2105286, 6006015, 6346610, 586241, 7200804, 527981, 5637006, 6903432, 1994046, 2491325, 6987258, 507927, 7192532, 7655613, 6545891, 5346675, 8041997, 2647994, 3009748, 5767564, 4148469, 749577, 4357667, 3980599, 2569011, 6764887, 1723229, 1665318, 2028038, 1163598, 5011144, 3994671, 8368538, 7009900, 3020393, 3363542, 214880, 545376, 7609976, 3105558, 7277073, 508145, 7826699, 860144, 3430436, 140244, 6866265, 6195333, 3123762, 2358373, 6187330, 5365997, 6663603, 2926054, 7987710, 8077412, 3531229, 4405932, 4606686, 1900052, 7598542, 1054478, 7648983]
def ct3 : List Nat := [1, 129, 65, 193, 33, 161, 97, 225, 17, 145, 81, 209, 49, 177, 113, 241, 9, 137, 73, 201, 41, 169, 105, 233, 25, 153, 89, 217, 57, 185, 121, 249, 5, 133, 69, 197, 37, 165, 101, 229, 21, 149, 85, 213, 53, 181, 117, 245, 13, 141, 77, 205, 45, 173, 109, 237, 29, 157, 93, 221, 61, 189, 125, 253, 3, 131, 67, 195, 35, 163, 99, 227, 19, 147, 83, 211, 51, 179, 115, 243, 11, 139, 75, 203, 43, 171, 107, 235, 27, 155, 91, 219, 59, 187, 123, 251, 7, 135, 71, 199, 39, 167, 103, 231, 23, 151, 87, 215, 55, 183, 119, 247, 15, 143, 79, 207, 47, 175, 111, 239, 31, 159, 95, 223, 63, 191, 127, 255]
def ct4 : List Nat := [1, 257, 129, 385, 65, 321, 193, 449, 33, 289, 161, 417, 97, 353, 225, 481, 17, 273, 145, 401, 81, 337, 209, 465, 49, 305, 177, 433, 113, 369, 241, 497, 9, 265, 137, 393, 73, 329, 201, 457, 41, 297, 169, 425, 105, 361, 233, 489, 25, 281, 153, 409, 89, 345, 217, 473, 57, 313, 185, 441, 121, 377, 249, 505, 5, 261, 133, 389, 69, 325, 197, 453, 37, 293, 165, 421, 101, 357, 229, 485, 21, 277, 149, 405, 85, 341, 213, 469, 53, 309, 181, 437, 117, 373, 245, 501, 13, 269, 141, 397, 77, 333, 205, 461, 45, 301, 173, 429, 109, 365, 237, 493, 29, 285, 157, 413, 93, 349, 221, 477, 61, 317, 189, 445, 125, 381, 253, 509, 3, 259, 131, 387, 67, 323, 195, 451, 35, 291, 163, 419, 99, 355, 227, 483, 19, 275, 147, 403, 83, 339, 211, 467, 51, 307, 179, 435, 115, 371, 243, 499, 11, 267, 139, 395, 75, 331, 203, 459, 43, 299, 171, 427, 107, 363, 235, 491, 27, 283, 155, 411, 91, 347, 219, 475, 59, 315, 187, 443, 123, 379, 251, 507, 7, 263, 135, 391, 71, 327, 199, 455, 39, 295, 167, 423, 103, 359, 231, 487, 23, 279, 151, 407, 87, 343, 215, 471, 55, 311, 183, 439, 119, 375, 247, 503, 15, 271, 143, 399, 79, 335, 207, 463, 47, 303, 175, 431, 111, 367, 239, 495, 31, 287, 159, 415, 95, 351, 223, 479, 63, 319, 191, 447, 127, 383, 255, 511]
def cl1 : List Nat := [1, 17, 289, 1584, 296, 1703, 2319, 2804, 1062, 1409, 650, 1063, 1426, 939, 2647, 1722, 2642, 1637, 1197, 375, 3046, 1847, 1438, 1143, 2786, 756, 2865, 2099, 2393, 733, 2474, 2110, 2580, 583, 3253, 2037, 1339, 2789, 807, 403, 193, 3281, 2513, 2773, 535, 2437, 1481, 1874, 1897, 2288, 2277, 2090, 2240, 1461, 1534, 2775, 569, 3015, 1320, 2466, 1974, 268, 1227, 885, 1729, 2761, 331, 2298, 2447, 1651, 1435, 1092, 1919, 2662, 1977, 319, 2094, 2308, 2617, 1212, 630, 723, 2304, 2549, 56, 952, 2868, 2150, 3260, 2156, 33, 561, 2879, 2337, 3110, 2935, 3289, 2649, 1756, 3220, 1476, 1789, 452, 1026, 797, 233, 632, 757, 2882, 2388, 648, 1029, 848, 1100, 2055, 1645, 1333, 2687, 2402, 886, 1746, 3050, 1915, 2594, 821, 641, 910, 2154, 3328, 3312, 3040, 1745, 3033, 1626, 1010, 525, 2267, 1920, 2679, 2266, 1903, 2390, 682, 1607, 687, 1692, 2132, 2954, 283, 1482, 1891, 2186, 543, 2573, 464, 1230, 936, 2596, 855, 1219, 749, 2746, 76, 1292, 1990, 540, 2522, 2926, 3136, 48, 816, 556, 2794, 892, 1848, 1455, 1432, 1041, 1052, 1239, 1089, 1868, 1795, 554, 2760, 314, 2009, 863, 1355, 3061, 2102, 2444, 1600, 568, 2998, 1031, 882, 1678, 1894, 2237, 1410, 667, 1352, 3010, 1235, 1021, 712, 2117, 2699, 2606, 1025, 780, 3273, 2377, 461, 1179, 69, 1173, 3296, 2768, 450, 992, 219, 394, 40, 680, 1573, 109, 1853, 1540, 2877, 2303, 2532, 3096, 2697, 2572, 447, 941, 2681, 2300, 2481, 2229, 1274, 1684, 1996, 642, 927, 2443, 1583, 279, 1414, 735, 2508, 2688, 2419, 1175]
def cl2 : List Nat := [1, 1753, 3073009, 6757063, 3602218, 4234153, 5801164, 3994671, 5010068, 8352605, 1528066, 5346675, 3415069, 2998219, 1356448, 6195333, 7778734, 1182243, 2508980, 6903432, 394148, 3747250, 7062739, 3105558, 5152541, 6695264, 4213992, 3980599, 5483103, 7921677, 348812, 8077412, 5178923, 2660408, 4183372, 586241, 5269599, 2387513, 3482206, 3363542, 4855975, 6400920, 7814814, 5767564, 3756790, 7025525, 4912752, 5365997, 3764867, 4423672, 2811291, 507927, 2071829, 3195676, 3901472, 860144, 7737789, 4829411, 1736313, 1665318, 2917338, 2039144, 4561790, 1900052, 3765607, 5720892, 5744944, 6006015, 2740543, 2192938, 5989328, 7009900, 2663378, 1009365, 1148858, 2647994, 7562881, 8291116, 2683270, 2358373, 2682288, 636927, 1937570, 2491325, 1095468, 1239911, 3035980, 508145, 2453983, 2678278, 1987814, 6764887, 556856, 4040196, 1011223, 4405932, 5234739, 8321269, 5258977, 527981, 3704823, 8111961, 7080401, 545376, 676590, 4423473, 2462444, 749577, 6663429, 7070156, 7727142, 2926054, 557458, 5095502, 7270901, 7655613, 3241972, 1254190, 2925816, 140244, 2815639, 8129971, 5130263, 1163598, 3345963, 7561656, 6143691, 1054478, 4808194, 6444997, 1277625, 2105286, 3182878, 6607829, 1787943, 8368538, 4317364, 822541, 482649, 8041997, 1759347, 141835, 5604662, 3123762, 3542485, 87208, 2028118, 1994046, 928749, 2296099, 2461387, 7277073, 1714295, 4969849, 4892034, 2569011, 3192354, 6458423, 8052569, 3531229, 5496691, 6600190, 5157610, 7200804, 2101410, 4768667, 4197502, 214880, 7946292, 1596822, 169688, 4148469, 6444618, 613238, 2312838, 6663603, 7375178, 6084020, 5396636, 7192532, 4361428, 2642980, 7153756, 3430436, 4795319, 635956, 235407, 2028038, 1853806, 6500539, 6458164, 7598542, 3761513, 6924527, 3852015, 6346610, 4793971, 6653329, 6125690, 3020393, 6705802, 5926272, 5418153, 3009748, 4805951, 2513018, 5601629, 6187330, 2129892, 4415111, 4564692, 6987258, 4874037, 4541938, 621164, 7826699, 1460718, 4611469, 5183169, 1723229, 3870317, 4908348, 6026202, 4606686, 5178987, 2772600, 8106357, 5637006, 1159875, 5199961, 6018354, 7609976, 7044481, 4620952, 5046034, 4357667, 4430364, 6161950, 7921254, 7987710, 7159240, 4663471, 4158088, 6545891, 2156050, 8368000, 3374250, 6866265, 2283733, 5925040, 3258457, 5011144, 1858416, 6201452, 1744507, 7648983, 8380416, 8378664, 5307408, 1623354, 4778199, 4146264, 2579253, 4385746, 3370349, 27812, 6852351, 3033742, 4965348, 5382198, 7023969, 2185084, 601683, 7198174, 5871437, 1476985, 7986269, 4633167, 1317678, 5274859, 3227876, 1685153, 4166425, 4399818, 2897314, 458740, 8031605, 303005, 3201494, 5720009, 4197045, 7794176, 3110818, 5992904, 4898211, 5016875, 3524442, 1979497, 565603, 2612853, 4623627, 1354892, 3467665, 3014420, 4615550, 3956745, 5569126, 7872490, 6308588, 5184741, 4478945, 7520273, 642628, 3551006, 6644104, 6715099, 5463079, 6341273, 3818627, 6480365, 4614810, 2659525, 2635473, 2374402, 5639874, 6187479, 2391089, 1370517, 5717039, 7371052, 7231559, 5732423, 817536, 89301, 5697147, 6022044, 5698129, 7743490, 6442847, 5889092, 7284949, 7140506, 5344437, 7872272, 5926434, 5702139, 6392603, 1615530, 7823561, 4340221, 7369194, 3974485, 3145678, 59148, 3121440, 7852436, 4675594, 268456, 1300016, 7835041, 7703827, 3956944, 5917973, 7630840, 1716988, 1310261, 653275, 5454363, 7822959, 3284915, 1109516, 724804, 5138445, 7126227, 5454601, 8240173, 5564778, 250446, 3250154, 7216819, 5034454, 818761, 2236726, 7325939, 3572223, 1935420, 7102792, 6275131, 5197539, 1772588, 6592474, 11879, 4063053, 7557876, 7897768, 338420, 6621070, 8238582, 2775755, 5256655, 4837932, 8293209, 6352299, 6386371, 7451668, 6084318, 5919030, 1103344, 6666122, 3410568, 3488383, 5811406, 5188063, 1921994, 327848, 4849188, 2883726, 1780227, 3222807, 1179613, 6279007, 3611750, 4182915, 8165537, 434125, 6783595, 8210729, 4231948, 1935799, 7767179, 6067579, 1716814, 1005239, 2296397, 2983781, 1187885, 4018989, 5737437, 1226661, 4949981, 3585098, 7744461, 8145010, 6352379, 6526611, 1879878, 1922253, 781875, 4618904, 1455890, 4528402, 2033807, 3586446, 1727088, 2254727, 5360024, 1674615, 2454145, 2962264, 5370669, 3574466, 5867399, 2778788, 2193087, 6250525, 3965306, 3815725, 1393159, 3506380, 3838479, 7759253, 553718, 6919699, 3768948, 3197248, 6657188, 4510100, 3472069, 2354215, 3773731, 3201430, 5607817, 274060, 2743411, 7220542, 3180456, 2362063, 770441, 1335936, 3759465, 3334383, 4022750, 3950053, 2218467, 459163, 392707, 1221177, 3716946, 4222329, 1834526, 6224367, 12417, 5006167, 1514152, 6096684, 2455377, 5121960, 3369273, 6522001, 2178965, 6635910, 731434]
def ctI (d j : Nat) : Int32 := match d with
  | 0 => TUR j
  | 1 => nI (ct1.getD j 0)
  | 2 => nI (ct2.getD j 0)
  | 3 => nI (ct3.getD j 0)
  | _ => nI (ct4.getD j 0)
def ctL (d j : Nat) : Int64 := match d with
  | 0 => RCS j
  | 1 => Int64.ofNat (cl1.getD j 0)
  | _ => Int64.ofNat (cl2.getD j 0)
/-- only names of M have changed -/
def frm (M : Nat → Prop) (s s1 : Sto) : Prop := ∀ k, ¬ M k → s1.1 k = s.1 k
theorem frm_rf {M : Nat → Prop} {s : Sto} : frm M s s := fun _ _ => rfl
theorem frm_tr {M M1 : Nat → Prop} {s s1 s2 : Sto} (h : frm M s s1) (h1 : frm M1 s1 s2) (hM : ∀ k, M1 k → M k) : frm M s s2 := fun k hk => (h1 k (fun q => hk (hM k q))).trans (h k hk)
theorem frm_sI {M : Nat → Prop} {s s1 s2 : Sto} {k i : Nat} {x : Int32} (h : frm M s s1) (e : s2 = sI s1 k i x) (hM : M k) : frm M s s2 := fun k' hk => by
  subst e
  show uA s1.1 k _ k' = _
  have hne : k' ≠ k := fun q => hk (by rw [q]; exact hM)
  show (if k' = k then _ else s1.1 k') = _
  rw [if_neg hne]
  exact h k' hk
theorem frm_sB {M : Nat → Prop} {s s1 s2 : Sto} {k i : Nat} {x : Int32} (h : frm M s s1) (e : s2 = sB s1 k i x) (hM : M k) : frm M s s2 := frm_sI h e hM
theorem frm_sL {M : Nat → Prop} {s s1 s2 : Sto} {k i : Nat} {x : Int64} (h : frm M s s1) (e : s2 = sL s1 k i x) : frm M s s2 := fun k' hk => by
  subst e
  exact h k' hk
theorem frm_sC {M : Nat → Prop} {s s1 s2 : Sto} {k0 k sp dp n : Nat} (h : frm M s s1) (e : s2 = sC s1 k0 k sp dp n) (hM : M k) : frm M s s2 := fun k' hk => by
  subst e
  have hne : k' ≠ k := fun q => hk (by rw [q]; exact hM)
  show (if k' = k then _ else s1.1 k') = _
  rw [if_neg hne]
  exact h k' hk
/-- a known field, behind a store elsewhere or here -/
theorem fc_eq {s s2 : Sto} {k i : Nat} {x : Int32} (e : s2 = sI s k i x) : s2.1 k i = x := by
  subst e
  show (if k = k then upd (s.1 k) i x else s.1 k) i = x
  rw [if_pos rfl]
  simp [upd]
theorem fc_ne {s s2 : Sto} {k i k' i' : Nat} {x v : Int32} (h : s.1 k' i' = v) (e : s2 = sI s k i x) (hne : k' ≠ k ∨ i' ≠ i) : s2.1 k' i' = v := by
  subst e
  show (if k' = k then upd (s.1 k) i x else s.1 k') i' = v
  by_cases q : k' = k
  · subst q
    rw [if_pos rfl]
    have : ¬ i' = i := hne.elim (fun h9 => absurd rfl h9) id
    simp only [upd, this, if_false]
    exact h
  · rw [if_neg q]
    exact h
theorem fc_B {s s2 : Sto} {k i k' i' : Nat} {x v : Int32} (h : s.1 k' i' = v) (e : s2 = sB s k i x) (hne : k' ≠ k ∨ i' ≠ i) : s2.1 k' i' = v := fc_ne h e hne
theorem fc_L {s s2 : Sto} {k i k' i' : Nat} {x : Int64} {v : Int32} (h : s.1 k' i' = v) (e : s2 = sL s k i x) : s2.1 k' i' = v := by subst e; exact h
theorem fc_C {s s2 : Sto} {k0 k sp dp n k' i' : Nat} {v : Int32} (h : s.1 k' i' = v) (e : s2 = sC s k0 k sp dp n) (hne : k' ≠ k) : s2.1 k' i' = v := by
  subst e
  show (if k' = k then _ else s.1 k') i' = v
  rw [if_neg hne]
  exact h
theorem fc_F {M : Nat → Prop} {s s2 : Sto} {k i : Nat} {v : Int32} (h : s.1 k i = v) (hF : frm M s s2) (hM : ¬ M k) : s2.1 k i = v := by
  rw [hF k hM]
  exact h
theorem cl_of {x : Int32} {n b : Nat} (h : x = nI n) (hb : n < b) (h31 : b ≤ 2 ^ 31) : ∃ z : Nat, z = x.toNatClampNeg ∧ x = nI z ∧ z = n := ⟨n, by rw [h, nI_clamp (by omega)], h, rfl⟩
abbrev TyN : Type := Nat → Option Nat
def NSL : List NS := [(5, 0, [(3, 1), (0, 0), (3, 2), (0, 0), (3, 3), (0, 0), (3, 4), (3, 8), (3, 12), (3, 24), (3, 39)]), (1, 16384, []), (1, 8192, []), (8, 8, []), (6, 3, [(0, 5)]), (5, 1, [(1, 2), (1, 3), (1, 10), (1, 4), (1, 800), (1, 1632), (1, 768), (1, 768), (1, 1568), (1, 1600)]), (5, 1, [(1, 3), (1, 2), (1, 10), (1, 4), (1, 1184), (1, 2400), (1, 1088), (1, 1152), (1, 2336), (1, 2368)]), (5, 1, [(1, 4), (1, 2), (1, 11), (1, 5), (1, 1568), (1, 3168), (1, 1568), (1, 1536), (1, 3104), (1, 3136)]), (7, 3, [(0, 9)]), (5, 2, [(1, 4), (1, 4), (1, 2), (1, 3), (1, 39), (1, 32), (1, 18), (1, 131072), (1, 44), (1, 6), (1, 95232), (1, 80), (1, 78), (1, 1312), (1, 2560), (1, 2336), (1, 2420)]), (5, 2, [(1, 6), (1, 5), (1, 4), (1, 4), (1, 49), (1, 48), (1, 20), (1, 524288), (1, 16), (1, 4), (1, 261888), (1, 55), (1, 196), (1, 1952), (1, 4032), (1, 3248), (1, 3309)]), (5, 2, [(1, 8), (1, 7), (1, 2), (1, 3), (1, 60), (1, 64), (1, 20), (1, 524288), (1, 16), (1, 4), (1, 261888), (1, 75), (1, 120), (1, 2592), (1, 4896), (1, 4544), (1, 4627)]), (5, 3, [(3, 13), (0, 0), (0, 0), (0, 0)]), (2, 25, []), (5, 3, [(3, 15), (0, 0), (0, 0), (0, 0)]), (2, 25, []), (5, 3, [(3, 17), (0, 0), (0, 0), (0, 0)]), (2, 25, []), (5, 3, [(3, 19), (0, 0), (0, 0), (0, 0)]), (2, 25, []), (5, 4, [(1, 3329), (1, 7), (1, 3303), (3, 21)]), (11, 128, [(0, 1)]), (5, 4, [(1, 8380417), (1, 8), (1, 8347681), (3, 23)]), (11, 256, [(0, 2)]), (5, 5, [(3, 14), (3, 20), (3, 25), (3, 30), (3, 31), (3, 32), (3, 33), (3, 34), (3, 35), (3, 36)]), (3, 4, [(0, 26)]), (0, 256, []), (0, 256, []), (0, 256, []), (0, 256, []), (0, 256, []), (0, 256, []), (1, 32, []), (1, 32, []), (1, 64, []), (1, 192, []), (1, 1568, []), (5, 7, [(3, 18), (3, 38)]), (1, 640, []), (5, 6, [(3, 16), (3, 22), (3, 37), (3, 40), (3, 97), (3, 105), (3, 114), (3, 123), (3, 131), (3, 140), (3, 141), (3, 142), (3, 143), (3, 144), (3, 145), (3, 146), (3, 147)]), (3, 56, [(0, 41)]), (0, 256, []), (0, 256, []), (0, 256, []), (0, 256, []), (0, 256, []), (0, 256, []), (0, 256, []), (0, 256, []), (0, 256, []), (0, 256, []), (0, 256, []), (0, 256, []), (0, 256, []), (0, 256, []), (0, 256, []), (0, 256, []), (0, 256, []), (0, 256, []), (0, 256, []), (0, 256, []), (0, 256, []), (0, 256, []), (0, 256, []), (0, 256, []), (0, 256, []), (0, 256, []), (0, 256, []), (0, 256, []), (0, 256, []), (0, 256, []), (0, 256, []), (0, 256, []), (0, 256, []), (0, 256, []), (0, 256, []), (0, 256, []), (0, 256, []), (0, 256, []), (0, 256, []), (0, 256, []), (0, 256, []), (0, 256, []), (0, 256, []), (0, 256, []), (0, 256, []), (0, 256, []), (0, 256, []), (0, 256, []), (0, 256, []), (0, 256, []), (0, 256, []), (0, 256, []), (0, 256, []), (0, 256, []), (0, 256, []), (0, 256, []), (3, 7, [(0, 98)]), (0, 256, []), (0, 256, []), (0, 256, []), (0, 256, []), (0, 256, []), (0, 256, []), (0, 256, []), (3, 8, [(0, 106)]), (0, 256, []), (0, 256, []), (0, 256, []), (0, 256, []), (0, 256, []), (0, 256, []), (0, 256, []), (0, 256, []), (3, 8, [(0, 115)]), (0, 256, []), (0, 256, []), (0, 256, []), (0, 256, []), (0, 256, []), (0, 256, []), (0, 256, []), (0, 256, []), (3, 7, [(0, 124)]), (0, 256, []), (0, 256, []), (0, 256, []), (0, 256, []), (0, 256, []), (0, 256, []), (0, 256, []), (3, 8, [(0, 132)]), (0, 256, []), (0, 256, []), (0, 256, []), (0, 256, []), (0, 256, []), (0, 256, []), (0, 256, []), (0, 256, []), (0, 256, []), (0, 256, []), (1, 128, []), (1, 64, []), (1, 64, []), (1, 64, []), (1, 84, []), (1, 192, []), (5, 8, [(0, 0), (0, 0), (0, 0), (0, 0), (3, 149), (3, 150), (3, 151), (3, 152), (3, 161), (3, 170), (3, 171), (3, 172), (3, 184), (3, 225)]), (1, 16384, []), (1, 8192, []), (1, 8192, []), (4, 8, [(0, 153)]), (1, 2592, []), (1, 2592, []), (1, 2592, []), (1, 2592, []), (1, 2592, []), (1, 2592, []), (1, 2592, []), (1, 2592, []), (4, 8, [(0, 162)]), (1, 4896, []), (1, 4896, []), (1, 4896, []), (1, 4896, []), (1, 4896, []), (1, 4896, []), (1, 4896, []), (1, 4896, []), (0, 8, []), (0, 8, []), (5, 9, [(3, 173), (3, 174), (3, 175), (3, 176), (3, 177), (0, 0), (0, 0), (0, 0)]), (2, 25, []), (10, 25, []), (10, 5, []), (12, 24, [(0, 0)]), (11, 25, [(0, 0)]), (5, 10, [(1, 3329), (1, 128), (3, 179), (3, 180), (4, 3303)]), (12, 256, [(0, 1)]), (11, 128, [(0, 3)]), (5, 10, [(1, 8380417), (1, 256), (3, 182), (3, 183), (4, 8347681)]), (12, 512, [(0, 2)]), (11, 256, [(0, 4)]), (5, 11, [(3, 172), (3, 178), (3, 185), (3, 202), (3, 207), (3, 212), (3, 217), (3, 218), (3, 219), (3, 220), (3, 221), (3, 222), (3, 223), (3, 224)]), (3, 16, [(0, 186)]), (0, 256, []), (0, 256, []), (0, 256, []), (0, 256, []), (0, 256, []), (0, 256, []), (0, 256, []), (0, 256, []), (0, 256, []), (0, 256, []), (0, 256, []), (0, 256, []), (0, 256, []), (0, 256, []), (0, 256, []), (0, 256, []), (3, 4, [(0, 203)]), (0, 256, []), (0, 256, []), (0, 256, []), (0, 256, []), (3, 4, [(0, 208)]), (0, 256, []), (0, 256, []), (0, 256, []), (0, 256, []), (3, 4, [(0, 213)]), (0, 256, []), (0, 256, []), (0, 256, []), (0, 256, []), (0, 256, []), (0, 256, []), (0, 256, []), (1, 64, []), (1, 192, []), (1, 32, []), (1, 32, []), (1, 1568, []), (5, 12, [(3, 172), (3, 181), (3, 226), (3, 291), (3, 299), (3, 308), (3, 317), (3, 326), (3, 334), (3, 342), (3, 350), (3, 359), (3, 368), (3, 369), (3, 370), (3, 371), (3, 372), (3, 373), (3, 374), (3, 375), (3, 376), (3, 377), (3, 378), (0, 0), (0, 0), (0, 0), (0, 0), (0, 0), (0, 0), (0, 0), (0, 0)]), (3, 64, [(0, 227)]), (0, 256, []), (0, 256, []), (0, 256, []), (0, 256, []), (0, 256, []), (0, 256, []), (0, 256, []), (0, 256, []), (0, 256, []), (0, 256, []), (0, 256, []), (0, 256, []), (0, 256, []), (0, 256, []), (0, 256, []), (0, 256, []), (0, 256, []), (0, 256, []), (0, 256, []), (0, 256, []), (0, 256, []), (0, 256, []), (0, 256, []), (0, 256, []), (0, 256, []), (0, 256, []), (0, 256, []), (0, 256, []), (0, 256, []), (0, 256, []), (0, 256, []), (0, 256, []), (0, 256, []), (0, 256, []), (0, 256, []), (0, 256, []), (0, 256, []), (0, 256, []), (0, 256, []), (0, 256, []), (0, 256, []), (0, 256, []), (0, 256, []), (0, 256, []), (0, 256, []), (0, 256, []), (0, 256, []), (0, 256, []), (0, 256, []), (0, 256, []), (0, 256, []), (0, 256, []), (0, 256, []), (0, 256, []), (0, 256, []), (0, 256, []), (0, 256, []), (0, 256, []), (0, 256, []), (0, 256, []), (0, 256, []), (0, 256, []), (0, 256, []), (0, 256, []), (3, 7, [(0, 292)]), (0, 256, []), (0, 256, []), (0, 256, []), (0, 256, []), (0, 256, []), (0, 256, []), (0, 256, []), (3, 8, [(0, 300)]), (0, 256, []), (0, 256, []), (0, 256, []), (0, 256, []), (0, 256, []), (0, 256, []), (0, 256, []), (0, 256, []), (3, 8, [(0, 309)]), (0, 256, []), (0, 256, []), (0, 256, []), (0, 256, []), (0, 256, []), (0, 256, []), (0, 256, []), (0, 256, []), (3, 8, [(0, 318)]), (0, 256, []), (0, 256, []), (0, 256, []), (0, 256, []), (0, 256, []), (0, 256, []), (0, 256, []), (0, 256, []), (3, 7, [(0, 327)]), (0, 256, []), (0, 256, []), (0, 256, []), (0, 256, []), (0, 256, []), (0, 256, []), (0, 256, []), (3, 7, [(0, 335)]), (0, 256, []), (0, 256, []), (0, 256, []), (0, 256, []), (0, 256, []), (0, 256, []), (0, 256, []), (3, 7, [(0, 343)]), (0, 256, []), (0, 256, []), (0, 256, []), (0, 256, []), (0, 256, []), (0, 256, []), (0, 256, []), (3, 8, [(0, 351)]), (0, 256, []), (0, 256, []), (0, 256, []), (0, 256, []), (0, 256, []), (0, 256, []), (0, 256, []), (0, 256, []), (3, 8, [(0, 360)]), (0, 256, []), (0, 256, []), (0, 256, []), (0, 256, []), (0, 256, []), (0, 256, []), (0, 256, []), (0, 256, []), (0, 256, []), (0, 256, []), (0, 256, []), (2, 256, []), (1, 128, []), (1, 64, []), (1, 64, []), (1, 640, []), (1, 64, []), (1, 64, []), (1, 64, [])]
def nsp (k : Nat) : NS := NSL.getD k (9, 0, [])
/-- a field by its code: 0 an int of the store, 1 the number p, 2 a long of the store, 3 the cell of that name, 4 the long p -/
def nfd (T : TyN) (fi : Nat → Int32) (fl : Nat → Int64) (j : Nat) (c : Nat × Nat) (v : Value) : Prop := match c.1 with
  | 0 => v = .int (fi j)
  | 1 => v = .int (nI c.2)
  | 2 => v = .long (fl j)
  | 3 => ∃ r : Nat, v = .ref r ∧ T r = some c.2
  | _ => v = .long (Int64.ofNat c.2)
def nfitS (g : Gd) (T : TyN) (fi : Nat → Int32) (fl : Nat → Int64) (q : NS) (e : va_E) : Prop := match q.1 with
  | 0 => ∃ f : Nat → Int32, e = .inl (g.2.1 0, q.2.1, .inl f) ∧ ∀ j, j < q.2.1 → f j = fi j
  | 1 => ∃ f : Nat → Int32, e = .inl (g.2.1 1, q.2.1, .inl f) ∧ (∀ j, j < q.2.1 → f j = fi j) ∧ byt f
  | 2 => ∃ f : Nat → Int64, e = .inl (g.2.1 2, q.2.1, .inr (.inl f)) ∧ ∀ j, j < q.2.1 → f j = fl j
  | 3 => ∃ f : Nat → Option Nat, e = .inl (g.2.1 6, q.2.1, .inr (.inr (.inr (.inr f)))) ∧ ∀ j, j < q.2.1 → ∃ r, f j = some r ∧ T r = some ((q.2.2.getD 0 (0, 0)).2 + j)
  | 4 => ∃ f : Nat → Option Nat, e = .inl (g.2.1 7, q.2.1, .inr (.inr (.inr (.inr f)))) ∧ ∀ j, j < q.2.1 → ∃ r, f j = some r ∧ T r = some ((q.2.2.getD 0 (0, 0)).2 + j)
  | 5 => ∃ fs : List Value, e = .inr (q.2.1, fs) ∧ fs.length = q.2.2.length ∧ ∀ (j : Nat) (c : Nat × Nat), q.2.2[j]? = some c → ∃ v, fs[j]? = some v ∧ nfd T fi fl j c v
  | 6 => ∃ f : Nat → Option Nat, e = .inl (g.2.1 3, q.2.1, .inr (.inr (.inr (.inr f)))) ∧ ∀ j, j < q.2.1 → ∃ r, f j = some r ∧ T r = some ((q.2.2.getD 0 (0, 0)).2 + j)
  | 7 => ∃ f : Nat → Option Nat, e = .inl (g.2.1 4, q.2.1, .inr (.inr (.inr (.inr f)))) ∧ ∀ j, j < q.2.1 → ∃ r, f j = some r ∧ T r = some ((q.2.2.getD 0 (0, 0)).2 + j)
  | 10 => ∃ f : Nat → Int64, e = .inl (g.2.1 2, q.2.1, .inr (.inl f))
  | 11 => ∃ f : Nat → Int32, e = .inl (g.2.1 0, q.2.1, .inl f) ∧ ∀ j, j < q.2.1 → f j = ctI (q.2.2.getD 0 (0, 0)).2 j
  | 12 => ∃ f : Nat → Int64, e = .inl (g.2.1 2, q.2.1, .inr (.inl f)) ∧ ∀ j, j < q.2.1 → f j = ctL (q.2.2.getD 0 (0, 0)).2 j
  | _ => True
def nfit (g : Gd) (T : TyN) (s : Sto) (k : Nat) (e : va_E) : Prop := nfitS g T (s.1 k) (s.2 k) (nsp k) e
def okn (g : Gd) (T : TyN) (s : Sto) (pl : va_W) : Prop := ∀ (a k : Nat), T a = some k → ∃ (i : Nat) (e : va_E), pl[i]? = some (a, e) ∧ nfit g T s k e
def inj (T : TyN) : Prop := ∀ (a b k : Nat), T a = some k → T b = some k → a = b
theorem nfit_of {g : Gd} {T : TyN} {s : Sto} {k : Nat} {e : va_E} {q : NS} (h : nfit g T s k e) (hk : nsp k = q) : nfitS g T (s.1 k) (s.2 k) q e := by
  rw [← hk]
  exact h
theorem nfit_mk {g : Gd} {T : TyN} {s : Sto} {k : Nat} {e : va_E} {q : NS} (hk : nsp k = q) (h : nfitS g T (s.1 k) (s.2 k) q e) : nfit g T s k e := by
  rw [← hk] at h
  exact h
theorem okn_set {g : Gd} {T : TyN} {s s' : Sto} {pl : va_W} (hO : okn g T s pl) (hU : inj T) {a k i : Nat} {e e' : va_E} (ka : T a = some k) (hi : pl[i]? = some (a, e)) (he : nfit g T s' k e') (h1 : ∀ k', k' ≠ k → s'.1 k' = s.1 k') (h2 : ∀ k', k' ≠ k → s'.2 k' = s.2 k') : okn g T s' (pl.set i (a, e')) := by
  intro b kb hb
  have hl := (List.getElem?_eq_some_iff.mp hi).1
  by_cases hba : b = a
  · subst hba
    have hk : kb = k := Option.some.inj (hb.symm.trans ka)
    subst hk
    exact ⟨i, e', List.getElem?_set_self hl, he⟩
  · have hne : kb ≠ k := fun q => hba (hU b a k (by rw [← q]; exact hb) ka)
    obtain ⟨j, e1, h3, h4⟩ := hO b kb hb
    refine ⟨j, e1, ?_, ?_⟩
    · rw [List.getElem?_set_ne]
      · exact h3
      · intro hij
        subst hij
        exact hba (congrArg Prod.fst (Option.some.inj (h3.symm.trans hi)))
    · unfold nfit
      rw [h1 kb hne, h2 kb hne]
      exact h4
theorem rows_ok (b n : Nat) (h : (List.range n).all (fun i => decide (nsp (b + i) = (0, 256, []))) = true) (i : Nat) (hi : i < n) : nsp (b + i) = (0, 256, []) :=
  of_decide_eq_true (List.all_eq_true.mp h i (List.mem_range.mpr hi))
theorem uA_ne {s : Nat → Nat → Int32} {k k' : Nat} {f : Nat → Int32} (h : k' ≠ k) : uA s k f k' = s k' := if_neg h
theorem uA_eq {s : Nat → Nat → Int32} {k : Nat} {f : Nat → Int32} : uA s k f k = f := if_pos rfl
theorem uL_ne {s : Nat → Nat → Int64} {k k' : Nat} {f : Nat → Int64} (h : k' ≠ k) : uL s k f k' = s k' := if_neg h
theorem uL_eq {s : Nat → Nat → Int64} {k : Nat} {f : Nat → Int64} : uL s k f k = f := if_pos rfl
theorem up_cg {f g : Nat → Int32} {n i : Nat} {x : Int32} (h : ∀ j, j < n → f j = g j) : ∀ j, j < n → upd f i x j = upd g i x j := fun j hj => by
  by_cases q : j = i
  · simp [upd, q]
  · simp only [upd, q, if_false]; exact h j hj
theorem upL_cg {f g : Nat → Int64} {n i : Nat} {x : Int64} (h : ∀ j, j < n → f j = g j) : ∀ j, j < n → vp_updL f i x j = vp_updL g i x j := fun j hj => by
  by_cases q : j = i
  · simp [vp_updL, q]
  · simp only [vp_updL, q, if_false]; exact h j hj
theorem and_cl (x : Int32) {y : Nat} (k0 : Nat) (hm : (nI y).toBitVec.toNat = 2 ^ k0 - 1) (h31 : k0 ≤ 31) : x &&& nI y = nI (x &&& nI y).toNatClampNeg ∧ (x &&& nI y).toNatClampNeg < 2 ^ k0 := by
  obtain ⟨j, hj, ej⟩ := pk_andE x (m := nI y) k0 hm
  have h2 : 2 ^ k0 ≤ 2 ^ 31 := Nat.pow_le_pow_right (by decide) h31
  rw [ej, nI_clamp (by omega)]
  exact ⟨rfl, hj⟩
section RowsN
variable {p : Program} {l : Launch} {e : Env} {R : Room} {s : State} {m : MethodId} {args : Array Value} {below : List Frame} {meth : Method} {c : Code} {H : Heap} {locs : List Loc} {cells slots : Nat} {Q : State → Prop}
variable {cc : ByteArray} {pc : Nat} {ls : Array Slot} {rest st0 : List Value} {g : Gd} {A : Nat → Prop} {a a0 : Nat} {X pl : va_W} {H0 : Heap} {T : TyN} {σ : Sto}
theorem nw_iald (hexec : p.tables.exec = Jvm.exec) (hb : c.code = cc) (hK : va_K g.1 vcl (tyA g.2.1) s) (hO : okn g T σ pl) {k n : Nat} {fl : List (Nat × Nat)} (ka : T a = some k) (hk : nsp k = (0, n, fl)) (hP : va_P g.1 vcl (X ++ pl) H) {i : Nat} (hi : i < n) (hn : n < 2 ^ 31) (hdg : decode cc pc = .ok (.iaload, 1))
    (kk : W p l e R s m args below meth c H locs cells slots Q (F0 m (pc + 1) ls (.int (σ.1 k i) :: rest))) : W p l e R s m args below meth c H locs cells slots Q (F0 m pc ls (.int (nI i) :: .ref a :: rest)) := by
  obtain ⟨i0, e0, h1, h2⟩ := hO a k ka
  obtain ⟨f, rfl, hf⟩ := nfit_of h2 hk
  refine va_iald hexec hb hK hP (X.length + i0) 0 (pl_at h1) rfl (vp_in_nI hi hn) hdg ?_
  rw [nI_clamp (by omega), hf i hi]
  exact kk
theorem nw_bald (hexec : p.tables.exec = Jvm.exec) (hb : c.code = cc) (hK : va_K g.1 vcl (tyA g.2.1) s) (hO : okn g T σ pl) {k n : Nat} {fl : List (Nat × Nat)} (ka : T a = some k) (hk : nsp k = (1, n, fl)) (hP : va_P g.1 vcl (X ++ pl) H) {i : Nat} (hi : i < n) (hn : n < 2 ^ 31) (hdg : decode cc pc = .ok (.baload, 1))
    (kk : W p l e R s m args below meth c H locs cells slots Q (F0 m (pc + 1) ls (.int (σ.1 k i) :: rest))) : W p l e R s m args below meth c H locs cells slots Q (F0 m pc ls (.int (nI i) :: .ref a :: rest)) := by
  obtain ⟨i0, e0, h1, h2⟩ := hO a k ka
  obtain ⟨f, rfl, hf, -⟩ := nfit_of h2 hk
  refine va_bald hexec hb hK hP (X.length + i0) 1 (pl_at h1) rfl (vp_in_nI hi hn) hdg ?_
  rw [nI_clamp (by omega), hf i hi]
  exact kk
theorem nw_lald (hexec : p.tables.exec = Jvm.exec) (hb : c.code = cc) (hK : va_K g.1 vcl (tyA g.2.1) s) (hO : okn g T σ pl) {k n : Nat} {fl : List (Nat × Nat)} (ka : T a = some k) (hk : nsp k = (2, n, fl)) (hP : va_P g.1 vcl (X ++ pl) H) {i : Nat} (hi : i < n) (hn : n < 2 ^ 31) (hdg : decode cc pc = .ok (.laload, 1))
    (kk : W p l e R s m args below meth c H locs cells slots Q (F0 m (pc + 1) ls (.long (σ.2 k i) :: rest))) : W p l e R s m args below meth c H locs cells slots Q (F0 m pc ls (.int (nI i) :: .ref a :: rest)) := by
  obtain ⟨i0, e0, h1, h2⟩ := hO a k ka
  obtain ⟨f, rfl, hf⟩ := nfit_of h2 hk
  refine va_lald hexec hb hK hP (X.length + i0) 2 (pl_at h1) rfl (vp_in_nI hi hn) hdg ?_
  rw [nI_clamp (by omega), hf i hi]
  exact kk
theorem nw_ialdT (hexec : p.tables.exec = Jvm.exec) (hb : c.code = cc) (hK : va_K g.1 vcl (tyA g.2.1) s) (hO : okn g T σ pl) {k n d : Nat} (ka : T a = some k) (hk : nsp k = (11, n, [(0, d)])) (hP : va_P g.1 vcl (X ++ pl) H) {i : Nat} (hi : i < n) (hn : n < 2 ^ 31) (hdg : decode cc pc = .ok (.iaload, 1))
    (kk : W p l e R s m args below meth c H locs cells slots Q (F0 m (pc + 1) ls (.int (ctI d i) :: rest))) : W p l e R s m args below meth c H locs cells slots Q (F0 m pc ls (.int (nI i) :: .ref a :: rest)) := by
  obtain ⟨i0, e0, h1, h2⟩ := hO a k ka
  obtain ⟨f, rfl, hf⟩ := nfit_of h2 hk
  refine va_iald hexec hb hK hP (X.length + i0) 0 (pl_at h1) rfl (vp_in_nI hi hn) hdg ?_
  rw [nI_clamp (by omega), hf i hi]
  exact kk
theorem nw_laldT (hexec : p.tables.exec = Jvm.exec) (hb : c.code = cc) (hK : va_K g.1 vcl (tyA g.2.1) s) (hO : okn g T σ pl) {k n d : Nat} (ka : T a = some k) (hk : nsp k = (12, n, [(0, d)])) (hP : va_P g.1 vcl (X ++ pl) H) {i : Nat} (hi : i < n) (hn : n < 2 ^ 31) (hdg : decode cc pc = .ok (.laload, 1))
    (kk : W p l e R s m args below meth c H locs cells slots Q (F0 m (pc + 1) ls (.long (ctL d i) :: rest))) : W p l e R s m args below meth c H locs cells slots Q (F0 m pc ls (.int (nI i) :: .ref a :: rest)) := by
  obtain ⟨i0, e0, h1, h2⟩ := hO a k ka
  obtain ⟨f, rfl, hf⟩ := nfit_of h2 hk
  refine va_lald hexec hb hK hP (X.length + i0) 2 (pl_at h1) rfl (vp_in_nI hi hn) hdg ?_
  rw [nI_clamp (by omega), hf i hi]
  exact kk
theorem nw_iast (hexec : p.tables.exec = Jvm.exec) (hb : c.code = cc) (hK : va_K g.1 vcl (tyA g.2.1) s) (hO : okn g T σ pl) (hU : inj T) {k n : Nat} {fl : List (Nat × Nat)} (ka : T a = some k) (hk : nsp k = (0, n, fl)) (hP : va_P g.1 vcl (X ++ pl) H) (hD : va_D A (X ++ pl)) (hS : va_S A H0 H locs) {i : Nat} {x : Int32} (hi : i < n) (hn : n < 2 ^ 31) (hdg : decode cc pc = .ok (.iastore, 1))
    (kk : ∀ (σ1 : Sto) (pl : va_W) (H1 : Heap) (locs1 : List Loc), σ1 = sI σ k i x → okn g T σ1 pl → va_P g.1 vcl (X ++ pl) H1 → va_D A (X ++ pl) → va_S A H0 H1 locs1 → W p l e R s m args below meth c H1 locs1 cells slots Q (F0 m (pc + 1) ls rest)) : W p l e R s m args below meth c H locs cells slots Q (F0 m pc ls (.int x :: .int (nI i) :: .ref a :: rest)) := by
  obtain ⟨i0, e0, h1, h2⟩ := hO a k ka
  obtain ⟨f, rfl, hf⟩ := nfit_of h2 hk
  refine va_iast hexec hb hK hP hD hS (X.length + i0) 0 (pl_at h1) rfl (vp_in_nI hi hn) hdg (fun H1 locs1 h3 h4 h5 => ?_)
  rw [pl_set, nI_clamp (by omega)] at h3 h4
  refine kk _ _ H1 locs1 rfl (okn_set hO hU ka h1 (nfit_mk hk ⟨_, rfl, ?_⟩) (fun _ h => uA_ne h) (fun _ _ => rfl)) h3 h4 h5
  show ∀ j, j < n → _ = uA σ.1 k _ k j
  rw [uA_eq]
  exact up_cg hf
theorem nw_bast (hexec : p.tables.exec = Jvm.exec) (hb : c.code = cc) (hK : va_K g.1 vcl (tyA g.2.1) s) (hO : okn g T σ pl) (hU : inj T) {k n : Nat} {fl : List (Nat × Nat)} (ka : T a = some k) (hk : nsp k = (1, n, fl)) (hP : va_P g.1 vcl (X ++ pl) H) (hD : va_D A (X ++ pl)) (hS : va_S A H0 H locs) {i : Nat} {x : Int32} (hi : i < n) (hn : n < 2 ^ 31) (hdg : decode cc pc = .ok (.bastore, 1))
    (kk : ∀ (σ1 : Sto) (pl : va_W) (H1 : Heap) (locs1 : List Loc), σ1 = sB σ k i x → okn g T σ1 pl → va_P g.1 vcl (X ++ pl) H1 → va_D A (X ++ pl) → va_S A H0 H1 locs1 → W p l e R s m args below meth c H1 locs1 cells slots Q (F0 m (pc + 1) ls rest)) : W p l e R s m args below meth c H locs cells slots Q (F0 m pc ls (.int x :: .int (nI i) :: .ref a :: rest)) := by
  obtain ⟨i0, e0, h1, h2⟩ := hO a k ka
  obtain ⟨f, rfl, hf, hby⟩ := nfit_of h2 hk
  refine va_bast hexec hb hK hP hD hS (X.length + i0) 1 (pl_at h1) rfl (vp_in_nI hi hn) hdg (fun H1 locs1 h3 h4 h5 => ?_)
  rw [pl_set, nI_clamp (by omega)] at h3 h4
  refine kk _ _ H1 locs1 rfl (okn_set hO hU ka h1 (nfit_mk hk ⟨_, rfl, ?_, byt_upd hby _ _⟩) (fun _ h => uA_ne h) (fun _ _ => rfl)) h3 h4 h5
  show ∀ j, j < n → _ = uA σ.1 k _ k j
  rw [uA_eq]
  exact up_cg hf
theorem nw_last (hexec : p.tables.exec = Jvm.exec) (hb : c.code = cc) (hK : va_K g.1 vcl (tyA g.2.1) s) (hO : okn g T σ pl) (hU : inj T) {k n : Nat} {fl : List (Nat × Nat)} (ka : T a = some k) (hk : nsp k = (2, n, fl)) (hP : va_P g.1 vcl (X ++ pl) H) (hD : va_D A (X ++ pl)) (hS : va_S A H0 H locs) {i : Nat} {x : Int64} (hi : i < n) (hn : n < 2 ^ 31) (hdg : decode cc pc = .ok (.lastore, 1))
    (kk : ∀ (σ1 : Sto) (pl : va_W) (H1 : Heap) (locs1 : List Loc), σ1 = sL σ k i x → okn g T σ1 pl → va_P g.1 vcl (X ++ pl) H1 → va_D A (X ++ pl) → va_S A H0 H1 locs1 → W p l e R s m args below meth c H1 locs1 cells slots Q (F0 m (pc + 1) ls rest)) : W p l e R s m args below meth c H locs cells slots Q (F0 m pc ls (.long x :: .int (nI i) :: .ref a :: rest)) := by
  obtain ⟨i0, e0, h1, h2⟩ := hO a k ka
  obtain ⟨f, rfl, hf⟩ := nfit_of h2 hk
  refine va_last hexec hb hK hP hD hS (X.length + i0) 2 (pl_at h1) rfl (vp_in_nI hi hn) hdg (fun H1 locs1 h3 h4 h5 => ?_)
  rw [pl_set, nI_clamp (by omega)] at h3 h4
  refine kk _ _ H1 locs1 rfl (okn_set hO hU ka h1 (nfit_mk hk ⟨_, rfl, ?_⟩) (fun _ _ => rfl) (fun _ h => uL_ne h)) h3 h4 h5
  show ∀ j, j < n → _ = uL σ.2 k _ k j
  rw [uL_eq]
  exact upL_cg hf
theorem nw_aald3 (hexec : p.tables.exec = Jvm.exec) (hb : c.code = cc) (hK : va_K g.1 vcl (tyA g.2.1) s) (hO : okn g T σ pl) {k n b : Nat} (ka : T a = some k) (hk : nsp k = (3, n, [(0, b)])) (hP : va_P g.1 vcl (X ++ pl) H) {i : Nat} (hi : i < n) (hn : n < 2 ^ 31) (hdg : decode cc pc = .ok (.aaload, 1))
    (kk : ∀ r : Nat, T r = some (b + i) → W p l e R s m args below meth c H locs cells slots Q (F0 m (pc + 1) ls (.ref r :: rest))) : W p l e R s m args below meth c H locs cells slots Q (F0 m pc ls (.int (nI i) :: .ref a :: rest)) := by
  obtain ⟨i0, e0, h1, h2⟩ := hO a k ka
  obtain ⟨f, rfl, hf⟩ := nfit_of h2 hk
  obtain ⟨r, er, hr⟩ := hf i hi
  have hc : (nI i).toNatClampNeg = i := nI_clamp (by omega)
  exact W.aald (v := .ref r) (ty := .array .int) hexec hb (hP _ _ (pl_at h1)) ((hK.2 6 _ rfl).1 n (fun j => va_rf (f j))) rfl (fun q => by cases q) (by show ¬ (nI i < 0 ∨ (arrV _ _ _).slots.size ≤ _); rw [arrV_size]; exact vp_in_nI hi hn) (by show (arrV _ _ _).slots[_]? = _; rw [hc, arrV_read _ _ hi, er]; rfl) rfl rfl hdg (kk r hr)
theorem nw_alen0 (hexec : p.tables.exec = Jvm.exec) (hb : c.code = cc) (hK : va_K g.1 vcl (tyA g.2.1) s) (hO : okn g T σ pl) {k n : Nat} {fl : List (Nat × Nat)} (ka : T a = some k) (hk : nsp k = (0, n, fl)) (hP : va_P g.1 vcl (X ++ pl) H) (hdg : decode cc pc = .ok (.arraylength, 1))
    (kk : W p l e R s m args below meth c H locs cells slots Q (F0 m (pc + 1) ls (.int (nI n) :: rest))) : W p l e R s m args below meth c H locs cells slots Q (F0 m pc ls (.ref a :: rest)) := by
  obtain ⟨i0, e0, h1, h2⟩ := hO a k ka
  obtain ⟨f, rfl, hf⟩ := nfit_of h2 hk
  exact va_alen hexec hb hK hP (X.length + i0) 0 (pl_at h1) rfl rfl hdg kk
theorem nw_alen1 (hexec : p.tables.exec = Jvm.exec) (hb : c.code = cc) (hK : va_K g.1 vcl (tyA g.2.1) s) (hO : okn g T σ pl) {k n : Nat} {fl : List (Nat × Nat)} (ka : T a = some k) (hk : nsp k = (1, n, fl)) (hP : va_P g.1 vcl (X ++ pl) H) (hdg : decode cc pc = .ok (.arraylength, 1))
    (kk : W p l e R s m args below meth c H locs cells slots Q (F0 m (pc + 1) ls (.int (nI n) :: rest))) : W p l e R s m args below meth c H locs cells slots Q (F0 m pc ls (.ref a :: rest)) := by
  obtain ⟨i0, e0, h1, h2⟩ := hO a k ka
  obtain ⟨f, rfl, hf, -⟩ := nfit_of h2 hk
  exact va_alen hexec hb hK hP (X.length + i0) 1 (pl_at h1) rfl rfl hdg kk
theorem nw_alen2 (hexec : p.tables.exec = Jvm.exec) (hb : c.code = cc) (hK : va_K g.1 vcl (tyA g.2.1) s) (hO : okn g T σ pl) {k n : Nat} {fl : List (Nat × Nat)} (ka : T a = some k) (hk : nsp k = (2, n, fl)) (hP : va_P g.1 vcl (X ++ pl) H) (hdg : decode cc pc = .ok (.arraylength, 1))
    (kk : W p l e R s m args below meth c H locs cells slots Q (F0 m (pc + 1) ls (.int (nI n) :: rest))) : W p l e R s m args below meth c H locs cells slots Q (F0 m pc ls (.ref a :: rest)) := by
  obtain ⟨i0, e0, h1, h2⟩ := hO a k ka
  obtain ⟨f, rfl, hf⟩ := nfit_of h2 hk
  exact va_alen hexec hb hK hP (X.length + i0) 2 (pl_at h1) rfl rfl hdg kk
theorem nw_obj (hO : okn g T σ pl) {k ci : Nat} {fl : List (Nat × Nat)} (ka : T a = some k) (hk : nsp k = (5, ci, fl)) : ∃ (q0 : Nat) (fs : List Value), pl[q0]? = some (a, .inr (ci, fs)) ∧ fs.length = fl.length ∧ ∀ (j : Nat) (c : Nat × Nat), fl[j]? = some c → ∃ v, fs[j]? = some v ∧ nfd T (σ.1 k) (σ.2 k) j c v := by
  obtain ⟨i0, e0, h1, h2⟩ := hO a k ka
  obtain ⟨fs, rfl, hn, hf⟩ := nfit_of h2 hk
  exact ⟨i0, fs, h1, hn, hf⟩
theorem nw_get (hexec : p.tables.exec = Jvm.exec) (hb : c.code = cc) {own ref C : String} {TT : u_T} {N ci index : Nat} {Ts : List Cond} (hts : ∀ w ∈ Ts, w.before args s = true) (hin : ∀ w ∈ u_ws C TT N, w ∈ Ts) (hown : s.vm.findClass own = some m.cls) (hK : va_K g.1 vcl (tyA g.2.1) s) (hO : okn g T σ pl) {kn : Nat} {fl : List (Nat × Nat)} (ka : T a = some kn) (hk : nsp kn = (5, ci, fl)) (hP : va_P g.1 vcl (X ++ pl) H) (hc : vcl[ci]? = some (C, TT, N)) (k : Nat) (hkN : k < N) (hlink : (Cond.fieldLink own index ref (TT k).2.1 (TT k).2.2.1).before args s = true) (hsame : ∀ x, s.fieldFound? (TT k).1 (TT k).2.1 (TT k).2.2.1 = some x → s.fieldFound? ref (TT k).2.1 (TT k).2.2.1 = some x) {cd : Nat × Nat} (hv : fl[k]? = some cd) (hdg : decode cc pc = .ok (.getfield index, 3))
    (kk : ∀ v, nfd T (σ.1 kn) (σ.2 kn) k cd v → W p l e R s m args below meth c H locs cells slots Q (F0 m (pc + 3) ls (v :: rest))) : W p l e R s m args below meth c H locs cells slots Q (F0 m pc ls (.ref a :: rest)) := by
  obtain ⟨q0, fs, h1, -, h2⟩ := nw_obj hO ka hk
  obtain ⟨v, h3, h4⟩ := h2 k cd hv
  exact va_get hexec hb hts hin hown hK hP (X.length + q0) (pl_at h1) hc k hkN hlink hsame h3 hdg (kk v h4)
theorem nw_put (hexec : p.tables.exec = Jvm.exec) (hb : c.code = cc) {own ref C : String} {TT : u_T} {N ci index : Nat} {Ts : List Cond} (hts : ∀ w ∈ Ts, w.before args s = true) (hin : ∀ w ∈ u_ws C TT N, w ∈ Ts) (ty0 : Nat → FieldType) (hty : ∀ k, k < N → parseFieldDescriptor (TT k).2.2.1 = some (ty0 k)) (hnm : ∀ a, a < N → ∀ b, b < N → a ≠ b → (TT a).2.1 ≠ (TT b).2.1) (hown : s.vm.findClass own = some m.cls) (hK : va_K g.1 vcl (tyA g.2.1) s) (hO : okn g T σ pl) (hU : inj T) {kn : Nat} {fl : List (Nat × Nat)} (ka : T a = some kn) (hk : nsp kn = (5, ci, fl)) (hP : va_P g.1 vcl (X ++ pl) H) (hD : va_D A (X ++ pl)) (hS : va_S A H0 H locs) (hc : vcl[ci]? = some (C, TT, N)) (k : Nat) (hkN : k < N) (hlink : (Cond.fieldLink own index ref (TT k).2.1 (TT k).2.2.1).before args s = true) (hsame : ∀ x, s.fieldFound? (TT k).1 (TT k).2.1 (TT k).2.2.1 = some x → s.fieldFound? ref (TT k).2.1 (TT k).2.2.1 = some x) (hfin : (TT k).2.2.2 = false) {x : Int32} (hd : parseFieldDescriptor (TT k).2.2.1 = some .int) {p0 : Nat} (hv : fl[k]? = some (0, p0)) (hdg : decode cc pc = .ok (.putfield index, 3))
    (kk : ∀ (σ1 : Sto) (pl : va_W) (H1 : Heap) (locs1 : List Loc), σ1 = sI σ kn k x → okn g T σ1 pl → va_P g.1 vcl (X ++ pl) H1 → va_D A (X ++ pl) → va_S A H0 H1 locs1 → W p l e R s m args below meth c H1 locs1 cells slots Q (F0 m (pc + 3) ls rest)) : W p l e R s m args below meth c H locs cells slots Q (F0 m pc ls (.int x :: .ref a :: rest)) := by
  obtain ⟨q0, fs, h1, hn, h2⟩ := nw_obj hO ka hk
  have hlt : k < fs.length := by rw [hn]; exact (List.getElem?_eq_some_iff.mp hv).1
  refine va_put hexec hb hts hin ty0 hty hnm hown hK hP hD hS (X.length + q0) (pl_at h1) hc k hkN hlink hsame hfin hd rfl rfl hlt hdg (fun H1 locs1 h3 h4 h5 => ?_)
  rw [pl_set] at h3 h4
  refine kk _ _ H1 locs1 rfl (okn_set hO hU ka h1 (nfit_mk hk ⟨_, rfl, by rw [List.length_set]; exact hn, fun j cj hj => ?_⟩) (fun _ h => uA_ne h) (fun _ _ => rfl)) h3 h4 h5
  show ∃ v, _ ∧ nfd T (uA σ.1 kn _ kn) _ j cj v
  rw [uA_eq]
  by_cases q : j = k
  · subst q
    have e : cj = (0, p0) := Option.some.inj (hj.symm.trans hv)
    subst e
    refine ⟨.int x, List.getElem?_set_self hlt, ?_⟩
    show Value.int x = .int (upd (σ.1 kn) j x j)
    simp [upd]
  · obtain ⟨v, h6, h7⟩ := h2 j cj hj
    refine ⟨v, by rw [List.getElem?_set_ne (Ne.symm q)]; exact h6, ?_⟩
    obtain ⟨c1, c2⟩ := cj
    match c1, h7 with
    | 0, h7 =>
      show v = .int (upd (σ.1 kn) k x j)
      simp only [upd, q, if_false]
      exact h7
    | 1, h7 => exact h7
    | 2, h7 => exact h7
    | 3, h7 => exact h7
    | _ + 4, h7 => exact h7
theorem mi_iandT (hexec : p.tables.exec = Jvm.exec) (hb : c.code = cc) {x : Int32} {y : Nat} (k0 : Nat) (hdg : decode cc pc = .ok (.iand, 1)) (hm : (nI y).toBitVec.toNat = 2 ^ k0 - 1) (h31 : k0 ≤ 31)
    (k : ∀ z : Nat, z = (x &&& nI y).toNatClampNeg → z < 2 ^ k0 → W p l e R s m args below meth c H locs cells slots Q (F0 m (pc + 1) ls (.int (nI z) :: rest))) : W p l e R s m args below meth c H locs cells slots Q (F0 m pc ls (.int (nI y) :: .int x :: rest)) :=
  lv_iand hexec hb hdg (mi_as (and_cl x k0 hm h31).1 (k _ rfl (and_cl x k0 hm h31).2))
theorem nw_copyi (hexec : p.tables.exec = Jvm.exec) (hb : c.code = cc) (hml : c.maxLocals = ls.size) {own : String} {index : Nat} (hown : s.vm.findClass own = some m.cls) (hlink : (Cond.methodLink own index arraycopyName).before args s = true) (hnat : (Cond.native arraycopyName).before args s = true) (hstat : (Cond.static arraycopyName).before args s = true) (hini : (Cond.initialized "java/lang/System").before args s = true)
    (hK : va_K g.1 vcl (tyA g.2.1) s) (hO : okn g T σ pl) (hU : inj T) {k0 k1 n0 n1 : Nat} {fl0 fl1 : List (Nat × Nat)} (ka0 : T a0 = some k0) (hk0 : nsp k0 = (0, n0, fl0)) (ka : T a = some k1) (hk1 : nsp k1 = (0, n1, fl1)) (hP : va_P g.1 vcl (X ++ pl) H) (hD : va_D A (X ++ pl)) (hS : va_S A H0 H locs) {sp dp n : Nat} (h4 : sp + n ≤ n0) (h5 : dp + n ≤ n1) (hbd : n0 < 2 ^ 31 ∧ n1 < 2 ^ 31) (hframes : 1 ≤ R.frames) (hlocals : (rest.map fun v => v.category).sum + (nativeFrameWords "java/lang/System" "arraycopy" 5 + 11) ≤ R.locals) (hdg : decode cc pc = .ok (.invokestatic index, 3))
    (kk : ∀ (σ1 : Sto) (pl : va_W) (H1 : Heap) (locs1 : List Loc), σ1 = sC σ k0 k1 sp dp n → okn g T σ1 pl → va_P g.1 vcl (X ++ pl) H1 → va_D A (X ++ pl) → va_S A H0 H1 locs1 → W p l e R s m args below meth c H1 locs1 cells slots Q (F0 m (pc + 3) ls rest)) : W p l e R s m args below meth c H locs cells slots Q (F0 m pc ls (.int (nI n) :: .int (nI dp) :: .ref a :: .int (nI sp) :: .ref a0 :: rest)) := by
  obtain ⟨j0, e0, h1, h1'⟩ := hO a0 k0 ka0
  obtain ⟨f0, rfl, hf0⟩ := nfit_of h1' hk0
  obtain ⟨j1, e1, h2, h2'⟩ := hO a k1 ka
  obtain ⟨f1, rfl, hf1⟩ := nfit_of h2' hk1
  have c1 : (nI sp).toNatClampNeg = sp := nI_clamp (by omega)
  have c2 : (nI dp).toNatClampNeg = dp := nI_clamp (by omega)
  have c3 : (nI n).toNatClampNeg = n := nI_clamp (by omega)
  refine va_copyi (ty := .int) hexec hb hml hown hlink hnat hstat hini hK hP hD hS (X.length + j0) (X.length + j1) 0 0 (pl_at h1) (pl_at h2) rfl rfl rfl (nI_pos (by omega)) (nI_pos (by omega)) (nI_pos (by omega)) (by rw [c1, c3]; exact h4) (by rw [c2, c3]; exact h5) (fun i _ => rfl) hframes hlocals hdg (fun H1 locs1 h6 h7 h8 => ?_)
  rw [pl_set, c1, c2, c3] at h6 h7
  refine kk _ _ H1 locs1 rfl (okn_set hO hU ka h2 (nfit_mk hk1 ⟨_, rfl, ?_⟩) (fun _ h => uA_ne h) (fun _ _ => rfl)) h6 h7 h8
  show ∀ j, j < n1 → _ = uA σ.1 k1 _ k1 j
  rw [uA_eq]
  intro j hj
  unfold va_cpy
  split
  · exact hf0 _ (show _ < n0 by omega)
  · exact hf1 j hj
theorem nw_copyb (hexec : p.tables.exec = Jvm.exec) (hb : c.code = cc) (hml : c.maxLocals = ls.size) {own : String} {index : Nat} (hown : s.vm.findClass own = some m.cls) (hlink : (Cond.methodLink own index arraycopyName).before args s = true) (hnat : (Cond.native arraycopyName).before args s = true) (hstat : (Cond.static arraycopyName).before args s = true) (hini : (Cond.initialized "java/lang/System").before args s = true)
    (hK : va_K g.1 vcl (tyA g.2.1) s) (hO : okn g T σ pl) (hU : inj T) {k0 k1 n0 n1 : Nat} {fl0 fl1 : List (Nat × Nat)} (ka0 : T a0 = some k0) (hk0 : nsp k0 = (1, n0, fl0)) (ka : T a = some k1) (hk1 : nsp k1 = (1, n1, fl1)) (hP : va_P g.1 vcl (X ++ pl) H) (hD : va_D A (X ++ pl)) (hS : va_S A H0 H locs) {sp dp n : Nat} (h4 : sp + n ≤ n0) (h5 : dp + n ≤ n1) (hbd : n0 < 2 ^ 31 ∧ n1 < 2 ^ 31) (hframes : 1 ≤ R.frames) (hlocals : (rest.map fun v => v.category).sum + (nativeFrameWords "java/lang/System" "arraycopy" 5 + 11) ≤ R.locals) (hdg : decode cc pc = .ok (.invokestatic index, 3))
    (kk : ∀ (σ1 : Sto) (pl : va_W) (H1 : Heap) (locs1 : List Loc), σ1 = sC σ k0 k1 sp dp n → okn g T σ1 pl → va_P g.1 vcl (X ++ pl) H1 → va_D A (X ++ pl) → va_S A H0 H1 locs1 → W p l e R s m args below meth c H1 locs1 cells slots Q (F0 m (pc + 3) ls rest)) : W p l e R s m args below meth c H locs cells slots Q (F0 m pc ls (.int (nI n) :: .int (nI dp) :: .ref a :: .int (nI sp) :: .ref a0 :: rest)) := by
  obtain ⟨j0, e0, h1, h1'⟩ := hO a0 k0 ka0
  obtain ⟨f0, rfl, hf0, hb0⟩ := nfit_of h1' hk0
  obtain ⟨j1, e1, h2, h2'⟩ := hO a k1 ka
  obtain ⟨f1, rfl, hf1, hb1⟩ := nfit_of h2' hk1
  have c1 : (nI sp).toNatClampNeg = sp := nI_clamp (by omega)
  have c2 : (nI dp).toNatClampNeg = dp := nI_clamp (by omega)
  have c3 : (nI n).toNatClampNeg = n := nI_clamp (by omega)
  refine va_copyi (ty := .byte) hexec hb hml hown hlink hnat hstat hini hK hP hD hS (X.length + j0) (X.length + j1) 1 1 (pl_at h1) (pl_at h2) rfl rfl rfl (nI_pos (by omega)) (nI_pos (by omega)) (nI_pos (by omega)) (by rw [c1, c3]; exact h4) (by rw [c2, c3]; exact h5) (fun i _ => hb0 _) hframes hlocals hdg (fun H1 locs1 h6 h7 h8 => ?_)
  rw [pl_set, c1, c2, c3] at h6 h7
  refine kk _ _ H1 locs1 rfl (okn_set hO hU ka h2 (nfit_mk hk1 ⟨_, rfl, ?_, byt_cpy hb0 hb1 _ _ _⟩) (fun _ h => uA_ne h) (fun _ _ => rfl)) h6 h7 h8
  show ∀ j, j < n1 → _ = uA σ.1 k1 _ k1 j
  rw [uA_eq]
  intro j hj
  unfold va_cpy
  split
  · exact hf0 _ (show _ < n0 by omega)
  · exact hf1 j hj
theorem pn_V {E : (Nat → Prop) → State → Heap → Prop} (hEo : EnvOk E) {As : List Value} {b ci kn : Nat} {fl : List (Nat × Nat)} {r : vw_C} {cx : va_W} {tys : List (ClassId × FieldType)} (hK : va_K g.1 vcl tys s) (hO : okn g T σ pl) (ka : T b = some kn) (hk : nsp kn = (5, ci, fl)) (hP : va_P g.1 vcl (X ++ pl) H) (hD : va_D A (X ++ pl)) (hS : va_S A s.heap H locs) (hA : ∀ q, s.heap.size ≤ q → A q) (hE : E A s s.heap) (isC : List Nat) (hC : isC.map (fun i => X[i]?) = cx.map some) (hn : va_nd isC = true) (hc : vcl[ci]? = some r) : PreV s H r.1 b (va_Pc (.ref b :: As) (pr E g.1 vcl H.size (cx ++ pl))) As := by
  obtain ⟨q0, fs, h1, -, -⟩ := nw_obj hO ka hk
  exact ⟨pr_blind hEo, va_recv hK hP hc (pl_at h1), pp_at hEo hP hD hS hA hE isC hC hn⟩
end RowsN
