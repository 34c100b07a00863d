/-! ===== small rows: places of a list, constants, more rules, the layout ===== -/
theorem lg0 {a0 : Value} {l : List Value} : (a0 :: l)[0]? = some a0 := rfl
theorem ls0 {a0 v : Value} {l : List Value} : List.set (a0 :: l) 0 v = v :: l := rfl
theorem lsl0 {a0 a1 v : Value} {l : List Value} : List.set (List.set (a0 :: a1 :: l) 0 v) (0 + 1) (.double 0) = v :: .double 0 :: l := rfl
theorem lg1 {a0 a1 : Value} {l : List Value} : (a0 :: a1 :: l)[1]? = some a1 := rfl
theorem ls1 {a0 a1 v : Value} {l : List Value} : List.set (a0 :: a1 :: l) 1 v = a0 :: v :: l := rfl
theorem lsl1 {a0 a1 a2 v : Value} {l : List Value} : List.set (List.set (a0 :: a1 :: a2 :: l) 1 v) (1 + 1) (.double 0) = a0 :: v :: .double 0 :: l := rfl
theorem lg2 {a0 a1 a2 : Value} {l : List Value} : (a0 :: a1 :: a2 :: l)[2]? = some a2 := rfl
theorem ls2 {a0 a1 a2 v : Value} {l : List Value} : List.set (a0 :: a1 :: a2 :: l) 2 v = a0 :: a1 :: v :: l := rfl
theorem lsl2 {a0 a1 a2 a3 v : Value} {l : List Value} : List.set (List.set (a0 :: a1 :: a2 :: a3 :: l) 2 v) (2 + 1) (.double 0) = a0 :: a1 :: v :: .double 0 :: l := rfl
theorem lg3 {a0 a1 a2 a3 : Value} {l : List Value} : (a0 :: a1 :: a2 :: a3 :: l)[3]? = some a3 := rfl
theorem ls3 {a0 a1 a2 a3 v : Value} {l : List Value} : List.set (a0 :: a1 :: a2 :: a3 :: l) 3 v = a0 :: a1 :: a2 :: v :: l := rfl
theorem lsl3 {a0 a1 a2 a3 a4 v : Value} {l : List Value} : List.set (List.set (a0 :: a1 :: a2 :: a3 :: a4 :: l) 3 v) (3 + 1) (.double 0) = a0 :: a1 :: a2 :: v :: .double 0 :: l := rfl
theorem lg4 {a0 a1 a2 a3 a4 : Value} {l : List Value} : (a0 :: a1 :: a2 :: a3 :: a4 :: l)[4]? = some a4 := rfl
theorem ls4 {a0 a1 a2 a3 a4 v : Value} {l : List Value} : List.set (a0 :: a1 :: a2 :: a3 :: a4 :: l) 4 v = a0 :: a1 :: a2 :: a3 :: v :: l := rfl
theorem lsl4 {a0 a1 a2 a3 a4 a5 v : Value} {l : List Value} : List.set (List.set (a0 :: a1 :: a2 :: a3 :: a4 :: a5 :: l) 4 v) (4 + 1) (.double 0) = a0 :: a1 :: a2 :: a3 :: v :: .double 0 :: l := rfl
theorem lg5 {a0 a1 a2 a3 a4 a5 : Value} {l : List Value} : (a0 :: a1 :: a2 :: a3 :: a4 :: a5 :: l)[5]? = some a5 := rfl
theorem ls5 {a0 a1 a2 a3 a4 a5 v : Value} {l : List Value} : List.set (a0 :: a1 :: a2 :: a3 :: a4 :: a5 :: l) 5 v = a0 :: a1 :: a2 :: a3 :: a4 :: v :: l := rfl
theorem lsl5 {a0 a1 a2 a3 a4 a5 a6 v : Value} {l : List Value} : List.set (List.set (a0 :: a1 :: a2 :: a3 :: a4 :: a5 :: a6 :: l) 5 v) (5 + 1) (.double 0) = a0 :: a1 :: a2 :: a3 :: a4 :: v :: .double 0 :: l := rfl
theorem lg6 {a0 a1 a2 a3 a4 a5 a6 : Value} {l : List Value} : (a0 :: a1 :: a2 :: a3 :: a4 :: a5 :: a6 :: l)[6]? = some a6 := rfl
theorem ls6 {a0 a1 a2 a3 a4 a5 a6 v : Value} {l : List Value} : List.set (a0 :: a1 :: a2 :: a3 :: a4 :: a5 :: a6 :: l) 6 v = a0 :: a1 :: a2 :: a3 :: a4 :: a5 :: v :: l := rfl
theorem lsl6 {a0 a1 a2 a3 a4 a5 a6 a7 v : Value} {l : List Value} : List.set (List.set (a0 :: a1 :: a2 :: a3 :: a4 :: a5 :: a6 :: a7 :: l) 6 v) (6 + 1) (.double 0) = a0 :: a1 :: a2 :: a3 :: a4 :: a5 :: v :: .double 0 :: l := rfl
theorem lg7 {a0 a1 a2 a3 a4 a5 a6 a7 : Value} {l : List Value} : (a0 :: a1 :: a2 :: a3 :: a4 :: a5 :: a6 :: a7 :: l)[7]? = some a7 := rfl
theorem ls7 {a0 a1 a2 a3 a4 a5 a6 a7 v : Value} {l : List Value} : List.set (a0 :: a1 :: a2 :: a3 :: a4 :: a5 :: a6 :: a7 :: l) 7 v = a0 :: a1 :: a2 :: a3 :: a4 :: a5 :: a6 :: v :: l := rfl
theorem lsl7 {a0 a1 a2 a3 a4 a5 a6 a7 a8 v : Value} {l : List Value} : List.set (List.set (a0 :: a1 :: a2 :: a3 :: a4 :: a5 :: a6 :: a7 :: a8 :: l) 7 v) (7 + 1) (.double 0) = a0 :: a1 :: a2 :: a3 :: a4 :: a5 :: a6 :: v :: .double 0 :: l := rfl
theorem lg8 {a0 a1 a2 a3 a4 a5 a6 a7 a8 : Value} {l : List Value} : (a0 :: a1 :: a2 :: a3 :: a4 :: a5 :: a6 :: a7 :: a8 :: l)[8]? = some a8 := rfl
theorem ls8 {a0 a1 a2 a3 a4 a5 a6 a7 a8 v : Value} {l : List Value} : List.set (a0 :: a1 :: a2 :: a3 :: a4 :: a5 :: a6 :: a7 :: a8 :: l) 8 v = a0 :: a1 :: a2 :: a3 :: a4 :: a5 :: a6 :: a7 :: v :: l := rfl
theorem lsl8 {a0 a1 a2 a3 a4 a5 a6 a7 a8 a9 v : Value} {l : List Value} : List.set (List.set (a0 :: a1 :: a2 :: a3 :: a4 :: a5 :: a6 :: a7 :: a8 :: a9 :: l) 8 v) (8 + 1) (.double 0) = a0 :: a1 :: a2 :: a3 :: a4 :: a5 :: a6 :: a7 :: v :: .double 0 :: l := rfl
theorem lg9 {a0 a1 a2 a3 a4 a5 a6 a7 a8 a9 : Value} {l : List Value} : (a0 :: a1 :: a2 :: a3 :: a4 :: a5 :: a6 :: a7 :: a8 :: a9 :: l)[9]? = some a9 := rfl
theorem ls9 {a0 a1 a2 a3 a4 a5 a6 a7 a8 a9 v : Value} {l : List Value} : List.set (a0 :: a1 :: a2 :: a3 :: a4 :: a5 :: a6 :: a7 :: a8 :: a9 :: l) 9 v = a0 :: a1 :: a2 :: a3 :: a4 :: a5 :: a6 :: a7 :: a8 :: v :: l := rfl
theorem lsl9 {a0 a1 a2 a3 a4 a5 a6 a7 a8 a9 a10 v : Value} {l : List Value} : List.set (List.set (a0 :: a1 :: a2 :: a3 :: a4 :: a5 :: a6 :: a7 :: a8 :: a9 :: a10 :: l) 9 v) (9 + 1) (.double 0) = a0 :: a1 :: a2 :: a3 :: a4 :: a5 :: a6 :: a7 :: a8 :: v :: .double 0 :: l := rfl
theorem lg10 {a0 a1 a2 a3 a4 a5 a6 a7 a8 a9 a10 : Value} {l : List Value} : (a0 :: a1 :: a2 :: a3 :: a4 :: a5 :: a6 :: a7 :: a8 :: a9 :: a10 :: l)[10]? = some a10 := rfl
theorem ls10 {a0 a1 a2 a3 a4 a5 a6 a7 a8 a9 a10 v : Value} {l : List Value} : List.set (a0 :: a1 :: a2 :: a3 :: a4 :: a5 :: a6 :: a7 :: a8 :: a9 :: a10 :: l) 10 v = a0 :: a1 :: a2 :: a3 :: a4 :: a5 :: a6 :: a7 :: a8 :: a9 :: v :: l := rfl
theorem lsl10 {a0 a1 a2 a3 a4 a5 a6 a7 a8 a9 a10 a11 v : Value} {l : List Value} : List.set (List.set (a0 :: a1 :: a2 :: a3 :: a4 :: a5 :: a6 :: a7 :: a8 :: a9 :: a10 :: a11 :: l) 10 v) (10 + 1) (.double 0) = a0 :: a1 :: a2 :: a3 :: a4 :: a5 :: a6 :: a7 :: a8 :: a9 :: v :: .double 0 :: l := rfl
theorem lg11 {a0 a1 a2 a3 a4 a5 a6 a7 a8 a9 a10 a11 : Value} {l : List Value} : (a0 :: a1 :: a2 :: a3 :: a4 :: a5 :: a6 :: a7 :: a8 :: a9 :: a10 :: a11 :: l)[11]? = some a11 := rfl
theorem ls11 {a0 a1 a2 a3 a4 a5 a6 a7 a8 a9 a10 a11 v : Value} {l : List Value} : List.set (a0 :: a1 :: a2 :: a3 :: a4 :: a5 :: a6 :: a7 :: a8 :: a9 :: a10 :: a11 :: l) 11 v = a0 :: a1 :: a2 :: a3 :: a4 :: a5 :: a6 :: a7 :: a8 :: a9 :: a10 :: v :: l := rfl
theorem lsl11 {a0 a1 a2 a3 a4 a5 a6 a7 a8 a9 a10 a11 a12 v : Value} {l : List Value} : List.set (List.set (a0 :: a1 :: a2 :: a3 :: a4 :: a5 :: a6 :: a7 :: a8 :: a9 :: a10 :: a11 :: a12 :: l) 11 v) (11 + 1) (.double 0) = a0 :: a1 :: a2 :: a3 :: a4 :: a5 :: a6 :: a7 :: a8 :: a9 :: a10 :: v :: .double 0 :: l := rfl
theorem lg12 {a0 a1 a2 a3 a4 a5 a6 a7 a8 a9 a10 a11 a12 : Value} {l : List Value} : (a0 :: a1 :: a2 :: a3 :: a4 :: a5 :: a6 :: a7 :: a8 :: a9 :: a10 :: a11 :: a12 :: l)[12]? = some a12 := rfl
theorem ls12 {a0 a1 a2 a3 a4 a5 a6 a7 a8 a9 a10 a11 a12 v : Value} {l : List Value} : List.set (a0 :: a1 :: a2 :: a3 :: a4 :: a5 :: a6 :: a7 :: a8 :: a9 :: a10 :: a11 :: a12 :: l) 12 v = a0 :: a1 :: a2 :: a3 :: a4 :: a5 :: a6 :: a7 :: a8 :: a9 :: a10 :: a11 :: v :: l := rfl
theorem lg13 {a0 a1 a2 a3 a4 a5 a6 a7 a8 a9 a10 a11 a12 a13 : Value} {l : List Value} : (a0 :: a1 :: a2 :: a3 :: a4 :: a5 :: a6 :: a7 :: a8 :: a9 :: a10 :: a11 :: a12 :: a13 :: l)[13]? = some a13 := rfl
theorem ls13 {a0 a1 a2 a3 a4 a5 a6 a7 a8 a9 a10 a11 a12 a13 v : Value} {l : List Value} : List.set (a0 :: a1 :: a2 :: a3 :: a4 :: a5 :: a6 :: a7 :: a8 :: a9 :: a10 :: a11 :: a12 :: a13 :: l) 13 v = a0 :: a1 :: a2 :: a3 :: a4 :: a5 :: a6 :: a7 :: a8 :: a9 :: a10 :: a11 :: a12 :: v :: l := rfl
theorem bipush_m100 : (Int8.ofInt (-100)).toInt32 = (-100) := by decide
theorem bipush_m99 : (Int8.ofInt (-99)).toInt32 = (-99) := by decide
theorem bipush_m28 : (Int8.ofInt (-28)).toInt32 = (-28) := by decide
theorem bipush_m27 : (Int8.ofInt (-27)).toInt32 = (-27) := by decide
theorem bipush_m26 : (Int8.ofInt (-26)).toInt32 = (-26) := by decide
theorem bipush_m25 : (Int8.ofInt (-25)).toInt32 = (-25) := by decide
theorem bipush_m24 : (Int8.ofInt (-24)).toInt32 = (-24) := by decide
theorem bipush_m23 : (Int8.ofInt (-23)).toInt32 = (-23) := by decide
theorem bipush_m22 : (Int8.ofInt (-22)).toInt32 = (-22) := by decide
theorem bipush_m21 : (Int8.ofInt (-21)).toInt32 = (-21) := by decide
theorem bipush_m20 : (Int8.ofInt (-20)).toInt32 = (-20) := by decide
theorem bipush_m14 : (Int8.ofInt (-14)).toInt32 = (-14) := by decide
theorem bipush_m13 : (Int8.ofInt (-13)).toInt32 = (-13) := by decide
theorem bipush_m12 : (Int8.ofInt (-12)).toInt32 = (-12) := by decide
theorem bipush_m11 : (Int8.ofInt (-11)).toInt32 = (-11) := by decide
theorem bipush_m10 : (Int8.ofInt (-10)).toInt32 = (-10) := by decide
theorem bipush_m4 : (Int8.ofInt (-4)).toInt32 = (-4) := by decide
theorem bipush_m3 : (Int8.ofInt (-3)).toInt32 = (-3) := by decide
theorem bipush_m2 : (Int8.ofInt (-2)).toInt32 = (-2) := by decide
theorem bipush_6 : (Int8.ofInt (6)).toInt32 = 6 := by decide
theorem bipush_7 : (Int8.ofInt (7)).toInt32 = 7 := by decide
theorem bipush_8 : (Int8.ofInt (8)).toInt32 = 8 := by decide
theorem bipush_9 : (Int8.ofInt (9)).toInt32 = 9 := by decide
theorem bipush_10 : (Int8.ofInt (10)).toInt32 = 10 := by decide
theorem bipush_11 : (Int8.ofInt (11)).toInt32 = 11 := by decide
theorem bipush_12 : (Int8.ofInt (12)).toInt32 = 12 := by decide
theorem bipush_13 : (Int8.ofInt (13)).toInt32 = 13 := by decide
theorem bipush_14 : (Int8.ofInt (14)).toInt32 = 14 := by decide
theorem bipush_15 : (Int8.ofInt (15)).toInt32 = 15 := by decide
theorem bipush_16 : (Int8.ofInt (16)).toInt32 = 16 := by decide
theorem bipush_17 : (Int8.ofInt (17)).toInt32 = 17 := by decide
theorem bipush_18 : (Int8.ofInt (18)).toInt32 = 18 := by decide
theorem bipush_19 : (Int8.ofInt (19)).toInt32 = 19 := by decide
theorem bipush_20 : (Int8.ofInt (20)).toInt32 = 20 := by decide
theorem bipush_21 : (Int8.ofInt (21)).toInt32 = 21 := by decide
theorem bipush_22 : (Int8.ofInt (22)).toInt32 = 22 := by decide
theorem bipush_23 : (Int8.ofInt (23)).toInt32 = 23 := by decide
theorem bipush_24 : (Int8.ofInt (24)).toInt32 = 24 := by decide
theorem bipush_25 : (Int8.ofInt (25)).toInt32 = 25 := by decide
theorem bipush_26 : (Int8.ofInt (26)).toInt32 = 26 := by decide
theorem bipush_27 : (Int8.ofInt (27)).toInt32 = 27 := by decide
theorem bipush_28 : (Int8.ofInt (28)).toInt32 = 28 := by decide
theorem bipush_29 : (Int8.ofInt (29)).toInt32 = 29 := by decide
theorem bipush_30 : (Int8.ofInt (30)).toInt32 = 30 := by decide
theorem bipush_31 : (Int8.ofInt (31)).toInt32 = 31 := by decide
theorem bipush_32 : (Int8.ofInt (32)).toInt32 = 32 := by decide
theorem bipush_33 : (Int8.ofInt (33)).toInt32 = 33 := by decide
theorem bipush_34 : (Int8.ofInt (34)).toInt32 = 34 := by decide
theorem bipush_35 : (Int8.ofInt (35)).toInt32 = 35 := by decide
theorem bipush_36 : (Int8.ofInt (36)).toInt32 = 36 := by decide
theorem bipush_37 : (Int8.ofInt (37)).toInt32 = 37 := by decide
theorem bipush_38 : (Int8.ofInt (38)).toInt32 = 38 := by decide
theorem bipush_39 : (Int8.ofInt (39)).toInt32 = 39 := by decide
theorem bipush_40 : (Int8.ofInt (40)).toInt32 = 40 := by decide
theorem bipush_41 : (Int8.ofInt (41)).toInt32 = 41 := by decide
theorem bipush_42 : (Int8.ofInt (42)).toInt32 = 42 := by decide
theorem bipush_43 : (Int8.ofInt (43)).toInt32 = 43 := by decide
theorem bipush_44 : (Int8.ofInt (44)).toInt32 = 44 := by decide
theorem bipush_45 : (Int8.ofInt (45)).toInt32 = 45 := by decide
theorem bipush_46 : (Int8.ofInt (46)).toInt32 = 46 := by decide
theorem bipush_47 : (Int8.ofInt (47)).toInt32 = 47 := by decide
theorem bipush_48 : (Int8.ofInt (48)).toInt32 = 48 := by decide
theorem bipush_49 : (Int8.ofInt (49)).toInt32 = 49 := by decide
theorem bipush_50 : (Int8.ofInt (50)).toInt32 = 50 := by decide
theorem bipush_51 : (Int8.ofInt (51)).toInt32 = 51 := by decide
theorem bipush_52 : (Int8.ofInt (52)).toInt32 = 52 := by decide
theorem bipush_53 : (Int8.ofInt (53)).toInt32 = 53 := by decide
theorem bipush_54 : (Int8.ofInt (54)).toInt32 = 54 := by decide
theorem bipush_55 : (Int8.ofInt (55)).toInt32 = 55 := by decide
theorem bipush_56 : (Int8.ofInt (56)).toInt32 = 56 := by decide
theorem bipush_57 : (Int8.ofInt (57)).toInt32 = 57 := by decide
theorem bipush_58 : (Int8.ofInt (58)).toInt32 = 58 := by decide
theorem bipush_59 : (Int8.ofInt (59)).toInt32 = 59 := by decide
theorem bipush_60 : (Int8.ofInt (60)).toInt32 = 60 := by decide
theorem bipush_61 : (Int8.ofInt (61)).toInt32 = 61 := by decide
theorem bipush_62 : (Int8.ofInt (62)).toInt32 = 62 := by decide
theorem bipush_63 : (Int8.ofInt (63)).toInt32 = 63 := by decide
theorem bipush_64 : (Int8.ofInt (64)).toInt32 = 64 := by decide
theorem bipush_65 : (Int8.ofInt (65)).toInt32 = 65 := by decide
theorem bipush_66 : (Int8.ofInt (66)).toInt32 = 66 := by decide
theorem bipush_67 : (Int8.ofInt (67)).toInt32 = 67 := by decide
theorem bipush_68 : (Int8.ofInt (68)).toInt32 = 68 := by decide
theorem bipush_69 : (Int8.ofInt (69)).toInt32 = 69 := by decide
theorem bipush_70 : (Int8.ofInt (70)).toInt32 = 70 := by decide
theorem bipush_71 : (Int8.ofInt (71)).toInt32 = 71 := by decide
theorem bipush_72 : (Int8.ofInt (72)).toInt32 = 72 := by decide
theorem bipush_73 : (Int8.ofInt (73)).toInt32 = 73 := by decide
theorem bipush_74 : (Int8.ofInt (74)).toInt32 = 74 := by decide
theorem bipush_75 : (Int8.ofInt (75)).toInt32 = 75 := by decide
theorem bipush_76 : (Int8.ofInt (76)).toInt32 = 76 := by decide
theorem bipush_77 : (Int8.ofInt (77)).toInt32 = 77 := by decide
theorem bipush_78 : (Int8.ofInt (78)).toInt32 = 78 := by decide
theorem bipush_79 : (Int8.ofInt (79)).toInt32 = 79 := by decide
theorem bipush_80 : (Int8.ofInt (80)).toInt32 = 80 := by decide
theorem bipush_81 : (Int8.ofInt (81)).toInt32 = 81 := by decide
theorem bipush_82 : (Int8.ofInt (82)).toInt32 = 82 := by decide
theorem bipush_83 : (Int8.ofInt (83)).toInt32 = 83 := by decide
theorem bipush_84 : (Int8.ofInt (84)).toInt32 = 84 := by decide
theorem bipush_97 : (Int8.ofInt (97)).toInt32 = 97 := by decide
theorem bipush_98 : (Int8.ofInt (98)).toInt32 = 98 := by decide
theorem bipush_99 : (Int8.ofInt (99)).toInt32 = 99 := by decide
theorem bipush_100 : (Int8.ofInt (100)).toInt32 = 100 := by decide
theorem bipush_101 : (Int8.ofInt (101)).toInt32 = 101 := by decide
theorem bipush_104 : (Int8.ofInt (104)).toInt32 = 104 := by decide
theorem bipush_105 : (Int8.ofInt (105)).toInt32 = 105 := by decide
theorem bipush_108 : (Int8.ofInt (108)).toInt32 = 108 := by decide
theorem bipush_109 : (Int8.ofInt (109)).toInt32 = 109 := by decide
theorem bipush_110 : (Int8.ofInt (110)).toInt32 = 110 := by decide
theorem bipush_111 : (Int8.ofInt (111)).toInt32 = 111 := by decide
theorem bipush_112 : (Int8.ofInt (112)).toInt32 = 112 := by decide
theorem bipush_114 : (Int8.ofInt (114)).toInt32 = 114 := by decide
theorem bipush_115 : (Int8.ofInt (115)).toInt32 = 115 := by decide
theorem bipush_116 : (Int8.ofInt (116)).toInt32 = 116 := by decide
theorem bipush_117 : (Int8.ofInt (117)).toInt32 = 117 := by decide
theorem bipush_119 : (Int8.ofInt (119)).toInt32 = 119 := by decide
theorem bipush_122 : (Int8.ofInt (122)).toInt32 = 122 := by decide
theorem iconst_m1 : Int32.ofInt (-1) = (-1) := by decide
theorem iconst_0 : Int32.ofInt (0) = 0 := by decide
theorem iconst_1 : Int32.ofInt (1) = 1 := by decide
theorem iconst_2 : Int32.ofInt (2) = 2 := by decide
theorem iconst_3 : Int32.ofInt (3) = 3 := by decide
theorem iconst_4 : Int32.ofInt (4) = 4 := by decide
theorem iconst_5 : Int32.ofInt (5) = 5 := by decide
theorem sipush_m1000 : (Int16.ofInt (-1000)).toInt32 = (-1000) := by decide
theorem sipush_160 : (Int16.ofInt (160)).toInt32 = 160 := by decide
theorem sipush_255 : (Int16.ofInt (255)).toInt32 = 255 := by decide
theorem sipush_960 : (Int16.ofInt (960)).toInt32 = 960 := by decide
theorem sipush_999 : (Int16.ofInt (999)).toInt32 = 999 := by decide
theorem sipush_12345 : (Int16.ofInt (12345)).toInt32 = 12345 := by decide
theorem kcJ6_265 : Cond.constant RJ6 265 (1431655765) ∈ wok := mem_wok 620 (by decide +kernel) rfl
theorem kcJ6_266 : Cond.constant RJ6 266 (858993459) ∈ wok := mem_wok 621 (by decide +kernel) rfl
theorem kcJ6_267 : Cond.constant RJ6 267 (252645135) ∈ wok := mem_wok 622 (by decide +kernel) rfl
theorem klX6_190 : Cond.constantLong RX6 190 (-4611686018427387904) ∈ wok := mem_wok 729 (by decide +kernel) rfl
theorem kcX6_265 : Cond.constant RX6 265 (1103515245) ∈ wok := mem_wok 786 (by decide +kernel) rfl
theorem klX7_277 : Cond.constantLong RX7 277 (-4611686018427387904) ∈ wok := mem_wok 1191 (by decide +kernel) rfl
theorem kcX7_296 : Cond.constant RX7 296 (1103515245) ∈ wok := mem_wok 1241 (by decide +kernel) rfl
theorem kfX6_64 : Cond.fieldLink RX6 64 "EdgesOff" "GREATEST" "[I" ∈ wok := mem_wok 295 (by decide +kernel) rfl
theorem kfJ0_38 : Cond.fieldLink RJ0 38 "java/lang/String" "COMPACT_STRINGS" "Z" ∈ wok := mem_wok 432 (by decide +kernel) rfl
theorem kfJ0_1053 : Cond.fieldLink RJ0 1053 "jdk/internal/util/Preconditions" "SIOOBE_FORMATTER" "Ljava/util/function/BiFunction;" ∈ wok := mem_wok 440 (by decide +kernel) rfl
theorem kfX6_251 : Cond.fieldLink RX6 251 "EdgesOff" "KIND_ABOVE" "[I" ∈ wok := mem_wok 836 (by decide +kernel) rfl
theorem kfJ0_15 : Cond.fieldLink RJ0 15 "java/lang/String" "coder" "B" ∈ wok := mem_wok 1263 (by decide +kernel) rfl
theorem kfJ0_9 : Cond.fieldLink RJ0 9 "java/lang/String" "value" "[B" ∈ wok := mem_wok 1264 (by decide +kernel) rfl
theorem pdI : parseFieldDescriptor "I" = some .int := by decide +kernel
theorem pdZ : parseFieldDescriptor "Z" = some .boolean := by decide +kernel
theorem oi1 : Int32.ofInt 1 = 1 := by decide
theorem oim1 : Int32.ofInt (-1) = -1 := by decide
section MR
variable {z : Zz} {d kc ks : Nat} {mi : MI} {pc pc' : Nat} {L S : List Value} {lay : Lay} {mem : Mem} {Q : Option Value → Lay → Mem → Prop}
theorem s_iincP {k : Nat} {x : Int32} {L' : List Value} (hd : decode mi.2.1 pc = .ok (.iinc k 1, 3)) (hp : pc + 3 = pc') (hl : L[k]? = some (.int x)) (hn : am_nl L k = true) (hl' : L.set k (.int (x + 1)) = L') (K : Sim z d kc ks mi pc' L' S lay mem Q) : Sim z d kc ks mi pc L S lay mem Q := s_iinc hd hp hl hn (by rw [oi1]) hl' K
theorem s_iincN {k i : Nat} {L' : List Value} (hd : decode mi.2.1 pc = .ok (.iinc k 1, 3)) (hp : pc + 3 = pc') (hl : L[k]? = some (.int (nI i))) (hn : am_nl L k = true) (hl' : L.set k (.int (nI (i + 1))) = L') (K : Sim z d kc ks mi pc' L' S lay mem Q) : Sim z d kc ks mi pc L S lay mem Q := s_iinc hd hp hl hn (by rw [oi1]; exact nI_1 i) hl' K
theorem s_iincM {k i : Nat} {L' : List Value} (hd : decode mi.2.1 pc = .ok (.iinc k (-1), 3)) (hp : pc + 3 = pc') (hl : L[k]? = some (.int (nI (i + 1)))) (hn : am_nl L k = true) (hl' : L.set k (.int (nI i)) = L') (K : Sim z d kc ks mi pc' L' S lay mem Q) : Sim z d kc ks mi pc L S lay mem Q := s_iinc hd hp hl hn (by rw [oim1]; exact pk_m1 i) hl' K
theorem s_getRv {idx ci k n id : Nat} {rf : Nat → Value} {v : Value} (hd : decode mi.2.1 pc = .ok (.getfield idx, 3)) (hp : pc + 3 = pc') (hf : am_fl mi.1.cls idx ci k) (hc : lay[id]? = some (ci, n, rf)) (hk : k < n) (hr : am_isR ci k = true) (hv : rf k = v) (K : Sim z d kc ks mi pc' L (v :: S) lay mem Q) : Sim z d kc ks mi pc L (.ref id :: S) lay mem Q := s_getR hd hp hf hc hk hr (by rw [hv]; exact K)
theorem s_getIv {idx ci k n id : Nat} {rf : Nat → Value} {v : Int32} (hd : decode mi.2.1 pc = .ok (.getfield idx, 3)) (hp : pc + 3 = pc') (hf : am_fl mi.1.cls idx ci k) (hc : lay[id]? = some (ci, n, rf)) (hk : k < n) (hr : am_isR ci k = false) (hv : mem id k = v) (K : Sim z d kc ks mi pc' L (.int v :: S) lay mem Q) : Sim z d kc ks mi pc L (.ref id :: S) lay mem Q := s_getI hd hp hf hc hk hr (by rw [hv]; exact K)
theorem s_ialdNv {n id k : Nat} {rf : Nat → Value} {v : Int32} (hd : decode mi.2.1 pc = .ok (.iaload, 1)) (hp : pc + 1 = pc') (hc : lay[id]? = some (8, n, rf)) (hk : k < n) (hn : n ≤ 2147483648) (hv : mem id k = v) (K : Sim z d kc ks mi pc' L (.int v :: S) lay mem Q) : Sim z d kc ks mi pc L (.int (nI k) :: .ref id :: S) lay mem Q := s_ialdN hd hp hc hk hn (by rw [hv]; exact K)
theorem s_aaldv {tg n id : Nat} {rf : Nat → Value} {i : Int32} {v : Value} (hd : decode mi.2.1 pc = .ok (.aaload, 1)) (hp : pc + 1 = pc') (hc : lay[id]? = some (tg, n, rf)) (htg : 11 ≤ tg) (hin : vp_in i n) (hv : rf i.toNatClampNeg = v) (K : Sim z d kc ks mi pc' L (v :: S) lay mem Q) : Sim z d kc ks mi pc L (.int i :: .ref id :: S) lay mem Q := s_aald hd hp hc htg hin (by rw [hv]; exact K)
theorem s_tald0v {i v : Int32} (hd : decode mi.2.1 pc = .ok (.iaload, 1)) (hp : pc + 1 = pc') (hin : vp_in i 6) (hv : am_gre i.toNatClampNeg = v) (K : Sim z d kc ks mi pc' L (.int v :: S) lay mem Q) : Sim z d kc ks mi pc L (.int i :: .retAddr 0 :: S) lay mem Q := s_tald0 hd hp hin (by rw [hv]; exact K)
theorem s_tald1v {i v : Int32} (hd : decode mi.2.1 pc = .ok (.iaload, 1)) (hp : pc + 1 = pc') (hin : vp_in i 6) (hv : am_kab i.toNatClampNeg = v) (K : Sim z d kc ks mi pc' L (.int v :: S) lay mem Q) : Sim z d kc ks mi pc L (.int i :: .retAddr 1 :: S) lay mem Q := s_tald1 hd hp hin (by rw [hv]; exact K)
theorem s_acopy0 {idx id0 id1 n0 n1 k : Nat} {rf0 rf1 : Nat → Value} {n : Int32} (hd : decode mi.2.1 pc = .ok (.invokestatic idx, 3)) (hp : pc + 3 = pc') (hlk : Cond.methodLink mi.1.cls idx arraycopyName ∈ wok) (hnat : Cond.native arraycopyName ∈ wok) (hstt : Cond.static arraycopyName ∈ wok) (hini : Cond.initialized "java/lang/System" ∈ wok) (hc0 : lay[id0]? = some (8, n0, rf0)) (hc1 : lay[id1]? = some (8, n1, rf1)) (hn : n = nI k) (hk : k ≤ n0 ∧ k ≤ n1 ∧ k < 100000) (hd1 : 2 ≤ d) (hcat : (S.map (fun v => v.category)).sum ≤ 8)
    (K : Sim z d kc ks mi pc' L S lay (am_cp mem id0 id1 0 0 k) Q) : Sim z d kc ks mi pc L (.int n :: .int 0 :: .ref id1 :: .int 0 :: .ref id0 :: S) lay mem Q := by
  subst hn
  have h0 : (0 : Int32).toNatClampNeg = 0 := by decide
  have hk2 : (nI k).toNatClampNeg = k := nI_clamp (by omega)
  refine s_acopy hd hp hlk hnat hstt hini hc0 hc1 (by decide) (by decide) (nI_pos (by omega)) (by rw [h0, hk2]; omega) (by rw [h0, hk2]; omega) hd1 hcat ?_
  rw [h0, hk2]; exact K
end MR
theorem kAC3 : Cond.initialized "java/lang/System" ∈ wok := mem_wok 87 (by decide +kernel) rfl
theorem kAC2 : Cond.static arraycopyName ∈ wok := mem_wok 570 (by decide +kernel) rfl
theorem kAC1 : Cond.native arraycopyName ∈ wok := mem_wok 571 (by decide +kernel) rfl
theorem am_tk {x lo hi : Int} {n : Nat} (a : ¬ x < lo) (b : ¬ hi < x) (hhi : hi = lo + (n : Int)) : ∃ k : Nat, k < n + 1 ∧ x = lo + (k : Int) := ⟨(x - lo).toNat, by omega, by omega⟩
theorem s_ts3 {z : Zz} {d kc ks : Nat} {mi : MI} {pc : Nat} {L S : List Value} {lay : Lay} {mem : Mem} {Q : Option Value → Lay → Mem → Prop} {dflt lo hi o0 o1 o2 : Int} {len td t0 t1 t2 : Nat} {x v0 v1 v2 : Int32} (hd : decode mi.2.1 pc = .ok (.tableswitch dflt lo hi #[o0, o1, o2], len)) (hhi : hi = lo + 2) (h0 : v0.toInt = lo + 0) (g0 : (pc : Int) + o0 = (t0 : Int)) (h1 : v1.toInt = lo + 1) (g1 : (pc : Int) + o1 = (t1 : Int)) (h2 : v2.toInt = lo + 2) (g2 : (pc : Int) + o2 = (t2 : Int)) (gd : (pc : Int) + dflt = (td : Int)) (K0 : x = v0 → Sim z d kc ks mi t0 L S lay mem Q) (K1 : x = v1 → Sim z d kc ks mi t1 L S lay mem Q) (K2 : x = v2 → Sim z d kc ks mi t2 L S lay mem Q) (Kd : ¬ x = v0 → ¬ x = v1 → ¬ x = v2 → Sim z d kc ks mi td L S lay mem Q) : Sim z d kc ks mi pc L (.int x :: S) lay mem Q := by
  by_cases e0 : x = v0
  · exact s_tsIn hd (by rw [e0, h0]; omega) (by rw [e0, h0]; omega) (by rw [e0, h0, show (lo + 0 - lo).toNat = 0 by omega]; rfl) g0 (K0 e0)
  by_cases e1 : x = v1
  · exact s_tsIn hd (by rw [e1, h1]; omega) (by rw [e1, h1]; omega) (by rw [e1, h1, show (lo + 1 - lo).toNat = 1 by omega]; rfl) g1 (K1 e1)
  by_cases e2 : x = v2
  · exact s_tsIn hd (by rw [e2, h2]; omega) (by rw [e2, h2]; omega) (by rw [e2, h2, show (lo + 2 - lo).toNat = 2 by omega]; rfl) g2 (K2 e2)
  refine s_tsOut hd ?_ gd (Kd e0 e1 e2)
  by_cases a : x.toInt < lo
  · exact Or.inl a
  by_cases b : hi < x.toInt
  · exact Or.inr b
  exfalso
  obtain ⟨k, hk, ex⟩ := am_tk (n := 2) a b hhi
  match k, hk, ex with
  | 0, _, ex => exact lv_neT e0 h0 ex
  | 1, _, ex => exact lv_neT e1 h1 ex
  | 2, _, ex => exact lv_neT e2 h2 ex
  | k + 3, hk, _ => omega
theorem s_ts4 {z : Zz} {d kc ks : Nat} {mi : MI} {pc : Nat} {L S : List Value} {lay : Lay} {mem : Mem} {Q : Option Value → Lay → Mem → Prop} {dflt lo hi o0 o1 o2 o3 : Int} {len td t0 t1 t2 t3 : Nat} {x v0 v1 v2 v3 : Int32} (hd : decode mi.2.1 pc = .ok (.tableswitch dflt lo hi #[o0, o1, o2, o3], len)) (hhi : hi = lo + 3) (h0 : v0.toInt = lo + 0) (g0 : (pc : Int) + o0 = (t0 : Int)) (h1 : v1.toInt = lo + 1) (g1 : (pc : Int) + o1 = (t1 : Int)) (h2 : v2.toInt = lo + 2) (g2 : (pc : Int) + o2 = (t2 : Int)) (h3 : v3.toInt = lo + 3) (g3 : (pc : Int) + o3 = (t3 : Int)) (gd : (pc : Int) + dflt = (td : Int)) (K0 : x = v0 → Sim z d kc ks mi t0 L S lay mem Q) (K1 : x = v1 → Sim z d kc ks mi t1 L S lay mem Q) (K2 : x = v2 → Sim z d kc ks mi t2 L S lay mem Q) (K3 : x = v3 → Sim z d kc ks mi t3 L S lay mem Q) (Kd : ¬ x = v0 → ¬ x = v1 → ¬ x = v2 → ¬ x = v3 → Sim z d kc ks mi td L S lay mem Q) : Sim z d kc ks mi pc L (.int x :: S) lay mem Q := by
  by_cases e0 : x = v0
  · exact s_tsIn hd (by rw [e0, h0]; omega) (by rw [e0, h0]; omega) (by rw [e0, h0, show (lo + 0 - lo).toNat = 0 by omega]; rfl) g0 (K0 e0)
  by_cases e1 : x = v1
  · exact s_tsIn hd (by rw [e1, h1]; omega) (by rw [e1, h1]; omega) (by rw [e1, h1, show (lo + 1 - lo).toNat = 1 by omega]; rfl) g1 (K1 e1)
  by_cases e2 : x = v2
  · exact s_tsIn hd (by rw [e2, h2]; omega) (by rw [e2, h2]; omega) (by rw [e2, h2, show (lo + 2 - lo).toNat = 2 by omega]; rfl) g2 (K2 e2)
  by_cases e3 : x = v3
  · exact s_tsIn hd (by rw [e3, h3]; omega) (by rw [e3, h3]; omega) (by rw [e3, h3, show (lo + 3 - lo).toNat = 3 by omega]; rfl) g3 (K3 e3)
  refine s_tsOut hd ?_ gd (Kd e0 e1 e2 e3)
  by_cases a : x.toInt < lo
  · exact Or.inl a
  by_cases b : hi < x.toInt
  · exact Or.inr b
  exfalso
  obtain ⟨k, hk, ex⟩ := am_tk (n := 3) a b hhi
  match k, hk, ex with
  | 0, _, ex => exact lv_neT e0 h0 ex
  | 1, _, ex => exact lv_neT e1 h1 ex
  | 2, _, ex => exact lv_neT e2 h2 ex
  | 3, _, ex => exact lv_neT e3 h3 ex
  | k + 4, hk, _ => omega
theorem s_ts5 {z : Zz} {d kc ks : Nat} {mi : MI} {pc : Nat} {L S : List Value} {lay : Lay} {mem : Mem} {Q : Option Value → Lay → Mem → Prop} {dflt lo hi o0 o1 o2 o3 o4 : Int} {len td t0 t1 t2 t3 t4 : Nat} {x v0 v1 v2 v3 v4 : Int32} (hd : decode mi.2.1 pc = .ok (.tableswitch dflt lo hi #[o0, o1, o2, o3, o4], len)) (hhi : hi = lo + 4) (h0 : v0.toInt = lo + 0) (g0 : (pc : Int) + o0 = (t0 : Int)) (h1 : v1.toInt = lo + 1) (g1 : (pc : Int) + o1 = (t1 : Int)) (h2 : v2.toInt = lo + 2) (g2 : (pc : Int) + o2 = (t2 : Int)) (h3 : v3.toInt = lo + 3) (g3 : (pc : Int) + o3 = (t3 : Int)) (h4 : v4.toInt = lo + 4) (g4 : (pc : Int) + o4 = (t4 : Int)) (gd : (pc : Int) + dflt = (td : Int)) (K0 : x = v0 → Sim z d kc ks mi t0 L S lay mem Q) (K1 : x = v1 → Sim z d kc ks mi t1 L S lay mem Q) (K2 : x = v2 → Sim z d kc ks mi t2 L S lay mem Q) (K3 : x = v3 → Sim z d kc ks mi t3 L S lay mem Q) (K4 : x = v4 → Sim z d kc ks mi t4 L S lay mem Q) (Kd : ¬ x = v0 → ¬ x = v1 → ¬ x = v2 → ¬ x = v3 → ¬ x = v4 → Sim z d kc ks mi td L S lay mem Q) : Sim z d kc ks mi pc L (.int x :: S) lay mem Q := by
  by_cases e0 : x = v0
  · exact s_tsIn hd (by rw [e0, h0]; omega) (by rw [e0, h0]; omega) (by rw [e0, h0, show (lo + 0 - lo).toNat = 0 by omega]; rfl) g0 (K0 e0)
  by_cases e1 : x = v1
  · exact s_tsIn hd (by rw [e1, h1]; omega) (by rw [e1, h1]; omega) (by rw [e1, h1, show (lo + 1 - lo).toNat = 1 by omega]; rfl) g1 (K1 e1)
  by_cases e2 : x = v2
  · exact s_tsIn hd (by rw [e2, h2]; omega) (by rw [e2, h2]; omega) (by rw [e2, h2, show (lo + 2 - lo).toNat = 2 by omega]; rfl) g2 (K2 e2)
  by_cases e3 : x = v3
  · exact s_tsIn hd (by rw [e3, h3]; omega) (by rw [e3, h3]; omega) (by rw [e3, h3, show (lo + 3 - lo).toNat = 3 by omega]; rfl) g3 (K3 e3)
  by_cases e4 : x = v4
  · exact s_tsIn hd (by rw [e4, h4]; omega) (by rw [e4, h4]; omega) (by rw [e4, h4, show (lo + 4 - lo).toNat = 4 by omega]; rfl) g4 (K4 e4)
  refine s_tsOut hd ?_ gd (Kd e0 e1 e2 e3 e4)
  by_cases a : x.toInt < lo
  · exact Or.inl a
  by_cases b : hi < x.toInt
  · exact Or.inr b
  exfalso
  obtain ⟨k, hk, ex⟩ := am_tk (n := 4) a b hhi
  match k, hk, ex with
  | 0, _, ex => exact lv_neT e0 h0 ex
  | 1, _, ex => exact lv_neT e1 h1 ex
  | 2, _, ex => exact lv_neT e2 h2 ex
  | 3, _, ex => exact lv_neT e3 h3 ex
  | 4, _, ex => exact lv_neT e4 h4 ex
  | k + 5, hk, _ => omega
theorem s_ts6 {z : Zz} {d kc ks : Nat} {mi : MI} {pc : Nat} {L S : List Value} {lay : Lay} {mem : Mem} {Q : Option Value → Lay → Mem → Prop} {dflt lo hi o0 o1 o2 o3 o4 o5 : Int} {len td t0 t1 t2 t3 t4 t5 : Nat} {x v0 v1 v2 v3 v4 v5 : Int32} (hd : decode mi.2.1 pc = .ok (.tableswitch dflt lo hi #[o0, o1, o2, o3, o4, o5], len)) (hhi : hi = lo + 5) (h0 : v0.toInt = lo + 0) (g0 : (pc : Int) + o0 = (t0 : Int)) (h1 : v1.toInt = lo + 1) (g1 : (pc : Int) + o1 = (t1 : Int)) (h2 : v2.toInt = lo + 2) (g2 : (pc : Int) + o2 = (t2 : Int)) (h3 : v3.toInt = lo + 3) (g3 : (pc : Int) + o3 = (t3 : Int)) (h4 : v4.toInt = lo + 4) (g4 : (pc : Int) + o4 = (t4 : Int)) (h5 : v5.toInt = lo + 5) (g5 : (pc : Int) + o5 = (t5 : Int)) (gd : (pc : Int) + dflt = (td : Int)) (K0 : x = v0 → Sim z d kc ks mi t0 L S lay mem Q) (K1 : x = v1 → Sim z d kc ks mi t1 L S lay mem Q) (K2 : x = v2 → Sim z d kc ks mi t2 L S lay mem Q) (K3 : x = v3 → Sim z d kc ks mi t3 L S lay mem Q) (K4 : x = v4 → Sim z d kc ks mi t4 L S lay mem Q) (K5 : x = v5 → Sim z d kc ks mi t5 L S lay mem Q) (Kd : ¬ x = v0 → ¬ x = v1 → ¬ x = v2 → ¬ x = v3 → ¬ x = v4 → ¬ x = v5 → Sim z d kc ks mi td L S lay mem Q) : Sim z d kc ks mi pc L (.int x :: S) lay mem Q := by
  by_cases e0 : x = v0
  · exact s_tsIn hd (by rw [e0, h0]; omega) (by rw [e0, h0]; omega) (by rw [e0, h0, show (lo + 0 - lo).toNat = 0 by omega]; rfl) g0 (K0 e0)
  by_cases e1 : x = v1
  · exact s_tsIn hd (by rw [e1, h1]; omega) (by rw [e1, h1]; omega) (by rw [e1, h1, show (lo + 1 - lo).toNat = 1 by omega]; rfl) g1 (K1 e1)
  by_cases e2 : x = v2
  · exact s_tsIn hd (by rw [e2, h2]; omega) (by rw [e2, h2]; omega) (by rw [e2, h2, show (lo + 2 - lo).toNat = 2 by omega]; rfl) g2 (K2 e2)
  by_cases e3 : x = v3
  · exact s_tsIn hd (by rw [e3, h3]; omega) (by rw [e3, h3]; omega) (by rw [e3, h3, show (lo + 3 - lo).toNat = 3 by omega]; rfl) g3 (K3 e3)
  by_cases e4 : x = v4
  · exact s_tsIn hd (by rw [e4, h4]; omega) (by rw [e4, h4]; omega) (by rw [e4, h4, show (lo + 4 - lo).toNat = 4 by omega]; rfl) g4 (K4 e4)
  by_cases e5 : x = v5
  · exact s_tsIn hd (by rw [e5, h5]; omega) (by rw [e5, h5]; omega) (by rw [e5, h5, show (lo + 5 - lo).toNat = 5 by omega]; rfl) g5 (K5 e5)
  refine s_tsOut hd ?_ gd (Kd e0 e1 e2 e3 e4 e5)
  by_cases a : x.toInt < lo
  · exact Or.inl a
  by_cases b : hi < x.toInt
  · exact Or.inr b
  exfalso
  obtain ⟨k, hk, ex⟩ := am_tk (n := 5) a b hhi
  match k, hk, ex with
  | 0, _, ex => exact lv_neT e0 h0 ex
  | 1, _, ex => exact lv_neT e1 h1 ex
  | 2, _, ex => exact lv_neT e2 h2 ex
  | 3, _, ex => exact lv_neT e3 h3 ex
  | 4, _, ex => exact lv_neT e4 h4 ex
  | 5, _, ex => exact lv_neT e5 h5 ex
  | k + 6, hk, _ => omega
theorem s_ts7 {z : Zz} {d kc ks : Nat} {mi : MI} {pc : Nat} {L S : List Value} {lay : Lay} {mem : Mem} {Q : Option Value → Lay → Mem → Prop} {dflt lo hi o0 o1 o2 o3 o4 o5 o6 : Int} {len td t0 t1 t2 t3 t4 t5 t6 : Nat} {x v0 v1 v2 v3 v4 v5 v6 : Int32} (hd : decode mi.2.1 pc = .ok (.tableswitch dflt lo hi #[o0, o1, o2, o3, o4, o5, o6], len)) (hhi : hi = lo + 6) (h0 : v0.toInt = lo + 0) (g0 : (pc : Int) + o0 = (t0 : Int)) (h1 : v1.toInt = lo + 1) (g1 : (pc : Int) + o1 = (t1 : Int)) (h2 : v2.toInt = lo + 2) (g2 : (pc : Int) + o2 = (t2 : Int)) (h3 : v3.toInt = lo + 3) (g3 : (pc : Int) + o3 = (t3 : Int)) (h4 : v4.toInt = lo + 4) (g4 : (pc : Int) + o4 = (t4 : Int)) (h5 : v5.toInt = lo + 5) (g5 : (pc : Int) + o5 = (t5 : Int)) (h6 : v6.toInt = lo + 6) (g6 : (pc : Int) + o6 = (t6 : Int)) (gd : (pc : Int) + dflt = (td : Int)) (K0 : x = v0 → Sim z d kc ks mi t0 L S lay mem Q) (K1 : x = v1 → Sim z d kc ks mi t1 L S lay mem Q) (K2 : x = v2 → Sim z d kc ks mi t2 L S lay mem Q) (K3 : x = v3 → Sim z d kc ks mi t3 L S lay mem Q) (K4 : x = v4 → Sim z d kc ks mi t4 L S lay mem Q) (K5 : x = v5 → Sim z d kc ks mi t5 L S lay mem Q) (K6 : x = v6 → Sim z d kc ks mi t6 L S lay mem Q) (Kd : ¬ x = v0 → ¬ x = v1 → ¬ x = v2 → ¬ x = v3 → ¬ x = v4 → ¬ x = v5 → ¬ x = v6 → Sim z d kc ks mi td L S lay mem Q) : Sim z d kc ks mi pc L (.int x :: S) lay mem Q := by
  by_cases e0 : x = v0
  · exact s_tsIn hd (by rw [e0, h0]; omega) (by rw [e0, h0]; omega) (by rw [e0, h0, show (lo + 0 - lo).toNat = 0 by omega]; rfl) g0 (K0 e0)
  by_cases e1 : x = v1
  · exact s_tsIn hd (by rw [e1, h1]; omega) (by rw [e1, h1]; omega) (by rw [e1, h1, show (lo + 1 - lo).toNat = 1 by omega]; rfl) g1 (K1 e1)
  by_cases e2 : x = v2
  · exact s_tsIn hd (by rw [e2, h2]; omega) (by rw [e2, h2]; omega) (by rw [e2, h2, show (lo + 2 - lo).toNat = 2 by omega]; rfl) g2 (K2 e2)
  by_cases e3 : x = v3
  · exact s_tsIn hd (by rw [e3, h3]; omega) (by rw [e3, h3]; omega) (by rw [e3, h3, show (lo + 3 - lo).toNat = 3 by omega]; rfl) g3 (K3 e3)
  by_cases e4 : x = v4
  · exact s_tsIn hd (by rw [e4, h4]; omega) (by rw [e4, h4]; omega) (by rw [e4, h4, show (lo + 4 - lo).toNat = 4 by omega]; rfl) g4 (K4 e4)
  by_cases e5 : x = v5
  · exact s_tsIn hd (by rw [e5, h5]; omega) (by rw [e5, h5]; omega) (by rw [e5, h5, show (lo + 5 - lo).toNat = 5 by omega]; rfl) g5 (K5 e5)
  by_cases e6 : x = v6
  · exact s_tsIn hd (by rw [e6, h6]; omega) (by rw [e6, h6]; omega) (by rw [e6, h6, show (lo + 6 - lo).toNat = 6 by omega]; rfl) g6 (K6 e6)
  refine s_tsOut hd ?_ gd (Kd e0 e1 e2 e3 e4 e5 e6)
  by_cases a : x.toInt < lo
  · exact Or.inl a
  by_cases b : hi < x.toInt
  · exact Or.inr b
  exfalso
  obtain ⟨k, hk, ex⟩ := am_tk (n := 6) a b hhi
  match k, hk, ex with
  | 0, _, ex => exact lv_neT e0 h0 ex
  | 1, _, ex => exact lv_neT e1 h1 ex
  | 2, _, ex => exact lv_neT e2 h2 ex
  | 3, _, ex => exact lv_neT e3 h3 ex
  | 4, _, ex => exact lv_neT e4 h4 ex
  | 5, _, ex => exact lv_neT e5 h5 ex
  | 6, _, ex => exact lv_neT e6 h6 ex
  | k + 7, hk, _ => omega
theorem s_ts11 {z : Zz} {d kc ks : Nat} {mi : MI} {pc : Nat} {L S : List Value} {lay : Lay} {mem : Mem} {Q : Option Value → Lay → Mem → Prop} {dflt lo hi o0 o1 o2 o3 o4 o5 o6 o7 o8 o9 o10 : Int} {len td t0 t1 t2 t3 t4 t5 t6 t7 t8 t9 t10 : Nat} {x v0 v1 v2 v3 v4 v5 v6 v7 v8 v9 v10 : Int32} (hd : decode mi.2.1 pc = .ok (.tableswitch dflt lo hi #[o0, o1, o2, o3, o4, o5, o6, o7, o8, o9, o10], len)) (hhi : hi = lo + 10) (h0 : v0.toInt = lo + 0) (g0 : (pc : Int) + o0 = (t0 : Int)) (h1 : v1.toInt = lo + 1) (g1 : (pc : Int) + o1 = (t1 : Int)) (h2 : v2.toInt = lo + 2) (g2 : (pc : Int) + o2 = (t2 : Int)) (h3 : v3.toInt = lo + 3) (g3 : (pc : Int) + o3 = (t3 : Int)) (h4 : v4.toInt = lo + 4) (g4 : (pc : Int) + o4 = (t4 : Int)) (h5 : v5.toInt = lo + 5) (g5 : (pc : Int) + o5 = (t5 : Int)) (h6 : v6.toInt = lo + 6) (g6 : (pc : Int) + o6 = (t6 : Int)) (h7 : v7.toInt = lo + 7) (g7 : (pc : Int) + o7 = (t7 : Int)) (h8 : v8.toInt = lo + 8) (g8 : (pc : Int) + o8 = (t8 : Int)) (h9 : v9.toInt = lo + 9) (g9 : (pc : Int) + o9 = (t9 : Int)) (h10 : v10.toInt = lo + 10) (g10 : (pc : Int) + o10 = (t10 : Int)) (gd : (pc : Int) + dflt = (td : Int)) (K0 : x = v0 → Sim z d kc ks mi t0 L S lay mem Q) (K1 : x = v1 → Sim z d kc ks mi t1 L S lay mem Q) (K2 : x = v2 → Sim z d kc ks mi t2 L S lay mem Q) (K3 : x = v3 → Sim z d kc ks mi t3 L S lay mem Q) (K4 : x = v4 → Sim z d kc ks mi t4 L S lay mem Q) (K5 : x = v5 → Sim z d kc ks mi t5 L S lay mem Q) (K6 : x = v6 → Sim z d kc ks mi t6 L S lay mem Q) (K7 : x = v7 → Sim z d kc ks mi t7 L S lay mem Q) (K8 : x = v8 → Sim z d kc ks mi t8 L S lay mem Q) (K9 : x = v9 → Sim z d kc ks mi t9 L S lay mem Q) (K10 : x = v10 → Sim z d kc ks mi t10 L S lay mem Q) (Kd : ¬ x = v0 → ¬ x = v1 → ¬ x = v2 → ¬ x = v3 → ¬ x = v4 → ¬ x = v5 → ¬ x = v6 → ¬ x = v7 → ¬ x = v8 → ¬ x = v9 → ¬ x = v10 → Sim z d kc ks mi td L S lay mem Q) : Sim z d kc ks mi pc L (.int x :: S) lay mem Q := by
  by_cases e0 : x = v0
  · exact s_tsIn hd (by rw [e0, h0]; omega) (by rw [e0, h0]; omega) (by rw [e0, h0, show (lo + 0 - lo).toNat = 0 by omega]; rfl) g0 (K0 e0)
  by_cases e1 : x = v1
  · exact s_tsIn hd (by rw [e1, h1]; omega) (by rw [e1, h1]; omega) (by rw [e1, h1, show (lo + 1 - lo).toNat = 1 by omega]; rfl) g1 (K1 e1)
  by_cases e2 : x = v2
  · exact s_tsIn hd (by rw [e2, h2]; omega) (by rw [e2, h2]; omega) (by rw [e2, h2, show (lo + 2 - lo).toNat = 2 by omega]; rfl) g2 (K2 e2)
  by_cases e3 : x = v3
  · exact s_tsIn hd (by rw [e3, h3]; omega) (by rw [e3, h3]; omega) (by rw [e3, h3, show (lo + 3 - lo).toNat = 3 by omega]; rfl) g3 (K3 e3)
  by_cases e4 : x = v4
  · exact s_tsIn hd (by rw [e4, h4]; omega) (by rw [e4, h4]; omega) (by rw [e4, h4, show (lo + 4 - lo).toNat = 4 by omega]; rfl) g4 (K4 e4)
  by_cases e5 : x = v5
  · exact s_tsIn hd (by rw [e5, h5]; omega) (by rw [e5, h5]; omega) (by rw [e5, h5, show (lo + 5 - lo).toNat = 5 by omega]; rfl) g5 (K5 e5)
  by_cases e6 : x = v6
  · exact s_tsIn hd (by rw [e6, h6]; omega) (by rw [e6, h6]; omega) (by rw [e6, h6, show (lo + 6 - lo).toNat = 6 by omega]; rfl) g6 (K6 e6)
  by_cases e7 : x = v7
  · exact s_tsIn hd (by rw [e7, h7]; omega) (by rw [e7, h7]; omega) (by rw [e7, h7, show (lo + 7 - lo).toNat = 7 by omega]; rfl) g7 (K7 e7)
  by_cases e8 : x = v8
  · exact s_tsIn hd (by rw [e8, h8]; omega) (by rw [e8, h8]; omega) (by rw [e8, h8, show (lo + 8 - lo).toNat = 8 by omega]; rfl) g8 (K8 e8)
  by_cases e9 : x = v9
  · exact s_tsIn hd (by rw [e9, h9]; omega) (by rw [e9, h9]; omega) (by rw [e9, h9, show (lo + 9 - lo).toNat = 9 by omega]; rfl) g9 (K9 e9)
  by_cases e10 : x = v10
  · exact s_tsIn hd (by rw [e10, h10]; omega) (by rw [e10, h10]; omega) (by rw [e10, h10, show (lo + 10 - lo).toNat = 10 by omega]; rfl) g10 (K10 e10)
  refine s_tsOut hd ?_ gd (Kd e0 e1 e2 e3 e4 e5 e6 e7 e8 e9 e10)
  by_cases a : x.toInt < lo
  · exact Or.inl a
  by_cases b : hi < x.toInt
  · exact Or.inr b
  exfalso
  obtain ⟨k, hk, ex⟩ := am_tk (n := 10) a b hhi
  match k, hk, ex with
  | 0, _, ex => exact lv_neT e0 h0 ex
  | 1, _, ex => exact lv_neT e1 h1 ex
  | 2, _, ex => exact lv_neT e2 h2 ex
  | 3, _, ex => exact lv_neT e3 h3 ex
  | 4, _, ex => exact lv_neT e4 h4 ex
  | 5, _, ex => exact lv_neT e5 h5 ex
  | 6, _, ex => exact lv_neT e6 h6 ex
  | 7, _, ex => exact lv_neT e7 h7 ex
  | 8, _, ex => exact lv_neT e8 h8 ex
  | 9, _, ex => exact lv_neT e9 h9 ex
  | 10, _, ex => exact lv_neT e10 h10 ex
  | k + 11, hk, _ => omega
def NUL : Nat → Value := fun _ => .null
def rl (l : List Value) : Nat → Value := fun k => l.getD k .null
def RS (b : Nat) : Nat → Value := rl [.ref 1, .ref (b + 1), .ref (b + 2), .ref (b + 3), .ref (b + 4), .ref (b + 5), .ref (b + 6), .ref (b + 7)]
def RR (j : Nat) : Nat → Value := rl [.ref (40 + 2 * j)]
def R0 : Nat → Value := rl [.ref 1, .ref 7, .ref 10, .ref 18, .ref 26, .ref 34, .ref 38]
def R1 : Nat → Value := rl [.ref 2, .ref 3, .ref 4]
def R5 : Nat → Value := rl [.ref 6]
def R7 : Nat → Value := rl [.ref 8, .null, .null, .ref 9]
def R34 : Nat → Value := rl [.ref 35, .ref 36, .ref 37]
def R38 : Nat → Value := rl [.ref 39, .ref 41, .ref 43, .ref 45]
def R47 : Nat → Value := rl [.ref 48, .ref 49, .ref 50, .null, .ref 51, .null, .null, .null, .null, .null, .ref 52, .ref 53, .null, .null, .ref 54, .ref 55, .null, .ref 56, .ref 57, .ref 58, .ref 59, .ref 60, .null, .null, .ref 61, .ref 62, .ref 63, .ref 64, .ref 65, .ref 66]
def LAY (rf : Nat → Value) (tl : Lay) : Lay := (6, 8, R0) :: (5, 4, R1) :: (13, 6, rf) :: (8, 6, NUL) :: (8, 160, NUL) :: (4, 3, R5) :: (8, 3, NUL) :: (1, 9, R7) :: (8, 160, NUL) :: (8, 160, NUL) :: (3, 11, RS 10) :: (8, 8, NUL) :: (8, 8, NUL) :: (8, 8, NUL) :: (8, 8, NUL) :: (8, 8, NUL) :: (8, 8, NUL) :: (8, 8, NUL) :: (3, 11, RS 18) :: (8, 8, NUL) :: (8, 8, NUL) :: (8, 8, NUL) :: (8, 8, NUL) :: (8, 8, NUL) :: (8, 8, NUL) :: (8, 8, NUL) :: (3, 11, RS 26) :: (8, 8, NUL) :: (8, 8, NUL) :: (8, 8, NUL) :: (8, 8, NUL) :: (8, 8, NUL) :: (8, 8, NUL) :: (8, 8, NUL) :: (0, 4, R34) :: (8, 8, NUL) :: (8, 8, NUL) :: (8, 8, NUL) :: (12, 4, R38) :: (2, 3, RR 0) :: (8, 40, NUL) :: (2, 3, RR 1) :: (8, 40, NUL) :: (2, 3, RR 2) :: (8, 40, NUL) :: (2, 3, RR 3) :: (8, 40, NUL) :: (7, 30, R47) :: (8, 43, NUL) :: (8, 43, NUL) :: (8, 43, NUL) :: (8, 160, NUL) :: (8, 960, NUL) :: (8, 18, NUL) :: (9, 84, NUL) :: (8, 160, NUL) :: (8, 160, NUL) :: (8, 8, NUL) :: (8, 8, NUL) :: (8, 8, NUL) :: (8, 9, NUL) :: (8, 4, NUL) :: (8, 4, NUL) :: (8, 160, NUL) :: (8, 40, NUL) :: (8, 6, NUL) :: (10, 100, NUL) :: tl
theorem ly0 {rf : Nat → Value} {tl : Lay} : (LAY rf tl)[0]? = some (6, 8, R0) := rfl
theorem ly1 {rf : Nat → Value} {tl : Lay} : (LAY rf tl)[1]? = some (5, 4, R1) := rfl
theorem ly2 {rf : Nat → Value} {tl : Lay} : (LAY rf tl)[2]? = some (13, 6, rf) := rfl
theorem ly3 {rf : Nat → Value} {tl : Lay} : (LAY rf tl)[3]? = some (8, 6, NUL) := rfl
theorem ly4 {rf : Nat → Value} {tl : Lay} : (LAY rf tl)[4]? = some (8, 160, NUL) := rfl
theorem ly5 {rf : Nat → Value} {tl : Lay} : (LAY rf tl)[5]? = some (4, 3, R5) := rfl
theorem ly6 {rf : Nat → Value} {tl : Lay} : (LAY rf tl)[6]? = some (8, 3, NUL) := rfl
theorem ly7 {rf : Nat → Value} {tl : Lay} : (LAY rf tl)[7]? = some (1, 9, R7) := rfl
theorem ly8 {rf : Nat → Value} {tl : Lay} : (LAY rf tl)[8]? = some (8, 160, NUL) := rfl
theorem ly9 {rf : Nat → Value} {tl : Lay} : (LAY rf tl)[9]? = some (8, 160, NUL) := rfl
theorem ly10 {rf : Nat → Value} {tl : Lay} : (LAY rf tl)[10]? = some (3, 11, RS 10) := rfl
theorem ly11 {rf : Nat → Value} {tl : Lay} : (LAY rf tl)[11]? = some (8, 8, NUL) := rfl
theorem ly12 {rf : Nat → Value} {tl : Lay} : (LAY rf tl)[12]? = some (8, 8, NUL) := rfl
theorem ly13 {rf : Nat → Value} {tl : Lay} : (LAY rf tl)[13]? = some (8, 8, NUL) := rfl
theorem ly14 {rf : Nat → Value} {tl : Lay} : (LAY rf tl)[14]? = some (8, 8, NUL) := rfl
theorem ly15 {rf : Nat → Value} {tl : Lay} : (LAY rf tl)[15]? = some (8, 8, NUL) := rfl
theorem ly16 {rf : Nat → Value} {tl : Lay} : (LAY rf tl)[16]? = some (8, 8, NUL) := rfl
theorem ly17 {rf : Nat → Value} {tl : Lay} : (LAY rf tl)[17]? = some (8, 8, NUL) := rfl
theorem ly18 {rf : Nat → Value} {tl : Lay} : (LAY rf tl)[18]? = some (3, 11, RS 18) := rfl
theorem ly19 {rf : Nat → Value} {tl : Lay} : (LAY rf tl)[19]? = some (8, 8, NUL) := rfl
theorem ly20 {rf : Nat → Value} {tl : Lay} : (LAY rf tl)[20]? = some (8, 8, NUL) := rfl
theorem ly21 {rf : Nat → Value} {tl : Lay} : (LAY rf tl)[21]? = some (8, 8, NUL) := rfl
theorem ly22 {rf : Nat → Value} {tl : Lay} : (LAY rf tl)[22]? = some (8, 8, NUL) := rfl
theorem ly23 {rf : Nat → Value} {tl : Lay} : (LAY rf tl)[23]? = some (8, 8, NUL) := rfl
theorem ly24 {rf : Nat → Value} {tl : Lay} : (LAY rf tl)[24]? = some (8, 8, NUL) := rfl
theorem ly25 {rf : Nat → Value} {tl : Lay} : (LAY rf tl)[25]? = some (8, 8, NUL) := rfl
theorem ly26 {rf : Nat → Value} {tl : Lay} : (LAY rf tl)[26]? = some (3, 11, RS 26) := rfl
theorem ly27 {rf : Nat → Value} {tl : Lay} : (LAY rf tl)[27]? = some (8, 8, NUL) := rfl
theorem ly28 {rf : Nat → Value} {tl : Lay} : (LAY rf tl)[28]? = some (8, 8, NUL) := rfl
theorem ly29 {rf : Nat → Value} {tl : Lay} : (LAY rf tl)[29]? = some (8, 8, NUL) := rfl
theorem ly30 {rf : Nat → Value} {tl : Lay} : (LAY rf tl)[30]? = some (8, 8, NUL) := rfl
theorem ly31 {rf : Nat → Value} {tl : Lay} : (LAY rf tl)[31]? = some (8, 8, NUL) := rfl
theorem ly32 {rf : Nat → Value} {tl : Lay} : (LAY rf tl)[32]? = some (8, 8, NUL) := rfl
theorem ly33 {rf : Nat → Value} {tl : Lay} : (LAY rf tl)[33]? = some (8, 8, NUL) := rfl
theorem ly34 {rf : Nat → Value} {tl : Lay} : (LAY rf tl)[34]? = some (0, 4, R34) := rfl
theorem ly35 {rf : Nat → Value} {tl : Lay} : (LAY rf tl)[35]? = some (8, 8, NUL) := rfl
theorem ly36 {rf : Nat → Value} {tl : Lay} : (LAY rf tl)[36]? = some (8, 8, NUL) := rfl
theorem ly37 {rf : Nat → Value} {tl : Lay} : (LAY rf tl)[37]? = some (8, 8, NUL) := rfl
theorem ly38 {rf : Nat → Value} {tl : Lay} : (LAY rf tl)[38]? = some (12, 4, R38) := rfl
theorem ly39 {rf : Nat → Value} {tl : Lay} : (LAY rf tl)[39]? = some (2, 3, RR 0) := rfl
theorem ly40 {rf : Nat → Value} {tl : Lay} : (LAY rf tl)[40]? = some (8, 40, NUL) := rfl
theorem ly41 {rf : Nat → Value} {tl : Lay} : (LAY rf tl)[41]? = some (2, 3, RR 1) := rfl
theorem ly42 {rf : Nat → Value} {tl : Lay} : (LAY rf tl)[42]? = some (8, 40, NUL) := rfl
theorem ly43 {rf : Nat → Value} {tl : Lay} : (LAY rf tl)[43]? = some (2, 3, RR 2) := rfl
theorem ly44 {rf : Nat → Value} {tl : Lay} : (LAY rf tl)[44]? = some (8, 40, NUL) := rfl
theorem ly45 {rf : Nat → Value} {tl : Lay} : (LAY rf tl)[45]? = some (2, 3, RR 3) := rfl
theorem ly46 {rf : Nat → Value} {tl : Lay} : (LAY rf tl)[46]? = some (8, 40, NUL) := rfl
theorem ly47 {rf : Nat → Value} {tl : Lay} : (LAY rf tl)[47]? = some (7, 30, R47) := rfl
theorem ly48 {rf : Nat → Value} {tl : Lay} : (LAY rf tl)[48]? = some (8, 43, NUL) := rfl
theorem ly49 {rf : Nat → Value} {tl : Lay} : (LAY rf tl)[49]? = some (8, 43, NUL) := rfl
theorem ly50 {rf : Nat → Value} {tl : Lay} : (LAY rf tl)[50]? = some (8, 43, NUL) := rfl
theorem ly51 {rf : Nat → Value} {tl : Lay} : (LAY rf tl)[51]? = some (8, 160, NUL) := rfl
theorem ly52 {rf : Nat → Value} {tl : Lay} : (LAY rf tl)[52]? = some (8, 960, NUL) := rfl
theorem ly53 {rf : Nat → Value} {tl : Lay} : (LAY rf tl)[53]? = some (8, 18, NUL) := rfl
theorem ly54 {rf : Nat → Value} {tl : Lay} : (LAY rf tl)[54]? = some (9, 84, NUL) := rfl
theorem ly55 {rf : Nat → Value} {tl : Lay} : (LAY rf tl)[55]? = some (8, 160, NUL) := rfl
theorem ly56 {rf : Nat → Value} {tl : Lay} : (LAY rf tl)[56]? = some (8, 160, NUL) := rfl
theorem ly57 {rf : Nat → Value} {tl : Lay} : (LAY rf tl)[57]? = some (8, 8, NUL) := rfl
theorem ly58 {rf : Nat → Value} {tl : Lay} : (LAY rf tl)[58]? = some (8, 8, NUL) := rfl
theorem ly59 {rf : Nat → Value} {tl : Lay} : (LAY rf tl)[59]? = some (8, 8, NUL) := rfl
theorem ly60 {rf : Nat → Value} {tl : Lay} : (LAY rf tl)[60]? = some (8, 9, NUL) := rfl
theorem ly61 {rf : Nat → Value} {tl : Lay} : (LAY rf tl)[61]? = some (8, 4, NUL) := rfl
theorem ly62 {rf : Nat → Value} {tl : Lay} : (LAY rf tl)[62]? = some (8, 4, NUL) := rfl
theorem ly63 {rf : Nat → Value} {tl : Lay} : (LAY rf tl)[63]? = some (8, 160, NUL) := rfl
theorem ly64 {rf : Nat → Value} {tl : Lay} : (LAY rf tl)[64]? = some (8, 40, NUL) := rfl
theorem ly65 {rf : Nat → Value} {tl : Lay} : (LAY rf tl)[65]? = some (8, 6, NUL) := rfl
theorem ly66 {rf : Nat → Value} {tl : Lay} : (LAY rf tl)[66]? = some (10, 100, NUL) := rfl
def ISh (b : Nat) : Prop := b = 10 ∨ b = 18 ∨ b = 26
theorem lyS {rf : Nat → Value} {tl : Lay} {b : Nat} (hb : ISh b) : (LAY rf tl)[b]? = some (3, 11, RS b) := by rcases hb with rfl | rfl | rfl <;> rfl
theorem lyS1 {rf : Nat → Value} {tl : Lay} {b : Nat} (hb : ISh b) : (LAY rf tl)[b + 1]? = some (8, 8, NUL) := by rcases hb with rfl | rfl | rfl <;> rfl
theorem lyS2 {rf : Nat → Value} {tl : Lay} {b : Nat} (hb : ISh b) : (LAY rf tl)[b + 2]? = some (8, 8, NUL) := by rcases hb with rfl | rfl | rfl <;> rfl
theorem lyS3 {rf : Nat → Value} {tl : Lay} {b : Nat} (hb : ISh b) : (LAY rf tl)[b + 3]? = some (8, 8, NUL) := by rcases hb with rfl | rfl | rfl <;> rfl
theorem lyS4 {rf : Nat → Value} {tl : Lay} {b : Nat} (hb : ISh b) : (LAY rf tl)[b + 4]? = some (8, 8, NUL) := by rcases hb with rfl | rfl | rfl <;> rfl
theorem lyS5 {rf : Nat → Value} {tl : Lay} {b : Nat} (hb : ISh b) : (LAY rf tl)[b + 5]? = some (8, 8, NUL) := by rcases hb with rfl | rfl | rfl <;> rfl
theorem lyS6 {rf : Nat → Value} {tl : Lay} {b : Nat} (hb : ISh b) : (LAY rf tl)[b + 6]? = some (8, 8, NUL) := by rcases hb with rfl | rfl | rfl <;> rfl
theorem lyS7 {rf : Nat → Value} {tl : Lay} {b : Nat} (hb : ISh b) : (LAY rf tl)[b + 7]? = some (8, 8, NUL) := by rcases hb with rfl | rfl | rfl <;> rfl
theorem lyR {rf : Nat → Value} {tl : Lay} {j : Nat} (hj : j < 4) : (LAY rf tl)[39 + 2 * j]? = some (2, 3, RR j) := by
  have : j = 0 ∨ j = 1 ∨ j = 2 ∨ j = 3 := by omega
  rcases this with rfl | rfl | rfl | rfl <;> rfl
theorem lyRi {rf : Nat → Value} {tl : Lay} {j : Nat} (hj : j < 4) : (LAY rf tl)[40 + 2 * j]? = some (8, 40, NUL) := by
  have : j = 0 ∨ j = 1 ∨ j = 2 ∨ j = 3 := by omega
  rcases this with rfl | rfl | rfl | rfl <;> rfl
theorem R38_at {j : Nat} (hj : j < 4) : R38 j = .ref (39 + 2 * j) := by
  have : j = 0 ∨ j = 1 ∨ j = 2 ∨ j = 3 := by omega
  rcases this with rfl | rfl | rfl | rfl <;> rfl
