theorem kB_m10 : (Int8.ofInt (-10)).toInt32 = (-10 : Int32) := by decide
theorem kB_6 : (Int8.ofInt (6)).toInt32 = (6 : Int32) := by decide
theorem kB_7 : (Int8.ofInt (7)).toInt32 = (7 : Int32) := by decide
theorem kB_8 : (Int8.ofInt (8)).toInt32 = (8 : Int32) := by decide
theorem kB_9 : (Int8.ofInt (9)).toInt32 = (9 : Int32) := by decide
theorem kB_10 : (Int8.ofInt (10)).toInt32 = (10 : Int32) := by decide
theorem kB_11 : (Int8.ofInt (11)).toInt32 = (11 : Int32) := by decide
theorem kB_12 : (Int8.ofInt (12)).toInt32 = (12 : Int32) := by decide
theorem kB_13 : (Int8.ofInt (13)).toInt32 = (13 : Int32) := by decide
theorem kB_14 : (Int8.ofInt (14)).toInt32 = (14 : Int32) := by decide
theorem kB_15 : (Int8.ofInt (15)).toInt32 = (15 : Int32) := by decide
theorem kB_16 : (Int8.ofInt (16)).toInt32 = (16 : Int32) := by decide
theorem kB_20 : (Int8.ofInt (20)).toInt32 = (20 : Int32) := by decide
theorem kB_24 : (Int8.ofInt (24)).toInt32 = (24 : Int32) := by decide
theorem kB_28 : (Int8.ofInt (28)).toInt32 = (28 : Int32) := by decide
theorem kB_30 : (Int8.ofInt (30)).toInt32 = (30 : Int32) := by decide
theorem kB_32 : (Int8.ofInt (32)).toInt32 = (32 : Int32) := by decide
theorem kB_36 : (Int8.ofInt (36)).toInt32 = (36 : Int32) := by decide
theorem kB_40 : (Int8.ofInt (40)).toInt32 = (40 : Int32) := by decide
theorem kB_44 : (Int8.ofInt (44)).toInt32 = (44 : Int32) := by decide
theorem kB_45 : (Int8.ofInt (45)).toInt32 = (45 : Int32) := by decide
theorem kB_48 : (Int8.ofInt (48)).toInt32 = (48 : Int32) := by decide
theorem kB_50 : (Int8.ofInt (50)).toInt32 = (50 : Int32) := by decide
theorem kB_52 : (Int8.ofInt (52)).toInt32 = (52 : Int32) := by decide
theorem kB_53 : (Int8.ofInt (53)).toInt32 = (53 : Int32) := by decide
theorem kB_54 : (Int8.ofInt (54)).toInt32 = (54 : Int32) := by decide
theorem kB_55 : (Int8.ofInt (55)).toInt32 = (55 : Int32) := by decide
theorem kB_56 : (Int8.ofInt (56)).toInt32 = (56 : Int32) := by decide
theorem kB_57 : (Int8.ofInt (57)).toInt32 = (57 : Int32) := by decide
theorem kB_58 : (Int8.ofInt (58)).toInt32 = (58 : Int32) := by decide
theorem kB_59 : (Int8.ofInt (59)).toInt32 = (59 : Int32) := by decide
theorem kB_60 : (Int8.ofInt (60)).toInt32 = (60 : Int32) := by decide
theorem kB_61 : (Int8.ofInt (61)).toInt32 = (61 : Int32) := by decide
theorem kB_62 : (Int8.ofInt (62)).toInt32 = (62 : Int32) := by decide
theorem kB_63 : (Int8.ofInt (63)).toInt32 = (63 : Int32) := by decide
theorem kB_64 : (Int8.ofInt (64)).toInt32 = (64 : Int32) := by decide
theorem kB_65 : (Int8.ofInt (65)).toInt32 = (65 : Int32) := by decide
theorem kB_66 : (Int8.ofInt (66)).toInt32 = (66 : Int32) := by decide
theorem kB_67 : (Int8.ofInt (67)).toInt32 = (67 : Int32) := by decide
theorem kB_68 : (Int8.ofInt (68)).toInt32 = (68 : Int32) := by decide
theorem kB_69 : (Int8.ofInt (69)).toInt32 = (69 : Int32) := by decide
theorem kB_70 : (Int8.ofInt (70)).toInt32 = (70 : Int32) := by decide
theorem kB_80 : (Int8.ofInt (80)).toInt32 = (80 : Int32) := by decide
theorem kB_97 : (Int8.ofInt (97)).toInt32 = (97 : Int32) := by decide
theorem kB_98 : (Int8.ofInt (98)).toInt32 = (98 : Int32) := by decide
theorem kB_99 : (Int8.ofInt (99)).toInt32 = (99 : Int32) := by decide
theorem kB_100 : (Int8.ofInt (100)).toInt32 = (100 : Int32) := by decide
theorem kB_101 : (Int8.ofInt (101)).toInt32 = (101 : Int32) := by decide
theorem kB_102 : (Int8.ofInt (102)).toInt32 = (102 : Int32) := by decide
theorem kB_105 : (Int8.ofInt (105)).toInt32 = (105 : Int32) := by decide
theorem kB_108 : (Int8.ofInt (108)).toInt32 = (108 : Int32) := by decide
theorem kB_109 : (Int8.ofInt (109)).toInt32 = (109 : Int32) := by decide
theorem kB_110 : (Int8.ofInt (110)).toInt32 = (110 : Int32) := by decide
theorem kB_111 : (Int8.ofInt (111)).toInt32 = (111 : Int32) := by decide
theorem kB_112 : (Int8.ofInt (112)).toInt32 = (112 : Int32) := by decide
theorem kB_114 : (Int8.ofInt (114)).toInt32 = (114 : Int32) := by decide
theorem kB_115 : (Int8.ofInt (115)).toInt32 = (115 : Int32) := by decide
theorem kB_116 : (Int8.ofInt (116)).toInt32 = (116 : Int32) := by decide
theorem kB_117 : (Int8.ofInt (117)).toInt32 = (117 : Int32) := by decide
theorem kB_118 : (Int8.ofInt (118)).toInt32 = (118 : Int32) := by decide
theorem kB_119 : (Int8.ofInt (119)).toInt32 = (119 : Int32) := by decide
theorem kB_120 : (Int8.ofInt (120)).toInt32 = (120 : Int32) := by decide
theorem kB_122 : (Int8.ofInt (122)).toInt32 = (122 : Int32) := by decide
theorem kB_127 : (Int8.ofInt (127)).toInt32 = (127 : Int32) := by decide
theorem kI_m1 : Int32.ofInt (-1) = (-1 : Int32) := by decide
theorem kI_0 : Int32.ofInt (0) = (0 : Int32) := by decide
theorem kI_1 : Int32.ofInt (1) = (1 : Int32) := by decide
theorem kI_2 : Int32.ofInt (2) = (2 : Int32) := by decide
theorem kI_3 : Int32.ofInt (3) = (3 : Int32) := by decide
theorem kI_4 : Int32.ofInt (4) = (4 : Int32) := by decide
theorem kI_5 : Int32.ofInt (5) = (5 : Int32) := by decide
theorem kI_6 : Int32.ofInt (6) = (6 : Int32) := by decide
theorem kL_0 : Int64.ofNat ((0 : Fin 2) : Nat) = (0 : Int64) := by decide
theorem kL_1 : Int64.ofNat ((1 : Fin 2) : Nat) = (1 : Int64) := by decide
theorem kS_m3000 : (Int16.ofInt (-3000)).toInt32 = (-3000 : Int32) := by decide
theorem kS_128 : (Int16.ofInt (128)).toInt32 = (128 : Int32) := by decide
theorem kS_132 : (Int16.ofInt (132)).toInt32 = (132 : Int32) := by decide
theorem kS_133 : (Int16.ofInt (133)).toInt32 = (133 : Int32) := by decide
theorem kS_134 : (Int16.ofInt (134)).toInt32 = (134 : Int32) := by decide
theorem kS_143 : (Int16.ofInt (143)).toInt32 = (143 : Int32) := by decide
theorem kS_145 : (Int16.ofInt (145)).toInt32 = (145 : Int32) := by decide
theorem kS_149 : (Int16.ofInt (149)).toInt32 = (149 : Int32) := by decide
theorem kS_160 : (Int16.ofInt (160)).toInt32 = (160 : Int32) := by decide
theorem kS_200 : (Int16.ofInt (200)).toInt32 = (200 : Int32) := by decide
theorem kS_255 : (Int16.ofInt (255)).toInt32 = (255 : Int32) := by decide
theorem kS_287 : (Int16.ofInt (287)).toInt32 = (287 : Int32) := by decide
theorem kS_288 : (Int16.ofInt (288)).toInt32 = (288 : Int32) := by decide
theorem kS_300 : (Int16.ofInt (300)).toInt32 = (300 : Int32) := by decide
theorem kS_320 : (Int16.ofInt (320)).toInt32 = (320 : Int32) := by decide
theorem kS_400 : (Int16.ofInt (400)).toInt32 = (400 : Int32) := by decide
theorem kS_500 : (Int16.ofInt (500)).toInt32 = (500 : Int32) := by decide
theorem kS_576 : (Int16.ofInt (576)).toInt32 = (576 : Int32) := by decide
theorem kS_600 : (Int16.ofInt (600)).toInt32 = (600 : Int32) := by decide
theorem kS_800 : (Int16.ofInt (800)).toInt32 = (800 : Int32) := by decide
theorem kS_864 : (Int16.ofInt (864)).toInt32 = (864 : Int32) := by decide
theorem kS_896 : (Int16.ofInt (896)).toInt32 = (896 : Int32) := by decide
theorem kS_900 : (Int16.ofInt (900)).toInt32 = (900 : Int32) := by decide
theorem kS_999 : (Int16.ofInt (999)).toInt32 = (999 : Int32) := by decide
theorem kS_1000 : (Int16.ofInt (1000)).toInt32 = (1000 : Int32) := by decide
theorem kS_2880 : (Int16.ofInt (2880)).toInt32 = (2880 : Int32) := by decide
theorem kS_5376 : (Int16.ofInt (5376)).toInt32 = (5376 : Int32) := by decide
theorem kS_9000 : (Int16.ofInt (9000)).toInt32 = (9000 : Int32) := by decide
theorem kS_9999 : (Int16.ofInt (9999)).toInt32 = (9999 : Int32) := by decide
theorem kN_0 : (0 : Int32).toNatClampNeg = 0 := by decide
theorem kT_0 : (0 : Int32).toInt = ((0 : Nat) : Int) := by decide
theorem kN_1 : (1 : Int32).toNatClampNeg = 1 := by decide
theorem kT_1 : (1 : Int32).toInt = ((1 : Nat) : Int) := by decide
theorem kN_2 : (2 : Int32).toNatClampNeg = 2 := by decide
theorem kT_2 : (2 : Int32).toInt = ((2 : Nat) : Int) := by decide
theorem kN_3 : (3 : Int32).toNatClampNeg = 3 := by decide
theorem kT_3 : (3 : Int32).toInt = ((3 : Nat) : Int) := by decide
theorem kN_4 : (4 : Int32).toNatClampNeg = 4 := by decide
theorem kT_4 : (4 : Int32).toInt = ((4 : Nat) : Int) := by decide
theorem kN_5 : (5 : Int32).toNatClampNeg = 5 := by decide
theorem kT_5 : (5 : Int32).toInt = ((5 : Nat) : Int) := by decide
theorem kN_6 : (6 : Int32).toNatClampNeg = 6 := by decide
theorem kT_6 : (6 : Int32).toInt = ((6 : Nat) : Int) := by decide
theorem kN_7 : (7 : Int32).toNatClampNeg = 7 := by decide
theorem kT_7 : (7 : Int32).toInt = ((7 : Nat) : Int) := by decide
theorem kN_8 : (8 : Int32).toNatClampNeg = 8 := by decide
theorem kT_8 : (8 : Int32).toInt = ((8 : Nat) : Int) := by decide
theorem kN_9 : (9 : Int32).toNatClampNeg = 9 := by decide
theorem kT_9 : (9 : Int32).toInt = ((9 : Nat) : Int) := by decide
theorem kN_10 : (10 : Int32).toNatClampNeg = 10 := by decide
theorem kT_10 : (10 : Int32).toInt = ((10 : Nat) : Int) := by decide
theorem kN_11 : (11 : Int32).toNatClampNeg = 11 := by decide
theorem kT_11 : (11 : Int32).toInt = ((11 : Nat) : Int) := by decide
theorem kN_12 : (12 : Int32).toNatClampNeg = 12 := by decide
theorem kT_12 : (12 : Int32).toInt = ((12 : Nat) : Int) := by decide
theorem kN_13 : (13 : Int32).toNatClampNeg = 13 := by decide
theorem kT_13 : (13 : Int32).toInt = ((13 : Nat) : Int) := by decide
theorem kN_14 : (14 : Int32).toNatClampNeg = 14 := by decide
theorem kT_14 : (14 : Int32).toInt = ((14 : Nat) : Int) := by decide
theorem kN_15 : (15 : Int32).toNatClampNeg = 15 := by decide
theorem kT_15 : (15 : Int32).toInt = ((15 : Nat) : Int) := by decide
theorem kN_16 : (16 : Int32).toNatClampNeg = 16 := by decide
theorem kT_16 : (16 : Int32).toInt = ((16 : Nat) : Int) := by decide
theorem kN_17 : (17 : Int32).toNatClampNeg = 17 := by decide
theorem kT_17 : (17 : Int32).toInt = ((17 : Nat) : Int) := by decide
theorem kN_18 : (18 : Int32).toNatClampNeg = 18 := by decide
theorem kT_18 : (18 : Int32).toInt = ((18 : Nat) : Int) := by decide
theorem kN_19 : (19 : Int32).toNatClampNeg = 19 := by decide
theorem kT_19 : (19 : Int32).toInt = ((19 : Nat) : Int) := by decide
theorem kN_20 : (20 : Int32).toNatClampNeg = 20 := by decide
theorem kT_20 : (20 : Int32).toInt = ((20 : Nat) : Int) := by decide
theorem kN_21 : (21 : Int32).toNatClampNeg = 21 := by decide
theorem kT_21 : (21 : Int32).toInt = ((21 : Nat) : Int) := by decide
theorem kN_22 : (22 : Int32).toNatClampNeg = 22 := by decide
theorem kT_22 : (22 : Int32).toInt = ((22 : Nat) : Int) := by decide
theorem kN_23 : (23 : Int32).toNatClampNeg = 23 := by decide
theorem kT_23 : (23 : Int32).toInt = ((23 : Nat) : Int) := by decide
theorem kN_24 : (24 : Int32).toNatClampNeg = 24 := by decide
theorem kT_24 : (24 : Int32).toInt = ((24 : Nat) : Int) := by decide
theorem kN_25 : (25 : Int32).toNatClampNeg = 25 := by decide
theorem kT_25 : (25 : Int32).toInt = ((25 : Nat) : Int) := by decide
theorem kN_26 : (26 : Int32).toNatClampNeg = 26 := by decide
theorem kT_26 : (26 : Int32).toInt = ((26 : Nat) : Int) := by decide
theorem kN_27 : (27 : Int32).toNatClampNeg = 27 := by decide
theorem kT_27 : (27 : Int32).toInt = ((27 : Nat) : Int) := by decide
theorem kN_28 : (28 : Int32).toNatClampNeg = 28 := by decide
theorem kT_28 : (28 : Int32).toInt = ((28 : Nat) : Int) := by decide
theorem kN_29 : (29 : Int32).toNatClampNeg = 29 := by decide
theorem kT_29 : (29 : Int32).toInt = ((29 : Nat) : Int) := by decide
theorem kN_30 : (30 : Int32).toNatClampNeg = 30 := by decide
theorem kT_30 : (30 : Int32).toInt = ((30 : Nat) : Int) := by decide
theorem kN_31 : (31 : Int32).toNatClampNeg = 31 := by decide
theorem kT_31 : (31 : Int32).toInt = ((31 : Nat) : Int) := by decide
theorem kN_32 : (32 : Int32).toNatClampNeg = 32 := by decide
theorem kT_32 : (32 : Int32).toInt = ((32 : Nat) : Int) := by decide
theorem kN_33 : (33 : Int32).toNatClampNeg = 33 := by decide
theorem kT_33 : (33 : Int32).toInt = ((33 : Nat) : Int) := by decide
theorem kN_34 : (34 : Int32).toNatClampNeg = 34 := by decide
theorem kT_34 : (34 : Int32).toInt = ((34 : Nat) : Int) := by decide
theorem kN_35 : (35 : Int32).toNatClampNeg = 35 := by decide
theorem kT_35 : (35 : Int32).toInt = ((35 : Nat) : Int) := by decide
theorem kN_36 : (36 : Int32).toNatClampNeg = 36 := by decide
theorem kT_36 : (36 : Int32).toInt = ((36 : Nat) : Int) := by decide
theorem kN_37 : (37 : Int32).toNatClampNeg = 37 := by decide
theorem kT_37 : (37 : Int32).toInt = ((37 : Nat) : Int) := by decide
theorem kN_38 : (38 : Int32).toNatClampNeg = 38 := by decide
theorem kT_38 : (38 : Int32).toInt = ((38 : Nat) : Int) := by decide
theorem kN_39 : (39 : Int32).toNatClampNeg = 39 := by decide
theorem kT_39 : (39 : Int32).toInt = ((39 : Nat) : Int) := by decide
theorem kN_40 : (40 : Int32).toNatClampNeg = 40 := by decide
theorem kT_40 : (40 : Int32).toInt = ((40 : Nat) : Int) := by decide
theorem kN_44 : (44 : Int32).toNatClampNeg = 44 := by decide
theorem kT_44 : (44 : Int32).toInt = ((44 : Nat) : Int) := by decide
theorem kN_45 : (45 : Int32).toNatClampNeg = 45 := by decide
theorem kT_45 : (45 : Int32).toInt = ((45 : Nat) : Int) := by decide
theorem kN_48 : (48 : Int32).toNatClampNeg = 48 := by decide
theorem kT_48 : (48 : Int32).toInt = ((48 : Nat) : Int) := by decide
theorem kN_50 : (50 : Int32).toNatClampNeg = 50 := by decide
theorem kT_50 : (50 : Int32).toInt = ((50 : Nat) : Int) := by decide
theorem kN_52 : (52 : Int32).toNatClampNeg = 52 := by decide
theorem kT_52 : (52 : Int32).toInt = ((52 : Nat) : Int) := by decide
theorem kN_53 : (53 : Int32).toNatClampNeg = 53 := by decide
theorem kT_53 : (53 : Int32).toInt = ((53 : Nat) : Int) := by decide
theorem kN_54 : (54 : Int32).toNatClampNeg = 54 := by decide
theorem kT_54 : (54 : Int32).toInt = ((54 : Nat) : Int) := by decide
theorem kN_55 : (55 : Int32).toNatClampNeg = 55 := by decide
theorem kT_55 : (55 : Int32).toInt = ((55 : Nat) : Int) := by decide
theorem kN_56 : (56 : Int32).toNatClampNeg = 56 := by decide
theorem kT_56 : (56 : Int32).toInt = ((56 : Nat) : Int) := by decide
theorem kN_57 : (57 : Int32).toNatClampNeg = 57 := by decide
theorem kT_57 : (57 : Int32).toInt = ((57 : Nat) : Int) := by decide
theorem kN_58 : (58 : Int32).toNatClampNeg = 58 := by decide
theorem kT_58 : (58 : Int32).toInt = ((58 : Nat) : Int) := by decide
theorem kN_59 : (59 : Int32).toNatClampNeg = 59 := by decide
theorem kT_59 : (59 : Int32).toInt = ((59 : Nat) : Int) := by decide
theorem kN_60 : (60 : Int32).toNatClampNeg = 60 := by decide
theorem kT_60 : (60 : Int32).toInt = ((60 : Nat) : Int) := by decide
theorem kN_61 : (61 : Int32).toNatClampNeg = 61 := by decide
theorem kT_61 : (61 : Int32).toInt = ((61 : Nat) : Int) := by decide
theorem kN_62 : (62 : Int32).toNatClampNeg = 62 := by decide
theorem kT_62 : (62 : Int32).toInt = ((62 : Nat) : Int) := by decide
theorem kN_63 : (63 : Int32).toNatClampNeg = 63 := by decide
theorem kT_63 : (63 : Int32).toInt = ((63 : Nat) : Int) := by decide
theorem kN_64 : (64 : Int32).toNatClampNeg = 64 := by decide
theorem kT_64 : (64 : Int32).toInt = ((64 : Nat) : Int) := by decide
theorem kN_65 : (65 : Int32).toNatClampNeg = 65 := by decide
theorem kT_65 : (65 : Int32).toInt = ((65 : Nat) : Int) := by decide
theorem kN_66 : (66 : Int32).toNatClampNeg = 66 := by decide
theorem kT_66 : (66 : Int32).toInt = ((66 : Nat) : Int) := by decide
theorem kN_67 : (67 : Int32).toNatClampNeg = 67 := by decide
theorem kT_67 : (67 : Int32).toInt = ((67 : Nat) : Int) := by decide
theorem kN_68 : (68 : Int32).toNatClampNeg = 68 := by decide
theorem kT_68 : (68 : Int32).toInt = ((68 : Nat) : Int) := by decide
theorem kN_69 : (69 : Int32).toNatClampNeg = 69 := by decide
theorem kT_69 : (69 : Int32).toInt = ((69 : Nat) : Int) := by decide
theorem kN_70 : (70 : Int32).toNatClampNeg = 70 := by decide
theorem kT_70 : (70 : Int32).toInt = ((70 : Nat) : Int) := by decide
theorem kN_80 : (80 : Int32).toNatClampNeg = 80 := by decide
theorem kT_80 : (80 : Int32).toInt = ((80 : Nat) : Int) := by decide
theorem kN_97 : (97 : Int32).toNatClampNeg = 97 := by decide
theorem kT_97 : (97 : Int32).toInt = ((97 : Nat) : Int) := by decide
theorem kN_98 : (98 : Int32).toNatClampNeg = 98 := by decide
theorem kT_98 : (98 : Int32).toInt = ((98 : Nat) : Int) := by decide
theorem kN_99 : (99 : Int32).toNatClampNeg = 99 := by decide
theorem kT_99 : (99 : Int32).toInt = ((99 : Nat) : Int) := by decide
theorem kN_100 : (100 : Int32).toNatClampNeg = 100 := by decide
theorem kT_100 : (100 : Int32).toInt = ((100 : Nat) : Int) := by decide
theorem kN_101 : (101 : Int32).toNatClampNeg = 101 := by decide
theorem kT_101 : (101 : Int32).toInt = ((101 : Nat) : Int) := by decide
theorem kN_102 : (102 : Int32).toNatClampNeg = 102 := by decide
theorem kT_102 : (102 : Int32).toInt = ((102 : Nat) : Int) := by decide
theorem kN_105 : (105 : Int32).toNatClampNeg = 105 := by decide
theorem kT_105 : (105 : Int32).toInt = ((105 : Nat) : Int) := by decide
theorem kN_108 : (108 : Int32).toNatClampNeg = 108 := by decide
theorem kT_108 : (108 : Int32).toInt = ((108 : Nat) : Int) := by decide
theorem kN_109 : (109 : Int32).toNatClampNeg = 109 := by decide
theorem kT_109 : (109 : Int32).toInt = ((109 : Nat) : Int) := by decide
theorem kN_110 : (110 : Int32).toNatClampNeg = 110 := by decide
theorem kT_110 : (110 : Int32).toInt = ((110 : Nat) : Int) := by decide
theorem kN_111 : (111 : Int32).toNatClampNeg = 111 := by decide
theorem kT_111 : (111 : Int32).toInt = ((111 : Nat) : Int) := by decide
theorem kN_112 : (112 : Int32).toNatClampNeg = 112 := by decide
theorem kT_112 : (112 : Int32).toInt = ((112 : Nat) : Int) := by decide
theorem kN_114 : (114 : Int32).toNatClampNeg = 114 := by decide
theorem kT_114 : (114 : Int32).toInt = ((114 : Nat) : Int) := by decide
theorem kN_115 : (115 : Int32).toNatClampNeg = 115 := by decide
theorem kT_115 : (115 : Int32).toInt = ((115 : Nat) : Int) := by decide
theorem kN_116 : (116 : Int32).toNatClampNeg = 116 := by decide
theorem kT_116 : (116 : Int32).toInt = ((116 : Nat) : Int) := by decide
theorem kN_117 : (117 : Int32).toNatClampNeg = 117 := by decide
theorem kT_117 : (117 : Int32).toInt = ((117 : Nat) : Int) := by decide
theorem kN_118 : (118 : Int32).toNatClampNeg = 118 := by decide
theorem kT_118 : (118 : Int32).toInt = ((118 : Nat) : Int) := by decide
theorem kN_119 : (119 : Int32).toNatClampNeg = 119 := by decide
theorem kT_119 : (119 : Int32).toInt = ((119 : Nat) : Int) := by decide
theorem kN_120 : (120 : Int32).toNatClampNeg = 120 := by decide
theorem kT_120 : (120 : Int32).toInt = ((120 : Nat) : Int) := by decide
theorem kN_122 : (122 : Int32).toNatClampNeg = 122 := by decide
theorem kT_122 : (122 : Int32).toInt = ((122 : Nat) : Int) := by decide
theorem kN_127 : (127 : Int32).toNatClampNeg = 127 := by decide
theorem kT_127 : (127 : Int32).toInt = ((127 : Nat) : Int) := by decide
theorem kN_128 : (128 : Int32).toNatClampNeg = 128 := by decide
theorem kT_128 : (128 : Int32).toInt = ((128 : Nat) : Int) := by decide
theorem kN_132 : (132 : Int32).toNatClampNeg = 132 := by decide
theorem kT_132 : (132 : Int32).toInt = ((132 : Nat) : Int) := by decide
theorem kN_133 : (133 : Int32).toNatClampNeg = 133 := by decide
theorem kT_133 : (133 : Int32).toInt = ((133 : Nat) : Int) := by decide
theorem kN_134 : (134 : Int32).toNatClampNeg = 134 := by decide
theorem kT_134 : (134 : Int32).toInt = ((134 : Nat) : Int) := by decide
theorem kN_143 : (143 : Int32).toNatClampNeg = 143 := by decide
theorem kT_143 : (143 : Int32).toInt = ((143 : Nat) : Int) := by decide
theorem kN_145 : (145 : Int32).toNatClampNeg = 145 := by decide
theorem kT_145 : (145 : Int32).toInt = ((145 : Nat) : Int) := by decide
theorem kN_149 : (149 : Int32).toNatClampNeg = 149 := by decide
theorem kT_149 : (149 : Int32).toInt = ((149 : Nat) : Int) := by decide
theorem kN_160 : (160 : Int32).toNatClampNeg = 160 := by decide
theorem kT_160 : (160 : Int32).toInt = ((160 : Nat) : Int) := by decide
theorem kN_200 : (200 : Int32).toNatClampNeg = 200 := by decide
theorem kT_200 : (200 : Int32).toInt = ((200 : Nat) : Int) := by decide
theorem kN_255 : (255 : Int32).toNatClampNeg = 255 := by decide
theorem kT_255 : (255 : Int32).toInt = ((255 : Nat) : Int) := by decide
theorem kN_287 : (287 : Int32).toNatClampNeg = 287 := by decide
theorem kT_287 : (287 : Int32).toInt = ((287 : Nat) : Int) := by decide
theorem kN_288 : (288 : Int32).toNatClampNeg = 288 := by decide
theorem kT_288 : (288 : Int32).toInt = ((288 : Nat) : Int) := by decide
theorem kN_300 : (300 : Int32).toNatClampNeg = 300 := by decide
theorem kT_300 : (300 : Int32).toInt = ((300 : Nat) : Int) := by decide
theorem kN_320 : (320 : Int32).toNatClampNeg = 320 := by decide
theorem kT_320 : (320 : Int32).toInt = ((320 : Nat) : Int) := by decide
theorem kN_400 : (400 : Int32).toNatClampNeg = 400 := by decide
theorem kT_400 : (400 : Int32).toInt = ((400 : Nat) : Int) := by decide
theorem kN_500 : (500 : Int32).toNatClampNeg = 500 := by decide
theorem kT_500 : (500 : Int32).toInt = ((500 : Nat) : Int) := by decide
theorem kN_576 : (576 : Int32).toNatClampNeg = 576 := by decide
theorem kT_576 : (576 : Int32).toInt = ((576 : Nat) : Int) := by decide
theorem kN_600 : (600 : Int32).toNatClampNeg = 600 := by decide
theorem kT_600 : (600 : Int32).toInt = ((600 : Nat) : Int) := by decide
theorem kN_800 : (800 : Int32).toNatClampNeg = 800 := by decide
theorem kT_800 : (800 : Int32).toInt = ((800 : Nat) : Int) := by decide
theorem kN_864 : (864 : Int32).toNatClampNeg = 864 := by decide
theorem kT_864 : (864 : Int32).toInt = ((864 : Nat) : Int) := by decide
theorem kN_896 : (896 : Int32).toNatClampNeg = 896 := by decide
theorem kT_896 : (896 : Int32).toInt = ((896 : Nat) : Int) := by decide
theorem kN_900 : (900 : Int32).toNatClampNeg = 900 := by decide
theorem kT_900 : (900 : Int32).toInt = ((900 : Nat) : Int) := by decide
theorem kN_999 : (999 : Int32).toNatClampNeg = 999 := by decide
theorem kT_999 : (999 : Int32).toInt = ((999 : Nat) : Int) := by decide
theorem kN_1000 : (1000 : Int32).toNatClampNeg = 1000 := by decide
theorem kT_1000 : (1000 : Int32).toInt = ((1000 : Nat) : Int) := by decide
theorem kN_2880 : (2880 : Int32).toNatClampNeg = 2880 := by decide
theorem kT_2880 : (2880 : Int32).toInt = ((2880 : Nat) : Int) := by decide
theorem kN_5376 : (5376 : Int32).toNatClampNeg = 5376 := by decide
theorem kT_5376 : (5376 : Int32).toInt = ((5376 : Nat) : Int) := by decide
theorem kN_9000 : (9000 : Int32).toNatClampNeg = 9000 := by decide
theorem kT_9000 : (9000 : Int32).toInt = ((9000 : Nat) : Int) := by decide
theorem kN_9999 : (9999 : Int32).toNatClampNeg = 9999 := by decide
theorem kT_9999 : (9999 : Int32).toInt = ((9999 : Nat) : Int) := by decide
def Db {P E R : Type} (f : P → Except E R) [∀ p r, Decidable (f p = .ok r)] : List (P × R) → Bool
  | [] => true
  | p :: r => decide (f p.1 = .ok p.2) && Db f r
abbrev Dl {P E R : Type} (f : P → Except E R) [∀ p r, Decidable (f p = .ok r)] (l : List (P × R)) : Prop := Db f l = true
theorem Dl.h {P E R : Type} {f : P → Except E R} [∀ p r, Decidable (f p = .ok r)] {p : P × R} {r : List (P × R)} (h : Dl f (p :: r)) : f p.1 = .ok p.2 := by
  simp only [Dl, Db, Bool.and_eq_true, decide_eq_true_eq] at h; exact h.1
theorem Dl.t {P E R : Type} {f : P → Except E R} [∀ p r, Decidable (f p = .ok r)] {p : P × R} {r : List (P × R)} (h : Dl f (p :: r)) : Dl f r := by
  simp only [Dl, Db, Bool.and_eq_true, decide_eq_true_eq] at h; exact h.2
theorem Dl.at {P E R : Type} {f : P → Except E R} [∀ p r, Decidable (f p = .ok r)] {p : P} {q : R} : ∀ {l : List (P × R)} (_ : Dl f l) (n : Nat) (_ : l[n]? = some (p, q)), f p = .ok q
  | [], _, n, e => by simp at e
  | x :: r, h, 0, e => by
    simp only [List.getElem?_cons_zero, Option.some.injEq] at e
    have := h.h; rw [e] at this; exact this
  | x :: r, h, n + 1, e => by
    simp only [List.getElem?_cons_succ] at e
    exact Dl.at h.t n e
