/-! the shape of the fixed cells -/
def shTl : List (Nat × Nat) := [(13, 21), (104, 6), (104, 4), (1, 3), (1, 3), (1, 3), (1, 3), (1, 3), (1, 3), (3, 4), (1, 3), (100, 300), (100, 300), (9, 9), (100, 3), (100, 3), (100, 24), (100, 24), (100, 24), (100, 3), (100, 24), (8, 4), (100, 12), (106, 9), (100, 13), (100, 13), (100, 13), (100, 13), (100, 13), (100, 13), (100, 13), (100, 13), (100, 13), (106, 8), (100, 13), (100, 13), (100, 13), (100, 13), (100, 13), (100, 13), (100, 13), (100, 13), (100, 3), (100, 3), (100, 6), (10, 2), (100, 40), (10, 2), (100, 40), (10, 2), (100, 40), (10, 2), (100, 40), (10, 2), (100, 40), (10, 2), (100, 40), (10, 2), (100, 40), (10, 2), (100, 40), (10, 2), (100, 40), (10, 2), (100, 40), (14, 70), (100, 6), (100, 6), (100, 240), (100, 40), (100, 4), (101, 160), (100, 24), (100, 24), (102, 24), (100, 24), (100, 24), (100, 24), (100, 24), (100, 24), (100, 60), (100, 60), (100, 60), (100, 60), (100, 16), (100, 16), (100, 64), (100, 4), (100, 24), (100, 24), (100, 24), (100, 24), (100, 24), (100, 24), (100, 3), (100, 3), (100, 40), (100, 40), (100, 40), (100, 3), (100, 24), (100, 24), (100, 20), (100, 20), (100, 20), (100, 20), (100, 20), (100, 20), (100, 20), (102, 10000), (102, 10000), (103, 117), (100, 12), (100, 12), (100, 12)]
def shAl : List (Nat × Nat × Nat) := [(0, 0, 1), (0, 1, 2), (0, 2, 3), (0, 3, 4), (0, 4, 5), (0, 5, 6), (0, 6, 7), (0, 7, 8), (0, 8, 9), (0, 9, 13), (0, 10, 21), (0, 11, 42), (0, 12, 43), (0, 13, 44), (1, 0, 45), (1, 1, 47), (1, 2, 49), (1, 3, 51), (1, 4, 53), (1, 5, 55), (2, 0, 57), (2, 1, 59), (2, 2, 61), (2, 3, 63), (9, 0, 10), (13, 0, 14), (13, 1, 15), (13, 2, 16), (13, 5, 17), (13, 6, 18), (13, 7, 19), (13, 8, 20), (21, 1, 22), (21, 2, 23), (21, 3, 33), (23, 0, 24), (23, 1, 25), (23, 2, 26), (23, 3, 27), (23, 4, 28), (23, 5, 29), (23, 6, 30), (23, 7, 31), (23, 8, 32), (33, 0, 34), (33, 1, 35), (33, 2, 36), (33, 3, 37), (33, 4, 38), (33, 5, 39), (33, 6, 40), (33, 7, 41), (45, 1, 46), (47, 1, 48), (49, 1, 50), (51, 1, 52), (53, 1, 54), (55, 1, 56), (57, 1, 58), (59, 1, 60), (61, 1, 62), (63, 1, 64), (65, 1, 66), (65, 5, 67), (65, 6, 68), (65, 7, 69), (65, 8, 70), (65, 9, 71), (65, 14, 72), (65, 15, 73), (65, 16, 74), (65, 17, 75), (65, 18, 76), (65, 19, 77), (65, 20, 78), (65, 21, 79), (65, 23, 80), (65, 24, 81), (65, 25, 82), (65, 26, 83), (65, 28, 84), (65, 29, 85), (65, 30, 86), (65, 31, 87), (65, 33, 88), (65, 34, 89), (65, 35, 90), (65, 36, 91), (65, 37, 92), (65, 38, 93), (65, 39, 94), (65, 40, 95), (65, 42, 96), (65, 43, 97), (65, 44, 98), (65, 45, 99), (65, 47, 100), (65, 48, 101), (65, 50, 102), (65, 51, 103), (65, 52, 104), (65, 53, 105), (65, 54, 106), (65, 55, 107), (65, 56, 108), (65, 57, 109), (65, 58, 110), (65, 61, 111), (65, 63, 112), (65, 65, 113), (65, 66, 114)]
def Shp (x : Nat) (h : XH) : Prop := (∀ j, j < 115 → xT h (x + j) = shTl.getD j (0, 0)) ∧ (∀ p ∈ shAl, xA h (x + p.1) p.2.1 = some (x + p.2.2))
theorem st_0 {x : Nat} {h : XH} (hs : Shp x h) : xT h x = (13, 21) := hs.1 0 (by decide)
theorem st_1 {x : Nat} {h : XH} (hs : Shp x h) : xT h (x + 1) = (104, 6) := hs.1 1 (by decide)
theorem st_2 {x : Nat} {h : XH} (hs : Shp x h) : xT h (x + 2) = (104, 4) := hs.1 2 (by decide)
theorem st_3 {x : Nat} {h : XH} (hs : Shp x h) : xT h (x + 3) = (1, 3) := hs.1 3 (by decide)
theorem st_4 {x : Nat} {h : XH} (hs : Shp x h) : xT h (x + 4) = (1, 3) := hs.1 4 (by decide)
theorem st_5 {x : Nat} {h : XH} (hs : Shp x h) : xT h (x + 5) = (1, 3) := hs.1 5 (by decide)
theorem st_6 {x : Nat} {h : XH} (hs : Shp x h) : xT h (x + 6) = (1, 3) := hs.1 6 (by decide)
theorem st_7 {x : Nat} {h : XH} (hs : Shp x h) : xT h (x + 7) = (1, 3) := hs.1 7 (by decide)
theorem st_8 {x : Nat} {h : XH} (hs : Shp x h) : xT h (x + 8) = (1, 3) := hs.1 8 (by decide)
theorem st_9 {x : Nat} {h : XH} (hs : Shp x h) : xT h (x + 9) = (3, 4) := hs.1 9 (by decide)
theorem st_10 {x : Nat} {h : XH} (hs : Shp x h) : xT h (x + 10) = (1, 3) := hs.1 10 (by decide)
theorem st_11 {x : Nat} {h : XH} (hs : Shp x h) : xT h (x + 11) = (100, 300) := hs.1 11 (by decide)
theorem st_12 {x : Nat} {h : XH} (hs : Shp x h) : xT h (x + 12) = (100, 300) := hs.1 12 (by decide)
theorem st_13 {x : Nat} {h : XH} (hs : Shp x h) : xT h (x + 13) = (9, 9) := hs.1 13 (by decide)
theorem st_14 {x : Nat} {h : XH} (hs : Shp x h) : xT h (x + 14) = (100, 3) := hs.1 14 (by decide)
theorem st_15 {x : Nat} {h : XH} (hs : Shp x h) : xT h (x + 15) = (100, 3) := hs.1 15 (by decide)
theorem st_16 {x : Nat} {h : XH} (hs : Shp x h) : xT h (x + 16) = (100, 24) := hs.1 16 (by decide)
theorem st_17 {x : Nat} {h : XH} (hs : Shp x h) : xT h (x + 17) = (100, 24) := hs.1 17 (by decide)
theorem st_18 {x : Nat} {h : XH} (hs : Shp x h) : xT h (x + 18) = (100, 24) := hs.1 18 (by decide)
theorem st_19 {x : Nat} {h : XH} (hs : Shp x h) : xT h (x + 19) = (100, 3) := hs.1 19 (by decide)
theorem st_20 {x : Nat} {h : XH} (hs : Shp x h) : xT h (x + 20) = (100, 24) := hs.1 20 (by decide)
theorem st_21 {x : Nat} {h : XH} (hs : Shp x h) : xT h (x + 21) = (8, 4) := hs.1 21 (by decide)
theorem st_22 {x : Nat} {h : XH} (hs : Shp x h) : xT h (x + 22) = (100, 12) := hs.1 22 (by decide)
theorem st_23 {x : Nat} {h : XH} (hs : Shp x h) : xT h (x + 23) = (106, 9) := hs.1 23 (by decide)
theorem st_24 {x : Nat} {h : XH} (hs : Shp x h) : xT h (x + 24) = (100, 13) := hs.1 24 (by decide)
theorem st_25 {x : Nat} {h : XH} (hs : Shp x h) : xT h (x + 25) = (100, 13) := hs.1 25 (by decide)
theorem st_26 {x : Nat} {h : XH} (hs : Shp x h) : xT h (x + 26) = (100, 13) := hs.1 26 (by decide)
theorem st_27 {x : Nat} {h : XH} (hs : Shp x h) : xT h (x + 27) = (100, 13) := hs.1 27 (by decide)
theorem st_28 {x : Nat} {h : XH} (hs : Shp x h) : xT h (x + 28) = (100, 13) := hs.1 28 (by decide)
theorem st_29 {x : Nat} {h : XH} (hs : Shp x h) : xT h (x + 29) = (100, 13) := hs.1 29 (by decide)
theorem st_30 {x : Nat} {h : XH} (hs : Shp x h) : xT h (x + 30) = (100, 13) := hs.1 30 (by decide)
theorem st_31 {x : Nat} {h : XH} (hs : Shp x h) : xT h (x + 31) = (100, 13) := hs.1 31 (by decide)
theorem st_32 {x : Nat} {h : XH} (hs : Shp x h) : xT h (x + 32) = (100, 13) := hs.1 32 (by decide)
theorem st_33 {x : Nat} {h : XH} (hs : Shp x h) : xT h (x + 33) = (106, 8) := hs.1 33 (by decide)
theorem st_34 {x : Nat} {h : XH} (hs : Shp x h) : xT h (x + 34) = (100, 13) := hs.1 34 (by decide)
theorem st_35 {x : Nat} {h : XH} (hs : Shp x h) : xT h (x + 35) = (100, 13) := hs.1 35 (by decide)
theorem st_36 {x : Nat} {h : XH} (hs : Shp x h) : xT h (x + 36) = (100, 13) := hs.1 36 (by decide)
theorem st_37 {x : Nat} {h : XH} (hs : Shp x h) : xT h (x + 37) = (100, 13) := hs.1 37 (by decide)
theorem st_38 {x : Nat} {h : XH} (hs : Shp x h) : xT h (x + 38) = (100, 13) := hs.1 38 (by decide)
theorem st_39 {x : Nat} {h : XH} (hs : Shp x h) : xT h (x + 39) = (100, 13) := hs.1 39 (by decide)
theorem st_40 {x : Nat} {h : XH} (hs : Shp x h) : xT h (x + 40) = (100, 13) := hs.1 40 (by decide)
theorem st_41 {x : Nat} {h : XH} (hs : Shp x h) : xT h (x + 41) = (100, 13) := hs.1 41 (by decide)
theorem st_42 {x : Nat} {h : XH} (hs : Shp x h) : xT h (x + 42) = (100, 3) := hs.1 42 (by decide)
theorem st_43 {x : Nat} {h : XH} (hs : Shp x h) : xT h (x + 43) = (100, 3) := hs.1 43 (by decide)
theorem st_44 {x : Nat} {h : XH} (hs : Shp x h) : xT h (x + 44) = (100, 6) := hs.1 44 (by decide)
theorem st_45 {x : Nat} {h : XH} (hs : Shp x h) : xT h (x + 45) = (10, 2) := hs.1 45 (by decide)
theorem st_46 {x : Nat} {h : XH} (hs : Shp x h) : xT h (x + 46) = (100, 40) := hs.1 46 (by decide)
theorem st_47 {x : Nat} {h : XH} (hs : Shp x h) : xT h (x + 47) = (10, 2) := hs.1 47 (by decide)
theorem st_48 {x : Nat} {h : XH} (hs : Shp x h) : xT h (x + 48) = (100, 40) := hs.1 48 (by decide)
theorem st_49 {x : Nat} {h : XH} (hs : Shp x h) : xT h (x + 49) = (10, 2) := hs.1 49 (by decide)
theorem st_50 {x : Nat} {h : XH} (hs : Shp x h) : xT h (x + 50) = (100, 40) := hs.1 50 (by decide)
theorem st_51 {x : Nat} {h : XH} (hs : Shp x h) : xT h (x + 51) = (10, 2) := hs.1 51 (by decide)
theorem st_52 {x : Nat} {h : XH} (hs : Shp x h) : xT h (x + 52) = (100, 40) := hs.1 52 (by decide)
theorem st_53 {x : Nat} {h : XH} (hs : Shp x h) : xT h (x + 53) = (10, 2) := hs.1 53 (by decide)
theorem st_54 {x : Nat} {h : XH} (hs : Shp x h) : xT h (x + 54) = (100, 40) := hs.1 54 (by decide)
theorem st_55 {x : Nat} {h : XH} (hs : Shp x h) : xT h (x + 55) = (10, 2) := hs.1 55 (by decide)
theorem st_56 {x : Nat} {h : XH} (hs : Shp x h) : xT h (x + 56) = (100, 40) := hs.1 56 (by decide)
theorem st_57 {x : Nat} {h : XH} (hs : Shp x h) : xT h (x + 57) = (10, 2) := hs.1 57 (by decide)
theorem st_58 {x : Nat} {h : XH} (hs : Shp x h) : xT h (x + 58) = (100, 40) := hs.1 58 (by decide)
theorem st_59 {x : Nat} {h : XH} (hs : Shp x h) : xT h (x + 59) = (10, 2) := hs.1 59 (by decide)
theorem st_60 {x : Nat} {h : XH} (hs : Shp x h) : xT h (x + 60) = (100, 40) := hs.1 60 (by decide)
theorem st_61 {x : Nat} {h : XH} (hs : Shp x h) : xT h (x + 61) = (10, 2) := hs.1 61 (by decide)
theorem st_62 {x : Nat} {h : XH} (hs : Shp x h) : xT h (x + 62) = (100, 40) := hs.1 62 (by decide)
theorem st_63 {x : Nat} {h : XH} (hs : Shp x h) : xT h (x + 63) = (10, 2) := hs.1 63 (by decide)
theorem st_64 {x : Nat} {h : XH} (hs : Shp x h) : xT h (x + 64) = (100, 40) := hs.1 64 (by decide)
theorem st_65 {x : Nat} {h : XH} (hs : Shp x h) : xT h (x + 65) = (14, 70) := hs.1 65 (by decide)
theorem st_66 {x : Nat} {h : XH} (hs : Shp x h) : xT h (x + 66) = (100, 6) := hs.1 66 (by decide)
theorem st_67 {x : Nat} {h : XH} (hs : Shp x h) : xT h (x + 67) = (100, 6) := hs.1 67 (by decide)
theorem st_68 {x : Nat} {h : XH} (hs : Shp x h) : xT h (x + 68) = (100, 240) := hs.1 68 (by decide)
theorem st_69 {x : Nat} {h : XH} (hs : Shp x h) : xT h (x + 69) = (100, 40) := hs.1 69 (by decide)
theorem st_70 {x : Nat} {h : XH} (hs : Shp x h) : xT h (x + 70) = (100, 4) := hs.1 70 (by decide)
theorem st_71 {x : Nat} {h : XH} (hs : Shp x h) : xT h (x + 71) = (101, 160) := hs.1 71 (by decide)
theorem st_72 {x : Nat} {h : XH} (hs : Shp x h) : xT h (x + 72) = (100, 24) := hs.1 72 (by decide)
theorem st_73 {x : Nat} {h : XH} (hs : Shp x h) : xT h (x + 73) = (100, 24) := hs.1 73 (by decide)
theorem st_74 {x : Nat} {h : XH} (hs : Shp x h) : xT h (x + 74) = (102, 24) := hs.1 74 (by decide)
theorem st_75 {x : Nat} {h : XH} (hs : Shp x h) : xT h (x + 75) = (100, 24) := hs.1 75 (by decide)
theorem st_76 {x : Nat} {h : XH} (hs : Shp x h) : xT h (x + 76) = (100, 24) := hs.1 76 (by decide)
theorem st_77 {x : Nat} {h : XH} (hs : Shp x h) : xT h (x + 77) = (100, 24) := hs.1 77 (by decide)
theorem st_78 {x : Nat} {h : XH} (hs : Shp x h) : xT h (x + 78) = (100, 24) := hs.1 78 (by decide)
theorem st_79 {x : Nat} {h : XH} (hs : Shp x h) : xT h (x + 79) = (100, 24) := hs.1 79 (by decide)
theorem st_80 {x : Nat} {h : XH} (hs : Shp x h) : xT h (x + 80) = (100, 60) := hs.1 80 (by decide)
theorem st_81 {x : Nat} {h : XH} (hs : Shp x h) : xT h (x + 81) = (100, 60) := hs.1 81 (by decide)
theorem st_82 {x : Nat} {h : XH} (hs : Shp x h) : xT h (x + 82) = (100, 60) := hs.1 82 (by decide)
theorem st_83 {x : Nat} {h : XH} (hs : Shp x h) : xT h (x + 83) = (100, 60) := hs.1 83 (by decide)
theorem st_84 {x : Nat} {h : XH} (hs : Shp x h) : xT h (x + 84) = (100, 16) := hs.1 84 (by decide)
theorem st_85 {x : Nat} {h : XH} (hs : Shp x h) : xT h (x + 85) = (100, 16) := hs.1 85 (by decide)
theorem st_86 {x : Nat} {h : XH} (hs : Shp x h) : xT h (x + 86) = (100, 64) := hs.1 86 (by decide)
theorem st_87 {x : Nat} {h : XH} (hs : Shp x h) : xT h (x + 87) = (100, 4) := hs.1 87 (by decide)
theorem st_88 {x : Nat} {h : XH} (hs : Shp x h) : xT h (x + 88) = (100, 24) := hs.1 88 (by decide)
theorem st_89 {x : Nat} {h : XH} (hs : Shp x h) : xT h (x + 89) = (100, 24) := hs.1 89 (by decide)
theorem st_90 {x : Nat} {h : XH} (hs : Shp x h) : xT h (x + 90) = (100, 24) := hs.1 90 (by decide)
theorem st_91 {x : Nat} {h : XH} (hs : Shp x h) : xT h (x + 91) = (100, 24) := hs.1 91 (by decide)
theorem st_92 {x : Nat} {h : XH} (hs : Shp x h) : xT h (x + 92) = (100, 24) := hs.1 92 (by decide)
theorem st_93 {x : Nat} {h : XH} (hs : Shp x h) : xT h (x + 93) = (100, 24) := hs.1 93 (by decide)
theorem st_94 {x : Nat} {h : XH} (hs : Shp x h) : xT h (x + 94) = (100, 3) := hs.1 94 (by decide)
theorem st_95 {x : Nat} {h : XH} (hs : Shp x h) : xT h (x + 95) = (100, 3) := hs.1 95 (by decide)
theorem st_96 {x : Nat} {h : XH} (hs : Shp x h) : xT h (x + 96) = (100, 40) := hs.1 96 (by decide)
theorem st_97 {x : Nat} {h : XH} (hs : Shp x h) : xT h (x + 97) = (100, 40) := hs.1 97 (by decide)
theorem st_98 {x : Nat} {h : XH} (hs : Shp x h) : xT h (x + 98) = (100, 40) := hs.1 98 (by decide)
theorem st_99 {x : Nat} {h : XH} (hs : Shp x h) : xT h (x + 99) = (100, 3) := hs.1 99 (by decide)
theorem st_100 {x : Nat} {h : XH} (hs : Shp x h) : xT h (x + 100) = (100, 24) := hs.1 100 (by decide)
theorem st_101 {x : Nat} {h : XH} (hs : Shp x h) : xT h (x + 101) = (100, 24) := hs.1 101 (by decide)
theorem st_102 {x : Nat} {h : XH} (hs : Shp x h) : xT h (x + 102) = (100, 20) := hs.1 102 (by decide)
theorem st_103 {x : Nat} {h : XH} (hs : Shp x h) : xT h (x + 103) = (100, 20) := hs.1 103 (by decide)
theorem st_104 {x : Nat} {h : XH} (hs : Shp x h) : xT h (x + 104) = (100, 20) := hs.1 104 (by decide)
theorem st_105 {x : Nat} {h : XH} (hs : Shp x h) : xT h (x + 105) = (100, 20) := hs.1 105 (by decide)
theorem st_106 {x : Nat} {h : XH} (hs : Shp x h) : xT h (x + 106) = (100, 20) := hs.1 106 (by decide)
theorem st_107 {x : Nat} {h : XH} (hs : Shp x h) : xT h (x + 107) = (100, 20) := hs.1 107 (by decide)
theorem st_108 {x : Nat} {h : XH} (hs : Shp x h) : xT h (x + 108) = (100, 20) := hs.1 108 (by decide)
theorem st_109 {x : Nat} {h : XH} (hs : Shp x h) : xT h (x + 109) = (102, 10000) := hs.1 109 (by decide)
theorem st_110 {x : Nat} {h : XH} (hs : Shp x h) : xT h (x + 110) = (102, 10000) := hs.1 110 (by decide)
theorem st_111 {x : Nat} {h : XH} (hs : Shp x h) : xT h (x + 111) = (103, 117) := hs.1 111 (by decide)
theorem st_112 {x : Nat} {h : XH} (hs : Shp x h) : xT h (x + 112) = (100, 12) := hs.1 112 (by decide)
theorem st_113 {x : Nat} {h : XH} (hs : Shp x h) : xT h (x + 113) = (100, 12) := hs.1 113 (by decide)
theorem st_114 {x : Nat} {h : XH} (hs : Shp x h) : xT h (x + 114) = (100, 12) := hs.1 114 (by decide)
theorem sa_0_0 {x : Nat} {h : XH} (hs : Shp x h) : xA h x 0 = some (x + 1) := hs.2 (0, 0, 1) (by decide)
theorem sa_0_1 {x : Nat} {h : XH} (hs : Shp x h) : xA h x 1 = some (x + 2) := hs.2 (0, 1, 2) (by decide)
theorem sa_0_2 {x : Nat} {h : XH} (hs : Shp x h) : xA h x 2 = some (x + 3) := hs.2 (0, 2, 3) (by decide)
theorem sa_0_3 {x : Nat} {h : XH} (hs : Shp x h) : xA h x 3 = some (x + 4) := hs.2 (0, 3, 4) (by decide)
theorem sa_0_4 {x : Nat} {h : XH} (hs : Shp x h) : xA h x 4 = some (x + 5) := hs.2 (0, 4, 5) (by decide)
theorem sa_0_5 {x : Nat} {h : XH} (hs : Shp x h) : xA h x 5 = some (x + 6) := hs.2 (0, 5, 6) (by decide)
theorem sa_0_6 {x : Nat} {h : XH} (hs : Shp x h) : xA h x 6 = some (x + 7) := hs.2 (0, 6, 7) (by decide)
theorem sa_0_7 {x : Nat} {h : XH} (hs : Shp x h) : xA h x 7 = some (x + 8) := hs.2 (0, 7, 8) (by decide)
theorem sa_0_8 {x : Nat} {h : XH} (hs : Shp x h) : xA h x 8 = some (x + 9) := hs.2 (0, 8, 9) (by decide)
theorem sa_0_9 {x : Nat} {h : XH} (hs : Shp x h) : xA h x 9 = some (x + 13) := hs.2 (0, 9, 13) (by decide)
theorem sa_0_10 {x : Nat} {h : XH} (hs : Shp x h) : xA h x 10 = some (x + 21) := hs.2 (0, 10, 21) (by decide)
theorem sa_0_11 {x : Nat} {h : XH} (hs : Shp x h) : xA h x 11 = some (x + 42) := hs.2 (0, 11, 42) (by decide)
theorem sa_0_12 {x : Nat} {h : XH} (hs : Shp x h) : xA h x 12 = some (x + 43) := hs.2 (0, 12, 43) (by decide)
theorem sa_0_13 {x : Nat} {h : XH} (hs : Shp x h) : xA h x 13 = some (x + 44) := hs.2 (0, 13, 44) (by decide)
theorem sa_9_0 {x : Nat} {h : XH} (hs : Shp x h) : xA h (x + 9) 0 = some (x + 10) := hs.2 (9, 0, 10) (by decide)
theorem sa_13_0 {x : Nat} {h : XH} (hs : Shp x h) : xA h (x + 13) 0 = some (x + 14) := hs.2 (13, 0, 14) (by decide)
theorem sa_13_1 {x : Nat} {h : XH} (hs : Shp x h) : xA h (x + 13) 1 = some (x + 15) := hs.2 (13, 1, 15) (by decide)
theorem sa_13_2 {x : Nat} {h : XH} (hs : Shp x h) : xA h (x + 13) 2 = some (x + 16) := hs.2 (13, 2, 16) (by decide)
theorem sa_13_5 {x : Nat} {h : XH} (hs : Shp x h) : xA h (x + 13) 5 = some (x + 17) := hs.2 (13, 5, 17) (by decide)
theorem sa_13_6 {x : Nat} {h : XH} (hs : Shp x h) : xA h (x + 13) 6 = some (x + 18) := hs.2 (13, 6, 18) (by decide)
theorem sa_13_7 {x : Nat} {h : XH} (hs : Shp x h) : xA h (x + 13) 7 = some (x + 19) := hs.2 (13, 7, 19) (by decide)
theorem sa_13_8 {x : Nat} {h : XH} (hs : Shp x h) : xA h (x + 13) 8 = some (x + 20) := hs.2 (13, 8, 20) (by decide)
theorem sa_21_1 {x : Nat} {h : XH} (hs : Shp x h) : xA h (x + 21) 1 = some (x + 22) := hs.2 (21, 1, 22) (by decide)
theorem sa_21_2 {x : Nat} {h : XH} (hs : Shp x h) : xA h (x + 21) 2 = some (x + 23) := hs.2 (21, 2, 23) (by decide)
theorem sa_21_3 {x : Nat} {h : XH} (hs : Shp x h) : xA h (x + 21) 3 = some (x + 33) := hs.2 (21, 3, 33) (by decide)
theorem sa_45_1 {x : Nat} {h : XH} (hs : Shp x h) : xA h (x + 45) 1 = some (x + 46) := hs.2 (45, 1, 46) (by decide)
theorem sa_47_1 {x : Nat} {h : XH} (hs : Shp x h) : xA h (x + 47) 1 = some (x + 48) := hs.2 (47, 1, 48) (by decide)
theorem sa_49_1 {x : Nat} {h : XH} (hs : Shp x h) : xA h (x + 49) 1 = some (x + 50) := hs.2 (49, 1, 50) (by decide)
theorem sa_51_1 {x : Nat} {h : XH} (hs : Shp x h) : xA h (x + 51) 1 = some (x + 52) := hs.2 (51, 1, 52) (by decide)
theorem sa_53_1 {x : Nat} {h : XH} (hs : Shp x h) : xA h (x + 53) 1 = some (x + 54) := hs.2 (53, 1, 54) (by decide)
theorem sa_55_1 {x : Nat} {h : XH} (hs : Shp x h) : xA h (x + 55) 1 = some (x + 56) := hs.2 (55, 1, 56) (by decide)
theorem sa_57_1 {x : Nat} {h : XH} (hs : Shp x h) : xA h (x + 57) 1 = some (x + 58) := hs.2 (57, 1, 58) (by decide)
theorem sa_59_1 {x : Nat} {h : XH} (hs : Shp x h) : xA h (x + 59) 1 = some (x + 60) := hs.2 (59, 1, 60) (by decide)
theorem sa_61_1 {x : Nat} {h : XH} (hs : Shp x h) : xA h (x + 61) 1 = some (x + 62) := hs.2 (61, 1, 62) (by decide)
theorem sa_63_1 {x : Nat} {h : XH} (hs : Shp x h) : xA h (x + 63) 1 = some (x + 64) := hs.2 (63, 1, 64) (by decide)
theorem sa_65_1 {x : Nat} {h : XH} (hs : Shp x h) : xA h (x + 65) 1 = some (x + 66) := hs.2 (65, 1, 66) (by decide)
theorem sa_65_5 {x : Nat} {h : XH} (hs : Shp x h) : xA h (x + 65) 5 = some (x + 67) := hs.2 (65, 5, 67) (by decide)
theorem sa_65_6 {x : Nat} {h : XH} (hs : Shp x h) : xA h (x + 65) 6 = some (x + 68) := hs.2 (65, 6, 68) (by decide)
theorem sa_65_7 {x : Nat} {h : XH} (hs : Shp x h) : xA h (x + 65) 7 = some (x + 69) := hs.2 (65, 7, 69) (by decide)
theorem sa_65_8 {x : Nat} {h : XH} (hs : Shp x h) : xA h (x + 65) 8 = some (x + 70) := hs.2 (65, 8, 70) (by decide)
theorem sa_65_9 {x : Nat} {h : XH} (hs : Shp x h) : xA h (x + 65) 9 = some (x + 71) := hs.2 (65, 9, 71) (by decide)
theorem sa_65_14 {x : Nat} {h : XH} (hs : Shp x h) : xA h (x + 65) 14 = some (x + 72) := hs.2 (65, 14, 72) (by decide)
theorem sa_65_15 {x : Nat} {h : XH} (hs : Shp x h) : xA h (x + 65) 15 = some (x + 73) := hs.2 (65, 15, 73) (by decide)
theorem sa_65_16 {x : Nat} {h : XH} (hs : Shp x h) : xA h (x + 65) 16 = some (x + 74) := hs.2 (65, 16, 74) (by decide)
theorem sa_65_17 {x : Nat} {h : XH} (hs : Shp x h) : xA h (x + 65) 17 = some (x + 75) := hs.2 (65, 17, 75) (by decide)
theorem sa_65_18 {x : Nat} {h : XH} (hs : Shp x h) : xA h (x + 65) 18 = some (x + 76) := hs.2 (65, 18, 76) (by decide)
theorem sa_65_19 {x : Nat} {h : XH} (hs : Shp x h) : xA h (x + 65) 19 = some (x + 77) := hs.2 (65, 19, 77) (by decide)
theorem sa_65_20 {x : Nat} {h : XH} (hs : Shp x h) : xA h (x + 65) 20 = some (x + 78) := hs.2 (65, 20, 78) (by decide)
theorem sa_65_21 {x : Nat} {h : XH} (hs : Shp x h) : xA h (x + 65) 21 = some (x + 79) := hs.2 (65, 21, 79) (by decide)
theorem sa_65_23 {x : Nat} {h : XH} (hs : Shp x h) : xA h (x + 65) 23 = some (x + 80) := hs.2 (65, 23, 80) (by decide)
theorem sa_65_24 {x : Nat} {h : XH} (hs : Shp x h) : xA h (x + 65) 24 = some (x + 81) := hs.2 (65, 24, 81) (by decide)
theorem sa_65_25 {x : Nat} {h : XH} (hs : Shp x h) : xA h (x + 65) 25 = some (x + 82) := hs.2 (65, 25, 82) (by decide)
theorem sa_65_26 {x : Nat} {h : XH} (hs : Shp x h) : xA h (x + 65) 26 = some (x + 83) := hs.2 (65, 26, 83) (by decide)
theorem sa_65_28 {x : Nat} {h : XH} (hs : Shp x h) : xA h (x + 65) 28 = some (x + 84) := hs.2 (65, 28, 84) (by decide)
theorem sa_65_29 {x : Nat} {h : XH} (hs : Shp x h) : xA h (x + 65) 29 = some (x + 85) := hs.2 (65, 29, 85) (by decide)
theorem sa_65_30 {x : Nat} {h : XH} (hs : Shp x h) : xA h (x + 65) 30 = some (x + 86) := hs.2 (65, 30, 86) (by decide)
theorem sa_65_31 {x : Nat} {h : XH} (hs : Shp x h) : xA h (x + 65) 31 = some (x + 87) := hs.2 (65, 31, 87) (by decide)
theorem sa_65_33 {x : Nat} {h : XH} (hs : Shp x h) : xA h (x + 65) 33 = some (x + 88) := hs.2 (65, 33, 88) (by decide)
theorem sa_65_34 {x : Nat} {h : XH} (hs : Shp x h) : xA h (x + 65) 34 = some (x + 89) := hs.2 (65, 34, 89) (by decide)
theorem sa_65_35 {x : Nat} {h : XH} (hs : Shp x h) : xA h (x + 65) 35 = some (x + 90) := hs.2 (65, 35, 90) (by decide)
theorem sa_65_36 {x : Nat} {h : XH} (hs : Shp x h) : xA h (x + 65) 36 = some (x + 91) := hs.2 (65, 36, 91) (by decide)
theorem sa_65_37 {x : Nat} {h : XH} (hs : Shp x h) : xA h (x + 65) 37 = some (x + 92) := hs.2 (65, 37, 92) (by decide)
theorem sa_65_38 {x : Nat} {h : XH} (hs : Shp x h) : xA h (x + 65) 38 = some (x + 93) := hs.2 (65, 38, 93) (by decide)
theorem sa_65_39 {x : Nat} {h : XH} (hs : Shp x h) : xA h (x + 65) 39 = some (x + 94) := hs.2 (65, 39, 94) (by decide)
theorem sa_65_40 {x : Nat} {h : XH} (hs : Shp x h) : xA h (x + 65) 40 = some (x + 95) := hs.2 (65, 40, 95) (by decide)
theorem sa_65_42 {x : Nat} {h : XH} (hs : Shp x h) : xA h (x + 65) 42 = some (x + 96) := hs.2 (65, 42, 96) (by decide)
theorem sa_65_43 {x : Nat} {h : XH} (hs : Shp x h) : xA h (x + 65) 43 = some (x + 97) := hs.2 (65, 43, 97) (by decide)
theorem sa_65_44 {x : Nat} {h : XH} (hs : Shp x h) : xA h (x + 65) 44 = some (x + 98) := hs.2 (65, 44, 98) (by decide)
theorem sa_65_45 {x : Nat} {h : XH} (hs : Shp x h) : xA h (x + 65) 45 = some (x + 99) := hs.2 (65, 45, 99) (by decide)
theorem sa_65_47 {x : Nat} {h : XH} (hs : Shp x h) : xA h (x + 65) 47 = some (x + 100) := hs.2 (65, 47, 100) (by decide)
theorem sa_65_48 {x : Nat} {h : XH} (hs : Shp x h) : xA h (x + 65) 48 = some (x + 101) := hs.2 (65, 48, 101) (by decide)
theorem sa_65_50 {x : Nat} {h : XH} (hs : Shp x h) : xA h (x + 65) 50 = some (x + 102) := hs.2 (65, 50, 102) (by decide)
theorem sa_65_51 {x : Nat} {h : XH} (hs : Shp x h) : xA h (x + 65) 51 = some (x + 103) := hs.2 (65, 51, 103) (by decide)
theorem sa_65_52 {x : Nat} {h : XH} (hs : Shp x h) : xA h (x + 65) 52 = some (x + 104) := hs.2 (65, 52, 104) (by decide)
theorem sa_65_53 {x : Nat} {h : XH} (hs : Shp x h) : xA h (x + 65) 53 = some (x + 105) := hs.2 (65, 53, 105) (by decide)
theorem sa_65_54 {x : Nat} {h : XH} (hs : Shp x h) : xA h (x + 65) 54 = some (x + 106) := hs.2 (65, 54, 106) (by decide)
theorem sa_65_55 {x : Nat} {h : XH} (hs : Shp x h) : xA h (x + 65) 55 = some (x + 107) := hs.2 (65, 55, 107) (by decide)
theorem sa_65_56 {x : Nat} {h : XH} (hs : Shp x h) : xA h (x + 65) 56 = some (x + 108) := hs.2 (65, 56, 108) (by decide)
theorem sa_65_57 {x : Nat} {h : XH} (hs : Shp x h) : xA h (x + 65) 57 = some (x + 109) := hs.2 (65, 57, 109) (by decide)
theorem sa_65_58 {x : Nat} {h : XH} (hs : Shp x h) : xA h (x + 65) 58 = some (x + 110) := hs.2 (65, 58, 110) (by decide)
theorem sa_65_61 {x : Nat} {h : XH} (hs : Shp x h) : xA h (x + 65) 61 = some (x + 111) := hs.2 (65, 61, 111) (by decide)
theorem sa_65_63 {x : Nat} {h : XH} (hs : Shp x h) : xA h (x + 65) 63 = some (x + 112) := hs.2 (65, 63, 112) (by decide)
theorem sa_65_65 {x : Nat} {h : XH} (hs : Shp x h) : xA h (x + 65) 65 = some (x + 113) := hs.2 (65, 65, 113) (by decide)
theorem sa_65_66 {x : Nat} {h : XH} (hs : Shp x h) : xA h (x + 65) 66 = some (x + 114) := hs.2 (65, 66, 114) (by decide)
theorem st_r {x : Nat} {h : XH} (hs : Shp x h) {q : Nat} (hq : q < 10) : xT h (x + (45 + 2 * q)) = (10, 2) := by
  rcases q with _ | _ | _ | _ | _ | _ | _ | _ | _ | _ | q
  · exact st_45 hs
  · exact st_47 hs
  · exact st_49 hs
  · exact st_51 hs
  · exact st_53 hs
  · exact st_55 hs
  · exact st_57 hs
  · exact st_59 hs
  · exact st_61 hs
  · exact st_63 hs
  · omega
theorem st_p {x : Nat} {h : XH} (hs : Shp x h) {q : Nat} (hq : q < 10) : xT h (x + (46 + 2 * q)) = (100, 40) := by
  rcases q with _ | _ | _ | _ | _ | _ | _ | _ | _ | _ | q
  · exact st_46 hs
  · exact st_48 hs
  · exact st_50 hs
  · exact st_52 hs
  · exact st_54 hs
  · exact st_56 hs
  · exact st_58 hs
  · exact st_60 hs
  · exact st_62 hs
  · exact st_64 hs
  · omega
theorem sa_p {x : Nat} {h : XH} (hs : Shp x h) {q : Nat} (hq : q < 10) : xA h (x + (45 + 2 * q)) 1 = some (x + (46 + 2 * q)) := by
  rcases q with _ | _ | _ | _ | _ | _ | _ | _ | _ | _ | q
  · exact sa_45_1 hs
  · exact sa_47_1 hs
  · exact sa_49_1 hs
  · exact sa_51_1 hs
  · exact sa_53_1 hs
  · exact sa_55_1 hs
  · exact sa_57_1 hs
  · exact sa_59_1 hs
  · exact sa_61_1 hs
  · exact sa_63_1 hs
  · omega
theorem sa_r {x : Nat} {h : XH} (hs : Shp x h) {q : Nat} (hq : q < 6) : xA h (x + 1) q = some (x + (45 + 2 * q)) := by
  rcases q with _ | _ | _ | _ | _ | _ | q
  · exact hs.2 (1, 0, 45) (by decide)
  · exact hs.2 (1, 1, 47) (by decide)
  · exact hs.2 (1, 2, 49) (by decide)
  · exact hs.2 (1, 3, 51) (by decide)
  · exact hs.2 (1, 4, 53) (by decide)
  · exact hs.2 (1, 5, 55) (by decide)
  · omega
theorem sa_t {x : Nat} {h : XH} (hs : Shp x h) {q : Nat} (hq : q < 4) : xA h (x + 2) q = some (x + (45 + 2 * (6 + q))) := by
  rcases q with _ | _ | _ | _ | q
  · exact hs.2 (2, 0, 57) (by decide)
  · exact hs.2 (2, 1, 59) (by decide)
  · exact hs.2 (2, 2, 61) (by decide)
  · exact hs.2 (2, 3, 63) (by decide)
  · omega
theorem sa_few {x : Nat} {h : XH} (hs : Shp x h) {q : Nat} (hq : q < 9) : xA h (x + 23) q = some (x + (24 + q)) := by
  rcases q with _ | _ | _ | _ | _ | _ | _ | _ | _ | q
  · exact hs.2 (23, 0, 24) (by decide)
  · exact hs.2 (23, 1, 25) (by decide)
  · exact hs.2 (23, 2, 26) (by decide)
  · exact hs.2 (23, 3, 27) (by decide)
  · exact hs.2 (23, 4, 28) (by decide)
  · exact hs.2 (23, 5, 29) (by decide)
  · exact hs.2 (23, 6, 30) (by decide)
  · exact hs.2 (23, 7, 31) (by decide)
  · exact hs.2 (23, 8, 32) (by decide)
  · omega
theorem sa_end {x : Nat} {h : XH} (hs : Shp x h) {q : Nat} (hq : q < 8) : xA h (x + 33) q = some (x + (34 + q)) := by
  rcases q with _ | _ | _ | _ | _ | _ | _ | _ | q
  · exact hs.2 (33, 0, 34) (by decide)
  · exact hs.2 (33, 1, 35) (by decide)
  · exact hs.2 (33, 2, 36) (by decide)
  · exact hs.2 (33, 3, 37) (by decide)
  · exact hs.2 (33, 4, 38) (by decide)
  · exact hs.2 (33, 5, 39) (by decide)
  · exact hs.2 (33, 6, 40) (by decide)
  · exact hs.2 (33, 7, 41) (by decide)
  · omega
theorem st_few {x : Nat} {h : XH} (hs : Shp x h) {q : Nat} (hq : q < 9) : xT h (x + (24 + q)) = (100, 13) := by
  rcases q with _ | _ | _ | _ | _ | _ | _ | _ | _ | q
  · exact st_24 hs
  · exact st_25 hs
  · exact st_26 hs
  · exact st_27 hs
  · exact st_28 hs
  · exact st_29 hs
  · exact st_30 hs
  · exact st_31 hs
  · exact st_32 hs
  · omega
theorem st_end {x : Nat} {h : XH} (hs : Shp x h) {q : Nat} (hq : q < 8) : xT h (x + (34 + q)) = (100, 13) := by
  rcases q with _ | _ | _ | _ | _ | _ | _ | _ | q
  · exact st_34 hs
  · exact st_35 hs
  · exact st_36 hs
  · exact st_37 hs
  · exact st_38 hs
  · exact st_39 hs
  · exact st_40 hs
  · exact st_41 hs
  · omega

