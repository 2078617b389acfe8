/-! SHAPES: which cell has which id. 1 the script, 2 RANKS, 3 SIGNS, 4 .. 15 the literals; 20 .. 84 the class, 100 .. 134 the reference; 200 + m, 230 + m message m and its kept twin; 300 + k (310, 320, 330) orders k and their rows, the draft being orders no. -/
def shT : List (Nat × Nat) := [(30, 0), (30, 0), (30, 0), (30, 0), (31, 0), (31, 0), (31, 0), (31, 0), (31, 0), (31, 0), (31, 0), (31, 0), (31, 0), (31, 0), (31, 0), (31, 0), (0, 0), (0, 0), (0, 0), (0, 0), (12, 0), (5, 0), (20, 8), (20, 8), (20, 12), (20, 12), (20, 12), (21, 12), (9, 0), (20, 12), (20, 12), (20, 12), (9, 0), (20, 6), (20, 6), (20, 6), (20, 8), (3, 0), (6, 0), (20, 5), (20, 5), (20, 8), (26, 6), (7, 0), (25, 24), (25, 24), (11, 0), (23, 160), (1, 0), (24, 16), (20, 16), (22, 39), (22, 39), (20, 40), (20, 16), (10, 0), (20, 8), (27, 8), (20, 7), (20, 7), (20, 7), (20, 7), (20, 7), (20, 7), (20, 7), (20, 7), (27, 8), (20, 7), (20, 7), (20, 7), (20, 7), (20, 7), (20, 7), (20, 7), (20, 7), (20, 8), (8, 0), (20, 72), (20, 3), (2, 0), (20, 6), (20, 6), (20, 6), (20, 6), (20, 6), (0, 0), (0, 0), (0, 0), (0, 0), (0, 0), (0, 0), (0, 0), (0, 0), (0, 0), (0, 0), (0, 0), (0, 0), (0, 0), (0, 0), (0, 0), (13, 0), (20, 8), (20, 8), (20, 12), (20, 12), (20, 12), (21, 12), (20, 36), (20, 18), (20, 144), (20, 144), (20, 144), (20, 8), (20, 160), (20, 30), (20, 6), (20, 180), (20, 48), (20, 16), (20, 128), (20, 8), (20, 40), (20, 40), (20, 41), (20, 41), (20, 26), (20, 8), (20, 56), (20, 56), (20, 72), (20, 6), (20, 6), (20, 6), (20, 6), (20, 6)]
def shX (nm no k : Nat) : Nat × Nat :=
  if k < 135 then shT.getD k (0, 0) else if 200 ≤ k ∧ k < 200 + nm then (4, 0) else if 230 ≤ k ∧ k < 230 + nm then (4, 0) else if 300 ≤ k ∧ k ≤ 300 + no then (6, 0)
  else if 310 ≤ k ∧ k ≤ 310 + no then (20, 5) else if 320 ≤ k ∧ k ≤ 320 + no then (20, 5) else if 330 ≤ k ∧ k ≤ 330 + no then (20, 8) else if 1000 ≤ k ∧ k < 1013 then (33, 0) else (0, 0)
def rT : List (Nat × Nat × Nat) := [(20, 0, 21), (20, 1, 37), (20, 2, 43), (20, 3, 46), (20, 4, 48), (20, 5, 55), (20, 6, 76), (20, 7, 79), (21, 0, 22), (21, 1, 23), (21, 2, 24), (21, 3, 25), (21, 4, 26), (21, 5, 27), (21, 6, 28), (21, 7, 32), (21, 8, 36), (28, 0, 29), (28, 1, 30), (28, 2, 31), (32, 0, 33), (32, 1, 34), (32, 2, 35), (37, 0, 38), (37, 1, 42), (38, 0, 39), (38, 1, 40), (38, 2, 41), (43, 0, 21), (43, 1, 37), (43, 2, 44), (43, 3, 45), (46, 0, 47), (48, 0, 49), (48, 1, 50), (48, 2, 51), (48, 3, 52), (48, 4, 53), (48, 5, 54), (55, 0, 56), (55, 1, 57), (55, 2, 66), (55, 3, 75), (57, 0, 58), (57, 1, 59), (57, 2, 60), (57, 3, 61), (57, 4, 62), (57, 5, 63), (57, 6, 64), (57, 7, 65), (66, 0, 67), (66, 1, 68), (66, 2, 69), (66, 3, 70), (66, 4, 71), (66, 5, 72), (66, 6, 73), (66, 7, 74), (76, 0, 77), (76, 1, 78), (79, 0, 80), (79, 1, 81), (79, 2, 82), (79, 3, 83), (79, 4, 84), (100, 1, 101), (100, 2, 102), (100, 4, 103), (100, 5, 104), (100, 6, 105), (100, 7, 106), (100, 9, 107), (100, 11, 108), (100, 14, 109), (100, 15, 110), (100, 16, 111), (100, 17, 112), (100, 19, 113), (100, 29, 114), (100, 30, 115), (100, 31, 116), (100, 32, 117), (100, 33, 118), (100, 34, 119), (100, 35, 120), (100, 36, 121), (100, 37, 122), (100, 38, 123), (100, 39, 124), (100, 40, 125), (100, 42, 126), (100, 43, 127), (100, 44, 128), (100, 45, 129), (100, 49, 130), (100, 50, 131), (100, 51, 132), (100, 52, 133), (100, 53, 134)]
def rS (o i : Nat) : Option Nat := (rT.find? (fun e => e.1 == o && e.2.1 == i)).map (fun e => e.2.2)
def RX (nm no : Nat) (o : Nat) (i : Int) : Option Nat :=
  if i < 0 then none else if o = 44 then (if i < nm then some (200 + i.toNat) else none) else if o = 45 then (if i < nm then some (230 + i.toNat) else none) else if o = 42 then (if i < no then some (300 + i.toNat) else none)
  else if o = 37 ∧ i = 2 then some (300 + no) else if 300 ≤ o ∧ o ≤ 300 + no then (if i < 3 then some (o + 10 + 10 * i.toNat) else none) else if o < 135 then rS o i.toNat else none
theorem sX_20 {nm no : Nat} : shX nm no 20 = (12, 0) := rfl
theorem oX_20 {nm no : Nat} : (shX nm no 20).1 = 11 + 1 := rfl
theorem sX_21 {nm no : Nat} : shX nm no 21 = (5, 0) := rfl
theorem oX_21 {nm no : Nat} : (shX nm no 21).1 = 4 + 1 := rfl
theorem sX_22 {nm no : Nat} : shX nm no 22 = (20, 8) := rfl
theorem sX_23 {nm no : Nat} : shX nm no 23 = (20, 8) := rfl
theorem sX_24 {nm no : Nat} : shX nm no 24 = (20, 12) := rfl
theorem sX_25 {nm no : Nat} : shX nm no 25 = (20, 12) := rfl
theorem sX_26 {nm no : Nat} : shX nm no 26 = (20, 12) := rfl
theorem sX_27 {nm no : Nat} : shX nm no 27 = (21, 12) := rfl
theorem sX_28 {nm no : Nat} : shX nm no 28 = (9, 0) := rfl
theorem oX_28 {nm no : Nat} : (shX nm no 28).1 = 8 + 1 := rfl
theorem sX_29 {nm no : Nat} : shX nm no 29 = (20, 12) := rfl
theorem sX_30 {nm no : Nat} : shX nm no 30 = (20, 12) := rfl
theorem sX_31 {nm no : Nat} : shX nm no 31 = (20, 12) := rfl
theorem sX_32 {nm no : Nat} : shX nm no 32 = (9, 0) := rfl
theorem oX_32 {nm no : Nat} : (shX nm no 32).1 = 8 + 1 := rfl
theorem sX_33 {nm no : Nat} : shX nm no 33 = (20, 6) := rfl
theorem sX_34 {nm no : Nat} : shX nm no 34 = (20, 6) := rfl
theorem sX_35 {nm no : Nat} : shX nm no 35 = (20, 6) := rfl
theorem sX_36 {nm no : Nat} : shX nm no 36 = (20, 8) := rfl
theorem sX_37 {nm no : Nat} : shX nm no 37 = (3, 0) := rfl
theorem oX_37 {nm no : Nat} : (shX nm no 37).1 = 2 + 1 := rfl
theorem sX_38 {nm no : Nat} : shX nm no 38 = (6, 0) := rfl
theorem oX_38 {nm no : Nat} : (shX nm no 38).1 = 5 + 1 := rfl
theorem sX_39 {nm no : Nat} : shX nm no 39 = (20, 5) := rfl
theorem sX_40 {nm no : Nat} : shX nm no 40 = (20, 5) := rfl
theorem sX_41 {nm no : Nat} : shX nm no 41 = (20, 8) := rfl
theorem sX_42 {nm no : Nat} : shX nm no 42 = (26, 6) := rfl
theorem sX_43 {nm no : Nat} : shX nm no 43 = (7, 0) := rfl
theorem oX_43 {nm no : Nat} : (shX nm no 43).1 = 6 + 1 := rfl
theorem sX_44 {nm no : Nat} : shX nm no 44 = (25, 24) := rfl
theorem sX_45 {nm no : Nat} : shX nm no 45 = (25, 24) := rfl
theorem sX_46 {nm no : Nat} : shX nm no 46 = (11, 0) := rfl
theorem oX_46 {nm no : Nat} : (shX nm no 46).1 = 10 + 1 := rfl
theorem sX_47 {nm no : Nat} : shX nm no 47 = (23, 160) := rfl
theorem sX_48 {nm no : Nat} : shX nm no 48 = (1, 0) := rfl
theorem oX_48 {nm no : Nat} : (shX nm no 48).1 = 0 + 1 := rfl
theorem sX_49 {nm no : Nat} : shX nm no 49 = (24, 16) := rfl
theorem sX_50 {nm no : Nat} : shX nm no 50 = (20, 16) := rfl
theorem sX_51 {nm no : Nat} : shX nm no 51 = (22, 39) := rfl
theorem sX_52 {nm no : Nat} : shX nm no 52 = (22, 39) := rfl
theorem sX_53 {nm no : Nat} : shX nm no 53 = (20, 40) := rfl
theorem sX_54 {nm no : Nat} : shX nm no 54 = (20, 16) := rfl
theorem sX_55 {nm no : Nat} : shX nm no 55 = (10, 0) := rfl
theorem oX_55 {nm no : Nat} : (shX nm no 55).1 = 9 + 1 := rfl
theorem sX_56 {nm no : Nat} : shX nm no 56 = (20, 8) := rfl
theorem sX_57 {nm no : Nat} : shX nm no 57 = (27, 8) := rfl
theorem sX_58 {nm no : Nat} : shX nm no 58 = (20, 7) := rfl
theorem sX_59 {nm no : Nat} : shX nm no 59 = (20, 7) := rfl
theorem sX_60 {nm no : Nat} : shX nm no 60 = (20, 7) := rfl
theorem sX_61 {nm no : Nat} : shX nm no 61 = (20, 7) := rfl
theorem sX_62 {nm no : Nat} : shX nm no 62 = (20, 7) := rfl
theorem sX_63 {nm no : Nat} : shX nm no 63 = (20, 7) := rfl
theorem sX_64 {nm no : Nat} : shX nm no 64 = (20, 7) := rfl
theorem sX_65 {nm no : Nat} : shX nm no 65 = (20, 7) := rfl
theorem sX_66 {nm no : Nat} : shX nm no 66 = (27, 8) := rfl
theorem sX_67 {nm no : Nat} : shX nm no 67 = (20, 7) := rfl
theorem sX_68 {nm no : Nat} : shX nm no 68 = (20, 7) := rfl
theorem sX_69 {nm no : Nat} : shX nm no 69 = (20, 7) := rfl
theorem sX_70 {nm no : Nat} : shX nm no 70 = (20, 7) := rfl
theorem sX_71 {nm no : Nat} : shX nm no 71 = (20, 7) := rfl
theorem sX_72 {nm no : Nat} : shX nm no 72 = (20, 7) := rfl
theorem sX_73 {nm no : Nat} : shX nm no 73 = (20, 7) := rfl
theorem sX_74 {nm no : Nat} : shX nm no 74 = (20, 7) := rfl
theorem sX_75 {nm no : Nat} : shX nm no 75 = (20, 8) := rfl
theorem sX_76 {nm no : Nat} : shX nm no 76 = (8, 0) := rfl
theorem oX_76 {nm no : Nat} : (shX nm no 76).1 = 7 + 1 := rfl
theorem sX_77 {nm no : Nat} : shX nm no 77 = (20, 72) := rfl
theorem sX_78 {nm no : Nat} : shX nm no 78 = (20, 3) := rfl
theorem sX_79 {nm no : Nat} : shX nm no 79 = (2, 0) := rfl
theorem oX_79 {nm no : Nat} : (shX nm no 79).1 = 1 + 1 := rfl
theorem sX_80 {nm no : Nat} : shX nm no 80 = (20, 6) := rfl
theorem sX_81 {nm no : Nat} : shX nm no 81 = (20, 6) := rfl
theorem sX_82 {nm no : Nat} : shX nm no 82 = (20, 6) := rfl
theorem sX_83 {nm no : Nat} : shX nm no 83 = (20, 6) := rfl
theorem sX_84 {nm no : Nat} : shX nm no 84 = (20, 6) := rfl
theorem sX_100 {nm no : Nat} : shX nm no 100 = (13, 0) := rfl
theorem oX_100 {nm no : Nat} : (shX nm no 100).1 = 12 + 1 := rfl
theorem sX_101 {nm no : Nat} : shX nm no 101 = (20, 8) := rfl
theorem sX_102 {nm no : Nat} : shX nm no 102 = (20, 8) := rfl
theorem sX_103 {nm no : Nat} : shX nm no 103 = (20, 12) := rfl
theorem sX_104 {nm no : Nat} : shX nm no 104 = (20, 12) := rfl
theorem sX_105 {nm no : Nat} : shX nm no 105 = (20, 12) := rfl
theorem sX_106 {nm no : Nat} : shX nm no 106 = (21, 12) := rfl
theorem sX_107 {nm no : Nat} : shX nm no 107 = (20, 36) := rfl
theorem sX_108 {nm no : Nat} : shX nm no 108 = (20, 18) := rfl
theorem sX_109 {nm no : Nat} : shX nm no 109 = (20, 144) := rfl
theorem sX_110 {nm no : Nat} : shX nm no 110 = (20, 144) := rfl
theorem sX_111 {nm no : Nat} : shX nm no 111 = (20, 144) := rfl
theorem sX_112 {nm no : Nat} : shX nm no 112 = (20, 8) := rfl
theorem sX_113 {nm no : Nat} : shX nm no 113 = (20, 160) := rfl
theorem sX_114 {nm no : Nat} : shX nm no 114 = (20, 30) := rfl
theorem sX_115 {nm no : Nat} : shX nm no 115 = (20, 6) := rfl
theorem sX_116 {nm no : Nat} : shX nm no 116 = (20, 180) := rfl
theorem sX_117 {nm no : Nat} : shX nm no 117 = (20, 48) := rfl
theorem sX_118 {nm no : Nat} : shX nm no 118 = (20, 16) := rfl
theorem sX_119 {nm no : Nat} : shX nm no 119 = (20, 128) := rfl
theorem sX_120 {nm no : Nat} : shX nm no 120 = (20, 8) := rfl
theorem sX_121 {nm no : Nat} : shX nm no 121 = (20, 40) := rfl
theorem sX_122 {nm no : Nat} : shX nm no 122 = (20, 40) := rfl
theorem sX_123 {nm no : Nat} : shX nm no 123 = (20, 41) := rfl
theorem sX_124 {nm no : Nat} : shX nm no 124 = (20, 41) := rfl
theorem sX_125 {nm no : Nat} : shX nm no 125 = (20, 26) := rfl
theorem sX_126 {nm no : Nat} : shX nm no 126 = (20, 8) := rfl
theorem sX_127 {nm no : Nat} : shX nm no 127 = (20, 56) := rfl
theorem sX_128 {nm no : Nat} : shX nm no 128 = (20, 56) := rfl
theorem sX_129 {nm no : Nat} : shX nm no 129 = (20, 72) := rfl
theorem sX_130 {nm no : Nat} : shX nm no 130 = (20, 6) := rfl
theorem sX_131 {nm no : Nat} : shX nm no 131 = (20, 6) := rfl
theorem sX_132 {nm no : Nat} : shX nm no 132 = (20, 6) := rfl
theorem sX_133 {nm no : Nat} : shX nm no 133 = (20, 6) := rfl
theorem sX_134 {nm no : Nat} : shX nm no 134 = (20, 6) := rfl
theorem rX_20_0 {nm no : Nat} : RX nm no 20 0 = some 21 := rfl
theorem rX_20_1 {nm no : Nat} : RX nm no 20 1 = some 37 := rfl
theorem rX_20_2 {nm no : Nat} : RX nm no 20 2 = some 43 := rfl
theorem rX_20_3 {nm no : Nat} : RX nm no 20 3 = some 46 := rfl
theorem rX_20_4 {nm no : Nat} : RX nm no 20 4 = some 48 := rfl
theorem rX_20_5 {nm no : Nat} : RX nm no 20 5 = some 55 := rfl
theorem rX_20_6 {nm no : Nat} : RX nm no 20 6 = some 76 := rfl
theorem rX_20_7 {nm no : Nat} : RX nm no 20 7 = some 79 := rfl
theorem rX_21_0 {nm no : Nat} : RX nm no 21 0 = some 22 := rfl
theorem rX_21_1 {nm no : Nat} : RX nm no 21 1 = some 23 := rfl
theorem rX_21_2 {nm no : Nat} : RX nm no 21 2 = some 24 := rfl
theorem rX_21_3 {nm no : Nat} : RX nm no 21 3 = some 25 := rfl
theorem rX_21_4 {nm no : Nat} : RX nm no 21 4 = some 26 := rfl
theorem rX_21_5 {nm no : Nat} : RX nm no 21 5 = some 27 := rfl
theorem rX_21_6 {nm no : Nat} : RX nm no 21 6 = some 28 := rfl
theorem rX_21_7 {nm no : Nat} : RX nm no 21 7 = some 32 := rfl
theorem rX_21_8 {nm no : Nat} : RX nm no 21 8 = some 36 := rfl
theorem rX_28_0 {nm no : Nat} : RX nm no 28 0 = some 29 := rfl
theorem rX_28_1 {nm no : Nat} : RX nm no 28 1 = some 30 := rfl
theorem rX_28_2 {nm no : Nat} : RX nm no 28 2 = some 31 := rfl
theorem rX_32_0 {nm no : Nat} : RX nm no 32 0 = some 33 := rfl
theorem rX_32_1 {nm no : Nat} : RX nm no 32 1 = some 34 := rfl
theorem rX_32_2 {nm no : Nat} : RX nm no 32 2 = some 35 := rfl
theorem rX_37_0 {nm no : Nat} : RX nm no 37 0 = some 38 := rfl
theorem rX_37_1 {nm no : Nat} : RX nm no 37 1 = some 42 := rfl
theorem rX_38_0 {nm no : Nat} : RX nm no 38 0 = some 39 := rfl
theorem rX_38_1 {nm no : Nat} : RX nm no 38 1 = some 40 := rfl
theorem rX_38_2 {nm no : Nat} : RX nm no 38 2 = some 41 := rfl
theorem rX_43_0 {nm no : Nat} : RX nm no 43 0 = some 21 := rfl
theorem rX_43_1 {nm no : Nat} : RX nm no 43 1 = some 37 := rfl
theorem rX_43_2 {nm no : Nat} : RX nm no 43 2 = some 44 := rfl
theorem rX_43_3 {nm no : Nat} : RX nm no 43 3 = some 45 := rfl
theorem rX_46_0 {nm no : Nat} : RX nm no 46 0 = some 47 := rfl
theorem rX_48_0 {nm no : Nat} : RX nm no 48 0 = some 49 := rfl
theorem rX_48_1 {nm no : Nat} : RX nm no 48 1 = some 50 := rfl
theorem rX_48_2 {nm no : Nat} : RX nm no 48 2 = some 51 := rfl
theorem rX_48_3 {nm no : Nat} : RX nm no 48 3 = some 52 := rfl
theorem rX_48_4 {nm no : Nat} : RX nm no 48 4 = some 53 := rfl
theorem rX_48_5 {nm no : Nat} : RX nm no 48 5 = some 54 := rfl
theorem rX_55_0 {nm no : Nat} : RX nm no 55 0 = some 56 := rfl
theorem rX_55_1 {nm no : Nat} : RX nm no 55 1 = some 57 := rfl
theorem rX_55_2 {nm no : Nat} : RX nm no 55 2 = some 66 := rfl
theorem rX_55_3 {nm no : Nat} : RX nm no 55 3 = some 75 := rfl
theorem rX_57_0 {nm no : Nat} : RX nm no 57 0 = some 58 := rfl
theorem rX_57_1 {nm no : Nat} : RX nm no 57 1 = some 59 := rfl
theorem rX_57_2 {nm no : Nat} : RX nm no 57 2 = some 60 := rfl
theorem rX_57_3 {nm no : Nat} : RX nm no 57 3 = some 61 := rfl
theorem rX_57_4 {nm no : Nat} : RX nm no 57 4 = some 62 := rfl
theorem rX_57_5 {nm no : Nat} : RX nm no 57 5 = some 63 := rfl
theorem rX_57_6 {nm no : Nat} : RX nm no 57 6 = some 64 := rfl
theorem rX_57_7 {nm no : Nat} : RX nm no 57 7 = some 65 := rfl
theorem rX_66_0 {nm no : Nat} : RX nm no 66 0 = some 67 := rfl
theorem rX_66_1 {nm no : Nat} : RX nm no 66 1 = some 68 := rfl
theorem rX_66_2 {nm no : Nat} : RX nm no 66 2 = some 69 := rfl
theorem rX_66_3 {nm no : Nat} : RX nm no 66 3 = some 70 := rfl
theorem rX_66_4 {nm no : Nat} : RX nm no 66 4 = some 71 := rfl
theorem rX_66_5 {nm no : Nat} : RX nm no 66 5 = some 72 := rfl
theorem rX_66_6 {nm no : Nat} : RX nm no 66 6 = some 73 := rfl
theorem rX_66_7 {nm no : Nat} : RX nm no 66 7 = some 74 := rfl
theorem rX_76_0 {nm no : Nat} : RX nm no 76 0 = some 77 := rfl
theorem rX_76_1 {nm no : Nat} : RX nm no 76 1 = some 78 := rfl
theorem rX_79_0 {nm no : Nat} : RX nm no 79 0 = some 80 := rfl
theorem rX_79_1 {nm no : Nat} : RX nm no 79 1 = some 81 := rfl
theorem rX_79_2 {nm no : Nat} : RX nm no 79 2 = some 82 := rfl
theorem rX_79_3 {nm no : Nat} : RX nm no 79 3 = some 83 := rfl
theorem rX_79_4 {nm no : Nat} : RX nm no 79 4 = some 84 := rfl
theorem rX_100_1 {nm no : Nat} : RX nm no 100 1 = some 101 := rfl
theorem rX_100_2 {nm no : Nat} : RX nm no 100 2 = some 102 := rfl
theorem rX_100_4 {nm no : Nat} : RX nm no 100 4 = some 103 := rfl
theorem rX_100_5 {nm no : Nat} : RX nm no 100 5 = some 104 := rfl
theorem rX_100_6 {nm no : Nat} : RX nm no 100 6 = some 105 := rfl
theorem rX_100_7 {nm no : Nat} : RX nm no 100 7 = some 106 := rfl
theorem rX_100_9 {nm no : Nat} : RX nm no 100 9 = some 107 := rfl
theorem rX_100_11 {nm no : Nat} : RX nm no 100 11 = some 108 := rfl
theorem rX_100_14 {nm no : Nat} : RX nm no 100 14 = some 109 := rfl
theorem rX_100_15 {nm no : Nat} : RX nm no 100 15 = some 110 := rfl
theorem rX_100_16 {nm no : Nat} : RX nm no 100 16 = some 111 := rfl
theorem rX_100_17 {nm no : Nat} : RX nm no 100 17 = some 112 := rfl
theorem rX_100_19 {nm no : Nat} : RX nm no 100 19 = some 113 := rfl
theorem rX_100_29 {nm no : Nat} : RX nm no 100 29 = some 114 := rfl
theorem rX_100_30 {nm no : Nat} : RX nm no 100 30 = some 115 := rfl
theorem rX_100_31 {nm no : Nat} : RX nm no 100 31 = some 116 := rfl
theorem rX_100_32 {nm no : Nat} : RX nm no 100 32 = some 117 := rfl
theorem rX_100_33 {nm no : Nat} : RX nm no 100 33 = some 118 := rfl
theorem rX_100_34 {nm no : Nat} : RX nm no 100 34 = some 119 := rfl
theorem rX_100_35 {nm no : Nat} : RX nm no 100 35 = some 120 := rfl
theorem rX_100_36 {nm no : Nat} : RX nm no 100 36 = some 121 := rfl
theorem rX_100_37 {nm no : Nat} : RX nm no 100 37 = some 122 := rfl
theorem rX_100_38 {nm no : Nat} : RX nm no 100 38 = some 123 := rfl
theorem rX_100_39 {nm no : Nat} : RX nm no 100 39 = some 124 := rfl
theorem rX_100_40 {nm no : Nat} : RX nm no 100 40 = some 125 := rfl
theorem rX_100_42 {nm no : Nat} : RX nm no 100 42 = some 126 := rfl
theorem rX_100_43 {nm no : Nat} : RX nm no 100 43 = some 127 := rfl
theorem rX_100_44 {nm no : Nat} : RX nm no 100 44 = some 128 := rfl
theorem rX_100_45 {nm no : Nat} : RX nm no 100 45 = some 129 := rfl
theorem rX_100_49 {nm no : Nat} : RX nm no 100 49 = some 130 := rfl
theorem rX_100_50 {nm no : Nat} : RX nm no 100 50 = some 131 := rfl
theorem rX_100_51 {nm no : Nat} : RX nm no 100 51 = some 132 := rfl
theorem rX_100_52 {nm no : Nat} : RX nm no 100 52 = some 133 := rfl
theorem rX_100_53 {nm no : Nat} : RX nm no 100 53 = some 134 := rfl
theorem sX_msg {nm no m : Nat} (h : m < nm) (hm : nm ≤ 24) : (shX nm no (200 + m)).1 = 3 + 1 := by
  unfold shX
  rw [if_neg (by omega), if_pos (by omega)]
theorem sX_kept {nm no m : Nat} (h : m < nm) (hm : nm ≤ 24) : (shX nm no (230 + m)).1 = 3 + 1 := by
  unfold shX
  rw [if_neg (by omega), if_neg (by omega), if_pos (by omega)]
theorem sX_ord {nm no m : Nat} (h : m ≤ no) (hm : nm ≤ 24) : (shX nm no (300 + m)).1 = 5 + 1 := by
  unfold shX
  rw [if_neg (by omega), if_neg (by omega), if_neg (by omega), if_pos (by omega)]
theorem sX_ordR {nm no m : Nat} (h : m ≤ no) (hm : nm ≤ 24) (ho : no ≤ 6) : shX nm no (310 + m) = (20, 5) := by
  unfold shX
  rw [if_neg (by omega), if_neg (by omega), if_neg (by omega), if_neg (by omega), if_pos (by omega)]
theorem sX_ordP {nm no m : Nat} (h : m ≤ no) (hm : nm ≤ 24) (ho : no ≤ 6) : shX nm no (320 + m) = (20, 5) := by
  unfold shX
  rw [if_neg (by omega), if_neg (by omega), if_neg (by omega), if_neg (by omega), if_neg (by omega), if_pos (by omega)]
theorem sX_ordK {nm no m : Nat} (h : m ≤ no) (hm : nm ≤ 24) (ho : no ≤ 6) : shX nm no (330 + m) = (20, 8) := by
  unfold shX
  rw [if_neg (by omega), if_neg (by omega), if_neg (by omega), if_neg (by omega), if_neg (by omega), if_neg (by omega), if_pos (by omega)]
theorem rX_msg {nm no : Nat} {i : Int} (h0 : 0 ≤ i) (h1 : i < nm) : RX nm no 44 i = some (200 + i.toNat) := by
  unfold RX
  rw [if_neg (by omega), if_pos rfl, if_pos h1]
theorem rX_kept {nm no : Nat} {i : Int} (h0 : 0 ≤ i) (h1 : i < nm) : RX nm no 45 i = some (230 + i.toNat) := by
  unfold RX
  rw [if_neg (by omega), if_neg (by omega), if_pos rfl, if_pos h1]
theorem rX_forced {nm no : Nat} {i : Int} (h0 : 0 ≤ i) (h1 : i < no) : RX nm no 42 i = some (300 + i.toNat) := by
  unfold RX
  rw [if_neg (by omega), if_neg (by omega), if_neg (by omega), if_pos rfl, if_pos h1]
theorem rX_draft {nm no : Nat} : RX nm no 37 2 = some (300 + no) := rfl
theorem rX_ord {nm no m : Nat} (h : m ≤ no) (j : Nat) (hj : j < 3) : RX nm no (300 + m) (j : Int) = some (300 + m + 10 + 10 * j) := by
  unfold RX
  rw [if_neg (by omega), if_neg (by omega), if_neg (by omega), if_neg (by omega), if_neg (by omega), if_pos (by omega), if_pos (by omega)]
  rfl
/-- the method maps this memory to that one, and answers rv -/
def SP (g : GH) (d : Nat) (μ : MT) (bc bs : Nat) (as : List AV) (sh : SH) (R : RR) (I : II) (rv : Option AV) (sh' : SH) (R' : RR) (I' : II) : Prop := ∀ Q : QT, Q rv sh' R' I' → C g d μ bc bs as sh R I Q
/-- the method ends in some memory I' with an int r, and P r I'; the shapes stay -/
def SI (g : GH) (d : Nat) (μ : MT) (as : List AV) (sh : SH) (R : RR) (I : II) (P : Int → II → Prop) : Prop := ∀ Q : QT, (∀ r I', P r I' → Q (some (vi r)) sh R I') → C g d μ 0 0 as sh R I Q
def SV (g : GH) (d : Nat) (μ : MT) (as : List AV) (sh : SH) (R : RR) (I : II) (P : II → Prop) : Prop := ∀ Q : QT, (∀ I', P I' → Q none sh R I') → C g d μ 0 0 as sh R I Q
section
variable {g : GH} {d : Nat} {μ : MT} {bc bs pc : Nat} {L : List (Option AV)} {st : List AV} {sh : SH} {R : RR} {I : II} {Q : QT}
theorem m_gi {i o c k : Nat} {z : Int} (hd : decode μ.2.1 pc = .ok (.getfield i, 3)) (hf : FL μ.1.cls i c k) (ho : (sh o).1 = c + 1) (hk : tyk (clT c k) = 0) (hz : (k : Int) = z) (h : T g d μ bc bs (pc + 3) L (vi (I o z) :: st) sh R I Q) : T g d μ bc bs pc L (vr o :: st) sh R I Q := by
  subst hz; exact m_geti hd hf ho hk h
theorem m_gl {i o c k : Nat} {z : Int} (hd : decode μ.2.1 pc = .ok (.getfield i, 3)) (hf : FL μ.1.cls i c k) (ho : (sh o).1 = c + 1) (hk : tyk (clT c k) = 1) (hz : (k : Int) = z) (h : T g d μ bc bs (pc + 3) L (vl (I o z) :: st) sh R I Q) : T g d μ bc bs pc L (vr o :: st) sh R I Q := by
  subst hz; exact m_getl hd hf ho hk h
theorem m_gr {i o c k q : Nat} {z : Int} (hd : decode μ.2.1 pc = .ok (.getfield i, 3)) (hf : FL μ.1.cls i c k) (ho : (sh o).1 = c + 1) (hk : tyk (clT c k) = 2) (hz : (k : Int) = z) (hv : R o z = some q) (h : T g d μ bc bs (pc + 3) L (vr q :: st) sh R I Q) : T g d μ bc bs pc L (vr o :: st) sh R I Q := by
  subst hz; exact m_getr hd hf ho hk (by rw [hv]; exact h)
theorem m_pi {i o c k : Nat} {a z : Int} (hd : decode μ.2.1 pc = .ok (.putfield i, 3)) (hf : FL μ.1.cls i c k) (ho : (sh o).1 = c + 1) (hty : clT c k = .int) (hfin : (clF c k).2.2.2 = false) (hz : (k : Int) = z) (h : T g d μ bc bs (pc + 3) L st sh R (upI I o z a) Q) : T g d μ bc bs pc L (vi a :: vr o :: st) sh R I Q := by
  subst hz; exact m_puti hd hf ho (by rw [hty]; rfl) hfin (by rw [hty]; rfl) (by rw [hty]; rfl) h
theorem m_pz {i o c k : Nat} {a z : Int} (hd : decode μ.2.1 pc = .ok (.putfield i, 3)) (hf : FL μ.1.cls i c k) (ho : (sh o).1 = c + 1) (hty : clT c k = .boolean) (hfin : (clF c k).2.2.2 = false) (hz : (k : Int) = z) (ha : a = 0 ∨ a = 1) (h : T g d μ bc bs (pc + 3) L st sh R (upI I o z a) Q) : T g d μ bc bs pc L (vi a :: vr o :: st) sh R I Q := by
  subst hz; exact m_puti hd hf ho (by rw [hty]; rfl) hfin (by rw [hty]; rcases ha with rfl | rfl <;> decide) (by rw [hty]; rcases ha with rfl | rfl <;> decide) h
theorem m_pl {i o c k : Nat} {a z : Int} (hd : decode μ.2.1 pc = .ok (.putfield i, 3)) (hf : FL μ.1.cls i c k) (ho : (sh o).1 = c + 1) (hty : clT c k = .long) (hfin : (clF c k).2.2.2 = false) (hz : (k : Int) = z) (h : T g d μ bc bs (pc + 3) L st sh R (upI I o z a) Q) : T g d μ bc bs pc L (vl a :: vr o :: st) sh R I Q := by
  subst hz; exact m_putl hd hf ho (by rw [hty]; rfl) hfin hty h
theorem m_al {o n t q : Nat} {i : Int} (hd : decode μ.2.1 pc = .ok (.aaload, 1)) (ho : sh o = (t, n)) (ht : 25 ≤ t ∧ t < 28) (h0 : 0 ≤ i) (h1 : i < n) (hv : R o i = some q) (h : T g d μ bc bs (pc + 1) L (vr q :: st) sh R I Q) : T g d μ bc bs pc L (vi i :: vr o :: st) sh R I Q := m_aald hd ho ht h0 h1 (by rw [hv]; exact h)

theorem m_Vi {i c b n : Nat} {ν : MT} {stk : List AV} (as : List AV) (hd : decode μ.2.1 pc = .ok (.invokevirtual i, 3)) (hl : CLV μ.1.cls i c ν n) (hn : as.length = n) (ho : (sh b).1 = c + 1) (hs : stk = as.reverse ++ vr b :: st) (hg : ctg st ≤ 8) (hdd : 1 ≤ d) {v : Int} {sh' : SH} {R' : RR} {I' : II} (hC : SP g (d - 1) ν 0 0 (vr b :: as) sh R I (some (vi v)) sh' R' I') (h : T g d μ bc bs (pc + 3) L (vi v :: st) sh' R' I' Q) : T g d μ bc bs pc L stk sh R I Q := m_callV as hd hl hn ho hs hg (show d - 1 < d by omega) (Nat.zero_le _) (Nat.zero_le _) (hC _ h)
theorem m_Vib {i c b n : Nat} {ν : MT} {stk : List AV} (as : List AV) (hd : decode μ.2.1 pc = .ok (.invokevirtual i, 3)) (hl : CLV μ.1.cls i c ν n) (hn : as.length = n) (ho : (sh b).1 = c + 1) (hs : stk = as.reverse ++ vr b :: st) (hg : ctg st ≤ 8) (hdd : 1 ≤ d) {v : Int} {bc' bs' : Nat} {sh' : SH} {R' : RR} {I' : II} (hb1 : bc' ≤ bc) (hb2 : bs' ≤ bs) (hC : SP g (d - 1) ν bc' bs' (vr b :: as) sh R I (some (vi v)) sh' R' I') (h : T g d μ (bc - bc') (bs - bs') (pc + 3) L (vi v :: st) sh' R' I' Q) : T g d μ bc bs pc L stk sh R I Q := m_callV as hd hl hn ho hs hg (show d - 1 < d by omega) hb1 hb2 (hC _ h)
theorem m_Vv {i c b n : Nat} {ν : MT} {stk : List AV} (as : List AV) (hd : decode μ.2.1 pc = .ok (.invokevirtual i, 3)) (hl : CLV μ.1.cls i c ν n) (hn : as.length = n) (ho : (sh b).1 = c + 1) (hs : stk = as.reverse ++ vr b :: st) (hg : ctg st ≤ 8) (hdd : 1 ≤ d) {sh' : SH} {R' : RR} {I' : II} (hC : SP g (d - 1) ν 0 0 (vr b :: as) sh R I none sh' R' I') (h : T g d μ bc bs (pc + 3) L (st) sh' R' I' Q) : T g d μ bc bs pc L stk sh R I Q := m_callV as hd hl hn ho hs hg (show d - 1 < d by omega) (Nat.zero_le _) (Nat.zero_le _) (hC _ h)
theorem m_Vvb {i c b n : Nat} {ν : MT} {stk : List AV} (as : List AV) (hd : decode μ.2.1 pc = .ok (.invokevirtual i, 3)) (hl : CLV μ.1.cls i c ν n) (hn : as.length = n) (ho : (sh b).1 = c + 1) (hs : stk = as.reverse ++ vr b :: st) (hg : ctg st ≤ 8) (hdd : 1 ≤ d) {bc' bs' : Nat} {sh' : SH} {R' : RR} {I' : II} (hb1 : bc' ≤ bc) (hb2 : bs' ≤ bs) (hC : SP g (d - 1) ν bc' bs' (vr b :: as) sh R I none sh' R' I') (h : T g d μ (bc - bc') (bs - bs') (pc + 3) L (st) sh' R' I' Q) : T g d μ bc bs pc L stk sh R I Q := m_callV as hd hl hn ho hs hg (show d - 1 < d by omega) hb1 hb2 (hC _ h)
theorem m_Vr {i c b n : Nat} {ν : MT} {stk : List AV} (as : List AV) (hd : decode μ.2.1 pc = .ok (.invokevirtual i, 3)) (hl : CLV μ.1.cls i c ν n) (hn : as.length = n) (ho : (sh b).1 = c + 1) (hs : stk = as.reverse ++ vr b :: st) (hg : ctg st ≤ 8) (hdd : 1 ≤ d) {v : Nat} {sh' : SH} {R' : RR} {I' : II} (hC : SP g (d - 1) ν 0 0 (vr b :: as) sh R I (some (vr v)) sh' R' I') (h : T g d μ bc bs (pc + 3) L (vr v :: st) sh' R' I' Q) : T g d μ bc bs pc L stk sh R I Q := m_callV as hd hl hn ho hs hg (show d - 1 < d by omega) (Nat.zero_le _) (Nat.zero_le _) (hC _ h)
theorem m_Vrb {i c b n : Nat} {ν : MT} {stk : List AV} (as : List AV) (hd : decode μ.2.1 pc = .ok (.invokevirtual i, 3)) (hl : CLV μ.1.cls i c ν n) (hn : as.length = n) (ho : (sh b).1 = c + 1) (hs : stk = as.reverse ++ vr b :: st) (hg : ctg st ≤ 8) (hdd : 1 ≤ d) {v : Nat} {bc' bs' : Nat} {sh' : SH} {R' : RR} {I' : II} (hb1 : bc' ≤ bc) (hb2 : bs' ≤ bs) (hC : SP g (d - 1) ν bc' bs' (vr b :: as) sh R I (some (vr v)) sh' R' I') (h : T g d μ (bc - bc') (bs - bs') (pc + 3) L (vr v :: st) sh' R' I' Q) : T g d μ bc bs pc L stk sh R I Q := m_callV as hd hl hn ho hs hg (show d - 1 < d by omega) hb1 hb2 (hC _ h)
theorem m_VI {i c b n : Nat} {ν : MT} {stk : List AV} (as : List AV) (hd : decode μ.2.1 pc = .ok (.invokevirtual i, 3)) (hl : CLV μ.1.cls i c ν n) (hn : as.length = n) (ho : (sh b).1 = c + 1) (hs : stk = as.reverse ++ vr b :: st) (hg : ctg st ≤ 8) (hdd : 1 ≤ d) {P : Int → II → Prop} (hC : SI g (d - 1) ν (vr b :: as) sh R I P) (h : ∀ r I', P r I' → T g d μ bc bs (pc + 3) L (vi r :: st) sh R I' Q) : T g d μ bc bs pc L stk sh R I Q := m_callV as hd hl hn ho hs hg (show d - 1 < d by omega) (Nat.zero_le _) (Nat.zero_le _) (hC _ h)
theorem m_VV {i c b n : Nat} {ν : MT} {stk : List AV} (as : List AV) (hd : decode μ.2.1 pc = .ok (.invokevirtual i, 3)) (hl : CLV μ.1.cls i c ν n) (hn : as.length = n) (ho : (sh b).1 = c + 1) (hs : stk = as.reverse ++ vr b :: st) (hg : ctg st ≤ 8) (hdd : 1 ≤ d) {P : II → Prop} (hC : SV g (d - 1) ν (vr b :: as) sh R I P) (h : ∀ I', P I' → T g d μ bc bs (pc + 3) L st sh R I' Q) : T g d μ bc bs pc L stk sh R I Q := m_callV as hd hl hn ho hs hg (show d - 1 < d by omega) (Nat.zero_le _) (Nat.zero_le _) (hC _ h)
theorem m_Si {i n : Nat} {ν : MT} {stk : List AV} (as : List AV) (hd : decode μ.2.1 pc = .ok (.invokestatic i, 3)) (hl : CLS μ.1.cls i ν n) (hn : as.length = n) (hs : stk = as.reverse ++ st) (hg : ctg st ≤ 8) (hdd : 1 ≤ d) {v : Int} {sh' : SH} {R' : RR} {I' : II} (hC : SP g (d - 1) ν 0 0 as sh R I (some (vi v)) sh' R' I') (h : T g d μ bc bs (pc + 3) L (vi v :: st) sh' R' I' Q) : T g d μ bc bs pc L stk sh R I Q := m_callS as hd hl hn hs hg (show d - 1 < d by omega) (Nat.zero_le _) (Nat.zero_le _) (hC _ h)
theorem m_Sib {i n : Nat} {ν : MT} {stk : List AV} (as : List AV) (hd : decode μ.2.1 pc = .ok (.invokestatic i, 3)) (hl : CLS μ.1.cls i ν n) (hn : as.length = n) (hs : stk = as.reverse ++ st) (hg : ctg st ≤ 8) (hdd : 1 ≤ d) {v : Int} {bc' bs' : Nat} {sh' : SH} {R' : RR} {I' : II} (hb1 : bc' ≤ bc) (hb2 : bs' ≤ bs) (hC : SP g (d - 1) ν bc' bs' as sh R I (some (vi v)) sh' R' I') (h : T g d μ (bc - bc') (bs - bs') (pc + 3) L (vi v :: st) sh' R' I' Q) : T g d μ bc bs pc L stk sh R I Q := m_callS as hd hl hn hs hg (show d - 1 < d by omega) hb1 hb2 (hC _ h)
theorem m_Sv {i n : Nat} {ν : MT} {stk : List AV} (as : List AV) (hd : decode μ.2.1 pc = .ok (.invokestatic i, 3)) (hl : CLS μ.1.cls i ν n) (hn : as.length = n) (hs : stk = as.reverse ++ st) (hg : ctg st ≤ 8) (hdd : 1 ≤ d) {sh' : SH} {R' : RR} {I' : II} (hC : SP g (d - 1) ν 0 0 as sh R I none sh' R' I') (h : T g d μ bc bs (pc + 3) L (st) sh' R' I' Q) : T g d μ bc bs pc L stk sh R I Q := m_callS as hd hl hn hs hg (show d - 1 < d by omega) (Nat.zero_le _) (Nat.zero_le _) (hC _ h)
theorem m_Svb {i n : Nat} {ν : MT} {stk : List AV} (as : List AV) (hd : decode μ.2.1 pc = .ok (.invokestatic i, 3)) (hl : CLS μ.1.cls i ν n) (hn : as.length = n) (hs : stk = as.reverse ++ st) (hg : ctg st ≤ 8) (hdd : 1 ≤ d) {bc' bs' : Nat} {sh' : SH} {R' : RR} {I' : II} (hb1 : bc' ≤ bc) (hb2 : bs' ≤ bs) (hC : SP g (d - 1) ν bc' bs' as sh R I none sh' R' I') (h : T g d μ (bc - bc') (bs - bs') (pc + 3) L (st) sh' R' I' Q) : T g d μ bc bs pc L stk sh R I Q := m_callS as hd hl hn hs hg (show d - 1 < d by omega) hb1 hb2 (hC _ h)
theorem m_Sr {i n : Nat} {ν : MT} {stk : List AV} (as : List AV) (hd : decode μ.2.1 pc = .ok (.invokestatic i, 3)) (hl : CLS μ.1.cls i ν n) (hn : as.length = n) (hs : stk = as.reverse ++ st) (hg : ctg st ≤ 8) (hdd : 1 ≤ d) {v : Nat} {sh' : SH} {R' : RR} {I' : II} (hC : SP g (d - 1) ν 0 0 as sh R I (some (vr v)) sh' R' I') (h : T g d μ bc bs (pc + 3) L (vr v :: st) sh' R' I' Q) : T g d μ bc bs pc L stk sh R I Q := m_callS as hd hl hn hs hg (show d - 1 < d by omega) (Nat.zero_le _) (Nat.zero_le _) (hC _ h)
theorem m_Srb {i n : Nat} {ν : MT} {stk : List AV} (as : List AV) (hd : decode μ.2.1 pc = .ok (.invokestatic i, 3)) (hl : CLS μ.1.cls i ν n) (hn : as.length = n) (hs : stk = as.reverse ++ st) (hg : ctg st ≤ 8) (hdd : 1 ≤ d) {v : Nat} {bc' bs' : Nat} {sh' : SH} {R' : RR} {I' : II} (hb1 : bc' ≤ bc) (hb2 : bs' ≤ bs) (hC : SP g (d - 1) ν bc' bs' as sh R I (some (vr v)) sh' R' I') (h : T g d μ (bc - bc') (bs - bs') (pc + 3) L (vr v :: st) sh' R' I' Q) : T g d μ bc bs pc L stk sh R I Q := m_callS as hd hl hn hs hg (show d - 1 < d by omega) hb1 hb2 (hC _ h)
theorem m_SI {i n : Nat} {ν : MT} {stk : List AV} (as : List AV) (hd : decode μ.2.1 pc = .ok (.invokestatic i, 3)) (hl : CLS μ.1.cls i ν n) (hn : as.length = n) (hs : stk = as.reverse ++ st) (hg : ctg st ≤ 8) (hdd : 1 ≤ d) {P : Int → II → Prop} (hC : SI g (d - 1) ν as sh R I P) (h : ∀ r I', P r I' → T g d μ bc bs (pc + 3) L (vi r :: st) sh R I' Q) : T g d μ bc bs pc L stk sh R I Q := m_callS as hd hl hn hs hg (show d - 1 < d by omega) (Nat.zero_le _) (Nat.zero_le _) (hC _ h)
theorem m_SV {i n : Nat} {ν : MT} {stk : List AV} (as : List AV) (hd : decode μ.2.1 pc = .ok (.invokestatic i, 3)) (hl : CLS μ.1.cls i ν n) (hn : as.length = n) (hs : stk = as.reverse ++ st) (hg : ctg st ≤ 8) (hdd : 1 ≤ d) {P : II → Prop} (hC : SV g (d - 1) ν as sh R I P) (h : ∀ I', P I' → T g d μ bc bs (pc + 3) L st sh R I' Q) : T g d μ bc bs pc L stk sh R I Q := m_callS as hd hl hn hs hg (show d - 1 < d by omega) (Nat.zero_le _) (Nat.zero_le _) (hC _ h)
theorem m_Ni {i n : Nat} {ν : MT} {stk : List AV} (as : List AV) (hd : decode μ.2.1 pc = .ok (.invokestatic i, 3)) (hl : CLSN μ.1.cls i ν n) (hn : as.length = n) (hs : stk = as.reverse ++ st) (hg : ctg st ≤ 8) (hdd : 1 ≤ d) {v : Int} {sh' : SH} {R' : RR} {I' : II} (hC : SP g (d - 1) ν 0 0 as sh R I (some (vi v)) sh' R' I') (h : T g d μ bc bs (pc + 3) L (vi v :: st) sh' R' I' Q) : T g d μ bc bs pc L stk sh R I Q := m_callSN as hd hl hn hs hg (show d - 1 < d by omega) (Nat.zero_le _) (Nat.zero_le _) (hC _ h)
theorem m_Nib {i n : Nat} {ν : MT} {stk : List AV} (as : List AV) (hd : decode μ.2.1 pc = .ok (.invokestatic i, 3)) (hl : CLSN μ.1.cls i ν n) (hn : as.length = n) (hs : stk = as.reverse ++ st) (hg : ctg st ≤ 8) (hdd : 1 ≤ d) {v : Int} {bc' bs' : Nat} {sh' : SH} {R' : RR} {I' : II} (hb1 : bc' ≤ bc) (hb2 : bs' ≤ bs) (hC : SP g (d - 1) ν bc' bs' as sh R I (some (vi v)) sh' R' I') (h : T g d μ (bc - bc') (bs - bs') (pc + 3) L (vi v :: st) sh' R' I' Q) : T g d μ bc bs pc L stk sh R I Q := m_callSN as hd hl hn hs hg (show d - 1 < d by omega) hb1 hb2 (hC _ h)
theorem m_Nv {i n : Nat} {ν : MT} {stk : List AV} (as : List AV) (hd : decode μ.2.1 pc = .ok (.invokestatic i, 3)) (hl : CLSN μ.1.cls i ν n) (hn : as.length = n) (hs : stk = as.reverse ++ st) (hg : ctg st ≤ 8) (hdd : 1 ≤ d) {sh' : SH} {R' : RR} {I' : II} (hC : SP g (d - 1) ν 0 0 as sh R I none sh' R' I') (h : T g d μ bc bs (pc + 3) L (st) sh' R' I' Q) : T g d μ bc bs pc L stk sh R I Q := m_callSN as hd hl hn hs hg (show d - 1 < d by omega) (Nat.zero_le _) (Nat.zero_le _) (hC _ h)
theorem m_Nvb {i n : Nat} {ν : MT} {stk : List AV} (as : List AV) (hd : decode μ.2.1 pc = .ok (.invokestatic i, 3)) (hl : CLSN μ.1.cls i ν n) (hn : as.length = n) (hs : stk = as.reverse ++ st) (hg : ctg st ≤ 8) (hdd : 1 ≤ d) {bc' bs' : Nat} {sh' : SH} {R' : RR} {I' : II} (hb1 : bc' ≤ bc) (hb2 : bs' ≤ bs) (hC : SP g (d - 1) ν bc' bs' as sh R I none sh' R' I') (h : T g d μ (bc - bc') (bs - bs') (pc + 3) L (st) sh' R' I' Q) : T g d μ bc bs pc L stk sh R I Q := m_callSN as hd hl hn hs hg (show d - 1 < d by omega) hb1 hb2 (hC _ h)
theorem m_Nr {i n : Nat} {ν : MT} {stk : List AV} (as : List AV) (hd : decode μ.2.1 pc = .ok (.invokestatic i, 3)) (hl : CLSN μ.1.cls i ν n) (hn : as.length = n) (hs : stk = as.reverse ++ st) (hg : ctg st ≤ 8) (hdd : 1 ≤ d) {v : Nat} {sh' : SH} {R' : RR} {I' : II} (hC : SP g (d - 1) ν 0 0 as sh R I (some (vr v)) sh' R' I') (h : T g d μ bc bs (pc + 3) L (vr v :: st) sh' R' I' Q) : T g d μ bc bs pc L stk sh R I Q := m_callSN as hd hl hn hs hg (show d - 1 < d by omega) (Nat.zero_le _) (Nat.zero_le _) (hC _ h)
theorem m_Nrb {i n : Nat} {ν : MT} {stk : List AV} (as : List AV) (hd : decode μ.2.1 pc = .ok (.invokestatic i, 3)) (hl : CLSN μ.1.cls i ν n) (hn : as.length = n) (hs : stk = as.reverse ++ st) (hg : ctg st ≤ 8) (hdd : 1 ≤ d) {v : Nat} {bc' bs' : Nat} {sh' : SH} {R' : RR} {I' : II} (hb1 : bc' ≤ bc) (hb2 : bs' ≤ bs) (hC : SP g (d - 1) ν bc' bs' as sh R I (some (vr v)) sh' R' I') (h : T g d μ (bc - bc') (bs - bs') (pc + 3) L (vr v :: st) sh' R' I' Q) : T g d μ bc bs pc L stk sh R I Q := m_callSN as hd hl hn hs hg (show d - 1 < d by omega) hb1 hb2 (hC _ h)
theorem m_NI {i n : Nat} {ν : MT} {stk : List AV} (as : List AV) (hd : decode μ.2.1 pc = .ok (.invokestatic i, 3)) (hl : CLSN μ.1.cls i ν n) (hn : as.length = n) (hs : stk = as.reverse ++ st) (hg : ctg st ≤ 8) (hdd : 1 ≤ d) {P : Int → II → Prop} (hC : SI g (d - 1) ν as sh R I P) (h : ∀ r I', P r I' → T g d μ bc bs (pc + 3) L (vi r :: st) sh R I' Q) : T g d μ bc bs pc L stk sh R I Q := m_callSN as hd hl hn hs hg (show d - 1 < d by omega) (Nat.zero_le _) (Nat.zero_le _) (hC _ h)
theorem m_NV {i n : Nat} {ν : MT} {stk : List AV} (as : List AV) (hd : decode μ.2.1 pc = .ok (.invokestatic i, 3)) (hl : CLSN μ.1.cls i ν n) (hn : as.length = n) (hs : stk = as.reverse ++ st) (hg : ctg st ≤ 8) (hdd : 1 ≤ d) {P : II → Prop} (hC : SV g (d - 1) ν as sh R I P) (h : ∀ I', P I' → T g d μ bc bs (pc + 3) L st sh R I' Q) : T g d μ bc bs pc L stk sh R I Q := m_callSN as hd hl hn hs hg (show d - 1 < d by omega) (Nat.zero_le _) (Nat.zero_le _) (hC _ h)
theorem m_Iv {i b n : Nat} {ν : MT} {stk : List AV} (as : List AV) (hd : decode μ.2.1 pc = .ok (.invokespecial i, 3)) (hl : CLI μ.1.cls i ν n) (hn : as.length = n) (hs : stk = as.reverse ++ vr b :: st) (hg : ctg st ≤ 8) (hdd : 1 ≤ d) {sh' : SH} {R' : RR} {I' : II} (hC : SP g (d - 1) ν 0 0 (vr b :: as) sh R I none sh' R' I') (h : T g d μ bc bs (pc + 3) L (st) sh' R' I' Q) : T g d μ bc bs pc L stk sh R I Q := m_callI as hd hl hn hs hg (show d - 1 < d by omega) (Nat.zero_le _) (Nat.zero_le _) (hC _ h)
theorem m_Ivb {i b n : Nat} {ν : MT} {stk : List AV} (as : List AV) (hd : decode μ.2.1 pc = .ok (.invokespecial i, 3)) (hl : CLI μ.1.cls i ν n) (hn : as.length = n) (hs : stk = as.reverse ++ vr b :: st) (hg : ctg st ≤ 8) (hdd : 1 ≤ d) {bc' bs' : Nat} {sh' : SH} {R' : RR} {I' : II} (hb1 : bc' ≤ bc) (hb2 : bs' ≤ bs) (hC : SP g (d - 1) ν bc' bs' (vr b :: as) sh R I none sh' R' I') (h : T g d μ (bc - bc') (bs - bs') (pc + 3) L (st) sh' R' I' Q) : T g d μ bc bs pc L stk sh R I Q := m_callI as hd hl hn hs hg (show d - 1 < d by omega) hb1 hb2 (hC _ h)
theorem m_Jv {i b n : Nat} {ν : MT} {stk : List AV} (as : List AV) (hd : decode μ.2.1 pc = .ok (.invokespecial i, 3)) (hl : CLIN μ.1.cls i ν n) (hn : as.length = n) (hs : stk = as.reverse ++ vr b :: st) (hg : ctg st ≤ 8) (hdd : 1 ≤ d) {sh' : SH} {R' : RR} {I' : II} (hC : SP g (d - 1) ν 0 0 (vr b :: as) sh R I none sh' R' I') (h : T g d μ bc bs (pc + 3) L (st) sh' R' I' Q) : T g d μ bc bs pc L stk sh R I Q := m_callIN as hd hl hn hs hg (show d - 1 < d by omega) (Nat.zero_le _) (Nat.zero_le _) (hC _ h)
theorem m_Jvb {i b n : Nat} {ν : MT} {stk : List AV} (as : List AV) (hd : decode μ.2.1 pc = .ok (.invokespecial i, 3)) (hl : CLIN μ.1.cls i ν n) (hn : as.length = n) (hs : stk = as.reverse ++ vr b :: st) (hg : ctg st ≤ 8) (hdd : 1 ≤ d) {bc' bs' : Nat} {sh' : SH} {R' : RR} {I' : II} (hb1 : bc' ≤ bc) (hb2 : bs' ≤ bs) (hC : SP g (d - 1) ν bc' bs' (vr b :: as) sh R I none sh' R' I') (h : T g d μ (bc - bc') (bs - bs') (pc + 3) L (st) sh' R' I' Q) : T g d μ bc bs pc L stk sh R I Q := m_callIN as hd hl hn hs hg (show d - 1 < d by omega) hb1 hb2 (hC _ h)
end
