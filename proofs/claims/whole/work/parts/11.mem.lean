abbrev am_Sh : Type := (FieldType × Nat) ⊕ ((FieldType × List (Option Nat)) ⊕ (Nat × List (Nat × Value)))
def am_sh_0 : List am_Sh := [.inr (.inr (8, [(3, .ref 1), (3, .ref 31), (3, .ref 61), (3, .ref 91), (3, .ref 104), (1, .null), (3, .ref 117), (3, .ref 119), (0, .null), (3, .ref 120), (3, .ref 122)])),
  .inr (.inr (2, [(3, .ref 2), (0, .null), (0, .null), (2, .null), (3, .ref 3), (0, .null), (3, .ref 4), (3, .ref 5), (3, .ref 6)])),
  .inl (.int, 16),
  .inr (.inl (.object "LostSheets$Drawer", [some 7, some 11, some 15, some 19, some 23, some 27])),
  .inl (.int, 6),
  .inl (.int, 6),
  .inl (.int, 8),
  .inr (.inr (1, [(3, .int 0), (0, .null), (0, .null), (0, .null), (0, .null), (0, .null), (1, .null), (3, .ref 8), (3, .ref 9), (3, .ref 10)])),
  .inl (.int, 8),
  .inl (.int, 8),
  .inl (.int, 4),
  .inr (.inr (1, [(3, .int 1), (0, .null), (0, .null), (0, .null), (0, .null), (0, .null), (1, .null), (3, .ref 12), (3, .ref 13), (3, .ref 14)])),
  .inl (.int, 8),
  .inl (.int, 8),
  .inl (.int, 4),
  .inr (.inr (1, [(3, .int 2), (0, .null), (0, .null), (0, .null), (0, .null), (0, .null), (1, .null), (3, .ref 16), (3, .ref 17), (3, .ref 18)])),
  .inl (.int, 8),
  .inl (.int, 8),
  .inl (.int, 4),
  .inr (.inr (1, [(3, .int 3), (0, .null), (0, .null), (0, .null), (0, .null), (0, .null), (1, .null), (3, .ref 20), (3, .ref 21), (3, .ref 22)])),
  .inl (.int, 8),
  .inl (.int, 8),
  .inl (.int, 4),
  .inr (.inr (1, [(3, .int 4), (0, .null), (0, .null), (0, .null), (0, .null), (0, .null), (1, .null), (3, .ref 24), (3, .ref 25), (3, .ref 26)])),
  .inl (.int, 8),
  .inl (.int, 8),
  .inl (.int, 4),
  .inr (.inr (1, [(3, .int 5), (0, .null), (0, .null), (0, .null), (0, .null), (0, .null), (1, .null), (3, .ref 28), (3, .ref 29), (3, .ref 30)])),
  .inl (.int, 8),
  .inl (.int, 8),
  .inl (.int, 4),
  .inr (.inr (2, [(3, .ref 32), (0, .null), (0, .null), (2, .null), (3, .ref 33), (0, .null), (3, .ref 34), (3, .ref 35), (3, .ref 36)])),
  .inl (.int, 16),
  .inr (.inl (.object "LostSheets$Drawer", [some 37, some 41, some 45, some 49, some 53, some 57])),
  .inl (.int, 6),
  .inl (.int, 6),
  .inl (.int, 8),
  .inr (.inr (1, [(3, .int 0), (0, .null), (0, .null), (0, .null), (0, .null), (0, .null), (1, .null), (3, .ref 38), (3, .ref 39), (3, .ref 40)])),
  .inl (.int, 8),
  .inl (.int, 8)]
def am_sh_1 : List am_Sh := [.inl (.int, 4),
  .inr (.inr (1, [(3, .int 1), (0, .null), (0, .null), (0, .null), (0, .null), (0, .null), (1, .null), (3, .ref 42), (3, .ref 43), (3, .ref 44)])),
  .inl (.int, 8),
  .inl (.int, 8),
  .inl (.int, 4),
  .inr (.inr (1, [(3, .int 2), (0, .null), (0, .null), (0, .null), (0, .null), (0, .null), (1, .null), (3, .ref 46), (3, .ref 47), (3, .ref 48)])),
  .inl (.int, 8),
  .inl (.int, 8),
  .inl (.int, 4),
  .inr (.inr (1, [(3, .int 3), (0, .null), (0, .null), (0, .null), (0, .null), (0, .null), (1, .null), (3, .ref 50), (3, .ref 51), (3, .ref 52)])),
  .inl (.int, 8),
  .inl (.int, 8),
  .inl (.int, 4),
  .inr (.inr (1, [(3, .int 4), (0, .null), (0, .null), (0, .null), (0, .null), (0, .null), (1, .null), (3, .ref 54), (3, .ref 55), (3, .ref 56)])),
  .inl (.int, 8),
  .inl (.int, 8),
  .inl (.int, 4),
  .inr (.inr (1, [(3, .int 5), (0, .null), (0, .null), (0, .null), (0, .null), (0, .null), (1, .null), (3, .ref 58), (3, .ref 59), (3, .ref 60)])),
  .inl (.int, 8),
  .inl (.int, 8),
  .inl (.int, 4),
  .inr (.inr (2, [(3, .ref 62), (0, .null), (0, .null), (2, .null), (3, .ref 63), (0, .null), (3, .ref 64), (3, .ref 65), (3, .ref 66)])),
  .inl (.int, 16),
  .inr (.inl (.object "LostSheets$Drawer", [some 67, some 71, some 75, some 79, some 83, some 87])),
  .inl (.int, 6),
  .inl (.int, 6),
  .inl (.int, 8),
  .inr (.inr (1, [(3, .int 0), (0, .null), (0, .null), (0, .null), (0, .null), (0, .null), (1, .null), (3, .ref 68), (3, .ref 69), (3, .ref 70)])),
  .inl (.int, 8),
  .inl (.int, 8),
  .inl (.int, 4),
  .inr (.inr (1, [(3, .int 1), (0, .null), (0, .null), (0, .null), (0, .null), (0, .null), (1, .null), (3, .ref 72), (3, .ref 73), (3, .ref 74)])),
  .inl (.int, 8),
  .inl (.int, 8),
  .inl (.int, 4),
  .inr (.inr (1, [(3, .int 2), (0, .null), (0, .null), (0, .null), (0, .null), (0, .null), (1, .null), (3, .ref 76), (3, .ref 77), (3, .ref 78)])),
  .inl (.int, 8),
  .inl (.int, 8),
  .inl (.int, 4),
  .inr (.inr (1, [(3, .int 3), (0, .null), (0, .null), (0, .null), (0, .null), (0, .null), (1, .null), (3, .ref 80), (3, .ref 81), (3, .ref 82)]))]
def am_sh_2 : List am_Sh := [.inl (.int, 8),
  .inl (.int, 8),
  .inl (.int, 4),
  .inr (.inr (1, [(3, .int 4), (0, .null), (0, .null), (0, .null), (0, .null), (0, .null), (1, .null), (3, .ref 84), (3, .ref 85), (3, .ref 86)])),
  .inl (.int, 8),
  .inl (.int, 8),
  .inl (.int, 4),
  .inr (.inr (1, [(3, .int 5), (0, .null), (0, .null), (0, .null), (0, .null), (0, .null), (1, .null), (3, .ref 88), (3, .ref 89), (3, .ref 90)])),
  .inl (.int, 8),
  .inl (.int, 8),
  .inl (.int, 4),
  .inr (.inr (0, [(3, .ref 92), (3, .ref 96), (3, .ref 100)])),
  .inr (.inr (4, [(3, .int 5), (3, .ref 93), (3, .ref 94), (3, .ref 95), (0, .null)])),
  .inl (.int, 5),
  .inl (.int, 5),
  .inl (.int, 5),
  .inr (.inr (4, [(3, .int 10), (3, .ref 97), (3, .ref 98), (3, .ref 99), (0, .null)])),
  .inl (.int, 10),
  .inl (.int, 10),
  .inl (.int, 10),
  .inr (.inr (4, [(3, .int 8), (3, .ref 101), (3, .ref 102), (3, .ref 103), (0, .null)])),
  .inl (.int, 8),
  .inl (.int, 8),
  .inl (.int, 8),
  .inr (.inr (0, [(3, .ref 105), (3, .ref 109), (3, .ref 113)])),
  .inr (.inr (4, [(3, .int 5), (3, .ref 106), (3, .ref 107), (3, .ref 108), (0, .null)])),
  .inl (.int, 5),
  .inl (.int, 5),
  .inl (.int, 5),
  .inr (.inr (4, [(3, .int 10), (3, .ref 110), (3, .ref 111), (3, .ref 112), (0, .null)])),
  .inl (.int, 10),
  .inl (.int, 10),
  .inl (.int, 10),
  .inr (.inr (4, [(3, .int 8), (3, .ref 114), (3, .ref 115), (3, .ref 116), (0, .null)])),
  .inl (.int, 8),
  .inl (.int, 8),
  .inl (.int, 8),
  .inr (.inr (6, [(3, .ref 118), (0, .null), (0, .null), (0, .null), (2, .null)])),
  .inl (.byte, 100),
  .inr (.inl (.object "LostSheets$Office", [some 123, some 126, some 129, some 132, some 135, some 138]))]
def am_sh_3 : List am_Sh := [.inr (.inr (7, [(3, .ref 121), (0, .null)])),
  .inl (.int, 20),
  .inr (.inl (.object "LostSheets$Tape", [some 141, some 143, some 145, some 147, some 149, some 151])),
  .inr (.inr (3, [(0, .null), (3, .ref 124), (3, .ref 125), (0, .null)])),
  .inl (.int, 100),
  .inl (.int, 100),
  .inr (.inr (3, [(0, .null), (3, .ref 127), (3, .ref 128), (0, .null)])),
  .inl (.int, 100),
  .inl (.int, 100),
  .inr (.inr (3, [(0, .null), (3, .ref 130), (3, .ref 131), (0, .null)])),
  .inl (.int, 100),
  .inl (.int, 100),
  .inr (.inr (3, [(0, .null), (3, .ref 133), (3, .ref 134), (0, .null)])),
  .inl (.int, 100),
  .inl (.int, 100),
  .inr (.inr (3, [(0, .null), (3, .ref 136), (3, .ref 137), (0, .null)])),
  .inl (.int, 100),
  .inl (.int, 100),
  .inr (.inr (3, [(0, .null), (3, .ref 139), (3, .ref 140), (0, .null)])),
  .inl (.int, 100),
  .inl (.int, 100),
  .inr (.inr (5, [(0, .null), (0, .null), (3, .ref 142)])),
  .inl (.long, 60),
  .inr (.inr (5, [(0, .null), (0, .null), (3, .ref 144)])),
  .inl (.long, 60),
  .inr (.inr (5, [(0, .null), (0, .null), (3, .ref 146)])),
  .inl (.long, 60),
  .inr (.inr (5, [(0, .null), (0, .null), (3, .ref 148)])),
  .inl (.long, 60),
  .inr (.inr (5, [(0, .null), (0, .null), (3, .ref 150)])),
  .inl (.long, 60),
  .inr (.inr (5, [(0, .null), (0, .null), (3, .ref 152)])),
  .inl (.long, 60),
  .inr (.inr (9, [(0, .null), (3, .ref 154), (3, .ref 155), (3, .ref 156), (3, .ref 157), (3, .ref 158), (3, .ref 159), (3, .ref 160), (3, .ref 161), (3, .ref 162), (0, .null), (0, .null), (0, .null), (3, .ref 163), (0, .null), (0, .null), (0, .null), (0, .null), (0, .null), (0, .null), (3, .ref 164), (3, .ref 165), (3, .ref 166), (3, .ref 167), (3, .ref 168), (3, .ref 169), (0, .null), (3, .ref 170), (0, .null), (3, .ref 171), (3, .ref 172), (3, .ref 173), (0, .null), (3, .ref 174), (3, .ref 175), (0, .null), (3, .ref 176), (3, .ref 177), (0, .null), (3, .ref 178), (1, .null), (3, .ref 179), (3, .ref 180), (3, .ref 181), (3, .ref 182), (3, .ref 183), (3, .ref 184)])),
  .inl (.int, 6),
  .inl (.int, 6),
  .inl (.int, 6),
  .inl (.int, 6),
  .inl (.int, 6),
  .inl (.int, 6)]
def am_sh_4 : List am_Sh := [.inl (.int, 48),
  .inl (.int, 24),
  .inl (.int, 16),
  .inl (.int, 100),
  .inl (.int, 6),
  .inl (.int, 61),
  .inl (.int, 61),
  .inl (.int, 61),
  .inl (.int, 61),
  .inl (.int, 800),
  .inl (.boolean, 110),
  .inl (.int, 5),
  .inl (.int, 5),
  .inl (.int, 5),
  .inl (.int, 10),
  .inl (.int, 10),
  .inl (.int, 8),
  .inl (.int, 8),
  .inl (.int, 20),
  .inl (.int, 182),
  .inl (.int, 182),
  .inl (.int, 6),
  .inl (.int, 6),
  .inl (.int, 6),
  .inl (.long, 360)]
def am_sh : List am_Sh := am_sh_0 ++ (am_sh_1 ++ (am_sh_2 ++ (am_sh_3 ++ (am_sh_4))))
theorem sh_0 : am_sh[0]? = some (.inr (.inr (8, [(3, .ref 1), (3, .ref 31), (3, .ref 61), (3, .ref 91), (3, .ref 104), (1, .null), (3, .ref 117), (3, .ref 119), (0, .null), (3, .ref 120), (3, .ref 122)]))) := rfl
theorem sh_1 : am_sh[1]? = some (.inr (.inr (2, [(3, .ref 2), (0, .null), (0, .null), (2, .null), (3, .ref 3), (0, .null), (3, .ref 4), (3, .ref 5), (3, .ref 6)]))) := rfl
theorem sh_2 : am_sh[2]? = some (.inl (.int, 16)) := rfl
theorem sh_3 : am_sh[3]? = some (.inr (.inl (.object "LostSheets$Drawer", [some 7, some 11, some 15, some 19, some 23, some 27]))) := rfl
theorem sh_4 : am_sh[4]? = some (.inl (.int, 6)) := rfl
theorem sh_5 : am_sh[5]? = some (.inl (.int, 6)) := rfl
theorem sh_6 : am_sh[6]? = some (.inl (.int, 8)) := rfl
theorem sh_7 : am_sh[7]? = some (.inr (.inr (1, [(3, .int 0), (0, .null), (0, .null), (0, .null), (0, .null), (0, .null), (1, .null), (3, .ref 8), (3, .ref 9), (3, .ref 10)]))) := rfl
theorem sh_8 : am_sh[8]? = some (.inl (.int, 8)) := rfl
theorem sh_9 : am_sh[9]? = some (.inl (.int, 8)) := rfl
theorem sh_10 : am_sh[10]? = some (.inl (.int, 4)) := rfl
theorem sh_11 : am_sh[11]? = some (.inr (.inr (1, [(3, .int 1), (0, .null), (0, .null), (0, .null), (0, .null), (0, .null), (1, .null), (3, .ref 12), (3, .ref 13), (3, .ref 14)]))) := rfl
theorem sh_12 : am_sh[12]? = some (.inl (.int, 8)) := rfl
theorem sh_13 : am_sh[13]? = some (.inl (.int, 8)) := rfl
theorem sh_14 : am_sh[14]? = some (.inl (.int, 4)) := rfl
theorem sh_15 : am_sh[15]? = some (.inr (.inr (1, [(3, .int 2), (0, .null), (0, .null), (0, .null), (0, .null), (0, .null), (1, .null), (3, .ref 16), (3, .ref 17), (3, .ref 18)]))) := rfl
theorem sh_16 : am_sh[16]? = some (.inl (.int, 8)) := rfl
theorem sh_17 : am_sh[17]? = some (.inl (.int, 8)) := rfl
theorem sh_18 : am_sh[18]? = some (.inl (.int, 4)) := rfl
theorem sh_19 : am_sh[19]? = some (.inr (.inr (1, [(3, .int 3), (0, .null), (0, .null), (0, .null), (0, .null), (0, .null), (1, .null), (3, .ref 20), (3, .ref 21), (3, .ref 22)]))) := rfl
theorem sh_20 : am_sh[20]? = some (.inl (.int, 8)) := rfl
theorem sh_21 : am_sh[21]? = some (.inl (.int, 8)) := rfl
theorem sh_22 : am_sh[22]? = some (.inl (.int, 4)) := rfl
theorem sh_23 : am_sh[23]? = some (.inr (.inr (1, [(3, .int 4), (0, .null), (0, .null), (0, .null), (0, .null), (0, .null), (1, .null), (3, .ref 24), (3, .ref 25), (3, .ref 26)]))) := rfl
theorem sh_24 : am_sh[24]? = some (.inl (.int, 8)) := rfl
theorem sh_25 : am_sh[25]? = some (.inl (.int, 8)) := rfl
theorem sh_26 : am_sh[26]? = some (.inl (.int, 4)) := rfl
theorem sh_27 : am_sh[27]? = some (.inr (.inr (1, [(3, .int 5), (0, .null), (0, .null), (0, .null), (0, .null), (0, .null), (1, .null), (3, .ref 28), (3, .ref 29), (3, .ref 30)]))) := rfl
theorem sh_28 : am_sh[28]? = some (.inl (.int, 8)) := rfl
theorem sh_29 : am_sh[29]? = some (.inl (.int, 8)) := rfl
theorem sh_30 : am_sh[30]? = some (.inl (.int, 4)) := rfl
theorem sh_31 : am_sh[31]? = some (.inr (.inr (2, [(3, .ref 32), (0, .null), (0, .null), (2, .null), (3, .ref 33), (0, .null), (3, .ref 34), (3, .ref 35), (3, .ref 36)]))) := rfl
theorem sh_32 : am_sh[32]? = some (.inl (.int, 16)) := rfl
theorem sh_33 : am_sh[33]? = some (.inr (.inl (.object "LostSheets$Drawer", [some 37, some 41, some 45, some 49, some 53, some 57]))) := rfl
theorem sh_34 : am_sh[34]? = some (.inl (.int, 6)) := rfl
theorem sh_35 : am_sh[35]? = some (.inl (.int, 6)) := rfl
theorem sh_36 : am_sh[36]? = some (.inl (.int, 8)) := rfl
theorem sh_37 : am_sh[37]? = some (.inr (.inr (1, [(3, .int 0), (0, .null), (0, .null), (0, .null), (0, .null), (0, .null), (1, .null), (3, .ref 38), (3, .ref 39), (3, .ref 40)]))) := rfl
theorem sh_38 : am_sh[38]? = some (.inl (.int, 8)) := rfl
theorem sh_39 : am_sh[39]? = some (.inl (.int, 8)) := rfl
theorem sh_40 : am_sh[40]? = some (.inl (.int, 4)) := rfl
theorem sh_41 : am_sh[41]? = some (.inr (.inr (1, [(3, .int 1), (0, .null), (0, .null), (0, .null), (0, .null), (0, .null), (1, .null), (3, .ref 42), (3, .ref 43), (3, .ref 44)]))) := rfl
theorem sh_42 : am_sh[42]? = some (.inl (.int, 8)) := rfl
theorem sh_43 : am_sh[43]? = some (.inl (.int, 8)) := rfl
theorem sh_44 : am_sh[44]? = some (.inl (.int, 4)) := rfl
theorem sh_45 : am_sh[45]? = some (.inr (.inr (1, [(3, .int 2), (0, .null), (0, .null), (0, .null), (0, .null), (0, .null), (1, .null), (3, .ref 46), (3, .ref 47), (3, .ref 48)]))) := rfl
theorem sh_46 : am_sh[46]? = some (.inl (.int, 8)) := rfl
theorem sh_47 : am_sh[47]? = some (.inl (.int, 8)) := rfl
theorem sh_48 : am_sh[48]? = some (.inl (.int, 4)) := rfl
theorem sh_49 : am_sh[49]? = some (.inr (.inr (1, [(3, .int 3), (0, .null), (0, .null), (0, .null), (0, .null), (0, .null), (1, .null), (3, .ref 50), (3, .ref 51), (3, .ref 52)]))) := rfl
theorem sh_50 : am_sh[50]? = some (.inl (.int, 8)) := rfl
theorem sh_51 : am_sh[51]? = some (.inl (.int, 8)) := rfl
theorem sh_52 : am_sh[52]? = some (.inl (.int, 4)) := rfl
theorem sh_53 : am_sh[53]? = some (.inr (.inr (1, [(3, .int 4), (0, .null), (0, .null), (0, .null), (0, .null), (0, .null), (1, .null), (3, .ref 54), (3, .ref 55), (3, .ref 56)]))) := rfl
theorem sh_54 : am_sh[54]? = some (.inl (.int, 8)) := rfl
theorem sh_55 : am_sh[55]? = some (.inl (.int, 8)) := rfl
theorem sh_56 : am_sh[56]? = some (.inl (.int, 4)) := rfl
theorem sh_57 : am_sh[57]? = some (.inr (.inr (1, [(3, .int 5), (0, .null), (0, .null), (0, .null), (0, .null), (0, .null), (1, .null), (3, .ref 58), (3, .ref 59), (3, .ref 60)]))) := rfl
theorem sh_58 : am_sh[58]? = some (.inl (.int, 8)) := rfl
theorem sh_59 : am_sh[59]? = some (.inl (.int, 8)) := rfl
theorem sh_60 : am_sh[60]? = some (.inl (.int, 4)) := rfl
theorem sh_61 : am_sh[61]? = some (.inr (.inr (2, [(3, .ref 62), (0, .null), (0, .null), (2, .null), (3, .ref 63), (0, .null), (3, .ref 64), (3, .ref 65), (3, .ref 66)]))) := rfl
theorem sh_62 : am_sh[62]? = some (.inl (.int, 16)) := rfl
theorem sh_63 : am_sh[63]? = some (.inr (.inl (.object "LostSheets$Drawer", [some 67, some 71, some 75, some 79, some 83, some 87]))) := rfl
theorem sh_64 : am_sh[64]? = some (.inl (.int, 6)) := rfl
theorem sh_65 : am_sh[65]? = some (.inl (.int, 6)) := rfl
theorem sh_66 : am_sh[66]? = some (.inl (.int, 8)) := rfl
theorem sh_67 : am_sh[67]? = some (.inr (.inr (1, [(3, .int 0), (0, .null), (0, .null), (0, .null), (0, .null), (0, .null), (1, .null), (3, .ref 68), (3, .ref 69), (3, .ref 70)]))) := rfl
theorem sh_68 : am_sh[68]? = some (.inl (.int, 8)) := rfl
theorem sh_69 : am_sh[69]? = some (.inl (.int, 8)) := rfl
theorem sh_70 : am_sh[70]? = some (.inl (.int, 4)) := rfl
theorem sh_71 : am_sh[71]? = some (.inr (.inr (1, [(3, .int 1), (0, .null), (0, .null), (0, .null), (0, .null), (0, .null), (1, .null), (3, .ref 72), (3, .ref 73), (3, .ref 74)]))) := rfl
theorem sh_72 : am_sh[72]? = some (.inl (.int, 8)) := rfl
theorem sh_73 : am_sh[73]? = some (.inl (.int, 8)) := rfl
theorem sh_74 : am_sh[74]? = some (.inl (.int, 4)) := rfl
theorem sh_75 : am_sh[75]? = some (.inr (.inr (1, [(3, .int 2), (0, .null), (0, .null), (0, .null), (0, .null), (0, .null), (1, .null), (3, .ref 76), (3, .ref 77), (3, .ref 78)]))) := rfl
theorem sh_76 : am_sh[76]? = some (.inl (.int, 8)) := rfl
theorem sh_77 : am_sh[77]? = some (.inl (.int, 8)) := rfl
theorem sh_78 : am_sh[78]? = some (.inl (.int, 4)) := rfl
theorem sh_79 : am_sh[79]? = some (.inr (.inr (1, [(3, .int 3), (0, .null), (0, .null), (0, .null), (0, .null), (0, .null), (1, .null), (3, .ref 80), (3, .ref 81), (3, .ref 82)]))) := rfl
theorem sh_80 : am_sh[80]? = some (.inl (.int, 8)) := rfl
theorem sh_81 : am_sh[81]? = some (.inl (.int, 8)) := rfl
theorem sh_82 : am_sh[82]? = some (.inl (.int, 4)) := rfl
theorem sh_83 : am_sh[83]? = some (.inr (.inr (1, [(3, .int 4), (0, .null), (0, .null), (0, .null), (0, .null), (0, .null), (1, .null), (3, .ref 84), (3, .ref 85), (3, .ref 86)]))) := rfl
theorem sh_84 : am_sh[84]? = some (.inl (.int, 8)) := rfl
theorem sh_85 : am_sh[85]? = some (.inl (.int, 8)) := rfl
theorem sh_86 : am_sh[86]? = some (.inl (.int, 4)) := rfl
theorem sh_87 : am_sh[87]? = some (.inr (.inr (1, [(3, .int 5), (0, .null), (0, .null), (0, .null), (0, .null), (0, .null), (1, .null), (3, .ref 88), (3, .ref 89), (3, .ref 90)]))) := rfl
theorem sh_88 : am_sh[88]? = some (.inl (.int, 8)) := rfl
theorem sh_89 : am_sh[89]? = some (.inl (.int, 8)) := rfl
theorem sh_90 : am_sh[90]? = some (.inl (.int, 4)) := rfl
theorem sh_91 : am_sh[91]? = some (.inr (.inr (0, [(3, .ref 92), (3, .ref 96), (3, .ref 100)]))) := rfl
theorem sh_92 : am_sh[92]? = some (.inr (.inr (4, [(3, .int 5), (3, .ref 93), (3, .ref 94), (3, .ref 95), (0, .null)]))) := rfl
theorem sh_93 : am_sh[93]? = some (.inl (.int, 5)) := rfl
theorem sh_94 : am_sh[94]? = some (.inl (.int, 5)) := rfl
theorem sh_95 : am_sh[95]? = some (.inl (.int, 5)) := rfl
theorem sh_96 : am_sh[96]? = some (.inr (.inr (4, [(3, .int 10), (3, .ref 97), (3, .ref 98), (3, .ref 99), (0, .null)]))) := rfl
theorem sh_97 : am_sh[97]? = some (.inl (.int, 10)) := rfl
theorem sh_98 : am_sh[98]? = some (.inl (.int, 10)) := rfl
theorem sh_99 : am_sh[99]? = some (.inl (.int, 10)) := rfl
theorem sh_100 : am_sh[100]? = some (.inr (.inr (4, [(3, .int 8), (3, .ref 101), (3, .ref 102), (3, .ref 103), (0, .null)]))) := rfl
theorem sh_101 : am_sh[101]? = some (.inl (.int, 8)) := rfl
theorem sh_102 : am_sh[102]? = some (.inl (.int, 8)) := rfl
theorem sh_103 : am_sh[103]? = some (.inl (.int, 8)) := rfl
theorem sh_104 : am_sh[104]? = some (.inr (.inr (0, [(3, .ref 105), (3, .ref 109), (3, .ref 113)]))) := rfl
theorem sh_105 : am_sh[105]? = some (.inr (.inr (4, [(3, .int 5), (3, .ref 106), (3, .ref 107), (3, .ref 108), (0, .null)]))) := rfl
theorem sh_106 : am_sh[106]? = some (.inl (.int, 5)) := rfl
theorem sh_107 : am_sh[107]? = some (.inl (.int, 5)) := rfl
theorem sh_108 : am_sh[108]? = some (.inl (.int, 5)) := rfl
theorem sh_109 : am_sh[109]? = some (.inr (.inr (4, [(3, .int 10), (3, .ref 110), (3, .ref 111), (3, .ref 112), (0, .null)]))) := rfl
theorem sh_110 : am_sh[110]? = some (.inl (.int, 10)) := rfl
theorem sh_111 : am_sh[111]? = some (.inl (.int, 10)) := rfl
theorem sh_112 : am_sh[112]? = some (.inl (.int, 10)) := rfl
theorem sh_113 : am_sh[113]? = some (.inr (.inr (4, [(3, .int 8), (3, .ref 114), (3, .ref 115), (3, .ref 116), (0, .null)]))) := rfl
theorem sh_114 : am_sh[114]? = some (.inl (.int, 8)) := rfl
theorem sh_115 : am_sh[115]? = some (.inl (.int, 8)) := rfl
theorem sh_116 : am_sh[116]? = some (.inl (.int, 8)) := rfl
theorem sh_117 : am_sh[117]? = some (.inr (.inr (6, [(3, .ref 118), (0, .null), (0, .null), (0, .null), (2, .null)]))) := rfl
theorem sh_118 : am_sh[118]? = some (.inl (.byte, 100)) := rfl
theorem sh_119 : am_sh[119]? = some (.inr (.inl (.object "LostSheets$Office", [some 123, some 126, some 129, some 132, some 135, some 138]))) := rfl
theorem sh_120 : am_sh[120]? = some (.inr (.inr (7, [(3, .ref 121), (0, .null)]))) := rfl
theorem sh_121 : am_sh[121]? = some (.inl (.int, 20)) := rfl
theorem sh_122 : am_sh[122]? = some (.inr (.inl (.object "LostSheets$Tape", [some 141, some 143, some 145, some 147, some 149, some 151]))) := rfl
theorem sh_123 : am_sh[123]? = some (.inr (.inr (3, [(0, .null), (3, .ref 124), (3, .ref 125), (0, .null)]))) := rfl
theorem sh_124 : am_sh[124]? = some (.inl (.int, 100)) := rfl
theorem sh_125 : am_sh[125]? = some (.inl (.int, 100)) := rfl
theorem sh_126 : am_sh[126]? = some (.inr (.inr (3, [(0, .null), (3, .ref 127), (3, .ref 128), (0, .null)]))) := rfl
theorem sh_127 : am_sh[127]? = some (.inl (.int, 100)) := rfl
theorem sh_128 : am_sh[128]? = some (.inl (.int, 100)) := rfl
theorem sh_129 : am_sh[129]? = some (.inr (.inr (3, [(0, .null), (3, .ref 130), (3, .ref 131), (0, .null)]))) := rfl
theorem sh_130 : am_sh[130]? = some (.inl (.int, 100)) := rfl
theorem sh_131 : am_sh[131]? = some (.inl (.int, 100)) := rfl
theorem sh_132 : am_sh[132]? = some (.inr (.inr (3, [(0, .null), (3, .ref 133), (3, .ref 134), (0, .null)]))) := rfl
theorem sh_133 : am_sh[133]? = some (.inl (.int, 100)) := rfl
theorem sh_134 : am_sh[134]? = some (.inl (.int, 100)) := rfl
theorem sh_135 : am_sh[135]? = some (.inr (.inr (3, [(0, .null), (3, .ref 136), (3, .ref 137), (0, .null)]))) := rfl
theorem sh_136 : am_sh[136]? = some (.inl (.int, 100)) := rfl
theorem sh_137 : am_sh[137]? = some (.inl (.int, 100)) := rfl
theorem sh_138 : am_sh[138]? = some (.inr (.inr (3, [(0, .null), (3, .ref 139), (3, .ref 140), (0, .null)]))) := rfl
theorem sh_139 : am_sh[139]? = some (.inl (.int, 100)) := rfl
theorem sh_140 : am_sh[140]? = some (.inl (.int, 100)) := rfl
theorem sh_141 : am_sh[141]? = some (.inr (.inr (5, [(0, .null), (0, .null), (3, .ref 142)]))) := rfl
theorem sh_142 : am_sh[142]? = some (.inl (.long, 60)) := rfl
theorem sh_143 : am_sh[143]? = some (.inr (.inr (5, [(0, .null), (0, .null), (3, .ref 144)]))) := rfl
theorem sh_144 : am_sh[144]? = some (.inl (.long, 60)) := rfl
theorem sh_145 : am_sh[145]? = some (.inr (.inr (5, [(0, .null), (0, .null), (3, .ref 146)]))) := rfl
theorem sh_146 : am_sh[146]? = some (.inl (.long, 60)) := rfl
theorem sh_147 : am_sh[147]? = some (.inr (.inr (5, [(0, .null), (0, .null), (3, .ref 148)]))) := rfl
theorem sh_148 : am_sh[148]? = some (.inl (.long, 60)) := rfl
theorem sh_149 : am_sh[149]? = some (.inr (.inr (5, [(0, .null), (0, .null), (3, .ref 150)]))) := rfl
theorem sh_150 : am_sh[150]? = some (.inl (.long, 60)) := rfl
theorem sh_151 : am_sh[151]? = some (.inr (.inr (5, [(0, .null), (0, .null), (3, .ref 152)]))) := rfl
theorem sh_152 : am_sh[152]? = some (.inl (.long, 60)) := rfl
theorem sh_153 : am_sh[153]? = some (.inr (.inr (9, [(0, .null), (3, .ref 154), (3, .ref 155), (3, .ref 156), (3, .ref 157), (3, .ref 158), (3, .ref 159), (3, .ref 160), (3, .ref 161), (3, .ref 162), (0, .null), (0, .null), (0, .null), (3, .ref 163), (0, .null), (0, .null), (0, .null), (0, .null), (0, .null), (0, .null), (3, .ref 164), (3, .ref 165), (3, .ref 166), (3, .ref 167), (3, .ref 168), (3, .ref 169), (0, .null), (3, .ref 170), (0, .null), (3, .ref 171), (3, .ref 172), (3, .ref 173), (0, .null), (3, .ref 174), (3, .ref 175), (0, .null), (3, .ref 176), (3, .ref 177), (0, .null), (3, .ref 178), (1, .null), (3, .ref 179), (3, .ref 180), (3, .ref 181), (3, .ref 182), (3, .ref 183), (3, .ref 184)]))) := rfl
theorem sh_154 : am_sh[154]? = some (.inl (.int, 6)) := rfl
theorem sh_155 : am_sh[155]? = some (.inl (.int, 6)) := rfl
theorem sh_156 : am_sh[156]? = some (.inl (.int, 6)) := rfl
theorem sh_157 : am_sh[157]? = some (.inl (.int, 6)) := rfl
theorem sh_158 : am_sh[158]? = some (.inl (.int, 6)) := rfl
theorem sh_159 : am_sh[159]? = some (.inl (.int, 6)) := rfl
theorem sh_160 : am_sh[160]? = some (.inl (.int, 48)) := rfl
theorem sh_161 : am_sh[161]? = some (.inl (.int, 24)) := rfl
theorem sh_162 : am_sh[162]? = some (.inl (.int, 16)) := rfl
theorem sh_163 : am_sh[163]? = some (.inl (.int, 100)) := rfl
theorem sh_164 : am_sh[164]? = some (.inl (.int, 6)) := rfl
theorem sh_165 : am_sh[165]? = some (.inl (.int, 61)) := rfl
theorem sh_166 : am_sh[166]? = some (.inl (.int, 61)) := rfl
theorem sh_167 : am_sh[167]? = some (.inl (.int, 61)) := rfl
theorem sh_168 : am_sh[168]? = some (.inl (.int, 61)) := rfl
theorem sh_169 : am_sh[169]? = some (.inl (.int, 800)) := rfl
theorem sh_170 : am_sh[170]? = some (.inl (.boolean, 110)) := rfl
theorem sh_171 : am_sh[171]? = some (.inl (.int, 5)) := rfl
theorem sh_172 : am_sh[172]? = some (.inl (.int, 5)) := rfl
theorem sh_173 : am_sh[173]? = some (.inl (.int, 5)) := rfl
theorem sh_174 : am_sh[174]? = some (.inl (.int, 10)) := rfl
theorem sh_175 : am_sh[175]? = some (.inl (.int, 10)) := rfl
theorem sh_176 : am_sh[176]? = some (.inl (.int, 8)) := rfl
theorem sh_177 : am_sh[177]? = some (.inl (.int, 8)) := rfl
theorem sh_178 : am_sh[178]? = some (.inl (.int, 20)) := rfl
theorem sh_179 : am_sh[179]? = some (.inl (.int, 182)) := rfl
theorem sh_180 : am_sh[180]? = some (.inl (.int, 182)) := rfl
theorem sh_181 : am_sh[181]? = some (.inl (.int, 6)) := rfl
theorem sh_182 : am_sh[182]? = some (.inl (.int, 6)) := rfl
theorem sh_183 : am_sh[183]? = some (.inl (.int, 6)) := rfl
theorem sh_184 : am_sh[184]? = some (.inl (.long, 360)) := rfl
abbrev am_Mm : Type := (Nat → Nat → Int32) × (Nat → Nat → Int64)
def am_b (x : Int32) : Int32 := if x = 0 then 0 else 1
def am_dec (x : Int32) : Value := if x < 0 then .null else .ref x.toNatClampNeg
def am_sv (m : am_Mm) (c k : Nat) (kd : Nat × Value) : Value := match kd.1 with
  | 0 => .int (m.1 c k)
  | 1 => .int (am_b (m.1 c k))
  | 2 => am_dec (m.1 c k)
  | _ => kd.2
def am_ent (m : am_Mm) (c : Nat) (x : am_Sh) : am_E := match x with
  | .inl (ty, n) => .inl (ty, if ty = .long then .inr (.inl ((List.range n).map (m.2 c))) else .inl ((List.range n).map (m.1 c)))
  | .inr (.inl (ty, l)) => .inl (ty, .inr (.inr l))
  | .inr (.inr (ci, ks)) => .inr (ci, ks.mapIdx (am_sv m c))
def am_rep (m : am_Mm) : am_H := am_sh.mapIdx (am_ent m)
theorem am_rep_at (m : am_Mm) {c : Nat} {x : am_Sh} (h : am_sh[c]? = some x) : (am_rep m)[c]? = some (am_ent m c x) := by
  unfold am_rep
  rw [List.getElem?_mapIdx, h]; rfl
/-- one place of the memory changes -/
def am_u (m : am_Mm) (c k : Nat) (x : Int32) : am_Mm := (fun c' k' => if c' = c ∧ k' = k then x else m.1 c' k', m.2)
def am_uJ (m : am_Mm) (c k : Nat) (x : Int64) : am_Mm := (m.1, fun c' k' => if c' = c ∧ k' = k then x else m.2 c' k')
theorem am_rep_ext {m m' : am_Mm} {c : Nat} {x : am_Sh} {e : am_E} (h : am_sh[c]? = some x) (hc : am_ent m' c x = e) (ho : ∀ c' x', c' ≠ c → am_sh[c']? = some x' → am_ent m' c' x' = am_ent m c' x') : (am_rep m).set c e = am_rep m' := by
  apply List.ext_getElem?
  intro j
  have hl : (am_rep m).length = am_sh.length := by unfold am_rep; simp
  have hcl : c < am_sh.length := (List.getElem?_eq_some_iff.mp h).1
  rw [List.getElem?_set]
  by_cases hj : c = j
  · subst hj
    rw [if_pos rfl, if_pos (by rw [hl]; exact hcl), am_rep_at m' h, hc]
  · rw [if_neg hj]
    cases hx : am_sh[j]? with
    | none =>
      unfold am_rep
      rw [List.getElem?_mapIdx, List.getElem?_mapIdx, hx]; rfl
    | some x' => rw [am_rep_at m hx, am_rep_at m' hx, ho j x' (fun q => hj q.symm) hx]
theorem am_ent_u {m : am_Mm} {c k : Nat} {v : Int32} {c' : Nat} (x' : am_Sh) (h : c' ≠ c) : am_ent (am_u m c k v) c' x' = am_ent m c' x' := by
  have e : (am_u m c k v).1 c' = m.1 c' := by funext j; unfold am_u; simp [h]
  rcases x' with ⟨ty, n⟩ | ⟨ty, l⟩ | ⟨ci, ks⟩
  · unfold am_ent; rw [e]; rfl
  · rfl
  · unfold am_ent
    congr 2
    have : am_sv (am_u m c k v) c' = am_sv m c' := by
      funext j kd; unfold am_sv; rw [e]
    rw [this]
theorem am_ent_uJ {m : am_Mm} {c k : Nat} {v : Int64} {c' : Nat} (x' : am_Sh) (h : c' ≠ c) : am_ent (am_uJ m c k v) c' x' = am_ent m c' x' := by
  have e : (am_uJ m c k v).2 c' = m.2 c' := by funext j; unfold am_uJ; simp [h]
  rcases x' with ⟨ty, n⟩ | ⟨ty, l⟩ | ⟨ci, ks⟩
  · unfold am_ent; rw [e]; rfl
  · rfl
  · rfl
theorem am_mapSet {α β : Type} (f g : Nat → α → β) (l : List α) (k : Nat) (x : α) (w : β) (hk : l[k]? = some x) (hw : g k x = w) (ho : ∀ j y, j ≠ k → g j y = f j y) : (l.mapIdx f).set k w = l.mapIdx g := by
  apply List.ext_getElem?
  intro j
  rw [List.getElem?_set, List.getElem?_mapIdx, List.getElem?_mapIdx]
  by_cases hj : k = j
  · subst hj
    rw [if_pos rfl, if_pos (by simpa using (List.getElem?_eq_some_iff.mp hk).1), hk, Option.map_some, hw]
  · rw [if_neg hj]
    cases l[j]? with
    | none => rfl
    | some q => rw [Option.map_some, Option.map_some, ho j q (fun e => hj e.symm)]
theorem am_sv_u (m : am_Mm) (c k j : Nat) (v : Int32) (kd : Nat × Value) (h : j ≠ k) : am_sv (am_u m c k v) c j kd = am_sv m c j kd := by
  have e1 : (am_u m c k v).1 c j = m.1 c j := if_neg (fun q => h q.2)
  unfold am_sv
  rw [e1]
/-- a field -/
theorem am_put0 (m : am_Mm) {c ci k : Nat} {ks : List (Nat × Value)} {kd : Nat × Value} (v : Int32) (w : Value) (h : am_sh[c]? = some (.inr (.inr (ci, ks)))) (hk : ks[k]? = some kd) (hw : am_sv (am_u m c k v) c k kd = w) : (am_rep m).set c (.inr (ci, (ks.mapIdx (am_sv m c)).set k w)) = am_rep (am_u m c k v) := by
  refine am_rep_ext h ?_ (fun c' x' hc' _ => am_ent_u x' hc')
  rw [am_mapSet (am_sv m c) (am_sv (am_u m c k v) c) ks k kd w hk hw (fun j y hj => am_sv_u m c k j v y hj)]
  rfl
theorem am_putA (m : am_Mm) {c n i : Nat} {ty : FieldType} (v : Int32) (h : am_sh[c]? = some (.inl (ty, n))) (hty : ty ≠ .long) : (am_rep m).set c (.inl (ty, .inl (((List.range n).map (m.1 c)).set i v))) = am_rep (am_u m c i v) := by
  refine am_rep_ext h ?_ (fun c' x' hc' _ => am_ent_u x' hc')
  show Sum.inl (ty, if ty = .long then _ else _) = _
  rw [if_neg hty]
  congr 3
  apply List.ext_getElem?
  intro j
  rw [List.getElem?_set, List.getElem?_map, List.getElem?_map]
  by_cases hj : i = j
  · subst hj
    rw [if_pos rfl]
    by_cases hl : i < n
    · rw [if_pos (by simpa using hl), List.getElem?_range hl]
      have e1 : (am_u m c i v).1 c i = v := if_pos ⟨rfl, rfl⟩
      show some ((am_u m c i v).1 c i) = some v
      rw [e1]
    · rw [if_neg (by simpa using hl), List.getElem?_eq_none (by simpa using hl)]; rfl
  · rw [if_neg hj]
    by_cases hl : j < n
    · rw [List.getElem?_range hl]
      have e1 : (am_u m c i v).1 c j = m.1 c j := if_neg (fun q => hj q.2.symm)
      show some ((am_u m c i v).1 c j) = some (m.1 c j)
      rw [e1]
    · rw [List.getElem?_eq_none (by simpa using hl)]; rfl
theorem am_putJ (m : am_Mm) {c n i : Nat} (v : Int64) (h : am_sh[c]? = some (.inl (.long, n))) : (am_rep m).set c (.inl (.long, .inr (.inl (((List.range n).map (m.2 c)).set i v)))) = am_rep (am_uJ m c i v) := by
  refine am_rep_ext h ?_ (fun c' x' hc' _ => am_ent_uJ x' hc')
  show Sum.inl (FieldType.long, Sum.inr (Sum.inl ((List.range n).map ((am_uJ m c i v).2 c)))) = _
  congr 4
  apply List.ext_getElem?
  intro j
  rw [List.getElem?_set, List.getElem?_map, List.getElem?_map]
  by_cases hj : i = j
  · subst hj
    rw [if_pos rfl]
    by_cases hl : i < n
    · rw [if_pos (by simpa using hl), List.getElem?_range hl]
      have e1 : (am_uJ m c i v).2 c i = v := if_pos ⟨rfl, rfl⟩
      show some ((am_uJ m c i v).2 c i) = some v
      rw [e1]
    · rw [if_neg (by simpa using hl), List.getElem?_eq_none (by simpa using hl)]; rfl
  · rw [if_neg hj]
    by_cases hl : j < n
    · rw [List.getElem?_range hl]
      have e1 : (am_uJ m c i v).2 c j = m.2 c j := if_neg (fun q => hj q.2.symm)
      show some ((am_uJ m c i v).2 c j) = some (m.2 c j)
      rw [e1]
    · rw [List.getElem?_eq_none (by simpa using hl)]; rfl

