/-- which cell is what, behind the two constructors; b: the row of the orders is made -/
def gg (b : Bool) : wg_G := [.inl (10, [some 1, some 9, some 14, some 17, some 22, some 29, some 34, some 40, some 43, some 46, none]), .inl (0, [none, some 2, some 3, some 4, some 5, some 6, some 7, some 8]), .inr (0, 16), .inr (0, 16), .inr (0, 16), .inr (0, 64), .inr (0, 16), .inr (0, 16), .inr (0, 16), .inl (7, [none, some 10, some 11, some 12, some 13]), .inr (0, 9), .inr (0, 9), .inr (0, 9), .inr (0, 9), .inl (2, [none, some 15, some 16]), .inr (0, 6), .inr (0, 96), .inl (9, [none, none, none, none, none, some 18, some 19, some 20, some 21]), .inr (0, 120), .inr (0, 2), .inr (0, 2), .inr (0, 2), .inl (6, [none, some 23, some 24, some 25, some 26, some 27, some 28]), .inr (3, 12), .inr (0, 12), .inr (0, 12), .inr (0, 24), .inr (0, 24), .inr (0, 24), .inl (8, [none, none, some 30, some 31, some 1, some 32, some 33, none, none]), .inr (0, 16), .inr (0, 16), .inr (0, 4), .inr (0, 4), .inl (5, [none, some 35, none, some 36, some 37, some 38, some (if b then 85 else 39)]), .inr (0, 9), .inr (0, 9), .inr (0, 9), .inr (0, 81), .inr (0, 0), .inl (1, [some 41, some 42]), .inr (0, 96), .inr (0, 96), .inl (3, [some 44, some 45, some 1]), .inr (0, 8), .inr (0, 16), .inl (4, [none, none, some 1]), .inl (11, [none, some 48, some 49, some 50, some 51, some 52, some 53, some 54, some 55, some 56, none, none, some 57, some 58, some 59, some 60, none, some 61, some 62, some 63, none, none, some 64, some 65, some 66, some 67, some 68, some 69, none, none, some 70, some 71, some 72, some 73, none, none, some 74, some 75, some 76, some 77, some 78, some 79, some 80, none, some 81, some 82, some 83, some 84, none, none]), .inr (0, 16), .inr (0, 16), .inr (0, 64), .inr (0, 16), .inr (0, 16), .inr (0, 16), .inr (0, 16), .inr (0, 16), .inr (0, 16), .inr (0, 9), .inr (0, 9), .inr (0, 9), .inr (0, 9), .inr (0, 6), .inr (0, 96), .inr (1, 120), .inr (3, 12), .inr (0, 12), .inr (0, 12), .inr (0, 24), .inr (0, 24), .inr (0, 24), .inr (2, 19), .inr (0, 5), .inr (0, 5), .inr (0, 8), .inr (0, 4), .inr (0, 4), .inr (3, 144), .inr (3, 9), .inr (0, 81), .inr (0, 4608), .inr (0, 9), .inr (0, 96), .inr (0, 96), .inr (0, 8), .inr (0, 16)] ++ (if b then [.inr (0, 4608)] else [])
theorem gg_len (b : Bool) : (gg b).length = if b then 86 else 85 := by cases b <;> rfl
theorem gg_0 (b : Bool) : (gg b)[0]? = some (.inl (10, [some 1, some 9, some 14, some 17, some 22, some 29, some 34, some 40, some 43, some 46, none])) := rfl
theorem gg_1 (b : Bool) : (gg b)[1]? = some (.inl (0, [none, some 2, some 3, some 4, some 5, some 6, some 7, some 8])) := rfl
theorem gg_2 (b : Bool) : (gg b)[2]? = some (.inr (0, 16)) := rfl
theorem gg_3 (b : Bool) : (gg b)[3]? = some (.inr (0, 16)) := rfl
theorem gg_4 (b : Bool) : (gg b)[4]? = some (.inr (0, 16)) := rfl
theorem gg_5 (b : Bool) : (gg b)[5]? = some (.inr (0, 64)) := rfl
theorem gg_6 (b : Bool) : (gg b)[6]? = some (.inr (0, 16)) := rfl
theorem gg_7 (b : Bool) : (gg b)[7]? = some (.inr (0, 16)) := rfl
theorem gg_8 (b : Bool) : (gg b)[8]? = some (.inr (0, 16)) := rfl
theorem gg_9 (b : Bool) : (gg b)[9]? = some (.inl (7, [none, some 10, some 11, some 12, some 13])) := rfl
theorem gg_10 (b : Bool) : (gg b)[10]? = some (.inr (0, 9)) := rfl
theorem gg_11 (b : Bool) : (gg b)[11]? = some (.inr (0, 9)) := rfl
theorem gg_12 (b : Bool) : (gg b)[12]? = some (.inr (0, 9)) := rfl
theorem gg_13 (b : Bool) : (gg b)[13]? = some (.inr (0, 9)) := rfl
theorem gg_14 (b : Bool) : (gg b)[14]? = some (.inl (2, [none, some 15, some 16])) := rfl
theorem gg_15 (b : Bool) : (gg b)[15]? = some (.inr (0, 6)) := rfl
theorem gg_16 (b : Bool) : (gg b)[16]? = some (.inr (0, 96)) := rfl
theorem gg_17 (b : Bool) : (gg b)[17]? = some (.inl (9, [none, none, none, none, none, some 18, some 19, some 20, some 21])) := rfl
theorem gg_18 (b : Bool) : (gg b)[18]? = some (.inr (0, 120)) := rfl
theorem gg_19 (b : Bool) : (gg b)[19]? = some (.inr (0, 2)) := rfl
theorem gg_20 (b : Bool) : (gg b)[20]? = some (.inr (0, 2)) := rfl
theorem gg_21 (b : Bool) : (gg b)[21]? = some (.inr (0, 2)) := rfl
theorem gg_22 (b : Bool) : (gg b)[22]? = some (.inl (6, [none, some 23, some 24, some 25, some 26, some 27, some 28])) := rfl
theorem gg_23 (b : Bool) : (gg b)[23]? = some (.inr (3, 12)) := rfl
theorem gg_24 (b : Bool) : (gg b)[24]? = some (.inr (0, 12)) := rfl
theorem gg_25 (b : Bool) : (gg b)[25]? = some (.inr (0, 12)) := rfl
theorem gg_26 (b : Bool) : (gg b)[26]? = some (.inr (0, 24)) := rfl
theorem gg_27 (b : Bool) : (gg b)[27]? = some (.inr (0, 24)) := rfl
theorem gg_28 (b : Bool) : (gg b)[28]? = some (.inr (0, 24)) := rfl
theorem gg_29 (b : Bool) : (gg b)[29]? = some (.inl (8, [none, none, some 30, some 31, some 1, some 32, some 33, none, none])) := rfl
theorem gg_30 (b : Bool) : (gg b)[30]? = some (.inr (0, 16)) := rfl
theorem gg_31 (b : Bool) : (gg b)[31]? = some (.inr (0, 16)) := rfl
theorem gg_32 (b : Bool) : (gg b)[32]? = some (.inr (0, 4)) := rfl
theorem gg_33 (b : Bool) : (gg b)[33]? = some (.inr (0, 4)) := rfl
theorem gg_34 (b : Bool) : (gg b)[34]? = some (.inl (5, [none, some 35, none, some 36, some 37, some 38, some (if b then 85 else 39)])) := rfl
theorem gg_35 (b : Bool) : (gg b)[35]? = some (.inr (0, 9)) := rfl
theorem gg_36 (b : Bool) : (gg b)[36]? = some (.inr (0, 9)) := rfl
theorem gg_37 (b : Bool) : (gg b)[37]? = some (.inr (0, 9)) := rfl
theorem gg_38 (b : Bool) : (gg b)[38]? = some (.inr (0, 81)) := rfl
theorem gg_39 (b : Bool) : (gg b)[39]? = some (.inr (0, 0)) := rfl
theorem gg_40 (b : Bool) : (gg b)[40]? = some (.inl (1, [some 41, some 42])) := rfl
theorem gg_41 (b : Bool) : (gg b)[41]? = some (.inr (0, 96)) := rfl
theorem gg_42 (b : Bool) : (gg b)[42]? = some (.inr (0, 96)) := rfl
theorem gg_43 (b : Bool) : (gg b)[43]? = some (.inl (3, [some 44, some 45, some 1])) := rfl
theorem gg_44 (b : Bool) : (gg b)[44]? = some (.inr (0, 8)) := rfl
theorem gg_45 (b : Bool) : (gg b)[45]? = some (.inr (0, 16)) := rfl
theorem gg_46 (b : Bool) : (gg b)[46]? = some (.inl (4, [none, none, some 1])) := rfl
theorem gg_47 (b : Bool) : (gg b)[47]? = some (.inl (11, [none, some 48, some 49, some 50, some 51, some 52, some 53, some 54, some 55, some 56, none, none, some 57, some 58, some 59, some 60, none, some 61, some 62, some 63, none, none, some 64, some 65, some 66, some 67, some 68, some 69, none, none, some 70, some 71, some 72, some 73, none, none, some 74, some 75, some 76, some 77, some 78, some 79, some 80, none, some 81, some 82, some 83, some 84, none, none])) := rfl
theorem gg_48 (b : Bool) : (gg b)[48]? = some (.inr (0, 16)) := rfl
theorem gg_49 (b : Bool) : (gg b)[49]? = some (.inr (0, 16)) := rfl
theorem gg_50 (b : Bool) : (gg b)[50]? = some (.inr (0, 64)) := rfl
theorem gg_51 (b : Bool) : (gg b)[51]? = some (.inr (0, 16)) := rfl
theorem gg_52 (b : Bool) : (gg b)[52]? = some (.inr (0, 16)) := rfl
theorem gg_53 (b : Bool) : (gg b)[53]? = some (.inr (0, 16)) := rfl
theorem gg_54 (b : Bool) : (gg b)[54]? = some (.inr (0, 16)) := rfl
theorem gg_55 (b : Bool) : (gg b)[55]? = some (.inr (0, 16)) := rfl
theorem gg_56 (b : Bool) : (gg b)[56]? = some (.inr (0, 16)) := rfl
theorem gg_57 (b : Bool) : (gg b)[57]? = some (.inr (0, 9)) := rfl
theorem gg_58 (b : Bool) : (gg b)[58]? = some (.inr (0, 9)) := rfl
theorem gg_59 (b : Bool) : (gg b)[59]? = some (.inr (0, 9)) := rfl
theorem gg_60 (b : Bool) : (gg b)[60]? = some (.inr (0, 9)) := rfl
theorem gg_61 (b : Bool) : (gg b)[61]? = some (.inr (0, 6)) := rfl
theorem gg_62 (b : Bool) : (gg b)[62]? = some (.inr (0, 96)) := rfl
theorem gg_63 (b : Bool) : (gg b)[63]? = some (.inr (1, 120)) := rfl
theorem gg_64 (b : Bool) : (gg b)[64]? = some (.inr (3, 12)) := rfl
theorem gg_65 (b : Bool) : (gg b)[65]? = some (.inr (0, 12)) := rfl
theorem gg_66 (b : Bool) : (gg b)[66]? = some (.inr (0, 12)) := rfl
theorem gg_67 (b : Bool) : (gg b)[67]? = some (.inr (0, 24)) := rfl
theorem gg_68 (b : Bool) : (gg b)[68]? = some (.inr (0, 24)) := rfl
theorem gg_69 (b : Bool) : (gg b)[69]? = some (.inr (0, 24)) := rfl
theorem gg_70 (b : Bool) : (gg b)[70]? = some (.inr (2, 19)) := rfl
theorem gg_71 (b : Bool) : (gg b)[71]? = some (.inr (0, 5)) := rfl
theorem gg_72 (b : Bool) : (gg b)[72]? = some (.inr (0, 5)) := rfl
theorem gg_73 (b : Bool) : (gg b)[73]? = some (.inr (0, 8)) := rfl
theorem gg_74 (b : Bool) : (gg b)[74]? = some (.inr (0, 4)) := rfl
theorem gg_75 (b : Bool) : (gg b)[75]? = some (.inr (0, 4)) := rfl
theorem gg_76 (b : Bool) : (gg b)[76]? = some (.inr (3, 144)) := rfl
theorem gg_77 (b : Bool) : (gg b)[77]? = some (.inr (3, 9)) := rfl
theorem gg_78 (b : Bool) : (gg b)[78]? = some (.inr (0, 81)) := rfl
theorem gg_79 (b : Bool) : (gg b)[79]? = some (.inr (0, 4608)) := rfl
theorem gg_80 (b : Bool) : (gg b)[80]? = some (.inr (0, 9)) := rfl
theorem gg_81 (b : Bool) : (gg b)[81]? = some (.inr (0, 96)) := rfl
theorem gg_82 (b : Bool) : (gg b)[82]? = some (.inr (0, 96)) := rfl
theorem gg_83 (b : Bool) : (gg b)[83]? = some (.inr (0, 8)) := rfl
theorem gg_84 (b : Bool) : (gg b)[84]? = some (.inr (0, 16)) := rfl
