/-- the cells of both systems, as their constructors make them -/
def DZ : cm_Ds := [.inr 9, .inr 2, .inl (3, 4), .inl (1, 16), .inl (1, 64), .inl (1, 64), .inl (0, 64), .inr 6, .inl (0, 100), .inr 1, .inl (4, 6), .inr 0, .inl (0, 16), .inl (0, 16), .inl (0, 100), .inr 3, .inl (0, 12), .inr 3, .inl (0, 12), .inr 3, .inl (0, 12), .inr 3, .inl (0, 12), .inr 5, .inl (1, 12), .inl (1, 12), .inl (1, 12), .inl (1, 24), .inl (0, 64), .inl (0, 64), .inl (0, 64), .inl (0, 64), .inl (0, 768), .inl (0, 12), .inr 8, .inl (0, 20), .inl (5, 6), .inr 0, .inl (0, 16), .inl (0, 16), .inl (0, 100), .inr 0, .inl (0, 16), .inl (0, 16), .inl (0, 100), .inr 0, .inl (0, 16), .inl (0, 16), .inl (0, 100), .inr 0, .inl (0, 16), .inl (0, 16), .inl (0, 100), .inr 0, .inl (0, 16), .inl (0, 16), .inl (0, 100), .inr 0, .inl (0, 16), .inl (0, 16), .inl (0, 100), .inr 4, .inl (1, 60), .inr 4, .inl (1, 60), .inr 4, .inl (1, 60), .inr 4, .inl (1, 60), .inr 4, .inl (1, 60), .inr 4, .inl (1, 60), .inr 10, .inl (0, 4), .inl (0, 4), .inl (0, 100), .inl (0, 6), .inl (0, 72), .inl (0, 72), .inl (0, 72), .inl (0, 72), .inl (0, 72), .inl (0, 600), .inl (0, 101), .inl (0, 24), .inl (0, 2), .inl (0, 256), .inl (0, 64), .inl (0, 64), .inl (0, 4096), .inl (0, 16), .inl (2, 4096), .inl (2, 100), .inl (2, 768), .inl (2, 768), .inl (2, 768), .inl (0, 768), .inl (0, 12), .inl (0, 24), .inl (0, 2), .inl (0, 20), .inl (0, 6), .inl (0, 6), .inl (1, 360), .inl (1, 60)]
def DD (t : Nat) : cm_Ds := DZ ++ List.replicate t (.inr 7)
def RT : List (List (Option Nat)) := [[some 1, some 7, some 9, some 10, some 11, some 15, some 17, some 19, some 21, some 23, some 34, some 36], [some 2, some 3, some 4, some 5, some 6], [], [], [], [], [], [some 8], [], [some 7], [some 37, some 41, some 45, some 49, some 53, some 57], [some 12, some 13, some 14], [], [], [], [some 16], [], [some 18], [], [some 20], [], [some 22], [], [some 1, some 15, some 24, some 25, some 26, some 27, some 28, some 29, some 30, some 31, some 32, some 33], [], [], [], [], [], [], [], [], [], [], [some 35], [], [some 61, some 63, some 65, some 67, some 69, some 71], [some 38, some 39, some 40], [], [], [], [some 42, some 43, some 44], [], [], [], [some 46, some 47, some 48], [], [], [], [some 50, some 51, some 52], [], [], [], [some 54, some 55, some 56], [], [], [], [some 58, some 59, some 60], [], [], [], [some 62], [], [some 64], [], [some 66], [], [some 68], [], [some 70], [], [some 72], [], [none, none, some 74, some 75, none, none, none, none, none, some 76, some 77, some 78, some 79, some 80, some 81, some 82, some 83, some 84, none, none, none, some 85, some 86, some 87, some 88, some 89, some 90, some 91, some 92, some 93, some 94, some 95, some 96, some 97, some 98, none, none, some 99, some 100, none, some 101, some 102, some 103, some 104, some 105], [], [], [], [], [], [], [], [], [], [], [], [], [], [], [], [], [], [], [], [], [], [], [], [], [], [], [], [], [], [], [], []]
/-- the references: t things, the reader's house, the telling's house -/
def RR (t : Nat) (hr tl : Option Nat) : cm_R := fun k j => if k = 2 then (if j < t then some (106 + j) else none) else if k = 9 ∧ j = 1 then hr else if k = 23 ∧ j = 12 then tl else (RT.getD k []).getD j none
theorem dd_0 {t : Nat} : (DD t)[0]? = some (.inr 9) := rfl
theorem dd_1 {t : Nat} : (DD t)[1]? = some (.inr 2) := rfl
theorem dd_2 {t : Nat} : (DD t)[2]? = some (.inl (3, 4)) := rfl
theorem dd_3 {t : Nat} : (DD t)[3]? = some (.inl (1, 16)) := rfl
theorem dd_4 {t : Nat} : (DD t)[4]? = some (.inl (1, 64)) := rfl
theorem dd_5 {t : Nat} : (DD t)[5]? = some (.inl (1, 64)) := rfl
theorem dd_6 {t : Nat} : (DD t)[6]? = some (.inl (0, 64)) := rfl
theorem dd_7 {t : Nat} : (DD t)[7]? = some (.inr 6) := rfl
theorem dd_8 {t : Nat} : (DD t)[8]? = some (.inl (0, 100)) := rfl
theorem dd_9 {t : Nat} : (DD t)[9]? = some (.inr 1) := rfl
theorem dd_10 {t : Nat} : (DD t)[10]? = some (.inl (4, 6)) := rfl
theorem dd_11 {t : Nat} : (DD t)[11]? = some (.inr 0) := rfl
theorem dd_12 {t : Nat} : (DD t)[12]? = some (.inl (0, 16)) := rfl
theorem dd_13 {t : Nat} : (DD t)[13]? = some (.inl (0, 16)) := rfl
theorem dd_14 {t : Nat} : (DD t)[14]? = some (.inl (0, 100)) := rfl
theorem dd_15 {t : Nat} : (DD t)[15]? = some (.inr 3) := rfl
theorem dd_16 {t : Nat} : (DD t)[16]? = some (.inl (0, 12)) := rfl
theorem dd_17 {t : Nat} : (DD t)[17]? = some (.inr 3) := rfl
theorem dd_18 {t : Nat} : (DD t)[18]? = some (.inl (0, 12)) := rfl
theorem dd_19 {t : Nat} : (DD t)[19]? = some (.inr 3) := rfl
theorem dd_20 {t : Nat} : (DD t)[20]? = some (.inl (0, 12)) := rfl
theorem dd_21 {t : Nat} : (DD t)[21]? = some (.inr 3) := rfl
theorem dd_22 {t : Nat} : (DD t)[22]? = some (.inl (0, 12)) := rfl
theorem dd_23 {t : Nat} : (DD t)[23]? = some (.inr 5) := rfl
theorem dd_24 {t : Nat} : (DD t)[24]? = some (.inl (1, 12)) := rfl
theorem dd_25 {t : Nat} : (DD t)[25]? = some (.inl (1, 12)) := rfl
theorem dd_26 {t : Nat} : (DD t)[26]? = some (.inl (1, 12)) := rfl
theorem dd_27 {t : Nat} : (DD t)[27]? = some (.inl (1, 24)) := rfl
theorem dd_28 {t : Nat} : (DD t)[28]? = some (.inl (0, 64)) := rfl
theorem dd_29 {t : Nat} : (DD t)[29]? = some (.inl (0, 64)) := rfl
theorem dd_30 {t : Nat} : (DD t)[30]? = some (.inl (0, 64)) := rfl
theorem dd_31 {t : Nat} : (DD t)[31]? = some (.inl (0, 64)) := rfl
theorem dd_32 {t : Nat} : (DD t)[32]? = some (.inl (0, 768)) := rfl
theorem dd_33 {t : Nat} : (DD t)[33]? = some (.inl (0, 12)) := rfl
theorem dd_34 {t : Nat} : (DD t)[34]? = some (.inr 8) := rfl
theorem dd_35 {t : Nat} : (DD t)[35]? = some (.inl (0, 20)) := rfl
theorem dd_36 {t : Nat} : (DD t)[36]? = some (.inl (5, 6)) := rfl
theorem dd_37 {t : Nat} : (DD t)[37]? = some (.inr 0) := rfl
theorem dd_38 {t : Nat} : (DD t)[38]? = some (.inl (0, 16)) := rfl
theorem dd_39 {t : Nat} : (DD t)[39]? = some (.inl (0, 16)) := rfl
theorem dd_40 {t : Nat} : (DD t)[40]? = some (.inl (0, 100)) := rfl
theorem dd_41 {t : Nat} : (DD t)[41]? = some (.inr 0) := rfl
theorem dd_42 {t : Nat} : (DD t)[42]? = some (.inl (0, 16)) := rfl
theorem dd_43 {t : Nat} : (DD t)[43]? = some (.inl (0, 16)) := rfl
theorem dd_44 {t : Nat} : (DD t)[44]? = some (.inl (0, 100)) := rfl
theorem dd_45 {t : Nat} : (DD t)[45]? = some (.inr 0) := rfl
theorem dd_46 {t : Nat} : (DD t)[46]? = some (.inl (0, 16)) := rfl
theorem dd_47 {t : Nat} : (DD t)[47]? = some (.inl (0, 16)) := rfl
theorem dd_48 {t : Nat} : (DD t)[48]? = some (.inl (0, 100)) := rfl
theorem dd_49 {t : Nat} : (DD t)[49]? = some (.inr 0) := rfl
theorem dd_50 {t : Nat} : (DD t)[50]? = some (.inl (0, 16)) := rfl
theorem dd_51 {t : Nat} : (DD t)[51]? = some (.inl (0, 16)) := rfl
theorem dd_52 {t : Nat} : (DD t)[52]? = some (.inl (0, 100)) := rfl
theorem dd_53 {t : Nat} : (DD t)[53]? = some (.inr 0) := rfl
theorem dd_54 {t : Nat} : (DD t)[54]? = some (.inl (0, 16)) := rfl
theorem dd_55 {t : Nat} : (DD t)[55]? = some (.inl (0, 16)) := rfl
theorem dd_56 {t : Nat} : (DD t)[56]? = some (.inl (0, 100)) := rfl
theorem dd_57 {t : Nat} : (DD t)[57]? = some (.inr 0) := rfl
theorem dd_58 {t : Nat} : (DD t)[58]? = some (.inl (0, 16)) := rfl
theorem dd_59 {t : Nat} : (DD t)[59]? = some (.inl (0, 16)) := rfl
theorem dd_60 {t : Nat} : (DD t)[60]? = some (.inl (0, 100)) := rfl
theorem dd_61 {t : Nat} : (DD t)[61]? = some (.inr 4) := rfl
theorem dd_62 {t : Nat} : (DD t)[62]? = some (.inl (1, 60)) := rfl
theorem dd_63 {t : Nat} : (DD t)[63]? = some (.inr 4) := rfl
theorem dd_64 {t : Nat} : (DD t)[64]? = some (.inl (1, 60)) := rfl
theorem dd_65 {t : Nat} : (DD t)[65]? = some (.inr 4) := rfl
theorem dd_66 {t : Nat} : (DD t)[66]? = some (.inl (1, 60)) := rfl
theorem dd_67 {t : Nat} : (DD t)[67]? = some (.inr 4) := rfl
theorem dd_68 {t : Nat} : (DD t)[68]? = some (.inl (1, 60)) := rfl
theorem dd_69 {t : Nat} : (DD t)[69]? = some (.inr 4) := rfl
theorem dd_70 {t : Nat} : (DD t)[70]? = some (.inl (1, 60)) := rfl
theorem dd_71 {t : Nat} : (DD t)[71]? = some (.inr 4) := rfl
theorem dd_72 {t : Nat} : (DD t)[72]? = some (.inl (1, 60)) := rfl
theorem dd_73 {t : Nat} : (DD t)[73]? = some (.inr 10) := rfl
theorem dd_74 {t : Nat} : (DD t)[74]? = some (.inl (0, 4)) := rfl
theorem dd_75 {t : Nat} : (DD t)[75]? = some (.inl (0, 4)) := rfl
theorem dd_76 {t : Nat} : (DD t)[76]? = some (.inl (0, 100)) := rfl
theorem dd_77 {t : Nat} : (DD t)[77]? = some (.inl (0, 6)) := rfl
theorem dd_78 {t : Nat} : (DD t)[78]? = some (.inl (0, 72)) := rfl
theorem dd_79 {t : Nat} : (DD t)[79]? = some (.inl (0, 72)) := rfl
theorem dd_80 {t : Nat} : (DD t)[80]? = some (.inl (0, 72)) := rfl
theorem dd_81 {t : Nat} : (DD t)[81]? = some (.inl (0, 72)) := rfl
theorem dd_82 {t : Nat} : (DD t)[82]? = some (.inl (0, 72)) := rfl
theorem dd_83 {t : Nat} : (DD t)[83]? = some (.inl (0, 600)) := rfl
theorem dd_84 {t : Nat} : (DD t)[84]? = some (.inl (0, 101)) := rfl
theorem dd_85 {t : Nat} : (DD t)[85]? = some (.inl (0, 24)) := rfl
theorem dd_86 {t : Nat} : (DD t)[86]? = some (.inl (0, 2)) := rfl
theorem dd_87 {t : Nat} : (DD t)[87]? = some (.inl (0, 256)) := rfl
theorem dd_88 {t : Nat} : (DD t)[88]? = some (.inl (0, 64)) := rfl
theorem dd_89 {t : Nat} : (DD t)[89]? = some (.inl (0, 64)) := rfl
theorem dd_90 {t : Nat} : (DD t)[90]? = some (.inl (0, 4096)) := rfl
theorem dd_91 {t : Nat} : (DD t)[91]? = some (.inl (0, 16)) := rfl
theorem dd_92 {t : Nat} : (DD t)[92]? = some (.inl (2, 4096)) := rfl
theorem dd_93 {t : Nat} : (DD t)[93]? = some (.inl (2, 100)) := rfl
theorem dd_94 {t : Nat} : (DD t)[94]? = some (.inl (2, 768)) := rfl
theorem dd_95 {t : Nat} : (DD t)[95]? = some (.inl (2, 768)) := rfl
theorem dd_96 {t : Nat} : (DD t)[96]? = some (.inl (2, 768)) := rfl
theorem dd_97 {t : Nat} : (DD t)[97]? = some (.inl (0, 768)) := rfl
theorem dd_98 {t : Nat} : (DD t)[98]? = some (.inl (0, 12)) := rfl
theorem dd_99 {t : Nat} : (DD t)[99]? = some (.inl (0, 24)) := rfl
theorem dd_100 {t : Nat} : (DD t)[100]? = some (.inl (0, 2)) := rfl
theorem dd_101 {t : Nat} : (DD t)[101]? = some (.inl (0, 20)) := rfl
theorem dd_102 {t : Nat} : (DD t)[102]? = some (.inl (0, 6)) := rfl
theorem dd_103 {t : Nat} : (DD t)[103]? = some (.inl (0, 6)) := rfl
theorem dd_104 {t : Nat} : (DD t)[104]? = some (.inl (1, 360)) := rfl
theorem dd_105 {t : Nat} : (DD t)[105]? = some (.inl (1, 60)) := rfl
theorem rr_0_0 {t : Nat} {hr tl : Option Nat} : RR t hr tl 0 0 = some 1 := rfl
theorem rr_0_1 {t : Nat} {hr tl : Option Nat} : RR t hr tl 0 1 = some 7 := rfl
theorem rr_0_2 {t : Nat} {hr tl : Option Nat} : RR t hr tl 0 2 = some 9 := rfl
theorem rr_0_3 {t : Nat} {hr tl : Option Nat} : RR t hr tl 0 3 = some 10 := rfl
theorem rr_0_4 {t : Nat} {hr tl : Option Nat} : RR t hr tl 0 4 = some 11 := rfl
theorem rr_0_5 {t : Nat} {hr tl : Option Nat} : RR t hr tl 0 5 = some 15 := rfl
theorem rr_0_6 {t : Nat} {hr tl : Option Nat} : RR t hr tl 0 6 = some 17 := rfl
theorem rr_0_7 {t : Nat} {hr tl : Option Nat} : RR t hr tl 0 7 = some 19 := rfl
theorem rr_0_8 {t : Nat} {hr tl : Option Nat} : RR t hr tl 0 8 = some 21 := rfl
theorem rr_0_9 {t : Nat} {hr tl : Option Nat} : RR t hr tl 0 9 = some 23 := rfl
theorem rr_0_10 {t : Nat} {hr tl : Option Nat} : RR t hr tl 0 10 = some 34 := rfl
theorem rr_0_11 {t : Nat} {hr tl : Option Nat} : RR t hr tl 0 11 = some 36 := rfl
theorem rr_1_0 {t : Nat} {hr tl : Option Nat} : RR t hr tl 1 0 = some 2 := rfl
theorem rr_1_1 {t : Nat} {hr tl : Option Nat} : RR t hr tl 1 1 = some 3 := rfl
theorem rr_1_2 {t : Nat} {hr tl : Option Nat} : RR t hr tl 1 2 = some 4 := rfl
theorem rr_1_3 {t : Nat} {hr tl : Option Nat} : RR t hr tl 1 3 = some 5 := rfl
theorem rr_1_4 {t : Nat} {hr tl : Option Nat} : RR t hr tl 1 4 = some 6 := rfl
theorem rr_7_0 {t : Nat} {hr tl : Option Nat} : RR t hr tl 7 0 = some 8 := rfl
theorem rr_9_0 {t : Nat} {hr tl : Option Nat} : RR t hr tl 9 0 = some 7 := rfl
theorem rr_10_0 {t : Nat} {hr tl : Option Nat} : RR t hr tl 10 0 = some 37 := rfl
theorem rr_10_1 {t : Nat} {hr tl : Option Nat} : RR t hr tl 10 1 = some 41 := rfl
theorem rr_10_2 {t : Nat} {hr tl : Option Nat} : RR t hr tl 10 2 = some 45 := rfl
theorem rr_10_3 {t : Nat} {hr tl : Option Nat} : RR t hr tl 10 3 = some 49 := rfl
theorem rr_10_4 {t : Nat} {hr tl : Option Nat} : RR t hr tl 10 4 = some 53 := rfl
theorem rr_10_5 {t : Nat} {hr tl : Option Nat} : RR t hr tl 10 5 = some 57 := rfl
theorem rr_11_0 {t : Nat} {hr tl : Option Nat} : RR t hr tl 11 0 = some 12 := rfl
theorem rr_11_1 {t : Nat} {hr tl : Option Nat} : RR t hr tl 11 1 = some 13 := rfl
theorem rr_11_2 {t : Nat} {hr tl : Option Nat} : RR t hr tl 11 2 = some 14 := rfl
theorem rr_15_0 {t : Nat} {hr tl : Option Nat} : RR t hr tl 15 0 = some 16 := rfl
theorem rr_17_0 {t : Nat} {hr tl : Option Nat} : RR t hr tl 17 0 = some 18 := rfl
theorem rr_19_0 {t : Nat} {hr tl : Option Nat} : RR t hr tl 19 0 = some 20 := rfl
theorem rr_21_0 {t : Nat} {hr tl : Option Nat} : RR t hr tl 21 0 = some 22 := rfl
theorem rr_23_0 {t : Nat} {hr tl : Option Nat} : RR t hr tl 23 0 = some 1 := rfl
theorem rr_23_1 {t : Nat} {hr tl : Option Nat} : RR t hr tl 23 1 = some 15 := rfl
theorem rr_23_2 {t : Nat} {hr tl : Option Nat} : RR t hr tl 23 2 = some 24 := rfl
theorem rr_23_3 {t : Nat} {hr tl : Option Nat} : RR t hr tl 23 3 = some 25 := rfl
theorem rr_23_4 {t : Nat} {hr tl : Option Nat} : RR t hr tl 23 4 = some 26 := rfl
theorem rr_23_5 {t : Nat} {hr tl : Option Nat} : RR t hr tl 23 5 = some 27 := rfl
theorem rr_23_6 {t : Nat} {hr tl : Option Nat} : RR t hr tl 23 6 = some 28 := rfl
theorem rr_23_7 {t : Nat} {hr tl : Option Nat} : RR t hr tl 23 7 = some 29 := rfl
theorem rr_23_8 {t : Nat} {hr tl : Option Nat} : RR t hr tl 23 8 = some 30 := rfl
theorem rr_23_9 {t : Nat} {hr tl : Option Nat} : RR t hr tl 23 9 = some 31 := rfl
theorem rr_23_10 {t : Nat} {hr tl : Option Nat} : RR t hr tl 23 10 = some 32 := rfl
theorem rr_23_11 {t : Nat} {hr tl : Option Nat} : RR t hr tl 23 11 = some 33 := rfl
theorem rr_34_0 {t : Nat} {hr tl : Option Nat} : RR t hr tl 34 0 = some 35 := rfl
theorem rr_36_0 {t : Nat} {hr tl : Option Nat} : RR t hr tl 36 0 = some 61 := rfl
theorem rr_36_1 {t : Nat} {hr tl : Option Nat} : RR t hr tl 36 1 = some 63 := rfl
theorem rr_36_2 {t : Nat} {hr tl : Option Nat} : RR t hr tl 36 2 = some 65 := rfl
theorem rr_36_3 {t : Nat} {hr tl : Option Nat} : RR t hr tl 36 3 = some 67 := rfl
theorem rr_36_4 {t : Nat} {hr tl : Option Nat} : RR t hr tl 36 4 = some 69 := rfl
theorem rr_36_5 {t : Nat} {hr tl : Option Nat} : RR t hr tl 36 5 = some 71 := rfl
theorem rr_37_0 {t : Nat} {hr tl : Option Nat} : RR t hr tl 37 0 = some 38 := rfl
theorem rr_37_1 {t : Nat} {hr tl : Option Nat} : RR t hr tl 37 1 = some 39 := rfl
theorem rr_37_2 {t : Nat} {hr tl : Option Nat} : RR t hr tl 37 2 = some 40 := rfl
theorem rr_41_0 {t : Nat} {hr tl : Option Nat} : RR t hr tl 41 0 = some 42 := rfl
theorem rr_41_1 {t : Nat} {hr tl : Option Nat} : RR t hr tl 41 1 = some 43 := rfl
theorem rr_41_2 {t : Nat} {hr tl : Option Nat} : RR t hr tl 41 2 = some 44 := rfl
theorem rr_45_0 {t : Nat} {hr tl : Option Nat} : RR t hr tl 45 0 = some 46 := rfl
theorem rr_45_1 {t : Nat} {hr tl : Option Nat} : RR t hr tl 45 1 = some 47 := rfl
theorem rr_45_2 {t : Nat} {hr tl : Option Nat} : RR t hr tl 45 2 = some 48 := rfl
theorem rr_49_0 {t : Nat} {hr tl : Option Nat} : RR t hr tl 49 0 = some 50 := rfl
theorem rr_49_1 {t : Nat} {hr tl : Option Nat} : RR t hr tl 49 1 = some 51 := rfl
theorem rr_49_2 {t : Nat} {hr tl : Option Nat} : RR t hr tl 49 2 = some 52 := rfl
theorem rr_53_0 {t : Nat} {hr tl : Option Nat} : RR t hr tl 53 0 = some 54 := rfl
theorem rr_53_1 {t : Nat} {hr tl : Option Nat} : RR t hr tl 53 1 = some 55 := rfl
theorem rr_53_2 {t : Nat} {hr tl : Option Nat} : RR t hr tl 53 2 = some 56 := rfl
theorem rr_57_0 {t : Nat} {hr tl : Option Nat} : RR t hr tl 57 0 = some 58 := rfl
theorem rr_57_1 {t : Nat} {hr tl : Option Nat} : RR t hr tl 57 1 = some 59 := rfl
theorem rr_57_2 {t : Nat} {hr tl : Option Nat} : RR t hr tl 57 2 = some 60 := rfl
theorem rr_61_0 {t : Nat} {hr tl : Option Nat} : RR t hr tl 61 0 = some 62 := rfl
theorem rr_63_0 {t : Nat} {hr tl : Option Nat} : RR t hr tl 63 0 = some 64 := rfl
theorem rr_65_0 {t : Nat} {hr tl : Option Nat} : RR t hr tl 65 0 = some 66 := rfl
theorem rr_67_0 {t : Nat} {hr tl : Option Nat} : RR t hr tl 67 0 = some 68 := rfl
theorem rr_69_0 {t : Nat} {hr tl : Option Nat} : RR t hr tl 69 0 = some 70 := rfl
theorem rr_71_0 {t : Nat} {hr tl : Option Nat} : RR t hr tl 71 0 = some 72 := rfl
theorem rr_73_2 {t : Nat} {hr tl : Option Nat} : RR t hr tl 73 2 = some 74 := rfl
theorem rr_73_3 {t : Nat} {hr tl : Option Nat} : RR t hr tl 73 3 = some 75 := rfl
theorem rr_73_9 {t : Nat} {hr tl : Option Nat} : RR t hr tl 73 9 = some 76 := rfl
theorem rr_73_10 {t : Nat} {hr tl : Option Nat} : RR t hr tl 73 10 = some 77 := rfl
theorem rr_73_11 {t : Nat} {hr tl : Option Nat} : RR t hr tl 73 11 = some 78 := rfl
theorem rr_73_12 {t : Nat} {hr tl : Option Nat} : RR t hr tl 73 12 = some 79 := rfl
theorem rr_73_13 {t : Nat} {hr tl : Option Nat} : RR t hr tl 73 13 = some 80 := rfl
theorem rr_73_14 {t : Nat} {hr tl : Option Nat} : RR t hr tl 73 14 = some 81 := rfl
theorem rr_73_15 {t : Nat} {hr tl : Option Nat} : RR t hr tl 73 15 = some 82 := rfl
theorem rr_73_16 {t : Nat} {hr tl : Option Nat} : RR t hr tl 73 16 = some 83 := rfl
theorem rr_73_17 {t : Nat} {hr tl : Option Nat} : RR t hr tl 73 17 = some 84 := rfl
theorem rr_73_21 {t : Nat} {hr tl : Option Nat} : RR t hr tl 73 21 = some 85 := rfl
theorem rr_73_22 {t : Nat} {hr tl : Option Nat} : RR t hr tl 73 22 = some 86 := rfl
theorem rr_73_23 {t : Nat} {hr tl : Option Nat} : RR t hr tl 73 23 = some 87 := rfl
theorem rr_73_24 {t : Nat} {hr tl : Option Nat} : RR t hr tl 73 24 = some 88 := rfl
theorem rr_73_25 {t : Nat} {hr tl : Option Nat} : RR t hr tl 73 25 = some 89 := rfl
theorem rr_73_26 {t : Nat} {hr tl : Option Nat} : RR t hr tl 73 26 = some 90 := rfl
theorem rr_73_27 {t : Nat} {hr tl : Option Nat} : RR t hr tl 73 27 = some 91 := rfl
theorem rr_73_28 {t : Nat} {hr tl : Option Nat} : RR t hr tl 73 28 = some 92 := rfl
theorem rr_73_29 {t : Nat} {hr tl : Option Nat} : RR t hr tl 73 29 = some 93 := rfl
theorem rr_73_30 {t : Nat} {hr tl : Option Nat} : RR t hr tl 73 30 = some 94 := rfl
theorem rr_73_31 {t : Nat} {hr tl : Option Nat} : RR t hr tl 73 31 = some 95 := rfl
theorem rr_73_32 {t : Nat} {hr tl : Option Nat} : RR t hr tl 73 32 = some 96 := rfl
theorem rr_73_33 {t : Nat} {hr tl : Option Nat} : RR t hr tl 73 33 = some 97 := rfl
theorem rr_73_34 {t : Nat} {hr tl : Option Nat} : RR t hr tl 73 34 = some 98 := rfl
theorem rr_73_37 {t : Nat} {hr tl : Option Nat} : RR t hr tl 73 37 = some 99 := rfl
theorem rr_73_38 {t : Nat} {hr tl : Option Nat} : RR t hr tl 73 38 = some 100 := rfl
theorem rr_73_40 {t : Nat} {hr tl : Option Nat} : RR t hr tl 73 40 = some 101 := rfl
theorem rr_73_41 {t : Nat} {hr tl : Option Nat} : RR t hr tl 73 41 = some 102 := rfl
theorem rr_73_42 {t : Nat} {hr tl : Option Nat} : RR t hr tl 73 42 = some 103 := rfl
theorem rr_73_43 {t : Nat} {hr tl : Option Nat} : RR t hr tl 73 43 = some 104 := rfl
theorem rr_73_44 {t : Nat} {hr tl : Option Nat} : RR t hr tl 73 44 = some 105 := rfl
theorem rr_hr {t : Nat} {hr tl : Option Nat} : RR t hr tl 9 1 = hr := rfl
theorem rr_tl {t : Nat} {hr tl : Option Nat} : RR t hr tl 23 12 = tl := rfl
theorem rr_th {t i : Nat} {hr tl : Option Nat} (h : i < t) : RR t hr tl 2 i = some (106 + i) := by simp [RR, h]
theorem rr_th0 {t i : Nat} {hr tl : Option Nat} (h : t ≤ i) : RR t hr tl 2 i = none := by simp [RR, Nat.not_lt.mpr h]
theorem dd_th {t i : Nat} (h : i < t) : (DD t)[106 + i]? = some (.inr 7) := by
  have hl : DZ.length = 106 := rfl
  unfold DD
  rw [List.getElem?_append_right (by omega), hl]
  simp [List.getElem?_replicate, h]
theorem dd_len {t : Nat} : (DD t).length = 106 + t := by
  have hl : DZ.length = 106 := rfl
  unfold DD
  rw [List.length_append, hl, List.length_replicate]
theorem dd_push {t : Nat} : DD t ++ [.inr 7] = DD (t + 1) := by
  unfold DD
  rw [List.append_assoc, List.replicate_succ']
theorem rr_u_hr {t : Nat} {hr tl x : Option Nat} : cm_u (RR t hr tl) 9 1 x = RR t x tl := by
  funext k j
  unfold cm_u RR
  by_cases h : k = 9
  · subst h
    by_cases h2 : j = 1
    · subst h2; simp
    · simp [h2]
  · simp [h]
theorem rr_u_tl {t : Nat} {hr tl x : Option Nat} : cm_u (RR t hr tl) 23 12 x = RR t hr x := by
  funext k j
  unfold cm_u RR
  by_cases h : k = 23
  · subst h
    by_cases h2 : j = 12
    · subst h2; simp
    · simp [h2]
  · simp [h]
theorem rr_u_th {t : Nat} {hr tl : Option Nat} : cm_u (cm_z (RR t hr tl) (106 + t) none) 2 t (some (106 + t)) = RR (t + 1) hr tl := by
  funext k j
  unfold cm_u cm_z RR
  by_cases h : k = 2
  · subst h
    by_cases h2 : j = t
    · subst h2; simp
    · have e1 : ¬ (2 = 106 + t) := by omega
      by_cases h3 : j < t
      · have e2 : j < t + 1 := by omega
        simp [h2, h3, e1, e2]
      · have e2 : ¬ j < t + 1 := by omega
        simp [h2, h3, e1, e2]
  · by_cases h2 : k = 106 + t
    · have e1 : ¬ (k = 9 ∧ j = 1) := by omega
      have e2 : ¬ (k = 23 ∧ j = 12) := by omega
      rw [if_neg h, if_pos h2, if_neg h, if_neg e1, if_neg e2]
      have hl : RT.length = 106 := rfl
      have hz : RT.getD k [] = [] := by
        rw [List.getD_eq_getElem?_getD, List.getElem?_eq_none (by rw [hl]; omega)]
        rfl
      rw [hz]
      rfl
    · simp [h, h2]
def hA (h : Nat) : Nat := if h < 6 then 37 + 4 * h else 11
theorem dd_hA {t h : Nat} (hh : h < 7) : (DD t)[hA h]? = some (.inr 0) ∧ (DD t)[hA h + 1]? = some (.inl (0, 16)) ∧ (DD t)[hA h + 2]? = some (.inl (0, 16)) ∧ (DD t)[hA h + 3]? = some (.inl (0, 100)) := by
  rcases (by omega : h = 0 ∨ h = 1 ∨ h = 2 ∨ h = 3 ∨ h = 4 ∨ h = 5 ∨ h = 6) with rfl | rfl | rfl | rfl | rfl | rfl | rfl <;> exact ⟨rfl, rfl, rfl, rfl⟩
theorem rr_hA {t h : Nat} {hr tl : Option Nat} (hh : h < 7) : RR t hr tl (hA h) 0 = some (hA h + 1) ∧ RR t hr tl (hA h) 1 = some (hA h + 2) ∧ RR t hr tl (hA h) 2 = some (hA h + 3) := by
  rcases (by omega : h = 0 ∨ h = 1 ∨ h = 2 ∨ h = 3 ∨ h = 4 ∨ h = 5 ∨ h = 6) with rfl | rfl | rfl | rfl | rfl | rfl | rfl <;> exact ⟨rfl, rfl, rfl⟩
theorem rr_hs {t h : Nat} {hr tl : Option Nat} (hh : h < 6) : RR t hr tl 10 h = some (hA h) := by
  rcases (by omega : h = 0 ∨ h = 1 ∨ h = 2 ∨ h = 3 ∨ h = 4 ∨ h = 5) with rfl | rfl | rfl | rfl | rfl | rfl <;> rfl
def tA (p : Nat) : Nat := 61 + 2 * p
theorem dd_tA {t p : Nat} (hp : p < 6) : (DD t)[tA p]? = some (.inr 4) ∧ (DD t)[tA p + 1]? = some (.inl (1, 60)) := by
  rcases (by omega : p = 0 ∨ p = 1 ∨ p = 2 ∨ p = 3 ∨ p = 4 ∨ p = 5) with rfl | rfl | rfl | rfl | rfl | rfl <;> exact ⟨rfl, rfl⟩
theorem rr_tA {t p : Nat} {hr tl : Option Nat} (hp : p < 6) : RR t hr tl (tA p) 0 = some (tA p + 1) := by
  rcases (by omega : p = 0 ∨ p = 1 ∨ p = 2 ∨ p = 3 ∨ p = 4 ∨ p = 5) with rfl | rfl | rfl | rfl | rfl | rfl <;> rfl
theorem rr_ts {t p : Nat} {hr tl : Option Nat} (hp : p < 6) : RR t hr tl 36 p = some (tA p) := by
  rcases (by omega : p = 0 ∨ p = 1 ∨ p = 2 ∨ p = 3 ∨ p = 4 ∨ p = 5) with rfl | rfl | rfl | rfl | rfl | rfl <;> rfl
/-- a meter lies at 15, 17, 19 or 21 -/
def isM (k : Nat) : Prop := k = 15 ∨ k = 17 ∨ k = 19 ∨ k = 21
theorem dd_M {t k : Nat} (h : isM k) : (DD t)[k]? = some (.inr 3) ∧ (DD t)[k + 1]? = some (.inl (0, 12)) := by
  rcases h with rfl | rfl | rfl | rfl <;> exact ⟨rfl, rfl⟩
theorem rr_M {t k : Nat} {hr tl : Option Nat} (h : isM k) : RR t hr tl k 0 = some (k + 1) := by
  rcases h with rfl | rfl | rfl | rfl <;> rfl
