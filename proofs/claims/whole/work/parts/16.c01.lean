theorem c71_0 : xT 71 0 = oAld 0 1 := rfl
theorem c71_1 : xT 71 1 = oIld 3 2 := rfl
theorem c71_2 : xT 71 2 = oCallV 6 48 2 5 := rfl
theorem c71_5 : xT 71 5 = oIf (fun x => x = 0) 16 8 := rfl
theorem c71_8 : xT 71 8 = oAld 0 9 := rfl
theorem c71_9 : xT 71 9 = oGeti 5 1 12 := rfl
theorem c71_12 : xT 71 12 = oPush (.int (1)) 13 := rfl
theorem c71_13 : xT 71 13 = oIcmp (fun x y => y ≤ x) 18 16 := rfl
theorem c71_16 : xT 71 16 = oTr [1] (oIld 1 17) := rfl
theorem c71_17 : xT 71 17 = oRi (fun _ => True) := rfl
theorem c71_18 : xT 71 18 = oIld 1 19 := rfl
theorem c71_19 : xT 71 19 = oAld 0 20 := rfl
theorem c71_20 : xT 71 20 = oGetp 5 5 23 := rfl
theorem c71_23 : xT 71 23 = oIld 3 24 := rfl
theorem c71_24 : xT 71 24 = oAldi 20 25 := rfl
theorem c71_25 : xT 71 25 = oIld 2 26 := rfl
theorem c71_26 : xT 71 26 = oBin (fun x y => x - y) 27 := rfl
theorem c71_27 : xT 71 27 = oIld 1 28 := rfl
theorem c71_28 : xT 71 28 = oBin (fun x y => x - y) 29 := rfl
theorem c71_29 : xT 71 29 = oAld 0 30 := rfl
theorem c71_30 : xT 71 30 = oGeti 5 1 33 := rfl
theorem c71_33 : xT 71 33 = oCallS 72 2 36 := rfl
theorem c71_36 : xT 71 36 = oBin (fun x y => x + y) 37 := rfl
theorem c71_37 : xT 71 37 = oRi (fun _ => True) := rfl
theorem c72_0 : xT 72 0 = oIld 0 1 := rfl
theorem c72_1 : xT 72 1 = oIld 1 2 := rfl
theorem c72_2 : xT 72 2 = oDiv (fun x y => x - x / y * y) 3 := rfl
theorem c72_3 : xT 72 3 = oIst 2 4 3 := rfl
theorem c72_4 : xT 72 4 = oIld 0 5 := rfl
theorem c72_5 : xT 72 5 = oIld 1 6 := rfl
theorem c72_6 : xT 72 6 = oBin (fun x y => x ^^^ y) 7 := rfl
theorem c72_7 : xT 72 7 = oIf (fun x => 0 ≤ x) 18 10 := rfl
theorem c72_10 : xT 72 10 = oIld 2 11 := rfl
theorem c72_11 : xT 72 11 = oIf (fun x => x = 0) 18 14 := rfl
theorem c72_14 : xT 72 14 = oIld 2 15 := rfl
theorem c72_15 : xT 72 15 = oIld 1 16 := rfl
theorem c72_16 : xT 72 16 = oBin (fun x y => x + y) 17 := rfl
theorem c72_17 : xT 72 17 = oRi (fun _ => True) := rfl
theorem c72_18 : xT 72 18 = oTr [2] (oIld 2 19) := rfl
theorem c72_19 : xT 72 19 = oRi (fun _ => True) := rfl
theorem c73_0 : xT 73 0 = oAld 0 1 := rfl
theorem c73_1 : xT 73 1 = oGetp 3 5 4 := rfl
theorem c73_4 : xT 73 4 = oGeti 2 9 7 := rfl
theorem c73_7 : xT 73 7 = oIf (fun x => x = 0) 22 10 := rfl
theorem c73_10 : xT 73 10 = oAld 0 11 := rfl
theorem c73_11 : xT 73 11 = oIld 1 12 := rfl
theorem c73_12 : xT 73 12 = oCallV 4 74 2 15 := rfl
theorem c73_15 : xT 73 15 = oIf (fun x => x = 0) 18 22 := rfl
theorem c73_18 : xT 73 18 = oPush (.int (0)) 19 := rfl
theorem c73_19 : xT 73 19 = oGoto 29 := rfl
theorem c73_22 : xT 73 22 = oTr [0] (oAld 0 23) := rfl
theorem c73_23 : xT 73 23 = oGetp 3 5 26 := rfl
theorem c73_26 : xT 73 26 = oGeti 2 6 29 := rfl
theorem c73_29 : xT 73 29 = oTr [] (oRi (fun _ => True)) := rfl
theorem c74_0 : xT 74 0 = oAld 0 1 := rfl
theorem c74_1 : xT 74 1 = oGetp 3 5 4 := rfl
theorem c74_4 : xT 74 4 = oGeti 2 0 7 := rfl
theorem c74_7 : xT 74 7 = oPush (.int (5)) 8 := rfl
theorem c74_8 : xT 74 8 = oIcmp (fun x y => x = y) 11 28 := rfl
theorem c74_11 : xT 74 11 = oIld 1 12 := rfl
theorem c74_12 : xT 74 12 = oAld 0 13 := rfl
theorem c74_13 : xT 74 13 = oGetp 3 5 16 := rfl
theorem c74_16 : xT 74 16 = oGeti 2 4 19 := rfl
theorem c74_19 : xT 74 19 = oPush (.int (2)) 20 := rfl
theorem c74_20 : xT 74 20 = oBin (fun x y => x - y) 21 := rfl
theorem c74_21 : xT 74 21 = oIcmp (fun x y => x = y) 24 28 := rfl
theorem c74_24 : xT 74 24 = oPush (.int (1)) 25 := rfl
theorem c74_25 : xT 74 25 = oGoto 29 := rfl
theorem c74_28 : xT 74 28 = oTr [] (oPush (.int (0)) 29) := rfl
theorem c74_29 : xT 74 29 = oTr [] (oRi (fun x => x = 0 ∨ x = 1)) := rfl
theorem c75_0 : xT 75 0 = oAld 0 1 := rfl
theorem c75_1 : xT 75 1 = oGetp 3 5 4 := rfl
theorem c75_4 : xT 75 4 = oGeti 2 0 7 := rfl
theorem c75_7 : xT 75 7 = oSw [(2, 36), (3, 46), (4, 40), (5, 52)] 70 := rfl
theorem c75_36 : xT 75 36 = oIld 2 37 := rfl
theorem c75_37 : xT 75 37 = oPush (.int (1)) 38 := rfl
theorem c75_38 : xT 75 38 = oBin (fun x y => x + y) 39 := rfl
theorem c75_39 : xT 75 39 = oRi (fun _ => True) := rfl
theorem c75_40 : xT 75 40 = oPush (.int (2)) 41 := rfl
theorem c75_41 : xT 75 41 = oIld 2 42 := rfl
theorem c75_42 : xT 75 42 = oBin (fun x y => x * y) 43 := rfl
theorem c75_43 : xT 75 43 = oPush (.int (1)) 44 := rfl
theorem c75_44 : xT 75 44 = oBin (fun x y => x + y) 45 := rfl
theorem c75_45 : xT 75 45 = oRi (fun _ => True) := rfl
theorem c75_46 : xT 75 46 = oIld 2 47 := rfl
theorem c75_47 : xT 75 47 = oIld 2 48 := rfl
theorem c75_48 : xT 75 48 = oPush (.int (2)) 49 := rfl
theorem c75_49 : xT 75 49 = oDiv (fun x y => x - x / y * y) 50 := rfl
theorem c75_50 : xT 75 50 = oBin (fun x y => x + y) 51 := rfl
theorem c75_51 : xT 75 51 = oRi (fun _ => True) := rfl
theorem c75_52 : xT 75 52 = oAld 0 53 := rfl
theorem c75_53 : xT 75 53 = oIld 1 54 := rfl
theorem c75_54 : xT 75 54 = oCallV 4 74 2 57 := rfl
theorem c75_57 : xT 75 57 = oIf (fun x => x = 0) 64 60 := rfl
theorem c75_60 : xT 75 60 = oIld 2 61 := rfl
theorem c75_61 : xT 75 61 = oGoto 69 := rfl
theorem c75_64 : xT 75 64 = oIld 2 65 := rfl
theorem c75_65 : xT 75 65 = oIld 2 66 := rfl
theorem c75_66 : xT 75 66 = oPush (.int (2)) 67 := rfl
theorem c75_67 : xT 75 67 = oDiv (fun x y => x - x / y * y) 68 := rfl
theorem c75_68 : xT 75 68 = oBin (fun x y => x + y) 69 := rfl
theorem c75_69 : xT 75 69 = oTr [] (oRi (fun _ => True)) := rfl
theorem c75_70 : xT 75 70 = oIld 2 71 := rfl
theorem c75_71 : xT 75 71 = oRi (fun _ => True) := rfl
theorem c76_0 : xT 76 0 = oAld 0 1 := rfl
theorem c76_1 : xT 76 1 = oIld 2 2 := rfl
theorem c76_2 : xT 76 2 = oCallV 4 77 2 5 := rfl
theorem c76_5 : xT 76 5 = oAld 0 6 := rfl
theorem c76_6 : xT 76 6 = oGetp 3 6 9 := rfl
theorem c76_9 : xT 76 9 = oGeti 0 2 12 := rfl
theorem c76_12 : xT 76 12 = oIcmp (fun x y => y < x) 48 15 := rfl
theorem c76_15 : xT 76 15 = oAld 0 16 := rfl
theorem c76_16 : xT 76 16 = oGetp 3 6 19 := rfl
theorem c76_19 : xT 76 19 = oAld 0 20 := rfl
theorem c76_20 : xT 76 20 = oGetp 3 1 23 := rfl
theorem c76_23 : xT 76 23 = oIld 1 24 := rfl
theorem c76_24 : xT 76 24 = oAldi 20 25 := rfl
theorem c76_25 : xT 76 25 = oIld 2 26 := rfl
theorem c76_26 : xT 76 26 = oAld 0 27 := rfl
theorem c76_27 : xT 76 27 = oGetp 3 7 30 := rfl
theorem c76_30 : xT 76 30 = oGeti 5 1 33 := rfl
theorem c76_33 : xT 76 33 = oBin (fun x y => x * y) 34 := rfl
theorem c76_34 : xT 76 34 = oBin (fun x y => x + y) 35 := rfl
theorem c76_35 : xT 76 35 = oAld 0 36 := rfl
theorem c76_36 : xT 76 36 = oGetp 3 5 39 := rfl
theorem c76_39 : xT 76 39 = oGeti 2 6 42 := rfl
theorem c76_42 : xT 76 42 = oCallV 1 56 3 45 := rfl
theorem c76_45 : xT 76 45 = oIf (fun x => x = 0) 48 50 := rfl
theorem c76_48 : xT 76 48 = oTr [] (oPush (.int (-1)) 49) := rfl
theorem c76_49 : xT 76 49 = oRi (fun _ => True) := rfl
theorem c76_50 : xT 76 50 = oPush (.int (-1)) 51 := rfl
theorem c76_51 : xT 76 51 = oIst 3 52 5 := rfl
theorem c76_52 : xT 76 52 = oIld 1 53 := rfl
theorem c76_53 : xT 76 53 = oAld 0 54 := rfl
theorem c76_54 : xT 76 54 = oGetp 3 5 57 := rfl
theorem c76_57 : xT 76 57 = oGeti 2 4 60 := rfl
theorem c76_60 : xT 76 60 = oPush (.int (1)) 61 := rfl
theorem c76_61 : xT 76 61 = oBin (fun x y => x - y) 62 := rfl
theorem c76_62 : xT 76 62 = oIcmp (fun x y => x = y) 65 101 := rfl
theorem c76_65 : xT 76 65 = oPush (.int (3)) 66 := rfl
theorem c76_66 : xT 76 66 = oIst 4 68 5 := rfl
theorem c76_68 : xT 76 68 = oTr [0, 2, 3, 4] (oIld 4 70) := rfl
theorem c76_70 : xT 76 70 = oIf (fun x => x < 0) 99 73 := rfl
theorem c76_73 : xT 76 73 = oAld 0 74 := rfl
theorem c76_74 : xT 76 74 = oIld 2 75 := rfl
theorem c76_75 : xT 76 75 = oIld 4 77 := rfl
theorem c76_77 : xT 76 77 = oBin (fun x y => x + y) 78 := rfl
theorem c76_78 : xT 76 78 = oCallV 4 78 2 81 := rfl
theorem c76_81 : xT 76 81 = oIf (fun x => x = 0) 91 84 := rfl
theorem c76_84 : xT 76 84 = oIld 2 85 := rfl
theorem c76_85 : xT 76 85 = oIld 4 87 := rfl
theorem c76_87 : xT 76 87 = oBin (fun x y => x + y) 88 := rfl
theorem c76_88 : xT 76 88 = oGoto 92 := rfl
theorem c76_91 : xT 76 91 = oIld 3 92 := rfl
theorem c76_92 : xT 76 92 = oTr [0, 2, 4] (oIst 3 93 5) := rfl
theorem c76_93 : xT 76 93 = oIinc 4 (-1) 96 5 := rfl
theorem c76_96 : xT 76 96 = oGoto 68 := rfl
theorem c76_99 : xT 76 99 = oIld 3 100 := rfl
theorem c76_100 : xT 76 100 = oRi (fun _ => True) := rfl
theorem c76_101 : xT 76 101 = oPush (.int (1)) 102 := rfl
theorem c76_102 : xT 76 102 = oIst 4 104 5 := rfl
theorem c76_104 : xT 76 104 = oTr [0, 1, 2, 3, 4] (oIld 4 106) := rfl
theorem c76_106 : xT 76 106 = oPush (.int (4)) 107 := rfl
theorem c76_107 : xT 76 107 = oIcmp (fun x y => y < x) 147 110 := rfl
theorem c76_110 : xT 76 110 = oAld 0 111 := rfl
theorem c76_111 : xT 76 111 = oIld 1 112 := rfl
theorem c76_112 : xT 76 112 = oIld 4 114 := rfl
theorem c76_114 : xT 76 114 = oCallV 4 79 3 117 := rfl
theorem c76_117 : xT 76 117 = oIf (fun x => x = 0) 141 120 := rfl
theorem c76_120 : xT 76 120 = oIld 3 121 := rfl
theorem c76_121 : xT 76 121 = oAld 0 122 := rfl
theorem c76_122 : xT 76 122 = oIld 1 123 := rfl
theorem c76_123 : xT 76 123 = oPush (.int (1)) 124 := rfl
theorem c76_124 : xT 76 124 = oBin (fun x y => x + y) 125 := rfl
theorem c76_125 : xT 76 125 = oIld 2 126 := rfl
theorem c76_126 : xT 76 126 = oAld 0 127 := rfl
theorem c76_127 : xT 76 127 = oIld 1 128 := rfl
theorem c76_128 : xT 76 128 = oIld 4 130 := rfl
theorem c76_130 : xT 76 130 = oCallV 4 75 3 133 := rfl
theorem c76_133 : xT 76 133 = oBin (fun x y => x + y) 134 := rfl
theorem c76_134 : xT 76 134 = oCallV 4 80 3 137 := rfl
theorem c76_137 : xT 76 137 = oCallS 81 2 140 := rfl
theorem c76_140 : xT 76 140 = oIst 3 141 5 := rfl
theorem c76_141 : xT 76 141 = oTr [0, 1, 2, 3, 4] (oIinc 4 (1) 144 5) := rfl
theorem c76_144 : xT 76 144 = oGoto 104 := rfl
theorem c76_147 : xT 76 147 = oIld 3 148 := rfl
theorem c76_148 : xT 76 148 = oRi (fun _ => True) := rfl
theorem c77_0 : xT 77 0 = oAld 0 1 := rfl
theorem c77_1 : xT 77 1 = oGeti 3 3 4 := rfl
theorem c77_4 : xT 77 4 = oIld 1 5 := rfl
theorem c77_5 : xT 77 5 = oAld 0 6 := rfl
theorem c77_6 : xT 77 6 = oGetp 3 7 9 := rfl
theorem c77_9 : xT 77 9 = oGeti 5 1 12 := rfl
theorem c77_12 : xT 77 12 = oBin (fun x y => x * y) 13 := rfl
theorem c77_13 : xT 77 13 = oBin (fun x y => x + y) 14 := rfl
theorem c77_14 : xT 77 14 = oAld 0 15 := rfl
theorem c77_15 : xT 77 15 = oGetp 3 5 18 := rfl
theorem c77_18 : xT 77 18 = oGeti 2 7 21 := rfl
theorem c77_21 : xT 77 21 = oBin (fun x y => x + y) 22 := rfl
theorem c77_22 : xT 77 22 = oRi (fun _ => True) := rfl
theorem c78_0 : xT 78 0 = oAld 0 1 := rfl
theorem c78_1 : xT 78 1 = oIld 1 2 := rfl
theorem c78_2 : xT 78 2 = oCallV 4 77 2 5 := rfl
theorem c78_5 : xT 78 5 = oAld 0 6 := rfl
theorem c78_6 : xT 78 6 = oGetp 3 6 9 := rfl
theorem c78_9 : xT 78 9 = oGeti 0 2 12 := rfl
theorem c78_12 : xT 78 12 = oIcmp (fun x y => y < x) 50 15 := rfl
theorem c78_15 : xT 78 15 = oAld 0 16 := rfl
theorem c78_16 : xT 78 16 = oGetp 3 6 19 := rfl
theorem c78_19 : xT 78 19 = oAld 0 20 := rfl
theorem c78_20 : xT 78 20 = oGeti 3 3 23 := rfl
theorem c78_23 : xT 78 23 = oIld 1 24 := rfl
theorem c78_24 : xT 78 24 = oAld 0 25 := rfl
theorem c78_25 : xT 78 25 = oGetp 3 7 28 := rfl
theorem c78_28 : xT 78 28 = oGeti 5 1 31 := rfl
theorem c78_31 : xT 78 31 = oBin (fun x y => x * y) 32 := rfl
theorem c78_32 : xT 78 32 = oBin (fun x y => x + y) 33 := rfl
theorem c78_33 : xT 78 33 = oAld 0 34 := rfl
theorem c78_34 : xT 78 34 = oGetp 3 5 37 := rfl
theorem c78_37 : xT 78 37 = oGeti 2 7 40 := rfl
theorem c78_40 : xT 78 40 = oCallV 1 56 3 43 := rfl
theorem c78_43 : xT 78 43 = oIf (fun x => x = 0) 50 46 := rfl
theorem c78_46 : xT 78 46 = oPush (.int (1)) 47 := rfl
theorem c78_47 : xT 78 47 = oGoto 51 := rfl
theorem c78_50 : xT 78 50 = oTr [] (oPush (.int (0)) 51) := rfl
theorem c78_51 : xT 78 51 = oTr [] (oRi (fun x => x = 0 ∨ x = 1)) := rfl
theorem c79_0 : xT 79 0 = oAld 0 1 := rfl
theorem c79_1 : xT 79 1 = oIld 1 2 := rfl
theorem c79_2 : xT 79 2 = oCallV 4 73 2 5 := rfl
theorem c79_5 : xT 79 5 = oAld 0 6 := rfl
theorem c79_6 : xT 79 6 = oIld 1 7 := rfl
theorem c79_7 : xT 79 7 = oIld 2 8 := rfl
theorem c79_8 : xT 79 8 = oCallV 4 75 3 11 := rfl
theorem c79_11 : xT 79 11 = oAld 0 12 := rfl
theorem c79_12 : xT 79 12 = oGetp 3 7 15 := rfl
theorem c79_15 : xT 79 15 = oGeti 5 1 18 := rfl
theorem c79_18 : xT 79 18 = oBin (fun x y => x * y) 19 := rfl
theorem c79_19 : xT 79 19 = oBin (fun x y => x + y) 20 := rfl
theorem c79_20 : xT 79 20 = oAld 0 21 := rfl
theorem c79_21 : xT 79 21 = oGetp 3 5 24 := rfl
theorem c79_24 : xT 79 24 = oGeti 2 6 27 := rfl
theorem c79_27 : xT 79 27 = oIcmp (fun x y => x ≤ y) 34 30 := rfl
theorem c79_30 : xT 79 30 = oPush (.int (1)) 31 := rfl
theorem c79_31 : xT 79 31 = oGoto 35 := rfl
theorem c79_34 : xT 79 34 = oPush (.int (0)) 35 := rfl
theorem c79_35 : xT 79 35 = oTr [] (oRi (fun x => x = 0 ∨ x = 1)) := rfl
theorem c80_0 : xT 80 0 = oIld 1 1 := rfl
theorem c80_1 : xT 80 1 = oIf (fun x => x < 0) 21 4 := rfl
theorem c80_4 : xT 80 4 = oIld 1 5 := rfl
theorem c80_5 : xT 80 5 = oPush (.int (24)) 7 := rfl
theorem c80_7 : xT 80 7 = oIcmp (fun x y => y ≤ x) 21 10 := rfl
theorem c80_10 : xT 80 10 = oIld 2 11 := rfl
theorem c80_11 : xT 80 11 = oIf (fun x => x < 0) 21 14 := rfl
theorem c80_14 : xT 80 14 = oIld 2 15 := rfl
theorem c80_15 : xT 80 15 = oPush (.int (211)) 18 := rfl
theorem c80_18 : xT 80 18 = oIcmp (fun x y => x < y) 25 21 := rfl
theorem c80_21 : xT 80 21 = oTr [] (oPush (.int (-1)) 22) := rfl
theorem c80_22 : xT 80 22 = oGoto 37 := rfl
theorem c80_25 : xT 80 25 = oAld 0 26 := rfl
theorem c80_26 : xT 80 26 = oGetp 3 0 29 := rfl
theorem c80_29 : xT 80 29 = oIld 1 30 := rfl
theorem c80_30 : xT 80 30 = oPush (.int (211)) 33 := rfl
theorem c80_33 : xT 80 33 = oBin (fun x y => x * y) 34 := rfl
theorem c80_34 : xT 80 34 = oIld 2 35 := rfl
theorem c80_35 : xT 80 35 = oBin (fun x y => x + y) 36 := rfl
theorem c80_36 : xT 80 36 = oAldi 20 37 := rfl
theorem c80_37 : xT 80 37 = oTr [] (oRi (fun _ => True)) := rfl
theorem c81_0 : xT 81 0 = oIld 0 1 := rfl
theorem c81_1 : xT 81 1 = oPush (.int (-1)) 2 := rfl
theorem c81_2 : xT 81 2 = oIcmp (fun x y => x = y) 15 5 := rfl
theorem c81_5 : xT 81 5 = oIld 1 6 := rfl
theorem c81_6 : xT 81 6 = oPush (.int (-1)) 7 := rfl
theorem c81_7 : xT 81 7 = oIcmp (fun x y => x = y) 19 10 := rfl
theorem c81_10 : xT 81 10 = oIld 1 11 := rfl
theorem c81_11 : xT 81 11 = oIld 0 12 := rfl
theorem c81_12 : xT 81 12 = oIcmp (fun x y => y ≤ x) 19 15 := rfl
theorem c81_15 : xT 81 15 = oTr [1] (oIld 1 16) := rfl
theorem c81_16 : xT 81 16 = oGoto 20 := rfl
theorem c81_19 : xT 81 19 = oTr [0] (oIld 0 20) := rfl
theorem c81_20 : xT 81 20 = oTr [] (oRi (fun _ => True)) := rfl
theorem c82_0 : xT 82 0 = oAld 0 1 := rfl
theorem c82_1 : xT 82 1 = oGetp 3 6 4 := rfl
theorem c82_4 : xT 82 4 = oAld 0 5 := rfl
theorem c82_5 : xT 82 5 = oGeti 3 2 8 := rfl
theorem c82_8 : xT 82 8 = oIld 1 9 := rfl
theorem c82_9 : xT 82 9 = oAld 0 10 := rfl
theorem c82_10 : xT 82 10 = oGetp 3 7 13 := rfl
theorem c82_13 : xT 82 13 = oGeti 5 1 16 := rfl
theorem c82_16 : xT 82 16 = oBin (fun x y => x * y) 17 := rfl
theorem c82_17 : xT 82 17 = oBin (fun x y => x + y) 18 := rfl
theorem c82_18 : xT 82 18 = oAld 0 19 := rfl
theorem c82_19 : xT 82 19 = oGetp 3 5 22 := rfl
theorem c82_22 : xT 82 22 = oGeti 2 7 25 := rfl
theorem c82_25 : xT 82 25 = oCallV 1 56 3 28 := rfl
theorem c82_28 : xT 82 28 = oRi (fun x => x = 0 ∨ x = 1) := rfl
theorem c83_0 : xT 83 0 = oPush (.int (0)) 1 := rfl
theorem c83_1 : xT 83 1 = oIst 2 2 4 := rfl
theorem c83_2 : xT 83 2 = oTr [0, 1, 2] (oIld 2 3) := rfl
theorem c83_3 : xT 83 3 = oPush (.int (3)) 4 := rfl
theorem c83_4 : xT 83 4 = oIcmp (fun x y => y ≤ x) 34 7 := rfl
theorem c83_7 : xT 83 7 = oAld 0 8 := rfl
theorem c83_8 : xT 83 8 = oIld 2 9 := rfl
theorem c83_9 : xT 83 9 = oCallV 4 82 2 12 := rfl
theorem c83_12 : xT 83 12 = oIf (fun x => x = 0) 28 15 := rfl
theorem c83_15 : xT 83 15 = oAld 0 16 := rfl
theorem c83_16 : xT 83 16 = oPush (.int (0)) 17 := rfl
theorem c83_17 : xT 83 17 = oIld 2 18 := rfl
theorem c83_18 : xT 83 18 = oCallV 4 80 3 21 := rfl
theorem c83_21 : xT 83 21 = oAld 0 22 := rfl
theorem c83_22 : xT 83 22 = oGeti 3 4 25 := rfl
theorem c83_25 : xT 83 25 = oIcmp (fun x y => x = y) 34 28 := rfl
theorem c83_28 : xT 83 28 = oTr [0, 1, 2] (oIinc 2 (1) 31 4) := rfl
theorem c83_31 : xT 83 31 = oGoto 2 := rfl
theorem c83_34 : xT 83 34 = oTr [0, 1, 2] (oAld 1 35) := rfl
theorem c83_35 : xT 83 35 = oIld 2 36 := rfl
theorem c83_36 : xT 83 36 = oPuti 4 5 39 := rfl
theorem c83_39 : xT 83 39 = oAld 1 40 := rfl
theorem c83_40 : xT 83 40 = oAld 0 41 := rfl
theorem c83_41 : xT 83 41 = oGeti 3 2 44 := rfl
theorem c83_44 : xT 83 44 = oIld 2 45 := rfl
theorem c83_45 : xT 83 45 = oAld 0 46 := rfl
theorem c83_46 : xT 83 46 = oGetp 3 7 49 := rfl
theorem c83_49 : xT 83 49 = oGeti 5 1 52 := rfl
theorem c83_52 : xT 83 52 = oBin (fun x y => x * y) 53 := rfl
theorem c83_53 : xT 83 53 = oBin (fun x y => x + y) 54 := rfl
theorem c83_54 : xT 83 54 = oPuti 4 2 57 := rfl
theorem c83_57 : xT 83 57 = oPush (.int (0)) 58 := rfl
theorem c83_58 : xT 83 58 = oIst 3 59 4 := rfl
theorem c83_59 : xT 83 59 = oTr [0, 1, 2, 3] (oIld 3 60) := rfl
theorem c83_60 : xT 83 60 = oAld 1 61 := rfl
theorem c83_61 : xT 83 61 = oGetp 4 0 64 := rfl
theorem c83_64 : xT 83 64 = oLen 20 65 := rfl
theorem c83_65 : xT 83 65 = oIcmp (fun x y => y ≤ x) 141 68 := rfl
theorem c83_68 : xT 83 68 = oIld 3 69 := rfl
theorem c83_69 : xT 83 69 = oPush (.int (24)) 71 := rfl
theorem c83_71 : xT 83 71 = oIcmp (fun x y => y ≤ x) 141 74 := rfl
theorem c83_74 : xT 83 74 = oAld 1 75 := rfl
theorem c83_75 : xT 83 75 = oGetp 4 0 78 := rfl
theorem c83_78 : xT 83 78 = oIld 3 79 := rfl
theorem c83_79 : xT 83 79 = oAld 0 80 := rfl
theorem c83_80 : xT 83 80 = oGetp 3 1 83 := rfl
theorem c83_83 : xT 83 83 = oIld 3 84 := rfl
theorem c83_84 : xT 83 84 = oAldi 20 85 := rfl
theorem c83_85 : xT 83 85 = oIld 2 86 := rfl
theorem c83_86 : xT 83 86 = oAld 0 87 := rfl
theorem c83_87 : xT 83 87 = oGetp 3 7 90 := rfl
theorem c83_90 : xT 83 90 = oGeti 5 1 93 := rfl
theorem c83_93 : xT 83 93 = oBin (fun x y => x * y) 94 := rfl
theorem c83_94 : xT 83 94 = oBin (fun x y => x + y) 95 := rfl
theorem c83_95 : xT 83 95 = oAsti 20 (fun x => x) 96 := rfl
theorem c83_96 : xT 83 96 = oIld 3 97 := rfl
theorem c83_97 : xT 83 97 = oAld 0 98 := rfl
theorem c83_98 : xT 83 98 = oGetp 3 5 101 := rfl
theorem c83_101 : xT 83 101 = oGeti 2 4 104 := rfl
theorem c83_104 : xT 83 104 = oPush (.int (1)) 105 := rfl
theorem c83_105 : xT 83 105 = oBin (fun x y => x - y) 106 := rfl
theorem c83_106 : xT 83 106 = oIcmp (fun x y => y ≤ x) 135 109 := rfl
theorem c83_109 : xT 83 109 = oAld 1 110 := rfl
theorem c83_110 : xT 83 110 = oGetp 4 1 113 := rfl
theorem c83_113 : xT 83 113 = oIld 3 114 := rfl
theorem c83_114 : xT 83 114 = oAld 0 115 := rfl
theorem c83_115 : xT 83 115 = oIld 3 116 := rfl
theorem c83_116 : xT 83 116 = oIld 2 117 := rfl
theorem c83_117 : xT 83 117 = oCallV 4 84 3 120 := rfl
theorem c83_120 : xT 83 120 = oAsti 20 (fun x => x) 121 := rfl
theorem c83_121 : xT 83 121 = oIld 2 122 := rfl
theorem c83_122 : xT 83 122 = oAld 0 123 := rfl
theorem c83_123 : xT 83 123 = oIld 3 124 := rfl
theorem c83_124 : xT 83 124 = oAld 1 125 := rfl
theorem c83_125 : xT 83 125 = oGetp 4 1 128 := rfl
theorem c83_128 : xT 83 128 = oIld 3 129 := rfl
theorem c83_129 : xT 83 129 = oAldi 20 130 := rfl
theorem c83_130 : xT 83 130 = oCallV 4 75 3 133 := rfl
theorem c83_133 : xT 83 133 = oBin (fun x y => x + y) 134 := rfl
theorem c83_134 : xT 83 134 = oIst 2 135 4 := rfl
theorem c83_135 : xT 83 135 = oTr [0, 1, 2, 3] (oIinc 3 (1) 138 4) := rfl
theorem c83_138 : xT 83 138 = oGoto 59 := rfl
theorem c83_141 : xT 83 141 = oTr [0, 1, 2] (oAld 1 142) := rfl
theorem c83_142 : xT 83 142 = oAld 0 143 := rfl
theorem c83_143 : xT 83 143 = oGeti 3 4 146 := rfl
theorem c83_146 : xT 83 146 = oIld 2 147 := rfl
theorem c83_147 : xT 83 147 = oBin (fun x y => x - y) 148 := rfl
theorem c83_148 : xT 83 148 = oPuti 4 6 151 := rfl
theorem c83_151 : xT 83 151 = oAld 1 152 := rfl
theorem c83_152 : xT 83 152 = oAld 0 153 := rfl
theorem c83_153 : xT 83 153 = oGeti 3 3 156 := rfl
theorem c83_156 : xT 83 156 = oAld 0 157 := rfl
theorem c83_157 : xT 83 157 = oGeti 3 4 160 := rfl
theorem c83_160 : xT 83 160 = oAld 0 161 := rfl
theorem c83_161 : xT 83 161 = oGetp 3 7 164 := rfl
theorem c83_164 : xT 83 164 = oGeti 5 1 167 := rfl
theorem c83_167 : xT 83 167 = oBin (fun x y => x * y) 168 := rfl
theorem c83_168 : xT 83 168 = oBin (fun x y => x + y) 169 := rfl
theorem c83_169 : xT 83 169 = oPuti 4 3 172 := rfl
theorem c83_172 : xT 83 172 = oAld 1 173 := rfl
theorem c83_173 : xT 83 173 = oAld 0 174 := rfl
theorem c83_174 : xT 83 174 = oAld 0 175 := rfl
theorem c83_175 : xT 83 175 = oGeti 3 4 178 := rfl
theorem c83_178 : xT 83 178 = oCallV 4 77 2 181 := rfl
theorem c83_181 : xT 83 181 = oPuti 4 4 184 := rfl
theorem c83_184 : xT 83 184 = oRv := rfl
theorem c84_0 : xT 84 0 = oPush (.int (1)) 1 := rfl
theorem c84_1 : xT 84 1 = oIst 3 2 4 := rfl
theorem c84_2 : xT 84 2 = oTr [0, 1, 2, 3] (oIld 3 3) := rfl
theorem c84_3 : xT 84 3 = oPush (.int (4)) 4 := rfl
theorem c84_4 : xT 84 4 = oIcmp (fun x y => y ≤ x) 46 7 := rfl
theorem c84_7 : xT 84 7 = oAld 0 8 := rfl
theorem c84_8 : xT 84 8 = oIld 1 9 := rfl
theorem c84_9 : xT 84 9 = oIld 3 10 := rfl
theorem c84_10 : xT 84 10 = oCallV 4 79 3 13 := rfl
theorem c84_13 : xT 84 13 = oIf (fun x => x = 0) 40 16 := rfl
theorem c84_16 : xT 84 16 = oAld 0 17 := rfl
theorem c84_17 : xT 84 17 = oIld 1 18 := rfl
theorem c84_18 : xT 84 18 = oPush (.int (1)) 19 := rfl
theorem c84_19 : xT 84 19 = oBin (fun x y => x + y) 20 := rfl
theorem c84_20 : xT 84 20 = oIld 2 21 := rfl
theorem c84_21 : xT 84 21 = oAld 0 22 := rfl
theorem c84_22 : xT 84 22 = oIld 1 23 := rfl
theorem c84_23 : xT 84 23 = oIld 3 24 := rfl
theorem c84_24 : xT 84 24 = oCallV 4 75 3 27 := rfl
theorem c84_27 : xT 84 27 = oBin (fun x y => x + y) 28 := rfl
theorem c84_28 : xT 84 28 = oCallV 4 80 3 31 := rfl
theorem c84_31 : xT 84 31 = oAld 0 32 := rfl
theorem c84_32 : xT 84 32 = oGeti 3 4 35 := rfl
theorem c84_35 : xT 84 35 = oIcmp (fun x y => x = y) 38 40 := rfl
theorem c84_38 : xT 84 38 = oIld 3 39 := rfl
theorem c84_39 : xT 84 39 = oRi (fun _ => True) := rfl
theorem c84_40 : xT 84 40 = oTr [0, 1, 2, 3] (oIinc 3 (1) 43 4) := rfl
theorem c84_43 : xT 84 43 = oGoto 2 := rfl
theorem c84_46 : xT 84 46 = oPush (.int (4)) 47 := rfl
theorem c84_47 : xT 84 47 = oRi (fun _ => True) := rfl
theorem c85_0 : xT 85 0 = oAld 0 1 := rfl
theorem c85_1 : xT 85 1 = oAld 1 2 := rfl
theorem c85_2 : xT 85 2 = oPutp 2 11 5 := rfl
theorem c85_5 : xT 85 5 = oAld 0 6 := rfl
theorem c85_6 : xT 85 6 = oIld 2 7 := rfl
theorem c85_7 : xT 85 7 = oPuti 2 12 10 := rfl
theorem c85_10 : xT 85 10 = oAld 0 11 := rfl
theorem c85_11 : xT 85 11 = oAld 0 12 := rfl
theorem c85_12 : xT 85 12 = oGeti 2 6 15 := rfl
theorem c85_15 : xT 85 15 = oPuti 2 13 18 := rfl
theorem c85_18 : xT 85 18 = oAld 0 19 := rfl
theorem c85_19 : xT 85 19 = oPush (.int (0)) 20 := rfl
theorem c85_20 : xT 85 20 = oPutb 2 14 23 := rfl
theorem c85_23 : xT 85 23 = oRv := rfl
theorem c86_0 : xT 86 0 = oAld 0 1 := rfl
theorem c86_1 : xT 86 1 = oIld 1 2 := rfl
theorem c86_2 : xT 86 2 = oCallV 12 66 2 5 := rfl
theorem c86_5 : xT 86 5 = oAst 3 6 4 := rfl
theorem c86_6 : xT 86 6 = oAld 3 7 := rfl
theorem c86_7 : xT 86 7 = oIfn 19 10 := rfl
theorem c86_10 : xT 86 10 = oIld 2 11 := rfl
theorem c86_11 : xT 86 11 = oIf (fun x => x < 0) 19 14 := rfl
theorem c86_14 : xT 86 14 = oIld 2 15 := rfl
theorem c86_15 : xT 86 15 = oPush (.int (4)) 16 := rfl
theorem c86_16 : xT 86 16 = oIcmp (fun x y => x ≤ y) 22 19 := rfl
theorem c86_19 : xT 86 19 = oTr [] (oPush (.int (-2)) 21) := rfl
theorem c86_21 : xT 86 21 = oRi (fun _ => True) := rfl
theorem c86_22 : xT 86 22 = oAld 3 23 := rfl
theorem c86_23 : xT 86 23 = oGetz 2 11 26 := rfl
theorem c86_26 : xT 86 26 = oIfn 29 32 := rfl
theorem c86_29 : xT 86 29 = oPush (.int (-3)) 31 := rfl
theorem c86_31 : xT 86 31 = oRi (fun _ => True) := rfl
theorem c86_32 : xT 86 32 = oIld 2 33 := rfl
theorem c86_33 : xT 86 33 = oSw [(0, 64), (1, 72), (2, 80), (3, 88)] 96 := rfl
theorem c86_64 : xT 86 64 = oAld 3 65 := rfl
theorem c86_65 : xT 86 65 = oGetp 2 10 68 := rfl
theorem c86_68 : xT 86 68 = oGeti 4 2 71 := rfl
theorem c86_71 : xT 86 71 = oRi (fun _ => True) := rfl
theorem c86_72 : xT 86 72 = oAld 3 73 := rfl
theorem c86_73 : xT 86 73 = oGetp 2 10 76 := rfl
theorem c86_76 : xT 86 76 = oGeti 4 3 79 := rfl
theorem c86_79 : xT 86 79 = oRi (fun _ => True) := rfl
theorem c86_80 : xT 86 80 = oAld 3 81 := rfl
theorem c86_81 : xT 86 81 = oGetp 2 10 84 := rfl
theorem c86_84 : xT 86 84 = oGeti 4 4 87 := rfl
theorem c86_87 : xT 86 87 = oRi (fun _ => True) := rfl
theorem c86_88 : xT 86 88 = oAld 3 89 := rfl
theorem c86_89 : xT 86 89 = oGetp 2 10 92 := rfl
theorem c86_92 : xT 86 92 = oGeti 4 5 95 := rfl
theorem c86_95 : xT 86 95 = oRi (fun _ => True) := rfl
theorem c86_96 : xT 86 96 = oAld 3 97 := rfl
theorem c86_97 : xT 86 97 = oGetp 2 10 100 := rfl
theorem c86_100 : xT 86 100 = oGeti 4 6 103 := rfl
theorem c86_103 : xT 86 103 = oRi (fun _ => True) := rfl
theorem c87_0 : xT 87 0 = oAld 0 1 := rfl
theorem c87_1 : xT 87 1 = oIld 1 2 := rfl
theorem c87_2 : xT 87 2 = oCallV 12 66 2 5 := rfl
theorem c87_5 : xT 87 5 = oAst 4 7 5 := rfl
theorem c87_7 : xT 87 7 = oAld 4 9 := rfl
theorem c87_9 : xT 87 9 = oIfn 34 12 := rfl
theorem c87_12 : xT 87 12 = oIld 2 13 := rfl
theorem c87_13 : xT 87 13 = oIf (fun x => x < 0) 34 16 := rfl
theorem c87_16 : xT 87 16 = oIld 2 17 := rfl
theorem c87_17 : xT 87 17 = oAld 4 19 := rfl
theorem c87_19 : xT 87 19 = oGeti 2 4 22 := rfl
theorem c87_22 : xT 87 22 = oIcmp (fun x y => y ≤ x) 34 25 := rfl
theorem c87_25 : xT 87 25 = oIld 3 26 := rfl
theorem c87_26 : xT 87 26 = oIf (fun x => x < 0) 34 29 := rfl
theorem c87_29 : xT 87 29 = oIld 3 30 := rfl
theorem c87_30 : xT 87 30 = oPush (.int (3)) 31 := rfl
theorem c87_31 : xT 87 31 = oIcmp (fun x y => x ≤ y) 37 34 := rfl
theorem c87_34 : xT 87 34 = oTr [] (oPush (.int (-2)) 36) := rfl
theorem c87_36 : xT 87 36 = oRi (fun _ => True) := rfl
theorem c87_37 : xT 87 37 = oIld 3 38 := rfl
theorem c87_38 : xT 87 38 = oPush (.int (2)) 39 := rfl
theorem c87_39 : xT 87 39 = oIcmp (fun x y => x = y) 42 49 := rfl
theorem c87_42 : xT 87 42 = oAld 4 44 := rfl
theorem c87_44 : xT 87 44 = oIld 2 45 := rfl
theorem c87_45 : xT 87 45 = oCallV 3 88 2 48 := rfl
theorem c87_48 : xT 87 48 = oRi (fun _ => True) := rfl
theorem c87_49 : xT 87 49 = oAld 4 51 := rfl
theorem c87_51 : xT 87 51 = oGetz 2 11 54 := rfl
theorem c87_54 : xT 87 54 = oIfn 57 60 := rfl
theorem c87_57 : xT 87 57 = oPush (.int (-3)) 59 := rfl
theorem c87_59 : xT 87 59 = oRi (fun _ => True) := rfl
theorem c87_60 : xT 87 60 = oIld 3 61 := rfl
theorem c87_61 : xT 87 61 = oSw [(0, 88), (1, 98)] 108 := rfl
theorem c87_88 : xT 87 88 = oAld 4 90 := rfl
theorem c87_90 : xT 87 90 = oGetp 2 10 93 := rfl
theorem c87_93 : xT 87 93 = oIld 2 94 := rfl
theorem c87_94 : xT 87 94 = oCallV 5 89 2 97 := rfl
theorem c87_97 : xT 87 97 = oRi (fun _ => True) := rfl
theorem c87_98 : xT 87 98 = oAld 4 100 := rfl
theorem c87_100 : xT 87 100 = oGetp 2 10 103 := rfl
theorem c87_103 : xT 87 103 = oIld 2 104 := rfl
theorem c87_104 : xT 87 104 = oCallV 5 90 2 107 := rfl
theorem c87_107 : xT 87 107 = oRi (fun _ => True) := rfl
theorem c87_108 : xT 87 108 = oAld 4 110 := rfl
theorem c87_110 : xT 87 110 = oGetp 2 10 113 := rfl
theorem c87_113 : xT 87 113 = oIld 2 114 := rfl
theorem c87_114 : xT 87 114 = oCallV 5 91 2 117 := rfl
theorem c87_117 : xT 87 117 = oAld 4 119 := rfl
theorem c87_119 : xT 87 119 = oGetp 2 10 122 := rfl
theorem c87_122 : xT 87 122 = oIld 2 123 := rfl
theorem c87_123 : xT 87 123 = oCallV 5 89 2 126 := rfl
theorem c87_126 : xT 87 126 = oBin (fun x y => x - y) 127 := rfl
theorem c87_127 : xT 87 127 = oAld 4 129 := rfl
theorem c87_129 : xT 87 129 = oGeti 2 13 132 := rfl
theorem c87_132 : xT 87 132 = oBin (fun x y => x - y) 133 := rfl
theorem c87_133 : xT 87 133 = oRi (fun _ => True) := rfl
theorem c88_0 : xT 88 0 = oAld 0 1 := rfl
theorem c88_1 : xT 88 1 = oGeti 2 4 4 := rfl
theorem c88_4 : xT 88 4 = oPush (.int (1)) 5 := rfl
theorem c88_5 : xT 88 5 = oIcmp (fun x y => y ≤ x) 12 8 := rfl
theorem c88_8 : xT 88 8 = oPush (.int (0)) 9 := rfl
theorem c88_9 : xT 88 9 = oGoto 37 := rfl
theorem c88_12 : xT 88 12 = oIld 1 13 := rfl
theorem c88_13 : xT 88 13 = oPush (.int (1)) 14 := rfl
theorem c88_14 : xT 88 14 = oBin (fun x y => x + y) 15 := rfl
theorem c88_15 : xT 88 15 = oAld 0 16 := rfl
theorem c88_16 : xT 88 16 = oGeti 2 8 19 := rfl
theorem c88_19 : xT 88 19 = oBin (fun x y => x * y) 20 := rfl
theorem c88_20 : xT 88 20 = oAld 0 21 := rfl
theorem c88_21 : xT 88 21 = oGeti 2 4 24 := rfl
theorem c88_24 : xT 88 24 = oDiv (fun x y => x / y) 25 := rfl
theorem c88_25 : xT 88 25 = oIld 1 26 := rfl
theorem c88_26 : xT 88 26 = oAld 0 27 := rfl
theorem c88_27 : xT 88 27 = oGeti 2 8 30 := rfl
theorem c88_30 : xT 88 30 = oBin (fun x y => x * y) 31 := rfl
theorem c88_31 : xT 88 31 = oAld 0 32 := rfl
theorem c88_32 : xT 88 32 = oGeti 2 4 35 := rfl
theorem c88_35 : xT 88 35 = oDiv (fun x y => x / y) 36 := rfl
theorem c88_36 : xT 88 36 = oBin (fun x y => x - y) 37 := rfl
theorem c88_37 : xT 88 37 = oTr [] (oRi (fun _ => True)) := rfl
theorem c89_0 : xT 89 0 = oIld 1 1 := rfl
theorem c89_1 : xT 89 1 = oIf (fun x => x < 0) 13 4 := rfl
theorem c89_4 : xT 89 4 = oIld 1 5 := rfl
theorem c89_5 : xT 89 5 = oAld 0 6 := rfl
theorem c89_6 : xT 89 6 = oGetp 4 0 9 := rfl
theorem c89_9 : xT 89 9 = oLen 20 10 := rfl
theorem c89_10 : xT 89 10 = oIcmp (fun x y => x < y) 20 13 := rfl
theorem c89_13 : xT 89 13 = oTr [0] (oAld 0 14) := rfl
theorem c89_14 : xT 89 14 = oGeti 4 3 17 := rfl
theorem c89_17 : xT 89 17 = oGoto 26 := rfl
theorem c89_20 : xT 89 20 = oAld 0 21 := rfl
theorem c89_21 : xT 89 21 = oGetp 4 0 24 := rfl
theorem c89_24 : xT 89 24 = oIld 1 25 := rfl
theorem c89_25 : xT 89 25 = oAldi 20 26 := rfl
theorem c89_26 : xT 89 26 = oTr [] (oRi (fun _ => True)) := rfl
theorem c90_0 : xT 90 0 = oIld 1 1 := rfl
theorem c90_1 : xT 90 1 = oIf (fun x => x < 0) 15 4 := rfl
theorem c90_4 : xT 90 4 = oIld 1 5 := rfl
theorem c90_5 : xT 90 5 = oAld 0 6 := rfl
theorem c90_6 : xT 90 6 = oGetp 4 1 9 := rfl
theorem c90_9 : xT 90 9 = oLen 20 10 := rfl
theorem c90_10 : xT 90 10 = oPush (.int (1)) 11 := rfl
theorem c90_11 : xT 90 11 = oBin (fun x y => x - y) 12 := rfl
theorem c90_12 : xT 90 12 = oIcmp (fun x y => x < y) 19 15 := rfl
theorem c90_15 : xT 90 15 = oTr [] (oPush (.int (-1)) 16) := rfl
theorem c90_16 : xT 90 16 = oGoto 25 := rfl
theorem c90_19 : xT 90 19 = oAld 0 20 := rfl
theorem c90_20 : xT 90 20 = oGetp 4 1 23 := rfl
theorem c90_23 : xT 90 23 = oIld 1 24 := rfl
theorem c90_24 : xT 90 24 = oAldi 20 25 := rfl
theorem c90_25 : xT 90 25 = oTr [] (oRi (fun _ => True)) := rfl
theorem c91_0 : xT 91 0 = oAld 0 1 := rfl
theorem c91_1 : xT 91 1 = oIld 1 2 := rfl
theorem c91_2 : xT 91 2 = oPush (.int (1)) 3 := rfl
theorem c91_3 : xT 91 3 = oBin (fun x y => x + y) 4 := rfl
theorem c91_4 : xT 91 4 = oCallV 5 89 2 7 := rfl
theorem c91_7 : xT 91 7 = oRi (fun _ => True) := rfl
theorem c92_0 : xT 92 0 = oAld 0 1 := rfl
theorem c92_1 : xT 92 1 = oIld 1 2 := rfl
theorem c92_2 : xT 92 2 = oCallV 12 66 2 5 := rfl
theorem c92_5 : xT 92 5 = oAst 4 7 6 := rfl
theorem c92_7 : xT 92 7 = oAld 4 9 := rfl
theorem c92_9 : xT 92 9 = oIfn 12 15 := rfl
theorem c92_12 : xT 92 12 = oPush (.int (-2)) 14 := rfl
theorem c92_14 : xT 92 14 = oRi (fun _ => True) := rfl
theorem c92_15 : xT 92 15 = oAld 4 17 := rfl
theorem c92_17 : xT 92 17 = oGetz 2 11 20 := rfl
theorem c92_20 : xT 92 20 = oIfn 23 26 := rfl
theorem c92_23 : xT 92 23 = oPush (.int (-3)) 25 := rfl
theorem c92_25 : xT 92 25 = oRi (fun _ => True) := rfl
theorem c92_26 : xT 92 26 = oAld 4 28 := rfl
theorem c92_28 : xT 92 28 = oIld 3 29 := rfl
theorem c92_29 : xT 92 29 = oCallV 3 93 2 32 := rfl
theorem c92_32 : xT 92 32 = oIst 5 34 6 := rfl
theorem c92_34 : xT 92 34 = oIld 2 35 := rfl
theorem c92_35 : xT 92 35 = oIf (fun x => x < 0) 44 38 := rfl
theorem c92_38 : xT 92 38 = oIld 2 39 := rfl
theorem c92_39 : xT 92 39 = oIld 5 41 := rfl
theorem c92_41 : xT 92 41 = oIcmp (fun x y => x < y) 46 44 := rfl
theorem c92_44 : xT 92 44 = oTr [] (oPush (.int (-1)) 45) := rfl
theorem c92_45 : xT 92 45 = oRi (fun _ => True) := rfl
theorem c92_46 : xT 92 46 = oAld 4 48 := rfl
theorem c92_48 : xT 92 48 = oGetz 2 11 51 := rfl
theorem c92_51 : xT 92 51 = oGetp 0 0 54 := rfl
theorem c92_54 : xT 92 54 = oAld 4 56 := rfl
theorem c92_56 : xT 92 56 = oAld 4 58 := rfl
theorem c92_58 : xT 92 58 = oGeti 2 14 61 := rfl
theorem c92_61 : xT 92 61 = oIf (fun x => x = 0) 73 64 := rfl
theorem c92_64 : xT 92 64 = oIld 5 66 := rfl
theorem c92_66 : xT 92 66 = oPush (.int (1)) 67 := rfl
theorem c92_67 : xT 92 67 = oBin (fun x y => x - y) 68 := rfl
theorem c92_68 : xT 92 68 = oIld 2 69 := rfl
theorem c92_69 : xT 92 69 = oBin (fun x y => x - y) 70 := rfl
theorem c92_70 : xT 92 70 = oGoto 74 := rfl
theorem c92_73 : xT 92 73 = oIld 2 74 := rfl
theorem c92_74 : xT 92 74 = oTr [3] (oIld 3 75) := rfl
theorem c92_75 : xT 92 75 = oCallV 3 94 3 78 := rfl
theorem c92_78 : xT 92 78 = oCallV 6 50 2 81 := rfl
theorem c92_81 : xT 92 81 = oRi (fun _ => True) := rfl
theorem c93_0 : xT 93 0 = oIld 1 1 := rfl
theorem c93_1 : xT 93 1 = oIf (fun x => x = 0) 21 4 := rfl
theorem c93_4 : xT 93 4 = oAld 0 5 := rfl
theorem c93_5 : xT 93 5 = oGeti 2 4 8 := rfl
theorem c93_8 : xT 93 8 = oAld 0 9 := rfl
theorem c93_9 : xT 93 9 = oGeti 2 13 12 := rfl
theorem c93_12 : xT 93 12 = oBin (fun x y => x * y) 13 := rfl
theorem c93_13 : xT 93 13 = oAld 0 14 := rfl
theorem c93_14 : xT 93 14 = oGeti 2 8 17 := rfl
theorem c93_17 : xT 93 17 = oBin (fun x y => x - y) 18 := rfl
theorem c93_18 : xT 93 18 = oGoto 30 := rfl
theorem c93_21 : xT 93 21 = oAld 0 22 := rfl
theorem c93_22 : xT 93 22 = oGeti 2 4 25 := rfl
theorem c93_25 : xT 93 25 = oAld 0 26 := rfl
theorem c93_26 : xT 93 26 = oGeti 2 13 29 := rfl
theorem c93_29 : xT 93 29 = oBin (fun x y => x * y) 30 := rfl
theorem c93_30 : xT 93 30 = oTr [] (oRi (fun _ => True)) := rfl
theorem c94_0 : xT 94 0 = oIld 1 1 := rfl
theorem c94_1 : xT 94 1 = oIst 3 2 7 := rfl
theorem c94_2 : xT 94 2 = oPush (.int (0)) 3 := rfl
theorem c94_3 : xT 94 3 = oIst 4 5 7 := rfl
theorem c94_5 : xT 94 5 = oTr [0, 2, 3, 4] (oIld 4 7) := rfl
theorem c94_7 : xT 94 7 = oAld 0 8 := rfl
theorem c94_8 : xT 94 8 = oGeti 2 4 11 := rfl
theorem c94_11 : xT 94 11 = oIcmp (fun x y => y ≤ x) 73 14 := rfl
theorem c94_14 : xT 94 14 = oIld 2 15 := rfl
theorem c94_15 : xT 94 15 = oIf (fun x => x = 0) 27 18 := rfl
theorem c94_18 : xT 94 18 = oAld 0 19 := rfl
theorem c94_19 : xT 94 19 = oIld 4 21 := rfl
theorem c94_21 : xT 94 21 = oCallV 3 88 2 24 := rfl
theorem c94_24 : xT 94 24 = oGoto 28 := rfl
theorem c94_27 : xT 94 27 = oPush (.int (0)) 28 := rfl
theorem c94_28 : xT 94 28 = oTr [0, 2, 3, 4] (oIst 5 30 7) := rfl
theorem c94_30 : xT 94 30 = oAld 0 31 := rfl
theorem c94_31 : xT 94 31 = oGeti 2 13 34 := rfl
theorem c94_34 : xT 94 34 = oIld 5 36 := rfl
theorem c94_36 : xT 94 36 = oBin (fun x y => x - y) 37 := rfl
theorem c94_37 : xT 94 37 = oIst 6 39 7 := rfl
theorem c94_39 : xT 94 39 = oIld 3 40 := rfl
theorem c94_40 : xT 94 40 = oIld 6 42 := rfl
theorem c94_42 : xT 94 42 = oIcmp (fun x y => y ≤ x) 62 45 := rfl
theorem c94_45 : xT 94 45 = oAld 0 46 := rfl
theorem c94_46 : xT 94 46 = oGetp 2 10 49 := rfl
theorem c94_49 : xT 94 49 = oIld 4 51 := rfl
theorem c94_51 : xT 94 51 = oCallV 5 89 2 54 := rfl
theorem c94_54 : xT 94 54 = oIld 5 56 := rfl
theorem c94_56 : xT 94 56 = oPush (.int (2)) 57 := rfl
theorem c94_57 : xT 94 57 = oDiv (fun x y => x / y) 58 := rfl
theorem c94_58 : xT 94 58 = oBin (fun x y => x + y) 59 := rfl
theorem c94_59 : xT 94 59 = oIld 3 60 := rfl
theorem c94_60 : xT 94 60 = oBin (fun x y => x + y) 61 := rfl
theorem c94_61 : xT 94 61 = oRi (fun _ => True) := rfl
theorem c94_62 : xT 94 62 = oIld 3 63 := rfl
theorem c94_63 : xT 94 63 = oIld 6 65 := rfl
theorem c94_65 : xT 94 65 = oBin (fun x y => x - y) 66 := rfl
theorem c94_66 : xT 94 66 = oIst 3 67 7 := rfl
theorem c94_67 : xT 94 67 = oIinc 4 (1) 70 7 := rfl
theorem c94_70 : xT 94 70 = oGoto 5 := rfl
theorem c94_73 : xT 94 73 = oPush (.int (-1)) 74 := rfl
theorem c94_74 : xT 94 74 = oRi (fun _ => True) := rfl
theorem c95_0 : xT 95 0 = oAld 0 1 := rfl
theorem c95_1 : xT 95 1 = oIld 1 2 := rfl
theorem c95_2 : xT 95 2 = oCallV 12 66 2 5 := rfl
theorem c95_5 : xT 95 5 = oAst 3 6 4 := rfl
theorem c95_6 : xT 95 6 = oAld 3 7 := rfl
theorem c95_7 : xT 95 7 = oIfn 10 13 := rfl
theorem c95_10 : xT 95 10 = oPush (.int (-2)) 12 := rfl
theorem c95_12 : xT 95 12 = oRi (fun _ => True) := rfl
theorem c95_13 : xT 95 13 = oAld 3 14 := rfl
theorem c95_14 : xT 95 14 = oGetz 2 11 17 := rfl
theorem c95_17 : xT 95 17 = oIfn 20 25 := rfl
theorem c95_20 : xT 95 20 = oPush (.int (-3)) 22 := rfl
theorem c95_22 : xT 95 22 = oGoto 30 := rfl
theorem c95_25 : xT 95 25 = oAld 3 26 := rfl
theorem c95_26 : xT 95 26 = oIld 2 27 := rfl
theorem c95_27 : xT 95 27 = oCallV 3 93 2 30 := rfl
theorem c95_30 : xT 95 30 = oTr [] (oRi (fun _ => True)) := rfl
theorem c96_0 : xT 96 0 = oAld 0 1 := rfl
theorem c96_1 : xT 96 1 = oIld 1 2 := rfl
theorem c96_2 : xT 96 2 = oCallV 12 66 2 5 := rfl
theorem c96_5 : xT 96 5 = oAst 3 6 4 := rfl
theorem c96_6 : xT 96 6 = oAld 3 7 := rfl
theorem c96_7 : xT 96 7 = oIfn 22 10 := rfl
theorem c96_10 : xT 96 10 = oIld 2 11 := rfl
theorem c96_11 : xT 96 11 = oPush (.int (-20)) 13 := rfl
theorem c96_13 : xT 96 13 = oIcmp (fun x y => x < y) 22 16 := rfl
theorem c96_16 : xT 96 16 = oIld 2 17 := rfl
theorem c96_17 : xT 96 17 = oPush (.int (20)) 19 := rfl
theorem c96_19 : xT 96 19 = oIcmp (fun x y => x ≤ y) 25 22 := rfl
theorem c96_22 : xT 96 22 = oTr [] (oPush (.int (-2)) 24) := rfl
theorem c96_24 : xT 96 24 = oRi (fun _ => True) := rfl
theorem c96_25 : xT 96 25 = oAld 3 26 := rfl
theorem c96_26 : xT 96 26 = oGetz 2 11 29 := rfl
theorem c96_29 : xT 96 29 = oIfn 45 32 := rfl
theorem c96_32 : xT 96 32 = oAld 3 33 := rfl
theorem c96_33 : xT 96 33 = oAld 3 34 := rfl
theorem c96_34 : xT 96 34 = oGeti 2 13 37 := rfl
theorem c96_37 : xT 96 37 = oIld 2 38 := rfl
theorem c96_38 : xT 96 38 = oBin (fun x y => x + y) 39 := rfl
theorem c96_39 : xT 96 39 = oCallV 3 97 2 42 := rfl
theorem c96_42 : xT 96 42 = oIf (fun x => x = 0) 45 48 := rfl
theorem c96_45 : xT 96 45 = oTr [] (oPush (.int (-3)) 47) := rfl
theorem c96_47 : xT 96 47 = oRi (fun _ => True) := rfl
theorem c96_48 : xT 96 48 = oAld 3 49 := rfl
theorem c96_49 : xT 96 49 = oDup 50 := rfl
theorem c96_50 : xT 96 50 = oGeti 2 13 53 := rfl
theorem c96_53 : xT 96 53 = oIld 2 54 := rfl
theorem c96_54 : xT 96 54 = oBin (fun x y => x + y) 55 := rfl
theorem c96_55 : xT 96 55 = oPuti 2 13 58 := rfl
theorem c96_58 : xT 96 58 = oAld 3 59 := rfl
theorem c96_59 : xT 96 59 = oGeti 2 13 62 := rfl
theorem c96_62 : xT 96 62 = oRi (fun _ => True) := rfl
theorem c97_0 : xT 97 0 = oAld 0 1 := rfl
theorem c97_1 : xT 97 1 = oGetz 2 11 4 := rfl
theorem c97_4 : xT 97 4 = oIfn 19 7 := rfl
theorem c97_7 : xT 97 7 = oIld 1 8 := rfl
theorem c97_8 : xT 97 8 = oPush (.int (1)) 9 := rfl
theorem c97_9 : xT 97 9 = oIcmp (fun x y => x < y) 19 12 := rfl
theorem c97_12 : xT 97 12 = oIld 1 13 := rfl
theorem c97_13 : xT 97 13 = oPush (.int (999)) 16 := rfl
theorem c97_16 : xT 97 16 = oIcmp (fun x y => x ≤ y) 21 19 := rfl
theorem c97_19 : xT 97 19 = oTr [] (oPush (.int (0)) 20) := rfl
theorem c97_20 : xT 97 20 = oRi (fun x => x = 0 ∨ x = 1) := rfl
theorem c97_21 : xT 97 21 = oPush (.int (0)) 22 := rfl
theorem c97_22 : xT 97 22 = oIst 2 23 4 := rfl
theorem c97_23 : xT 97 23 = oTr [0, 1, 2] (oIld 2 24) := rfl
theorem c97_24 : xT 97 24 = oAld 0 25 := rfl
theorem c97_25 : xT 97 25 = oGeti 2 4 28 := rfl
theorem c97_28 : xT 97 28 = oIcmp (fun x y => y ≤ x) 83 31 := rfl
theorem c97_31 : xT 97 31 = oAld 0 32 := rfl
theorem c97_32 : xT 97 32 = oGetp 2 10 35 := rfl
theorem c97_35 : xT 97 35 = oIld 2 36 := rfl
theorem c97_36 : xT 97 36 = oCallV 5 89 2 39 := rfl
theorem c97_39 : xT 97 39 = oIst 3 40 4 := rfl
theorem c97_40 : xT 97 40 = oIld 1 41 := rfl
theorem c97_41 : xT 97 41 = oAld 0 42 := rfl
theorem c97_42 : xT 97 42 = oIld 2 43 := rfl
theorem c97_43 : xT 97 43 = oCallV 3 88 2 46 := rfl
theorem c97_46 : xT 97 46 = oIcmp (fun x y => x ≤ y) 75 49 := rfl
theorem c97_49 : xT 97 49 = oIld 3 50 := rfl
theorem c97_50 : xT 97 50 = oIld 1 51 := rfl
theorem c97_51 : xT 97 51 = oBin (fun x y => x + y) 52 := rfl
theorem c97_52 : xT 97 52 = oAld 0 53 := rfl
theorem c97_53 : xT 97 53 = oGetp 2 10 56 := rfl
theorem c97_56 : xT 97 56 = oIld 2 57 := rfl
theorem c97_57 : xT 97 57 = oCallV 5 91 2 60 := rfl
theorem c97_60 : xT 97 60 = oIcmp (fun x y => y < x) 75 63 := rfl
theorem c97_63 : xT 97 63 = oAld 0 64 := rfl
theorem c97_64 : xT 97 64 = oGetz 2 11 67 := rfl
theorem c97_67 : xT 97 67 = oIld 3 68 := rfl
theorem c97_68 : xT 97 68 = oIld 1 69 := rfl
theorem c97_69 : xT 97 69 = oCallV 1 56 3 72 := rfl
theorem c97_72 : xT 97 72 = oIf (fun x => x = 0) 75 77 := rfl
theorem c97_75 : xT 97 75 = oTr [] (oPush (.int (0)) 76) := rfl
theorem c97_76 : xT 97 76 = oRi (fun x => x = 0 ∨ x = 1) := rfl
theorem c97_77 : xT 97 77 = oIinc 2 (1) 80 4 := rfl
theorem c97_80 : xT 97 80 = oGoto 23 := rfl
theorem c97_83 : xT 97 83 = oPush (.int (1)) 84 := rfl
theorem c97_84 : xT 97 84 = oRi (fun x => x = 0 ∨ x = 1) := rfl
theorem c98_0 : xT 98 0 = oAld 0 1 := rfl
theorem c98_1 : xT 98 1 = oIld 1 2 := rfl
theorem c98_2 : xT 98 2 = oCallV 12 66 2 5 := rfl
theorem c98_5 : xT 98 5 = oAst 2 6 3 := rfl
theorem c98_6 : xT 98 6 = oAld 2 7 := rfl
theorem c98_7 : xT 98 7 = oIfn 10 13 := rfl
theorem c98_10 : xT 98 10 = oPush (.int (-2)) 12 := rfl
theorem c98_12 : xT 98 12 = oRi (fun _ => True) := rfl
theorem c98_13 : xT 98 13 = oAld 2 14 := rfl
theorem c98_14 : xT 98 14 = oGetz 2 11 17 := rfl
theorem c98_17 : xT 98 17 = oIfn 20 23 := rfl
theorem c98_20 : xT 98 20 = oPush (.int (-3)) 22 := rfl
theorem c98_22 : xT 98 22 = oRi (fun _ => True) := rfl
theorem c98_23 : xT 98 23 = oAld 2 24 := rfl
theorem c98_24 : xT 98 24 = oAld 2 25 := rfl
theorem c98_25 : xT 98 25 = oGeti 2 14 28 := rfl
theorem c98_28 : xT 98 28 = oIf (fun x => x = 0) 31 35 := rfl
theorem c98_31 : xT 98 31 = oPush (.int (1)) 32 := rfl
theorem c98_32 : xT 98 32 = oGoto 36 := rfl
theorem c98_35 : xT 98 35 = oPush (.int (0)) 36 := rfl
theorem c98_36 : xT 98 36 = oTr [2] (oPutb 2 14 39) := rfl
theorem c98_39 : xT 98 39 = oAld 2 40 := rfl
theorem c98_40 : xT 98 40 = oGeti 2 14 43 := rfl
theorem c98_43 : xT 98 43 = oIf (fun x => x = 0) 50 46 := rfl
theorem c98_46 : xT 98 46 = oPush (.int (1)) 47 := rfl
theorem c98_47 : xT 98 47 = oGoto 51 := rfl
theorem c98_50 : xT 98 50 = oPush (.int (0)) 51 := rfl
theorem c98_51 : xT 98 51 = oTr [] (oRi (fun _ => True)) := rfl
theorem c99_0 : xT 99 0 = oAld 0 1 := rfl
theorem c99_1 : xT 99 1 = oGeti 11 13 4 := rfl
theorem c99_4 : xT 99 4 = oPush (.int (6)) 6 := rfl
theorem c99_6 : xT 99 6 = oIcmp (fun x y => x < y) 12 9 := rfl
theorem c99_9 : xT 99 9 = oPush (.int (-4)) 11 := rfl
theorem c99_11 : xT 99 11 = oRi (fun _ => True) := rfl
theorem c99_12 : xT 99 12 = oAld 0 13 := rfl
theorem c99_13 : xT 99 13 = oGetp 11 2 16 := rfl
theorem c99_16 : xT 99 16 = oAld 0 17 := rfl
theorem c99_17 : xT 99 17 = oGetp 11 0 20 := rfl
theorem c99_20 : xT 99 20 = oCallV 11 16 2 23 := rfl
theorem c99_23 : xT 99 23 = oIst 1 24 2 := rfl
theorem c99_24 : xT 99 24 = oAld 0 25 := rfl
theorem c99_25 : xT 99 25 = oGetp 11 0 28 := rfl
theorem c99_28 : xT 99 28 = oPush (.int (0)) 29 := rfl
theorem c99_29 : xT 99 29 = oPuti 8 1 32 := rfl
theorem c99_32 : xT 99 32 = oIld 1 33 := rfl
theorem c99_33 : xT 99 33 = oPush (.int (-1)) 34 := rfl
theorem c99_34 : xT 99 34 = oIcmp (fun x y => x = y) 42 37 := rfl
theorem c99_37 : xT 99 37 = oPush (.int (-100)) 39 := rfl
theorem c99_39 : xT 99 39 = oIld 1 40 := rfl
theorem c99_40 : xT 99 40 = oBin (fun x y => x - y) 41 := rfl
theorem c99_41 : xT 99 41 = oRi (fun _ => True) := rfl
theorem c99_42 : xT 99 42 = oAld 0 43 := rfl
theorem c99_43 : xT 99 43 = oGetp 11 8 46 := rfl
theorem c99_46 : xT 99 46 = oAld 0 47 := rfl
theorem c99_47 : xT 99 47 = oGeti 11 13 50 := rfl
theorem c99_50 : xT 99 50 = oNew 9 4 53 := rfl
theorem c99_53 : xT 99 53 = oDup 54 := rfl
theorem c99_54 : xT 99 54 = oAld 0 55 := rfl
theorem c99_55 : xT 99 55 = oGetp 11 2 58 := rfl
theorem c99_58 : xT 99 58 = oCallI 34 2 61 := rfl
theorem c99_61 : xT 99 61 = oAstp 26 9 62 := rfl
theorem c99_62 : xT 99 62 = oAld 0 63 := rfl
theorem c99_63 : xT 99 63 = oDup 64 := rfl
theorem c99_64 : xT 99 64 = oGeti 11 13 67 := rfl
theorem c99_67 : xT 99 67 = oPush (.int (1)) 68 := rfl
theorem c99_68 : xT 99 68 = oBin (fun x y => x + y) 69 := rfl
theorem c99_69 : xT 99 69 = oPuti 11 13 72 := rfl
theorem c99_72 : xT 99 72 = oAld 0 73 := rfl
theorem c99_73 : xT 99 73 = oGeti 11 13 76 := rfl
theorem c99_76 : xT 99 76 = oPush (.int (1)) 77 := rfl
theorem c99_77 : xT 99 77 = oBin (fun x y => x - y) 78 := rfl
theorem c99_78 : xT 99 78 = oRi (fun _ => True) := rfl
theorem c100_0 : xT 100 0 = oIld 1 1 := rfl
theorem c100_1 : xT 100 1 = oIf (fun x => x < 0) 12 4 := rfl
theorem c100_4 : xT 100 4 = oIld 1 5 := rfl
theorem c100_5 : xT 100 5 = oAld 0 6 := rfl
theorem c100_6 : xT 100 6 = oGeti 11 13 9 := rfl
theorem c100_9 : xT 100 9 = oIcmp (fun x y => x < y) 15 12 := rfl
theorem c100_12 : xT 100 12 = oTr [] (oPush (.int (-2)) 14) := rfl
theorem c100_14 : xT 100 14 = oRi (fun _ => True) := rfl
theorem c100_15 : xT 100 15 = oAld 0 16 := rfl
theorem c100_16 : xT 100 16 = oGeti 11 14 19 := rfl
theorem c100_19 : xT 100 19 = oIst 2 20 3 := rfl
theorem c100_20 : xT 100 20 = oAld 0 21 := rfl
theorem c100_21 : xT 100 21 = oIld 1 22 := rfl
theorem c100_22 : xT 100 22 = oPuti 11 14 25 := rfl
theorem c100_25 : xT 100 25 = oIld 2 26 := rfl
theorem c100_26 : xT 100 26 = oRi (fun _ => True) := rfl
theorem c101_0 : xT 101 0 = oAld 0 1 := rfl
theorem c101_1 : xT 101 1 = oIld 1 2 := rfl
theorem c101_2 : xT 101 2 = oCallV 12 66 2 5 := rfl
theorem c101_5 : xT 101 5 = oAst 3 6 5 := rfl
theorem c101_6 : xT 101 6 = oAld 3 7 := rfl
theorem c101_7 : xT 101 7 = oIfn 26 10 := rfl
theorem c101_10 : xT 101 10 = oAld 3 11 := rfl
theorem c101_11 : xT 101 11 = oGetz 2 11 14 := rfl
theorem c101_14 : xT 101 14 = oIfn 26 17 := rfl
theorem c101_17 : xT 101 17 = oIld 2 18 := rfl
theorem c101_18 : xT 101 18 = oIf (fun x => x < 0) 26 21 := rfl
theorem c101_21 : xT 101 21 = oIld 2 22 := rfl
theorem c101_22 : xT 101 22 = oPush (.int (1)) 23 := rfl
theorem c101_23 : xT 101 23 = oIcmp (fun x y => x ≤ y) 30 26 := rfl
theorem c101_26 : xT 101 26 = oTr [] (oPush (.long (-4611686018427387904)) 29) := rfl
theorem c101_29 : xT 101 29 = oRl := rfl
theorem c101_30 : xT 101 30 = oAld 0 31 := rfl
theorem c101_31 : xT 101 31 = oGeti 11 14 34 := rfl
theorem c101_34 : xT 101 34 = oIf (fun x => x < 0) 60 37 := rfl
theorem c101_37 : xT 101 37 = oAld 0 38 := rfl
theorem c101_38 : xT 101 38 = oGeti 11 14 41 := rfl
theorem c101_41 : xT 101 41 = oAld 0 42 := rfl
theorem c101_42 : xT 101 42 = oGeti 11 13 45 := rfl
theorem c101_45 : xT 101 45 = oIcmp (fun x y => y ≤ x) 60 48 := rfl
theorem c101_48 : xT 101 48 = oAld 0 49 := rfl
theorem c101_49 : xT 101 49 = oGetp 11 8 52 := rfl
theorem c101_52 : xT 101 52 = oAld 0 53 := rfl
theorem c101_53 : xT 101 53 = oGeti 11 14 56 := rfl
theorem c101_56 : xT 101 56 = oAldp 26 57 := rfl
theorem c101_57 : xT 101 57 = oGoto 61 := rfl
theorem c101_60 : xT 101 60 = oTr [2, 3] (oPush .null 61) := rfl
theorem c101_61 : xT 101 61 = oTr [2, 3] (oAst 4 63 5) := rfl
theorem c101_63 : xT 101 63 = oAld 4 65 := rfl
theorem c101_65 : xT 101 65 = oIfn 68 74 := rfl
theorem c101_68 : xT 101 68 = oPush (.long (-4611686018427387904)) 71 := rfl
theorem c101_71 : xT 101 71 = oGoto 82 := rfl
theorem c101_74 : xT 101 74 = oAld 4 76 := rfl
theorem c101_76 : xT 101 76 = oIld 2 77 := rfl
theorem c101_77 : xT 101 77 = oAld 3 78 := rfl
theorem c101_78 : xT 101 78 = oCallV 10 102 3 81 := rfl
theorem c101_81 : xT 101 81 = oI2l 82 := rfl
theorem c101_82 : xT 101 82 = oTr [] (oRl) := rfl
theorem c102_0 : xT 102 0 = oIld 1 1 := rfl
theorem c102_1 : xT 102 1 = oIf (fun x => x = 0) 4 11 := rfl
theorem c102_4 : xT 102 4 = oAld 0 5 := rfl
theorem c102_5 : xT 102 5 = oGeti 9 2 8 := rfl
theorem c102_8 : xT 102 8 = oGoto 16 := rfl
theorem c102_11 : xT 102 11 = oAld 0 12 := rfl
theorem c102_12 : xT 102 12 = oGetp 9 0 15 := rfl
theorem c102_15 : xT 102 15 = oLen 20 16 := rfl
theorem c102_16 : xT 102 16 = oTr [0, 1, 2] (oIst 3 17 8) := rfl
theorem c102_17 : xT 102 17 = oAld 0 18 := rfl
theorem c102_18 : xT 102 18 = oPush (.int (0)) 19 := rfl
theorem c102_19 : xT 102 19 = oPuti 9 3 22 := rfl
theorem c102_22 : xT 102 22 = oIld 1 23 := rfl
theorem c102_23 : xT 102 23 = oIf (fun x => x = 0) 26 30 := rfl
theorem c102_26 : xT 102 26 = oPush (.int (0)) 27 := rfl
theorem c102_27 : xT 102 27 = oGoto 34 := rfl
theorem c102_30 : xT 102 30 = oAld 0 31 := rfl
theorem c102_31 : xT 102 31 = oGeti 9 2 34 := rfl
theorem c102_34 : xT 102 34 = oTr [0, 2, 3] (oIst 4 36 8) := rfl
theorem c102_36 : xT 102 36 = oTr [0, 2, 3, 4] (oIld 4 38) := rfl
theorem c102_38 : xT 102 38 = oIld 3 39 := rfl
theorem c102_39 : xT 102 39 = oIcmp (fun x y => y ≤ x) 179 42 := rfl
theorem c102_42 : xT 102 42 = oIld 4 44 := rfl
theorem c102_44 : xT 102 44 = oAld 0 45 := rfl
theorem c102_45 : xT 102 45 = oGetp 9 0 48 := rfl
theorem c102_48 : xT 102 48 = oLen 20 49 := rfl
theorem c102_49 : xT 102 49 = oIcmp (fun x y => y ≤ x) 179 52 := rfl
theorem c102_52 : xT 102 52 = oAld 0 53 := rfl
theorem c102_53 : xT 102 53 = oGetp 9 0 56 := rfl
theorem c102_56 : xT 102 56 = oIld 4 58 := rfl
theorem c102_58 : xT 102 58 = oAldi 20 59 := rfl
theorem c102_59 : xT 102 59 = oIst 5 61 8 := rfl
theorem c102_61 : xT 102 61 = oIld 5 63 := rfl
theorem c102_63 : xT 102 63 = oPush (.int (10000)) 66 := rfl
theorem c102_66 : xT 102 66 = oIcmp (fun x y => x < y) 86 69 := rfl
theorem c102_69 : xT 102 69 = oAld 0 70 := rfl
theorem c102_70 : xT 102 70 = oIld 5 72 := rfl
theorem c102_72 : xT 102 72 = oPush (.int (10000)) 75 := rfl
theorem c102_75 : xT 102 75 = oBin (fun x y => x - y) 76 := rfl
theorem c102_76 : xT 102 76 = oAld 2 77 := rfl
theorem c102_77 : xT 102 77 = oCallS 103 2 80 := rfl
theorem c102_80 : xT 102 80 = oCallV 10 104 2 83 := rfl
theorem c102_83 : xT 102 83 = oGoto 173 := rfl
theorem c102_86 : xT 102 86 = oIld 5 88 := rfl
theorem c102_88 : xT 102 88 = oIf (fun x => x < 0) 100 91 := rfl
theorem c102_91 : xT 102 91 = oAld 0 92 := rfl
theorem c102_92 : xT 102 92 = oIld 5 94 := rfl
theorem c102_94 : xT 102 94 = oCallV 10 104 2 97 := rfl
theorem c102_97 : xT 102 97 = oGoto 173 := rfl
theorem c102_100 : xT 102 100 = oIld 5 102 := rfl
theorem c102_102 : xT 102 102 = oPush (.int (-204)) 105 := rfl
theorem c102_105 : xT 102 105 = oIcmp (fun x y => x = y) 108 127 := rfl
theorem c102_108 : xT 102 108 = oAld 0 109 := rfl
theorem c102_109 : xT 102 109 = oAld 0 110 := rfl
theorem c102_110 : xT 102 110 = oCallV 10 105 1 113 := rfl
theorem c102_113 : xT 102 113 = oIf (fun x => x = 0) 116 120 := rfl
theorem c102_116 : xT 102 116 = oPush (.int (1)) 117 := rfl
theorem c102_117 : xT 102 117 = oGoto 121 := rfl
theorem c102_120 : xT 102 120 = oPush (.int (0)) 121 := rfl
theorem c102_121 : xT 102 121 = oTr [0, 2, 3, 4] (oCallV 10 104 2 124) := rfl
theorem c102_124 : xT 102 124 = oGoto 173 := rfl
theorem c102_127 : xT 102 127 = oIld 5 129 := rfl
theorem c102_129 : xT 102 129 = oPush (.int (-300)) 132 := rfl
theorem c102_132 : xT 102 132 = oIcmp (fun x y => x = y) 135 147 := rfl
theorem c102_135 : xT 102 135 = oAld 0 136 := rfl
theorem c102_136 : xT 102 136 = oAld 0 137 := rfl
theorem c102_137 : xT 102 137 = oCallV 10 105 1 140 := rfl
theorem c102_140 : xT 102 140 = oUn (fun x => -x) 141 := rfl
theorem c102_141 : xT 102 141 = oCallV 10 104 2 144 := rfl
theorem c102_144 : xT 102 144 = oGoto 173 := rfl
theorem c102_147 : xT 102 147 = oAld 0 148 := rfl
theorem c102_148 : xT 102 148 = oCallV 10 105 1 151 := rfl
theorem c102_151 : xT 102 151 = oIst 6 153 8 := rfl
theorem c102_153 : xT 102 153 = oAld 0 154 := rfl
theorem c102_154 : xT 102 154 = oCallV 10 105 1 157 := rfl
theorem c102_157 : xT 102 157 = oIst 7 159 8 := rfl
theorem c102_159 : xT 102 159 = oAld 0 160 := rfl
theorem c102_160 : xT 102 160 = oIld 7 162 := rfl
theorem c102_162 : xT 102 162 = oIld 5 164 := rfl
theorem c102_164 : xT 102 164 = oUn (fun x => -x) 165 := rfl
theorem c102_165 : xT 102 165 = oIld 6 167 := rfl
theorem c102_167 : xT 102 167 = oCallS 106 3 170 := rfl
theorem c102_170 : xT 102 170 = oCallV 10 104 2 173 := rfl
theorem c102_173 : xT 102 173 = oTr [0, 2, 3, 4] (oIinc 4 (1) 176 8) := rfl
theorem c102_176 : xT 102 176 = oGoto 36 := rfl
theorem c102_179 : xT 102 179 = oTr [0] (oAld 0 180) := rfl
theorem c102_180 : xT 102 180 = oCallV 10 105 1 183 := rfl
theorem c102_183 : xT 102 183 = oRi (fun _ => True) := rfl
theorem c103_0 : xT 103 0 = oIld 0 1 := rfl
theorem c103_1 : xT 103 1 = oSw [(0, 36), (1, 44), (2, 49), (3, 54), (4, 59)] 64 := rfl
theorem c103_36 : xT 103 36 = oAld 1 37 := rfl
theorem c103_37 : xT 103 37 = oGetp 2 10 40 := rfl
theorem c103_40 : xT 103 40 = oGeti 4 4 43 := rfl
theorem c103_43 : xT 103 43 = oRi (fun _ => True) := rfl
theorem c103_44 : xT 103 44 = oAld 1 45 := rfl
theorem c103_45 : xT 103 45 = oGeti 2 4 48 := rfl
theorem c103_48 : xT 103 48 = oRi (fun _ => True) := rfl
theorem c103_49 : xT 103 49 = oAld 1 50 := rfl
theorem c103_50 : xT 103 50 = oGeti 2 2 53 := rfl
theorem c103_53 : xT 103 53 = oRi (fun _ => True) := rfl
theorem c103_54 : xT 103 54 = oAld 1 55 := rfl
theorem c103_55 : xT 103 55 = oGeti 2 3 58 := rfl
theorem c103_58 : xT 103 58 = oRi (fun _ => True) := rfl
theorem c103_59 : xT 103 59 = oAld 1 60 := rfl
theorem c103_60 : xT 103 60 = oGeti 2 13 63 := rfl
theorem c103_63 : xT 103 63 = oRi (fun _ => True) := rfl
theorem c103_64 : xT 103 64 = oAld 1 65 := rfl
theorem c103_65 : xT 103 65 = oGeti 2 0 68 := rfl
theorem c103_68 : xT 103 68 = oRi (fun _ => True) := rfl
theorem c104_0 : xT 104 0 = oAld 0 1 := rfl
theorem c104_1 : xT 104 1 = oGeti 9 3 4 := rfl
theorem c104_4 : xT 104 4 = oAld 0 5 := rfl
theorem c104_5 : xT 104 5 = oGetp 9 1 8 := rfl
theorem c104_8 : xT 104 8 = oLen 20 9 := rfl
theorem c104_9 : xT 104 9 = oIcmp (fun x y => y ≤ x) 32 12 := rfl
theorem c104_12 : xT 104 12 = oAld 0 13 := rfl
theorem c104_13 : xT 104 13 = oGetp 9 1 16 := rfl
theorem c104_16 : xT 104 16 = oAld 0 17 := rfl
theorem c104_17 : xT 104 17 = oGeti 9 3 20 := rfl
theorem c104_20 : xT 104 20 = oIld 1 21 := rfl
theorem c104_21 : xT 104 21 = oAsti 20 (fun x => x) 22 := rfl
theorem c104_22 : xT 104 22 = oAld 0 23 := rfl
theorem c104_23 : xT 104 23 = oDup 24 := rfl
theorem c104_24 : xT 104 24 = oGeti 9 3 27 := rfl
theorem c104_27 : xT 104 27 = oPush (.int (1)) 28 := rfl
theorem c104_28 : xT 104 28 = oBin (fun x y => x + y) 29 := rfl
theorem c104_29 : xT 104 29 = oPuti 9 3 32 := rfl
theorem c104_32 : xT 104 32 = oTr [] (oRv) := rfl
theorem c105_0 : xT 105 0 = oAld 0 1 := rfl
theorem c105_1 : xT 105 1 = oGeti 9 3 4 := rfl
theorem c105_4 : xT 105 4 = oPush (.int (1)) 5 := rfl
theorem c105_5 : xT 105 5 = oIcmp (fun x y => y ≤ x) 10 8 := rfl
theorem c105_8 : xT 105 8 = oPush (.int (0)) 9 := rfl
theorem c105_9 : xT 105 9 = oRi (fun _ => True) := rfl
theorem c105_10 : xT 105 10 = oAld 0 11 := rfl
theorem c105_11 : xT 105 11 = oDup 12 := rfl
theorem c105_12 : xT 105 12 = oGeti 9 3 15 := rfl
theorem c105_15 : xT 105 15 = oPush (.int (1)) 16 := rfl
theorem c105_16 : xT 105 16 = oBin (fun x y => x - y) 17 := rfl
theorem c105_17 : xT 105 17 = oPuti 9 3 20 := rfl
theorem c105_20 : xT 105 20 = oAld 0 21 := rfl
theorem c105_21 : xT 105 21 = oGetp 9 1 24 := rfl
theorem c105_24 : xT 105 24 = oAld 0 25 := rfl
theorem c105_25 : xT 105 25 = oGeti 9 3 28 := rfl
theorem c105_28 : xT 105 28 = oAldi 20 29 := rfl
theorem c105_29 : xT 105 29 = oRi (fun _ => True) := rfl
theorem c106_0 : xT 106 0 = oIld 1 1 := rfl
theorem c106_1 : xT 106 1 = oSw [(43, 110), (45, 114), (60, 88), (61, 99), (202, 60), (203, 74)] 118 := rfl
theorem c106_60 : xT 106 60 = oIld 0 61 := rfl
theorem c106_61 : xT 106 61 = oIf (fun x => x = 0) 64 68 := rfl
theorem c106_64 : xT 106 64 = oIld 2 65 := rfl
theorem c106_65 : xT 106 65 = oIf (fun x => x = 0) 72 68 := rfl
theorem c106_68 : xT 106 68 = oTr [] (oPush (.int (1)) 69) := rfl
theorem c106_69 : xT 106 69 = oGoto 73 := rfl
theorem c106_72 : xT 106 72 = oPush (.int (0)) 73 := rfl
theorem c106_73 : xT 106 73 = oTr [] (oRi (fun _ => True)) := rfl
theorem c106_74 : xT 106 74 = oIld 0 75 := rfl
theorem c106_75 : xT 106 75 = oIf (fun x => x = 0) 86 78 := rfl
theorem c106_78 : xT 106 78 = oIld 2 79 := rfl
theorem c106_79 : xT 106 79 = oIf (fun x => x = 0) 86 82 := rfl
theorem c106_82 : xT 106 82 = oPush (.int (1)) 83 := rfl
theorem c106_83 : xT 106 83 = oGoto 87 := rfl
theorem c106_86 : xT 106 86 = oTr [] (oPush (.int (0)) 87) := rfl
theorem c106_87 : xT 106 87 = oTr [] (oRi (fun _ => True)) := rfl
theorem c106_88 : xT 106 88 = oIld 0 89 := rfl
theorem c106_89 : xT 106 89 = oIld 2 90 := rfl
theorem c106_90 : xT 106 90 = oIcmp (fun x y => y ≤ x) 97 93 := rfl
theorem c106_93 : xT 106 93 = oPush (.int (1)) 94 := rfl
theorem c106_94 : xT 106 94 = oGoto 98 := rfl
theorem c106_97 : xT 106 97 = oPush (.int (0)) 98 := rfl
theorem c106_98 : xT 106 98 = oTr [] (oRi (fun _ => True)) := rfl
theorem c106_99 : xT 106 99 = oIld 0 100 := rfl
theorem c106_100 : xT 106 100 = oIld 2 101 := rfl
theorem c106_101 : xT 106 101 = oIcmp (fun x y => x = y) 104 108 := rfl
theorem c106_104 : xT 106 104 = oPush (.int (1)) 105 := rfl
theorem c106_105 : xT 106 105 = oGoto 109 := rfl
theorem c106_108 : xT 106 108 = oPush (.int (0)) 109 := rfl
theorem c106_109 : xT 106 109 = oTr [] (oRi (fun _ => True)) := rfl
theorem c106_110 : xT 106 110 = oIld 0 111 := rfl
theorem c106_111 : xT 106 111 = oIld 2 112 := rfl
theorem c106_112 : xT 106 112 = oBin (fun x y => x + y) 113 := rfl
theorem c106_113 : xT 106 113 = oRi (fun _ => True) := rfl
theorem c106_114 : xT 106 114 = oIld 0 115 := rfl
theorem c106_115 : xT 106 115 = oIld 2 116 := rfl
theorem c106_116 : xT 106 116 = oBin (fun x y => x - y) 117 := rfl
theorem c106_117 : xT 106 117 = oRi (fun _ => True) := rfl
theorem c106_118 : xT 106 118 = oIld 0 119 := rfl
theorem c106_119 : xT 106 119 = oIld 2 120 := rfl
theorem c106_120 : xT 106 120 = oBin (fun x y => x * y) 121 := rfl
theorem c106_121 : xT 106 121 = oRi (fun _ => True) := rfl
theorem c107_0 : xT 107 0 = oAld 0 1 := rfl
theorem c107_1 : xT 107 1 = oIld 1 2 := rfl
theorem c107_2 : xT 107 2 = oCallV 12 66 2 5 := rfl
theorem c107_5 : xT 107 5 = oAst 2 6 3 := rfl
theorem c107_6 : xT 107 6 = oAld 2 7 := rfl
theorem c107_7 : xT 107 7 = oIfn 10 13 := rfl
theorem c107_10 : xT 107 10 = oPush (.int (-2)) 12 := rfl
theorem c107_12 : xT 107 12 = oRi (fun _ => True) := rfl
theorem c107_13 : xT 107 13 = oAld 0 14 := rfl
theorem c107_14 : xT 107 14 = oGetz 11 15 17 := rfl
theorem c107_17 : xT 107 17 = oIfn 34 20 := rfl
theorem c107_20 : xT 107 20 = oAld 2 21 := rfl
theorem c107_21 : xT 107 21 = oAld 0 22 := rfl
theorem c107_22 : xT 107 22 = oGetz 11 15 25 := rfl
theorem c107_25 : xT 107 25 = oGetp 0 0 28 := rfl
theorem c107_28 : xT 107 28 = oCallV 3 68 2 31 := rfl
theorem c107_31 : xT 107 31 = oIf (fun x => x = 0) 34 37 := rfl
theorem c107_34 : xT 107 34 = oTr [] (oPush (.int (-3)) 36) := rfl
theorem c107_36 : xT 107 36 = oRi (fun _ => True) := rfl
theorem c107_37 : xT 107 37 = oAld 0 38 := rfl
theorem c107_38 : xT 107 38 = oAld 2 39 := rfl
theorem c107_39 : xT 107 39 = oCallV 12 108 2 42 := rfl
theorem c107_42 : xT 107 42 = oRi (fun _ => True) := rfl
theorem c108_0 : xT 108 0 = oAld 1 1 := rfl
theorem c108_1 : xT 108 1 = oGeti 2 15 4 := rfl
theorem c108_4 : xT 108 4 = oIf (fun x => x = 0) 7 23 := rfl
theorem c108_7 : xT 108 7 = oAld 1 8 := rfl
theorem c108_8 : xT 108 8 = oAld 0 9 := rfl
theorem c108_9 : xT 108 9 = oGetp 11 3 12 := rfl
theorem c108_12 : xT 108 12 = oAld 1 13 := rfl
theorem c108_13 : xT 108 13 = oAld 0 14 := rfl
theorem c108_14 : xT 108 14 = oGetz 11 15 17 := rfl
theorem c108_17 : xT 108 17 = oCallV 4 69 3 20 := rfl
theorem c108_20 : xT 108 20 = oPuti 2 15 23 := rfl
theorem c108_23 : xT 108 23 = oTr [1] (oAld 1 24) := rfl
theorem c108_24 : xT 108 24 = oGeti 2 15 27 := rfl
theorem c108_27 : xT 108 27 = oRi (fun _ => True) := rfl
theorem c109_0 : xT 109 0 = oIld 1 1 := rfl
theorem c109_1 : xT 109 1 = oIf (fun x => x < 0) 14 4 := rfl
theorem c109_4 : xT 109 4 = oIld 1 5 := rfl
theorem c109_5 : xT 109 5 = oPush (.int (1)) 6 := rfl
theorem c109_6 : xT 109 6 = oAld 0 7 := rfl
theorem c109_7 : xT 109 7 = oGeti 11 12 10 := rfl
theorem c109_10 : xT 109 10 = oBin (fun x y => x <<< (y &&& 31)) 11 := rfl
theorem c109_11 : xT 109 11 = oIcmp (fun x y => x < y) 17 14 := rfl
theorem c109_14 : xT 109 14 = oTr [] (oPush (.int (-2)) 16) := rfl
theorem c109_16 : xT 109 16 = oRi (fun _ => True) := rfl
theorem c109_17 : xT 109 17 = oAld 0 18 := rfl
theorem c109_18 : xT 109 18 = oGetz 11 15 21 := rfl
theorem c109_21 : xT 109 21 = oIfn 24 27 := rfl
theorem c109_24 : xT 109 24 = oPush (.int (-3)) 26 := rfl
theorem c109_26 : xT 109 26 = oRi (fun _ => True) := rfl
theorem c109_27 : xT 109 27 = oPush (.int (0)) 28 := rfl
theorem c109_28 : xT 109 28 = oIst 2 29 4 := rfl
theorem c109_29 : xT 109 29 = oTr [0, 1, 2] (oIld 2 30) := rfl
theorem c109_30 : xT 109 30 = oPush (.int (4)) 31 := rfl
theorem c109_31 : xT 109 31 = oIcmp (fun x y => y ≤ x) 74 34 := rfl
theorem c109_34 : xT 109 34 = oAld 0 35 := rfl
theorem c109_35 : xT 109 35 = oIld 2 36 := rfl
theorem c109_36 : xT 109 36 = oCallV 12 54 2 39 := rfl
theorem c109_39 : xT 109 39 = oAst 3 40 4 := rfl
theorem c109_40 : xT 109 40 = oAld 0 41 := rfl
theorem c109_41 : xT 109 41 = oGetp 11 4 44 := rfl
theorem c109_44 : xT 109 44 = oGetp 1 1 47 := rfl
theorem c109_47 : xT 109 47 = oIld 2 48 := rfl
theorem c109_48 : xT 109 48 = oAld 3 49 := rfl
theorem c109_49 : xT 109 49 = oIfn 66 52 := rfl
theorem c109_52 : xT 109 52 = oAld 3 53 := rfl
theorem c109_53 : xT 109 53 = oGeti 0 1 56 := rfl
theorem c109_56 : xT 109 56 = oIf (fun x => x = 0) 59 66 := rfl
theorem c109_59 : xT 109 59 = oAld 3 60 := rfl
theorem c109_60 : xT 109 60 = oGeti 0 2 63 := rfl
theorem c109_63 : xT 109 63 = oGoto 67 := rfl
theorem c109_66 : xT 109 66 = oTr [0, 1, 2] (oPush (.int (0)) 67) := rfl
theorem c109_67 : xT 109 67 = oTr [0, 1, 2] (oAsti 20 (fun x => x) 68) := rfl
theorem c109_68 : xT 109 68 = oIinc 2 (1) 71 4 := rfl
theorem c109_71 : xT 109 71 = oGoto 29 := rfl
theorem c109_74 : xT 109 74 = oPush (.int (0)) 75 := rfl
theorem c109_75 : xT 109 75 = oIst 2 76 4 := rfl
theorem c109_76 : xT 109 76 = oTr [0, 1, 2] (oIld 2 77) := rfl
theorem c109_77 : xT 109 77 = oPush (.int (8)) 79 := rfl
theorem c109_79 : xT 109 79 = oIcmp (fun x y => y ≤ x) 143 82 := rfl
theorem c109_82 : xT 109 82 = oIld 1 83 := rfl
theorem c109_83 : xT 109 83 = oIld 2 84 := rfl
theorem c109_84 : xT 109 84 = oBin (fun x y => x >>> (y &&& 31)) 85 := rfl
theorem c109_85 : xT 109 85 = oPush (.int (1)) 86 := rfl
theorem c109_86 : xT 109 86 = oBin (fun x y => x &&& y) 87 := rfl
theorem c109_87 : xT 109 87 = oPush (.int (1)) 88 := rfl
theorem c109_88 : xT 109 88 = oIcmp (fun x y => x = y) 91 99 := rfl
theorem c109_91 : xT 109 91 = oAld 0 92 := rfl
theorem c109_92 : xT 109 92 = oIld 2 93 := rfl
theorem c109_93 : xT 109 93 = oCallV 12 66 2 96 := rfl
theorem c109_96 : xT 109 96 = oGoto 100 := rfl
theorem c109_99 : xT 109 99 = oPush .null 100 := rfl
theorem c109_100 : xT 109 100 = oTr [0, 1, 2] (oAst 3 101 4) := rfl
theorem c109_101 : xT 109 101 = oAld 0 102 := rfl
theorem c109_102 : xT 109 102 = oGetp 11 4 105 := rfl
theorem c109_105 : xT 109 105 = oGetp 1 0 108 := rfl
theorem c109_108 : xT 109 108 = oIld 2 109 := rfl
theorem c109_109 : xT 109 109 = oAld 3 110 := rfl
theorem c109_110 : xT 109 110 = oIfn 135 113 := rfl
theorem c109_113 : xT 109 113 = oAld 3 114 := rfl
theorem c109_114 : xT 109 114 = oAld 0 115 := rfl
theorem c109_115 : xT 109 115 = oGetz 11 15 118 := rfl
theorem c109_118 : xT 109 118 = oGetp 0 0 121 := rfl
theorem c109_121 : xT 109 121 = oCallV 3 68 2 124 := rfl
theorem c109_124 : xT 109 124 = oIf (fun x => x = 0) 135 127 := rfl
theorem c109_127 : xT 109 127 = oAld 0 128 := rfl
theorem c109_128 : xT 109 128 = oAld 3 129 := rfl
theorem c109_129 : xT 109 129 = oCallV 12 108 2 132 := rfl
theorem c109_132 : xT 109 132 = oGoto 136 := rfl
theorem c109_135 : xT 109 135 = oTr [0, 1, 2] (oPush (.int (-1)) 136) := rfl
theorem c109_136 : xT 109 136 = oTr [0, 1, 2] (oAsti 20 (fun x => x) 137) := rfl
theorem c109_137 : xT 109 137 = oIinc 2 (1) 140 4 := rfl
theorem c109_140 : xT 109 140 = oGoto 76 := rfl
theorem c109_143 : xT 109 143 = oAld 0 144 := rfl
theorem c109_144 : xT 109 144 = oGetp 11 4 147 := rfl
theorem c109_147 : xT 109 147 = oCallV 2 110 1 150 := rfl
theorem c109_150 : xT 109 150 = oRi (fun _ => True) := rfl
theorem c110_0 : xT 110 0 = oAld 0 1 := rfl
theorem c110_1 : xT 110 1 = oPush (.int (-1)) 2 := rfl
theorem c110_2 : xT 110 2 = oPuti 1 4 5 := rfl
theorem c110_5 : xT 110 5 = oAld 0 6 := rfl
theorem c110_6 : xT 110 6 = oPush (.int (0)) 7 := rfl
theorem c110_7 : xT 110 7 = oPuti 1 5 10 := rfl
theorem c110_10 : xT 110 10 = oAld 0 11 := rfl
theorem c110_11 : xT 110 11 = oPush (.int (0)) 12 := rfl
theorem c110_12 : xT 110 12 = oPush (.int (0)) 13 := rfl
theorem c110_13 : xT 110 13 = oPush (.int (0)) 14 := rfl
theorem c110_14 : xT 110 14 = oCallV 2 111 4 17 := rfl
theorem c110_17 : xT 110 17 = oAld 0 18 := rfl
theorem c110_18 : xT 110 18 = oGeti 1 4 21 := rfl
theorem c110_21 : xT 110 21 = oRi (fun _ => True) := rfl
theorem c111_0 : xT 111 0 = oAld 0 1 := rfl
theorem c111_1 : xT 111 1 = oIld 2 2 := rfl
theorem c111_2 : xT 111 2 = oAld 0 3 := rfl
theorem c111_3 : xT 111 3 = oIld 1 4 := rfl
theorem c111_4 : xT 111 4 = oCallV 2 112 2 7 := rfl
theorem c111_7 : xT 111 7 = oBin (fun x y => x + y) 8 := rfl
theorem c111_8 : xT 111 8 = oIld 3 9 := rfl
theorem c111_9 : xT 111 9 = oCallV 2 113 3 12 := rfl
theorem c111_12 : xT 111 12 = oIf (fun x => x = 0) 15 16 := rfl
theorem c111_15 : xT 111 15 = oRv := rfl
theorem c111_16 : xT 111 16 = oIld 1 17 := rfl
theorem c111_17 : xT 111 17 = oPush (.int (8)) 19 := rfl
theorem c111_19 : xT 111 19 = oIcmp (fun x y => x < y) 51 22 := rfl
theorem c111_22 : xT 111 22 = oAld 0 23 := rfl
theorem c111_23 : xT 111 23 = oIld 2 24 := rfl
theorem c111_24 : xT 111 24 = oPuti 1 4 27 := rfl
theorem c111_27 : xT 111 27 = oAld 0 28 := rfl
theorem c111_28 : xT 111 28 = oIld 3 29 := rfl
theorem c111_29 : xT 111 29 = oCallS 114 1 32 := rfl
theorem c111_32 : xT 111 32 = oPuti 1 5 35 := rfl
theorem c111_35 : xT 111 35 = oAld 0 36 := rfl
theorem c111_36 : xT 111 36 = oGetp 1 3 39 := rfl
theorem c111_39 : xT 111 39 = oPush (.int (0)) 40 := rfl
theorem c111_40 : xT 111 40 = oAld 0 41 := rfl
theorem c111_41 : xT 111 41 = oGetp 1 2 44 := rfl
theorem c111_44 : xT 111 44 = oPush (.int (0)) 45 := rfl
theorem c111_45 : xT 111 45 = oPush (.int (8)) 47 := rfl
theorem c111_47 : xT 111 47 = oCopy 50 := rfl
theorem c111_50 : xT 111 50 = oRv := rfl
theorem c111_51 : xT 111 51 = oAld 0 52 := rfl
theorem c111_52 : xT 111 52 = oGetp 1 0 55 := rfl
theorem c111_55 : xT 111 55 = oIld 1 56 := rfl
theorem c111_56 : xT 111 56 = oAldi 20 57 := rfl
theorem c111_57 : xT 111 57 = oIst 4 59 6 := rfl
theorem c111_59 : xT 111 59 = oPush (.int (0)) 60 := rfl
theorem c111_60 : xT 111 60 = oIst 5 62 6 := rfl
theorem c111_62 : xT 111 62 = oTr [0, 1, 2, 3, 4, 5] (oIld 5 64) := rfl
theorem c111_64 : xT 111 64 = oPush (.int (4)) 65 := rfl
theorem c111_65 : xT 111 65 = oIcmp (fun x y => y ≤ x) 140 68 := rfl
theorem c111_68 : xT 111 68 = oIld 4 70 := rfl
theorem c111_70 : xT 111 70 = oPush (.int (-1)) 71 := rfl
theorem c111_71 : xT 111 71 = oIcmp (fun x y => x = y) 140 74 := rfl
theorem c111_74 : xT 111 74 = oIld 4 76 := rfl
theorem c111_76 : xT 111 76 = oAld 0 77 := rfl
theorem c111_77 : xT 111 77 = oGetp 1 1 80 := rfl
theorem c111_80 : xT 111 80 = oIld 5 82 := rfl
theorem c111_82 : xT 111 82 = oAldi 20 83 := rfl
theorem c111_83 : xT 111 83 = oIcmp (fun x y => y < x) 134 86 := rfl
theorem c111_86 : xT 111 86 = oAld 0 87 := rfl
theorem c111_87 : xT 111 87 = oGetp 1 1 90 := rfl
theorem c111_90 : xT 111 90 = oIld 5 92 := rfl
theorem c111_92 : xT 111 92 = oDup2 93 := rfl
theorem c111_93 : xT 111 93 = oAldi 20 94 := rfl
theorem c111_94 : xT 111 94 = oIld 4 96 := rfl
theorem c111_96 : xT 111 96 = oBin (fun x y => x - y) 97 := rfl
theorem c111_97 : xT 111 97 = oAsti 20 (fun x => x) 98 := rfl
theorem c111_98 : xT 111 98 = oAld 0 99 := rfl
theorem c111_99 : xT 111 99 = oGetp 1 3 102 := rfl
theorem c111_102 : xT 111 102 = oIld 1 103 := rfl
theorem c111_103 : xT 111 103 = oIld 5 105 := rfl
theorem c111_105 : xT 111 105 = oAsti 20 (fun x => x) 106 := rfl
theorem c111_106 : xT 111 106 = oAld 0 107 := rfl
theorem c111_107 : xT 111 107 = oIld 1 108 := rfl
theorem c111_108 : xT 111 108 = oPush (.int (1)) 109 := rfl
theorem c111_109 : xT 111 109 = oBin (fun x y => x + y) 110 := rfl
theorem c111_110 : xT 111 110 = oIld 2 111 := rfl
theorem c111_111 : xT 111 111 = oPush (.int (1)) 112 := rfl
theorem c111_112 : xT 111 112 = oBin (fun x y => x + y) 113 := rfl
theorem c111_113 : xT 111 113 = oIld 3 114 := rfl
theorem c111_114 : xT 111 114 = oPush (.int (1)) 115 := rfl
theorem c111_115 : xT 111 115 = oIld 5 117 := rfl
theorem c111_117 : xT 111 117 = oBin (fun x y => x <<< (y &&& 31)) 118 := rfl
theorem c111_118 : xT 111 118 = oBin (fun x y => x ||| y) 119 := rfl
theorem c111_119 : xT 111 119 = oCallV 2 111 4 122 := rfl
theorem c111_122 : xT 111 122 = oAld 0 123 := rfl
theorem c111_123 : xT 111 123 = oGetp 1 1 126 := rfl
theorem c111_126 : xT 111 126 = oIld 5 128 := rfl
theorem c111_128 : xT 111 128 = oDup2 129 := rfl
theorem c111_129 : xT 111 129 = oAldi 20 130 := rfl
theorem c111_130 : xT 111 130 = oIld 4 132 := rfl
theorem c111_132 : xT 111 132 = oBin (fun x y => x + y) 133 := rfl
theorem c111_133 : xT 111 133 = oAsti 20 (fun x => x) 134 := rfl
theorem c111_134 : xT 111 134 = oTr [0, 1, 2, 3, 4, 5] (oIinc 5 (1) 137 6) := rfl
theorem c111_137 : xT 111 137 = oGoto 62 := rfl
theorem c111_140 : xT 111 140 = oTr [0, 1, 2, 3] (oAld 0 141) := rfl
theorem c111_141 : xT 111 141 = oGetp 1 3 144 := rfl
theorem c111_144 : xT 111 144 = oIld 1 145 := rfl
theorem c111_145 : xT 111 145 = oPush (.int (-1)) 146 := rfl
theorem c111_146 : xT 111 146 = oAsti 20 (fun x => x) 147 := rfl
theorem c111_147 : xT 111 147 = oAld 0 148 := rfl
theorem c111_148 : xT 111 148 = oIld 1 149 := rfl
theorem c111_149 : xT 111 149 = oPush (.int (1)) 150 := rfl
theorem c111_150 : xT 111 150 = oBin (fun x y => x + y) 151 := rfl
theorem c111_151 : xT 111 151 = oIld 2 152 := rfl
theorem c111_152 : xT 111 152 = oIld 3 153 := rfl
theorem c111_153 : xT 111 153 = oCallV 2 111 4 156 := rfl
theorem c111_156 : xT 111 156 = oRv := rfl
theorem c112_0 : xT 112 0 = oPush (.int (0)) 1 := rfl
theorem c112_1 : xT 112 1 = oIst 2 2 5 := rfl
theorem c112_2 : xT 112 2 = oPush (.int (0)) 3 := rfl
theorem c112_3 : xT 112 3 = oIst 3 4 5 := rfl
theorem c112_4 : xT 112 4 = oTr [0, 1, 2, 3] (oIld 3 5) := rfl
theorem c112_5 : xT 112 5 = oPush (.int (4)) 6 := rfl
theorem c112_6 : xT 112 6 = oIcmp (fun x y => y ≤ x) 26 9 := rfl
theorem c112_9 : xT 112 9 = oIld 2 10 := rfl
theorem c112_10 : xT 112 10 = oAld 0 11 := rfl
theorem c112_11 : xT 112 11 = oGetp 1 1 14 := rfl
theorem c112_14 : xT 112 14 = oIld 3 15 := rfl
theorem c112_15 : xT 112 15 = oAldi 20 16 := rfl
theorem c112_16 : xT 112 16 = oCallS 61 2 19 := rfl
theorem c112_19 : xT 112 19 = oIst 2 20 5 := rfl
theorem c112_20 : xT 112 20 = oIinc 3 (1) 23 5 := rfl
theorem c112_23 : xT 112 23 = oGoto 4 := rfl
theorem c112_26 : xT 112 26 = oPush (.int (0)) 27 := rfl
theorem c112_27 : xT 112 27 = oIst 3 28 5 := rfl
theorem c112_28 : xT 112 28 = oIld 1 29 := rfl
theorem c112_29 : xT 112 29 = oIst 4 31 5 := rfl
theorem c112_31 : xT 112 31 = oTr [0, 2, 3, 4] (oIld 4 33) := rfl
theorem c112_33 : xT 112 33 = oPush (.int (8)) 35 := rfl
theorem c112_35 : xT 112 35 = oIcmp (fun x y => y ≤ x) 69 38 := rfl
theorem c112_38 : xT 112 38 = oAld 0 39 := rfl
theorem c112_39 : xT 112 39 = oGetp 1 0 42 := rfl
theorem c112_42 : xT 112 42 = oIld 4 44 := rfl
theorem c112_44 : xT 112 44 = oAldi 20 45 := rfl
theorem c112_45 : xT 112 45 = oPush (.int (-1)) 46 := rfl
theorem c112_46 : xT 112 46 = oIcmp (fun x y => x = y) 63 49 := rfl
theorem c112_49 : xT 112 49 = oAld 0 50 := rfl
theorem c112_50 : xT 112 50 = oGetp 1 0 53 := rfl
theorem c112_53 : xT 112 53 = oIld 4 55 := rfl
theorem c112_55 : xT 112 55 = oAldi 20 56 := rfl
theorem c112_56 : xT 112 56 = oIld 2 57 := rfl
theorem c112_57 : xT 112 57 = oIcmp (fun x y => y < x) 63 60 := rfl
theorem c112_60 : xT 112 60 = oIinc 3 (1) 63 5 := rfl
theorem c112_63 : xT 112 63 = oTr [0, 2, 3, 4] (oIinc 4 (1) 66 5) := rfl
theorem c112_66 : xT 112 66 = oGoto 31 := rfl
theorem c112_69 : xT 112 69 = oIld 3 70 := rfl
theorem c112_70 : xT 112 70 = oRi (fun _ => True) := rfl
theorem c113_0 : xT 113 0 = oIld 1 1 := rfl
theorem c113_1 : xT 113 1 = oAld 0 2 := rfl
theorem c113_2 : xT 113 2 = oGeti 1 4 5 := rfl
theorem c113_5 : xT 113 5 = oIcmp (fun x y => y < x) 27 8 := rfl
theorem c113_8 : xT 113 8 = oIld 1 9 := rfl
theorem c113_9 : xT 113 9 = oAld 0 10 := rfl
theorem c113_10 : xT 113 10 = oGeti 1 4 13 := rfl
theorem c113_13 : xT 113 13 = oIcmp (fun x y => x = y) 16 31 := rfl
theorem c113_16 : xT 113 16 = oIld 2 17 := rfl
theorem c113_17 : xT 113 17 = oCallS 114 1 20 := rfl
theorem c113_20 : xT 113 20 = oAld 0 21 := rfl
theorem c113_21 : xT 113 21 = oGeti 1 5 24 := rfl
theorem c113_24 : xT 113 24 = oIcmp (fun x y => y ≤ x) 31 27 := rfl
theorem c113_27 : xT 113 27 = oTr [] (oPush (.int (1)) 28) := rfl
theorem c113_28 : xT 113 28 = oGoto 32 := rfl
theorem c113_31 : xT 113 31 = oTr [] (oPush (.int (0)) 32) := rfl
theorem c113_32 : xT 113 32 = oTr [] (oRi (fun x => x = 0 ∨ x = 1)) := rfl
theorem c114_0 : xT 114 0 = oIld 0 1 := rfl
theorem c114_1 : xT 114 1 = oIld 0 2 := rfl
theorem c114_2 : xT 114 2 = oPush (.int (1)) 3 := rfl
theorem c114_3 : xT 114 3 = oBin (fun x y => (x.toUInt32 >>> (y.toUInt32 &&& Int32.toUInt32 31)).toInt32) 4 := rfl
theorem c114_4 : xT 114 4 = oPush (.int (1431655765)) 7 := rfl
theorem c114_7 : xT 114 7 = oBin (fun x y => x &&& y) 8 := rfl
theorem c114_8 : xT 114 8 = oBin (fun x y => x - y) 9 := rfl
theorem c114_9 : xT 114 9 = oIst 0 10 1 := rfl
theorem c114_10 : xT 114 10 = oIld 0 11 := rfl
theorem c114_11 : xT 114 11 = oPush (.int (858993459)) 14 := rfl
theorem c114_14 : xT 114 14 = oBin (fun x y => x &&& y) 15 := rfl
theorem c114_15 : xT 114 15 = oIld 0 16 := rfl
theorem c114_16 : xT 114 16 = oPush (.int (2)) 17 := rfl
theorem c114_17 : xT 114 17 = oBin (fun x y => (x.toUInt32 >>> (y.toUInt32 &&& Int32.toUInt32 31)).toInt32) 18 := rfl
theorem c114_18 : xT 114 18 = oPush (.int (858993459)) 21 := rfl
theorem c114_21 : xT 114 21 = oBin (fun x y => x &&& y) 22 := rfl
theorem c114_22 : xT 114 22 = oBin (fun x y => x + y) 23 := rfl
theorem c114_23 : xT 114 23 = oIst 0 24 1 := rfl
theorem c114_24 : xT 114 24 = oIld 0 25 := rfl
theorem c114_25 : xT 114 25 = oIld 0 26 := rfl
theorem c114_26 : xT 114 26 = oPush (.int (4)) 27 := rfl
theorem c114_27 : xT 114 27 = oBin (fun x y => (x.toUInt32 >>> (y.toUInt32 &&& Int32.toUInt32 31)).toInt32) 28 := rfl
theorem c114_28 : xT 114 28 = oBin (fun x y => x + y) 29 := rfl
theorem c114_29 : xT 114 29 = oPush (.int (252645135)) 32 := rfl
theorem c114_32 : xT 114 32 = oBin (fun x y => x &&& y) 33 := rfl
theorem c114_33 : xT 114 33 = oIst 0 34 1 := rfl
theorem c114_34 : xT 114 34 = oIld 0 35 := rfl
theorem c114_35 : xT 114 35 = oIld 0 36 := rfl
theorem c114_36 : xT 114 36 = oPush (.int (8)) 38 := rfl
theorem c114_38 : xT 114 38 = oBin (fun x y => (x.toUInt32 >>> (y.toUInt32 &&& Int32.toUInt32 31)).toInt32) 39 := rfl
theorem c114_39 : xT 114 39 = oBin (fun x y => x + y) 40 := rfl
theorem c114_40 : xT 114 40 = oIst 0 41 1 := rfl
theorem c114_41 : xT 114 41 = oIld 0 42 := rfl
theorem c114_42 : xT 114 42 = oIld 0 43 := rfl
theorem c114_43 : xT 114 43 = oPush (.int (16)) 45 := rfl
theorem c114_45 : xT 114 45 = oBin (fun x y => (x.toUInt32 >>> (y.toUInt32 &&& Int32.toUInt32 31)).toInt32) 46 := rfl
theorem c114_46 : xT 114 46 = oBin (fun x y => x + y) 47 := rfl
theorem c114_47 : xT 114 47 = oIst 0 48 1 := rfl
theorem c114_48 : xT 114 48 = oIld 0 49 := rfl
theorem c114_49 : xT 114 49 = oPush (.int (63)) 51 := rfl
theorem c114_51 : xT 114 51 = oBin (fun x y => x &&& y) 52 := rfl
theorem c114_52 : xT 114 52 = oRi (fun _ => True) := rfl
theorem c115_0 : xT 115 0 = oIld 1 1 := rfl
theorem c115_1 : xT 115 1 = oIf (fun x => x < 0) 10 4 := rfl
theorem c115_4 : xT 115 4 = oIld 1 5 := rfl
theorem c115_5 : xT 115 5 = oPush (.int (8)) 7 := rfl
theorem c115_7 : xT 115 7 = oIcmp (fun x y => x < y) 14 10 := rfl
theorem c115_10 : xT 115 10 = oTr [] (oPush (.int (-1)) 11) := rfl
theorem c115_11 : xT 115 11 = oGoto 23 := rfl
theorem c115_14 : xT 115 14 = oAld 0 15 := rfl
theorem c115_15 : xT 115 15 = oGetp 11 4 18 := rfl
theorem c115_18 : xT 115 18 = oGetp 1 2 21 := rfl
theorem c115_21 : xT 115 21 = oIld 1 22 := rfl
theorem c115_22 : xT 115 22 = oAldi 20 23 := rfl
theorem c115_23 : xT 115 23 = oTr [] (oRi (fun _ => True)) := rfl
theorem c116_0 : xT 116 0 = oIld 1 1 := rfl
theorem c116_1 : xT 116 1 = oSw [(0, 44), (1, 49), (2, 54), (3, 59), (4, 64), (5, 72), (6, 77)] 82 := rfl
theorem c116_44 : xT 116 44 = oAld 0 45 := rfl
theorem c116_45 : xT 116 45 = oGeti 11 10 48 := rfl
theorem c116_48 : xT 116 48 = oRi (fun _ => True) := rfl
theorem c116_49 : xT 116 49 = oAld 0 50 := rfl
theorem c116_50 : xT 116 50 = oGeti 11 11 53 := rfl
theorem c116_53 : xT 116 53 = oRi (fun _ => True) := rfl
theorem c116_54 : xT 116 54 = oAld 0 55 := rfl
theorem c116_55 : xT 116 55 = oGeti 11 12 58 := rfl
theorem c116_58 : xT 116 58 = oRi (fun _ => True) := rfl
theorem c116_59 : xT 116 59 = oAld 0 60 := rfl
theorem c116_60 : xT 116 60 = oGeti 11 13 63 := rfl
theorem c116_63 : xT 116 63 = oRi (fun _ => True) := rfl
theorem c116_64 : xT 116 64 = oAld 0 65 := rfl
theorem c116_65 : xT 116 65 = oGetp 11 0 68 := rfl
theorem c116_68 : xT 116 68 = oGeti 8 1 71 := rfl
theorem c116_71 : xT 116 71 = oRi (fun _ => True) := rfl
theorem c116_72 : xT 116 72 = oAld 0 73 := rfl
theorem c116_73 : xT 116 73 = oGeti 11 14 76 := rfl
theorem c116_76 : xT 116 76 = oRi (fun _ => True) := rfl
theorem c116_77 : xT 116 77 = oAld 0 78 := rfl
theorem c116_78 : xT 116 78 = oCallV 12 117 1 81 := rfl
theorem c116_81 : xT 116 81 = oRi (fun _ => True) := rfl
theorem c116_82 : xT 116 82 = oPush (.int (-2)) 84 := rfl
theorem c116_84 : xT 116 84 = oRi (fun _ => True) := rfl
theorem c117_0 : xT 117 0 = oPush (.int (0)) 1 := rfl
theorem c117_1 : xT 117 1 = oIst 1 2 4 := rfl
theorem c117_2 : xT 117 2 = oPush (.int (0)) 3 := rfl
theorem c117_3 : xT 117 3 = oIst 2 4 4 := rfl
theorem c117_4 : xT 117 4 = oTr [0, 1, 2] (oIld 2 5) := rfl
theorem c117_5 : xT 117 5 = oAld 0 6 := rfl
theorem c117_6 : xT 117 6 = oGeti 11 12 9 := rfl
theorem c117_9 : xT 117 9 = oIcmp (fun x y => y ≤ x) 38 12 := rfl
theorem c117_12 : xT 117 12 = oAld 0 13 := rfl
theorem c117_13 : xT 117 13 = oIld 2 14 := rfl
theorem c117_14 : xT 117 14 = oCallV 12 66 2 17 := rfl
theorem c117_17 : xT 117 17 = oAst 3 18 4 := rfl
theorem c117_18 : xT 117 18 = oAld 3 19 := rfl
theorem c117_19 : xT 117 19 = oIfn 32 22 := rfl
theorem c117_22 : xT 117 22 = oAld 3 23 := rfl
theorem c117_23 : xT 117 23 = oGetz 2 11 26 := rfl
theorem c117_26 : xT 117 26 = oIfn 32 29 := rfl
theorem c117_29 : xT 117 29 = oIinc 1 (1) 32 4 := rfl
theorem c117_32 : xT 117 32 = oTr [0, 1, 2] (oIinc 2 (1) 35 4) := rfl
theorem c117_35 : xT 117 35 = oGoto 4 := rfl
theorem c117_38 : xT 117 38 = oIld 1 39 := rfl
theorem c117_39 : xT 117 39 = oRi (fun _ => True) := rfl
theorem c118_0 : xT 118 0 = oAld 0 1 := rfl
theorem c118_1 : xT 118 1 = oIld 1 2 := rfl
theorem c118_2 : xT 118 2 = oCallV 12 119 2 5 := rfl
theorem c118_5 : xT 118 5 = oAst 4 7 5 := rfl
theorem c118_7 : xT 118 7 = oAld 4 9 := rfl
theorem c118_9 : xT 118 9 = oIfn 22 12 := rfl
theorem c118_12 : xT 118 12 = oIld 2 13 := rfl
theorem c118_13 : xT 118 13 = oPush (.int (-1)) 14 := rfl
theorem c118_14 : xT 118 14 = oIcmp (fun x y => x < y) 22 17 := rfl
theorem c118_17 : xT 118 17 = oIld 2 18 := rfl
theorem c118_18 : xT 118 18 = oPush (.int (2)) 19 := rfl
theorem c118_19 : xT 118 19 = oIcmp (fun x y => x ≤ y) 25 22 := rfl
theorem c118_22 : xT 118 22 = oTr [] (oPush (.int (-2)) 24) := rfl
theorem c118_24 : xT 118 24 = oRi (fun _ => True) := rfl
theorem c118_25 : xT 118 25 = oIld 2 26 := rfl
theorem c118_26 : xT 118 26 = oPush (.int (-1)) 27 := rfl
theorem c118_27 : xT 118 27 = oIcmp (fun x y => x = y) 30 38 := rfl
theorem c118_30 : xT 118 30 = oAld 4 32 := rfl
theorem c118_32 : xT 118 32 = oPush (.int (-1)) 33 := rfl
theorem c118_33 : xT 118 33 = oPuti 7 1 36 := rfl
theorem c118_36 : xT 118 36 = oPush (.int (1)) 37 := rfl
theorem c118_37 : xT 118 37 = oRi (fun _ => True) := rfl
theorem c118_38 : xT 118 38 = oIld 3 39 := rfl
theorem c118_39 : xT 118 39 = oPush (.int (40)) 41 := rfl
theorem c118_41 : xT 118 41 = oIcmp (fun x y => x ≤ y) 47 44 := rfl
theorem c118_44 : xT 118 44 = oPush (.int (-2)) 46 := rfl
theorem c118_46 : xT 118 46 = oRi (fun _ => True) := rfl
theorem c118_47 : xT 118 47 = oIld 3 48 := rfl
theorem c118_48 : xT 118 48 = oIf (fun x => 0 ≤ x) 54 51 := rfl
theorem c118_51 : xT 118 51 = oPush (.int (-14)) 53 := rfl
theorem c118_53 : xT 118 53 = oRi (fun _ => True) := rfl
theorem c118_54 : xT 118 54 = oAld 4 56 := rfl
theorem c118_56 : xT 118 56 = oIld 2 57 := rfl
theorem c118_57 : xT 118 57 = oIld 3 58 := rfl
theorem c118_58 : xT 118 58 = oCallV 8 120 3 61 := rfl
theorem c118_61 : xT 118 61 = oPush (.int (1)) 62 := rfl
theorem c118_62 : xT 118 62 = oRi (fun _ => True) := rfl
theorem c119_0 : xT 119 0 = oIld 1 1 := rfl
theorem c119_1 : xT 119 1 = oIf (fun x => x < 0) 9 4 := rfl
theorem c119_4 : xT 119 4 = oIld 1 5 := rfl
theorem c119_5 : xT 119 5 = oPush (.int (4)) 6 := rfl
theorem c119_6 : xT 119 6 = oIcmp (fun x y => x < y) 13 9 := rfl
theorem c119_9 : xT 119 9 = oTr [] (oPush .null 10) := rfl
theorem c119_10 : xT 119 10 = oGoto 19 := rfl
theorem c119_13 : xT 119 13 = oAld 0 14 := rfl
theorem c119_14 : xT 119 14 = oGetp 11 9 17 := rfl
theorem c119_17 : xT 119 17 = oIld 1 18 := rfl
theorem c119_18 : xT 119 18 = oAldp 27 19 := rfl
theorem c119_19 : xT 119 19 = oTr [] (oRa) := rfl
theorem c120_0 : xT 120 0 = oAld 0 1 := rfl
theorem c120_1 : xT 120 1 = oIld 1 2 := rfl
theorem c120_2 : xT 120 2 = oPuti 7 1 5 := rfl
theorem c120_5 : xT 120 5 = oAld 0 6 := rfl
theorem c120_6 : xT 120 6 = oIld 2 7 := rfl
theorem c120_7 : xT 120 7 = oPuti 7 2 10 := rfl
theorem c120_10 : xT 120 10 = oAld 0 11 := rfl
theorem c120_11 : xT 120 11 = oGetp 7 0 14 := rfl
theorem c120_14 : xT 120 14 = oPush (.int (0)) 15 := rfl
theorem c120_15 : xT 120 15 = oCallS 6 2 18 := rfl
theorem c120_18 : xT 120 18 = oRv := rfl
theorem c121_0 : xT 121 0 = oAld 0 1 := rfl
theorem c121_1 : xT 121 1 = oIld 1 2 := rfl
theorem c121_2 : xT 121 2 = oCallV 12 119 2 5 := rfl
theorem c121_5 : xT 121 5 = oAst 4 7 5 := rfl
theorem c121_7 : xT 121 7 = oAld 4 9 := rfl
theorem c121_9 : xT 121 9 = oIfn 12 15 := rfl
theorem c121_12 : xT 121 12 = oPush (.int (-2)) 14 := rfl
theorem c121_14 : xT 121 14 = oRi (fun _ => True) := rfl
theorem c121_15 : xT 121 15 = oAld 4 17 := rfl
theorem c121_17 : xT 121 17 = oGeti 7 1 20 := rfl
theorem c121_20 : xT 121 20 = oPush (.int (-1)) 21 := rfl
theorem c121_21 : xT 121 21 = oIcmp (fun x y => x = y) 24 27 := rfl
theorem c121_24 : xT 121 24 = oPush (.int (-11)) 26 := rfl
theorem c121_26 : xT 121 26 = oRi (fun _ => True) := rfl
theorem c121_27 : xT 121 27 = oAld 4 29 := rfl
theorem c121_29 : xT 121 29 = oIld 2 30 := rfl
theorem c121_30 : xT 121 30 = oCallV 8 122 2 33 := rfl
theorem c121_33 : xT 121 33 = oIf (fun x => x = 0) 36 39 := rfl
theorem c121_36 : xT 121 36 = oPush (.int (-12)) 38 := rfl
theorem c121_38 : xT 121 38 = oRi (fun _ => True) := rfl
theorem c121_39 : xT 121 39 = oAld 4 41 := rfl
theorem c121_41 : xT 121 41 = oGetp 7 0 44 := rfl
theorem c121_44 : xT 121 44 = oIld 2 45 := rfl
theorem c121_45 : xT 121 45 = oAld 4 47 := rfl
theorem c121_47 : xT 121 47 = oIld 3 48 := rfl
theorem c121_48 : xT 121 48 = oCallV 8 123 2 51 := rfl
theorem c121_51 : xT 121 51 = oAsti 20 (fun x => x) 52 := rfl
theorem c121_52 : xT 121 52 = oPush (.int (1)) 53 := rfl
theorem c121_53 : xT 121 53 = oRi (fun _ => True) := rfl
theorem c122_0 : xT 122 0 = oIld 1 1 := rfl
theorem c122_1 : xT 122 1 = oIf (fun x => x < 0) 22 4 := rfl
theorem c122_4 : xT 122 4 = oIld 1 5 := rfl
theorem c122_5 : xT 122 5 = oAld 0 6 := rfl
theorem c122_6 : xT 122 6 = oGeti 7 2 9 := rfl
theorem c122_9 : xT 122 9 = oIcmp (fun x y => y ≤ x) 22 12 := rfl
theorem c122_12 : xT 122 12 = oIld 1 13 := rfl
theorem c122_13 : xT 122 13 = oPush (.int (40)) 15 := rfl
theorem c122_15 : xT 122 15 = oIcmp (fun x y => y ≤ x) 22 18 := rfl
theorem c122_18 : xT 122 18 = oPush (.int (1)) 19 := rfl
theorem c122_19 : xT 122 19 = oGoto 23 := rfl
theorem c122_22 : xT 122 22 = oTr [] (oPush (.int (0)) 23) := rfl
theorem c122_23 : xT 122 23 = oTr [] (oRi (fun x => x = 0 ∨ x = 1)) := rfl
theorem c123_0 : xT 123 0 = oAld 0 1 := rfl
theorem c123_1 : xT 123 1 = oGeti 7 1 4 := rfl
theorem c123_4 : xT 123 4 = oIf (fun x => x = 0) 7 10 := rfl
theorem c123_7 : xT 123 7 = oIld 1 8 := rfl
theorem c123_8 : xT 123 8 = oUn (fun x => x.toInt8.toInt32) 9 := rfl
theorem c123_9 : xT 123 9 = oRi (fun _ => True) := rfl
theorem c123_10 : xT 123 10 = oAld 0 11 := rfl
theorem c123_11 : xT 123 11 = oGeti 7 1 14 := rfl
theorem c123_14 : xT 123 14 = oPush (.int (1)) 15 := rfl
theorem c123_15 : xT 123 15 = oIcmp (fun x y => x = y) 18 23 := rfl
theorem c123_18 : xT 123 18 = oIld 1 19 := rfl
theorem c123_19 : xT 123 19 = oUn (fun x => x.toInt16.toInt32) 20 := rfl
theorem c123_20 : xT 123 20 = oGoto 24 := rfl
theorem c123_23 : xT 123 23 = oIld 1 24 := rfl
theorem c123_24 : xT 123 24 = oTr [] (oRi (fun _ => True)) := rfl
theorem c124_0 : xT 124 0 = oAld 0 1 := rfl
theorem c124_1 : xT 124 1 = oIld 1 2 := rfl
theorem c124_2 : xT 124 2 = oCallV 12 54 2 5 := rfl
theorem c124_5 : xT 124 5 = oAst 6 7 10 := rfl
theorem c124_7 : xT 124 7 = oAld 0 8 := rfl
theorem c124_8 : xT 124 8 = oIld 2 9 := rfl
theorem c124_9 : xT 124 9 = oCallV 12 119 2 12 := rfl
theorem c124_12 : xT 124 12 = oAst 7 14 10 := rfl
theorem c124_14 : xT 124 14 = oAld 6 16 := rfl
theorem c124_16 : xT 124 16 = oIfn 45 19 := rfl
theorem c124_19 : xT 124 19 = oAld 7 21 := rfl
theorem c124_21 : xT 124 21 = oIfn 45 24 := rfl
theorem c124_24 : xT 124 24 = oIld 3 25 := rfl
theorem c124_25 : xT 124 25 = oIf (fun x => x < 0) 45 28 := rfl
theorem c124_28 : xT 124 28 = oIld 3 29 := rfl
theorem c124_29 : xT 124 29 = oPush (.int (2)) 30 := rfl
theorem c124_30 : xT 124 30 = oIcmp (fun x y => y < x) 45 33 := rfl
theorem c124_33 : xT 124 33 = oIld 5 35 := rfl
theorem c124_35 : xT 124 35 = oIf (fun x => x < 0) 45 38 := rfl
theorem c124_38 : xT 124 38 = oIld 5 40 := rfl
theorem c124_40 : xT 124 40 = oPush (.int (20)) 42 := rfl
theorem c124_42 : xT 124 42 = oIcmp (fun x y => x ≤ y) 48 45 := rfl
theorem c124_45 : xT 124 45 = oTr [] (oPush (.int (-2)) 47) := rfl
theorem c124_47 : xT 124 47 = oRi (fun _ => True) := rfl
theorem c124_48 : xT 124 48 = oAld 7 50 := rfl
theorem c124_50 : xT 124 50 = oGeti 7 1 53 := rfl
theorem c124_53 : xT 124 53 = oPush (.int (-1)) 54 := rfl
theorem c124_54 : xT 124 54 = oIcmp (fun x y => x = y) 57 60 := rfl
theorem c124_57 : xT 124 57 = oPush (.int (-11)) 59 := rfl
theorem c124_59 : xT 124 59 = oRi (fun _ => True) := rfl
theorem c124_60 : xT 124 60 = oAld 7 62 := rfl
theorem c124_62 : xT 124 62 = oGeti 7 1 65 := rfl
theorem c124_65 : xT 124 65 = oIld 3 66 := rfl
theorem c124_66 : xT 124 66 = oIcmp (fun x y => x = y) 72 69 := rfl
theorem c124_69 : xT 124 69 = oPush (.int (-13)) 71 := rfl
theorem c124_71 : xT 124 71 = oRi (fun _ => True) := rfl
theorem c124_72 : xT 124 72 = oPush (.int (0)) 73 := rfl
theorem c124_73 : xT 124 73 = oIst 8 75 10 := rfl
theorem c124_75 : xT 124 75 = oPush (.int (0)) 76 := rfl
theorem c124_76 : xT 124 76 = oIst 9 78 10 := rfl
theorem c124_78 : xT 124 78 = oTr [4, 5, 6, 7, 8, 9] (oIld 9 80) := rfl
theorem c124_80 : xT 124 80 = oIld 5 82 := rfl
theorem c124_82 : xT 124 82 = oIcmp (fun x y => y ≤ x) 129 85 := rfl
theorem c124_85 : xT 124 85 = oAld 7 87 := rfl
theorem c124_87 : xT 124 87 = oIld 4 89 := rfl
theorem c124_89 : xT 124 89 = oIld 9 91 := rfl
theorem c124_91 : xT 124 91 = oBin (fun x y => x + y) 92 := rfl
theorem c124_92 : xT 124 92 = oCallV 8 122 2 95 := rfl
theorem c124_95 : xT 124 95 = oIf (fun x => x = 0) 98 101 := rfl
theorem c124_98 : xT 124 98 = oPush (.int (-12)) 100 := rfl
theorem c124_100 : xT 124 100 = oRi (fun _ => True) := rfl
theorem c124_101 : xT 124 101 = oAld 6 103 := rfl
theorem c124_103 : xT 124 103 = oAld 7 105 := rfl
theorem c124_105 : xT 124 105 = oGetp 7 0 108 := rfl
theorem c124_108 : xT 124 108 = oIld 4 110 := rfl
theorem c124_110 : xT 124 110 = oIld 9 112 := rfl
theorem c124_112 : xT 124 112 = oBin (fun x y => x + y) 113 := rfl
theorem c124_113 : xT 124 113 = oAldi 20 114 := rfl
theorem c124_114 : xT 124 114 = oCallV 1 55 2 117 := rfl
theorem c124_117 : xT 124 117 = oIf (fun x => x ≤ 0) 123 120 := rfl
theorem c124_120 : xT 124 120 = oIinc 8 (1) 123 10 := rfl
theorem c124_123 : xT 124 123 = oTr [4, 5, 6, 7, 8, 9] (oIinc 9 (1) 126 10) := rfl
theorem c124_126 : xT 124 126 = oGoto 78 := rfl
theorem c124_129 : xT 124 129 = oIld 8 131 := rfl
theorem c124_131 : xT 124 131 = oRi (fun _ => True) := rfl
theorem c125_0 : xT 125 0 = oIld 2 1 := rfl
theorem c125_1 : xT 125 1 = oIf (fun x => x < 0) 10 4 := rfl
theorem c125_4 : xT 125 4 = oIld 2 5 := rfl
theorem c125_5 : xT 125 5 = oPush (.int (6)) 7 := rfl
theorem c125_7 : xT 125 7 = oIcmp (fun x y => x < y) 13 10 := rfl
theorem c125_10 : xT 125 10 = oTr [] (oPush (.int (-2)) 12) := rfl
theorem c125_12 : xT 125 12 = oRi (fun _ => True) := rfl
theorem c125_13 : xT 125 13 = oAld 0 14 := rfl
theorem c125_14 : xT 125 14 = oIld 1 15 := rfl
theorem c125_15 : xT 125 15 = oCallV 12 66 2 18 := rfl
theorem c125_18 : xT 125 18 = oAst 3 19 4 := rfl
theorem c125_19 : xT 125 19 = oAld 3 20 := rfl
theorem c125_20 : xT 125 20 = oIfn 23 26 := rfl
theorem c125_23 : xT 125 23 = oPush (.int (-11)) 25 := rfl
theorem c125_25 : xT 125 25 = oRi (fun _ => True) := rfl
theorem c125_26 : xT 125 26 = oAld 3 27 := rfl
theorem c125_27 : xT 125 27 = oGeti 2 0 30 := rfl
theorem c125_30 : xT 125 30 = oIld 2 31 := rfl
theorem c125_31 : xT 125 31 = oCallS 63 2 34 := rfl
theorem c125_34 : xT 125 34 = oIf (fun x => x = 0) 44 37 := rfl
theorem c125_37 : xT 125 37 = oAld 3 38 := rfl
theorem c125_38 : xT 125 38 = oGeti 2 6 41 := rfl
theorem c125_41 : xT 125 41 = oGoto 46 := rfl
theorem c125_44 : xT 125 44 = oPush (.int (-13)) 46 := rfl
theorem c125_46 : xT 125 46 = oTr [] (oRi (fun _ => True)) := rfl
set_option maxRecDepth 20000 in
theorem c126_0 : xT 126 0 = oAld 0 1 := rfl
set_option maxRecDepth 20000 in
theorem c126_1 : xT 126 1 = oObj 4 := rfl
set_option maxRecDepth 20000 in
theorem c126_4 : xT 126 4 = oAld 0 5 := rfl
set_option maxRecDepth 20000 in
theorem c126_5 : xT 126 5 = oPush (.int (160)) 8 := rfl
set_option maxRecDepth 20000 in
theorem c126_8 : xT 126 8 = oNewa 21 10 := rfl
set_option maxRecDepth 20000 in
theorem c126_10 : xT 126 10 = oPutp 12 0 13 := rfl
set_option maxRecDepth 20000 in
theorem c126_13 : xT 126 13 = oAld 0 14 := rfl
set_option maxRecDepth 20000 in
theorem c126_14 : xT 126 14 = oPush (.int (0)) 15 := rfl
set_option maxRecDepth 20000 in
theorem c126_15 : xT 126 15 = oPuti 12 1 18 := rfl
set_option maxRecDepth 20000 in
theorem c126_18 : xT 126 18 = oAld 0 19 := rfl
set_option maxRecDepth 20000 in
theorem c126_19 : xT 126 19 = oPush (.int (0)) 20 := rfl
set_option maxRecDepth 20000 in
theorem c126_20 : xT 126 20 = oPuti 12 2 23 := rfl
set_option maxRecDepth 20000 in
theorem c126_23 : xT 126 23 = oAld 0 24 := rfl
set_option maxRecDepth 20000 in
theorem c126_24 : xT 126 24 = oPush (.int (5)) 25 := rfl
set_option maxRecDepth 20000 in
theorem c126_25 : xT 126 25 = oNewa 20 27 := rfl
set_option maxRecDepth 20000 in
theorem c126_27 : xT 126 27 = oPutp 12 3 30 := rfl
set_option maxRecDepth 20000 in
theorem c126_30 : xT 126 30 = oAld 0 31 := rfl
set_option maxRecDepth 20000 in
theorem c126_31 : xT 126 31 = oPush (.int (5)) 32 := rfl
set_option maxRecDepth 20000 in
theorem c126_32 : xT 126 32 = oNewa 20 34 := rfl
set_option maxRecDepth 20000 in
theorem c126_34 : xT 126 34 = oPutp 12 4 37 := rfl
set_option maxRecDepth 20000 in
theorem c126_37 : xT 126 37 = oAld 0 38 := rfl
set_option maxRecDepth 20000 in
theorem c126_38 : xT 126 38 = oPush (.int (50)) 40 := rfl
set_option maxRecDepth 20000 in
theorem c126_40 : xT 126 40 = oNewa 20 42 := rfl
set_option maxRecDepth 20000 in
theorem c126_42 : xT 126 42 = oPutp 12 5 45 := rfl
set_option maxRecDepth 20000 in
theorem c126_45 : xT 126 45 = oAld 0 46 := rfl
set_option maxRecDepth 20000 in
theorem c126_46 : xT 126 46 = oPush (.int (50)) 48 := rfl
set_option maxRecDepth 20000 in
theorem c126_48 : xT 126 48 = oNewa 20 50 := rfl
set_option maxRecDepth 20000 in
theorem c126_50 : xT 126 50 = oPutp 12 6 53 := rfl
set_option maxRecDepth 20000 in
theorem c126_53 : xT 126 53 = oAld 0 54 := rfl
set_option maxRecDepth 20000 in
theorem c126_54 : xT 126 54 = oPush (.int (5)) 55 := rfl
set_option maxRecDepth 20000 in
theorem c126_55 : xT 126 55 = oNewa 22 57 := rfl
set_option maxRecDepth 20000 in
theorem c126_57 : xT 126 57 = oPutp 12 7 60 := rfl
set_option maxRecDepth 20000 in
theorem c126_60 : xT 126 60 = oAld 0 61 := rfl
set_option maxRecDepth 20000 in
theorem c126_61 : xT 126 61 = oPush (.int (0)) 62 := rfl
set_option maxRecDepth 20000 in
theorem c126_62 : xT 126 62 = oPuti 12 8 65 := rfl
set_option maxRecDepth 20000 in
theorem c126_65 : xT 126 65 = oAld 0 66 := rfl
set_option maxRecDepth 20000 in
theorem c126_66 : xT 126 66 = oPush (.int (5)) 67 := rfl
set_option maxRecDepth 20000 in
theorem c126_67 : xT 126 67 = oNewa 20 69 := rfl
set_option maxRecDepth 20000 in
theorem c126_69 : xT 126 69 = oPutp 12 9 72 := rfl
set_option maxRecDepth 20000 in
theorem c126_72 : xT 126 72 = oAld 0 73 := rfl
set_option maxRecDepth 20000 in
theorem c126_73 : xT 126 73 = oPush (.int (5)) 74 := rfl
set_option maxRecDepth 20000 in
theorem c126_74 : xT 126 74 = oNewa 20 76 := rfl
set_option maxRecDepth 20000 in
theorem c126_76 : xT 126 76 = oPutp 12 10 79 := rfl
set_option maxRecDepth 20000 in
theorem c126_79 : xT 126 79 = oAld 0 80 := rfl
set_option maxRecDepth 20000 in
theorem c126_80 : xT 126 80 = oPush (.int (5)) 81 := rfl
set_option maxRecDepth 20000 in
theorem c126_81 : xT 126 81 = oNewa 20 83 := rfl
set_option maxRecDepth 20000 in
theorem c126_83 : xT 126 83 = oPutp 12 11 86 := rfl
set_option maxRecDepth 20000 in
theorem c126_86 : xT 126 86 = oAld 0 87 := rfl
set_option maxRecDepth 20000 in
theorem c126_87 : xT 126 87 = oPush (.int (50)) 89 := rfl
set_option maxRecDepth 20000 in
theorem c126_89 : xT 126 89 = oNewa 20 91 := rfl
set_option maxRecDepth 20000 in
theorem c126_91 : xT 126 91 = oPutp 12 12 94 := rfl
set_option maxRecDepth 20000 in
theorem c126_94 : xT 126 94 = oAld 0 95 := rfl
set_option maxRecDepth 20000 in
theorem c126_95 : xT 126 95 = oPush (.int (0)) 96 := rfl
set_option maxRecDepth 20000 in
theorem c126_96 : xT 126 96 = oPuti 12 13 99 := rfl
set_option maxRecDepth 20000 in
theorem c126_99 : xT 126 99 = oAld 0 100 := rfl
set_option maxRecDepth 20000 in
theorem c126_100 : xT 126 100 = oPush (.int (8)) 102 := rfl
set_option maxRecDepth 20000 in
theorem c126_102 : xT 126 102 = oNewa 20 104 := rfl
set_option maxRecDepth 20000 in
theorem c126_104 : xT 126 104 = oPutp 12 14 107 := rfl
set_option maxRecDepth 20000 in
theorem c126_107 : xT 126 107 = oAld 0 108 := rfl
set_option maxRecDepth 20000 in
theorem c126_108 : xT 126 108 = oPush (.int (8)) 110 := rfl
set_option maxRecDepth 20000 in
theorem c126_110 : xT 126 110 = oNewa 20 112 := rfl
set_option maxRecDepth 20000 in
theorem c126_112 : xT 126 112 = oPutp 12 15 115 := rfl
set_option maxRecDepth 20000 in
theorem c126_115 : xT 126 115 = oAld 0 116 := rfl
set_option maxRecDepth 20000 in
theorem c126_116 : xT 126 116 = oPush (.int (8)) 118 := rfl
set_option maxRecDepth 20000 in
theorem c126_118 : xT 126 118 = oNewa 20 120 := rfl
set_option maxRecDepth 20000 in
theorem c126_120 : xT 126 120 = oPutp 12 16 123 := rfl
set_option maxRecDepth 20000 in
theorem c126_123 : xT 126 123 = oAld 0 124 := rfl
set_option maxRecDepth 20000 in
theorem c126_124 : xT 126 124 = oPush (.int (8)) 126 := rfl
set_option maxRecDepth 20000 in
theorem c126_126 : xT 126 126 = oNewa 20 128 := rfl
set_option maxRecDepth 20000 in
theorem c126_128 : xT 126 128 = oPutp 12 17 131 := rfl
set_option maxRecDepth 20000 in
theorem c126_131 : xT 126 131 = oAld 0 132 := rfl
set_option maxRecDepth 20000 in
theorem c126_132 : xT 126 132 = oPush (.int (8)) 134 := rfl
set_option maxRecDepth 20000 in
theorem c126_134 : xT 126 134 = oNewa 20 136 := rfl
set_option maxRecDepth 20000 in
theorem c126_136 : xT 126 136 = oPutp 12 18 139 := rfl
set_option maxRecDepth 20000 in
theorem c126_139 : xT 126 139 = oAld 0 140 := rfl
set_option maxRecDepth 20000 in
theorem c126_140 : xT 126 140 = oPush (.int (8)) 142 := rfl
set_option maxRecDepth 20000 in
theorem c126_142 : xT 126 142 = oNewa 20 144 := rfl
set_option maxRecDepth 20000 in
theorem c126_144 : xT 126 144 = oPutp 12 19 147 := rfl
set_option maxRecDepth 20000 in
theorem c126_147 : xT 126 147 = oAld 0 148 := rfl
set_option maxRecDepth 20000 in
theorem c126_148 : xT 126 148 = oPush (.int (8)) 150 := rfl
set_option maxRecDepth 20000 in
theorem c126_150 : xT 126 150 = oNewa 20 152 := rfl
set_option maxRecDepth 20000 in
theorem c126_152 : xT 126 152 = oPutp 12 20 155 := rfl
set_option maxRecDepth 20000 in
theorem c126_155 : xT 126 155 = oAld 0 156 := rfl
set_option maxRecDepth 20000 in
theorem c126_156 : xT 126 156 = oPush (.int (8)) 158 := rfl
set_option maxRecDepth 20000 in
theorem c126_158 : xT 126 158 = oNewa 20 160 := rfl
set_option maxRecDepth 20000 in
theorem c126_160 : xT 126 160 = oPutp 12 21 163 := rfl
set_option maxRecDepth 20000 in
theorem c126_163 : xT 126 163 = oAld 0 164 := rfl
set_option maxRecDepth 20000 in
theorem c126_164 : xT 126 164 = oPush (.int (8)) 166 := rfl
set_option maxRecDepth 20000 in
theorem c126_166 : xT 126 166 = oNewa 20 168 := rfl
set_option maxRecDepth 20000 in
theorem c126_168 : xT 126 168 = oPutp 12 22 171 := rfl
set_option maxRecDepth 20000 in
theorem c126_171 : xT 126 171 = oAld 0 172 := rfl
set_option maxRecDepth 20000 in
theorem c126_172 : xT 126 172 = oPush (.int (8)) 174 := rfl
set_option maxRecDepth 20000 in
theorem c126_174 : xT 126 174 = oNewa 20 176 := rfl
set_option maxRecDepth 20000 in
theorem c126_176 : xT 126 176 = oPutp 12 23 179 := rfl
set_option maxRecDepth 20000 in
theorem c126_179 : xT 126 179 = oAld 0 180 := rfl
set_option maxRecDepth 20000 in
theorem c126_180 : xT 126 180 = oPush (.int (8)) 182 := rfl
set_option maxRecDepth 20000 in
theorem c126_182 : xT 126 182 = oNewa 20 184 := rfl
set_option maxRecDepth 20000 in
theorem c126_184 : xT 126 184 = oPutp 12 24 187 := rfl
set_option maxRecDepth 20000 in
theorem c126_187 : xT 126 187 = oAld 0 188 := rfl
set_option maxRecDepth 20000 in
theorem c126_188 : xT 126 188 = oPush (.int (8)) 190 := rfl
set_option maxRecDepth 20000 in
theorem c126_190 : xT 126 190 = oNewa 20 192 := rfl
set_option maxRecDepth 20000 in
theorem c126_192 : xT 126 192 = oPutp 12 25 195 := rfl
set_option maxRecDepth 20000 in
theorem c126_195 : xT 126 195 = oAld 0 196 := rfl
set_option maxRecDepth 20000 in
theorem c126_196 : xT 126 196 = oPush (.int (8)) 198 := rfl
set_option maxRecDepth 20000 in
theorem c126_198 : xT 126 198 = oNewa 20 200 := rfl
set_option maxRecDepth 20000 in
theorem c126_200 : xT 126 200 = oPutp 12 26 203 := rfl
set_option maxRecDepth 20000 in
theorem c126_203 : xT 126 203 = oAld 0 204 := rfl
set_option maxRecDepth 20000 in
theorem c126_204 : xT 126 204 = oPush (.int (8)) 206 := rfl
set_option maxRecDepth 20000 in
theorem c126_206 : xT 126 206 = oNewa 20 208 := rfl
set_option maxRecDepth 20000 in
theorem c126_208 : xT 126 208 = oPutp 12 27 211 := rfl
set_option maxRecDepth 20000 in
theorem c126_211 : xT 126 211 = oAld 0 212 := rfl
set_option maxRecDepth 20000 in
theorem c126_212 : xT 126 212 = oPush (.int (8)) 214 := rfl
set_option maxRecDepth 20000 in
theorem c126_214 : xT 126 214 = oNewa 20 216 := rfl
set_option maxRecDepth 20000 in
theorem c126_216 : xT 126 216 = oPutp 12 28 219 := rfl
set_option maxRecDepth 20000 in
theorem c126_219 : xT 126 219 = oAld 0 220 := rfl
set_option maxRecDepth 20000 in
theorem c126_220 : xT 126 220 = oPush (.int (192)) 223 := rfl
set_option maxRecDepth 20000 in
theorem c126_223 : xT 126 223 = oNewa 20 225 := rfl
set_option maxRecDepth 20000 in
theorem c126_225 : xT 126 225 = oPutp 12 29 228 := rfl
set_option maxRecDepth 20000 in
theorem c126_228 : xT 126 228 = oAld 0 229 := rfl
set_option maxRecDepth 20000 in
theorem c126_229 : xT 126 229 = oPush (.int (192)) 232 := rfl
set_option maxRecDepth 20000 in
theorem c126_232 : xT 126 232 = oNewa 20 234 := rfl
set_option maxRecDepth 20000 in
theorem c126_234 : xT 126 234 = oPutp 12 30 237 := rfl
set_option maxRecDepth 20000 in
theorem c126_237 : xT 126 237 = oAld 0 238 := rfl
set_option maxRecDepth 20000 in
theorem c126_238 : xT 126 238 = oPush (.int (8)) 240 := rfl
set_option maxRecDepth 20000 in
theorem c126_240 : xT 126 240 = oNewa 22 242 := rfl
set_option maxRecDepth 20000 in
theorem c126_242 : xT 126 242 = oPutp 12 31 245 := rfl
set_option maxRecDepth 20000 in
theorem c126_245 : xT 126 245 = oAld 0 246 := rfl
set_option maxRecDepth 20000 in
theorem c126_246 : xT 126 246 = oPush (.int (0)) 247 := rfl
set_option maxRecDepth 20000 in
theorem c126_247 : xT 126 247 = oPuti 12 32 250 := rfl
set_option maxRecDepth 20000 in
theorem c126_250 : xT 126 250 = oAld 0 251 := rfl
set_option maxRecDepth 20000 in
theorem c126_251 : xT 126 251 = oPush (.int (0)) 252 := rfl
set_option maxRecDepth 20000 in
theorem c126_252 : xT 126 252 = oPuti 12 33 255 := rfl
set_option maxRecDepth 20000 in
theorem c126_255 : xT 126 255 = oAld 0 256 := rfl
set_option maxRecDepth 20000 in
theorem c126_256 : xT 126 256 = oPush (.int (24)) 258 := rfl
set_option maxRecDepth 20000 in
theorem c126_258 : xT 126 258 = oNewa 20 260 := rfl
set_option maxRecDepth 20000 in
theorem c126_260 : xT 126 260 = oPutp 12 34 263 := rfl
set_option maxRecDepth 20000 in
theorem c126_263 : xT 126 263 = oAld 0 264 := rfl
set_option maxRecDepth 20000 in
theorem c126_264 : xT 126 264 = oPush (.int (4800)) 267 := rfl
set_option maxRecDepth 20000 in
theorem c126_267 : xT 126 267 = oNewa 20 269 := rfl
set_option maxRecDepth 20000 in
theorem c126_269 : xT 126 269 = oPutp 12 35 272 := rfl
set_option maxRecDepth 20000 in
theorem c126_272 : xT 126 272 = oAld 0 273 := rfl
set_option maxRecDepth 20000 in
theorem c126_273 : xT 126 273 = oPush (.int (0)) 274 := rfl
set_option maxRecDepth 20000 in
theorem c126_274 : xT 126 274 = oPuti 12 36 277 := rfl
set_option maxRecDepth 20000 in
theorem c126_277 : xT 126 277 = oAld 0 278 := rfl
set_option maxRecDepth 20000 in
theorem c126_278 : xT 126 278 = oPush (.int (24)) 280 := rfl
set_option maxRecDepth 20000 in
theorem c126_280 : xT 126 280 = oNewa 20 282 := rfl
set_option maxRecDepth 20000 in
theorem c126_282 : xT 126 282 = oPutp 12 37 285 := rfl
set_option maxRecDepth 20000 in
theorem c126_285 : xT 126 285 = oAld 0 286 := rfl
set_option maxRecDepth 20000 in
theorem c126_286 : xT 126 286 = oPush (.int (24)) 288 := rfl
set_option maxRecDepth 20000 in
theorem c126_288 : xT 126 288 = oNewa 20 290 := rfl
set_option maxRecDepth 20000 in
theorem c126_290 : xT 126 290 = oPutp 12 38 293 := rfl
set_option maxRecDepth 20000 in
theorem c126_293 : xT 126 293 = oAld 0 294 := rfl
set_option maxRecDepth 20000 in
theorem c126_294 : xT 126 294 = oPush (.int (0)) 295 := rfl
set_option maxRecDepth 20000 in
theorem c126_295 : xT 126 295 = oPuti 12 39 298 := rfl
set_option maxRecDepth 20000 in
theorem c126_298 : xT 126 298 = oAld 0 299 := rfl
set_option maxRecDepth 20000 in
theorem c126_299 : xT 126 299 = oPush (.int (0)) 300 := rfl
set_option maxRecDepth 20000 in
theorem c126_300 : xT 126 300 = oPuti 12 40 303 := rfl
set_option maxRecDepth 20000 in
theorem c126_303 : xT 126 303 = oAld 0 304 := rfl
set_option maxRecDepth 20000 in
theorem c126_304 : xT 126 304 = oPush (.int (0)) 305 := rfl
set_option maxRecDepth 20000 in
theorem c126_305 : xT 126 305 = oPuti 12 41 308 := rfl
set_option maxRecDepth 20000 in
theorem c126_308 : xT 126 308 = oAld 0 309 := rfl
set_option maxRecDepth 20000 in
theorem c126_309 : xT 126 309 = oPush (.int (1)) 310 := rfl
set_option maxRecDepth 20000 in
theorem c126_310 : xT 126 310 = oPuti 12 42 313 := rfl
set_option maxRecDepth 20000 in
theorem c126_313 : xT 126 313 = oAld 0 314 := rfl
set_option maxRecDepth 20000 in
theorem c126_314 : xT 126 314 = oPush (.int (0)) 315 := rfl
set_option maxRecDepth 20000 in
theorem c126_315 : xT 126 315 = oPuti 12 43 318 := rfl
set_option maxRecDepth 20000 in
theorem c126_318 : xT 126 318 = oAld 0 319 := rfl
set_option maxRecDepth 20000 in
theorem c126_319 : xT 126 319 = oPush (.int (12)) 321 := rfl
set_option maxRecDepth 20000 in
theorem c126_321 : xT 126 321 = oNewa 20 323 := rfl
set_option maxRecDepth 20000 in
theorem c126_323 : xT 126 323 = oPutp 12 44 326 := rfl
set_option maxRecDepth 20000 in
theorem c126_326 : xT 126 326 = oAld 0 327 := rfl
set_option maxRecDepth 20000 in
theorem c126_327 : xT 126 327 = oPush (.int (1920)) 330 := rfl
set_option maxRecDepth 20000 in
theorem c126_330 : xT 126 330 = oNewa 20 332 := rfl
set_option maxRecDepth 20000 in
theorem c126_332 : xT 126 332 = oPutp 12 45 335 := rfl
set_option maxRecDepth 20000 in
theorem c126_335 : xT 126 335 = oAld 0 336 := rfl
set_option maxRecDepth 20000 in
theorem c126_336 : xT 126 336 = oPush (.int (0)) 337 := rfl
set_option maxRecDepth 20000 in
theorem c126_337 : xT 126 337 = oPuti 12 46 340 := rfl
set_option maxRecDepth 20000 in
theorem c126_340 : xT 126 340 = oAld 0 341 := rfl
set_option maxRecDepth 20000 in
theorem c126_341 : xT 126 341 = oPush (.int (0)) 342 := rfl
set_option maxRecDepth 20000 in
theorem c126_342 : xT 126 342 = oPuti 12 47 345 := rfl
set_option maxRecDepth 20000 in
theorem c126_345 : xT 126 345 = oAld 0 346 := rfl
set_option maxRecDepth 20000 in
theorem c126_346 : xT 126 346 = oPush (.int (0)) 347 := rfl
set_option maxRecDepth 20000 in
theorem c126_347 : xT 126 347 = oPuti 12 48 350 := rfl
set_option maxRecDepth 20000 in
theorem c126_350 : xT 126 350 = oAld 0 351 := rfl
set_option maxRecDepth 20000 in
theorem c126_351 : xT 126 351 = oPush (.int (0)) 352 := rfl
set_option maxRecDepth 20000 in
theorem c126_352 : xT 126 352 = oPuti 12 49 355 := rfl
set_option maxRecDepth 20000 in
theorem c126_355 : xT 126 355 = oAld 0 356 := rfl
set_option maxRecDepth 20000 in
theorem c126_356 : xT 126 356 = oPush (.int (161)) 359 := rfl
set_option maxRecDepth 20000 in
theorem c126_359 : xT 126 359 = oNewa 20 361 := rfl
set_option maxRecDepth 20000 in
theorem c126_361 : xT 126 361 = oPutp 12 50 364 := rfl
set_option maxRecDepth 20000 in
theorem c126_364 : xT 126 364 = oAld 0 365 := rfl
set_option maxRecDepth 20000 in
theorem c126_365 : xT 126 365 = oPush (.int (7)) 367 := rfl
set_option maxRecDepth 20000 in
theorem c126_367 : xT 126 367 = oNewa 22 369 := rfl
set_option maxRecDepth 20000 in
theorem c126_369 : xT 126 369 = oPutp 12 51 372 := rfl
set_option maxRecDepth 20000 in
theorem c126_372 : xT 126 372 = oAld 0 373 := rfl
set_option maxRecDepth 20000 in
theorem c126_373 : xT 126 373 = oPush (.int (0)) 374 := rfl
set_option maxRecDepth 20000 in
theorem c126_374 : xT 126 374 = oPuti 12 52 377 := rfl
set_option maxRecDepth 20000 in
theorem c126_377 : xT 126 377 = oAld 0 378 := rfl
set_option maxRecDepth 20000 in
theorem c126_378 : xT 126 378 = oPush (.int (0)) 379 := rfl
set_option maxRecDepth 20000 in
theorem c126_379 : xT 126 379 = oPuti 12 53 382 := rfl
set_option maxRecDepth 20000 in
theorem c126_382 : xT 126 382 = oAld 0 383 := rfl
set_option maxRecDepth 20000 in
theorem c126_383 : xT 126 383 = oPush (.int (0)) 384 := rfl
set_option maxRecDepth 20000 in
theorem c126_384 : xT 126 384 = oPuti 12 54 387 := rfl
set_option maxRecDepth 20000 in
theorem c126_387 : xT 126 387 = oAld 0 388 := rfl
set_option maxRecDepth 20000 in
theorem c126_388 : xT 126 388 = oPush (.int (0)) 389 := rfl
set_option maxRecDepth 20000 in
theorem c126_389 : xT 126 389 = oPuti 12 55 392 := rfl
set_option maxRecDepth 20000 in
theorem c126_392 : xT 126 392 = oAld 0 393 := rfl
set_option maxRecDepth 20000 in
theorem c126_393 : xT 126 393 = oPush (.int (6)) 395 := rfl
set_option maxRecDepth 20000 in
theorem c126_395 : xT 126 395 = oNewa 20 397 := rfl
set_option maxRecDepth 20000 in
theorem c126_397 : xT 126 397 = oPutp 12 56 400 := rfl
set_option maxRecDepth 20000 in
theorem c126_400 : xT 126 400 = oAld 0 401 := rfl
set_option maxRecDepth 20000 in
theorem c126_401 : xT 126 401 = oPush (.int (161)) 404 := rfl
set_option maxRecDepth 20000 in
theorem c126_404 : xT 126 404 = oNewa 20 406 := rfl
set_option maxRecDepth 20000 in
theorem c126_406 : xT 126 406 = oPutp 12 57 409 := rfl
set_option maxRecDepth 20000 in
theorem c126_409 : xT 126 409 = oAld 0 410 := rfl
set_option maxRecDepth 20000 in
theorem c126_410 : xT 126 410 = oPush (.int (8)) 412 := rfl
set_option maxRecDepth 20000 in
theorem c126_412 : xT 126 412 = oNewa 20 414 := rfl
set_option maxRecDepth 20000 in
theorem c126_414 : xT 126 414 = oPutp 12 58 417 := rfl
set_option maxRecDepth 20000 in
theorem c126_417 : xT 126 417 = oAld 0 418 := rfl
set_option maxRecDepth 20000 in
theorem c126_418 : xT 126 418 = oPush (.int (8)) 420 := rfl
set_option maxRecDepth 20000 in
theorem c126_420 : xT 126 420 = oNewa 20 422 := rfl
set_option maxRecDepth 20000 in
theorem c126_422 : xT 126 422 = oPutp 12 59 425 := rfl
set_option maxRecDepth 20000 in
theorem c126_425 : xT 126 425 = oAld 0 426 := rfl
set_option maxRecDepth 20000 in
theorem c126_426 : xT 126 426 = oPush (.int (8)) 428 := rfl
set_option maxRecDepth 20000 in
theorem c126_428 : xT 126 428 = oNewa 20 430 := rfl
set_option maxRecDepth 20000 in
theorem c126_430 : xT 126 430 = oDup 431 := rfl
set_option maxRecDepth 20000 in
theorem c126_431 : xT 126 431 = oPush (.int (0)) 432 := rfl
set_option maxRecDepth 20000 in
theorem c126_432 : xT 126 432 = oPush (.int (-1)) 433 := rfl
set_option maxRecDepth 20000 in
theorem c126_433 : xT 126 433 = oAsti 20 (fun x => x) 434 := rfl
set_option maxRecDepth 20000 in
theorem c126_434 : xT 126 434 = oDup 435 := rfl
set_option maxRecDepth 20000 in
theorem c126_435 : xT 126 435 = oPush (.int (1)) 436 := rfl
set_option maxRecDepth 20000 in
theorem c126_436 : xT 126 436 = oPush (.int (-1)) 437 := rfl
set_option maxRecDepth 20000 in
theorem c126_437 : xT 126 437 = oAsti 20 (fun x => x) 438 := rfl
set_option maxRecDepth 20000 in
theorem c126_438 : xT 126 438 = oDup 439 := rfl
set_option maxRecDepth 20000 in
theorem c126_439 : xT 126 439 = oPush (.int (2)) 440 := rfl
set_option maxRecDepth 20000 in
theorem c126_440 : xT 126 440 = oPush (.int (-1)) 441 := rfl
set_option maxRecDepth 20000 in
theorem c126_441 : xT 126 441 = oAsti 20 (fun x => x) 442 := rfl
set_option maxRecDepth 20000 in
theorem c126_442 : xT 126 442 = oDup 443 := rfl
set_option maxRecDepth 20000 in
theorem c126_443 : xT 126 443 = oPush (.int (3)) 444 := rfl
set_option maxRecDepth 20000 in
theorem c126_444 : xT 126 444 = oPush (.int (-1)) 445 := rfl
set_option maxRecDepth 20000 in
theorem c126_445 : xT 126 445 = oAsti 20 (fun x => x) 446 := rfl
set_option maxRecDepth 20000 in
theorem c126_446 : xT 126 446 = oDup 447 := rfl
set_option maxRecDepth 20000 in
theorem c126_447 : xT 126 447 = oPush (.int (4)) 448 := rfl
set_option maxRecDepth 20000 in
theorem c126_448 : xT 126 448 = oPush (.int (-1)) 449 := rfl
set_option maxRecDepth 20000 in
theorem c126_449 : xT 126 449 = oAsti 20 (fun x => x) 450 := rfl
set_option maxRecDepth 20000 in
theorem c126_450 : xT 126 450 = oDup 451 := rfl
set_option maxRecDepth 20000 in
theorem c126_451 : xT 126 451 = oPush (.int (5)) 452 := rfl
set_option maxRecDepth 20000 in
theorem c126_452 : xT 126 452 = oPush (.int (-1)) 453 := rfl
set_option maxRecDepth 20000 in
theorem c126_453 : xT 126 453 = oAsti 20 (fun x => x) 454 := rfl
set_option maxRecDepth 20000 in
theorem c126_454 : xT 126 454 = oDup 455 := rfl
set_option maxRecDepth 20000 in
theorem c126_455 : xT 126 455 = oPush (.int (6)) 457 := rfl
set_option maxRecDepth 20000 in
theorem c126_457 : xT 126 457 = oPush (.int (-1)) 458 := rfl
set_option maxRecDepth 20000 in
theorem c126_458 : xT 126 458 = oAsti 20 (fun x => x) 459 := rfl
set_option maxRecDepth 20000 in
theorem c126_459 : xT 126 459 = oDup 460 := rfl
set_option maxRecDepth 20000 in
theorem c126_460 : xT 126 460 = oPush (.int (7)) 462 := rfl
set_option maxRecDepth 20000 in
theorem c126_462 : xT 126 462 = oPush (.int (-1)) 463 := rfl
set_option maxRecDepth 20000 in
theorem c126_463 : xT 126 463 = oAsti 20 (fun x => x) 464 := rfl
set_option maxRecDepth 20000 in
theorem c126_464 : xT 126 464 = oPutp 12 60 467 := rfl
set_option maxRecDepth 20000 in
theorem c126_467 : xT 126 467 = oAld 0 468 := rfl
set_option maxRecDepth 20000 in
theorem c126_468 : xT 126 468 = oPush (.int (4)) 469 := rfl
set_option maxRecDepth 20000 in
theorem c126_469 : xT 126 469 = oNewa 20 471 := rfl
set_option maxRecDepth 20000 in
theorem c126_471 : xT 126 471 = oPutp 12 61 474 := rfl
set_option maxRecDepth 20000 in
theorem c126_474 : xT 126 474 = oAld 0 475 := rfl
set_option maxRecDepth 20000 in
theorem c126_475 : xT 126 475 = oPush (.int (0)) 476 := rfl
set_option maxRecDepth 20000 in
theorem c126_476 : xT 126 476 = oPuti 12 62 479 := rfl
set_option maxRecDepth 20000 in
theorem c126_479 : xT 126 479 = oAld 0 480 := rfl
set_option maxRecDepth 20000 in
theorem c126_480 : xT 126 480 = oPush (.int (0)) 481 := rfl
set_option maxRecDepth 20000 in
theorem c126_481 : xT 126 481 = oPuti 12 63 484 := rfl
set_option maxRecDepth 20000 in
theorem c126_484 : xT 126 484 = oAld 0 485 := rfl
set_option maxRecDepth 20000 in
theorem c126_485 : xT 126 485 = oPush (.int (4)) 486 := rfl
set_option maxRecDepth 20000 in
theorem c126_486 : xT 126 486 = oNewa 20 488 := rfl
set_option maxRecDepth 20000 in
theorem c126_488 : xT 126 488 = oDup 489 := rfl
set_option maxRecDepth 20000 in
theorem c126_489 : xT 126 489 = oPush (.int (0)) 490 := rfl
set_option maxRecDepth 20000 in
theorem c126_490 : xT 126 490 = oPush (.int (-1)) 491 := rfl
set_option maxRecDepth 20000 in
theorem c126_491 : xT 126 491 = oAsti 20 (fun x => x) 492 := rfl
set_option maxRecDepth 20000 in
theorem c126_492 : xT 126 492 = oDup 493 := rfl
set_option maxRecDepth 20000 in
theorem c126_493 : xT 126 493 = oPush (.int (1)) 494 := rfl
set_option maxRecDepth 20000 in
theorem c126_494 : xT 126 494 = oPush (.int (-1)) 495 := rfl
set_option maxRecDepth 20000 in
theorem c126_495 : xT 126 495 = oAsti 20 (fun x => x) 496 := rfl
set_option maxRecDepth 20000 in
theorem c126_496 : xT 126 496 = oDup 497 := rfl
set_option maxRecDepth 20000 in
theorem c126_497 : xT 126 497 = oPush (.int (2)) 498 := rfl
set_option maxRecDepth 20000 in
theorem c126_498 : xT 126 498 = oPush (.int (-1)) 499 := rfl
set_option maxRecDepth 20000 in
theorem c126_499 : xT 126 499 = oAsti 20 (fun x => x) 500 := rfl
set_option maxRecDepth 20000 in
theorem c126_500 : xT 126 500 = oDup 501 := rfl
set_option maxRecDepth 20000 in
theorem c126_501 : xT 126 501 = oPush (.int (3)) 502 := rfl
set_option maxRecDepth 20000 in
theorem c126_502 : xT 126 502 = oPush (.int (-1)) 503 := rfl
set_option maxRecDepth 20000 in
theorem c126_503 : xT 126 503 = oAsti 20 (fun x => x) 504 := rfl
set_option maxRecDepth 20000 in
theorem c126_504 : xT 126 504 = oPutp 12 64 507 := rfl
set_option maxRecDepth 20000 in
theorem c126_507 : xT 126 507 = oAld 0 508 := rfl
set_option maxRecDepth 20000 in
theorem c126_508 : xT 126 508 = oPush (.int (4)) 509 := rfl
set_option maxRecDepth 20000 in
theorem c126_509 : xT 126 509 = oNewa 20 511 := rfl
set_option maxRecDepth 20000 in
theorem c126_511 : xT 126 511 = oPutp 12 65 514 := rfl
set_option maxRecDepth 20000 in
theorem c126_514 : xT 126 514 = oAld 0 515 := rfl
set_option maxRecDepth 20000 in
theorem c126_515 : xT 126 515 = oPush (.int (160)) 518 := rfl
set_option maxRecDepth 20000 in
theorem c126_518 : xT 126 518 = oNewa 20 520 := rfl
set_option maxRecDepth 20000 in
theorem c126_520 : xT 126 520 = oPutp 12 66 523 := rfl
set_option maxRecDepth 20000 in
theorem c126_523 : xT 126 523 = oAld 0 524 := rfl
set_option maxRecDepth 20000 in
theorem c126_524 : xT 126 524 = oCallV 13 127 1 527 := rfl
set_option maxRecDepth 20000 in
theorem c126_527 : xT 126 527 = oRv := rfl
