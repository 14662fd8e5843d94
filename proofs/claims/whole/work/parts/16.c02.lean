theorem c127_0 : xT 127 0 = oAld 0 1 := rfl
theorem c127_1 : xT 127 1 = oGetp 12 44 4 := rfl
theorem c127_4 : xT 127 4 = oPush (.int (0)) 5 := rfl
theorem c127_5 : xT 127 5 = oPush (.int (7)) 7 := rfl
theorem c127_7 : xT 127 7 = oAsti 20 (fun x => x) 8 := rfl
theorem c127_8 : xT 127 8 = oAld 0 9 := rfl
theorem c127_9 : xT 127 9 = oGetp 12 45 12 := rfl
theorem c127_12 : xT 127 12 = oPush (.int (0)) 13 := rfl
theorem c127_13 : xT 127 13 = oPush (.int (10000)) 16 := rfl
theorem c127_16 : xT 127 16 = oAsti 20 (fun x => x) 17 := rfl
theorem c127_17 : xT 127 17 = oAld 0 18 := rfl
theorem c127_18 : xT 127 18 = oGetp 12 45 21 := rfl
theorem c127_21 : xT 127 21 = oPush (.int (1)) 22 := rfl
theorem c127_22 : xT 127 22 = oPush (.int (3)) 23 := rfl
theorem c127_23 : xT 127 23 = oAsti 20 (fun x => x) 24 := rfl
theorem c127_24 : xT 127 24 = oAld 0 25 := rfl
theorem c127_25 : xT 127 25 = oGetp 12 45 28 := rfl
theorem c127_28 : xT 127 28 = oPush (.int (2)) 29 := rfl
theorem c127_29 : xT 127 29 = oPush (.int (-8)) 31 := rfl
theorem c127_31 : xT 127 31 = oAsti 20 (fun x => x) 32 := rfl
theorem c127_32 : xT 127 32 = oAld 0 33 := rfl
theorem c127_33 : xT 127 33 = oGetp 12 45 36 := rfl
theorem c127_36 : xT 127 36 = oPush (.int (3)) 37 := rfl
theorem c127_37 : xT 127 37 = oPush (.int (10001)) 40 := rfl
theorem c127_40 : xT 127 40 = oAsti 20 (fun x => x) 41 := rfl
theorem c127_41 : xT 127 41 = oAld 0 42 := rfl
theorem c127_42 : xT 127 42 = oGetp 12 45 45 := rfl
theorem c127_45 : xT 127 45 = oPush (.int (4)) 46 := rfl
theorem c127_46 : xT 127 46 = oPush (.int (10)) 48 := rfl
theorem c127_48 : xT 127 48 = oAsti 20 (fun x => x) 49 := rfl
theorem c127_49 : xT 127 49 = oAld 0 50 := rfl
theorem c127_50 : xT 127 50 = oGetp 12 45 53 := rfl
theorem c127_53 : xT 127 53 = oPush (.int (5)) 54 := rfl
theorem c127_54 : xT 127 54 = oPush (.int (-8)) 56 := rfl
theorem c127_56 : xT 127 56 = oAsti 20 (fun x => x) 57 := rfl
theorem c127_57 : xT 127 57 = oAld 0 58 := rfl
theorem c127_58 : xT 127 58 = oGetp 12 45 61 := rfl
theorem c127_61 : xT 127 61 = oPush (.int (6)) 63 := rfl
theorem c127_63 : xT 127 63 = oPush (.int (-6)) 65 := rfl
theorem c127_65 : xT 127 65 = oAsti 20 (fun x => x) 66 := rfl
theorem c127_66 : xT 127 66 = oAld 0 67 := rfl
theorem c127_67 : xT 127 67 = oGetp 12 44 70 := rfl
theorem c127_70 : xT 127 70 = oPush (.int (1)) 71 := rfl
theorem c127_71 : xT 127 71 = oPush (.int (3)) 72 := rfl
theorem c127_72 : xT 127 72 = oAsti 20 (fun x => x) 73 := rfl
theorem c127_73 : xT 127 73 = oAld 0 74 := rfl
theorem c127_74 : xT 127 74 = oGetp 12 45 77 := rfl
theorem c127_77 : xT 127 77 = oPush (.int (160)) 80 := rfl
theorem c127_80 : xT 127 80 = oPush (.int (10003)) 83 := rfl
theorem c127_83 : xT 127 83 = oAsti 20 (fun x => x) 84 := rfl
theorem c127_84 : xT 127 84 = oAld 0 85 := rfl
theorem c127_85 : xT 127 85 = oGetp 12 45 88 := rfl
theorem c127_88 : xT 127 88 = oPush (.int (161)) 91 := rfl
theorem c127_91 : xT 127 91 = oPush (.int (10002)) 94 := rfl
theorem c127_94 : xT 127 94 = oAsti 20 (fun x => x) 95 := rfl
theorem c127_95 : xT 127 95 = oAld 0 96 := rfl
theorem c127_96 : xT 127 96 = oGetp 12 45 99 := rfl
theorem c127_99 : xT 127 99 = oPush (.int (162)) 102 := rfl
theorem c127_102 : xT 127 102 = oPush (.int (-4)) 104 := rfl
theorem c127_104 : xT 127 104 = oAsti 20 (fun x => x) 105 := rfl
theorem c127_105 : xT 127 105 = oRv := rfl
theorem c128_0 : xT 128 0 = oAld 0 1 := rfl
theorem c128_1 : xT 128 1 = oIld 1 2 := rfl
theorem c128_2 : xT 128 2 = oPush (.int (1)) 3 := rfl
theorem c128_3 : xT 128 3 = oPush (.int (8)) 5 := rfl
theorem c128_5 : xT 128 5 = oCallV 13 129 4 8 := rfl
theorem c128_8 : xT 128 8 = oIf (fun x => x = 0) 11 14 := rfl
theorem c128_11 : xT 128 11 = oPush (.int (-2)) 13 := rfl
theorem c128_13 : xT 128 13 = oRi (fun _ => True) := rfl
theorem c128_14 : xT 128 14 = oAld 0 15 := rfl
theorem c128_15 : xT 128 15 = oGeti 12 1 18 := rfl
theorem c128_18 : xT 128 18 = oIld 1 19 := rfl
theorem c128_19 : xT 128 19 = oBin (fun x y => x + y) 20 := rfl
theorem c128_20 : xT 128 20 = oPush (.int (160)) 23 := rfl
theorem c128_23 : xT 128 23 = oIcmp (fun x y => x ≤ y) 29 26 := rfl
theorem c128_26 : xT 128 26 = oPush (.int (-4)) 28 := rfl
theorem c128_28 : xT 128 28 = oRi (fun _ => True) := rfl
theorem c128_29 : xT 128 29 = oPush (.int (0)) 30 := rfl
theorem c128_30 : xT 128 30 = oIst 4 32 5 := rfl
theorem c128_32 : xT 128 32 = oTr [0, 1, 2, 4] (oIld 4 34) := rfl
theorem c128_34 : xT 128 34 = oIld 1 35 := rfl
theorem c128_35 : xT 128 35 = oIcmp (fun x y => y ≤ x) 72 38 := rfl
theorem c128_38 : xT 128 38 = oAld 0 39 := rfl
theorem c128_39 : xT 128 39 = oGetp 12 0 42 := rfl
theorem c128_42 : xT 128 42 = oAld 0 43 := rfl
theorem c128_43 : xT 128 43 = oGeti 12 1 46 := rfl
theorem c128_46 : xT 128 46 = oLld 2 47 := rfl
theorem c128_47 : xT 128 47 = oPush (.int (8)) 49 := rfl
theorem c128_49 : xT 128 49 = oIld 4 51 := rfl
theorem c128_51 : xT 128 51 = oBin (fun x y => x * y) 52 := rfl
theorem c128_52 : xT 128 52 = oShL (fun x y => x >>> (y.toInt64 &&& 63)) 53 := rfl
theorem c128_53 : xT 128 53 = oL2i 54 := rfl
theorem c128_54 : xT 128 54 = oUn (fun x => x.toInt8.toInt32) 55 := rfl
theorem c128_55 : xT 128 55 = oAsti 21 (vp_nar .byte) 56 := rfl
theorem c128_56 : xT 128 56 = oAld 0 57 := rfl
theorem c128_57 : xT 128 57 = oDup 58 := rfl
theorem c128_58 : xT 128 58 = oGeti 12 1 61 := rfl
theorem c128_61 : xT 128 61 = oPush (.int (1)) 62 := rfl
theorem c128_62 : xT 128 62 = oBin (fun x y => x + y) 63 := rfl
theorem c128_63 : xT 128 63 = oPuti 12 1 66 := rfl
theorem c128_66 : xT 128 66 = oIinc 4 (1) 69 5 := rfl
theorem c128_69 : xT 128 69 = oGoto 32 := rfl
theorem c128_72 : xT 128 72 = oAld 0 73 := rfl
theorem c128_73 : xT 128 73 = oGeti 12 1 76 := rfl
theorem c128_76 : xT 128 76 = oRi (fun _ => True) := rfl
theorem c129_0 : xT 129 0 = oIld 1 1 := rfl
theorem c129_1 : xT 129 1 = oIld 2 2 := rfl
theorem c129_2 : xT 129 2 = oIcmp (fun x y => x < y) 14 5 := rfl
theorem c129_5 : xT 129 5 = oIld 1 6 := rfl
theorem c129_6 : xT 129 6 = oIld 3 7 := rfl
theorem c129_7 : xT 129 7 = oIcmp (fun x y => y < x) 14 10 := rfl
theorem c129_10 : xT 129 10 = oPush (.int (1)) 11 := rfl
theorem c129_11 : xT 129 11 = oGoto 15 := rfl
theorem c129_14 : xT 129 14 = oTr [] (oPush (.int (0)) 15) := rfl
theorem c129_15 : xT 129 15 = oTr [] (oRi (fun x => x = 0 ∨ x = 1)) := rfl
theorem c130_0 : xT 130 0 = oAld 0 1 := rfl
theorem c130_1 : xT 130 1 = oGeti 12 2 4 := rfl
theorem c130_4 : xT 130 4 = oPush (.int (4)) 5 := rfl
theorem c130_5 : xT 130 5 = oIcmp (fun x y => x = y) 8 11 := rfl
theorem c130_8 : xT 130 8 = oPush (.int (-4)) 10 := rfl
theorem c130_10 : xT 130 10 = oRi (fun _ => True) := rfl
theorem c130_11 : xT 130 11 = oAld 0 12 := rfl
theorem c130_12 : xT 130 12 = oAld 0 13 := rfl
theorem c130_13 : xT 130 13 = oGeti 12 2 16 := rfl
theorem c130_16 : xT 130 16 = oCallV 13 131 2 19 := rfl
theorem c130_19 : xT 130 19 = oIst 1 20 5 := rfl
theorem c130_20 : xT 130 20 = oAld 0 21 := rfl
theorem c130_21 : xT 130 21 = oGeti 12 46 24 := rfl
theorem c130_24 : xT 130 24 = oIst 2 25 5 := rfl
theorem c130_25 : xT 130 25 = oAld 0 26 := rfl
theorem c130_26 : xT 130 26 = oPush (.int (0)) 27 := rfl
theorem c130_27 : xT 130 27 = oPuti 12 1 30 := rfl
theorem c130_30 : xT 130 30 = oIld 1 31 := rfl
theorem c130_31 : xT 130 31 = oIf (fun x => x = 0) 34 39 := rfl
theorem c130_34 : xT 130 34 = oPush (.int (-100)) 36 := rfl
theorem c130_36 : xT 130 36 = oIld 2 37 := rfl
theorem c130_37 : xT 130 37 = oBin (fun x y => x - y) 38 := rfl
theorem c130_38 : xT 130 38 = oRi (fun _ => True) := rfl
theorem c130_39 : xT 130 39 = oPush (.int (0)) 40 := rfl
theorem c130_40 : xT 130 40 = oIst 3 41 5 := rfl
theorem c130_41 : xT 130 41 = oPush (.int (0)) 42 := rfl
theorem c130_42 : xT 130 42 = oIst 4 44 5 := rfl
theorem c130_44 : xT 130 44 = oTr [0, 3, 4] (oIld 4 46) := rfl
theorem c130_46 : xT 130 46 = oAld 0 47 := rfl
theorem c130_47 : xT 130 47 = oGetp 12 3 50 := rfl
theorem c130_50 : xT 130 50 = oAld 0 51 := rfl
theorem c130_51 : xT 130 51 = oGeti 12 2 54 := rfl
theorem c130_54 : xT 130 54 = oAldi 20 55 := rfl
theorem c130_55 : xT 130 55 = oIcmp (fun x y => y ≤ x) 121 58 := rfl
theorem c130_58 : xT 130 58 = oIld 3 59 := rfl
theorem c130_59 : xT 130 59 = oAld 0 60 := rfl
theorem c130_60 : xT 130 60 = oGetp 12 6 63 := rfl
theorem c130_63 : xT 130 63 = oPush (.int (10)) 65 := rfl
theorem c130_65 : xT 130 65 = oAld 0 66 := rfl
theorem c130_66 : xT 130 66 = oGeti 12 2 69 := rfl
theorem c130_69 : xT 130 69 = oBin (fun x y => x * y) 70 := rfl
theorem c130_70 : xT 130 70 = oIld 4 72 := rfl
theorem c130_72 : xT 130 72 = oBin (fun x y => x + y) 73 := rfl
theorem c130_73 : xT 130 73 = oAldi 20 74 := rfl
theorem c130_74 : xT 130 74 = oAld 0 75 := rfl
theorem c130_75 : xT 130 75 = oGetp 12 7 78 := rfl
theorem c130_78 : xT 130 78 = oAld 0 79 := rfl
theorem c130_79 : xT 130 79 = oGeti 12 2 82 := rfl
theorem c130_82 : xT 130 82 = oAldi 22 83 := rfl
theorem c130_83 : xT 130 83 = oIf (fun x => x = 0) 111 86 := rfl
theorem c130_86 : xT 130 86 = oIld 4 88 := rfl
theorem c130_88 : xT 130 88 = oIf (fun x => x ≤ 0) 111 91 := rfl
theorem c130_91 : xT 130 91 = oIld 4 93 := rfl
theorem c130_93 : xT 130 93 = oAld 0 94 := rfl
theorem c130_94 : xT 130 94 = oGetp 12 3 97 := rfl
theorem c130_97 : xT 130 97 = oAld 0 98 := rfl
theorem c130_98 : xT 130 98 = oGeti 12 2 101 := rfl
theorem c130_101 : xT 130 101 = oAldi 20 102 := rfl
theorem c130_102 : xT 130 102 = oPush (.int (1)) 103 := rfl
theorem c130_103 : xT 130 103 = oBin (fun x y => x - y) 104 := rfl
theorem c130_104 : xT 130 104 = oIcmp (fun x y => y ≤ x) 111 107 := rfl
theorem c130_107 : xT 130 107 = oPush (.int (2)) 108 := rfl
theorem c130_108 : xT 130 108 = oGoto 112 := rfl
theorem c130_111 : xT 130 111 = oTr [0, 4] (oPush (.int (1)) 112) := rfl
theorem c130_112 : xT 130 112 = oTr [0, 4] (oBin (fun x y => x * y) 113) := rfl
theorem c130_113 : xT 130 113 = oBin (fun x y => x + y) 114 := rfl
theorem c130_114 : xT 130 114 = oIst 3 115 5 := rfl
theorem c130_115 : xT 130 115 = oIinc 4 (1) 118 5 := rfl
theorem c130_118 : xT 130 118 = oGoto 44 := rfl
theorem c130_121 : xT 130 121 = oIld 3 122 := rfl
theorem c130_122 : xT 130 122 = oPush (.int (400)) 125 := rfl
theorem c130_125 : xT 130 125 = oIcmp (fun x y => x ≤ y) 131 128 := rfl
theorem c130_128 : xT 130 128 = oPush (.int (-9)) 130 := rfl
theorem c130_130 : xT 130 130 = oRi (fun _ => True) := rfl
theorem c130_131 : xT 130 131 = oAld 0 132 := rfl
theorem c130_132 : xT 130 132 = oGetp 12 4 135 := rfl
theorem c130_135 : xT 130 135 = oAld 0 136 := rfl
theorem c130_136 : xT 130 136 = oGeti 12 2 139 := rfl
theorem c130_139 : xT 130 139 = oIld 3 140 := rfl
theorem c130_140 : xT 130 140 = oAsti 20 (fun x => x) 141 := rfl
theorem c130_141 : xT 130 141 = oAld 0 142 := rfl
theorem c130_142 : xT 130 142 = oDup 143 := rfl
theorem c130_143 : xT 130 143 = oGeti 12 2 146 := rfl
theorem c130_146 : xT 130 146 = oPush (.int (1)) 147 := rfl
theorem c130_147 : xT 130 147 = oBin (fun x y => x + y) 148 := rfl
theorem c130_148 : xT 130 148 = oPuti 12 2 151 := rfl
theorem c130_151 : xT 130 151 = oAld 0 152 := rfl
theorem c130_152 : xT 130 152 = oGeti 12 2 155 := rfl
theorem c130_155 : xT 130 155 = oPush (.int (1)) 156 := rfl
theorem c130_156 : xT 130 156 = oBin (fun x y => x - y) 157 := rfl
theorem c130_157 : xT 130 157 = oRi (fun _ => True) := rfl
theorem c131_0 : xT 131 0 = oAld 0 1 := rfl
theorem c131_1 : xT 131 1 = oPush (.int (0)) 2 := rfl
theorem c131_2 : xT 131 2 = oPuti 12 46 5 := rfl
theorem c131_5 : xT 131 5 = oAld 0 6 := rfl
theorem c131_6 : xT 131 6 = oGetp 12 3 9 := rfl
theorem c131_9 : xT 131 9 = oIld 1 10 := rfl
theorem c131_10 : xT 131 10 = oPush (.int (0)) 11 := rfl
theorem c131_11 : xT 131 11 = oAsti 20 (fun x => x) 12 := rfl
theorem c131_12 : xT 131 12 = oAld 0 13 := rfl
theorem c131_13 : xT 131 13 = oIld 1 14 := rfl
theorem c131_14 : xT 131 14 = oCallV 13 132 2 17 := rfl
theorem c131_17 : xT 131 17 = oIf (fun x => x = 0) 20 22 := rfl
theorem c131_20 : xT 131 20 = oPush (.int (0)) 21 := rfl
theorem c131_21 : xT 131 21 = oRi (fun x => x = 0 ∨ x = 1) := rfl
theorem c131_22 : xT 131 22 = oTr [0, 1] (oAld 0 23) := rfl
theorem c131_23 : xT 131 23 = oGeti 12 46 26 := rfl
theorem c131_26 : xT 131 26 = oAld 0 27 := rfl
theorem c131_27 : xT 131 27 = oGeti 12 1 30 := rfl
theorem c131_30 : xT 131 30 = oIcmp (fun x y => y ≤ x) 78 33 := rfl
theorem c131_33 : xT 131 33 = oAld 0 34 := rfl
theorem c131_34 : xT 131 34 = oGetp 12 0 37 := rfl
theorem c131_37 : xT 131 37 = oAld 0 38 := rfl
theorem c131_38 : xT 131 38 = oGeti 12 46 41 := rfl
theorem c131_41 : xT 131 41 = oAldi 21 42 := rfl
theorem c131_42 : xT 131 42 = oPush (.int (32)) 44 := rfl
theorem c131_44 : xT 131 44 = oIcmp (fun x y => x = y) 47 78 := rfl
theorem c131_47 : xT 131 47 = oAld 0 48 := rfl
theorem c131_48 : xT 131 48 = oGetp 12 3 51 := rfl
theorem c131_51 : xT 131 51 = oIld 1 52 := rfl
theorem c131_52 : xT 131 52 = oAldi 20 53 := rfl
theorem c131_53 : xT 131 53 = oPush (.int (10)) 55 := rfl
theorem c131_55 : xT 131 55 = oIcmp (fun x y => y ≤ x) 78 58 := rfl
theorem c131_58 : xT 131 58 = oAld 0 59 := rfl
theorem c131_59 : xT 131 59 = oDup 60 := rfl
theorem c131_60 : xT 131 60 = oGeti 12 46 63 := rfl
theorem c131_63 : xT 131 63 = oPush (.int (1)) 64 := rfl
theorem c131_64 : xT 131 64 = oBin (fun x y => x + y) 65 := rfl
theorem c131_65 : xT 131 65 = oPuti 12 46 68 := rfl
theorem c131_68 : xT 131 68 = oAld 0 69 := rfl
theorem c131_69 : xT 131 69 = oIld 1 70 := rfl
theorem c131_70 : xT 131 70 = oCallV 13 132 2 73 := rfl
theorem c131_73 : xT 131 73 = oIf (fun x => x = 0) 76 22 := rfl
theorem c131_76 : xT 131 76 = oPush (.int (0)) 77 := rfl
theorem c131_77 : xT 131 77 = oRi (fun x => x = 0 ∨ x = 1) := rfl
theorem c131_78 : xT 131 78 = oTr [0, 1] (oAld 0 79) := rfl
theorem c131_79 : xT 131 79 = oGeti 12 46 82 := rfl
theorem c131_82 : xT 131 82 = oAld 0 83 := rfl
theorem c131_83 : xT 131 83 = oGeti 12 1 86 := rfl
theorem c131_86 : xT 131 86 = oIcmp (fun x y => x = y) 117 89 := rfl
theorem c131_89 : xT 131 89 = oAld 0 90 := rfl
theorem c131_90 : xT 131 90 = oGetp 12 0 93 := rfl
theorem c131_93 : xT 131 93 = oAld 0 94 := rfl
theorem c131_94 : xT 131 94 = oGeti 12 46 97 := rfl
theorem c131_97 : xT 131 97 = oAldi 21 98 := rfl
theorem c131_98 : xT 131 98 = oPush (.int (47)) 100 := rfl
theorem c131_100 : xT 131 100 = oIcmp (fun x y => x = y) 119 103 := rfl
theorem c131_103 : xT 131 103 = oAld 0 104 := rfl
theorem c131_104 : xT 131 104 = oGetp 12 0 107 := rfl
theorem c131_107 : xT 131 107 = oAld 0 108 := rfl
theorem c131_108 : xT 131 108 = oGeti 12 46 111 := rfl
theorem c131_111 : xT 131 111 = oAldi 21 112 := rfl
theorem c131_112 : xT 131 112 = oPush (.int (59)) 114 := rfl
theorem c131_114 : xT 131 114 = oIcmp (fun x y => x = y) 119 117 := rfl
theorem c131_117 : xT 131 117 = oTr [] (oPush (.int (0)) 118) := rfl
theorem c131_118 : xT 131 118 = oRi (fun x => x = 0 ∨ x = 1) := rfl
theorem c131_119 : xT 131 119 = oTr [0, 1] (oAld 0 120) := rfl
theorem c131_120 : xT 131 120 = oGetp 12 7 123 := rfl
theorem c131_123 : xT 131 123 = oIld 1 124 := rfl
theorem c131_124 : xT 131 124 = oAld 0 125 := rfl
theorem c131_125 : xT 131 125 = oGetp 12 0 128 := rfl
theorem c131_128 : xT 131 128 = oAld 0 129 := rfl
theorem c131_129 : xT 131 129 = oGeti 12 46 132 := rfl
theorem c131_132 : xT 131 132 = oAldi 21 133 := rfl
theorem c131_133 : xT 131 133 = oPush (.int (47)) 135 := rfl
theorem c131_135 : xT 131 135 = oIcmp (fun x y => x = y) 138 142 := rfl
theorem c131_138 : xT 131 138 = oPush (.int (1)) 139 := rfl
theorem c131_139 : xT 131 139 = oGoto 143 := rfl
theorem c131_142 : xT 131 142 = oPush (.int (0)) 143 := rfl
theorem c131_143 : xT 131 143 = oTr [0] (oAsti 22 (vp_nar .boolean) 144) := rfl
theorem c131_144 : xT 131 144 = oAld 0 145 := rfl
theorem c131_145 : xT 131 145 = oDup 146 := rfl
theorem c131_146 : xT 131 146 = oGeti 12 46 149 := rfl
theorem c131_149 : xT 131 149 = oPush (.int (1)) 150 := rfl
theorem c131_150 : xT 131 150 = oBin (fun x y => x + y) 151 := rfl
theorem c131_151 : xT 131 151 = oPuti 12 46 154 := rfl
theorem c131_154 : xT 131 154 = oAld 0 155 := rfl
theorem c131_155 : xT 131 155 = oGeti 12 46 158 := rfl
theorem c131_158 : xT 131 158 = oAld 0 159 := rfl
theorem c131_159 : xT 131 159 = oGeti 12 1 162 := rfl
theorem c131_162 : xT 131 162 = oIcmp (fun x y => x = y) 165 169 := rfl
theorem c131_165 : xT 131 165 = oPush (.int (1)) 166 := rfl
theorem c131_166 : xT 131 166 = oGoto 170 := rfl
theorem c131_169 : xT 131 169 = oPush (.int (0)) 170 := rfl
theorem c131_170 : xT 131 170 = oTr [] (oRi (fun x => x = 0 ∨ x = 1)) := rfl
theorem c132_0 : xT 132 0 = oAld 0 1 := rfl
theorem c132_1 : xT 132 1 = oGeti 12 46 4 := rfl
theorem c132_4 : xT 132 4 = oAld 0 5 := rfl
theorem c132_5 : xT 132 5 = oGeti 12 1 8 := rfl
theorem c132_8 : xT 132 8 = oIcmp (fun x y => x = y) 39 11 := rfl
theorem c132_11 : xT 132 11 = oAld 0 12 := rfl
theorem c132_12 : xT 132 12 = oGetp 12 0 15 := rfl
theorem c132_15 : xT 132 15 = oAld 0 16 := rfl
theorem c132_16 : xT 132 16 = oGeti 12 46 19 := rfl
theorem c132_19 : xT 132 19 = oAldi 21 20 := rfl
theorem c132_20 : xT 132 20 = oPush (.int (97)) 22 := rfl
theorem c132_22 : xT 132 22 = oIcmp (fun x y => x < y) 39 25 := rfl
theorem c132_25 : xT 132 25 = oAld 0 26 := rfl
theorem c132_26 : xT 132 26 = oGetp 12 0 29 := rfl
theorem c132_29 : xT 132 29 = oAld 0 30 := rfl
theorem c132_30 : xT 132 30 = oGeti 12 46 33 := rfl
theorem c132_33 : xT 132 33 = oAldi 21 34 := rfl
theorem c132_34 : xT 132 34 = oPush (.int (104)) 36 := rfl
theorem c132_36 : xT 132 36 = oIcmp (fun x y => x ≤ y) 41 39 := rfl
theorem c132_39 : xT 132 39 = oTr [] (oPush (.int (0)) 40) := rfl
theorem c132_40 : xT 132 40 = oRi (fun x => x = 0 ∨ x = 1) := rfl
theorem c132_41 : xT 132 41 = oPush (.int (10)) 43 := rfl
theorem c132_43 : xT 132 43 = oIld 1 44 := rfl
theorem c132_44 : xT 132 44 = oBin (fun x y => x * y) 45 := rfl
theorem c132_45 : xT 132 45 = oAld 0 46 := rfl
theorem c132_46 : xT 132 46 = oGetp 12 3 49 := rfl
theorem c132_49 : xT 132 49 = oIld 1 50 := rfl
theorem c132_50 : xT 132 50 = oAldi 20 51 := rfl
theorem c132_51 : xT 132 51 = oBin (fun x y => x + y) 52 := rfl
theorem c132_52 : xT 132 52 = oIst 2 53 5 := rfl
theorem c132_53 : xT 132 53 = oAld 0 54 := rfl
theorem c132_54 : xT 132 54 = oGetp 12 5 57 := rfl
theorem c132_57 : xT 132 57 = oIld 2 58 := rfl
theorem c132_58 : xT 132 58 = oAld 0 59 := rfl
theorem c132_59 : xT 132 59 = oGetp 12 0 62 := rfl
theorem c132_62 : xT 132 62 = oAld 0 63 := rfl
theorem c132_63 : xT 132 63 = oGeti 12 46 66 := rfl
theorem c132_66 : xT 132 66 = oAldi 21 67 := rfl
theorem c132_67 : xT 132 67 = oPush (.int (97)) 69 := rfl
theorem c132_69 : xT 132 69 = oBin (fun x y => x - y) 70 := rfl
theorem c132_70 : xT 132 70 = oAsti 20 (fun x => x) 71 := rfl
theorem c132_71 : xT 132 71 = oAld 0 72 := rfl
theorem c132_72 : xT 132 72 = oDup 73 := rfl
theorem c132_73 : xT 132 73 = oGeti 12 46 76 := rfl
theorem c132_76 : xT 132 76 = oPush (.int (1)) 77 := rfl
theorem c132_77 : xT 132 77 = oBin (fun x y => x + y) 78 := rfl
theorem c132_78 : xT 132 78 = oPuti 12 46 81 := rfl
theorem c132_81 : xT 132 81 = oAld 0 82 := rfl
theorem c132_82 : xT 132 82 = oPush (.int (1)) 83 := rfl
theorem c132_83 : xT 132 83 = oCallV 13 133 2 86 := rfl
theorem c132_86 : xT 132 86 = oIf (fun x => x = 0) 89 91 := rfl
theorem c132_89 : xT 132 89 = oPush (.int (0)) 90 := rfl
theorem c132_90 : xT 132 90 = oRi (fun x => x = 0 ∨ x = 1) := rfl
theorem c132_91 : xT 132 91 = oPush (.int (0)) 92 := rfl
theorem c132_92 : xT 132 92 = oIst 3 93 5 := rfl
theorem c132_93 : xT 132 93 = oPush (.int (0)) 94 := rfl
theorem c132_94 : xT 132 94 = oIst 4 96 5 := rfl
theorem c132_96 : xT 132 96 = oTr [0, 1, 2, 3, 4] (oIld 4 98) := rfl
theorem c132_98 : xT 132 98 = oPush (.int (3)) 99 := rfl
theorem c132_99 : xT 132 99 = oIcmp (fun x y => y ≤ x) 144 102 := rfl
theorem c132_102 : xT 132 102 = oAld 0 103 := rfl
theorem c132_103 : xT 132 103 = oPush (.int (0)) 104 := rfl
theorem c132_104 : xT 132 104 = oCallV 13 133 2 107 := rfl
theorem c132_107 : xT 132 107 = oIf (fun x => x = 0) 144 110 := rfl
theorem c132_110 : xT 132 110 = oPush (.int (10)) 112 := rfl
theorem c132_112 : xT 132 112 = oIld 3 113 := rfl
theorem c132_113 : xT 132 113 = oBin (fun x y => x * y) 114 := rfl
theorem c132_114 : xT 132 114 = oAld 0 115 := rfl
theorem c132_115 : xT 132 115 = oGetp 12 0 118 := rfl
theorem c132_118 : xT 132 118 = oAld 0 119 := rfl
theorem c132_119 : xT 132 119 = oGeti 12 46 122 := rfl
theorem c132_122 : xT 132 122 = oAldi 21 123 := rfl
theorem c132_123 : xT 132 123 = oBin (fun x y => x + y) 124 := rfl
theorem c132_124 : xT 132 124 = oPush (.int (48)) 126 := rfl
theorem c132_126 : xT 132 126 = oBin (fun x y => x - y) 127 := rfl
theorem c132_127 : xT 132 127 = oIst 3 128 5 := rfl
theorem c132_128 : xT 132 128 = oAld 0 129 := rfl
theorem c132_129 : xT 132 129 = oDup 130 := rfl
theorem c132_130 : xT 132 130 = oGeti 12 46 133 := rfl
theorem c132_133 : xT 132 133 = oPush (.int (1)) 134 := rfl
theorem c132_134 : xT 132 134 = oBin (fun x y => x + y) 135 := rfl
theorem c132_135 : xT 132 135 = oPuti 12 46 138 := rfl
theorem c132_138 : xT 132 138 = oIinc 4 (1) 141 5 := rfl
theorem c132_141 : xT 132 141 = oGoto 96 := rfl
theorem c132_144 : xT 132 144 = oTr [0, 1, 2, 3] (oAld 0 145) := rfl
theorem c132_145 : xT 132 145 = oGetp 12 6 148 := rfl
theorem c132_148 : xT 132 148 = oIld 2 149 := rfl
theorem c132_149 : xT 132 149 = oIld 3 150 := rfl
theorem c132_150 : xT 132 150 = oAsti 20 (fun x => x) 151 := rfl
theorem c132_151 : xT 132 151 = oAld 0 152 := rfl
theorem c132_152 : xT 132 152 = oGetp 12 3 155 := rfl
theorem c132_155 : xT 132 155 = oIld 1 156 := rfl
theorem c132_156 : xT 132 156 = oDup2 157 := rfl
theorem c132_157 : xT 132 157 = oAldi 20 158 := rfl
theorem c132_158 : xT 132 158 = oPush (.int (1)) 159 := rfl
theorem c132_159 : xT 132 159 = oBin (fun x y => x + y) 160 := rfl
theorem c132_160 : xT 132 160 = oAsti 20 (fun x => x) 161 := rfl
theorem c132_161 : xT 132 161 = oPush (.int (1)) 162 := rfl
theorem c132_162 : xT 132 162 = oRi (fun x => x = 0 ∨ x = 1) := rfl
theorem c133_0 : xT 133 0 = oAld 0 1 := rfl
theorem c133_1 : xT 133 1 = oGeti 12 46 4 := rfl
theorem c133_4 : xT 133 4 = oAld 0 5 := rfl
theorem c133_5 : xT 133 5 = oGeti 12 1 8 := rfl
theorem c133_8 : xT 133 8 = oIcmp (fun x y => y ≤ x) 45 11 := rfl
theorem c133_11 : xT 133 11 = oAld 0 12 := rfl
theorem c133_12 : xT 133 12 = oGetp 12 0 15 := rfl
theorem c133_15 : xT 133 15 = oAld 0 16 := rfl
theorem c133_16 : xT 133 16 = oGeti 12 46 19 := rfl
theorem c133_19 : xT 133 19 = oAldi 21 20 := rfl
theorem c133_20 : xT 133 20 = oPush (.int (48)) 22 := rfl
theorem c133_22 : xT 133 22 = oIld 1 23 := rfl
theorem c133_23 : xT 133 23 = oBin (fun x y => x + y) 24 := rfl
theorem c133_24 : xT 133 24 = oIcmp (fun x y => x < y) 45 27 := rfl
theorem c133_27 : xT 133 27 = oAld 0 28 := rfl
theorem c133_28 : xT 133 28 = oGetp 12 0 31 := rfl
theorem c133_31 : xT 133 31 = oAld 0 32 := rfl
theorem c133_32 : xT 133 32 = oGeti 12 46 35 := rfl
theorem c133_35 : xT 133 35 = oAldi 21 36 := rfl
theorem c133_36 : xT 133 36 = oPush (.int (57)) 38 := rfl
theorem c133_38 : xT 133 38 = oIcmp (fun x y => y < x) 45 41 := rfl
theorem c133_41 : xT 133 41 = oPush (.int (1)) 42 := rfl
theorem c133_42 : xT 133 42 = oGoto 46 := rfl
theorem c133_45 : xT 133 45 = oTr [] (oPush (.int (0)) 46) := rfl
theorem c133_46 : xT 133 46 = oTr [] (oRi (fun x => x = 0 ∨ x = 1)) := rfl
theorem c134_0 : xT 134 0 = oAld 0 1 := rfl
theorem c134_1 : xT 134 1 = oIld 1 2 := rfl
theorem c134_2 : xT 134 2 = oCallV 13 135 2 5 := rfl
theorem c134_5 : xT 134 5 = oIf (fun x => x = 0) 18 8 := rfl
theorem c134_8 : xT 134 8 = oAld 0 9 := rfl
theorem c134_9 : xT 134 9 = oIld 2 10 := rfl
theorem c134_10 : xT 134 10 = oPush (.int (0)) 11 := rfl
theorem c134_11 : xT 134 11 = oPush (.int (2)) 12 := rfl
theorem c134_12 : xT 134 12 = oCallV 13 129 4 15 := rfl
theorem c134_15 : xT 134 15 = oIf (fun x => x = 0) 18 21 := rfl
theorem c134_18 : xT 134 18 = oTr [] (oPush (.int (-2)) 20) := rfl
theorem c134_20 : xT 134 20 = oRi (fun _ => True) := rfl
theorem c134_21 : xT 134 21 = oIld 2 22 := rfl
theorem c134_22 : xT 134 22 = oIf (fun x => x = 0) 25 34 := rfl
theorem c134_25 : xT 134 25 = oAld 0 26 := rfl
theorem c134_26 : xT 134 26 = oGetp 12 4 29 := rfl
theorem c134_29 : xT 134 29 = oIld 1 30 := rfl
theorem c134_30 : xT 134 30 = oAldi 20 31 := rfl
theorem c134_31 : xT 134 31 = oGoto 62 := rfl
theorem c134_34 : xT 134 34 = oIld 2 35 := rfl
theorem c134_35 : xT 134 35 = oPush (.int (1)) 36 := rfl
theorem c134_36 : xT 134 36 = oIcmp (fun x y => x = y) 39 48 := rfl
theorem c134_39 : xT 134 39 = oAld 0 40 := rfl
theorem c134_40 : xT 134 40 = oGetp 12 3 43 := rfl
theorem c134_43 : xT 134 43 = oIld 1 44 := rfl
theorem c134_44 : xT 134 44 = oAldi 20 45 := rfl
theorem c134_45 : xT 134 45 = oGoto 62 := rfl
theorem c134_48 : xT 134 48 = oAld 0 49 := rfl
theorem c134_49 : xT 134 49 = oGetp 12 7 52 := rfl
theorem c134_52 : xT 134 52 = oIld 1 53 := rfl
theorem c134_53 : xT 134 53 = oAldi 22 54 := rfl
theorem c134_54 : xT 134 54 = oIf (fun x => x = 0) 61 57 := rfl
theorem c134_57 : xT 134 57 = oPush (.int (1)) 58 := rfl
theorem c134_58 : xT 134 58 = oGoto 62 := rfl
theorem c134_61 : xT 134 61 = oPush (.int (0)) 62 := rfl
theorem c134_62 : xT 134 62 = oTr [] (oRi (fun _ => True)) := rfl
theorem c135_0 : xT 135 0 = oAld 0 1 := rfl
theorem c135_1 : xT 135 1 = oIld 1 2 := rfl
theorem c135_2 : xT 135 2 = oPush (.int (0)) 3 := rfl
theorem c135_3 : xT 135 3 = oAld 0 4 := rfl
theorem c135_4 : xT 135 4 = oGeti 12 2 7 := rfl
theorem c135_7 : xT 135 7 = oPush (.int (1)) 8 := rfl
theorem c135_8 : xT 135 8 = oBin (fun x y => x - y) 9 := rfl
theorem c135_9 : xT 135 9 = oCallV 13 129 4 12 := rfl
theorem c135_12 : xT 135 12 = oRi (fun x => x = 0 ∨ x = 1) := rfl
theorem c136_0 : xT 136 0 = oAld 0 1 := rfl
theorem c136_1 : xT 136 1 = oIld 1 2 := rfl
theorem c136_2 : xT 136 2 = oCallV 13 135 2 5 := rfl
theorem c136_5 : xT 136 5 = oIf (fun x => x = 0) 35 8 := rfl
theorem c136_8 : xT 136 8 = oAld 0 9 := rfl
theorem c136_9 : xT 136 9 = oIld 2 10 := rfl
theorem c136_10 : xT 136 10 = oPush (.int (0)) 11 := rfl
theorem c136_11 : xT 136 11 = oAld 0 12 := rfl
theorem c136_12 : xT 136 12 = oGetp 12 3 15 := rfl
theorem c136_15 : xT 136 15 = oIld 1 16 := rfl
theorem c136_16 : xT 136 16 = oAldi 20 17 := rfl
theorem c136_17 : xT 136 17 = oPush (.int (1)) 18 := rfl
theorem c136_18 : xT 136 18 = oBin (fun x y => x - y) 19 := rfl
theorem c136_19 : xT 136 19 = oCallV 13 129 4 22 := rfl
theorem c136_22 : xT 136 22 = oIf (fun x => x = 0) 35 25 := rfl
theorem c136_25 : xT 136 25 = oAld 0 26 := rfl
theorem c136_26 : xT 136 26 = oIld 3 27 := rfl
theorem c136_27 : xT 136 27 = oPush (.int (0)) 28 := rfl
theorem c136_28 : xT 136 28 = oPush (.int (2)) 29 := rfl
theorem c136_29 : xT 136 29 = oCallV 13 129 4 32 := rfl
theorem c136_32 : xT 136 32 = oIf (fun x => x = 0) 35 38 := rfl
theorem c136_35 : xT 136 35 = oTr [] (oPush (.int (-2)) 37) := rfl
theorem c136_37 : xT 136 37 = oRi (fun _ => True) := rfl
theorem c136_38 : xT 136 38 = oIld 3 39 := rfl
theorem c136_39 : xT 136 39 = oIf (fun x => x = 0) 42 56 := rfl
theorem c136_42 : xT 136 42 = oAld 0 43 := rfl
theorem c136_43 : xT 136 43 = oGetp 12 5 46 := rfl
theorem c136_46 : xT 136 46 = oPush (.int (10)) 48 := rfl
theorem c136_48 : xT 136 48 = oIld 1 49 := rfl
theorem c136_49 : xT 136 49 = oBin (fun x y => x * y) 50 := rfl
theorem c136_50 : xT 136 50 = oIld 2 51 := rfl
theorem c136_51 : xT 136 51 = oBin (fun x y => x + y) 52 := rfl
theorem c136_52 : xT 136 52 = oAldi 20 53 := rfl
theorem c136_53 : xT 136 53 = oGoto 81 := rfl
theorem c136_56 : xT 136 56 = oIld 3 57 := rfl
theorem c136_57 : xT 136 57 = oPush (.int (1)) 58 := rfl
theorem c136_58 : xT 136 58 = oIcmp (fun x y => x = y) 61 75 := rfl
theorem c136_61 : xT 136 61 = oAld 0 62 := rfl
theorem c136_62 : xT 136 62 = oGetp 12 6 65 := rfl
theorem c136_65 : xT 136 65 = oPush (.int (10)) 67 := rfl
theorem c136_67 : xT 136 67 = oIld 1 68 := rfl
theorem c136_68 : xT 136 68 = oBin (fun x y => x * y) 69 := rfl
theorem c136_69 : xT 136 69 = oIld 2 70 := rfl
theorem c136_70 : xT 136 70 = oBin (fun x y => x + y) 71 := rfl
theorem c136_71 : xT 136 71 = oAldi 20 72 := rfl
theorem c136_72 : xT 136 72 = oGoto 81 := rfl
theorem c136_75 : xT 136 75 = oAld 0 76 := rfl
theorem c136_76 : xT 136 76 = oIld 1 77 := rfl
theorem c136_77 : xT 136 77 = oIld 2 78 := rfl
theorem c136_78 : xT 136 78 = oCallV 13 137 3 81 := rfl
theorem c136_81 : xT 136 81 = oTr [] (oRi (fun _ => True)) := rfl
theorem c137_0 : xT 137 0 = oPush (.int (0)) 1 := rfl
theorem c137_1 : xT 137 1 = oIst 3 2 5 := rfl
theorem c137_2 : xT 137 2 = oPush (.int (0)) 3 := rfl
theorem c137_3 : xT 137 3 = oIst 4 5 5 := rfl
theorem c137_5 : xT 137 5 = oTr [0, 1, 2, 3, 4] (oIld 4 7) := rfl
theorem c137_7 : xT 137 7 = oIld 2 8 := rfl
theorem c137_8 : xT 137 8 = oIcmp (fun x y => y ≤ x) 32 11 := rfl
theorem c137_11 : xT 137 11 = oIld 3 12 := rfl
theorem c137_12 : xT 137 12 = oAld 0 13 := rfl
theorem c137_13 : xT 137 13 = oGetp 12 6 16 := rfl
theorem c137_16 : xT 137 16 = oPush (.int (10)) 18 := rfl
theorem c137_18 : xT 137 18 = oIld 1 19 := rfl
theorem c137_19 : xT 137 19 = oBin (fun x y => x * y) 20 := rfl
theorem c137_20 : xT 137 20 = oIld 4 22 := rfl
theorem c137_22 : xT 137 22 = oBin (fun x y => x + y) 23 := rfl
theorem c137_23 : xT 137 23 = oAldi 20 24 := rfl
theorem c137_24 : xT 137 24 = oBin (fun x y => x + y) 25 := rfl
theorem c137_25 : xT 137 25 = oIst 3 26 5 := rfl
theorem c137_26 : xT 137 26 = oIinc 4 (1) 29 5 := rfl
theorem c137_29 : xT 137 29 = oGoto 5 := rfl
theorem c137_32 : xT 137 32 = oIld 3 33 := rfl
theorem c137_33 : xT 137 33 = oAld 0 34 := rfl
theorem c137_34 : xT 137 34 = oGetp 12 6 37 := rfl
theorem c137_37 : xT 137 37 = oPush (.int (10)) 39 := rfl
theorem c137_39 : xT 137 39 = oIld 1 40 := rfl
theorem c137_40 : xT 137 40 = oBin (fun x y => x * y) 41 := rfl
theorem c137_41 : xT 137 41 = oIld 2 42 := rfl
theorem c137_42 : xT 137 42 = oBin (fun x y => x + y) 43 := rfl
theorem c137_43 : xT 137 43 = oAldi 20 44 := rfl
theorem c137_44 : xT 137 44 = oPush (.int (1)) 45 := rfl
theorem c137_45 : xT 137 45 = oBin (fun x y => x - y) 46 := rfl
theorem c137_46 : xT 137 46 = oPush (.int (2)) 47 := rfl
theorem c137_47 : xT 137 47 = oDiv (fun x y => x / y) 48 := rfl
theorem c137_48 : xT 137 48 = oBin (fun x y => x + y) 49 := rfl
theorem c137_49 : xT 137 49 = oRi (fun _ => True) := rfl
theorem c138_0 : xT 138 0 = oAld 0 1 := rfl
theorem c138_1 : xT 138 1 = oIld 1 2 := rfl
theorem c138_2 : xT 138 2 = oCallV 13 135 2 5 := rfl
theorem c138_5 : xT 138 5 = oIf (fun x => x = 0) 21 8 := rfl
theorem c138_8 : xT 138 8 = oIld 2 9 := rfl
theorem c138_9 : xT 138 9 = oIf (fun x => x < 0) 21 12 := rfl
theorem c138_12 : xT 138 12 = oAld 0 13 := rfl
theorem c138_13 : xT 138 13 = oIld 1 14 := rfl
theorem c138_14 : xT 138 14 = oIld 2 15 := rfl
theorem c138_15 : xT 138 15 = oCallV 13 139 3 18 := rfl
theorem c138_18 : xT 138 18 = oGoto 23 := rfl
theorem c138_21 : xT 138 21 = oTr [] (oPush (.int (-2)) 23) := rfl
theorem c138_23 : xT 138 23 = oTr [] (oRi (fun _ => True)) := rfl
theorem c139_0 : xT 139 0 = oIld 2 1 := rfl
theorem c139_1 : xT 139 1 = oAld 0 2 := rfl
theorem c139_2 : xT 139 2 = oGetp 12 4 5 := rfl
theorem c139_5 : xT 139 5 = oIld 1 6 := rfl
theorem c139_6 : xT 139 6 = oAldi 20 7 := rfl
theorem c139_7 : xT 139 7 = oDiv (fun x y => x - x / y * y) 8 := rfl
theorem c139_8 : xT 139 8 = oIst 3 9 5 := rfl
theorem c139_9 : xT 139 9 = oPush (.int (0)) 10 := rfl
theorem c139_10 : xT 139 10 = oIst 4 12 5 := rfl
theorem c139_12 : xT 139 12 = oTr [0, 1, 3, 4] (oIld 4 14) := rfl
theorem c139_14 : xT 139 14 = oAld 0 15 := rfl
theorem c139_15 : xT 139 15 = oGetp 12 3 18 := rfl
theorem c139_18 : xT 139 18 = oIld 1 19 := rfl
theorem c139_19 : xT 139 19 = oAldi 20 20 := rfl
theorem c139_20 : xT 139 20 = oIcmp (fun x y => y ≤ x) 73 23 := rfl
theorem c139_23 : xT 139 23 = oIld 3 24 := rfl
theorem c139_24 : xT 139 24 = oAld 0 25 := rfl
theorem c139_25 : xT 139 25 = oGetp 12 6 28 := rfl
theorem c139_28 : xT 139 28 = oPush (.int (10)) 30 := rfl
theorem c139_30 : xT 139 30 = oIld 1 31 := rfl
theorem c139_31 : xT 139 31 = oBin (fun x y => x * y) 32 := rfl
theorem c139_32 : xT 139 32 = oIld 4 34 := rfl
theorem c139_34 : xT 139 34 = oBin (fun x y => x + y) 35 := rfl
theorem c139_35 : xT 139 35 = oAldi 20 36 := rfl
theorem c139_36 : xT 139 36 = oIcmp (fun x y => y ≤ x) 52 39 := rfl
theorem c139_39 : xT 139 39 = oAld 0 40 := rfl
theorem c139_40 : xT 139 40 = oGetp 12 5 43 := rfl
theorem c139_43 : xT 139 43 = oPush (.int (10)) 45 := rfl
theorem c139_45 : xT 139 45 = oIld 1 46 := rfl
theorem c139_46 : xT 139 46 = oBin (fun x y => x * y) 47 := rfl
theorem c139_47 : xT 139 47 = oIld 4 49 := rfl
theorem c139_49 : xT 139 49 = oBin (fun x y => x + y) 50 := rfl
theorem c139_50 : xT 139 50 = oAldi 20 51 := rfl
theorem c139_51 : xT 139 51 = oRi (fun _ => True) := rfl
theorem c139_52 : xT 139 52 = oIld 3 53 := rfl
theorem c139_53 : xT 139 53 = oAld 0 54 := rfl
theorem c139_54 : xT 139 54 = oGetp 12 6 57 := rfl
theorem c139_57 : xT 139 57 = oPush (.int (10)) 59 := rfl
theorem c139_59 : xT 139 59 = oIld 1 60 := rfl
theorem c139_60 : xT 139 60 = oBin (fun x y => x * y) 61 := rfl
theorem c139_61 : xT 139 61 = oIld 4 63 := rfl
theorem c139_63 : xT 139 63 = oBin (fun x y => x + y) 64 := rfl
theorem c139_64 : xT 139 64 = oAldi 20 65 := rfl
theorem c139_65 : xT 139 65 = oBin (fun x y => x - y) 66 := rfl
theorem c139_66 : xT 139 66 = oIst 3 67 5 := rfl
theorem c139_67 : xT 139 67 = oIinc 4 (1) 70 5 := rfl
theorem c139_70 : xT 139 70 = oGoto 12 := rfl
theorem c139_73 : xT 139 73 = oAld 0 74 := rfl
theorem c139_74 : xT 139 74 = oGetp 12 3 77 := rfl
theorem c139_77 : xT 139 77 = oIld 1 78 := rfl
theorem c139_78 : xT 139 78 = oAldi 20 79 := rfl
theorem c139_79 : xT 139 79 = oPush (.int (2)) 80 := rfl
theorem c139_80 : xT 139 80 = oBin (fun x y => x - y) 81 := rfl
theorem c139_81 : xT 139 81 = oIst 4 83 5 := rfl
theorem c139_83 : xT 139 83 = oTr [0, 1, 3, 4] (oIld 4 85) := rfl
theorem c139_85 : xT 139 85 = oIf (fun x => x ≤ 0) 138 88 := rfl
theorem c139_88 : xT 139 88 = oIld 3 89 := rfl
theorem c139_89 : xT 139 89 = oAld 0 90 := rfl
theorem c139_90 : xT 139 90 = oGetp 12 6 93 := rfl
theorem c139_93 : xT 139 93 = oPush (.int (10)) 95 := rfl
theorem c139_95 : xT 139 95 = oIld 1 96 := rfl
theorem c139_96 : xT 139 96 = oBin (fun x y => x * y) 97 := rfl
theorem c139_97 : xT 139 97 = oIld 4 99 := rfl
theorem c139_99 : xT 139 99 = oBin (fun x y => x + y) 100 := rfl
theorem c139_100 : xT 139 100 = oAldi 20 101 := rfl
theorem c139_101 : xT 139 101 = oIcmp (fun x y => y ≤ x) 117 104 := rfl
theorem c139_104 : xT 139 104 = oAld 0 105 := rfl
theorem c139_105 : xT 139 105 = oGetp 12 5 108 := rfl
theorem c139_108 : xT 139 108 = oPush (.int (10)) 110 := rfl
theorem c139_110 : xT 139 110 = oIld 1 111 := rfl
theorem c139_111 : xT 139 111 = oBin (fun x y => x * y) 112 := rfl
theorem c139_112 : xT 139 112 = oIld 4 114 := rfl
theorem c139_114 : xT 139 114 = oBin (fun x y => x + y) 115 := rfl
theorem c139_115 : xT 139 115 = oAldi 20 116 := rfl
theorem c139_116 : xT 139 116 = oRi (fun _ => True) := rfl
theorem c139_117 : xT 139 117 = oIld 3 118 := rfl
theorem c139_118 : xT 139 118 = oAld 0 119 := rfl
theorem c139_119 : xT 139 119 = oGetp 12 6 122 := rfl
theorem c139_122 : xT 139 122 = oPush (.int (10)) 124 := rfl
theorem c139_124 : xT 139 124 = oIld 1 125 := rfl
theorem c139_125 : xT 139 125 = oBin (fun x y => x * y) 126 := rfl
theorem c139_126 : xT 139 126 = oIld 4 128 := rfl
theorem c139_128 : xT 139 128 = oBin (fun x y => x + y) 129 := rfl
theorem c139_129 : xT 139 129 = oAldi 20 130 := rfl
theorem c139_130 : xT 139 130 = oBin (fun x y => x - y) 131 := rfl
theorem c139_131 : xT 139 131 = oIst 3 132 5 := rfl
theorem c139_132 : xT 139 132 = oIinc 4 (-1) 135 5 := rfl
theorem c139_135 : xT 139 135 = oGoto 83 := rfl
theorem c139_138 : xT 139 138 = oPush (.int (-1)) 139 := rfl
theorem c139_139 : xT 139 139 = oRi (fun _ => True) := rfl
theorem c140_0 : xT 140 0 = oAld 0 1 := rfl
theorem c140_1 : xT 140 1 = oIld 1 2 := rfl
theorem c140_2 : xT 140 2 = oCallV 13 135 2 5 := rfl
theorem c140_5 : xT 140 5 = oIf (fun x => x = 0) 30 8 := rfl
theorem c140_8 : xT 140 8 = oAld 0 9 := rfl
theorem c140_9 : xT 140 9 = oIld 2 10 := rfl
theorem c140_10 : xT 140 10 = oPush (.int (0)) 11 := rfl
theorem c140_11 : xT 140 11 = oPush (.int (99999)) 13 := rfl
theorem c140_13 : xT 140 13 = oCallV 13 129 4 16 := rfl
theorem c140_16 : xT 140 16 = oIf (fun x => x = 0) 30 19 := rfl
theorem c140_19 : xT 140 19 = oAld 0 20 := rfl
theorem c140_20 : xT 140 20 = oIld 3 21 := rfl
theorem c140_21 : xT 140 21 = oPush (.int (0)) 22 := rfl
theorem c140_22 : xT 140 22 = oPush (.int (99999)) 24 := rfl
theorem c140_24 : xT 140 24 = oCallV 13 129 4 27 := rfl
theorem c140_27 : xT 140 27 = oIf (fun x => x = 0) 30 33 := rfl
theorem c140_30 : xT 140 30 = oTr [] (oPush (.int (-2)) 32) := rfl
theorem c140_32 : xT 140 32 = oRi (fun _ => True) := rfl
theorem c140_33 : xT 140 33 = oAld 0 34 := rfl
theorem c140_34 : xT 140 34 = oIld 1 35 := rfl
theorem c140_35 : xT 140 35 = oIld 2 36 := rfl
theorem c140_36 : xT 140 36 = oIld 3 37 := rfl
theorem c140_37 : xT 140 37 = oBin (fun x y => x + y) 38 := rfl
theorem c140_38 : xT 140 38 = oPush (.int (4)) 39 := rfl
theorem c140_39 : xT 140 39 = oDiv (fun x y => x - x / y * y) 40 := rfl
theorem c140_40 : xT 140 40 = oPush (.int (2)) 41 := rfl
theorem c140_41 : xT 140 41 = oIcmp (fun x y => y ≤ x) 48 44 := rfl
theorem c140_44 : xT 140 44 = oIld 2 45 := rfl
theorem c140_45 : xT 140 45 = oGoto 49 := rfl
theorem c140_48 : xT 140 48 = oIld 3 49 := rfl
theorem c140_49 : xT 140 49 = oTr [] (oCallV 13 139 3 52) := rfl
theorem c140_52 : xT 140 52 = oRi (fun _ => True) := rfl
theorem c141_0 : xT 141 0 = oAld 0 1 := rfl
theorem c141_1 : xT 141 1 = oIld 1 2 := rfl
theorem c141_2 : xT 141 2 = oCallV 13 135 2 5 := rfl
theorem c141_5 : xT 141 5 = oIf (fun x => x = 0) 21 8 := rfl
theorem c141_8 : xT 141 8 = oAld 0 9 := rfl
theorem c141_9 : xT 141 9 = oIld 2 10 := rfl
theorem c141_10 : xT 141 10 = oPush (.int (100)) 12 := rfl
theorem c141_12 : xT 141 12 = oPush (.int (9999)) 15 := rfl
theorem c141_15 : xT 141 15 = oCallV 13 129 4 18 := rfl
theorem c141_18 : xT 141 18 = oIf (fun x => x = 0) 21 24 := rfl
theorem c141_21 : xT 141 21 = oTr [] (oPush (.int (-2)) 23) := rfl
theorem c141_23 : xT 141 23 = oRi (fun _ => True) := rfl
theorem c141_24 : xT 141 24 = oAld 0 25 := rfl
theorem c141_25 : xT 141 25 = oGeti 12 8 28 := rfl
theorem c141_28 : xT 141 28 = oPush (.int (4)) 29 := rfl
theorem c141_29 : xT 141 29 = oIcmp (fun x y => x = y) 32 35 := rfl
theorem c141_32 : xT 141 32 = oPush (.int (-4)) 34 := rfl
theorem c141_34 : xT 141 34 = oRi (fun _ => True) := rfl
theorem c141_35 : xT 141 35 = oAld 0 36 := rfl
theorem c141_36 : xT 141 36 = oGetp 12 9 39 := rfl
theorem c141_39 : xT 141 39 = oAld 0 40 := rfl
theorem c141_40 : xT 141 40 = oGeti 12 8 43 := rfl
theorem c141_43 : xT 141 43 = oIld 1 44 := rfl
theorem c141_44 : xT 141 44 = oAsti 20 (fun x => x) 45 := rfl
theorem c141_45 : xT 141 45 = oAld 0 46 := rfl
theorem c141_46 : xT 141 46 = oGetp 12 10 49 := rfl
theorem c141_49 : xT 141 49 = oAld 0 50 := rfl
theorem c141_50 : xT 141 50 = oGeti 12 8 53 := rfl
theorem c141_53 : xT 141 53 = oIld 2 54 := rfl
theorem c141_54 : xT 141 54 = oAsti 20 (fun x => x) 55 := rfl
theorem c141_55 : xT 141 55 = oAld 0 56 := rfl
theorem c141_56 : xT 141 56 = oGetp 12 11 59 := rfl
theorem c141_59 : xT 141 59 = oAld 0 60 := rfl
theorem c141_60 : xT 141 60 = oGeti 12 8 63 := rfl
theorem c141_63 : xT 141 63 = oPush (.int (0)) 64 := rfl
theorem c141_64 : xT 141 64 = oAsti 20 (fun x => x) 65 := rfl
theorem c141_65 : xT 141 65 = oAld 0 66 := rfl
theorem c141_66 : xT 141 66 = oDup 67 := rfl
theorem c141_67 : xT 141 67 = oGeti 12 8 70 := rfl
theorem c141_70 : xT 141 70 = oPush (.int (1)) 71 := rfl
theorem c141_71 : xT 141 71 = oBin (fun x y => x + y) 72 := rfl
theorem c141_72 : xT 141 72 = oPuti 12 8 75 := rfl
theorem c141_75 : xT 141 75 = oAld 0 76 := rfl
theorem c141_76 : xT 141 76 = oGeti 12 8 79 := rfl
theorem c141_79 : xT 141 79 = oPush (.int (1)) 80 := rfl
theorem c141_80 : xT 141 80 = oBin (fun x y => x - y) 81 := rfl
theorem c141_81 : xT 141 81 = oRi (fun _ => True) := rfl
theorem c142_0 : xT 142 0 = oAld 0 1 := rfl
theorem c142_1 : xT 142 1 = oIld 1 2 := rfl
theorem c142_2 : xT 142 2 = oCallV 13 143 2 5 := rfl
theorem c142_5 : xT 142 5 = oIf (fun x => x = 0) 35 8 := rfl
theorem c142_8 : xT 142 8 = oAld 0 9 := rfl
theorem c142_9 : xT 142 9 = oIld 2 10 := rfl
theorem c142_10 : xT 142 10 = oPush (.int (0)) 11 := rfl
theorem c142_11 : xT 142 11 = oAld 0 12 := rfl
theorem c142_12 : xT 142 12 = oGetp 12 10 15 := rfl
theorem c142_15 : xT 142 15 = oIld 1 16 := rfl
theorem c142_16 : xT 142 16 = oAldi 20 17 := rfl
theorem c142_17 : xT 142 17 = oPush (.int (1)) 18 := rfl
theorem c142_18 : xT 142 18 = oBin (fun x y => x - y) 19 := rfl
theorem c142_19 : xT 142 19 = oCallV 13 129 4 22 := rfl
theorem c142_22 : xT 142 22 = oIf (fun x => x = 0) 35 25 := rfl
theorem c142_25 : xT 142 25 = oAld 0 26 := rfl
theorem c142_26 : xT 142 26 = oIld 1 27 := rfl
theorem c142_27 : xT 142 27 = oIld 2 28 := rfl
theorem c142_28 : xT 142 28 = oPush (.int (1)) 29 := rfl
theorem c142_29 : xT 142 29 = oCallV 13 144 4 32 := rfl
theorem c142_32 : xT 142 32 = oIf (fun x => x = 0) 38 35 := rfl
theorem c142_35 : xT 142 35 = oTr [] (oPush (.int (-2)) 37) := rfl
theorem c142_37 : xT 142 37 = oRi (fun _ => True) := rfl
theorem c142_38 : xT 142 38 = oAld 0 39 := rfl
theorem c142_39 : xT 142 39 = oGetp 12 11 42 := rfl
theorem c142_42 : xT 142 42 = oIld 1 43 := rfl
theorem c142_43 : xT 142 43 = oAldi 20 44 := rfl
theorem c142_44 : xT 142 44 = oPush (.int (10)) 46 := rfl
theorem c142_46 : xT 142 46 = oIcmp (fun x y => x = y) 49 52 := rfl
theorem c142_49 : xT 142 49 = oPush (.int (-4)) 51 := rfl
theorem c142_51 : xT 142 51 = oRi (fun _ => True) := rfl
theorem c142_52 : xT 142 52 = oAld 0 53 := rfl
theorem c142_53 : xT 142 53 = oGetp 12 12 56 := rfl
theorem c142_56 : xT 142 56 = oPush (.int (10)) 58 := rfl
theorem c142_58 : xT 142 58 = oIld 1 59 := rfl
theorem c142_59 : xT 142 59 = oBin (fun x y => x * y) 60 := rfl
theorem c142_60 : xT 142 60 = oAld 0 61 := rfl
theorem c142_61 : xT 142 61 = oGetp 12 11 64 := rfl
theorem c142_64 : xT 142 64 = oIld 1 65 := rfl
theorem c142_65 : xT 142 65 = oAldi 20 66 := rfl
theorem c142_66 : xT 142 66 = oBin (fun x y => x + y) 67 := rfl
theorem c142_67 : xT 142 67 = oIld 2 68 := rfl
theorem c142_68 : xT 142 68 = oAsti 20 (fun x => x) 69 := rfl
theorem c142_69 : xT 142 69 = oAld 0 70 := rfl
theorem c142_70 : xT 142 70 = oGetp 12 11 73 := rfl
theorem c142_73 : xT 142 73 = oIld 1 74 := rfl
theorem c142_74 : xT 142 74 = oDup2 75 := rfl
theorem c142_75 : xT 142 75 = oAldi 20 76 := rfl
theorem c142_76 : xT 142 76 = oPush (.int (1)) 77 := rfl
theorem c142_77 : xT 142 77 = oBin (fun x y => x + y) 78 := rfl
theorem c142_78 : xT 142 78 = oAsti 20 (fun x => x) 79 := rfl
theorem c142_79 : xT 142 79 = oAld 0 80 := rfl
theorem c142_80 : xT 142 80 = oGetp 12 11 83 := rfl
theorem c142_83 : xT 142 83 = oIld 1 84 := rfl
theorem c142_84 : xT 142 84 = oAldi 20 85 := rfl
theorem c142_85 : xT 142 85 = oRi (fun _ => True) := rfl
theorem c143_0 : xT 143 0 = oAld 0 1 := rfl
theorem c143_1 : xT 143 1 = oIld 1 2 := rfl
theorem c143_2 : xT 143 2 = oPush (.int (0)) 3 := rfl
theorem c143_3 : xT 143 3 = oAld 0 4 := rfl
theorem c143_4 : xT 143 4 = oGeti 12 8 7 := rfl
theorem c143_7 : xT 143 7 = oPush (.int (1)) 8 := rfl
theorem c143_8 : xT 143 8 = oBin (fun x y => x - y) 9 := rfl
theorem c143_9 : xT 143 9 = oCallV 13 129 4 12 := rfl
theorem c143_12 : xT 143 12 = oRi (fun x => x = 0 ∨ x = 1) := rfl
theorem c144_0 : xT 144 0 = oPush (.int (0)) 1 := rfl
theorem c144_1 : xT 144 1 = oIst 4 3 6 := rfl
theorem c144_3 : xT 144 3 = oPush (.int (0)) 4 := rfl
theorem c144_4 : xT 144 4 = oIst 5 6 6 := rfl
theorem c144_6 : xT 144 6 = oTr [0, 1, 2, 3, 4, 5] (oIld 5 8) := rfl
theorem c144_8 : xT 144 8 = oAld 0 9 := rfl
theorem c144_9 : xT 144 9 = oGetp 12 11 12 := rfl
theorem c144_12 : xT 144 12 = oIld 1 13 := rfl
theorem c144_13 : xT 144 13 = oAldi 20 14 := rfl
theorem c144_14 : xT 144 14 = oIcmp (fun x y => y ≤ x) 69 17 := rfl
theorem c144_17 : xT 144 17 = oIld 4 19 := rfl
theorem c144_19 : xT 144 19 = oIf (fun x => x = 0) 22 56 := rfl
theorem c144_22 : xT 144 22 = oAld 0 23 := rfl
theorem c144_23 : xT 144 23 = oGetp 12 12 26 := rfl
theorem c144_26 : xT 144 26 = oPush (.int (10)) 28 := rfl
theorem c144_28 : xT 144 28 = oIld 1 29 := rfl
theorem c144_29 : xT 144 29 = oBin (fun x y => x * y) 30 := rfl
theorem c144_30 : xT 144 30 = oIld 5 32 := rfl
theorem c144_32 : xT 144 32 = oBin (fun x y => x + y) 33 := rfl
theorem c144_33 : xT 144 33 = oAldi 20 34 := rfl
theorem c144_34 : xT 144 34 = oIld 2 35 := rfl
theorem c144_35 : xT 144 35 = oIcmp (fun x y => x < y) 60 38 := rfl
theorem c144_38 : xT 144 38 = oAld 0 39 := rfl
theorem c144_39 : xT 144 39 = oGetp 12 12 42 := rfl
theorem c144_42 : xT 144 42 = oPush (.int (10)) 44 := rfl
theorem c144_44 : xT 144 44 = oIld 1 45 := rfl
theorem c144_45 : xT 144 45 = oBin (fun x y => x * y) 46 := rfl
theorem c144_46 : xT 144 46 = oIld 5 48 := rfl
theorem c144_48 : xT 144 48 = oBin (fun x y => x + y) 49 := rfl
theorem c144_49 : xT 144 49 = oAldi 20 50 := rfl
theorem c144_50 : xT 144 50 = oIld 2 51 := rfl
theorem c144_51 : xT 144 51 = oIld 3 52 := rfl
theorem c144_52 : xT 144 52 = oBin (fun x y => x + y) 53 := rfl
theorem c144_53 : xT 144 53 = oIcmp (fun x y => y ≤ x) 60 56 := rfl
theorem c144_56 : xT 144 56 = oTr [0, 1, 2, 3, 5] (oPush (.int (1)) 57) := rfl
theorem c144_57 : xT 144 57 = oGoto 61 := rfl
theorem c144_60 : xT 144 60 = oTr [0, 1, 2, 3, 5] (oPush (.int (0)) 61) := rfl
theorem c144_61 : xT 144 61 = oTr [0, 1, 2, 3, 5] (oIst 4 63 6) := rfl
theorem c144_63 : xT 144 63 = oIinc 5 (1) 66 6 := rfl
theorem c144_66 : xT 144 66 = oGoto 6 := rfl
theorem c144_69 : xT 144 69 = oIld 4 71 := rfl
theorem c144_71 : xT 144 71 = oRi (fun x => x = 0 ∨ x = 1) := rfl
set_option maxRecDepth 20000 in
theorem c145_0 : xT 145 0 = oIld 2 1 := rfl
set_option maxRecDepth 20000 in
theorem c145_1 : xT 145 1 = oPush (.int (100)) 3 := rfl
set_option maxRecDepth 20000 in
theorem c145_3 : xT 145 3 = oDiv (fun x y => x / y) 4 := rfl
set_option maxRecDepth 20000 in
theorem c145_4 : xT 145 4 = oIst 5 6 11 := rfl
set_option maxRecDepth 20000 in
theorem c145_6 : xT 145 6 = oIld 2 7 := rfl
set_option maxRecDepth 20000 in
theorem c145_7 : xT 145 7 = oPush (.int (100)) 9 := rfl
set_option maxRecDepth 20000 in
theorem c145_9 : xT 145 9 = oDiv (fun x y => x - x / y * y) 10 := rfl
set_option maxRecDepth 20000 in
theorem c145_10 : xT 145 10 = oIst 6 12 11 := rfl
set_option maxRecDepth 20000 in
theorem c145_12 : xT 145 12 = oIld 3 13 := rfl
set_option maxRecDepth 20000 in
theorem c145_13 : xT 145 13 = oPush (.int (100)) 15 := rfl
set_option maxRecDepth 20000 in
theorem c145_15 : xT 145 15 = oDiv (fun x y => x / y) 16 := rfl
set_option maxRecDepth 20000 in
theorem c145_16 : xT 145 16 = oIst 7 18 11 := rfl
set_option maxRecDepth 20000 in
theorem c145_18 : xT 145 18 = oIld 3 19 := rfl
set_option maxRecDepth 20000 in
theorem c145_19 : xT 145 19 = oPush (.int (100)) 21 := rfl
set_option maxRecDepth 20000 in
theorem c145_21 : xT 145 21 = oDiv (fun x y => x - x / y * y) 22 := rfl
set_option maxRecDepth 20000 in
theorem c145_22 : xT 145 22 = oIst 8 24 11 := rfl
set_option maxRecDepth 20000 in
theorem c145_24 : xT 145 24 = oAld 0 25 := rfl
set_option maxRecDepth 20000 in
theorem c145_25 : xT 145 25 = oIld 1 26 := rfl
set_option maxRecDepth 20000 in
theorem c145_26 : xT 145 26 = oPush (.int (0)) 27 := rfl
set_option maxRecDepth 20000 in
theorem c145_27 : xT 145 27 = oPush (.int (5)) 28 := rfl
set_option maxRecDepth 20000 in
theorem c145_28 : xT 145 28 = oCallV 13 129 4 31 := rfl
set_option maxRecDepth 20000 in
theorem c145_31 : xT 145 31 = oIf (fun x => x = 0) 96 34 := rfl
set_option maxRecDepth 20000 in
theorem c145_34 : xT 145 34 = oAld 0 35 := rfl
set_option maxRecDepth 20000 in
theorem c145_35 : xT 145 35 = oIld 5 37 := rfl
set_option maxRecDepth 20000 in
theorem c145_37 : xT 145 37 = oPush (.int (4)) 38 := rfl
set_option maxRecDepth 20000 in
theorem c145_38 : xT 145 38 = oPush (.int (40)) 40 := rfl
set_option maxRecDepth 20000 in
theorem c145_40 : xT 145 40 = oCallV 13 129 4 43 := rfl
set_option maxRecDepth 20000 in
theorem c145_43 : xT 145 43 = oIf (fun x => x = 0) 96 46 := rfl
set_option maxRecDepth 20000 in
theorem c145_46 : xT 145 46 = oAld 0 47 := rfl
set_option maxRecDepth 20000 in
theorem c145_47 : xT 145 47 = oIld 6 49 := rfl
set_option maxRecDepth 20000 in
theorem c145_49 : xT 145 49 = oPush (.int (20)) 51 := rfl
set_option maxRecDepth 20000 in
theorem c145_51 : xT 145 51 = oPush (.int (60)) 53 := rfl
set_option maxRecDepth 20000 in
theorem c145_53 : xT 145 53 = oCallV 13 129 4 56 := rfl
set_option maxRecDepth 20000 in
theorem c145_56 : xT 145 56 = oIf (fun x => x = 0) 96 59 := rfl
set_option maxRecDepth 20000 in
theorem c145_59 : xT 145 59 = oAld 0 60 := rfl
set_option maxRecDepth 20000 in
theorem c145_60 : xT 145 60 = oIld 7 62 := rfl
set_option maxRecDepth 20000 in
theorem c145_62 : xT 145 62 = oPush (.int (4)) 63 := rfl
set_option maxRecDepth 20000 in
theorem c145_63 : xT 145 63 = oPush (.int (24)) 65 := rfl
set_option maxRecDepth 20000 in
theorem c145_65 : xT 145 65 = oCallV 13 129 4 68 := rfl
set_option maxRecDepth 20000 in
theorem c145_68 : xT 145 68 = oIf (fun x => x = 0) 96 71 := rfl
set_option maxRecDepth 20000 in
theorem c145_71 : xT 145 71 = oAld 0 72 := rfl
set_option maxRecDepth 20000 in
theorem c145_72 : xT 145 72 = oIld 8 74 := rfl
set_option maxRecDepth 20000 in
theorem c145_74 : xT 145 74 = oPush (.int (20)) 76 := rfl
set_option maxRecDepth 20000 in
theorem c145_76 : xT 145 76 = oIld 6 78 := rfl
set_option maxRecDepth 20000 in
theorem c145_78 : xT 145 78 = oCallV 13 129 4 81 := rfl
set_option maxRecDepth 20000 in
theorem c145_81 : xT 145 81 = oIf (fun x => x = 0) 96 84 := rfl
set_option maxRecDepth 20000 in
theorem c145_84 : xT 145 84 = oAld 0 85 := rfl
set_option maxRecDepth 20000 in
theorem c145_85 : xT 145 85 = oIld 4 87 := rfl
set_option maxRecDepth 20000 in
theorem c145_87 : xT 145 87 = oPush (.int (0)) 88 := rfl
set_option maxRecDepth 20000 in
theorem c145_88 : xT 145 88 = oPush (.int (9)) 90 := rfl
set_option maxRecDepth 20000 in
theorem c145_90 : xT 145 90 = oCallV 13 129 4 93 := rfl
set_option maxRecDepth 20000 in
theorem c145_93 : xT 145 93 = oIf (fun x => x = 0) 96 99 := rfl
set_option maxRecDepth 20000 in
theorem c145_96 : xT 145 96 = oTr [] (oPush (.int (-2)) 98) := rfl
set_option maxRecDepth 20000 in
theorem c145_98 : xT 145 98 = oRi (fun _ => True) := rfl
set_option maxRecDepth 20000 in
theorem c145_99 : xT 145 99 = oIld 6 101 := rfl
set_option maxRecDepth 20000 in
theorem c145_101 : xT 145 101 = oIld 5 103 := rfl
set_option maxRecDepth 20000 in
theorem c145_103 : xT 145 103 = oBin (fun x y => x * y) 104 := rfl
set_option maxRecDepth 20000 in
theorem c145_104 : xT 145 104 = oPush (.int (2)) 105 := rfl
set_option maxRecDepth 20000 in
theorem c145_105 : xT 145 105 = oIld 7 107 := rfl
set_option maxRecDepth 20000 in
theorem c145_107 : xT 145 107 = oBin (fun x y => x * y) 108 := rfl
set_option maxRecDepth 20000 in
theorem c145_108 : xT 145 108 = oDiv (fun x y => x / y) 109 := rfl
set_option maxRecDepth 20000 in
theorem c145_109 : xT 145 109 = oIst 9 111 11 := rfl
set_option maxRecDepth 20000 in
theorem c145_111 : xT 145 111 = oIld 6 113 := rfl
set_option maxRecDepth 20000 in
theorem c145_113 : xT 145 113 = oIld 8 115 := rfl
set_option maxRecDepth 20000 in
theorem c145_115 : xT 145 115 = oBin (fun x y => x - y) 116 := rfl
set_option maxRecDepth 20000 in
theorem c145_116 : xT 145 116 = oIld 5 118 := rfl
set_option maxRecDepth 20000 in
theorem c145_118 : xT 145 118 = oBin (fun x y => x * y) 119 := rfl
set_option maxRecDepth 20000 in
theorem c145_119 : xT 145 119 = oPush (.int (2)) 120 := rfl
set_option maxRecDepth 20000 in
theorem c145_120 : xT 145 120 = oDiv (fun x y => x / y) 121 := rfl
set_option maxRecDepth 20000 in
theorem c145_121 : xT 145 121 = oIst 10 123 11 := rfl
set_option maxRecDepth 20000 in
theorem c145_123 : xT 145 123 = oIld 10 125 := rfl
set_option maxRecDepth 20000 in
theorem c145_125 : xT 145 125 = oIld 7 127 := rfl
set_option maxRecDepth 20000 in
theorem c145_127 : xT 145 127 = oIld 9 129 := rfl
set_option maxRecDepth 20000 in
theorem c145_129 : xT 145 129 = oPush (.int (1)) 130 := rfl
set_option maxRecDepth 20000 in
theorem c145_130 : xT 145 130 = oBin (fun x y => x - y) 131 := rfl
set_option maxRecDepth 20000 in
theorem c145_131 : xT 145 131 = oBin (fun x y => x * y) 132 := rfl
set_option maxRecDepth 20000 in
theorem c145_132 : xT 145 132 = oIcmp (fun x y => x ≤ y) 138 135 := rfl
set_option maxRecDepth 20000 in
theorem c145_135 : xT 145 135 = oPush (.int (-2)) 137 := rfl
set_option maxRecDepth 20000 in
theorem c145_137 : xT 145 137 = oRi (fun _ => True) := rfl
set_option maxRecDepth 20000 in
theorem c145_138 : xT 145 138 = oAld 0 139 := rfl
set_option maxRecDepth 20000 in
theorem c145_139 : xT 145 139 = oGeti 12 13 142 := rfl
set_option maxRecDepth 20000 in
theorem c145_142 : xT 145 142 = oPush (.int (8)) 144 := rfl
set_option maxRecDepth 20000 in
theorem c145_144 : xT 145 144 = oIcmp (fun x y => x = y) 147 150 := rfl
set_option maxRecDepth 20000 in
theorem c145_147 : xT 145 147 = oPush (.int (-4)) 149 := rfl
set_option maxRecDepth 20000 in
theorem c145_149 : xT 145 149 = oRi (fun _ => True) := rfl
set_option maxRecDepth 20000 in
theorem c145_150 : xT 145 150 = oAld 0 151 := rfl
set_option maxRecDepth 20000 in
theorem c145_151 : xT 145 151 = oGetp 12 14 154 := rfl
set_option maxRecDepth 20000 in
theorem c145_154 : xT 145 154 = oAld 0 155 := rfl
set_option maxRecDepth 20000 in
theorem c145_155 : xT 145 155 = oGeti 12 13 158 := rfl
set_option maxRecDepth 20000 in
theorem c145_158 : xT 145 158 = oIld 1 159 := rfl
set_option maxRecDepth 20000 in
theorem c145_159 : xT 145 159 = oAsti 20 (fun x => x) 160 := rfl
set_option maxRecDepth 20000 in
theorem c145_160 : xT 145 160 = oAld 0 161 := rfl
set_option maxRecDepth 20000 in
theorem c145_161 : xT 145 161 = oGetp 12 15 164 := rfl
set_option maxRecDepth 20000 in
theorem c145_164 : xT 145 164 = oAld 0 165 := rfl
set_option maxRecDepth 20000 in
theorem c145_165 : xT 145 165 = oGeti 12 13 168 := rfl
set_option maxRecDepth 20000 in
theorem c145_168 : xT 145 168 = oIld 5 170 := rfl
set_option maxRecDepth 20000 in
theorem c145_170 : xT 145 170 = oAsti 20 (fun x => x) 171 := rfl
set_option maxRecDepth 20000 in
theorem c145_171 : xT 145 171 = oAld 0 172 := rfl
set_option maxRecDepth 20000 in
theorem c145_172 : xT 145 172 = oGetp 12 16 175 := rfl
set_option maxRecDepth 20000 in
theorem c145_175 : xT 145 175 = oAld 0 176 := rfl
set_option maxRecDepth 20000 in
theorem c145_176 : xT 145 176 = oGeti 12 13 179 := rfl
set_option maxRecDepth 20000 in
theorem c145_179 : xT 145 179 = oIld 6 181 := rfl
set_option maxRecDepth 20000 in
theorem c145_181 : xT 145 181 = oAsti 20 (fun x => x) 182 := rfl
set_option maxRecDepth 20000 in
theorem c145_182 : xT 145 182 = oAld 0 183 := rfl
set_option maxRecDepth 20000 in
theorem c145_183 : xT 145 183 = oGetp 12 17 186 := rfl
set_option maxRecDepth 20000 in
theorem c145_186 : xT 145 186 = oAld 0 187 := rfl
set_option maxRecDepth 20000 in
theorem c145_187 : xT 145 187 = oGeti 12 13 190 := rfl
set_option maxRecDepth 20000 in
theorem c145_190 : xT 145 190 = oIld 8 192 := rfl
set_option maxRecDepth 20000 in
theorem c145_192 : xT 145 192 = oAsti 20 (fun x => x) 193 := rfl
set_option maxRecDepth 20000 in
theorem c145_193 : xT 145 193 = oAld 0 194 := rfl
set_option maxRecDepth 20000 in
theorem c145_194 : xT 145 194 = oGetp 12 18 197 := rfl
set_option maxRecDepth 20000 in
theorem c145_197 : xT 145 197 = oAld 0 198 := rfl
set_option maxRecDepth 20000 in
theorem c145_198 : xT 145 198 = oGeti 12 13 201 := rfl
set_option maxRecDepth 20000 in
theorem c145_201 : xT 145 201 = oIld 7 203 := rfl
set_option maxRecDepth 20000 in
theorem c145_203 : xT 145 203 = oAsti 20 (fun x => x) 204 := rfl
set_option maxRecDepth 20000 in
theorem c145_204 : xT 145 204 = oAld 0 205 := rfl
set_option maxRecDepth 20000 in
theorem c145_205 : xT 145 205 = oGetp 12 19 208 := rfl
set_option maxRecDepth 20000 in
theorem c145_208 : xT 145 208 = oAld 0 209 := rfl
set_option maxRecDepth 20000 in
theorem c145_209 : xT 145 209 = oGeti 12 13 212 := rfl
set_option maxRecDepth 20000 in
theorem c145_212 : xT 145 212 = oIld 4 214 := rfl
set_option maxRecDepth 20000 in
theorem c145_214 : xT 145 214 = oAsti 20 (fun x => x) 215 := rfl
set_option maxRecDepth 20000 in
theorem c145_215 : xT 145 215 = oAld 0 216 := rfl
set_option maxRecDepth 20000 in
theorem c145_216 : xT 145 216 = oGetp 12 20 219 := rfl
set_option maxRecDepth 20000 in
theorem c145_219 : xT 145 219 = oAld 0 220 := rfl
set_option maxRecDepth 20000 in
theorem c145_220 : xT 145 220 = oGeti 12 13 223 := rfl
set_option maxRecDepth 20000 in
theorem c145_223 : xT 145 223 = oIld 9 225 := rfl
set_option maxRecDepth 20000 in
theorem c145_225 : xT 145 225 = oAsti 20 (fun x => x) 226 := rfl
set_option maxRecDepth 20000 in
theorem c145_226 : xT 145 226 = oAld 0 227 := rfl
set_option maxRecDepth 20000 in
theorem c145_227 : xT 145 227 = oGetp 12 21 230 := rfl
set_option maxRecDepth 20000 in
theorem c145_230 : xT 145 230 = oAld 0 231 := rfl
set_option maxRecDepth 20000 in
theorem c145_231 : xT 145 231 = oGeti 12 13 234 := rfl
set_option maxRecDepth 20000 in
theorem c145_234 : xT 145 234 = oIld 6 236 := rfl
set_option maxRecDepth 20000 in
theorem c145_236 : xT 145 236 = oIld 5 238 := rfl
set_option maxRecDepth 20000 in
theorem c145_238 : xT 145 238 = oBin (fun x y => x * y) 239 := rfl
set_option maxRecDepth 20000 in
theorem c145_239 : xT 145 239 = oIld 7 241 := rfl
set_option maxRecDepth 20000 in
theorem c145_241 : xT 145 241 = oIld 9 243 := rfl
set_option maxRecDepth 20000 in
theorem c145_243 : xT 145 243 = oBin (fun x y => x * y) 244 := rfl
set_option maxRecDepth 20000 in
theorem c145_244 : xT 145 244 = oBin (fun x y => x - y) 245 := rfl
set_option maxRecDepth 20000 in
theorem c145_245 : xT 145 245 = oAsti 20 (fun x => x) 246 := rfl
set_option maxRecDepth 20000 in
theorem c145_246 : xT 145 246 = oAld 0 247 := rfl
set_option maxRecDepth 20000 in
theorem c145_247 : xT 145 247 = oGetp 12 22 250 := rfl
set_option maxRecDepth 20000 in
theorem c145_250 : xT 145 250 = oAld 0 251 := rfl
set_option maxRecDepth 20000 in
theorem c145_251 : xT 145 251 = oGeti 12 13 254 := rfl
set_option maxRecDepth 20000 in
theorem c145_254 : xT 145 254 = oIld 10 256 := rfl
set_option maxRecDepth 20000 in
theorem c145_256 : xT 145 256 = oAsti 20 (fun x => x) 257 := rfl
set_option maxRecDepth 20000 in
theorem c145_257 : xT 145 257 = oAld 0 258 := rfl
set_option maxRecDepth 20000 in
theorem c145_258 : xT 145 258 = oGetp 12 23 261 := rfl
set_option maxRecDepth 20000 in
theorem c145_261 : xT 145 261 = oAld 0 262 := rfl
set_option maxRecDepth 20000 in
theorem c145_262 : xT 145 262 = oGeti 12 13 265 := rfl
set_option maxRecDepth 20000 in
theorem c145_265 : xT 145 265 = oPush (.int (-1)) 266 := rfl
set_option maxRecDepth 20000 in
theorem c145_266 : xT 145 266 = oAsti 20 (fun x => x) 267 := rfl
set_option maxRecDepth 20000 in
theorem c145_267 : xT 145 267 = oAld 0 268 := rfl
set_option maxRecDepth 20000 in
theorem c145_268 : xT 145 268 = oDup 269 := rfl
set_option maxRecDepth 20000 in
theorem c145_269 : xT 145 269 = oGeti 12 13 272 := rfl
set_option maxRecDepth 20000 in
theorem c145_272 : xT 145 272 = oPush (.int (1)) 273 := rfl
set_option maxRecDepth 20000 in
theorem c145_273 : xT 145 273 = oBin (fun x y => x + y) 274 := rfl
set_option maxRecDepth 20000 in
theorem c145_274 : xT 145 274 = oPuti 12 13 277 := rfl
set_option maxRecDepth 20000 in
theorem c145_277 : xT 145 277 = oAld 0 278 := rfl
set_option maxRecDepth 20000 in
theorem c145_278 : xT 145 278 = oGeti 12 13 281 := rfl
set_option maxRecDepth 20000 in
theorem c145_281 : xT 145 281 = oPush (.int (1)) 282 := rfl
set_option maxRecDepth 20000 in
theorem c145_282 : xT 145 282 = oBin (fun x y => x - y) 283 := rfl
set_option maxRecDepth 20000 in
theorem c145_283 : xT 145 283 = oRi (fun _ => True) := rfl
theorem c146_0 : xT 146 0 = oAld 0 1 := rfl
theorem c146_1 : xT 146 1 = oIld 1 2 := rfl
theorem c146_2 : xT 146 2 = oCallV 13 147 2 5 := rfl
theorem c146_5 : xT 146 5 = oIf (fun x => x = 0) 8 11 := rfl
theorem c146_8 : xT 146 8 = oPush (.int (-2)) 10 := rfl
theorem c146_10 : xT 146 10 = oRi (fun _ => True) := rfl
theorem c146_11 : xT 146 11 = oIld 2 12 := rfl
theorem c146_12 : xT 146 12 = oSw [(0, 72), (1, 79), (2, 86), (3, 93), (4, 100), (5, 107), (6, 114), (7, 134), (8, 158), (9, 165), (10, 172)] 179 := rfl
theorem c146_72 : xT 146 72 = oAld 0 73 := rfl
theorem c146_73 : xT 146 73 = oGetp 12 14 76 := rfl
theorem c146_76 : xT 146 76 = oIld 1 77 := rfl
theorem c146_77 : xT 146 77 = oAldi 20 78 := rfl
theorem c146_78 : xT 146 78 = oRi (fun _ => True) := rfl
theorem c146_79 : xT 146 79 = oAld 0 80 := rfl
theorem c146_80 : xT 146 80 = oGetp 12 20 83 := rfl
theorem c146_83 : xT 146 83 = oIld 1 84 := rfl
theorem c146_84 : xT 146 84 = oAldi 20 85 := rfl
theorem c146_85 : xT 146 85 = oRi (fun _ => True) := rfl
theorem c146_86 : xT 146 86 = oAld 0 87 := rfl
theorem c146_87 : xT 146 87 = oGetp 12 21 90 := rfl
theorem c146_90 : xT 146 90 = oIld 1 91 := rfl
theorem c146_91 : xT 146 91 = oAldi 20 92 := rfl
theorem c146_92 : xT 146 92 = oRi (fun _ => True) := rfl
theorem c146_93 : xT 146 93 = oAld 0 94 := rfl
theorem c146_94 : xT 146 94 = oGetp 12 22 97 := rfl
theorem c146_97 : xT 146 97 = oIld 1 98 := rfl
theorem c146_98 : xT 146 98 = oAldi 20 99 := rfl
theorem c146_99 : xT 146 99 = oRi (fun _ => True) := rfl
theorem c146_100 : xT 146 100 = oAld 0 101 := rfl
theorem c146_101 : xT 146 101 = oGetp 12 18 104 := rfl
theorem c146_104 : xT 146 104 = oIld 1 105 := rfl
theorem c146_105 : xT 146 105 = oAldi 20 106 := rfl
theorem c146_106 : xT 146 106 = oRi (fun _ => True) := rfl
theorem c146_107 : xT 146 107 = oAld 0 108 := rfl
theorem c146_108 : xT 146 108 = oGetp 12 23 111 := rfl
theorem c146_111 : xT 146 111 = oIld 1 112 := rfl
theorem c146_112 : xT 146 112 = oAldi 20 113 := rfl
theorem c146_113 : xT 146 113 = oRi (fun _ => True) := rfl
theorem c146_114 : xT 146 114 = oAld 0 115 := rfl
theorem c146_115 : xT 146 115 = oGetp 12 23 118 := rfl
theorem c146_118 : xT 146 118 = oIld 1 119 := rfl
theorem c146_119 : xT 146 119 = oAldi 20 120 := rfl
theorem c146_120 : xT 146 120 = oIf (fun x => 0 ≤ x) 127 123 := rfl
theorem c146_123 : xT 146 123 = oPush (.int (-1)) 124 := rfl
theorem c146_124 : xT 146 124 = oGoto 133 := rfl
theorem c146_127 : xT 146 127 = oAld 0 128 := rfl
theorem c146_128 : xT 146 128 = oGetp 12 28 131 := rfl
theorem c146_131 : xT 146 131 = oIld 1 132 := rfl
theorem c146_132 : xT 146 132 = oAldi 20 133 := rfl
theorem c146_133 : xT 146 133 = oTr [] (oRi (fun _ => True)) := rfl
theorem c146_134 : xT 146 134 = oAld 0 135 := rfl
theorem c146_135 : xT 146 135 = oGetp 12 23 138 := rfl
theorem c146_138 : xT 146 138 = oIld 1 139 := rfl
theorem c146_139 : xT 146 139 = oAldi 20 140 := rfl
theorem c146_140 : xT 146 140 = oIf (fun x => x < 0) 156 143 := rfl
theorem c146_143 : xT 146 143 = oAld 0 144 := rfl
theorem c146_144 : xT 146 144 = oGetp 12 31 147 := rfl
theorem c146_147 : xT 146 147 = oIld 1 148 := rfl
theorem c146_148 : xT 146 148 = oAldi 22 149 := rfl
theorem c146_149 : xT 146 149 = oIf (fun x => x = 0) 156 152 := rfl
theorem c146_152 : xT 146 152 = oPush (.int (1)) 153 := rfl
theorem c146_153 : xT 146 153 = oGoto 157 := rfl
theorem c146_156 : xT 146 156 = oTr [] (oPush (.int (0)) 157) := rfl
theorem c146_157 : xT 146 157 = oTr [] (oRi (fun _ => True)) := rfl
theorem c146_158 : xT 146 158 = oAld 0 159 := rfl
theorem c146_159 : xT 146 159 = oGetp 12 15 162 := rfl
theorem c146_162 : xT 146 162 = oIld 1 163 := rfl
theorem c146_163 : xT 146 163 = oAldi 20 164 := rfl
theorem c146_164 : xT 146 164 = oRi (fun _ => True) := rfl
theorem c146_165 : xT 146 165 = oAld 0 166 := rfl
theorem c146_166 : xT 146 166 = oGetp 12 16 169 := rfl
theorem c146_169 : xT 146 169 = oIld 1 170 := rfl
theorem c146_170 : xT 146 170 = oAldi 20 171 := rfl
theorem c146_171 : xT 146 171 = oRi (fun _ => True) := rfl
theorem c146_172 : xT 146 172 = oAld 0 173 := rfl
theorem c146_173 : xT 146 173 = oGetp 12 17 176 := rfl
theorem c146_176 : xT 146 176 = oIld 1 177 := rfl
theorem c146_177 : xT 146 177 = oAldi 20 178 := rfl
theorem c146_178 : xT 146 178 = oRi (fun _ => True) := rfl
theorem c146_179 : xT 146 179 = oPush (.int (-2)) 181 := rfl
theorem c146_181 : xT 146 181 = oRi (fun _ => True) := rfl
theorem c147_0 : xT 147 0 = oAld 0 1 := rfl
theorem c147_1 : xT 147 1 = oIld 1 2 := rfl
theorem c147_2 : xT 147 2 = oPush (.int (0)) 3 := rfl
theorem c147_3 : xT 147 3 = oAld 0 4 := rfl
theorem c147_4 : xT 147 4 = oGeti 12 13 7 := rfl
theorem c147_7 : xT 147 7 = oPush (.int (1)) 8 := rfl
theorem c147_8 : xT 147 8 = oBin (fun x y => x - y) 9 := rfl
theorem c147_9 : xT 147 9 = oCallV 13 129 4 12 := rfl
theorem c147_12 : xT 147 12 = oRi (fun x => x = 0 ∨ x = 1) := rfl
set_option maxRecDepth 20000 in
theorem c148_0 : xT 148 0 = oAld 0 1 := rfl
set_option maxRecDepth 20000 in
theorem c148_1 : xT 148 1 = oIld 1 2 := rfl
set_option maxRecDepth 20000 in
theorem c148_2 : xT 148 2 = oCallV 13 147 2 5 := rfl
set_option maxRecDepth 20000 in
theorem c148_5 : xT 148 5 = oIf (fun x => x = 0) 30 8 := rfl
set_option maxRecDepth 20000 in
theorem c148_8 : xT 148 8 = oAld 0 9 := rfl
set_option maxRecDepth 20000 in
theorem c148_9 : xT 148 9 = oIld 2 10 := rfl
set_option maxRecDepth 20000 in
theorem c148_10 : xT 148 10 = oCallV 13 143 2 13 := rfl
set_option maxRecDepth 20000 in
theorem c148_13 : xT 148 13 = oIf (fun x => x = 0) 30 16 := rfl
set_option maxRecDepth 20000 in
theorem c148_16 : xT 148 16 = oAld 0 17 := rfl
set_option maxRecDepth 20000 in
theorem c148_17 : xT 148 17 = oIld 1 18 := rfl
set_option maxRecDepth 20000 in
theorem c148_18 : xT 148 18 = oAld 0 19 := rfl
set_option maxRecDepth 20000 in
theorem c148_19 : xT 148 19 = oGetp 12 9 22 := rfl
set_option maxRecDepth 20000 in
theorem c148_22 : xT 148 22 = oIld 2 23 := rfl
set_option maxRecDepth 20000 in
theorem c148_23 : xT 148 23 = oAldi 20 24 := rfl
set_option maxRecDepth 20000 in
theorem c148_24 : xT 148 24 = oCallV 13 149 3 27 := rfl
set_option maxRecDepth 20000 in
theorem c148_27 : xT 148 27 = oIf (fun x => x = 0) 30 33 := rfl
set_option maxRecDepth 20000 in
theorem c148_30 : xT 148 30 = oTr [] (oPush (.int (-2)) 32) := rfl
set_option maxRecDepth 20000 in
theorem c148_32 : xT 148 32 = oRi (fun _ => True) := rfl
set_option maxRecDepth 20000 in
theorem c148_33 : xT 148 33 = oAld 0 34 := rfl
set_option maxRecDepth 20000 in
theorem c148_34 : xT 148 34 = oIld 1 35 := rfl
set_option maxRecDepth 20000 in
theorem c148_35 : xT 148 35 = oIld 2 36 := rfl
set_option maxRecDepth 20000 in
theorem c148_36 : xT 148 36 = oAld 0 37 := rfl
set_option maxRecDepth 20000 in
theorem c148_37 : xT 148 37 = oGetp 12 9 40 := rfl
set_option maxRecDepth 20000 in
theorem c148_40 : xT 148 40 = oIld 2 41 := rfl
set_option maxRecDepth 20000 in
theorem c148_41 : xT 148 41 = oAldi 20 42 := rfl
set_option maxRecDepth 20000 in
theorem c148_42 : xT 148 42 = oCallV 13 151 4 45 := rfl
set_option maxRecDepth 20000 in
theorem c148_45 : xT 148 45 = oPush (.int (1000000)) 47 := rfl
set_option maxRecDepth 20000 in
theorem c148_47 : xT 148 47 = oIcmp (fun x y => x = y) 50 52 := rfl
set_option maxRecDepth 20000 in
theorem c148_50 : xT 148 50 = oPush (.int (-1)) 51 := rfl
set_option maxRecDepth 20000 in
theorem c148_51 : xT 148 51 = oRi (fun _ => True) := rfl
set_option maxRecDepth 20000 in
theorem c148_52 : xT 148 52 = oAld 0 53 := rfl
set_option maxRecDepth 20000 in
theorem c148_53 : xT 148 53 = oGetp 12 23 56 := rfl
set_option maxRecDepth 20000 in
theorem c148_56 : xT 148 56 = oIld 1 57 := rfl
set_option maxRecDepth 20000 in
theorem c148_57 : xT 148 57 = oIld 2 58 := rfl
set_option maxRecDepth 20000 in
theorem c148_58 : xT 148 58 = oAsti 20 (fun x => x) 59 := rfl
set_option maxRecDepth 20000 in
theorem c148_59 : xT 148 59 = oAld 0 60 := rfl
set_option maxRecDepth 20000 in
theorem c148_60 : xT 148 60 = oGetp 12 24 63 := rfl
set_option maxRecDepth 20000 in
theorem c148_63 : xT 148 63 = oIld 1 64 := rfl
set_option maxRecDepth 20000 in
theorem c148_64 : xT 148 64 = oAld 0 65 := rfl
set_option maxRecDepth 20000 in
theorem c148_65 : xT 148 65 = oGeti 12 40 68 := rfl
set_option maxRecDepth 20000 in
theorem c148_68 : xT 148 68 = oAsti 20 (fun x => x) 69 := rfl
set_option maxRecDepth 20000 in
theorem c148_69 : xT 148 69 = oAld 0 70 := rfl
set_option maxRecDepth 20000 in
theorem c148_70 : xT 148 70 = oGetp 12 25 73 := rfl
set_option maxRecDepth 20000 in
theorem c148_73 : xT 148 73 = oIld 1 74 := rfl
set_option maxRecDepth 20000 in
theorem c148_74 : xT 148 74 = oAld 0 75 := rfl
set_option maxRecDepth 20000 in
theorem c148_75 : xT 148 75 = oGeti 12 41 78 := rfl
set_option maxRecDepth 20000 in
theorem c148_78 : xT 148 78 = oAld 0 79 := rfl
set_option maxRecDepth 20000 in
theorem c148_79 : xT 148 79 = oGetp 12 21 82 := rfl
set_option maxRecDepth 20000 in
theorem c148_82 : xT 148 82 = oIld 1 83 := rfl
set_option maxRecDepth 20000 in
theorem c148_83 : xT 148 83 = oAldi 20 84 := rfl
set_option maxRecDepth 20000 in
theorem c148_84 : xT 148 84 = oBin (fun x y => x - y) 85 := rfl
set_option maxRecDepth 20000 in
theorem c148_85 : xT 148 85 = oAsti 20 (fun x => x) 86 := rfl
set_option maxRecDepth 20000 in
theorem c148_86 : xT 148 86 = oAld 0 87 := rfl
set_option maxRecDepth 20000 in
theorem c148_87 : xT 148 87 = oGetp 12 26 90 := rfl
set_option maxRecDepth 20000 in
theorem c148_90 : xT 148 90 = oIld 1 91 := rfl
set_option maxRecDepth 20000 in
theorem c148_91 : xT 148 91 = oAld 0 92 := rfl
set_option maxRecDepth 20000 in
theorem c148_92 : xT 148 92 = oGeti 12 39 95 := rfl
set_option maxRecDepth 20000 in
theorem c148_95 : xT 148 95 = oAsti 20 (fun x => x) 96 := rfl
set_option maxRecDepth 20000 in
theorem c148_96 : xT 148 96 = oAld 0 97 := rfl
set_option maxRecDepth 20000 in
theorem c148_97 : xT 148 97 = oGetp 12 28 100 := rfl
set_option maxRecDepth 20000 in
theorem c148_100 : xT 148 100 = oIld 1 101 := rfl
set_option maxRecDepth 20000 in
theorem c148_101 : xT 148 101 = oAld 0 102 := rfl
set_option maxRecDepth 20000 in
theorem c148_102 : xT 148 102 = oGetp 12 20 105 := rfl
set_option maxRecDepth 20000 in
theorem c148_105 : xT 148 105 = oIld 1 106 := rfl
set_option maxRecDepth 20000 in
theorem c148_106 : xT 148 106 = oAldi 20 107 := rfl
set_option maxRecDepth 20000 in
theorem c148_107 : xT 148 107 = oAsti 20 (fun x => x) 108 := rfl
set_option maxRecDepth 20000 in
theorem c148_108 : xT 148 108 = oAld 0 109 := rfl
set_option maxRecDepth 20000 in
theorem c148_109 : xT 148 109 = oGetp 12 31 112 := rfl
set_option maxRecDepth 20000 in
theorem c148_112 : xT 148 112 = oIld 1 113 := rfl
set_option maxRecDepth 20000 in
theorem c148_113 : xT 148 113 = oPush (.int (0)) 114 := rfl
set_option maxRecDepth 20000 in
theorem c148_114 : xT 148 114 = oAsti 22 (vp_nar .boolean) 115 := rfl
set_option maxRecDepth 20000 in
theorem c148_115 : xT 148 115 = oPush (.int (0)) 116 := rfl
set_option maxRecDepth 20000 in
theorem c148_116 : xT 148 116 = oIst 3 117 4 := rfl
set_option maxRecDepth 20000 in
theorem c148_117 : xT 148 117 = oTr [0, 1, 2, 3] (oIld 3 118) := rfl
set_option maxRecDepth 20000 in
theorem c148_118 : xT 148 118 = oAld 0 119 := rfl
set_option maxRecDepth 20000 in
theorem c148_119 : xT 148 119 = oGetp 12 18 122 := rfl
set_option maxRecDepth 20000 in
theorem c148_122 : xT 148 122 = oIld 1 123 := rfl
set_option maxRecDepth 20000 in
theorem c148_123 : xT 148 123 = oAldi 20 124 := rfl
set_option maxRecDepth 20000 in
theorem c148_124 : xT 148 124 = oIcmp (fun x y => y ≤ x) 167 127 := rfl
set_option maxRecDepth 20000 in
theorem c148_127 : xT 148 127 = oAld 0 128 := rfl
set_option maxRecDepth 20000 in
theorem c148_128 : xT 148 128 = oGetp 12 29 131 := rfl
set_option maxRecDepth 20000 in
theorem c148_131 : xT 148 131 = oPush (.int (24)) 133 := rfl
set_option maxRecDepth 20000 in
theorem c148_133 : xT 148 133 = oIld 1 134 := rfl
set_option maxRecDepth 20000 in
theorem c148_134 : xT 148 134 = oBin (fun x y => x * y) 135 := rfl
set_option maxRecDepth 20000 in
theorem c148_135 : xT 148 135 = oIld 3 136 := rfl
set_option maxRecDepth 20000 in
theorem c148_136 : xT 148 136 = oBin (fun x y => x + y) 137 := rfl
set_option maxRecDepth 20000 in
theorem c148_137 : xT 148 137 = oAld 0 138 := rfl
set_option maxRecDepth 20000 in
theorem c148_138 : xT 148 138 = oGetp 12 38 141 := rfl
set_option maxRecDepth 20000 in
theorem c148_141 : xT 148 141 = oIld 3 142 := rfl
set_option maxRecDepth 20000 in
theorem c148_142 : xT 148 142 = oAldi 20 143 := rfl
set_option maxRecDepth 20000 in
theorem c148_143 : xT 148 143 = oAsti 20 (fun x => x) 144 := rfl
set_option maxRecDepth 20000 in
theorem c148_144 : xT 148 144 = oAld 0 145 := rfl
set_option maxRecDepth 20000 in
theorem c148_145 : xT 148 145 = oGetp 12 30 148 := rfl
set_option maxRecDepth 20000 in
theorem c148_148 : xT 148 148 = oPush (.int (24)) 150 := rfl
set_option maxRecDepth 20000 in
theorem c148_150 : xT 148 150 = oIld 1 151 := rfl
set_option maxRecDepth 20000 in
theorem c148_151 : xT 148 151 = oBin (fun x y => x * y) 152 := rfl
set_option maxRecDepth 20000 in
theorem c148_152 : xT 148 152 = oIld 3 153 := rfl
set_option maxRecDepth 20000 in
theorem c148_153 : xT 148 153 = oBin (fun x y => x + y) 154 := rfl
set_option maxRecDepth 20000 in
theorem c148_154 : xT 148 154 = oAld 0 155 := rfl
set_option maxRecDepth 20000 in
theorem c148_155 : xT 148 155 = oGetp 12 37 158 := rfl
set_option maxRecDepth 20000 in
theorem c148_158 : xT 148 158 = oIld 3 159 := rfl
set_option maxRecDepth 20000 in
theorem c148_159 : xT 148 159 = oAldi 20 160 := rfl
set_option maxRecDepth 20000 in
theorem c148_160 : xT 148 160 = oAsti 20 (fun x => x) 161 := rfl
set_option maxRecDepth 20000 in
theorem c148_161 : xT 148 161 = oIinc 3 (1) 164 4 := rfl
set_option maxRecDepth 20000 in
theorem c148_164 : xT 148 164 = oGoto 117 := rfl
set_option maxRecDepth 20000 in
theorem c148_167 : xT 148 167 = oAld 0 168 := rfl
set_option maxRecDepth 20000 in
theorem c148_168 : xT 148 168 = oGetp 12 27 171 := rfl
set_option maxRecDepth 20000 in
theorem c148_171 : xT 148 171 = oIld 1 172 := rfl
set_option maxRecDepth 20000 in
theorem c148_172 : xT 148 172 = oAld 0 173 := rfl
set_option maxRecDepth 20000 in
theorem c148_173 : xT 148 173 = oGetp 12 25 176 := rfl
set_option maxRecDepth 20000 in
theorem c148_176 : xT 148 176 = oIld 1 177 := rfl
set_option maxRecDepth 20000 in
theorem c148_177 : xT 148 177 = oAldi 20 178 := rfl
set_option maxRecDepth 20000 in
theorem c148_178 : xT 148 178 = oAld 0 179 := rfl
set_option maxRecDepth 20000 in
theorem c148_179 : xT 148 179 = oAld 0 180 := rfl
set_option maxRecDepth 20000 in
theorem c148_180 : xT 148 180 = oGetp 12 38 183 := rfl
set_option maxRecDepth 20000 in
theorem c148_183 : xT 148 183 = oAld 0 184 := rfl
set_option maxRecDepth 20000 in
theorem c148_184 : xT 148 184 = oGetp 12 18 187 := rfl
set_option maxRecDepth 20000 in
theorem c148_187 : xT 148 187 = oIld 1 188 := rfl
set_option maxRecDepth 20000 in
theorem c148_188 : xT 148 188 = oAldi 20 189 := rfl
set_option maxRecDepth 20000 in
theorem c148_189 : xT 148 189 = oPush (.int (1)) 190 := rfl
set_option maxRecDepth 20000 in
theorem c148_190 : xT 148 190 = oBin (fun x y => x - y) 191 := rfl
set_option maxRecDepth 20000 in
theorem c148_191 : xT 148 191 = oAldi 20 192 := rfl
set_option maxRecDepth 20000 in
theorem c148_192 : xT 148 192 = oAld 0 193 := rfl
set_option maxRecDepth 20000 in
theorem c148_193 : xT 148 193 = oGetp 12 20 196 := rfl
set_option maxRecDepth 20000 in
theorem c148_196 : xT 148 196 = oIld 1 197 := rfl
set_option maxRecDepth 20000 in
theorem c148_197 : xT 148 197 = oAldi 20 198 := rfl
set_option maxRecDepth 20000 in
theorem c148_198 : xT 148 198 = oBin (fun x y => x + y) 199 := rfl
set_option maxRecDepth 20000 in
theorem c148_199 : xT 148 199 = oAld 0 200 := rfl
set_option maxRecDepth 20000 in
theorem c148_200 : xT 148 200 = oGetp 12 21 203 := rfl
set_option maxRecDepth 20000 in
theorem c148_203 : xT 148 203 = oIld 1 204 := rfl
set_option maxRecDepth 20000 in
theorem c148_204 : xT 148 204 = oAldi 20 205 := rfl
set_option maxRecDepth 20000 in
theorem c148_205 : xT 148 205 = oPush (.int (2)) 206 := rfl
set_option maxRecDepth 20000 in
theorem c148_206 : xT 148 206 = oDiv (fun x y => x / y) 207 := rfl
set_option maxRecDepth 20000 in
theorem c148_207 : xT 148 207 = oAld 0 208 := rfl
set_option maxRecDepth 20000 in
theorem c148_208 : xT 148 208 = oAld 0 209 := rfl
set_option maxRecDepth 20000 in
theorem c148_209 : xT 148 209 = oGetp 12 9 212 := rfl
set_option maxRecDepth 20000 in
theorem c148_212 : xT 148 212 = oIld 2 213 := rfl
set_option maxRecDepth 20000 in
theorem c148_213 : xT 148 213 = oAldi 20 214 := rfl
set_option maxRecDepth 20000 in
theorem c148_214 : xT 148 214 = oPush (.int (0)) 215 := rfl
set_option maxRecDepth 20000 in
theorem c148_215 : xT 148 215 = oCallV 13 137 3 218 := rfl
set_option maxRecDepth 20000 in
theorem c148_218 : xT 148 218 = oCallV 13 152 4 221 := rfl
set_option maxRecDepth 20000 in
theorem c148_221 : xT 148 221 = oBin (fun x y => x - y) 222 := rfl
set_option maxRecDepth 20000 in
theorem c148_222 : xT 148 222 = oAld 0 223 := rfl
set_option maxRecDepth 20000 in
theorem c148_223 : xT 148 223 = oGeti 12 32 226 := rfl
set_option maxRecDepth 20000 in
theorem c148_226 : xT 148 226 = oDiv (fun x y => x / y) 227 := rfl
set_option maxRecDepth 20000 in
theorem c148_227 : xT 148 227 = oAsti 20 (fun x => x) 228 := rfl
set_option maxRecDepth 20000 in
theorem c148_228 : xT 148 228 = oAld 0 229 := rfl
set_option maxRecDepth 20000 in
theorem c148_229 : xT 148 229 = oGeti 12 41 232 := rfl
set_option maxRecDepth 20000 in
theorem c148_232 : xT 148 232 = oRi (fun _ => True) := rfl
theorem c149_0 : xT 149 0 = oAld 0 1 := rfl
theorem c149_1 : xT 149 1 = oIld 1 2 := rfl
theorem c149_2 : xT 149 2 = oCallV 13 150 2 5 := rfl
theorem c149_5 : xT 149 5 = oIf (fun x => x = 0) 23 8 := rfl
theorem c149_8 : xT 149 8 = oAld 0 9 := rfl
theorem c149_9 : xT 149 9 = oGetp 12 19 12 := rfl
theorem c149_12 : xT 149 12 = oIld 1 13 := rfl
theorem c149_13 : xT 149 13 = oAldi 20 14 := rfl
theorem c149_14 : xT 149 14 = oAld 0 15 := rfl
theorem c149_15 : xT 149 15 = oGetp 12 3 18 := rfl
theorem c149_18 : xT 149 18 = oIld 2 19 := rfl
theorem c149_19 : xT 149 19 = oAldi 20 20 := rfl
theorem c149_20 : xT 149 20 = oIcmp (fun x y => y ≤ x) 27 23 := rfl
theorem c149_23 : xT 149 23 = oTr [] (oPush (.int (1)) 24) := rfl
theorem c149_24 : xT 149 24 = oGoto 28 := rfl
theorem c149_27 : xT 149 27 = oPush (.int (0)) 28 := rfl
theorem c149_28 : xT 149 28 = oTr [] (oRi (fun x => x = 0 ∨ x = 1)) := rfl
theorem c150_0 : xT 150 0 = oAld 0 1 := rfl
theorem c150_1 : xT 150 1 = oGetp 12 14 4 := rfl
theorem c150_4 : xT 150 4 = oIld 1 5 := rfl
theorem c150_5 : xT 150 5 = oAldi 20 6 := rfl
theorem c150_6 : xT 150 6 = oPush (.int (1)) 7 := rfl
theorem c150_7 : xT 150 7 = oIcmp (fun x y => x = y) 30 10 := rfl
theorem c150_10 : xT 150 10 = oAld 0 11 := rfl
theorem c150_11 : xT 150 11 = oGetp 12 14 14 := rfl
theorem c150_14 : xT 150 14 = oIld 1 15 := rfl
theorem c150_15 : xT 150 15 = oAldi 20 16 := rfl
theorem c150_16 : xT 150 16 = oPush (.int (3)) 17 := rfl
theorem c150_17 : xT 150 17 = oIcmp (fun x y => x = y) 30 20 := rfl
theorem c150_20 : xT 150 20 = oAld 0 21 := rfl
theorem c150_21 : xT 150 21 = oGetp 12 14 24 := rfl
theorem c150_24 : xT 150 24 = oIld 1 25 := rfl
theorem c150_25 : xT 150 25 = oAldi 20 26 := rfl
theorem c150_26 : xT 150 26 = oPush (.int (5)) 27 := rfl
theorem c150_27 : xT 150 27 = oIcmp (fun x y => x = y) 30 34 := rfl
theorem c150_30 : xT 150 30 = oTr [] (oPush (.int (1)) 31) := rfl
theorem c150_31 : xT 150 31 = oGoto 35 := rfl
theorem c150_34 : xT 150 34 = oPush (.int (0)) 35 := rfl
theorem c150_35 : xT 150 35 = oTr [] (oRi (fun x => x = 0 ∨ x = 1)) := rfl
set_option maxRecDepth 20000 in
theorem c151_0 : xT 151 0 = oAld 0 1 := rfl
set_option maxRecDepth 20000 in
theorem c151_1 : xT 151 1 = oAld 0 2 := rfl
set_option maxRecDepth 20000 in
theorem c151_2 : xT 151 2 = oGetp 12 4 5 := rfl
set_option maxRecDepth 20000 in
theorem c151_5 : xT 151 5 = oIld 3 6 := rfl
set_option maxRecDepth 20000 in
theorem c151_6 : xT 151 6 = oAldi 20 7 := rfl
set_option maxRecDepth 20000 in
theorem c151_7 : xT 151 7 = oPuti 12 32 10 := rfl
set_option maxRecDepth 20000 in
theorem c151_10 : xT 151 10 = oAld 0 11 := rfl
set_option maxRecDepth 20000 in
theorem c151_11 : xT 151 11 = oPush (.int (1000000)) 13 := rfl
set_option maxRecDepth 20000 in
theorem c151_13 : xT 151 13 = oPuti 12 41 16 := rfl
set_option maxRecDepth 20000 in
theorem c151_16 : xT 151 16 = oAld 0 17 := rfl
set_option maxRecDepth 20000 in
theorem c151_17 : xT 151 17 = oPush (.int (0)) 18 := rfl
set_option maxRecDepth 20000 in
theorem c151_18 : xT 151 18 = oAld 0 19 := rfl
set_option maxRecDepth 20000 in
theorem c151_19 : xT 151 19 = oGetp 12 21 22 := rfl
set_option maxRecDepth 20000 in
theorem c151_22 : xT 151 22 = oIld 1 23 := rfl
set_option maxRecDepth 20000 in
theorem c151_23 : xT 151 23 = oAldi 20 24 := rfl
set_option maxRecDepth 20000 in
theorem c151_24 : xT 151 24 = oPush (.int (2)) 25 := rfl
set_option maxRecDepth 20000 in
theorem c151_25 : xT 151 25 = oDiv (fun x y => x / y) 26 := rfl
set_option maxRecDepth 20000 in
theorem c151_26 : xT 151 26 = oAld 0 27 := rfl
set_option maxRecDepth 20000 in
theorem c151_27 : xT 151 27 = oIld 3 28 := rfl
set_option maxRecDepth 20000 in
theorem c151_28 : xT 151 28 = oPush (.int (0)) 29 := rfl
set_option maxRecDepth 20000 in
theorem c151_29 : xT 151 29 = oCallV 13 137 3 32 := rfl
set_option maxRecDepth 20000 in
theorem c151_32 : xT 151 32 = oCallV 13 152 4 35 := rfl
set_option maxRecDepth 20000 in
theorem c151_35 : xT 151 35 = oIst 4 37 8 := rfl
set_option maxRecDepth 20000 in
theorem c151_37 : xT 151 37 = oPush (.int (0)) 38 := rfl
set_option maxRecDepth 20000 in
theorem c151_38 : xT 151 38 = oIst 5 40 8 := rfl
set_option maxRecDepth 20000 in
theorem c151_40 : xT 151 40 = oTr [0, 1, 2, 3, 4, 5] (oIld 5 42) := rfl
set_option maxRecDepth 20000 in
theorem c151_42 : xT 151 42 = oPush (.int (4)) 43 := rfl
set_option maxRecDepth 20000 in
theorem c151_43 : xT 151 43 = oIcmp (fun x y => y ≤ x) 216 46 := rfl
set_option maxRecDepth 20000 in
theorem c151_46 : xT 151 46 = oIld 4 48 := rfl
set_option maxRecDepth 20000 in
theorem c151_48 : xT 151 48 = oIld 5 50 := rfl
set_option maxRecDepth 20000 in
theorem c151_50 : xT 151 50 = oAld 0 51 := rfl
set_option maxRecDepth 20000 in
theorem c151_51 : xT 151 51 = oGeti 12 32 54 := rfl
set_option maxRecDepth 20000 in
theorem c151_54 : xT 151 54 = oBin (fun x y => x * y) 55 := rfl
set_option maxRecDepth 20000 in
theorem c151_55 : xT 151 55 = oBin (fun x y => x + y) 56 := rfl
set_option maxRecDepth 20000 in
theorem c151_56 : xT 151 56 = oIst 6 58 8 := rfl
set_option maxRecDepth 20000 in
theorem c151_58 : xT 151 58 = oAld 0 59 := rfl
set_option maxRecDepth 20000 in
theorem c151_59 : xT 151 59 = oIld 2 60 := rfl
set_option maxRecDepth 20000 in
theorem c151_60 : xT 151 60 = oIld 6 62 := rfl
set_option maxRecDepth 20000 in
theorem c151_62 : xT 151 62 = oAld 0 63 := rfl
set_option maxRecDepth 20000 in
theorem c151_63 : xT 151 63 = oGetp 12 21 66 := rfl
set_option maxRecDepth 20000 in
theorem c151_66 : xT 151 66 = oIld 1 67 := rfl
set_option maxRecDepth 20000 in
theorem c151_67 : xT 151 67 = oAldi 20 68 := rfl
set_option maxRecDepth 20000 in
theorem c151_68 : xT 151 68 = oCallV 13 144 4 71 := rfl
set_option maxRecDepth 20000 in
theorem c151_71 : xT 151 71 = oIf (fun x => x = 0) 77 74 := rfl
set_option maxRecDepth 20000 in
theorem c151_74 : xT 151 74 = oGoto 210 := rfl
set_option maxRecDepth 20000 in
theorem c151_77 : xT 151 77 = oAld 0 78 := rfl
set_option maxRecDepth 20000 in
theorem c151_78 : xT 151 78 = oGetp 12 34 81 := rfl
set_option maxRecDepth 20000 in
theorem c151_81 : xT 151 81 = oPush (.int (0)) 82 := rfl
set_option maxRecDepth 20000 in
theorem c151_82 : xT 151 82 = oIld 6 84 := rfl
set_option maxRecDepth 20000 in
theorem c151_84 : xT 151 84 = oAld 0 85 := rfl
set_option maxRecDepth 20000 in
theorem c151_85 : xT 151 85 = oGetp 12 21 88 := rfl
set_option maxRecDepth 20000 in
theorem c151_88 : xT 151 88 = oIld 1 89 := rfl
set_option maxRecDepth 20000 in
theorem c151_89 : xT 151 89 = oAldi 20 90 := rfl
set_option maxRecDepth 20000 in
theorem c151_90 : xT 151 90 = oBin (fun x y => x + y) 91 := rfl
set_option maxRecDepth 20000 in
theorem c151_91 : xT 151 91 = oAsti 20 (fun x => x) 92 := rfl
set_option maxRecDepth 20000 in
theorem c151_92 : xT 151 92 = oAld 0 93 := rfl
set_option maxRecDepth 20000 in
theorem c151_93 : xT 151 93 = oIld 1 94 := rfl
set_option maxRecDepth 20000 in
theorem c151_94 : xT 151 94 = oCallV 13 150 2 97 := rfl
set_option maxRecDepth 20000 in
theorem c151_97 : xT 151 97 = oIf (fun x => x = 0) 135 100 := rfl
set_option maxRecDepth 20000 in
theorem c151_100 : xT 151 100 = oAld 0 101 := rfl
set_option maxRecDepth 20000 in
theorem c151_101 : xT 151 101 = oGetp 12 34 104 := rfl
set_option maxRecDepth 20000 in
theorem c151_104 : xT 151 104 = oPush (.int (0)) 105 := rfl
set_option maxRecDepth 20000 in
theorem c151_105 : xT 151 105 = oAld 0 106 := rfl
set_option maxRecDepth 20000 in
theorem c151_106 : xT 151 106 = oAld 0 107 := rfl
set_option maxRecDepth 20000 in
theorem c151_107 : xT 151 107 = oGetp 12 34 110 := rfl
set_option maxRecDepth 20000 in
theorem c151_110 : xT 151 110 = oPush (.int (0)) 111 := rfl
set_option maxRecDepth 20000 in
theorem c151_111 : xT 151 111 = oAldi 20 112 := rfl
set_option maxRecDepth 20000 in
theorem c151_112 : xT 151 112 = oAld 0 113 := rfl
set_option maxRecDepth 20000 in
theorem c151_113 : xT 151 113 = oGetp 12 20 116 := rfl
set_option maxRecDepth 20000 in
theorem c151_116 : xT 151 116 = oIld 1 117 := rfl
set_option maxRecDepth 20000 in
theorem c151_117 : xT 151 117 = oAldi 20 118 := rfl
set_option maxRecDepth 20000 in
theorem c151_118 : xT 151 118 = oPush (.int (2)) 119 := rfl
set_option maxRecDepth 20000 in
theorem c151_119 : xT 151 119 = oDiv (fun x y => x / y) 120 := rfl
set_option maxRecDepth 20000 in
theorem c151_120 : xT 151 120 = oAld 0 121 := rfl
set_option maxRecDepth 20000 in
theorem c151_121 : xT 151 121 = oIld 3 122 := rfl
set_option maxRecDepth 20000 in
theorem c151_122 : xT 151 122 = oAld 0 123 := rfl
set_option maxRecDepth 20000 in
theorem c151_123 : xT 151 123 = oGetp 12 19 126 := rfl
set_option maxRecDepth 20000 in
theorem c151_126 : xT 151 126 = oIld 1 127 := rfl
set_option maxRecDepth 20000 in
theorem c151_127 : xT 151 127 = oAldi 20 128 := rfl
set_option maxRecDepth 20000 in
theorem c151_128 : xT 151 128 = oCallV 13 137 3 131 := rfl
set_option maxRecDepth 20000 in
theorem c151_131 : xT 151 131 = oCallV 13 152 4 134 := rfl
set_option maxRecDepth 20000 in
theorem c151_134 : xT 151 134 = oAsti 20 (fun x => x) 135 := rfl
set_option maxRecDepth 20000 in
theorem c151_135 : xT 151 135 = oTr [0, 1, 2, 3, 4, 5, 6] (oPush (.int (1)) 136) := rfl
set_option maxRecDepth 20000 in
theorem c151_136 : xT 151 136 = oIst 7 138 8 := rfl
set_option maxRecDepth 20000 in
theorem c151_138 : xT 151 138 = oTr [0, 1, 2, 3, 4, 5, 6, 7] (oIld 7 140) := rfl
set_option maxRecDepth 20000 in
theorem c151_140 : xT 151 140 = oAld 0 141 := rfl
set_option maxRecDepth 20000 in
theorem c151_141 : xT 151 141 = oGetp 12 18 144 := rfl
set_option maxRecDepth 20000 in
theorem c151_144 : xT 151 144 = oIld 1 145 := rfl
set_option maxRecDepth 20000 in
theorem c151_145 : xT 151 145 = oAldi 20 146 := rfl
set_option maxRecDepth 20000 in
theorem c151_146 : xT 151 146 = oIcmp (fun x y => y ≤ x) 181 149 := rfl
set_option maxRecDepth 20000 in
theorem c151_149 : xT 151 149 = oAld 0 150 := rfl
set_option maxRecDepth 20000 in
theorem c151_150 : xT 151 150 = oGetp 12 34 153 := rfl
set_option maxRecDepth 20000 in
theorem c151_153 : xT 151 153 = oIld 7 155 := rfl
set_option maxRecDepth 20000 in
theorem c151_155 : xT 151 155 = oAld 0 156 := rfl
set_option maxRecDepth 20000 in
theorem c151_156 : xT 151 156 = oGetp 12 34 159 := rfl
set_option maxRecDepth 20000 in
theorem c151_159 : xT 151 159 = oIld 7 161 := rfl
set_option maxRecDepth 20000 in
theorem c151_161 : xT 151 161 = oPush (.int (1)) 162 := rfl
set_option maxRecDepth 20000 in
theorem c151_162 : xT 151 162 = oBin (fun x y => x - y) 163 := rfl
set_option maxRecDepth 20000 in
theorem c151_163 : xT 151 163 = oAldi 20 164 := rfl
set_option maxRecDepth 20000 in
theorem c151_164 : xT 151 164 = oAld 0 165 := rfl
set_option maxRecDepth 20000 in
theorem c151_165 : xT 151 165 = oIld 1 166 := rfl
set_option maxRecDepth 20000 in
theorem c151_166 : xT 151 166 = oIld 7 168 := rfl
set_option maxRecDepth 20000 in
theorem c151_168 : xT 151 168 = oPush (.int (1)) 169 := rfl
set_option maxRecDepth 20000 in
theorem c151_169 : xT 151 169 = oBin (fun x y => x - y) 170 := rfl
set_option maxRecDepth 20000 in
theorem c151_170 : xT 151 170 = oCallV 13 153 3 173 := rfl
set_option maxRecDepth 20000 in
theorem c151_173 : xT 151 173 = oBin (fun x y => x + y) 174 := rfl
set_option maxRecDepth 20000 in
theorem c151_174 : xT 151 174 = oAsti 20 (fun x => x) 175 := rfl
set_option maxRecDepth 20000 in
theorem c151_175 : xT 151 175 = oIinc 7 (1) 178 8 := rfl
set_option maxRecDepth 20000 in
theorem c151_178 : xT 151 178 = oGoto 138 := rfl
set_option maxRecDepth 20000 in
theorem c151_181 : xT 151 181 = oAld 0 182 := rfl
set_option maxRecDepth 20000 in
theorem c151_182 : xT 151 182 = oIld 1 183 := rfl
set_option maxRecDepth 20000 in
theorem c151_183 : xT 151 183 = oIld 2 184 := rfl
set_option maxRecDepth 20000 in
theorem c151_184 : xT 151 184 = oIld 3 185 := rfl
set_option maxRecDepth 20000 in
theorem c151_185 : xT 151 185 = oCallV 13 154 4 188 := rfl
set_option maxRecDepth 20000 in
theorem c151_188 : xT 151 188 = oAld 0 189 := rfl
set_option maxRecDepth 20000 in
theorem c151_189 : xT 151 189 = oGetp 12 35 192 := rfl
set_option maxRecDepth 20000 in
theorem c151_192 : xT 151 192 = oPush (.int (0)) 193 := rfl
set_option maxRecDepth 20000 in
theorem c151_193 : xT 151 193 = oAldi 20 194 := rfl
set_option maxRecDepth 20000 in
theorem c151_194 : xT 151 194 = oAld 0 195 := rfl
set_option maxRecDepth 20000 in
theorem c151_195 : xT 151 195 = oGeti 12 41 198 := rfl
set_option maxRecDepth 20000 in
theorem c151_198 : xT 151 198 = oIcmp (fun x y => y ≤ x) 210 201 := rfl
set_option maxRecDepth 20000 in
theorem c151_201 : xT 151 201 = oAld 0 202 := rfl
set_option maxRecDepth 20000 in
theorem c151_202 : xT 151 202 = oIld 1 203 := rfl
set_option maxRecDepth 20000 in
theorem c151_203 : xT 151 203 = oIld 5 205 := rfl
set_option maxRecDepth 20000 in
theorem c151_205 : xT 151 205 = oIld 6 207 := rfl
set_option maxRecDepth 20000 in
theorem c151_207 : xT 151 207 = oCallV 13 158 4 210 := rfl
set_option maxRecDepth 20000 in
theorem c151_210 : xT 151 210 = oTr [0, 1, 2, 3, 4, 5] (oIinc 5 (1) 213 8) := rfl
set_option maxRecDepth 20000 in
theorem c151_213 : xT 151 213 = oGoto 40 := rfl
set_option maxRecDepth 20000 in
theorem c151_216 : xT 151 216 = oAld 0 217 := rfl
set_option maxRecDepth 20000 in
theorem c151_217 : xT 151 217 = oGeti 12 41 220 := rfl
set_option maxRecDepth 20000 in
theorem c151_220 : xT 151 220 = oRi (fun _ => True) := rfl
theorem c152_0 : xT 152 0 = oIld 3 1 := rfl
theorem c152_1 : xT 152 1 = oIld 2 2 := rfl
theorem c152_2 : xT 152 2 = oBin (fun x y => x - y) 3 := rfl
theorem c152_3 : xT 152 3 = oIld 1 4 := rfl
theorem c152_4 : xT 152 4 = oBin (fun x y => x - y) 5 := rfl
theorem c152_5 : xT 152 5 = oAld 0 6 := rfl
theorem c152_6 : xT 152 6 = oGeti 12 32 9 := rfl
theorem c152_9 : xT 152 9 = oDiv (fun x y => x - x / y * y) 10 := rfl
theorem c152_10 : xT 152 10 = oIst 4 12 5 := rfl
theorem c152_12 : xT 152 12 = oIld 1 13 := rfl
theorem c152_13 : xT 152 13 = oIld 4 15 := rfl
theorem c152_15 : xT 152 15 = oIf (fun x => 0 ≤ x) 28 18 := rfl
theorem c152_18 : xT 152 18 = oIld 4 20 := rfl
theorem c152_20 : xT 152 20 = oAld 0 21 := rfl
theorem c152_21 : xT 152 21 = oGeti 12 32 24 := rfl
theorem c152_24 : xT 152 24 = oBin (fun x y => x + y) 25 := rfl
theorem c152_25 : xT 152 25 = oGoto 30 := rfl
theorem c152_28 : xT 152 28 = oIld 4 30 := rfl
theorem c152_30 : xT 152 30 = oTr [] (oBin (fun x y => x + y) 31) := rfl
theorem c152_31 : xT 152 31 = oRi (fun _ => True) := rfl
theorem c153_0 : xT 153 0 = oAld 0 1 := rfl
theorem c153_1 : xT 153 1 = oGetp 12 14 4 := rfl
theorem c153_4 : xT 153 4 = oIld 1 5 := rfl
theorem c153_5 : xT 153 5 = oAldi 20 6 := rfl
theorem c153_6 : xT 153 6 = oPush (.int (5)) 7 := rfl
theorem c153_7 : xT 153 7 = oIcmp (fun x y => x = y) 10 33 := rfl
theorem c153_10 : xT 153 10 = oIld 2 11 := rfl
theorem c153_11 : xT 153 11 = oAld 0 12 := rfl
theorem c153_12 : xT 153 12 = oGetp 12 18 15 := rfl
theorem c153_15 : xT 153 15 = oIld 1 16 := rfl
theorem c153_16 : xT 153 16 = oAldi 20 17 := rfl
theorem c153_17 : xT 153 17 = oPush (.int (2)) 18 := rfl
theorem c153_18 : xT 153 18 = oBin (fun x y => x - y) 19 := rfl
theorem c153_19 : xT 153 19 = oIcmp (fun x y => x = y) 22 31 := rfl
theorem c153_22 : xT 153 22 = oAld 0 23 := rfl
theorem c153_23 : xT 153 23 = oGetp 12 20 26 := rfl
theorem c153_26 : xT 153 26 = oIld 1 27 := rfl
theorem c153_27 : xT 153 27 = oAldi 20 28 := rfl
theorem c153_28 : xT 153 28 = oGoto 32 := rfl
theorem c153_31 : xT 153 31 = oPush (.int (0)) 32 := rfl
theorem c153_32 : xT 153 32 = oTr [] (oRi (fun _ => True)) := rfl
theorem c153_33 : xT 153 33 = oAld 0 34 := rfl
theorem c153_34 : xT 153 34 = oGetp 12 14 37 := rfl
theorem c153_37 : xT 153 37 = oIld 1 38 := rfl
theorem c153_38 : xT 153 38 = oAldi 20 39 := rfl
theorem c153_39 : xT 153 39 = oPush (.int (1)) 40 := rfl
theorem c153_40 : xT 153 40 = oIcmp (fun x y => x = y) 53 43 := rfl
theorem c153_43 : xT 153 43 = oAld 0 44 := rfl
theorem c153_44 : xT 153 44 = oGetp 12 14 47 := rfl
theorem c153_47 : xT 153 47 = oIld 1 48 := rfl
theorem c153_48 : xT 153 48 = oAldi 20 49 := rfl
theorem c153_49 : xT 153 49 = oPush (.int (3)) 50 := rfl
theorem c153_50 : xT 153 50 = oIcmp (fun x y => x = y) 53 57 := rfl
theorem c153_53 : xT 153 53 = oTr [] (oPush (.int (0)) 54) := rfl
theorem c153_54 : xT 153 54 = oGoto 86 := rfl
theorem c153_57 : xT 153 57 = oAld 0 58 := rfl
theorem c153_58 : xT 153 58 = oGetp 12 14 61 := rfl
theorem c153_61 : xT 153 61 = oIld 1 62 := rfl
theorem c153_62 : xT 153 62 = oAldi 20 63 := rfl
theorem c153_63 : xT 153 63 = oIf (fun x => x = 0) 66 75 := rfl
theorem c153_66 : xT 153 66 = oAld 0 67 := rfl
theorem c153_67 : xT 153 67 = oGetp 12 20 70 := rfl
theorem c153_70 : xT 153 70 = oIld 1 71 := rfl
theorem c153_71 : xT 153 71 = oAldi 20 72 := rfl
theorem c153_72 : xT 153 72 = oGoto 86 := rfl
theorem c153_75 : xT 153 75 = oAld 0 76 := rfl
theorem c153_76 : xT 153 76 = oGetp 12 20 79 := rfl
theorem c153_79 : xT 153 79 = oIld 1 80 := rfl
theorem c153_80 : xT 153 80 = oAldi 20 81 := rfl
theorem c153_81 : xT 153 81 = oAld 0 82 := rfl
theorem c153_82 : xT 153 82 = oGeti 12 32 85 := rfl
theorem c153_85 : xT 153 85 = oBin (fun x y => x + y) 86 := rfl
theorem c153_86 : xT 153 86 = oTr [] (oRi (fun _ => True)) := rfl
set_option maxRecDepth 20000 in
theorem c154_0 : xT 154 0 = oAld 0 1 := rfl
set_option maxRecDepth 20000 in
theorem c154_1 : xT 154 1 = oGetp 12 18 4 := rfl
set_option maxRecDepth 20000 in
theorem c154_4 : xT 154 4 = oIld 1 5 := rfl
set_option maxRecDepth 20000 in
theorem c154_5 : xT 154 5 = oAldi 20 6 := rfl
set_option maxRecDepth 20000 in
theorem c154_6 : xT 154 6 = oIst 4 8 10 := rfl
set_option maxRecDepth 20000 in
theorem c154_8 : xT 154 8 = oIld 4 10 := rfl
set_option maxRecDepth 20000 in
theorem c154_10 : xT 154 10 = oPush (.int (1)) 11 := rfl
set_option maxRecDepth 20000 in
theorem c154_11 : xT 154 11 = oBin (fun x y => x - y) 12 := rfl
set_option maxRecDepth 20000 in
theorem c154_12 : xT 154 12 = oIst 5 14 10 := rfl
set_option maxRecDepth 20000 in
theorem c154_14 : xT 154 14 = oTr [0, 1, 2, 3, 4, 5] (oIld 5 16) := rfl
set_option maxRecDepth 20000 in
theorem c154_16 : xT 154 16 = oIf (fun x => x < 0) 246 19 := rfl
set_option maxRecDepth 20000 in
theorem c154_19 : xT 154 19 = oPush (.int (0)) 20 := rfl
set_option maxRecDepth 20000 in
theorem c154_20 : xT 154 20 = oIst 6 22 10 := rfl
set_option maxRecDepth 20000 in
theorem c154_22 : xT 154 22 = oTr [0, 1, 2, 3, 4, 5, 6] (oIld 6 24) := rfl
set_option maxRecDepth 20000 in
theorem c154_24 : xT 154 24 = oPush (.int (200)) 27 := rfl
set_option maxRecDepth 20000 in
theorem c154_27 : xT 154 27 = oIcmp (fun x y => y ≤ x) 240 30 := rfl
set_option maxRecDepth 20000 in
theorem c154_30 : xT 154 30 = oAld 0 31 := rfl
set_option maxRecDepth 20000 in
theorem c154_31 : xT 154 31 = oGetp 12 34 34 := rfl
set_option maxRecDepth 20000 in
theorem c154_34 : xT 154 34 = oIld 5 36 := rfl
set_option maxRecDepth 20000 in
theorem c154_36 : xT 154 36 = oAldi 20 37 := rfl
set_option maxRecDepth 20000 in
theorem c154_37 : xT 154 37 = oIld 6 39 := rfl
set_option maxRecDepth 20000 in
theorem c154_39 : xT 154 39 = oAld 0 40 := rfl
set_option maxRecDepth 20000 in
theorem c154_40 : xT 154 40 = oGeti 12 32 43 := rfl
set_option maxRecDepth 20000 in
theorem c154_43 : xT 154 43 = oBin (fun x y => x * y) 44 := rfl
set_option maxRecDepth 20000 in
theorem c154_44 : xT 154 44 = oBin (fun x y => x + y) 45 := rfl
set_option maxRecDepth 20000 in
theorem c154_45 : xT 154 45 = oIst 7 47 10 := rfl
set_option maxRecDepth 20000 in
theorem c154_47 : xT 154 47 = oAld 0 48 := rfl
set_option maxRecDepth 20000 in
theorem c154_48 : xT 154 48 = oGetp 12 35 51 := rfl
set_option maxRecDepth 20000 in
theorem c154_51 : xT 154 51 = oPush (.int (200)) 54 := rfl
set_option maxRecDepth 20000 in
theorem c154_54 : xT 154 54 = oIld 5 56 := rfl
set_option maxRecDepth 20000 in
theorem c154_56 : xT 154 56 = oBin (fun x y => x * y) 57 := rfl
set_option maxRecDepth 20000 in
theorem c154_57 : xT 154 57 = oIld 6 59 := rfl
set_option maxRecDepth 20000 in
theorem c154_59 : xT 154 59 = oBin (fun x y => x + y) 60 := rfl
set_option maxRecDepth 20000 in
theorem c154_60 : xT 154 60 = oPush (.int (1000000)) 62 := rfl
set_option maxRecDepth 20000 in
theorem c154_62 : xT 154 62 = oAsti 20 (fun x => x) 63 := rfl
set_option maxRecDepth 20000 in
theorem c154_63 : xT 154 63 = oIld 7 65 := rfl
set_option maxRecDepth 20000 in
theorem c154_65 : xT 154 65 = oAld 0 66 := rfl
set_option maxRecDepth 20000 in
theorem c154_66 : xT 154 66 = oGetp 12 20 69 := rfl
set_option maxRecDepth 20000 in
theorem c154_69 : xT 154 69 = oIld 1 70 := rfl
set_option maxRecDepth 20000 in
theorem c154_70 : xT 154 70 = oAldi 20 71 := rfl
set_option maxRecDepth 20000 in
theorem c154_71 : xT 154 71 = oBin (fun x y => x + y) 72 := rfl
set_option maxRecDepth 20000 in
theorem c154_72 : xT 154 72 = oAld 0 73 := rfl
set_option maxRecDepth 20000 in
theorem c154_73 : xT 154 73 = oGetp 12 10 76 := rfl
set_option maxRecDepth 20000 in
theorem c154_76 : xT 154 76 = oIld 2 77 := rfl
set_option maxRecDepth 20000 in
theorem c154_77 : xT 154 77 = oAldi 20 78 := rfl
set_option maxRecDepth 20000 in
theorem c154_78 : xT 154 78 = oIcmp (fun x y => y < x) 234 81 := rfl
set_option maxRecDepth 20000 in
theorem c154_81 : xT 154 81 = oAld 0 82 := rfl
set_option maxRecDepth 20000 in
theorem c154_82 : xT 154 82 = oIld 2 83 := rfl
set_option maxRecDepth 20000 in
theorem c154_83 : xT 154 83 = oIld 7 85 := rfl
set_option maxRecDepth 20000 in
theorem c154_85 : xT 154 85 = oAld 0 86 := rfl
set_option maxRecDepth 20000 in
theorem c154_86 : xT 154 86 = oGetp 12 20 89 := rfl
set_option maxRecDepth 20000 in
theorem c154_89 : xT 154 89 = oIld 1 90 := rfl
set_option maxRecDepth 20000 in
theorem c154_90 : xT 154 90 = oAldi 20 91 := rfl
set_option maxRecDepth 20000 in
theorem c154_91 : xT 154 91 = oCallV 13 144 4 94 := rfl
set_option maxRecDepth 20000 in
theorem c154_94 : xT 154 94 = oIf (fun x => x = 0) 100 97 := rfl
set_option maxRecDepth 20000 in
theorem c154_97 : xT 154 97 = oGoto 234 := rfl
set_option maxRecDepth 20000 in
theorem c154_100 : xT 154 100 = oIld 5 102 := rfl
set_option maxRecDepth 20000 in
theorem c154_102 : xT 154 102 = oIld 4 104 := rfl
set_option maxRecDepth 20000 in
theorem c154_104 : xT 154 104 = oPush (.int (1)) 105 := rfl
set_option maxRecDepth 20000 in
theorem c154_105 : xT 154 105 = oBin (fun x y => x - y) 106 := rfl
set_option maxRecDepth 20000 in
theorem c154_106 : xT 154 106 = oIcmp (fun x y => x = y) 109 135 := rfl
set_option maxRecDepth 20000 in
theorem c154_109 : xT 154 109 = oAld 0 110 := rfl
set_option maxRecDepth 20000 in
theorem c154_110 : xT 154 110 = oGetp 12 35 113 := rfl
set_option maxRecDepth 20000 in
theorem c154_113 : xT 154 113 = oPush (.int (200)) 116 := rfl
set_option maxRecDepth 20000 in
theorem c154_116 : xT 154 116 = oIld 5 118 := rfl
set_option maxRecDepth 20000 in
theorem c154_118 : xT 154 118 = oBin (fun x y => x * y) 119 := rfl
set_option maxRecDepth 20000 in
theorem c154_119 : xT 154 119 = oIld 6 121 := rfl
set_option maxRecDepth 20000 in
theorem c154_121 : xT 154 121 = oBin (fun x y => x + y) 122 := rfl
set_option maxRecDepth 20000 in
theorem c154_122 : xT 154 122 = oAld 0 123 := rfl
set_option maxRecDepth 20000 in
theorem c154_123 : xT 154 123 = oIld 1 124 := rfl
set_option maxRecDepth 20000 in
theorem c154_124 : xT 154 124 = oIld 2 125 := rfl
set_option maxRecDepth 20000 in
theorem c154_125 : xT 154 125 = oIld 3 126 := rfl
set_option maxRecDepth 20000 in
theorem c154_126 : xT 154 126 = oIld 7 128 := rfl
set_option maxRecDepth 20000 in
theorem c154_128 : xT 154 128 = oCallV 13 155 5 131 := rfl
set_option maxRecDepth 20000 in
theorem c154_131 : xT 154 131 = oAsti 20 (fun x => x) 132 := rfl
set_option maxRecDepth 20000 in
theorem c154_132 : xT 154 132 = oGoto 234 := rfl
set_option maxRecDepth 20000 in
theorem c154_135 : xT 154 135 = oPush (.int (1)) 136 := rfl
set_option maxRecDepth 20000 in
theorem c154_136 : xT 154 136 = oIst 8 138 10 := rfl
set_option maxRecDepth 20000 in
theorem c154_138 : xT 154 138 = oTr [0, 1, 2, 3, 4, 5, 6, 8] (oIld 8 140) := rfl
set_option maxRecDepth 20000 in
theorem c154_140 : xT 154 140 = oPush (.int (4)) 141 := rfl
set_option maxRecDepth 20000 in
theorem c154_141 : xT 154 141 = oIcmp (fun x y => y < x) 234 144 := rfl
set_option maxRecDepth 20000 in
theorem c154_144 : xT 154 144 = oAld 0 145 := rfl
set_option maxRecDepth 20000 in
theorem c154_145 : xT 154 145 = oIld 1 146 := rfl
set_option maxRecDepth 20000 in
theorem c154_146 : xT 154 146 = oIld 5 148 := rfl
set_option maxRecDepth 20000 in
theorem c154_148 : xT 154 148 = oIld 6 150 := rfl
set_option maxRecDepth 20000 in
theorem c154_150 : xT 154 150 = oIld 8 152 := rfl
set_option maxRecDepth 20000 in
theorem c154_152 : xT 154 152 = oCallV 13 156 5 155 := rfl
set_option maxRecDepth 20000 in
theorem c154_155 : xT 154 155 = oIst 9 157 10 := rfl
set_option maxRecDepth 20000 in
theorem c154_157 : xT 154 157 = oIld 9 159 := rfl
set_option maxRecDepth 20000 in
theorem c154_159 : xT 154 159 = oPush (.int (200)) 162 := rfl
set_option maxRecDepth 20000 in
theorem c154_162 : xT 154 162 = oIcmp (fun x y => y ≤ x) 228 165 := rfl
set_option maxRecDepth 20000 in
theorem c154_165 : xT 154 165 = oAld 0 166 := rfl
set_option maxRecDepth 20000 in
theorem c154_166 : xT 154 166 = oGetp 12 35 169 := rfl
set_option maxRecDepth 20000 in
theorem c154_169 : xT 154 169 = oPush (.int (200)) 172 := rfl
set_option maxRecDepth 20000 in
theorem c154_172 : xT 154 172 = oIld 5 174 := rfl
set_option maxRecDepth 20000 in
theorem c154_174 : xT 154 174 = oPush (.int (1)) 175 := rfl
set_option maxRecDepth 20000 in
theorem c154_175 : xT 154 175 = oBin (fun x y => x + y) 176 := rfl
set_option maxRecDepth 20000 in
theorem c154_176 : xT 154 176 = oBin (fun x y => x * y) 177 := rfl
set_option maxRecDepth 20000 in
theorem c154_177 : xT 154 177 = oIld 9 179 := rfl
set_option maxRecDepth 20000 in
theorem c154_179 : xT 154 179 = oBin (fun x y => x + y) 180 := rfl
set_option maxRecDepth 20000 in
theorem c154_180 : xT 154 180 = oAldi 20 181 := rfl
set_option maxRecDepth 20000 in
theorem c154_181 : xT 154 181 = oAld 0 182 := rfl
set_option maxRecDepth 20000 in
theorem c154_182 : xT 154 182 = oGetp 12 35 185 := rfl
set_option maxRecDepth 20000 in
theorem c154_185 : xT 154 185 = oPush (.int (200)) 188 := rfl
set_option maxRecDepth 20000 in
theorem c154_188 : xT 154 188 = oIld 5 190 := rfl
set_option maxRecDepth 20000 in
theorem c154_190 : xT 154 190 = oBin (fun x y => x * y) 191 := rfl
set_option maxRecDepth 20000 in
theorem c154_191 : xT 154 191 = oIld 6 193 := rfl
set_option maxRecDepth 20000 in
theorem c154_193 : xT 154 193 = oBin (fun x y => x + y) 194 := rfl
set_option maxRecDepth 20000 in
theorem c154_194 : xT 154 194 = oAldi 20 195 := rfl
set_option maxRecDepth 20000 in
theorem c154_195 : xT 154 195 = oIcmp (fun x y => y ≤ x) 228 198 := rfl
set_option maxRecDepth 20000 in
theorem c154_198 : xT 154 198 = oAld 0 199 := rfl
set_option maxRecDepth 20000 in
theorem c154_199 : xT 154 199 = oGetp 12 35 202 := rfl
set_option maxRecDepth 20000 in
theorem c154_202 : xT 154 202 = oPush (.int (200)) 205 := rfl
set_option maxRecDepth 20000 in
theorem c154_205 : xT 154 205 = oIld 5 207 := rfl
set_option maxRecDepth 20000 in
theorem c154_207 : xT 154 207 = oBin (fun x y => x * y) 208 := rfl
set_option maxRecDepth 20000 in
theorem c154_208 : xT 154 208 = oIld 6 210 := rfl
set_option maxRecDepth 20000 in
theorem c154_210 : xT 154 210 = oBin (fun x y => x + y) 211 := rfl
set_option maxRecDepth 20000 in
theorem c154_211 : xT 154 211 = oAld 0 212 := rfl
set_option maxRecDepth 20000 in
theorem c154_212 : xT 154 212 = oGetp 12 35 215 := rfl
set_option maxRecDepth 20000 in
theorem c154_215 : xT 154 215 = oPush (.int (200)) 218 := rfl
set_option maxRecDepth 20000 in
theorem c154_218 : xT 154 218 = oIld 5 220 := rfl
set_option maxRecDepth 20000 in
theorem c154_220 : xT 154 220 = oPush (.int (1)) 221 := rfl
set_option maxRecDepth 20000 in
theorem c154_221 : xT 154 221 = oBin (fun x y => x + y) 222 := rfl
set_option maxRecDepth 20000 in
theorem c154_222 : xT 154 222 = oBin (fun x y => x * y) 223 := rfl
set_option maxRecDepth 20000 in
theorem c154_223 : xT 154 223 = oIld 9 225 := rfl
set_option maxRecDepth 20000 in
theorem c154_225 : xT 154 225 = oBin (fun x y => x + y) 226 := rfl
set_option maxRecDepth 20000 in
theorem c154_226 : xT 154 226 = oAldi 20 227 := rfl
set_option maxRecDepth 20000 in
theorem c154_227 : xT 154 227 = oAsti 20 (fun x => x) 228 := rfl
set_option maxRecDepth 20000 in
theorem c154_228 : xT 154 228 = oTr [0, 1, 2, 3, 4, 5, 6, 8] (oIinc 8 (1) 231 10) := rfl
set_option maxRecDepth 20000 in
theorem c154_231 : xT 154 231 = oGoto 138 := rfl
set_option maxRecDepth 20000 in
theorem c154_234 : xT 154 234 = oTr [0, 1, 2, 3, 4, 5, 6] (oIinc 6 (1) 237 10) := rfl
set_option maxRecDepth 20000 in
theorem c154_237 : xT 154 237 = oGoto 22 := rfl
set_option maxRecDepth 20000 in
theorem c154_240 : xT 154 240 = oIinc 5 (-1) 243 10 := rfl
set_option maxRecDepth 20000 in
theorem c154_243 : xT 154 243 = oGoto 14 := rfl
set_option maxRecDepth 20000 in
theorem c154_246 : xT 154 246 = oRv := rfl
theorem c155_0 : xT 155 0 = oAld 0 1 := rfl
theorem c155_1 : xT 155 1 = oIld 4 3 := rfl
theorem c155_3 : xT 155 3 = oAld 0 4 := rfl
theorem c155_4 : xT 155 4 = oGetp 12 20 7 := rfl
theorem c155_7 : xT 155 7 = oIld 1 8 := rfl
theorem c155_8 : xT 155 8 = oAldi 20 9 := rfl
theorem c155_9 : xT 155 9 = oBin (fun x y => x + y) 10 := rfl
theorem c155_10 : xT 155 10 = oAld 0 11 := rfl
theorem c155_11 : xT 155 11 = oGetp 12 21 14 := rfl
theorem c155_14 : xT 155 14 = oIld 1 15 := rfl
theorem c155_15 : xT 155 15 = oAldi 20 16 := rfl
theorem c155_16 : xT 155 16 = oPush (.int (2)) 17 := rfl
theorem c155_17 : xT 155 17 = oDiv (fun x y => x / y) 18 := rfl
theorem c155_18 : xT 155 18 = oAld 0 19 := rfl
theorem c155_19 : xT 155 19 = oIld 3 20 := rfl
theorem c155_20 : xT 155 20 = oPush (.int (0)) 21 := rfl
theorem c155_21 : xT 155 21 = oCallV 13 137 3 24 := rfl
theorem c155_24 : xT 155 24 = oCallV 13 152 4 27 := rfl
theorem c155_27 : xT 155 27 = oIst 5 29 8 := rfl
theorem c155_29 : xT 155 29 = oPush (.int (0)) 30 := rfl
theorem c155_30 : xT 155 30 = oIst 6 32 8 := rfl
theorem c155_32 : xT 155 32 = oTr [0, 1, 2, 5, 6] (oIld 6 34) := rfl
theorem c155_34 : xT 155 34 = oPush (.int (4)) 35 := rfl
theorem c155_35 : xT 155 35 = oIcmp (fun x y => y ≤ x) 109 38 := rfl
theorem c155_38 : xT 155 38 = oIld 5 40 := rfl
theorem c155_40 : xT 155 40 = oIld 6 42 := rfl
theorem c155_42 : xT 155 42 = oAld 0 43 := rfl
theorem c155_43 : xT 155 43 = oGeti 12 32 46 := rfl
theorem c155_46 : xT 155 46 = oBin (fun x y => x * y) 47 := rfl
theorem c155_47 : xT 155 47 = oBin (fun x y => x + y) 48 := rfl
theorem c155_48 : xT 155 48 = oIst 7 50 8 := rfl
theorem c155_50 : xT 155 50 = oAld 0 51 := rfl
theorem c155_51 : xT 155 51 = oIld 6 53 := rfl
theorem c155_53 : xT 155 53 = oPuti 12 36 56 := rfl
theorem c155_56 : xT 155 56 = oIld 7 58 := rfl
theorem c155_58 : xT 155 58 = oAld 0 59 := rfl
theorem c155_59 : xT 155 59 = oGetp 12 21 62 := rfl
theorem c155_62 : xT 155 62 = oIld 1 63 := rfl
theorem c155_63 : xT 155 63 = oAldi 20 64 := rfl
theorem c155_64 : xT 155 64 = oBin (fun x y => x + y) 65 := rfl
theorem c155_65 : xT 155 65 = oAld 0 66 := rfl
theorem c155_66 : xT 155 66 = oGetp 12 10 69 := rfl
theorem c155_69 : xT 155 69 = oIld 2 70 := rfl
theorem c155_70 : xT 155 70 = oAldi 20 71 := rfl
theorem c155_71 : xT 155 71 = oIcmp (fun x y => x ≤ y) 77 74 := rfl
theorem c155_74 : xT 155 74 = oPush (.int (1000000)) 76 := rfl
theorem c155_76 : xT 155 76 = oRi (fun _ => True) := rfl
theorem c155_77 : xT 155 77 = oAld 0 78 := rfl
theorem c155_78 : xT 155 78 = oIld 2 79 := rfl
theorem c155_79 : xT 155 79 = oIld 7 81 := rfl
theorem c155_81 : xT 155 81 = oAld 0 82 := rfl
theorem c155_82 : xT 155 82 = oGetp 12 21 85 := rfl
theorem c155_85 : xT 155 85 = oIld 1 86 := rfl
theorem c155_86 : xT 155 86 = oAldi 20 87 := rfl
theorem c155_87 : xT 155 87 = oCallV 13 144 4 90 := rfl
theorem c155_90 : xT 155 90 = oIf (fun x => x = 0) 93 103 := rfl
theorem c155_93 : xT 155 93 = oIld 7 95 := rfl
theorem c155_95 : xT 155 95 = oAld 0 96 := rfl
theorem c155_96 : xT 155 96 = oGetp 12 21 99 := rfl
theorem c155_99 : xT 155 99 = oIld 1 100 := rfl
theorem c155_100 : xT 155 100 = oAldi 20 101 := rfl
theorem c155_101 : xT 155 101 = oBin (fun x y => x + y) 102 := rfl
theorem c155_102 : xT 155 102 = oRi (fun _ => True) := rfl
theorem c155_103 : xT 155 103 = oIinc 6 (1) 106 8 := rfl
theorem c155_106 : xT 155 106 = oGoto 32 := rfl
theorem c155_109 : xT 155 109 = oPush (.int (1000000)) 111 := rfl
theorem c155_111 : xT 155 111 = oRi (fun _ => True) := rfl
theorem c156_0 : xT 156 0 = oAld 0 1 := rfl
theorem c156_1 : xT 156 1 = oIld 1 2 := rfl
theorem c156_2 : xT 156 2 = oIld 2 3 := rfl
theorem c156_3 : xT 156 3 = oCallV 13 153 3 6 := rfl
theorem c156_6 : xT 156 6 = oAld 0 7 := rfl
theorem c156_7 : xT 156 7 = oIld 1 8 := rfl
theorem c156_8 : xT 156 8 = oIld 2 9 := rfl
theorem c156_9 : xT 156 9 = oIld 4 11 := rfl
theorem c156_11 : xT 156 11 = oCallV 13 157 4 14 := rfl
theorem c156_14 : xT 156 14 = oAld 0 15 := rfl
theorem c156_15 : xT 156 15 = oGeti 12 32 18 := rfl
theorem c156_18 : xT 156 18 = oBin (fun x y => x * y) 19 := rfl
theorem c156_19 : xT 156 19 = oBin (fun x y => x + y) 20 := rfl
theorem c156_20 : xT 156 20 = oAld 0 21 := rfl
theorem c156_21 : xT 156 21 = oGetp 12 20 24 := rfl
theorem c156_24 : xT 156 24 = oIld 1 25 := rfl
theorem c156_25 : xT 156 25 = oAldi 20 26 := rfl
theorem c156_26 : xT 156 26 = oIcmp (fun x y => x ≤ y) 42 29 := rfl
theorem c156_29 : xT 156 29 = oIld 3 30 := rfl
theorem c156_30 : xT 156 30 = oAld 0 31 := rfl
theorem c156_31 : xT 156 31 = oIld 1 32 := rfl
theorem c156_32 : xT 156 32 = oIld 2 33 := rfl
theorem c156_33 : xT 156 33 = oIld 4 35 := rfl
theorem c156_35 : xT 156 35 = oCallV 13 157 4 38 := rfl
theorem c156_38 : xT 156 38 = oBin (fun x y => x + y) 39 := rfl
theorem c156_39 : xT 156 39 = oGoto 45 := rfl
theorem c156_42 : xT 156 42 = oPush (.int (200)) 45 := rfl
theorem c156_45 : xT 156 45 = oTr [] (oRi (fun _ => True)) := rfl
theorem c157_0 : xT 157 0 = oAld 0 1 := rfl
theorem c157_1 : xT 157 1 = oGetp 12 14 4 := rfl
theorem c157_4 : xT 157 4 = oIld 1 5 := rfl
theorem c157_5 : xT 157 5 = oAldi 20 6 := rfl
theorem c157_6 : xT 157 6 = oPush (.int (4)) 7 := rfl
theorem c157_7 : xT 157 7 = oIcmp (fun x y => x = y) 10 14 := rfl
theorem c157_10 : xT 157 10 = oPush (.int (2)) 11 := rfl
theorem c157_11 : xT 157 11 = oIld 3 12 := rfl
theorem c157_12 : xT 157 12 = oBin (fun x y => x * y) 13 := rfl
theorem c157_13 : xT 157 13 = oRi (fun _ => True) := rfl
theorem c157_14 : xT 157 14 = oAld 0 15 := rfl
theorem c157_15 : xT 157 15 = oGetp 12 14 18 := rfl
theorem c157_18 : xT 157 18 = oIld 1 19 := rfl
theorem c157_19 : xT 157 19 = oAldi 20 20 := rfl
theorem c157_20 : xT 157 20 = oPush (.int (3)) 21 := rfl
theorem c157_21 : xT 157 21 = oIcmp (fun x y => x = y) 46 24 := rfl
theorem c157_24 : xT 157 24 = oAld 0 25 := rfl
theorem c157_25 : xT 157 25 = oGetp 12 14 28 := rfl
theorem c157_28 : xT 157 28 = oIld 1 29 := rfl
theorem c157_29 : xT 157 29 = oAldi 20 30 := rfl
theorem c157_30 : xT 157 30 = oPush (.int (5)) 31 := rfl
theorem c157_31 : xT 157 31 = oIcmp (fun x y => x = y) 34 54 := rfl
theorem c157_34 : xT 157 34 = oIld 2 35 := rfl
theorem c157_35 : xT 157 35 = oAld 0 36 := rfl
theorem c157_36 : xT 157 36 = oGetp 12 18 39 := rfl
theorem c157_39 : xT 157 39 = oIld 1 40 := rfl
theorem c157_40 : xT 157 40 = oAldi 20 41 := rfl
theorem c157_41 : xT 157 41 = oPush (.int (2)) 42 := rfl
theorem c157_42 : xT 157 42 = oBin (fun x y => x - y) 43 := rfl
theorem c157_43 : xT 157 43 = oIcmp (fun x y => y ≤ x) 54 46 := rfl
theorem c157_46 : xT 157 46 = oTr [3] (oIld 3 47) := rfl
theorem c157_47 : xT 157 47 = oIld 3 48 := rfl
theorem c157_48 : xT 157 48 = oPush (.int (2)) 49 := rfl
theorem c157_49 : xT 157 49 = oDiv (fun x y => x - x / y * y) 50 := rfl
theorem c157_50 : xT 157 50 = oBin (fun x y => x + y) 51 := rfl
theorem c157_51 : xT 157 51 = oGoto 55 := rfl
theorem c157_54 : xT 157 54 = oTr [3] (oIld 3 55) := rfl
theorem c157_55 : xT 157 55 = oTr [] (oRi (fun _ => True)) := rfl
theorem c158_0 : xT 158 0 = oAld 0 1 := rfl
theorem c158_1 : xT 158 1 = oIld 2 2 := rfl
theorem c158_2 : xT 158 2 = oPuti 12 39 5 := rfl
theorem c158_5 : xT 158 5 = oAld 0 6 := rfl
theorem c158_6 : xT 158 6 = oIld 3 7 := rfl
theorem c158_7 : xT 158 7 = oPuti 12 40 10 := rfl
theorem c158_10 : xT 158 10 = oAld 0 11 := rfl
theorem c158_11 : xT 158 11 = oAld 0 12 := rfl
theorem c158_12 : xT 158 12 = oGetp 12 35 15 := rfl
theorem c158_15 : xT 158 15 = oPush (.int (0)) 16 := rfl
theorem c158_16 : xT 158 16 = oAldi 20 17 := rfl
theorem c158_17 : xT 158 17 = oPuti 12 41 20 := rfl
theorem c158_20 : xT 158 20 = oPush (.int (0)) 21 := rfl
theorem c158_21 : xT 158 21 = oIst 4 23 7 := rfl
theorem c158_23 : xT 158 23 = oPush (.int (0)) 24 := rfl
theorem c158_24 : xT 158 24 = oIst 5 26 7 := rfl
theorem c158_26 : xT 158 26 = oTr [0, 1, 4, 5] (oIld 5 28) := rfl
theorem c158_28 : xT 158 28 = oAld 0 29 := rfl
theorem c158_29 : xT 158 29 = oGetp 12 18 32 := rfl
theorem c158_32 : xT 158 32 = oIld 1 33 := rfl
theorem c158_33 : xT 158 33 = oAldi 20 34 := rfl
theorem c158_34 : xT 158 34 = oIcmp (fun x y => y ≤ x) 177 37 := rfl
theorem c158_37 : xT 158 37 = oAld 0 38 := rfl
theorem c158_38 : xT 158 38 = oGetp 12 38 41 := rfl
theorem c158_41 : xT 158 41 = oIld 5 43 := rfl
theorem c158_43 : xT 158 43 = oAld 0 44 := rfl
theorem c158_44 : xT 158 44 = oGetp 12 34 47 := rfl
theorem c158_47 : xT 158 47 = oIld 5 49 := rfl
theorem c158_49 : xT 158 49 = oAldi 20 50 := rfl
theorem c158_50 : xT 158 50 = oIld 4 52 := rfl
theorem c158_52 : xT 158 52 = oAld 0 53 := rfl
theorem c158_53 : xT 158 53 = oGeti 12 32 56 := rfl
theorem c158_56 : xT 158 56 = oBin (fun x y => x * y) 57 := rfl
theorem c158_57 : xT 158 57 = oBin (fun x y => x + y) 58 := rfl
theorem c158_58 : xT 158 58 = oAsti 20 (fun x => x) 59 := rfl
theorem c158_59 : xT 158 59 = oAld 0 60 := rfl
theorem c158_60 : xT 158 60 = oGetp 12 37 63 := rfl
theorem c158_63 : xT 158 63 = oIld 5 65 := rfl
theorem c158_65 : xT 158 65 = oPush (.int (-1)) 66 := rfl
theorem c158_66 : xT 158 66 = oAsti 20 (fun x => x) 67 := rfl
theorem c158_67 : xT 158 67 = oIld 5 69 := rfl
theorem c158_69 : xT 158 69 = oAld 0 70 := rfl
theorem c158_70 : xT 158 70 = oGetp 12 18 73 := rfl
theorem c158_73 : xT 158 73 = oIld 1 74 := rfl
theorem c158_74 : xT 158 74 = oAldi 20 75 := rfl
theorem c158_75 : xT 158 75 = oPush (.int (1)) 76 := rfl
theorem c158_76 : xT 158 76 = oBin (fun x y => x - y) 77 := rfl
theorem c158_77 : xT 158 77 = oIcmp (fun x y => x = y) 80 81 := rfl
theorem c158_80 : xT 158 80 = oRv := rfl
theorem c158_81 : xT 158 81 = oPush (.int (1)) 82 := rfl
theorem c158_82 : xT 158 82 = oIst 6 84 7 := rfl
theorem c158_84 : xT 158 84 = oTr [0, 1, 4, 5, 6] (oAld 0 85) := rfl
theorem c158_85 : xT 158 85 = oIld 1 86 := rfl
theorem c158_86 : xT 158 86 = oIld 5 88 := rfl
theorem c158_88 : xT 158 88 = oIld 4 90 := rfl
theorem c158_90 : xT 158 90 = oIld 6 92 := rfl
theorem c158_92 : xT 158 92 = oCallV 13 156 5 95 := rfl
theorem c158_95 : xT 158 95 = oPush (.int (200)) 98 := rfl
theorem c158_98 : xT 158 98 = oIcmp (fun x y => y ≤ x) 143 101 := rfl
theorem c158_101 : xT 158 101 = oAld 0 102 := rfl
theorem c158_102 : xT 158 102 = oGetp 12 35 105 := rfl
theorem c158_105 : xT 158 105 = oPush (.int (200)) 108 := rfl
theorem c158_108 : xT 158 108 = oIld 5 110 := rfl
theorem c158_110 : xT 158 110 = oPush (.int (1)) 111 := rfl
theorem c158_111 : xT 158 111 = oBin (fun x y => x + y) 112 := rfl
theorem c158_112 : xT 158 112 = oBin (fun x y => x * y) 113 := rfl
theorem c158_113 : xT 158 113 = oAld 0 114 := rfl
theorem c158_114 : xT 158 114 = oIld 1 115 := rfl
theorem c158_115 : xT 158 115 = oIld 5 117 := rfl
theorem c158_117 : xT 158 117 = oIld 4 119 := rfl
theorem c158_119 : xT 158 119 = oIld 6 121 := rfl
theorem c158_121 : xT 158 121 = oCallV 13 156 5 124 := rfl
theorem c158_124 : xT 158 124 = oBin (fun x y => x + y) 125 := rfl
theorem c158_125 : xT 158 125 = oAldi 20 126 := rfl
theorem c158_126 : xT 158 126 = oAld 0 127 := rfl
theorem c158_127 : xT 158 127 = oGetp 12 35 130 := rfl
theorem c158_130 : xT 158 130 = oPush (.int (200)) 133 := rfl
theorem c158_133 : xT 158 133 = oIld 5 135 := rfl
theorem c158_135 : xT 158 135 = oBin (fun x y => x * y) 136 := rfl
theorem c158_136 : xT 158 136 = oIld 4 138 := rfl
theorem c158_138 : xT 158 138 = oBin (fun x y => x + y) 139 := rfl
theorem c158_139 : xT 158 139 = oAldi 20 140 := rfl
theorem c158_140 : xT 158 140 = oIcmp (fun x y => x = y) 149 143 := rfl
theorem c158_143 : xT 158 143 = oTr [0, 1, 4, 5, 6] (oIinc 6 (1) 146 7) := rfl
theorem c158_146 : xT 158 146 = oGoto 84 := rfl
theorem c158_149 : xT 158 149 = oAld 0 150 := rfl
theorem c158_150 : xT 158 150 = oGetp 12 37 153 := rfl
theorem c158_153 : xT 158 153 = oIld 5 155 := rfl
theorem c158_155 : xT 158 155 = oIld 6 157 := rfl
theorem c158_157 : xT 158 157 = oAsti 20 (fun x => x) 158 := rfl
theorem c158_158 : xT 158 158 = oAld 0 159 := rfl
theorem c158_159 : xT 158 159 = oIld 1 160 := rfl
theorem c158_160 : xT 158 160 = oIld 5 162 := rfl
theorem c158_162 : xT 158 162 = oIld 4 164 := rfl
theorem c158_164 : xT 158 164 = oIld 6 166 := rfl
theorem c158_166 : xT 158 166 = oCallV 13 156 5 169 := rfl
theorem c158_169 : xT 158 169 = oIst 4 171 7 := rfl
theorem c158_171 : xT 158 171 = oIinc 5 (1) 174 7 := rfl
theorem c158_174 : xT 158 174 = oGoto 26 := rfl
theorem c158_177 : xT 158 177 = oRv := rfl
theorem c159_0 : xT 159 0 = oAld 0 1 := rfl
theorem c159_1 : xT 159 1 = oIld 1 2 := rfl
theorem c159_2 : xT 159 2 = oCallV 13 147 2 5 := rfl
theorem c159_5 : xT 159 5 = oIf (fun x => x = 0) 18 8 := rfl
theorem c159_8 : xT 159 8 = oAld 0 9 := rfl
theorem c159_9 : xT 159 9 = oIld 2 10 := rfl
theorem c159_10 : xT 159 10 = oPush (.int (0)) 11 := rfl
theorem c159_11 : xT 159 11 = oPush (.int (4)) 12 := rfl
theorem c159_12 : xT 159 12 = oCallV 13 129 4 15 := rfl
theorem c159_15 : xT 159 15 = oIf (fun x => x = 0) 18 21 := rfl
theorem c159_18 : xT 159 18 = oTr [] (oPush (.int (-2)) 20) := rfl
theorem c159_20 : xT 159 20 = oRi (fun _ => True) := rfl
theorem c159_21 : xT 159 21 = oAld 0 22 := rfl
theorem c159_22 : xT 159 22 = oIld 1 23 := rfl
theorem c159_23 : xT 159 23 = oCallV 13 160 2 26 := rfl
theorem c159_26 : xT 159 26 = oIf (fun x => x = 0) 29 32 := rfl
theorem c159_29 : xT 159 29 = oPush (.int (-3)) 31 := rfl
theorem c159_31 : xT 159 31 = oRi (fun _ => True) := rfl
theorem c159_32 : xT 159 32 = oIld 2 33 := rfl
theorem c159_33 : xT 159 33 = oIf (fun x => x = 0) 36 45 := rfl
theorem c159_36 : xT 159 36 = oAld 0 37 := rfl
theorem c159_37 : xT 159 37 = oGetp 12 24 40 := rfl
theorem c159_40 : xT 159 40 = oIld 1 41 := rfl
theorem c159_41 : xT 159 41 = oAldi 20 42 := rfl
theorem c159_42 : xT 159 42 = oGoto 100 := rfl
theorem c159_45 : xT 159 45 = oIld 2 46 := rfl
theorem c159_46 : xT 159 46 = oPush (.int (1)) 47 := rfl
theorem c159_47 : xT 159 47 = oIcmp (fun x y => x = y) 50 59 := rfl
theorem c159_50 : xT 159 50 = oAld 0 51 := rfl
theorem c159_51 : xT 159 51 = oGetp 12 25 54 := rfl
theorem c159_54 : xT 159 54 = oIld 1 55 := rfl
theorem c159_55 : xT 159 55 = oAldi 20 56 := rfl
theorem c159_56 : xT 159 56 = oGoto 100 := rfl
theorem c159_59 : xT 159 59 = oIld 2 60 := rfl
theorem c159_60 : xT 159 60 = oPush (.int (2)) 61 := rfl
theorem c159_61 : xT 159 61 = oIcmp (fun x y => x = y) 64 80 := rfl
theorem c159_64 : xT 159 64 = oAld 0 65 := rfl
theorem c159_65 : xT 159 65 = oGetp 12 25 68 := rfl
theorem c159_68 : xT 159 68 = oIld 1 69 := rfl
theorem c159_69 : xT 159 69 = oAldi 20 70 := rfl
theorem c159_70 : xT 159 70 = oAld 0 71 := rfl
theorem c159_71 : xT 159 71 = oGetp 12 21 74 := rfl
theorem c159_74 : xT 159 74 = oIld 1 75 := rfl
theorem c159_75 : xT 159 75 = oAldi 20 76 := rfl
theorem c159_76 : xT 159 76 = oBin (fun x y => x + y) 77 := rfl
theorem c159_77 : xT 159 77 = oGoto 100 := rfl
theorem c159_80 : xT 159 80 = oIld 2 81 := rfl
theorem c159_81 : xT 159 81 = oPush (.int (3)) 82 := rfl
theorem c159_82 : xT 159 82 = oIcmp (fun x y => x = y) 85 94 := rfl
theorem c159_85 : xT 159 85 = oAld 0 86 := rfl
theorem c159_86 : xT 159 86 = oGetp 12 26 89 := rfl
theorem c159_89 : xT 159 89 = oIld 1 90 := rfl
theorem c159_90 : xT 159 90 = oAldi 20 91 := rfl
theorem c159_91 : xT 159 91 = oGoto 100 := rfl
theorem c159_94 : xT 159 94 = oAld 0 95 := rfl
theorem c159_95 : xT 159 95 = oGetp 12 27 98 := rfl
theorem c159_98 : xT 159 98 = oIld 1 99 := rfl
theorem c159_99 : xT 159 99 = oAldi 20 100 := rfl
theorem c159_100 : xT 159 100 = oTr [] (oRi (fun _ => True)) := rfl
theorem c160_0 : xT 160 0 = oAld 0 1 := rfl
theorem c160_1 : xT 160 1 = oIld 1 2 := rfl
theorem c160_2 : xT 160 2 = oCallV 13 147 2 5 := rfl
theorem c160_5 : xT 160 5 = oIf (fun x => x = 0) 21 8 := rfl
theorem c160_8 : xT 160 8 = oAld 0 9 := rfl
theorem c160_9 : xT 160 9 = oGetp 12 23 12 := rfl
theorem c160_12 : xT 160 12 = oIld 1 13 := rfl
theorem c160_13 : xT 160 13 = oAldi 20 14 := rfl
theorem c160_14 : xT 160 14 = oIf (fun x => x < 0) 21 17 := rfl
theorem c160_17 : xT 160 17 = oPush (.int (1)) 18 := rfl
theorem c160_18 : xT 160 18 = oGoto 22 := rfl
theorem c160_21 : xT 160 21 = oTr [] (oPush (.int (0)) 22) := rfl
theorem c160_22 : xT 160 22 = oTr [] (oRi (fun x => x = 0 ∨ x = 1)) := rfl
theorem c161_0 : xT 161 0 = oAld 0 1 := rfl
theorem c161_1 : xT 161 1 = oIld 1 2 := rfl
theorem c161_2 : xT 161 2 = oCallV 13 147 2 5 := rfl
theorem c161_5 : xT 161 5 = oIf (fun x => x = 0) 35 8 := rfl
theorem c161_8 : xT 161 8 = oAld 0 9 := rfl
theorem c161_9 : xT 161 9 = oIld 2 10 := rfl
theorem c161_10 : xT 161 10 = oPush (.int (0)) 11 := rfl
theorem c161_11 : xT 161 11 = oAld 0 12 := rfl
theorem c161_12 : xT 161 12 = oGetp 12 18 15 := rfl
theorem c161_15 : xT 161 15 = oIld 1 16 := rfl
theorem c161_16 : xT 161 16 = oAldi 20 17 := rfl
theorem c161_17 : xT 161 17 = oPush (.int (1)) 18 := rfl
theorem c161_18 : xT 161 18 = oBin (fun x y => x - y) 19 := rfl
theorem c161_19 : xT 161 19 = oCallV 13 129 4 22 := rfl
theorem c161_22 : xT 161 22 = oIf (fun x => x = 0) 35 25 := rfl
theorem c161_25 : xT 161 25 = oAld 0 26 := rfl
theorem c161_26 : xT 161 26 = oIld 3 27 := rfl
theorem c161_27 : xT 161 27 = oPush (.int (0)) 28 := rfl
theorem c161_28 : xT 161 28 = oPush (.int (3)) 29 := rfl
theorem c161_29 : xT 161 29 = oCallV 13 129 4 32 := rfl
theorem c161_32 : xT 161 32 = oIf (fun x => x = 0) 35 38 := rfl
theorem c161_35 : xT 161 35 = oTr [] (oPush (.int (-2)) 37) := rfl
theorem c161_37 : xT 161 37 = oRi (fun _ => True) := rfl
theorem c161_38 : xT 161 38 = oIld 3 39 := rfl
theorem c161_39 : xT 161 39 = oPush (.int (2)) 40 := rfl
theorem c161_40 : xT 161 40 = oIcmp (fun x y => x = y) 43 50 := rfl
theorem c161_43 : xT 161 43 = oAld 0 44 := rfl
theorem c161_44 : xT 161 44 = oIld 1 45 := rfl
theorem c161_45 : xT 161 45 = oIld 2 46 := rfl
theorem c161_46 : xT 161 46 = oCallV 13 162 3 49 := rfl
theorem c161_49 : xT 161 49 = oRi (fun _ => True) := rfl
theorem c161_50 : xT 161 50 = oAld 0 51 := rfl
theorem c161_51 : xT 161 51 = oIld 1 52 := rfl
theorem c161_52 : xT 161 52 = oCallV 13 160 2 55 := rfl
theorem c161_55 : xT 161 55 = oIf (fun x => x = 0) 58 61 := rfl
theorem c161_58 : xT 161 58 = oPush (.int (-3)) 60 := rfl
theorem c161_60 : xT 161 60 = oRi (fun _ => True) := rfl
theorem c161_61 : xT 161 61 = oIld 3 62 := rfl
theorem c161_62 : xT 161 62 = oIf (fun x => x = 0) 65 79 := rfl
theorem c161_65 : xT 161 65 = oAld 0 66 := rfl
theorem c161_66 : xT 161 66 = oGetp 12 29 69 := rfl
theorem c161_69 : xT 161 69 = oPush (.int (24)) 71 := rfl
theorem c161_71 : xT 161 71 = oIld 1 72 := rfl
theorem c161_72 : xT 161 72 = oBin (fun x y => x * y) 73 := rfl
theorem c161_73 : xT 161 73 = oIld 2 74 := rfl
theorem c161_74 : xT 161 74 = oBin (fun x y => x + y) 75 := rfl
theorem c161_75 : xT 161 75 = oAldi 20 76 := rfl
theorem c161_76 : xT 161 76 = oGoto 123 := rfl
theorem c161_79 : xT 161 79 = oIld 3 80 := rfl
theorem c161_80 : xT 161 80 = oPush (.int (1)) 81 := rfl
theorem c161_81 : xT 161 81 = oIcmp (fun x y => x = y) 84 98 := rfl
theorem c161_84 : xT 161 84 = oAld 0 85 := rfl
theorem c161_85 : xT 161 85 = oGetp 12 30 88 := rfl
theorem c161_88 : xT 161 88 = oPush (.int (24)) 90 := rfl
theorem c161_90 : xT 161 90 = oIld 1 91 := rfl
theorem c161_91 : xT 161 91 = oBin (fun x y => x * y) 92 := rfl
theorem c161_92 : xT 161 92 = oIld 2 93 := rfl
theorem c161_93 : xT 161 93 = oBin (fun x y => x + y) 94 := rfl
theorem c161_94 : xT 161 94 = oAldi 20 95 := rfl
theorem c161_95 : xT 161 95 = oGoto 123 := rfl
theorem c161_98 : xT 161 98 = oAld 0 99 := rfl
theorem c161_99 : xT 161 99 = oIld 1 100 := rfl
theorem c161_100 : xT 161 100 = oIld 2 101 := rfl
theorem c161_101 : xT 161 101 = oCallV 13 163 3 104 := rfl
theorem c161_104 : xT 161 104 = oAld 0 105 := rfl
theorem c161_105 : xT 161 105 = oGetp 12 29 108 := rfl
theorem c161_108 : xT 161 108 = oPush (.int (24)) 110 := rfl
theorem c161_110 : xT 161 110 = oIld 1 111 := rfl
theorem c161_111 : xT 161 111 = oBin (fun x y => x * y) 112 := rfl
theorem c161_112 : xT 161 112 = oIld 2 113 := rfl
theorem c161_113 : xT 161 113 = oBin (fun x y => x + y) 114 := rfl
theorem c161_114 : xT 161 114 = oAldi 20 115 := rfl
theorem c161_115 : xT 161 115 = oBin (fun x y => x - y) 116 := rfl
theorem c161_116 : xT 161 116 = oAld 0 117 := rfl
theorem c161_117 : xT 161 117 = oGetp 12 28 120 := rfl
theorem c161_120 : xT 161 120 = oIld 1 121 := rfl
theorem c161_121 : xT 161 121 = oAldi 20 122 := rfl
theorem c161_122 : xT 161 122 = oBin (fun x y => x - y) 123 := rfl
theorem c161_123 : xT 161 123 = oTr [] (oRi (fun _ => True)) := rfl
