theorem c162_0 : xT 162 0 = oIld 2 1 := rfl
theorem c162_1 : xT 162 1 = oPush (.int (1)) 2 := rfl
theorem c162_2 : xT 162 2 = oBin (fun x y => x + y) 3 := rfl
theorem c162_3 : xT 162 3 = oAld 0 4 := rfl
theorem c162_4 : xT 162 4 = oGetp 12 22 7 := rfl
theorem c162_7 : xT 162 7 = oIld 1 8 := rfl
theorem c162_8 : xT 162 8 = oAldi 20 9 := rfl
theorem c162_9 : xT 162 9 = oBin (fun x y => x * y) 10 := rfl
theorem c162_10 : xT 162 10 = oAld 0 11 := rfl
theorem c162_11 : xT 162 11 = oGetp 12 18 14 := rfl
theorem c162_14 : xT 162 14 = oIld 1 15 := rfl
theorem c162_15 : xT 162 15 = oAldi 20 16 := rfl
theorem c162_16 : xT 162 16 = oDiv (fun x y => x / y) 17 := rfl
theorem c162_17 : xT 162 17 = oIld 2 18 := rfl
theorem c162_18 : xT 162 18 = oAld 0 19 := rfl
theorem c162_19 : xT 162 19 = oGetp 12 22 22 := rfl
theorem c162_22 : xT 162 22 = oIld 1 23 := rfl
theorem c162_23 : xT 162 23 = oAldi 20 24 := rfl
theorem c162_24 : xT 162 24 = oBin (fun x y => x * y) 25 := rfl
theorem c162_25 : xT 162 25 = oAld 0 26 := rfl
theorem c162_26 : xT 162 26 = oGetp 12 18 29 := rfl
theorem c162_29 : xT 162 29 = oIld 1 30 := rfl
theorem c162_30 : xT 162 30 = oAldi 20 31 := rfl
theorem c162_31 : xT 162 31 = oDiv (fun x y => x / y) 32 := rfl
theorem c162_32 : xT 162 32 = oBin (fun x y => x - y) 33 := rfl
theorem c162_33 : xT 162 33 = oRi (fun _ => True) := rfl
theorem c163_0 : xT 163 0 = oIld 2 1 := rfl
theorem c163_1 : xT 163 1 = oPush (.int (1)) 2 := rfl
theorem c163_2 : xT 163 2 = oBin (fun x y => x + y) 3 := rfl
theorem c163_3 : xT 163 3 = oAld 0 4 := rfl
theorem c163_4 : xT 163 4 = oGetp 12 18 7 := rfl
theorem c163_7 : xT 163 7 = oIld 1 8 := rfl
theorem c163_8 : xT 163 8 = oAldi 20 9 := rfl
theorem c163_9 : xT 163 9 = oIcmp (fun x y => y ≤ x) 28 12 := rfl
theorem c163_12 : xT 163 12 = oAld 0 13 := rfl
theorem c163_13 : xT 163 13 = oGetp 12 29 16 := rfl
theorem c163_16 : xT 163 16 = oPush (.int (24)) 18 := rfl
theorem c163_18 : xT 163 18 = oIld 1 19 := rfl
theorem c163_19 : xT 163 19 = oBin (fun x y => x * y) 20 := rfl
theorem c163_20 : xT 163 20 = oIld 2 21 := rfl
theorem c163_21 : xT 163 21 = oBin (fun x y => x + y) 22 := rfl
theorem c163_22 : xT 163 22 = oPush (.int (1)) 23 := rfl
theorem c163_23 : xT 163 23 = oBin (fun x y => x + y) 24 := rfl
theorem c163_24 : xT 163 24 = oAldi 20 25 := rfl
theorem c163_25 : xT 163 25 = oGoto 34 := rfl
theorem c163_28 : xT 163 28 = oAld 0 29 := rfl
theorem c163_29 : xT 163 29 = oGetp 12 25 32 := rfl
theorem c163_32 : xT 163 32 = oIld 1 33 := rfl
theorem c163_33 : xT 163 33 = oAldi 20 34 := rfl
theorem c163_34 : xT 163 34 = oTr [] (oRi (fun _ => True)) := rfl
theorem c164_0 : xT 164 0 = oAld 0 1 := rfl
theorem c164_1 : xT 164 1 = oIld 1 2 := rfl
theorem c164_2 : xT 164 2 = oCallV 13 147 2 5 := rfl
theorem c164_5 : xT 164 5 = oIf (fun x => x = 0) 8 11 := rfl
theorem c164_8 : xT 164 8 = oPush (.int (-2)) 10 := rfl
theorem c164_10 : xT 164 10 = oRi (fun _ => True) := rfl
theorem c164_11 : xT 164 11 = oAld 0 12 := rfl
theorem c164_12 : xT 164 12 = oIld 1 13 := rfl
theorem c164_13 : xT 164 13 = oCallV 13 160 2 16 := rfl
theorem c164_16 : xT 164 16 = oIf (fun x => x = 0) 19 22 := rfl
theorem c164_19 : xT 164 19 = oPush (.int (-3)) 21 := rfl
theorem c164_21 : xT 164 21 = oRi (fun _ => True) := rfl
theorem c164_22 : xT 164 22 = oAld 0 23 := rfl
theorem c164_23 : xT 164 23 = oIld 2 24 := rfl
theorem c164_24 : xT 164 24 = oPush (.int (0)) 25 := rfl
theorem c164_25 : xT 164 25 = oAld 0 26 := rfl
theorem c164_26 : xT 164 26 = oIld 1 27 := rfl
theorem c164_27 : xT 164 27 = oIld 3 28 := rfl
theorem c164_28 : xT 164 28 = oCallV 13 165 3 31 := rfl
theorem c164_31 : xT 164 31 = oPush (.int (1)) 32 := rfl
theorem c164_32 : xT 164 32 = oBin (fun x y => x - y) 33 := rfl
theorem c164_33 : xT 164 33 = oCallV 13 129 4 36 := rfl
theorem c164_36 : xT 164 36 = oIf (fun x => x = 0) 39 41 := rfl
theorem c164_39 : xT 164 39 = oPush (.int (-1)) 40 := rfl
theorem c164_40 : xT 164 40 = oRi (fun _ => True) := rfl
theorem c164_41 : xT 164 41 = oAld 0 42 := rfl
theorem c164_42 : xT 164 42 = oGetp 12 31 45 := rfl
theorem c164_45 : xT 164 45 = oIld 1 46 := rfl
theorem c164_46 : xT 164 46 = oAldi 22 47 := rfl
theorem c164_47 : xT 164 47 = oIf (fun x => x = 0) 63 50 := rfl
theorem c164_50 : xT 164 50 = oAld 0 51 := rfl
theorem c164_51 : xT 164 51 = oIld 1 52 := rfl
theorem c164_52 : xT 164 52 = oIld 3 53 := rfl
theorem c164_53 : xT 164 53 = oCallV 13 165 3 56 := rfl
theorem c164_56 : xT 164 56 = oPush (.int (1)) 57 := rfl
theorem c164_57 : xT 164 57 = oBin (fun x y => x - y) 58 := rfl
theorem c164_58 : xT 164 58 = oIld 2 59 := rfl
theorem c164_59 : xT 164 59 = oBin (fun x y => x - y) 60 := rfl
theorem c164_60 : xT 164 60 = oGoto 64 := rfl
theorem c164_63 : xT 164 63 = oIld 2 64 := rfl
theorem c164_64 : xT 164 64 = oTr [0, 1, 3] (oIst 4 66 6) := rfl
theorem c164_66 : xT 164 66 = oPush (.int (0)) 67 := rfl
theorem c164_67 : xT 164 67 = oIst 5 69 6 := rfl
theorem c164_69 : xT 164 69 = oTr [0, 1, 3, 4, 5] (oIld 4 71) := rfl
theorem c164_71 : xT 164 71 = oAld 0 72 := rfl
theorem c164_72 : xT 164 72 = oGetp 12 28 75 := rfl
theorem c164_75 : xT 164 75 = oIld 1 76 := rfl
theorem c164_76 : xT 164 76 = oAldi 20 77 := rfl
theorem c164_77 : xT 164 77 = oIld 3 78 := rfl
theorem c164_78 : xT 164 78 = oIf (fun x => x = 0) 91 81 := rfl
theorem c164_81 : xT 164 81 = oAld 0 82 := rfl
theorem c164_82 : xT 164 82 = oIld 1 83 := rfl
theorem c164_83 : xT 164 83 = oIld 5 85 := rfl
theorem c164_85 : xT 164 85 = oCallV 13 162 3 88 := rfl
theorem c164_88 : xT 164 88 = oGoto 92 := rfl
theorem c164_91 : xT 164 91 = oPush (.int (0)) 92 := rfl
theorem c164_92 : xT 164 92 = oTr [0, 1, 3, 4, 5] (oBin (fun x y => x - y) 93) := rfl
theorem c164_93 : xT 164 93 = oIcmp (fun x y => x < y) 129 96 := rfl
theorem c164_96 : xT 164 96 = oIld 4 98 := rfl
theorem c164_98 : xT 164 98 = oAld 0 99 := rfl
theorem c164_99 : xT 164 99 = oGetp 12 28 102 := rfl
theorem c164_102 : xT 164 102 = oIld 1 103 := rfl
theorem c164_103 : xT 164 103 = oAldi 20 104 := rfl
theorem c164_104 : xT 164 104 = oIld 3 105 := rfl
theorem c164_105 : xT 164 105 = oIf (fun x => x = 0) 118 108 := rfl
theorem c164_108 : xT 164 108 = oAld 0 109 := rfl
theorem c164_109 : xT 164 109 = oIld 1 110 := rfl
theorem c164_110 : xT 164 110 = oIld 5 112 := rfl
theorem c164_112 : xT 164 112 = oCallV 13 162 3 115 := rfl
theorem c164_115 : xT 164 115 = oGoto 119 := rfl
theorem c164_118 : xT 164 118 = oPush (.int (0)) 119 := rfl
theorem c164_119 : xT 164 119 = oTr [0, 1, 3, 5] (oBin (fun x y => x - y) 120) := rfl
theorem c164_120 : xT 164 120 = oBin (fun x y => x - y) 121 := rfl
theorem c164_121 : xT 164 121 = oIst 4 123 6 := rfl
theorem c164_123 : xT 164 123 = oIinc 5 (1) 126 6 := rfl
theorem c164_126 : xT 164 126 = oGoto 69 := rfl
theorem c164_129 : xT 164 129 = oAld 0 130 := rfl
theorem c164_130 : xT 164 130 = oAld 0 131 := rfl
theorem c164_131 : xT 164 131 = oGetp 12 9 134 := rfl
theorem c164_134 : xT 164 134 = oAld 0 135 := rfl
theorem c164_135 : xT 164 135 = oGetp 12 23 138 := rfl
theorem c164_138 : xT 164 138 = oIld 1 139 := rfl
theorem c164_139 : xT 164 139 = oAldi 20 140 := rfl
theorem c164_140 : xT 164 140 = oAldi 20 141 := rfl
theorem c164_141 : xT 164 141 = oAld 0 142 := rfl
theorem c164_142 : xT 164 142 = oGetp 12 29 145 := rfl
theorem c164_145 : xT 164 145 = oPush (.int (24)) 147 := rfl
theorem c164_147 : xT 164 147 = oIld 1 148 := rfl
theorem c164_148 : xT 164 148 = oBin (fun x y => x * y) 149 := rfl
theorem c164_149 : xT 164 149 = oIld 5 151 := rfl
theorem c164_151 : xT 164 151 = oBin (fun x y => x + y) 152 := rfl
theorem c164_152 : xT 164 152 = oAldi 20 153 := rfl
theorem c164_153 : xT 164 153 = oIld 4 155 := rfl
theorem c164_155 : xT 164 155 = oBin (fun x y => x + y) 156 := rfl
theorem c164_156 : xT 164 156 = oIld 3 157 := rfl
theorem c164_157 : xT 164 157 = oIf (fun x => x = 0) 172 160 := rfl
theorem c164_160 : xT 164 160 = oAld 0 161 := rfl
theorem c164_161 : xT 164 161 = oIld 1 162 := rfl
theorem c164_162 : xT 164 162 = oIld 5 164 := rfl
theorem c164_164 : xT 164 164 = oCallV 13 162 3 167 := rfl
theorem c164_167 : xT 164 167 = oPush (.int (2)) 168 := rfl
theorem c164_168 : xT 164 168 = oDiv (fun x y => x / y) 169 := rfl
theorem c164_169 : xT 164 169 = oGoto 173 := rfl
theorem c164_172 : xT 164 172 = oPush (.int (0)) 173 := rfl
theorem c164_173 : xT 164 173 = oTr [] (oBin (fun x y => x + y) 174) := rfl
theorem c164_174 : xT 164 174 = oCallV 13 139 3 177 := rfl
theorem c164_177 : xT 164 177 = oRi (fun _ => True) := rfl
theorem c165_0 : xT 165 0 = oAld 0 1 := rfl
theorem c165_1 : xT 165 1 = oGetp 12 18 4 := rfl
theorem c165_4 : xT 165 4 = oIld 1 5 := rfl
theorem c165_5 : xT 165 5 = oAldi 20 6 := rfl
theorem c165_6 : xT 165 6 = oAld 0 7 := rfl
theorem c165_7 : xT 165 7 = oGetp 12 28 10 := rfl
theorem c165_10 : xT 165 10 = oIld 1 11 := rfl
theorem c165_11 : xT 165 11 = oAldi 20 12 := rfl
theorem c165_12 : xT 165 12 = oBin (fun x y => x * y) 13 := rfl
theorem c165_13 : xT 165 13 = oIld 2 14 := rfl
theorem c165_14 : xT 165 14 = oIf (fun x => x = 0) 26 17 := rfl
theorem c165_17 : xT 165 17 = oAld 0 18 := rfl
theorem c165_18 : xT 165 18 = oGetp 12 22 21 := rfl
theorem c165_21 : xT 165 21 = oIld 1 22 := rfl
theorem c165_22 : xT 165 22 = oAldi 20 23 := rfl
theorem c165_23 : xT 165 23 = oGoto 27 := rfl
theorem c165_26 : xT 165 26 = oPush (.int (0)) 27 := rfl
theorem c165_27 : xT 165 27 = oTr [] (oBin (fun x y => x - y) 28) := rfl
theorem c165_28 : xT 165 28 = oRi (fun _ => True) := rfl
theorem c166_0 : xT 166 0 = oAld 0 1 := rfl
theorem c166_1 : xT 166 1 = oIld 1 2 := rfl
theorem c166_2 : xT 166 2 = oCallV 13 147 2 5 := rfl
theorem c166_5 : xT 166 5 = oIf (fun x => x = 0) 8 11 := rfl
theorem c166_8 : xT 166 8 = oPush (.int (-2)) 10 := rfl
theorem c166_10 : xT 166 10 = oRi (fun _ => True) := rfl
theorem c166_11 : xT 166 11 = oAld 0 12 := rfl
theorem c166_12 : xT 166 12 = oIld 1 13 := rfl
theorem c166_13 : xT 166 13 = oCallV 13 160 2 16 := rfl
theorem c166_16 : xT 166 16 = oIf (fun x => x = 0) 28 19 := rfl
theorem c166_19 : xT 166 19 = oAld 0 20 := rfl
theorem c166_20 : xT 166 20 = oIld 1 21 := rfl
theorem c166_21 : xT 166 21 = oIld 2 22 := rfl
theorem c166_22 : xT 166 22 = oCallV 13 165 3 25 := rfl
theorem c166_25 : xT 166 25 = oGoto 30 := rfl
theorem c166_28 : xT 166 28 = oPush (.int (-3)) 30 := rfl
theorem c166_30 : xT 166 30 = oTr [] (oRi (fun _ => True)) := rfl
theorem c167_0 : xT 167 0 = oAld 0 1 := rfl
theorem c167_1 : xT 167 1 = oIld 1 2 := rfl
theorem c167_2 : xT 167 2 = oCallV 13 147 2 5 := rfl
theorem c167_5 : xT 167 5 = oIf (fun x => x = 0) 20 8 := rfl
theorem c167_8 : xT 167 8 = oAld 0 9 := rfl
theorem c167_9 : xT 167 9 = oIld 2 10 := rfl
theorem c167_10 : xT 167 10 = oPush (.int (-20)) 12 := rfl
theorem c167_12 : xT 167 12 = oPush (.int (20)) 14 := rfl
theorem c167_14 : xT 167 14 = oCallV 13 129 4 17 := rfl
theorem c167_17 : xT 167 17 = oIf (fun x => x = 0) 20 23 := rfl
theorem c167_20 : xT 167 20 = oTr [] (oPush (.int (-2)) 22) := rfl
theorem c167_22 : xT 167 22 = oRi (fun _ => True) := rfl
theorem c167_23 : xT 167 23 = oAld 0 24 := rfl
theorem c167_24 : xT 167 24 = oIld 1 25 := rfl
theorem c167_25 : xT 167 25 = oCallV 13 160 2 28 := rfl
theorem c167_28 : xT 167 28 = oIf (fun x => x = 0) 47 31 := rfl
theorem c167_31 : xT 167 31 = oAld 0 32 := rfl
theorem c167_32 : xT 167 32 = oIld 1 33 := rfl
theorem c167_33 : xT 167 33 = oAld 0 34 := rfl
theorem c167_34 : xT 167 34 = oGetp 12 28 37 := rfl
theorem c167_37 : xT 167 37 = oIld 1 38 := rfl
theorem c167_38 : xT 167 38 = oAldi 20 39 := rfl
theorem c167_39 : xT 167 39 = oIld 2 40 := rfl
theorem c167_40 : xT 167 40 = oBin (fun x y => x + y) 41 := rfl
theorem c167_41 : xT 167 41 = oCallV 13 168 3 44 := rfl
theorem c167_44 : xT 167 44 = oIf (fun x => x = 0) 47 50 := rfl
theorem c167_47 : xT 167 47 = oTr [] (oPush (.int (-3)) 49) := rfl
theorem c167_49 : xT 167 49 = oRi (fun _ => True) := rfl
theorem c167_50 : xT 167 50 = oAld 0 51 := rfl
theorem c167_51 : xT 167 51 = oGetp 12 28 54 := rfl
theorem c167_54 : xT 167 54 = oIld 1 55 := rfl
theorem c167_55 : xT 167 55 = oDup2 56 := rfl
theorem c167_56 : xT 167 56 = oAldi 20 57 := rfl
theorem c167_57 : xT 167 57 = oIld 2 58 := rfl
theorem c167_58 : xT 167 58 = oBin (fun x y => x + y) 59 := rfl
theorem c167_59 : xT 167 59 = oAsti 20 (fun x => x) 60 := rfl
theorem c167_60 : xT 167 60 = oAld 0 61 := rfl
theorem c167_61 : xT 167 61 = oGetp 12 28 64 := rfl
theorem c167_64 : xT 167 64 = oIld 1 65 := rfl
theorem c167_65 : xT 167 65 = oAldi 20 66 := rfl
theorem c167_66 : xT 167 66 = oRi (fun _ => True) := rfl
theorem c168_0 : xT 168 0 = oAld 0 1 := rfl
theorem c168_1 : xT 168 1 = oIld 2 2 := rfl
theorem c168_2 : xT 168 2 = oPush (.int (1)) 3 := rfl
theorem c168_3 : xT 168 3 = oPush (.int (999)) 6 := rfl
theorem c168_6 : xT 168 6 = oCallV 13 129 4 9 := rfl
theorem c168_9 : xT 168 9 = oIf (fun x => x = 0) 12 14 := rfl
theorem c168_12 : xT 168 12 = oPush (.int (0)) 13 := rfl
theorem c168_13 : xT 168 13 = oRi (fun x => x = 0 ∨ x = 1) := rfl
theorem c168_14 : xT 168 14 = oPush (.int (0)) 15 := rfl
theorem c168_15 : xT 168 15 = oIst 3 16 4 := rfl
theorem c168_16 : xT 168 16 = oTr [0, 1, 2, 3] (oIld 3 17) := rfl
theorem c168_17 : xT 168 17 = oAld 0 18 := rfl
theorem c168_18 : xT 168 18 = oGetp 12 18 21 := rfl
theorem c168_21 : xT 168 21 = oIld 1 22 := rfl
theorem c168_22 : xT 168 22 = oAldi 20 23 := rfl
theorem c168_23 : xT 168 23 = oIcmp (fun x y => y ≤ x) 91 26 := rfl
theorem c168_26 : xT 168 26 = oIld 2 27 := rfl
theorem c168_27 : xT 168 27 = oAld 0 28 := rfl
theorem c168_28 : xT 168 28 = oIld 1 29 := rfl
theorem c168_29 : xT 168 29 = oIld 3 30 := rfl
theorem c168_30 : xT 168 30 = oCallV 13 162 3 33 := rfl
theorem c168_33 : xT 168 33 = oIcmp (fun x y => x ≤ y) 83 36 := rfl
theorem c168_36 : xT 168 36 = oAld 0 37 := rfl
theorem c168_37 : xT 168 37 = oGetp 12 29 40 := rfl
theorem c168_40 : xT 168 40 = oPush (.int (24)) 42 := rfl
theorem c168_42 : xT 168 42 = oIld 1 43 := rfl
theorem c168_43 : xT 168 43 = oBin (fun x y => x * y) 44 := rfl
theorem c168_44 : xT 168 44 = oIld 3 45 := rfl
theorem c168_45 : xT 168 45 = oBin (fun x y => x + y) 46 := rfl
theorem c168_46 : xT 168 46 = oAldi 20 47 := rfl
theorem c168_47 : xT 168 47 = oIld 2 48 := rfl
theorem c168_48 : xT 168 48 = oBin (fun x y => x + y) 49 := rfl
theorem c168_49 : xT 168 49 = oAld 0 50 := rfl
theorem c168_50 : xT 168 50 = oIld 1 51 := rfl
theorem c168_51 : xT 168 51 = oIld 3 52 := rfl
theorem c168_52 : xT 168 52 = oCallV 13 163 3 55 := rfl
theorem c168_55 : xT 168 55 = oIcmp (fun x y => y < x) 83 58 := rfl
theorem c168_58 : xT 168 58 = oAld 0 59 := rfl
theorem c168_59 : xT 168 59 = oAld 0 60 := rfl
theorem c168_60 : xT 168 60 = oGetp 12 23 63 := rfl
theorem c168_63 : xT 168 63 = oIld 1 64 := rfl
theorem c168_64 : xT 168 64 = oAldi 20 65 := rfl
theorem c168_65 : xT 168 65 = oAld 0 66 := rfl
theorem c168_66 : xT 168 66 = oGetp 12 29 69 := rfl
theorem c168_69 : xT 168 69 = oPush (.int (24)) 71 := rfl
theorem c168_71 : xT 168 71 = oIld 1 72 := rfl
theorem c168_72 : xT 168 72 = oBin (fun x y => x * y) 73 := rfl
theorem c168_73 : xT 168 73 = oIld 3 74 := rfl
theorem c168_74 : xT 168 74 = oBin (fun x y => x + y) 75 := rfl
theorem c168_75 : xT 168 75 = oAldi 20 76 := rfl
theorem c168_76 : xT 168 76 = oIld 2 77 := rfl
theorem c168_77 : xT 168 77 = oCallV 13 144 4 80 := rfl
theorem c168_80 : xT 168 80 = oIf (fun x => x = 0) 85 83 := rfl
theorem c168_83 : xT 168 83 = oTr [] (oPush (.int (0)) 84) := rfl
theorem c168_84 : xT 168 84 = oRi (fun x => x = 0 ∨ x = 1) := rfl
theorem c168_85 : xT 168 85 = oIinc 3 (1) 88 4 := rfl
theorem c168_88 : xT 168 88 = oGoto 16 := rfl
theorem c168_91 : xT 168 91 = oPush (.int (1)) 92 := rfl
theorem c168_92 : xT 168 92 = oRi (fun x => x = 0 ∨ x = 1) := rfl
theorem c169_0 : xT 169 0 = oAld 0 1 := rfl
theorem c169_1 : xT 169 1 = oIld 1 2 := rfl
theorem c169_2 : xT 169 2 = oCallV 13 147 2 5 := rfl
theorem c169_5 : xT 169 5 = oIf (fun x => x = 0) 8 11 := rfl
theorem c169_8 : xT 169 8 = oPush (.int (-2)) 10 := rfl
theorem c169_10 : xT 169 10 = oRi (fun _ => True) := rfl
theorem c169_11 : xT 169 11 = oAld 0 12 := rfl
theorem c169_12 : xT 169 12 = oIld 1 13 := rfl
theorem c169_13 : xT 169 13 = oCallV 13 160 2 16 := rfl
theorem c169_16 : xT 169 16 = oIf (fun x => x = 0) 19 22 := rfl
theorem c169_19 : xT 169 19 = oPush (.int (-3)) 21 := rfl
theorem c169_21 : xT 169 21 = oRi (fun _ => True) := rfl
theorem c169_22 : xT 169 22 = oAld 0 23 := rfl
theorem c169_23 : xT 169 23 = oGetp 12 31 26 := rfl
theorem c169_26 : xT 169 26 = oIld 1 27 := rfl
theorem c169_27 : xT 169 27 = oAld 0 28 := rfl
theorem c169_28 : xT 169 28 = oGetp 12 31 31 := rfl
theorem c169_31 : xT 169 31 = oIld 1 32 := rfl
theorem c169_32 : xT 169 32 = oAldi 22 33 := rfl
theorem c169_33 : xT 169 33 = oIf (fun x => x = 0) 36 40 := rfl
theorem c169_36 : xT 169 36 = oPush (.int (1)) 37 := rfl
theorem c169_37 : xT 169 37 = oGoto 41 := rfl
theorem c169_40 : xT 169 40 = oPush (.int (0)) 41 := rfl
theorem c169_41 : xT 169 41 = oTr [0, 1] (oAsti 22 (vp_nar .boolean) 42) := rfl
theorem c169_42 : xT 169 42 = oAld 0 43 := rfl
theorem c169_43 : xT 169 43 = oGetp 12 31 46 := rfl
theorem c169_46 : xT 169 46 = oIld 1 47 := rfl
theorem c169_47 : xT 169 47 = oAldi 22 48 := rfl
theorem c169_48 : xT 169 48 = oIf (fun x => x = 0) 55 51 := rfl
theorem c169_51 : xT 169 51 = oPush (.int (1)) 52 := rfl
theorem c169_52 : xT 169 52 = oGoto 56 := rfl
theorem c169_55 : xT 169 55 = oPush (.int (0)) 56 := rfl
theorem c169_56 : xT 169 56 = oTr [] (oRi (fun _ => True)) := rfl
theorem c170_0 : xT 170 0 = oAld 0 1 := rfl
theorem c170_1 : xT 170 1 = oGeti 12 42 4 := rfl
theorem c170_4 : xT 170 4 = oPush (.int (6)) 6 := rfl
theorem c170_6 : xT 170 6 = oIcmp (fun x y => x = y) 9 12 := rfl
theorem c170_9 : xT 170 9 = oPush (.int (-4)) 11 := rfl
theorem c170_11 : xT 170 11 = oRi (fun _ => True) := rfl
theorem c170_12 : xT 170 12 = oAld 0 13 := rfl
theorem c170_13 : xT 170 13 = oCallV 13 171 1 16 := rfl
theorem c170_16 : xT 170 16 = oIst 1 17 3 := rfl
theorem c170_17 : xT 170 17 = oAld 0 18 := rfl
theorem c170_18 : xT 170 18 = oGeti 12 49 21 := rfl
theorem c170_21 : xT 170 21 = oIst 2 22 3 := rfl
theorem c170_22 : xT 170 22 = oAld 0 23 := rfl
theorem c170_23 : xT 170 23 = oPush (.int (0)) 24 := rfl
theorem c170_24 : xT 170 24 = oPuti 12 1 27 := rfl
theorem c170_27 : xT 170 27 = oIld 1 28 := rfl
theorem c170_28 : xT 170 28 = oIf (fun x => x = 0) 31 36 := rfl
theorem c170_31 : xT 170 31 = oPush (.int (-100)) 33 := rfl
theorem c170_33 : xT 170 33 = oIld 2 34 := rfl
theorem c170_34 : xT 170 34 = oBin (fun x y => x - y) 35 := rfl
theorem c170_35 : xT 170 35 = oRi (fun _ => True) := rfl
theorem c170_36 : xT 170 36 = oAld 0 37 := rfl
theorem c170_37 : xT 170 37 = oDup 38 := rfl
theorem c170_38 : xT 170 38 = oGeti 12 42 41 := rfl
theorem c170_41 : xT 170 41 = oPush (.int (1)) 42 := rfl
theorem c170_42 : xT 170 42 = oBin (fun x y => x + y) 43 := rfl
theorem c170_43 : xT 170 43 = oPuti 12 42 46 := rfl
theorem c170_46 : xT 170 46 = oAld 0 47 := rfl
theorem c170_47 : xT 170 47 = oGeti 12 42 50 := rfl
theorem c170_50 : xT 170 50 = oPush (.int (1)) 51 := rfl
theorem c170_51 : xT 170 51 = oBin (fun x y => x - y) 52 := rfl
theorem c170_52 : xT 170 52 = oRi (fun _ => True) := rfl
theorem c171_0 : xT 171 0 = oAld 0 1 := rfl
theorem c171_1 : xT 171 1 = oPush (.int (0)) 2 := rfl
theorem c171_2 : xT 171 2 = oPuti 12 46 5 := rfl
theorem c171_5 : xT 171 5 = oAld 0 6 := rfl
theorem c171_6 : xT 171 6 = oCallV 13 172 1 9 := rfl
theorem c171_9 : xT 171 9 = oPush (.int (0)) 10 := rfl
theorem c171_10 : xT 171 10 = oIst 1 11 2 := rfl
theorem c171_11 : xT 171 11 = oTr [0, 1] (oIld 1 12) := rfl
theorem c171_12 : xT 171 12 = oPush (.int (2)) 13 := rfl
theorem c171_13 : xT 171 13 = oIcmp (fun x y => y ≤ x) 61 16 := rfl
theorem c171_16 : xT 171 16 = oAld 0 17 := rfl
theorem c171_17 : xT 171 17 = oIld 1 18 := rfl
theorem c171_18 : xT 171 18 = oCallV 13 177 2 21 := rfl
theorem c171_21 : xT 171 21 = oIf (fun x => x = 0) 24 26 := rfl
theorem c171_24 : xT 171 24 = oPush (.int (0)) 25 := rfl
theorem c171_25 : xT 171 25 = oRi (fun x => x = 0 ∨ x = 1) := rfl
theorem c171_26 : xT 171 26 = oAld 0 27 := rfl
theorem c171_27 : xT 171 27 = oCallV 13 172 1 30 := rfl
theorem c171_30 : xT 171 30 = oAld 0 31 := rfl
theorem c171_31 : xT 171 31 = oPush (.int (2)) 32 := rfl
theorem c171_32 : xT 171 32 = oAld 0 33 := rfl
theorem c171_33 : xT 171 33 = oGeti 12 42 36 := rfl
theorem c171_36 : xT 171 36 = oBin (fun x y => x * y) 37 := rfl
theorem c171_37 : xT 171 37 = oIld 1 38 := rfl
theorem c171_38 : xT 171 38 = oBin (fun x y => x + y) 39 := rfl
theorem c171_39 : xT 171 39 = oPuti 12 55 42 := rfl
theorem c171_42 : xT 171 42 = oAld 0 43 := rfl
theorem c171_43 : xT 171 43 = oCallV 13 178 1 46 := rfl
theorem c171_46 : xT 171 46 = oIf (fun x => x = 0) 49 51 := rfl
theorem c171_49 : xT 171 49 = oPush (.int (0)) 50 := rfl
theorem c171_50 : xT 171 50 = oRi (fun x => x = 0 ∨ x = 1) := rfl
theorem c171_51 : xT 171 51 = oAld 0 52 := rfl
theorem c171_52 : xT 171 52 = oCallV 13 172 1 55 := rfl
theorem c171_55 : xT 171 55 = oIinc 1 (1) 58 2 := rfl
theorem c171_58 : xT 171 58 = oGoto 11 := rfl
theorem c171_61 : xT 171 61 = oAld 0 62 := rfl
theorem c171_62 : xT 171 62 = oGeti 12 47 65 := rfl
theorem c171_65 : xT 171 65 = oIf (fun x => x = 0) 68 72 := rfl
theorem c171_68 : xT 171 68 = oPush (.int (1)) 69 := rfl
theorem c171_69 : xT 171 69 = oGoto 73 := rfl
theorem c171_72 : xT 171 72 = oPush (.int (0)) 73 := rfl
theorem c171_73 : xT 171 73 = oTr [] (oRi (fun x => x = 0 ∨ x = 1)) := rfl
set_option maxRecDepth 20000 in
theorem c172_0 : xT 172 0 = oTr [0] (oAld 0 1) := rfl
set_option maxRecDepth 20000 in
theorem c172_1 : xT 172 1 = oGeti 12 46 4 := rfl
set_option maxRecDepth 20000 in
theorem c172_4 : xT 172 4 = oAld 0 5 := rfl
set_option maxRecDepth 20000 in
theorem c172_5 : xT 172 5 = oGeti 12 1 8 := rfl
set_option maxRecDepth 20000 in
theorem c172_8 : xT 172 8 = oIcmp (fun x y => y ≤ x) 52 11 := rfl
set_option maxRecDepth 20000 in
theorem c172_11 : xT 172 11 = oAld 0 12 := rfl
set_option maxRecDepth 20000 in
theorem c172_12 : xT 172 12 = oGetp 12 0 15 := rfl
set_option maxRecDepth 20000 in
theorem c172_15 : xT 172 15 = oAld 0 16 := rfl
set_option maxRecDepth 20000 in
theorem c172_16 : xT 172 16 = oGeti 12 46 19 := rfl
set_option maxRecDepth 20000 in
theorem c172_19 : xT 172 19 = oAldi 21 20 := rfl
set_option maxRecDepth 20000 in
theorem c172_20 : xT 172 20 = oPush (.int (32)) 22 := rfl
set_option maxRecDepth 20000 in
theorem c172_22 : xT 172 22 = oIcmp (fun x y => x = y) 39 25 := rfl
set_option maxRecDepth 20000 in
theorem c172_25 : xT 172 25 = oAld 0 26 := rfl
set_option maxRecDepth 20000 in
theorem c172_26 : xT 172 26 = oGetp 12 0 29 := rfl
set_option maxRecDepth 20000 in
theorem c172_29 : xT 172 29 = oAld 0 30 := rfl
set_option maxRecDepth 20000 in
theorem c172_30 : xT 172 30 = oGeti 12 46 33 := rfl
set_option maxRecDepth 20000 in
theorem c172_33 : xT 172 33 = oAldi 21 34 := rfl
set_option maxRecDepth 20000 in
theorem c172_34 : xT 172 34 = oPush (.int (10)) 36 := rfl
set_option maxRecDepth 20000 in
theorem c172_36 : xT 172 36 = oIcmp (fun x y => x = y) 39 52 := rfl
set_option maxRecDepth 20000 in
theorem c172_39 : xT 172 39 = oTr [0] (oAld 0 40) := rfl
set_option maxRecDepth 20000 in
theorem c172_40 : xT 172 40 = oDup 41 := rfl
set_option maxRecDepth 20000 in
theorem c172_41 : xT 172 41 = oGeti 12 46 44 := rfl
set_option maxRecDepth 20000 in
theorem c172_44 : xT 172 44 = oPush (.int (1)) 45 := rfl
set_option maxRecDepth 20000 in
theorem c172_45 : xT 172 45 = oBin (fun x y => x + y) 46 := rfl
set_option maxRecDepth 20000 in
theorem c172_46 : xT 172 46 = oPuti 12 46 49 := rfl
set_option maxRecDepth 20000 in
theorem c172_49 : xT 172 49 = oGoto 0 := rfl
set_option maxRecDepth 20000 in
theorem c172_52 : xT 172 52 = oTr [0] (oAld 0 53) := rfl
set_option maxRecDepth 20000 in
theorem c172_53 : xT 172 53 = oAld 0 54 := rfl
set_option maxRecDepth 20000 in
theorem c172_54 : xT 172 54 = oGeti 12 46 57 := rfl
set_option maxRecDepth 20000 in
theorem c172_57 : xT 172 57 = oPuti 12 49 60 := rfl
set_option maxRecDepth 20000 in
theorem c172_60 : xT 172 60 = oAld 0 61 := rfl
set_option maxRecDepth 20000 in
theorem c172_61 : xT 172 61 = oPush (.int (0)) 62 := rfl
set_option maxRecDepth 20000 in
theorem c172_62 : xT 172 62 = oPuti 12 47 65 := rfl
set_option maxRecDepth 20000 in
theorem c172_65 : xT 172 65 = oAld 0 66 := rfl
set_option maxRecDepth 20000 in
theorem c172_66 : xT 172 66 = oGeti 12 46 69 := rfl
set_option maxRecDepth 20000 in
theorem c172_69 : xT 172 69 = oAld 0 70 := rfl
set_option maxRecDepth 20000 in
theorem c172_70 : xT 172 70 = oGeti 12 1 73 := rfl
set_option maxRecDepth 20000 in
theorem c172_73 : xT 172 73 = oIcmp (fun x y => x = y) 76 77 := rfl
set_option maxRecDepth 20000 in
theorem c172_76 : xT 172 76 = oRv := rfl
set_option maxRecDepth 20000 in
theorem c172_77 : xT 172 77 = oAld 0 78 := rfl
set_option maxRecDepth 20000 in
theorem c172_78 : xT 172 78 = oGetp 12 0 81 := rfl
set_option maxRecDepth 20000 in
theorem c172_81 : xT 172 81 = oAld 0 82 := rfl
set_option maxRecDepth 20000 in
theorem c172_82 : xT 172 82 = oGeti 12 46 85 := rfl
set_option maxRecDepth 20000 in
theorem c172_85 : xT 172 85 = oAldi 21 86 := rfl
set_option maxRecDepth 20000 in
theorem c172_86 : xT 172 86 = oIst 1 87 2 := rfl
set_option maxRecDepth 20000 in
theorem c172_87 : xT 172 87 = oAld 0 88 := rfl
set_option maxRecDepth 20000 in
theorem c172_88 : xT 172 88 = oIld 1 89 := rfl
set_option maxRecDepth 20000 in
theorem c172_89 : xT 172 89 = oCallV 13 173 2 92 := rfl
set_option maxRecDepth 20000 in
theorem c172_92 : xT 172 92 = oIf (fun x => x = 0) 100 95 := rfl
set_option maxRecDepth 20000 in
theorem c172_95 : xT 172 95 = oAld 0 96 := rfl
set_option maxRecDepth 20000 in
theorem c172_96 : xT 172 96 = oCallV 13 174 1 99 := rfl
set_option maxRecDepth 20000 in
theorem c172_99 : xT 172 99 = oRv := rfl
set_option maxRecDepth 20000 in
theorem c172_100 : xT 172 100 = oAld 0 101 := rfl
set_option maxRecDepth 20000 in
theorem c172_101 : xT 172 101 = oIld 1 102 := rfl
set_option maxRecDepth 20000 in
theorem c172_102 : xT 172 102 = oCallV 13 176 2 105 := rfl
set_option maxRecDepth 20000 in
theorem c172_105 : xT 172 105 = oIf (fun x => x = 0) 220 108 := rfl
set_option maxRecDepth 20000 in
theorem c172_108 : xT 172 108 = oAld 0 109 := rfl
set_option maxRecDepth 20000 in
theorem c172_109 : xT 172 109 = oPush (.int (0)) 110 := rfl
set_option maxRecDepth 20000 in
theorem c172_110 : xT 172 110 = oPuti 12 48 113 := rfl
set_option maxRecDepth 20000 in
theorem c172_113 : xT 172 113 = oTr [0] (oAld 0 114) := rfl
set_option maxRecDepth 20000 in
theorem c172_114 : xT 172 114 = oGeti 12 46 117 := rfl
set_option maxRecDepth 20000 in
theorem c172_117 : xT 172 117 = oAld 0 118 := rfl
set_option maxRecDepth 20000 in
theorem c172_118 : xT 172 118 = oGeti 12 1 121 := rfl
set_option maxRecDepth 20000 in
theorem c172_121 : xT 172 121 = oIcmp (fun x y => y ≤ x) 197 124 := rfl
set_option maxRecDepth 20000 in
theorem c172_124 : xT 172 124 = oAld 0 125 := rfl
set_option maxRecDepth 20000 in
theorem c172_125 : xT 172 125 = oAld 0 126 := rfl
set_option maxRecDepth 20000 in
theorem c172_126 : xT 172 126 = oGetp 12 0 129 := rfl
set_option maxRecDepth 20000 in
theorem c172_129 : xT 172 129 = oAld 0 130 := rfl
set_option maxRecDepth 20000 in
theorem c172_130 : xT 172 130 = oGeti 12 46 133 := rfl
set_option maxRecDepth 20000 in
theorem c172_133 : xT 172 133 = oAldi 21 134 := rfl
set_option maxRecDepth 20000 in
theorem c172_134 : xT 172 134 = oCallV 13 176 2 137 := rfl
set_option maxRecDepth 20000 in
theorem c172_137 : xT 172 137 = oIf (fun x => x = 0) 197 140 := rfl
set_option maxRecDepth 20000 in
theorem c172_140 : xT 172 140 = oAld 0 141 := rfl
set_option maxRecDepth 20000 in
theorem c172_141 : xT 172 141 = oAld 0 142 := rfl
set_option maxRecDepth 20000 in
theorem c172_142 : xT 172 142 = oGeti 12 46 145 := rfl
set_option maxRecDepth 20000 in
theorem c172_145 : xT 172 145 = oAld 0 146 := rfl
set_option maxRecDepth 20000 in
theorem c172_146 : xT 172 146 = oGeti 12 49 149 := rfl
set_option maxRecDepth 20000 in
theorem c172_149 : xT 172 149 = oBin (fun x y => x - y) 150 := rfl
set_option maxRecDepth 20000 in
theorem c172_150 : xT 172 150 = oPush (.int (4)) 151 := rfl
set_option maxRecDepth 20000 in
theorem c172_151 : xT 172 151 = oIcmp (fun x y => y ≤ x) 177 154 := rfl
set_option maxRecDepth 20000 in
theorem c172_154 : xT 172 154 = oPush (.int (10)) 156 := rfl
set_option maxRecDepth 20000 in
theorem c172_156 : xT 172 156 = oAld 0 157 := rfl
set_option maxRecDepth 20000 in
theorem c172_157 : xT 172 157 = oGeti 12 48 160 := rfl
set_option maxRecDepth 20000 in
theorem c172_160 : xT 172 160 = oBin (fun x y => x * y) 161 := rfl
set_option maxRecDepth 20000 in
theorem c172_161 : xT 172 161 = oAld 0 162 := rfl
set_option maxRecDepth 20000 in
theorem c172_162 : xT 172 162 = oGetp 12 0 165 := rfl
set_option maxRecDepth 20000 in
theorem c172_165 : xT 172 165 = oAld 0 166 := rfl
set_option maxRecDepth 20000 in
theorem c172_166 : xT 172 166 = oGeti 12 46 169 := rfl
set_option maxRecDepth 20000 in
theorem c172_169 : xT 172 169 = oAldi 21 170 := rfl
set_option maxRecDepth 20000 in
theorem c172_170 : xT 172 170 = oBin (fun x y => x + y) 171 := rfl
set_option maxRecDepth 20000 in
theorem c172_171 : xT 172 171 = oPush (.int (48)) 173 := rfl
set_option maxRecDepth 20000 in
theorem c172_173 : xT 172 173 = oBin (fun x y => x - y) 174 := rfl
set_option maxRecDepth 20000 in
theorem c172_174 : xT 172 174 = oGoto 181 := rfl
set_option maxRecDepth 20000 in
theorem c172_177 : xT 172 177 = oAld 0 178 := rfl
set_option maxRecDepth 20000 in
theorem c172_178 : xT 172 178 = oGeti 12 48 181 := rfl
set_option maxRecDepth 20000 in
theorem c172_181 : xT 172 181 = oTr [0] (oPuti 12 48 184) := rfl
set_option maxRecDepth 20000 in
theorem c172_184 : xT 172 184 = oAld 0 185 := rfl
set_option maxRecDepth 20000 in
theorem c172_185 : xT 172 185 = oDup 186 := rfl
set_option maxRecDepth 20000 in
theorem c172_186 : xT 172 186 = oGeti 12 46 189 := rfl
set_option maxRecDepth 20000 in
theorem c172_189 : xT 172 189 = oPush (.int (1)) 190 := rfl
set_option maxRecDepth 20000 in
theorem c172_190 : xT 172 190 = oBin (fun x y => x + y) 191 := rfl
set_option maxRecDepth 20000 in
theorem c172_191 : xT 172 191 = oPuti 12 46 194 := rfl
set_option maxRecDepth 20000 in
theorem c172_194 : xT 172 194 = oGoto 113 := rfl
set_option maxRecDepth 20000 in
theorem c172_197 : xT 172 197 = oTr [0] (oAld 0 198) := rfl
set_option maxRecDepth 20000 in
theorem c172_198 : xT 172 198 = oAld 0 199 := rfl
set_option maxRecDepth 20000 in
theorem c172_199 : xT 172 199 = oGeti 12 46 202 := rfl
set_option maxRecDepth 20000 in
theorem c172_202 : xT 172 202 = oAld 0 203 := rfl
set_option maxRecDepth 20000 in
theorem c172_203 : xT 172 203 = oGeti 12 49 206 := rfl
set_option maxRecDepth 20000 in
theorem c172_206 : xT 172 206 = oBin (fun x y => x - y) 207 := rfl
set_option maxRecDepth 20000 in
theorem c172_207 : xT 172 207 = oPush (.int (4)) 208 := rfl
set_option maxRecDepth 20000 in
theorem c172_208 : xT 172 208 = oIcmp (fun x y => x ≤ y) 215 211 := rfl
set_option maxRecDepth 20000 in
theorem c172_211 : xT 172 211 = oPush (.int (5)) 212 := rfl
set_option maxRecDepth 20000 in
theorem c172_212 : xT 172 212 = oGoto 216 := rfl
set_option maxRecDepth 20000 in
theorem c172_215 : xT 172 215 = oPush (.int (1)) 216 := rfl
set_option maxRecDepth 20000 in
theorem c172_216 : xT 172 216 = oTr [] (oPuti 12 47 219) := rfl
set_option maxRecDepth 20000 in
theorem c172_219 : xT 172 219 = oRv := rfl
set_option maxRecDepth 20000 in
theorem c172_220 : xT 172 220 = oAld 0 221 := rfl
set_option maxRecDepth 20000 in
theorem c172_221 : xT 172 221 = oDup 222 := rfl
set_option maxRecDepth 20000 in
theorem c172_222 : xT 172 222 = oGeti 12 46 225 := rfl
set_option maxRecDepth 20000 in
theorem c172_225 : xT 172 225 = oPush (.int (1)) 226 := rfl
set_option maxRecDepth 20000 in
theorem c172_226 : xT 172 226 = oBin (fun x y => x + y) 227 := rfl
set_option maxRecDepth 20000 in
theorem c172_227 : xT 172 227 = oPuti 12 46 230 := rfl
set_option maxRecDepth 20000 in
theorem c172_230 : xT 172 230 = oAld 0 231 := rfl
set_option maxRecDepth 20000 in
theorem c172_231 : xT 172 231 = oIld 1 232 := rfl
set_option maxRecDepth 20000 in
theorem c172_232 : xT 172 232 = oPuti 12 48 235 := rfl
set_option maxRecDepth 20000 in
theorem c172_235 : xT 172 235 = oAld 0 236 := rfl
set_option maxRecDepth 20000 in
theorem c172_236 : xT 172 236 = oIld 1 237 := rfl
set_option maxRecDepth 20000 in
theorem c172_237 : xT 172 237 = oPush (.int (40)) 239 := rfl
set_option maxRecDepth 20000 in
theorem c172_239 : xT 172 239 = oIcmp (fun x y => x = y) 284 242 := rfl
set_option maxRecDepth 20000 in
theorem c172_242 : xT 172 242 = oIld 1 243 := rfl
set_option maxRecDepth 20000 in
theorem c172_243 : xT 172 243 = oPush (.int (41)) 245 := rfl
set_option maxRecDepth 20000 in
theorem c172_245 : xT 172 245 = oIcmp (fun x y => x = y) 284 248 := rfl
set_option maxRecDepth 20000 in
theorem c172_248 : xT 172 248 = oIld 1 249 := rfl
set_option maxRecDepth 20000 in
theorem c172_249 : xT 172 249 = oPush (.int (59)) 251 := rfl
set_option maxRecDepth 20000 in
theorem c172_251 : xT 172 251 = oIcmp (fun x y => x = y) 284 254 := rfl
set_option maxRecDepth 20000 in
theorem c172_254 : xT 172 254 = oIld 1 255 := rfl
set_option maxRecDepth 20000 in
theorem c172_255 : xT 172 255 = oPush (.int (43)) 257 := rfl
set_option maxRecDepth 20000 in
theorem c172_257 : xT 172 257 = oIcmp (fun x y => x = y) 284 260 := rfl
set_option maxRecDepth 20000 in
theorem c172_260 : xT 172 260 = oIld 1 261 := rfl
set_option maxRecDepth 20000 in
theorem c172_261 : xT 172 261 = oPush (.int (45)) 263 := rfl
set_option maxRecDepth 20000 in
theorem c172_263 : xT 172 263 = oIcmp (fun x y => x = y) 284 266 := rfl
set_option maxRecDepth 20000 in
theorem c172_266 : xT 172 266 = oIld 1 267 := rfl
set_option maxRecDepth 20000 in
theorem c172_267 : xT 172 267 = oPush (.int (42)) 269 := rfl
set_option maxRecDepth 20000 in
theorem c172_269 : xT 172 269 = oIcmp (fun x y => x = y) 284 272 := rfl
set_option maxRecDepth 20000 in
theorem c172_272 : xT 172 272 = oIld 1 273 := rfl
set_option maxRecDepth 20000 in
theorem c172_273 : xT 172 273 = oPush (.int (60)) 275 := rfl
set_option maxRecDepth 20000 in
theorem c172_275 : xT 172 275 = oIcmp (fun x y => x = y) 284 278 := rfl
set_option maxRecDepth 20000 in
theorem c172_278 : xT 172 278 = oIld 1 279 := rfl
set_option maxRecDepth 20000 in
theorem c172_279 : xT 172 279 = oPush (.int (61)) 281 := rfl
set_option maxRecDepth 20000 in
theorem c172_281 : xT 172 281 = oIcmp (fun x y => x = y) 284 288 := rfl
set_option maxRecDepth 20000 in
theorem c172_284 : xT 172 284 = oTr [] (oPush (.int (4)) 285) := rfl
set_option maxRecDepth 20000 in
theorem c172_285 : xT 172 285 = oGoto 289 := rfl
set_option maxRecDepth 20000 in
theorem c172_288 : xT 172 288 = oPush (.int (5)) 289 := rfl
set_option maxRecDepth 20000 in
theorem c172_289 : xT 172 289 = oTr [] (oPuti 12 47 292) := rfl
set_option maxRecDepth 20000 in
theorem c172_292 : xT 172 292 = oRv := rfl
theorem c173_0 : xT 173 0 = oIld 1 1 := rfl
theorem c173_1 : xT 173 1 = oPush (.int (97)) 3 := rfl
theorem c173_3 : xT 173 3 = oIcmp (fun x y => x < y) 16 6 := rfl
theorem c173_6 : xT 173 6 = oIld 1 7 := rfl
theorem c173_7 : xT 173 7 = oPush (.int (122)) 9 := rfl
theorem c173_9 : xT 173 9 = oIcmp (fun x y => y < x) 16 12 := rfl
theorem c173_12 : xT 173 12 = oPush (.int (1)) 13 := rfl
theorem c173_13 : xT 173 13 = oGoto 17 := rfl
theorem c173_16 : xT 173 16 = oTr [] (oPush (.int (0)) 17) := rfl
theorem c173_17 : xT 173 17 = oTr [] (oRi (fun x => x = 0 ∨ x = 1)) := rfl
theorem c174_0 : xT 174 0 = oTr [0] (oAld 0 1) := rfl
theorem c174_1 : xT 174 1 = oGeti 12 46 4 := rfl
theorem c174_4 : xT 174 4 = oAld 0 5 := rfl
theorem c174_5 : xT 174 5 = oGeti 12 1 8 := rfl
theorem c174_8 : xT 174 8 = oIcmp (fun x y => y ≤ x) 40 11 := rfl
theorem c174_11 : xT 174 11 = oAld 0 12 := rfl
theorem c174_12 : xT 174 12 = oAld 0 13 := rfl
theorem c174_13 : xT 174 13 = oGetp 12 0 16 := rfl
theorem c174_16 : xT 174 16 = oAld 0 17 := rfl
theorem c174_17 : xT 174 17 = oGeti 12 46 20 := rfl
theorem c174_20 : xT 174 20 = oAldi 21 21 := rfl
theorem c174_21 : xT 174 21 = oCallV 13 173 2 24 := rfl
theorem c174_24 : xT 174 24 = oIf (fun x => x = 0) 40 27 := rfl
theorem c174_27 : xT 174 27 = oAld 0 28 := rfl
theorem c174_28 : xT 174 28 = oDup 29 := rfl
theorem c174_29 : xT 174 29 = oGeti 12 46 32 := rfl
theorem c174_32 : xT 174 32 = oPush (.int (1)) 33 := rfl
theorem c174_33 : xT 174 33 = oBin (fun x y => x + y) 34 := rfl
theorem c174_34 : xT 174 34 = oPuti 12 46 37 := rfl
theorem c174_37 : xT 174 37 = oGoto 0 := rfl
theorem c174_40 : xT 174 40 = oTr [0] (oAld 0 41) := rfl
theorem c174_41 : xT 174 41 = oPush (.int (2)) 42 := rfl
theorem c174_42 : xT 174 42 = oPuti 12 47 45 := rfl
theorem c174_45 : xT 174 45 = oAld 0 46 := rfl
theorem c174_46 : xT 174 46 = oAld 0 47 := rfl
theorem c174_47 : xT 174 47 = oPush (.long (707748)) 50 := rfl
theorem c174_50 : xT 174 50 = oCallV 13 175 2 53 := rfl
theorem c174_53 : xT 174 53 = oIf (fun x => x = 0) 60 56 := rfl
theorem c174_56 : xT 174 56 = oPush (.int (0)) 57 := rfl
theorem c174_57 : xT 174 57 = oGoto 131 := rfl
theorem c174_60 : xT 174 60 = oAld 0 61 := rfl
theorem c174_61 : xT 174 61 = oPush (.long (549619347)) 64 := rfl
theorem c174_64 : xT 174 64 = oCallV 13 175 2 67 := rfl
theorem c174_67 : xT 174 67 = oIf (fun x => x = 0) 74 70 := rfl
theorem c174_70 : xT 174 70 = oPush (.int (1)) 71 := rfl
theorem c174_71 : xT 174 71 = oGoto 131 := rfl
theorem c174_74 : xT 174 74 = oAld 0 75 := rfl
theorem c174_75 : xT 174 75 = oPush (.long (8496)) 78 := rfl
theorem c174_78 : xT 174 78 = oCallV 13 175 2 81 := rfl
theorem c174_81 : xT 174 81 = oIf (fun x => x = 0) 88 84 := rfl
theorem c174_84 : xT 174 84 = oPush (.int (2)) 85 := rfl
theorem c174_85 : xT 174 85 = oGoto 131 := rfl
theorem c174_88 : xT 174 88 = oAld 0 89 := rfl
theorem c174_89 : xT 174 89 = oPush (.long (24159860)) 92 := rfl
theorem c174_92 : xT 174 92 = oCallV 13 175 2 95 := rfl
theorem c174_95 : xT 174 95 = oIf (fun x => x = 0) 102 98 := rfl
theorem c174_98 : xT 174 98 = oPush (.int (3)) 99 := rfl
theorem c174_99 : xT 174 99 = oGoto 131 := rfl
theorem c174_102 : xT 174 102 = oAld 0 103 := rfl
theorem c174_103 : xT 174 103 = oPush (.long (20201198)) 106 := rfl
theorem c174_106 : xT 174 106 = oCallV 13 175 2 109 := rfl
theorem c174_109 : xT 174 109 = oIf (fun x => x = 0) 116 112 := rfl
theorem c174_112 : xT 174 112 = oPush (.int (4)) 113 := rfl
theorem c174_113 : xT 174 113 = oGoto 131 := rfl
theorem c174_116 : xT 174 116 = oAld 0 117 := rfl
theorem c174_117 : xT 174 117 = oPush (.long (20604293)) 120 := rfl
theorem c174_120 : xT 174 120 = oCallV 13 175 2 123 := rfl
theorem c174_123 : xT 174 123 = oIf (fun x => x = 0) 130 126 := rfl
theorem c174_126 : xT 174 126 = oPush (.int (5)) 127 := rfl
theorem c174_127 : xT 174 127 = oGoto 131 := rfl
theorem c174_130 : xT 174 130 = oPush (.int (-1)) 131 := rfl
theorem c174_131 : xT 174 131 = oTr [0] (oPuti 12 48 134) := rfl
theorem c174_134 : xT 174 134 = oAld 0 135 := rfl
theorem c174_135 : xT 174 135 = oGeti 12 48 138 := rfl
theorem c174_138 : xT 174 138 = oIf (fun x => x < 0) 142 141 := rfl
theorem c174_141 : xT 174 141 = oRv := rfl
theorem c174_142 : xT 174 142 = oAld 0 143 := rfl
theorem c174_143 : xT 174 143 = oPush (.int (3)) 144 := rfl
theorem c174_144 : xT 174 144 = oPuti 12 47 147 := rfl
theorem c174_147 : xT 174 147 = oAld 0 148 := rfl
theorem c174_148 : xT 174 148 = oAld 0 149 := rfl
theorem c174_149 : xT 174 149 = oPush (.long (17376357)) 152 := rfl
theorem c174_152 : xT 174 152 = oCallV 13 175 2 155 := rfl
theorem c174_155 : xT 174 155 = oIf (fun x => x = 0) 162 158 := rfl
theorem c174_158 : xT 174 158 = oPush (.int (0)) 159 := rfl
theorem c174_159 : xT 174 159 = oGoto 219 := rfl
theorem c174_162 : xT 174 162 = oAld 0 163 := rfl
theorem c174_163 : xT 174 163 = oPush (.long (6452)) 166 := rfl
theorem c174_166 : xT 174 166 = oCallV 13 175 2 169 := rfl
theorem c174_169 : xT 174 169 = oIf (fun x => x = 0) 176 172 := rfl
theorem c174_172 : xT 174 172 = oPush (.int (1)) 173 := rfl
theorem c174_173 : xT 174 173 = oGoto 219 := rfl
theorem c174_176 : xT 174 176 = oAld 0 177 := rfl
theorem c174_177 : xT 174 177 = oPush (.long (498)) 180 := rfl
theorem c174_180 : xT 174 180 = oCallV 13 175 2 183 := rfl
theorem c174_183 : xT 174 183 = oIf (fun x => x = 0) 190 186 := rfl
theorem c174_186 : xT 174 186 = oPush (.int (2)) 187 := rfl
theorem c174_187 : xT 174 187 = oGoto 219 := rfl
theorem c174_190 : xT 174 190 = oAld 0 191 := rfl
theorem c174_191 : xT 174 191 = oPush (.long (1476)) 194 := rfl
theorem c174_194 : xT 174 194 = oCallV 13 175 2 197 := rfl
theorem c174_197 : xT 174 197 = oIf (fun x => x = 0) 204 200 := rfl
theorem c174_200 : xT 174 200 = oPush (.int (3)) 201 := rfl
theorem c174_201 : xT 174 201 = oGoto 219 := rfl
theorem c174_204 : xT 174 204 = oAld 0 205 := rfl
theorem c174_205 : xT 174 205 = oPush (.long (14836)) 208 := rfl
theorem c174_208 : xT 174 208 = oCallV 13 175 2 211 := rfl
theorem c174_211 : xT 174 211 = oIf (fun x => x = 0) 218 214 := rfl
theorem c174_214 : xT 174 214 = oPush (.int (4)) 215 := rfl
theorem c174_215 : xT 174 215 = oGoto 219 := rfl
theorem c174_218 : xT 174 218 = oPush (.int (-1)) 219 := rfl
theorem c174_219 : xT 174 219 = oTr [0] (oPuti 12 48 222) := rfl
theorem c174_222 : xT 174 222 = oAld 0 223 := rfl
theorem c174_223 : xT 174 223 = oGeti 12 48 226 := rfl
theorem c174_226 : xT 174 226 = oIf (fun x => 0 ≤ x) 234 229 := rfl
theorem c174_229 : xT 174 229 = oAld 0 230 := rfl
theorem c174_230 : xT 174 230 = oPush (.int (5)) 231 := rfl
theorem c174_231 : xT 174 231 = oPuti 12 47 234 := rfl
theorem c174_234 : xT 174 234 = oTr [] (oRv) := rfl
theorem c175_0 : xT 175 0 = oLld 1 1 := rfl
theorem c175_1 : xT 175 1 = oLst 3 2 6 := rfl
theorem c175_2 : xT 175 2 = oAld 0 3 := rfl
theorem c175_3 : xT 175 3 = oGeti 12 46 6 := rfl
theorem c175_6 : xT 175 6 = oPush (.int (1)) 7 := rfl
theorem c175_7 : xT 175 7 = oBin (fun x y => x - y) 8 := rfl
theorem c175_8 : xT 175 8 = oIst 5 10 6 := rfl
theorem c175_10 : xT 175 10 = oTr [0, 3, 5] (oIld 5 12) := rfl
theorem c175_12 : xT 175 12 = oAld 0 13 := rfl
theorem c175_13 : xT 175 13 = oGeti 12 49 16 := rfl
theorem c175_16 : xT 175 16 = oIcmp (fun x y => x < y) 55 19 := rfl
theorem c175_19 : xT 175 19 = oLld 3 20 := rfl
theorem c175_20 : xT 175 20 = oPush (.long (0)) 21 := rfl
theorem c175_21 : xT 175 21 = oLcmp 22 := rfl
theorem c175_22 : xT 175 22 = oIf (fun x => x ≤ 0) 55 25 := rfl
theorem c175_25 : xT 175 25 = oLld 3 26 := rfl
theorem c175_26 : xT 175 26 = oPush (.long (31)) 29 := rfl
theorem c175_29 : xT 175 29 = oBinL (fun x y => x &&& y) 30 := rfl
theorem c175_30 : xT 175 30 = oAld 0 31 := rfl
theorem c175_31 : xT 175 31 = oGetp 12 0 34 := rfl
theorem c175_34 : xT 175 34 = oIld 5 36 := rfl
theorem c175_36 : xT 175 36 = oAldi 21 37 := rfl
theorem c175_37 : xT 175 37 = oPush (.int (96)) 39 := rfl
theorem c175_39 : xT 175 39 = oBin (fun x y => x - y) 40 := rfl
theorem c175_40 : xT 175 40 = oI2l 41 := rfl
theorem c175_41 : xT 175 41 = oLcmp 42 := rfl
theorem c175_42 : xT 175 42 = oIf (fun x => x = 0) 45 55 := rfl
theorem c175_45 : xT 175 45 = oLld 3 46 := rfl
theorem c175_46 : xT 175 46 = oPush (.int (5)) 47 := rfl
theorem c175_47 : xT 175 47 = oShL (fun x y => x >>> (y.toInt64 &&& 63)) 48 := rfl
theorem c175_48 : xT 175 48 = oLst 3 49 6 := rfl
theorem c175_49 : xT 175 49 = oIinc 5 (-1) 52 6 := rfl
theorem c175_52 : xT 175 52 = oGoto 10 := rfl
theorem c175_55 : xT 175 55 = oTr [0, 3, 5] (oLld 3 56) := rfl
theorem c175_56 : xT 175 56 = oPush (.long (0)) 57 := rfl
theorem c175_57 : xT 175 57 = oLcmp 58 := rfl
theorem c175_58 : xT 175 58 = oIf (fun x => x = 0) 61 76 := rfl
theorem c175_61 : xT 175 61 = oIld 5 63 := rfl
theorem c175_63 : xT 175 63 = oAld 0 64 := rfl
theorem c175_64 : xT 175 64 = oGeti 12 49 67 := rfl
theorem c175_67 : xT 175 67 = oPush (.int (1)) 68 := rfl
theorem c175_68 : xT 175 68 = oBin (fun x y => x - y) 69 := rfl
theorem c175_69 : xT 175 69 = oIcmp (fun x y => x = y) 72 76 := rfl
theorem c175_72 : xT 175 72 = oPush (.int (1)) 73 := rfl
theorem c175_73 : xT 175 73 = oGoto 77 := rfl
theorem c175_76 : xT 175 76 = oTr [] (oPush (.int (0)) 77) := rfl
theorem c175_77 : xT 175 77 = oTr [] (oRi (fun x => x = 0 ∨ x = 1)) := rfl
theorem c176_0 : xT 176 0 = oIld 1 1 := rfl
theorem c176_1 : xT 176 1 = oPush (.int (48)) 3 := rfl
theorem c176_3 : xT 176 3 = oIcmp (fun x y => x < y) 16 6 := rfl
theorem c176_6 : xT 176 6 = oIld 1 7 := rfl
theorem c176_7 : xT 176 7 = oPush (.int (57)) 9 := rfl
theorem c176_9 : xT 176 9 = oIcmp (fun x y => y < x) 16 12 := rfl
theorem c176_12 : xT 176 12 = oPush (.int (1)) 13 := rfl
theorem c176_13 : xT 176 13 = oGoto 17 := rfl
theorem c176_16 : xT 176 16 = oTr [] (oPush (.int (0)) 17) := rfl
theorem c176_17 : xT 176 17 = oTr [] (oRi (fun x => x = 0 ∨ x = 1)) := rfl
theorem c177_0 : xT 177 0 = oAld 0 1 := rfl
theorem c177_1 : xT 177 1 = oGeti 12 47 4 := rfl
theorem c177_4 : xT 177 4 = oPush (.int (3)) 5 := rfl
theorem c177_5 : xT 177 5 = oIcmp (fun x y => x = y) 8 20 := rfl
theorem c177_8 : xT 177 8 = oAld 0 9 := rfl
theorem c177_9 : xT 177 9 = oGeti 12 48 12 := rfl
theorem c177_12 : xT 177 12 = oIld 1 13 := rfl
theorem c177_13 : xT 177 13 = oIcmp (fun x y => x = y) 16 20 := rfl
theorem c177_16 : xT 177 16 = oPush (.int (1)) 17 := rfl
theorem c177_17 : xT 177 17 = oGoto 21 := rfl
theorem c177_20 : xT 177 20 = oTr [] (oPush (.int (0)) 21) := rfl
theorem c177_21 : xT 177 21 = oTr [] (oRi (fun x => x = 0 ∨ x = 1)) := rfl
set_option maxRecDepth 20000 in
theorem c178_0 : xT 178 0 = oAld 0 1 := rfl
set_option maxRecDepth 20000 in
theorem c178_1 : xT 178 1 = oPush (.int (0)) 2 := rfl
set_option maxRecDepth 20000 in
theorem c178_2 : xT 178 2 = oPuti 12 52 5 := rfl
set_option maxRecDepth 20000 in
theorem c178_5 : xT 178 5 = oAld 0 6 := rfl
set_option maxRecDepth 20000 in
theorem c178_6 : xT 178 6 = oPush (.int (0)) 7 := rfl
set_option maxRecDepth 20000 in
theorem c178_7 : xT 178 7 = oPuti 12 53 10 := rfl
set_option maxRecDepth 20000 in
theorem c178_10 : xT 178 10 = oAld 0 11 := rfl
set_option maxRecDepth 20000 in
theorem c178_11 : xT 178 11 = oPush (.int (0)) 12 := rfl
set_option maxRecDepth 20000 in
theorem c178_12 : xT 178 12 = oPuti 12 54 15 := rfl
set_option maxRecDepth 20000 in
theorem c178_15 : xT 178 15 = oAld 0 16 := rfl
set_option maxRecDepth 20000 in
theorem c178_16 : xT 178 16 = oGetp 12 44 19 := rfl
set_option maxRecDepth 20000 in
theorem c178_19 : xT 178 19 = oAld 0 20 := rfl
set_option maxRecDepth 20000 in
theorem c178_20 : xT 178 20 = oGeti 12 55 23 := rfl
set_option maxRecDepth 20000 in
theorem c178_23 : xT 178 23 = oPush (.int (0)) 24 := rfl
set_option maxRecDepth 20000 in
theorem c178_24 : xT 178 24 = oAsti 20 (fun x => x) 25 := rfl
set_option maxRecDepth 20000 in
theorem c178_25 : xT 178 25 = oAld 0 26 := rfl
set_option maxRecDepth 20000 in
theorem c178_26 : xT 178 26 = oGetp 12 51 29 := rfl
set_option maxRecDepth 20000 in
theorem c178_29 : xT 178 29 = oPush (.int (0)) 30 := rfl
set_option maxRecDepth 20000 in
theorem c178_30 : xT 178 30 = oPush (.int (0)) 31 := rfl
set_option maxRecDepth 20000 in
theorem c178_31 : xT 178 31 = oAsti 22 (vp_nar .boolean) 32 := rfl
set_option maxRecDepth 20000 in
theorem c178_32 : xT 178 32 = oPush (.int (1)) 33 := rfl
set_option maxRecDepth 20000 in
theorem c178_33 : xT 178 33 = oIst 1 34 4 := rfl
set_option maxRecDepth 20000 in
theorem c178_34 : xT 178 34 = oPush (.int (1)) 35 := rfl
set_option maxRecDepth 20000 in
theorem c178_35 : xT 178 35 = oIst 2 36 4 := rfl
set_option maxRecDepth 20000 in
theorem c178_36 : xT 178 36 = oTr [0, 1, 2] (oIld 1 37) := rfl
set_option maxRecDepth 20000 in
theorem c178_37 : xT 178 37 = oIf (fun x => x = 0) 169 40 := rfl
set_option maxRecDepth 20000 in
theorem c178_40 : xT 178 40 = oAld 0 41 := rfl
set_option maxRecDepth 20000 in
theorem c178_41 : xT 178 41 = oIld 2 42 := rfl
set_option maxRecDepth 20000 in
theorem c178_42 : xT 178 42 = oCallV 13 179 2 45 := rfl
set_option maxRecDepth 20000 in
theorem c178_45 : xT 178 45 = oIf (fun x => x = 0) 48 50 := rfl
set_option maxRecDepth 20000 in
theorem c178_48 : xT 178 48 = oPush (.int (0)) 49 := rfl
set_option maxRecDepth 20000 in
theorem c178_49 : xT 178 49 = oRi (fun x => x = 0 ∨ x = 1) := rfl
set_option maxRecDepth 20000 in
theorem c178_50 : xT 178 50 = oAld 0 51 := rfl
set_option maxRecDepth 20000 in
theorem c178_51 : xT 178 51 = oPush (.int (4)) 52 := rfl
set_option maxRecDepth 20000 in
theorem c178_52 : xT 178 52 = oCallV 13 177 2 55 := rfl
set_option maxRecDepth 20000 in
theorem c178_55 : xT 178 55 = oIf (fun x => x = 0) 67 58 := rfl
set_option maxRecDepth 20000 in
theorem c178_58 : xT 178 58 = oAld 0 59 := rfl
set_option maxRecDepth 20000 in
theorem c178_59 : xT 178 59 = oPush (.int (-3)) 61 := rfl
set_option maxRecDepth 20000 in
theorem c178_61 : xT 178 61 = oCallV 13 181 2 64 := rfl
set_option maxRecDepth 20000 in
theorem c178_64 : xT 178 64 = oGoto 162 := rfl
set_option maxRecDepth 20000 in
theorem c178_67 : xT 178 67 = oAld 0 68 := rfl
set_option maxRecDepth 20000 in
theorem c178_68 : xT 178 68 = oPush (.int (45)) 70 := rfl
set_option maxRecDepth 20000 in
theorem c178_70 : xT 178 70 = oCallV 13 180 2 73 := rfl
set_option maxRecDepth 20000 in
theorem c178_73 : xT 178 73 = oIf (fun x => x = 0) 87 76 := rfl
set_option maxRecDepth 20000 in
theorem c178_76 : xT 178 76 = oAld 0 77 := rfl
set_option maxRecDepth 20000 in
theorem c178_77 : xT 178 77 = oPush (.int (-9)) 79 := rfl
set_option maxRecDepth 20000 in
theorem c178_79 : xT 178 79 = oCallV 13 181 2 82 := rfl
set_option maxRecDepth 20000 in
theorem c178_82 : xT 178 82 = oPush (.int (0)) 83 := rfl
set_option maxRecDepth 20000 in
theorem c178_83 : xT 178 83 = oIst 2 84 4 := rfl
set_option maxRecDepth 20000 in
theorem c178_84 : xT 178 84 = oGoto 162 := rfl
set_option maxRecDepth 20000 in
theorem c178_87 : xT 178 87 = oAld 0 88 := rfl
set_option maxRecDepth 20000 in
theorem c178_88 : xT 178 88 = oPush (.int (40)) 90 := rfl
set_option maxRecDepth 20000 in
theorem c178_90 : xT 178 90 = oCallV 13 180 2 93 := rfl
set_option maxRecDepth 20000 in
theorem c178_93 : xT 178 93 = oIf (fun x => x = 0) 127 96 := rfl
set_option maxRecDepth 20000 in
theorem c178_96 : xT 178 96 = oAld 0 97 := rfl
set_option maxRecDepth 20000 in
theorem c178_97 : xT 178 97 = oPush (.int (-10)) 99 := rfl
set_option maxRecDepth 20000 in
theorem c178_99 : xT 178 99 = oCallV 13 181 2 102 := rfl
set_option maxRecDepth 20000 in
theorem c178_102 : xT 178 102 = oAld 0 103 := rfl
set_option maxRecDepth 20000 in
theorem c178_103 : xT 178 103 = oDup 104 := rfl
set_option maxRecDepth 20000 in
theorem c178_104 : xT 178 104 = oGeti 12 53 107 := rfl
set_option maxRecDepth 20000 in
theorem c178_107 : xT 178 107 = oPush (.int (1)) 108 := rfl
set_option maxRecDepth 20000 in
theorem c178_108 : xT 178 108 = oBin (fun x y => x + y) 109 := rfl
set_option maxRecDepth 20000 in
theorem c178_109 : xT 178 109 = oPuti 12 53 112 := rfl
set_option maxRecDepth 20000 in
theorem c178_112 : xT 178 112 = oAld 0 113 := rfl
set_option maxRecDepth 20000 in
theorem c178_113 : xT 178 113 = oGetp 12 51 116 := rfl
set_option maxRecDepth 20000 in
theorem c178_116 : xT 178 116 = oAld 0 117 := rfl
set_option maxRecDepth 20000 in
theorem c178_117 : xT 178 117 = oGeti 12 53 120 := rfl
set_option maxRecDepth 20000 in
theorem c178_120 : xT 178 120 = oPush (.int (0)) 121 := rfl
set_option maxRecDepth 20000 in
theorem c178_121 : xT 178 121 = oAsti 22 (vp_nar .boolean) 122 := rfl
set_option maxRecDepth 20000 in
theorem c178_122 : xT 178 122 = oPush (.int (1)) 123 := rfl
set_option maxRecDepth 20000 in
theorem c178_123 : xT 178 123 = oIst 2 124 4 := rfl
set_option maxRecDepth 20000 in
theorem c178_124 : xT 178 124 = oGoto 162 := rfl
set_option maxRecDepth 20000 in
theorem c178_127 : xT 178 127 = oAld 0 128 := rfl
set_option maxRecDepth 20000 in
theorem c178_128 : xT 178 128 = oAld 0 129 := rfl
set_option maxRecDepth 20000 in
theorem c178_129 : xT 178 129 = oGeti 12 47 132 := rfl
set_option maxRecDepth 20000 in
theorem c178_132 : xT 178 132 = oPush (.int (1)) 133 := rfl
set_option maxRecDepth 20000 in
theorem c178_133 : xT 178 133 = oIcmp (fun x y => x = y) 136 143 := rfl
set_option maxRecDepth 20000 in
theorem c178_136 : xT 178 136 = oAld 0 137 := rfl
set_option maxRecDepth 20000 in
theorem c178_137 : xT 178 137 = oGeti 12 48 140 := rfl
set_option maxRecDepth 20000 in
theorem c178_140 : xT 178 140 = oGoto 151 := rfl
set_option maxRecDepth 20000 in
theorem c178_143 : xT 178 143 = oPush (.int (10000)) 146 := rfl
set_option maxRecDepth 20000 in
theorem c178_146 : xT 178 146 = oAld 0 147 := rfl
set_option maxRecDepth 20000 in
theorem c178_147 : xT 178 147 = oGeti 12 48 150 := rfl
set_option maxRecDepth 20000 in
theorem c178_150 : xT 178 150 = oBin (fun x y => x + y) 151 := rfl
set_option maxRecDepth 20000 in
theorem c178_151 : xT 178 151 = oTr [0, 2] (oCallV 13 182 2 154) := rfl
set_option maxRecDepth 20000 in
theorem c178_154 : xT 178 154 = oAld 0 155 := rfl
set_option maxRecDepth 20000 in
theorem c178_155 : xT 178 155 = oPush (.int (7)) 157 := rfl
set_option maxRecDepth 20000 in
theorem c178_157 : xT 178 157 = oCallV 13 183 2 160 := rfl
set_option maxRecDepth 20000 in
theorem c178_160 : xT 178 160 = oPush (.int (0)) 161 := rfl
set_option maxRecDepth 20000 in
theorem c178_161 : xT 178 161 = oIst 1 162 4 := rfl
set_option maxRecDepth 20000 in
theorem c178_162 : xT 178 162 = oTr [0, 1, 2] (oAld 0 163) := rfl
set_option maxRecDepth 20000 in
theorem c178_163 : xT 178 163 = oCallV 13 172 1 166 := rfl
set_option maxRecDepth 20000 in
theorem c178_166 : xT 178 166 = oGoto 36 := rfl
set_option maxRecDepth 20000 in
theorem c178_169 : xT 178 169 = oAld 0 170 := rfl
set_option maxRecDepth 20000 in
theorem c178_170 : xT 178 170 = oPush (.int (59)) 172 := rfl
set_option maxRecDepth 20000 in
theorem c178_172 : xT 178 172 = oCallV 13 180 2 175 := rfl
set_option maxRecDepth 20000 in
theorem c178_175 : xT 178 175 = oIf (fun x => x = 0) 196 178 := rfl
set_option maxRecDepth 20000 in
theorem c178_178 : xT 178 178 = oAld 0 179 := rfl
set_option maxRecDepth 20000 in
theorem c178_179 : xT 178 179 = oPush (.int (1)) 180 := rfl
set_option maxRecDepth 20000 in
theorem c178_180 : xT 178 180 = oCallV 13 183 2 183 := rfl
set_option maxRecDepth 20000 in
theorem c178_183 : xT 178 183 = oAld 0 184 := rfl
set_option maxRecDepth 20000 in
theorem c178_184 : xT 178 184 = oGeti 12 53 187 := rfl
set_option maxRecDepth 20000 in
theorem c178_187 : xT 178 187 = oIf (fun x => x = 0) 190 194 := rfl
set_option maxRecDepth 20000 in
theorem c178_190 : xT 178 190 = oPush (.int (1)) 191 := rfl
set_option maxRecDepth 20000 in
theorem c178_191 : xT 178 191 = oGoto 195 := rfl
set_option maxRecDepth 20000 in
theorem c178_194 : xT 178 194 = oPush (.int (0)) 195 := rfl
set_option maxRecDepth 20000 in
theorem c178_195 : xT 178 195 = oTr [] (oRi (fun x => x = 0 ∨ x = 1)) := rfl
set_option maxRecDepth 20000 in
theorem c178_196 : xT 178 196 = oAld 0 197 := rfl
set_option maxRecDepth 20000 in
theorem c178_197 : xT 178 197 = oPush (.int (41)) 199 := rfl
set_option maxRecDepth 20000 in
theorem c178_199 : xT 178 199 = oCallV 13 180 2 202 := rfl
set_option maxRecDepth 20000 in
theorem c178_202 : xT 178 202 = oIf (fun x => x = 0) 262 205 := rfl
set_option maxRecDepth 20000 in
theorem c178_205 : xT 178 205 = oAld 0 206 := rfl
set_option maxRecDepth 20000 in
theorem c178_206 : xT 178 206 = oGeti 12 53 209 := rfl
set_option maxRecDepth 20000 in
theorem c178_209 : xT 178 209 = oIf (fun x => x = 0) 212 214 := rfl
set_option maxRecDepth 20000 in
theorem c178_212 : xT 178 212 = oPush (.int (0)) 213 := rfl
set_option maxRecDepth 20000 in
theorem c178_213 : xT 178 213 = oRi (fun x => x = 0 ∨ x = 1) := rfl
set_option maxRecDepth 20000 in
theorem c178_214 : xT 178 214 = oAld 0 215 := rfl
set_option maxRecDepth 20000 in
theorem c178_215 : xT 178 215 = oPush (.int (1)) 216 := rfl
set_option maxRecDepth 20000 in
theorem c178_216 : xT 178 216 = oCallV 13 183 2 219 := rfl
set_option maxRecDepth 20000 in
theorem c178_219 : xT 178 219 = oAld 0 220 := rfl
set_option maxRecDepth 20000 in
theorem c178_220 : xT 178 220 = oDup 221 := rfl
set_option maxRecDepth 20000 in
theorem c178_221 : xT 178 221 = oGeti 12 52 224 := rfl
set_option maxRecDepth 20000 in
theorem c178_224 : xT 178 224 = oPush (.int (1)) 225 := rfl
set_option maxRecDepth 20000 in
theorem c178_225 : xT 178 225 = oBin (fun x y => x - y) 226 := rfl
set_option maxRecDepth 20000 in
theorem c178_226 : xT 178 226 = oPuti 12 52 229 := rfl
set_option maxRecDepth 20000 in
theorem c178_229 : xT 178 229 = oAld 0 230 := rfl
set_option maxRecDepth 20000 in
theorem c178_230 : xT 178 230 = oDup 231 := rfl
set_option maxRecDepth 20000 in
theorem c178_231 : xT 178 231 = oGeti 12 54 234 := rfl
set_option maxRecDepth 20000 in
theorem c178_234 : xT 178 234 = oPush (.int (1)) 235 := rfl
set_option maxRecDepth 20000 in
theorem c178_235 : xT 178 235 = oBin (fun x y => x - y) 236 := rfl
set_option maxRecDepth 20000 in
theorem c178_236 : xT 178 236 = oPuti 12 54 239 := rfl
set_option maxRecDepth 20000 in
theorem c178_239 : xT 178 239 = oAld 0 240 := rfl
set_option maxRecDepth 20000 in
theorem c178_240 : xT 178 240 = oDup 241 := rfl
set_option maxRecDepth 20000 in
theorem c178_241 : xT 178 241 = oGeti 12 53 244 := rfl
set_option maxRecDepth 20000 in
theorem c178_244 : xT 178 244 = oPush (.int (1)) 245 := rfl
set_option maxRecDepth 20000 in
theorem c178_245 : xT 178 245 = oBin (fun x y => x - y) 246 := rfl
set_option maxRecDepth 20000 in
theorem c178_246 : xT 178 246 = oPuti 12 53 249 := rfl
set_option maxRecDepth 20000 in
theorem c178_249 : xT 178 249 = oAld 0 250 := rfl
set_option maxRecDepth 20000 in
theorem c178_250 : xT 178 250 = oPush (.int (7)) 252 := rfl
set_option maxRecDepth 20000 in
theorem c178_252 : xT 178 252 = oCallV 13 183 2 255 := rfl
set_option maxRecDepth 20000 in
theorem c178_255 : xT 178 255 = oAld 0 256 := rfl
set_option maxRecDepth 20000 in
theorem c178_256 : xT 178 256 = oCallV 13 172 1 259 := rfl
set_option maxRecDepth 20000 in
theorem c178_259 : xT 178 259 = oGoto 36 := rfl
set_option maxRecDepth 20000 in
theorem c178_262 : xT 178 262 = oAld 0 263 := rfl
set_option maxRecDepth 20000 in
theorem c178_263 : xT 178 263 = oCallV 13 185 1 266 := rfl
set_option maxRecDepth 20000 in
theorem c178_266 : xT 178 266 = oIst 3 267 4 := rfl
set_option maxRecDepth 20000 in
theorem c178_267 : xT 178 267 = oIld 3 268 := rfl
set_option maxRecDepth 20000 in
theorem c178_268 : xT 178 268 = oIf (fun x => x = 0) 292 271 := rfl
set_option maxRecDepth 20000 in
theorem c178_271 : xT 178 271 = oAld 0 272 := rfl
set_option maxRecDepth 20000 in
theorem c178_272 : xT 178 272 = oIld 3 273 := rfl
set_option maxRecDepth 20000 in
theorem c178_273 : xT 178 273 = oCallV 13 184 2 276 := rfl
set_option maxRecDepth 20000 in
theorem c178_276 : xT 178 276 = oPush (.int (4)) 277 := rfl
set_option maxRecDepth 20000 in
theorem c178_277 : xT 178 277 = oIcmp (fun x y => x = y) 280 294 := rfl
set_option maxRecDepth 20000 in
theorem c178_280 : xT 178 280 = oAld 0 281 := rfl
set_option maxRecDepth 20000 in
theorem c178_281 : xT 178 281 = oGetp 12 51 284 := rfl
set_option maxRecDepth 20000 in
theorem c178_284 : xT 178 284 = oAld 0 285 := rfl
set_option maxRecDepth 20000 in
theorem c178_285 : xT 178 285 = oGeti 12 53 288 := rfl
set_option maxRecDepth 20000 in
theorem c178_288 : xT 178 288 = oAldi 22 289 := rfl
set_option maxRecDepth 20000 in
theorem c178_289 : xT 178 289 = oIf (fun x => x = 0) 294 292 := rfl
set_option maxRecDepth 20000 in
theorem c178_292 : xT 178 292 = oTr [] (oPush (.int (0)) 293) := rfl
set_option maxRecDepth 20000 in
theorem c178_293 : xT 178 293 = oRi (fun x => x = 0 ∨ x = 1) := rfl
set_option maxRecDepth 20000 in
theorem c178_294 : xT 178 294 = oTr [0, 3] (oAld 0 295) := rfl
set_option maxRecDepth 20000 in
theorem c178_295 : xT 178 295 = oGetp 12 51 298 := rfl
set_option maxRecDepth 20000 in
theorem c178_298 : xT 178 298 = oAld 0 299 := rfl
set_option maxRecDepth 20000 in
theorem c178_299 : xT 178 299 = oGeti 12 53 302 := rfl
set_option maxRecDepth 20000 in
theorem c178_302 : xT 178 302 = oAld 0 303 := rfl
set_option maxRecDepth 20000 in
theorem c178_303 : xT 178 303 = oIld 3 304 := rfl
set_option maxRecDepth 20000 in
theorem c178_304 : xT 178 304 = oCallV 13 184 2 307 := rfl
set_option maxRecDepth 20000 in
theorem c178_307 : xT 178 307 = oPush (.int (4)) 308 := rfl
set_option maxRecDepth 20000 in
theorem c178_308 : xT 178 308 = oIcmp (fun x y => x = y) 332 311 := rfl
set_option maxRecDepth 20000 in
theorem c178_311 : xT 178 311 = oAld 0 312 := rfl
set_option maxRecDepth 20000 in
theorem c178_312 : xT 178 312 = oIld 3 313 := rfl
set_option maxRecDepth 20000 in
theorem c178_313 : xT 178 313 = oCallV 13 184 2 316 := rfl
set_option maxRecDepth 20000 in
theorem c178_316 : xT 178 316 = oPush (.int (2)) 317 := rfl
set_option maxRecDepth 20000 in
theorem c178_317 : xT 178 317 = oIcmp (fun x y => x ≤ y) 336 320 := rfl
set_option maxRecDepth 20000 in
theorem c178_320 : xT 178 320 = oAld 0 321 := rfl
set_option maxRecDepth 20000 in
theorem c178_321 : xT 178 321 = oGetp 12 51 324 := rfl
set_option maxRecDepth 20000 in
theorem c178_324 : xT 178 324 = oAld 0 325 := rfl
set_option maxRecDepth 20000 in
theorem c178_325 : xT 178 325 = oGeti 12 53 328 := rfl
set_option maxRecDepth 20000 in
theorem c178_328 : xT 178 328 = oAldi 22 329 := rfl
set_option maxRecDepth 20000 in
theorem c178_329 : xT 178 329 = oIf (fun x => x = 0) 336 332 := rfl
set_option maxRecDepth 20000 in
theorem c178_332 : xT 178 332 = oTr [0, 3] (oPush (.int (1)) 333) := rfl
set_option maxRecDepth 20000 in
theorem c178_333 : xT 178 333 = oGoto 337 := rfl
set_option maxRecDepth 20000 in
theorem c178_336 : xT 178 336 = oTr [0, 3] (oPush (.int (0)) 337) := rfl
set_option maxRecDepth 20000 in
theorem c178_337 : xT 178 337 = oTr [0, 3] (oAsti 22 (vp_nar .boolean) 338) := rfl
set_option maxRecDepth 20000 in
theorem c178_338 : xT 178 338 = oAld 0 339 := rfl
set_option maxRecDepth 20000 in
theorem c178_339 : xT 178 339 = oAld 0 340 := rfl
set_option maxRecDepth 20000 in
theorem c178_340 : xT 178 340 = oIld 3 341 := rfl
set_option maxRecDepth 20000 in
theorem c178_341 : xT 178 341 = oCallV 13 184 2 344 := rfl
set_option maxRecDepth 20000 in
theorem c178_344 : xT 178 344 = oCallV 13 183 2 347 := rfl
set_option maxRecDepth 20000 in
theorem c178_347 : xT 178 347 = oAld 0 348 := rfl
set_option maxRecDepth 20000 in
theorem c178_348 : xT 178 348 = oIld 3 349 := rfl
set_option maxRecDepth 20000 in
theorem c178_349 : xT 178 349 = oCallV 13 181 2 352 := rfl
set_option maxRecDepth 20000 in
theorem c178_352 : xT 178 352 = oPush (.int (1)) 353 := rfl
set_option maxRecDepth 20000 in
theorem c178_353 : xT 178 353 = oIst 1 354 4 := rfl
set_option maxRecDepth 20000 in
theorem c178_354 : xT 178 354 = oAld 0 355 := rfl
set_option maxRecDepth 20000 in
theorem c178_355 : xT 178 355 = oIld 3 356 := rfl
set_option maxRecDepth 20000 in
theorem c178_356 : xT 178 356 = oCallV 13 184 2 359 := rfl
set_option maxRecDepth 20000 in
theorem c178_359 : xT 178 359 = oPush (.int (3)) 360 := rfl
set_option maxRecDepth 20000 in
theorem c178_360 : xT 178 360 = oIcmp (fun x y => y ≤ x) 367 363 := rfl
set_option maxRecDepth 20000 in
theorem c178_363 : xT 178 363 = oPush (.int (1)) 364 := rfl
set_option maxRecDepth 20000 in
theorem c178_364 : xT 178 364 = oGoto 368 := rfl
set_option maxRecDepth 20000 in
theorem c178_367 : xT 178 367 = oPush (.int (0)) 368 := rfl
set_option maxRecDepth 20000 in
theorem c178_368 : xT 178 368 = oTr [0, 1] (oIst 2 369 4) := rfl
set_option maxRecDepth 20000 in
theorem c178_369 : xT 178 369 = oAld 0 370 := rfl
set_option maxRecDepth 20000 in
theorem c178_370 : xT 178 370 = oCallV 13 172 1 373 := rfl
set_option maxRecDepth 20000 in
theorem c178_373 : xT 178 373 = oGoto 36 := rfl
theorem c179_0 : xT 179 0 = oAld 0 1 := rfl
theorem c179_1 : xT 179 1 = oGeti 12 47 4 := rfl
theorem c179_4 : xT 179 4 = oPush (.int (1)) 5 := rfl
theorem c179_5 : xT 179 5 = oIcmp (fun x y => x = y) 16 8 := rfl
theorem c179_8 : xT 179 8 = oAld 0 9 := rfl
theorem c179_9 : xT 179 9 = oGeti 12 47 12 := rfl
theorem c179_12 : xT 179 12 = oPush (.int (2)) 13 := rfl
theorem c179_13 : xT 179 13 = oIcmp (fun x y => x = y) 16 18 := rfl
theorem c179_16 : xT 179 16 = oTr [] (oPush (.int (1)) 17) := rfl
theorem c179_17 : xT 179 17 = oRi (fun x => x = 0 ∨ x = 1) := rfl
theorem c179_18 : xT 179 18 = oAld 0 19 := rfl
theorem c179_19 : xT 179 19 = oGeti 12 54 22 := rfl
theorem c179_22 : xT 179 22 = oPush (.int (5)) 23 := rfl
theorem c179_23 : xT 179 23 = oIcmp (fun x y => x = y) 26 28 := rfl
theorem c179_26 : xT 179 26 = oPush (.int (0)) 27 := rfl
theorem c179_27 : xT 179 27 = oRi (fun x => x = 0 ∨ x = 1) := rfl
theorem c179_28 : xT 179 28 = oAld 0 29 := rfl
theorem c179_29 : xT 179 29 = oPush (.int (4)) 30 := rfl
theorem c179_30 : xT 179 30 = oCallV 13 177 2 33 := rfl
theorem c179_33 : xT 179 33 = oIf (fun x => x = 0) 38 36 := rfl
theorem c179_36 : xT 179 36 = oIld 1 37 := rfl
theorem c179_37 : xT 179 37 = oRi (fun x => x = 0 ∨ x = 1) := rfl
theorem c179_38 : xT 179 38 = oAld 0 39 := rfl
theorem c179_39 : xT 179 39 = oPush (.int (40)) 41 := rfl
theorem c179_41 : xT 179 41 = oCallV 13 180 2 44 := rfl
theorem c179_44 : xT 179 44 = oIf (fun x => x = 0) 47 56 := rfl
theorem c179_47 : xT 179 47 = oAld 0 48 := rfl
theorem c179_48 : xT 179 48 = oPush (.int (45)) 50 := rfl
theorem c179_50 : xT 179 50 = oCallV 13 180 2 53 := rfl
theorem c179_53 : xT 179 53 = oIf (fun x => x = 0) 60 56 := rfl
theorem c179_56 : xT 179 56 = oTr [] (oPush (.int (1)) 57) := rfl
theorem c179_57 : xT 179 57 = oGoto 61 := rfl
theorem c179_60 : xT 179 60 = oPush (.int (0)) 61 := rfl
theorem c179_61 : xT 179 61 = oTr [] (oRi (fun x => x = 0 ∨ x = 1)) := rfl
theorem c180_0 : xT 180 0 = oAld 0 1 := rfl
theorem c180_1 : xT 180 1 = oGeti 12 47 4 := rfl
theorem c180_4 : xT 180 4 = oPush (.int (4)) 5 := rfl
theorem c180_5 : xT 180 5 = oIcmp (fun x y => x = y) 8 20 := rfl
theorem c180_8 : xT 180 8 = oAld 0 9 := rfl
theorem c180_9 : xT 180 9 = oGeti 12 48 12 := rfl
theorem c180_12 : xT 180 12 = oIld 1 13 := rfl
theorem c180_13 : xT 180 13 = oIcmp (fun x y => x = y) 16 20 := rfl
theorem c180_16 : xT 180 16 = oPush (.int (1)) 17 := rfl
theorem c180_17 : xT 180 17 = oGoto 21 := rfl
theorem c180_20 : xT 180 20 = oTr [] (oPush (.int (0)) 21) := rfl
theorem c180_21 : xT 180 21 = oTr [] (oRi (fun x => x = 0 ∨ x = 1)) := rfl
theorem c181_0 : xT 181 0 = oAld 0 1 := rfl
theorem c181_1 : xT 181 1 = oGetp 12 50 4 := rfl
theorem c181_4 : xT 181 4 = oAld 0 5 := rfl
theorem c181_5 : xT 181 5 = oGeti 12 52 8 := rfl
theorem c181_8 : xT 181 8 = oIld 1 9 := rfl
theorem c181_9 : xT 181 9 = oAsti 20 (fun x => x) 10 := rfl
theorem c181_10 : xT 181 10 = oAld 0 11 := rfl
theorem c181_11 : xT 181 11 = oDup 12 := rfl
theorem c181_12 : xT 181 12 = oGeti 12 52 15 := rfl
theorem c181_15 : xT 181 15 = oPush (.int (1)) 16 := rfl
theorem c181_16 : xT 181 16 = oBin (fun x y => x + y) 17 := rfl
theorem c181_17 : xT 181 17 = oPuti 12 52 20 := rfl
theorem c181_20 : xT 181 20 = oIld 1 21 := rfl
theorem c181_21 : xT 181 21 = oPush (.int (-3)) 23 := rfl
theorem c181_23 : xT 181 23 = oIcmp (fun x y => x = y) 38 26 := rfl
theorem c181_26 : xT 181 26 = oIld 1 27 := rfl
theorem c181_27 : xT 181 27 = oPush (.int (-9)) 29 := rfl
theorem c181_29 : xT 181 29 = oIcmp (fun x y => x = y) 38 32 := rfl
theorem c181_32 : xT 181 32 = oIld 1 33 := rfl
theorem c181_33 : xT 181 33 = oPush (.int (-10)) 35 := rfl
theorem c181_35 : xT 181 35 = oIcmp (fun x y => x = y) 38 48 := rfl
theorem c181_38 : xT 181 38 = oTr [0] (oAld 0 39) := rfl
theorem c181_39 : xT 181 39 = oDup 40 := rfl
theorem c181_40 : xT 181 40 = oGeti 12 54 43 := rfl
theorem c181_43 : xT 181 43 = oPush (.int (1)) 44 := rfl
theorem c181_44 : xT 181 44 = oBin (fun x y => x + y) 45 := rfl
theorem c181_45 : xT 181 45 = oPuti 12 54 48 := rfl
theorem c181_48 : xT 181 48 = oTr [] (oRv) := rfl
theorem c182_0 : xT 182 0 = oAld 0 1 := rfl
theorem c182_1 : xT 182 1 = oGetp 12 45 4 := rfl
theorem c182_4 : xT 182 4 = oPush (.int (160)) 7 := rfl
theorem c182_7 : xT 182 7 = oAld 0 8 := rfl
theorem c182_8 : xT 182 8 = oGeti 12 55 11 := rfl
theorem c182_11 : xT 182 11 = oBin (fun x y => x * y) 12 := rfl
theorem c182_12 : xT 182 12 = oAld 0 13 := rfl
theorem c182_13 : xT 182 13 = oGetp 12 44 16 := rfl
theorem c182_16 : xT 182 16 = oAld 0 17 := rfl
theorem c182_17 : xT 182 17 = oGeti 12 55 20 := rfl
theorem c182_20 : xT 182 20 = oAldi 20 21 := rfl
theorem c182_21 : xT 182 21 = oBin (fun x y => x + y) 22 := rfl
theorem c182_22 : xT 182 22 = oIld 1 23 := rfl
theorem c182_23 : xT 182 23 = oAsti 20 (fun x => x) 24 := rfl
theorem c182_24 : xT 182 24 = oAld 0 25 := rfl
theorem c182_25 : xT 182 25 = oGetp 12 44 28 := rfl
theorem c182_28 : xT 182 28 = oAld 0 29 := rfl
theorem c182_29 : xT 182 29 = oGeti 12 55 32 := rfl
theorem c182_32 : xT 182 32 = oDup2 33 := rfl
theorem c182_33 : xT 182 33 = oAldi 20 34 := rfl
theorem c182_34 : xT 182 34 = oPush (.int (1)) 35 := rfl
theorem c182_35 : xT 182 35 = oBin (fun x y => x + y) 36 := rfl
theorem c182_36 : xT 182 36 = oAsti 20 (fun x => x) 37 := rfl
theorem c182_37 : xT 182 37 = oRv := rfl
theorem c183_0 : xT 183 0 = oTr [0, 1] (oAld 0 1) := rfl
theorem c183_1 : xT 183 1 = oGeti 12 52 4 := rfl
theorem c183_4 : xT 183 4 = oIf (fun x => x ≤ 0) 90 7 := rfl
theorem c183_7 : xT 183 7 = oAld 0 8 := rfl
theorem c183_8 : xT 183 8 = oAld 0 9 := rfl
theorem c183_9 : xT 183 9 = oGetp 12 50 12 := rfl
theorem c183_12 : xT 183 12 = oAld 0 13 := rfl
theorem c183_13 : xT 183 13 = oGeti 12 52 16 := rfl
theorem c183_16 : xT 183 16 = oPush (.int (1)) 17 := rfl
theorem c183_17 : xT 183 17 = oBin (fun x y => x - y) 18 := rfl
theorem c183_18 : xT 183 18 = oAldi 20 19 := rfl
theorem c183_19 : xT 183 19 = oCallV 13 184 2 22 := rfl
theorem c183_22 : xT 183 22 = oIld 1 23 := rfl
theorem c183_23 : xT 183 23 = oIcmp (fun x y => x < y) 90 26 := rfl
theorem c183_26 : xT 183 26 = oAld 0 27 := rfl
theorem c183_27 : xT 183 27 = oDup 28 := rfl
theorem c183_28 : xT 183 28 = oGeti 12 52 31 := rfl
theorem c183_31 : xT 183 31 = oPush (.int (1)) 32 := rfl
theorem c183_32 : xT 183 32 = oBin (fun x y => x - y) 33 := rfl
theorem c183_33 : xT 183 33 = oPuti 12 52 36 := rfl
theorem c183_36 : xT 183 36 = oAld 0 37 := rfl
theorem c183_37 : xT 183 37 = oAld 0 38 := rfl
theorem c183_38 : xT 183 38 = oGetp 12 50 41 := rfl
theorem c183_41 : xT 183 41 = oAld 0 42 := rfl
theorem c183_42 : xT 183 42 = oGeti 12 52 45 := rfl
theorem c183_45 : xT 183 45 = oAldi 20 46 := rfl
theorem c183_46 : xT 183 46 = oCallV 13 182 2 49 := rfl
theorem c183_49 : xT 183 49 = oAld 0 50 := rfl
theorem c183_50 : xT 183 50 = oGetp 12 50 53 := rfl
theorem c183_53 : xT 183 53 = oAld 0 54 := rfl
theorem c183_54 : xT 183 54 = oGeti 12 52 57 := rfl
theorem c183_57 : xT 183 57 = oAldi 20 58 := rfl
theorem c183_58 : xT 183 58 = oPush (.int (-3)) 60 := rfl
theorem c183_60 : xT 183 60 = oIcmp (fun x y => x = y) 77 63 := rfl
theorem c183_63 : xT 183 63 = oAld 0 64 := rfl
theorem c183_64 : xT 183 64 = oGetp 12 50 67 := rfl
theorem c183_67 : xT 183 67 = oAld 0 68 := rfl
theorem c183_68 : xT 183 68 = oGeti 12 52 71 := rfl
theorem c183_71 : xT 183 71 = oAldi 20 72 := rfl
theorem c183_72 : xT 183 72 = oPush (.int (-9)) 74 := rfl
theorem c183_74 : xT 183 74 = oIcmp (fun x y => x = y) 77 0 := rfl
theorem c183_77 : xT 183 77 = oTr [0, 1] (oAld 0 78) := rfl
theorem c183_78 : xT 183 78 = oDup 79 := rfl
theorem c183_79 : xT 183 79 = oGeti 12 54 82 := rfl
theorem c183_82 : xT 183 82 = oPush (.int (1)) 83 := rfl
theorem c183_83 : xT 183 83 = oBin (fun x y => x - y) 84 := rfl
theorem c183_84 : xT 183 84 = oPuti 12 54 87 := rfl
theorem c183_87 : xT 183 87 = oGoto 0 := rfl
theorem c183_90 : xT 183 90 = oTr [] (oRv) := rfl
theorem c184_0 : xT 184 0 = oIld 1 1 := rfl
theorem c184_1 : xT 184 1 = oPush (.int (-1)) 2 := rfl
theorem c184_2 : xT 184 2 = oIcmp (fun x y => x = y) 5 9 := rfl
theorem c184_5 : xT 184 5 = oPush (.int (1)) 6 := rfl
theorem c184_6 : xT 184 6 = oGoto 84 := rfl
theorem c184_9 : xT 184 9 = oIld 1 10 := rfl
theorem c184_10 : xT 184 10 = oPush (.int (-2)) 12 := rfl
theorem c184_12 : xT 184 12 = oIcmp (fun x y => x = y) 15 19 := rfl
theorem c184_15 : xT 184 15 = oPush (.int (2)) 16 := rfl
theorem c184_16 : xT 184 16 = oGoto 84 := rfl
theorem c184_19 : xT 184 19 = oIld 1 20 := rfl
theorem c184_20 : xT 184 20 = oPush (.int (-3)) 22 := rfl
theorem c184_22 : xT 184 22 = oIcmp (fun x y => x = y) 25 29 := rfl
theorem c184_25 : xT 184 25 = oPush (.int (3)) 26 := rfl
theorem c184_26 : xT 184 26 = oGoto 84 := rfl
theorem c184_29 : xT 184 29 = oIld 1 30 := rfl
theorem c184_30 : xT 184 30 = oPush (.int (-4)) 32 := rfl
theorem c184_32 : xT 184 32 = oIcmp (fun x y => x = y) 41 35 := rfl
theorem c184_35 : xT 184 35 = oIld 1 36 := rfl
theorem c184_36 : xT 184 36 = oPush (.int (-5)) 38 := rfl
theorem c184_38 : xT 184 38 = oIcmp (fun x y => x = y) 41 45 := rfl
theorem c184_41 : xT 184 41 = oTr [] (oPush (.int (4)) 42) := rfl
theorem c184_42 : xT 184 42 = oGoto 84 := rfl
theorem c184_45 : xT 184 45 = oIld 1 46 := rfl
theorem c184_46 : xT 184 46 = oPush (.int (-6)) 48 := rfl
theorem c184_48 : xT 184 48 = oIcmp (fun x y => x = y) 57 51 := rfl
theorem c184_51 : xT 184 51 = oIld 1 52 := rfl
theorem c184_52 : xT 184 52 = oPush (.int (-7)) 54 := rfl
theorem c184_54 : xT 184 54 = oIcmp (fun x y => x = y) 57 61 := rfl
theorem c184_57 : xT 184 57 = oTr [] (oPush (.int (5)) 58) := rfl
theorem c184_58 : xT 184 58 = oGoto 84 := rfl
theorem c184_61 : xT 184 61 = oIld 1 62 := rfl
theorem c184_62 : xT 184 62 = oPush (.int (-8)) 64 := rfl
theorem c184_64 : xT 184 64 = oIcmp (fun x y => x = y) 67 72 := rfl
theorem c184_67 : xT 184 67 = oPush (.int (6)) 69 := rfl
theorem c184_69 : xT 184 69 = oGoto 84 := rfl
theorem c184_72 : xT 184 72 = oIld 1 73 := rfl
theorem c184_73 : xT 184 73 = oPush (.int (-9)) 75 := rfl
theorem c184_75 : xT 184 75 = oIcmp (fun x y => x = y) 78 83 := rfl
theorem c184_78 : xT 184 78 = oPush (.int (7)) 80 := rfl
theorem c184_80 : xT 184 80 = oGoto 84 := rfl
theorem c184_83 : xT 184 83 = oPush (.int (0)) 84 := rfl
theorem c184_84 : xT 184 84 = oTr [] (oRi (fun _ => True)) := rfl
theorem c185_0 : xT 185 0 = oAld 0 1 := rfl
theorem c185_1 : xT 185 1 = oPush (.int (2)) 2 := rfl
theorem c185_2 : xT 185 2 = oCallV 13 177 2 5 := rfl
theorem c185_5 : xT 185 5 = oIf (fun x => x = 0) 12 8 := rfl
theorem c185_8 : xT 185 8 = oPush (.int (-1)) 9 := rfl
theorem c185_9 : xT 185 9 = oGoto 96 := rfl
theorem c185_12 : xT 185 12 = oAld 0 13 := rfl
theorem c185_13 : xT 185 13 = oPush (.int (3)) 14 := rfl
theorem c185_14 : xT 185 14 = oCallV 13 177 2 17 := rfl
theorem c185_17 : xT 185 17 = oIf (fun x => x = 0) 25 20 := rfl
theorem c185_20 : xT 185 20 = oPush (.int (-2)) 22 := rfl
theorem c185_22 : xT 185 22 = oGoto 96 := rfl
theorem c185_25 : xT 185 25 = oAld 0 26 := rfl
theorem c185_26 : xT 185 26 = oPush (.int (60)) 28 := rfl
theorem c185_28 : xT 185 28 = oCallV 13 180 2 31 := rfl
theorem c185_31 : xT 185 31 = oIf (fun x => x = 0) 39 34 := rfl
theorem c185_34 : xT 185 34 = oPush (.int (-4)) 36 := rfl
theorem c185_36 : xT 185 36 = oGoto 96 := rfl
theorem c185_39 : xT 185 39 = oAld 0 40 := rfl
theorem c185_40 : xT 185 40 = oPush (.int (61)) 42 := rfl
theorem c185_42 : xT 185 42 = oCallV 13 180 2 45 := rfl
theorem c185_45 : xT 185 45 = oIf (fun x => x = 0) 53 48 := rfl
theorem c185_48 : xT 185 48 = oPush (.int (-5)) 50 := rfl
theorem c185_50 : xT 185 50 = oGoto 96 := rfl
theorem c185_53 : xT 185 53 = oAld 0 54 := rfl
theorem c185_54 : xT 185 54 = oPush (.int (43)) 56 := rfl
theorem c185_56 : xT 185 56 = oCallV 13 180 2 59 := rfl
theorem c185_59 : xT 185 59 = oIf (fun x => x = 0) 67 62 := rfl
theorem c185_62 : xT 185 62 = oPush (.int (-6)) 64 := rfl
theorem c185_64 : xT 185 64 = oGoto 96 := rfl
theorem c185_67 : xT 185 67 = oAld 0 68 := rfl
theorem c185_68 : xT 185 68 = oPush (.int (45)) 70 := rfl
theorem c185_70 : xT 185 70 = oCallV 13 180 2 73 := rfl
theorem c185_73 : xT 185 73 = oIf (fun x => x = 0) 81 76 := rfl
theorem c185_76 : xT 185 76 = oPush (.int (-7)) 78 := rfl
theorem c185_78 : xT 185 78 = oGoto 96 := rfl
theorem c185_81 : xT 185 81 = oAld 0 82 := rfl
theorem c185_82 : xT 185 82 = oPush (.int (42)) 84 := rfl
theorem c185_84 : xT 185 84 = oCallV 13 180 2 87 := rfl
theorem c185_87 : xT 185 87 = oIf (fun x => x = 0) 95 90 := rfl
theorem c185_90 : xT 185 90 = oPush (.int (-8)) 92 := rfl
theorem c185_92 : xT 185 92 = oGoto 96 := rfl
theorem c185_95 : xT 185 95 = oPush (.int (0)) 96 := rfl
theorem c185_96 : xT 185 96 = oTr [] (oRi (fun _ => True)) := rfl
theorem c186_0 : xT 186 0 = oAld 0 1 := rfl
theorem c186_1 : xT 186 1 = oIld 1 2 := rfl
theorem c186_2 : xT 186 2 = oPush (.int (0)) 3 := rfl
theorem c186_3 : xT 186 3 = oAld 0 4 := rfl
theorem c186_4 : xT 186 4 = oGeti 12 42 7 := rfl
theorem c186_7 : xT 186 7 = oPush (.int (1)) 8 := rfl
theorem c186_8 : xT 186 8 = oBin (fun x y => x - y) 9 := rfl
theorem c186_9 : xT 186 9 = oCallV 13 129 4 12 := rfl
theorem c186_12 : xT 186 12 = oIf (fun x => x = 0) 15 18 := rfl
theorem c186_15 : xT 186 15 = oPush (.int (-2)) 17 := rfl
theorem c186_17 : xT 186 17 = oRi (fun _ => True) := rfl
theorem c186_18 : xT 186 18 = oAld 0 19 := rfl
theorem c186_19 : xT 186 19 = oGeti 12 43 22 := rfl
theorem c186_22 : xT 186 22 = oIst 2 23 3 := rfl
theorem c186_23 : xT 186 23 = oAld 0 24 := rfl
theorem c186_24 : xT 186 24 = oIld 1 25 := rfl
theorem c186_25 : xT 186 25 = oPuti 12 43 28 := rfl
theorem c186_28 : xT 186 28 = oIld 2 29 := rfl
theorem c186_29 : xT 186 29 = oRi (fun _ => True) := rfl
theorem c187_0 : xT 187 0 = oAld 0 1 := rfl
theorem c187_1 : xT 187 1 = oIld 1 2 := rfl
theorem c187_2 : xT 187 2 = oCallV 13 160 2 5 := rfl
theorem c187_5 : xT 187 5 = oIf (fun x => x = 0) 18 8 := rfl
theorem c187_8 : xT 187 8 = oAld 0 9 := rfl
theorem c187_9 : xT 187 9 = oIld 2 10 := rfl
theorem c187_10 : xT 187 10 = oPush (.int (0)) 11 := rfl
theorem c187_11 : xT 187 11 = oPush (.int (1)) 12 := rfl
theorem c187_12 : xT 187 12 = oCallV 13 129 4 15 := rfl
theorem c187_15 : xT 187 15 = oIf (fun x => x = 0) 18 22 := rfl
theorem c187_18 : xT 187 18 = oTr [] (oPush (.long (-4611686018427387904)) 21) := rfl
theorem c187_21 : xT 187 21 = oRl := rfl
theorem c187_22 : xT 187 22 = oAld 0 23 := rfl
theorem c187_23 : xT 187 23 = oGetp 12 56 26 := rfl
theorem c187_26 : xT 187 26 = oPush (.int (0)) 27 := rfl
theorem c187_27 : xT 187 27 = oAld 0 28 := rfl
theorem c187_28 : xT 187 28 = oGetp 12 25 31 := rfl
theorem c187_31 : xT 187 31 = oIld 1 32 := rfl
theorem c187_32 : xT 187 32 = oAldi 20 33 := rfl
theorem c187_33 : xT 187 33 = oAld 0 34 := rfl
theorem c187_34 : xT 187 34 = oGetp 12 21 37 := rfl
theorem c187_37 : xT 187 37 = oIld 1 38 := rfl
theorem c187_38 : xT 187 38 = oAldi 20 39 := rfl
theorem c187_39 : xT 187 39 = oBin (fun x y => x + y) 40 := rfl
theorem c187_40 : xT 187 40 = oAsti 20 (fun x => x) 41 := rfl
theorem c187_41 : xT 187 41 = oAld 0 42 := rfl
theorem c187_42 : xT 187 42 = oGetp 12 56 45 := rfl
theorem c187_45 : xT 187 45 = oPush (.int (1)) 46 := rfl
theorem c187_46 : xT 187 46 = oAld 0 47 := rfl
theorem c187_47 : xT 187 47 = oGetp 12 18 50 := rfl
theorem c187_50 : xT 187 50 = oIld 1 51 := rfl
theorem c187_51 : xT 187 51 = oAldi 20 52 := rfl
theorem c187_52 : xT 187 52 = oAsti 20 (fun x => x) 53 := rfl
theorem c187_53 : xT 187 53 = oAld 0 54 := rfl
theorem c187_54 : xT 187 54 = oGetp 12 56 57 := rfl
theorem c187_57 : xT 187 57 = oPush (.int (2)) 58 := rfl
theorem c187_58 : xT 187 58 = oAld 0 59 := rfl
theorem c187_59 : xT 187 59 = oGetp 12 16 62 := rfl
theorem c187_62 : xT 187 62 = oIld 1 63 := rfl
theorem c187_63 : xT 187 63 = oAldi 20 64 := rfl
theorem c187_64 : xT 187 64 = oAsti 20 (fun x => x) 65 := rfl
theorem c187_65 : xT 187 65 = oAld 0 66 := rfl
theorem c187_66 : xT 187 66 = oGetp 12 56 69 := rfl
theorem c187_69 : xT 187 69 = oPush (.int (3)) 70 := rfl
theorem c187_70 : xT 187 70 = oAld 0 71 := rfl
theorem c187_71 : xT 187 71 = oGetp 12 17 74 := rfl
theorem c187_74 : xT 187 74 = oIld 1 75 := rfl
theorem c187_75 : xT 187 75 = oAldi 20 76 := rfl
theorem c187_76 : xT 187 76 = oAsti 20 (fun x => x) 77 := rfl
theorem c187_77 : xT 187 77 = oAld 0 78 := rfl
theorem c187_78 : xT 187 78 = oGetp 12 56 81 := rfl
theorem c187_81 : xT 187 81 = oPush (.int (4)) 82 := rfl
theorem c187_82 : xT 187 82 = oAld 0 83 := rfl
theorem c187_83 : xT 187 83 = oGetp 12 28 86 := rfl
theorem c187_86 : xT 187 86 = oIld 1 87 := rfl
theorem c187_87 : xT 187 87 = oAldi 20 88 := rfl
theorem c187_88 : xT 187 88 = oAsti 20 (fun x => x) 89 := rfl
theorem c187_89 : xT 187 89 = oAld 0 90 := rfl
theorem c187_90 : xT 187 90 = oGetp 12 56 93 := rfl
theorem c187_93 : xT 187 93 = oPush (.int (5)) 94 := rfl
theorem c187_94 : xT 187 94 = oAld 0 95 := rfl
theorem c187_95 : xT 187 95 = oGetp 12 14 98 := rfl
theorem c187_98 : xT 187 98 = oIld 1 99 := rfl
theorem c187_99 : xT 187 99 = oAldi 20 100 := rfl
theorem c187_100 : xT 187 100 = oAsti 20 (fun x => x) 101 := rfl
theorem c187_101 : xT 187 101 = oAld 0 102 := rfl
theorem c187_102 : xT 187 102 = oIld 2 103 := rfl
theorem c187_103 : xT 187 103 = oCallV 13 188 2 106 := rfl
theorem c187_106 : xT 187 106 = oI2l 107 := rfl
theorem c187_107 : xT 187 107 = oRl := rfl
theorem c188_0 : xT 188 0 = oPush (.int (2)) 1 := rfl
theorem c188_1 : xT 188 1 = oAld 0 2 := rfl
theorem c188_2 : xT 188 2 = oGeti 12 43 5 := rfl
theorem c188_5 : xT 188 5 = oBin (fun x y => x * y) 6 := rfl
theorem c188_6 : xT 188 6 = oIld 1 7 := rfl
theorem c188_7 : xT 188 7 = oBin (fun x y => x + y) 8 := rfl
theorem c188_8 : xT 188 8 = oIst 2 9 6 := rfl
theorem c188_9 : xT 188 9 = oPush (.int (0)) 10 := rfl
theorem c188_10 : xT 188 10 = oIst 3 11 6 := rfl
theorem c188_11 : xT 188 11 = oPush (.int (0)) 12 := rfl
theorem c188_12 : xT 188 12 = oIst 4 14 6 := rfl
theorem c188_14 : xT 188 14 = oTr [0, 2, 3, 4] (oIld 4 16) := rfl
theorem c188_16 : xT 188 16 = oAld 0 17 := rfl
theorem c188_17 : xT 188 17 = oGetp 12 44 20 := rfl
theorem c188_20 : xT 188 20 = oIld 2 21 := rfl
theorem c188_21 : xT 188 21 = oAldi 20 22 := rfl
theorem c188_22 : xT 188 22 = oIcmp (fun x y => y ≤ x) 178 25 := rfl
theorem c188_25 : xT 188 25 = oAld 0 26 := rfl
theorem c188_26 : xT 188 26 = oGetp 12 45 29 := rfl
theorem c188_29 : xT 188 29 = oPush (.int (160)) 32 := rfl
theorem c188_32 : xT 188 32 = oIld 2 33 := rfl
theorem c188_33 : xT 188 33 = oBin (fun x y => x * y) 34 := rfl
theorem c188_34 : xT 188 34 = oIld 4 36 := rfl
theorem c188_36 : xT 188 36 = oBin (fun x y => x + y) 37 := rfl
theorem c188_37 : xT 188 37 = oAldi 20 38 := rfl
theorem c188_38 : xT 188 38 = oIst 5 40 6 := rfl
theorem c188_40 : xT 188 40 = oIld 5 42 := rfl
theorem c188_42 : xT 188 42 = oIf (fun x => x < 0) 81 45 := rfl
theorem c188_45 : xT 188 45 = oAld 0 46 := rfl
theorem c188_46 : xT 188 46 = oGetp 12 57 49 := rfl
theorem c188_49 : xT 188 49 = oIld 3 50 := rfl
theorem c188_50 : xT 188 50 = oIld 5 52 := rfl
theorem c188_52 : xT 188 52 = oPush (.int (10000)) 55 := rfl
theorem c188_55 : xT 188 55 = oIcmp (fun x y => y ≤ x) 63 58 := rfl
theorem c188_58 : xT 188 58 = oIld 5 60 := rfl
theorem c188_60 : xT 188 60 = oGoto 74 := rfl
theorem c188_63 : xT 188 63 = oAld 0 64 := rfl
theorem c188_64 : xT 188 64 = oGetp 12 56 67 := rfl
theorem c188_67 : xT 188 67 = oIld 5 69 := rfl
theorem c188_69 : xT 188 69 = oPush (.int (10000)) 72 := rfl
theorem c188_72 : xT 188 72 = oBin (fun x y => x - y) 73 := rfl
theorem c188_73 : xT 188 73 = oAldi 20 74 := rfl
theorem c188_74 : xT 188 74 = oTr [0, 2, 3, 4] (oAsti 20 (fun x => x) 75) := rfl
theorem c188_75 : xT 188 75 = oIinc 3 (1) 78 6 := rfl
theorem c188_78 : xT 188 78 = oGoto 172 := rfl
theorem c188_81 : xT 188 81 = oIld 5 83 := rfl
theorem c188_83 : xT 188 83 = oPush (.int (-3)) 85 := rfl
theorem c188_85 : xT 188 85 = oIcmp (fun x y => x = y) 95 88 := rfl
theorem c188_88 : xT 188 88 = oIld 5 90 := rfl
theorem c188_90 : xT 188 90 = oPush (.int (-9)) 92 := rfl
theorem c188_92 : xT 188 92 = oIcmp (fun x y => x = y) 95 141 := rfl
theorem c188_95 : xT 188 95 = oTr [0, 2, 3, 4, 5] (oAld 0 96) := rfl
theorem c188_96 : xT 188 96 = oGetp 12 57 99 := rfl
theorem c188_99 : xT 188 99 = oIld 3 100 := rfl
theorem c188_100 : xT 188 100 = oPush (.int (1)) 101 := rfl
theorem c188_101 : xT 188 101 = oBin (fun x y => x - y) 102 := rfl
theorem c188_102 : xT 188 102 = oIld 5 104 := rfl
theorem c188_104 : xT 188 104 = oPush (.int (-9)) 106 := rfl
theorem c188_106 : xT 188 106 = oIcmp (fun x y => x = y) 109 121 := rfl
theorem c188_109 : xT 188 109 = oAld 0 110 := rfl
theorem c188_110 : xT 188 110 = oGetp 12 57 113 := rfl
theorem c188_113 : xT 188 113 = oIld 3 114 := rfl
theorem c188_114 : xT 188 114 = oPush (.int (1)) 115 := rfl
theorem c188_115 : xT 188 115 = oBin (fun x y => x - y) 116 := rfl
theorem c188_116 : xT 188 116 = oAldi 20 117 := rfl
theorem c188_117 : xT 188 117 = oUn (fun x => -x) 118 := rfl
theorem c188_118 : xT 188 118 = oGoto 137 := rfl
theorem c188_121 : xT 188 121 = oAld 0 122 := rfl
theorem c188_122 : xT 188 122 = oGetp 12 57 125 := rfl
theorem c188_125 : xT 188 125 = oIld 3 126 := rfl
theorem c188_126 : xT 188 126 = oPush (.int (1)) 127 := rfl
theorem c188_127 : xT 188 127 = oBin (fun x y => x - y) 128 := rfl
theorem c188_128 : xT 188 128 = oAldi 20 129 := rfl
theorem c188_129 : xT 188 129 = oIf (fun x => x = 0) 132 136 := rfl
theorem c188_132 : xT 188 132 = oPush (.int (1)) 133 := rfl
theorem c188_133 : xT 188 133 = oGoto 137 := rfl
theorem c188_136 : xT 188 136 = oPush (.int (0)) 137 := rfl
theorem c188_137 : xT 188 137 = oTr [0, 2, 3, 4] (oAsti 20 (fun x => x) 138) := rfl
theorem c188_138 : xT 188 138 = oGoto 172 := rfl
theorem c188_141 : xT 188 141 = oIinc 3 (-1) 144 6 := rfl
theorem c188_144 : xT 188 144 = oAld 0 145 := rfl
theorem c188_145 : xT 188 145 = oGetp 12 57 148 := rfl
theorem c188_148 : xT 188 148 = oIld 3 149 := rfl
theorem c188_149 : xT 188 149 = oPush (.int (1)) 150 := rfl
theorem c188_150 : xT 188 150 = oBin (fun x y => x - y) 151 := rfl
theorem c188_151 : xT 188 151 = oAld 0 152 := rfl
theorem c188_152 : xT 188 152 = oIld 5 154 := rfl
theorem c188_154 : xT 188 154 = oAld 0 155 := rfl
theorem c188_155 : xT 188 155 = oGetp 12 57 158 := rfl
theorem c188_158 : xT 188 158 = oIld 3 159 := rfl
theorem c188_159 : xT 188 159 = oPush (.int (1)) 160 := rfl
theorem c188_160 : xT 188 160 = oBin (fun x y => x - y) 161 := rfl
theorem c188_161 : xT 188 161 = oAldi 20 162 := rfl
theorem c188_162 : xT 188 162 = oAld 0 163 := rfl
theorem c188_163 : xT 188 163 = oGetp 12 57 166 := rfl
theorem c188_166 : xT 188 166 = oIld 3 167 := rfl
theorem c188_167 : xT 188 167 = oAldi 20 168 := rfl
theorem c188_168 : xT 188 168 = oCallV 13 189 4 171 := rfl
theorem c188_171 : xT 188 171 = oAsti 20 (fun x => x) 172 := rfl
theorem c188_172 : xT 188 172 = oTr [0, 2, 3, 4] (oIinc 4 (1) 175 6) := rfl
theorem c188_175 : xT 188 175 = oGoto 14 := rfl
theorem c188_178 : xT 188 178 = oAld 0 179 := rfl
theorem c188_179 : xT 188 179 = oGetp 12 57 182 := rfl
theorem c188_182 : xT 188 182 = oPush (.int (0)) 183 := rfl
theorem c188_183 : xT 188 183 = oAldi 20 184 := rfl
theorem c188_184 : xT 188 184 = oRi (fun _ => True) := rfl
theorem c189_0 : xT 189 0 = oIld 1 1 := rfl
theorem c189_1 : xT 189 1 = oSw [(-7, 98), (-6, 94), (-5, 83), (-4, 72), (-3, 102), (-2, 58), (-1, 44)] 102 := rfl
theorem c189_44 : xT 189 44 = oIld 2 45 := rfl
theorem c189_45 : xT 189 45 = oIf (fun x => x = 0) 48 52 := rfl
theorem c189_48 : xT 189 48 = oIld 3 49 := rfl
theorem c189_49 : xT 189 49 = oIf (fun x => x = 0) 56 52 := rfl
theorem c189_52 : xT 189 52 = oTr [] (oPush (.int (1)) 53) := rfl
theorem c189_53 : xT 189 53 = oGoto 57 := rfl
theorem c189_56 : xT 189 56 = oPush (.int (0)) 57 := rfl
theorem c189_57 : xT 189 57 = oTr [] (oRi (fun _ => True)) := rfl
theorem c189_58 : xT 189 58 = oIld 2 59 := rfl
theorem c189_59 : xT 189 59 = oIf (fun x => x = 0) 70 62 := rfl
theorem c189_62 : xT 189 62 = oIld 3 63 := rfl
theorem c189_63 : xT 189 63 = oIf (fun x => x = 0) 70 66 := rfl
theorem c189_66 : xT 189 66 = oPush (.int (1)) 67 := rfl
theorem c189_67 : xT 189 67 = oGoto 71 := rfl
theorem c189_70 : xT 189 70 = oTr [] (oPush (.int (0)) 71) := rfl
theorem c189_71 : xT 189 71 = oTr [] (oRi (fun _ => True)) := rfl
theorem c189_72 : xT 189 72 = oIld 2 73 := rfl
theorem c189_73 : xT 189 73 = oIld 3 74 := rfl
theorem c189_74 : xT 189 74 = oIcmp (fun x y => y ≤ x) 81 77 := rfl
theorem c189_77 : xT 189 77 = oPush (.int (1)) 78 := rfl
theorem c189_78 : xT 189 78 = oGoto 82 := rfl
theorem c189_81 : xT 189 81 = oPush (.int (0)) 82 := rfl
theorem c189_82 : xT 189 82 = oTr [] (oRi (fun _ => True)) := rfl
theorem c189_83 : xT 189 83 = oIld 2 84 := rfl
theorem c189_84 : xT 189 84 = oIld 3 85 := rfl
theorem c189_85 : xT 189 85 = oIcmp (fun x y => x = y) 88 92 := rfl
theorem c189_88 : xT 189 88 = oPush (.int (1)) 89 := rfl
theorem c189_89 : xT 189 89 = oGoto 93 := rfl
theorem c189_92 : xT 189 92 = oPush (.int (0)) 93 := rfl
theorem c189_93 : xT 189 93 = oTr [] (oRi (fun _ => True)) := rfl
theorem c189_94 : xT 189 94 = oIld 2 95 := rfl
theorem c189_95 : xT 189 95 = oIld 3 96 := rfl
theorem c189_96 : xT 189 96 = oBin (fun x y => x + y) 97 := rfl
theorem c189_97 : xT 189 97 = oRi (fun _ => True) := rfl
theorem c189_98 : xT 189 98 = oIld 2 99 := rfl
theorem c189_99 : xT 189 99 = oIld 3 100 := rfl
theorem c189_100 : xT 189 100 = oBin (fun x y => x - y) 101 := rfl
theorem c189_101 : xT 189 101 = oRi (fun _ => True) := rfl
theorem c189_102 : xT 189 102 = oIld 2 103 := rfl
theorem c189_103 : xT 189 103 = oIld 3 104 := rfl
theorem c189_104 : xT 189 104 = oBin (fun x y => x * y) 105 := rfl
theorem c189_105 : xT 189 105 = oRi (fun _ => True) := rfl
theorem c190_0 : xT 190 0 = oAld 0 1 := rfl
theorem c190_1 : xT 190 1 = oIld 1 2 := rfl
theorem c190_2 : xT 190 2 = oCallV 13 147 2 5 := rfl
theorem c190_5 : xT 190 5 = oIf (fun x => x = 0) 8 11 := rfl
theorem c190_8 : xT 190 8 = oPush (.int (-2)) 10 := rfl
theorem c190_10 : xT 190 10 = oRi (fun _ => True) := rfl
theorem c190_11 : xT 190 11 = oAld 0 12 := rfl
theorem c190_12 : xT 190 12 = oGeti 12 2 15 := rfl
theorem c190_15 : xT 190 15 = oIf (fun x => x = 0) 27 18 := rfl
theorem c190_18 : xT 190 18 = oAld 0 19 := rfl
theorem c190_19 : xT 190 19 = oIld 1 20 := rfl
theorem c190_20 : xT 190 20 = oPush (.int (0)) 21 := rfl
theorem c190_21 : xT 190 21 = oCallV 13 149 3 24 := rfl
theorem c190_24 : xT 190 24 = oIf (fun x => x = 0) 27 30 := rfl
theorem c190_27 : xT 190 27 = oTr [] (oPush (.int (-3)) 29) := rfl
theorem c190_29 : xT 190 29 = oRi (fun _ => True) := rfl
theorem c190_30 : xT 190 30 = oAld 0 31 := rfl
theorem c190_31 : xT 190 31 = oIld 1 32 := rfl
theorem c190_32 : xT 190 32 = oCallV 13 191 2 35 := rfl
theorem c190_35 : xT 190 35 = oIst 2 36 3 := rfl
theorem c190_36 : xT 190 36 = oIld 2 37 := rfl
theorem c190_37 : xT 190 37 = oPush (.int (1000000)) 39 := rfl
theorem c190_39 : xT 190 39 = oIcmp (fun x y => x = y) 42 46 := rfl
theorem c190_42 : xT 190 42 = oPush (.int (-1)) 43 := rfl
theorem c190_43 : xT 190 43 = oGoto 47 := rfl
theorem c190_46 : xT 190 46 = oIld 2 47 := rfl
theorem c190_47 : xT 190 47 = oTr [] (oRi (fun _ => True)) := rfl
theorem c191_0 : xT 191 0 = oAld 0 1 := rfl
theorem c191_1 : xT 191 1 = oIld 1 2 := rfl
theorem c191_2 : xT 191 2 = oPush (.int (0)) 3 := rfl
theorem c191_3 : xT 191 3 = oCallV 13 149 3 6 := rfl
theorem c191_6 : xT 191 6 = oIf (fun x => x = 0) 9 12 := rfl
theorem c191_9 : xT 191 9 = oPush (.int (1000000)) 11 := rfl
theorem c191_11 : xT 191 11 = oRi (fun _ => True) := rfl
theorem c191_12 : xT 191 12 = oAld 0 13 := rfl
theorem c191_13 : xT 191 13 = oGetp 12 10 16 := rfl
theorem c191_16 : xT 191 16 = oPush (.int (4)) 17 := rfl
theorem c191_17 : xT 191 17 = oPush (.int (9999)) 20 := rfl
theorem c191_20 : xT 191 20 = oAsti 20 (fun x => x) 21 := rfl
theorem c191_21 : xT 191 21 = oAld 0 22 := rfl
theorem c191_22 : xT 191 22 = oGetp 12 11 25 := rfl
theorem c191_25 : xT 191 25 = oPush (.int (4)) 26 := rfl
theorem c191_26 : xT 191 26 = oPush (.int (0)) 27 := rfl
theorem c191_27 : xT 191 27 = oAsti 20 (fun x => x) 28 := rfl
theorem c191_28 : xT 191 28 = oAld 0 29 := rfl
theorem c191_29 : xT 191 29 = oIld 1 30 := rfl
theorem c191_30 : xT 191 30 = oPush (.int (4)) 31 := rfl
theorem c191_31 : xT 191 31 = oPush (.int (0)) 32 := rfl
theorem c191_32 : xT 191 32 = oCallV 13 151 4 35 := rfl
theorem c191_35 : xT 191 35 = oRi (fun _ => True) := rfl
set_option maxRecDepth 20000 in
theorem c192_0 : xT 192 0 = oAld 0 1 := rfl
set_option maxRecDepth 20000 in
theorem c192_1 : xT 192 1 = oIld 1 2 := rfl
set_option maxRecDepth 20000 in
theorem c192_2 : xT 192 2 = oPush (.int (0)) 3 := rfl
set_option maxRecDepth 20000 in
theorem c192_3 : xT 192 3 = oPush (.int (1)) 4 := rfl
set_option maxRecDepth 20000 in
theorem c192_4 : xT 192 4 = oAld 0 5 := rfl
set_option maxRecDepth 20000 in
theorem c192_5 : xT 192 5 = oGeti 12 13 8 := rfl
set_option maxRecDepth 20000 in
theorem c192_8 : xT 192 8 = oBin (fun x y => x <<< (y &&& 31)) 9 := rfl
set_option maxRecDepth 20000 in
theorem c192_9 : xT 192 9 = oPush (.int (1)) 10 := rfl
set_option maxRecDepth 20000 in
theorem c192_10 : xT 192 10 = oBin (fun x y => x - y) 11 := rfl
set_option maxRecDepth 20000 in
theorem c192_11 : xT 192 11 = oCallV 13 129 4 14 := rfl
set_option maxRecDepth 20000 in
theorem c192_14 : xT 192 14 = oIf (fun x => x = 0) 17 20 := rfl
set_option maxRecDepth 20000 in
theorem c192_17 : xT 192 17 = oPush (.int (-2)) 19 := rfl
set_option maxRecDepth 20000 in
theorem c192_19 : xT 192 19 = oRi (fun _ => True) := rfl
set_option maxRecDepth 20000 in
theorem c192_20 : xT 192 20 = oAld 0 21 := rfl
set_option maxRecDepth 20000 in
theorem c192_21 : xT 192 21 = oGeti 12 2 24 := rfl
set_option maxRecDepth 20000 in
theorem c192_24 : xT 192 24 = oIf (fun x => x = 0) 27 30 := rfl
set_option maxRecDepth 20000 in
theorem c192_27 : xT 192 27 = oPush (.int (-3)) 29 := rfl
set_option maxRecDepth 20000 in
theorem c192_29 : xT 192 29 = oRi (fun _ => True) := rfl
set_option maxRecDepth 20000 in
theorem c192_30 : xT 192 30 = oPush (.int (1)) 31 := rfl
set_option maxRecDepth 20000 in
theorem c192_31 : xT 192 31 = oIst 2 32 7 := rfl
set_option maxRecDepth 20000 in
theorem c192_32 : xT 192 32 = oPush (.int (0)) 33 := rfl
set_option maxRecDepth 20000 in
theorem c192_33 : xT 192 33 = oIst 3 34 7 := rfl
set_option maxRecDepth 20000 in
theorem c192_34 : xT 192 34 = oTr [0, 1, 2, 3] (oIld 3 35) := rfl
set_option maxRecDepth 20000 in
theorem c192_35 : xT 192 35 = oAld 0 36 := rfl
set_option maxRecDepth 20000 in
theorem c192_36 : xT 192 36 = oGeti 12 13 39 := rfl
set_option maxRecDepth 20000 in
theorem c192_39 : xT 192 39 = oIcmp (fun x y => y ≤ x) 77 42 := rfl
set_option maxRecDepth 20000 in
theorem c192_42 : xT 192 42 = oAld 0 43 := rfl
set_option maxRecDepth 20000 in
theorem c192_43 : xT 192 43 = oGetp 12 58 46 := rfl
set_option maxRecDepth 20000 in
theorem c192_46 : xT 192 46 = oIld 3 47 := rfl
set_option maxRecDepth 20000 in
theorem c192_47 : xT 192 47 = oIld 1 48 := rfl
set_option maxRecDepth 20000 in
theorem c192_48 : xT 192 48 = oIld 3 49 := rfl
set_option maxRecDepth 20000 in
theorem c192_49 : xT 192 49 = oBin (fun x y => x >>> (y &&& 31)) 50 := rfl
set_option maxRecDepth 20000 in
theorem c192_50 : xT 192 50 = oPush (.int (1)) 51 := rfl
set_option maxRecDepth 20000 in
theorem c192_51 : xT 192 51 = oBin (fun x y => x &&& y) 52 := rfl
set_option maxRecDepth 20000 in
theorem c192_52 : xT 192 52 = oPush (.int (1)) 53 := rfl
set_option maxRecDepth 20000 in
theorem c192_53 : xT 192 53 = oIcmp (fun x y => x = y) 56 64 := rfl
set_option maxRecDepth 20000 in
theorem c192_56 : xT 192 56 = oAld 0 57 := rfl
set_option maxRecDepth 20000 in
theorem c192_57 : xT 192 57 = oIld 3 58 := rfl
set_option maxRecDepth 20000 in
theorem c192_58 : xT 192 58 = oCallV 13 191 2 61 := rfl
set_option maxRecDepth 20000 in
theorem c192_61 : xT 192 61 = oGoto 66 := rfl
set_option maxRecDepth 20000 in
theorem c192_64 : xT 192 64 = oPush (.int (1000000)) 66 := rfl
set_option maxRecDepth 20000 in
theorem c192_66 : xT 192 66 = oTr [0, 1, 2, 3] (oAsti 20 (fun x => x) 67) := rfl
set_option maxRecDepth 20000 in
theorem c192_67 : xT 192 67 = oIld 2 68 := rfl
set_option maxRecDepth 20000 in
theorem c192_68 : xT 192 68 = oPush (.int (5)) 69 := rfl
set_option maxRecDepth 20000 in
theorem c192_69 : xT 192 69 = oBin (fun x y => x * y) 70 := rfl
set_option maxRecDepth 20000 in
theorem c192_70 : xT 192 70 = oIst 2 71 7 := rfl
set_option maxRecDepth 20000 in
theorem c192_71 : xT 192 71 = oIinc 3 (1) 74 7 := rfl
set_option maxRecDepth 20000 in
theorem c192_74 : xT 192 74 = oGoto 34 := rfl
set_option maxRecDepth 20000 in
theorem c192_77 : xT 192 77 = oPush (.int (-1)) 78 := rfl
set_option maxRecDepth 20000 in
theorem c192_78 : xT 192 78 = oIst 3 79 7 := rfl
set_option maxRecDepth 20000 in
theorem c192_79 : xT 192 79 = oPush (.int (0)) 80 := rfl
set_option maxRecDepth 20000 in
theorem c192_80 : xT 192 80 = oIst 4 82 7 := rfl
set_option maxRecDepth 20000 in
theorem c192_82 : xT 192 82 = oPush (.int (0)) 83 := rfl
set_option maxRecDepth 20000 in
theorem c192_83 : xT 192 83 = oIst 5 85 7 := rfl
set_option maxRecDepth 20000 in
theorem c192_85 : xT 192 85 = oTr [0, 1, 2, 3, 4, 5] (oIld 5 87) := rfl
set_option maxRecDepth 20000 in
theorem c192_87 : xT 192 87 = oIld 2 88 := rfl
set_option maxRecDepth 20000 in
theorem c192_88 : xT 192 88 = oIcmp (fun x y => y ≤ x) 200 91 := rfl
set_option maxRecDepth 20000 in
theorem c192_91 : xT 192 91 = oAld 0 92 := rfl
set_option maxRecDepth 20000 in
theorem c192_92 : xT 192 92 = oIld 5 94 := rfl
set_option maxRecDepth 20000 in
theorem c192_94 : xT 192 94 = oIld 1 95 := rfl
set_option maxRecDepth 20000 in
theorem c192_95 : xT 192 95 = oCallV 13 193 3 98 := rfl
set_option maxRecDepth 20000 in
theorem c192_98 : xT 192 98 = oIf (fun x => x = 0) 194 101 := rfl
set_option maxRecDepth 20000 in
theorem c192_101 : xT 192 101 = oAld 0 102 := rfl
set_option maxRecDepth 20000 in
theorem c192_102 : xT 192 102 = oGeti 12 62 105 := rfl
set_option maxRecDepth 20000 in
theorem c192_105 : xT 192 105 = oIld 3 106 := rfl
set_option maxRecDepth 20000 in
theorem c192_106 : xT 192 106 = oIcmp (fun x y => x < y) 194 109 := rfl
set_option maxRecDepth 20000 in
theorem c192_109 : xT 192 109 = oAld 0 110 := rfl
set_option maxRecDepth 20000 in
theorem c192_110 : xT 192 110 = oGeti 12 62 113 := rfl
set_option maxRecDepth 20000 in
theorem c192_113 : xT 192 113 = oIld 3 114 := rfl
set_option maxRecDepth 20000 in
theorem c192_114 : xT 192 114 = oIcmp (fun x y => x = y) 117 129 := rfl
set_option maxRecDepth 20000 in
theorem c192_117 : xT 192 117 = oAld 0 118 := rfl
set_option maxRecDepth 20000 in
theorem c192_118 : xT 192 118 = oGeti 12 63 121 := rfl
set_option maxRecDepth 20000 in
theorem c192_121 : xT 192 121 = oIld 4 123 := rfl
set_option maxRecDepth 20000 in
theorem c192_123 : xT 192 123 = oIcmp (fun x y => x < y) 129 126 := rfl
set_option maxRecDepth 20000 in
theorem c192_126 : xT 192 126 = oGoto 194 := rfl
set_option maxRecDepth 20000 in
theorem c192_129 : xT 192 129 = oTr [0, 1, 2, 5] (oAld 0 130) := rfl
set_option maxRecDepth 20000 in
theorem c192_130 : xT 192 130 = oGeti 12 62 133 := rfl
set_option maxRecDepth 20000 in
theorem c192_133 : xT 192 133 = oIst 3 134 7 := rfl
set_option maxRecDepth 20000 in
theorem c192_134 : xT 192 134 = oAld 0 135 := rfl
set_option maxRecDepth 20000 in
theorem c192_135 : xT 192 135 = oGeti 12 63 138 := rfl
set_option maxRecDepth 20000 in
theorem c192_138 : xT 192 138 = oIst 4 140 7 := rfl
set_option maxRecDepth 20000 in
theorem c192_140 : xT 192 140 = oPush (.int (0)) 141 := rfl
set_option maxRecDepth 20000 in
theorem c192_141 : xT 192 141 = oIst 6 143 7 := rfl
set_option maxRecDepth 20000 in
theorem c192_143 : xT 192 143 = oTr [0, 1, 2, 3, 4, 5, 6] (oIld 6 145) := rfl
set_option maxRecDepth 20000 in
theorem c192_145 : xT 192 145 = oPush (.int (8)) 147 := rfl
set_option maxRecDepth 20000 in
theorem c192_147 : xT 192 147 = oIcmp (fun x y => y ≤ x) 194 150 := rfl
set_option maxRecDepth 20000 in
theorem c192_150 : xT 192 150 = oAld 0 151 := rfl
set_option maxRecDepth 20000 in
theorem c192_151 : xT 192 151 = oGetp 12 60 154 := rfl
set_option maxRecDepth 20000 in
theorem c192_154 : xT 192 154 = oIld 6 156 := rfl
set_option maxRecDepth 20000 in
theorem c192_156 : xT 192 156 = oIld 6 158 := rfl
set_option maxRecDepth 20000 in
theorem c192_158 : xT 192 158 = oAld 0 159 := rfl
set_option maxRecDepth 20000 in
theorem c192_159 : xT 192 159 = oGeti 12 13 162 := rfl
set_option maxRecDepth 20000 in
theorem c192_162 : xT 192 162 = oIcmp (fun x y => y ≤ x) 186 165 := rfl
set_option maxRecDepth 20000 in
theorem c192_165 : xT 192 165 = oAld 0 166 := rfl
set_option maxRecDepth 20000 in
theorem c192_166 : xT 192 166 = oGetp 12 59 169 := rfl
set_option maxRecDepth 20000 in
theorem c192_169 : xT 192 169 = oIld 6 171 := rfl
set_option maxRecDepth 20000 in
theorem c192_171 : xT 192 171 = oAldi 20 172 := rfl
set_option maxRecDepth 20000 in
theorem c192_172 : xT 192 172 = oPush (.int (4)) 173 := rfl
set_option maxRecDepth 20000 in
theorem c192_173 : xT 192 173 = oIcmp (fun x y => y ≤ x) 186 176 := rfl
set_option maxRecDepth 20000 in
theorem c192_176 : xT 192 176 = oAld 0 177 := rfl
set_option maxRecDepth 20000 in
theorem c192_177 : xT 192 177 = oGetp 12 59 180 := rfl
set_option maxRecDepth 20000 in
theorem c192_180 : xT 192 180 = oIld 6 182 := rfl
set_option maxRecDepth 20000 in
theorem c192_182 : xT 192 182 = oAldi 20 183 := rfl
set_option maxRecDepth 20000 in
theorem c192_183 : xT 192 183 = oGoto 187 := rfl
set_option maxRecDepth 20000 in
theorem c192_186 : xT 192 186 = oTr [0, 1, 2, 3, 4, 5, 6] (oPush (.int (-1)) 187) := rfl
set_option maxRecDepth 20000 in
theorem c192_187 : xT 192 187 = oTr [0, 1, 2, 3, 4, 5, 6] (oAsti 20 (fun x => x) 188) := rfl
set_option maxRecDepth 20000 in
theorem c192_188 : xT 192 188 = oIinc 6 (1) 191 7 := rfl
set_option maxRecDepth 20000 in
theorem c192_191 : xT 192 191 = oGoto 143 := rfl
set_option maxRecDepth 20000 in
theorem c192_194 : xT 192 194 = oTr [0, 1, 2, 3, 4, 5] (oIinc 5 (1) 197 7) := rfl
set_option maxRecDepth 20000 in
theorem c192_197 : xT 192 197 = oGoto 85 := rfl
set_option maxRecDepth 20000 in
theorem c192_200 : xT 192 200 = oIld 3 201 := rfl
set_option maxRecDepth 20000 in
theorem c192_201 : xT 192 201 = oRi (fun _ => True) := rfl
set_option maxRecDepth 20000 in
theorem c193_0 : xT 193 0 = oIld 1 1 := rfl
set_option maxRecDepth 20000 in
theorem c193_1 : xT 193 1 = oIst 3 2 7 := rfl
set_option maxRecDepth 20000 in
theorem c193_2 : xT 193 2 = oAld 0 3 := rfl
set_option maxRecDepth 20000 in
theorem c193_3 : xT 193 3 = oGeti 12 13 6 := rfl
set_option maxRecDepth 20000 in
theorem c193_6 : xT 193 6 = oPush (.int (1)) 7 := rfl
set_option maxRecDepth 20000 in
theorem c193_7 : xT 193 7 = oBin (fun x y => x - y) 8 := rfl
set_option maxRecDepth 20000 in
theorem c193_8 : xT 193 8 = oIst 4 10 7 := rfl
set_option maxRecDepth 20000 in
theorem c193_10 : xT 193 10 = oTr [0, 2, 3, 4] (oIld 4 12) := rfl
set_option maxRecDepth 20000 in
theorem c193_12 : xT 193 12 = oIf (fun x => x < 0) 35 15 := rfl
set_option maxRecDepth 20000 in
theorem c193_15 : xT 193 15 = oAld 0 16 := rfl
set_option maxRecDepth 20000 in
theorem c193_16 : xT 193 16 = oGetp 12 59 19 := rfl
set_option maxRecDepth 20000 in
theorem c193_19 : xT 193 19 = oIld 4 21 := rfl
set_option maxRecDepth 20000 in
theorem c193_21 : xT 193 21 = oIld 3 22 := rfl
set_option maxRecDepth 20000 in
theorem c193_22 : xT 193 22 = oPush (.int (5)) 23 := rfl
set_option maxRecDepth 20000 in
theorem c193_23 : xT 193 23 = oDiv (fun x y => x - x / y * y) 24 := rfl
set_option maxRecDepth 20000 in
theorem c193_24 : xT 193 24 = oAsti 20 (fun x => x) 25 := rfl
set_option maxRecDepth 20000 in
theorem c193_25 : xT 193 25 = oIld 3 26 := rfl
set_option maxRecDepth 20000 in
theorem c193_26 : xT 193 26 = oPush (.int (5)) 27 := rfl
set_option maxRecDepth 20000 in
theorem c193_27 : xT 193 27 = oDiv (fun x y => x / y) 28 := rfl
set_option maxRecDepth 20000 in
theorem c193_28 : xT 193 28 = oIst 3 29 7 := rfl
set_option maxRecDepth 20000 in
theorem c193_29 : xT 193 29 = oIinc 4 (-1) 32 7 := rfl
set_option maxRecDepth 20000 in
theorem c193_32 : xT 193 32 = oGoto 10 := rfl
set_option maxRecDepth 20000 in
theorem c193_35 : xT 193 35 = oPush (.int (0)) 36 := rfl
set_option maxRecDepth 20000 in
theorem c193_36 : xT 193 36 = oIst 4 38 7 := rfl
set_option maxRecDepth 20000 in
theorem c193_38 : xT 193 38 = oTr [0, 2, 4] (oIld 4 40) := rfl
set_option maxRecDepth 20000 in
theorem c193_40 : xT 193 40 = oPush (.int (4)) 41 := rfl
set_option maxRecDepth 20000 in
theorem c193_41 : xT 193 41 = oIcmp (fun x y => y ≤ x) 87 44 := rfl
set_option maxRecDepth 20000 in
theorem c193_44 : xT 193 44 = oAld 0 45 := rfl
set_option maxRecDepth 20000 in
theorem c193_45 : xT 193 45 = oGetp 12 61 48 := rfl
set_option maxRecDepth 20000 in
theorem c193_48 : xT 193 48 = oIld 4 50 := rfl
set_option maxRecDepth 20000 in
theorem c193_50 : xT 193 50 = oIld 4 52 := rfl
set_option maxRecDepth 20000 in
theorem c193_52 : xT 193 52 = oAld 0 53 := rfl
set_option maxRecDepth 20000 in
theorem c193_53 : xT 193 53 = oGeti 12 8 56 := rfl
set_option maxRecDepth 20000 in
theorem c193_56 : xT 193 56 = oIcmp (fun x y => y ≤ x) 79 59 := rfl
set_option maxRecDepth 20000 in
theorem c193_59 : xT 193 59 = oAld 0 60 := rfl
set_option maxRecDepth 20000 in
theorem c193_60 : xT 193 60 = oGetp 12 9 63 := rfl
set_option maxRecDepth 20000 in
theorem c193_63 : xT 193 63 = oIld 4 65 := rfl
set_option maxRecDepth 20000 in
theorem c193_65 : xT 193 65 = oAldi 20 66 := rfl
set_option maxRecDepth 20000 in
theorem c193_66 : xT 193 66 = oIf (fun x => x = 0) 69 79 := rfl
set_option maxRecDepth 20000 in
theorem c193_69 : xT 193 69 = oAld 0 70 := rfl
set_option maxRecDepth 20000 in
theorem c193_70 : xT 193 70 = oGetp 12 10 73 := rfl
set_option maxRecDepth 20000 in
theorem c193_73 : xT 193 73 = oIld 4 75 := rfl
set_option maxRecDepth 20000 in
theorem c193_75 : xT 193 75 = oAldi 20 76 := rfl
set_option maxRecDepth 20000 in
theorem c193_76 : xT 193 76 = oGoto 80 := rfl
set_option maxRecDepth 20000 in
theorem c193_79 : xT 193 79 = oTr [0, 2, 4] (oPush (.int (0)) 80) := rfl
set_option maxRecDepth 20000 in
theorem c193_80 : xT 193 80 = oTr [0, 2, 4] (oAsti 20 (fun x => x) 81) := rfl
set_option maxRecDepth 20000 in
theorem c193_81 : xT 193 81 = oIinc 4 (1) 84 7 := rfl
set_option maxRecDepth 20000 in
theorem c193_84 : xT 193 84 = oGoto 38 := rfl
set_option maxRecDepth 20000 in
theorem c193_87 : xT 193 87 = oAld 0 88 := rfl
set_option maxRecDepth 20000 in
theorem c193_88 : xT 193 88 = oPush (.int (0)) 89 := rfl
set_option maxRecDepth 20000 in
theorem c193_89 : xT 193 89 = oPuti 12 62 92 := rfl
set_option maxRecDepth 20000 in
theorem c193_92 : xT 193 92 = oPush (.int (0)) 93 := rfl
set_option maxRecDepth 20000 in
theorem c193_93 : xT 193 93 = oIst 4 95 7 := rfl
set_option maxRecDepth 20000 in
theorem c193_95 : xT 193 95 = oPush (.int (0)) 96 := rfl
set_option maxRecDepth 20000 in
theorem c193_96 : xT 193 96 = oIst 5 98 7 := rfl
set_option maxRecDepth 20000 in
theorem c193_98 : xT 193 98 = oTr [0, 2, 4, 5] (oIld 5 100) := rfl
set_option maxRecDepth 20000 in
theorem c193_100 : xT 193 100 = oAld 0 101 := rfl
set_option maxRecDepth 20000 in
theorem c193_101 : xT 193 101 = oGeti 12 13 104 := rfl
set_option maxRecDepth 20000 in
theorem c193_104 : xT 193 104 = oIcmp (fun x y => y ≤ x) 195 107 := rfl
set_option maxRecDepth 20000 in
theorem c193_107 : xT 193 107 = oAld 0 108 := rfl
set_option maxRecDepth 20000 in
theorem c193_108 : xT 193 108 = oGetp 12 59 111 := rfl
set_option maxRecDepth 20000 in
theorem c193_111 : xT 193 111 = oIld 5 113 := rfl
set_option maxRecDepth 20000 in
theorem c193_113 : xT 193 113 = oAldi 20 114 := rfl
set_option maxRecDepth 20000 in
theorem c193_114 : xT 193 114 = oIst 6 116 7 := rfl
set_option maxRecDepth 20000 in
theorem c193_116 : xT 193 116 = oIld 6 118 := rfl
set_option maxRecDepth 20000 in
theorem c193_118 : xT 193 118 = oPush (.int (4)) 119 := rfl
set_option maxRecDepth 20000 in
theorem c193_119 : xT 193 119 = oIcmp (fun x y => x = y) 122 125 := rfl
set_option maxRecDepth 20000 in
theorem c193_122 : xT 193 122 = oGoto 189 := rfl
set_option maxRecDepth 20000 in
theorem c193_125 : xT 193 125 = oIld 2 126 := rfl
set_option maxRecDepth 20000 in
theorem c193_126 : xT 193 126 = oIld 5 128 := rfl
set_option maxRecDepth 20000 in
theorem c193_128 : xT 193 128 = oBin (fun x y => x >>> (y &&& 31)) 129 := rfl
set_option maxRecDepth 20000 in
theorem c193_129 : xT 193 129 = oPush (.int (1)) 130 := rfl
set_option maxRecDepth 20000 in
theorem c193_130 : xT 193 130 = oBin (fun x y => x &&& y) 131 := rfl
set_option maxRecDepth 20000 in
theorem c193_131 : xT 193 131 = oIf (fun x => x = 0) 151 134 := rfl
set_option maxRecDepth 20000 in
theorem c193_134 : xT 193 134 = oAld 0 135 := rfl
set_option maxRecDepth 20000 in
theorem c193_135 : xT 193 135 = oGetp 12 58 138 := rfl
set_option maxRecDepth 20000 in
theorem c193_138 : xT 193 138 = oIld 5 140 := rfl
set_option maxRecDepth 20000 in
theorem c193_140 : xT 193 140 = oAldi 20 141 := rfl
set_option maxRecDepth 20000 in
theorem c193_141 : xT 193 141 = oAld 0 142 := rfl
set_option maxRecDepth 20000 in
theorem c193_142 : xT 193 142 = oGetp 12 61 145 := rfl
set_option maxRecDepth 20000 in
theorem c193_145 : xT 193 145 = oIld 6 147 := rfl
set_option maxRecDepth 20000 in
theorem c193_147 : xT 193 147 = oAldi 20 148 := rfl
set_option maxRecDepth 20000 in
theorem c193_148 : xT 193 148 = oIcmp (fun x y => x ≤ y) 153 151 := rfl
set_option maxRecDepth 20000 in
theorem c193_151 : xT 193 151 = oTr [] (oPush (.int (0)) 152) := rfl
set_option maxRecDepth 20000 in
theorem c193_152 : xT 193 152 = oRi (fun x => x = 0 ∨ x = 1) := rfl
set_option maxRecDepth 20000 in
theorem c193_153 : xT 193 153 = oAld 0 154 := rfl
set_option maxRecDepth 20000 in
theorem c193_154 : xT 193 154 = oGetp 12 61 157 := rfl
set_option maxRecDepth 20000 in
theorem c193_157 : xT 193 157 = oIld 6 159 := rfl
set_option maxRecDepth 20000 in
theorem c193_159 : xT 193 159 = oDup2 160 := rfl
set_option maxRecDepth 20000 in
theorem c193_160 : xT 193 160 = oAldi 20 161 := rfl
set_option maxRecDepth 20000 in
theorem c193_161 : xT 193 161 = oAld 0 162 := rfl
set_option maxRecDepth 20000 in
theorem c193_162 : xT 193 162 = oGetp 12 58 165 := rfl
set_option maxRecDepth 20000 in
theorem c193_165 : xT 193 165 = oIld 5 167 := rfl
set_option maxRecDepth 20000 in
theorem c193_167 : xT 193 167 = oAldi 20 168 := rfl
set_option maxRecDepth 20000 in
theorem c193_168 : xT 193 168 = oBin (fun x y => x - y) 169 := rfl
set_option maxRecDepth 20000 in
theorem c193_169 : xT 193 169 = oAsti 20 (fun x => x) 170 := rfl
set_option maxRecDepth 20000 in
theorem c193_170 : xT 193 170 = oAld 0 171 := rfl
set_option maxRecDepth 20000 in
theorem c193_171 : xT 193 171 = oDup 172 := rfl
set_option maxRecDepth 20000 in
theorem c193_172 : xT 193 172 = oGeti 12 62 175 := rfl
set_option maxRecDepth 20000 in
theorem c193_175 : xT 193 175 = oPush (.int (1)) 176 := rfl
set_option maxRecDepth 20000 in
theorem c193_176 : xT 193 176 = oBin (fun x y => x + y) 177 := rfl
set_option maxRecDepth 20000 in
theorem c193_177 : xT 193 177 = oPuti 12 62 180 := rfl
set_option maxRecDepth 20000 in
theorem c193_180 : xT 193 180 = oIld 4 182 := rfl
set_option maxRecDepth 20000 in
theorem c193_182 : xT 193 182 = oPush (.int (1)) 183 := rfl
set_option maxRecDepth 20000 in
theorem c193_183 : xT 193 183 = oIld 6 185 := rfl
set_option maxRecDepth 20000 in
theorem c193_185 : xT 193 185 = oBin (fun x y => x <<< (y &&& 31)) 186 := rfl
set_option maxRecDepth 20000 in
theorem c193_186 : xT 193 186 = oBin (fun x y => x ||| y) 187 := rfl
set_option maxRecDepth 20000 in
theorem c193_187 : xT 193 187 = oIst 4 189 7 := rfl
set_option maxRecDepth 20000 in
theorem c193_189 : xT 193 189 = oTr [0, 2, 4, 5] (oIinc 5 (1) 192 7) := rfl
set_option maxRecDepth 20000 in
theorem c193_192 : xT 193 192 = oGoto 98 := rfl
set_option maxRecDepth 20000 in
theorem c193_195 : xT 193 195 = oAld 0 196 := rfl
set_option maxRecDepth 20000 in
theorem c193_196 : xT 193 196 = oIld 4 198 := rfl
set_option maxRecDepth 20000 in
theorem c193_198 : xT 193 198 = oPush (.int (1)) 199 := rfl
set_option maxRecDepth 20000 in
theorem c193_199 : xT 193 199 = oBin (fun x y => x &&& y) 200 := rfl
set_option maxRecDepth 20000 in
theorem c193_200 : xT 193 200 = oIld 4 202 := rfl
set_option maxRecDepth 20000 in
theorem c193_202 : xT 193 202 = oPush (.int (1)) 203 := rfl
set_option maxRecDepth 20000 in
theorem c193_203 : xT 193 203 = oBin (fun x y => x >>> (y &&& 31)) 204 := rfl
set_option maxRecDepth 20000 in
theorem c193_204 : xT 193 204 = oPush (.int (1)) 205 := rfl
set_option maxRecDepth 20000 in
theorem c193_205 : xT 193 205 = oBin (fun x y => x &&& y) 206 := rfl
set_option maxRecDepth 20000 in
theorem c193_206 : xT 193 206 = oBin (fun x y => x + y) 207 := rfl
set_option maxRecDepth 20000 in
theorem c193_207 : xT 193 207 = oIld 4 209 := rfl
set_option maxRecDepth 20000 in
theorem c193_209 : xT 193 209 = oPush (.int (2)) 210 := rfl
set_option maxRecDepth 20000 in
theorem c193_210 : xT 193 210 = oBin (fun x y => x >>> (y &&& 31)) 211 := rfl
set_option maxRecDepth 20000 in
theorem c193_211 : xT 193 211 = oPush (.int (1)) 212 := rfl
set_option maxRecDepth 20000 in
theorem c193_212 : xT 193 212 = oBin (fun x y => x &&& y) 213 := rfl
set_option maxRecDepth 20000 in
theorem c193_213 : xT 193 213 = oBin (fun x y => x + y) 214 := rfl
set_option maxRecDepth 20000 in
theorem c193_214 : xT 193 214 = oIld 4 216 := rfl
set_option maxRecDepth 20000 in
theorem c193_216 : xT 193 216 = oPush (.int (3)) 217 := rfl
set_option maxRecDepth 20000 in
theorem c193_217 : xT 193 217 = oBin (fun x y => x >>> (y &&& 31)) 218 := rfl
set_option maxRecDepth 20000 in
theorem c193_218 : xT 193 218 = oPush (.int (1)) 219 := rfl
set_option maxRecDepth 20000 in
theorem c193_219 : xT 193 219 = oBin (fun x y => x &&& y) 220 := rfl
set_option maxRecDepth 20000 in
theorem c193_220 : xT 193 220 = oBin (fun x y => x + y) 221 := rfl
set_option maxRecDepth 20000 in
theorem c193_221 : xT 193 221 = oPuti 12 63 224 := rfl
set_option maxRecDepth 20000 in
theorem c193_224 : xT 193 224 = oPush (.int (1)) 225 := rfl
set_option maxRecDepth 20000 in
theorem c193_225 : xT 193 225 = oRi (fun x => x = 0 ∨ x = 1) := rfl
theorem c194_0 : xT 194 0 = oAld 0 1 := rfl
theorem c194_1 : xT 194 1 = oIld 1 2 := rfl
theorem c194_2 : xT 194 2 = oPush (.int (0)) 3 := rfl
theorem c194_3 : xT 194 3 = oPush (.int (7)) 5 := rfl
theorem c194_5 : xT 194 5 = oCallV 13 129 4 8 := rfl
theorem c194_8 : xT 194 8 = oIf (fun x => x = 0) 20 11 := rfl
theorem c194_11 : xT 194 11 = oAld 0 12 := rfl
theorem c194_12 : xT 194 12 = oGetp 12 60 15 := rfl
theorem c194_15 : xT 194 15 = oIld 1 16 := rfl
theorem c194_16 : xT 194 16 = oAldi 20 17 := rfl
theorem c194_17 : xT 194 17 = oGoto 21 := rfl
theorem c194_20 : xT 194 20 = oPush (.int (-1)) 21 := rfl
theorem c194_21 : xT 194 21 = oTr [] (oRi (fun _ => True)) := rfl
theorem c195_0 : xT 195 0 = oPush (.int (0)) 1 := rfl
theorem c195_1 : xT 195 1 = oIst 2 2 4 := rfl
theorem c195_2 : xT 195 2 = oIld 1 3 := rfl
theorem c195_3 : xT 195 3 = oSw [(0, 44), (1, 49), (2, 54), (3, 59), (4, 64), (5, 69), (6, 74)] 109 := rfl
theorem c195_44 : xT 195 44 = oAld 0 45 := rfl
theorem c195_45 : xT 195 45 = oGeti 12 2 48 := rfl
theorem c195_48 : xT 195 48 = oRi (fun _ => True) := rfl
theorem c195_49 : xT 195 49 = oAld 0 50 := rfl
theorem c195_50 : xT 195 50 = oGeti 12 8 53 := rfl
theorem c195_53 : xT 195 53 = oRi (fun _ => True) := rfl
theorem c195_54 : xT 195 54 = oAld 0 55 := rfl
theorem c195_55 : xT 195 55 = oGeti 12 13 58 := rfl
theorem c195_58 : xT 195 58 = oRi (fun _ => True) := rfl
theorem c195_59 : xT 195 59 = oAld 0 60 := rfl
theorem c195_60 : xT 195 60 = oGeti 12 42 63 := rfl
theorem c195_63 : xT 195 63 = oRi (fun _ => True) := rfl
theorem c195_64 : xT 195 64 = oAld 0 65 := rfl
theorem c195_65 : xT 195 65 = oGeti 12 1 68 := rfl
theorem c195_68 : xT 195 68 = oRi (fun _ => True) := rfl
theorem c195_69 : xT 195 69 = oAld 0 70 := rfl
theorem c195_70 : xT 195 70 = oGeti 12 43 73 := rfl
theorem c195_73 : xT 195 73 = oRi (fun _ => True) := rfl
theorem c195_74 : xT 195 74 = oPush (.int (0)) 75 := rfl
theorem c195_75 : xT 195 75 = oIst 3 76 4 := rfl
theorem c195_76 : xT 195 76 = oTr [0, 2, 3] (oIld 3 77) := rfl
theorem c195_77 : xT 195 77 = oAld 0 78 := rfl
theorem c195_78 : xT 195 78 = oGeti 12 13 81 := rfl
theorem c195_81 : xT 195 81 = oIcmp (fun x y => y ≤ x) 107 84 := rfl
theorem c195_84 : xT 195 84 = oIld 2 85 := rfl
theorem c195_85 : xT 195 85 = oAld 0 86 := rfl
theorem c195_86 : xT 195 86 = oGetp 12 23 89 := rfl
theorem c195_89 : xT 195 89 = oIld 3 90 := rfl
theorem c195_90 : xT 195 90 = oAldi 20 91 := rfl
theorem c195_91 : xT 195 91 = oIf (fun x => x < 0) 98 94 := rfl
theorem c195_94 : xT 195 94 = oPush (.int (1)) 95 := rfl
theorem c195_95 : xT 195 95 = oGoto 99 := rfl
theorem c195_98 : xT 195 98 = oPush (.int (0)) 99 := rfl
theorem c195_99 : xT 195 99 = oTr [0, 3] (oBin (fun x y => x + y) 100) := rfl
theorem c195_100 : xT 195 100 = oIst 2 101 4 := rfl
theorem c195_101 : xT 195 101 = oIinc 3 (1) 104 4 := rfl
theorem c195_104 : xT 195 104 = oGoto 76 := rfl
theorem c195_107 : xT 195 107 = oIld 2 108 := rfl
theorem c195_108 : xT 195 108 = oRi (fun _ => True) := rfl
theorem c195_109 : xT 195 109 = oPush (.int (-2)) 111 := rfl
theorem c195_111 : xT 195 111 = oRi (fun _ => True) := rfl
theorem c196_0 : xT 196 0 = oAld 0 1 := rfl
theorem c196_1 : xT 196 1 = oIld 1 2 := rfl
theorem c196_2 : xT 196 2 = oCallV 13 197 2 5 := rfl
theorem c196_5 : xT 196 5 = oIf (fun x => x = 0) 28 8 := rfl
theorem c196_8 : xT 196 8 = oAld 0 9 := rfl
theorem c196_9 : xT 196 9 = oIld 2 10 := rfl
theorem c196_10 : xT 196 10 = oPush (.int (-1)) 11 := rfl
theorem c196_11 : xT 196 11 = oPush (.int (2)) 12 := rfl
theorem c196_12 : xT 196 12 = oCallV 13 129 4 15 := rfl
theorem c196_15 : xT 196 15 = oIf (fun x => x = 0) 28 18 := rfl
theorem c196_18 : xT 196 18 = oIld 2 19 := rfl
theorem c196_19 : xT 196 19 = oIf (fun x => x < 0) 31 22 := rfl
theorem c196_22 : xT 196 22 = oIld 3 23 := rfl
theorem c196_23 : xT 196 23 = oPush (.int (40)) 25 := rfl
theorem c196_25 : xT 196 25 = oIcmp (fun x y => x ≤ y) 31 28 := rfl
theorem c196_28 : xT 196 28 = oTr [] (oPush (.int (-2)) 30) := rfl
theorem c196_30 : xT 196 30 = oRi (fun _ => True) := rfl
theorem c196_31 : xT 196 31 = oTr [0, 1, 2, 3] (oIld 2 32) := rfl
theorem c196_32 : xT 196 32 = oIf (fun x => x < 0) 42 35 := rfl
theorem c196_35 : xT 196 35 = oIld 3 36 := rfl
theorem c196_36 : xT 196 36 = oIf (fun x => 0 ≤ x) 42 39 := rfl
theorem c196_39 : xT 196 39 = oPush (.int (-14)) 41 := rfl
theorem c196_41 : xT 196 41 = oRi (fun _ => True) := rfl
theorem c196_42 : xT 196 42 = oTr [0, 1, 2, 3] (oAld 0 43) := rfl
theorem c196_43 : xT 196 43 = oGetp 12 64 46 := rfl
theorem c196_46 : xT 196 46 = oIld 1 47 := rfl
theorem c196_47 : xT 196 47 = oIld 2 48 := rfl
theorem c196_48 : xT 196 48 = oAsti 20 (fun x => x) 49 := rfl
theorem c196_49 : xT 196 49 = oAld 0 50 := rfl
theorem c196_50 : xT 196 50 = oGetp 12 65 53 := rfl
theorem c196_53 : xT 196 53 = oIld 1 54 := rfl
theorem c196_54 : xT 196 54 = oIld 2 55 := rfl
theorem c196_55 : xT 196 55 = oIf (fun x => 0 ≤ x) 62 58 := rfl
theorem c196_58 : xT 196 58 = oPush (.int (0)) 59 := rfl
theorem c196_59 : xT 196 59 = oGoto 63 := rfl
theorem c196_62 : xT 196 62 = oIld 3 63 := rfl
theorem c196_63 : xT 196 63 = oTr [0, 1] (oAsti 20 (fun x => x) 64) := rfl
theorem c196_64 : xT 196 64 = oPush (.int (0)) 65 := rfl
theorem c196_65 : xT 196 65 = oIst 4 67 5 := rfl
theorem c196_67 : xT 196 67 = oTr [0, 1, 4] (oIld 4 69) := rfl
theorem c196_69 : xT 196 69 = oPush (.int (40)) 71 := rfl
theorem c196_71 : xT 196 71 = oIcmp (fun x y => y ≤ x) 93 74 := rfl
theorem c196_74 : xT 196 74 = oAld 0 75 := rfl
theorem c196_75 : xT 196 75 = oGetp 12 66 78 := rfl
theorem c196_78 : xT 196 78 = oPush (.int (40)) 80 := rfl
theorem c196_80 : xT 196 80 = oIld 1 81 := rfl
theorem c196_81 : xT 196 81 = oBin (fun x y => x * y) 82 := rfl
theorem c196_82 : xT 196 82 = oIld 4 84 := rfl
theorem c196_84 : xT 196 84 = oBin (fun x y => x + y) 85 := rfl
theorem c196_85 : xT 196 85 = oPush (.int (0)) 86 := rfl
theorem c196_86 : xT 196 86 = oAsti 20 (fun x => x) 87 := rfl
theorem c196_87 : xT 196 87 = oIinc 4 (1) 90 5 := rfl
theorem c196_90 : xT 196 90 = oGoto 67 := rfl
theorem c196_93 : xT 196 93 = oPush (.int (1)) 94 := rfl
theorem c196_94 : xT 196 94 = oRi (fun _ => True) := rfl
theorem c197_0 : xT 197 0 = oAld 0 1 := rfl
theorem c197_1 : xT 197 1 = oIld 1 2 := rfl
theorem c197_2 : xT 197 2 = oPush (.int (0)) 3 := rfl
theorem c197_3 : xT 197 3 = oPush (.int (3)) 4 := rfl
theorem c197_4 : xT 197 4 = oCallV 13 129 4 7 := rfl
theorem c197_7 : xT 197 7 = oRi (fun x => x = 0 ∨ x = 1) := rfl
theorem c198_0 : xT 198 0 = oAld 0 1 := rfl
theorem c198_1 : xT 198 1 = oIld 1 2 := rfl
theorem c198_2 : xT 198 2 = oCallV 13 197 2 5 := rfl
theorem c198_5 : xT 198 5 = oIf (fun x => x = 0) 8 11 := rfl
theorem c198_8 : xT 198 8 = oPush (.int (-2)) 10 := rfl
theorem c198_10 : xT 198 10 = oRi (fun _ => True) := rfl
theorem c198_11 : xT 198 11 = oAld 0 12 := rfl
theorem c198_12 : xT 198 12 = oGetp 12 64 15 := rfl
theorem c198_15 : xT 198 15 = oIld 1 16 := rfl
theorem c198_16 : xT 198 16 = oAldi 20 17 := rfl
theorem c198_17 : xT 198 17 = oIf (fun x => 0 ≤ x) 23 20 := rfl
theorem c198_20 : xT 198 20 = oPush (.int (-11)) 22 := rfl
theorem c198_22 : xT 198 22 = oRi (fun _ => True) := rfl
theorem c198_23 : xT 198 23 = oAld 0 24 := rfl
theorem c198_24 : xT 198 24 = oIld 2 25 := rfl
theorem c198_25 : xT 198 25 = oPush (.int (0)) 26 := rfl
theorem c198_26 : xT 198 26 = oAld 0 27 := rfl
theorem c198_27 : xT 198 27 = oGetp 12 65 30 := rfl
theorem c198_30 : xT 198 30 = oIld 1 31 := rfl
theorem c198_31 : xT 198 31 = oAldi 20 32 := rfl
theorem c198_32 : xT 198 32 = oPush (.int (1)) 33 := rfl
theorem c198_33 : xT 198 33 = oBin (fun x y => x - y) 34 := rfl
theorem c198_34 : xT 198 34 = oCallV 13 129 4 37 := rfl
theorem c198_37 : xT 198 37 = oIf (fun x => x = 0) 40 43 := rfl
theorem c198_40 : xT 198 40 = oPush (.int (-12)) 42 := rfl
theorem c198_42 : xT 198 42 = oRi (fun _ => True) := rfl
theorem c198_43 : xT 198 43 = oAld 0 44 := rfl
theorem c198_44 : xT 198 44 = oGetp 12 66 47 := rfl
theorem c198_47 : xT 198 47 = oPush (.int (40)) 49 := rfl
theorem c198_49 : xT 198 49 = oIld 1 50 := rfl
theorem c198_50 : xT 198 50 = oBin (fun x y => x * y) 51 := rfl
theorem c198_51 : xT 198 51 = oIld 2 52 := rfl
theorem c198_52 : xT 198 52 = oBin (fun x y => x + y) 53 := rfl
theorem c198_53 : xT 198 53 = oAld 0 54 := rfl
theorem c198_54 : xT 198 54 = oGetp 12 64 57 := rfl
theorem c198_57 : xT 198 57 = oIld 1 58 := rfl
theorem c198_58 : xT 198 58 = oAldi 20 59 := rfl
theorem c198_59 : xT 198 59 = oIf (fun x => x = 0) 62 67 := rfl
theorem c198_62 : xT 198 62 = oIld 3 63 := rfl
theorem c198_63 : xT 198 63 = oUn (fun x => x.toInt8.toInt32) 64 := rfl
theorem c198_64 : xT 198 64 = oGoto 83 := rfl
theorem c198_67 : xT 198 67 = oAld 0 68 := rfl
theorem c198_68 : xT 198 68 = oGetp 12 64 71 := rfl
theorem c198_71 : xT 198 71 = oIld 1 72 := rfl
theorem c198_72 : xT 198 72 = oAldi 20 73 := rfl
theorem c198_73 : xT 198 73 = oPush (.int (1)) 74 := rfl
theorem c198_74 : xT 198 74 = oIcmp (fun x y => x = y) 77 82 := rfl
theorem c198_77 : xT 198 77 = oIld 3 78 := rfl
theorem c198_78 : xT 198 78 = oUn (fun x => x.toInt16.toInt32) 79 := rfl
theorem c198_79 : xT 198 79 = oGoto 83 := rfl
theorem c198_82 : xT 198 82 = oIld 3 83 := rfl
theorem c198_83 : xT 198 83 = oTr [] (oAsti 20 (fun x => x) 84) := rfl
theorem c198_84 : xT 198 84 = oPush (.int (1)) 85 := rfl
theorem c198_85 : xT 198 85 = oRi (fun _ => True) := rfl
theorem c199_0 : xT 199 0 = oAld 0 1 := rfl
theorem c199_1 : xT 199 1 = oIld 1 2 := rfl
theorem c199_2 : xT 199 2 = oCallV 13 143 2 5 := rfl
theorem c199_5 : xT 199 5 = oIf (fun x => x = 0) 38 8 := rfl
theorem c199_8 : xT 199 8 = oAld 0 9 := rfl
theorem c199_9 : xT 199 9 = oIld 2 10 := rfl
theorem c199_10 : xT 199 10 = oCallV 13 197 2 13 := rfl
theorem c199_13 : xT 199 13 = oIf (fun x => x = 0) 38 16 := rfl
theorem c199_16 : xT 199 16 = oAld 0 17 := rfl
theorem c199_17 : xT 199 17 = oIld 3 18 := rfl
theorem c199_18 : xT 199 18 = oPush (.int (0)) 19 := rfl
theorem c199_19 : xT 199 19 = oPush (.int (2)) 20 := rfl
theorem c199_20 : xT 199 20 = oCallV 13 129 4 23 := rfl
theorem c199_23 : xT 199 23 = oIf (fun x => x = 0) 38 26 := rfl
theorem c199_26 : xT 199 26 = oAld 0 27 := rfl
theorem c199_27 : xT 199 27 = oIld 5 29 := rfl
theorem c199_29 : xT 199 29 = oPush (.int (0)) 30 := rfl
theorem c199_30 : xT 199 30 = oPush (.int (20)) 32 := rfl
theorem c199_32 : xT 199 32 = oCallV 13 129 4 35 := rfl
theorem c199_35 : xT 199 35 = oIf (fun x => x = 0) 38 41 := rfl
theorem c199_38 : xT 199 38 = oTr [] (oPush (.int (-2)) 40) := rfl
theorem c199_40 : xT 199 40 = oRi (fun _ => True) := rfl
theorem c199_41 : xT 199 41 = oAld 0 42 := rfl
theorem c199_42 : xT 199 42 = oGetp 12 64 45 := rfl
theorem c199_45 : xT 199 45 = oIld 2 46 := rfl
theorem c199_46 : xT 199 46 = oAldi 20 47 := rfl
theorem c199_47 : xT 199 47 = oIf (fun x => x < 0) 63 50 := rfl
theorem c199_50 : xT 199 50 = oAld 0 51 := rfl
theorem c199_51 : xT 199 51 = oGetp 12 64 54 := rfl
theorem c199_54 : xT 199 54 = oIld 2 55 := rfl
theorem c199_55 : xT 199 55 = oAldi 20 56 := rfl
theorem c199_56 : xT 199 56 = oIld 3 57 := rfl
theorem c199_57 : xT 199 57 = oIcmp (fun x y => x = y) 63 60 := rfl
theorem c199_60 : xT 199 60 = oPush (.int (-13)) 62 := rfl
theorem c199_62 : xT 199 62 = oRi (fun _ => True) := rfl
theorem c199_63 : xT 199 63 = oTr [0, 1, 2, 4, 5] (oAld 0 64) := rfl
theorem c199_64 : xT 199 64 = oGetp 12 64 67 := rfl
theorem c199_67 : xT 199 67 = oIld 2 68 := rfl
theorem c199_68 : xT 199 68 = oAldi 20 69 := rfl
theorem c199_69 : xT 199 69 = oIf (fun x => 0 ≤ x) 75 72 := rfl
theorem c199_72 : xT 199 72 = oPush (.int (-11)) 74 := rfl
theorem c199_74 : xT 199 74 = oRi (fun _ => True) := rfl
theorem c199_75 : xT 199 75 = oPush (.int (0)) 76 := rfl
theorem c199_76 : xT 199 76 = oIst 6 78 8 := rfl
theorem c199_78 : xT 199 78 = oPush (.int (0)) 79 := rfl
theorem c199_79 : xT 199 79 = oIst 7 81 8 := rfl
theorem c199_81 : xT 199 81 = oTr [0, 1, 2, 4, 5, 6, 7] (oIld 7 83) := rfl
theorem c199_83 : xT 199 83 = oIld 5 85 := rfl
theorem c199_85 : xT 199 85 = oIcmp (fun x y => y ≤ x) 151 88 := rfl
theorem c199_88 : xT 199 88 = oIld 4 90 := rfl
theorem c199_90 : xT 199 90 = oIf (fun x => x < 0) 109 93 := rfl
theorem c199_93 : xT 199 93 = oIld 4 95 := rfl
theorem c199_95 : xT 199 95 = oAld 0 96 := rfl
theorem c199_96 : xT 199 96 = oGetp 12 65 99 := rfl
theorem c199_99 : xT 199 99 = oIld 2 100 := rfl
theorem c199_100 : xT 199 100 = oAldi 20 101 := rfl
theorem c199_101 : xT 199 101 = oIld 7 103 := rfl
theorem c199_103 : xT 199 103 = oBin (fun x y => x - y) 104 := rfl
theorem c199_104 : xT 199 104 = oPush (.int (1)) 105 := rfl
theorem c199_105 : xT 199 105 = oBin (fun x y => x - y) 106 := rfl
theorem c199_106 : xT 199 106 = oIcmp (fun x y => x ≤ y) 112 109 := rfl
theorem c199_109 : xT 199 109 = oTr [] (oPush (.int (-12)) 111) := rfl
theorem c199_111 : xT 199 111 = oRi (fun _ => True) := rfl
theorem c199_112 : xT 199 112 = oIld 6 114 := rfl
theorem c199_114 : xT 199 114 = oAld 0 115 := rfl
theorem c199_115 : xT 199 115 = oIld 1 116 := rfl
theorem c199_116 : xT 199 116 = oAld 0 117 := rfl
theorem c199_117 : xT 199 117 = oGetp 12 66 120 := rfl
theorem c199_120 : xT 199 120 = oPush (.int (40)) 122 := rfl
theorem c199_122 : xT 199 122 = oIld 2 123 := rfl
theorem c199_123 : xT 199 123 = oBin (fun x y => x * y) 124 := rfl
theorem c199_124 : xT 199 124 = oIld 4 126 := rfl
theorem c199_126 : xT 199 126 = oBin (fun x y => x + y) 127 := rfl
theorem c199_127 : xT 199 127 = oIld 7 129 := rfl
theorem c199_129 : xT 199 129 = oBin (fun x y => x + y) 130 := rfl
theorem c199_130 : xT 199 130 = oAldi 20 131 := rfl
theorem c199_131 : xT 199 131 = oCallV 13 142 3 134 := rfl
theorem c199_134 : xT 199 134 = oIf (fun x => x < 0) 141 137 := rfl
theorem c199_137 : xT 199 137 = oPush (.int (1)) 138 := rfl
theorem c199_138 : xT 199 138 = oGoto 142 := rfl
theorem c199_141 : xT 199 141 = oPush (.int (0)) 142 := rfl
theorem c199_142 : xT 199 142 = oTr [0, 1, 2, 4, 5, 7] (oBin (fun x y => x + y) 143) := rfl
theorem c199_143 : xT 199 143 = oIst 6 145 8 := rfl
theorem c199_145 : xT 199 145 = oIinc 7 (1) 148 8 := rfl
theorem c199_148 : xT 199 148 = oGoto 81 := rfl
theorem c199_151 : xT 199 151 = oIld 6 153 := rfl
theorem c199_153 : xT 199 153 = oRi (fun _ => True) := rfl
theorem c200_0 : xT 200 0 = oAld 0 1 := rfl
theorem c200_1 : xT 200 1 = oIld 2 2 := rfl
theorem c200_2 : xT 200 2 = oPush (.int (0)) 3 := rfl
theorem c200_3 : xT 200 3 = oPush (.int (5)) 4 := rfl
theorem c200_4 : xT 200 4 = oCallV 13 129 4 7 := rfl
theorem c200_7 : xT 200 7 = oIf (fun x => x = 0) 10 13 := rfl
theorem c200_10 : xT 200 10 = oPush (.int (-2)) 12 := rfl
theorem c200_12 : xT 200 12 = oRi (fun _ => True) := rfl
theorem c200_13 : xT 200 13 = oAld 0 14 := rfl
theorem c200_14 : xT 200 14 = oIld 1 15 := rfl
theorem c200_15 : xT 200 15 = oCallV 13 147 2 18 := rfl
theorem c200_18 : xT 200 18 = oIf (fun x => x = 0) 21 24 := rfl
theorem c200_21 : xT 200 21 = oPush (.int (-11)) 23 := rfl
theorem c200_23 : xT 200 23 = oRi (fun _ => True) := rfl
theorem c200_24 : xT 200 24 = oAld 0 25 := rfl
theorem c200_25 : xT 200 25 = oAld 0 26 := rfl
theorem c200_26 : xT 200 26 = oGetp 12 14 29 := rfl
theorem c200_29 : xT 200 29 = oIld 1 30 := rfl
theorem c200_30 : xT 200 30 = oAldi 20 31 := rfl
theorem c200_31 : xT 200 31 = oIld 2 32 := rfl
theorem c200_32 : xT 200 32 = oCallV 13 201 3 35 := rfl
theorem c200_35 : xT 200 35 = oIf (fun x => x = 0) 47 38 := rfl
theorem c200_38 : xT 200 38 = oAld 0 39 := rfl
theorem c200_39 : xT 200 39 = oGetp 12 20 42 := rfl
theorem c200_42 : xT 200 42 = oIld 1 43 := rfl
theorem c200_43 : xT 200 43 = oAldi 20 44 := rfl
theorem c200_44 : xT 200 44 = oGoto 49 := rfl
theorem c200_47 : xT 200 47 = oPush (.int (-13)) 49 := rfl
theorem c200_49 : xT 200 49 = oTr [] (oRi (fun _ => True)) := rfl
