theorem cc3 {C : Nat → xI} {pc : Nat} {I : xI} (h : C pc = I) {ls : xL} {st : List Value} {σ : xM} : C pc ls st σ = I ls st σ := by rw [h]
theorem cct {C : Nat → xI} {pc : Nat} {ks : List Nat} {I : xI} (h : C pc = oTr ks I) {ls : xL} {st : List Value} {σ : xM} (hl : xcan ks ls = ls) : C pc ls st σ = I ls st σ := by rw [h]; show I (xcan ks ls) st σ = _; rw [hl]
theorem c0_0 : xT 0 0 = oAld 0 1 := rfl
theorem c0_1 : xT 0 1 = oObj 4 := rfl
theorem c0_4 : xT 0 4 = oAld 0 5 := rfl
theorem c0_5 : xT 0 5 = oNew 8 2 8 := rfl
theorem c0_8 : xT 0 8 = oDup 9 := rfl
theorem c0_9 : xT 0 9 = oCallI 1 1 12 := rfl
theorem c0_12 : xT 0 12 = oPutp 11 0 15 := rfl
theorem c0_15 : xT 0 15 = oAld 0 16 := rfl
theorem c0_16 : xT 0 16 = oNew 6 4 19 := rfl
theorem c0_19 : xT 0 19 = oDup 20 := rfl
theorem c0_20 : xT 0 20 = oCallI 2 1 23 := rfl
theorem c0_23 : xT 0 23 = oPutp 11 1 26 := rfl
theorem c0_26 : xT 0 26 = oAld 0 27 := rfl
theorem c0_27 : xT 0 27 = oNew 10 9 30 := rfl
theorem c0_30 : xT 0 30 = oDup 31 := rfl
theorem c0_31 : xT 0 31 = oCallI 3 1 34 := rfl
theorem c0_34 : xT 0 34 = oPutp 11 2 37 := rfl
theorem c0_37 : xT 0 37 = oAld 0 38 := rfl
theorem c0_38 : xT 0 38 = oNew 3 8 41 := rfl
theorem c0_41 : xT 0 41 = oDup 42 := rfl
theorem c0_42 : xT 0 42 = oCallI 4 1 45 := rfl
theorem c0_45 : xT 0 45 = oPutp 11 3 48 := rfl
theorem c0_48 : xT 0 48 = oAld 0 49 := rfl
theorem c0_49 : xT 0 49 = oNew 1 6 52 := rfl
theorem c0_52 : xT 0 52 = oDup 53 := rfl
theorem c0_53 : xT 0 53 = oCallI 5 1 56 := rfl
theorem c0_56 : xT 0 56 = oPutp 11 4 59 := rfl
theorem c0_59 : xT 0 59 = oAld 0 60 := rfl
theorem c0_60 : xT 0 60 = oPush (.int (4)) 61 := rfl
theorem c0_61 : xT 0 61 = oNewa 23 64 := rfl
theorem c0_64 : xT 0 64 = oPutp 11 5 67 := rfl
theorem c0_67 : xT 0 67 = oAld 0 68 := rfl
theorem c0_68 : xT 0 68 = oPush (.int (4)) 69 := rfl
theorem c0_69 : xT 0 69 = oNewa 24 72 := rfl
theorem c0_72 : xT 0 72 = oPutp 11 6 75 := rfl
theorem c0_75 : xT 0 75 = oAld 0 76 := rfl
theorem c0_76 : xT 0 76 = oPush (.int (8)) 78 := rfl
theorem c0_78 : xT 0 78 = oNewa 25 81 := rfl
theorem c0_81 : xT 0 81 = oPutp 11 7 84 := rfl
theorem c0_84 : xT 0 84 = oAld 0 85 := rfl
theorem c0_85 : xT 0 85 = oPush (.int (6)) 87 := rfl
theorem c0_87 : xT 0 87 = oNewa 26 90 := rfl
theorem c0_90 : xT 0 90 = oPutp 11 8 93 := rfl
theorem c0_93 : xT 0 93 = oAld 0 94 := rfl
theorem c0_94 : xT 0 94 = oPush (.int (4)) 95 := rfl
theorem c0_95 : xT 0 95 = oNewa 27 98 := rfl
theorem c0_98 : xT 0 98 = oPutp 11 9 101 := rfl
theorem c0_101 : xT 0 101 = oPush (.int (0)) 102 := rfl
theorem c0_102 : xT 0 102 = oIst 1 103 2 := rfl
theorem c0_103 : xT 0 103 = oTr [0, 1] (oIld 1 104) := rfl
theorem c0_104 : xT 0 104 = oPush (.int (4)) 105 := rfl
theorem c0_105 : xT 0 105 = oIcmp (fun x y => y ≤ x) 127 108 := rfl
theorem c0_108 : xT 0 108 = oAld 0 109 := rfl
theorem c0_109 : xT 0 109 = oGetp 11 9 112 := rfl
theorem c0_112 : xT 0 112 = oIld 1 113 := rfl
theorem c0_113 : xT 0 113 = oNew 7 3 116 := rfl
theorem c0_116 : xT 0 116 = oDup 117 := rfl
theorem c0_117 : xT 0 117 = oCallI 7 1 120 := rfl
theorem c0_120 : xT 0 120 = oAstp 27 7 121 := rfl
theorem c0_121 : xT 0 121 = oIinc 1 (1) 124 2 := rfl
theorem c0_124 : xT 0 124 = oGoto 103 := rfl
theorem c0_127 : xT 0 127 = oPush (.int (0)) 128 := rfl
theorem c0_128 : xT 0 128 = oIst 1 129 2 := rfl
theorem c0_129 : xT 0 129 = oTr [0, 1] (oIld 1 130) := rfl
theorem c0_130 : xT 0 130 = oGref 0 132 := rfl
theorem c0_132 : xT 0 132 = oCallW 8 1 135 := rfl
theorem c0_135 : xT 0 135 = oIcmp (fun x y => y ≤ x) 157 138 := rfl
theorem c0_138 : xT 0 138 = oAld 0 139 := rfl
theorem c0_139 : xT 0 139 = oGetp 11 0 142 := rfl
theorem c0_142 : xT 0 142 = oGref 0 144 := rfl
theorem c0_144 : xT 0 144 = oIld 1 145 := rfl
theorem c0_145 : xT 0 145 = oCallW 10 2 148 := rfl
theorem c0_148 : xT 0 148 = oCallV 9 15 2 151 := rfl
theorem c0_151 : xT 0 151 = oIinc 1 (1) 154 2 := rfl
theorem c0_154 : xT 0 154 = oGoto 129 := rfl
theorem c0_157 : xT 0 157 = oAld 0 158 := rfl
theorem c0_158 : xT 0 158 = oGetp 11 2 161 := rfl
theorem c0_161 : xT 0 161 = oAld 0 162 := rfl
theorem c0_162 : xT 0 162 = oGetp 11 0 165 := rfl
theorem c0_165 : xT 0 165 = oCallV 11 16 2 168 := rfl
theorem c0_168 : xT 0 168 = oPop 169 := rfl
theorem c0_169 : xT 0 169 = oAld 0 170 := rfl
theorem c0_170 : xT 0 170 = oGetp 11 8 173 := rfl
theorem c0_173 : xT 0 173 = oPush (.int (0)) 174 := rfl
theorem c0_174 : xT 0 174 = oNew 9 4 177 := rfl
theorem c0_177 : xT 0 177 = oDup 178 := rfl
theorem c0_178 : xT 0 178 = oAld 0 179 := rfl
theorem c0_179 : xT 0 179 = oGetp 11 2 182 := rfl
theorem c0_182 : xT 0 182 = oCallI 34 2 185 := rfl
theorem c0_185 : xT 0 185 = oAstp 26 9 186 := rfl
theorem c0_186 : xT 0 186 = oAld 0 187 := rfl
theorem c0_187 : xT 0 187 = oPush (.int (1)) 188 := rfl
theorem c0_188 : xT 0 188 = oPuti 11 13 191 := rfl
theorem c0_191 : xT 0 191 = oAld 0 192 := rfl
theorem c0_192 : xT 0 192 = oGetp 11 0 195 := rfl
theorem c0_195 : xT 0 195 = oPush (.int (0)) 196 := rfl
theorem c0_196 : xT 0 196 = oPuti 8 1 199 := rfl
theorem c0_199 : xT 0 199 = oRv := rfl
theorem c1_0 : xT 1 0 = oAld 0 1 := rfl
theorem c1_1 : xT 1 1 = oObj 4 := rfl
theorem c1_4 : xT 1 4 = oAld 0 5 := rfl
theorem c1_5 : xT 1 5 = oPush (.int (160)) 8 := rfl
theorem c1_8 : xT 1 8 = oNewa 20 10 := rfl
theorem c1_10 : xT 1 10 = oPutp 8 0 13 := rfl
theorem c1_13 : xT 1 13 = oRv := rfl
theorem c2_0 : xT 2 0 = oAld 0 1 := rfl
theorem c2_1 : xT 2 1 = oObj 4 := rfl
theorem c2_4 : xT 2 4 = oAld 0 5 := rfl
theorem c2_5 : xT 2 5 = oPush (.int (10)) 7 := rfl
theorem c2_7 : xT 2 7 = oNewa 20 9 := rfl
theorem c2_9 : xT 2 9 = oPutp 6 0 12 := rfl
theorem c2_12 : xT 2 12 = oAld 0 13 := rfl
theorem c2_13 : xT 2 13 = oPush (.int (10)) 15 := rfl
theorem c2_15 : xT 2 15 = oNewa 20 17 := rfl
theorem c2_17 : xT 2 17 = oPutp 6 1 20 := rfl
theorem c2_20 : xT 2 20 = oRv := rfl
theorem c3_0 : xT 3 0 = oAld 0 1 := rfl
theorem c3_1 : xT 3 1 = oObj 4 := rfl
theorem c3_4 : xT 3 4 = oAld 0 5 := rfl
theorem c3_5 : xT 3 5 = oPush (.int (160)) 8 := rfl
theorem c3_8 : xT 3 8 = oNewa 20 10 := rfl
theorem c3_10 : xT 3 10 = oPutp 10 0 13 := rfl
theorem c3_13 : xT 3 13 = oRv := rfl
theorem c4_0 : xT 4 0 = oAld 0 1 := rfl
theorem c4_1 : xT 4 1 = oObj 4 := rfl
theorem c4_4 : xT 4 4 = oAld 0 5 := rfl
theorem c4_5 : xT 4 5 = oPush (.int (5064)) 8 := rfl
theorem c4_8 : xT 4 8 = oNewa 20 10 := rfl
theorem c4_10 : xT 4 10 = oPutp 3 0 13 := rfl
theorem c4_13 : xT 4 13 = oAld 0 14 := rfl
theorem c4_14 : xT 4 14 = oPush (.int (24)) 16 := rfl
theorem c4_16 : xT 4 16 = oNewa 20 18 := rfl
theorem c4_18 : xT 4 18 = oPutp 3 1 21 := rfl
theorem c4_21 : xT 4 21 = oRv := rfl
theorem c5_0 : xT 5 0 = oAld 0 1 := rfl
theorem c5_1 : xT 5 1 = oObj 4 := rfl
theorem c5_4 : xT 5 4 = oAld 0 5 := rfl
theorem c5_5 : xT 5 5 = oPush (.int (8)) 7 := rfl
theorem c5_7 : xT 5 7 = oNewa 20 9 := rfl
theorem c5_9 : xT 5 9 = oPutp 1 0 12 := rfl
theorem c5_12 : xT 5 12 = oAld 0 13 := rfl
theorem c5_13 : xT 5 13 = oPush (.int (4)) 14 := rfl
theorem c5_14 : xT 5 14 = oNewa 20 16 := rfl
theorem c5_16 : xT 5 16 = oPutp 1 1 19 := rfl
theorem c5_19 : xT 5 19 = oAld 0 20 := rfl
theorem c5_20 : xT 5 20 = oPush (.int (8)) 22 := rfl
theorem c5_22 : xT 5 22 = oNewa 20 24 := rfl
theorem c5_24 : xT 5 24 = oPutp 1 2 27 := rfl
theorem c5_27 : xT 5 27 = oAld 0 28 := rfl
theorem c5_28 : xT 5 28 = oPush (.int (8)) 30 := rfl
theorem c5_30 : xT 5 30 = oNewa 20 32 := rfl
theorem c5_32 : xT 5 32 = oPutp 1 3 35 := rfl
theorem c5_35 : xT 5 35 = oAld 0 36 := rfl
theorem c5_36 : xT 5 36 = oGetp 1 2 39 := rfl
theorem c5_39 : xT 5 39 = oPush (.int (-1)) 40 := rfl
theorem c5_40 : xT 5 40 = oCallS 6 2 43 := rfl
theorem c5_43 : xT 5 43 = oRv := rfl
theorem c6_0 : xT 6 0 = oPush (.int (0)) 1 := rfl
theorem c6_1 : xT 6 1 = oIst 2 2 4 := rfl
theorem c6_2 : xT 6 2 = oAld 0 3 := rfl
theorem c6_3 : xT 6 3 = oLen 20 4 := rfl
theorem c6_4 : xT 6 4 = oIst 3 5 4 := rfl
theorem c6_5 : xT 6 5 = oTr [0, 1, 2, 3] (oIld 2 6) := rfl
theorem c6_6 : xT 6 6 = oIld 3 7 := rfl
theorem c6_7 : xT 6 7 = oIcmp (fun x y => y ≤ x) 20 10 := rfl
theorem c6_10 : xT 6 10 = oAld 0 11 := rfl
theorem c6_11 : xT 6 11 = oIld 2 12 := rfl
theorem c6_12 : xT 6 12 = oIld 1 13 := rfl
theorem c6_13 : xT 6 13 = oAsti 20 (fun x => x) 14 := rfl
theorem c6_14 : xT 6 14 = oIinc 2 (1) 17 4 := rfl
theorem c6_17 : xT 6 17 = oGoto 5 := rfl
theorem c6_20 : xT 6 20 = oRv := rfl
theorem c7_0 : xT 7 0 = oAld 0 1 := rfl
theorem c7_1 : xT 7 1 = oObj 4 := rfl
theorem c7_4 : xT 7 4 = oAld 0 5 := rfl
theorem c7_5 : xT 7 5 = oPush (.int (40)) 7 := rfl
theorem c7_7 : xT 7 7 = oNewa 20 9 := rfl
theorem c7_9 : xT 7 9 = oPutp 7 0 12 := rfl
theorem c7_12 : xT 7 12 = oAld 0 13 := rfl
theorem c7_13 : xT 7 13 = oPush (.int (-1)) 14 := rfl
theorem c7_14 : xT 7 14 = oPuti 7 1 17 := rfl
theorem c7_17 : xT 7 17 = oRv := rfl
theorem c8_0 : xT 8 0 = oAld 0 1 := rfl
theorem c8_1 : xT 8 1 = oGetSv 4 := rfl
theorem c8_4 : xT 8 4 = oLenB 5 := rfl
theorem c8_5 : xT 8 5 = oAld 0 6 := rfl
theorem c8_6 : xT 8 6 = oCallW 9 1 9 := rfl
theorem c8_9 : xT 8 9 = oBin (fun x y => x >>> (y &&& 31)) 10 := rfl
theorem c8_10 : xT 8 10 = oRi (fun _ => True) := rfl
theorem c9_0 : xT 9 0 = oPush (.int 1) 3 := rfl
theorem c9_3 : xT 9 3 = oIf (fun x => x = 0) 13 6 := rfl
theorem c9_6 : xT 9 6 = oAld 0 7 := rfl
theorem c9_7 : xT 9 7 = oGetSc 10 := rfl
theorem c9_10 : xT 9 10 = oGoto 14 := rfl
theorem c9_13 : xT 9 13 = oPush (.int (1)) 14 := rfl
theorem c9_14 : xT 9 14 = oTr [] (oRi (fun x => narrow .byte (.int x) = .int x)) := rfl
theorem c10_0 : xT 10 0 = oAld 0 1 := rfl
theorem c10_1 : xT 10 1 = oCallW 11 1 4 := rfl
theorem c10_4 : xT 10 4 = oIf (fun x => x = 0) 16 7 := rfl
theorem c10_7 : xT 10 7 = oAld 0 8 := rfl
theorem c10_8 : xT 10 8 = oGetSv 11 := rfl
theorem c10_11 : xT 10 11 = oIld 1 12 := rfl
theorem c10_12 : xT 10 12 = oCallS 12 2 15 := rfl
theorem c10_15 : xT 10 15 = oRi (fun x => narrow .char (.int x) = .int x) := rfl
theorem c10_16 : xT 10 16 = oAld 0 17 := rfl
theorem c10_17 : xT 10 17 = oGetSv 20 := rfl
theorem c10_20 : xT 10 20 = oIld 1 21 := rfl
theorem c11_0 : xT 11 0 = oPush (.int 1) 3 := rfl
theorem c11_3 : xT 11 3 = oIf (fun x => x = 0) 17 6 := rfl
theorem c11_6 : xT 11 6 = oAld 0 7 := rfl
theorem c11_7 : xT 11 7 = oGetSc 10 := rfl
theorem c11_10 : xT 11 10 = oIf (fun x => x = 0) 13 17 := rfl
theorem c11_13 : xT 11 13 = oPush (.int (1)) 14 := rfl
theorem c11_14 : xT 11 14 = oGoto 18 := rfl
theorem c11_17 : xT 11 17 = oTr [] (oPush (.int (0)) 18) := rfl
theorem c11_18 : xT 11 18 = oTr [] (oRi (fun x => x = 0 ∨ x = 1)) := rfl
theorem c12_0 : xT 12 0 = oIld 1 1 := rfl
theorem c12_1 : xT 12 1 = oAld 0 2 := rfl
theorem c12_2 : xT 12 2 = oLenB 3 := rfl
theorem c12_3 : xT 12 3 = oCallS 13 2 6 := rfl
theorem c12_6 : xT 12 6 = oAld 0 7 := rfl
theorem c12_7 : xT 12 7 = oIld 1 8 := rfl
theorem c12_8 : xT 12 8 = oAldB 9 := rfl
theorem c12_9 : xT 12 9 = oPush (.int (255)) 12 := rfl
theorem c12_12 : xT 12 12 = oBin (fun x y => x &&& y) 13 := rfl
theorem c12_13 : xT 12 13 = oUn (fun x => (x.toUInt32 % 65536).toInt32) 14 := rfl
theorem c12_14 : xT 12 14 = oRi (fun x => narrow .char (.int x) = .int x) := rfl
theorem c13_0 : xT 13 0 = oIld 0 1 := rfl
theorem c13_1 : xT 13 1 = oIld 1 2 := rfl
theorem c13_2 : xT 13 2 = oGrefz 21 5 := rfl
theorem c13_5 : xT 13 5 = oCallS 14 3 8 := rfl
theorem c13_8 : xT 13 8 = oPop 9 := rfl
theorem c13_9 : xT 13 9 = oRv := rfl
theorem c14_0 : xT 14 0 = oIld 0 1 := rfl
theorem c14_1 : xT 14 1 = oIf (fun x => x < 0) 9 4 := rfl
theorem c14_4 : xT 14 4 = oIld 0 5 := rfl
theorem c14_5 : xT 14 5 = oIld 1 6 := rfl
theorem c14_6 : xT 14 6 = oIcmp (fun x y => x < y) 16 9 := rfl
theorem c14_9 : xT 14 9 = oTr [0, 1, 2] (oAld 2 10) := rfl
theorem c14_10 : xT 14 10 = oIld 0 11 := rfl
theorem c14_11 : xT 14 11 = oIld 1 12 := rfl
theorem c14_16 : xT 14 16 = oIld 0 17 := rfl
theorem c14_17 : xT 14 17 = oRi (fun _ => True) := rfl
theorem c15_0 : xT 15 0 = oAld 0 1 := rfl
theorem c15_1 : xT 15 1 = oGeti 8 1 4 := rfl
theorem c15_4 : xT 15 4 = oPush (.int (160)) 7 := rfl
theorem c15_7 : xT 15 7 = oIcmp (fun x y => y ≤ x) 30 10 := rfl
theorem c15_10 : xT 15 10 = oAld 0 11 := rfl
theorem c15_11 : xT 15 11 = oGetp 8 0 14 := rfl
theorem c15_14 : xT 15 14 = oAld 0 15 := rfl
theorem c15_15 : xT 15 15 = oGeti 8 1 18 := rfl
theorem c15_18 : xT 15 18 = oIld 1 19 := rfl
theorem c15_19 : xT 15 19 = oAsti 20 (fun x => x) 20 := rfl
theorem c15_20 : xT 15 20 = oAld 0 21 := rfl
theorem c15_21 : xT 15 21 = oDup 22 := rfl
theorem c15_22 : xT 15 22 = oGeti 8 1 25 := rfl
theorem c15_25 : xT 15 25 = oPush (.int (1)) 26 := rfl
theorem c15_26 : xT 15 26 = oBin (fun x y => x + y) 27 := rfl
theorem c15_27 : xT 15 27 = oPuti 8 1 30 := rfl
theorem c15_30 : xT 15 30 = oTr [] (oRv) := rfl
theorem c16_0 : xT 16 0 = oAld 0 1 := rfl
theorem c16_1 : xT 16 1 = oAld 1 2 := rfl
theorem c16_2 : xT 16 2 = oPutp 10 3 5 := rfl
theorem c16_5 : xT 16 5 = oAld 0 6 := rfl
theorem c16_6 : xT 16 6 = oPush (.int (0)) 7 := rfl
theorem c16_7 : xT 16 7 = oPuti 10 7 10 := rfl
theorem c16_10 : xT 16 10 = oAld 0 11 := rfl
theorem c16_11 : xT 16 11 = oPush (.int (-1)) 12 := rfl
theorem c16_12 : xT 16 12 = oPuti 10 8 15 := rfl
theorem c16_15 : xT 16 15 = oAld 0 16 := rfl
theorem c16_16 : xT 16 16 = oPush (.int (0)) 17 := rfl
theorem c16_17 : xT 16 17 = oPuti 10 1 20 := rfl
theorem c16_20 : xT 16 20 = oAld 0 21 := rfl
theorem c16_21 : xT 16 21 = oCallV 11 17 1 24 := rfl
theorem c16_24 : xT 16 24 = oAld 0 25 := rfl
theorem c16_25 : xT 16 25 = oPush (.int (200)) 28 := rfl
theorem c16_28 : xT 16 28 = oCallV 11 27 2 31 := rfl
theorem c16_31 : xT 16 31 = oAld 0 32 := rfl
theorem c16_32 : xT 16 32 = oPush (.int (0)) 33 := rfl
theorem c16_33 : xT 16 33 = oPush (.int (0)) 34 := rfl
theorem c16_34 : xT 16 34 = oCallV 11 29 3 37 := rfl
theorem c16_37 : xT 16 37 = oAld 0 38 := rfl
theorem c16_38 : xT 16 38 = oPush (.int (59)) 40 := rfl
theorem c16_40 : xT 16 40 = oCallV 11 27 2 43 := rfl
theorem c16_43 : xT 16 43 = oAld 0 44 := rfl
theorem c16_44 : xT 16 44 = oAld 0 45 := rfl
theorem c16_45 : xT 16 45 = oGeti 10 1 48 := rfl
theorem c16_48 : xT 16 48 = oPuti 10 2 51 := rfl
theorem c16_51 : xT 16 51 = oAld 0 52 := rfl
theorem c16_52 : xT 16 52 = oPush (.int (201)) 55 := rfl
theorem c16_55 : xT 16 55 = oCallV 11 27 2 58 := rfl
theorem c16_58 : xT 16 58 = oAld 0 59 := rfl
theorem c16_59 : xT 16 59 = oPush (.int (0)) 60 := rfl
theorem c16_60 : xT 16 60 = oPush (.int (0)) 61 := rfl
theorem c16_61 : xT 16 61 = oCallV 11 29 3 64 := rfl
theorem c16_64 : xT 16 64 = oAld 0 65 := rfl
theorem c16_65 : xT 16 65 = oPush (.int (59)) 67 := rfl
theorem c16_67 : xT 16 67 = oCallV 11 27 2 70 := rfl
theorem c16_70 : xT 16 70 = oAld 0 71 := rfl
theorem c16_71 : xT 16 71 = oPush (.int (401)) 74 := rfl
theorem c16_74 : xT 16 74 = oCallV 11 27 2 77 := rfl
theorem c16_77 : xT 16 77 = oAld 0 78 := rfl
theorem c16_78 : xT 16 78 = oGeti 10 8 81 := rfl
theorem c16_81 : xT 16 81 = oRi (fun _ => True) := rfl
theorem c17_0 : xT 17 0 = oAld 0 1 := rfl
theorem c17_1 : xT 17 1 = oGeti 10 8 4 := rfl
theorem c17_4 : xT 17 4 = oPush (.int (-1)) 5 := rfl
theorem c17_5 : xT 17 5 = oIcmp (fun x y => x = y) 9 8 := rfl
theorem c17_8 : xT 17 8 = oRv := rfl
theorem c17_9 : xT 17 9 = oAld 0 10 := rfl
theorem c17_10 : xT 17 10 = oAld 0 11 := rfl
theorem c17_11 : xT 17 11 = oGeti 10 7 14 := rfl
theorem c17_14 : xT 17 14 = oPuti 10 6 17 := rfl
theorem c17_17 : xT 17 17 = oTr [0] (oAld 0 18) := rfl
theorem c17_18 : xT 17 18 = oGeti 10 6 21 := rfl
theorem c17_21 : xT 17 21 = oPush (.int (160)) 24 := rfl
theorem c17_24 : xT 17 24 = oIcmp (fun x y => y ≤ x) 57 27 := rfl
theorem c17_27 : xT 17 27 = oAld 0 28 := rfl
theorem c17_28 : xT 17 28 = oGetp 10 3 31 := rfl
theorem c17_31 : xT 17 31 = oAld 0 32 := rfl
theorem c17_32 : xT 17 32 = oGeti 10 6 35 := rfl
theorem c17_35 : xT 17 35 = oCallV 9 18 2 38 := rfl
theorem c17_38 : xT 17 38 = oCallS 19 1 41 := rfl
theorem c17_41 : xT 17 41 = oIf (fun x => x = 0) 57 44 := rfl
theorem c17_44 : xT 17 44 = oAld 0 45 := rfl
theorem c17_45 : xT 17 45 = oDup 46 := rfl
theorem c17_46 : xT 17 46 = oGeti 10 6 49 := rfl
theorem c17_49 : xT 17 49 = oPush (.int (1)) 50 := rfl
theorem c17_50 : xT 17 50 = oBin (fun x y => x + y) 51 := rfl
theorem c17_51 : xT 17 51 = oPuti 10 6 54 := rfl
theorem c17_54 : xT 17 54 = oGoto 17 := rfl
theorem c17_57 : xT 17 57 = oTr [0] (oAld 0 58) := rfl
theorem c17_58 : xT 17 58 = oGetp 10 3 61 := rfl
theorem c17_61 : xT 17 61 = oAld 0 62 := rfl
theorem c17_62 : xT 17 62 = oGeti 10 6 65 := rfl
theorem c17_65 : xT 17 65 = oCallV 9 18 2 68 := rfl
theorem c17_68 : xT 17 68 = oIst 1 69 2 := rfl
theorem c17_69 : xT 17 69 = oAld 0 70 := rfl
theorem c17_70 : xT 17 70 = oAld 0 71 := rfl
theorem c17_71 : xT 17 71 = oGeti 10 6 74 := rfl
theorem c17_74 : xT 17 74 = oPush (.int (1)) 75 := rfl
theorem c17_75 : xT 17 75 = oBin (fun x y => x + y) 76 := rfl
theorem c17_76 : xT 17 76 = oPuti 10 7 79 := rfl
theorem c17_79 : xT 17 79 = oIld 1 80 := rfl
theorem c17_80 : xT 17 80 = oPush (.int (-1)) 81 := rfl
theorem c17_81 : xT 17 81 = oIcmp (fun x y => x = y) 84 94 := rfl
theorem c17_84 : xT 17 84 = oAld 0 85 := rfl
theorem c17_85 : xT 17 85 = oPush (.int (401)) 88 := rfl
theorem c17_88 : xT 17 88 = oPuti 10 4 91 := rfl
theorem c17_91 : xT 17 91 = oGoto 140 := rfl
theorem c17_94 : xT 17 94 = oIld 1 95 := rfl
theorem c17_95 : xT 17 95 = oCallS 20 1 98 := rfl
theorem c17_98 : xT 17 98 = oIf (fun x => x = 0) 108 101 := rfl
theorem c17_101 : xT 17 101 = oAld 0 102 := rfl
theorem c17_102 : xT 17 102 = oCallV 11 21 1 105 := rfl
theorem c17_105 : xT 17 105 = oGoto 140 := rfl
theorem c17_108 : xT 17 108 = oIld 1 109 := rfl
theorem c17_109 : xT 17 109 = oCallS 24 1 112 := rfl
theorem c17_112 : xT 17 112 = oIf (fun x => x = 0) 122 115 := rfl
theorem c17_115 : xT 17 115 = oAld 0 116 := rfl
theorem c17_116 : xT 17 116 = oCallV 11 25 1 119 := rfl
theorem c17_119 : xT 17 119 = oGoto 140 := rfl
theorem c17_122 : xT 17 122 = oAld 0 123 := rfl
theorem c17_123 : xT 17 123 = oIld 1 124 := rfl
theorem c17_124 : xT 17 124 = oCallS 26 1 127 := rfl
theorem c17_127 : xT 17 127 = oIf (fun x => x = 0) 134 130 := rfl
theorem c17_130 : xT 17 130 = oIld 1 131 := rfl
theorem c17_131 : xT 17 131 = oGoto 137 := rfl
theorem c17_134 : xT 17 134 = oPush (.int (402)) 137 := rfl
theorem c17_137 : xT 17 137 = oTr [] (oPuti 10 4 140) := rfl
theorem c17_140 : xT 17 140 = oTr [] (oRv) := rfl
theorem c18_0 : xT 18 0 = oIld 1 1 := rfl
theorem c18_1 : xT 18 1 = oIf (fun x => x < 0) 19 4 := rfl
theorem c18_4 : xT 18 4 = oIld 1 5 := rfl
theorem c18_5 : xT 18 5 = oAld 0 6 := rfl
theorem c18_6 : xT 18 6 = oGeti 8 1 9 := rfl
theorem c18_9 : xT 18 9 = oIcmp (fun x y => y ≤ x) 19 12 := rfl
theorem c18_12 : xT 18 12 = oIld 1 13 := rfl
theorem c18_13 : xT 18 13 = oPush (.int (160)) 16 := rfl
theorem c18_16 : xT 18 16 = oIcmp (fun x y => x < y) 23 19 := rfl
theorem c18_19 : xT 18 19 = oTr [] (oPush (.int (-1)) 20) := rfl
theorem c18_20 : xT 18 20 = oGoto 29 := rfl
theorem c18_23 : xT 18 23 = oAld 0 24 := rfl
theorem c18_24 : xT 18 24 = oGetp 8 0 27 := rfl
theorem c18_27 : xT 18 27 = oIld 1 28 := rfl
theorem c18_28 : xT 18 28 = oAldi 20 29 := rfl
theorem c18_29 : xT 18 29 = oTr [] (oRi (fun _ => True)) := rfl
theorem c19_0 : xT 19 0 = oIld 0 1 := rfl
theorem c19_1 : xT 19 1 = oPush (.int (32)) 3 := rfl
theorem c19_3 : xT 19 3 = oIcmp (fun x y => x = y) 12 6 := rfl
theorem c19_6 : xT 19 6 = oIld 0 7 := rfl
theorem c19_7 : xT 19 7 = oPush (.int (10)) 9 := rfl
theorem c19_9 : xT 19 9 = oIcmp (fun x y => x = y) 12 16 := rfl
theorem c19_12 : xT 19 12 = oTr [] (oPush (.int (1)) 13) := rfl
theorem c19_13 : xT 19 13 = oGoto 17 := rfl
theorem c19_16 : xT 19 16 = oPush (.int (0)) 17 := rfl
theorem c19_17 : xT 19 17 = oTr [] (oRi (fun x => x = 0 ∨ x = 1)) := rfl
theorem c20_0 : xT 20 0 = oIld 0 1 := rfl
theorem c20_1 : xT 20 1 = oPush (.int (97)) 3 := rfl
theorem c20_3 : xT 20 3 = oIcmp (fun x y => x < y) 16 6 := rfl
theorem c20_6 : xT 20 6 = oIld 0 7 := rfl
theorem c20_7 : xT 20 7 = oPush (.int (122)) 9 := rfl
theorem c20_9 : xT 20 9 = oIcmp (fun x y => y < x) 16 12 := rfl
theorem c20_12 : xT 20 12 = oPush (.int (1)) 13 := rfl
theorem c20_13 : xT 20 13 = oGoto 17 := rfl
theorem c20_16 : xT 20 16 = oTr [] (oPush (.int (0)) 17) := rfl
theorem c20_17 : xT 20 17 = oTr [] (oRi (fun x => x = 0 ∨ x = 1)) := rfl
theorem c21_0 : xT 21 0 = oTr [0] (oAld 0 1) := rfl
theorem c21_1 : xT 21 1 = oGeti 10 7 4 := rfl
theorem c21_4 : xT 21 4 = oPush (.int (160)) 7 := rfl
theorem c21_7 : xT 21 7 = oIcmp (fun x y => y ≤ x) 40 10 := rfl
theorem c21_10 : xT 21 10 = oAld 0 11 := rfl
theorem c21_11 : xT 21 11 = oGetp 10 3 14 := rfl
theorem c21_14 : xT 21 14 = oAld 0 15 := rfl
theorem c21_15 : xT 21 15 = oGeti 10 7 18 := rfl
theorem c21_18 : xT 21 18 = oCallV 9 18 2 21 := rfl
theorem c21_21 : xT 21 21 = oCallS 20 1 24 := rfl
theorem c21_24 : xT 21 24 = oIf (fun x => x = 0) 40 27 := rfl
theorem c21_27 : xT 21 27 = oAld 0 28 := rfl
theorem c21_28 : xT 21 28 = oDup 29 := rfl
theorem c21_29 : xT 21 29 = oGeti 10 7 32 := rfl
theorem c21_32 : xT 21 32 = oPush (.int (1)) 33 := rfl
theorem c21_33 : xT 21 33 = oBin (fun x y => x + y) 34 := rfl
theorem c21_34 : xT 21 34 = oPuti 10 7 37 := rfl
theorem c21_37 : xT 21 37 = oGoto 0 := rfl
theorem c21_40 : xT 21 40 = oTr [0] (oAld 0 41) := rfl
theorem c21_41 : xT 21 41 = oPush (.int (402)) 44 := rfl
theorem c21_44 : xT 21 44 = oPuti 10 4 47 := rfl
theorem c21_47 : xT 21 47 = oPush (.int (0)) 48 := rfl
theorem c21_48 : xT 21 48 = oIst 1 49 2 := rfl
theorem c21_49 : xT 21 49 = oTr [0, 1] (oIld 1 50) := rfl
theorem c21_50 : xT 21 50 = oPush (.int (11)) 52 := rfl
theorem c21_52 : xT 21 52 = oIcmp (fun x y => y ≤ x) 81 55 := rfl
theorem c21_55 : xT 21 55 = oAld 0 56 := rfl
theorem c21_56 : xT 21 56 = oIld 1 57 := rfl
theorem c21_57 : xT 21 57 = oCallS 22 1 60 := rfl
theorem c21_60 : xT 21 60 = oCallV 11 23 2 63 := rfl
theorem c21_63 : xT 21 63 = oIf (fun x => x = 0) 75 66 := rfl
theorem c21_66 : xT 21 66 = oAld 0 67 := rfl
theorem c21_67 : xT 21 67 = oPush (.int (200)) 70 := rfl
theorem c21_70 : xT 21 70 = oIld 1 71 := rfl
theorem c21_71 : xT 21 71 = oBin (fun x y => x + y) 72 := rfl
theorem c21_72 : xT 21 72 = oPuti 10 4 75 := rfl
theorem c21_75 : xT 21 75 = oTr [0, 1] (oIinc 1 (1) 78 2) := rfl
theorem c21_78 : xT 21 78 = oGoto 49 := rfl
theorem c21_81 : xT 21 81 = oRv := rfl
theorem c22_0 : xT 22 0 = oIld 0 1 := rfl
theorem c22_1 : xT 22 1 = oSw [(0, 56), (1, 59), (2, 62), (3, 65), (4, 68), (5, 71), (6, 74), (7, 77), (8, 80), (9, 83)] 86 := rfl
theorem c22_56 : xT 22 56 = oGref 1 58 := rfl
theorem c22_58 : xT 22 58 = oRa := rfl
theorem c22_59 : xT 22 59 = oGref 2 61 := rfl
theorem c22_61 : xT 22 61 = oRa := rfl
theorem c22_62 : xT 22 62 = oGref 3 64 := rfl
theorem c22_64 : xT 22 64 = oRa := rfl
theorem c22_65 : xT 22 65 = oGref 4 67 := rfl
theorem c22_67 : xT 22 67 = oRa := rfl
theorem c22_68 : xT 22 68 = oGref 5 70 := rfl
theorem c22_70 : xT 22 70 = oRa := rfl
theorem c22_71 : xT 22 71 = oGref 6 73 := rfl
theorem c22_73 : xT 22 73 = oRa := rfl
theorem c22_74 : xT 22 74 = oGref 7 76 := rfl
theorem c22_76 : xT 22 76 = oRa := rfl
theorem c22_77 : xT 22 77 = oGref 8 79 := rfl
theorem c22_79 : xT 22 79 = oRa := rfl
theorem c22_80 : xT 22 80 = oGref 9 82 := rfl
theorem c22_82 : xT 22 82 = oRa := rfl
theorem c22_83 : xT 22 83 = oGref 10 85 := rfl
theorem c22_85 : xT 22 85 = oRa := rfl
theorem c22_86 : xT 22 86 = oGref 11 88 := rfl
theorem c22_88 : xT 22 88 = oRa := rfl
theorem c23_0 : xT 23 0 = oAld 1 1 := rfl
theorem c23_1 : xT 23 1 = oCallW 8 1 4 := rfl
theorem c23_4 : xT 23 4 = oAld 0 5 := rfl
theorem c23_5 : xT 23 5 = oGeti 10 7 8 := rfl
theorem c23_8 : xT 23 8 = oAld 0 9 := rfl
theorem c23_9 : xT 23 9 = oGeti 10 6 12 := rfl
theorem c23_12 : xT 23 12 = oBin (fun x y => x - y) 13 := rfl
theorem c23_13 : xT 23 13 = oIcmp (fun x y => x = y) 18 16 := rfl
theorem c23_16 : xT 23 16 = oPush (.int (0)) 17 := rfl
theorem c23_17 : xT 23 17 = oRi (fun x => x = 0 ∨ x = 1) := rfl
theorem c23_18 : xT 23 18 = oPush (.int (0)) 19 := rfl
theorem c23_19 : xT 23 19 = oIst 2 20 3 := rfl
theorem c23_20 : xT 23 20 = oTr [0, 1, 2] (oIld 2 21) := rfl
theorem c23_21 : xT 23 21 = oAld 1 22 := rfl
theorem c23_22 : xT 23 22 = oCallW 8 1 25 := rfl
theorem c23_25 : xT 23 25 = oIcmp (fun x y => y ≤ x) 57 28 := rfl
theorem c23_28 : xT 23 28 = oAld 1 29 := rfl
theorem c23_29 : xT 23 29 = oIld 2 30 := rfl
theorem c23_30 : xT 23 30 = oCallW 10 2 33 := rfl
theorem c23_33 : xT 23 33 = oAld 0 34 := rfl
theorem c23_34 : xT 23 34 = oGetp 10 3 37 := rfl
theorem c23_37 : xT 23 37 = oAld 0 38 := rfl
theorem c23_38 : xT 23 38 = oGeti 10 6 41 := rfl
theorem c23_41 : xT 23 41 = oIld 2 42 := rfl
theorem c23_42 : xT 23 42 = oBin (fun x y => x + y) 43 := rfl
theorem c23_43 : xT 23 43 = oCallV 9 18 2 46 := rfl
theorem c23_46 : xT 23 46 = oIcmp (fun x y => x = y) 51 49 := rfl
theorem c23_49 : xT 23 49 = oPush (.int (0)) 50 := rfl
theorem c23_50 : xT 23 50 = oRi (fun x => x = 0 ∨ x = 1) := rfl
theorem c23_51 : xT 23 51 = oIinc 2 (1) 54 3 := rfl
theorem c23_54 : xT 23 54 = oGoto 20 := rfl
theorem c23_57 : xT 23 57 = oPush (.int (1)) 58 := rfl
theorem c23_58 : xT 23 58 = oRi (fun x => x = 0 ∨ x = 1) := rfl
theorem c24_0 : xT 24 0 = oIld 0 1 := rfl
theorem c24_1 : xT 24 1 = oPush (.int (48)) 3 := rfl
theorem c24_3 : xT 24 3 = oIcmp (fun x y => x < y) 16 6 := rfl
theorem c24_6 : xT 24 6 = oIld 0 7 := rfl
theorem c24_7 : xT 24 7 = oPush (.int (57)) 9 := rfl
theorem c24_9 : xT 24 9 = oIcmp (fun x y => y < x) 16 12 := rfl
theorem c24_12 : xT 24 12 = oPush (.int (1)) 13 := rfl
theorem c24_13 : xT 24 13 = oGoto 17 := rfl
theorem c24_16 : xT 24 16 = oTr [] (oPush (.int (0)) 17) := rfl
theorem c24_17 : xT 24 17 = oTr [] (oRi (fun x => x = 0 ∨ x = 1)) := rfl
theorem c25_0 : xT 25 0 = oTr [0] (oAld 0 1) := rfl
theorem c25_1 : xT 25 1 = oGeti 10 7 4 := rfl
theorem c25_4 : xT 25 4 = oPush (.int (160)) 7 := rfl
theorem c25_7 : xT 25 7 = oIcmp (fun x y => y ≤ x) 40 10 := rfl
theorem c25_10 : xT 25 10 = oAld 0 11 := rfl
theorem c25_11 : xT 25 11 = oGetp 10 3 14 := rfl
theorem c25_14 : xT 25 14 = oAld 0 15 := rfl
theorem c25_15 : xT 25 15 = oGeti 10 7 18 := rfl
theorem c25_18 : xT 25 18 = oCallV 9 18 2 21 := rfl
theorem c25_21 : xT 25 21 = oCallS 24 1 24 := rfl
theorem c25_24 : xT 25 24 = oIf (fun x => x = 0) 40 27 := rfl
theorem c25_27 : xT 25 27 = oAld 0 28 := rfl
theorem c25_28 : xT 25 28 = oDup 29 := rfl
theorem c25_29 : xT 25 29 = oGeti 10 7 32 := rfl
theorem c25_32 : xT 25 32 = oPush (.int (1)) 33 := rfl
theorem c25_33 : xT 25 33 = oBin (fun x y => x + y) 34 := rfl
theorem c25_34 : xT 25 34 = oPuti 10 7 37 := rfl
theorem c25_37 : xT 25 37 = oGoto 0 := rfl
theorem c25_40 : xT 25 40 = oTr [0] (oAld 0 41) := rfl
theorem c25_41 : xT 25 41 = oAld 0 42 := rfl
theorem c25_42 : xT 25 42 = oGeti 10 7 45 := rfl
theorem c25_45 : xT 25 45 = oAld 0 46 := rfl
theorem c25_46 : xT 25 46 = oGeti 10 6 49 := rfl
theorem c25_49 : xT 25 49 = oBin (fun x y => x - y) 50 := rfl
theorem c25_50 : xT 25 50 = oPush (.int (4)) 51 := rfl
theorem c25_51 : xT 25 51 = oIcmp (fun x y => x ≤ y) 60 54 := rfl
theorem c25_54 : xT 25 54 = oPush (.int (402)) 57 := rfl
theorem c25_57 : xT 25 57 = oGoto 63 := rfl
theorem c25_60 : xT 25 60 = oPush (.int (400)) 63 := rfl
theorem c25_63 : xT 25 63 = oTr [0] (oPuti 10 4 66) := rfl
theorem c25_66 : xT 25 66 = oAld 0 67 := rfl
theorem c25_67 : xT 25 67 = oPush (.int (0)) 68 := rfl
theorem c25_68 : xT 25 68 = oPuti 10 5 71 := rfl
theorem c25_71 : xT 25 71 = oAld 0 72 := rfl
theorem c25_72 : xT 25 72 = oGeti 10 6 75 := rfl
theorem c25_75 : xT 25 75 = oIst 1 76 2 := rfl
theorem c25_76 : xT 25 76 = oTr [0, 1] (oAld 0 77) := rfl
theorem c25_77 : xT 25 77 = oGeti 10 4 80 := rfl
theorem c25_80 : xT 25 80 = oPush (.int (400)) 83 := rfl
theorem c25_83 : xT 25 83 = oIcmp (fun x y => x = y) 86 123 := rfl
theorem c25_86 : xT 25 86 = oIld 1 87 := rfl
theorem c25_87 : xT 25 87 = oAld 0 88 := rfl
theorem c25_88 : xT 25 88 = oGeti 10 7 91 := rfl
theorem c25_91 : xT 25 91 = oIcmp (fun x y => y ≤ x) 123 94 := rfl
theorem c25_94 : xT 25 94 = oAld 0 95 := rfl
theorem c25_95 : xT 25 95 = oAld 0 96 := rfl
theorem c25_96 : xT 25 96 = oGeti 10 5 99 := rfl
theorem c25_99 : xT 25 99 = oPush (.int (10)) 101 := rfl
theorem c25_101 : xT 25 101 = oBin (fun x y => x * y) 102 := rfl
theorem c25_102 : xT 25 102 = oAld 0 103 := rfl
theorem c25_103 : xT 25 103 = oGetp 10 3 106 := rfl
theorem c25_106 : xT 25 106 = oIld 1 107 := rfl
theorem c25_107 : xT 25 107 = oCallV 9 18 2 110 := rfl
theorem c25_110 : xT 25 110 = oBin (fun x y => x + y) 111 := rfl
theorem c25_111 : xT 25 111 = oPush (.int (48)) 113 := rfl
theorem c25_113 : xT 25 113 = oBin (fun x y => x - y) 114 := rfl
theorem c25_114 : xT 25 114 = oPuti 10 5 117 := rfl
theorem c25_117 : xT 25 117 = oIinc 1 (1) 120 2 := rfl
theorem c25_120 : xT 25 120 = oGoto 76 := rfl
theorem c25_123 : xT 25 123 = oTr [] (oRv) := rfl
theorem c26_0 : xT 26 0 = oIld 0 1 := rfl
theorem c26_1 : xT 26 1 = oSw [(40, 104), (41, 104), (42, 104), (43, 104), (44, 106), (45, 104), (46, 106), (47, 106), (48, 106), (49, 106), (50, 106), (51, 106), (52, 106), (53, 106), (54, 106), (55, 106), (56, 106), (57, 106), (58, 106), (59, 104), (60, 104), (61, 104)] 106 := rfl
theorem c26_104 : xT 26 104 = oPush (.int (1)) 105 := rfl
theorem c26_105 : xT 26 105 = oRi (fun x => x = 0 ∨ x = 1) := rfl
theorem c26_106 : xT 26 106 = oPush (.int (0)) 107 := rfl
theorem c26_107 : xT 26 107 = oRi (fun x => x = 0 ∨ x = 1) := rfl
theorem c27_0 : xT 27 0 = oAld 0 1 := rfl
theorem c27_1 : xT 27 1 = oGeti 10 4 4 := rfl
theorem c27_4 : xT 27 4 = oIld 1 5 := rfl
theorem c27_5 : xT 27 5 = oIcmp (fun x y => x = y) 15 8 := rfl
theorem c27_8 : xT 27 8 = oAld 0 9 := rfl
theorem c27_9 : xT 27 9 = oCallV 11 28 1 12 := rfl
theorem c27_12 : xT 27 12 = oGoto 26 := rfl
theorem c27_15 : xT 27 15 = oIld 1 16 := rfl
theorem c27_16 : xT 27 16 = oPush (.int (401)) 19 := rfl
theorem c27_19 : xT 27 19 = oIcmp (fun x y => x = y) 26 22 := rfl
theorem c27_22 : xT 27 22 = oAld 0 23 := rfl
theorem c27_23 : xT 27 23 = oCallV 11 17 1 26 := rfl
theorem c27_26 : xT 27 26 = oTr [] (oRv) := rfl
theorem c28_0 : xT 28 0 = oAld 0 1 := rfl
theorem c28_1 : xT 28 1 = oGeti 10 8 4 := rfl
theorem c28_4 : xT 28 4 = oPush (.int (-1)) 5 := rfl
theorem c28_5 : xT 28 5 = oIcmp (fun x y => x = y) 8 16 := rfl
theorem c28_8 : xT 28 8 = oAld 0 9 := rfl
theorem c28_9 : xT 28 9 = oAld 0 10 := rfl
theorem c28_10 : xT 28 10 = oGeti 10 6 13 := rfl
theorem c28_13 : xT 28 13 = oPuti 10 8 16 := rfl
theorem c28_16 : xT 28 16 = oTr [0] (oAld 0 17) := rfl
theorem c28_17 : xT 28 17 = oPush (.int (402)) 20 := rfl
theorem c28_20 : xT 28 20 = oPuti 10 4 23 := rfl
theorem c28_23 : xT 28 23 = oRv := rfl
theorem c29_0 : xT 29 0 = oIld 1 1 := rfl
theorem c29_1 : xT 29 1 = oPush (.int (4)) 2 := rfl
theorem c29_2 : xT 29 2 = oIcmp (fun x y => x ≤ y) 11 5 := rfl
theorem c29_5 : xT 29 5 = oAld 0 6 := rfl
theorem c29_6 : xT 29 6 = oIld 2 7 := rfl
theorem c29_7 : xT 29 7 = oCallV 11 30 2 10 := rfl
theorem c29_10 : xT 29 10 = oRv := rfl
theorem c29_11 : xT 29 11 = oIld 1 12 := rfl
theorem c29_12 : xT 29 12 = oPush (.int (2)) 13 := rfl
theorem c29_13 : xT 29 13 = oIcmp (fun x y => x = y) 16 54 := rfl
theorem c29_16 : xT 29 16 = oAld 0 17 := rfl
theorem c29_17 : xT 29 17 = oGeti 10 4 20 := rfl
theorem c29_20 : xT 29 20 = oPush (.int (204)) 23 := rfl
theorem c29_23 : xT 29 23 = oIcmp (fun x y => x = y) 26 54 := rfl
theorem c29_26 : xT 29 26 = oAld 0 27 := rfl
theorem c29_27 : xT 29 27 = oIld 2 28 := rfl
theorem c29_28 : xT 29 28 = oCallV 11 32 2 31 := rfl
theorem c29_31 : xT 29 31 = oIf (fun x => x = 0) 53 34 := rfl
theorem c29_34 : xT 29 34 = oAld 0 35 := rfl
theorem c29_35 : xT 29 35 = oCallV 11 17 1 38 := rfl
theorem c29_38 : xT 29 38 = oAld 0 39 := rfl
theorem c29_39 : xT 29 39 = oPush (.int (2)) 40 := rfl
theorem c29_40 : xT 29 40 = oIld 2 41 := rfl
theorem c29_41 : xT 29 41 = oPush (.int (1)) 42 := rfl
theorem c29_42 : xT 29 42 = oBin (fun x y => x + y) 43 := rfl
theorem c29_43 : xT 29 43 = oCallV 11 29 3 46 := rfl
theorem c29_46 : xT 29 46 = oAld 0 47 := rfl
theorem c29_47 : xT 29 47 = oPush (.int (-204)) 50 := rfl
theorem c29_50 : xT 29 50 = oCallV 11 31 2 53 := rfl
theorem c29_53 : xT 29 53 = oTr [] (oRv) := rfl
theorem c29_54 : xT 29 54 = oTr [0, 1, 2] (oAld 0 55) := rfl
theorem c29_55 : xT 29 55 = oIld 1 56 := rfl
theorem c29_56 : xT 29 56 = oPush (.int (1)) 57 := rfl
theorem c29_57 : xT 29 57 = oBin (fun x y => x + y) 58 := rfl
theorem c29_58 : xT 29 58 = oIld 2 59 := rfl
theorem c29_59 : xT 29 59 = oCallV 11 29 3 62 := rfl
theorem c29_62 : xT 29 62 = oIld 1 63 := rfl
theorem c29_63 : xT 29 63 = oPush (.int (2)) 64 := rfl
theorem c29_64 : xT 29 64 = oIcmp (fun x y => x = y) 67 71 := rfl
theorem c29_67 : xT 29 67 = oPush (.int (1)) 68 := rfl
theorem c29_68 : xT 29 68 = oGoto 74 := rfl
theorem c29_71 : xT 29 71 = oPush (.int (160)) 74 := rfl
theorem c29_74 : xT 29 74 = oTr [0, 1, 2] (oIst 3 75 6) := rfl
theorem c29_75 : xT 29 75 = oPush (.int (0)) 76 := rfl
theorem c29_76 : xT 29 76 = oIst 4 78 6 := rfl
theorem c29_78 : xT 29 78 = oTr [0, 1, 2, 3, 4] (oIld 4 80) := rfl
theorem c29_80 : xT 29 80 = oIld 3 81 := rfl
theorem c29_81 : xT 29 81 = oIcmp (fun x y => y ≤ x) 126 84 := rfl
theorem c29_84 : xT 29 84 = oAld 0 85 := rfl
theorem c29_85 : xT 29 85 = oGeti 10 4 88 := rfl
theorem c29_88 : xT 29 88 = oCallS 33 1 91 := rfl
theorem c29_91 : xT 29 91 = oIld 1 92 := rfl
theorem c29_92 : xT 29 92 = oIcmp (fun x y => x = y) 95 126 := rfl
theorem c29_95 : xT 29 95 = oAld 0 96 := rfl
theorem c29_96 : xT 29 96 = oGeti 10 4 99 := rfl
theorem c29_99 : xT 29 99 = oIst 5 101 6 := rfl
theorem c29_101 : xT 29 101 = oAld 0 102 := rfl
theorem c29_102 : xT 29 102 = oCallV 11 17 1 105 := rfl
theorem c29_105 : xT 29 105 = oAld 0 106 := rfl
theorem c29_106 : xT 29 106 = oIld 1 107 := rfl
theorem c29_107 : xT 29 107 = oPush (.int (1)) 108 := rfl
theorem c29_108 : xT 29 108 = oBin (fun x y => x + y) 109 := rfl
theorem c29_109 : xT 29 109 = oIld 2 110 := rfl
theorem c29_110 : xT 29 110 = oCallV 11 29 3 113 := rfl
theorem c29_113 : xT 29 113 = oAld 0 114 := rfl
theorem c29_114 : xT 29 114 = oIld 5 116 := rfl
theorem c29_116 : xT 29 116 = oUn (fun x => -x) 117 := rfl
theorem c29_117 : xT 29 117 = oCallV 11 31 2 120 := rfl
theorem c29_120 : xT 29 120 = oIinc 4 (1) 123 6 := rfl
theorem c29_123 : xT 29 123 = oGoto 78 := rfl
theorem c29_126 : xT 29 126 = oTr [] (oRv) := rfl
theorem c30_0 : xT 30 0 = oAld 0 1 := rfl
theorem c30_1 : xT 30 1 = oGeti 10 4 4 := rfl
theorem c30_4 : xT 30 4 = oPush (.int (400)) 7 := rfl
theorem c30_7 : xT 30 7 = oIcmp (fun x y => x = y) 10 25 := rfl
theorem c30_10 : xT 30 10 = oAld 0 11 := rfl
theorem c30_11 : xT 30 11 = oAld 0 12 := rfl
theorem c30_12 : xT 30 12 = oGeti 10 5 15 := rfl
theorem c30_15 : xT 30 15 = oCallV 11 31 2 18 := rfl
theorem c30_18 : xT 30 18 = oAld 0 19 := rfl
theorem c30_19 : xT 30 19 = oCallV 11 17 1 22 := rfl
theorem c30_22 : xT 30 22 = oGoto 148 := rfl
theorem c30_25 : xT 30 25 = oAld 0 26 := rfl
theorem c30_26 : xT 30 26 = oGeti 10 4 29 := rfl
theorem c30_29 : xT 30 29 = oPush (.int (205)) 32 := rfl
theorem c30_32 : xT 30 32 = oIcmp (fun x y => x < y) 68 35 := rfl
theorem c30_35 : xT 30 35 = oAld 0 36 := rfl
theorem c30_36 : xT 30 36 = oGeti 10 4 39 := rfl
theorem c30_39 : xT 30 39 = oPush (.int (211)) 42 := rfl
theorem c30_42 : xT 30 42 = oIcmp (fun x y => y ≤ x) 68 45 := rfl
theorem c30_45 : xT 30 45 = oAld 0 46 := rfl
theorem c30_46 : xT 30 46 = oPush (.int (10000)) 49 := rfl
theorem c30_49 : xT 30 49 = oAld 0 50 := rfl
theorem c30_50 : xT 30 50 = oGeti 10 4 53 := rfl
theorem c30_53 : xT 30 53 = oBin (fun x y => x + y) 54 := rfl
theorem c30_54 : xT 30 54 = oPush (.int (205)) 57 := rfl
theorem c30_57 : xT 30 57 = oBin (fun x y => x - y) 58 := rfl
theorem c30_58 : xT 30 58 = oCallV 11 31 2 61 := rfl
theorem c30_61 : xT 30 61 = oAld 0 62 := rfl
theorem c30_62 : xT 30 62 = oCallV 11 17 1 65 := rfl
theorem c30_65 : xT 30 65 = oGoto 148 := rfl
theorem c30_68 : xT 30 68 = oTr [0, 1] (oAld 0 69) := rfl
theorem c30_69 : xT 30 69 = oGeti 10 4 72 := rfl
theorem c30_72 : xT 30 72 = oPush (.int (45)) 74 := rfl
theorem c30_74 : xT 30 74 = oIcmp (fun x y => x = y) 77 106 := rfl
theorem c30_77 : xT 30 77 = oAld 0 78 := rfl
theorem c30_78 : xT 30 78 = oIld 1 79 := rfl
theorem c30_79 : xT 30 79 = oCallV 11 32 2 82 := rfl
theorem c30_82 : xT 30 82 = oIf (fun x => x = 0) 148 85 := rfl
theorem c30_85 : xT 30 85 = oAld 0 86 := rfl
theorem c30_86 : xT 30 86 = oCallV 11 17 1 89 := rfl
theorem c30_89 : xT 30 89 = oAld 0 90 := rfl
theorem c30_90 : xT 30 90 = oIld 1 91 := rfl
theorem c30_91 : xT 30 91 = oPush (.int (1)) 92 := rfl
theorem c30_92 : xT 30 92 = oBin (fun x y => x + y) 93 := rfl
theorem c30_93 : xT 30 93 = oCallV 11 30 2 96 := rfl
theorem c30_96 : xT 30 96 = oAld 0 97 := rfl
theorem c30_97 : xT 30 97 = oPush (.int (-300)) 100 := rfl
theorem c30_100 : xT 30 100 = oCallV 11 31 2 103 := rfl
theorem c30_103 : xT 30 103 = oGoto 148 := rfl
theorem c30_106 : xT 30 106 = oAld 0 107 := rfl
theorem c30_107 : xT 30 107 = oGeti 10 4 110 := rfl
theorem c30_110 : xT 30 110 = oPush (.int (40)) 112 := rfl
theorem c30_112 : xT 30 112 = oIcmp (fun x y => x = y) 115 144 := rfl
theorem c30_115 : xT 30 115 = oAld 0 116 := rfl
theorem c30_116 : xT 30 116 = oIld 1 117 := rfl
theorem c30_117 : xT 30 117 = oCallV 11 32 2 120 := rfl
theorem c30_120 : xT 30 120 = oIf (fun x => x = 0) 148 123 := rfl
theorem c30_123 : xT 30 123 = oAld 0 124 := rfl
theorem c30_124 : xT 30 124 = oCallV 11 17 1 127 := rfl
theorem c30_127 : xT 30 127 = oAld 0 128 := rfl
theorem c30_128 : xT 30 128 = oPush (.int (0)) 129 := rfl
theorem c30_129 : xT 30 129 = oIld 1 130 := rfl
theorem c30_130 : xT 30 130 = oPush (.int (1)) 131 := rfl
theorem c30_131 : xT 30 131 = oBin (fun x y => x + y) 132 := rfl
theorem c30_132 : xT 30 132 = oCallV 11 29 3 135 := rfl
theorem c30_135 : xT 30 135 = oAld 0 136 := rfl
theorem c30_136 : xT 30 136 = oPush (.int (41)) 138 := rfl
theorem c30_138 : xT 30 138 = oCallV 11 27 2 141 := rfl
theorem c30_141 : xT 30 141 = oGoto 148 := rfl
theorem c30_144 : xT 30 144 = oAld 0 145 := rfl
theorem c30_145 : xT 30 145 = oCallV 11 28 1 148 := rfl
theorem c30_148 : xT 30 148 = oTr [] (oRv) := rfl
theorem c31_0 : xT 31 0 = oAld 0 1 := rfl
theorem c31_1 : xT 31 1 = oGeti 10 1 4 := rfl
theorem c31_4 : xT 31 4 = oPush (.int (160)) 7 := rfl
theorem c31_7 : xT 31 7 = oIcmp (fun x y => y ≤ x) 30 10 := rfl
theorem c31_10 : xT 31 10 = oAld 0 11 := rfl
theorem c31_11 : xT 31 11 = oGetp 10 0 14 := rfl
theorem c31_14 : xT 31 14 = oAld 0 15 := rfl
theorem c31_15 : xT 31 15 = oGeti 10 1 18 := rfl
theorem c31_18 : xT 31 18 = oIld 1 19 := rfl
theorem c31_19 : xT 31 19 = oAsti 20 (fun x => x) 20 := rfl
theorem c31_20 : xT 31 20 = oAld 0 21 := rfl
theorem c31_21 : xT 31 21 = oDup 22 := rfl
theorem c31_22 : xT 31 22 = oGeti 10 1 25 := rfl
theorem c31_25 : xT 31 25 = oPush (.int (1)) 26 := rfl
theorem c31_26 : xT 31 26 = oBin (fun x y => x + y) 27 := rfl
theorem c31_27 : xT 31 27 = oPuti 10 1 30 := rfl
theorem c31_30 : xT 31 30 = oTr [] (oRv) := rfl
theorem c32_0 : xT 32 0 = oIld 1 1 := rfl
theorem c32_1 : xT 32 1 = oPush (.int (5)) 2 := rfl
theorem c32_2 : xT 32 2 = oIcmp (fun x y => x < y) 9 5 := rfl
theorem c32_5 : xT 32 5 = oAld 0 6 := rfl
theorem c32_6 : xT 32 6 = oCallV 11 28 1 9 := rfl
theorem c32_9 : xT 32 9 = oTr [1] (oIld 1 10) := rfl
theorem c32_10 : xT 32 10 = oPush (.int (5)) 11 := rfl
theorem c32_11 : xT 32 11 = oIcmp (fun x y => y ≤ x) 18 14 := rfl
theorem c32_14 : xT 32 14 = oPush (.int (1)) 15 := rfl
theorem c32_15 : xT 32 15 = oGoto 19 := rfl
theorem c32_18 : xT 32 18 = oPush (.int (0)) 19 := rfl
theorem c32_19 : xT 32 19 = oTr [] (oRi (fun x => x = 0 ∨ x = 1)) := rfl
theorem c33_0 : xT 33 0 = oIld 0 1 := rfl
theorem c33_1 : xT 33 1 = oSw [(42, 76), (43, 74), (45, 74), (60, 72), (61, 72), (202, 68), (203, 70)] 78 := rfl
theorem c33_68 : xT 33 68 = oPush (.int (0)) 69 := rfl
theorem c33_69 : xT 33 69 = oRi (fun _ => True) := rfl
theorem c33_70 : xT 33 70 = oPush (.int (1)) 71 := rfl
theorem c33_71 : xT 33 71 = oRi (fun _ => True) := rfl
theorem c33_72 : xT 33 72 = oPush (.int (2)) 73 := rfl
theorem c33_73 : xT 33 73 = oRi (fun _ => True) := rfl
theorem c33_74 : xT 33 74 = oPush (.int (3)) 75 := rfl
theorem c33_75 : xT 33 75 = oRi (fun _ => True) := rfl
theorem c33_76 : xT 33 76 = oPush (.int (4)) 77 := rfl
theorem c33_77 : xT 33 77 = oRi (fun _ => True) := rfl
theorem c33_78 : xT 33 78 = oPush (.int (-1)) 79 := rfl
theorem c33_79 : xT 33 79 = oRi (fun _ => True) := rfl
theorem c34_0 : xT 34 0 = oAld 0 1 := rfl
theorem c34_1 : xT 34 1 = oObj 4 := rfl
theorem c34_4 : xT 34 4 = oAld 0 5 := rfl
theorem c34_5 : xT 34 5 = oAld 1 6 := rfl
theorem c34_6 : xT 34 6 = oGetp 10 0 9 := rfl
theorem c34_9 : xT 34 9 = oAld 1 10 := rfl
theorem c34_10 : xT 34 10 = oGeti 10 1 13 := rfl
theorem c34_13 : xT 34 13 = oCallS 35 2 16 := rfl
theorem c34_16 : xT 34 16 = oPutp 9 0 19 := rfl
theorem c34_19 : xT 34 19 = oAld 0 20 := rfl
theorem c34_20 : xT 34 20 = oAld 1 21 := rfl
theorem c34_21 : xT 34 21 = oGeti 10 1 24 := rfl
theorem c34_24 : xT 34 24 = oNewa 20 26 := rfl
theorem c34_26 : xT 34 26 = oPutp 9 1 29 := rfl
theorem c34_29 : xT 34 29 = oAld 0 30 := rfl
theorem c34_30 : xT 34 30 = oAld 1 31 := rfl
theorem c34_31 : xT 34 31 = oGeti 10 2 34 := rfl
theorem c34_34 : xT 34 34 = oPuti 9 2 37 := rfl
theorem c34_37 : xT 34 37 = oRv := rfl
theorem c35_0 : xT 35 0 = oIld 1 1 := rfl
theorem c35_1 : xT 35 1 = oAld 0 2 := rfl
theorem c35_2 : xT 35 2 = oLen 20 3 := rfl
theorem c35_3 : xT 35 3 = oIcmp (fun x y => x = y) 6 14 := rfl
theorem c35_6 : xT 35 6 = oAld 0 7 := rfl
theorem c35_7 : xT 35 7 = oClone 10 := rfl
theorem c35_10 : xT 35 10 = oCast 13 := rfl
theorem c35_13 : xT 35 13 = oRa := rfl
theorem c35_14 : xT 35 14 = oIld 1 15 := rfl
theorem c35_15 : xT 35 15 = oNewa 20 17 := rfl
theorem c35_17 : xT 35 17 = oAst 2 18 3 := rfl
theorem c35_18 : xT 35 18 = oAld 0 19 := rfl
theorem c35_19 : xT 35 19 = oPush (.int (0)) 20 := rfl
theorem c35_20 : xT 35 20 = oAld 2 21 := rfl
theorem c35_21 : xT 35 21 = oPush (.int (0)) 22 := rfl
theorem c35_22 : xT 35 22 = oAld 0 23 := rfl
theorem c35_23 : xT 35 23 = oLen 20 24 := rfl
theorem c35_24 : xT 35 24 = oIld 1 25 := rfl
theorem c35_25 : xT 35 25 = oCallS 36 2 28 := rfl
theorem c35_28 : xT 35 28 = oCopy 31 := rfl
theorem c35_31 : xT 35 31 = oAld 2 32 := rfl
theorem c35_32 : xT 35 32 = oRa := rfl
theorem c36_0 : xT 36 0 = oIld 0 1 := rfl
theorem c36_1 : xT 36 1 = oIld 1 2 := rfl
theorem c36_2 : xT 36 2 = oIcmp (fun x y => y < x) 9 5 := rfl
theorem c36_5 : xT 36 5 = oIld 0 6 := rfl
theorem c36_6 : xT 36 6 = oGoto 10 := rfl
theorem c36_9 : xT 36 9 = oIld 1 10 := rfl
theorem c36_10 : xT 36 10 = oTr [] (oRi (fun _ => True)) := rfl
theorem c37_0 : xT 37 0 = oIld 1 1 := rfl
theorem c37_1 : xT 37 1 = oPush (.int (1)) 2 := rfl
theorem c37_2 : xT 37 2 = oIcmp (fun x y => x < y) 11 5 := rfl
theorem c37_5 : xT 37 5 = oIld 1 6 := rfl
theorem c37_6 : xT 37 6 = oPush (.int (8)) 8 := rfl
theorem c37_8 : xT 37 8 = oIcmp (fun x y => x ≤ y) 14 11 := rfl
theorem c37_11 : xT 37 11 = oTr [] (oPush (.int (-2)) 13) := rfl
theorem c37_13 : xT 37 13 = oRi (fun _ => True) := rfl
theorem c37_14 : xT 37 14 = oAld 0 15 := rfl
theorem c37_15 : xT 37 15 = oGetp 11 0 18 := rfl
theorem c37_18 : xT 37 18 = oGeti 8 1 21 := rfl
theorem c37_21 : xT 37 21 = oIld 1 22 := rfl
theorem c37_22 : xT 37 22 = oBin (fun x y => x + y) 23 := rfl
theorem c37_23 : xT 37 23 = oPush (.int (160)) 26 := rfl
theorem c37_26 : xT 37 26 = oIcmp (fun x y => x ≤ y) 32 29 := rfl
theorem c37_29 : xT 37 29 = oPush (.int (-4)) 31 := rfl
theorem c37_31 : xT 37 31 = oRi (fun _ => True) := rfl
theorem c37_32 : xT 37 32 = oPush (.int (0)) 33 := rfl
theorem c37_33 : xT 37 33 = oIst 4 35 5 := rfl
theorem c37_35 : xT 37 35 = oTr [0, 1, 2, 4] (oIld 4 37) := rfl
theorem c37_37 : xT 37 37 = oIld 1 38 := rfl
theorem c37_38 : xT 37 38 = oIcmp (fun x y => y ≤ x) 66 41 := rfl
theorem c37_41 : xT 37 41 = oAld 0 42 := rfl
theorem c37_42 : xT 37 42 = oGetp 11 0 45 := rfl
theorem c37_45 : xT 37 45 = oLld 2 46 := rfl
theorem c37_46 : xT 37 46 = oPush (.int (8)) 48 := rfl
theorem c37_48 : xT 37 48 = oIld 4 50 := rfl
theorem c37_50 : xT 37 50 = oBin (fun x y => x * y) 51 := rfl
theorem c37_51 : xT 37 51 = oShL (fun x y => (x.toUInt64 >>> (y.toInt64.toUInt64 &&& Int64.toUInt64 63)).toInt64) 52 := rfl
theorem c37_52 : xT 37 52 = oL2i 53 := rfl
theorem c37_53 : xT 37 53 = oPush (.int (255)) 56 := rfl
theorem c37_56 : xT 37 56 = oBin (fun x y => x &&& y) 57 := rfl
theorem c37_57 : xT 37 57 = oCallV 9 15 2 60 := rfl
theorem c37_60 : xT 37 60 = oIinc 4 (1) 63 5 := rfl
theorem c37_63 : xT 37 63 = oGoto 35 := rfl
theorem c37_66 : xT 37 66 = oAld 0 67 := rfl
theorem c37_67 : xT 37 67 = oGetp 11 0 70 := rfl
theorem c37_70 : xT 37 70 = oGeti 8 1 73 := rfl
theorem c37_73 : xT 37 73 = oRi (fun _ => True) := rfl
theorem c38_0 : xT 38 0 = oAld 0 1 := rfl
theorem c38_1 : xT 38 1 = oGeti 11 10 4 := rfl
theorem c38_4 : xT 38 4 = oPush (.int (4)) 5 := rfl
theorem c38_5 : xT 38 5 = oIcmp (fun x y => x < y) 11 8 := rfl
theorem c38_8 : xT 38 8 = oPush (.int (-4)) 10 := rfl
theorem c38_10 : xT 38 10 = oRi (fun _ => True) := rfl
theorem c38_11 : xT 38 11 = oAld 0 12 := rfl
theorem c38_12 : xT 38 12 = oGetp 11 1 15 := rfl
theorem c38_15 : xT 38 15 = oAld 0 16 := rfl
theorem c38_16 : xT 38 16 = oGetp 11 0 19 := rfl
theorem c38_19 : xT 38 19 = oCallV 7 39 2 22 := rfl
theorem c38_22 : xT 38 22 = oIst 1 23 3 := rfl
theorem c38_23 : xT 38 23 = oAld 0 24 := rfl
theorem c38_24 : xT 38 24 = oGetp 11 0 27 := rfl
theorem c38_27 : xT 38 27 = oPush (.int (0)) 28 := rfl
theorem c38_28 : xT 38 28 = oPuti 8 1 31 := rfl
theorem c38_31 : xT 38 31 = oIld 1 32 := rfl
theorem c38_32 : xT 38 32 = oPush (.int (-1)) 33 := rfl
theorem c38_33 : xT 38 33 = oIcmp (fun x y => x = y) 41 36 := rfl
theorem c38_36 : xT 38 36 = oPush (.int (-100)) 38 := rfl
theorem c38_38 : xT 38 38 = oIld 1 39 := rfl
theorem c38_39 : xT 38 39 = oBin (fun x y => x - y) 40 := rfl
theorem c38_40 : xT 38 40 = oRi (fun _ => True) := rfl
theorem c38_41 : xT 38 41 = oAld 0 42 := rfl
theorem c38_42 : xT 38 42 = oGetp 11 1 45 := rfl
theorem c38_45 : xT 38 45 = oCallV 7 41 1 48 := rfl
theorem c38_48 : xT 38 48 = oPush (.int (400)) 51 := rfl
theorem c38_51 : xT 38 51 = oIcmp (fun x y => x ≤ y) 57 54 := rfl
theorem c38_54 : xT 38 54 = oPush (.int (-9)) 56 := rfl
theorem c38_56 : xT 38 56 = oRi (fun _ => True) := rfl
theorem c38_57 : xT 38 57 = oNew 5 7 60 := rfl
theorem c38_60 : xT 38 60 = oDup 61 := rfl
theorem c38_61 : xT 38 61 = oAld 0 62 := rfl
theorem c38_62 : xT 38 62 = oGetp 11 1 65 := rfl
theorem c38_65 : xT 38 65 = oCallI 42 2 68 := rfl
theorem c38_68 : xT 38 68 = oAst 2 69 3 := rfl
theorem c38_69 : xT 38 69 = oAld 0 70 := rfl
theorem c38_70 : xT 38 70 = oGeti 11 10 73 := rfl
theorem c38_73 : xT 38 73 = oIf (fun x => x = 0) 76 92 := rfl
theorem c38_76 : xT 38 76 = oAld 0 77 := rfl
theorem c38_77 : xT 38 77 = oNew 0 5 80 := rfl
theorem c38_80 : xT 38 80 = oDup 81 := rfl
theorem c38_81 : xT 38 81 = oAld 2 82 := rfl
theorem c38_82 : xT 38 82 = oPush (.int (0)) 83 := rfl
theorem c38_83 : xT 38 83 = oPush (.int (9999)) 86 := rfl
theorem c38_86 : xT 38 86 = oCallI 44 4 89 := rfl
theorem c38_89 : xT 38 89 = oPutp 11 15 92 := rfl
theorem c38_92 : xT 38 92 = oTr [0, 2] (oAld 0 93) := rfl
theorem c38_93 : xT 38 93 = oGetp 11 5 96 := rfl
theorem c38_96 : xT 38 96 = oAld 0 97 := rfl
theorem c38_97 : xT 38 97 = oGeti 11 10 100 := rfl
theorem c38_100 : xT 38 100 = oAld 2 101 := rfl
theorem c38_101 : xT 38 101 = oAstp 23 5 102 := rfl
theorem c38_102 : xT 38 102 = oAld 0 103 := rfl
theorem c38_103 : xT 38 103 = oDup 104 := rfl
theorem c38_104 : xT 38 104 = oGeti 11 10 107 := rfl
theorem c38_107 : xT 38 107 = oPush (.int (1)) 108 := rfl
theorem c38_108 : xT 38 108 = oBin (fun x y => x + y) 109 := rfl
theorem c38_109 : xT 38 109 = oPuti 11 10 112 := rfl
theorem c38_112 : xT 38 112 = oAld 0 113 := rfl
theorem c38_113 : xT 38 113 = oGeti 11 10 116 := rfl
theorem c38_116 : xT 38 116 = oPush (.int (1)) 117 := rfl
theorem c38_117 : xT 38 117 = oBin (fun x y => x - y) 118 := rfl
theorem c38_118 : xT 38 118 = oRi (fun _ => True) := rfl
theorem c39_0 : xT 39 0 = oPush (.int (0)) 1 := rfl
theorem c39_1 : xT 39 1 = oIst 2 2 6 := rfl
theorem c39_2 : xT 39 2 = oAld 0 3 := rfl
theorem c39_3 : xT 39 3 = oPush (.int (1)) 4 := rfl
theorem c39_4 : xT 39 4 = oPuti 6 2 7 := rfl
theorem c39_7 : xT 39 7 = oTr [0, 1, 2] (oAld 0 8) := rfl
theorem c39_8 : xT 39 8 = oGeti 6 2 11 := rfl
theorem c39_11 : xT 39 11 = oPush (.int (10)) 13 := rfl
theorem c39_13 : xT 39 13 = oIcmp (fun x y => y < x) 162 16 := rfl
theorem c39_16 : xT 39 16 = oAld 1 17 := rfl
theorem c39_17 : xT 39 17 = oIld 2 18 := rfl
theorem c39_18 : xT 39 18 = oCallV 9 18 2 21 := rfl
theorem c39_21 : xT 39 21 = oIst 3 22 6 := rfl
theorem c39_22 : xT 39 22 = oIld 3 23 := rfl
theorem c39_23 : xT 39 23 = oPush (.int (97)) 25 := rfl
theorem c39_25 : xT 39 25 = oIcmp (fun x y => x < y) 34 28 := rfl
theorem c39_28 : xT 39 28 = oIld 3 29 := rfl
theorem c39_29 : xT 39 29 = oPush (.int (104)) 31 := rfl
theorem c39_31 : xT 39 31 = oIcmp (fun x y => x ≤ y) 36 34 := rfl
theorem c39_34 : xT 39 34 = oTr [2] (oIld 2 35) := rfl
theorem c39_35 : xT 39 35 = oRi (fun _ => True) := rfl
theorem c39_36 : xT 39 36 = oIinc 2 (1) 39 6 := rfl
theorem c39_39 : xT 39 39 = oAld 0 40 := rfl
theorem c39_40 : xT 39 40 = oAld 1 41 := rfl
theorem c39_41 : xT 39 41 = oIld 2 42 := rfl
theorem c39_42 : xT 39 42 = oCallV 7 40 3 45 := rfl
theorem c39_45 : xT 39 45 = oIst 4 47 6 := rfl
theorem c39_47 : xT 39 47 = oIld 4 49 := rfl
theorem c39_49 : xT 39 49 = oIf (fun x => x = 0) 52 54 := rfl
theorem c39_52 : xT 39 52 = oIld 2 53 := rfl
theorem c39_53 : xT 39 53 = oRi (fun _ => True) := rfl
theorem c39_54 : xT 39 54 = oAld 0 55 := rfl
theorem c39_55 : xT 39 55 = oGetp 6 0 58 := rfl
theorem c39_58 : xT 39 58 = oAld 0 59 := rfl
theorem c39_59 : xT 39 59 = oGeti 6 2 62 := rfl
theorem c39_62 : xT 39 62 = oPush (.int (1)) 63 := rfl
theorem c39_63 : xT 39 63 = oBin (fun x y => x - y) 64 := rfl
theorem c39_64 : xT 39 64 = oIld 3 65 := rfl
theorem c39_65 : xT 39 65 = oPush (.int (97)) 67 := rfl
theorem c39_67 : xT 39 67 = oBin (fun x y => x - y) 68 := rfl
theorem c39_68 : xT 39 68 = oAsti 20 (fun x => x) 69 := rfl
theorem c39_69 : xT 39 69 = oIld 2 70 := rfl
theorem c39_70 : xT 39 70 = oIld 4 72 := rfl
theorem c39_72 : xT 39 72 = oBin (fun x y => x + y) 73 := rfl
theorem c39_73 : xT 39 73 = oIst 2 74 6 := rfl
theorem c39_74 : xT 39 74 = oAld 1 75 := rfl
theorem c39_75 : xT 39 75 = oIld 2 76 := rfl
theorem c39_76 : xT 39 76 = oCallV 9 18 2 79 := rfl
theorem c39_79 : xT 39 79 = oIst 5 81 6 := rfl
theorem c39_81 : xT 39 81 = oIld 5 83 := rfl
theorem c39_83 : xT 39 83 = oPush (.int (47)) 85 := rfl
theorem c39_85 : xT 39 85 = oIcmp (fun x y => x = y) 95 88 := rfl
theorem c39_88 : xT 39 88 = oIld 5 90 := rfl
theorem c39_90 : xT 39 90 = oPush (.int (59)) 92 := rfl
theorem c39_92 : xT 39 92 = oIcmp (fun x y => x = y) 95 128 := rfl
theorem c39_95 : xT 39 95 = oTr [0, 1, 2, 5] (oAld 0 96) := rfl
theorem c39_96 : xT 39 96 = oIld 5 98 := rfl
theorem c39_98 : xT 39 98 = oPush (.int (47)) 100 := rfl
theorem c39_100 : xT 39 100 = oIcmp (fun x y => x = y) 103 107 := rfl
theorem c39_103 : xT 39 103 = oPush (.int (1)) 104 := rfl
theorem c39_104 : xT 39 104 = oGoto 108 := rfl
theorem c39_107 : xT 39 107 = oPush (.int (0)) 108 := rfl
theorem c39_108 : xT 39 108 = oTr [1, 2] (oPutb 6 3 111) := rfl
theorem c39_111 : xT 39 111 = oIinc 2 (1) 114 6 := rfl
theorem c39_114 : xT 39 114 = oIld 2 115 := rfl
theorem c39_115 : xT 39 115 = oAld 1 116 := rfl
theorem c39_116 : xT 39 116 = oGeti 8 1 119 := rfl
theorem c39_119 : xT 39 119 = oIcmp (fun x y => x = y) 122 126 := rfl
theorem c39_122 : xT 39 122 = oPush (.int (-1)) 123 := rfl
theorem c39_123 : xT 39 123 = oGoto 127 := rfl
theorem c39_126 : xT 39 126 = oIld 2 127 := rfl
theorem c39_127 : xT 39 127 = oTr [] (oRi (fun _ => True)) := rfl
theorem c39_128 : xT 39 128 = oIld 5 130 := rfl
theorem c39_130 : xT 39 130 = oPush (.int (32)) 132 := rfl
theorem c39_132 : xT 39 132 = oIcmp (fun x y => x = y) 135 144 := rfl
theorem c39_135 : xT 39 135 = oAld 0 136 := rfl
theorem c39_136 : xT 39 136 = oGeti 6 2 139 := rfl
theorem c39_139 : xT 39 139 = oPush (.int (10)) 141 := rfl
theorem c39_141 : xT 39 141 = oIcmp (fun x y => x = y) 144 146 := rfl
theorem c39_144 : xT 39 144 = oTr [2] (oIld 2 145) := rfl
theorem c39_145 : xT 39 145 = oRi (fun _ => True) := rfl
theorem c39_146 : xT 39 146 = oIinc 2 (1) 149 6 := rfl
theorem c39_149 : xT 39 149 = oAld 0 150 := rfl
theorem c39_150 : xT 39 150 = oDup 151 := rfl
theorem c39_151 : xT 39 151 = oGeti 6 2 154 := rfl
theorem c39_154 : xT 39 154 = oPush (.int (1)) 155 := rfl
theorem c39_155 : xT 39 155 = oBin (fun x y => x + y) 156 := rfl
theorem c39_156 : xT 39 156 = oPuti 6 2 159 := rfl
theorem c39_159 : xT 39 159 = oGoto 7 := rfl
theorem c39_162 : xT 39 162 = oIld 2 163 := rfl
theorem c39_163 : xT 39 163 = oRi (fun _ => True) := rfl
theorem c40_0 : xT 40 0 = oPush (.int (0)) 1 := rfl
theorem c40_1 : xT 40 1 = oIst 3 2 7 := rfl
theorem c40_2 : xT 40 2 = oPush (.int (0)) 3 := rfl
theorem c40_3 : xT 40 3 = oIst 4 5 7 := rfl
theorem c40_5 : xT 40 5 = oPush (.int (0)) 6 := rfl
theorem c40_6 : xT 40 6 = oIst 5 8 7 := rfl
theorem c40_8 : xT 40 8 = oTr [0, 1, 2, 3, 4, 5] (oIld 5 10) := rfl
theorem c40_10 : xT 40 10 = oPush (.int (3)) 11 := rfl
theorem c40_11 : xT 40 11 = oIcmp (fun x y => y ≤ x) 73 14 := rfl
theorem c40_14 : xT 40 14 = oAld 1 15 := rfl
theorem c40_15 : xT 40 15 = oIld 2 16 := rfl
theorem c40_16 : xT 40 16 = oIld 5 18 := rfl
theorem c40_18 : xT 40 18 = oBin (fun x y => x + y) 19 := rfl
theorem c40_19 : xT 40 19 = oCallV 9 18 2 22 := rfl
theorem c40_22 : xT 40 22 = oIst 6 24 7 := rfl
theorem c40_24 : xT 40 24 = oIld 6 26 := rfl
theorem c40_26 : xT 40 26 = oPush (.int (48)) 28 := rfl
theorem c40_28 : xT 40 28 = oIcmp (fun x y => x < y) 73 31 := rfl
theorem c40_31 : xT 40 31 = oIld 6 33 := rfl
theorem c40_33 : xT 40 33 = oPush (.int (57)) 35 := rfl
theorem c40_35 : xT 40 35 = oIcmp (fun x y => y < x) 73 38 := rfl
theorem c40_38 : xT 40 38 = oIld 6 40 := rfl
theorem c40_40 : xT 40 40 = oPush (.int (48)) 42 := rfl
theorem c40_42 : xT 40 42 = oIcmp (fun x y => x = y) 45 53 := rfl
theorem c40_45 : xT 40 45 = oIld 5 47 := rfl
theorem c40_47 : xT 40 47 = oIf (fun x => x = 0) 50 53 := rfl
theorem c40_50 : xT 40 50 = oGoto 73 := rfl
theorem c40_53 : xT 40 53 = oTr [0, 1, 2, 3, 4, 5, 6] (oIld 3 54) := rfl
theorem c40_54 : xT 40 54 = oPush (.int (10)) 56 := rfl
theorem c40_56 : xT 40 56 = oBin (fun x y => x * y) 57 := rfl
theorem c40_57 : xT 40 57 = oIld 6 59 := rfl
theorem c40_59 : xT 40 59 = oBin (fun x y => x + y) 60 := rfl
theorem c40_60 : xT 40 60 = oPush (.int (48)) 62 := rfl
theorem c40_62 : xT 40 62 = oBin (fun x y => x - y) 63 := rfl
theorem c40_63 : xT 40 63 = oIst 3 64 7 := rfl
theorem c40_64 : xT 40 64 = oIinc 4 (1) 67 7 := rfl
theorem c40_67 : xT 40 67 = oIinc 5 (1) 70 7 := rfl
theorem c40_70 : xT 40 70 = oGoto 8 := rfl
theorem c40_73 : xT 40 73 = oTr [0, 3, 4] (oAld 0 74) := rfl
theorem c40_74 : xT 40 74 = oGetp 6 1 77 := rfl
theorem c40_77 : xT 40 77 = oAld 0 78 := rfl
theorem c40_78 : xT 40 78 = oGeti 6 2 81 := rfl
theorem c40_81 : xT 40 81 = oPush (.int (1)) 82 := rfl
theorem c40_82 : xT 40 82 = oBin (fun x y => x - y) 83 := rfl
theorem c40_83 : xT 40 83 = oIld 3 84 := rfl
theorem c40_84 : xT 40 84 = oAsti 20 (fun x => x) 85 := rfl
theorem c40_85 : xT 40 85 = oIld 4 87 := rfl
theorem c40_87 : xT 40 87 = oRi (fun _ => True) := rfl
theorem c41_0 : xT 41 0 = oPush (.int (0)) 1 := rfl
theorem c41_1 : xT 41 1 = oIst 1 2 4 := rfl
theorem c41_2 : xT 41 2 = oPush (.int (0)) 3 := rfl
theorem c41_3 : xT 41 3 = oIst 2 4 4 := rfl
theorem c41_4 : xT 41 4 = oTr [0, 1, 2] (oIld 2 5) := rfl
theorem c41_5 : xT 41 5 = oAld 0 6 := rfl
theorem c41_6 : xT 41 6 = oGeti 6 2 9 := rfl
theorem c41_9 : xT 41 9 = oIcmp (fun x y => y ≤ x) 75 12 := rfl
theorem c41_12 : xT 41 12 = oIld 2 13 := rfl
theorem c41_13 : xT 41 13 = oPush (.int (10)) 15 := rfl
theorem c41_15 : xT 41 15 = oIcmp (fun x y => y ≤ x) 75 18 := rfl
theorem c41_18 : xT 41 18 = oAld 0 19 := rfl
theorem c41_19 : xT 41 19 = oGeti 6 3 22 := rfl
theorem c41_22 : xT 41 22 = oIf (fun x => x = 0) 43 25 := rfl
theorem c41_25 : xT 41 25 = oIld 2 26 := rfl
theorem c41_26 : xT 41 26 = oIf (fun x => x ≤ 0) 43 29 := rfl
theorem c41_29 : xT 41 29 = oIld 2 30 := rfl
theorem c41_30 : xT 41 30 = oAld 0 31 := rfl
theorem c41_31 : xT 41 31 = oGeti 6 2 34 := rfl
theorem c41_34 : xT 41 34 = oPush (.int (1)) 35 := rfl
theorem c41_35 : xT 41 35 = oBin (fun x y => x - y) 36 := rfl
theorem c41_36 : xT 41 36 = oIcmp (fun x y => y ≤ x) 43 39 := rfl
theorem c41_39 : xT 41 39 = oPush (.int (1)) 40 := rfl
theorem c41_40 : xT 41 40 = oGoto 44 := rfl
theorem c41_43 : xT 41 43 = oTr [0, 1, 2] (oPush (.int (0)) 44) := rfl
theorem c41_44 : xT 41 44 = oTr [0, 1, 2] (oIst 3 45 4) := rfl
theorem c41_45 : xT 41 45 = oIld 1 46 := rfl
theorem c41_46 : xT 41 46 = oIld 3 47 := rfl
theorem c41_47 : xT 41 47 = oIf (fun x => x = 0) 61 50 := rfl
theorem c41_50 : xT 41 50 = oPush (.int (2)) 51 := rfl
theorem c41_51 : xT 41 51 = oAld 0 52 := rfl
theorem c41_52 : xT 41 52 = oGetp 6 1 55 := rfl
theorem c41_55 : xT 41 55 = oIld 2 56 := rfl
theorem c41_56 : xT 41 56 = oAldi 20 57 := rfl
theorem c41_57 : xT 41 57 = oBin (fun x y => x * y) 58 := rfl
theorem c41_58 : xT 41 58 = oGoto 67 := rfl
theorem c41_61 : xT 41 61 = oAld 0 62 := rfl
theorem c41_62 : xT 41 62 = oGetp 6 1 65 := rfl
theorem c41_65 : xT 41 65 = oIld 2 66 := rfl
theorem c41_66 : xT 41 66 = oAldi 20 67 := rfl
theorem c41_67 : xT 41 67 = oTr [0, 2] (oBin (fun x y => x + y) 68) := rfl
theorem c41_68 : xT 41 68 = oIst 1 69 4 := rfl
theorem c41_69 : xT 41 69 = oIinc 2 (1) 72 4 := rfl
theorem c41_72 : xT 41 72 = oGoto 4 := rfl
theorem c41_75 : xT 41 75 = oTr [1] (oIld 1 76) := rfl
theorem c41_76 : xT 41 76 = oRi (fun _ => True) := rfl
theorem c42_0 : xT 42 0 = oAld 0 1 := rfl
theorem c42_1 : xT 42 1 = oObj 4 := rfl
theorem c42_4 : xT 42 4 = oAld 0 5 := rfl
theorem c42_5 : xT 42 5 = oAld 1 6 := rfl
theorem c42_6 : xT 42 6 = oGeti 6 2 9 := rfl
theorem c42_9 : xT 42 9 = oPuti 5 0 12 := rfl
theorem c42_12 : xT 42 12 = oAld 0 13 := rfl
theorem c42_13 : xT 42 13 = oAld 1 14 := rfl
theorem c42_14 : xT 42 14 = oGeti 6 3 17 := rfl
theorem c42_17 : xT 42 17 = oPutb 5 2 20 := rfl
theorem c42_20 : xT 42 20 = oAld 0 21 := rfl
theorem c42_21 : xT 42 21 = oAld 1 22 := rfl
theorem c42_22 : xT 42 22 = oCallV 7 41 1 25 := rfl
theorem c42_25 : xT 42 25 = oPuti 5 1 28 := rfl
theorem c42_28 : xT 42 28 = oAld 0 29 := rfl
theorem c42_29 : xT 42 29 = oAld 1 30 := rfl
theorem c42_30 : xT 42 30 = oGetp 6 0 33 := rfl
theorem c42_33 : xT 42 33 = oAld 0 34 := rfl
theorem c42_34 : xT 42 34 = oGeti 5 0 37 := rfl
theorem c42_37 : xT 42 37 = oCallS 35 2 40 := rfl
theorem c42_40 : xT 42 40 = oPutp 5 3 43 := rfl
theorem c42_43 : xT 42 43 = oAld 0 44 := rfl
theorem c42_44 : xT 42 44 = oAld 1 45 := rfl
theorem c42_45 : xT 42 45 = oGetp 6 1 48 := rfl
theorem c42_48 : xT 42 48 = oAld 0 49 := rfl
theorem c42_49 : xT 42 49 = oGeti 5 0 52 := rfl
theorem c42_52 : xT 42 52 = oCallS 35 2 55 := rfl
theorem c42_55 : xT 42 55 = oPutp 5 4 58 := rfl
theorem c42_58 : xT 42 58 = oAld 0 59 := rfl
theorem c42_59 : xT 42 59 = oAld 0 60 := rfl
theorem c42_60 : xT 42 60 = oGeti 5 0 63 := rfl
theorem c42_63 : xT 42 63 = oNewa 20 65 := rfl
theorem c42_65 : xT 42 65 = oPutp 5 5 68 := rfl
theorem c42_68 : xT 42 68 = oAld 0 69 := rfl
theorem c42_69 : xT 42 69 = oAld 0 70 := rfl
theorem c42_70 : xT 42 70 = oGeti 5 1 73 := rfl
theorem c42_73 : xT 42 73 = oNewa 21 75 := rfl
theorem c42_75 : xT 42 75 = oPutp 5 6 78 := rfl
theorem c42_78 : xT 42 78 = oPush (.int (0)) 79 := rfl
theorem c42_79 : xT 42 79 = oIst 2 80 4 := rfl
theorem c42_80 : xT 42 80 = oPush (.int (0)) 81 := rfl
theorem c42_81 : xT 42 81 = oIst 3 82 4 := rfl
theorem c42_82 : xT 42 82 = oTr [0, 2, 3] (oIld 3 83) := rfl
theorem c42_83 : xT 42 83 = oAld 0 84 := rfl
theorem c42_84 : xT 42 84 = oGeti 5 0 87 := rfl
theorem c42_87 : xT 42 87 = oIcmp (fun x y => y ≤ x) 121 90 := rfl
theorem c42_90 : xT 42 90 = oAld 0 91 := rfl
theorem c42_91 : xT 42 91 = oGetp 5 5 94 := rfl
theorem c42_94 : xT 42 94 = oIld 3 95 := rfl
theorem c42_95 : xT 42 95 = oIld 2 96 := rfl
theorem c42_96 : xT 42 96 = oAld 0 97 := rfl
theorem c42_97 : xT 42 97 = oGetp 5 4 100 := rfl
theorem c42_100 : xT 42 100 = oIld 3 101 := rfl
theorem c42_101 : xT 42 101 = oAldi 20 102 := rfl
theorem c42_102 : xT 42 102 = oPush (.int (1)) 103 := rfl
theorem c42_103 : xT 42 103 = oBin (fun x y => x - y) 104 := rfl
theorem c42_104 : xT 42 104 = oPush (.int (2)) 105 := rfl
theorem c42_105 : xT 42 105 = oDiv (fun x y => x / y) 106 := rfl
theorem c42_106 : xT 42 106 = oBin (fun x y => x + y) 107 := rfl
theorem c42_107 : xT 42 107 = oAsti 20 (fun x => x) 108 := rfl
theorem c42_108 : xT 42 108 = oAld 0 109 := rfl
theorem c42_109 : xT 42 109 = oIld 2 110 := rfl
theorem c42_110 : xT 42 110 = oIld 3 111 := rfl
theorem c42_111 : xT 42 111 = oCallV 6 43 3 114 := rfl
theorem c42_114 : xT 42 114 = oIst 2 115 4 := rfl
theorem c42_115 : xT 42 115 = oIinc 3 (1) 118 4 := rfl
theorem c42_118 : xT 42 118 = oGoto 82 := rfl
theorem c42_121 : xT 42 121 = oAld 0 122 := rfl
theorem c42_122 : xT 42 122 = oGeti 5 0 125 := rfl
theorem c42_125 : xT 42 125 = oPush (.int (2)) 126 := rfl
theorem c42_126 : xT 42 126 = oBin (fun x y => x - y) 127 := rfl
theorem c42_127 : xT 42 127 = oIst 3 128 4 := rfl
theorem c42_128 : xT 42 128 = oTr [0, 2, 3] (oAld 0 129) := rfl
theorem c42_129 : xT 42 129 = oGeti 5 2 132 := rfl
theorem c42_132 : xT 42 132 = oIf (fun x => x = 0) 152 135 := rfl
theorem c42_135 : xT 42 135 = oIld 3 136 := rfl
theorem c42_136 : xT 42 136 = oIf (fun x => x ≤ 0) 152 139 := rfl
theorem c42_139 : xT 42 139 = oAld 0 140 := rfl
theorem c42_140 : xT 42 140 = oIld 2 141 := rfl
theorem c42_141 : xT 42 141 = oIld 3 142 := rfl
theorem c42_142 : xT 42 142 = oCallV 6 43 3 145 := rfl
theorem c42_145 : xT 42 145 = oIst 2 146 4 := rfl
theorem c42_146 : xT 42 146 = oIinc 3 (-1) 149 4 := rfl
theorem c42_149 : xT 42 149 = oGoto 128 := rfl
theorem c42_152 : xT 42 152 = oTr [] (oRv) := rfl
theorem c43_0 : xT 43 0 = oIld 1 1 := rfl
theorem c43_1 : xT 43 1 = oAld 0 2 := rfl
theorem c43_2 : xT 43 2 = oGetp 5 4 5 := rfl
theorem c43_5 : xT 43 5 = oIld 2 6 := rfl
theorem c43_6 : xT 43 6 = oAldi 20 7 := rfl
theorem c43_7 : xT 43 7 = oBin (fun x y => x + y) 8 := rfl
theorem c43_8 : xT 43 8 = oAld 0 9 := rfl
theorem c43_9 : xT 43 9 = oGeti 5 1 12 := rfl
theorem c43_12 : xT 43 12 = oCallS 36 2 15 := rfl
theorem c43_15 : xT 43 15 = oIst 3 16 5 := rfl
theorem c43_16 : xT 43 16 = oIld 1 17 := rfl
theorem c43_17 : xT 43 17 = oIst 4 19 5 := rfl
theorem c43_19 : xT 43 19 = oTr [0, 2, 3, 4] (oIld 4 21) := rfl
theorem c43_21 : xT 43 21 = oIld 3 22 := rfl
theorem c43_22 : xT 43 22 = oIcmp (fun x y => y ≤ x) 45 25 := rfl
theorem c43_25 : xT 43 25 = oAld 0 26 := rfl
theorem c43_26 : xT 43 26 = oGetp 5 6 29 := rfl
theorem c43_29 : xT 43 29 = oIld 4 31 := rfl
theorem c43_31 : xT 43 31 = oAld 0 32 := rfl
theorem c43_32 : xT 43 32 = oGetp 5 3 35 := rfl
theorem c43_35 : xT 43 35 = oIld 2 36 := rfl
theorem c43_36 : xT 43 36 = oAldi 20 37 := rfl
theorem c43_37 : xT 43 37 = oUn (fun x => x.toInt8.toInt32) 38 := rfl
theorem c43_38 : xT 43 38 = oAsti 21 (vp_nar .byte) 39 := rfl
theorem c43_39 : xT 43 39 = oIinc 4 (1) 42 5 := rfl
theorem c43_42 : xT 43 42 = oGoto 19 := rfl
theorem c43_45 : xT 43 45 = oIld 3 46 := rfl
theorem c43_46 : xT 43 46 = oRi (fun _ => True) := rfl
theorem c44_0 : xT 44 0 = oAld 0 1 := rfl
theorem c44_1 : xT 44 1 = oObj 4 := rfl
theorem c44_4 : xT 44 4 = oAld 0 5 := rfl
theorem c44_5 : xT 44 5 = oPush (.int (10)) 7 := rfl
theorem c44_7 : xT 44 7 = oNewa 20 9 := rfl
theorem c44_9 : xT 44 9 = oPutp 0 3 12 := rfl
theorem c44_12 : xT 44 12 = oAld 0 13 := rfl
theorem c44_13 : xT 44 13 = oAld 1 14 := rfl
theorem c44_14 : xT 44 14 = oPutp 0 0 17 := rfl
theorem c44_17 : xT 44 17 = oAld 0 18 := rfl
theorem c44_18 : xT 44 18 = oIld 2 19 := rfl
theorem c44_19 : xT 44 19 = oPuti 0 1 22 := rfl
theorem c44_22 : xT 44 22 = oAld 0 23 := rfl
theorem c44_23 : xT 44 23 = oIld 3 24 := rfl
theorem c44_24 : xT 44 24 = oPuti 0 2 27 := rfl
theorem c44_27 : xT 44 27 = oRv := rfl
theorem c45_0 : xT 45 0 = oAld 0 1 := rfl
theorem c45_1 : xT 45 1 = oIld 1 2 := rfl
theorem c45_2 : xT 45 2 = oCallV 12 46 2 5 := rfl
theorem c45_5 : xT 45 5 = oAst 3 6 4 := rfl
theorem c45_6 : xT 45 6 = oAld 3 7 := rfl
theorem c45_7 : xT 45 7 = oIfn 10 13 := rfl
theorem c45_10 : xT 45 10 = oPush (.int (-2)) 12 := rfl
theorem c45_12 : xT 45 12 = oRi (fun _ => True) := rfl
theorem c45_13 : xT 45 13 = oIld 2 14 := rfl
theorem c45_14 : xT 45 14 = oSw [(0, 40), (1, 45), (2, 50)] 63 := rfl
theorem c45_40 : xT 45 40 = oAld 3 41 := rfl
theorem c45_41 : xT 45 41 = oGeti 5 1 44 := rfl
theorem c45_44 : xT 45 44 = oRi (fun _ => True) := rfl
theorem c45_45 : xT 45 45 = oAld 3 46 := rfl
theorem c45_46 : xT 45 46 = oGeti 5 0 49 := rfl
theorem c45_49 : xT 45 49 = oRi (fun _ => True) := rfl
theorem c45_50 : xT 45 50 = oAld 3 51 := rfl
theorem c45_51 : xT 45 51 = oGeti 5 2 54 := rfl
theorem c45_54 : xT 45 54 = oIf (fun x => x = 0) 61 57 := rfl
theorem c45_57 : xT 45 57 = oPush (.int (1)) 58 := rfl
theorem c45_58 : xT 45 58 = oGoto 62 := rfl
theorem c45_61 : xT 45 61 = oPush (.int (0)) 62 := rfl
theorem c45_62 : xT 45 62 = oTr [] (oRi (fun _ => True)) := rfl
theorem c45_63 : xT 45 63 = oPush (.int (-2)) 65 := rfl
theorem c45_65 : xT 45 65 = oRi (fun _ => True) := rfl
theorem c46_0 : xT 46 0 = oIld 1 1 := rfl
theorem c46_1 : xT 46 1 = oIf (fun x => x < 0) 12 4 := rfl
theorem c46_4 : xT 46 4 = oIld 1 5 := rfl
theorem c46_5 : xT 46 5 = oAld 0 6 := rfl
theorem c46_6 : xT 46 6 = oGeti 11 10 9 := rfl
theorem c46_9 : xT 46 9 = oIcmp (fun x y => x < y) 16 12 := rfl
theorem c46_12 : xT 46 12 = oTr [] (oPush .null 13) := rfl
theorem c46_13 : xT 46 13 = oGoto 22 := rfl
theorem c46_16 : xT 46 16 = oAld 0 17 := rfl
theorem c46_17 : xT 46 17 = oGetp 11 5 20 := rfl
theorem c46_20 : xT 46 20 = oIld 1 21 := rfl
theorem c46_21 : xT 46 21 = oAldp 23 22 := rfl
theorem c46_22 : xT 46 22 = oTr [] (oRa) := rfl
theorem c47_0 : xT 47 0 = oAld 0 1 := rfl
theorem c47_1 : xT 47 1 = oIld 1 2 := rfl
theorem c47_2 : xT 47 2 = oCallV 12 46 2 5 := rfl
theorem c47_5 : xT 47 5 = oAst 4 7 5 := rfl
theorem c47_7 : xT 47 7 = oAld 4 9 := rfl
theorem c47_9 : xT 47 9 = oIfn 21 12 := rfl
theorem c47_12 : xT 47 12 = oAld 4 14 := rfl
theorem c47_14 : xT 47 14 = oIld 2 15 := rfl
theorem c47_15 : xT 47 15 = oCallV 6 48 2 18 := rfl
theorem c47_18 : xT 47 18 = oIf (fun x => x = 0) 21 24 := rfl
theorem c47_21 : xT 47 21 = oTr [] (oPush (.int (-2)) 23) := rfl
theorem c47_23 : xT 47 23 = oRi (fun _ => True) := rfl
theorem c47_24 : xT 47 24 = oIld 3 25 := rfl
theorem c47_25 : xT 47 25 = oSw [(0, 52), (1, 60), (2, 68)] 76 := rfl
theorem c47_52 : xT 47 52 = oAld 4 54 := rfl
theorem c47_54 : xT 47 54 = oGetp 5 3 57 := rfl
theorem c47_57 : xT 47 57 = oIld 2 58 := rfl
theorem c47_58 : xT 47 58 = oAldi 20 59 := rfl
theorem c47_59 : xT 47 59 = oRi (fun _ => True) := rfl
theorem c47_60 : xT 47 60 = oAld 4 62 := rfl
theorem c47_62 : xT 47 62 = oGetp 5 4 65 := rfl
theorem c47_65 : xT 47 65 = oIld 2 66 := rfl
theorem c47_66 : xT 47 66 = oAldi 20 67 := rfl
theorem c47_67 : xT 47 67 = oRi (fun _ => True) := rfl
theorem c47_68 : xT 47 68 = oAld 4 70 := rfl
theorem c47_70 : xT 47 70 = oGetp 5 5 73 := rfl
theorem c47_73 : xT 47 73 = oIld 2 74 := rfl
theorem c47_74 : xT 47 74 = oAldi 20 75 := rfl
theorem c47_75 : xT 47 75 = oRi (fun _ => True) := rfl
theorem c47_76 : xT 47 76 = oPush (.int (-2)) 78 := rfl
theorem c47_78 : xT 47 78 = oRi (fun _ => True) := rfl
theorem c48_0 : xT 48 0 = oIld 1 1 := rfl
theorem c48_1 : xT 48 1 = oIf (fun x => x < 0) 16 4 := rfl
theorem c48_4 : xT 48 4 = oIld 1 5 := rfl
theorem c48_5 : xT 48 5 = oAld 0 6 := rfl
theorem c48_6 : xT 48 6 = oGeti 5 0 9 := rfl
theorem c48_9 : xT 48 9 = oIcmp (fun x y => y ≤ x) 16 12 := rfl
theorem c48_12 : xT 48 12 = oPush (.int (1)) 13 := rfl
theorem c48_13 : xT 48 13 = oGoto 17 := rfl
theorem c48_16 : xT 48 16 = oTr [] (oPush (.int (0)) 17) := rfl
theorem c48_17 : xT 48 17 = oTr [] (oRi (fun x => x = 0 ∨ x = 1)) := rfl
theorem c49_0 : xT 49 0 = oAld 0 1 := rfl
theorem c49_1 : xT 49 1 = oIld 1 2 := rfl
theorem c49_2 : xT 49 2 = oCallV 12 46 2 5 := rfl
theorem c49_5 : xT 49 5 = oAst 3 6 4 := rfl
theorem c49_6 : xT 49 6 = oAld 3 7 := rfl
theorem c49_7 : xT 49 7 = oIfn 14 10 := rfl
theorem c49_10 : xT 49 10 = oIld 2 11 := rfl
theorem c49_11 : xT 49 11 = oIf (fun x => 0 ≤ x) 19 14 := rfl
theorem c49_14 : xT 49 14 = oTr [] (oPush (.int (-2)) 16) := rfl
theorem c49_16 : xT 49 16 = oGoto 24 := rfl
theorem c49_19 : xT 49 19 = oAld 3 20 := rfl
theorem c49_20 : xT 49 20 = oIld 2 21 := rfl
theorem c49_21 : xT 49 21 = oCallV 6 50 2 24 := rfl
theorem c49_24 : xT 49 24 = oTr [] (oRi (fun _ => True)) := rfl
theorem c50_0 : xT 50 0 = oIld 1 1 := rfl
theorem c50_1 : xT 50 1 = oIf (fun x => x < 0) 12 4 := rfl
theorem c50_4 : xT 50 4 = oAld 0 5 := rfl
theorem c50_5 : xT 50 5 = oGeti 5 1 8 := rfl
theorem c50_8 : xT 50 8 = oPush (.int (1)) 9 := rfl
theorem c50_9 : xT 50 9 = oIcmp (fun x y => y ≤ x) 16 12 := rfl
theorem c50_12 : xT 50 12 = oTr [] (oPush (.int (-1)) 13) := rfl
theorem c50_13 : xT 50 13 = oGoto 27 := rfl
theorem c50_16 : xT 50 16 = oAld 0 17 := rfl
theorem c50_17 : xT 50 17 = oGetp 5 6 20 := rfl
theorem c50_20 : xT 50 20 = oIld 1 21 := rfl
theorem c50_21 : xT 50 21 = oAld 0 22 := rfl
theorem c50_22 : xT 50 22 = oGeti 5 1 25 := rfl
theorem c50_25 : xT 50 25 = oDiv (fun x y => x - x / y * y) 26 := rfl
theorem c50_26 : xT 50 26 = oAldi 21 27 := rfl
theorem c50_27 : xT 50 27 = oTr [] (oRi (fun _ => True)) := rfl
theorem c51_0 : xT 51 0 = oAld 0 1 := rfl
theorem c51_1 : xT 51 1 = oIld 1 2 := rfl
theorem c51_2 : xT 51 2 = oCallV 12 46 2 5 := rfl
theorem c51_5 : xT 51 5 = oAst 4 7 5 := rfl
theorem c51_7 : xT 51 7 = oAld 4 9 := rfl
theorem c51_9 : xT 51 9 = oIfn 32 12 := rfl
theorem c51_12 : xT 51 12 = oIld 2 13 := rfl
theorem c51_13 : xT 51 13 = oIf (fun x => x < 0) 32 16 := rfl
theorem c51_16 : xT 51 16 = oIld 2 17 := rfl
theorem c51_17 : xT 51 17 = oPush (.int (99999)) 19 := rfl
theorem c51_19 : xT 51 19 = oIcmp (fun x y => y < x) 32 22 := rfl
theorem c51_22 : xT 51 22 = oIld 3 23 := rfl
theorem c51_23 : xT 51 23 = oIf (fun x => x < 0) 32 26 := rfl
theorem c51_26 : xT 51 26 = oIld 3 27 := rfl
theorem c51_27 : xT 51 27 = oPush (.int (99999)) 29 := rfl
theorem c51_29 : xT 51 29 = oIcmp (fun x y => x ≤ y) 35 32 := rfl
theorem c51_32 : xT 51 32 = oTr [] (oPush (.int (-2)) 34) := rfl
theorem c51_34 : xT 51 34 = oRi (fun _ => True) := rfl
theorem c51_35 : xT 51 35 = oAld 4 37 := rfl
theorem c51_37 : xT 51 37 = oIld 2 38 := rfl
theorem c51_38 : xT 51 38 = oIld 3 39 := rfl
theorem c51_39 : xT 51 39 = oBin (fun x y => x + y) 40 := rfl
theorem c51_40 : xT 51 40 = oPush (.int (4)) 41 := rfl
theorem c51_41 : xT 51 41 = oDiv (fun x y => x - x / y * y) 42 := rfl
theorem c51_42 : xT 51 42 = oPush (.int (2)) 43 := rfl
theorem c51_43 : xT 51 43 = oIcmp (fun x y => y ≤ x) 50 46 := rfl
theorem c51_46 : xT 51 46 = oIld 2 47 := rfl
theorem c51_47 : xT 51 47 = oGoto 51 := rfl
theorem c51_50 : xT 51 50 = oIld 3 51 := rfl
theorem c51_51 : xT 51 51 = oTr [] (oCallV 6 50 2 54) := rfl
theorem c51_54 : xT 51 54 = oRi (fun _ => True) := rfl
theorem c52_0 : xT 52 0 = oAld 0 1 := rfl
theorem c52_1 : xT 52 1 = oIld 1 2 := rfl
theorem c52_2 : xT 52 2 = oCallV 12 46 2 5 := rfl
theorem c52_5 : xT 52 5 = oAst 3 6 4 := rfl
theorem c52_6 : xT 52 6 = oAld 3 7 := rfl
theorem c52_7 : xT 52 7 = oIfn 23 10 := rfl
theorem c52_10 : xT 52 10 = oIld 2 11 := rfl
theorem c52_11 : xT 52 11 = oPush (.int (100)) 13 := rfl
theorem c52_13 : xT 52 13 = oIcmp (fun x y => x < y) 23 16 := rfl
theorem c52_16 : xT 52 16 = oIld 2 17 := rfl
theorem c52_17 : xT 52 17 = oPush (.int (9999)) 20 := rfl
theorem c52_20 : xT 52 20 = oIcmp (fun x y => x ≤ y) 26 23 := rfl
theorem c52_23 : xT 52 23 = oTr [] (oPush (.int (-2)) 25) := rfl
theorem c52_25 : xT 52 25 = oRi (fun _ => True) := rfl
theorem c52_26 : xT 52 26 = oAld 0 27 := rfl
theorem c52_27 : xT 52 27 = oGeti 11 11 30 := rfl
theorem c52_30 : xT 52 30 = oPush (.int (4)) 31 := rfl
theorem c52_31 : xT 52 31 = oIcmp (fun x y => x < y) 37 34 := rfl
theorem c52_34 : xT 52 34 = oPush (.int (-4)) 36 := rfl
theorem c52_36 : xT 52 36 = oRi (fun _ => True) := rfl
theorem c52_37 : xT 52 37 = oAld 0 38 := rfl
theorem c52_38 : xT 52 38 = oGetp 11 6 41 := rfl
theorem c52_41 : xT 52 41 = oAld 0 42 := rfl
theorem c52_42 : xT 52 42 = oGeti 11 11 45 := rfl
theorem c52_45 : xT 52 45 = oNew 0 5 48 := rfl
theorem c52_48 : xT 52 48 = oDup 49 := rfl
theorem c52_49 : xT 52 49 = oAld 3 50 := rfl
theorem c52_50 : xT 52 50 = oIld 1 51 := rfl
theorem c52_51 : xT 52 51 = oIld 2 52 := rfl
theorem c52_52 : xT 52 52 = oCallI 44 4 55 := rfl
theorem c52_55 : xT 52 55 = oAstp 24 0 56 := rfl
theorem c52_56 : xT 52 56 = oAld 0 57 := rfl
theorem c52_57 : xT 52 57 = oDup 58 := rfl
theorem c52_58 : xT 52 58 = oGeti 11 11 61 := rfl
theorem c52_61 : xT 52 61 = oPush (.int (1)) 62 := rfl
theorem c52_62 : xT 52 62 = oBin (fun x y => x + y) 63 := rfl
theorem c52_63 : xT 52 63 = oPuti 11 11 66 := rfl
theorem c52_66 : xT 52 66 = oAld 0 67 := rfl
theorem c52_67 : xT 52 67 = oGeti 11 11 70 := rfl
theorem c52_70 : xT 52 70 = oPush (.int (1)) 71 := rfl
theorem c52_71 : xT 52 71 = oBin (fun x y => x - y) 72 := rfl
theorem c52_72 : xT 52 72 = oRi (fun _ => True) := rfl
theorem c53_0 : xT 53 0 = oAld 0 1 := rfl
theorem c53_1 : xT 53 1 = oIld 1 2 := rfl
theorem c53_2 : xT 53 2 = oCallV 12 54 2 5 := rfl
theorem c53_5 : xT 53 5 = oAst 3 6 4 := rfl
theorem c53_6 : xT 53 6 = oAld 3 7 := rfl
theorem c53_7 : xT 53 7 = oIfn 10 15 := rfl
theorem c53_10 : xT 53 10 = oPush (.int (-2)) 12 := rfl
theorem c53_12 : xT 53 12 = oGoto 20 := rfl
theorem c53_15 : xT 53 15 = oAld 3 16 := rfl
theorem c53_16 : xT 53 16 = oIld 2 17 := rfl
theorem c53_17 : xT 53 17 = oCallV 1 55 2 20 := rfl
theorem c53_20 : xT 53 20 = oTr [] (oRi (fun _ => True)) := rfl
theorem c54_0 : xT 54 0 = oIld 1 1 := rfl
theorem c54_1 : xT 54 1 = oIf (fun x => x < 0) 12 4 := rfl
theorem c54_4 : xT 54 4 = oIld 1 5 := rfl
theorem c54_5 : xT 54 5 = oAld 0 6 := rfl
theorem c54_6 : xT 54 6 = oGeti 11 11 9 := rfl
theorem c54_9 : xT 54 9 = oIcmp (fun x y => x < y) 16 12 := rfl
theorem c54_12 : xT 54 12 = oTr [] (oPush .null 13) := rfl
theorem c54_13 : xT 54 13 = oGoto 22 := rfl
theorem c54_16 : xT 54 16 = oAld 0 17 := rfl
theorem c54_17 : xT 54 17 = oGetp 11 6 20 := rfl
theorem c54_20 : xT 54 20 = oIld 1 21 := rfl
theorem c54_21 : xT 54 21 = oAldp 24 22 := rfl
theorem c54_22 : xT 54 22 = oTr [] (oRa) := rfl
theorem c55_0 : xT 55 0 = oIld 1 1 := rfl
theorem c55_1 : xT 55 1 = oIf (fun x => x < 0) 21 4 := rfl
theorem c55_4 : xT 55 4 = oIld 1 5 := rfl
theorem c55_5 : xT 55 5 = oAld 0 6 := rfl
theorem c55_6 : xT 55 6 = oGeti 0 2 9 := rfl
theorem c55_9 : xT 55 9 = oIcmp (fun x y => y ≤ x) 21 12 := rfl
theorem c55_12 : xT 55 12 = oAld 0 13 := rfl
theorem c55_13 : xT 55 13 = oIld 1 14 := rfl
theorem c55_14 : xT 55 14 = oPush (.int (1)) 15 := rfl
theorem c55_15 : xT 55 15 = oCallV 1 56 3 18 := rfl
theorem c55_18 : xT 55 18 = oIf (fun x => x = 0) 21 24 := rfl
theorem c55_21 : xT 55 21 = oTr [] (oPush (.int (-2)) 23) := rfl
theorem c55_23 : xT 55 23 = oRi (fun _ => True) := rfl
theorem c55_24 : xT 55 24 = oAld 0 25 := rfl
theorem c55_25 : xT 55 25 = oGeti 0 4 28 := rfl
theorem c55_28 : xT 55 28 = oPush (.int (10)) 30 := rfl
theorem c55_30 : xT 55 30 = oIcmp (fun x y => x < y) 36 33 := rfl
theorem c55_33 : xT 55 33 = oPush (.int (-4)) 35 := rfl
theorem c55_35 : xT 55 35 = oRi (fun _ => True) := rfl
theorem c55_36 : xT 55 36 = oAld 0 37 := rfl
theorem c55_37 : xT 55 37 = oGetp 0 3 40 := rfl
theorem c55_40 : xT 55 40 = oAld 0 41 := rfl
theorem c55_41 : xT 55 41 = oGeti 0 4 44 := rfl
theorem c55_44 : xT 55 44 = oIld 1 45 := rfl
theorem c55_45 : xT 55 45 = oAsti 20 (fun x => x) 46 := rfl
theorem c55_46 : xT 55 46 = oAld 0 47 := rfl
theorem c55_47 : xT 55 47 = oDup 48 := rfl
theorem c55_48 : xT 55 48 = oGeti 0 4 51 := rfl
theorem c55_51 : xT 55 51 = oPush (.int (1)) 52 := rfl
theorem c55_52 : xT 55 52 = oBin (fun x y => x + y) 53 := rfl
theorem c55_53 : xT 55 53 = oPuti 0 4 56 := rfl
theorem c55_56 : xT 55 56 = oAld 0 57 := rfl
theorem c55_57 : xT 55 57 = oGeti 0 4 60 := rfl
theorem c55_60 : xT 55 60 = oRi (fun _ => True) := rfl
theorem c56_0 : xT 56 0 = oPush (.int (0)) 1 := rfl
theorem c56_1 : xT 56 1 = oIst 3 2 4 := rfl
theorem c56_2 : xT 56 2 = oTr [0, 1, 2, 3] (oIld 3 3) := rfl
theorem c56_3 : xT 56 3 = oAld 0 4 := rfl
theorem c56_4 : xT 56 4 = oGeti 0 4 7 := rfl
theorem c56_7 : xT 56 7 = oIcmp (fun x y => y ≤ x) 46 10 := rfl
theorem c56_10 : xT 56 10 = oIld 3 11 := rfl
theorem c56_11 : xT 56 11 = oPush (.int (10)) 13 := rfl
theorem c56_13 : xT 56 13 = oIcmp (fun x y => y ≤ x) 46 16 := rfl
theorem c56_16 : xT 56 16 = oAld 0 17 := rfl
theorem c56_17 : xT 56 17 = oGetp 0 3 20 := rfl
theorem c56_20 : xT 56 20 = oIld 3 21 := rfl
theorem c56_21 : xT 56 21 = oAldi 20 22 := rfl
theorem c56_22 : xT 56 22 = oIld 1 23 := rfl
theorem c56_23 : xT 56 23 = oIcmp (fun x y => x < y) 40 26 := rfl
theorem c56_26 : xT 56 26 = oAld 0 27 := rfl
theorem c56_27 : xT 56 27 = oGetp 0 3 30 := rfl
theorem c56_30 : xT 56 30 = oIld 3 31 := rfl
theorem c56_31 : xT 56 31 = oAldi 20 32 := rfl
theorem c56_32 : xT 56 32 = oIld 1 33 := rfl
theorem c56_33 : xT 56 33 = oIld 2 34 := rfl
theorem c56_34 : xT 56 34 = oBin (fun x y => x + y) 35 := rfl
theorem c56_35 : xT 56 35 = oIcmp (fun x y => y ≤ x) 40 38 := rfl
theorem c56_38 : xT 56 38 = oPush (.int (0)) 39 := rfl
theorem c56_39 : xT 56 39 = oRi (fun x => x = 0 ∨ x = 1) := rfl
theorem c56_40 : xT 56 40 = oTr [0, 1, 2, 3] (oIinc 3 (1) 43 4) := rfl
theorem c56_43 : xT 56 43 = oGoto 2 := rfl
theorem c56_46 : xT 56 46 = oTr [] (oPush (.int (1)) 47) := rfl
theorem c56_47 : xT 56 47 = oRi (fun x => x = 0 ∨ x = 1) := rfl
theorem c57_0 : xT 57 0 = oIld 2 1 := rfl
theorem c57_1 : xT 57 1 = oPush (.int (100)) 3 := rfl
theorem c57_3 : xT 57 3 = oDiv (fun x y => x / y) 4 := rfl
theorem c57_4 : xT 57 4 = oIst 5 6 9 := rfl
theorem c57_6 : xT 57 6 = oIld 2 7 := rfl
theorem c57_7 : xT 57 7 = oPush (.int (100)) 9 := rfl
theorem c57_9 : xT 57 9 = oDiv (fun x y => x - x / y * y) 10 := rfl
theorem c57_10 : xT 57 10 = oIst 6 12 9 := rfl
theorem c57_12 : xT 57 12 = oIld 3 13 := rfl
theorem c57_13 : xT 57 13 = oPush (.int (100)) 15 := rfl
theorem c57_15 : xT 57 15 = oDiv (fun x y => x / y) 16 := rfl
theorem c57_16 : xT 57 16 = oIst 7 18 9 := rfl
theorem c57_18 : xT 57 18 = oIld 3 19 := rfl
theorem c57_19 : xT 57 19 = oPush (.int (100)) 21 := rfl
theorem c57_21 : xT 57 21 = oDiv (fun x y => x - x / y * y) 22 := rfl
theorem c57_22 : xT 57 22 = oIst 8 24 9 := rfl
theorem c57_24 : xT 57 24 = oIld 1 25 := rfl
theorem c57_25 : xT 57 25 = oIf (fun x => x < 0) 60 28 := rfl
theorem c57_28 : xT 57 28 = oIld 1 29 := rfl
theorem c57_29 : xT 57 29 = oPush (.int (6)) 31 := rfl
theorem c57_31 : xT 57 31 = oIcmp (fun x y => y ≤ x) 60 34 := rfl
theorem c57_34 : xT 57 34 = oIld 4 36 := rfl
theorem c57_36 : xT 57 36 = oIf (fun x => x < 0) 60 39 := rfl
theorem c57_39 : xT 57 39 = oIld 4 41 := rfl
theorem c57_41 : xT 57 41 = oPush (.int (10)) 43 := rfl
theorem c57_43 : xT 57 43 = oIcmp (fun x y => y ≤ x) 60 46 := rfl
theorem c57_46 : xT 57 46 = oIld 5 48 := rfl
theorem c57_48 : xT 57 48 = oIld 6 50 := rfl
theorem c57_50 : xT 57 50 = oIld 7 52 := rfl
theorem c57_52 : xT 57 52 = oIld 8 54 := rfl
theorem c57_54 : xT 57 54 = oCallS 58 4 57 := rfl
theorem c57_57 : xT 57 57 = oIf (fun x => x = 0) 60 63 := rfl
theorem c57_60 : xT 57 60 = oTr [] (oPush (.int (-2)) 62) := rfl
theorem c57_62 : xT 57 62 = oRi (fun _ => True) := rfl
theorem c57_63 : xT 57 63 = oAld 0 64 := rfl
theorem c57_64 : xT 57 64 = oGeti 11 12 67 := rfl
theorem c57_67 : xT 57 67 = oPush (.int (8)) 69 := rfl
theorem c57_69 : xT 57 69 = oIcmp (fun x y => x < y) 75 72 := rfl
theorem c57_72 : xT 57 72 = oPush (.int (-4)) 74 := rfl
theorem c57_74 : xT 57 74 = oRi (fun _ => True) := rfl
theorem c57_75 : xT 57 75 = oAld 0 76 := rfl
theorem c57_76 : xT 57 76 = oGetp 11 7 79 := rfl
theorem c57_79 : xT 57 79 = oAld 0 80 := rfl
theorem c57_80 : xT 57 80 = oGeti 11 12 83 := rfl
theorem c57_83 : xT 57 83 = oNew 2 16 86 := rfl
theorem c57_86 : xT 57 86 = oDup 87 := rfl
theorem c57_87 : xT 57 87 = oIld 1 88 := rfl
theorem c57_88 : xT 57 88 = oIld 5 90 := rfl
theorem c57_90 : xT 57 90 = oIld 6 92 := rfl
theorem c57_92 : xT 57 92 = oIld 7 94 := rfl
theorem c57_94 : xT 57 94 = oIld 8 96 := rfl
theorem c57_96 : xT 57 96 = oIld 4 98 := rfl
theorem c57_98 : xT 57 98 = oCallI 62 7 101 := rfl
theorem c57_101 : xT 57 101 = oAstp 25 2 102 := rfl
theorem c57_102 : xT 57 102 = oAld 0 103 := rfl
theorem c57_103 : xT 57 103 = oDup 104 := rfl
theorem c57_104 : xT 57 104 = oGeti 11 12 107 := rfl
theorem c57_107 : xT 57 107 = oPush (.int (1)) 108 := rfl
theorem c57_108 : xT 57 108 = oBin (fun x y => x + y) 109 := rfl
theorem c57_109 : xT 57 109 = oPuti 11 12 112 := rfl
theorem c57_112 : xT 57 112 = oAld 0 113 := rfl
theorem c57_113 : xT 57 113 = oGeti 11 12 116 := rfl
theorem c57_116 : xT 57 116 = oPush (.int (1)) 117 := rfl
theorem c57_117 : xT 57 117 = oBin (fun x y => x - y) 118 := rfl
theorem c57_118 : xT 57 118 = oRi (fun _ => True) := rfl
theorem c58_0 : xT 58 0 = oIld 0 1 := rfl
theorem c58_1 : xT 58 1 = oPush (.int (4)) 2 := rfl
theorem c58_2 : xT 58 2 = oIcmp (fun x y => x < y) 45 5 := rfl
theorem c58_5 : xT 58 5 = oIld 0 6 := rfl
theorem c58_6 : xT 58 6 = oPush (.int (40)) 8 := rfl
theorem c58_8 : xT 58 8 = oIcmp (fun x y => y < x) 45 11 := rfl
theorem c58_11 : xT 58 11 = oIld 1 12 := rfl
theorem c58_12 : xT 58 12 = oPush (.int (20)) 14 := rfl
theorem c58_14 : xT 58 14 = oIcmp (fun x y => x < y) 45 17 := rfl
theorem c58_17 : xT 58 17 = oIld 1 18 := rfl
theorem c58_18 : xT 58 18 = oPush (.int (60)) 20 := rfl
theorem c58_20 : xT 58 20 = oIcmp (fun x y => y < x) 45 23 := rfl
theorem c58_23 : xT 58 23 = oIld 3 24 := rfl
theorem c58_24 : xT 58 24 = oPush (.int (20)) 26 := rfl
theorem c58_26 : xT 58 26 = oIcmp (fun x y => x < y) 45 29 := rfl
theorem c58_29 : xT 58 29 = oIld 3 30 := rfl
theorem c58_30 : xT 58 30 = oIld 1 31 := rfl
theorem c58_31 : xT 58 31 = oIcmp (fun x y => y < x) 45 34 := rfl
theorem c58_34 : xT 58 34 = oIld 2 35 := rfl
theorem c58_35 : xT 58 35 = oPush (.int (4)) 36 := rfl
theorem c58_36 : xT 58 36 = oIcmp (fun x y => x < y) 45 39 := rfl
theorem c58_39 : xT 58 39 = oIld 2 40 := rfl
theorem c58_40 : xT 58 40 = oPush (.int (24)) 42 := rfl
theorem c58_42 : xT 58 42 = oIcmp (fun x y => x ≤ y) 47 45 := rfl
theorem c58_45 : xT 58 45 = oTr [] (oPush (.int (0)) 46) := rfl
theorem c58_46 : xT 58 46 = oRi (fun x => x = 0 ∨ x = 1) := rfl
theorem c58_47 : xT 58 47 = oIld 0 48 := rfl
theorem c58_48 : xT 58 48 = oIld 1 49 := rfl
theorem c58_49 : xT 58 49 = oIld 3 50 := rfl
theorem c58_50 : xT 58 50 = oCallS 59 3 53 := rfl
theorem c58_53 : xT 58 53 = oIld 2 54 := rfl
theorem c58_54 : xT 58 54 = oIld 0 55 := rfl
theorem c58_55 : xT 58 55 = oIld 1 56 := rfl
theorem c58_56 : xT 58 56 = oIld 2 57 := rfl
theorem c58_57 : xT 58 57 = oCallS 60 3 60 := rfl
theorem c58_60 : xT 58 60 = oPush (.int (1)) 61 := rfl
theorem c58_61 : xT 58 61 = oBin (fun x y => x - y) 62 := rfl
theorem c58_62 : xT 58 62 = oBin (fun x y => x * y) 63 := rfl
theorem c58_63 : xT 58 63 = oPush (.int (1)) 64 := rfl
theorem c58_64 : xT 58 64 = oBin (fun x y => x + y) 65 := rfl
theorem c58_65 : xT 58 65 = oIcmp (fun x y => y ≤ x) 72 68 := rfl
theorem c58_68 : xT 58 68 = oPush (.int (1)) 69 := rfl
theorem c58_69 : xT 58 69 = oGoto 73 := rfl
theorem c58_72 : xT 58 72 = oPush (.int (0)) 73 := rfl
theorem c58_73 : xT 58 73 = oTr [] (oRi (fun x => x = 0 ∨ x = 1)) := rfl
theorem c59_0 : xT 59 0 = oIld 1 1 := rfl
theorem c59_1 : xT 59 1 = oIld 2 2 := rfl
theorem c59_2 : xT 59 2 = oBin (fun x y => x - y) 3 := rfl
theorem c59_3 : xT 59 3 = oIld 0 4 := rfl
theorem c59_4 : xT 59 4 = oBin (fun x y => x * y) 5 := rfl
theorem c59_5 : xT 59 5 = oPush (.int (2)) 6 := rfl
theorem c59_6 : xT 59 6 = oDiv (fun x y => x / y) 7 := rfl
theorem c59_7 : xT 59 7 = oRi (fun _ => True) := rfl
theorem c60_0 : xT 60 0 = oIld 2 1 := rfl
theorem c60_1 : xT 60 1 = oPush (.int (1)) 2 := rfl
theorem c60_2 : xT 60 2 = oIcmp (fun x y => y ≤ x) 9 5 := rfl
theorem c60_5 : xT 60 5 = oPush (.int (1)) 6 := rfl
theorem c60_6 : xT 60 6 = oGoto 20 := rfl
theorem c60_9 : xT 60 9 = oPush (.int (1)) 10 := rfl
theorem c60_10 : xT 60 10 = oIld 1 11 := rfl
theorem c60_11 : xT 60 11 = oIld 0 12 := rfl
theorem c60_12 : xT 60 12 = oBin (fun x y => x * y) 13 := rfl
theorem c60_13 : xT 60 13 = oPush (.int (2)) 14 := rfl
theorem c60_14 : xT 60 14 = oIld 2 15 := rfl
theorem c60_15 : xT 60 15 = oBin (fun x y => x * y) 16 := rfl
theorem c60_16 : xT 60 16 = oDiv (fun x y => x / y) 17 := rfl
theorem c60_17 : xT 60 17 = oCallS 61 2 20 := rfl
theorem c60_20 : xT 60 20 = oTr [] (oRi (fun _ => True)) := rfl
theorem c61_0 : xT 61 0 = oIld 0 1 := rfl
theorem c61_1 : xT 61 1 = oIld 1 2 := rfl
theorem c61_2 : xT 61 2 = oIcmp (fun x y => x < y) 9 5 := rfl
theorem c61_5 : xT 61 5 = oIld 0 6 := rfl
theorem c61_6 : xT 61 6 = oGoto 10 := rfl
theorem c61_9 : xT 61 9 = oIld 1 10 := rfl
theorem c61_10 : xT 61 10 = oTr [] (oRi (fun _ => True)) := rfl
theorem c62_0 : xT 62 0 = oAld 0 1 := rfl
theorem c62_1 : xT 62 1 = oObj 4 := rfl
theorem c62_4 : xT 62 4 = oAld 0 5 := rfl
theorem c62_5 : xT 62 5 = oPush (.int (-1)) 6 := rfl
theorem c62_6 : xT 62 6 = oPuti 2 12 9 := rfl
theorem c62_9 : xT 62 9 = oAld 0 10 := rfl
theorem c62_10 : xT 62 10 = oPush (.int (-1)) 11 := rfl
theorem c62_11 : xT 62 11 = oPuti 2 13 14 := rfl
theorem c62_14 : xT 62 14 = oAld 0 15 := rfl
theorem c62_15 : xT 62 15 = oIld 1 16 := rfl
theorem c62_16 : xT 62 16 = oPuti 2 0 19 := rfl
theorem c62_19 : xT 62 19 = oAld 0 20 := rfl
theorem c62_20 : xT 62 20 = oIld 2 21 := rfl
theorem c62_21 : xT 62 21 = oPuti 2 1 24 := rfl
theorem c62_24 : xT 62 24 = oAld 0 25 := rfl
theorem c62_25 : xT 62 25 = oIld 3 26 := rfl
theorem c62_26 : xT 62 26 = oPuti 2 2 29 := rfl
theorem c62_29 : xT 62 29 = oAld 0 30 := rfl
theorem c62_30 : xT 62 30 = oIld 4 32 := rfl
theorem c62_32 : xT 62 32 = oPuti 2 4 35 := rfl
theorem c62_35 : xT 62 35 = oAld 0 36 := rfl
theorem c62_36 : xT 62 36 = oIld 5 38 := rfl
theorem c62_38 : xT 62 38 = oPuti 2 3 41 := rfl
theorem c62_41 : xT 62 41 = oAld 0 42 := rfl
theorem c62_42 : xT 62 42 = oIld 6 44 := rfl
theorem c62_44 : xT 62 44 = oPuti 2 5 47 := rfl
theorem c62_47 : xT 62 47 = oAld 0 48 := rfl
theorem c62_48 : xT 62 48 = oIld 2 49 := rfl
theorem c62_49 : xT 62 49 = oIld 3 50 := rfl
theorem c62_50 : xT 62 50 = oIld 4 52 := rfl
theorem c62_52 : xT 62 52 = oCallS 60 3 55 := rfl
theorem c62_55 : xT 62 55 = oPuti 2 6 58 := rfl
theorem c62_58 : xT 62 58 = oAld 0 59 := rfl
theorem c62_59 : xT 62 59 = oIld 3 60 := rfl
theorem c62_60 : xT 62 60 = oIld 2 61 := rfl
theorem c62_61 : xT 62 61 = oBin (fun x y => x * y) 62 := rfl
theorem c62_62 : xT 62 62 = oIld 4 64 := rfl
theorem c62_64 : xT 62 64 = oAld 0 65 := rfl
theorem c62_65 : xT 62 65 = oGeti 2 6 68 := rfl
theorem c62_68 : xT 62 68 = oBin (fun x y => x * y) 69 := rfl
theorem c62_69 : xT 62 69 = oBin (fun x y => x - y) 70 := rfl
theorem c62_70 : xT 62 70 = oPuti 2 7 73 := rfl
theorem c62_73 : xT 62 73 = oAld 0 74 := rfl
theorem c62_74 : xT 62 74 = oIld 2 75 := rfl
theorem c62_75 : xT 62 75 = oIld 3 76 := rfl
theorem c62_76 : xT 62 76 = oIld 5 78 := rfl
theorem c62_78 : xT 62 78 = oCallS 59 3 81 := rfl
theorem c62_81 : xT 62 81 = oPuti 2 8 84 := rfl
theorem c62_84 : xT 62 84 = oAld 0 85 := rfl
theorem c62_85 : xT 62 85 = oIld 1 86 := rfl
theorem c62_86 : xT 62 86 = oPush (.int (1)) 87 := rfl
theorem c62_87 : xT 62 87 = oCallS 63 2 90 := rfl
theorem c62_90 : xT 62 90 = oPutb 2 9 93 := rfl
theorem c62_93 : xT 62 93 = oAld 0 94 := rfl
theorem c62_94 : xT 62 94 = oNew 4 7 97 := rfl
theorem c62_97 : xT 62 97 = oDup 98 := rfl
theorem c62_98 : xT 62 98 = oIld 4 100 := rfl
theorem c62_100 : xT 62 100 = oCallI 64 2 103 := rfl
theorem c62_103 : xT 62 103 = oPutp 2 10 106 := rfl
theorem c62_106 : xT 62 106 = oRv := rfl
theorem c63_0 : xT 63 0 = oIld 0 1 := rfl
theorem c63_1 : xT 63 1 = oIst 2 2 4 := rfl
theorem c63_2 : xT 63 2 = oPush (.int (0)) 3 := rfl
theorem c63_3 : xT 63 3 = oIst 3 4 4 := rfl
theorem c63_4 : xT 63 4 = oTr [1, 2, 3] (oIld 3 5) := rfl
theorem c63_5 : xT 63 5 = oPush (.int (6)) 7 := rfl
theorem c63_7 : xT 63 7 = oIcmp (fun x y => y ≤ x) 39 10 := rfl
theorem c63_10 : xT 63 10 = oIld 2 11 := rfl
theorem c63_11 : xT 63 11 = oIf (fun x => x < 0) 39 14 := rfl
theorem c63_14 : xT 63 14 = oIld 2 15 := rfl
theorem c63_15 : xT 63 15 = oPush (.int (6)) 17 := rfl
theorem c63_17 : xT 63 17 = oIcmp (fun x y => y ≤ x) 39 20 := rfl
theorem c63_20 : xT 63 20 = oIld 2 21 := rfl
theorem c63_21 : xT 63 21 = oIld 1 22 := rfl
theorem c63_22 : xT 63 22 = oIcmp (fun x y => x = y) 25 27 := rfl
theorem c63_25 : xT 63 25 = oPush (.int (1)) 26 := rfl
theorem c63_26 : xT 63 26 = oRi (fun x => x = 0 ∨ x = 1) := rfl
theorem c63_27 : xT 63 27 = oGref 20 30 := rfl
theorem c63_30 : xT 63 30 = oIld 2 31 := rfl
theorem c63_31 : xT 63 31 = oAldi 40 32 := rfl
theorem c63_32 : xT 63 32 = oIst 2 33 4 := rfl
theorem c63_33 : xT 63 33 = oIinc 3 (1) 36 4 := rfl
theorem c63_36 : xT 63 36 = oGoto 4 := rfl
theorem c63_39 : xT 63 39 = oTr [] (oPush (.int (0)) 40) := rfl
theorem c63_40 : xT 63 40 = oRi (fun x => x = 0 ∨ x = 1) := rfl
theorem c64_0 : xT 64 0 = oAld 0 1 := rfl
theorem c64_1 : xT 64 1 = oObj 4 := rfl
theorem c64_4 : xT 64 4 = oAld 0 5 := rfl
theorem c64_5 : xT 64 5 = oIld 1 6 := rfl
theorem c64_6 : xT 64 6 = oNewa 20 8 := rfl
theorem c64_8 : xT 64 8 = oPutp 4 0 11 := rfl
theorem c64_11 : xT 64 11 = oAld 0 12 := rfl
theorem c64_12 : xT 64 12 = oIld 1 13 := rfl
theorem c64_13 : xT 64 13 = oNewa 20 15 := rfl
theorem c64_15 : xT 64 15 = oPutp 4 1 18 := rfl
theorem c64_18 : xT 64 18 = oRv := rfl
theorem c65_0 : xT 65 0 = oAld 0 1 := rfl
theorem c65_1 : xT 65 1 = oIld 1 2 := rfl
theorem c65_2 : xT 65 2 = oCallV 12 66 2 5 := rfl
theorem c65_5 : xT 65 5 = oAst 3 6 4 := rfl
theorem c65_6 : xT 65 6 = oAld 3 7 := rfl
theorem c65_7 : xT 65 7 = oIfn 10 13 := rfl
theorem c65_10 : xT 65 10 = oPush (.int (-2)) 12 := rfl
theorem c65_12 : xT 65 12 = oRi (fun _ => True) := rfl
theorem c65_13 : xT 65 13 = oIld 2 14 := rfl
theorem c65_14 : xT 65 14 = oSw [(0, 72), (1, 77), (2, 82), (3, 87), (4, 92), (5, 97), (6, 102), (7, 107), (8, 120), (9, 125), (10, 130)] 135 := rfl
theorem c65_72 : xT 65 72 = oAld 3 73 := rfl
theorem c65_73 : xT 65 73 = oGeti 2 0 76 := rfl
theorem c65_76 : xT 65 76 = oRi (fun _ => True) := rfl
theorem c65_77 : xT 65 77 = oAld 3 78 := rfl
theorem c65_78 : xT 65 78 = oGeti 2 6 81 := rfl
theorem c65_81 : xT 65 81 = oRi (fun _ => True) := rfl
theorem c65_82 : xT 65 82 = oAld 3 83 := rfl
theorem c65_83 : xT 65 83 = oGeti 2 7 86 := rfl
theorem c65_86 : xT 65 86 = oRi (fun _ => True) := rfl
theorem c65_87 : xT 65 87 = oAld 3 88 := rfl
theorem c65_88 : xT 65 88 = oGeti 2 8 91 := rfl
theorem c65_91 : xT 65 91 = oRi (fun _ => True) := rfl
theorem c65_92 : xT 65 92 = oAld 3 93 := rfl
theorem c65_93 : xT 65 93 = oGeti 2 4 96 := rfl
theorem c65_96 : xT 65 96 = oRi (fun _ => True) := rfl
theorem c65_97 : xT 65 97 = oAld 3 98 := rfl
theorem c65_98 : xT 65 98 = oGeti 2 12 101 := rfl
theorem c65_101 : xT 65 101 = oRi (fun _ => True) := rfl
theorem c65_102 : xT 65 102 = oAld 3 103 := rfl
theorem c65_103 : xT 65 103 = oGeti 2 13 106 := rfl
theorem c65_106 : xT 65 106 = oRi (fun _ => True) := rfl
theorem c65_107 : xT 65 107 = oAld 3 108 := rfl
theorem c65_108 : xT 65 108 = oGeti 2 14 111 := rfl
theorem c65_111 : xT 65 111 = oIf (fun x => x = 0) 118 114 := rfl
theorem c65_114 : xT 65 114 = oPush (.int (1)) 115 := rfl
theorem c65_115 : xT 65 115 = oGoto 119 := rfl
theorem c65_118 : xT 65 118 = oPush (.int (0)) 119 := rfl
theorem c65_119 : xT 65 119 = oTr [] (oRi (fun _ => True)) := rfl
theorem c65_120 : xT 65 120 = oAld 3 121 := rfl
theorem c65_121 : xT 65 121 = oGeti 2 1 124 := rfl
theorem c65_124 : xT 65 124 = oRi (fun _ => True) := rfl
theorem c65_125 : xT 65 125 = oAld 3 126 := rfl
theorem c65_126 : xT 65 126 = oGeti 2 2 129 := rfl
theorem c65_129 : xT 65 129 = oRi (fun _ => True) := rfl
theorem c65_130 : xT 65 130 = oAld 3 131 := rfl
theorem c65_131 : xT 65 131 = oGeti 2 3 134 := rfl
theorem c65_134 : xT 65 134 = oRi (fun _ => True) := rfl
theorem c65_135 : xT 65 135 = oPush (.int (-2)) 137 := rfl
theorem c65_137 : xT 65 137 = oRi (fun _ => True) := rfl
theorem c66_0 : xT 66 0 = oIld 1 1 := rfl
theorem c66_1 : xT 66 1 = oIf (fun x => x < 0) 12 4 := rfl
theorem c66_4 : xT 66 4 = oIld 1 5 := rfl
theorem c66_5 : xT 66 5 = oAld 0 6 := rfl
theorem c66_6 : xT 66 6 = oGeti 11 12 9 := rfl
theorem c66_9 : xT 66 9 = oIcmp (fun x y => x < y) 16 12 := rfl
theorem c66_12 : xT 66 12 = oTr [] (oPush .null 13) := rfl
theorem c66_13 : xT 66 13 = oGoto 22 := rfl
theorem c66_16 : xT 66 16 = oAld 0 17 := rfl
theorem c66_17 : xT 66 17 = oGetp 11 7 20 := rfl
theorem c66_20 : xT 66 20 = oIld 1 21 := rfl
theorem c66_21 : xT 66 21 = oAldp 25 22 := rfl
theorem c66_22 : xT 66 22 = oTr [] (oRa) := rfl
theorem c67_0 : xT 67 0 = oAld 0 1 := rfl
theorem c67_1 : xT 67 1 = oIld 1 2 := rfl
theorem c67_2 : xT 67 2 = oCallV 12 66 2 5 := rfl
theorem c67_5 : xT 67 5 = oAst 3 6 6 := rfl
theorem c67_6 : xT 67 6 = oAld 0 7 := rfl
theorem c67_7 : xT 67 7 = oIld 2 8 := rfl
theorem c67_8 : xT 67 8 = oCallV 12 54 2 11 := rfl
theorem c67_11 : xT 67 11 = oAst 4 13 6 := rfl
theorem c67_13 : xT 67 13 = oAld 3 14 := rfl
theorem c67_14 : xT 67 14 = oIfn 34 17 := rfl
theorem c67_17 : xT 67 17 = oAld 4 19 := rfl
theorem c67_19 : xT 67 19 = oIfn 34 22 := rfl
theorem c67_22 : xT 67 22 = oAld 3 23 := rfl
theorem c67_23 : xT 67 23 = oAld 4 25 := rfl
theorem c67_25 : xT 67 25 = oGetp 0 0 28 := rfl
theorem c67_28 : xT 67 28 = oCallV 3 68 2 31 := rfl
theorem c67_31 : xT 67 31 = oIf (fun x => x = 0) 34 37 := rfl
theorem c67_34 : xT 67 34 = oTr [] (oPush (.int (-2)) 36) := rfl
theorem c67_36 : xT 67 36 = oRi (fun _ => True) := rfl
theorem c67_37 : xT 67 37 = oAld 0 38 := rfl
theorem c67_38 : xT 67 38 = oGetp 11 3 41 := rfl
theorem c67_41 : xT 67 41 = oAld 3 42 := rfl
theorem c67_42 : xT 67 42 = oAld 4 44 := rfl
theorem c67_44 : xT 67 44 = oCallV 4 69 3 47 := rfl
theorem c67_47 : xT 67 47 = oIst 5 49 6 := rfl
theorem c67_49 : xT 67 49 = oIld 5 51 := rfl
theorem c67_51 : xT 67 51 = oPush (.int (-1)) 52 := rfl
theorem c67_52 : xT 67 52 = oIcmp (fun x y => x = y) 73 55 := rfl
theorem c67_55 : xT 67 55 = oAld 0 56 := rfl
theorem c67_56 : xT 67 56 = oGetp 11 3 59 := rfl
theorem c67_59 : xT 67 59 = oAld 3 60 := rfl
theorem c67_60 : xT 67 60 = oGetp 2 10 63 := rfl
theorem c67_63 : xT 67 63 = oCallV 4 83 2 66 := rfl
theorem c67_66 : xT 67 66 = oAld 3 67 := rfl
theorem c67_67 : xT 67 67 = oAld 4 69 := rfl
theorem c67_69 : xT 67 69 = oIld 2 70 := rfl
theorem c67_70 : xT 67 70 = oCallV 3 85 3 73 := rfl
theorem c67_73 : xT 67 73 = oTr [5] (oIld 5 75) := rfl
theorem c67_75 : xT 67 75 = oRi (fun _ => True) := rfl
theorem c68_0 : xT 68 0 = oAld 0 1 := rfl
theorem c68_1 : xT 68 1 = oGeti 2 9 4 := rfl
theorem c68_4 : xT 68 4 = oIf (fun x => x = 0) 18 7 := rfl
theorem c68_7 : xT 68 7 = oAld 1 8 := rfl
theorem c68_8 : xT 68 8 = oAld 0 9 := rfl
theorem c68_9 : xT 68 9 = oGeti 2 5 12 := rfl
theorem c68_12 : xT 68 12 = oCallV 6 48 2 15 := rfl
theorem c68_15 : xT 68 15 = oIf (fun x => x = 0) 22 18 := rfl
theorem c68_18 : xT 68 18 = oTr [] (oPush (.int (1)) 19) := rfl
theorem c68_19 : xT 68 19 = oGoto 23 := rfl
theorem c68_22 : xT 68 22 = oPush (.int (0)) 23 := rfl
theorem c68_23 : xT 68 23 = oTr [] (oRi (fun x => x = 0 ∨ x = 1)) := rfl
theorem c69_0 : xT 69 0 = oAld 0 1 := rfl
theorem c69_1 : xT 69 1 = oAld 1 2 := rfl
theorem c69_2 : xT 69 2 = oPutp 3 5 5 := rfl
theorem c69_5 : xT 69 5 = oAld 0 6 := rfl
theorem c69_6 : xT 69 6 = oAld 2 7 := rfl
theorem c69_7 : xT 69 7 = oPutp 3 6 10 := rfl
theorem c69_10 : xT 69 10 = oAld 0 11 := rfl
theorem c69_11 : xT 69 11 = oAld 2 12 := rfl
theorem c69_12 : xT 69 12 = oGetp 0 0 15 := rfl
theorem c69_15 : xT 69 15 = oPutp 3 7 18 := rfl
theorem c69_18 : xT 69 18 = oAld 0 19 := rfl
theorem c69_19 : xT 69 19 = oCallV 4 70 1 22 := rfl
theorem c69_22 : xT 69 22 = oAld 0 23 := rfl
theorem c69_23 : xT 69 23 = oPush (.int (0)) 24 := rfl
theorem c69_24 : xT 69 24 = oPush (.int (4)) 25 := rfl
theorem c69_25 : xT 69 25 = oCallV 4 75 3 28 := rfl
theorem c69_28 : xT 69 28 = oIst 3 29 6 := rfl
theorem c69_29 : xT 69 29 = oAld 0 30 := rfl
theorem c69_30 : xT 69 30 = oGetp 3 5 33 := rfl
theorem c69_33 : xT 69 33 = oGeti 2 4 36 := rfl
theorem c69_36 : xT 69 36 = oPush (.int (24)) 38 := rfl
theorem c69_38 : xT 69 38 = oCallS 36 2 41 := rfl
theorem c69_41 : xT 69 41 = oPush (.int (1)) 42 := rfl
theorem c69_42 : xT 69 42 = oBin (fun x y => x - y) 43 := rfl
theorem c69_43 : xT 69 43 = oIst 4 45 6 := rfl
theorem c69_45 : xT 69 45 = oTr [0, 3, 4] (oIld 4 47) := rfl
theorem c69_47 : xT 69 47 = oIf (fun x => x < 0) 106 50 := rfl
theorem c69_50 : xT 69 50 = oPush (.int (0)) 51 := rfl
theorem c69_51 : xT 69 51 = oIst 5 53 6 := rfl
theorem c69_53 : xT 69 53 = oTr [0, 3, 4, 5] (oIld 5 55) := rfl
theorem c69_55 : xT 69 55 = oPush (.int (3)) 56 := rfl
theorem c69_56 : xT 69 56 = oIld 4 58 := rfl
theorem c69_58 : xT 69 58 = oIld 3 59 := rfl
theorem c69_59 : xT 69 59 = oBin (fun x y => x * y) 60 := rfl
theorem c69_60 : xT 69 60 = oBin (fun x y => x + y) 61 := rfl
theorem c69_61 : xT 69 61 = oIcmp (fun x y => y < x) 100 64 := rfl
theorem c69_64 : xT 69 64 = oIld 5 66 := rfl
theorem c69_66 : xT 69 66 = oPush (.int (211)) 69 := rfl
theorem c69_69 : xT 69 69 = oIcmp (fun x y => y ≤ x) 100 72 := rfl
theorem c69_72 : xT 69 72 = oAld 0 73 := rfl
theorem c69_73 : xT 69 73 = oGetp 3 0 76 := rfl
theorem c69_76 : xT 69 76 = oIld 4 78 := rfl
theorem c69_78 : xT 69 78 = oPush (.int (211)) 81 := rfl
theorem c69_81 : xT 69 81 = oBin (fun x y => x * y) 82 := rfl
theorem c69_82 : xT 69 82 = oIld 5 84 := rfl
theorem c69_84 : xT 69 84 = oBin (fun x y => x + y) 85 := rfl
theorem c69_85 : xT 69 85 = oAld 0 86 := rfl
theorem c69_86 : xT 69 86 = oIld 4 88 := rfl
theorem c69_88 : xT 69 88 = oIld 5 90 := rfl
theorem c69_90 : xT 69 90 = oCallV 4 76 3 93 := rfl
theorem c69_93 : xT 69 93 = oAsti 20 (fun x => x) 94 := rfl
theorem c69_94 : xT 69 94 = oIinc 5 (1) 97 6 := rfl
theorem c69_97 : xT 69 97 = oGoto 53 := rfl
theorem c69_100 : xT 69 100 = oTr [0, 3, 4] (oIinc 4 (-1) 103 6) := rfl
theorem c69_103 : xT 69 103 = oGoto 45 := rfl
theorem c69_106 : xT 69 106 = oAld 0 107 := rfl
theorem c69_107 : xT 69 107 = oPush (.int (-1)) 108 := rfl
theorem c69_108 : xT 69 108 = oPuti 3 4 111 := rfl
theorem c69_111 : xT 69 111 = oPush (.int (0)) 112 := rfl
theorem c69_112 : xT 69 112 = oIst 4 114 6 := rfl
theorem c69_114 : xT 69 114 = oTr [0, 4] (oIld 4 116) := rfl
theorem c69_116 : xT 69 116 = oPush (.int (3)) 117 := rfl
theorem c69_117 : xT 69 117 = oIcmp (fun x y => y < x) 153 120 := rfl
theorem c69_120 : xT 69 120 = oAld 0 121 := rfl
theorem c69_121 : xT 69 121 = oIld 4 123 := rfl
theorem c69_123 : xT 69 123 = oCallV 4 82 2 126 := rfl
theorem c69_126 : xT 69 126 = oIf (fun x => x = 0) 147 129 := rfl
theorem c69_129 : xT 69 129 = oAld 0 130 := rfl
theorem c69_130 : xT 69 130 = oAld 0 131 := rfl
theorem c69_131 : xT 69 131 = oGeti 3 4 134 := rfl
theorem c69_134 : xT 69 134 = oAld 0 135 := rfl
theorem c69_135 : xT 69 135 = oPush (.int (0)) 136 := rfl
theorem c69_136 : xT 69 136 = oIld 4 138 := rfl
theorem c69_138 : xT 69 138 = oCallV 4 80 3 141 := rfl
theorem c69_141 : xT 69 141 = oCallS 81 2 144 := rfl
theorem c69_144 : xT 69 144 = oPuti 3 4 147 := rfl
theorem c69_147 : xT 69 147 = oTr [0, 4] (oIinc 4 (1) 150 6) := rfl
theorem c69_150 : xT 69 150 = oGoto 114 := rfl
theorem c69_153 : xT 69 153 = oAld 0 154 := rfl
theorem c69_154 : xT 69 154 = oGeti 3 4 157 := rfl
theorem c69_157 : xT 69 157 = oPush (.int (-1)) 158 := rfl
theorem c69_158 : xT 69 158 = oIcmp (fun x y => x = y) 161 165 := rfl
theorem c69_161 : xT 69 161 = oPush (.int (-1)) 162 := rfl
theorem c69_162 : xT 69 162 = oGoto 173 := rfl
theorem c69_165 : xT 69 165 = oAld 0 166 := rfl
theorem c69_166 : xT 69 166 = oAld 0 167 := rfl
theorem c69_167 : xT 69 167 = oGeti 3 4 170 := rfl
theorem c69_170 : xT 69 170 = oCallV 4 77 2 173 := rfl
theorem c69_173 : xT 69 173 = oTr [] (oRi (fun _ => True)) := rfl
theorem c70_0 : xT 70 0 = oAld 0 1 := rfl
theorem c70_1 : xT 70 1 = oGetp 3 5 4 := rfl
theorem c70_4 : xT 70 4 = oGeti 2 7 7 := rfl
theorem c70_7 : xT 70 7 = oPush (.int (2)) 8 := rfl
theorem c70_8 : xT 70 8 = oDiv (fun x y => x / y) 9 := rfl
theorem c70_9 : xT 70 9 = oIst 1 10 5 := rfl
theorem c70_10 : xT 70 10 = oAld 0 11 := rfl
theorem c70_11 : xT 70 11 = oAld 0 12 := rfl
theorem c70_12 : xT 70 12 = oGetp 3 7 15 := rfl
theorem c70_15 : xT 70 15 = oPush (.int (0)) 16 := rfl
theorem c70_16 : xT 70 16 = oIld 1 17 := rfl
theorem c70_17 : xT 70 17 = oPush (.int (0)) 18 := rfl
theorem c70_18 : xT 70 18 = oCallV 6 71 4 21 := rfl
theorem c70_21 : xT 70 21 = oPuti 3 2 24 := rfl
theorem c70_24 : xT 70 24 = oAld 0 25 := rfl
theorem c70_25 : xT 70 25 = oGeti 3 2 28 := rfl
theorem c70_28 : xT 70 28 = oAld 0 29 := rfl
theorem c70_29 : xT 70 29 = oGetp 3 5 32 := rfl
theorem c70_32 : xT 70 32 = oGeti 2 7 35 := rfl
theorem c70_35 : xT 70 35 = oBin (fun x y => x + y) 36 := rfl
theorem c70_36 : xT 70 36 = oIst 2 37 5 := rfl
theorem c70_37 : xT 70 37 = oAld 0 38 := rfl
theorem c70_38 : xT 70 38 = oGetp 3 5 41 := rfl
theorem c70_41 : xT 70 41 = oGeti 2 9 44 := rfl
theorem c70_44 : xT 70 44 = oIf (fun x => x = 0) 72 47 := rfl
theorem c70_47 : xT 70 47 = oAld 0 48 := rfl
theorem c70_48 : xT 70 48 = oGetp 3 7 51 := rfl
theorem c70_51 : xT 70 51 = oIld 2 52 := rfl
theorem c70_52 : xT 70 52 = oAld 0 53 := rfl
theorem c70_53 : xT 70 53 = oGetp 3 5 56 := rfl
theorem c70_56 : xT 70 56 = oGeti 2 6 59 := rfl
theorem c70_59 : xT 70 59 = oPush (.int (2)) 60 := rfl
theorem c70_60 : xT 70 60 = oDiv (fun x y => x / y) 61 := rfl
theorem c70_61 : xT 70 61 = oAld 0 62 := rfl
theorem c70_62 : xT 70 62 = oGetp 3 5 65 := rfl
theorem c70_65 : xT 70 65 = oGeti 2 5 68 := rfl
theorem c70_68 : xT 70 68 = oCallV 6 71 4 71 := rfl
theorem c70_71 : xT 70 71 = oIst 2 72 5 := rfl
theorem c70_72 : xT 70 72 = oTr [0, 1, 2] (oIld 2 73) := rfl
theorem c70_73 : xT 70 73 = oIst 3 74 5 := rfl
theorem c70_74 : xT 70 74 = oPush (.int (0)) 75 := rfl
theorem c70_75 : xT 70 75 = oIst 4 77 5 := rfl
theorem c70_77 : xT 70 77 = oTr [0, 1, 2, 3, 4] (oIld 4 79) := rfl
theorem c70_79 : xT 70 79 = oAld 0 80 := rfl
theorem c70_80 : xT 70 80 = oGetp 3 5 83 := rfl
theorem c70_83 : xT 70 83 = oGeti 2 4 86 := rfl
theorem c70_86 : xT 70 86 = oIcmp (fun x y => y ≤ x) 121 89 := rfl
theorem c70_89 : xT 70 89 = oIld 4 91 := rfl
theorem c70_91 : xT 70 91 = oPush (.int (24)) 93 := rfl
theorem c70_93 : xT 70 93 = oIcmp (fun x y => y ≤ x) 121 96 := rfl
theorem c70_96 : xT 70 96 = oAld 0 97 := rfl
theorem c70_97 : xT 70 97 = oGetp 3 1 100 := rfl
theorem c70_100 : xT 70 100 = oIld 4 102 := rfl
theorem c70_102 : xT 70 102 = oIld 2 103 := rfl
theorem c70_103 : xT 70 103 = oAsti 20 (fun x => x) 104 := rfl
theorem c70_104 : xT 70 104 = oIld 2 105 := rfl
theorem c70_105 : xT 70 105 = oIst 3 106 5 := rfl
theorem c70_106 : xT 70 106 = oIld 2 107 := rfl
theorem c70_107 : xT 70 107 = oAld 0 108 := rfl
theorem c70_108 : xT 70 108 = oIld 4 110 := rfl
theorem c70_110 : xT 70 110 = oCallV 4 73 2 113 := rfl
theorem c70_113 : xT 70 113 = oBin (fun x y => x + y) 114 := rfl
theorem c70_114 : xT 70 114 = oIst 2 115 5 := rfl
theorem c70_115 : xT 70 115 = oIinc 4 (1) 118 5 := rfl
theorem c70_118 : xT 70 118 = oGoto 77 := rfl
theorem c70_121 : xT 70 121 = oTr [0, 1, 3] (oAld 0 122) := rfl
theorem c70_122 : xT 70 122 = oAld 0 123 := rfl
theorem c70_123 : xT 70 123 = oGetp 3 7 126 := rfl
theorem c70_126 : xT 70 126 = oIld 3 127 := rfl
theorem c70_127 : xT 70 127 = oAld 0 128 := rfl
theorem c70_128 : xT 70 128 = oGetp 3 5 131 := rfl
theorem c70_131 : xT 70 131 = oGeti 2 6 134 := rfl
theorem c70_134 : xT 70 134 = oBin (fun x y => x + y) 135 := rfl
theorem c70_135 : xT 70 135 = oIld 1 136 := rfl
theorem c70_136 : xT 70 136 = oPush (.int (0)) 137 := rfl
theorem c70_137 : xT 70 137 = oCallV 6 71 4 140 := rfl
theorem c70_140 : xT 70 140 = oPuti 3 3 143 := rfl
theorem c70_143 : xT 70 143 = oRv := rfl
