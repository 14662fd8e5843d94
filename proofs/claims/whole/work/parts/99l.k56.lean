theorem xg_beq {p q : Nat} (h : ¬ p = q) : Nat.beq p q = false := by
  cases e : Nat.beq p q
  · rfl
  · exact absurd (Nat.eq_of_beq_eq_true e) h
theorem xg_r : ∀ {a b : List (Nat × xI)} {n q : Nat}, (a.all fun e => decide (e.1 < n)) = true → n ≤ q → xget (a ++ b) q = xget b q
  | [], _, _, _, _, _ => rfl
  | (p, i) :: a, b, n, q, h, hq => by
    have h' := h
    rw [List.all_cons, Bool.and_eq_true] at h'
    have h1 : p < n := of_decide_eq_true h'.1
    show (bif Nat.beq p q then i else xget (a ++ b) q) = _
    rw [xg_beq (by omega)]
    exact xg_r h'.2 hq
theorem xg_n : ∀ {b : List (Nat × xI)} {n q : Nat}, (b.all fun e => decide (n ≤ e.1)) = true → q < n → xget b q = fun _ _ _ => aNo
  | [], _, _, _, _ => rfl
  | (p, i) :: b, n, q, h, hq => by
    have h' := h
    rw [List.all_cons, Bool.and_eq_true] at h'
    have h1 : n ≤ p := of_decide_eq_true h'.1
    show (bif Nat.beq p q then i else xget b q) = _
    rw [xg_beq (by omega)]
    exact xg_n h'.2 hq
theorem xg_l : ∀ {a b : List (Nat × xI)} {n q : Nat}, (b.all fun e => decide (n ≤ e.1)) = true → q < n → xget (a ++ b) q = xget a q
  | [], _, _, _, h, hq => xg_n h hq
  | (p, i) :: a, b, n, q, h, hq => by
    show (bif Nat.beq p q then i else xget (a ++ b) q) = (bif Nat.beq p q then i else xget a q)
    rw [xg_l (a := a) h hq]
theorem cdR_0 {q : Nat} : xget cd_L q = xget (cd_L_0 ++ (cd_L_1 ++ (cd_L_2 ++ (cd_L_3 ++ (cd_L_4 ++ (cd_L_5 ++ (cd_L_6 ++ (cd_L_7 ++ (cd_L_8 ++ (cd_L_9 ++ (cd_L_10 ++ (cd_L_11 ++ (cd_L_12 ++ (cd_L_13 ++ (cd_L_14 ++ (cd_L_15 ++ (cd_L_16))))))))))))))))) q := rfl
theorem cdR_1 {q : Nat} (h : 193 ≤ q) : xget cd_L q = xget (cd_L_1 ++ (cd_L_2 ++ (cd_L_3 ++ (cd_L_4 ++ (cd_L_5 ++ (cd_L_6 ++ (cd_L_7 ++ (cd_L_8 ++ (cd_L_9 ++ (cd_L_10 ++ (cd_L_11 ++ (cd_L_12 ++ (cd_L_13 ++ (cd_L_14 ++ (cd_L_15 ++ (cd_L_16)))))))))))))))) q := cdR_0.trans (xg_r (n := 193) (by decide +kernel) h)
theorem cdR_2 {q : Nat} (h : 258 ≤ q) : xget cd_L q = xget (cd_L_2 ++ (cd_L_3 ++ (cd_L_4 ++ (cd_L_5 ++ (cd_L_6 ++ (cd_L_7 ++ (cd_L_8 ++ (cd_L_9 ++ (cd_L_10 ++ (cd_L_11 ++ (cd_L_12 ++ (cd_L_13 ++ (cd_L_14 ++ (cd_L_15 ++ (cd_L_16))))))))))))))) q := (cdR_1 (Nat.le_trans (by decide) h)).trans (xg_r (n := 258) (by decide +kernel) h)
theorem cdR_3 {q : Nat} (h : 318 ≤ q) : xget cd_L q = xget (cd_L_3 ++ (cd_L_4 ++ (cd_L_5 ++ (cd_L_6 ++ (cd_L_7 ++ (cd_L_8 ++ (cd_L_9 ++ (cd_L_10 ++ (cd_L_11 ++ (cd_L_12 ++ (cd_L_13 ++ (cd_L_14 ++ (cd_L_15 ++ (cd_L_16)))))))))))))) q := (cdR_2 (Nat.le_trans (by decide) h)).trans (xg_r (n := 318) (by decide +kernel) h)
theorem cdR_4 {q : Nat} (h : 376 ≤ q) : xget cd_L q = xget (cd_L_4 ++ (cd_L_5 ++ (cd_L_6 ++ (cd_L_7 ++ (cd_L_8 ++ (cd_L_9 ++ (cd_L_10 ++ (cd_L_11 ++ (cd_L_12 ++ (cd_L_13 ++ (cd_L_14 ++ (cd_L_15 ++ (cd_L_16))))))))))))) q := (cdR_3 (Nat.le_trans (by decide) h)).trans (xg_r (n := 376) (by decide +kernel) h)
theorem cdR_5 {q : Nat} (h : 438 ≤ q) : xget cd_L q = xget (cd_L_5 ++ (cd_L_6 ++ (cd_L_7 ++ (cd_L_8 ++ (cd_L_9 ++ (cd_L_10 ++ (cd_L_11 ++ (cd_L_12 ++ (cd_L_13 ++ (cd_L_14 ++ (cd_L_15 ++ (cd_L_16)))))))))))) q := (cdR_4 (Nat.le_trans (by decide) h)).trans (xg_r (n := 438) (by decide +kernel) h)
theorem cdR_6 {q : Nat} (h : 494 ≤ q) : xget cd_L q = xget (cd_L_6 ++ (cd_L_7 ++ (cd_L_8 ++ (cd_L_9 ++ (cd_L_10 ++ (cd_L_11 ++ (cd_L_12 ++ (cd_L_13 ++ (cd_L_14 ++ (cd_L_15 ++ (cd_L_16))))))))))) q := (cdR_5 (Nat.le_trans (by decide) h)).trans (xg_r (n := 494) (by decide +kernel) h)
theorem cdR_7 {q : Nat} (h : 556 ≤ q) : xget cd_L q = xget (cd_L_7 ++ (cd_L_8 ++ (cd_L_9 ++ (cd_L_10 ++ (cd_L_11 ++ (cd_L_12 ++ (cd_L_13 ++ (cd_L_14 ++ (cd_L_15 ++ (cd_L_16)))))))))) q := (cdR_6 (Nat.le_trans (by decide) h)).trans (xg_r (n := 556) (by decide +kernel) h)
theorem cdR_8 {q : Nat} (h : 616 ≤ q) : xget cd_L q = xget (cd_L_8 ++ (cd_L_9 ++ (cd_L_10 ++ (cd_L_11 ++ (cd_L_12 ++ (cd_L_13 ++ (cd_L_14 ++ (cd_L_15 ++ (cd_L_16))))))))) q := (cdR_7 (Nat.le_trans (by decide) h)).trans (xg_r (n := 616) (by decide +kernel) h)
theorem cdR_9 {q : Nat} (h : 678 ≤ q) : xget cd_L q = xget (cd_L_9 ++ (cd_L_10 ++ (cd_L_11 ++ (cd_L_12 ++ (cd_L_13 ++ (cd_L_14 ++ (cd_L_15 ++ (cd_L_16)))))))) q := (cdR_8 (Nat.le_trans (by decide) h)).trans (xg_r (n := 678) (by decide +kernel) h)
theorem cdR_10 {q : Nat} (h : 744 ≤ q) : xget cd_L q = xget (cd_L_10 ++ (cd_L_11 ++ (cd_L_12 ++ (cd_L_13 ++ (cd_L_14 ++ (cd_L_15 ++ (cd_L_16))))))) q := (cdR_9 (Nat.le_trans (by decide) h)).trans (xg_r (n := 744) (by decide +kernel) h)
theorem cdR_11 {q : Nat} (h : 812 ≤ q) : xget cd_L q = xget (cd_L_11 ++ (cd_L_12 ++ (cd_L_13 ++ (cd_L_14 ++ (cd_L_15 ++ (cd_L_16)))))) q := (cdR_10 (Nat.le_trans (by decide) h)).trans (xg_r (n := 812) (by decide +kernel) h)
theorem cdR_12 {q : Nat} (h : 878 ≤ q) : xget cd_L q = xget (cd_L_12 ++ (cd_L_13 ++ (cd_L_14 ++ (cd_L_15 ++ (cd_L_16))))) q := (cdR_11 (Nat.le_trans (by decide) h)).trans (xg_r (n := 878) (by decide +kernel) h)
theorem cdR_13 {q : Nat} (h : 944 ≤ q) : xget cd_L q = xget (cd_L_13 ++ (cd_L_14 ++ (cd_L_15 ++ (cd_L_16)))) q := (cdR_12 (Nat.le_trans (by decide) h)).trans (xg_r (n := 944) (by decide +kernel) h)
theorem cdR_14 {q : Nat} (h : 1006 ≤ q) : xget cd_L q = xget (cd_L_14 ++ (cd_L_15 ++ (cd_L_16))) q := (cdR_13 (Nat.le_trans (by decide) h)).trans (xg_r (n := 1006) (by decide +kernel) h)
theorem cdR_15 {q : Nat} (h : 1066 ≤ q) : xget cd_L q = xget (cd_L_15 ++ (cd_L_16)) q := (cdR_14 (Nat.le_trans (by decide) h)).trans (xg_r (n := 1066) (by decide +kernel) h)
theorem cdR_16 {q : Nat} (h : 1122 ≤ q) : xget cd_L q = xget (cd_L_16) q := (cdR_15 (Nat.le_trans (by decide) h)).trans (xg_r (n := 1122) (by decide +kernel) h)
theorem cdS_0 {q : Nat} (h : 0 ≤ q) (h2 : q < 193) : xget cd_L q = xget cd_L_0 q := cdR_0.trans (xg_l (n := 193) (by decide +kernel) h2)
theorem cdS_1 {q : Nat} (h : 193 ≤ q) (h2 : q < 258) : xget cd_L q = xget cd_L_1 q := (cdR_1 h).trans (xg_l (n := 258) (by decide +kernel) h2)
theorem cdS_2 {q : Nat} (h : 258 ≤ q) (h2 : q < 318) : xget cd_L q = xget cd_L_2 q := (cdR_2 h).trans (xg_l (n := 318) (by decide +kernel) h2)
theorem cdS_3 {q : Nat} (h : 318 ≤ q) (h2 : q < 376) : xget cd_L q = xget cd_L_3 q := (cdR_3 h).trans (xg_l (n := 376) (by decide +kernel) h2)
theorem cdS_4 {q : Nat} (h : 376 ≤ q) (h2 : q < 438) : xget cd_L q = xget cd_L_4 q := (cdR_4 h).trans (xg_l (n := 438) (by decide +kernel) h2)
theorem cdS_5 {q : Nat} (h : 438 ≤ q) (h2 : q < 494) : xget cd_L q = xget cd_L_5 q := (cdR_5 h).trans (xg_l (n := 494) (by decide +kernel) h2)
theorem cdS_6 {q : Nat} (h : 494 ≤ q) (h2 : q < 556) : xget cd_L q = xget cd_L_6 q := (cdR_6 h).trans (xg_l (n := 556) (by decide +kernel) h2)
theorem cdS_7 {q : Nat} (h : 556 ≤ q) (h2 : q < 616) : xget cd_L q = xget cd_L_7 q := (cdR_7 h).trans (xg_l (n := 616) (by decide +kernel) h2)
theorem cdS_8 {q : Nat} (h : 616 ≤ q) (h2 : q < 678) : xget cd_L q = xget cd_L_8 q := (cdR_8 h).trans (xg_l (n := 678) (by decide +kernel) h2)
theorem cdS_9 {q : Nat} (h : 678 ≤ q) (h2 : q < 744) : xget cd_L q = xget cd_L_9 q := (cdR_9 h).trans (xg_l (n := 744) (by decide +kernel) h2)
theorem cdS_10 {q : Nat} (h : 744 ≤ q) (h2 : q < 812) : xget cd_L q = xget cd_L_10 q := (cdR_10 h).trans (xg_l (n := 812) (by decide +kernel) h2)
theorem cdS_11 {q : Nat} (h : 812 ≤ q) (h2 : q < 878) : xget cd_L q = xget cd_L_11 q := (cdR_11 h).trans (xg_l (n := 878) (by decide +kernel) h2)
theorem cdS_12 {q : Nat} (h : 878 ≤ q) (h2 : q < 944) : xget cd_L q = xget cd_L_12 q := (cdR_12 h).trans (xg_l (n := 944) (by decide +kernel) h2)
theorem cdS_13 {q : Nat} (h : 944 ≤ q) (h2 : q < 1006) : xget cd_L q = xget cd_L_13 q := (cdR_13 h).trans (xg_l (n := 1006) (by decide +kernel) h2)
theorem cdS_14 {q : Nat} (h : 1006 ≤ q) (h2 : q < 1066) : xget cd_L q = xget cd_L_14 q := (cdR_14 h).trans (xg_l (n := 1066) (by decide +kernel) h2)
theorem cdS_15 {q : Nat} (h : 1066 ≤ q) (h2 : q < 1122) : xget cd_L q = xget cd_L_15 q := (cdR_15 h).trans (xg_l (n := 1122) (by decide +kernel) h2)
theorem cdS_16 {q : Nat} (h : 1122 ≤ q) (h2 : q < 100000) : xget cd_L q = xget cd_L_16 q := (cdR_16 h)
theorem cL_0 : xget cd_L 0 = oNew 11 16 3 := (cdS_0 (by decide) (by decide)).trans rfl
theorem cL_3 : xget cd_L 3 = oDup 4 := (cdS_0 (by decide) (by decide)).trans rfl
theorem cL_4 : xget cd_L 4 = oCallI 0 1 7 := (cdS_0 (by decide) (by decide)).trans rfl
theorem cL_7 : xget cd_L 7 = oAst 1 8 4 := (cdS_0 (by decide) (by decide)).trans rfl
theorem cL_8 : xget cd_L 8 = oNew 12 67 11 := (cdS_0 (by decide) (by decide)).trans rfl
theorem cL_11 : xget cd_L 11 = oDup 12 := (cdS_0 (by decide) (by decide)).trans rfl
theorem cL_12 : xget cd_L 12 = oCallI 126 1 15 := (cdS_0 (by decide) (by decide)).trans rfl
theorem cL_15 : xget cd_L 15 = oAst 2 16 4 := (cdS_0 (by decide) (by decide)).trans rfl
theorem cL_16 : xget cd_L 16 = oPush (.int (0)) 17 := (cdS_0 (by decide) (by decide)).trans rfl
theorem cL_17 : xget cd_L 17 = oIst 3 18 4 := (cdS_0 (by decide) (by decide)).trans rfl
theorem cL_18 : xget cd_L 18 = oTr [0, 1, 2, 3] (oIld 3 19) := (cdS_0 (by decide) (by decide)).trans rfl
theorem cL_19 : xget cd_L 19 = oAld 0 20 := (cdS_0 (by decide) (by decide)).trans rfl
theorem cL_20 : xget cd_L 20 = oLen 40 21 := (cdS_0 (by decide) (by decide)).trans rfl
theorem cL_21 : xget cd_L 21 = oPush (.int (6)) 23 := (cdS_0 (by decide) (by decide)).trans rfl
theorem cL_23 : xget cd_L 23 = oBin (fun x y => x - y) 24 := (cdS_0 (by decide) (by decide)).trans rfl
theorem cL_24 : xget cd_L 24 = oIcmp (fun x y => y < x) 1163 27 := (cdS_0 (by decide) (by decide)).trans rfl
theorem cL_27 : xget cd_L 27 = oAld 0 28 := (cdS_0 (by decide) (by decide)).trans rfl
theorem cL_28 : xget cd_L 28 = oIld 3 29 := (cdS_0 (by decide) (by decide)).trans rfl
theorem cL_29 : xget cd_L 29 = oAldi 40 30 := (cdS_0 (by decide) (by decide)).trans rfl
theorem cL_30 : xget cd_L 30 = oPush (.int (31)) 32 := (cdS_0 (by decide) (by decide)).trans rfl
theorem cL_32 : xget cd_L 32 = oBin (fun x y => x &&& y) 33 := (cdS_0 (by decide) (by decide)).trans rfl
theorem cL_33 : xget cd_L 33 = oSw [(0, 160), (1, 223), (2, 236), (3, 269), (4, 312), (5, 345), (6, 388), (7, 421), (8, 454), (9, 507), (10, 540), (11, 573), (12, 606), (13, 649), (14, 708), (15, 757), (16, 790), (17, 813), (18, 826), (19, 849), (20, 883), (21, 906), (22, 929), (23, 952), (24, 975), (25, 1018), (26, 1061), (27, 1124)] 1157 := (cdS_0 (by decide) (by decide)).trans rfl
theorem cL_160 : xget cd_L 160 = oAld 1 161 := (cdS_0 (by decide) (by decide)).trans rfl
theorem cL_161 : xget cd_L 161 = oAld 0 162 := (cdS_0 (by decide) (by decide)).trans rfl
theorem cL_162 : xget cd_L 162 = oIld 3 163 := (cdS_0 (by decide) (by decide)).trans rfl
theorem cL_163 : xget cd_L 163 = oPush (.int (1)) 164 := (cdS_0 (by decide) (by decide)).trans rfl
theorem cL_164 : xget cd_L 164 = oBin (fun x y => x + y) 165 := (cdS_0 (by decide) (by decide)).trans rfl
theorem cL_165 : xget cd_L 165 = oAldi 40 166 := (cdS_0 (by decide) (by decide)).trans rfl
theorem cL_166 : xget cd_L 166 = oAld 0 167 := (cdS_0 (by decide) (by decide)).trans rfl
theorem cL_167 : xget cd_L 167 = oIld 3 168 := (cdS_0 (by decide) (by decide)).trans rfl
theorem cL_168 : xget cd_L 168 = oPush (.int (2)) 169 := (cdS_0 (by decide) (by decide)).trans rfl
theorem cL_169 : xget cd_L 169 = oBin (fun x y => x + y) 170 := (cdS_0 (by decide) (by decide)).trans rfl
theorem cL_170 : xget cd_L 170 = oAldi 40 171 := (cdS_0 (by decide) (by decide)).trans rfl
theorem cL_171 : xget cd_L 171 = oI2l 172 := (cdS_0 (by decide) (by decide)).trans rfl
theorem cL_172 : xget cd_L 172 = oPush (.int (32)) 174 := (cdS_0 (by decide) (by decide)).trans rfl
theorem cL_174 : xget cd_L 174 = oShL (fun x y => x <<< (y.toInt64 &&& 63)) 175 := (cdS_0 (by decide) (by decide)).trans rfl
theorem cL_175 : xget cd_L 175 = oAld 0 176 := (cdS_0 (by decide) (by decide)).trans rfl
theorem cL_176 : xget cd_L 176 = oIld 3 177 := (cdS_0 (by decide) (by decide)).trans rfl
theorem cL_177 : xget cd_L 177 = oPush (.int (3)) 178 := (cdS_0 (by decide) (by decide)).trans rfl
theorem cL_178 : xget cd_L 178 = oBin (fun x y => x + y) 179 := (cdS_0 (by decide) (by decide)).trans rfl
theorem cL_179 : xget cd_L 179 = oAldi 40 180 := (cdS_0 (by decide) (by decide)).trans rfl
theorem cL_180 : xget cd_L 180 = oI2l 181 := (cdS_0 (by decide) (by decide)).trans rfl
theorem cL_181 : xget cd_L 181 = oPush (.long (4294967295)) 184 := (cdS_0 (by decide) (by decide)).trans rfl
theorem cL_184 : xget cd_L 184 = oBinL (fun x y => x &&& y) 185 := (cdS_0 (by decide) (by decide)).trans rfl
theorem cL_185 : xget cd_L 185 = oBinL (fun x y => x ||| y) 186 := (cdS_0 (by decide) (by decide)).trans rfl
theorem cL_186 : xget cd_L 186 = oCallV 12 37 3 189 := (cdS_0 (by decide) (by decide)).trans rfl
theorem cL_189 : xget cd_L 189 = oAld 2 190 := (cdS_0 (by decide) (by decide)).trans rfl
theorem cL_190 : xget cd_L 190 = oAld 0 191 := (cdS_0 (by decide) (by decide)).trans rfl
theorem cL_191 : xget cd_L 191 = oIld 3 192 := (cdS_0 (by decide) (by decide)).trans rfl
theorem cL_192 : xget cd_L 192 = oPush (.int (1)) 193 := (cdS_0 (by decide) (by decide)).trans rfl
theorem cL_193 : xget cd_L 193 = oBin (fun x y => x + y) 194 := (cdS_1 (by decide) (by decide)).trans rfl
theorem cL_194 : xget cd_L 194 = oAldi 40 195 := (cdS_1 (by decide) (by decide)).trans rfl
theorem cL_195 : xget cd_L 195 = oAld 0 196 := (cdS_1 (by decide) (by decide)).trans rfl
theorem cL_196 : xget cd_L 196 = oIld 3 197 := (cdS_1 (by decide) (by decide)).trans rfl
theorem cL_197 : xget cd_L 197 = oPush (.int (2)) 198 := (cdS_1 (by decide) (by decide)).trans rfl
theorem cL_198 : xget cd_L 198 = oBin (fun x y => x + y) 199 := (cdS_1 (by decide) (by decide)).trans rfl
theorem cL_199 : xget cd_L 199 = oAldi 40 200 := (cdS_1 (by decide) (by decide)).trans rfl
theorem cL_200 : xget cd_L 200 = oI2l 201 := (cdS_1 (by decide) (by decide)).trans rfl
theorem cL_201 : xget cd_L 201 = oPush (.int (32)) 203 := (cdS_1 (by decide) (by decide)).trans rfl
theorem cL_203 : xget cd_L 203 = oShL (fun x y => x <<< (y.toInt64 &&& 63)) 204 := (cdS_1 (by decide) (by decide)).trans rfl
theorem cL_204 : xget cd_L 204 = oAld 0 205 := (cdS_1 (by decide) (by decide)).trans rfl
theorem cL_205 : xget cd_L 205 = oIld 3 206 := (cdS_1 (by decide) (by decide)).trans rfl
theorem cL_206 : xget cd_L 206 = oPush (.int (3)) 207 := (cdS_1 (by decide) (by decide)).trans rfl
theorem cL_207 : xget cd_L 207 = oBin (fun x y => x + y) 208 := (cdS_1 (by decide) (by decide)).trans rfl
theorem cL_208 : xget cd_L 208 = oAldi 40 209 := (cdS_1 (by decide) (by decide)).trans rfl
theorem cL_209 : xget cd_L 209 = oI2l 210 := (cdS_1 (by decide) (by decide)).trans rfl
theorem cL_210 : xget cd_L 210 = oPush (.long (4294967295)) 213 := (cdS_1 (by decide) (by decide)).trans rfl
theorem cL_213 : xget cd_L 213 = oBinL (fun x y => x &&& y) 214 := (cdS_1 (by decide) (by decide)).trans rfl
theorem cL_214 : xget cd_L 214 = oBinL (fun x y => x ||| y) 215 := (cdS_1 (by decide) (by decide)).trans rfl
theorem cL_215 : xget cd_L 215 = oCallV 13 128 3 218 := (cdS_1 (by decide) (by decide)).trans rfl
theorem cL_218 : xget cd_L 218 = oIcmp (fun x y => x = y) 1157 221 := (cdS_1 (by decide) (by decide)).trans rfl
theorem cL_221 : xget cd_L 221 = oPush (.int (0)) 222 := (cdS_1 (by decide) (by decide)).trans rfl
theorem cL_222 : xget cd_L 222 = oRi (fun x => x = 0 ∨ x = 1) := (cdS_1 (by decide) (by decide)).trans rfl
theorem cL_223 : xget cd_L 223 = oAld 1 224 := (cdS_1 (by decide) (by decide)).trans rfl
theorem cL_224 : xget cd_L 224 = oCallV 12 38 1 227 := (cdS_1 (by decide) (by decide)).trans rfl
theorem cL_227 : xget cd_L 227 = oAld 2 228 := (cdS_1 (by decide) (by decide)).trans rfl
theorem cL_228 : xget cd_L 228 = oCallV 13 130 1 231 := (cdS_1 (by decide) (by decide)).trans rfl
theorem cL_231 : xget cd_L 231 = oIcmp (fun x y => x = y) 1157 234 := (cdS_1 (by decide) (by decide)).trans rfl
theorem cL_234 : xget cd_L 234 = oPush (.int (0)) 235 := (cdS_1 (by decide) (by decide)).trans rfl
theorem cL_235 : xget cd_L 235 = oRi (fun x => x = 0 ∨ x = 1) := (cdS_1 (by decide) (by decide)).trans rfl
theorem cL_236 : xget cd_L 236 = oAld 1 237 := (cdS_1 (by decide) (by decide)).trans rfl
theorem cL_237 : xget cd_L 237 = oAld 0 238 := (cdS_1 (by decide) (by decide)).trans rfl
theorem cL_238 : xget cd_L 238 = oIld 3 239 := (cdS_1 (by decide) (by decide)).trans rfl
theorem cL_239 : xget cd_L 239 = oPush (.int (1)) 240 := (cdS_1 (by decide) (by decide)).trans rfl
theorem cL_240 : xget cd_L 240 = oBin (fun x y => x + y) 241 := (cdS_1 (by decide) (by decide)).trans rfl
theorem cL_241 : xget cd_L 241 = oAldi 40 242 := (cdS_1 (by decide) (by decide)).trans rfl
theorem cL_242 : xget cd_L 242 = oAld 0 243 := (cdS_1 (by decide) (by decide)).trans rfl
theorem cL_243 : xget cd_L 243 = oIld 3 244 := (cdS_1 (by decide) (by decide)).trans rfl
theorem cL_244 : xget cd_L 244 = oPush (.int (2)) 245 := (cdS_1 (by decide) (by decide)).trans rfl
theorem cL_245 : xget cd_L 245 = oBin (fun x y => x + y) 246 := (cdS_1 (by decide) (by decide)).trans rfl
theorem cL_246 : xget cd_L 246 = oAldi 40 247 := (cdS_1 (by decide) (by decide)).trans rfl
theorem cL_247 : xget cd_L 247 = oCallV 12 45 3 250 := (cdS_1 (by decide) (by decide)).trans rfl
theorem cL_250 : xget cd_L 250 = oAld 2 251 := (cdS_1 (by decide) (by decide)).trans rfl
theorem cL_251 : xget cd_L 251 = oAld 0 252 := (cdS_1 (by decide) (by decide)).trans rfl
theorem cL_252 : xget cd_L 252 = oIld 3 253 := (cdS_1 (by decide) (by decide)).trans rfl
theorem cL_253 : xget cd_L 253 = oPush (.int (1)) 254 := (cdS_1 (by decide) (by decide)).trans rfl
theorem cL_254 : xget cd_L 254 = oBin (fun x y => x + y) 255 := (cdS_1 (by decide) (by decide)).trans rfl
theorem cL_255 : xget cd_L 255 = oAldi 40 256 := (cdS_1 (by decide) (by decide)).trans rfl
theorem cL_256 : xget cd_L 256 = oAld 0 257 := (cdS_1 (by decide) (by decide)).trans rfl
theorem cL_257 : xget cd_L 257 = oIld 3 258 := (cdS_1 (by decide) (by decide)).trans rfl
theorem cL_258 : xget cd_L 258 = oPush (.int (2)) 259 := (cdS_2 (by decide) (by decide)).trans rfl
theorem cL_259 : xget cd_L 259 = oBin (fun x y => x + y) 260 := (cdS_2 (by decide) (by decide)).trans rfl
theorem cL_260 : xget cd_L 260 = oAldi 40 261 := (cdS_2 (by decide) (by decide)).trans rfl
theorem cL_261 : xget cd_L 261 = oCallV 13 134 3 264 := (cdS_2 (by decide) (by decide)).trans rfl
theorem cL_264 : xget cd_L 264 = oIcmp (fun x y => x = y) 1157 267 := (cdS_2 (by decide) (by decide)).trans rfl
theorem cL_267 : xget cd_L 267 = oPush (.int (0)) 268 := (cdS_2 (by decide) (by decide)).trans rfl
theorem cL_268 : xget cd_L 268 = oRi (fun x => x = 0 ∨ x = 1) := (cdS_2 (by decide) (by decide)).trans rfl
theorem cL_269 : xget cd_L 269 = oAld 1 270 := (cdS_2 (by decide) (by decide)).trans rfl
theorem cL_270 : xget cd_L 270 = oAld 0 271 := (cdS_2 (by decide) (by decide)).trans rfl
theorem cL_271 : xget cd_L 271 = oIld 3 272 := (cdS_2 (by decide) (by decide)).trans rfl
theorem cL_272 : xget cd_L 272 = oPush (.int (1)) 273 := (cdS_2 (by decide) (by decide)).trans rfl
theorem cL_273 : xget cd_L 273 = oBin (fun x y => x + y) 274 := (cdS_2 (by decide) (by decide)).trans rfl
theorem cL_274 : xget cd_L 274 = oAldi 40 275 := (cdS_2 (by decide) (by decide)).trans rfl
theorem cL_275 : xget cd_L 275 = oAld 0 276 := (cdS_2 (by decide) (by decide)).trans rfl
theorem cL_276 : xget cd_L 276 = oIld 3 277 := (cdS_2 (by decide) (by decide)).trans rfl
theorem cL_277 : xget cd_L 277 = oPush (.int (2)) 278 := (cdS_2 (by decide) (by decide)).trans rfl
theorem cL_278 : xget cd_L 278 = oBin (fun x y => x + y) 279 := (cdS_2 (by decide) (by decide)).trans rfl
theorem cL_279 : xget cd_L 279 = oAldi 40 280 := (cdS_2 (by decide) (by decide)).trans rfl
theorem cL_280 : xget cd_L 280 = oAld 0 281 := (cdS_2 (by decide) (by decide)).trans rfl
theorem cL_281 : xget cd_L 281 = oIld 3 282 := (cdS_2 (by decide) (by decide)).trans rfl
theorem cL_282 : xget cd_L 282 = oPush (.int (3)) 283 := (cdS_2 (by decide) (by decide)).trans rfl
theorem cL_283 : xget cd_L 283 = oBin (fun x y => x + y) 284 := (cdS_2 (by decide) (by decide)).trans rfl
theorem cL_284 : xget cd_L 284 = oAldi 40 285 := (cdS_2 (by decide) (by decide)).trans rfl
theorem cL_285 : xget cd_L 285 = oCallV 12 47 4 288 := (cdS_2 (by decide) (by decide)).trans rfl
theorem cL_288 : xget cd_L 288 = oAld 2 289 := (cdS_2 (by decide) (by decide)).trans rfl
theorem cL_289 : xget cd_L 289 = oAld 0 290 := (cdS_2 (by decide) (by decide)).trans rfl
theorem cL_290 : xget cd_L 290 = oIld 3 291 := (cdS_2 (by decide) (by decide)).trans rfl
theorem cL_291 : xget cd_L 291 = oPush (.int (1)) 292 := (cdS_2 (by decide) (by decide)).trans rfl
theorem cL_292 : xget cd_L 292 = oBin (fun x y => x + y) 293 := (cdS_2 (by decide) (by decide)).trans rfl
theorem cL_293 : xget cd_L 293 = oAldi 40 294 := (cdS_2 (by decide) (by decide)).trans rfl
theorem cL_294 : xget cd_L 294 = oAld 0 295 := (cdS_2 (by decide) (by decide)).trans rfl
theorem cL_295 : xget cd_L 295 = oIld 3 296 := (cdS_2 (by decide) (by decide)).trans rfl
theorem cL_296 : xget cd_L 296 = oPush (.int (2)) 297 := (cdS_2 (by decide) (by decide)).trans rfl
theorem cL_297 : xget cd_L 297 = oBin (fun x y => x + y) 298 := (cdS_2 (by decide) (by decide)).trans rfl
theorem cL_298 : xget cd_L 298 = oAldi 40 299 := (cdS_2 (by decide) (by decide)).trans rfl
theorem cL_299 : xget cd_L 299 = oAld 0 300 := (cdS_2 (by decide) (by decide)).trans rfl
theorem cL_300 : xget cd_L 300 = oIld 3 301 := (cdS_2 (by decide) (by decide)).trans rfl
theorem cL_301 : xget cd_L 301 = oPush (.int (3)) 302 := (cdS_2 (by decide) (by decide)).trans rfl
theorem cL_302 : xget cd_L 302 = oBin (fun x y => x + y) 303 := (cdS_2 (by decide) (by decide)).trans rfl
theorem cL_303 : xget cd_L 303 = oAldi 40 304 := (cdS_2 (by decide) (by decide)).trans rfl
theorem cL_304 : xget cd_L 304 = oCallV 13 136 4 307 := (cdS_2 (by decide) (by decide)).trans rfl
theorem cL_307 : xget cd_L 307 = oIcmp (fun x y => x = y) 1157 310 := (cdS_2 (by decide) (by decide)).trans rfl
theorem cL_310 : xget cd_L 310 = oPush (.int (0)) 311 := (cdS_2 (by decide) (by decide)).trans rfl
theorem cL_311 : xget cd_L 311 = oRi (fun x => x = 0 ∨ x = 1) := (cdS_2 (by decide) (by decide)).trans rfl
theorem cL_312 : xget cd_L 312 = oAld 1 313 := (cdS_2 (by decide) (by decide)).trans rfl
theorem cL_313 : xget cd_L 313 = oAld 0 314 := (cdS_2 (by decide) (by decide)).trans rfl
theorem cL_314 : xget cd_L 314 = oIld 3 315 := (cdS_2 (by decide) (by decide)).trans rfl
theorem cL_315 : xget cd_L 315 = oPush (.int (1)) 316 := (cdS_2 (by decide) (by decide)).trans rfl
theorem cL_316 : xget cd_L 316 = oBin (fun x y => x + y) 317 := (cdS_2 (by decide) (by decide)).trans rfl
theorem cL_317 : xget cd_L 317 = oAldi 40 318 := (cdS_2 (by decide) (by decide)).trans rfl
theorem cL_318 : xget cd_L 318 = oAld 0 319 := (cdS_3 (by decide) (by decide)).trans rfl
theorem cL_319 : xget cd_L 319 = oIld 3 320 := (cdS_3 (by decide) (by decide)).trans rfl
theorem cL_320 : xget cd_L 320 = oPush (.int (2)) 321 := (cdS_3 (by decide) (by decide)).trans rfl
theorem cL_321 : xget cd_L 321 = oBin (fun x y => x + y) 322 := (cdS_3 (by decide) (by decide)).trans rfl
theorem cL_322 : xget cd_L 322 = oAldi 40 323 := (cdS_3 (by decide) (by decide)).trans rfl
theorem cL_323 : xget cd_L 323 = oCallV 12 49 3 326 := (cdS_3 (by decide) (by decide)).trans rfl
theorem cL_326 : xget cd_L 326 = oAld 2 327 := (cdS_3 (by decide) (by decide)).trans rfl
theorem cL_327 : xget cd_L 327 = oAld 0 328 := (cdS_3 (by decide) (by decide)).trans rfl
theorem cL_328 : xget cd_L 328 = oIld 3 329 := (cdS_3 (by decide) (by decide)).trans rfl
theorem cL_329 : xget cd_L 329 = oPush (.int (1)) 330 := (cdS_3 (by decide) (by decide)).trans rfl
theorem cL_330 : xget cd_L 330 = oBin (fun x y => x + y) 331 := (cdS_3 (by decide) (by decide)).trans rfl
theorem cL_331 : xget cd_L 331 = oAldi 40 332 := (cdS_3 (by decide) (by decide)).trans rfl
theorem cL_332 : xget cd_L 332 = oAld 0 333 := (cdS_3 (by decide) (by decide)).trans rfl
theorem cL_333 : xget cd_L 333 = oIld 3 334 := (cdS_3 (by decide) (by decide)).trans rfl
theorem cL_334 : xget cd_L 334 = oPush (.int (2)) 335 := (cdS_3 (by decide) (by decide)).trans rfl
theorem cL_335 : xget cd_L 335 = oBin (fun x y => x + y) 336 := (cdS_3 (by decide) (by decide)).trans rfl
theorem cL_336 : xget cd_L 336 = oAldi 40 337 := (cdS_3 (by decide) (by decide)).trans rfl
theorem cL_337 : xget cd_L 337 = oCallV 13 138 3 340 := (cdS_3 (by decide) (by decide)).trans rfl
theorem cL_340 : xget cd_L 340 = oIcmp (fun x y => x = y) 1157 343 := (cdS_3 (by decide) (by decide)).trans rfl
theorem cL_343 : xget cd_L 343 = oPush (.int (0)) 344 := (cdS_3 (by decide) (by decide)).trans rfl
theorem cL_344 : xget cd_L 344 = oRi (fun x => x = 0 ∨ x = 1) := (cdS_3 (by decide) (by decide)).trans rfl
theorem cL_345 : xget cd_L 345 = oAld 1 346 := (cdS_3 (by decide) (by decide)).trans rfl
theorem cL_346 : xget cd_L 346 = oAld 0 347 := (cdS_3 (by decide) (by decide)).trans rfl
theorem cL_347 : xget cd_L 347 = oIld 3 348 := (cdS_3 (by decide) (by decide)).trans rfl
theorem cL_348 : xget cd_L 348 = oPush (.int (1)) 349 := (cdS_3 (by decide) (by decide)).trans rfl
theorem cL_349 : xget cd_L 349 = oBin (fun x y => x + y) 350 := (cdS_3 (by decide) (by decide)).trans rfl
theorem cL_350 : xget cd_L 350 = oAldi 40 351 := (cdS_3 (by decide) (by decide)).trans rfl
theorem cL_351 : xget cd_L 351 = oAld 0 352 := (cdS_3 (by decide) (by decide)).trans rfl
theorem cL_352 : xget cd_L 352 = oIld 3 353 := (cdS_3 (by decide) (by decide)).trans rfl
theorem cL_353 : xget cd_L 353 = oPush (.int (2)) 354 := (cdS_3 (by decide) (by decide)).trans rfl
theorem cL_354 : xget cd_L 354 = oBin (fun x y => x + y) 355 := (cdS_3 (by decide) (by decide)).trans rfl
theorem cL_355 : xget cd_L 355 = oAldi 40 356 := (cdS_3 (by decide) (by decide)).trans rfl
theorem cL_356 : xget cd_L 356 = oAld 0 357 := (cdS_3 (by decide) (by decide)).trans rfl
theorem cL_357 : xget cd_L 357 = oIld 3 358 := (cdS_3 (by decide) (by decide)).trans rfl
theorem cL_358 : xget cd_L 358 = oPush (.int (3)) 359 := (cdS_3 (by decide) (by decide)).trans rfl
theorem cL_359 : xget cd_L 359 = oBin (fun x y => x + y) 360 := (cdS_3 (by decide) (by decide)).trans rfl
theorem cL_360 : xget cd_L 360 = oAldi 40 361 := (cdS_3 (by decide) (by decide)).trans rfl
theorem cL_361 : xget cd_L 361 = oCallV 12 51 4 364 := (cdS_3 (by decide) (by decide)).trans rfl
theorem cL_364 : xget cd_L 364 = oAld 2 365 := (cdS_3 (by decide) (by decide)).trans rfl
theorem cL_365 : xget cd_L 365 = oAld 0 366 := (cdS_3 (by decide) (by decide)).trans rfl
theorem cL_366 : xget cd_L 366 = oIld 3 367 := (cdS_3 (by decide) (by decide)).trans rfl
theorem cL_367 : xget cd_L 367 = oPush (.int (1)) 368 := (cdS_3 (by decide) (by decide)).trans rfl
theorem cL_368 : xget cd_L 368 = oBin (fun x y => x + y) 369 := (cdS_3 (by decide) (by decide)).trans rfl
theorem cL_369 : xget cd_L 369 = oAldi 40 370 := (cdS_3 (by decide) (by decide)).trans rfl
theorem cL_370 : xget cd_L 370 = oAld 0 371 := (cdS_3 (by decide) (by decide)).trans rfl
theorem cL_371 : xget cd_L 371 = oIld 3 372 := (cdS_3 (by decide) (by decide)).trans rfl
theorem cL_372 : xget cd_L 372 = oPush (.int (2)) 373 := (cdS_3 (by decide) (by decide)).trans rfl
theorem cL_373 : xget cd_L 373 = oBin (fun x y => x + y) 374 := (cdS_3 (by decide) (by decide)).trans rfl
theorem cL_374 : xget cd_L 374 = oAldi 40 375 := (cdS_3 (by decide) (by decide)).trans rfl
theorem cL_375 : xget cd_L 375 = oAld 0 376 := (cdS_3 (by decide) (by decide)).trans rfl
theorem cL_376 : xget cd_L 376 = oIld 3 377 := (cdS_4 (by decide) (by decide)).trans rfl
theorem cL_377 : xget cd_L 377 = oPush (.int (3)) 378 := (cdS_4 (by decide) (by decide)).trans rfl
theorem cL_378 : xget cd_L 378 = oBin (fun x y => x + y) 379 := (cdS_4 (by decide) (by decide)).trans rfl
theorem cL_379 : xget cd_L 379 = oAldi 40 380 := (cdS_4 (by decide) (by decide)).trans rfl
theorem cL_380 : xget cd_L 380 = oCallV 13 140 4 383 := (cdS_4 (by decide) (by decide)).trans rfl
theorem cL_383 : xget cd_L 383 = oIcmp (fun x y => x = y) 1157 386 := (cdS_4 (by decide) (by decide)).trans rfl
theorem cL_386 : xget cd_L 386 = oPush (.int (0)) 387 := (cdS_4 (by decide) (by decide)).trans rfl
theorem cL_387 : xget cd_L 387 = oRi (fun x => x = 0 ∨ x = 1) := (cdS_4 (by decide) (by decide)).trans rfl
theorem cL_388 : xget cd_L 388 = oAld 1 389 := (cdS_4 (by decide) (by decide)).trans rfl
theorem cL_389 : xget cd_L 389 = oAld 0 390 := (cdS_4 (by decide) (by decide)).trans rfl
theorem cL_390 : xget cd_L 390 = oIld 3 391 := (cdS_4 (by decide) (by decide)).trans rfl
theorem cL_391 : xget cd_L 391 = oPush (.int (1)) 392 := (cdS_4 (by decide) (by decide)).trans rfl
theorem cL_392 : xget cd_L 392 = oBin (fun x y => x + y) 393 := (cdS_4 (by decide) (by decide)).trans rfl
theorem cL_393 : xget cd_L 393 = oAldi 40 394 := (cdS_4 (by decide) (by decide)).trans rfl
theorem cL_394 : xget cd_L 394 = oAld 0 395 := (cdS_4 (by decide) (by decide)).trans rfl
theorem cL_395 : xget cd_L 395 = oIld 3 396 := (cdS_4 (by decide) (by decide)).trans rfl
theorem cL_396 : xget cd_L 396 = oPush (.int (2)) 397 := (cdS_4 (by decide) (by decide)).trans rfl
theorem cL_397 : xget cd_L 397 = oBin (fun x y => x + y) 398 := (cdS_4 (by decide) (by decide)).trans rfl
theorem cL_398 : xget cd_L 398 = oAldi 40 399 := (cdS_4 (by decide) (by decide)).trans rfl
theorem cL_399 : xget cd_L 399 = oCallV 12 52 3 402 := (cdS_4 (by decide) (by decide)).trans rfl
theorem cL_402 : xget cd_L 402 = oAld 2 403 := (cdS_4 (by decide) (by decide)).trans rfl
theorem cL_403 : xget cd_L 403 = oAld 0 404 := (cdS_4 (by decide) (by decide)).trans rfl
theorem cL_404 : xget cd_L 404 = oIld 3 405 := (cdS_4 (by decide) (by decide)).trans rfl
theorem cL_405 : xget cd_L 405 = oPush (.int (1)) 406 := (cdS_4 (by decide) (by decide)).trans rfl
theorem cL_406 : xget cd_L 406 = oBin (fun x y => x + y) 407 := (cdS_4 (by decide) (by decide)).trans rfl
theorem cL_407 : xget cd_L 407 = oAldi 40 408 := (cdS_4 (by decide) (by decide)).trans rfl
theorem cL_408 : xget cd_L 408 = oAld 0 409 := (cdS_4 (by decide) (by decide)).trans rfl
theorem cL_409 : xget cd_L 409 = oIld 3 410 := (cdS_4 (by decide) (by decide)).trans rfl
theorem cL_410 : xget cd_L 410 = oPush (.int (2)) 411 := (cdS_4 (by decide) (by decide)).trans rfl
theorem cL_411 : xget cd_L 411 = oBin (fun x y => x + y) 412 := (cdS_4 (by decide) (by decide)).trans rfl
theorem cL_412 : xget cd_L 412 = oAldi 40 413 := (cdS_4 (by decide) (by decide)).trans rfl
theorem cL_413 : xget cd_L 413 = oCallV 13 141 3 416 := (cdS_4 (by decide) (by decide)).trans rfl
theorem cL_416 : xget cd_L 416 = oIcmp (fun x y => x = y) 1157 419 := (cdS_4 (by decide) (by decide)).trans rfl
theorem cL_419 : xget cd_L 419 = oPush (.int (0)) 420 := (cdS_4 (by decide) (by decide)).trans rfl
theorem cL_420 : xget cd_L 420 = oRi (fun x => x = 0 ∨ x = 1) := (cdS_4 (by decide) (by decide)).trans rfl
theorem cL_421 : xget cd_L 421 = oAld 1 422 := (cdS_4 (by decide) (by decide)).trans rfl
theorem cL_422 : xget cd_L 422 = oAld 0 423 := (cdS_4 (by decide) (by decide)).trans rfl
theorem cL_423 : xget cd_L 423 = oIld 3 424 := (cdS_4 (by decide) (by decide)).trans rfl
theorem cL_424 : xget cd_L 424 = oPush (.int (1)) 425 := (cdS_4 (by decide) (by decide)).trans rfl
theorem cL_425 : xget cd_L 425 = oBin (fun x y => x + y) 426 := (cdS_4 (by decide) (by decide)).trans rfl
theorem cL_426 : xget cd_L 426 = oAldi 40 427 := (cdS_4 (by decide) (by decide)).trans rfl
theorem cL_427 : xget cd_L 427 = oAld 0 428 := (cdS_4 (by decide) (by decide)).trans rfl
theorem cL_428 : xget cd_L 428 = oIld 3 429 := (cdS_4 (by decide) (by decide)).trans rfl
theorem cL_429 : xget cd_L 429 = oPush (.int (2)) 430 := (cdS_4 (by decide) (by decide)).trans rfl
theorem cL_430 : xget cd_L 430 = oBin (fun x y => x + y) 431 := (cdS_4 (by decide) (by decide)).trans rfl
theorem cL_431 : xget cd_L 431 = oAldi 40 432 := (cdS_4 (by decide) (by decide)).trans rfl
theorem cL_432 : xget cd_L 432 = oCallV 12 53 3 435 := (cdS_4 (by decide) (by decide)).trans rfl
theorem cL_435 : xget cd_L 435 = oAld 2 436 := (cdS_4 (by decide) (by decide)).trans rfl
theorem cL_436 : xget cd_L 436 = oAld 0 437 := (cdS_4 (by decide) (by decide)).trans rfl
theorem cL_437 : xget cd_L 437 = oIld 3 438 := (cdS_4 (by decide) (by decide)).trans rfl
theorem cL_438 : xget cd_L 438 = oPush (.int (1)) 439 := (cdS_5 (by decide) (by decide)).trans rfl
theorem cL_439 : xget cd_L 439 = oBin (fun x y => x + y) 440 := (cdS_5 (by decide) (by decide)).trans rfl
theorem cL_440 : xget cd_L 440 = oAldi 40 441 := (cdS_5 (by decide) (by decide)).trans rfl
theorem cL_441 : xget cd_L 441 = oAld 0 442 := (cdS_5 (by decide) (by decide)).trans rfl
theorem cL_442 : xget cd_L 442 = oIld 3 443 := (cdS_5 (by decide) (by decide)).trans rfl
theorem cL_443 : xget cd_L 443 = oPush (.int (2)) 444 := (cdS_5 (by decide) (by decide)).trans rfl
theorem cL_444 : xget cd_L 444 = oBin (fun x y => x + y) 445 := (cdS_5 (by decide) (by decide)).trans rfl
theorem cL_445 : xget cd_L 445 = oAldi 40 446 := (cdS_5 (by decide) (by decide)).trans rfl
theorem cL_446 : xget cd_L 446 = oCallV 13 142 3 449 := (cdS_5 (by decide) (by decide)).trans rfl
theorem cL_449 : xget cd_L 449 = oIcmp (fun x y => x = y) 1157 452 := (cdS_5 (by decide) (by decide)).trans rfl
theorem cL_452 : xget cd_L 452 = oPush (.int (0)) 453 := (cdS_5 (by decide) (by decide)).trans rfl
theorem cL_453 : xget cd_L 453 = oRi (fun x => x = 0 ∨ x = 1) := (cdS_5 (by decide) (by decide)).trans rfl
theorem cL_454 : xget cd_L 454 = oAld 1 455 := (cdS_5 (by decide) (by decide)).trans rfl
theorem cL_455 : xget cd_L 455 = oAld 0 456 := (cdS_5 (by decide) (by decide)).trans rfl
theorem cL_456 : xget cd_L 456 = oIld 3 457 := (cdS_5 (by decide) (by decide)).trans rfl
theorem cL_457 : xget cd_L 457 = oPush (.int (1)) 458 := (cdS_5 (by decide) (by decide)).trans rfl
theorem cL_458 : xget cd_L 458 = oBin (fun x y => x + y) 459 := (cdS_5 (by decide) (by decide)).trans rfl
theorem cL_459 : xget cd_L 459 = oAldi 40 460 := (cdS_5 (by decide) (by decide)).trans rfl
theorem cL_460 : xget cd_L 460 = oAld 0 461 := (cdS_5 (by decide) (by decide)).trans rfl
theorem cL_461 : xget cd_L 461 = oIld 3 462 := (cdS_5 (by decide) (by decide)).trans rfl
theorem cL_462 : xget cd_L 462 = oPush (.int (2)) 463 := (cdS_5 (by decide) (by decide)).trans rfl
theorem cL_463 : xget cd_L 463 = oBin (fun x y => x + y) 464 := (cdS_5 (by decide) (by decide)).trans rfl
theorem cL_464 : xget cd_L 464 = oAldi 40 465 := (cdS_5 (by decide) (by decide)).trans rfl
theorem cL_465 : xget cd_L 465 = oAld 0 466 := (cdS_5 (by decide) (by decide)).trans rfl
theorem cL_466 : xget cd_L 466 = oIld 3 467 := (cdS_5 (by decide) (by decide)).trans rfl
theorem cL_467 : xget cd_L 467 = oPush (.int (3)) 468 := (cdS_5 (by decide) (by decide)).trans rfl
theorem cL_468 : xget cd_L 468 = oBin (fun x y => x + y) 469 := (cdS_5 (by decide) (by decide)).trans rfl
theorem cL_469 : xget cd_L 469 = oAldi 40 470 := (cdS_5 (by decide) (by decide)).trans rfl
theorem cL_470 : xget cd_L 470 = oAld 0 471 := (cdS_5 (by decide) (by decide)).trans rfl
theorem cL_471 : xget cd_L 471 = oIld 3 472 := (cdS_5 (by decide) (by decide)).trans rfl
theorem cL_472 : xget cd_L 472 = oPush (.int (4)) 473 := (cdS_5 (by decide) (by decide)).trans rfl
theorem cL_473 : xget cd_L 473 = oBin (fun x y => x + y) 474 := (cdS_5 (by decide) (by decide)).trans rfl
theorem cL_474 : xget cd_L 474 = oAldi 40 475 := (cdS_5 (by decide) (by decide)).trans rfl
theorem cL_475 : xget cd_L 475 = oCallV 12 57 5 478 := (cdS_5 (by decide) (by decide)).trans rfl
theorem cL_478 : xget cd_L 478 = oAld 2 479 := (cdS_5 (by decide) (by decide)).trans rfl
theorem cL_479 : xget cd_L 479 = oAld 0 480 := (cdS_5 (by decide) (by decide)).trans rfl
theorem cL_480 : xget cd_L 480 = oIld 3 481 := (cdS_5 (by decide) (by decide)).trans rfl
theorem cL_481 : xget cd_L 481 = oPush (.int (1)) 482 := (cdS_5 (by decide) (by decide)).trans rfl
theorem cL_482 : xget cd_L 482 = oBin (fun x y => x + y) 483 := (cdS_5 (by decide) (by decide)).trans rfl
theorem cL_483 : xget cd_L 483 = oAldi 40 484 := (cdS_5 (by decide) (by decide)).trans rfl
theorem cL_484 : xget cd_L 484 = oAld 0 485 := (cdS_5 (by decide) (by decide)).trans rfl
theorem cL_485 : xget cd_L 485 = oIld 3 486 := (cdS_5 (by decide) (by decide)).trans rfl
theorem cL_486 : xget cd_L 486 = oPush (.int (2)) 487 := (cdS_5 (by decide) (by decide)).trans rfl
theorem cL_487 : xget cd_L 487 = oBin (fun x y => x + y) 488 := (cdS_5 (by decide) (by decide)).trans rfl
theorem cL_488 : xget cd_L 488 = oAldi 40 489 := (cdS_5 (by decide) (by decide)).trans rfl
theorem cL_489 : xget cd_L 489 = oAld 0 490 := (cdS_5 (by decide) (by decide)).trans rfl
theorem cL_490 : xget cd_L 490 = oIld 3 491 := (cdS_5 (by decide) (by decide)).trans rfl
theorem cL_491 : xget cd_L 491 = oPush (.int (3)) 492 := (cdS_5 (by decide) (by decide)).trans rfl
theorem cL_492 : xget cd_L 492 = oBin (fun x y => x + y) 493 := (cdS_5 (by decide) (by decide)).trans rfl
theorem cL_493 : xget cd_L 493 = oAldi 40 494 := (cdS_5 (by decide) (by decide)).trans rfl
theorem cL_494 : xget cd_L 494 = oAld 0 495 := (cdS_6 (by decide) (by decide)).trans rfl
theorem cL_495 : xget cd_L 495 = oIld 3 496 := (cdS_6 (by decide) (by decide)).trans rfl
theorem cL_496 : xget cd_L 496 = oPush (.int (4)) 497 := (cdS_6 (by decide) (by decide)).trans rfl
theorem cL_497 : xget cd_L 497 = oBin (fun x y => x + y) 498 := (cdS_6 (by decide) (by decide)).trans rfl
theorem cL_498 : xget cd_L 498 = oAldi 40 499 := (cdS_6 (by decide) (by decide)).trans rfl
theorem cL_499 : xget cd_L 499 = oCallV 13 145 5 502 := (cdS_6 (by decide) (by decide)).trans rfl
theorem cL_502 : xget cd_L 502 = oIcmp (fun x y => x = y) 1157 505 := (cdS_6 (by decide) (by decide)).trans rfl
theorem cL_505 : xget cd_L 505 = oPush (.int (0)) 506 := (cdS_6 (by decide) (by decide)).trans rfl
theorem cL_506 : xget cd_L 506 = oRi (fun x => x = 0 ∨ x = 1) := (cdS_6 (by decide) (by decide)).trans rfl
theorem cL_507 : xget cd_L 507 = oAld 1 508 := (cdS_6 (by decide) (by decide)).trans rfl
theorem cL_508 : xget cd_L 508 = oAld 0 509 := (cdS_6 (by decide) (by decide)).trans rfl
theorem cL_509 : xget cd_L 509 = oIld 3 510 := (cdS_6 (by decide) (by decide)).trans rfl
theorem cL_510 : xget cd_L 510 = oPush (.int (1)) 511 := (cdS_6 (by decide) (by decide)).trans rfl
theorem cL_511 : xget cd_L 511 = oBin (fun x y => x + y) 512 := (cdS_6 (by decide) (by decide)).trans rfl
theorem cL_512 : xget cd_L 512 = oAldi 40 513 := (cdS_6 (by decide) (by decide)).trans rfl
theorem cL_513 : xget cd_L 513 = oAld 0 514 := (cdS_6 (by decide) (by decide)).trans rfl
theorem cL_514 : xget cd_L 514 = oIld 3 515 := (cdS_6 (by decide) (by decide)).trans rfl
theorem cL_515 : xget cd_L 515 = oPush (.int (2)) 516 := (cdS_6 (by decide) (by decide)).trans rfl
theorem cL_516 : xget cd_L 516 = oBin (fun x y => x + y) 517 := (cdS_6 (by decide) (by decide)).trans rfl
theorem cL_517 : xget cd_L 517 = oAldi 40 518 := (cdS_6 (by decide) (by decide)).trans rfl
theorem cL_518 : xget cd_L 518 = oCallV 12 65 3 521 := (cdS_6 (by decide) (by decide)).trans rfl
theorem cL_521 : xget cd_L 521 = oAld 2 522 := (cdS_6 (by decide) (by decide)).trans rfl
theorem cL_522 : xget cd_L 522 = oAld 0 523 := (cdS_6 (by decide) (by decide)).trans rfl
theorem cL_523 : xget cd_L 523 = oIld 3 524 := (cdS_6 (by decide) (by decide)).trans rfl
theorem cL_524 : xget cd_L 524 = oPush (.int (1)) 525 := (cdS_6 (by decide) (by decide)).trans rfl
theorem cL_525 : xget cd_L 525 = oBin (fun x y => x + y) 526 := (cdS_6 (by decide) (by decide)).trans rfl
theorem cL_526 : xget cd_L 526 = oAldi 40 527 := (cdS_6 (by decide) (by decide)).trans rfl
theorem cL_527 : xget cd_L 527 = oAld 0 528 := (cdS_6 (by decide) (by decide)).trans rfl
theorem cL_528 : xget cd_L 528 = oIld 3 529 := (cdS_6 (by decide) (by decide)).trans rfl
theorem cL_529 : xget cd_L 529 = oPush (.int (2)) 530 := (cdS_6 (by decide) (by decide)).trans rfl
theorem cL_530 : xget cd_L 530 = oBin (fun x y => x + y) 531 := (cdS_6 (by decide) (by decide)).trans rfl
theorem cL_531 : xget cd_L 531 = oAldi 40 532 := (cdS_6 (by decide) (by decide)).trans rfl
theorem cL_532 : xget cd_L 532 = oCallV 13 146 3 535 := (cdS_6 (by decide) (by decide)).trans rfl
theorem cL_535 : xget cd_L 535 = oIcmp (fun x y => x = y) 1157 538 := (cdS_6 (by decide) (by decide)).trans rfl
theorem cL_538 : xget cd_L 538 = oPush (.int (0)) 539 := (cdS_6 (by decide) (by decide)).trans rfl
theorem cL_539 : xget cd_L 539 = oRi (fun x => x = 0 ∨ x = 1) := (cdS_6 (by decide) (by decide)).trans rfl
theorem cL_540 : xget cd_L 540 = oAld 1 541 := (cdS_6 (by decide) (by decide)).trans rfl
theorem cL_541 : xget cd_L 541 = oAld 0 542 := (cdS_6 (by decide) (by decide)).trans rfl
theorem cL_542 : xget cd_L 542 = oIld 3 543 := (cdS_6 (by decide) (by decide)).trans rfl
theorem cL_543 : xget cd_L 543 = oPush (.int (1)) 544 := (cdS_6 (by decide) (by decide)).trans rfl
theorem cL_544 : xget cd_L 544 = oBin (fun x y => x + y) 545 := (cdS_6 (by decide) (by decide)).trans rfl
theorem cL_545 : xget cd_L 545 = oAldi 40 546 := (cdS_6 (by decide) (by decide)).trans rfl
theorem cL_546 : xget cd_L 546 = oAld 0 547 := (cdS_6 (by decide) (by decide)).trans rfl
theorem cL_547 : xget cd_L 547 = oIld 3 548 := (cdS_6 (by decide) (by decide)).trans rfl
theorem cL_548 : xget cd_L 548 = oPush (.int (2)) 549 := (cdS_6 (by decide) (by decide)).trans rfl
theorem cL_549 : xget cd_L 549 = oBin (fun x y => x + y) 550 := (cdS_6 (by decide) (by decide)).trans rfl
theorem cL_550 : xget cd_L 550 = oAldi 40 551 := (cdS_6 (by decide) (by decide)).trans rfl
theorem cL_551 : xget cd_L 551 = oCallV 12 67 3 554 := (cdS_6 (by decide) (by decide)).trans rfl
theorem cL_554 : xget cd_L 554 = oAld 2 555 := (cdS_6 (by decide) (by decide)).trans rfl
theorem cL_555 : xget cd_L 555 = oAld 0 556 := (cdS_6 (by decide) (by decide)).trans rfl
theorem cL_556 : xget cd_L 556 = oIld 3 557 := (cdS_7 (by decide) (by decide)).trans rfl
theorem cL_557 : xget cd_L 557 = oPush (.int (1)) 558 := (cdS_7 (by decide) (by decide)).trans rfl
theorem cL_558 : xget cd_L 558 = oBin (fun x y => x + y) 559 := (cdS_7 (by decide) (by decide)).trans rfl
theorem cL_559 : xget cd_L 559 = oAldi 40 560 := (cdS_7 (by decide) (by decide)).trans rfl
theorem cL_560 : xget cd_L 560 = oAld 0 561 := (cdS_7 (by decide) (by decide)).trans rfl
theorem cL_561 : xget cd_L 561 = oIld 3 562 := (cdS_7 (by decide) (by decide)).trans rfl
theorem cL_562 : xget cd_L 562 = oPush (.int (2)) 563 := (cdS_7 (by decide) (by decide)).trans rfl
theorem cL_563 : xget cd_L 563 = oBin (fun x y => x + y) 564 := (cdS_7 (by decide) (by decide)).trans rfl
theorem cL_564 : xget cd_L 564 = oAldi 40 565 := (cdS_7 (by decide) (by decide)).trans rfl
theorem cL_565 : xget cd_L 565 = oCallV 13 148 3 568 := (cdS_7 (by decide) (by decide)).trans rfl
theorem cL_568 : xget cd_L 568 = oIcmp (fun x y => x = y) 1157 571 := (cdS_7 (by decide) (by decide)).trans rfl
theorem cL_571 : xget cd_L 571 = oPush (.int (0)) 572 := (cdS_7 (by decide) (by decide)).trans rfl
theorem cL_572 : xget cd_L 572 = oRi (fun x => x = 0 ∨ x = 1) := (cdS_7 (by decide) (by decide)).trans rfl
theorem cL_573 : xget cd_L 573 = oAld 1 574 := (cdS_7 (by decide) (by decide)).trans rfl
theorem cL_574 : xget cd_L 574 = oAld 0 575 := (cdS_7 (by decide) (by decide)).trans rfl
theorem cL_575 : xget cd_L 575 = oIld 3 576 := (cdS_7 (by decide) (by decide)).trans rfl
theorem cL_576 : xget cd_L 576 = oPush (.int (1)) 577 := (cdS_7 (by decide) (by decide)).trans rfl
theorem cL_577 : xget cd_L 577 = oBin (fun x y => x + y) 578 := (cdS_7 (by decide) (by decide)).trans rfl
theorem cL_578 : xget cd_L 578 = oAldi 40 579 := (cdS_7 (by decide) (by decide)).trans rfl
theorem cL_579 : xget cd_L 579 = oAld 0 580 := (cdS_7 (by decide) (by decide)).trans rfl
theorem cL_580 : xget cd_L 580 = oIld 3 581 := (cdS_7 (by decide) (by decide)).trans rfl
theorem cL_581 : xget cd_L 581 = oPush (.int (2)) 582 := (cdS_7 (by decide) (by decide)).trans rfl
theorem cL_582 : xget cd_L 582 = oBin (fun x y => x + y) 583 := (cdS_7 (by decide) (by decide)).trans rfl
theorem cL_583 : xget cd_L 583 = oAldi 40 584 := (cdS_7 (by decide) (by decide)).trans rfl
theorem cL_584 : xget cd_L 584 = oCallV 12 86 3 587 := (cdS_7 (by decide) (by decide)).trans rfl
theorem cL_587 : xget cd_L 587 = oAld 2 588 := (cdS_7 (by decide) (by decide)).trans rfl
theorem cL_588 : xget cd_L 588 = oAld 0 589 := (cdS_7 (by decide) (by decide)).trans rfl
theorem cL_589 : xget cd_L 589 = oIld 3 590 := (cdS_7 (by decide) (by decide)).trans rfl
theorem cL_590 : xget cd_L 590 = oPush (.int (1)) 591 := (cdS_7 (by decide) (by decide)).trans rfl
theorem cL_591 : xget cd_L 591 = oBin (fun x y => x + y) 592 := (cdS_7 (by decide) (by decide)).trans rfl
theorem cL_592 : xget cd_L 592 = oAldi 40 593 := (cdS_7 (by decide) (by decide)).trans rfl
theorem cL_593 : xget cd_L 593 = oAld 0 594 := (cdS_7 (by decide) (by decide)).trans rfl
theorem cL_594 : xget cd_L 594 = oIld 3 595 := (cdS_7 (by decide) (by decide)).trans rfl
theorem cL_595 : xget cd_L 595 = oPush (.int (2)) 596 := (cdS_7 (by decide) (by decide)).trans rfl
theorem cL_596 : xget cd_L 596 = oBin (fun x y => x + y) 597 := (cdS_7 (by decide) (by decide)).trans rfl
theorem cL_597 : xget cd_L 597 = oAldi 40 598 := (cdS_7 (by decide) (by decide)).trans rfl
theorem cL_598 : xget cd_L 598 = oCallV 13 159 3 601 := (cdS_7 (by decide) (by decide)).trans rfl
theorem cL_601 : xget cd_L 601 = oIcmp (fun x y => x = y) 1157 604 := (cdS_7 (by decide) (by decide)).trans rfl
theorem cL_604 : xget cd_L 604 = oPush (.int (0)) 605 := (cdS_7 (by decide) (by decide)).trans rfl
theorem cL_605 : xget cd_L 605 = oRi (fun x => x = 0 ∨ x = 1) := (cdS_7 (by decide) (by decide)).trans rfl
theorem cL_606 : xget cd_L 606 = oAld 1 607 := (cdS_7 (by decide) (by decide)).trans rfl
theorem cL_607 : xget cd_L 607 = oAld 0 608 := (cdS_7 (by decide) (by decide)).trans rfl
theorem cL_608 : xget cd_L 608 = oIld 3 609 := (cdS_7 (by decide) (by decide)).trans rfl
theorem cL_609 : xget cd_L 609 = oPush (.int (1)) 610 := (cdS_7 (by decide) (by decide)).trans rfl
theorem cL_610 : xget cd_L 610 = oBin (fun x y => x + y) 611 := (cdS_7 (by decide) (by decide)).trans rfl
theorem cL_611 : xget cd_L 611 = oAldi 40 612 := (cdS_7 (by decide) (by decide)).trans rfl
theorem cL_612 : xget cd_L 612 = oAld 0 613 := (cdS_7 (by decide) (by decide)).trans rfl
theorem cL_613 : xget cd_L 613 = oIld 3 614 := (cdS_7 (by decide) (by decide)).trans rfl
theorem cL_614 : xget cd_L 614 = oPush (.int (2)) 615 := (cdS_7 (by decide) (by decide)).trans rfl
theorem cL_615 : xget cd_L 615 = oBin (fun x y => x + y) 616 := (cdS_7 (by decide) (by decide)).trans rfl
theorem cL_616 : xget cd_L 616 = oAldi 40 617 := (cdS_8 (by decide) (by decide)).trans rfl
theorem cL_617 : xget cd_L 617 = oAld 0 618 := (cdS_8 (by decide) (by decide)).trans rfl
theorem cL_618 : xget cd_L 618 = oIld 3 619 := (cdS_8 (by decide) (by decide)).trans rfl
theorem cL_619 : xget cd_L 619 = oPush (.int (3)) 620 := (cdS_8 (by decide) (by decide)).trans rfl
theorem cL_620 : xget cd_L 620 = oBin (fun x y => x + y) 621 := (cdS_8 (by decide) (by decide)).trans rfl
theorem cL_621 : xget cd_L 621 = oAldi 40 622 := (cdS_8 (by decide) (by decide)).trans rfl
theorem cL_622 : xget cd_L 622 = oCallV 12 87 4 625 := (cdS_8 (by decide) (by decide)).trans rfl
theorem cL_625 : xget cd_L 625 = oAld 2 626 := (cdS_8 (by decide) (by decide)).trans rfl
theorem cL_626 : xget cd_L 626 = oAld 0 627 := (cdS_8 (by decide) (by decide)).trans rfl
theorem cL_627 : xget cd_L 627 = oIld 3 628 := (cdS_8 (by decide) (by decide)).trans rfl
theorem cL_628 : xget cd_L 628 = oPush (.int (1)) 629 := (cdS_8 (by decide) (by decide)).trans rfl
theorem cL_629 : xget cd_L 629 = oBin (fun x y => x + y) 630 := (cdS_8 (by decide) (by decide)).trans rfl
theorem cL_630 : xget cd_L 630 = oAldi 40 631 := (cdS_8 (by decide) (by decide)).trans rfl
theorem cL_631 : xget cd_L 631 = oAld 0 632 := (cdS_8 (by decide) (by decide)).trans rfl
theorem cL_632 : xget cd_L 632 = oIld 3 633 := (cdS_8 (by decide) (by decide)).trans rfl
theorem cL_633 : xget cd_L 633 = oPush (.int (2)) 634 := (cdS_8 (by decide) (by decide)).trans rfl
theorem cL_634 : xget cd_L 634 = oBin (fun x y => x + y) 635 := (cdS_8 (by decide) (by decide)).trans rfl
theorem cL_635 : xget cd_L 635 = oAldi 40 636 := (cdS_8 (by decide) (by decide)).trans rfl
theorem cL_636 : xget cd_L 636 = oAld 0 637 := (cdS_8 (by decide) (by decide)).trans rfl
theorem cL_637 : xget cd_L 637 = oIld 3 638 := (cdS_8 (by decide) (by decide)).trans rfl
theorem cL_638 : xget cd_L 638 = oPush (.int (3)) 639 := (cdS_8 (by decide) (by decide)).trans rfl
theorem cL_639 : xget cd_L 639 = oBin (fun x y => x + y) 640 := (cdS_8 (by decide) (by decide)).trans rfl
theorem cL_640 : xget cd_L 640 = oAldi 40 641 := (cdS_8 (by decide) (by decide)).trans rfl
theorem cL_641 : xget cd_L 641 = oCallV 13 161 4 644 := (cdS_8 (by decide) (by decide)).trans rfl
theorem cL_644 : xget cd_L 644 = oIcmp (fun x y => x = y) 1157 647 := (cdS_8 (by decide) (by decide)).trans rfl
theorem cL_647 : xget cd_L 647 = oPush (.int (0)) 648 := (cdS_8 (by decide) (by decide)).trans rfl
theorem cL_648 : xget cd_L 648 = oRi (fun x => x = 0 ∨ x = 1) := (cdS_8 (by decide) (by decide)).trans rfl
theorem cL_649 : xget cd_L 649 = oAld 1 650 := (cdS_8 (by decide) (by decide)).trans rfl
theorem cL_650 : xget cd_L 650 = oAld 0 651 := (cdS_8 (by decide) (by decide)).trans rfl
theorem cL_651 : xget cd_L 651 = oIld 3 652 := (cdS_8 (by decide) (by decide)).trans rfl
theorem cL_652 : xget cd_L 652 = oPush (.int (1)) 653 := (cdS_8 (by decide) (by decide)).trans rfl
theorem cL_653 : xget cd_L 653 = oBin (fun x y => x + y) 654 := (cdS_8 (by decide) (by decide)).trans rfl
theorem cL_654 : xget cd_L 654 = oAldi 40 655 := (cdS_8 (by decide) (by decide)).trans rfl
theorem cL_655 : xget cd_L 655 = oAld 0 656 := (cdS_8 (by decide) (by decide)).trans rfl
theorem cL_656 : xget cd_L 656 = oIld 3 657 := (cdS_8 (by decide) (by decide)).trans rfl
theorem cL_657 : xget cd_L 657 = oPush (.int (2)) 658 := (cdS_8 (by decide) (by decide)).trans rfl
theorem cL_658 : xget cd_L 658 = oBin (fun x y => x + y) 659 := (cdS_8 (by decide) (by decide)).trans rfl
theorem cL_659 : xget cd_L 659 = oAldi 40 660 := (cdS_8 (by decide) (by decide)).trans rfl
theorem cL_660 : xget cd_L 660 = oAld 0 661 := (cdS_8 (by decide) (by decide)).trans rfl
theorem cL_661 : xget cd_L 661 = oIld 3 662 := (cdS_8 (by decide) (by decide)).trans rfl
theorem cL_662 : xget cd_L 662 = oPush (.int (3)) 663 := (cdS_8 (by decide) (by decide)).trans rfl
theorem cL_663 : xget cd_L 663 = oBin (fun x y => x + y) 664 := (cdS_8 (by decide) (by decide)).trans rfl
theorem cL_664 : xget cd_L 664 = oAldi 40 665 := (cdS_8 (by decide) (by decide)).trans rfl
theorem cL_665 : xget cd_L 665 = oIf (fun x => x = 0) 672 668 := (cdS_8 (by decide) (by decide)).trans rfl
theorem cL_668 : xget cd_L 668 = oPush (.int (1)) 669 := (cdS_8 (by decide) (by decide)).trans rfl
theorem cL_669 : xget cd_L 669 = oGoto 673 := (cdS_8 (by decide) (by decide)).trans rfl
theorem cL_672 : xget cd_L 672 = oPush (.int (0)) 673 := (cdS_8 (by decide) (by decide)).trans rfl
theorem cL_673 : xget cd_L 673 = oTr [0, 1, 2, 3] (oCallV 12 92 4 676) := (cdS_8 (by decide) (by decide)).trans rfl
theorem cL_676 : xget cd_L 676 = oAld 2 677 := (cdS_8 (by decide) (by decide)).trans rfl
theorem cL_677 : xget cd_L 677 = oAld 0 678 := (cdS_8 (by decide) (by decide)).trans rfl
theorem cL_678 : xget cd_L 678 = oIld 3 679 := (cdS_9 (by decide) (by decide)).trans rfl
theorem cL_679 : xget cd_L 679 = oPush (.int (1)) 680 := (cdS_9 (by decide) (by decide)).trans rfl
theorem cL_680 : xget cd_L 680 = oBin (fun x y => x + y) 681 := (cdS_9 (by decide) (by decide)).trans rfl
theorem cL_681 : xget cd_L 681 = oAldi 40 682 := (cdS_9 (by decide) (by decide)).trans rfl
theorem cL_682 : xget cd_L 682 = oAld 0 683 := (cdS_9 (by decide) (by decide)).trans rfl
theorem cL_683 : xget cd_L 683 = oIld 3 684 := (cdS_9 (by decide) (by decide)).trans rfl
theorem cL_684 : xget cd_L 684 = oPush (.int (2)) 685 := (cdS_9 (by decide) (by decide)).trans rfl
theorem cL_685 : xget cd_L 685 = oBin (fun x y => x + y) 686 := (cdS_9 (by decide) (by decide)).trans rfl
theorem cL_686 : xget cd_L 686 = oAldi 40 687 := (cdS_9 (by decide) (by decide)).trans rfl
theorem cL_687 : xget cd_L 687 = oAld 0 688 := (cdS_9 (by decide) (by decide)).trans rfl
theorem cL_688 : xget cd_L 688 = oIld 3 689 := (cdS_9 (by decide) (by decide)).trans rfl
theorem cL_689 : xget cd_L 689 = oPush (.int (3)) 690 := (cdS_9 (by decide) (by decide)).trans rfl
theorem cL_690 : xget cd_L 690 = oBin (fun x y => x + y) 691 := (cdS_9 (by decide) (by decide)).trans rfl
theorem cL_691 : xget cd_L 691 = oAldi 40 692 := (cdS_9 (by decide) (by decide)).trans rfl
theorem cL_692 : xget cd_L 692 = oIf (fun x => x = 0) 699 695 := (cdS_9 (by decide) (by decide)).trans rfl
theorem cL_695 : xget cd_L 695 = oPush (.int (1)) 696 := (cdS_9 (by decide) (by decide)).trans rfl
theorem cL_696 : xget cd_L 696 = oGoto 700 := (cdS_9 (by decide) (by decide)).trans rfl
theorem cL_699 : xget cd_L 699 = oPush (.int (0)) 700 := (cdS_9 (by decide) (by decide)).trans rfl
theorem cL_700 : xget cd_L 700 = oTr [0, 1, 2, 3] (oCallV 13 164 4 703) := (cdS_9 (by decide) (by decide)).trans rfl
theorem cL_703 : xget cd_L 703 = oIcmp (fun x y => x = y) 1157 706 := (cdS_9 (by decide) (by decide)).trans rfl
theorem cL_706 : xget cd_L 706 = oPush (.int (0)) 707 := (cdS_9 (by decide) (by decide)).trans rfl
theorem cL_707 : xget cd_L 707 = oRi (fun x => x = 0 ∨ x = 1) := (cdS_9 (by decide) (by decide)).trans rfl
theorem cL_708 : xget cd_L 708 = oAld 1 709 := (cdS_9 (by decide) (by decide)).trans rfl
theorem cL_709 : xget cd_L 709 = oAld 0 710 := (cdS_9 (by decide) (by decide)).trans rfl
theorem cL_710 : xget cd_L 710 = oIld 3 711 := (cdS_9 (by decide) (by decide)).trans rfl
theorem cL_711 : xget cd_L 711 = oPush (.int (1)) 712 := (cdS_9 (by decide) (by decide)).trans rfl
theorem cL_712 : xget cd_L 712 = oBin (fun x y => x + y) 713 := (cdS_9 (by decide) (by decide)).trans rfl
theorem cL_713 : xget cd_L 713 = oAldi 40 714 := (cdS_9 (by decide) (by decide)).trans rfl
theorem cL_714 : xget cd_L 714 = oAld 0 715 := (cdS_9 (by decide) (by decide)).trans rfl
theorem cL_715 : xget cd_L 715 = oIld 3 716 := (cdS_9 (by decide) (by decide)).trans rfl
theorem cL_716 : xget cd_L 716 = oPush (.int (2)) 717 := (cdS_9 (by decide) (by decide)).trans rfl
theorem cL_717 : xget cd_L 717 = oBin (fun x y => x + y) 718 := (cdS_9 (by decide) (by decide)).trans rfl
theorem cL_718 : xget cd_L 718 = oAldi 40 719 := (cdS_9 (by decide) (by decide)).trans rfl
theorem cL_719 : xget cd_L 719 = oIf (fun x => x = 0) 726 722 := (cdS_9 (by decide) (by decide)).trans rfl
theorem cL_722 : xget cd_L 722 = oPush (.int (1)) 723 := (cdS_9 (by decide) (by decide)).trans rfl
theorem cL_723 : xget cd_L 723 = oGoto 727 := (cdS_9 (by decide) (by decide)).trans rfl
theorem cL_726 : xget cd_L 726 = oPush (.int (0)) 727 := (cdS_9 (by decide) (by decide)).trans rfl
theorem cL_727 : xget cd_L 727 = oTr [0, 1, 2, 3] (oCallV 12 95 3 730) := (cdS_9 (by decide) (by decide)).trans rfl
theorem cL_730 : xget cd_L 730 = oAld 2 731 := (cdS_9 (by decide) (by decide)).trans rfl
theorem cL_731 : xget cd_L 731 = oAld 0 732 := (cdS_9 (by decide) (by decide)).trans rfl
theorem cL_732 : xget cd_L 732 = oIld 3 733 := (cdS_9 (by decide) (by decide)).trans rfl
theorem cL_733 : xget cd_L 733 = oPush (.int (1)) 734 := (cdS_9 (by decide) (by decide)).trans rfl
theorem cL_734 : xget cd_L 734 = oBin (fun x y => x + y) 735 := (cdS_9 (by decide) (by decide)).trans rfl
theorem cL_735 : xget cd_L 735 = oAldi 40 736 := (cdS_9 (by decide) (by decide)).trans rfl
theorem cL_736 : xget cd_L 736 = oAld 0 737 := (cdS_9 (by decide) (by decide)).trans rfl
theorem cL_737 : xget cd_L 737 = oIld 3 738 := (cdS_9 (by decide) (by decide)).trans rfl
theorem cL_738 : xget cd_L 738 = oPush (.int (2)) 739 := (cdS_9 (by decide) (by decide)).trans rfl
theorem cL_739 : xget cd_L 739 = oBin (fun x y => x + y) 740 := (cdS_9 (by decide) (by decide)).trans rfl
theorem cL_740 : xget cd_L 740 = oAldi 40 741 := (cdS_9 (by decide) (by decide)).trans rfl
theorem cL_741 : xget cd_L 741 = oIf (fun x => x = 0) 748 744 := (cdS_9 (by decide) (by decide)).trans rfl
theorem cL_744 : xget cd_L 744 = oPush (.int (1)) 745 := (cdS_10 (by decide) (by decide)).trans rfl
theorem cL_745 : xget cd_L 745 = oGoto 749 := (cdS_10 (by decide) (by decide)).trans rfl
theorem cL_748 : xget cd_L 748 = oPush (.int (0)) 749 := (cdS_10 (by decide) (by decide)).trans rfl
theorem cL_749 : xget cd_L 749 = oTr [0, 1, 2, 3] (oCallV 13 166 3 752) := (cdS_10 (by decide) (by decide)).trans rfl
theorem cL_752 : xget cd_L 752 = oIcmp (fun x y => x = y) 1157 755 := (cdS_10 (by decide) (by decide)).trans rfl
theorem cL_755 : xget cd_L 755 = oPush (.int (0)) 756 := (cdS_10 (by decide) (by decide)).trans rfl
theorem cL_756 : xget cd_L 756 = oRi (fun x => x = 0 ∨ x = 1) := (cdS_10 (by decide) (by decide)).trans rfl
theorem cL_757 : xget cd_L 757 = oAld 1 758 := (cdS_10 (by decide) (by decide)).trans rfl
theorem cL_758 : xget cd_L 758 = oAld 0 759 := (cdS_10 (by decide) (by decide)).trans rfl
theorem cL_759 : xget cd_L 759 = oIld 3 760 := (cdS_10 (by decide) (by decide)).trans rfl
theorem cL_760 : xget cd_L 760 = oPush (.int (1)) 761 := (cdS_10 (by decide) (by decide)).trans rfl
theorem cL_761 : xget cd_L 761 = oBin (fun x y => x + y) 762 := (cdS_10 (by decide) (by decide)).trans rfl
theorem cL_762 : xget cd_L 762 = oAldi 40 763 := (cdS_10 (by decide) (by decide)).trans rfl
theorem cL_763 : xget cd_L 763 = oAld 0 764 := (cdS_10 (by decide) (by decide)).trans rfl
theorem cL_764 : xget cd_L 764 = oIld 3 765 := (cdS_10 (by decide) (by decide)).trans rfl
theorem cL_765 : xget cd_L 765 = oPush (.int (2)) 766 := (cdS_10 (by decide) (by decide)).trans rfl
theorem cL_766 : xget cd_L 766 = oBin (fun x y => x + y) 767 := (cdS_10 (by decide) (by decide)).trans rfl
theorem cL_767 : xget cd_L 767 = oAldi 40 768 := (cdS_10 (by decide) (by decide)).trans rfl
theorem cL_768 : xget cd_L 768 = oCallV 12 96 3 771 := (cdS_10 (by decide) (by decide)).trans rfl
theorem cL_771 : xget cd_L 771 = oAld 2 772 := (cdS_10 (by decide) (by decide)).trans rfl
theorem cL_772 : xget cd_L 772 = oAld 0 773 := (cdS_10 (by decide) (by decide)).trans rfl
theorem cL_773 : xget cd_L 773 = oIld 3 774 := (cdS_10 (by decide) (by decide)).trans rfl
theorem cL_774 : xget cd_L 774 = oPush (.int (1)) 775 := (cdS_10 (by decide) (by decide)).trans rfl
theorem cL_775 : xget cd_L 775 = oBin (fun x y => x + y) 776 := (cdS_10 (by decide) (by decide)).trans rfl
theorem cL_776 : xget cd_L 776 = oAldi 40 777 := (cdS_10 (by decide) (by decide)).trans rfl
theorem cL_777 : xget cd_L 777 = oAld 0 778 := (cdS_10 (by decide) (by decide)).trans rfl
theorem cL_778 : xget cd_L 778 = oIld 3 779 := (cdS_10 (by decide) (by decide)).trans rfl
theorem cL_779 : xget cd_L 779 = oPush (.int (2)) 780 := (cdS_10 (by decide) (by decide)).trans rfl
theorem cL_780 : xget cd_L 780 = oBin (fun x y => x + y) 781 := (cdS_10 (by decide) (by decide)).trans rfl
theorem cL_781 : xget cd_L 781 = oAldi 40 782 := (cdS_10 (by decide) (by decide)).trans rfl
theorem cL_782 : xget cd_L 782 = oCallV 13 167 3 785 := (cdS_10 (by decide) (by decide)).trans rfl
theorem cL_785 : xget cd_L 785 = oIcmp (fun x y => x = y) 1157 788 := (cdS_10 (by decide) (by decide)).trans rfl
theorem cL_788 : xget cd_L 788 = oPush (.int (0)) 789 := (cdS_10 (by decide) (by decide)).trans rfl
theorem cL_789 : xget cd_L 789 = oRi (fun x => x = 0 ∨ x = 1) := (cdS_10 (by decide) (by decide)).trans rfl
theorem cL_790 : xget cd_L 790 = oAld 1 791 := (cdS_10 (by decide) (by decide)).trans rfl
theorem cL_791 : xget cd_L 791 = oAld 0 792 := (cdS_10 (by decide) (by decide)).trans rfl
theorem cL_792 : xget cd_L 792 = oIld 3 793 := (cdS_10 (by decide) (by decide)).trans rfl
theorem cL_793 : xget cd_L 793 = oPush (.int (1)) 794 := (cdS_10 (by decide) (by decide)).trans rfl
theorem cL_794 : xget cd_L 794 = oBin (fun x y => x + y) 795 := (cdS_10 (by decide) (by decide)).trans rfl
theorem cL_795 : xget cd_L 795 = oAldi 40 796 := (cdS_10 (by decide) (by decide)).trans rfl
theorem cL_796 : xget cd_L 796 = oCallV 12 98 2 799 := (cdS_10 (by decide) (by decide)).trans rfl
theorem cL_799 : xget cd_L 799 = oAld 2 800 := (cdS_10 (by decide) (by decide)).trans rfl
theorem cL_800 : xget cd_L 800 = oAld 0 801 := (cdS_10 (by decide) (by decide)).trans rfl
theorem cL_801 : xget cd_L 801 = oIld 3 802 := (cdS_10 (by decide) (by decide)).trans rfl
theorem cL_802 : xget cd_L 802 = oPush (.int (1)) 803 := (cdS_10 (by decide) (by decide)).trans rfl
theorem cL_803 : xget cd_L 803 = oBin (fun x y => x + y) 804 := (cdS_10 (by decide) (by decide)).trans rfl
theorem cL_804 : xget cd_L 804 = oAldi 40 805 := (cdS_10 (by decide) (by decide)).trans rfl
theorem cL_805 : xget cd_L 805 = oCallV 13 169 2 808 := (cdS_10 (by decide) (by decide)).trans rfl
theorem cL_808 : xget cd_L 808 = oIcmp (fun x y => x = y) 1157 811 := (cdS_10 (by decide) (by decide)).trans rfl
theorem cL_811 : xget cd_L 811 = oPush (.int (0)) 812 := (cdS_10 (by decide) (by decide)).trans rfl
theorem cL_812 : xget cd_L 812 = oRi (fun x => x = 0 ∨ x = 1) := (cdS_11 (by decide) (by decide)).trans rfl
theorem cL_813 : xget cd_L 813 = oAld 1 814 := (cdS_11 (by decide) (by decide)).trans rfl
theorem cL_814 : xget cd_L 814 = oCallV 12 99 1 817 := (cdS_11 (by decide) (by decide)).trans rfl
theorem cL_817 : xget cd_L 817 = oAld 2 818 := (cdS_11 (by decide) (by decide)).trans rfl
theorem cL_818 : xget cd_L 818 = oCallV 13 170 1 821 := (cdS_11 (by decide) (by decide)).trans rfl
theorem cL_821 : xget cd_L 821 = oIcmp (fun x y => x = y) 1157 824 := (cdS_11 (by decide) (by decide)).trans rfl
theorem cL_824 : xget cd_L 824 = oPush (.int (0)) 825 := (cdS_11 (by decide) (by decide)).trans rfl
theorem cL_825 : xget cd_L 825 = oRi (fun x => x = 0 ∨ x = 1) := (cdS_11 (by decide) (by decide)).trans rfl
theorem cL_826 : xget cd_L 826 = oAld 1 827 := (cdS_11 (by decide) (by decide)).trans rfl
theorem cL_827 : xget cd_L 827 = oAld 0 828 := (cdS_11 (by decide) (by decide)).trans rfl
theorem cL_828 : xget cd_L 828 = oIld 3 829 := (cdS_11 (by decide) (by decide)).trans rfl
theorem cL_829 : xget cd_L 829 = oPush (.int (1)) 830 := (cdS_11 (by decide) (by decide)).trans rfl
theorem cL_830 : xget cd_L 830 = oBin (fun x y => x + y) 831 := (cdS_11 (by decide) (by decide)).trans rfl
theorem cL_831 : xget cd_L 831 = oAldi 40 832 := (cdS_11 (by decide) (by decide)).trans rfl
theorem cL_832 : xget cd_L 832 = oCallV 12 100 2 835 := (cdS_11 (by decide) (by decide)).trans rfl
theorem cL_835 : xget cd_L 835 = oAld 2 836 := (cdS_11 (by decide) (by decide)).trans rfl
theorem cL_836 : xget cd_L 836 = oAld 0 837 := (cdS_11 (by decide) (by decide)).trans rfl
theorem cL_837 : xget cd_L 837 = oIld 3 838 := (cdS_11 (by decide) (by decide)).trans rfl
theorem cL_838 : xget cd_L 838 = oPush (.int (1)) 839 := (cdS_11 (by decide) (by decide)).trans rfl
theorem cL_839 : xget cd_L 839 = oBin (fun x y => x + y) 840 := (cdS_11 (by decide) (by decide)).trans rfl
theorem cL_840 : xget cd_L 840 = oAldi 40 841 := (cdS_11 (by decide) (by decide)).trans rfl
theorem cL_841 : xget cd_L 841 = oCallV 13 186 2 844 := (cdS_11 (by decide) (by decide)).trans rfl
theorem cL_844 : xget cd_L 844 = oIcmp (fun x y => x = y) 1157 847 := (cdS_11 (by decide) (by decide)).trans rfl
theorem cL_847 : xget cd_L 847 = oPush (.int (0)) 848 := (cdS_11 (by decide) (by decide)).trans rfl
theorem cL_848 : xget cd_L 848 = oRi (fun x => x = 0 ∨ x = 1) := (cdS_11 (by decide) (by decide)).trans rfl
theorem cL_849 : xget cd_L 849 = oAld 1 850 := (cdS_11 (by decide) (by decide)).trans rfl
theorem cL_850 : xget cd_L 850 = oAld 0 851 := (cdS_11 (by decide) (by decide)).trans rfl
theorem cL_851 : xget cd_L 851 = oIld 3 852 := (cdS_11 (by decide) (by decide)).trans rfl
theorem cL_852 : xget cd_L 852 = oPush (.int (1)) 853 := (cdS_11 (by decide) (by decide)).trans rfl
theorem cL_853 : xget cd_L 853 = oBin (fun x y => x + y) 854 := (cdS_11 (by decide) (by decide)).trans rfl
theorem cL_854 : xget cd_L 854 = oAldi 40 855 := (cdS_11 (by decide) (by decide)).trans rfl
theorem cL_855 : xget cd_L 855 = oAld 0 856 := (cdS_11 (by decide) (by decide)).trans rfl
theorem cL_856 : xget cd_L 856 = oIld 3 857 := (cdS_11 (by decide) (by decide)).trans rfl
theorem cL_857 : xget cd_L 857 = oPush (.int (2)) 858 := (cdS_11 (by decide) (by decide)).trans rfl
theorem cL_858 : xget cd_L 858 = oBin (fun x y => x + y) 859 := (cdS_11 (by decide) (by decide)).trans rfl
theorem cL_859 : xget cd_L 859 = oAldi 40 860 := (cdS_11 (by decide) (by decide)).trans rfl
theorem cL_860 : xget cd_L 860 = oCallV 12 101 3 863 := (cdS_11 (by decide) (by decide)).trans rfl
theorem cL_863 : xget cd_L 863 = oAld 2 864 := (cdS_11 (by decide) (by decide)).trans rfl
theorem cL_864 : xget cd_L 864 = oAld 0 865 := (cdS_11 (by decide) (by decide)).trans rfl
theorem cL_865 : xget cd_L 865 = oIld 3 866 := (cdS_11 (by decide) (by decide)).trans rfl
theorem cL_866 : xget cd_L 866 = oPush (.int (1)) 867 := (cdS_11 (by decide) (by decide)).trans rfl
theorem cL_867 : xget cd_L 867 = oBin (fun x y => x + y) 868 := (cdS_11 (by decide) (by decide)).trans rfl
theorem cL_868 : xget cd_L 868 = oAldi 40 869 := (cdS_11 (by decide) (by decide)).trans rfl
theorem cL_869 : xget cd_L 869 = oAld 0 870 := (cdS_11 (by decide) (by decide)).trans rfl
theorem cL_870 : xget cd_L 870 = oIld 3 871 := (cdS_11 (by decide) (by decide)).trans rfl
theorem cL_871 : xget cd_L 871 = oPush (.int (2)) 872 := (cdS_11 (by decide) (by decide)).trans rfl
theorem cL_872 : xget cd_L 872 = oBin (fun x y => x + y) 873 := (cdS_11 (by decide) (by decide)).trans rfl
theorem cL_873 : xget cd_L 873 = oAldi 40 874 := (cdS_11 (by decide) (by decide)).trans rfl
theorem cL_874 : xget cd_L 874 = oCallV 13 187 3 877 := (cdS_11 (by decide) (by decide)).trans rfl
theorem cL_877 : xget cd_L 877 = oLcmp 878 := (cdS_11 (by decide) (by decide)).trans rfl
theorem cL_878 : xget cd_L 878 = oIf (fun x => x = 0) 1157 881 := (cdS_12 (by decide) (by decide)).trans rfl
theorem cL_881 : xget cd_L 881 = oPush (.int (0)) 882 := (cdS_12 (by decide) (by decide)).trans rfl
theorem cL_882 : xget cd_L 882 = oRi (fun x => x = 0 ∨ x = 1) := (cdS_12 (by decide) (by decide)).trans rfl
theorem cL_883 : xget cd_L 883 = oAld 1 884 := (cdS_12 (by decide) (by decide)).trans rfl
theorem cL_884 : xget cd_L 884 = oAld 0 885 := (cdS_12 (by decide) (by decide)).trans rfl
theorem cL_885 : xget cd_L 885 = oIld 3 886 := (cdS_12 (by decide) (by decide)).trans rfl
theorem cL_886 : xget cd_L 886 = oPush (.int (1)) 887 := (cdS_12 (by decide) (by decide)).trans rfl
theorem cL_887 : xget cd_L 887 = oBin (fun x y => x + y) 888 := (cdS_12 (by decide) (by decide)).trans rfl
theorem cL_888 : xget cd_L 888 = oAldi 40 889 := (cdS_12 (by decide) (by decide)).trans rfl
theorem cL_889 : xget cd_L 889 = oCallV 12 107 2 892 := (cdS_12 (by decide) (by decide)).trans rfl
theorem cL_892 : xget cd_L 892 = oAld 2 893 := (cdS_12 (by decide) (by decide)).trans rfl
theorem cL_893 : xget cd_L 893 = oAld 0 894 := (cdS_12 (by decide) (by decide)).trans rfl
theorem cL_894 : xget cd_L 894 = oIld 3 895 := (cdS_12 (by decide) (by decide)).trans rfl
theorem cL_895 : xget cd_L 895 = oPush (.int (1)) 896 := (cdS_12 (by decide) (by decide)).trans rfl
theorem cL_896 : xget cd_L 896 = oBin (fun x y => x + y) 897 := (cdS_12 (by decide) (by decide)).trans rfl
theorem cL_897 : xget cd_L 897 = oAldi 40 898 := (cdS_12 (by decide) (by decide)).trans rfl
theorem cL_898 : xget cd_L 898 = oCallV 13 190 2 901 := (cdS_12 (by decide) (by decide)).trans rfl
theorem cL_901 : xget cd_L 901 = oIcmp (fun x y => x = y) 1157 904 := (cdS_12 (by decide) (by decide)).trans rfl
theorem cL_904 : xget cd_L 904 = oPush (.int (0)) 905 := (cdS_12 (by decide) (by decide)).trans rfl
theorem cL_905 : xget cd_L 905 = oRi (fun x => x = 0 ∨ x = 1) := (cdS_12 (by decide) (by decide)).trans rfl
theorem cL_906 : xget cd_L 906 = oAld 1 907 := (cdS_12 (by decide) (by decide)).trans rfl
theorem cL_907 : xget cd_L 907 = oAld 0 908 := (cdS_12 (by decide) (by decide)).trans rfl
theorem cL_908 : xget cd_L 908 = oIld 3 909 := (cdS_12 (by decide) (by decide)).trans rfl
theorem cL_909 : xget cd_L 909 = oPush (.int (1)) 910 := (cdS_12 (by decide) (by decide)).trans rfl
theorem cL_910 : xget cd_L 910 = oBin (fun x y => x + y) 911 := (cdS_12 (by decide) (by decide)).trans rfl
theorem cL_911 : xget cd_L 911 = oAldi 40 912 := (cdS_12 (by decide) (by decide)).trans rfl
theorem cL_912 : xget cd_L 912 = oCallV 12 109 2 915 := (cdS_12 (by decide) (by decide)).trans rfl
theorem cL_915 : xget cd_L 915 = oAld 2 916 := (cdS_12 (by decide) (by decide)).trans rfl
theorem cL_916 : xget cd_L 916 = oAld 0 917 := (cdS_12 (by decide) (by decide)).trans rfl
theorem cL_917 : xget cd_L 917 = oIld 3 918 := (cdS_12 (by decide) (by decide)).trans rfl
theorem cL_918 : xget cd_L 918 = oPush (.int (1)) 919 := (cdS_12 (by decide) (by decide)).trans rfl
theorem cL_919 : xget cd_L 919 = oBin (fun x y => x + y) 920 := (cdS_12 (by decide) (by decide)).trans rfl
theorem cL_920 : xget cd_L 920 = oAldi 40 921 := (cdS_12 (by decide) (by decide)).trans rfl
theorem cL_921 : xget cd_L 921 = oCallV 13 192 2 924 := (cdS_12 (by decide) (by decide)).trans rfl
theorem cL_924 : xget cd_L 924 = oIcmp (fun x y => x = y) 1157 927 := (cdS_12 (by decide) (by decide)).trans rfl
theorem cL_927 : xget cd_L 927 = oPush (.int (0)) 928 := (cdS_12 (by decide) (by decide)).trans rfl
theorem cL_928 : xget cd_L 928 = oRi (fun x => x = 0 ∨ x = 1) := (cdS_12 (by decide) (by decide)).trans rfl
theorem cL_929 : xget cd_L 929 = oAld 1 930 := (cdS_12 (by decide) (by decide)).trans rfl
theorem cL_930 : xget cd_L 930 = oAld 0 931 := (cdS_12 (by decide) (by decide)).trans rfl
theorem cL_931 : xget cd_L 931 = oIld 3 932 := (cdS_12 (by decide) (by decide)).trans rfl
theorem cL_932 : xget cd_L 932 = oPush (.int (1)) 933 := (cdS_12 (by decide) (by decide)).trans rfl
theorem cL_933 : xget cd_L 933 = oBin (fun x y => x + y) 934 := (cdS_12 (by decide) (by decide)).trans rfl
theorem cL_934 : xget cd_L 934 = oAldi 40 935 := (cdS_12 (by decide) (by decide)).trans rfl
theorem cL_935 : xget cd_L 935 = oCallV 12 115 2 938 := (cdS_12 (by decide) (by decide)).trans rfl
theorem cL_938 : xget cd_L 938 = oAld 2 939 := (cdS_12 (by decide) (by decide)).trans rfl
theorem cL_939 : xget cd_L 939 = oAld 0 940 := (cdS_12 (by decide) (by decide)).trans rfl
theorem cL_940 : xget cd_L 940 = oIld 3 941 := (cdS_12 (by decide) (by decide)).trans rfl
theorem cL_941 : xget cd_L 941 = oPush (.int (1)) 942 := (cdS_12 (by decide) (by decide)).trans rfl
theorem cL_942 : xget cd_L 942 = oBin (fun x y => x + y) 943 := (cdS_12 (by decide) (by decide)).trans rfl
theorem cL_943 : xget cd_L 943 = oAldi 40 944 := (cdS_12 (by decide) (by decide)).trans rfl
theorem cL_944 : xget cd_L 944 = oCallV 13 194 2 947 := (cdS_13 (by decide) (by decide)).trans rfl
theorem cL_947 : xget cd_L 947 = oIcmp (fun x y => x = y) 1157 950 := (cdS_13 (by decide) (by decide)).trans rfl
theorem cL_950 : xget cd_L 950 = oPush (.int (0)) 951 := (cdS_13 (by decide) (by decide)).trans rfl
theorem cL_951 : xget cd_L 951 = oRi (fun x => x = 0 ∨ x = 1) := (cdS_13 (by decide) (by decide)).trans rfl
theorem cL_952 : xget cd_L 952 = oAld 1 953 := (cdS_13 (by decide) (by decide)).trans rfl
theorem cL_953 : xget cd_L 953 = oAld 0 954 := (cdS_13 (by decide) (by decide)).trans rfl
theorem cL_954 : xget cd_L 954 = oIld 3 955 := (cdS_13 (by decide) (by decide)).trans rfl
theorem cL_955 : xget cd_L 955 = oPush (.int (1)) 956 := (cdS_13 (by decide) (by decide)).trans rfl
theorem cL_956 : xget cd_L 956 = oBin (fun x y => x + y) 957 := (cdS_13 (by decide) (by decide)).trans rfl
theorem cL_957 : xget cd_L 957 = oAldi 40 958 := (cdS_13 (by decide) (by decide)).trans rfl
theorem cL_958 : xget cd_L 958 = oCallV 12 116 2 961 := (cdS_13 (by decide) (by decide)).trans rfl
theorem cL_961 : xget cd_L 961 = oAld 2 962 := (cdS_13 (by decide) (by decide)).trans rfl
theorem cL_962 : xget cd_L 962 = oAld 0 963 := (cdS_13 (by decide) (by decide)).trans rfl
theorem cL_963 : xget cd_L 963 = oIld 3 964 := (cdS_13 (by decide) (by decide)).trans rfl
theorem cL_964 : xget cd_L 964 = oPush (.int (1)) 965 := (cdS_13 (by decide) (by decide)).trans rfl
theorem cL_965 : xget cd_L 965 = oBin (fun x y => x + y) 966 := (cdS_13 (by decide) (by decide)).trans rfl
theorem cL_966 : xget cd_L 966 = oAldi 40 967 := (cdS_13 (by decide) (by decide)).trans rfl
theorem cL_967 : xget cd_L 967 = oCallV 13 195 2 970 := (cdS_13 (by decide) (by decide)).trans rfl
theorem cL_970 : xget cd_L 970 = oIcmp (fun x y => x = y) 1157 973 := (cdS_13 (by decide) (by decide)).trans rfl
theorem cL_973 : xget cd_L 973 = oPush (.int (0)) 974 := (cdS_13 (by decide) (by decide)).trans rfl
theorem cL_974 : xget cd_L 974 = oRi (fun x => x = 0 ∨ x = 1) := (cdS_13 (by decide) (by decide)).trans rfl
theorem cL_975 : xget cd_L 975 = oAld 1 976 := (cdS_13 (by decide) (by decide)).trans rfl
theorem cL_976 : xget cd_L 976 = oAld 0 977 := (cdS_13 (by decide) (by decide)).trans rfl
theorem cL_977 : xget cd_L 977 = oIld 3 978 := (cdS_13 (by decide) (by decide)).trans rfl
theorem cL_978 : xget cd_L 978 = oPush (.int (1)) 979 := (cdS_13 (by decide) (by decide)).trans rfl
theorem cL_979 : xget cd_L 979 = oBin (fun x y => x + y) 980 := (cdS_13 (by decide) (by decide)).trans rfl
theorem cL_980 : xget cd_L 980 = oAldi 40 981 := (cdS_13 (by decide) (by decide)).trans rfl
theorem cL_981 : xget cd_L 981 = oAld 0 982 := (cdS_13 (by decide) (by decide)).trans rfl
theorem cL_982 : xget cd_L 982 = oIld 3 983 := (cdS_13 (by decide) (by decide)).trans rfl
theorem cL_983 : xget cd_L 983 = oPush (.int (2)) 984 := (cdS_13 (by decide) (by decide)).trans rfl
theorem cL_984 : xget cd_L 984 = oBin (fun x y => x + y) 985 := (cdS_13 (by decide) (by decide)).trans rfl
theorem cL_985 : xget cd_L 985 = oAldi 40 986 := (cdS_13 (by decide) (by decide)).trans rfl
theorem cL_986 : xget cd_L 986 = oAld 0 987 := (cdS_13 (by decide) (by decide)).trans rfl
theorem cL_987 : xget cd_L 987 = oIld 3 988 := (cdS_13 (by decide) (by decide)).trans rfl
theorem cL_988 : xget cd_L 988 = oPush (.int (3)) 989 := (cdS_13 (by decide) (by decide)).trans rfl
theorem cL_989 : xget cd_L 989 = oBin (fun x y => x + y) 990 := (cdS_13 (by decide) (by decide)).trans rfl
theorem cL_990 : xget cd_L 990 = oAldi 40 991 := (cdS_13 (by decide) (by decide)).trans rfl
theorem cL_991 : xget cd_L 991 = oCallV 12 118 4 994 := (cdS_13 (by decide) (by decide)).trans rfl
theorem cL_994 : xget cd_L 994 = oAld 2 995 := (cdS_13 (by decide) (by decide)).trans rfl
theorem cL_995 : xget cd_L 995 = oAld 0 996 := (cdS_13 (by decide) (by decide)).trans rfl
theorem cL_996 : xget cd_L 996 = oIld 3 997 := (cdS_13 (by decide) (by decide)).trans rfl
theorem cL_997 : xget cd_L 997 = oPush (.int (1)) 998 := (cdS_13 (by decide) (by decide)).trans rfl
theorem cL_998 : xget cd_L 998 = oBin (fun x y => x + y) 999 := (cdS_13 (by decide) (by decide)).trans rfl
theorem cL_999 : xget cd_L 999 = oAldi 40 1000 := (cdS_13 (by decide) (by decide)).trans rfl
theorem cL_1000 : xget cd_L 1000 = oAld 0 1001 := (cdS_13 (by decide) (by decide)).trans rfl
theorem cL_1001 : xget cd_L 1001 = oIld 3 1002 := (cdS_13 (by decide) (by decide)).trans rfl
theorem cL_1002 : xget cd_L 1002 = oPush (.int (2)) 1003 := (cdS_13 (by decide) (by decide)).trans rfl
theorem cL_1003 : xget cd_L 1003 = oBin (fun x y => x + y) 1004 := (cdS_13 (by decide) (by decide)).trans rfl
theorem cL_1004 : xget cd_L 1004 = oAldi 40 1005 := (cdS_13 (by decide) (by decide)).trans rfl
theorem cL_1005 : xget cd_L 1005 = oAld 0 1006 := (cdS_13 (by decide) (by decide)).trans rfl
theorem cL_1006 : xget cd_L 1006 = oIld 3 1007 := (cdS_14 (by decide) (by decide)).trans rfl
theorem cL_1007 : xget cd_L 1007 = oPush (.int (3)) 1008 := (cdS_14 (by decide) (by decide)).trans rfl
theorem cL_1008 : xget cd_L 1008 = oBin (fun x y => x + y) 1009 := (cdS_14 (by decide) (by decide)).trans rfl
theorem cL_1009 : xget cd_L 1009 = oAldi 40 1010 := (cdS_14 (by decide) (by decide)).trans rfl
theorem cL_1010 : xget cd_L 1010 = oCallV 13 196 4 1013 := (cdS_14 (by decide) (by decide)).trans rfl
theorem cL_1013 : xget cd_L 1013 = oIcmp (fun x y => x = y) 1157 1016 := (cdS_14 (by decide) (by decide)).trans rfl
theorem cL_1016 : xget cd_L 1016 = oPush (.int (0)) 1017 := (cdS_14 (by decide) (by decide)).trans rfl
theorem cL_1017 : xget cd_L 1017 = oRi (fun x => x = 0 ∨ x = 1) := (cdS_14 (by decide) (by decide)).trans rfl
theorem cL_1018 : xget cd_L 1018 = oAld 1 1019 := (cdS_14 (by decide) (by decide)).trans rfl
theorem cL_1019 : xget cd_L 1019 = oAld 0 1020 := (cdS_14 (by decide) (by decide)).trans rfl
theorem cL_1020 : xget cd_L 1020 = oIld 3 1021 := (cdS_14 (by decide) (by decide)).trans rfl
theorem cL_1021 : xget cd_L 1021 = oPush (.int (1)) 1022 := (cdS_14 (by decide) (by decide)).trans rfl
theorem cL_1022 : xget cd_L 1022 = oBin (fun x y => x + y) 1023 := (cdS_14 (by decide) (by decide)).trans rfl
theorem cL_1023 : xget cd_L 1023 = oAldi 40 1024 := (cdS_14 (by decide) (by decide)).trans rfl
theorem cL_1024 : xget cd_L 1024 = oAld 0 1025 := (cdS_14 (by decide) (by decide)).trans rfl
theorem cL_1025 : xget cd_L 1025 = oIld 3 1026 := (cdS_14 (by decide) (by decide)).trans rfl
theorem cL_1026 : xget cd_L 1026 = oPush (.int (2)) 1027 := (cdS_14 (by decide) (by decide)).trans rfl
theorem cL_1027 : xget cd_L 1027 = oBin (fun x y => x + y) 1028 := (cdS_14 (by decide) (by decide)).trans rfl
theorem cL_1028 : xget cd_L 1028 = oAldi 40 1029 := (cdS_14 (by decide) (by decide)).trans rfl
theorem cL_1029 : xget cd_L 1029 = oAld 0 1030 := (cdS_14 (by decide) (by decide)).trans rfl
theorem cL_1030 : xget cd_L 1030 = oIld 3 1031 := (cdS_14 (by decide) (by decide)).trans rfl
theorem cL_1031 : xget cd_L 1031 = oPush (.int (3)) 1032 := (cdS_14 (by decide) (by decide)).trans rfl
theorem cL_1032 : xget cd_L 1032 = oBin (fun x y => x + y) 1033 := (cdS_14 (by decide) (by decide)).trans rfl
theorem cL_1033 : xget cd_L 1033 = oAldi 40 1034 := (cdS_14 (by decide) (by decide)).trans rfl
theorem cL_1034 : xget cd_L 1034 = oCallV 12 121 4 1037 := (cdS_14 (by decide) (by decide)).trans rfl
theorem cL_1037 : xget cd_L 1037 = oAld 2 1038 := (cdS_14 (by decide) (by decide)).trans rfl
theorem cL_1038 : xget cd_L 1038 = oAld 0 1039 := (cdS_14 (by decide) (by decide)).trans rfl
theorem cL_1039 : xget cd_L 1039 = oIld 3 1040 := (cdS_14 (by decide) (by decide)).trans rfl
theorem cL_1040 : xget cd_L 1040 = oPush (.int (1)) 1041 := (cdS_14 (by decide) (by decide)).trans rfl
theorem cL_1041 : xget cd_L 1041 = oBin (fun x y => x + y) 1042 := (cdS_14 (by decide) (by decide)).trans rfl
theorem cL_1042 : xget cd_L 1042 = oAldi 40 1043 := (cdS_14 (by decide) (by decide)).trans rfl
theorem cL_1043 : xget cd_L 1043 = oAld 0 1044 := (cdS_14 (by decide) (by decide)).trans rfl
theorem cL_1044 : xget cd_L 1044 = oIld 3 1045 := (cdS_14 (by decide) (by decide)).trans rfl
theorem cL_1045 : xget cd_L 1045 = oPush (.int (2)) 1046 := (cdS_14 (by decide) (by decide)).trans rfl
theorem cL_1046 : xget cd_L 1046 = oBin (fun x y => x + y) 1047 := (cdS_14 (by decide) (by decide)).trans rfl
theorem cL_1047 : xget cd_L 1047 = oAldi 40 1048 := (cdS_14 (by decide) (by decide)).trans rfl
theorem cL_1048 : xget cd_L 1048 = oAld 0 1049 := (cdS_14 (by decide) (by decide)).trans rfl
theorem cL_1049 : xget cd_L 1049 = oIld 3 1050 := (cdS_14 (by decide) (by decide)).trans rfl
theorem cL_1050 : xget cd_L 1050 = oPush (.int (3)) 1051 := (cdS_14 (by decide) (by decide)).trans rfl
theorem cL_1051 : xget cd_L 1051 = oBin (fun x y => x + y) 1052 := (cdS_14 (by decide) (by decide)).trans rfl
theorem cL_1052 : xget cd_L 1052 = oAldi 40 1053 := (cdS_14 (by decide) (by decide)).trans rfl
theorem cL_1053 : xget cd_L 1053 = oCallV 13 198 4 1056 := (cdS_14 (by decide) (by decide)).trans rfl
theorem cL_1056 : xget cd_L 1056 = oIcmp (fun x y => x = y) 1157 1059 := (cdS_14 (by decide) (by decide)).trans rfl
theorem cL_1059 : xget cd_L 1059 = oPush (.int (0)) 1060 := (cdS_14 (by decide) (by decide)).trans rfl
theorem cL_1060 : xget cd_L 1060 = oRi (fun x => x = 0 ∨ x = 1) := (cdS_14 (by decide) (by decide)).trans rfl
theorem cL_1061 : xget cd_L 1061 = oAld 1 1062 := (cdS_14 (by decide) (by decide)).trans rfl
theorem cL_1062 : xget cd_L 1062 = oAld 0 1063 := (cdS_14 (by decide) (by decide)).trans rfl
theorem cL_1063 : xget cd_L 1063 = oIld 3 1064 := (cdS_14 (by decide) (by decide)).trans rfl
theorem cL_1064 : xget cd_L 1064 = oPush (.int (1)) 1065 := (cdS_14 (by decide) (by decide)).trans rfl
theorem cL_1065 : xget cd_L 1065 = oBin (fun x y => x + y) 1066 := (cdS_14 (by decide) (by decide)).trans rfl
theorem cL_1066 : xget cd_L 1066 = oAldi 40 1067 := (cdS_15 (by decide) (by decide)).trans rfl
theorem cL_1067 : xget cd_L 1067 = oAld 0 1068 := (cdS_15 (by decide) (by decide)).trans rfl
theorem cL_1068 : xget cd_L 1068 = oIld 3 1069 := (cdS_15 (by decide) (by decide)).trans rfl
theorem cL_1069 : xget cd_L 1069 = oPush (.int (2)) 1070 := (cdS_15 (by decide) (by decide)).trans rfl
theorem cL_1070 : xget cd_L 1070 = oBin (fun x y => x + y) 1071 := (cdS_15 (by decide) (by decide)).trans rfl
theorem cL_1071 : xget cd_L 1071 = oAldi 40 1072 := (cdS_15 (by decide) (by decide)).trans rfl
theorem cL_1072 : xget cd_L 1072 = oAld 0 1073 := (cdS_15 (by decide) (by decide)).trans rfl
theorem cL_1073 : xget cd_L 1073 = oIld 3 1074 := (cdS_15 (by decide) (by decide)).trans rfl
theorem cL_1074 : xget cd_L 1074 = oPush (.int (3)) 1075 := (cdS_15 (by decide) (by decide)).trans rfl
theorem cL_1075 : xget cd_L 1075 = oBin (fun x y => x + y) 1076 := (cdS_15 (by decide) (by decide)).trans rfl
theorem cL_1076 : xget cd_L 1076 = oAldi 40 1077 := (cdS_15 (by decide) (by decide)).trans rfl
theorem cL_1077 : xget cd_L 1077 = oAld 0 1078 := (cdS_15 (by decide) (by decide)).trans rfl
theorem cL_1078 : xget cd_L 1078 = oIld 3 1079 := (cdS_15 (by decide) (by decide)).trans rfl
theorem cL_1079 : xget cd_L 1079 = oPush (.int (4)) 1080 := (cdS_15 (by decide) (by decide)).trans rfl
theorem cL_1080 : xget cd_L 1080 = oBin (fun x y => x + y) 1081 := (cdS_15 (by decide) (by decide)).trans rfl
theorem cL_1081 : xget cd_L 1081 = oAldi 40 1082 := (cdS_15 (by decide) (by decide)).trans rfl
theorem cL_1082 : xget cd_L 1082 = oAld 0 1083 := (cdS_15 (by decide) (by decide)).trans rfl
theorem cL_1083 : xget cd_L 1083 = oIld 3 1084 := (cdS_15 (by decide) (by decide)).trans rfl
theorem cL_1084 : xget cd_L 1084 = oPush (.int (5)) 1085 := (cdS_15 (by decide) (by decide)).trans rfl
theorem cL_1085 : xget cd_L 1085 = oBin (fun x y => x + y) 1086 := (cdS_15 (by decide) (by decide)).trans rfl
theorem cL_1086 : xget cd_L 1086 = oAldi 40 1087 := (cdS_15 (by decide) (by decide)).trans rfl
theorem cL_1087 : xget cd_L 1087 = oCallV 12 124 6 1090 := (cdS_15 (by decide) (by decide)).trans rfl
theorem cL_1090 : xget cd_L 1090 = oAld 2 1091 := (cdS_15 (by decide) (by decide)).trans rfl
theorem cL_1091 : xget cd_L 1091 = oAld 0 1092 := (cdS_15 (by decide) (by decide)).trans rfl
theorem cL_1092 : xget cd_L 1092 = oIld 3 1093 := (cdS_15 (by decide) (by decide)).trans rfl
theorem cL_1093 : xget cd_L 1093 = oPush (.int (1)) 1094 := (cdS_15 (by decide) (by decide)).trans rfl
theorem cL_1094 : xget cd_L 1094 = oBin (fun x y => x + y) 1095 := (cdS_15 (by decide) (by decide)).trans rfl
theorem cL_1095 : xget cd_L 1095 = oAldi 40 1096 := (cdS_15 (by decide) (by decide)).trans rfl
theorem cL_1096 : xget cd_L 1096 = oAld 0 1097 := (cdS_15 (by decide) (by decide)).trans rfl
theorem cL_1097 : xget cd_L 1097 = oIld 3 1098 := (cdS_15 (by decide) (by decide)).trans rfl
theorem cL_1098 : xget cd_L 1098 = oPush (.int (2)) 1099 := (cdS_15 (by decide) (by decide)).trans rfl
theorem cL_1099 : xget cd_L 1099 = oBin (fun x y => x + y) 1100 := (cdS_15 (by decide) (by decide)).trans rfl
theorem cL_1100 : xget cd_L 1100 = oAldi 40 1101 := (cdS_15 (by decide) (by decide)).trans rfl
theorem cL_1101 : xget cd_L 1101 = oAld 0 1102 := (cdS_15 (by decide) (by decide)).trans rfl
theorem cL_1102 : xget cd_L 1102 = oIld 3 1103 := (cdS_15 (by decide) (by decide)).trans rfl
theorem cL_1103 : xget cd_L 1103 = oPush (.int (3)) 1104 := (cdS_15 (by decide) (by decide)).trans rfl
theorem cL_1104 : xget cd_L 1104 = oBin (fun x y => x + y) 1105 := (cdS_15 (by decide) (by decide)).trans rfl
theorem cL_1105 : xget cd_L 1105 = oAldi 40 1106 := (cdS_15 (by decide) (by decide)).trans rfl
theorem cL_1106 : xget cd_L 1106 = oAld 0 1107 := (cdS_15 (by decide) (by decide)).trans rfl
theorem cL_1107 : xget cd_L 1107 = oIld 3 1108 := (cdS_15 (by decide) (by decide)).trans rfl
theorem cL_1108 : xget cd_L 1108 = oPush (.int (4)) 1109 := (cdS_15 (by decide) (by decide)).trans rfl
theorem cL_1109 : xget cd_L 1109 = oBin (fun x y => x + y) 1110 := (cdS_15 (by decide) (by decide)).trans rfl
theorem cL_1110 : xget cd_L 1110 = oAldi 40 1111 := (cdS_15 (by decide) (by decide)).trans rfl
theorem cL_1111 : xget cd_L 1111 = oAld 0 1112 := (cdS_15 (by decide) (by decide)).trans rfl
theorem cL_1112 : xget cd_L 1112 = oIld 3 1113 := (cdS_15 (by decide) (by decide)).trans rfl
theorem cL_1113 : xget cd_L 1113 = oPush (.int (5)) 1114 := (cdS_15 (by decide) (by decide)).trans rfl
theorem cL_1114 : xget cd_L 1114 = oBin (fun x y => x + y) 1115 := (cdS_15 (by decide) (by decide)).trans rfl
theorem cL_1115 : xget cd_L 1115 = oAldi 40 1116 := (cdS_15 (by decide) (by decide)).trans rfl
theorem cL_1116 : xget cd_L 1116 = oCallV 13 199 6 1119 := (cdS_15 (by decide) (by decide)).trans rfl
theorem cL_1119 : xget cd_L 1119 = oIcmp (fun x y => x = y) 1157 1122 := (cdS_15 (by decide) (by decide)).trans rfl
theorem cL_1122 : xget cd_L 1122 = oPush (.int (0)) 1123 := (cdS_16 (by decide) (by decide)).trans rfl
theorem cL_1123 : xget cd_L 1123 = oRi (fun x => x = 0 ∨ x = 1) := (cdS_16 (by decide) (by decide)).trans rfl
theorem cL_1124 : xget cd_L 1124 = oAld 1 1125 := (cdS_16 (by decide) (by decide)).trans rfl
theorem cL_1125 : xget cd_L 1125 = oAld 0 1126 := (cdS_16 (by decide) (by decide)).trans rfl
theorem cL_1126 : xget cd_L 1126 = oIld 3 1127 := (cdS_16 (by decide) (by decide)).trans rfl
theorem cL_1127 : xget cd_L 1127 = oPush (.int (1)) 1128 := (cdS_16 (by decide) (by decide)).trans rfl
theorem cL_1128 : xget cd_L 1128 = oBin (fun x y => x + y) 1129 := (cdS_16 (by decide) (by decide)).trans rfl
theorem cL_1129 : xget cd_L 1129 = oAldi 40 1130 := (cdS_16 (by decide) (by decide)).trans rfl
theorem cL_1130 : xget cd_L 1130 = oAld 0 1131 := (cdS_16 (by decide) (by decide)).trans rfl
theorem cL_1131 : xget cd_L 1131 = oIld 3 1132 := (cdS_16 (by decide) (by decide)).trans rfl
theorem cL_1132 : xget cd_L 1132 = oPush (.int (2)) 1133 := (cdS_16 (by decide) (by decide)).trans rfl
theorem cL_1133 : xget cd_L 1133 = oBin (fun x y => x + y) 1134 := (cdS_16 (by decide) (by decide)).trans rfl
theorem cL_1134 : xget cd_L 1134 = oAldi 40 1135 := (cdS_16 (by decide) (by decide)).trans rfl
theorem cL_1135 : xget cd_L 1135 = oCallV 12 125 3 1138 := (cdS_16 (by decide) (by decide)).trans rfl
theorem cL_1138 : xget cd_L 1138 = oAld 2 1139 := (cdS_16 (by decide) (by decide)).trans rfl
theorem cL_1139 : xget cd_L 1139 = oAld 0 1140 := (cdS_16 (by decide) (by decide)).trans rfl
theorem cL_1140 : xget cd_L 1140 = oIld 3 1141 := (cdS_16 (by decide) (by decide)).trans rfl
theorem cL_1141 : xget cd_L 1141 = oPush (.int (1)) 1142 := (cdS_16 (by decide) (by decide)).trans rfl
theorem cL_1142 : xget cd_L 1142 = oBin (fun x y => x + y) 1143 := (cdS_16 (by decide) (by decide)).trans rfl
theorem cL_1143 : xget cd_L 1143 = oAldi 40 1144 := (cdS_16 (by decide) (by decide)).trans rfl
theorem cL_1144 : xget cd_L 1144 = oAld 0 1145 := (cdS_16 (by decide) (by decide)).trans rfl
theorem cL_1145 : xget cd_L 1145 = oIld 3 1146 := (cdS_16 (by decide) (by decide)).trans rfl
theorem cL_1146 : xget cd_L 1146 = oPush (.int (2)) 1147 := (cdS_16 (by decide) (by decide)).trans rfl
theorem cL_1147 : xget cd_L 1147 = oBin (fun x y => x + y) 1148 := (cdS_16 (by decide) (by decide)).trans rfl
theorem cL_1148 : xget cd_L 1148 = oAldi 40 1149 := (cdS_16 (by decide) (by decide)).trans rfl
theorem cL_1149 : xget cd_L 1149 = oCallV 13 200 3 1152 := (cdS_16 (by decide) (by decide)).trans rfl
theorem cL_1152 : xget cd_L 1152 = oIcmp (fun x y => x = y) 1157 1155 := (cdS_16 (by decide) (by decide)).trans rfl
theorem cL_1155 : xget cd_L 1155 = oPush (.int (0)) 1156 := (cdS_16 (by decide) (by decide)).trans rfl
theorem cL_1156 : xget cd_L 1156 = oRi (fun x => x = 0 ∨ x = 1) := (cdS_16 (by decide) (by decide)).trans rfl
theorem cL_1157 : xget cd_L 1157 = oTr [0, 1, 2, 3] (oIinc 3 (6) 1160 4) := (cdS_16 (by decide) (by decide)).trans rfl
theorem cL_1160 : xget cd_L 1160 = oGoto 18 := (cdS_16 (by decide) (by decide)).trans rfl
theorem cL_1163 : xget cd_L 1163 = oPush (.int (1)) 1164 := (cdS_16 (by decide) (by decide)).trans rfl
theorem cL_1164 : xget cd_L 1164 = oRi (fun x => x = 0 ∨ x = 1) := (cdS_16 (by decide) (by decide)).trans rfl
