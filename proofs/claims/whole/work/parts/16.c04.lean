theorem c201_0 : xT 201 0 = oIld 2 1 := rfl
theorem c201_1 : xT 201 1 = oIf (fun x => x = 0) 44 4 := rfl
theorem c201_4 : xT 201 4 = oIld 1 5 := rfl
theorem c201_5 : xT 201 5 = oIld 2 6 := rfl
theorem c201_6 : xT 201 6 = oIcmp (fun x y => x = y) 44 9 := rfl
theorem c201_9 : xT 201 9 = oIld 2 10 := rfl
theorem c201_10 : xT 201 10 = oPush (.int (1)) 11 := rfl
theorem c201_11 : xT 201 11 = oIcmp (fun x y => x = y) 14 24 := rfl
theorem c201_14 : xT 201 14 = oIld 1 15 := rfl
theorem c201_15 : xT 201 15 = oPush (.int (3)) 16 := rfl
theorem c201_16 : xT 201 16 = oIcmp (fun x y => x = y) 44 19 := rfl
theorem c201_19 : xT 201 19 = oIld 1 20 := rfl
theorem c201_20 : xT 201 20 = oPush (.int (5)) 21 := rfl
theorem c201_21 : xT 201 21 = oIcmp (fun x y => x = y) 44 24 := rfl
theorem c201_24 : xT 201 24 = oTr [1, 2] (oIld 2 25) := rfl
theorem c201_25 : xT 201 25 = oPush (.int (2)) 26 := rfl
theorem c201_26 : xT 201 26 = oIcmp (fun x y => x = y) 29 34 := rfl
theorem c201_29 : xT 201 29 = oIld 1 30 := rfl
theorem c201_30 : xT 201 30 = oPush (.int (4)) 31 := rfl
theorem c201_31 : xT 201 31 = oIcmp (fun x y => x = y) 44 34 := rfl
theorem c201_34 : xT 201 34 = oTr [1, 2] (oIld 2 35) := rfl
theorem c201_35 : xT 201 35 = oPush (.int (3)) 36 := rfl
theorem c201_36 : xT 201 36 = oIcmp (fun x y => x = y) 39 48 := rfl
theorem c201_39 : xT 201 39 = oIld 1 40 := rfl
theorem c201_40 : xT 201 40 = oPush (.int (5)) 41 := rfl
theorem c201_41 : xT 201 41 = oIcmp (fun x y => x = y) 44 48 := rfl
theorem c201_44 : xT 201 44 = oTr [] (oPush (.int (1)) 45) := rfl
theorem c201_45 : xT 201 45 = oGoto 49 := rfl
theorem c201_48 : xT 201 48 = oTr [] (oPush (.int (0)) 49) := rfl
theorem c201_49 : xT 201 49 = oTr [] (oRi (fun x => x = 0 ∨ x = 1)) := rfl
