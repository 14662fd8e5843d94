theorem mZ_n {c : Nat} (h : ¬ c = 0 ∧ ¬ c = 33 ∧ ¬ c = 34 ∧ ¬ c = 41 ∧ ¬ c = 43) : mZ c = fun _ => 0 := by
  show (UA (UA (UA (UA (UA (UA (UA (UA (UA (UA (UA (UA (UA (UA (UA (UA (UA (UA (UA (UA (UA (UA (UA (UA (UA (fun _ _ => 0) 0 42 1) 41 0 (-1)) 41 1 (-1)) 41 2 (-1)) 41 3 (-1)) 41 4 (-1)) 41 5 (-1)) 41 6 (-1)) 41 7 (-1)) 43 0 (-1)) 43 1 (-1)) 43 2 (-1)) 43 3 (-1)) 33 0 7) 34 0 10000) 34 1 3) 34 2 (-8)) 34 3 10001) 34 4 10) 34 5 (-8)) 34 6 (-6)) 33 1 3) 34 160 10003) 34 161 10002) 34 162 (-4)) c = _
  rw [UA_n (show ¬ c = 34 by omega), UA_n (show ¬ c = 34 by omega), UA_n (show ¬ c = 34 by omega), UA_n (show ¬ c = 33 by omega), UA_n (show ¬ c = 34 by omega), UA_n (show ¬ c = 34 by omega), UA_n (show ¬ c = 34 by omega), UA_n (show ¬ c = 34 by omega), UA_n (show ¬ c = 34 by omega), UA_n (show ¬ c = 34 by omega), UA_n (show ¬ c = 34 by omega), UA_n (show ¬ c = 33 by omega), UA_n (show ¬ c = 43 by omega), UA_n (show ¬ c = 43 by omega), UA_n (show ¬ c = 43 by omega), UA_n (show ¬ c = 43 by omega), UA_n (show ¬ c = 41 by omega), UA_n (show ¬ c = 41 by omega), UA_n (show ¬ c = 41 by omega), UA_n (show ¬ c = 41 by omega), UA_n (show ¬ c = 41 by omega), UA_n (show ¬ c = 41 by omega), UA_n (show ¬ c = 41 by omega), UA_n (show ¬ c = 41 by omega), UA_n (show ¬ c = 0 by omega)]
theorem mZ_0 {j : Int} (h : ¬ j = 42) : mZ 0 j = 0 := by
  show (UA (UA (UA (UA (UA (UA (UA (UA (UA (UA (UA (UA (UA (UA (UA (UA (UA (UA (UA (UA (UA (UA (UA (UA (UA (fun _ _ => 0) 0 42 1) 41 0 (-1)) 41 1 (-1)) 41 2 (-1)) 41 3 (-1)) 41 4 (-1)) 41 5 (-1)) 41 6 (-1)) 41 7 (-1)) 43 0 (-1)) 43 1 (-1)) 43 2 (-1)) 43 3 (-1)) 33 0 7) 34 0 10000) 34 1 3) 34 2 (-8)) 34 3 10001) 34 4 10) 34 5 (-8)) 34 6 (-6)) 33 1 3) 34 160 10003) 34 161 10002) 34 162 (-4)) 0 j = _
  rw [UA_n (show ¬ 0 = 34 by decide), UA_n (show ¬ 0 = 34 by decide), UA_n (show ¬ 0 = 34 by decide), UA_n (show ¬ 0 = 33 by decide), UA_n (show ¬ 0 = 34 by decide), UA_n (show ¬ 0 = 34 by decide), UA_n (show ¬ 0 = 34 by decide), UA_n (show ¬ 0 = 34 by decide), UA_n (show ¬ 0 = 34 by decide), UA_n (show ¬ 0 = 34 by decide), UA_n (show ¬ 0 = 34 by decide), UA_n (show ¬ 0 = 33 by decide), UA_n (show ¬ 0 = 43 by decide), UA_n (show ¬ 0 = 43 by decide), UA_n (show ¬ 0 = 43 by decide), UA_n (show ¬ 0 = 43 by decide), UA_n (show ¬ 0 = 41 by decide), UA_n (show ¬ 0 = 41 by decide), UA_n (show ¬ 0 = 41 by decide), UA_n (show ¬ 0 = 41 by decide), UA_n (show ¬ 0 = 41 by decide), UA_n (show ¬ 0 = 41 by decide), UA_n (show ¬ 0 = 41 by decide), UA_n (show ¬ 0 = 41 by decide), UA_j h]
theorem mZ_42 : mZ 0 42 = 1 := by decide +kernel
theorem mZ_41 : ∀ j : Nat, j < 8 → mZ 41 j = -1 := by decide +kernel
theorem mZ_43 : ∀ j : Nat, j < 4 → mZ 43 j = -1 := by decide +kernel
theorem mZ_t : rowL mZ 0 = [10000, 3, -8, 10001, 10, -8, -6] ∧ rowL mZ 1 = [10003, 10002, -4] ∧ mZ 33 0 = 7 ∧ mZ 33 1 = 3 := by decide +kernel
theorem rg_mZ : RG mZ := by
  show RG (UA (UA (UA (UA (UA (UA (UA (UA (UA (UA (UA (UA (UA (UA (UA (UA (UA (UA (UA (UA (UA (UA (UA (UA (UA (fun _ _ => 0) 0 42 1) 41 0 (-1)) 41 1 (-1)) 41 2 (-1)) 41 3 (-1)) 41 4 (-1)) 41 5 (-1)) 41 6 (-1)) 41 7 (-1)) 43 0 (-1)) 43 1 (-1)) 43 2 (-1)) 43 3 (-1)) 33 0 7) 34 0 10000) 34 1 3) 34 2 (-8)) 34 3 10001) 34 4 10) 34 5 (-8)) 34 6 (-6)) 33 1 3) 34 160 10003) 34 161 10002) 34 162 (-4))
  exact rg_UA (rg_UA (rg_UA (rg_UA (rg_UA (rg_UA (rg_UA (rg_UA (rg_UA (rg_UA (rg_UA (rg_UA (rg_UA (rg_UA (rg_UA (rg_UA (rg_UA (rg_UA (rg_UA (rg_UA (rg_UA (rg_UA (rg_UA (rg_UA (rg_UA ((fun _ _ => by decide)) (by decide)) (by decide)) (by decide)) (by decide)) (by decide)) (by decide)) (by decide)) (by decide)) (by decide)) (by decide)) (by decide)) (by decide)) (by decide)) (by decide)) (by decide)) (by decide)) (by decide)) (by decide)) (by decide)) (by decide)) (by decide)) (by decide)) (by decide)) (by decide)) (by decide)
theorem kq_0_15 {P : Nat → Int → Nat} (h : P 0 = fun _ => 0) : KQ14 P 0 15 = 0 := by
  show (UP (UP (KQ13 P) 27 0 (27 + 1 + 1)) 20 3 (27 + 1)) 0 15 = _
  rw [UP_n (show ¬ 0 = 20 by decide), UP_n (show ¬ 0 = 27 by decide)]
  show (UP (UP (KQ12 P) 25 0 (25 + 1 + 1)) 20 2 (25 + 1)) 0 15 = _
  rw [UP_n (show ¬ 0 = 20 by decide), UP_n (show ¬ 0 = 25 by decide)]
  show (UP (UP (KQ11 P) 23 0 (23 + 1 + 1)) 20 1 (23 + 1)) 0 15 = _
  rw [UP_n (show ¬ 0 = 20 by decide), UP_n (show ¬ 0 = 23 by decide)]
  show (UP (UP (KQ10 P) 21 0 (21 + 1 + 1)) 20 0 (21 + 1)) 0 15 = _
  rw [UP_n (show ¬ 0 = 20 by decide), UP_n (show ¬ 0 = 21 by decide)]
  show (UP (KQ9 P) 0 9 (20 + 1)) 0 15 = _
  rw [UP_j (show ¬ (15 : Int) = 9 by decide)]
  show (UP (KQ8 P) 0 8 (19 + 1)) 0 15 = _
  rw [UP_j (show ¬ (15 : Int) = 8 by decide)]
  show (UP (KQ7 P) 0 7 (18 + 1)) 0 15 = _
  rw [UP_j (show ¬ (15 : Int) = 7 by decide)]
  show (UP (KQ6 P) 0 6 (17 + 1)) 0 15 = _
  rw [UP_j (show ¬ (15 : Int) = 6 by decide)]
  show (UP (KQ5 P) 0 5 (16 + 1)) 0 15 = _
  rw [UP_j (show ¬ (15 : Int) = 5 by decide)]
  show (UP (UP (UP (UP (UP (KQ4 P) 11 0 (11 + 1 + 1)) 11 1 (11 + 2 + 1)) 11 2 (11 + 3 + 1)) 11 3 (11 + 4 + 1)) 0 4 (11 + 1)) 0 15 = _
  rw [UP_j (show ¬ (15 : Int) = 4 by decide), UP_n (show ¬ 0 = 11 by decide), UP_n (show ¬ 0 = 11 by decide), UP_n (show ¬ 0 = 11 by decide), UP_n (show ¬ 0 = 11 by decide)]
  show (UP (UP (UP (KQ3 P) 8 0 (8 + 1 + 1)) 8 1 (8 + 2 + 1)) 0 3 (8 + 1)) 0 15 = _
  rw [UP_j (show ¬ (15 : Int) = 3 by decide), UP_n (show ¬ 0 = 8 by decide), UP_n (show ¬ 0 = 8 by decide)]
  show (UP (UP (KQ2 P) 6 0 (6 + 1 + 1)) 0 2 (6 + 1)) 0 15 = _
  rw [UP_j (show ¬ (15 : Int) = 2 by decide), UP_n (show ¬ 0 = 6 by decide)]
  show (UP (UP (UP (KQ1 P) 3 0 (3 + 1 + 1)) 3 1 (3 + 2 + 1)) 0 1 (3 + 1)) 0 15 = _
  rw [UP_j (show ¬ (15 : Int) = 1 by decide), UP_n (show ¬ 0 = 3 by decide), UP_n (show ¬ 0 = 3 by decide)]
  show (UP (UP P 1 0 (1 + 1 + 1)) 0 0 (1 + 1)) 0 15 = _
  rw [UP_j (show ¬ (15 : Int) = 0 by decide), UP_n (show ¬ 0 = 1 by decide)]
  rw [h]
theorem tZ_cd : (∀ c ∈ txRow tZ 48 0, cdOK c) ∧ ∀ c ∈ txRow tZ 48 1, cdOK c := by
  unfold cdOK
  decide +kernel
theorem mZ_wk : WkOK mZ 0 ∧ WkOK mZ 1 := by
  unfold WkOK
  rw [mZ_t.1, mZ_t.2.1, mZ_t.2.2.1, mZ_t.2.2.2]
  decide +kernel
theorem ka_14 {A : Nat → Int → Int} {j : Nat} (h : j < 8) : KA14 A 14 j = -1 := by
  show UA (UA (UA (UA (k_fill A (11 + 3) (-1) 8) 21 1 (-1)) 23 1 (-1)) 25 1 (-1)) 27 1 (-1) 14 j = _
  rw [UA_n (by decide), UA_n (by decide), UA_n (by decide), UA_n (by decide)]
  unfold k_fill
  rw [if_pos ⟨rfl, by omega, by omega⟩]
theorem ka_h {A : Nat → Int → Int} : KA14 A 21 1 = -1 ∧ KA14 A 23 1 = -1 ∧ KA14 A 25 1 = -1 ∧ KA14 A 27 1 = -1 := by
  refine ⟨?_, ?_, ?_, ?_⟩
  · show UA (UA (UA (UA (k_fill A (11 + 3) (-1) 8) 21 1 (-1)) 23 1 (-1)) 25 1 (-1)) 27 1 (-1) 21 1 = _
    rw [UA_n (by decide), UA_n (by decide), UA_n (by decide), UA_eq]
  · show UA (UA (UA (UA (k_fill A (11 + 3) (-1) 8) 21 1 (-1)) 23 1 (-1)) 25 1 (-1)) 27 1 (-1) 23 1 = _
    rw [UA_n (by decide), UA_n (by decide), UA_eq]
  · show UA (UA (UA (UA (k_fill A (11 + 3) (-1) 8) 21 1 (-1)) 23 1 (-1)) 25 1 (-1)) 27 1 (-1) 25 1 = _
    rw [UA_n (by decide), UA_eq]
  · show UA (UA (UA (UA (k_fill A (11 + 3) (-1) 8) 21 1 (-1)) 23 1 (-1)) 25 1 (-1)) 27 1 (-1) 27 1 = _
    rw [UA_eq]
