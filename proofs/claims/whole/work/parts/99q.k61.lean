section KINI
variable {W : gW} {A : Nat → Int → Int} {P : Nat → Int → Nat}
theorem hr_a {t c k n : Nat} {j : Int} (hT : HR W P) (k0 : gK W c = 0) (zP : P c = fun _ => 0) (hk : ¬ k = 0 ∧ k < 40) : HR (gN W c k n) (UP P t j (c + 1)) := by
  have h := hT.gN (k := k) (n := n) k0
  rw [ZP_z zP] at h
  exact h.up (Or.inr (by rw [NZ, Nat.add_sub_cancel, gN_K_e]; exact hk))
abbrev KW1 (W : gW) (t : Nat) : gW := gN W (t + 1) 20 160
abbrev KP1 (P : Nat → Int → Nat) (t : Nat) : Nat → Int → Nat := UP P t 0 (t + 1 + 1)
theorem KS1 {d : Nat} (hd : 1 ≤ d) {t : Nat} (hW : HW W) (hT : HR W P) (kt : gK W t = 9) (k1 : gK W (t + 1) = 0) (zA : ∀ c, t < c → c ≤ t + 1 → A c = fun _ => 0) (zP : ∀ c, t < c → c ≤ t + 1 → P c = fun _ => 0) : xev xT d 1 [.ref (lo W t)] (Wm W A P) none (Wm (KW1 W t) A (KP1 P t)) ∧ HW (KW1 W t) ∧ HR (KW1 W t) (KP1 P t) := by
  have hk : ¬ (20 : Nat) = 0 ∧ 20 < 40 := by decide
  have hW1 : HW (gN (W) (t + 1) 20 160) := gN_ok hW k1 (by decide)
  have hT1 : HR (gN (W) (t + 1) 20 160) (UP (P) t 0 ((t + 1) + 1)) := hr_a hT k1 (zP _ (by omega) (by omega)) hk
  have kt1 : gK (gN (W) (t + 1) 20 160) t = 9 := by rw [gN_K_n (by omega)]; exact kt
  refine ⟨?_, hW1, hT1⟩
  refine xev_i (D := 0) hd (Nat.le_of_ble_eq_true rfl) (fun d hd => ?_)
  refine p_ald (cc3 c1_0) rfl ?_
  refine p_obj (cc3 c1_1) (Nat.le_of_ble_eq_true rfl) ?_
  refine ini_a (c := t + 1) (n := 160) hW hT kt k1 (zA _ (by omega) (by omega)) (zP _ (by omega) (by omega)) hk (by decide) (by decide) (by decide) c1_4 c1_5 c1_8 c1_10 (fun W1 e1 _ _ => ?_)
  subst e1
  exact p_rv (cc3 c1_13) ⟨rfl, rfl⟩
abbrev KW2 (W : gW) (t : Nat) : gW := gN (gN W (t + 1) 20 10) (t + 2) 20 10
abbrev KP2 (P : Nat → Int → Nat) (t : Nat) : Nat → Int → Nat := UP (UP P t 0 (t + 1 + 1)) t 1 (t + 2 + 1)
theorem KS2 {d : Nat} (hd : 1 ≤ d) {t : Nat} (hW : HW W) (hT : HR W P) (kt : gK W t = 7) (k1 : gK W (t + 1) = 0) (k2 : gK W (t + 2) = 0) (zA : ∀ c, t < c → c ≤ t + 2 → A c = fun _ => 0) (zP : ∀ c, t < c → c ≤ t + 2 → P c = fun _ => 0) : xev xT d 2 [.ref (lo W t)] (Wm W A P) none (Wm (KW2 W t) A (KP2 P t)) ∧ HW (KW2 W t) ∧ HR (KW2 W t) (KP2 P t) := by
  have hk : ¬ (20 : Nat) = 0 ∧ 20 < 40 := by decide
  have hW1 : HW (gN (W) (t + 1) 20 10) := gN_ok hW k1 (by decide)
  have hT1 : HR (gN (W) (t + 1) 20 10) (UP (P) t 0 ((t + 1) + 1)) := hr_a hT k1 (zP _ (by omega) (by omega)) hk
  have kt1 : gK (gN (W) (t + 1) 20 10) t = 7 := by rw [gN_K_n (by omega)]; exact kt
  have hW2 : HW (gN (gN (W) (t + 1) 20 10) (t + 2) 20 10) := gN_ok hW1 (show gK (gN (W) (t + 1) 20 10) (t + 2) = 0 by rw [gN_K_n (by omega)]; exact k2) (by decide)
  have hT2 : HR (gN (gN (W) (t + 1) 20 10) (t + 2) 20 10) (UP (UP (P) t 0 ((t + 1) + 1)) t 1 ((t + 2) + 1)) := hr_a hT1 (show gK (gN (W) (t + 1) 20 10) (t + 2) = 0 by rw [gN_K_n (by omega)]; exact k2) (show (UP (P) t 0 ((t + 1) + 1)) (t + 2) = _ by rw [UP_n (by omega)]; exact zP _ (by omega) (by omega)) hk
  have kt2 : gK (gN (gN (W) (t + 1) 20 10) (t + 2) 20 10) t = 7 := by rw [gN_K_n (by omega)]; exact kt1
  refine ⟨?_, hW2, hT2⟩
  refine xev_i (D := 0) hd (Nat.le_of_ble_eq_true rfl) (fun d hd => ?_)
  refine p_ald (cc3 c2_0) rfl ?_
  refine p_obj (cc3 c2_1) (Nat.le_of_ble_eq_true rfl) ?_
  refine ini_a (c := t + 1) (n := 10) hW hT kt k1 (zA _ (by omega) (by omega)) (zP _ (by omega) (by omega)) hk (by decide) (by decide) (by decide) c2_4 c2_5 c2_7 c2_9 (fun W1 e1 _ _ => ?_)
  subst e1
  refine ini_a (c := t + 2) (n := 10) hW1 hT1 kt1 (by rw [gN_K_n (by omega)]; exact k2) (zA _ (by omega) (by omega)) (by rw [UP_n (by omega)]; exact zP _ (by omega) (by omega)) hk (by decide) (by decide) (by decide) c2_12 c2_13 c2_15 c2_17 (fun W1 e1 _ _ => ?_)
  subst e1
  exact p_rv (cc3 c2_20) ⟨rfl, rfl⟩
abbrev KW3 (W : gW) (t : Nat) : gW := gN W (t + 1) 20 160
abbrev KP3 (P : Nat → Int → Nat) (t : Nat) : Nat → Int → Nat := UP P t 0 (t + 1 + 1)
theorem KS3 {d : Nat} (hd : 1 ≤ d) {t : Nat} (hW : HW W) (hT : HR W P) (kt : gK W t = 11) (k1 : gK W (t + 1) = 0) (zA : ∀ c, t < c → c ≤ t + 1 → A c = fun _ => 0) (zP : ∀ c, t < c → c ≤ t + 1 → P c = fun _ => 0) : xev xT d 3 [.ref (lo W t)] (Wm W A P) none (Wm (KW3 W t) A (KP3 P t)) ∧ HW (KW3 W t) ∧ HR (KW3 W t) (KP3 P t) := by
  have hk : ¬ (20 : Nat) = 0 ∧ 20 < 40 := by decide
  have hW1 : HW (gN (W) (t + 1) 20 160) := gN_ok hW k1 (by decide)
  have hT1 : HR (gN (W) (t + 1) 20 160) (UP (P) t 0 ((t + 1) + 1)) := hr_a hT k1 (zP _ (by omega) (by omega)) hk
  have kt1 : gK (gN (W) (t + 1) 20 160) t = 11 := by rw [gN_K_n (by omega)]; exact kt
  refine ⟨?_, hW1, hT1⟩
  refine xev_i (D := 0) hd (Nat.le_of_ble_eq_true rfl) (fun d hd => ?_)
  refine p_ald (cc3 c3_0) rfl ?_
  refine p_obj (cc3 c3_1) (Nat.le_of_ble_eq_true rfl) ?_
  refine ini_a (c := t + 1) (n := 160) hW hT kt k1 (zA _ (by omega) (by omega)) (zP _ (by omega) (by omega)) hk (by decide) (by decide) (by decide) c3_4 c3_5 c3_8 c3_10 (fun W1 e1 _ _ => ?_)
  subst e1
  exact p_rv (cc3 c3_13) ⟨rfl, rfl⟩
abbrev KW4 (W : gW) (t : Nat) : gW := gN (gN W (t + 1) 20 5064) (t + 2) 20 24
abbrev KP4 (P : Nat → Int → Nat) (t : Nat) : Nat → Int → Nat := UP (UP P t 0 (t + 1 + 1)) t 1 (t + 2 + 1)
theorem KS4 {d : Nat} (hd : 1 ≤ d) {t : Nat} (hW : HW W) (hT : HR W P) (kt : gK W t = 4) (k1 : gK W (t + 1) = 0) (k2 : gK W (t + 2) = 0) (zA : ∀ c, t < c → c ≤ t + 2 → A c = fun _ => 0) (zP : ∀ c, t < c → c ≤ t + 2 → P c = fun _ => 0) : xev xT d 4 [.ref (lo W t)] (Wm W A P) none (Wm (KW4 W t) A (KP4 P t)) ∧ HW (KW4 W t) ∧ HR (KW4 W t) (KP4 P t) := by
  have hk : ¬ (20 : Nat) = 0 ∧ 20 < 40 := by decide
  have hW1 : HW (gN (W) (t + 1) 20 5064) := gN_ok hW k1 (by decide)
  have hT1 : HR (gN (W) (t + 1) 20 5064) (UP (P) t 0 ((t + 1) + 1)) := hr_a hT k1 (zP _ (by omega) (by omega)) hk
  have kt1 : gK (gN (W) (t + 1) 20 5064) t = 4 := by rw [gN_K_n (by omega)]; exact kt
  have hW2 : HW (gN (gN (W) (t + 1) 20 5064) (t + 2) 20 24) := gN_ok hW1 (show gK (gN (W) (t + 1) 20 5064) (t + 2) = 0 by rw [gN_K_n (by omega)]; exact k2) (by decide)
  have hT2 : HR (gN (gN (W) (t + 1) 20 5064) (t + 2) 20 24) (UP (UP (P) t 0 ((t + 1) + 1)) t 1 ((t + 2) + 1)) := hr_a hT1 (show gK (gN (W) (t + 1) 20 5064) (t + 2) = 0 by rw [gN_K_n (by omega)]; exact k2) (show (UP (P) t 0 ((t + 1) + 1)) (t + 2) = _ by rw [UP_n (by omega)]; exact zP _ (by omega) (by omega)) hk
  have kt2 : gK (gN (gN (W) (t + 1) 20 5064) (t + 2) 20 24) t = 4 := by rw [gN_K_n (by omega)]; exact kt1
  refine ⟨?_, hW2, hT2⟩
  refine xev_i (D := 0) hd (Nat.le_of_ble_eq_true rfl) (fun d hd => ?_)
  refine p_ald (cc3 c4_0) rfl ?_
  refine p_obj (cc3 c4_1) (Nat.le_of_ble_eq_true rfl) ?_
  refine ini_a (c := t + 1) (n := 5064) hW hT kt k1 (zA _ (by omega) (by omega)) (zP _ (by omega) (by omega)) hk (by decide) (by decide) (by decide) c4_4 c4_5 c4_8 c4_10 (fun W1 e1 _ _ => ?_)
  subst e1
  refine ini_a (c := t + 2) (n := 24) hW1 hT1 kt1 (by rw [gN_K_n (by omega)]; exact k2) (zA _ (by omega) (by omega)) (by rw [UP_n (by omega)]; exact zP _ (by omega) (by omega)) hk (by decide) (by decide) (by decide) c4_13 c4_14 c4_16 c4_18 (fun W1 e1 _ _ => ?_)
  subst e1
  exact p_rv (cc3 c4_21) ⟨rfl, rfl⟩
abbrev KW7 (W : gW) (t : Nat) : gW := gN W (t + 1) 20 40
abbrev KP7 (P : Nat → Int → Nat) (t : Nat) : Nat → Int → Nat := UP P t 0 (t + 1 + 1)
theorem KS7 {d : Nat} (hd : 1 ≤ d) {t : Nat} (hW : HW W) (hT : HR W P) (kt : gK W t = 8) (k1 : gK W (t + 1) = 0) (zA : ∀ c, t < c → c ≤ t + 1 → A c = fun _ => 0) (zP : ∀ c, t < c → c ≤ t + 1 → P c = fun _ => 0) : xev xT d 7 [.ref (lo W t)] (Wm W A P) none (Wm (KW7 W t) (UA A t 1 (-1)) (KP7 P t)) ∧ HW (KW7 W t) ∧ HR (KW7 W t) (KP7 P t) := by
  have hk : ¬ (20 : Nat) = 0 ∧ 20 < 40 := by decide
  have hW1 : HW (gN (W) (t + 1) 20 40) := gN_ok hW k1 (by decide)
  have hT1 : HR (gN (W) (t + 1) 20 40) (UP (P) t 0 ((t + 1) + 1)) := hr_a hT k1 (zP _ (by omega) (by omega)) hk
  have kt1 : gK (gN (W) (t + 1) 20 40) t = 8 := by rw [gN_K_n (by omega)]; exact kt
  refine ⟨?_, hW1, hT1⟩
  refine xev_i (D := 0) hd (Nat.le_of_ble_eq_true rfl) (fun d hd => ?_)
  refine p_ald (cc3 c7_0) rfl ?_
  refine p_obj (cc3 c7_1) (Nat.le_of_ble_eq_true rfl) ?_
  refine ini_a (c := t + 1) (n := 40) hW hT kt k1 (zA _ (by omega) (by omega)) (zP _ (by omega) (by omega)) hk (by decide) (by decide) (by decide) c7_4 c7_5 c7_7 c7_9 (fun W1 e1 _ _ => ?_)
  subst e1
  refine p_ald (cc3 c7_12) rfl (i_push (n := -1) (cc3 c7_13) (by decide) ?_)
  exact w_puti hW1 (cc3 c7_14) kt1 (ji := 1) rfl (p_rv (cc3 c7_17) ⟨rfl, rfl⟩)
abbrev KW5 (W : gW) (t : Nat) : gW := gN (gN (gN (gN W (t + 1) 20 8) (t + 2) 20 4) (t + 3) 20 8) (t + 4) 20 8
abbrev KP5 (P : Nat → Int → Nat) (t : Nat) : Nat → Int → Nat := UP (UP (UP (UP P t 0 (t + 1 + 1)) t 1 (t + 2 + 1)) t 2 (t + 3 + 1)) t 3 (t + 4 + 1)
theorem KS5 {d : Nat} (hd : 2 ≤ d) {t : Nat} (hW : HW W) (hR : RG A) (hT : HR W P) (kt : gK W t = 2) (k1 : gK W (t + 1) = 0) (k2 : gK W (t + 2) = 0) (k3 : gK W (t + 3) = 0) (k4 : gK W (t + 4) = 0) (zA : ∀ c, t < c → c ≤ t + 4 → A c = fun _ => 0) (zP : ∀ c, t < c → c ≤ t + 4 → P c = fun _ => 0) : xev xT d 5 [.ref (lo W t)] (Wm W A P) none (Wm (KW5 W t) (k_fill A (t + 3) (-1) 8) (KP5 P t)) ∧ HW (KW5 W t) ∧ HR (KW5 W t) (KP5 P t) := by
  have hk : ¬ (20 : Nat) = 0 ∧ 20 < 40 := by decide
  have hW1 : HW (gN (W) (t + 1) 20 8) := gN_ok hW k1 (by decide)
  have hT1 : HR (gN (W) (t + 1) 20 8) (UP (P) t 0 ((t + 1) + 1)) := hr_a hT k1 (zP _ (by omega) (by omega)) hk
  have kt1 : gK (gN (W) (t + 1) 20 8) t = 2 := by rw [gN_K_n (by omega)]; exact kt
  have hW2 : HW (gN (gN (W) (t + 1) 20 8) (t + 2) 20 4) := gN_ok hW1 (show gK (gN (W) (t + 1) 20 8) (t + 2) = 0 by rw [gN_K_n (by omega)]; exact k2) (by decide)
  have hT2 : HR (gN (gN (W) (t + 1) 20 8) (t + 2) 20 4) (UP (UP (P) t 0 ((t + 1) + 1)) t 1 ((t + 2) + 1)) := hr_a hT1 (show gK (gN (W) (t + 1) 20 8) (t + 2) = 0 by rw [gN_K_n (by omega)]; exact k2) (show (UP (P) t 0 ((t + 1) + 1)) (t + 2) = _ by rw [UP_n (by omega)]; exact zP _ (by omega) (by omega)) hk
  have kt2 : gK (gN (gN (W) (t + 1) 20 8) (t + 2) 20 4) t = 2 := by rw [gN_K_n (by omega)]; exact kt1
  have hW3 : HW (gN (gN (gN (W) (t + 1) 20 8) (t + 2) 20 4) (t + 3) 20 8) := gN_ok hW2 (show gK (gN (gN (W) (t + 1) 20 8) (t + 2) 20 4) (t + 3) = 0 by rw [gN_K_n (by omega), gN_K_n (by omega)]; exact k3) (by decide)
  have hT3 : HR (gN (gN (gN (W) (t + 1) 20 8) (t + 2) 20 4) (t + 3) 20 8) (UP (UP (UP (P) t 0 ((t + 1) + 1)) t 1 ((t + 2) + 1)) t 2 ((t + 3) + 1)) := hr_a hT2 (show gK (gN (gN (W) (t + 1) 20 8) (t + 2) 20 4) (t + 3) = 0 by rw [gN_K_n (by omega), gN_K_n (by omega)]; exact k3) (show (UP (UP (P) t 0 ((t + 1) + 1)) t 1 ((t + 2) + 1)) (t + 3) = _ by rw [UP_n (by omega), UP_n (by omega)]; exact zP _ (by omega) (by omega)) hk
  have kt3 : gK (gN (gN (gN (W) (t + 1) 20 8) (t + 2) 20 4) (t + 3) 20 8) t = 2 := by rw [gN_K_n (by omega)]; exact kt2
  have hW4 : HW (gN (gN (gN (gN (W) (t + 1) 20 8) (t + 2) 20 4) (t + 3) 20 8) (t + 4) 20 8) := gN_ok hW3 (show gK (gN (gN (gN (W) (t + 1) 20 8) (t + 2) 20 4) (t + 3) 20 8) (t + 4) = 0 by rw [gN_K_n (by omega), gN_K_n (by omega), gN_K_n (by omega)]; exact k4) (by decide)
  have hT4 : HR (gN (gN (gN (gN (W) (t + 1) 20 8) (t + 2) 20 4) (t + 3) 20 8) (t + 4) 20 8) (UP (UP (UP (UP (P) t 0 ((t + 1) + 1)) t 1 ((t + 2) + 1)) t 2 ((t + 3) + 1)) t 3 ((t + 4) + 1)) := hr_a hT3 (show gK (gN (gN (gN (W) (t + 1) 20 8) (t + 2) 20 4) (t + 3) 20 8) (t + 4) = 0 by rw [gN_K_n (by omega), gN_K_n (by omega), gN_K_n (by omega)]; exact k4) (show (UP (UP (UP (P) t 0 ((t + 1) + 1)) t 1 ((t + 2) + 1)) t 2 ((t + 3) + 1)) (t + 4) = _ by rw [UP_n (by omega), UP_n (by omega), UP_n (by omega)]; exact zP _ (by omega) (by omega)) hk
  have kt4 : gK (gN (gN (gN (gN (W) (t + 1) 20 8) (t + 2) 20 4) (t + 3) 20 8) (t + 4) 20 8) t = 2 := by rw [gN_K_n (by omega)]; exact kt3
  refine ⟨?_, hW4, hT4⟩
  refine xev_i (D := 1) hd (Nat.le_of_ble_eq_true rfl) (fun d hd => ?_)
  refine p_ald (cc3 c5_0) rfl ?_
  refine p_obj (cc3 c5_1) (Nat.le_of_ble_eq_true rfl) ?_
  refine ini_a (c := t + 1) (n := 8) hW hT kt k1 (zA _ (by omega) (by omega)) (zP _ (by omega) (by omega)) hk (by decide) (by decide) (by decide) c5_4 c5_5 c5_7 c5_9 (fun W1 e1 _ _ => ?_)
  subst e1
  refine ini_a (c := t + 2) (n := 4) hW1 hT1 kt1 (by rw [gN_K_n (by omega)]; exact k2) (zA _ (by omega) (by omega)) (by rw [UP_n (by omega)]; exact zP _ (by omega) (by omega)) hk (by decide) (by decide) (by decide) c5_12 c5_13 c5_14 c5_16 (fun W1 e1 _ _ => ?_)
  subst e1
  refine ini_a (c := t + 3) (n := 8) hW2 hT2 kt2 (by rw [gN_K_n (by omega), gN_K_n (by omega)]; exact k3) (zA _ (by omega) (by omega)) (by rw [UP_n (by omega), UP_n (by omega)]; exact zP _ (by omega) (by omega)) hk (by decide) (by decide) (by decide) c5_19 c5_20 c5_22 c5_24 (fun W1 e1 _ _ => ?_)
  subst e1
  refine ini_a (c := t + 4) (n := 8) hW3 hT3 kt3 (by rw [gN_K_n (by omega), gN_K_n (by omega), gN_K_n (by omega)]; exact k4) (zA _ (by omega) (by omega)) (by rw [UP_n (by omega), UP_n (by omega), UP_n (by omega)]; exact zP _ (by omega) (by omega)) hk (by decide) (by decide) (by decide) c5_27 c5_28 c5_30 c5_32 (fun W1 e1 _ _ => ?_)
  subst e1
  refine p_ald (cc3 c5_35) rfl ?_
  refine w_getp (b := t + 3) hW4 hT4 (cc3 c5_36) kt4 (ji := 2) rfl (by rw [UP_j (by decide), UP_e]) ?_
  refine i_push (n := -1) (cc3 c5_39) (by decide) ?_
  have x := S6 (d := d) (x1 := -1) (a0 := t + 3) (by omega) hW4 (P := KP5 P t) hR (by decide) ⟨by rw [gN_K_n (by omega), gN_K_e], by rw [gN_L_n (by omega), gN_L_e]; decide⟩
  rw [show (gL (KW5 W t) (t + 3) : Int) = 8 by rw [gN_L_n (by omega), gN_L_e]; rfl] at x
  refine p_callS (cc3 c5_40) (Nat.le_of_ble_eq_true rfl) rfl rfl (Nat.le_of_ble_eq_true rfl) x ?_
  exact p_rv (cc3 c5_43) ⟨rfl, rfl⟩
end KINI
