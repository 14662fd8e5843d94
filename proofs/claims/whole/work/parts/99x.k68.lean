theorem rel_0 {W Wb Wd : gW} {P Pb Pd : Nat → Int → Nat} {A A3 Ab : Nat → Int → Int} (h : RlK (KU14 W) Wb (KQ14 P) Pb A3 Ab) (h3 : ∀ c, ¬ c = 1 → ¬ c = 2 → A3 c = KA14 A c) (hi : IniM Wb Pb Wd Pd 46 67) (k0 : gK W 0 = 12 ∧ gL W 0 = 16) (kz : ∀ c, 0 < c → c < 500 → gK W c = 0) (zA : ∀ c, c < 500 → A c = fun _ => 0) (zP : ∀ c, c < 500 → P c = fun _ => 0) (hs : StrA A) : Rel Wd Pd Ab mZ := by
  obtain ⟨-, r2, -, ⟨t1, t2, t3, t4, t5⟩, r5, ⟨t6, t7, t8⟩, r7, r8, r9, r10, r11, r12⟩ := h
  obtain ⟨-, i2, -, -, i5, -, i7, i8⟩ := hi
  have pb : ∀ c, ¬ c = 6 → ¬ c = 19 → ¬ (400 ≤ c ∧ c < 403) → ¬ c = 1000 → Pd c = KQ14 P c := fun c q1 q2 q3 q4 => by rw [i8 c q4, r5 c q1 q2 q3]
  have ab : ∀ c, ¬ c = 0 → ¬ c = 1 → ¬ c = 2 → ¬ c = 6 → ¬ c = 7 → ¬ (400 ≤ c ∧ c < 403) → Ab c = KA14 A c := fun c q0 q1 q2 q3 q4 q5 => by rw [r7 c q0 q1 q3 q4 q5, h3 c q1 q2]
  have a0 : ∀ j : Int, ¬ j = 13 → Ab 0 j = 0 := fun j hj => by rw [r8 j hj, h3 0 (by decide) (by decide), ka_n (by omega), zA 0 (by decide)]
  have kd : ∀ c, ¬ (400 ≤ c ∧ c < 403) → c < 1000 → gK Wd c = gK (KU14 W) c ∧ gL Wd c = gL (KU14 W) c := fun c q1 q2 => by
    rw [(i5 c q2).1, (i5 c q2).2.1]
    exact ⟨(r2 c q1).1, (r2 c q1).2.1⟩
  have z2 : mZ 0 2 = 0 := mZ_0 (by decide)
  have z8 : mZ 0 8 = 0 := mZ_0 (by decide)
  have z13 : mZ 0 13 = 0 := mZ_0 (by decide)
  have z43 : mZ 0 43 = 0 := mZ_0 (by decide)
  have z1 : mZ 0 1 = 0 := mZ_0 (by decide)
  have z42 := mZ_42
  have a10 := a0 10 (by decide)
  have a11 := a0 11 (by decide)
  have a12 := a0 12 (by decide)
  have ll : (txRow tZ 48 0).length = 7 := tZ_0.2
  have l1 : (txRow tZ 48 1).length = 3 := tZ_1.2
  have p20 : Pd 20 = KQ14 P 20 := pb 20 (by decide) (by decide) (by decide) (by decide)
  have sh : ∀ c, c = 21 ∨ c = 23 ∨ c = 25 ∨ c = 27 → OSh Wd Pd c ∧ Ab c 1 = -1 := fun c hc => by
    have e1 := kd c (by omega) (by omega)
    have e2 := kd (c + 1) (by omega) (by omega)
    have e3 := pb c (by omega) (by omega) (by omega) (by omega)
    have e4 := ab c (by omega) (by omega) (by omega) (by omega) (by omega) (by omega)
    unfold OSh
    rw [e1.1, e2.1, e2.2, e3, e4, (kuk_14 k0 (by omega)).1, (kuk_14 k0 (by omega)).1, (kuk_14 k0 (by omega)).2]
    rcases hc with rfl | rfl | rfl | rfl
    · exact ⟨⟨⟨rfl, rfl⟩, kq_21_0, rfl⟩, ka_h.1⟩
    · exact ⟨⟨⟨rfl, rfl⟩, kq_23_0, rfl⟩, ka_h.2.1⟩
    · exact ⟨⟨⟨rfl, rfl⟩, kq_25_0, rfl⟩, ka_h.2.2.1⟩
    · exact ⟨⟨⟨rfl, rfl⟩, kq_27_0, rfl⟩, ka_h.2.2.2⟩
  have s4 : ∀ s : Int, 0 ≤ s → s < 4 → s = 0 ∨ s = 1 ∨ s = 2 ∨ s = 3 := fun s _ _ => by omega
  have fr : ∀ c, 29 ≤ c → c < 500 → ¬ (400 ≤ c ∧ c < 403) → gK Wd c = 0 := fun c q1 q2 q3 => by rw [(kd c q3 (by omega)).1, (kuo_14 (Or.inr q1)).1]; exact kz c (by omega) q2
  refine ⟨⟨⟨by rw [a10]; decide, by rw [a11]; decide, by rw [a12]; decide⟩, fun s q0 q1 => by omega, fun s q0 q1 => by omega, fun s q0 q1 => by omega, fun s q0 q1 => ?_⟩, ⟨by rw [a10, z2], by rw [a11, z8], by rw [a12, z13], by rw [r9, z42], by rw [a0 14 (by decide), z43], by rw [r10, z1]⟩, ⟨by rw [r10]; decide, by rw [mZ_n (by decide)]; intro k; show -128 ≤ (0 : Int) ∧ (0 : Int) ≤ 127; decide, fun i q0 q1 => by rw [r10] at q1; omega⟩, fun s q0 q1 => by omega, fun s q0 q1 => by omega, ⟨fun _ => ?_, fun z => by omega⟩, fun s q0 q1 => by omega, fun t q0 q1 => ?_, fun s q0 q1 => ?_, fun j hj => ?_, ⟨fun c q1 q2 => fr c (by omega) (by omega) (by omega), fun c q1 q2 => fr c (by omega) (by omega) (by omega), fun _ c q1 q2 => fr c (by omega) (by omega) (by omega), fun c q1 q2 => fr c (by omega) (by omega) (by omega), fun c q1 q2 => fr c (by omega) (by omega) ?_⟩, hs.same (fun c q1 q2 => (ab c (by omega) (by omega) (by omega) (by omega) (by omega) (by omega)).trans (ka_n (by omega))), ⟨fun c hc => ⟨(i2 c hc).2.2, (i2 c hc).1, (i2 c hc).2.1⟩, fun j hj => i7 j (mpf_67 hj) hj⟩, ⟨by rw [z2]; decide, fun s q0 q1 => by omega⟩, ⟨by rw [z8]; decide, fun s q0 q1 => by omega⟩, ⟨by rw [z13]; decide, fun s q0 q1 => by omega⟩, fun s q0 q1 => ?_, by rw [z42]; decide, by rw [z42, z43]; decide⟩
  · rw [p20]
    rcases s4 s q0 q1 with rfl | rfl | rfl | rfl
    · exact kq_20_0
    · exact kq_20_1
    · exact kq_20_2
    · exact kq_20_3
  · rw [pb 0 (by decide) (by decide) (by decide) (by decide)]; exact kq_0_15 (zP 0 (by decide))
  · have e : t = 0 := by omega
    subst e
    have q400 : qT 0 = 400 := rfl
    have k2 : ∀ c, c < 1000 → gK Wd c = gK Wb c ∧ gL Wd c = gL Wb c := fun c hc => ⟨(i5 c hc).1, (i5 c hc).2.1⟩
    have g1 : gL Wd 401 = 10 := (k2 401 (by decide)).2.trans t4
    have g2 : gL Wd 402 = 10 := (k2 402 (by decide)).2.trans t5
    have p400 : Pd 400 = Pb 400 := i8 400 (by decide)
    have c0 : partK Ab Wd 400 0 = txRow tZ 48 0 := by
      unfold partK
      rw [if_pos rfl, r11]
      have e : upL (Ab (400 + 1)) (txRow tZ 48 0).length 0 = txRow tZ 48 0 := upL_get (fun i hi => by
        rw [Nat.zero_add, r12 i (by omega), List.getD_eq_getElem?_getD, List.getD_eq_getElem?_getD, List.getElem?_append_left (by omega)])
      rw [ll] at e
      exact e
    have c1 : partK Ab Wd 400 1 = txRow tZ 48 1 := by
      unfold partK
      rw [if_neg (by decide), r11, g1]
      have e : upL (Ab (400 + 1)) (txRow tZ 48 1).length 7 = txRow tZ 48 1 := upL_get (fun i hi => by
        rw [r12 _ (by omega), List.getD_eq_getElem?_getD, List.getD_eq_getElem?_getD, List.getElem?_append_right (by omega), ll, Nat.add_sub_cancel_left])
      rw [l1] at e
      exact e
    unfold RTx
    rw [q400]
    refine ⟨by rw [i8 19 (by decide)]; exact t6, ⟨⟨(k2 400 (by decide)).1.trans t1, (k2 401 (by decide)).1.trans t2, (k2 402 (by decide)).1.trans t3⟩, by rw [p400]; exact ⟨t7, t8⟩, by rw [g1, g2]; decide⟩, by rw [r11, g1]; decide, by rw [g1, g2], fun q z0 z1 => ?_⟩
    rcases (by omega : q = 0 ∨ q = 1) with rfl | rfl
    · rw [c0]; exact ⟨tZ_0.1.trans mZ_t.1.symm, ⟨tZ_v.1, tZ_cd.1⟩, mZ_wk.1⟩
    · rw [c1]; exact ⟨tZ_1.1.trans mZ_t.2.1.symm, ⟨tZ_v.2, tZ_cd.2⟩, mZ_wk.2⟩
  · have m := mZ_43
    rcases s4 s q0 q1 with rfl | rfl | rfl | rfl
    · have e := m 0 (by decide); exact ⟨(sh 21 (by decide)).1, (sh 21 (by decide)).2.trans e.symm, fun z => absurd z (by rw [show mZ 43 0 = -1 from e]; decide)⟩
    · have e := m 1 (by decide); exact ⟨(sh 23 (by decide)).1, (sh 23 (by decide)).2.trans e.symm, fun z => absurd z (by rw [show mZ 43 1 = -1 from e]; decide)⟩
    · have e := m 2 (by decide); exact ⟨(sh 25 (by decide)).1, (sh 25 (by decide)).2.trans e.symm, fun z => absurd z (by rw [show mZ 43 2 = -1 from e]; decide)⟩
    · have e := m 3 (by decide); exact ⟨(sh 27 (by decide)).1, (sh 27 (by decide)).2.trans e.symm, fun z => absurd z (by rw [show mZ 43 3 = -1 from e]; decide)⟩
  · rw [ab 14 (by decide) (by decide) (by decide) (by decide) (by decide) (by decide), ka_14 hj, mZ_41 j hj]
  · rw [z42] at q1; omega
  · have m := mZ_43
    rw [mZ_n (c := 44) (by decide)]
    rcases s4 s q0 (by omega) with rfl | rfl | rfl | rfl
    · rw [show mZ 43 0 = -1 from m 0 (by decide)]; decide
    · rw [show mZ 43 1 = -1 from m 1 (by decide)]; decide
    · rw [show mZ 43 2 = -1 from m 2 (by decide)]; decide
    · rw [show mZ 43 3 = -1 from m 3 (by decide)]; decide
