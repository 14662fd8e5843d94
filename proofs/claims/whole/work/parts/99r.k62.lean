def KU1 (W : gW) : gW := KW1 (gN W 1 9 2) 1
def KQ1 (P : Nat → Int → Nat) : Nat → Int → Nat := UP (KP1 P 1) 0 0 (1 + 1)
def KU2 (W : gW) : gW := KW2 (gN (KU1 W) 3 7 4) 3
def KQ2 (P : Nat → Int → Nat) : Nat → Int → Nat := UP (KP2 (KQ1 P) 3) 0 1 (3 + 1)
def KU3 (W : gW) : gW := KW3 (gN (KU2 W) 6 11 9) 6
def KQ3 (P : Nat → Int → Nat) : Nat → Int → Nat := UP (KP3 (KQ2 P) 6) 0 2 (6 + 1)
def KU4 (W : gW) : gW := KW4 (gN (KU3 W) 8 4 8) 8
def KQ4 (P : Nat → Int → Nat) : Nat → Int → Nat := UP (KP4 (KQ3 P) 8) 0 3 (8 + 1)
def KU5 (W : gW) : gW := KW5 (gN (KU4 W) 11 2 6) 11
def KQ5 (P : Nat → Int → Nat) : Nat → Int → Nat := UP (KP5 (KQ4 P) 11) 0 4 (11 + 1)
def KU6 (W : gW) : gW := gN (KU5 W) 16 23 4
def KQ6 (P : Nat → Int → Nat) : Nat → Int → Nat := UP (KQ5 P) 0 5 (16 + 1)
def KU7 (W : gW) : gW := gN (KU6 W) 17 24 4
def KQ7 (P : Nat → Int → Nat) : Nat → Int → Nat := UP (KQ6 P) 0 6 (17 + 1)
def KU8 (W : gW) : gW := gN (KU7 W) 18 25 8
def KQ8 (P : Nat → Int → Nat) : Nat → Int → Nat := UP (KQ7 P) 0 7 (18 + 1)
def KU9 (W : gW) : gW := gN (KU8 W) 19 26 6
def KQ9 (P : Nat → Int → Nat) : Nat → Int → Nat := UP (KQ8 P) 0 8 (19 + 1)
def KU10 (W : gW) : gW := gN (KU9 W) 20 27 4
def KQ10 (P : Nat → Int → Nat) : Nat → Int → Nat := UP (KQ9 P) 0 9 (20 + 1)
def KU11 (W : gW) : gW := KW7 (gN (KU10 W) 21 8 3) 21
def KQ11 (P : Nat → Int → Nat) : Nat → Int → Nat := UP (KP7 (KQ10 P) 21) 20 0 (21 + 1)
def KU12 (W : gW) : gW := KW7 (gN (KU11 W) 23 8 3) 23
def KQ12 (P : Nat → Int → Nat) : Nat → Int → Nat := UP (KP7 (KQ11 P) 23) 20 1 (23 + 1)
def KU13 (W : gW) : gW := KW7 (gN (KU12 W) 25 8 3) 25
def KQ13 (P : Nat → Int → Nat) : Nat → Int → Nat := UP (KP7 (KQ12 P) 25) 20 2 (25 + 1)
def KU14 (W : gW) : gW := KW7 (gN (KU13 W) 27 8 3) 27
def KQ14 (P : Nat → Int → Nat) : Nat → Int → Nat := UP (KP7 (KQ13 P) 27) 20 3 (27 + 1)
def KA10 (A : Nat → Int → Int) : Nat → Int → Int := k_fill A (11 + 3) (-1) 8
def KA11 (A : Nat → Int → Int) : Nat → Int → Int := UA (KA10 A) 21 1 (-1)
def KA12 (A : Nat → Int → Int) : Nat → Int → Int := UA (KA11 A) 23 1 (-1)
def KA13 (A : Nat → Int → Int) : Nat → Int → Int := UA (KA12 A) 25 1 (-1)
def KA14 (A : Nat → Int → Int) : Nat → Int → Int := UA (KA13 A) 27 1 (-1)
section KROOM
variable {C : Nat → xI} {ev : xV} {Q : Option Value → xM → Prop} {W : gW} {A : Nat → Int → Int} {P : Nat → Int → Nat}
theorem ini_o {cl N i j c p p1 p2 p3 p4 p5 : Nat} {W2 : gW} {A2 : Nat → Int → Int} {P2 : Nat → Int → Nat} (hW : HW W) (hT : HR W P) (kc : gK W c = 0) (zA : A c = fun _ => 0) (zP : P c = fun _ => 0) (hcl : cl + 1 < 40) (c0 : C p = oAld 0 p1) (c1 : C p1 = oNew cl N p2) (c2 : C p2 = oDup p3) (c3 : C p3 = oCallI i 1 p4) (c4 : C p4 = oPutp 11 j p5)
    (hx : HW (gN W c (cl + 1) N) → HR (gN W c (cl + 1) N) P → ev i [.ref (lo (gN W c (cl + 1) N) c)] (Wm (gN W c (cl + 1) N) A P) none (Wm W2 A2 P2) ∧ HW W2 ∧ HR W2 P2)
    (e2 : lo W2 c = lo (gN W c (cl + 1) N) c ∧ lo W2 0 = lo W 0 ∧ gK W2 0 = 12 ∧ gK W2 c = cl + 1)
    (h : HW W2 → HR W2 (UP P2 0 j (c + 1)) → wpE C ev Q (p5, [(0, .ref (lo W2 0))], [], Wm W2 A2 (UP P2 0 j (c + 1)))) : wpE C ev Q (p, [(0, .ref (lo W 0))], [], Wm W A P) := by
  refine p_ald (cc3 c0) rfl ?_
  refine w_new hW hT (cc3 c1) c kc (fun W1 e1 hW1 => ?_)
  subst e1
  have hT1 := hT.gN (k := cl + 1) (n := N) kc
  rw [ZA_z zA, ZP_z zP]
  rw [ZP_z zP] at hT1
  obtain ⟨x, hW2, hT2⟩ := hx hW1 hT1
  refine p_dup (cc3 c2) rfl ?_
  refine p_callI (cc3 c3) (Nat.le_of_ble_eq_true rfl) rfl rfl (Nat.le_of_ble_eq_true rfl) x ?_
  show wpE C ev Q (p4, [(0, .ref (lo W 0))], [.ref (lo (gN W c (cl + 1) N) c), .ref (lo W 0)], Wm W2 A2 P2)
  rw [← e2.1, ← e2.2.1]
  have hz : NZ W2 c := kn e2.2.2.2 ⟨by omega, hcl⟩
  exact w_putp hW2 (cc3 c4) e2.2.2.1 (ji := (j : Int)) rfl hz (h hW2 (hT2.up (Or.inr (by rw [Nat.add_sub_cancel]; exact hz))))
/-- one SHEET, stored into the row 20 -/
theorem ini_h {d i c : Nat} (hd : 1 ≤ d) (hi : i < 4) (hW : HW W) (hT : HR W P) (k20 : gK W 20 = 27) (l20 : gL W 20 = 4) (k0 : gK W 0 = 12) (p20 : P 0 9 = 20 + 1) (hc : 20 < c) (kc : gK W c = 0) (kc1 : gK W (c + 1) = 0) (zA : ∀ q, c ≤ q → q ≤ c + 1 → A q = fun _ => 0) (zP : ∀ q, c ≤ q → q ≤ c + 1 → P q = fun _ => 0)
    (h : HW (KW7 (gN W c 8 3) c) → HR (KW7 (gN W c 8 3) c) (UP (KP7 P c) 20 i (c + 1)) → wpE (xT 0) (xev xT d) Q (103, [(0, .ref (lo (KW7 (gN W c 8 3) c) 0)), (1, .int (iz ((i + 1 : Nat) : Int)))], [], Wm (KW7 (gN W c 8 3) c) (UA A c 1 (-1)) (UP (KP7 P c) 20 i (c + 1)))) : wpE (xT 0) (xev xT d) Q (103, [(0, .ref (lo W 0)), (1, .int (iz (i : Int)))], [], Wm W A P) := by
  refine p_ild (cct c0_103 rfl) rfl (i_push (n := 4) (cc3 c0_104) (by decide) ?_)
  refine p_icmp (cc3 c0_105) (fun z => ?_) (fun _ => ?_)
  · have z' : iz 4 ≤ iz (i : Int) := z
    have := (iz_le (by decide) ⟨by omega, by omega⟩).mp z'
    omega
  refine p_ald (cc3 c0_108) rfl ?_
  refine w_getp (b := 20) hW hT (cc3 c0_109) k0 (ji := 9) rfl p20 ?_
  refine p_ild (cc3 c0_112) rfl ?_
  refine w_new hW hT (cc3 c0_113) c kc (fun W1 e1 hW1 => ?_)
  subst e1
  have hT1 := hT.gN (k := 7 + 1) (n := 3) kc
  rw [ZA_z (zA c (by omega) (by omega)), ZP_z (zP c (by omega) (by omega))]
  rw [ZP_z (zP c (by omega) (by omega))] at hT1
  obtain ⟨x, hW2, hT2⟩ := KS7 (d := d) (A := A) hd (t := c) hW1 hT1 gN_K_e (by rw [gN_K_n (by omega)]; exact kc1) (fun q q1 q2 => zA q (by omega) (by omega)) (fun q q1 q2 => zP q (by omega) (by omega))
  refine p_dup (cc3 c0_116) rfl ?_
  refine p_callI (cc3 c0_117) (Nat.le_of_ble_eq_true rfl) rfl rfl (Nat.le_of_ble_eq_true rfl) x ?_
  have l0 : lo (KW7 (gN W c 8 3) c) 0 = lo W 0 := (gN_lo_n (by omega)).trans (gN_lo_n (by omega))
  have lc : lo (KW7 (gN W c 8 3) c) c = lo (gN W c 8 3) c := gN_lo_n (by omega)
  have l2 : lo (KW7 (gN W c 8 3) c) 20 = lo W 20 := (gN_lo_n (by omega)).trans (gN_lo_n (by omega))
  have kk : gK (KW7 (gN W c 8 3) c) c = 8 := by rw [gN_K_n (by omega), gN_K_e]
  show wpE (xT 0) (xev xT d) Q (120, [(0, .ref (lo W 0)), (1, .int (iz (i : Int)))], [.ref (lo (gN W c 8 3) c), .int (iz (i : Int)), .ref (lo W 20)], _)
  rw [← lc, ← l2, ← l0]
  refine w_astp hW2 (cc3 c0_120) (by rw [gN_K_n (by omega), gN_K_n (by omega)]; exact k20) ⟨by omega, by rw [gN_L_n (by omega), gN_L_n (by omega), l20]; omega, by omega⟩ kk ?_
  refine p_iinc (cc3 c0_121) (by decide) rfl (y := iz ((i + 1 : Nat) : Int)) ?_ rfl (p_goto (cc3 c0_124) ?_)
  · show iz (i : Int) + 1 = _
    rw [show (1 : Int32) = iz 1 by decide, iz_add]
    exact congrArg iz (by omega)
  · refine p_lc (ls' := [(0, .ref (lo (KW7 (gN W c 8 3) c) 0)), (1, .int (iz ((i + 1 : Nat) : Int)))]) c0_103 rfl rfl ?_
    exact h hW2 (hT2.up (Or.inr (by rw [Nat.add_sub_cancel]; exact kn kk)))
/-- the room is made, up to its rule 0 -/
theorem K0a {d : Nat} (hd : 2 ≤ d) (hW : HW W) (hT : HR W P) (hR : RG A) (k0_0 : gK W 0 = 12) (kz0 : ∀ c, 0 < c → c < 500 → gK W c = 0) (zA : ∀ c, c < 500 → A c = fun _ => 0) (zP : ∀ c, c < 500 → P c = fun _ => 0)
    (h : HW (KU14 W) → HR (KU14 W) (KQ14 P) → wpE (xT 0) (xev xT d) Q (127, [(0, .ref (lo (KU14 W) 0)), (1, .int (iz 4))], [], Wm (KU14 W) (KA14 A) (KQ14 P))) : wpE (xT 0) (xev xT d) Q (0, [(0, .ref (lo W 0))], [], Wm W A P) := by
  have zQ0 : ∀ q, 0 < q → q < 500 → P q = fun _ => 0 := fun q _ q2 => zP q q2
  have zA10 : ∀ q, 14 < q → q < 500 → (KA10 A) q = fun _ => 0 := fun q q1 q2 => by
    rw [← zA q q2]
    funext j
    show (if q = 11 + 3 ∧ 0 ≤ j ∧ j < 8 then -1 else A q j) = _
    rw [if_neg (by omega)]
  refine p_ald (cc3 c0_0) rfl (p_obj (cc3 c0_1) (Nat.le_of_ble_eq_true rfl) ?_)
  refine ini_o (cl := 8) (N := 2) (W2 := KU1 W) (A2 := A) (P2 := KP1 P 1) (c := 1) hW hT (kz0 1 (by decide) (by decide)) (zA 1 (by decide)) (zQ0 1 (by decide) (by decide)) (by decide) c0_4 c0_5 c0_8 c0_9 c0_12 (fun hW1 hT1 => KS1 (d := d) (A := A) (by omega) hW1 hT1 gN_K_e (by rw [gN_K_n (by decide)]; exact kz0 2 (by decide) (by decide)) (fun q q1 q2 => zA q (by omega)) (fun q q1 q2 => zQ0 q (by omega) (by omega))) ⟨by show lo (KW1 (gN W 1 9 2) 1) 1 = _; rw [gN_lo_n (by decide)], by show lo (KW1 (gN W 1 9 2) 1) 0 = _; rw [gN_lo_n (by decide), gN_lo_n (by decide)], by show gK (KW1 (gN W 1 9 2) 1) 0 = _; rw [gN_K_n (by decide), gN_K_n (by decide)]; exact k0_0, by show gK (KW1 (gN W 1 9 2) 1) 1 = _; rw [gN_K_n (by decide), gN_K_e]⟩ (fun hW1 hT1 => ?_)
  change wpE (xT 0) (xev xT d) Q (15, [(0, .ref (lo (KU1 W) 0))], [], Wm (KU1 W) A (KQ1 P))
  change HR (KU1 W) (KQ1 P) at hT1
  have zQ1 : ∀ q, 1 < q → q < 500 → (KQ1 P) q = fun _ => 0 := fun q q1 q2 => by show UP (KP1 P 1) 0 0 (1 + 1) q = _; simp only [UP_n (show ¬ q = 0 by omega), UP_n (show ¬ q = 1 by omega)]; exact zQ0 q (by omega) q2
  have k0_1 : gK (KU1 W) 0 = 12 := by show gK (KW1 (gN W 1 9 2) 1) 0 = _; rw [gN_K_n (by decide), gN_K_n (by decide)]; exact k0_0
  have kz1 : ∀ q, 2 < q → q < 500 → gK (KU1 W) q = 0 := fun q q1 q2 => by show gK (KW1 (gN W 1 9 2) 1) q = _; rw [gN_K_n (by omega), gN_K_n (by omega)]; exact kz0 q (by omega) q2
  refine ini_o (cl := 6) (N := 4) (W2 := KU2 W) (A2 := A) (P2 := KP2 (KQ1 P) 3) (c := 3) hW1 hT1 (kz1 3 (by decide) (by decide)) (zA 3 (by decide)) (zQ1 3 (by decide) (by decide)) (by decide) c0_15 c0_16 c0_19 c0_20 c0_23 (fun hW1 hT1 => KS2 (d := d) (A := A) (by omega) hW1 hT1 gN_K_e (by rw [gN_K_n (by decide)]; exact kz1 4 (by decide) (by decide)) (by rw [gN_K_n (by decide)]; exact kz1 5 (by decide) (by decide)) (fun q q1 q2 => zA q (by omega)) (fun q q1 q2 => zQ1 q (by omega) (by omega))) ⟨by show lo (KW2 (gN (KU1 W) 3 7 4) 3) 3 = _; rw [gN_lo_n (by decide), gN_lo_n (by decide)], by show lo (KW2 (gN (KU1 W) 3 7 4) 3) 0 = _; rw [gN_lo_n (by decide), gN_lo_n (by decide), gN_lo_n (by decide)], by show gK (KW2 (gN (KU1 W) 3 7 4) 3) 0 = _; rw [gN_K_n (by decide), gN_K_n (by decide), gN_K_n (by decide)]; exact k0_1, by show gK (KW2 (gN (KU1 W) 3 7 4) 3) 3 = _; rw [gN_K_n (by decide), gN_K_n (by decide), gN_K_e]⟩ (fun hW2 hT2 => ?_)
  change wpE (xT 0) (xev xT d) Q (26, [(0, .ref (lo (KU2 W) 0))], [], Wm (KU2 W) A (KQ2 P))
  change HR (KU2 W) (KQ2 P) at hT2
  have zQ2 : ∀ q, 3 < q → q < 500 → (KQ2 P) q = fun _ => 0 := fun q q1 q2 => by show UP (KP2 (KQ1 P) 3) 0 1 (3 + 1) q = _; simp only [UP_n (show ¬ q = 0 by omega), UP_n (show ¬ q = 3 by omega)]; exact zQ1 q (by omega) q2
  have k0_2 : gK (KU2 W) 0 = 12 := by show gK (KW2 (gN (KU1 W) 3 7 4) 3) 0 = _; rw [gN_K_n (by decide), gN_K_n (by decide), gN_K_n (by decide)]; exact k0_1
  have kz2 : ∀ q, 5 < q → q < 500 → gK (KU2 W) q = 0 := fun q q1 q2 => by show gK (KW2 (gN (KU1 W) 3 7 4) 3) q = _; rw [gN_K_n (by omega), gN_K_n (by omega), gN_K_n (by omega)]; exact kz1 q (by omega) q2
  refine ini_o (cl := 10) (N := 9) (W2 := KU3 W) (A2 := A) (P2 := KP3 (KQ2 P) 6) (c := 6) hW2 hT2 (kz2 6 (by decide) (by decide)) (zA 6 (by decide)) (zQ2 6 (by decide) (by decide)) (by decide) c0_26 c0_27 c0_30 c0_31 c0_34 (fun hW1 hT1 => KS3 (d := d) (A := A) (by omega) hW1 hT1 gN_K_e (by rw [gN_K_n (by decide)]; exact kz2 7 (by decide) (by decide)) (fun q q1 q2 => zA q (by omega)) (fun q q1 q2 => zQ2 q (by omega) (by omega))) ⟨by show lo (KW3 (gN (KU2 W) 6 11 9) 6) 6 = _; rw [gN_lo_n (by decide)], by show lo (KW3 (gN (KU2 W) 6 11 9) 6) 0 = _; rw [gN_lo_n (by decide), gN_lo_n (by decide)], by show gK (KW3 (gN (KU2 W) 6 11 9) 6) 0 = _; rw [gN_K_n (by decide), gN_K_n (by decide)]; exact k0_2, by show gK (KW3 (gN (KU2 W) 6 11 9) 6) 6 = _; rw [gN_K_n (by decide), gN_K_e]⟩ (fun hW3 hT3 => ?_)
  change wpE (xT 0) (xev xT d) Q (37, [(0, .ref (lo (KU3 W) 0))], [], Wm (KU3 W) A (KQ3 P))
  change HR (KU3 W) (KQ3 P) at hT3
  have zQ3 : ∀ q, 6 < q → q < 500 → (KQ3 P) q = fun _ => 0 := fun q q1 q2 => by show UP (KP3 (KQ2 P) 6) 0 2 (6 + 1) q = _; simp only [UP_n (show ¬ q = 0 by omega), UP_n (show ¬ q = 6 by omega)]; exact zQ2 q (by omega) q2
  have k0_3 : gK (KU3 W) 0 = 12 := by show gK (KW3 (gN (KU2 W) 6 11 9) 6) 0 = _; rw [gN_K_n (by decide), gN_K_n (by decide)]; exact k0_2
  have kz3 : ∀ q, 7 < q → q < 500 → gK (KU3 W) q = 0 := fun q q1 q2 => by show gK (KW3 (gN (KU2 W) 6 11 9) 6) q = _; rw [gN_K_n (by omega), gN_K_n (by omega)]; exact kz2 q (by omega) q2
  refine ini_o (cl := 3) (N := 8) (W2 := KU4 W) (A2 := A) (P2 := KP4 (KQ3 P) 8) (c := 8) hW3 hT3 (kz3 8 (by decide) (by decide)) (zA 8 (by decide)) (zQ3 8 (by decide) (by decide)) (by decide) c0_37 c0_38 c0_41 c0_42 c0_45 (fun hW1 hT1 => KS4 (d := d) (A := A) (by omega) hW1 hT1 gN_K_e (by rw [gN_K_n (by decide)]; exact kz3 9 (by decide) (by decide)) (by rw [gN_K_n (by decide)]; exact kz3 10 (by decide) (by decide)) (fun q q1 q2 => zA q (by omega)) (fun q q1 q2 => zQ3 q (by omega) (by omega))) ⟨by show lo (KW4 (gN (KU3 W) 8 4 8) 8) 8 = _; rw [gN_lo_n (by decide), gN_lo_n (by decide)], by show lo (KW4 (gN (KU3 W) 8 4 8) 8) 0 = _; rw [gN_lo_n (by decide), gN_lo_n (by decide), gN_lo_n (by decide)], by show gK (KW4 (gN (KU3 W) 8 4 8) 8) 0 = _; rw [gN_K_n (by decide), gN_K_n (by decide), gN_K_n (by decide)]; exact k0_3, by show gK (KW4 (gN (KU3 W) 8 4 8) 8) 8 = _; rw [gN_K_n (by decide), gN_K_n (by decide), gN_K_e]⟩ (fun hW4 hT4 => ?_)
  change wpE (xT 0) (xev xT d) Q (48, [(0, .ref (lo (KU4 W) 0))], [], Wm (KU4 W) A (KQ4 P))
  change HR (KU4 W) (KQ4 P) at hT4
  have zQ4 : ∀ q, 8 < q → q < 500 → (KQ4 P) q = fun _ => 0 := fun q q1 q2 => by show UP (KP4 (KQ3 P) 8) 0 3 (8 + 1) q = _; simp only [UP_n (show ¬ q = 0 by omega), UP_n (show ¬ q = 8 by omega)]; exact zQ3 q (by omega) q2
  have k0_4 : gK (KU4 W) 0 = 12 := by show gK (KW4 (gN (KU3 W) 8 4 8) 8) 0 = _; rw [gN_K_n (by decide), gN_K_n (by decide), gN_K_n (by decide)]; exact k0_3
  have kz4 : ∀ q, 10 < q → q < 500 → gK (KU4 W) q = 0 := fun q q1 q2 => by show gK (KW4 (gN (KU3 W) 8 4 8) 8) q = _; rw [gN_K_n (by omega), gN_K_n (by omega), gN_K_n (by omega)]; exact kz3 q (by omega) q2
  refine ini_o (cl := 1) (N := 6) (W2 := KU5 W) (A2 := KA10 A) (P2 := KP5 (KQ4 P) 11) (c := 11) hW4 hT4 (kz4 11 (by decide) (by decide)) (zA 11 (by decide)) (zQ4 11 (by decide) (by decide)) (by decide) c0_48 c0_49 c0_52 c0_53 c0_56 (fun hW1 hT1 => KS5 (d := d) (A := A) (by omega) hW1 hR hT1 gN_K_e (by rw [gN_K_n (by decide)]; exact kz4 12 (by decide) (by decide)) (by rw [gN_K_n (by decide)]; exact kz4 13 (by decide) (by decide)) (by rw [gN_K_n (by decide)]; exact kz4 14 (by decide) (by decide)) (by rw [gN_K_n (by decide)]; exact kz4 15 (by decide) (by decide)) (fun q q1 q2 => zA q (by omega)) (fun q q1 q2 => zQ4 q (by omega) (by omega))) ⟨by show lo (KW5 (gN (KU4 W) 11 2 6) 11) 11 = _; rw [gN_lo_n (by decide), gN_lo_n (by decide), gN_lo_n (by decide), gN_lo_n (by decide)], by show lo (KW5 (gN (KU4 W) 11 2 6) 11) 0 = _; rw [gN_lo_n (by decide), gN_lo_n (by decide), gN_lo_n (by decide), gN_lo_n (by decide), gN_lo_n (by decide)], by show gK (KW5 (gN (KU4 W) 11 2 6) 11) 0 = _; rw [gN_K_n (by decide), gN_K_n (by decide), gN_K_n (by decide), gN_K_n (by decide), gN_K_n (by decide)]; exact k0_4, by show gK (KW5 (gN (KU4 W) 11 2 6) 11) 11 = _; rw [gN_K_n (by decide), gN_K_n (by decide), gN_K_n (by decide), gN_K_n (by decide), gN_K_e]⟩ (fun hW5 hT5 => ?_)
  change wpE (xT 0) (xev xT d) Q (59, [(0, .ref (lo (KU5 W) 0))], [], Wm (KU5 W) (KA10 A) (KQ5 P))
  change HR (KU5 W) (KQ5 P) at hT5
  have zQ5 : ∀ q, 11 < q → q < 500 → (KQ5 P) q = fun _ => 0 := fun q q1 q2 => by show UP (KP5 (KQ4 P) 11) 0 4 (11 + 1) q = _; simp only [UP_n (show ¬ q = 0 by omega), UP_n (show ¬ q = 11 by omega)]; exact zQ4 q (by omega) q2
  have k0_5 : gK (KU5 W) 0 = 12 := by show gK (KW5 (gN (KU4 W) 11 2 6) 11) 0 = _; rw [gN_K_n (by decide), gN_K_n (by decide), gN_K_n (by decide), gN_K_n (by decide), gN_K_n (by decide)]; exact k0_4
  have kz5 : ∀ q, 15 < q → q < 500 → gK (KU5 W) q = 0 := fun q q1 q2 => by show gK (KW5 (gN (KU4 W) 11 2 6) 11) q = _; rw [gN_K_n (by omega), gN_K_n (by omega), gN_K_n (by omega), gN_K_n (by omega), gN_K_n (by omega)]; exact kz4 q (by omega) q2
  refine ini_a (t := 0) (c := 16) (k := 23) (n := 4) (cl := 11) hW5 hT5 k0_5 (kz5 16 (by decide) (by decide)) (zA10 16 (by decide) (by decide)) (zQ5 16 (by decide) (by decide)) (by decide) (by decide) (by decide) (by decide) c0_59 c0_60 c0_61 c0_64 (fun W1 e1 hW6 hT6 => ?_)
  subst e1
  change wpE (xT 0) (xev xT d) Q (67, [(0, .ref (lo (KU6 W) 0))], [], Wm (KU6 W) (KA10 A) (KQ6 P))
  change HW (KU6 W) at hW6
  change HR (KU6 W) (KQ6 P) at hT6
  have zQ6 : ∀ q, 16 < q → q < 500 → (KQ6 P) q = fun _ => 0 := fun q q1 q2 => by show UP (KQ5 P) 0 5 (16 + 1) q = _; simp only [UP_n (show ¬ q = 0 by omega)]; exact zQ5 q (by omega) q2
  have k0_6 : gK (KU6 W) 0 = 12 := by show gK (gN (KU5 W) 16 23 4) 0 = _; rw [gN_K_n (by decide)]; exact k0_5
  have kz6 : ∀ q, 16 < q → q < 500 → gK (KU6 W) q = 0 := fun q q1 q2 => by show gK (gN (KU5 W) 16 23 4) q = _; rw [gN_K_n (by omega)]; exact kz5 q (by omega) q2
  refine ini_a (t := 0) (c := 17) (k := 24) (n := 4) (cl := 11) hW6 hT6 k0_6 (kz6 17 (by decide) (by decide)) (zA10 17 (by decide) (by decide)) (zQ6 17 (by decide) (by decide)) (by decide) (by decide) (by decide) (by decide) c0_67 c0_68 c0_69 c0_72 (fun W1 e1 hW7 hT7 => ?_)
  subst e1
  change wpE (xT 0) (xev xT d) Q (75, [(0, .ref (lo (KU7 W) 0))], [], Wm (KU7 W) (KA10 A) (KQ7 P))
  change HW (KU7 W) at hW7
  change HR (KU7 W) (KQ7 P) at hT7
  have zQ7 : ∀ q, 17 < q → q < 500 → (KQ7 P) q = fun _ => 0 := fun q q1 q2 => by show UP (KQ6 P) 0 6 (17 + 1) q = _; simp only [UP_n (show ¬ q = 0 by omega)]; exact zQ6 q (by omega) q2
  have k0_7 : gK (KU7 W) 0 = 12 := by show gK (gN (KU6 W) 17 24 4) 0 = _; rw [gN_K_n (by decide)]; exact k0_6
  have kz7 : ∀ q, 17 < q → q < 500 → gK (KU7 W) q = 0 := fun q q1 q2 => by show gK (gN (KU6 W) 17 24 4) q = _; rw [gN_K_n (by omega)]; exact kz6 q (by omega) q2
  refine ini_a (t := 0) (c := 18) (k := 25) (n := 8) (cl := 11) hW7 hT7 k0_7 (kz7 18 (by decide) (by decide)) (zA10 18 (by decide) (by decide)) (zQ7 18 (by decide) (by decide)) (by decide) (by decide) (by decide) (by decide) c0_75 c0_76 c0_78 c0_81 (fun W1 e1 hW8 hT8 => ?_)
  subst e1
  change wpE (xT 0) (xev xT d) Q (84, [(0, .ref (lo (KU8 W) 0))], [], Wm (KU8 W) (KA10 A) (KQ8 P))
  change HW (KU8 W) at hW8
  change HR (KU8 W) (KQ8 P) at hT8
  have zQ8 : ∀ q, 18 < q → q < 500 → (KQ8 P) q = fun _ => 0 := fun q q1 q2 => by show UP (KQ7 P) 0 7 (18 + 1) q = _; simp only [UP_n (show ¬ q = 0 by omega)]; exact zQ7 q (by omega) q2
  have k0_8 : gK (KU8 W) 0 = 12 := by show gK (gN (KU7 W) 18 25 8) 0 = _; rw [gN_K_n (by decide)]; exact k0_7
  have kz8 : ∀ q, 18 < q → q < 500 → gK (KU8 W) q = 0 := fun q q1 q2 => by show gK (gN (KU7 W) 18 25 8) q = _; rw [gN_K_n (by omega)]; exact kz7 q (by omega) q2
  refine ini_a (t := 0) (c := 19) (k := 26) (n := 6) (cl := 11) hW8 hT8 k0_8 (kz8 19 (by decide) (by decide)) (zA10 19 (by decide) (by decide)) (zQ8 19 (by decide) (by decide)) (by decide) (by decide) (by decide) (by decide) c0_84 c0_85 c0_87 c0_90 (fun W1 e1 hW9 hT9 => ?_)
  subst e1
  change wpE (xT 0) (xev xT d) Q (93, [(0, .ref (lo (KU9 W) 0))], [], Wm (KU9 W) (KA10 A) (KQ9 P))
  change HW (KU9 W) at hW9
  change HR (KU9 W) (KQ9 P) at hT9
  have zQ9 : ∀ q, 19 < q → q < 500 → (KQ9 P) q = fun _ => 0 := fun q q1 q2 => by show UP (KQ8 P) 0 8 (19 + 1) q = _; simp only [UP_n (show ¬ q = 0 by omega)]; exact zQ8 q (by omega) q2
  have k0_9 : gK (KU9 W) 0 = 12 := by show gK (gN (KU8 W) 19 26 6) 0 = _; rw [gN_K_n (by decide)]; exact k0_8
  have kz9 : ∀ q, 19 < q → q < 500 → gK (KU9 W) q = 0 := fun q q1 q2 => by show gK (gN (KU8 W) 19 26 6) q = _; rw [gN_K_n (by omega)]; exact kz8 q (by omega) q2
  refine ini_a (t := 0) (c := 20) (k := 27) (n := 4) (cl := 11) hW9 hT9 k0_9 (kz9 20 (by decide) (by decide)) (zA10 20 (by decide) (by decide)) (zQ9 20 (by decide) (by decide)) (by decide) (by decide) (by decide) (by decide) c0_93 c0_94 c0_95 c0_98 (fun W1 e1 hW10 hT10 => ?_)
  subst e1
  change wpE (xT 0) (xev xT d) Q (101, [(0, .ref (lo (KU10 W) 0))], [], Wm (KU10 W) (KA10 A) (KQ10 P))
  change HW (KU10 W) at hW10
  change HR (KU10 W) (KQ10 P) at hT10
  have zQ10 : ∀ q, 20 < q → q < 500 → (KQ10 P) q = fun _ => 0 := fun q q1 q2 => by show UP (KQ9 P) 0 9 (20 + 1) q = _; simp only [UP_n (show ¬ q = 0 by omega)]; exact zQ9 q (by omega) q2
  have k0_10 : gK (KU10 W) 0 = 12 := by show gK (gN (KU9 W) 20 27 4) 0 = _; rw [gN_K_n (by decide)]; exact k0_9
  have kz10 : ∀ q, 20 < q → q < 500 → gK (KU10 W) q = 0 := fun q q1 q2 => by show gK (gN (KU9 W) 20 27 4) q = _; rw [gN_K_n (by omega)]; exact kz9 q (by omega) q2
  have kt10 : gK (KU10 W) 20 = 27 := by show gK (gN (KU9 W) 20 27 4) 20 = _; rw [gN_K_e]
  have lt10 : gL (KU10 W) 20 = 4 := by show gL (gN (KU9 W) 20 27 4) 20 = _; rw [gN_L_e]
  have pt10 : (KQ10 P) 0 9 = 20 + 1 := by show UP (KQ9 P) 0 9 (20 + 1) 0 9 = _; rw [UP_e]
  refine i_push (n := 0) (cc3 c0_101) (by decide) ?_
  refine p_ist (ls' := [(1, .int (iz 0)), (0, .ref (lo (KU10 W) 0))]) (cc3 c0_102) (by decide) rfl ?_
  refine p_lc (ls' := [(0, .ref (lo (KU10 W) 0)), (1, .int (iz ((0 : Nat) : Int)))]) c0_103 rfl rfl ?_
  refine ini_h (W := KU10 W) (A := KA10 A) (P := KQ10 P) (i := 0) (c := 21) (by omega) (by decide) hW10 hT10 kt10 lt10 k0_10 pt10 (by decide) (kz10 21 (by decide) (by decide)) (kz10 22 (by decide) (by decide)) (fun q q1 q2 => zA10 q (by omega) (by omega)) (fun q q1 q2 => zQ10 q (by omega) (by omega)) (fun hW11 hT11 => ?_)
  change wpE (xT 0) (xev xT d) Q (103, [(0, .ref (lo (KU11 W) 0)), (1, .int (iz ((1 : Nat) : Int)))], [], Wm (KU11 W) (KA11 A) (KQ11 P))
  change HW (KU11 W) at hW11
  change HR (KU11 W) (KQ11 P) at hT11
  have zQ11 : ∀ q, 21 < q → q < 500 → (KQ11 P) q = fun _ => 0 := fun q q1 q2 => by show UP (KP7 (KQ10 P) 21) 20 0 (21 + 1) q = _; simp only [UP_n (show ¬ q = 20 by omega), UP_n (show ¬ q = 21 by omega)]; exact zQ10 q (by omega) q2
  have zA11 : ∀ q, 21 < q → q < 500 → (KA11 A) q = fun _ => 0 := fun q q1 q2 => by show UA (KA10 A) 21 1 (-1) q = _; rw [UA_n (show ¬ q = 21 by omega)]; exact zA10 q (by omega) q2
  have k0_11 : gK (KU11 W) 0 = 12 := by show gK (KW7 (gN (KU10 W) 21 8 3) 21) 0 = _; rw [gN_K_n (by decide), gN_K_n (by decide)]; exact k0_10
  have kt11 : gK (KU11 W) 20 = 27 := by show gK (KW7 (gN (KU10 W) 21 8 3) 21) 20 = _; rw [gN_K_n (by decide), gN_K_n (by decide)]; exact kt10
  have lt11 : gL (KU11 W) 20 = 4 := by show gL (KW7 (gN (KU10 W) 21 8 3) 21) 20 = _; rw [gN_L_n (by decide), gN_L_n (by decide)]; exact lt10
  have pt11 : (KQ11 P) 0 9 = 20 + 1 := by show UP (UP (KQ10 P) 21 0 (21 + 1 + 1)) 20 0 (21 + 1) 0 9 = _; rw [UP_n (show ¬ 0 = 20 by decide), UP_n (show ¬ 0 = 21 by decide)]; exact pt10
  have kz11 : ∀ q, 22 < q → q < 500 → gK (KU11 W) q = 0 := fun q q1 q2 => by show gK (KW7 (gN (KU10 W) 21 8 3) 21) q = _; rw [gN_K_n (by omega), gN_K_n (by omega)]; exact kz10 q (by omega) q2
  refine ini_h (W := KU11 W) (A := KA11 A) (P := KQ11 P) (i := 1) (c := 23) (by omega) (by decide) hW11 hT11 kt11 lt11 k0_11 pt11 (by decide) (kz11 23 (by decide) (by decide)) (kz11 24 (by decide) (by decide)) (fun q q1 q2 => zA11 q (by omega) (by omega)) (fun q q1 q2 => zQ11 q (by omega) (by omega)) (fun hW12 hT12 => ?_)
  change wpE (xT 0) (xev xT d) Q (103, [(0, .ref (lo (KU12 W) 0)), (1, .int (iz ((2 : Nat) : Int)))], [], Wm (KU12 W) (KA12 A) (KQ12 P))
  change HW (KU12 W) at hW12
  change HR (KU12 W) (KQ12 P) at hT12
  have zQ12 : ∀ q, 23 < q → q < 500 → (KQ12 P) q = fun _ => 0 := fun q q1 q2 => by show UP (KP7 (KQ11 P) 23) 20 1 (23 + 1) q = _; simp only [UP_n (show ¬ q = 20 by omega), UP_n (show ¬ q = 23 by omega)]; exact zQ11 q (by omega) q2
  have zA12 : ∀ q, 23 < q → q < 500 → (KA12 A) q = fun _ => 0 := fun q q1 q2 => by show UA (KA11 A) 23 1 (-1) q = _; rw [UA_n (show ¬ q = 23 by omega)]; exact zA11 q (by omega) q2
  have k0_12 : gK (KU12 W) 0 = 12 := by show gK (KW7 (gN (KU11 W) 23 8 3) 23) 0 = _; rw [gN_K_n (by decide), gN_K_n (by decide)]; exact k0_11
  have kt12 : gK (KU12 W) 20 = 27 := by show gK (KW7 (gN (KU11 W) 23 8 3) 23) 20 = _; rw [gN_K_n (by decide), gN_K_n (by decide)]; exact kt11
  have lt12 : gL (KU12 W) 20 = 4 := by show gL (KW7 (gN (KU11 W) 23 8 3) 23) 20 = _; rw [gN_L_n (by decide), gN_L_n (by decide)]; exact lt11
  have pt12 : (KQ12 P) 0 9 = 20 + 1 := by show UP (UP (KQ11 P) 23 0 (23 + 1 + 1)) 20 1 (23 + 1) 0 9 = _; rw [UP_n (show ¬ 0 = 20 by decide), UP_n (show ¬ 0 = 23 by decide)]; exact pt11
  have kz12 : ∀ q, 24 < q → q < 500 → gK (KU12 W) q = 0 := fun q q1 q2 => by show gK (KW7 (gN (KU11 W) 23 8 3) 23) q = _; rw [gN_K_n (by omega), gN_K_n (by omega)]; exact kz11 q (by omega) q2
  refine ini_h (W := KU12 W) (A := KA12 A) (P := KQ12 P) (i := 2) (c := 25) (by omega) (by decide) hW12 hT12 kt12 lt12 k0_12 pt12 (by decide) (kz12 25 (by decide) (by decide)) (kz12 26 (by decide) (by decide)) (fun q q1 q2 => zA12 q (by omega) (by omega)) (fun q q1 q2 => zQ12 q (by omega) (by omega)) (fun hW13 hT13 => ?_)
  change wpE (xT 0) (xev xT d) Q (103, [(0, .ref (lo (KU13 W) 0)), (1, .int (iz ((3 : Nat) : Int)))], [], Wm (KU13 W) (KA13 A) (KQ13 P))
  change HW (KU13 W) at hW13
  change HR (KU13 W) (KQ13 P) at hT13
  have zQ13 : ∀ q, 25 < q → q < 500 → (KQ13 P) q = fun _ => 0 := fun q q1 q2 => by show UP (KP7 (KQ12 P) 25) 20 2 (25 + 1) q = _; simp only [UP_n (show ¬ q = 20 by omega), UP_n (show ¬ q = 25 by omega)]; exact zQ12 q (by omega) q2
  have zA13 : ∀ q, 25 < q → q < 500 → (KA13 A) q = fun _ => 0 := fun q q1 q2 => by show UA (KA12 A) 25 1 (-1) q = _; rw [UA_n (show ¬ q = 25 by omega)]; exact zA12 q (by omega) q2
  have k0_13 : gK (KU13 W) 0 = 12 := by show gK (KW7 (gN (KU12 W) 25 8 3) 25) 0 = _; rw [gN_K_n (by decide), gN_K_n (by decide)]; exact k0_12
  have kt13 : gK (KU13 W) 20 = 27 := by show gK (KW7 (gN (KU12 W) 25 8 3) 25) 20 = _; rw [gN_K_n (by decide), gN_K_n (by decide)]; exact kt12
  have lt13 : gL (KU13 W) 20 = 4 := by show gL (KW7 (gN (KU12 W) 25 8 3) 25) 20 = _; rw [gN_L_n (by decide), gN_L_n (by decide)]; exact lt12
  have pt13 : (KQ13 P) 0 9 = 20 + 1 := by show UP (UP (KQ12 P) 25 0 (25 + 1 + 1)) 20 2 (25 + 1) 0 9 = _; rw [UP_n (show ¬ 0 = 20 by decide), UP_n (show ¬ 0 = 25 by decide)]; exact pt12
  have kz13 : ∀ q, 26 < q → q < 500 → gK (KU13 W) q = 0 := fun q q1 q2 => by show gK (KW7 (gN (KU12 W) 25 8 3) 25) q = _; rw [gN_K_n (by omega), gN_K_n (by omega)]; exact kz12 q (by omega) q2
  refine ini_h (W := KU13 W) (A := KA13 A) (P := KQ13 P) (i := 3) (c := 27) (by omega) (by decide) hW13 hT13 kt13 lt13 k0_13 pt13 (by decide) (kz13 27 (by decide) (by decide)) (kz13 28 (by decide) (by decide)) (fun q q1 q2 => zA13 q (by omega) (by omega)) (fun q q1 q2 => zQ13 q (by omega) (by omega)) (fun hW14 hT14 => ?_)
  change wpE (xT 0) (xev xT d) Q (103, [(0, .ref (lo (KU14 W) 0)), (1, .int (iz ((4 : Nat) : Int)))], [], Wm (KU14 W) (KA14 A) (KQ14 P))
  change HW (KU14 W) at hW14
  change HR (KU14 W) (KQ14 P) at hT14
  refine p_ild (cct c0_103 rfl) rfl (i_push (n := 4) (cc3 c0_104) (by decide) ?_)
  refine p_icmp (cc3 c0_105) (fun _ => h hW14 hT14) (fun z => absurd ?_ z)
  show iz 4 ≤ iz 4
  decide
end KROOM
