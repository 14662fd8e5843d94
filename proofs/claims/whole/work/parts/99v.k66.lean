theorem po_big {k j : Nat} (h : 10 ≤ j) : po k j = 0 := by
  unfold po
  (repeat' split) <;> first | rfl | (rw [List.getD_eq_getElem?_getD, List.getElem?_eq_none (by simp; omega)]; rfl)
theorem ku_po {P : Nat → Int → Nat} {c j : Nat} (hc : c < 29) (h10 : j < 10) (hj : 0 < po (kst c) j) : KQ14 P c (j : Int) = c + po (kst c) j + 1 := by
  rcases (by omega : c = 0 ∨ c = 1 ∨ c = 2 ∨ c = 3 ∨ c = 4 ∨ c = 5 ∨ c = 6 ∨ c = 7 ∨ c = 8 ∨ c = 9 ∨ c = 10 ∨ c = 11 ∨ c = 12 ∨ c = 13 ∨ c = 14 ∨ c = 15 ∨ c = 16 ∨ c = 17 ∨ c = 18 ∨ c = 19 ∨ c = 20 ∨ c = 21 ∨ c = 22 ∨ c = 23 ∨ c = 24 ∨ c = 25 ∨ c = 26 ∨ c = 27 ∨ c = 28) with rfl | rfl | rfl | rfl | rfl | rfl | rfl | rfl | rfl | rfl | rfl | rfl | rfl | rfl | rfl | rfl | rfl | rfl | rfl | rfl | rfl | rfl | rfl | rfl | rfl | rfl | rfl | rfl | rfl
  · rcases (by omega : j = 0 ∨ j = 1 ∨ j = 2 ∨ j = 3 ∨ j = 4 ∨ j = 5 ∨ j = 6 ∨ j = 7 ∨ j = 8 ∨ j = 9) with rfl | rfl | rfl | rfl | rfl | rfl | rfl | rfl | rfl | rfl
    · exact kq_0_0
    · exact kq_0_1
    · exact kq_0_2
    · exact kq_0_3
    · exact kq_0_4
    · exact kq_0_5
    · exact kq_0_6
    · exact kq_0_7
    · exact kq_0_8
    · exact kq_0_9
  · rcases (by omega : j = 0 ∨ j = 1 ∨ j = 2 ∨ j = 3 ∨ j = 4 ∨ j = 5 ∨ j = 6 ∨ j = 7 ∨ j = 8 ∨ j = 9) with rfl | rfl | rfl | rfl | rfl | rfl | rfl | rfl | rfl | rfl
    · exact kq_1_0
    · exact absurd hj (by decide)
    · exact absurd hj (by decide)
    · exact absurd hj (by decide)
    · exact absurd hj (by decide)
    · exact absurd hj (by decide)
    · exact absurd hj (by decide)
    · exact absurd hj (by decide)
    · exact absurd hj (by decide)
    · exact absurd hj (by decide)
  · exact absurd hj (by show ¬ 0 < po 20 j; unfold po; simp)
  · rcases (by omega : j = 0 ∨ j = 1 ∨ j = 2 ∨ j = 3 ∨ j = 4 ∨ j = 5 ∨ j = 6 ∨ j = 7 ∨ j = 8 ∨ j = 9) with rfl | rfl | rfl | rfl | rfl | rfl | rfl | rfl | rfl | rfl
    · exact kq_3_0
    · exact kq_3_1
    · exact absurd hj (by decide)
    · exact absurd hj (by decide)
    · exact absurd hj (by decide)
    · exact absurd hj (by decide)
    · exact absurd hj (by decide)
    · exact absurd hj (by decide)
    · exact absurd hj (by decide)
    · exact absurd hj (by decide)
  · exact absurd hj (by show ¬ 0 < po 20 j; unfold po; simp)
  · exact absurd hj (by show ¬ 0 < po 20 j; unfold po; simp)
  · rcases (by omega : j = 0 ∨ j = 1 ∨ j = 2 ∨ j = 3 ∨ j = 4 ∨ j = 5 ∨ j = 6 ∨ j = 7 ∨ j = 8 ∨ j = 9) with rfl | rfl | rfl | rfl | rfl | rfl | rfl | rfl | rfl | rfl
    · exact kq_6_0
    · exact absurd hj (by decide)
    · exact absurd hj (by decide)
    · exact absurd hj (by decide)
    · exact absurd hj (by decide)
    · exact absurd hj (by decide)
    · exact absurd hj (by decide)
    · exact absurd hj (by decide)
    · exact absurd hj (by decide)
    · exact absurd hj (by decide)
  · exact absurd hj (by show ¬ 0 < po 20 j; unfold po; simp)
  · rcases (by omega : j = 0 ∨ j = 1 ∨ j = 2 ∨ j = 3 ∨ j = 4 ∨ j = 5 ∨ j = 6 ∨ j = 7 ∨ j = 8 ∨ j = 9) with rfl | rfl | rfl | rfl | rfl | rfl | rfl | rfl | rfl | rfl
    · exact kq_8_0
    · exact kq_8_1
    · exact absurd hj (by decide)
    · exact absurd hj (by decide)
    · exact absurd hj (by decide)
    · exact absurd hj (by decide)
    · exact absurd hj (by decide)
    · exact absurd hj (by decide)
    · exact absurd hj (by decide)
    · exact absurd hj (by decide)
  · exact absurd hj (by show ¬ 0 < po 20 j; unfold po; simp)
  · exact absurd hj (by show ¬ 0 < po 20 j; unfold po; simp)
  · rcases (by omega : j = 0 ∨ j = 1 ∨ j = 2 ∨ j = 3 ∨ j = 4 ∨ j = 5 ∨ j = 6 ∨ j = 7 ∨ j = 8 ∨ j = 9) with rfl | rfl | rfl | rfl | rfl | rfl | rfl | rfl | rfl | rfl
    · exact kq_11_0
    · exact kq_11_1
    · exact kq_11_2
    · exact kq_11_3
    · exact absurd hj (by decide)
    · exact absurd hj (by decide)
    · exact absurd hj (by decide)
    · exact absurd hj (by decide)
    · exact absurd hj (by decide)
    · exact absurd hj (by decide)
  · exact absurd hj (by show ¬ 0 < po 20 j; unfold po; simp)
  · exact absurd hj (by show ¬ 0 < po 20 j; unfold po; simp)
  · exact absurd hj (by show ¬ 0 < po 20 j; unfold po; simp)
  · exact absurd hj (by show ¬ 0 < po 20 j; unfold po; simp)
  · exact absurd hj (by show ¬ 0 < po 23 j; unfold po; simp)
  · exact absurd hj (by show ¬ 0 < po 24 j; unfold po; simp)
  · exact absurd hj (by show ¬ 0 < po 25 j; unfold po; simp)
  · exact absurd hj (by show ¬ 0 < po 26 j; unfold po; simp)
  · exact absurd hj (by show ¬ 0 < po 27 j; unfold po; simp)
  · rcases (by omega : j = 0 ∨ j = 1 ∨ j = 2 ∨ j = 3 ∨ j = 4 ∨ j = 5 ∨ j = 6 ∨ j = 7 ∨ j = 8 ∨ j = 9) with rfl | rfl | rfl | rfl | rfl | rfl | rfl | rfl | rfl | rfl
    · exact kq_21_0
    · exact absurd hj (by decide)
    · exact absurd hj (by decide)
    · exact absurd hj (by decide)
    · exact absurd hj (by decide)
    · exact absurd hj (by decide)
    · exact absurd hj (by decide)
    · exact absurd hj (by decide)
    · exact absurd hj (by decide)
    · exact absurd hj (by decide)
  · exact absurd hj (by show ¬ 0 < po 20 j; unfold po; simp)
  · rcases (by omega : j = 0 ∨ j = 1 ∨ j = 2 ∨ j = 3 ∨ j = 4 ∨ j = 5 ∨ j = 6 ∨ j = 7 ∨ j = 8 ∨ j = 9) with rfl | rfl | rfl | rfl | rfl | rfl | rfl | rfl | rfl | rfl
    · exact kq_23_0
    · exact absurd hj (by decide)
    · exact absurd hj (by decide)
    · exact absurd hj (by decide)
    · exact absurd hj (by decide)
    · exact absurd hj (by decide)
    · exact absurd hj (by decide)
    · exact absurd hj (by decide)
    · exact absurd hj (by decide)
    · exact absurd hj (by decide)
  · exact absurd hj (by show ¬ 0 < po 20 j; unfold po; simp)
  · rcases (by omega : j = 0 ∨ j = 1 ∨ j = 2 ∨ j = 3 ∨ j = 4 ∨ j = 5 ∨ j = 6 ∨ j = 7 ∨ j = 8 ∨ j = 9) with rfl | rfl | rfl | rfl | rfl | rfl | rfl | rfl | rfl | rfl
    · exact kq_25_0
    · exact absurd hj (by decide)
    · exact absurd hj (by decide)
    · exact absurd hj (by decide)
    · exact absurd hj (by decide)
    · exact absurd hj (by decide)
    · exact absurd hj (by decide)
    · exact absurd hj (by decide)
    · exact absurd hj (by decide)
    · exact absurd hj (by decide)
  · exact absurd hj (by show ¬ 0 < po 20 j; unfold po; simp)
  · rcases (by omega : j = 0 ∨ j = 1 ∨ j = 2 ∨ j = 3 ∨ j = 4 ∨ j = 5 ∨ j = 6 ∨ j = 7 ∨ j = 8 ∨ j = 9) with rfl | rfl | rfl | rfl | rfl | rfl | rfl | rfl | rfl | rfl
    · exact kq_27_0
    · exact absurd hj (by decide)
    · exact absurd hj (by decide)
    · exact absurd hj (by decide)
    · exact absurd hj (by decide)
    · exact absurd hj (by decide)
    · exact absurd hj (by decide)
    · exact absurd hj (by decide)
    · exact absurd hj (by decide)
    · exact absurd hj (by decide)
  · exact absurd hj (by show ¬ 0 < po 20 j; unfold po; simp)
theorem stat_0 {W : gW} {P : Nat → Int → Nat} (hT : HR (KU14 W) (KQ14 P)) (k0 : gK W 0 = 12 ∧ gL W 0 = 16) (hp : ∀ j, j < 12 → P (500 + 2 * j) 30 = 501 + 2 * j + 1) : Stat (KU14 W) (KQ14 P) := by
  refine ⟨hT, fun c hc => ⟨(kuk_14 k0 hc).1, (kuk_14 k0 hc).2, fun j hj => ?_⟩, fun j hj => by rw [kqo_14 (by omega)]; exact hp j hj⟩
  by_cases h : j < 10
  · exact ku_po hc h hj
  · rw [po_big (by omega)] at hj; exact absurd hj (by decide)
theorem gl_0 {W : gW} (hG : GL W) : GL (KU14 W) := by
  have z : ∀ j, gzr (KU14 W) j = gzr W j := fun j => by unfold gzr; rw [ku_s.2.2]
  obtain ⟨g1, g2, g3, g4⟩ := hG
  refine ⟨fun j hj => ?_, ?_, ?_, ?_⟩
  · have a := kuo_14 (W := W) (q := 500 + 2 * j) (Or.inr (by omega))
    have b := kuo_14 (W := W) (q := 501 + 2 * j) (Or.inr (by omega))
    rw [z, a.2.2, a.1, b.1, b.2.1]
    exact g1 j hj
  · rw [z, (kuo_14 (Or.inr (by decide))).2.2]; exact g2
  · rw [(kuo_14 (Or.inr (by decide))).1]; exact g3
  · rw [(kuo_14 (Or.inr (by decide))).2.1]; exact g4
theorem ka_n {A : Nat → Int → Int} {c : Nat} (h : ¬ c = 14 ∧ ¬ (21 ≤ c ∧ c < 29)) : KA14 A c = A c := by
  show UA (UA (UA (UA (k_fill A (11 + 3) (-1) 8) 21 1 (-1)) 23 1 (-1)) 25 1 (-1)) 27 1 (-1) c = _
  rw [UA_n (by omega), UA_n (by omega), UA_n (by omega), UA_n (by omega)]
  funext j
  unfold k_fill
  rw [if_neg (by omega)]
theorem rg_ka {A : Nat → Int → Int} (h : RG A) : RG (KA14 A) := rg_UA (rg_UA (rg_UA (rg_UA (rg_fill h (by decide)) (by decide)) (by decide)) (by decide)) (by decide)
theorem S0 {d : Nat} (hd : 93 ≤ d) {W : gW} {P : Nat → Int → Nat} {A : Nat → Int → Int} (hW : HW W) (hT : HR W P) (hR : RG A) (hG : GL W) (k0 : gK W 0 = 12 ∧ gL W 0 = 16) (kz : ∀ c, 0 < c → c < 500 → gK W c = 0) (zA : ∀ c, c < 500 → A c = fun _ => 0) (zP : ∀ c, c < 500 → P c = fun _ => 0) (hs : StrA A) (hp : ∀ j, j < 12 → P (500 + 2 * j) 30 = 501 + 2 * j + 1) : ∃ (W' : gW) (P' : Nat → Int → Nat) (A' A3 : Nat → Int → Int), xev xT d 0 [.ref (lo W 0)] (Wm W A P) none (Wm W' A' P') ∧ RlK (KU14 W) W' (KQ14 P) P' A3 A' ∧ ∀ c, ¬ c = 1 → ¬ c = 2 → A3 c = KA14 A c := by
  refine xev_g (i := 0) (as := [.ref (lo W 0)]) (σ := Wm W A P) (Q := fun r σ => ∃ (W' : gW) (P' : Nat → Int → Nat) (A' A3 : Nat → Int → Int), r = none ∧ σ = Wm W' A' P' ∧ RlK (KU14 W) W' (KQ14 P) P' A3 A' ∧ ∀ c, ¬ c = 1 → ¬ c = 2 → A3 c = KA14 A c) (D := 92) hd (Nat.le_of_ble_eq_true rfl) (fun r σ he hq => ?_) (fun d hd => ?_)
  · obtain ⟨W', P', A', A3, rfl, rfl, h1, h2⟩ := hq
    exact ⟨W', P', A', A3, he, h1, h2⟩
  refine K0a (by omega) hW hT hR k0.1 kz zA zP (fun W1 T1 => ?_)
  have T2 := stat_0 T1 k0 hp
  have G2 := gl_0 hG
  have S2 : StrA (KA14 A) := hs.same (fun c q1 q2 => ka_n (by omega))
  refine i_push (n := 0) (cc3 c0_127) (by decide) ?_
  refine p_ist (ls' := [(1, .int (iz 0)), (0, .ref (lo (KU14 W) 0))]) (cc3 c0_128) (by decide) rfl ?_
  refine p_lc (ls' := [(0, .ref (lo (KU14 W) 0)), (1, .int (iz ((0 : Nat) : Int)))]) c0_129 rfl rfl ?_
  refine K0b (by omega) W1 T2 G2 S2 (fun A3 R3 f3 h1 h2 => ?_) 48 0 (KA14 A) rfl (rg_ka hR) (fun _ _ _ => rfl) ?_ (fun j j0 j1 => absurd j1 (by omega))
  · have kk : ∀ c, 400 ≤ c → c < 403 → gK (KU14 W) c = 0 := fun c q1 q2 => by rw [(kuo_14 (Or.inr (by omega))).1]; exact kz c (by omega) (by omega)
    refine K0c hd W1 T2 G2 R3 (S2.same (fun c q1 q2 => f3 c (by omega) (by omega))) h1 h2 ⟨kk 400 (by decide) (by decide), kk 401 (by decide) (by decide), kk 402 (by decide) (by decide)⟩ ?_ (fun W' P' A' h => ⟨W', P', A', A3, rfl, rfl, h, f3⟩)
    rw [f3 400 (by decide) (by decide), ka_n (by omega)]
    exact zA 400 (by decide)
  · rw [ka_n (by omega), zA 1 (by decide)]; rfl
