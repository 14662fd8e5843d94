theorem V99_0 {d : Nat} (hd : 92 ≤ d) {Q : Option Value → xM → Prop} {t : Int → Int} {W : gW} (hW : HW W) {A : Nat → Int → Int} {P : Nat → Int → Nat} (hR : RG A) (hT : Stat W P) (hG : GL W) (h : ((((A 0 13) < 6) → (TpR A t) ∧ (StrA A) ∧ (∀ (r_1 : Int) (A_1 : Nat → Int → Int) (P_1 : Nat → Int → Nat), Rg r_1 → RG A_1 → Stat W P_1 → (P_1 = UP P 6 3 (1 + 1) ∧ Fo 6 [7] [1, 2, 4, 5, 6, 7, 8] A A_1 ∧ (txA t (A 1 1) → r_1 = -1 ∧ A_1 6 2 = ((txRow t (A 1 1) 0).length : Int) ∧ A_1 6 1 = ((txRow t (A 1 1) 0 ++ txRow t (A 1 1) 1).length : Int) ∧ CdI A_1 0 (txRow t (A 1 1) 0 ++ txRow t (A 1 1) 1)) ∧ (¬ txA t (A 1 1) → r_1 = txB t (A 1 1))) → (((r_1 = (-1)) → wpE (xT 99) (xev xT d) Q (50, [(1, .int (iz r_1)), (0, .ref (lo W 0))], [.int (iz (A_1 0 13)), .ref (lo W 19)], Wm W (UA A_1 1 1 0) P_1)) ∧ (¬ (r_1 = (-1)) → (Rg ((-100) - r_1)) ∧ Q (some (.int (iz ((-100) - r_1)))) (Wm W (UA A_1 1 1 0) P_1))))) ∧ (¬ ((A 0 13) < 6) → Q (some (.int (iz (-4)))) (Wm W A P)))) : wpE (xT 99) (xev xT d) Q (0, [(0, .ref (lo W 0))], [], Wm W A P) := by
  refine p_ald (cc3 c99_0) rfl ?_
  refine w_geti hW (v := A 0 13) (cc3 c99_1) (st_k hT 0 12 (by decide)) (ji := 13) rfl rfl ?_
  refine i_push (n := 6) (cc3 c99_4) zl_6 ?_
  refine i_icmp (c' := (A 0 13) < 6) (cc3 c99_6) (iz_lt (hR 0 13) (by decide : Rg (6 : Int))) (fun c => ?_) (fun c => ?_)
  · have h := h.1 c
    refine p_ald (cc3 c99_12) rfl ?_
    refine w_getp hW hT.1 (b := 6) (cc3 c99_13) (st_k hT 0 12 (by decide)) (ji := 2) rfl (st_p hT 0 2 6 (by decide)) ?_
    refine p_ald (cc3 c99_16) rfl ?_
    refine w_getp hW hT.1 (b := 1) (cc3 c99_17) (st_k hT 0 12 (by decide)) (ji := 0) rfl (st_p hT 0 0 1 (by decide)) ?_
    obtain ⟨g1, h⟩ := h
    obtain ⟨g2, h⟩ := h
    obtain ⟨r_1, A_1, P_1, he, hr_1, hR_1, hT_1, hp_1⟩ := S16 (A := A) (P := P) (Nat.le_trans (by decide) hd) hW hR hT hG t ⟨g1, g2⟩
    have h := h r_1 A_1 P_1 hr_1 hR_1 hT_1 hp_1
    refine p_callV (cc3 c99_20) (Nat.le_of_ble_eq_true rfl) rfl rfl (Nat.le_of_ble_eq_true rfl) (wk_kd hW (by decide) (st_k hT 6 11 (by decide))) he ?_
    refine p_ist (ls' := [(1, .int (iz r_1)), (0, .ref (lo W 0))]) (cc3 c99_23) (by decide) rfl ?_
    refine p_ald (cc3 c99_24) rfl ?_
    refine w_getp hW hT_1.1 (b := 1) (cc3 c99_25) (st_k hT_1 0 12 (by decide)) (ji := 0) rfl (st_p hT_1 0 0 1 (by decide)) ?_
    refine i_push (n := 0) (cc3 c99_28) zl_0 ?_
    refine id (α := Rg 0 → _) (fun _ => ?_) (by decide : Rg (0 : Int)); refine w_puti hW (cc3 c99_29) (st_k hT_1 1 9 (by decide)) (ji := 1) rfl ?_
    refine p_ild (cc3 c99_32) rfl ?_
    refine i_push (n := (-1)) (cc3 c99_33) zl_m1 ?_
    refine i_icmp (c' := r_1 = (-1)) (cc3 c99_34) (iz_inj hr_1 (by decide : Rg (-1 : Int))) (fun c => ?_) (fun c => ?_)
    · have h := h.1 c
      refine p_ald (cc3 c99_42) rfl ?_
      refine w_getp hW hT_1.1 (b := 19) (cc3 c99_43) (st_k hT_1 0 12 (by decide)) (ji := 8) rfl (st_p hT_1 0 8 19 (by decide)) ?_
      refine p_ald (cc3 c99_46) rfl ?_
      refine w_geti hW (v := A_1 0 13) (cc3 c99_47) (st_k hT_1 0 12 (by decide)) (ji := 13) rfl (by first | rfl | exact UA_eq | exact UA_j (by decide) | exact UA_c (by decide) | simp [UA]) ?_
      exact h
    · have h := h.2 c
      refine i_push (n := (-100)) (cc3 c99_37) zl_m100 ?_
      refine p_ild (cc3 c99_39) rfl ?_
      obtain ⟨g3, h⟩ := h
      refine (fun _ : Rg ((-100) - r_1) => i_sub (cc3 c99_40) ?_) g3
      exact p_ri (cc3 c99_41) trivial h
  · have h := h.2 c
    refine i_push (n := (-4)) (cc3 c99_9) zl_m4 ?_
    exact p_ri (cc3 c99_11) trivial h
theorem V99_53 {d : Nat} (hd : 92 ≤ d) {Q : Option Value → xM → Prop} {t : Int → Int} {W : gW} (hW : HW W) {A : Nat → Int → Int} {P : Nat → Int → Nat} (hR : RG A) (hT : Stat W P) (hG : GL W) {x1 s1 : Int} {b0 : Nat} (rr : Rg x1 ∧ Rg s1) (h : wpE (xT 99) (xev xT d) Q (58, [(1, .int (iz x1)), (0, .ref (lo W 0))], [.ref (lo W 6), .ref (lo W b0), .ref (lo W b0), .int (iz s1), .ref (lo W 19)], Wm W A P)) : wpE (xT 99) (xev xT d) Q (53, [(1, .int (iz x1)), (0, .ref (lo W 0))], [.ref (lo W b0), .int (iz s1), .ref (lo W 19)], Wm W A P) := by
  refine p_dup (cc3 c99_53) rfl ?_
  refine p_ald (cc3 c99_54) rfl ?_
  refine w_getp hW hT.1 (b := 6) (cc3 c99_55) (st_k hT 0 12 (by decide)) (ji := 2) rfl (st_p hT 0 2 6 (by decide)) ?_
  exact h
theorem V99_61 {d : Nat} (hd : 92 ≤ d) {Q : Option Value → xM → Prop} {t : Int → Int} {W : gW} (hW : HW W) {A : Nat → Int → Int} {P : Nat → Int → Nat} (hR : RG A) (hT : Stat W P) (hG : GL W) {x1 s1 : Int} {b0 : Nat} (rr : Rg x1 ∧ Rg s1) (h : (0 ≤ s1 ∧ s1 < 6) ∧ (gK W b0 = 10) ∧ (Rg ((A 0 13) + 1)) ∧ (Rg (((A 0 13) + 1) - 1)) ∧ Q (some (.int (iz (((A 0 13) + 1) - 1)))) (Wm W (UA A 0 13 ((A 0 13) + 1)) (UP P 19 s1 (b0 + 1)))) : wpE (xT 99) (xev xT d) Q (61, [(1, .int (iz x1)), (0, .ref (lo W 0))], [.ref (lo W b0), .int (iz s1), .ref (lo W 19)], Wm W A P) := by
  obtain ⟨g1, h⟩ := h
  obtain ⟨g2, h⟩ := h
  refine w_astp hW (cc3 c99_61) (st_k hT 19 26 (by decide)) (st_i hT 19 6 (by decide) g1) g2 ?_
  refine p_ald (cc3 c99_62) rfl ?_
  refine p_dup (cc3 c99_63) rfl ?_
  refine w_geti hW (v := A 0 13) (cc3 c99_64) (st_k (Stat.up (v := b0 + 1) hT (po_r (c := 19) (j := s1) (by decide)) (Or.inr (kn g2))) 0 12 (by decide)) (ji := 13) rfl rfl ?_
  refine i_push (n := 1) (cc3 c99_67) zl_1 ?_
  obtain ⟨g3, h⟩ := h
  refine (fun _ : Rg ((A 0 13) + 1) => i_add (cc3 c99_68) ?_) g3
  refine id (α := Rg ((A 0 13) + 1) → _) (fun _ => ?_) g3; refine w_puti hW (cc3 c99_69) (st_k (Stat.up (v := b0 + 1) hT (po_r (c := 19) (j := s1) (by decide)) (Or.inr (kn g2))) 0 12 (by decide)) (ji := 13) rfl ?_
  refine p_ald (cc3 c99_72) rfl ?_
  refine w_geti hW (v := (A 0 13) + 1) (cc3 c99_73) (st_k (Stat.up (v := b0 + 1) hT (po_r (c := 19) (j := s1) (by decide)) (Or.inr (kn g2))) 0 12 (by decide)) (ji := 13) rfl (by first | rfl | exact UA_eq | exact UA_j (by decide) | exact UA_c (by decide) | simp [UA]) ?_
  refine i_push (n := 1) (cc3 c99_76) zl_1 ?_
  obtain ⟨g4, h⟩ := h
  refine (fun _ : Rg (((A 0 13) + 1) - 1) => i_sub (cc3 c99_77) ?_) g4
  exact p_ri (cc3 c99_78) trivial h
theorem upL_get {L : List Int} : ∀ {f : Int → Int} {k : Nat}, (∀ i : Nat, i < L.length → f ((k + i : Nat) : Int) = L.getD i 0) → upL f L.length k = L := by
  induction L with
  | nil => intro f k _; rfl
  | cons x r ih =>
    intro f k h
    show f (k : Int) :: upL f r.length (k + 1) = x :: r
    have h0 := h 0 (by simp)
    have e0 : f (k : Int) = x := h0
    rw [e0, ih (fun i hi => by
      have := h (i + 1) (by simp; omega)
      rw [show k + 1 + i = k + (i + 1) by omega, this]
      rfl)]
section TXQ
variable {t : Int → Int} {n : Int}
theorem txq_b (hn : 0 ≤ n) : ∀ k : Nat, 0 ≤ txQ t n k ∧ txQ t n k ≤ n
  | 0 => ⟨Int.le_refl 0, hn⟩
  | k + 1 => by
    have h := txq_b hn k
    have h1 := tkE_b (t := t) h.2
    have h2 := rdE_ok (t := t) (n := n) 41 0 0 (tkE t n (txQ t n k)) (Int.le_refl 0) (by omega) (by omega)
    have h3 : 0 ≤ (prR t n (tkE t n (txQ t n k))).2.1 ∧ (prR t n (tkE t n (txQ t n k))).2.1 ≤ n := by
      by_cases c : (rdE t n 41 0 0 (tkE t n (txQ t n k))).1 = true
      · obtain ⟨q1, q2, -⟩ := h2.1 c
        show 0 ≤ (rdE t n 41 0 0 (tkE t n (txQ t n k))).2.1 ∧ (rdE t n 41 0 0 (tkE t n (txQ t n k))).2.1 ≤ n
        omega
      · obtain ⟨q1, q2⟩ := h2.2 c
        show 0 ≤ (rdE t n 41 0 0 (tkE t n (txQ t n k))).2.1 ∧ (rdE t n 41 0 0 (tkE t n (txQ t n k))).2.1 ≤ n
        omega
    have h4 := tkE_b (t := t) h3.2
    show 0 ≤ tkE t n (prR t n (tkE t n (txQ t n k))).2.1 ∧ tkE t n (prR t n (tkE t n (txQ t n k))).2.1 ≤ n
    omega
theorem txf_b (hn : 0 ≤ n) {w p : Int} (hp : 0 ≤ p ∧ p ≤ n) : 0 ≤ txF t n w p ∧ txF t n w p ≤ n := by
  unfold txF
  split
  · have h1 := tkE_b (t := t) hp.2
    have h2 := rdE_ok (t := t) (n := n) 41 0 0 (tkE t n p) (Int.le_refl 0) (by omega) (by omega)
    show 0 ≤ (rdE t n 41 0 0 (tkE t n p)).2.1 ∧ (rdE t n 41 0 0 (tkE t n p)).2.1 ≤ n
    by_cases c : (rdE t n 41 0 0 (tkE t n p)).1 = true
    · obtain ⟨q1, q2, -⟩ := h2.1 c; omega
    · obtain ⟨q1, q2⟩ := h2.2 c; omega
  · exact hp
theorem txb_b (hn : 0 ≤ n) : 0 ≤ txB t n ∧ txB t n ≤ n := by
  have h1 := txf_b (t := t) hn (w := 0) (p := 0) ⟨Int.le_refl 0, hn⟩
  have h2 := txf_b (t := t) hn (w := 1) (p := txQ t n 1) (txq_b hn 1)
  have h3 := txq_b (t := t) hn 2
  unfold txB
  split
  · have := tkE_b (t := t) h1.2; omega
  · split
    · have := tkE_b (t := t) h2.2; omega
    · have := tkE_b (t := t) h3.2; omega
theorem row_v {L : List Int} (h : ∀ (k : Nat) (z : List Int), vs (L ++ z) k = vs z (k + 1)) : vs L 0 = some 1 := by
  have := h 0 []
  rw [List.append_nil] at this
  exact this
theorem tx_rows (hn : 0 ≤ n) (h : txA t n) : (∀ j : Nat, j < 2 → vs (txRow t n j) 0 = some 1 ∧ ∀ c ∈ txRow t n j, cdOK c) ∧ ((txRow t n 0).length : Int) + (txRow t n 1).length ≤ n := by
  have q0 := txq_b (t := t) hn 0
  have q1 := txq_b (t := t) hn 1
  have a0 := tkE_b (t := t) q0.2
  have a1 := tkE_b (t := t) q1.2
  obtain ⟨⟨-, p0, -⟩, ⟨-, p1, -⟩, -⟩ := h
  have r0 := (rdE_ok (t := t) (n := n) 41 0 0 (tkE t n (txQ t n 0)) (Int.le_refl 0) (by omega) (by omega)).1 p0
  have r1 := (rdE_ok (t := t) (n := n) 41 0 0 (tkE t n (txQ t n 1)) (Int.le_refl 0) (by omega) (by omega)).1 p1
  obtain ⟨b1, b2, b3, b4, b5⟩ := r0
  obtain ⟨c1, c2, c3, c4, c5⟩ := r1
  have e1 := tkE_b (t := t) b2
  have e2 : txQ t n 1 = tkE t n (rdE t n 41 0 0 (tkE t n (txQ t n 0))).2.1 := rfl
  refine ⟨fun j hj => ?_, ?_⟩
  · rcases (by omega : j = 0 ∨ j = 1) with e | e <;> subst e
    · exact ⟨row_v b4, b5⟩
    · exact ⟨row_v c4, c5⟩
  · show ((rdE t n 41 0 0 (tkE t n (txQ t n 0))).2.2.length : Int) + ((rdE t n 41 0 0 (tkE t n (txQ t n 1))).2.2.length : Int) ≤ n
    omega
end TXQ
theorem wk_row {M : Nat → Int → Int} {o : Int} {L : List Int} (h : RowIs M o L) (hl : (L.length : Int) ≤ 160) (hv : vs L 0 = some 1 ∧ ∀ c ∈ L, cdOK c) : WkOK M o := by
  refine ⟨by rw [h.1]; omega, by rw [h.row, vsM_cm L 0 hv.2]; exact hv.1, fun w hw => ?_⟩
  rw [h.row] at hw
  obtain ⟨c, hc, rfl⟩ := List.mem_map.mp hw
  have ok := hv.2 c hc
  have e := cm_c ok
  by_cases z : 0 ≤ c
  · rw [e.1 z]
    rcases ok with q | q | q | q <;> omega
  · have := e.2 (by omega)
    omega
def TPost (M M' : Nat → Int → Int) (r : Int) : Prop := (M 0 42 = 6 → r = -4 ∧ M' = M) ∧ (¬ M 0 42 = 6 → Fr [33, 34, 35, 36] [1, 42, 46, 47, 48, 49, 52, 53, 54, 55] M M' ∧ M' 0 1 = 0 ∧ (∀ i : Int, i < 2 * M 0 42 → M' 33 i = M 33 i) ∧ (∀ i : Int, i < 320 * M 0 42 → M' 34 i = M 34 i) ∧ (txA (M 1) (M 0 1) → r = M 0 42 ∧ M' 0 42 = M 0 42 + 1 ∧ ∀ j : Nat, j < 2 → RowIs M' (2 * M 0 42 + j) (txRow (M 1) (M 0 1) j)) ∧ (¬ txA (M 1) (M 0 1) → r = -100 - txB (M 1) (M 0 1) ∧ M' 0 42 = M 0 42))
/-- after a text, made or not -/
theorem Rel.texton {W W' : gW} {P P' : Nat → Int → Nat} {A A' M M' : Nat → Int → Int} (h : Rel W P A M) {N : Nat → Prop} (hN : ∀ c, N c → gK W c = 0 ∧ 100 ≤ c ∧ c < 500) (eN : ∀ c, ¬ N c → gK W' c = gK W c ∧ gL W' c = gL W c ∧ lo W' c = lo W c) (hNr : ∀ c, N c → M' 0 42 = M 0 42 + 1 ∧ qT (M 0 42) ≤ c ∧ c < qT (M 0 42) + 3) (eP : ∀ c, ¬ c = 6 → ¬ c = 19 → ¬ N c → P' c = P c) (eA : ∀ c, ¬ c = 0 → ¬ c = 1 → ¬ c = 6 → ¬ c = 7 → ¬ N c → A' c = A c) (a0 : ∀ j : Int, ¬ j = 13 → A' 0 j = A 0 j) (a13 : A' 0 13 = M' 0 42) (a11 : A' 1 1 = 0) (p19 : ∀ s : Int, ¬ s = M 0 42 → P' 19 s = P 19 s) (hF : Fr [33, 34, 35, 36] [1, 42, 46, 47, 48, 49, 52, 53, 54, 55] M M') (h01 : M' 0 1 = 0) (h33 : ∀ i : Int, i < 2 * M 0 42 → M' 33 i = M 33 i) (h34 : ∀ i : Int, i < 320 * M 0 42 → M' 34 i = M 34 i) (h42 : M' 0 42 = M 0 42 ∨ (M' 0 42 = M 0 42 + 1 ∧ M 0 42 < 6 ∧ RTx W' P' A' M' (M 0 42))) : Rel W' P' A' M' := by
  obtain ⟨hn1, hn2, hn3, hn4, hn5, hn6⟩ := h.cn
  have t0 := h.ok.2.2.2.2.1
  have qt := qT_d (s := M 0 42)
  have mr : ∀ c, c ∉ [33, 34, 35, 36] → ¬ c = 0 → M' c = M c := hF.1
  have m0 : ∀ j : Int, j ∉ [1, 42, 46, 47, 48, 49, 52, 53, 54, 55] → M' 0 j = M 0 j := hF.2
  have nN : ∀ c, c < 100 → ¬ N c := fun c q z => by have := (hN c z).2.1; omega
  have nW : ¬ N 240 ∧ ¬ N (240 + 1) := ⟨fun z => by have := hNr _ z; omega, fun z => by have := hNr _ z; omega⟩
  refine h.fin hN eN (fun c q z => eP c (by omega) (by omega) z) (fun c q z => eA c (by omega) (by omega) (by omega) (by omega) z) (fun s _ _ => eqS_r (fun c hc => mr c (by revert hc; simp; omega) (by revert hc; simp; omega)) s) (fun b => eqB_r (fun c hc => mr c (by revert hc; simp; omega) (by revert hc; simp; omega)) b) (fun k => ⟨eqK_r (fun c hc => mr c (by revert hc; simp; omega) (by revert hc; simp; omega)) k, eqL_r (fun c hc => mr c (by revert hc; simp; omega) (by revert hc; simp; omega)) k⟩) (fun t z0 z1 q q0 q1 => ⟨h33 _ (by omega), fun i i0 i1 => h34 _ (by omega)⟩) (fun s => eqH_r (fun c hc => mr c (by revert hc; simp; omega) (by revert hc; simp; omega)) s) ⟨eP 17 (by decide) (by decide) (nN _ (by decide)), eP 18 (by decide) (by decide) (nN _ (by decide))⟩ (fun s _ _ => by rw [eP 16 (by decide) (by decide) (nN _ (by decide))]) (fun t _ z1 => p19 t (by omega)) ⟨a0 11 (by decide), a0 12 (by decide), a0 14 (by decide)⟩ (by rw [a0 10 (by decide), m0 2 (by decide), hn1]) a13 a11 ⟨m0 8 (by decide), m0 13 (by decide), m0 43 (by decide), h01⟩ (mr 1 (by decide) (by decide)) (mr 41 (by decide) (by decide)) ⟨mr 43 (by decide) (by decide), mr 44 (by decide) (by decide)⟩ (Or.inl (m0 2 (by decide))) h42 ?_ ?_
  · exact h.wbS hN (fun c z => ⟨(eN c z).1, (eN c z).2.1⟩) (fun c q z => eP c (by omega) (by omega) z) (fun c q z => eA c (by omega) (by omega) (by omega) (by omega) z) (by rw [eP 0 (by decide) (by decide) (nN _ (by decide))]) (m0 2 (by decide))
  · obtain ⟨w1, w2, w3, w4, w5⟩ := h.fr
    unfold RFr
    rw [m0 2 (by decide), m0 8 (by decide), m0 13 (by decide)]
    have out : ∀ c, ¬ N c → gK W c = 0 → gK W' c = 0 := fun c z q => by rw [(eN c z).1]; exact q
    refine ⟨fun c z1 z2 => out c (fun z => by have := hNr c z; omega) (w1 c z1 z2), fun c z1 z2 => out c (fun z => by have := hNr c z; omega) (w2 c z1 z2), fun z0 c z1 z2 => out c (fun z => by have := hNr c z; omega) (w3 z0 c z1 z2), fun c z1 z2 => out c (fun z => by have := hNr c z; omega) (w4 c z1 z2), fun c z1 z2 => ?_⟩
    rcases h42 with q | q
    · rw [q] at z1
      exact out c (fun z => by have := (hNr c z).1; omega) (w5 c z1 z2)
    · rw [q.1] at z1
      exact out c (fun z => by have := hNr c z; omega) (w5 c (by omega) z2)
def TRest (W : gW) (A : Nat → Int → Int) (v : Int) (W' : gW) (P' : Nat → Int → Nat) (A' : Nat → Int → Int) : Prop := HW W' ∧ RG A' ∧ Stat W' P' ∧ GL W' ∧ mo A' = mo A ∧ Kp W W' A A' ∧ (gsz W' ≤ gsz W + 20 ∧ gsl W' ≤ gsl W + 2000) ∧ RMo W' P' ∧ ∀ (M' : Nat → Int → Int) (rm : Int), TPost (mo A) M' rm → v = rm ∧ Rel W' P' A' M'
theorem k_text {W : gW} {P : Nat → Int → Nat} {A : Nat → Int → Int} (h : Sta W P A) : ∃ (v : Int) (W' : gW) (P' : Nat → Int → Nat) (A' : Nat → Int → Int), xev xT 190 99 [.ref (lo W 0)] (Wm W A P) (some (.int (iz v))) (Wm W' A' P') ∧ TRest W A v W' P' A' := by
  obtain ⟨hW, hR, hT, hG, hr⟩ := h
  obtain ⟨hn1, hn2, hn3, hn4, hn5, hn6⟩ := hr.cn
  obtain ⟨oS0, oB0, oK0, oH0, oT0, oR0⟩ := hr.ok
  have hcs := hr.cto.1
  have hn0 : 0 ≤ mo A 0 1 ∧ mo A 0 1 ≤ 160 := by have := hr.tp.1; omega
  refine xev_g (d := 190) (i := 99) (as := [.ref (lo W 0)]) (σ := Wm W A P) (Q := fun r_ σ_ => ∃ (v : Int) (W' : gW) (P' : Nat → Int → Nat) (A' : Nat → Int → Int), r_ = some (.int (iz v)) ∧ σ_ = Wm W' A' P' ∧ TRest W A v W' P' A') (D := 92) (by decide) (Nat.le_of_ble_eq_true rfl) (fun r_ σ_ he hq => ?_) (fun d hd => V99_0 (t := mo A 1) hd hW hR hT hG ?_)
  · obtain ⟨v, W', P', A', rfl, rfl, hq⟩ := hq
    exact ⟨v, W', P', A', he, hq⟩
  refine ⟨fun n4 => ⟨hr.tp, hr.st, ?_⟩, fun n4 => ?_⟩
  rotate_left
  · refine ⟨-4, W, P, A, rfl, rfl, hW, hR, hT, hG, rfl, Kp.rf, ⟨Nat.le_add_right _ _, Nat.le_add_right _ _⟩, hr.mod, fun M' rm hS => ?_⟩
    obtain ⟨q1, q2⟩ := hS.1 (by omega)
    exact ⟨q1.symm, by rw [q2]; exact hr⟩
  intro r_1 A1 P1 rr1 RA1 TP1 ⟨eP1, hF, hY, hNo⟩
  rw [hn6] at hY hNo
  have a1 : ∀ c, ¬ c = 6 → ¬ c = 7 → A1 c = A c := fun c z1 z2 => hF.1 c (by simp; omega) z1
  have B3 : ∀ c, ¬ c = 1 → UA A1 1 1 0 c = A1 c := fun c z => UA_n z
  have RB : RG (UA A1 1 1 0) := rg_UA RA1 (by decide)
  have p1 : ∀ c, ¬ c = 6 → P1 c = P c := fun c z => by rw [eP1]; exact UP_n z
  have kp0 : Kp W W A (UA A1 1 1 0) := ⟨⟨rfl, rfl, rfl⟩, ⟨rfl, rfl⟩, by rw [B3 540 (by decide), a1 540 (by decide) (by decide)]⟩
  have mo0 : mo (UA A1 1 1 0) = mo A := mo_n fun c hc => by rw [B3 c (by omega), a1 c (by omega) (by omega)]
  have md0 : RMo W P1 := ⟨hr.mod.1, by rw [p1 1000 (by decide)]; exact hr.mod.2⟩
  have A10 : A1 0 = A 0 := a1 0 (by decide) (by decide)
  by_cases ta : txA (mo A 1) (mo A 0 1)
  · obtain ⟨y1, y2, y3, y4⟩ := hY ta
    obtain ⟨v1, v2⟩ := tx_rows hn0.1 ta
    refine ⟨fun _ => ?_, fun z => absurd y1 z⟩
    rw [A10]
    obtain ⟨len, hlen⟩ : ∃ len : Nat, len = (txRow (mo A 1) (mo A 0 1) 0 ++ txRow (mo A 1) (mo A 0 1) 1).length := ⟨_, rfl⟩
    have hl2 : len = (txRow (mo A 1) (mo A 0 1) 0).length + (txRow (mo A 1) (mo A 0 1) 1).length := by rw [hlen, List.length_append]
    obtain ⟨a, ha⟩ : ∃ a, a = qT (mo A 0 42) := ⟨_, rfl⟩
    have qa := qT_d (s := mo A 0 42)
    rw [← ha] at qa
    have f0 : gK W a = 0 := hr.fr.2.2.2.2 a (by omega) (by omega)
    have ff : ∀ c, a ≤ c → c < a + 3 → gK W c = 0 := fun c z1 z2 => hr.fr.2.2.2.2 c (by omega) (by omega)
    have W1 : HW (gN W a 10 4) := gN_ok hW f0 (by decide)
    have T1 : Stat (gN W a 10 4) (ZP P1 a) := TP1.gN hG f0 (by omega) (by decide)
    have G1 : GL (gN W a 10 4) := hG.gN f0
    have R1 : RG (ZA (UA A1 1 1 0) a) := rg_ZA RB
    have Z : ∀ c, ¬ c = 1 → ¬ c = a → ZA (UA A1 1 1 0) a c = A1 c := fun c z1 z2 => by rw [ZA_n z2, B3 c z1]
    obtain ⟨A2, x2, W2, R2, T2, G2, f2, h2o, h2f, h2c⟩ := S34 (d := 3) (Nat.le_refl 3) W1 R1 T1 G1 (n := len) (a := a) ⟨by omega, gN_K_e, by rw [gN_K_n (by omega)]; exact ff _ (by omega) (by omega), by rw [gN_K_n (by omega)]; exact ff _ (by omega) (by omega)⟩ ⟨by rw [Z 6 (by decide) (by omega), y3, hlen], by omega⟩
    rw [Z 6 (by decide) (by omega), y2] at h2f
    rw [Z 7 (by decide) (by omega)] at h2c
    have A2n : ∀ c, c < a ∨ a + 3 ≤ c → ¬ c = 1 → A2 c = A1 c := fun c z1 z2 => (f2 c (by omega) (by omega) (by omega)).trans (Z c z2 (by omega))
    have A20 : A2 0 = A 0 := by rw [A2n 0 (by omega) (by decide), A10]
    have A21 : A2 1 1 = 0 := by rw [f2 1 (by omega) (by omega) (by omega), ZA_n (by omega), UA_eq]
    have kW : ∀ c, c < a ∨ a + 3 ≤ c → gK (LgW (gN W a 10 4) a len) c = gK W c ∧ gL (LgW (gN W a 10 4) a len) c = gL W c ∧ lo (LgW (gN W a 10 4) a len) c = lo W c := fun c z => ⟨by rw [gN_K_n (by omega), gN_K_n (by omega), gN_K_n (by omega)], by rw [gN_L_n (by omega), gN_L_n (by omega), gN_L_n (by omega)], by rw [gN_lo_n (by omega), gN_lo_n (by omega), gN_lo_n (by omega)]⟩
    have kP : ∀ c, c < a ∨ a + 3 ≤ c → LgP (ZP P1 a) a c = P1 c := fun c z => by
      show UP (ZP (UP (ZP (ZP P1 a) (a + 1)) a 0 ((a + 1) + 1)) (a + 2)) a 1 ((a + 2) + 1) c = _
      rw [UP_n (by omega), ZP_n (by omega), UP_n (by omega), ZP_n (by omega), ZP_n (by omega)]
    have kP0 : LgP (ZP P1 a) a a 0 = (a + 1) + 1 := by
      show UP (ZP (UP (ZP (ZP P1 a) (a + 1)) a 0 ((a + 1) + 1)) (a + 2)) a 1 ((a + 2) + 1) a 0 = _
      rw [UP_j (by decide), ZP_n (by omega), UP_e]
    have kP1 : LgP (ZP P1 a) a a 1 = (a + 2) + 1 := UP_e
    have lS : ∀ c, c = 0 ∨ c = a ∨ c = 19 → lo (LgW (gN W a 10 4) a len) c = lo (gN W a 10 4) c := fun c z => by rw [gN_lo_n (by omega), gN_lo_n (by omega)]
    have gz2 : gsz (LgW (gN W a 10 4) a len) = gsz W + 3 ∧ gsl (LgW (gN W a 10 4) a len) = gsl W + 4 + len + len := ⟨rfl, rfl⟩
    have ka : gK (LgW (gN W a 10 4) a len) a = 10 := by rw [gN_K_n (by omega), gN_K_n (by omega)]; exact gN_K_e
    have ka1 : gK (LgW (gN W a 10 4) a len) (a + 1) = 20 := by rw [gN_K_n (by omega)]; exact gN_K_e
    have ka2 : gK (LgW (gN W a 10 4) a len) (a + 2) = 20 := gN_K_e
    have la1 : gL (LgW (gN W a 10 4) a len) (a + 1) = len := by rw [gN_L_n (by omega)]; exact gN_L_e
    have la2 : gL (LgW (gN W a 10 4) a len) (a + 2) = len := gN_L_e
    generalize LgW (gN W a 10 4) a len = W2' at *
    generalize LgP (ZP P1 a) a = P2 at *
    have T3 : Stat W2' (UP P2 19 (A 0 13) (a + 1)) := Stat.up (v := a + 1) (c := 19) (j := A 0 13) T2 (po_r (c := 19) (by decide)) (Or.inr (by rw [NZ, Nat.add_sub_cancel, ka]; decide))
    refine w_new hW TP1.1 (cc3 c99_50) a f0 (fun V1 e1 _ => ?_)
    have e1' : V1 = gN W a 10 4 := e1
    subst e1'
    rw [show lo W 0 = lo (gN W a 10 4) 0 from (gN_lo_n (by omega)).symm, show lo W 19 = lo (gN W a 10 4) 19 from (gN_lo_n (by omega)).symm]
    refine V99_53 (t := mo A 1) hd W1 R1 T1 G1 ⟨rr1, ⟨by omega, by omega⟩⟩ ?_
    refine p_callI (cc3 c99_58) (Nat.le_of_ble_eq_true rfl) rfl rfl (Nat.le_of_ble_eq_true rfl) (xev_le (Nat.le_trans (by decide) hd) x2) ?_
    show wpE _ _ _ (61, [(1, .int (iz r_1)), (0, .ref (lo (gN W a 10 4) 0))], [.ref (lo (gN W a 10 4) a), .int (iz (A 0 13)), .ref (lo (gN W a 10 4) 19)], _)
    rw [← lS 0 (by omega), ← lS a (by omega), ← lS 19 (by omega)]
    refine V99_61 (t := mo A 1) hd W2 R2 T2 G2 ⟨rr1, ⟨by omega, by omega⟩⟩ ⟨by omega, ka, by rw [A20]; exact ⟨by omega, by omega⟩, by rw [A20]; exact ⟨by omega, by omega⟩, ?_⟩
    rw [A20]
    have aN : ∀ c, ¬ c = 0 → ¬ c = 1 → ¬ c = 6 → ¬ c = 7 → ¬ (a ≤ c ∧ c < a + 3) → UA A2 0 13 (A 0 13 + 1) c = A c := fun c z0 z1 z6 z7 z => by rw [UA_n z0, A2n c (by omega) z1, a1 c z6 z7]
    have pN : ∀ c, ¬ c = 6 → ¬ c = 19 → ¬ (a ≤ c ∧ c < a + 3) → UP P2 19 (A 0 13) (a + 1) c = P c := fun c z6 z1 z => by rw [UP_n z1, kP c (by omega), p1 c z6]
    have wN : ∀ c, ¬ (a ≤ c ∧ c < a + 3) → gK W2' c = gK W c ∧ gL W2' c = gL W c ∧ lo W2' c = lo W c := fun c z => kW c (by omega)
    refine ⟨_, W2', _, _, rfl, rfl, W2, rg_UA R2 ⟨by omega, by omega⟩, T3, G2, ?_, ⟨⟨(wN 0 (by omega)).2.2, (wN 1000 (by omega)).2.2, (wN 540 (by omega)).2.2⟩, ⟨(wN 540 (by omega)).1, (wN 540 (by omega)).2.1⟩, aN 540 (by decide) (by decide) (by decide) (by decide) (by omega)⟩, ?_, ?_, fun M' rm hS => ?_⟩
    · exact mo_n fun c hc => aN c (by omega) (by omega) (by omega) (by omega) (by omega)
    · rw [gz2.1, gz2.2]; omega
    · refine ⟨fun c hc => ?_, ?_⟩
      · rw [(wN (1000 + c) (by omega)).1, (wN (1000 + c) (by omega)).2.1, (wN (1000 + c) (by omega)).2.2, (wN 1000 (by omega)).2.2]
        exact hr.mod.1 c hc
      · rw [pN 1000 (by decide) (by decide) (by omega)]; exact hr.mod.2
    · obtain ⟨q1, q2, q3, q4, q5, q6⟩ := hS.2 (by omega)
      obtain ⟨s1, s2, s3⟩ := q5 ta
      refine ⟨by rw [s1]; omega, hr.texton (N := fun c => a ≤ c ∧ c < a + 3) (fun c z => ⟨ff c z.1 z.2, by omega, by omega⟩) wN (fun c z => ⟨s2, by rw [← ha]; omega⟩) pN aN (fun j z => by rw [UA_j z, A20]) (by rw [UA_eq, s2, hn4]) ?_ (fun s z => ?_) q1 q2 q3 q4 (Or.inr ⟨s2, by omega, ?_⟩)⟩
      · rw [UA_n (by decide)]; exact A21
      · rw [UP_j (by omega), kP 19 (by omega), p1 19 (by decide)]
      · have u : ∀ c, ¬ c = 0 → UA A2 0 13 (A 0 13 + 1) c = A2 c := fun c z => UA_n z
        have up : UP P2 19 (A 0 13) (a + 1) a = P2 a := UP_n (by omega)
        have r0 := s3 0 (by decide)
        have r1 := s3 1 (by decide)
        have L0 : ((txRow (mo A 1) (mo A 0 1) 0).length : Int) ≤ 160 := by omega
        have L1 : ((txRow (mo A 1) (mo A 0 1) 1).length : Int) ≤ 160 := by omega
        unfold RTx
        rw [← ha]
        have gc : ∀ i : Nat, i < len → A2 (a + 1) (i : Int) = (txRow (mo A 1) (mo A 0 1) 0 ++ txRow (mo A 1) (mo A 0 1) 1).getD i 0 := fun i hi => by
          rw [h2c (i : Int) (by omega) (by omega)]
          have := y4 i (by omega)
          rw [Int.zero_add] at this
          exact this
        have k0 : partK (UA A2 0 13 (A 0 13 + 1)) W2' a 0 = txRow (mo A 1) (mo A 0 1) 0 := by
          unfold partK
          rw [if_pos rfl, u (a + 1) (by omega), u a (by omega), h2f, Int.toNat_natCast]
          refine upL_get (fun i hi => ?_)
          rw [Nat.zero_add, gc i (by omega), List.getD_eq_getElem?_getD, List.getD_eq_getElem?_getD, List.getElem?_append_left hi]
        have k1 : partK (UA A2 0 13 (A 0 13 + 1)) W2' a 1 = txRow (mo A 1) (mo A 0 1) 1 := by
          unfold partK
          rw [if_neg (by decide), u (a + 1) (by omega), u a (by omega), h2f, Int.toNat_natCast, la1, hl2, Nat.add_sub_cancel_left]
          refine upL_get (fun i hi => ?_)
          rw [gc _ (by omega), List.getD_eq_getElem?_getD, List.getD_eq_getElem?_getD, List.getElem?_append_right (Nat.le_add_right _ _), Nat.add_sub_cancel_left]
        refine ⟨by rw [show mo A 0 42 = A 0 13 by omega, UP_e], ⟨⟨ka, ka1, ka2⟩, by rw [up]; exact ⟨kP0, kP1⟩, by rw [la1, la2]; omega⟩, by rw [u a (by omega), h2f, la1]; omega, by rw [la1, la2], fun q q0 q1 => ?_⟩
        rcases (by omega : q = 0 ∨ q = 1) with e | e <;> subst e
        · rw [k0]
          have e0 : 2 * mo A 0 42 + ((0 : Nat) : Int) = 2 * mo A 0 42 + 0 := rfl
          rw [e0] at r0
          exact ⟨r0.row.symm, v1 0 (by decide), wk_row r0 L0 (v1 0 (by decide))⟩
        · rw [k1]
          have e0 : 2 * mo A 0 42 + ((1 : Nat) : Int) = 2 * mo A 0 42 + 1 := rfl
          rw [e0] at r1
          exact ⟨r1.row.symm, v1 1 (by decide), wk_row r1 L1 (v1 1 (by decide))⟩
  · have y1 := hNo ta
    have bb := txb_b (t := mo A 1) hn0.1
    refine ⟨fun z => by omega, fun z => ⟨⟨by omega, by omega⟩, ?_⟩⟩
    refine ⟨_, W, P1, UA A1 1 1 0, rfl, rfl, hW, RB, TP1, hG, mo0, kp0, ⟨Nat.le_add_right _ _, Nat.le_add_right _ _⟩, md0, fun M' rm hS => ?_⟩
    obtain ⟨q1, q2, q3, q4, q5, q6⟩ := hS.2 (by omega)
    obtain ⟨s1, s2⟩ := q6 ta
    refine ⟨by rw [s1, y1], hr.texton (N := fun _ => False) (fun _ z => z.elim) (fun _ _ => ⟨rfl, rfl, rfl⟩) (fun _ z => z.elim) (fun c z1 _ _ => p1 c z1) (fun c z0 z1 z6 z7 _ => by rw [B3 c z1, a1 c z6 z7]) (fun j _ => by rw [B3 0 (by decide), A10]) (by rw [B3 0 (by decide), A10, s2, hn4]) UA_eq (fun s _ => by rw [p1 19 (by decide)]) q1 q2 q3 q4 (Or.inl s2)⟩
theorem cl_17 {W : gW} {P : Nat → Int → Nat} {A : Nat → Int → Int} (h : Sta W P A) : Cll 99 170 [] W P A := by
  obtain ⟨v, W', P', A', hx, q1, q2, q3, q4, q5, q6, q7, q8, q9⟩ := k_text h
  have hr := h.2.2.2.2
  obtain ⟨rm, M', hm, m1, m2, m3⟩ := S170 (d := 190) (by decide) (ml_W (A := A') q1 q3.1 q8) (rg_mo h.2.1) ⟨hr.tp.2.1, by have := hr.tp.1; have := hr.cn.2.2.2.2.2; omega, hr.ok.2.2.2.2.1⟩
  obtain ⟨e, hrel⟩ := q9 M' rm m3
  rw [e] at hx
  exact stp_m2 hx q5 hm q1 q2 m2 q3 q4 hrel q6 q7
