theorem lyS_c {A A' : Nat → Int → Int} (h : ∀ c ∈ 16 :: lyRows, A' c = A c) : lyS A' = lyS A := by
  funext k s j; unfold lyS; rw [h 3 (by decide), h 18 (by decide), m_centre_c (h 5 (by decide))]
theorem lyX_c {A A' : Nat → Int → Int} (h : ∀ c ∈ 16 :: lyRows, A' c = A c) : lyX A' = lyX A := by
  funext k s j
  have e : strd A' k ↔ strd A k := by unfold strd; rw [h 11 (by decide)]
  unfold lyX
  by_cases c : strd A k
  · rw [if_pos c, if_pos (e.mpr c), lyS_c h, h 3 (by decide), h 18 (by decide), h 17 (by decide), h 16 (by decide), m_centre_c (h 5 (by decide))]
  · rw [if_neg c, if_neg (fun q => c (e.mp q)), lyS_c h, h 18 (by decide)]
theorem lyG_c {A A' : Nat → Int → Int} (h : ∀ c ∈ 16 :: lyRows, A' c = A c) : lyG A' = lyG A := by
  funext k b s j; unfold lyG
  rw [lyS_c h, lyX_c h, h 18 (by decide), h 15 (by decide), m_isF_c (h 9 (by decide)) (h 10 (by decide)), yG_c (fun c hc => h c (List.mem_cons_of_mem _ hc))]
theorem lyB_c {A A' : Nat → Int → Int} (h : ∀ c ∈ 16 :: lyRows, A' c = A c) : lyB A' = lyB A := by
  funext k b s j
  induction j with
  | zero => rfl
  | succ j ih => unfold lyB; rw [ih, lyG_c h]
/-- where band may write -/
def bfRows (c : Nat) (j : Int) : Prop := ndRows c j ∨ c = 39 ∨ c = 40 ∨ c = 41 ∨ c = 42 ∨ (c = 0 ∧ (j = 62 ∨ j = 63))
def BFr (A A' : Nat → Int → Int) : Prop := ∀ c j, ¬ bfRows c j → A' c j = A c j
theorem BFr.rf {A : Nat → Int → Int} : BFr A A := fun _ _ _ => rfl
theorem BFr.tr {A A' A'' : Nat → Int → Int} (h : BFr A A') (h' : BFr A' A'') : BFr A A'' := fun c j q => (h' c j q).trans (h c j q)
theorem NFr.b {A A' : Nat → Int → Int} (h : NFr A A') : BFr A A' := fun c j q => h c j (fun q' => q (Or.inl q'))
theorem BFr.w {A A' : Nat → Int → Int} {c : Nat} {j v : Int} (h : BFr A A') (hc : c = 39 ∨ c = 40 ∨ c = 41 ∨ c = 42) : BFr A (UA A' c j v) := fun q i hq => by
  rw [UA_c (fun e => hq (by subst e; unfold bfRows; omega))]; exact h q i hq
theorem BFr.row {A A' : Nat → Int → Int} (h : BFr A A') {c : Nat} (h0 : ¬ c = 0) (h1 : ¬ (c = 8 ∨ c = 9 ∨ c = 29 ∨ c = 30 ∨ c = 31 ∨ c = 32 ∨ c = 39 ∨ c = 40 ∨ c = 41 ∨ c = 42)) : A' c = A c := by
  funext j; exact h c j (by unfold bfRows ndRows; omega)
theorem BFr.fld {A A' : Nat → Int → Int} (h : BFr A A') {j : Int} (h1 : ¬ (j = 32 ∨ j = 36 ∨ j = 39 ∨ j = 40 ∨ j = 41 ∨ j = 62 ∨ j = 63)) : A' 0 j = A 0 j := h 0 j (by unfold bfRows ndRows; omega)
theorem BFr.i8 {A A' : Nat → Int → Int} (h : BFr A A') {c : Nat} (hc : c = 8 ∨ c = 9) {j : Int} (h1 : ¬ j = 4) : A' c j = A c j := h c j (by unfold bfRows ndRows; omega)
theorem BFr.bolts {A A' : Nat → Int → Int} (h : BFr A A') (hB : BoltsOK A) : BoltsOK A' := by
  refine ⟨by rw [h.fld (by omega)]; exact hB.1, fun b b1 b2 => ?_⟩
  rw [h.fld (by omega)] at b2
  have := hB.1
  obtain ⟨q1, q2, q3⟩ := hB.2 b b1 b2
  refine ⟨by rw [h.fld (by omega), h.row (by decide) (by decide)]; exact q1, by rw [h.i8 (Or.inl rfl) (by omega)]; exact q2, by rw [h.i8 (Or.inr rfl) (by omega)]; exact q3⟩
theorem SettOK_c {A A' : Nat → Int → Int} (h : ∀ c ∈ [2, 3, 4, 5, 6], A' c = A c) {s : Int} (hs : SettOK A s) : SettOK A' s := by
  unfold SettOK m_per m_w at *
  rw [h 2 (by decide), h 3 (by decide), h 4 (by decide), h 5 (by decide), h 6 (by decide)]; exact hs
theorem BFr.setts {A A' : Nat → Int → Int} (h : BFr A A') (hS : SettsOK A) : SettsOK A' :=
  ⟨by rw [h.fld (by omega)]; exact hS.1, fun s s1 s2 => SettOK_c (fun c hc => h.row (by revert hc; simp; omega) (by revert hc; simp; omega)) (hS.2 s s1 (by rw [h.fld (by omega)] at s2; exact s2))⟩
theorem KiltOK_c {A A' : Nat → Int → Int} (h : ∀ c ∈ [11, 12, 13, 14, 15, 16, 17, 18, 19, 20], A' c = A c) {k : Int} (hk : KiltOK A k) : KiltOK A' k := by
  unfold KiltOK at *
  rw [h 11 (by decide), h 12 (by decide), h 13 (by decide), h 14 (by decide), h 15 (by decide), h 16 (by decide), h 17 (by decide), h 18 (by decide), h 19 (by decide), h 20 (by decide)]; exact hk
theorem BFr.need {A A' : Nat → Int → Int} (h : BFr A A') : m_need A' = m_need A := by
  funext k
  have e : ∀ c ∈ 16 :: lyRows, Nd A' c = Nd A c := fun c hc => by
    funext j
    unfold Nd UA
    by_cases e9 : c = 9 ∧ j = 4
    · rw [if_pos e9, if_pos e9]
    · rw [if_neg e9, if_neg e9]
      by_cases e8 : c = 8 ∧ j = 4
      · rw [if_pos e8, if_pos e8]
      · rw [if_neg e8, if_neg e8]
        exact h c j (by
          have : c ∈ [16, 3, 5, 8, 9, 10, 11, 15, 17, 18] := hc
          unfold bfRows ndRows
          revert this; simp; omega)
  have eh : m_hasS A' k 0 ↔ m_hasS A k 0 := by unfold m_hasS strd; rw [h.row (c := 11) (by decide) (by decide), h.row (c := 16) (by decide) (by decide), h.row (c := 2) (by decide) (by decide)]
  unfold m_need
  by_cases c : m_hasS A k 0
  · rw [if_pos c, if_pos (eh.mpr c), lyB_c e]
  · rw [if_neg c, if_neg (fun q => c (eh.mp q))]
theorem m_need_b {A : Nat → Int → Int} {k : Int} (hs : SettOK A 0) (hk : KiltOK A k) (hk2 : 0 ≤ k ∧ k < 8) : 0 ≤ m_need A k ∧ m_need A k ≤ 1000000 := by
  unfold m_need
  split
  · rename_i h
    have hF := FindC.nd hs hk hk2 h
    have hl := lyB_le (A := Nd A) (k := k) (b := 4) (s := 0) 4
    refine ⟨?_, hl⟩
    by_cases c : (lyB (Nd A) k 4 0 4).1 < 1000000
    · have := ly_ub hF c
      have e : Nd A 18 k = A 18 k := rfl
      have := hk.b
      omega
    · omega
  · omega
/-- the best way of the first w: how many, how many bolts, from where -/
def bdB (need : Nat → Int) (told : Nat → Bool) (l0 : Nat → Int) (N : Nat) (f0 : Nat → Int) : Nat → Int × Int × (Nat → Int)
  | 0 => (-1, 0, f0)
  | w + 1 => match cuS need told (dgt N w) l0 N with
    | none => bdB need told l0 N f0 w
    | some (_, c, bt) => if (bdB need told l0 N f0 w).1 < c ∨ ((c : Int) = (bdB need told l0 N f0 w).1 ∧ pc bt < (bdB need told l0 N f0 w).2.1) then ((c : Int), pc bt, fun k => if k < N ∧ dgt N w k < 4 then ((dgt N w k : Nat) : Int) else -1) else bdB need told l0 N f0 w
def bdNd (A : Nat → Int → Int) (set : Int) : Nat → Int := fun k => if (k : Int) < A 0 13 then (if iand (ishr set k) 1 = 1 then m_need A k else 1000000) else 0
def bdR (A : Nat → Int → Int) (set : Int) : Int × Int × (Nat → Int) := bdB (bdNd A set) (bdT set) (bdL A) (A 0 13).toNat (fun k => A 41 k) (5 ^ (A 0 13).toNat)
theorem ishl_2 : ∀ N : Nat, N < 9 → ishl 1 (N : Int) = ((2 ^ N : Nat) : Int) := by decide
theorem pow5_b : ∀ N : Nat, N < 9 → 5 ^ N ≤ 390625 := by decide
theorem pc_b {bt : Nat} : 0 ≤ pc bt ∧ pc bt ≤ 4 := by unfold pc; omega
theorem V192_0 {d : Nat} (hd : 5 ≤ d) {Q : Option Value → xM → Prop} {m : Nat} {Φ : (Nat → Nat → Int32) → xM} (hΦ : MLaw m Φ) {A : Nat → Int → Int} (hR : RG A) {x1 : Int} (rr : Rg x1) (h : (Rg ((ishl 1 (A 0 13)) - 1)) ∧ ((¬ (0 ≤ x1 ∧ x1 ≤ ((ishl 1 (A 0 13)) - 1)) → Q (some (.int (iz (-2)))) (Φ (mI A))) ∧ ((0 ≤ x1 ∧ x1 ≤ ((ishl 1 (A 0 13)) - 1)) → ((((A 0 2) = 0) → Q (some (.int (iz (-3)))) (Φ (mI A))) ∧ (¬ ((A 0 2) = 0) → wpE (xT 192) (xev xT d) Q (34, [(0, .ref m), (1, .int (iz x1)), (2, .int (iz 1)), (3, .int (iz 0))], [], Φ (mI A))))))) : wpE (xT 192) (xev xT d) Q (0, [(0, .ref m), (1, .int (iz x1))], [], Φ (mI A)) := by
  refine p_ald (cc3 c192_0) rfl ?_
  refine p_ild (cc3 c192_1) rfl ?_
  refine i_push (n := 0) (cc3 c192_2) zl_0 ?_
  refine i_push (n := 1) (cc3 c192_3) zl_1 ?_
  refine p_ald (cc3 c192_4) rfl ?_
  refine n_geti hΦ (v := A 0 13) (cc3 c192_5) (ji := 13) rfl rfl ?_
  refine i_op (z := ishl 1 (A 0 13)) (cc3 c192_8) (iz_of _).symm ?_
  refine i_push (n := 1) (cc3 c192_9) zl_1 ?_
  obtain ⟨g1, h⟩ := h
  refine (fun _ : Rg ((ishl 1 (A 0 13)) - 1) => i_sub (cc3 c192_10) ?_) g1
  refine p_callV (cc3 c192_11) (Nat.le_of_ble_eq_true rfl) rfl rfl (Nat.le_of_ble_eq_true rfl) (ml_kd hΦ) (S129 (Nat.le_trans (by decide) hd) hΦ hR ⟨rr, (by decide), g1⟩) ?_
  refine i_ifB (cc3 c192_14) (fun c => ?_) (fun c => ?_)
  · have h := h.1 c
    refine i_push (n := (-2)) (cc3 c192_17) zl_m2 ?_
    exact p_ri (cc3 c192_19) trivial h
  · have h := h.2 c
    refine p_ald (cc3 c192_20) rfl ?_
    refine n_geti hΦ (v := A 0 2) (cc3 c192_21) (ji := 2) rfl rfl ?_
    refine i_if (c' := (A 0 2) = 0) (cc3 c192_24) (c_eq0 (hR 0 2)) (fun c => ?_) (fun c => ?_)
    · have h := h.1 c
      refine i_push (n := (-3)) (cc3 c192_27) zl_m3 ?_
      exact p_ri (cc3 c192_29) trivial h
    · have h := h.2 c
      refine i_push (n := 1) (cc3 c192_30) zl_1 ?_
      refine p_ist (ls' := [(2, .int (iz 1)), (0, .ref m), (1, .int (iz x1))]) (cc3 c192_31) (by decide) rfl ?_
      refine i_push (n := 0) (cc3 c192_32) zl_0 ?_
      refine p_ist (ls' := [(3, .int (iz 0)), (2, .int (iz 1)), (0, .ref m), (1, .int (iz x1))]) (cc3 c192_33) (by decide) rfl ?_
      exact p_lc (ls' := [(0, .ref m), (1, .int (iz x1)), (2, .int (iz 1)), (3, .int (iz 0))]) c192_34 rfl rfl h
theorem V192_34 {d : Nat} (hd : 5 ≤ d) {Q : Option Value → xM → Prop} {m : Nat} {Φ : (Nat → Nat → Int32) → xM} (hΦ : MLaw m Φ) {A : Nat → Int → Int} (hR : RG A) {x1 x2 x3 : Int} (rr : Rg x1 ∧ Rg x2 ∧ Rg x3) (h : ((((A 0 13) ≤ x3) → wpE (xT 192) (xev xT d) Q (85, [(0, .ref m), (1, .int (iz x1)), (2, .int (iz x2)), (3, .int (iz (-1))), (4, .int (iz 0)), (5, .int (iz 0))], [], Φ (mI A))) ∧ (¬ ((A 0 13) ≤ x3) → ((((iand (ishr x1 x3) 1) = 1) → (0 < A 0 2) ∧ (SettsOK A) ∧ (0 ≤ x3 ∧ x3 < 8) ∧ (KiltOK A x3) ∧ (∀ (r_1 : Int) (A_1 : Nat → Int → Int), Rg r_1 → RG A_1 → (r_1 = m_need A x3 ∧ NFr A A_1) → (Rg (x2 * 5)) ∧ (Rg (x3 + 1)) ∧ wpE (xT 192) (xev xT d) Q (34, [(0, .ref m), (1, .int (iz x1)), (2, .int (iz (x2 * 5))), (3, .int (iz (x3 + 1)))], [], Φ (mI (UA A_1 39 x3 r_1))))) ∧ (¬ ((iand (ishr x1 x3) 1) = 1) → (0 ≤ x3 ∧ x3 < 8) ∧ (Rg (x2 * 5)) ∧ (Rg (x3 + 1)) ∧ wpE (xT 192) (xev xT d) Q (34, [(0, .ref m), (1, .int (iz x1)), (2, .int (iz (x2 * 5))), (3, .int (iz (x3 + 1)))], [], Φ (mI (UA A 39 x3 1000000)))))))) : wpE (xT 192) (xev xT d) Q (34, [(0, .ref m), (1, .int (iz x1)), (2, .int (iz x2)), (3, .int (iz x3))], [], Φ (mI A)) := by
  refine p_ild (cct c192_34 rfl) rfl ?_
  refine p_ald (cc3 c192_35) rfl ?_
  refine n_geti hΦ (v := A 0 13) (cc3 c192_36) (ji := 13) rfl rfl ?_
  refine i_icmp (c' := (A 0 13) ≤ x3) (cc3 c192_39) (iz_le (hR 0 13) rr.2.2) (fun c => ?_) (fun c => ?_)
  · have h := h.1 c
    refine i_push (n := (-1)) (cc3 c192_77) zl_m1 ?_
    refine p_ist (ls' := [(3, .int (iz (-1))), (0, .ref m), (1, .int (iz x1)), (2, .int (iz x2))]) (cc3 c192_78) (by decide) rfl ?_
    refine i_push (n := 0) (cc3 c192_79) zl_0 ?_
    refine p_ist (ls' := [(4, .int (iz 0)), (3, .int (iz (-1))), (0, .ref m), (1, .int (iz x1)), (2, .int (iz x2))]) (cc3 c192_80) (by decide) rfl ?_
    refine i_push (n := 0) (cc3 c192_82) zl_0 ?_
    refine p_ist (ls' := [(5, .int (iz 0)), (4, .int (iz 0)), (3, .int (iz (-1))), (0, .ref m), (1, .int (iz x1)), (2, .int (iz x2))]) (cc3 c192_83) (by decide) rfl ?_
    exact p_lc (ls' := [(0, .ref m), (1, .int (iz x1)), (2, .int (iz x2)), (3, .int (iz (-1))), (4, .int (iz 0)), (5, .int (iz 0))]) c192_85 rfl rfl h
  · have h := h.2 c
    refine p_ald (cc3 c192_42) rfl ?_
    refine pm_getp hΦ (cc3 c192_43) (c := 39) rfl (by decide) ?_
    refine p_ild (cc3 c192_46) rfl ?_
    refine p_ild (cc3 c192_47) rfl ?_
    refine p_ild (cc3 c192_48) rfl ?_
    refine i_op (z := ishr x1 x3) (cc3 c192_49) (iz_of _).symm ?_
    refine i_push (n := 1) (cc3 c192_50) zl_1 ?_
    refine i_op (z := iand (ishr x1 x3) 1) (cc3 c192_51) (iz_of _).symm ?_
    refine i_push (n := 1) (cc3 c192_52) zl_1 ?_
    refine i_icmp (c' := (iand (ishr x1 x3) 1) = 1) (cc3 c192_53) (iz_inj rg_iand (by decide)) (fun c => ?_) (fun c => ?_)
    · have h := h.1 c
      refine p_ald (cc3 c192_56) rfl ?_
      refine p_ild (cc3 c192_57) rfl ?_
      obtain ⟨g1, h⟩ := h
      obtain ⟨g2, h⟩ := h
      obtain ⟨g3, h⟩ := h
      obtain ⟨g4, h⟩ := h
      obtain ⟨r_1, A_1, he, hr_1, hR_1, hp_1⟩ := S191 (A := A) (Nat.le_trans (by decide) hd) hΦ hR rr.2.2 ⟨g1, g2, g3, g4⟩
      have h := h r_1 A_1 hr_1 hR_1 hp_1
      refine p_callV (cc3 c192_58) (Nat.le_of_ble_eq_true rfl) rfl rfl (Nat.le_of_ble_eq_true rfl) (ml_kd hΦ) he ?_
      refine p_goto (cc3 c192_61) ?_
      refine id (α := Rg r_1 → _) (fun _ => ?_) hr_1; refine n_asti hΦ (c := 39) (n := 8) (ni := 8) (hv := rfl) (cct c192_66 rfl) (by decide) rfl rfl rfl (by decide) g3 ?_
      refine p_ild (cc3 c192_67) rfl ?_
      refine i_push (n := 5) (cc3 c192_68) zl_5 ?_
      obtain ⟨g5, h⟩ := h
      refine (fun _ : Rg (x2 * 5) => i_mul (cc3 c192_69) ?_) g5
      refine p_ist (ls' := [(2, .int (iz (x2 * 5))), (0, .ref m), (1, .int (iz x1)), (3, .int (iz x3))]) (cc3 c192_70) (by decide) rfl ?_
      obtain ⟨g6, h⟩ := h
      refine (fun _ : Rg (x3 + 1) => i_iinc (n := 1) (y := x3 + 1) (ls' := [(3, .int (iz (x3 + 1))), (2, .int (iz (x2 * 5))), (0, .ref m), (1, .int (iz x1))]) (cc3 c192_71) (by decide) rfl zl_1 (by first | rfl | omega) rfl ?_) g6
      refine p_goto (cc3 c192_74) ?_
      exact p_lc (ls' := [(0, .ref m), (1, .int (iz x1)), (2, .int (iz (x2 * 5))), (3, .int (iz (x3 + 1)))]) c192_34 rfl rfl h
    · have h := h.2 c
      refine i_push (n := 1000000) (cc3 c192_64) zl_1000000 ?_
      obtain ⟨g1, h⟩ := h
      refine id (α := Rg 1000000 → _) (fun _ => ?_) (by decide); refine n_asti hΦ (c := 39) (n := 8) (ni := 8) (hv := rfl) (cct c192_66 rfl) (by decide) rfl rfl rfl (by decide) g1 ?_
      refine p_ild (cc3 c192_67) rfl ?_
      refine i_push (n := 5) (cc3 c192_68) zl_5 ?_
      obtain ⟨g2, h⟩ := h
      refine (fun _ : Rg (x2 * 5) => i_mul (cc3 c192_69) ?_) g2
      refine p_ist (ls' := [(2, .int (iz (x2 * 5))), (0, .ref m), (1, .int (iz x1)), (3, .int (iz x3))]) (cc3 c192_70) (by decide) rfl ?_
      obtain ⟨g3, h⟩ := h
      refine (fun _ : Rg (x3 + 1) => i_iinc (n := 1) (y := x3 + 1) (ls' := [(3, .int (iz (x3 + 1))), (2, .int (iz (x2 * 5))), (0, .ref m), (1, .int (iz x1))]) (cc3 c192_71) (by decide) rfl zl_1 (by first | rfl | omega) rfl ?_) g3
      refine p_goto (cc3 c192_74) ?_
      exact p_lc (ls' := [(0, .ref m), (1, .int (iz x1)), (2, .int (iz (x2 * 5))), (3, .int (iz (x3 + 1)))]) c192_34 rfl rfl h
theorem V192_85 {d : Nat} (hd : 5 ≤ d) {Q : Option Value → xM → Prop} {m : Nat} {Φ : (Nat → Nat → Int32) → xM} (hΦ : MLaw m Φ) {A : Nat → Int → Int} (hR : RG A) {x1 x2 x3 x4 x5 : Int} (rr : Rg x1 ∧ Rg x2 ∧ Rg x3 ∧ Rg x4 ∧ Rg x5) (h : (((x2 ≤ x5) → Q (some (.int (iz x3))) (Φ (mI A))) ∧ (¬ (x2 ≤ x5) → (BoltsOK A) ∧ (0 ≤ A 0 13 ∧ A 0 13 ≤ 8) ∧ (0 ≤ x5 ∧ x5 ≤ 400000) ∧ (∀ k : Int, 0 ≤ k → k < A 0 13 → 0 ≤ A 39 k ∧ A 39 k ≤ 1000000) ∧ (∀ (r_1 : Int) (A_1 : Nat → Int → Int), Rg r_1 → RG A_1 → (Fr [40, 42] [62, 63] A A_1 ∧ (∀ k : Nat, (k : Int) < A 0 13 → A_1 40 k = (dgt (A 0 13).toNat (x5).toNat k : Nat)) ∧ (cuS (bdN A) (bdT x1) (dgt (A 0 13).toNat (x5).toNat) (bdL A) (A 0 13).toNat = none → r_1 = 0) ∧ ∀ l c bt, cuS (bdN A) (bdT x1) (dgt (A 0 13).toNat (x5).toNat) (bdL A) (A 0 13).toNat = some (l, c, bt) → r_1 = 1 ∧ A_1 0 62 = (c : Nat) ∧ A_1 0 63 = pc bt) → (((r_1 = 0) → (Rg (x5 + 1)) ∧ wpE (xT 192) (xev xT d) Q (85, [(0, .ref m), (1, .int (iz x1)), (2, .int (iz x2)), (3, .int (iz x3)), (4, .int (iz x4)), (5, .int (iz (x5 + 1)))], [], Φ (mI A_1))) ∧ (¬ (r_1 = 0) → ((((A_1 0 62) < x3) → (Rg (x5 + 1)) ∧ wpE (xT 192) (xev xT d) Q (85, [(0, .ref m), (1, .int (iz x1)), (2, .int (iz x2)), (3, .int (iz x3)), (4, .int (iz x4)), (5, .int (iz (x5 + 1)))], [], Φ (mI A_1))) ∧ (¬ ((A_1 0 62) < x3) → ((((A_1 0 62) = x3) → ((((A_1 0 63) < x4) → wpE (xT 192) (xev xT d) Q (143, [(0, .ref m), (1, .int (iz x1)), (2, .int (iz x2)), (3, .int (iz (A_1 0 62))), (4, .int (iz (A_1 0 63))), (5, .int (iz x5)), (6, .int (iz 0))], [], Φ (mI A_1))) ∧ (¬ ((A_1 0 63) < x4) → (Rg (x5 + 1)) ∧ wpE (xT 192) (xev xT d) Q (85, [(0, .ref m), (1, .int (iz x1)), (2, .int (iz x2)), (3, .int (iz x3)), (4, .int (iz x4)), (5, .int (iz (x5 + 1)))], [], Φ (mI A_1))))) ∧ (¬ ((A_1 0 62) = x3) → wpE (xT 192) (xev xT d) Q (143, [(0, .ref m), (1, .int (iz x1)), (2, .int (iz x2)), (3, .int (iz (A_1 0 62))), (4, .int (iz (A_1 0 63))), (5, .int (iz x5)), (6, .int (iz 0))], [], Φ (mI A_1)))))))))))) : wpE (xT 192) (xev xT d) Q (85, [(0, .ref m), (1, .int (iz x1)), (2, .int (iz x2)), (3, .int (iz x3)), (4, .int (iz x4)), (5, .int (iz x5))], [], Φ (mI A)) := by
  refine p_ild (cct c192_85 rfl) rfl ?_
  refine p_ild (cc3 c192_87) rfl ?_
  refine i_icmp (c' := x2 ≤ x5) (cc3 c192_88) (iz_le rr.2.1 rr.2.2.2.2) (fun c => ?_) (fun c => ?_)
  · have h := h.1 c
    refine p_ild (cc3 c192_200) rfl ?_
    exact p_ri (cc3 c192_201) trivial h
  · have h := h.2 c
    refine p_ald (cc3 c192_91) rfl ?_
    refine p_ild (cc3 c192_92) rfl ?_
    refine p_ild (cc3 c192_94) rfl ?_
    obtain ⟨g1, h⟩ := h
    obtain ⟨g2, h⟩ := h
    obtain ⟨g3, h⟩ := h
    obtain ⟨g4, h⟩ := h
    obtain ⟨r_1, A_1, he, hr_1, hR_1, hp_1⟩ := S193 (A := A) (Nat.le_trans (by decide) hd) hΦ hR ⟨rr.2.2.2.2, rr.1⟩ ⟨g1, g2, g3, g4⟩
    have h := h r_1 A_1 hr_1 hR_1 hp_1
    refine p_callV (cc3 c192_95) (Nat.le_of_ble_eq_true rfl) rfl rfl (Nat.le_of_ble_eq_true rfl) (ml_kd hΦ) he ?_
    refine i_if (c' := r_1 = 0) (cc3 c192_98) (c_eq0 hr_1) (fun c => ?_) (fun c => ?_)
    · have h := h.1 c
      obtain ⟨g5, h⟩ := h
      refine (fun _ : Rg (x5 + 1) => i_iinc (n := 1) (y := x5 + 1) (ls' := [(5, .int (iz (x5 + 1))), (0, .ref m), (1, .int (iz x1)), (2, .int (iz x2)), (3, .int (iz x3)), (4, .int (iz x4))]) (cct c192_194 rfl) (by decide) rfl zl_1 (by first | rfl | omega) rfl ?_) g5
      refine p_goto (cc3 c192_197) ?_
      exact p_lc (ls' := [(0, .ref m), (1, .int (iz x1)), (2, .int (iz x2)), (3, .int (iz x3)), (4, .int (iz x4)), (5, .int (iz (x5 + 1)))]) c192_85 rfl rfl h
    · have h := h.2 c
      refine p_ald (cc3 c192_101) rfl ?_
      refine n_geti hΦ (v := A_1 0 62) (cc3 c192_102) (ji := 62) rfl rfl ?_
      refine p_ild (cc3 c192_105) rfl ?_
      refine i_icmp (c' := (A_1 0 62) < x3) (cc3 c192_106) (iz_lt (hR_1 0 62) rr.2.2.1) (fun c => ?_) (fun c => ?_)
      · have h := h.1 c
        obtain ⟨g5, h⟩ := h
        refine (fun _ : Rg (x5 + 1) => i_iinc (n := 1) (y := x5 + 1) (ls' := [(5, .int (iz (x5 + 1))), (0, .ref m), (1, .int (iz x1)), (2, .int (iz x2)), (3, .int (iz x3)), (4, .int (iz x4))]) (cct c192_194 rfl) (by decide) rfl zl_1 (by first | rfl | omega) rfl ?_) g5
        refine p_goto (cc3 c192_197) ?_
        exact p_lc (ls' := [(0, .ref m), (1, .int (iz x1)), (2, .int (iz x2)), (3, .int (iz x3)), (4, .int (iz x4)), (5, .int (iz (x5 + 1)))]) c192_85 rfl rfl h
      · have h := h.2 c
        refine p_ald (cc3 c192_109) rfl ?_
        refine n_geti hΦ (v := A_1 0 62) (cc3 c192_110) (ji := 62) rfl rfl ?_
        refine p_ild (cc3 c192_113) rfl ?_
        refine i_icmp (c' := (A_1 0 62) = x3) (cc3 c192_114) (iz_inj (hR_1 0 62) rr.2.2.1) (fun c => ?_) (fun c => ?_)
        · have h := h.1 c
          refine p_ald (cc3 c192_117) rfl ?_
          refine n_geti hΦ (v := A_1 0 63) (cc3 c192_118) (ji := 63) rfl rfl ?_
          refine p_ild (cc3 c192_121) rfl ?_
          refine i_icmp (c' := (A_1 0 63) < x4) (cc3 c192_123) (iz_lt (hR_1 0 63) rr.2.2.2.1) (fun c => ?_) (fun c => ?_)
          · have h := h.1 c
            refine p_lc (ls' := [(0, .ref m), (1, .int (iz x1)), (2, .int (iz x2)), (5, .int (iz x5))]) c192_129 rfl rfl ?_
            refine p_ald (cct c192_129 rfl) rfl ?_
            refine n_geti hΦ (v := A_1 0 62) (cc3 c192_130) (ji := 62) rfl rfl ?_
            refine p_ist (ls' := [(3, .int (iz (A_1 0 62))), (0, .ref m), (1, .int (iz x1)), (2, .int (iz x2)), (5, .int (iz x5))]) (cc3 c192_133) (by decide) rfl ?_
            refine p_ald (cc3 c192_134) rfl ?_
            refine n_geti hΦ (v := A_1 0 63) (cc3 c192_135) (ji := 63) rfl rfl ?_
            refine p_ist (ls' := [(4, .int (iz (A_1 0 63))), (3, .int (iz (A_1 0 62))), (0, .ref m), (1, .int (iz x1)), (2, .int (iz x2)), (5, .int (iz x5))]) (cc3 c192_138) (by decide) rfl ?_
            refine i_push (n := 0) (cc3 c192_140) zl_0 ?_
            refine p_ist (ls' := [(6, .int (iz 0)), (4, .int (iz (A_1 0 63))), (3, .int (iz (A_1 0 62))), (0, .ref m), (1, .int (iz x1)), (2, .int (iz x2)), (5, .int (iz x5))]) (cc3 c192_141) (by decide) rfl ?_
            exact p_lc (ls' := [(0, .ref m), (1, .int (iz x1)), (2, .int (iz x2)), (3, .int (iz (A_1 0 62))), (4, .int (iz (A_1 0 63))), (5, .int (iz x5)), (6, .int (iz 0))]) c192_143 rfl rfl h
          · have h := h.2 c
            refine p_goto (cc3 c192_126) ?_
            obtain ⟨g5, h⟩ := h
            refine (fun _ : Rg (x5 + 1) => i_iinc (n := 1) (y := x5 + 1) (ls' := [(5, .int (iz (x5 + 1))), (0, .ref m), (1, .int (iz x1)), (2, .int (iz x2)), (3, .int (iz x3)), (4, .int (iz x4))]) (cct c192_194 rfl) (by decide) rfl zl_1 (by first | rfl | omega) rfl ?_) g5
            refine p_goto (cc3 c192_197) ?_
            exact p_lc (ls' := [(0, .ref m), (1, .int (iz x1)), (2, .int (iz x2)), (3, .int (iz x3)), (4, .int (iz x4)), (5, .int (iz (x5 + 1)))]) c192_85 rfl rfl h
        · have h := h.2 c
          refine p_lc (ls' := [(0, .ref m), (1, .int (iz x1)), (2, .int (iz x2)), (5, .int (iz x5))]) c192_129 rfl rfl ?_
          refine p_ald (cct c192_129 rfl) rfl ?_
          refine n_geti hΦ (v := A_1 0 62) (cc3 c192_130) (ji := 62) rfl rfl ?_
          refine p_ist (ls' := [(3, .int (iz (A_1 0 62))), (0, .ref m), (1, .int (iz x1)), (2, .int (iz x2)), (5, .int (iz x5))]) (cc3 c192_133) (by decide) rfl ?_
          refine p_ald (cc3 c192_134) rfl ?_
          refine n_geti hΦ (v := A_1 0 63) (cc3 c192_135) (ji := 63) rfl rfl ?_
          refine p_ist (ls' := [(4, .int (iz (A_1 0 63))), (3, .int (iz (A_1 0 62))), (0, .ref m), (1, .int (iz x1)), (2, .int (iz x2)), (5, .int (iz x5))]) (cc3 c192_138) (by decide) rfl ?_
          refine i_push (n := 0) (cc3 c192_140) zl_0 ?_
          refine p_ist (ls' := [(6, .int (iz 0)), (4, .int (iz (A_1 0 63))), (3, .int (iz (A_1 0 62))), (0, .ref m), (1, .int (iz x1)), (2, .int (iz x2)), (5, .int (iz x5))]) (cc3 c192_141) (by decide) rfl ?_
          exact p_lc (ls' := [(0, .ref m), (1, .int (iz x1)), (2, .int (iz x2)), (3, .int (iz (A_1 0 62))), (4, .int (iz (A_1 0 63))), (5, .int (iz x5)), (6, .int (iz 0))]) c192_143 rfl rfl h
theorem V192_143 {d : Nat} (hd : 5 ≤ d) {Q : Option Value → xM → Prop} {m : Nat} {Φ : (Nat → Nat → Int32) → xM} (hΦ : MLaw m Φ) {A : Nat → Int → Int} (hR : RG A) {x1 x2 x3 x4 x5 x6 : Int} (rr : Rg x1 ∧ Rg x2 ∧ Rg x3 ∧ Rg x4 ∧ Rg x5 ∧ Rg x6) (h : (((8 ≤ x6) → (Rg (x5 + 1)) ∧ wpE (xT 192) (xev xT d) Q (85, [(0, .ref m), (1, .int (iz x1)), (2, .int (iz x2)), (3, .int (iz x3)), (4, .int (iz x4)), (5, .int (iz (x5 + 1)))], [], Φ (mI A))) ∧ (¬ (8 ≤ x6) → ((((A 0 13) ≤ x6) → (0 ≤ x6 ∧ x6 < 8) ∧ (Rg (x6 + 1)) ∧ wpE (xT 192) (xev xT d) Q (143, [(0, .ref m), (1, .int (iz x1)), (2, .int (iz x2)), (3, .int (iz x3)), (4, .int (iz x4)), (5, .int (iz x5)), (6, .int (iz (x6 + 1)))], [], Φ (mI (UA A 41 x6 (-1))))) ∧ (¬ ((A 0 13) ≤ x6) → (0 ≤ x6 ∧ x6 < 8) ∧ (((4 ≤ (A 40 x6)) → (Rg (x6 + 1)) ∧ wpE (xT 192) (xev xT d) Q (143, [(0, .ref m), (1, .int (iz x1)), (2, .int (iz x2)), (3, .int (iz x3)), (4, .int (iz x4)), (5, .int (iz x5)), (6, .int (iz (x6 + 1)))], [], Φ (mI (UA A 41 x6 (-1))))) ∧ (¬ (4 ≤ (A 40 x6)) → (Rg (x6 + 1)) ∧ wpE (xT 192) (xev xT d) Q (143, [(0, .ref m), (1, .int (iz x1)), (2, .int (iz x2)), (3, .int (iz x3)), (4, .int (iz x4)), (5, .int (iz x5)), (6, .int (iz (x6 + 1)))], [], Φ (mI (UA A 41 x6 (A 40 x6))))))))))) : wpE (xT 192) (xev xT d) Q (143, [(0, .ref m), (1, .int (iz x1)), (2, .int (iz x2)), (3, .int (iz x3)), (4, .int (iz x4)), (5, .int (iz x5)), (6, .int (iz x6))], [], Φ (mI A)) := by
  refine p_ild (cct c192_143 rfl) rfl ?_
  refine i_push (n := 8) (cc3 c192_145) zl_8 ?_
  refine i_icmp (c' := 8 ≤ x6) (cc3 c192_147) (iz_le (by decide) rr.2.2.2.2.2) (fun c => ?_) (fun c => ?_)
  · have h := h.1 c
    refine p_lc (ls' := [(0, .ref m), (1, .int (iz x1)), (2, .int (iz x2)), (3, .int (iz x3)), (4, .int (iz x4)), (5, .int (iz x5))]) c192_194 rfl rfl ?_
    obtain ⟨g1, h⟩ := h
    refine (fun _ : Rg (x5 + 1) => i_iinc (n := 1) (y := x5 + 1) (ls' := [(5, .int (iz (x5 + 1))), (0, .ref m), (1, .int (iz x1)), (2, .int (iz x2)), (3, .int (iz x3)), (4, .int (iz x4))]) (cct c192_194 rfl) (by decide) rfl zl_1 (by first | rfl | omega) rfl ?_) g1
    refine p_goto (cc3 c192_197) ?_
    exact p_lc (ls' := [(0, .ref m), (1, .int (iz x1)), (2, .int (iz x2)), (3, .int (iz x3)), (4, .int (iz x4)), (5, .int (iz (x5 + 1)))]) c192_85 rfl rfl h
  · have h := h.2 c
    refine p_ald (cc3 c192_150) rfl ?_
    refine pm_getp hΦ (cc3 c192_151) (c := 41) rfl (by decide) ?_
    refine p_ild (cc3 c192_154) rfl ?_
    refine p_ild (cc3 c192_156) rfl ?_
    refine p_ald (cc3 c192_158) rfl ?_
    refine n_geti hΦ (v := A 0 13) (cc3 c192_159) (ji := 13) rfl rfl ?_
    refine i_icmp (c' := (A 0 13) ≤ x6) (cc3 c192_162) (iz_le (hR 0 13) rr.2.2.2.2.2) (fun c => ?_) (fun c => ?_)
    · have h := h.1 c
      refine i_push (n := (-1)) (cct c192_186 rfl) zl_m1 ?_
      obtain ⟨g1, h⟩ := h
      refine id (α := Rg (-1) → _) (fun _ => ?_) (by decide); refine n_asti hΦ (c := 41) (n := 8) (ni := 8) (hv := rfl) (cct c192_187 rfl) (by decide) rfl rfl rfl (by decide) g1 ?_
      obtain ⟨g2, h⟩ := h
      refine (fun _ : Rg (x6 + 1) => i_iinc (n := 1) (y := x6 + 1) (ls' := [(6, .int (iz (x6 + 1))), (0, .ref m), (1, .int (iz x1)), (2, .int (iz x2)), (3, .int (iz x3)), (4, .int (iz x4)), (5, .int (iz x5))]) (cc3 c192_188) (by decide) rfl zl_1 (by first | rfl | omega) rfl ?_) g2
      refine p_goto (cc3 c192_191) ?_
      exact p_lc (ls' := [(0, .ref m), (1, .int (iz x1)), (2, .int (iz x2)), (3, .int (iz x3)), (4, .int (iz x4)), (5, .int (iz x5)), (6, .int (iz (x6 + 1)))]) c192_143 rfl rfl h
    · have h := h.2 c
      refine p_ald (cc3 c192_165) rfl ?_
      refine pm_getp hΦ (cc3 c192_166) (c := 40) rfl (by decide) ?_
      refine p_ild (cc3 c192_169) rfl ?_
      obtain ⟨g1, h⟩ := h
      refine n_aldi hΦ (c := 40) (n := 8) (ni := 8) (cc3 c192_171) (by decide) rfl rfl rfl (by decide) g1 (v := A 40 x6) rfl ?_
      refine i_push (n := 4) (cc3 c192_172) zl_4 ?_
      refine i_icmp (c' := 4 ≤ (A 40 x6)) (cc3 c192_173) (iz_le (by decide) (hR 40 x6)) (fun c => ?_) (fun c => ?_)
      · have h := h.1 c
        refine i_push (n := (-1)) (cct c192_186 rfl) zl_m1 ?_
        refine id (α := Rg (-1) → _) (fun _ => ?_) (by decide); refine n_asti hΦ (c := 41) (n := 8) (ni := 8) (hv := rfl) (cct c192_187 rfl) (by decide) rfl rfl rfl (by decide) g1 ?_
        obtain ⟨g2, h⟩ := h
        refine (fun _ : Rg (x6 + 1) => i_iinc (n := 1) (y := x6 + 1) (ls' := [(6, .int (iz (x6 + 1))), (0, .ref m), (1, .int (iz x1)), (2, .int (iz x2)), (3, .int (iz x3)), (4, .int (iz x4)), (5, .int (iz x5))]) (cc3 c192_188) (by decide) rfl zl_1 (by first | rfl | omega) rfl ?_) g2
        refine p_goto (cc3 c192_191) ?_
        exact p_lc (ls' := [(0, .ref m), (1, .int (iz x1)), (2, .int (iz x2)), (3, .int (iz x3)), (4, .int (iz x4)), (5, .int (iz x5)), (6, .int (iz (x6 + 1)))]) c192_143 rfl rfl h
      · have h := h.2 c
        refine p_ald (cc3 c192_176) rfl ?_
        refine pm_getp hΦ (cc3 c192_177) (c := 40) rfl (by decide) ?_
        refine p_ild (cc3 c192_180) rfl ?_
        refine n_aldi hΦ (c := 40) (n := 8) (ni := 8) (cc3 c192_182) (by decide) rfl rfl rfl (by decide) g1 (v := A 40 x6) rfl ?_
        refine p_goto (cc3 c192_183) ?_
        refine id (α := Rg (A 40 x6) → _) (fun _ => ?_) (hR 40 x6); refine n_asti hΦ (c := 41) (n := 8) (ni := 8) (hv := rfl) (cct c192_187 rfl) (by decide) rfl rfl rfl (by decide) g1 ?_
        obtain ⟨g2, h⟩ := h
        refine (fun _ : Rg (x6 + 1) => i_iinc (n := 1) (y := x6 + 1) (ls' := [(6, .int (iz (x6 + 1))), (0, .ref m), (1, .int (iz x1)), (2, .int (iz x2)), (3, .int (iz x3)), (4, .int (iz x4)), (5, .int (iz x5))]) (cc3 c192_188) (by decide) rfl zl_1 (by first | rfl | omega) rfl ?_) g2
        refine p_goto (cc3 c192_191) ?_
        exact p_lc (ls' := [(0, .ref m), (1, .int (iz x1)), (2, .int (iz x2)), (3, .int (iz x3)), (4, .int (iz x4)), (5, .int (iz x5)), (6, .int (iz (x6 + 1)))]) c192_143 rfl rfl h

theorem L192c {d : Nat} (hd : 5 ≤ d) {Q : Option Value → xM → Prop} {m : Nat} {Φ : (Nat → Nat → Int32) → xM} (hΦ : MLaw m Φ) {A0 : Nat → Int → Int} {x1 x2 x3 x4 x5 : Int} {N : Nat} {a : Nat → Nat} (hN : N ≤ 8) (e13 : A0 0 13 = N) (rr : Rg x1 ∧ Rg x2 ∧ Rg x3 ∧ Rg x4 ∧ Rg x5) (h5 : x5 ≤ 400000) (ha : ∀ k, a k < 5)
    (hQ : ∀ A', RG A' → BFr A0 A' → A' 39 = A0 39 → (∀ k : Nat, k < 8 → A' 41 k = if k < N ∧ a k < 4 then ((a k : Nat) : Int) else -1) → wpE (xT 192) (xev xT d) Q (85, [(0, .ref m), (1, .int (iz x1)), (2, .int (iz x2)), (3, .int (iz x3)), (4, .int (iz x4)), (5, .int (iz (x5 + 1)))], [], Φ (mI A'))) :
    ∀ (r k : Nat) (A : Nat → Int → Int), k + r = 8 → RG A → BFr A0 A → A 39 = A0 39 → (∀ k : Nat, k < N → A 40 k = (a k : Nat)) → (∀ q : Nat, q < k → A 41 q = if q < N ∧ a q < 4 then ((a q : Nat) : Int) else -1) → wpE (xT 192) (xev xT d) Q (143, [(0, .ref m), (1, .int (iz x1)), (2, .int (iz x2)), (3, .int (iz x3)), (4, .int (iz x4)), (5, .int (iz x5)), (6, .int (iz (k : Int)))], [], Φ (mI A)) := by
  intro r
  induction r with
  | zero =>
    intro k A hk hR hF h39 h40 h41
    refine V192_143 hd hΦ hR (by omega) ?_
    exact ⟨fun _ => ⟨by omega, hQ A hR hF h39 (fun q hq => h41 q (by omega))⟩, fun h => absurd (show (8 : Int) ≤ k by omega) h⟩
  | succ r ih =>
    intro k A hk hR hF h39 h40 h41
    have e : A 0 13 = N := by rw [hF.fld (by omega)]; exact e13
    have hak := ha k
    have hgo : ∀ v : Int, v = (if k < N ∧ a k < 4 then ((a k : Nat) : Int) else -1) → wpE (xT 192) (xev xT d) Q (143, [(0, .ref m), (1, .int (iz x1)), (2, .int (iz x2)), (3, .int (iz x3)), (4, .int (iz x4)), (5, .int (iz x5)), (6, .int (iz ((k : Int) + 1)))], [], Φ (mI (UA A 41 k v))) := fun v hv => by
      refine ih (k + 1) _ (by omega) (rg_UA hR (by rw [hv]; split <;> omega)) (hF.w (by omega)) (by rw [← h39]; funext i; exact UA_c (by decide)) (fun q hq => by rw [UA_c (by decide)]; exact h40 q hq) (fun q hq => ?_)
      by_cases e2 : q = k
      · subst e2; rw [UA_eq]; exact hv
      · rw [UA_j (by omega)]; exact h41 q (by omega)
    refine V192_143 hd hΦ hR (by omega) ?_
    rw [e]
    refine ⟨fun h => absurd h (by omega), fun _ => ⟨fun c => ⟨by omega, by omega, hgo _ (by rw [if_neg (by omega)])⟩, fun c => ?_⟩⟩
    rw [h40 k (by omega)]
    exact ⟨by omega, fun c2 => ⟨by omega, hgo _ (by rw [if_neg (by omega)])⟩, fun c2 => ⟨by omega, hgo _ (by rw [if_pos (by omega)])⟩⟩
theorem L192b {d : Nat} (hd : 5 ≤ d) {Q : Option Value → xM → Prop} {m : Nat} {Φ : (Nat → Nat → Int32) → xM} (hΦ : MLaw m Φ) {A0 : Nat → Int → Int} {set x2 : Int} {N : Nat} {f0 : Nat → Int} (hN : N ≤ 8) (e13 : A0 0 13 = N) (hB : BoltsOK A0) (rs : Rg set) {W : Nat} (hW : W ≤ 390625) (h2 : x2 = (W : Int)) (hn : ∀ k : Int, 0 ≤ k → k < A0 0 13 → 0 ≤ A0 39 k ∧ A0 39 k ≤ 1000000)
    (hQ : ∀ A', RG A' → BFr A0 A' → (∀ k : Nat, k < 8 → A' 41 k = (bdB (bdN A0) (bdT set) (bdL A0) N f0 W).2.2 k) → Q (some (.int (iz (bdB (bdN A0) (bdT set) (bdL A0) N f0 W).1))) (Φ (mI A'))) :
    ∀ (r w : Nat) (A : Nat → Int → Int), w + r = W → RG A → BFr A0 A → A 39 = A0 39 → (-1 ≤ (bdB (bdN A0) (bdT set) (bdL A0) N f0 w).1 ∧ (bdB (bdN A0) (bdT set) (bdL A0) N f0 w).1 ≤ 8 ∧ 0 ≤ (bdB (bdN A0) (bdT set) (bdL A0) N f0 w).2.1 ∧ (bdB (bdN A0) (bdT set) (bdL A0) N f0 w).2.1 ≤ 4) → (∀ k : Nat, k < 8 → A 41 k = (bdB (bdN A0) (bdT set) (bdL A0) N f0 w).2.2 k) →
      wpE (xT 192) (xev xT d) Q (85, [(0, .ref m), (1, .int (iz set)), (2, .int (iz x2)), (3, .int (iz (bdB (bdN A0) (bdT set) (bdL A0) N f0 w).1)), (4, .int (iz (bdB (bdN A0) (bdT set) (bdL A0) N f0 w).2.1)), (5, .int (iz (w : Int)))], [], Φ (mI A)) := by
  intro r
  induction r with
  | zero =>
    intro w A hw hR hF h39 hb h41
    have e : w = W := by omega
    subst e
    refine V192_85 hd hΦ hR (by omega) ?_
    exact ⟨fun _ => hQ A hR hF h41, fun h => absurd (show x2 ≤ (w : Int) by omega) h⟩
  | succ r ih =>
    intro w A hw hR hF h39 hb h41
    have e : A 0 13 = N := by rw [hF.fld (by omega)]; exact e13
    have hBA := hF.bolts hB
    have ebn : bdN A = bdN A0 := by unfold bdN; rw [e, e13, h39]
    have ebl : bdL A = bdL A0 := by
      funext b
      unfold bdL
      rw [hF.fld (by omega), hF.row (c := 7) (by decide) (by decide)]
      have := hB.1
      by_cases c : (b : Int) < A0 0 8 ∧ A0 7 b = 0
      · rw [if_pos c, if_pos c, hF.i8 (Or.inl rfl) (by omega)]
      · rw [if_neg c, if_neg c]
    have hnA : ∀ k : Int, 0 ≤ k → k < A 0 13 → 0 ≤ A 39 k ∧ A 39 k ≤ 1000000 := fun k k1 k2 => by rw [h39]; exact hn k k1 (by omega)
    have estep : bdB (bdN A0) (bdT set) (bdL A0) N f0 (w + 1) = match cuS (bdN A0) (bdT set) (dgt N w) (bdL A0) N with
      | none => bdB (bdN A0) (bdT set) (bdL A0) N f0 w
      | some (_, c, bt) => if (bdB (bdN A0) (bdT set) (bdL A0) N f0 w).1 < c ∨ ((c : Int) = (bdB (bdN A0) (bdT set) (bdL A0) N f0 w).1 ∧ pc bt < (bdB (bdN A0) (bdT set) (bdL A0) N f0 w).2.1) then ((c : Int), pc bt, fun k => if k < N ∧ dgt N w k < 4 then ((dgt N w k : Nat) : Int) else -1) else bdB (bdN A0) (bdT set) (bdL A0) N f0 w := rfl
    have ih' := fun A' => ih (w + 1) A' (by omega)
    generalize hq : bdB (bdN A0) (bdT set) (bdL A0) N f0 w = q at hb h41 estep ⊢
    refine V192_85 hd hΦ hR (by omega) ?_
    refine ⟨fun h => absurd h (by omega), fun _ => ⟨hBA, by omega, by omega, hnA, fun r1 A1 hr1 hR1 hp1 => ?_⟩⟩
    obtain ⟨f1, f2, f3, f4⟩ := hp1
    rw [ebn, ebl, e] at f3 f4
    have hF1 : BFr A0 A1 := hF.tr (fun c j hc => by
      by_cases c0 : c = 0
      · subst c0; exact f1.2 j (by unfold bfRows at hc; simp; omega)
      · exact congrFun (f1.1 c (by unfold bfRows at hc; simp; omega) c0) j)
    have h391 : A1 39 = A0 39 := by rw [f1.1 39 (by decide) (by decide)]; exact h39
    have h411 : ∀ k : Nat, k < 8 → A1 41 k = q.2.2 k := fun k hk => by rw [f1.1 41 (by decide) (by decide)]; exact h41 k hk
    cases hc : cuS (bdN A0) (bdT set) (dgt N w) (bdL A0) N with
    | none =>
      rw [hc] at estep
      refine ⟨fun _ => ⟨by omega, ?_⟩, fun h => absurd (f3 hc) h⟩
      have := ih' A1 hR1 hF1 h391 (by rw [estep]; exact hb) (by rw [estep]; exact h411)
      rw [estep] at this
      exact this
    | some v =>
      obtain ⟨l, c, bt⟩ := v
      rw [hc] at estep
      obtain ⟨g1, g2, g3⟩ := f4 l c bt hc
      have hpc := pc_b (bt := bt)
      have hnn : ∀ k : Nat, 0 ≤ bdN A0 k := fun k => by unfold bdN; split; exact (hn k (by omega) (by assumption)).1; exact Int.le_refl 0
      have hcb := (cuS_b (fun k => dgt_5) (bdL_b hB) hnn N hc).2.1
      rw [g2, g3]
      have hkeep : ¬ (q.1 < c ∨ ((c : Int) = q.1 ∧ pc bt < q.2.1)) → wpE (xT 192) (xev xT d) Q (85, [(0, .ref m), (1, .int (iz set)), (2, .int (iz x2)), (3, .int (iz q.1)), (4, .int (iz q.2.1)), (5, .int (iz ((w : Int) + 1)))], [], Φ (mI A1)) := fun h => by
        have es : bdB (bdN A0) (bdT set) (bdL A0) N f0 (w + 1) = q := by rw [estep]; exact if_neg h
        have := ih' A1 hR1 hF1 h391 (by rw [es]; exact hb) (by rw [es]; exact h411)
        rw [es] at this
        exact this
      have hnew : (q.1 < c ∨ ((c : Int) = q.1 ∧ pc bt < q.2.1)) → wpE (xT 192) (xev xT d) Q (143, [(0, .ref m), (1, .int (iz set)), (2, .int (iz x2)), (3, .int (iz (c : Int))), (4, .int (iz (pc bt))), (5, .int (iz (w : Int))), (6, .int (iz 0))], [], Φ (mI A1)) := fun h => by
        have es : bdB (bdN A0) (bdT set) (bdL A0) N f0 (w + 1) = ((c : Int), pc bt, fun k => if k < N ∧ dgt N w k < 4 then ((dgt N w k : Nat) : Int) else -1) := by rw [estep]; exact if_pos h
        refine L192c hd hΦ (A0 := A0) (a := dgt N w) hN e13 (by omega) (by omega) (fun k => dgt_5) (fun A' hR' hF' h39' h41' => ?_) 8 0 A1 rfl hR1 hF1 h391 (fun k hk => by
          have := f2 k (by omega)
          rw [e] at this
          exact this) (fun k hk => absurd hk (by omega))
        have := ih' A' hR' hF' h39' (by rw [es]; exact ⟨by show -1 ≤ (c : Int); omega, by show (c : Int) ≤ 8; omega, hpc.1, hpc.2⟩) (by rw [es]; exact h41')
        rw [es] at this
        exact this
      refine ⟨fun h => by omega, fun _ => ⟨fun c1 => ⟨by omega, hkeep (by omega)⟩, fun c1 => ⟨fun c2 => ⟨fun c3 => hnew (by omega), fun c3 => ⟨by omega, hkeep (by omega)⟩⟩, fun c2 => hnew (by omega)⟩⟩⟩
theorem iand_1 {x : Int} : iand x 1 = 0 ∨ iand x 1 = 1 := by
  have e : (iz x &&& iz 1).toBitVec = (iz x).toBitVec &&& 1#32 := rfl
  have e2 : ((iz x).toBitVec &&& 1#32).toNat = (iz x).toBitVec.toNat % 2 := by rw [BitVec.toNat_and]; exact Nat.and_one_is_mod _
  have e3 : iand x 1 = (((iz x).toBitVec &&& 1#32)).toInt := rfl
  have e4 : ((iz x).toBitVec &&& 1#32).toInt = (((iz x).toBitVec &&& 1#32).toNat : Int) := BitVec.toInt_eq_toNat_of_lt (by rw [e2]; omega)
  rw [e3, e4, e2]; omega
theorem L192a {d : Nat} (hd : 5 ≤ d) {Q : Option Value → xM → Prop} {m : Nat} {Φ : (Nat → Nat → Int32) → xM} (hΦ : MLaw m Φ) {A0 : Nat → Int → Int} {set : Int} {N : Nat} (hN : N ≤ 8) (e13 : A0 0 13 = N) (rs : Rg set) (hS : SettsOK A0) (hK : ∀ k : Int, 0 ≤ k → k < N → KiltOK A0 k) (h0 : 0 < A0 0 2)
    (hQ : ∀ A', RG A' → BFr A0 A' → A' 41 = A0 41 → (∀ k : Nat, k < N → A' 39 k = bdNd A0 set k) → wpE (xT 192) (xev xT d) Q (85, [(0, .ref m), (1, .int (iz set)), (2, .int (iz ((5 ^ N : Nat) : Int))), (3, .int (iz (-1))), (4, .int (iz 0)), (5, .int (iz 0))], [], Φ (mI A'))) :
    ∀ (r k : Nat) (A : Nat → Int → Int), k + r = N → RG A → BFr A0 A → A 41 = A0 41 → (∀ q : Nat, q < k → A 39 q = bdNd A0 set q) → wpE (xT 192) (xev xT d) Q (34, [(0, .ref m), (1, .int (iz set)), (2, .int (iz ((5 ^ k : Nat) : Int))), (3, .int (iz (k : Int)))], [], Φ (mI A)) := by
  have hp5 : ∀ k : Nat, k ≤ 8 → 0 ≤ ((5 ^ k : Nat) : Int) ∧ ((5 ^ k : Nat) : Int) ≤ 390625 := fun k hk => ⟨Int.natCast_nonneg _, by have := pow5_b k (by omega); exact Int.ofNat_le.mpr this⟩
  intro r
  induction r with
  | zero =>
    intro k A hk hR hF h41 h39
    have e : k = N := by omega
    subst e
    have hp := hp5 k hN
    generalize ((5 ^ k : Nat) : Int) = W at hp hQ ⊢
    refine V192_34 hd hΦ hR (by omega) ?_
    rw [hF.fld (j := 13) (by omega), e13]
    exact ⟨fun _ => hQ A hR hF h41 h39, fun h => absurd (Int.le_refl (k : Int)) h⟩
  | succ r ih =>
    intro k A hk hR hF h41 h39
    have e : A 0 13 = N := by rw [hF.fld (by omega)]; exact e13
    have hp := hp5 k (by omega)
    have hk1 := hK k (by omega) (by omega)
    have ih' := ih (k + 1)
    have e5 : ((5 ^ (k + 1) : Nat) : Int) = ((5 ^ k : Nat) : Int) * 5 := by rw [Nat.pow_succ]; rfl
    rw [e5] at ih'
    generalize ((5 ^ k : Nat) : Int) = W at hp ih' ⊢
    have hgo : ∀ A1 : Nat → Int → Int, RG A1 → BFr A0 A1 → A1 41 = A0 41 → A1 39 = A 39 → ∀ v, Rg v → v = bdNd A0 set k → wpE (xT 192) (xev xT d) Q (34, [(0, .ref m), (1, .int (iz set)), (2, .int (iz (W * 5))), (3, .int (iz ((k : Int) + 1)))], [], Φ (mI (UA A1 39 k v))) := fun A1 hR1 hF1 q41 q39 v hv he => by
      refine ih' _ (by omega) (rg_UA hR1 hv) (hF1.w (by omega)) (by rw [← q41]; funext i; exact UA_c (by decide)) (fun q hq => ?_)
      by_cases c : q = k
      · subst c; rw [UA_eq]; exact he
      · rw [UA_j (by omega), q39]; exact h39 q (by omega)
    have en : bdNd A0 set k = if iand (ishr set k) 1 = 1 then m_need A0 k else 1000000 := by unfold bdNd; rw [if_pos (by omega)]
    refine V192_34 hd hΦ hR (by omega) ?_
    rw [e]
    refine ⟨fun h => absurd h (by omega), fun _ => ⟨fun c => ⟨by rw [hF.fld (by omega)]; exact h0, hF.setts hS, by omega, KiltOK_c (fun c hc => hF.row (by revert hc; simp; omega) (by revert hc; simp; omega)) hk1, fun r1 A1 hr1 hR1 hp1 => ⟨by omega, by omega, ?_⟩⟩, fun c => ⟨by omega, by omega, by omega, ?_⟩⟩⟩
    · refine hgo A1 hR1 (hF.tr hp1.2.b) ?_ ?_ r1 hr1 (by rw [en, if_pos c, hp1.1, hF.need])
      · rw [← h41]; funext i; exact hp1.2 41 i (by unfold ndRows; omega)
      · funext i; exact hp1.2 39 i (by unfold ndRows; omega)
    · exact hgo A hR hF h41 rfl _ (by decide) (by rw [en, if_neg c])

theorem S192 {d : Nat} (hd : 6 ≤ d) {m : Nat} {Φ : (Nat → Nat → Int32) → xM} (hΦ : MLaw m Φ) {A : Nat → Int → Int} (hR : RG A) {x1 : Int} (rr : Rg x1) (hp : (SettsOK A) ∧ (BoltsOK A) ∧ (KiltsOK A)) : ∃ (r : Int) (A' : Nat → Int → Int), xev xT d 192 [.ref m, .int (iz x1)] (Φ (mI A)) (some (.int (iz r))) (Φ (mI A')) ∧ Rg r ∧ RG A' ∧ ((¬ (0 ≤ x1 ∧ x1 ≤ ishl 1 (A 0 13) - 1) → r = -2 ∧ A' = A) ∧ ((0 ≤ x1 ∧ x1 ≤ ishl 1 (A 0 13) - 1) → (A 0 2 = 0 → r = -3 ∧ A' = A) ∧ (¬ A 0 2 = 0 → BFr A A' ∧ r = (bdR A x1).1 ∧ ∀ k : Nat, k < 8 → A' 41 k = (bdR A x1).2.2 k))) := by
  refine xev_g (i := 192) (as := [.ref m, .int (iz x1)]) (σ := Φ (mI A)) (Q := fun r_ σ_ => ∃ (r : Int) (A' : Nat → Int → Int), r_ = (some (.int (iz r))) ∧ σ_ = Φ (mI A') ∧ Rg r ∧ RG A' ∧ ((¬ (0 ≤ x1 ∧ x1 ≤ ishl 1 (A 0 13) - 1) → r = -2 ∧ A' = A) ∧ ((0 ≤ x1 ∧ x1 ≤ ishl 1 (A 0 13) - 1) → (A 0 2 = 0 → r = -3 ∧ A' = A) ∧ (¬ A 0 2 = 0 → BFr A A' ∧ r = (bdR A x1).1 ∧ ∀ k : Nat, k < 8 → A' 41 k = (bdR A x1).2.2 k)))) (D := 5) hd (Nat.le_of_ble_eq_true rfl) (fun r_ σ_ he hq => ?_) (fun d hd => V192_0 hd hΦ hR rr ?_)
  · obtain ⟨r, A', rfl, rfl, hq⟩ := hq
    exact ⟨r, A', he, hq⟩

  obtain ⟨hS, hB, hK⟩ := hp
  have hS0 := hS.1
  have hK0 := hK.1
  obtain ⟨N, hNe⟩ : ∃ N : Nat, A 0 13 = N := ⟨(A 0 13).toNat, by omega⟩
  have e2 := ishl_2 N (by omega)
  have hp2 : (2 ^ N : Nat) ≤ 256 := by
    have : ∀ N : Nat, N < 9 → 2 ^ N ≤ 256 := by decide
    exact this N (by omega)
  have hi : 0 ≤ ishl 1 (A 0 13) ∧ ishl 1 (A 0 13) ≤ 256 := by
    rw [hNe, e2]; exact ⟨Int.natCast_nonneg _, Int.ofNat_le.mpr hp2⟩
  refine ⟨by omega, fun h => ?_, fun h => ⟨fun h2 => ?_, fun h2 => ?_⟩⟩
  · exact ⟨-2, A, rfl, rfl, by decide, hR, fun _ => ⟨rfl, rfl⟩, fun q => absurd q h⟩
  · exact ⟨-3, A, rfl, rfl, by decide, hR, fun q => absurd h q, fun _ => ⟨fun _ => ⟨rfl, rfl⟩, fun q => absurd h2 q⟩⟩
  have hkk : ∀ k : Int, 0 ≤ k → k < N → KiltOK A k := fun k k1 k2 => (hK.2 k k1 (by omega)).1
  have h02 : 0 < A 0 2 := by omega
  refine L192a hd hΦ (A0 := A) (by omega) hNe rr hS hkk h02 (fun A1 hR1 hF1 h41 h39 => ?_) N 0 A (by omega) hR BFr.rf rfl (fun q hq => absurd hq (by omega))
  have e131 : A1 0 13 = N := by rw [hF1.fld (by omega)]; exact hNe
  have ebn : bdN A1 = bdNd A x1 := by
    funext k
    unfold bdN
    rw [e131]
    by_cases c : (k : Int) < N
    · rw [if_pos c]; exact h39 k (by omega)
    · rw [if_neg c]; unfold bdNd; rw [hNe, if_neg c]
  have ebl : bdL A1 = bdL A := by
    funext b
    unfold bdL
    rw [hF1.fld (by omega), hF1.row (c := 7) (by decide) (by decide)]
    have := hB.1
    by_cases c : (b : Int) < A 0 8 ∧ A 7 b = 0
    · rw [if_pos c, if_pos c, hF1.i8 (Or.inl rfl) (by omega)]
    · rw [if_neg c, if_neg c]
  have hnb : ∀ k : Int, 0 ≤ k → k < A1 0 13 → 0 ≤ A1 39 k ∧ A1 39 k ≤ 1000000 := fun k k1 k2 => by
    rw [e131] at k2
    have e := h39 k.toNat (by omega)
    rw [show ((k.toNat : Nat) : Int) = k by omega] at e
    rw [e]
    unfold bdNd
    rw [show ((k.toNat : Nat) : Int) = k by omega, hNe, if_pos k2]
    split
    · exact m_need_b (hS.2 0 (Int.le_refl 0) h02) (hkk k k1 k2) (by omega)
    · omega
  refine L192b hd hΦ (A0 := A1) (N := N) (f0 := fun k => A 41 k) (by omega) e131 (hF1.bolts hB) rr (pow5_b N (by omega)) rfl hnb (fun A' hR' hF' h41' => ?_) (5 ^ N) 0 A1 (by omega) hR1 BFr.rf rfl ⟨show (-1 : Int) ≤ -1 by decide, show (-1 : Int) ≤ 8 by decide, show (0 : Int) ≤ 0 by decide, show (0 : Int) ≤ 4 by decide⟩ (fun k _ => by rw [h41]; rfl)
  rw [ebn, ebl] at h41' ⊢
  have eR : bdR A x1 = bdB (bdNd A x1) (bdT x1) (bdL A) N (fun k => A 41 k) (5 ^ N) := by unfold bdR; rw [hNe]; rfl
  refine ⟨_, A', rfl, rfl, ?_, hR', fun q => absurd h q, fun _ => ⟨fun q => absurd q h2, fun _ => ⟨hF1.tr hF', by rw [eR], fun k hk => by rw [eR]; exact h41' k hk⟩⟩⟩
  have hb : ∀ w : Nat, -1 ≤ (bdB (bdNd A x1) (bdT x1) (bdL A) N (fun k => A 41 k) w).1 ∧ (bdB (bdNd A x1) (bdT x1) (bdL A) N (fun k => A 41 k) w).1 ≤ N := fun w => by
    induction w with
    | zero => exact ⟨Int.le_refl _, by show (-1 : Int) ≤ N; omega⟩
    | succ w ih =>
      unfold bdB
      split
      · exact ih
      · rename_i l c bt hc
        split
        · have hnn : ∀ k : Nat, 0 ≤ bdNd A x1 k := fun k => by
            rw [← ebn]; unfold bdN; split
            · rename_i q; exact (hnb k (by omega) q).1
            · exact Int.le_refl 0
          have := (cuS_b (fun k => dgt_5) (bdL_b hB) hnn N hc).2.1
          exact ⟨by show -1 ≤ (c : Int); omega, by show (c : Int) ≤ N; omega⟩
        · exact ih
  have := hb (5 ^ N)
  omega
