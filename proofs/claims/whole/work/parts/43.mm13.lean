/-! THE CUTTING -/
def bOr (bt b : Nat) : Nat := if bt / 2 ^ b % 2 = 1 then bt else bt + 2 ^ b
def pc (bt : Nat) : Int := (bt % 2 : Nat) + (bt / 2 % 2 : Nat) + (bt / 4 % 2 : Nat) + (bt / 8 % 2 : Nat)
theorem bOr_i : ∀ bt : Nat, bt < 16 → ∀ b : Nat, b < 4 → ior (bt : Int) (ishl 1 (b : Int)) = (bOr bt b : Nat) ∧ bOr bt b < 16 := by decide
theorem pc_i : ∀ bt : Nat, bt < 16 → iand (bt : Int) 1 + iand (ishr (bt : Int) 1) 1 + iand (ishr (bt : Int) 2) 1 + iand (ishr (bt : Int) 3) 1 = pc bt ∧ 0 ≤ iand (bt : Int) 1 ∧ iand (bt : Int) 1 ≤ 1 ∧ 0 ≤ iand (ishr (bt : Int) 1) 1 ∧ iand (ishr (bt : Int) 1) 1 ≤ 1 ∧ 0 ≤ iand (ishr (bt : Int) 2) 1 ∧ iand (ishr (bt : Int) 2) 1 ≤ 1 ∧ 0 ≤ iand (ishr (bt : Int) 3) 1 ∧ iand (ishr (bt : Int) 3) 1 ≤ 1 := by decide
/-- the state behind the first k kilts by an assignment (4: none): what is left, how many are cut, which bolts -/
def cuS (need : Nat → Int) (told : Nat → Bool) (a : Nat → Nat) (l0 : Nat → Int) : Nat → Option ((Nat → Int) × Nat × Nat)
  | 0 => some (l0, 0, 0)
  | k + 1 => match cuS need told a l0 k with
    | none => none
    | some (l, c, bt) => if a k = 4 then some (l, c, bt) else if told k = true ∧ need k ≤ l (a k) then some (va_up l (a k) (l (a k) - need k), c + 1, bOr bt (a k)) else none
def bdN (A : Nat → Int → Int) : Nat → Int := fun k => if (k : Int) < A 0 13 then A 39 k else 0
def bdT (set : Int) : Nat → Bool := fun k => decide (¬ iand (ishr set k) 1 = 0)
def bdL (A : Nat → Int → Int) : Nat → Int := fun b => if (b : Int) < A 0 8 ∧ A 7 b = 0 then A 8 b else 0
/-- kilt k's bolt by the way w, of N kilts -/
def dgt (N w k : Nat) : Nat := w / 5 ^ (N - 1 - k) % 5
theorem cuS_b {need : Nat → Int} {told : Nat → Bool} {a : Nat → Nat} {l0 : Nat → Int} (ha : ∀ k, a k < 5) (h0 : ∀ b, 0 ≤ l0 b ∧ l0 b ≤ 9999) (hn : ∀ k, 0 ≤ need k) : ∀ (k : Nat) {l : Nat → Int} {c bt : Nat}, cuS need told a l0 k = some (l, c, bt) → (∀ b, 0 ≤ l b ∧ l b ≤ 9999) ∧ c ≤ k ∧ bt < 16
  | 0, l, c, bt, h => by
    simp only [cuS, Option.some.injEq, Prod.mk.injEq] at h
    obtain ⟨rfl, rfl, rfl⟩ := h
    exact ⟨h0, Nat.le_refl 0, by omega⟩
  | k + 1, l, c, bt, h => by
    unfold cuS at h
    split at h
    · cases h
    · rename_i l' c' bt' he
      obtain ⟨h1, h2, h3⟩ := cuS_b ha h0 hn k he
      split at h
      · simp only [Option.some.injEq, Prod.mk.injEq] at h
        obtain ⟨rfl, rfl, rfl⟩ := h
        exact ⟨h1, by omega, h3⟩
      · rename_i h4
        split at h
        · rename_i h5
          simp only [Option.some.injEq, Prod.mk.injEq] at h
          obtain ⟨rfl, rfl, rfl⟩ := h
          have h6 := ha k
          refine ⟨fun b => ?_, by omega, (bOr_i bt' h3 (a k) (by omega)).2⟩
          have h7 := h1 b
          have h8 := h1 (a k)
          have h9 := hn k
          unfold va_up
          split <;> omega
        · cases h
theorem V193_0 {d : Nat} (hd : 0 ≤ d) {Q : Option Value → xM → Prop} {m : Nat} {Φ : (Nat → Nat → Int32) → xM} (hΦ : MLaw m Φ) {A : Nat → Int → Int} (hR : RG A) {x1 x2 : Int} (rr : Rg x1 ∧ Rg x2) (h : (Rg ((A 0 13) - 1)) ∧ wpE (xT 193) (xev xT d) Q (10, [(0, .ref m), (2, .int (iz x2)), (3, .int (iz x1)), (4, .int (iz ((A 0 13) - 1)))], [], Φ (mI A))) : wpE (xT 193) (xev xT d) Q (0, [(0, .ref m), (1, .int (iz x1)), (2, .int (iz x2))], [], Φ (mI A)) := by
  refine p_ild (cc3 c193_0) rfl ?_
  refine p_ist (ls' := [(3, .int (iz x1)), (0, .ref m), (1, .int (iz x1)), (2, .int (iz x2))]) (cc3 c193_1) (by decide) rfl ?_
  refine p_ald (cc3 c193_2) rfl ?_
  refine n_geti hΦ (v := A 0 13) (cc3 c193_3) (ji := 13) rfl rfl ?_
  refine i_push (n := 1) (cc3 c193_6) zl_1 ?_
  obtain ⟨g1, h⟩ := h
  refine (fun _ : Rg ((A 0 13) - 1) => i_sub (cc3 c193_7) ?_) g1
  refine p_ist (ls' := [(4, .int (iz ((A 0 13) - 1))), (3, .int (iz x1)), (0, .ref m), (1, .int (iz x1)), (2, .int (iz x2))]) (cc3 c193_8) (by decide) rfl ?_
  exact p_lc (ls' := [(0, .ref m), (2, .int (iz x2)), (3, .int (iz x1)), (4, .int (iz ((A 0 13) - 1)))]) c193_10 rfl rfl h
theorem V193_10 {d : Nat} (hd : 0 ≤ d) {Q : Option Value → xM → Prop} {m : Nat} {Φ : (Nat → Nat → Int32) → xM} (hΦ : MLaw m Φ) {A : Nat → Int → Int} (hR : RG A) {x2 x3 x4 : Int} (rr : Rg x2 ∧ Rg x3 ∧ Rg x4) (h : (((x4 < 0) → wpE (xT 193) (xev xT d) Q (38, [(0, .ref m), (2, .int (iz x2)), (4, .int (iz 0))], [], Φ (mI A))) ∧ (¬ (x4 < 0) → (0 ≤ x4 ∧ x4 < 8) ∧ (Rg (x4 - 1)) ∧ wpE (xT 193) (xev xT d) Q (10, [(0, .ref m), (2, .int (iz x2)), (3, .int (iz (x3.tdiv 5))), (4, .int (iz (x4 - 1)))], [], Φ (mI (UA A 40 x4 (x3.tmod 5))))))) : wpE (xT 193) (xev xT d) Q (10, [(0, .ref m), (2, .int (iz x2)), (3, .int (iz x3)), (4, .int (iz x4))], [], Φ (mI A)) := by
  refine p_ild (cct c193_10 rfl) rfl ?_
  refine i_if (c' := x4 < 0) (cc3 c193_12) (c_lt0 rr.2.2) (fun c => ?_) (fun c => ?_)
  · have h := h.1 c
    refine i_push (n := 0) (cc3 c193_35) zl_0 ?_
    refine p_ist (ls' := [(4, .int (iz 0)), (0, .ref m), (2, .int (iz x2)), (3, .int (iz x3))]) (cc3 c193_36) (by decide) rfl ?_
    exact p_lc (ls' := [(0, .ref m), (2, .int (iz x2)), (4, .int (iz 0))]) c193_38 rfl rfl h
  · have h := h.2 c
    refine p_ald (cc3 c193_15) rfl ?_
    refine pm_getp hΦ (cc3 c193_16) (c := 40) rfl (by decide) ?_
    refine p_ild (cc3 c193_19) rfl ?_
    refine p_ild (cc3 c193_21) rfl ?_
    refine i_push (n := 5) (cc3 c193_22) zl_5 ?_
    refine i_rem (cc3 c193_23) rr.2.1 (by decide) ?_
    obtain ⟨g1, h⟩ := h
    refine id (α := Rg (x3.tmod 5) → _) (fun _ => ?_) (rg_tmod rr.2.1 (by decide : 0 < (5 : Int) ∧ (5 : Int) ≤ 2147483647).1); refine n_asti hΦ (c := 40) (n := 8) (ni := 8) (hv := rfl) (cc3 c193_24) (by decide) rfl rfl rfl (by decide) g1 ?_
    refine p_ild (cc3 c193_25) rfl ?_
    refine i_push (n := 5) (cc3 c193_26) zl_5 ?_
    refine i_div (cc3 c193_27) rr.2.1 (by decide) ?_
    refine p_ist (ls' := [(3, .int (iz (x3.tdiv 5))), (0, .ref m), (2, .int (iz x2)), (4, .int (iz x4))]) (cc3 c193_28) (by decide) rfl ?_
    obtain ⟨g2, h⟩ := h
    refine (fun _ : Rg (x4 - 1) => i_iinc (n := (-1)) (y := x4 - 1) (ls' := [(4, .int (iz (x4 - 1))), (3, .int (iz (x3.tdiv 5))), (0, .ref m), (2, .int (iz x2))]) (cc3 c193_29) (by decide) rfl zl_m1 (by first | rfl | omega) rfl ?_) g2
    refine p_goto (cc3 c193_32) ?_
    exact p_lc (ls' := [(0, .ref m), (2, .int (iz x2)), (3, .int (iz (x3.tdiv 5))), (4, .int (iz (x4 - 1)))]) c193_10 rfl rfl h
theorem V193_38 {d : Nat} (hd : 0 ≤ d) {Q : Option Value → xM → Prop} {m : Nat} {Φ : (Nat → Nat → Int32) → xM} (hΦ : MLaw m Φ) {A : Nat → Int → Int} (hR : RG A) {x2 x4 : Int} (rr : Rg x2 ∧ Rg x4) (h : (((4 ≤ x4) → wpE (xT 193) (xev xT d) Q (98, [(0, .ref m), (2, .int (iz x2)), (4, .int (iz 0)), (5, .int (iz 0))], [], Φ (mI (UA A 0 62 0)))) ∧ (¬ (4 ≤ x4) → ((((A 0 8) ≤ x4) → (0 ≤ x4 ∧ x4 < 4) ∧ (Rg (x4 + 1)) ∧ wpE (xT 193) (xev xT d) Q (38, [(0, .ref m), (2, .int (iz x2)), (4, .int (iz (x4 + 1)))], [], Φ (mI (UA A 42 x4 0)))) ∧ (¬ ((A 0 8) ≤ x4) → (0 ≤ x4 ∧ x4 < 5) ∧ ((((A 7 x4) = 0) → (0 ≤ x4 ∧ x4 < 4) ∧ (Rg (x4 + 1)) ∧ wpE (xT 193) (xev xT d) Q (38, [(0, .ref m), (2, .int (iz x2)), (4, .int (iz (x4 + 1)))], [], Φ (mI (UA A 42 x4 (A 8 x4))))) ∧ (¬ ((A 7 x4) = 0) → (0 ≤ x4 ∧ x4 < 4) ∧ (Rg (x4 + 1)) ∧ wpE (xT 193) (xev xT d) Q (38, [(0, .ref m), (2, .int (iz x2)), (4, .int (iz (x4 + 1)))], [], Φ (mI (UA A 42 x4 0)))))))))) : wpE (xT 193) (xev xT d) Q (38, [(0, .ref m), (2, .int (iz x2)), (4, .int (iz x4))], [], Φ (mI A)) := by
  refine p_ild (cct c193_38 rfl) rfl ?_
  refine i_push (n := 4) (cc3 c193_40) zl_4 ?_
  refine i_icmp (c' := 4 ≤ x4) (cc3 c193_41) (iz_le (by decide) rr.2) (fun c => ?_) (fun c => ?_)
  · have h := h.1 c
    refine p_ald (cc3 c193_87) rfl ?_
    refine i_push (n := 0) (cc3 c193_88) zl_0 ?_
    refine (fun _ : Rg 0 => n_puti hΦ (cc3 c193_89) (ji := 62) rfl ?_) (by decide)
    refine i_push (n := 0) (cc3 c193_92) zl_0 ?_
    refine p_ist (ls' := [(4, .int (iz 0)), (0, .ref m), (2, .int (iz x2))]) (cc3 c193_93) (by decide) rfl ?_
    refine i_push (n := 0) (cc3 c193_95) zl_0 ?_
    refine p_ist (ls' := [(5, .int (iz 0)), (4, .int (iz 0)), (0, .ref m), (2, .int (iz x2))]) (cc3 c193_96) (by decide) rfl ?_
    exact p_lc (ls' := [(0, .ref m), (2, .int (iz x2)), (4, .int (iz 0)), (5, .int (iz 0))]) c193_98 rfl rfl h
  · have h := h.2 c
    refine p_ald (cc3 c193_44) rfl ?_
    refine pm_getp hΦ (cc3 c193_45) (c := 42) rfl (by decide) ?_
    refine p_ild (cc3 c193_48) rfl ?_
    refine p_ild (cc3 c193_50) rfl ?_
    refine p_ald (cc3 c193_52) rfl ?_
    refine n_geti hΦ (v := A 0 8) (cc3 c193_53) (ji := 8) rfl rfl ?_
    refine i_icmp (c' := (A 0 8) ≤ x4) (cc3 c193_56) (iz_le (hR 0 8) rr.2) (fun c => ?_) (fun c => ?_)
    · have h := h.1 c
      refine i_push (n := 0) (cct c193_79 rfl) zl_0 ?_
      obtain ⟨g1, h⟩ := h
      refine id (α := Rg 0 → _) (fun _ => ?_) (by decide); refine n_asti hΦ (c := 42) (n := 4) (ni := 4) (hv := rfl) (cct c193_80 rfl) (by decide) rfl rfl rfl (by decide) g1 ?_
      obtain ⟨g2, h⟩ := h
      refine (fun _ : Rg (x4 + 1) => i_iinc (n := 1) (y := x4 + 1) (ls' := [(4, .int (iz (x4 + 1))), (0, .ref m), (2, .int (iz x2))]) (cc3 c193_81) (by decide) rfl zl_1 (by first | rfl | omega) rfl ?_) g2
      refine p_goto (cc3 c193_84) ?_
      exact p_lc (ls' := [(0, .ref m), (2, .int (iz x2)), (4, .int (iz (x4 + 1)))]) c193_38 rfl rfl h
    · have h := h.2 c
      refine p_ald (cc3 c193_59) rfl ?_
      refine pm_getp hΦ (cc3 c193_60) (c := 7) rfl (by decide) ?_
      refine p_ild (cc3 c193_63) rfl ?_
      obtain ⟨g1, h⟩ := h
      refine n_aldi hΦ (c := 7) (n := 5) (ni := 5) (cc3 c193_65) (by decide) rfl rfl rfl (by decide) g1 (v := A 7 x4) rfl ?_
      refine i_if (c' := (A 7 x4) = 0) (cc3 c193_66) (c_eq0 (hR 7 x4)) (fun c => ?_) (fun c => ?_)
      · have h := h.1 c
        refine p_ald (cc3 c193_69) rfl ?_
        refine pm_getp hΦ (cc3 c193_70) (c := 8) rfl (by decide) ?_
        refine p_ild (cc3 c193_73) rfl ?_
        refine n_aldi hΦ (c := 8) (n := 5) (ni := 5) (cc3 c193_75) (by decide) rfl rfl rfl (by decide) g1 (v := A 8 x4) rfl ?_
        refine p_goto (cc3 c193_76) ?_
        obtain ⟨g2, h⟩ := h
        refine id (α := Rg (A 8 x4) → _) (fun _ => ?_) (hR 8 x4); refine n_asti hΦ (c := 42) (n := 4) (ni := 4) (hv := rfl) (cct c193_80 rfl) (by decide) rfl rfl rfl (by decide) g2 ?_
        obtain ⟨g3, h⟩ := h
        refine (fun _ : Rg (x4 + 1) => i_iinc (n := 1) (y := x4 + 1) (ls' := [(4, .int (iz (x4 + 1))), (0, .ref m), (2, .int (iz x2))]) (cc3 c193_81) (by decide) rfl zl_1 (by first | rfl | omega) rfl ?_) g3
        refine p_goto (cc3 c193_84) ?_
        exact p_lc (ls' := [(0, .ref m), (2, .int (iz x2)), (4, .int (iz (x4 + 1)))]) c193_38 rfl rfl h
      · have h := h.2 c
        refine i_push (n := 0) (cct c193_79 rfl) zl_0 ?_
        obtain ⟨g2, h⟩ := h
        refine id (α := Rg 0 → _) (fun _ => ?_) (by decide); refine n_asti hΦ (c := 42) (n := 4) (ni := 4) (hv := rfl) (cct c193_80 rfl) (by decide) rfl rfl rfl (by decide) g2 ?_
        obtain ⟨g3, h⟩ := h
        refine (fun _ : Rg (x4 + 1) => i_iinc (n := 1) (y := x4 + 1) (ls' := [(4, .int (iz (x4 + 1))), (0, .ref m), (2, .int (iz x2))]) (cc3 c193_81) (by decide) rfl zl_1 (by first | rfl | omega) rfl ?_) g3
        refine p_goto (cc3 c193_84) ?_
        exact p_lc (ls' := [(0, .ref m), (2, .int (iz x2)), (4, .int (iz (x4 + 1)))]) c193_38 rfl rfl h
theorem V193_98 {d : Nat} (hd : 0 ≤ d) {Q : Option Value → xM → Prop} {m : Nat} {Φ : (Nat → Nat → Int32) → xM} (hΦ : MLaw m Φ) {A : Nat → Int → Int} (hR : RG A) {x2 x4 x5 : Int} (rr : Rg x2 ∧ Rg x4 ∧ Rg x5) (h : ((((A 0 13) ≤ x5) → (Rg ((iand x4 1) + (iand (ishr x4 1) 1))) ∧ (Rg (((iand x4 1) + (iand (ishr x4 1) 1)) + (iand (ishr x4 2) 1))) ∧ (Rg ((((iand x4 1) + (iand (ishr x4 1) 1)) + (iand (ishr x4 2) 1)) + (iand (ishr x4 3) 1))) ∧ Q (some (.int (iz 1))) (Φ (mI (UA A 0 63 ((((iand x4 1) + (iand (ishr x4 1) 1)) + (iand (ishr x4 2) 1)) + (iand (ishr x4 3) 1)))))) ∧ (¬ ((A 0 13) ≤ x5) → (0 ≤ x5 ∧ x5 < 8) ∧ ((((A 40 x5) = 4) → (Rg (x5 + 1)) ∧ wpE (xT 193) (xev xT d) Q (98, [(0, .ref m), (2, .int (iz x2)), (4, .int (iz x4)), (5, .int (iz (x5 + 1)))], [], Φ (mI A))) ∧ (¬ ((A 40 x5) = 4) → ((((iand (ishr x2 x5) 1) = 0) → Q (some (.int (iz 0))) (Φ (mI A))) ∧ (¬ ((iand (ishr x2 x5) 1) = 0) → (0 ≤ (A 40 x5) ∧ (A 40 x5) < 4) ∧ ((((A 39 x5) ≤ (A 42 (A 40 x5))) → (Rg ((A 42 (A 40 x5)) - (A 39 x5))) ∧ (Rg ((A 0 62) + 1)) ∧ (Rg (x5 + 1)) ∧ wpE (xT 193) (xev xT d) Q (98, [(0, .ref m), (2, .int (iz x2)), (4, .int (iz (ior x4 (ishl 1 (A 40 x5))))), (5, .int (iz (x5 + 1)))], [], Φ (mI (UA (UA A 42 (A 40 x5) ((A 42 (A 40 x5)) - (A 39 x5))) 0 62 ((A 0 62) + 1))))) ∧ (¬ ((A 39 x5) ≤ (A 42 (A 40 x5))) → Q (some (.int (iz 0))) (Φ (mI A))))))))))) : wpE (xT 193) (xev xT d) Q (98, [(0, .ref m), (2, .int (iz x2)), (4, .int (iz x4)), (5, .int (iz x5))], [], Φ (mI A)) := by
  refine p_ild (cct c193_98 rfl) rfl ?_
  refine p_ald (cc3 c193_100) rfl ?_
  refine n_geti hΦ (v := A 0 13) (cc3 c193_101) (ji := 13) rfl rfl ?_
  refine i_icmp (c' := (A 0 13) ≤ x5) (cc3 c193_104) (iz_le (hR 0 13) rr.2.2) (fun c => ?_) (fun c => ?_)
  · have h := h.1 c
    refine p_ald (cc3 c193_195) rfl ?_
    refine p_ild (cc3 c193_196) rfl ?_
    refine i_push (n := 1) (cc3 c193_198) zl_1 ?_
    refine i_op (z := iand x4 1) (cc3 c193_199) (iz_of _).symm ?_
    refine p_ild (cc3 c193_200) rfl ?_
    refine i_push (n := 1) (cc3 c193_202) zl_1 ?_
    refine i_op (z := ishr x4 1) (cc3 c193_203) (iz_of _).symm ?_
    refine i_push (n := 1) (cc3 c193_204) zl_1 ?_
    refine i_op (z := iand (ishr x4 1) 1) (cc3 c193_205) (iz_of _).symm ?_
    obtain ⟨g1, h⟩ := h
    refine (fun _ : Rg ((iand x4 1) + (iand (ishr x4 1) 1)) => i_add (cc3 c193_206) ?_) g1
    refine p_ild (cc3 c193_207) rfl ?_
    refine i_push (n := 2) (cc3 c193_209) zl_2 ?_
    refine i_op (z := ishr x4 2) (cc3 c193_210) (iz_of _).symm ?_
    refine i_push (n := 1) (cc3 c193_211) zl_1 ?_
    refine i_op (z := iand (ishr x4 2) 1) (cc3 c193_212) (iz_of _).symm ?_
    obtain ⟨g2, h⟩ := h
    refine (fun _ : Rg (((iand x4 1) + (iand (ishr x4 1) 1)) + (iand (ishr x4 2) 1)) => i_add (cc3 c193_213) ?_) g2
    refine p_ild (cc3 c193_214) rfl ?_
    refine i_push (n := 3) (cc3 c193_216) zl_3 ?_
    refine i_op (z := ishr x4 3) (cc3 c193_217) (iz_of _).symm ?_
    refine i_push (n := 1) (cc3 c193_218) zl_1 ?_
    refine i_op (z := iand (ishr x4 3) 1) (cc3 c193_219) (iz_of _).symm ?_
    obtain ⟨g3, h⟩ := h
    refine (fun _ : Rg ((((iand x4 1) + (iand (ishr x4 1) 1)) + (iand (ishr x4 2) 1)) + (iand (ishr x4 3) 1)) => i_add (cc3 c193_220) ?_) g3
    refine (fun _ : Rg ((((iand x4 1) + (iand (ishr x4 1) 1)) + (iand (ishr x4 2) 1)) + (iand (ishr x4 3) 1)) => n_puti hΦ (cc3 c193_221) (ji := 63) rfl ?_) g3
    refine i_push (n := 1) (cc3 c193_224) zl_1 ?_
    exact i_ri (cc3 c193_225) (by decide) h
  · have h := h.2 c
    refine p_ald (cc3 c193_107) rfl ?_
    refine pm_getp hΦ (cc3 c193_108) (c := 40) rfl (by decide) ?_
    refine p_ild (cc3 c193_111) rfl ?_
    obtain ⟨g1, h⟩ := h
    refine n_aldi hΦ (c := 40) (n := 8) (ni := 8) (cc3 c193_113) (by decide) rfl rfl rfl (by decide) g1 (v := A 40 x5) rfl ?_
    refine p_ist (ls' := [(6, .int (iz (A 40 x5))), (0, .ref m), (2, .int (iz x2)), (4, .int (iz x4)), (5, .int (iz x5))]) (cc3 c193_114) (by decide) rfl ?_
    refine p_ild (cc3 c193_116) rfl ?_
    refine i_push (n := 4) (cc3 c193_118) zl_4 ?_
    refine i_icmp (c' := (A 40 x5) = 4) (cc3 c193_119) (iz_inj (hR 40 x5) (by decide)) (fun c => ?_) (fun c => ?_)
    · have h := h.1 c
      refine p_goto (cc3 c193_122) ?_
      refine p_lc (ls' := [(0, .ref m), (2, .int (iz x2)), (4, .int (iz x4)), (5, .int (iz x5))]) c193_189 rfl rfl ?_
      obtain ⟨g2, h⟩ := h
      refine (fun _ : Rg (x5 + 1) => i_iinc (n := 1) (y := x5 + 1) (ls' := [(5, .int (iz (x5 + 1))), (0, .ref m), (2, .int (iz x2)), (4, .int (iz x4))]) (cct c193_189 rfl) (by decide) rfl zl_1 (by first | rfl | omega) rfl ?_) g2
      refine p_goto (cc3 c193_192) ?_
      exact p_lc (ls' := [(0, .ref m), (2, .int (iz x2)), (4, .int (iz x4)), (5, .int (iz (x5 + 1)))]) c193_98 rfl rfl h
    · have h := h.2 c
      refine p_ild (cc3 c193_125) rfl ?_
      refine p_ild (cc3 c193_126) rfl ?_
      refine i_op (z := ishr x2 x5) (cc3 c193_128) (iz_of _).symm ?_
      refine i_push (n := 1) (cc3 c193_129) zl_1 ?_
      refine i_op (z := iand (ishr x2 x5) 1) (cc3 c193_130) (iz_of _).symm ?_
      refine i_if (c' := (iand (ishr x2 x5) 1) = 0) (cc3 c193_131) (c_eq0 rg_iand) (fun c => ?_) (fun c => ?_)
      · have h := h.1 c
        refine p_lc (ls' := []) c193_151 rfl rfl ?_
        refine i_push (n := 0) (cct c193_151 rfl) zl_0 ?_
        exact i_ri (cc3 c193_152) (by decide) h
      · have h := h.2 c
        refine p_ald (cc3 c193_134) rfl ?_
        refine pm_getp hΦ (cc3 c193_135) (c := 39) rfl (by decide) ?_
        refine p_ild (cc3 c193_138) rfl ?_
        refine n_aldi hΦ (c := 39) (n := 8) (ni := 8) (cc3 c193_140) (by decide) rfl rfl rfl (by decide) g1 (v := A 39 x5) rfl ?_
        refine p_ald (cc3 c193_141) rfl ?_
        refine pm_getp hΦ (cc3 c193_142) (c := 42) rfl (by decide) ?_
        refine p_ild (cc3 c193_145) rfl ?_
        obtain ⟨g2, h⟩ := h
        refine n_aldi hΦ (c := 42) (n := 4) (ni := 4) (cc3 c193_147) (by decide) rfl rfl rfl (by decide) g2 (v := A 42 (A 40 x5)) rfl ?_
        refine i_icmp (c' := (A 39 x5) ≤ (A 42 (A 40 x5))) (cc3 c193_148) (iz_le (hR 39 x5) (hR 42 (A 40 x5))) (fun c => ?_) (fun c => ?_)
        · have h := h.1 c
          refine p_ald (cc3 c193_153) rfl ?_
          refine pm_getp hΦ (cc3 c193_154) (c := 42) rfl (by decide) ?_
          refine p_ild (cc3 c193_157) rfl ?_
          refine p_dup2 (cc3 c193_159) rfl rfl ?_
          refine n_aldi hΦ (c := 42) (n := 4) (ni := 4) (cc3 c193_160) (by decide) rfl rfl rfl (by decide) g2 (v := A 42 (A 40 x5)) rfl ?_
          refine p_ald (cc3 c193_161) rfl ?_
          refine pm_getp hΦ (cc3 c193_162) (c := 39) rfl (by decide) ?_
          refine p_ild (cc3 c193_165) rfl ?_
          refine n_aldi hΦ (c := 39) (n := 8) (ni := 8) (cc3 c193_167) (by decide) rfl rfl rfl (by decide) g1 (v := A 39 x5) rfl ?_
          obtain ⟨g3, h⟩ := h
          refine (fun _ : Rg ((A 42 (A 40 x5)) - (A 39 x5)) => i_sub (cc3 c193_168) ?_) g3
          refine id (α := Rg ((A 42 (A 40 x5)) - (A 39 x5)) → _) (fun _ => ?_) g3; refine n_asti hΦ (c := 42) (n := 4) (ni := 4) (hv := rfl) (cc3 c193_169) (by decide) rfl rfl rfl (by decide) g2 ?_
          refine p_ald (cc3 c193_170) rfl ?_
          refine p_dup (cc3 c193_171) rfl ?_
          refine n_geti hΦ (v := A 0 62) (cc3 c193_172) (ji := 62) rfl rfl ?_
          refine i_push (n := 1) (cc3 c193_175) zl_1 ?_
          obtain ⟨g4, h⟩ := h
          refine (fun _ : Rg ((A 0 62) + 1) => i_add (cc3 c193_176) ?_) g4
          refine (fun _ : Rg ((A 0 62) + 1) => n_puti hΦ (cc3 c193_177) (ji := 62) rfl ?_) g4
          refine p_ild (cc3 c193_180) rfl ?_
          refine i_push (n := 1) (cc3 c193_182) zl_1 ?_
          refine p_ild (cc3 c193_183) rfl ?_
          refine i_op (z := ishl 1 (A 40 x5)) (cc3 c193_185) (iz_of _).symm ?_
          refine i_op (z := ior x4 (ishl 1 (A 40 x5))) (cc3 c193_186) (iz_of _).symm ?_
          refine p_ist (ls' := [(4, .int (iz (ior x4 (ishl 1 (A 40 x5))))), (6, .int (iz (A 40 x5))), (0, .ref m), (2, .int (iz x2)), (5, .int (iz x5))]) (cc3 c193_187) (by decide) rfl ?_
          refine p_lc (ls' := [(0, .ref m), (2, .int (iz x2)), (4, .int (iz (ior x4 (ishl 1 (A 40 x5))))), (5, .int (iz x5))]) c193_189 rfl rfl ?_
          obtain ⟨g5, h⟩ := h
          refine (fun _ : Rg (x5 + 1) => i_iinc (n := 1) (y := x5 + 1) (ls' := [(5, .int (iz (x5 + 1))), (0, .ref m), (2, .int (iz x2)), (4, .int (iz (ior x4 (ishl 1 (A 40 x5)))))]) (cct c193_189 rfl) (by decide) rfl zl_1 (by first | rfl | omega) rfl ?_) g5
          refine p_goto (cc3 c193_192) ?_
          exact p_lc (ls' := [(0, .ref m), (2, .int (iz x2)), (4, .int (iz (ior x4 (ishl 1 (A 40 x5))))), (5, .int (iz (x5 + 1)))]) c193_98 rfl rfl h
        · have h := h.2 c
          refine p_lc (ls' := []) c193_151 rfl rfl ?_
          refine i_push (n := 0) (cct c193_151 rfl) zl_0 ?_
          exact i_ri (cc3 c193_152) (by decide) h

theorem L193c {d : Nat} {Q : Option Value → xM → Prop} {m : Nat} {Φ : (Nat → Nat → Int32) → xM} (hΦ : MLaw m Φ) {A0 : Nat → Int → Int} {set : Int} {a : Nat → Nat} {l0 : Nat → Int} {N : Nat} (ha : ∀ k, a k < 5) (h0 : ∀ b, 0 ≤ l0 b ∧ l0 b ≤ 9999) (hN : A0 0 13 = N) (hN8 : N ≤ 8) (hn : ∀ k : Nat, k < N → 0 ≤ A0 39 k ∧ A0 39 k ≤ 1000000) (rs : Rg set)
    (hQ0 : ∀ A', RG A' → Fr [40, 42] [62, 63] A0 A' → (∀ k : Nat, k < N → A' 40 k = (a k : Nat)) → cuS (fun k => if k < N then A0 39 k else 0) (bdT set) a l0 N = none → Q (some (.int (iz 0))) (Φ (mI A')))
    (hQ1 : ∀ A' l c bt, RG A' → Fr [40, 42] [62, 63] A0 A' → (∀ k : Nat, k < N → A' 40 k = (a k : Nat)) → cuS (fun k => if k < N then A0 39 k else 0) (bdT set) a l0 N = some (l, c, bt) → A' 0 62 = (c : Nat) → A' 0 63 = pc bt → Q (some (.int (iz 1))) (Φ (mI A'))) :
    ∀ (r k : Nat) (A : Nat → Int → Int) (l : Nat → Int) (c bt : Nat), k + r = N → RG A → Fr [40, 42] [62, 63] A0 A → (∀ k : Nat, k < N → A 40 k = (a k : Nat)) → cuS (fun k => if k < N then A0 39 k else 0) (bdT set) a l0 k = some (l, c, bt) → (∀ b : Nat, b < 4 → A 42 b = l b) → A 0 62 = (c : Nat) → wpE (xT 193) (xev xT d) Q (98, [(0, .ref m), (2, .int (iz set)), (4, .int (iz (bt : Int))), (5, .int (iz (k : Int)))], [], Φ (mI A)) := by
  have hnn : ∀ k : Nat, 0 ≤ (fun k : Nat => if k < N then A0 39 k else 0) k := fun k => by
    show 0 ≤ (if k < N then A0 39 k else 0)
    split
    · exact (hn k (by assumption)).1
    · exact Int.le_refl 0
  intro r
  induction r with
  | zero =>
    intro k A l c bt hk hR hF h40 hcs h42 h62
    have hkN : k = N := by omega
    subst hkN
    obtain ⟨b1, b2, b3⟩ := cuS_b ha h0 hnn k hcs
    have hp := pc_i bt b3
    have e13 : A 0 13 = k := by rw [hF.2 13 (by decide)]; exact hN
    refine V193_98 (Nat.zero_le _) hΦ hR (by omega) ?_
    rw [e13]
    refine ⟨fun _ => ⟨by omega, by omega, by omega, ?_⟩, fun h => absurd (Int.le_refl (k : Int)) h⟩
    rw [hp.1]
    exact hQ1 _ l c bt (rg_UA hR (by omega)) (hF.fld (by decide)) (fun q hq => by rw [UA_c (by decide)]; exact h40 q hq) hcs (by rw [UA_j (by decide)]; exact h62) UA_eq
  | succ r ih =>
    intro k A l c bt hk hR hF h40 hcs h42 h62
    obtain ⟨b1, b2, b3⟩ := cuS_b ha h0 hnn k hcs
    have e13 : A 0 13 = N := by rw [hF.2 13 (by decide)]; exact hN
    have e39 : A 39 = A0 39 := hF.1 39 (by decide) (by decide)
    have hak := ha k
    have hnk := hn k (by omega)
    have ea : A 40 k = (a k : Nat) := h40 k (by omega)
    have estep : cuS (fun k => if k < N then A0 39 k else 0) (bdT set) a l0 (k + 1) = if a k = 4 then some (l, c, bt) else if bdT set k = true ∧ A0 39 k ≤ l (a k) then some (va_up l (a k) (l (a k) - A0 39 k), c + 1, bOr bt (a k)) else none := by
      show (match cuS (fun k => if k < N then A0 39 k else 0) (bdT set) a l0 k with
        | none => none
        | some (l, c, bt) => if a k = 4 then some (l, c, bt) else if bdT set k = true ∧ (if k < N then A0 39 k else 0) ≤ l (a k) then some (va_up l (a k) (l (a k) - (if k < N then A0 39 k else 0)), c + 1, bOr bt (a k)) else none) = _
      rw [hcs, if_pos (show k < N by omega)]
    have hnone : cuS (fun k => if k < N then A0 39 k else 0) (bdT set) a l0 (k + 1) = none → cuS (fun k => if k < N then A0 39 k else 0) (bdT set) a l0 N = none := fun q => by
      have : ∀ j : Nat, cuS (fun k => if k < N then A0 39 k else 0) (bdT set) a l0 (k + 1 + j) = none := fun j => by
        induction j with
        | zero => exact q
        | succ j ihj => show (match cuS (fun k => if k < N then A0 39 k else 0) (bdT set) a l0 (k + 1 + j) with | none => none | some (l, c, bt) => _) = none; rw [ihj]
      have h9 := this r
      rw [show k + 1 + r = N by omega] at h9
      exact h9
    have et : bdT set k = true ↔ ¬ iand (ishr set k) 1 = 0 := by unfold bdT; simp
    refine V193_98 (Nat.zero_le _) hΦ hR (by omega) ?_
    rw [e13, e39, ea, h62]
    refine ⟨fun h => absurd h (by omega), fun _ => ⟨by omega, fun c1 => ⟨by omega, ?_⟩, fun c1 => ⟨fun c2 => ?_, fun c2 => ⟨by omega, ?_⟩⟩⟩⟩
    · exact ih (k + 1) A l c bt (by omega) hR hF h40 (by rw [estep, if_pos (by omega)]) h42 h62
    · exact hQ0 A hR hF h40 (hnone (by rw [estep, if_neg (by omega), if_neg (fun q => (et.mp q.1) c2)]))
    · rw [h42 (a k) (by omega)]
      have hlb := b1 (a k)
      refine ⟨fun c3 => ⟨by omega, by omega, by omega, ?_⟩, fun c3 => ?_⟩
      · have hb := bOr_i bt b3 (a k) (by omega)
        rw [hb.1]
        refine ih (k + 1) _ (va_up l (a k) (l (a k) - A0 39 k)) (c + 1) (bOr bt (a k)) (by omega) (rg_UA (rg_UA hR (by omega)) (by omega)) ((hF.row (by decide) (by decide)).fld (by decide)) (fun q hq => by rw [UA_c (by decide), UA_c (by decide)]; exact h40 q hq) (by rw [estep, if_neg (by omega), if_pos ⟨et.mpr c2, c3⟩]) (fun q hq => ?_) (by rw [UA_eq]; omega)
        rw [UA_c (by decide)]
        unfold va_up
        by_cases e : q = a k
        · subst e; rw [if_pos rfl, UA_eq]
        · rw [if_neg e, UA_j (by omega)]; exact h42 q hq
      · exact hQ0 A hR hF h40 (hnone (by rw [estep, if_neg (by omega), if_neg (fun q => c3 q.2)]))
theorem dgt_5 {N w k : Nat} : dgt N w k < 5 := Nat.mod_lt _ (by omega)
theorem L193a {d : Nat} {Q : Option Value → xM → Prop} {m : Nat} {Φ : (Nat → Nat → Int32) → xM} (hΦ : MLaw m Φ) {A0 : Nat → Int → Int} {set : Int} {N w : Nat} (hN8 : N ≤ 8) (hw : w ≤ 400000) (rs : Rg set)
    (hQ : ∀ A', RG A' → Fr [40, 42] [62, 63] A0 A' → (∀ k : Nat, k < N → A' 40 k = (dgt N w k : Nat)) → wpE (xT 193) (xev xT d) Q (38, [(0, .ref m), (2, .int (iz set)), (4, .int (iz 0))], [], Φ (mI A'))) :
    ∀ (r : Nat) (A : Nat → Int → Int), r ≤ N → RG A → Fr [40, 42] [62, 63] A0 A → (∀ k : Nat, r ≤ k → k < N → A 40 k = (dgt N w k : Nat)) → wpE (xT 193) (xev xT d) Q (10, [(0, .ref m), (2, .int (iz set)), (3, .int (iz ((w / 5 ^ (N - r) : Nat) : Int))), (4, .int (iz ((r : Int) - 1)))], [], Φ (mI A)) := by
  intro r
  induction r with
  | zero =>
    intro A hr hR hF h40
    have hle : w / 5 ^ (N - 0) ≤ w := Nat.div_le_self _ _
    generalize w / 5 ^ (N - 0) = y at hle
    refine V193_10 (Nat.zero_le _) hΦ hR (by omega) ?_
    exact ⟨fun _ => hQ A hR hF (fun k hk => h40 k (by omega) hk), fun h => absurd (show ((0 : Nat) : Int) - 1 < 0 by omega) h⟩
  | succ r ih =>
    intro A hr hR hF h40
    have hle : w / 5 ^ (N - (r + 1)) ≤ w := Nat.div_le_self _ _
    have e0 : w / 5 ^ (N - r) = w / 5 ^ (N - (r + 1)) / 5 := by rw [show N - r = N - (r + 1) + 1 by omega, Nat.pow_succ, ← Nat.div_div_eq_div_mul]
    have e3 : dgt N w r = w / 5 ^ (N - (r + 1)) % 5 := by unfold dgt; rw [show N - 1 - r = N - (r + 1) by omega]
    rw [e0] at ih
    generalize w / 5 ^ (N - (r + 1)) = y at hle ih e3 ⊢
    have e1 : ((y : Nat) : Int).tdiv 5 = ((y / 5 : Nat) : Int) := by rw [tdiv_pos (Int.natCast_nonneg y)]; rfl
    have e2 : ((y : Nat) : Int).tmod 5 = ((dgt N w r : Nat) : Int) := by rw [tmod_pos (Int.natCast_nonneg y), e3]; rfl
    have hd5 := dgt_5 (N := N) (w := w) (k := r)
    refine V193_10 (Nat.zero_le _) hΦ hR (by omega) ?_
    rw [e1, e2, show ((r + 1 : Nat) : Int) - 1 = (r : Int) by omega]
    refine ⟨fun h => absurd h (by omega), fun _ => ⟨by omega, by omega, ?_⟩⟩
    refine ih _ (by omega) (rg_UA hR (by omega)) (hF.row (by decide) (by decide)) (fun k h1 h2 => ?_)
    by_cases e : k = r
    · subst e; exact UA_eq
    · rw [UA_j (by omega)]; exact h40 k (by omega) h2
theorem L193b {d : Nat} {Q : Option Value → xM → Prop} {m : Nat} {Φ : (Nat → Nat → Int32) → xM} (hΦ : MLaw m Φ) {A0 : Nat → Int → Int} {set : Int} {N w : Nat} (hB : BoltsOK A0) (rs : Rg set)
    (hQ : ∀ A', RG A' → Fr [40, 42] [62, 63] A0 A' → (∀ k : Nat, k < N → A' 40 k = (dgt N w k : Nat)) → (∀ b : Nat, b < 4 → A' 42 b = bdL A0 b) → A' 0 62 = 0 → wpE (xT 193) (xev xT d) Q (98, [(0, .ref m), (2, .int (iz set)), (4, .int (iz 0)), (5, .int (iz 0))], [], Φ (mI A'))) :
    ∀ (r b : Nat) (A : Nat → Int → Int), b + r = 4 → RG A → Fr [40, 42] [62, 63] A0 A → (∀ k : Nat, k < N → A 40 k = (dgt N w k : Nat)) → (∀ q : Nat, q < b → A 42 q = bdL A0 q) → wpE (xT 193) (xev xT d) Q (38, [(0, .ref m), (2, .int (iz set)), (4, .int (iz (b : Int)))], [], Φ (mI A)) := by
  have hB0 := hB.1
  intro r
  induction r with
  | zero =>
    intro b A hb hR hF h40 h42
    refine V193_38 (Nat.zero_le _) hΦ hR (by omega) ?_
    refine ⟨fun _ => ?_, fun h => absurd (show (4 : Int) ≤ b by omega) h⟩
    exact hQ _ (rg_UA hR (by decide)) (hF.fld (by decide)) (fun k hk => by rw [UA_c (by decide)]; exact h40 k hk) (fun q hq => by rw [UA_c (by decide)]; exact h42 q (by omega)) UA_eq
  | succ r ih =>
    intro b A hb hR hF h40 h42
    have e8 : A 0 8 = A0 0 8 := hF.2 8 (by decide)
    have e7 : A 7 = A0 7 := hF.1 7 (by decide) (by decide)
    have es : A 8 = A0 8 := hF.1 8 (by decide) (by decide)
    have hgo : ∀ v : Int, Rg v → v = bdL A0 b → wpE (xT 193) (xev xT d) Q (38, [(0, .ref m), (2, .int (iz set)), (4, .int (iz ((b : Int) + 1)))], [], Φ (mI (UA A 42 b v))) := fun v hv he => by
      refine ih (b + 1) _ (by omega) (rg_UA hR hv) (hF.row (by decide) (by decide)) (fun k hk => by rw [UA_c (by decide)]; exact h40 k hk) (fun q hq => ?_)
      by_cases e : q = b
      · subst e; rw [UA_eq]; exact he
      · rw [UA_j (by omega)]; exact h42 q (by omega)
    have hr8 := hR 8 b
    rw [es] at hr8
    refine V193_38 (Nat.zero_le _) hΦ hR (by omega) ?_
    rw [e8, e7, es]
    refine ⟨fun h => absurd h (by omega), fun _ => ⟨fun c => ⟨by omega, by omega, hgo 0 (by decide) (by unfold bdL; rw [if_neg (by omega)])⟩, fun c => ⟨by omega, fun c2 => ⟨by omega, by omega, hgo _ hr8 (by unfold bdL; rw [if_pos (by omega)])⟩, fun c2 => ⟨by omega, by omega, hgo 0 (by decide) (by unfold bdL; rw [if_neg (by omega)])⟩⟩⟩⟩
theorem bdL_b {A : Nat → Int → Int} (hB : BoltsOK A) : ∀ b, 0 ≤ bdL A b ∧ bdL A b ≤ 9999 := fun b => by
  unfold bdL
  split
  · rename_i h
    have := (hB.2 b (by omega) h.1).2.1
    omega
  · omega
theorem S193 {d : Nat} (hd : 1 ≤ d) {m : Nat} {Φ : (Nat → Nat → Int32) → xM} (hΦ : MLaw m Φ) {A : Nat → Int → Int} (hR : RG A) {x1 x2 : Int} (rr : Rg x1 ∧ Rg x2) (hp : (BoltsOK A) ∧ (0 ≤ A 0 13 ∧ A 0 13 ≤ 8) ∧ (0 ≤ x1 ∧ x1 ≤ 400000) ∧ (∀ k : Int, 0 ≤ k → k < A 0 13 → 0 ≤ A 39 k ∧ A 39 k ≤ 1000000)) : ∃ (r : Int) (A' : Nat → Int → Int), xev xT d 193 [.ref m, .int (iz x1), .int (iz x2)] (Φ (mI A)) (some (.int (iz r))) (Φ (mI A')) ∧ Rg r ∧ RG A' ∧ (Fr [40, 42] [62, 63] A A' ∧ (∀ k : Nat, (k : Int) < A 0 13 → A' 40 k = (dgt (A 0 13).toNat (x1).toNat k : Nat)) ∧ (cuS (bdN A) (bdT x2) (dgt (A 0 13).toNat (x1).toNat) (bdL A) (A 0 13).toNat = none → r = 0) ∧ ∀ l c bt, cuS (bdN A) (bdT x2) (dgt (A 0 13).toNat (x1).toNat) (bdL A) (A 0 13).toNat = some (l, c, bt) → r = 1 ∧ A' 0 62 = (c : Nat) ∧ A' 0 63 = pc bt) := by
  refine xev_g (i := 193) (as := [.ref m, .int (iz x1), .int (iz x2)]) (σ := Φ (mI A)) (Q := fun r_ σ_ => ∃ (r : Int) (A' : Nat → Int → Int), r_ = (some (.int (iz r))) ∧ σ_ = Φ (mI A') ∧ Rg r ∧ RG A' ∧ (Fr [40, 42] [62, 63] A A' ∧ (∀ k : Nat, (k : Int) < A 0 13 → A' 40 k = (dgt (A 0 13).toNat (x1).toNat k : Nat)) ∧ (cuS (bdN A) (bdT x2) (dgt (A 0 13).toNat (x1).toNat) (bdL A) (A 0 13).toNat = none → r = 0) ∧ ∀ l c bt, cuS (bdN A) (bdT x2) (dgt (A 0 13).toNat (x1).toNat) (bdL A) (A 0 13).toNat = some (l, c, bt) → r = 1 ∧ A' 0 62 = (c : Nat) ∧ A' 0 63 = pc bt)) (D := 0) hd (Nat.le_of_ble_eq_true rfl) (fun r_ σ_ he hq => ?_) (fun d hd => V193_0 hd hΦ hR rr ?_)
  · obtain ⟨r, A', rfl, rfl, hq⟩ := hq
    exact ⟨r, A', he, hq⟩

  obtain ⟨hB, hN, hw, hn⟩ := hp
  obtain ⟨N, hNe⟩ : ∃ N : Nat, A 0 13 = N := ⟨(A 0 13).toNat, by omega⟩
  obtain ⟨w, hwe⟩ : ∃ w : Nat, x1 = w := ⟨x1.toNat, by omega⟩
  subst hwe
  rw [hNe] at hN hn ⊢
  have ebn : bdN A = fun k => if k < N then A 39 k else 0 := by
    funext k; unfold bdN; rw [hNe]
    by_cases q : k < N
    · rw [if_pos q, if_pos (by omega)]
    · rw [if_neg q, if_neg (by omega)]
  rw [ebn]
  show Rg ((N : Int) - 1) ∧ _
  refine ⟨by omega, ?_⟩
  have key := L193a (d := d) (Q := fun r_ σ_ => ∃ (r : Int) (A' : Nat → Int → Int), r_ = (some (.int (iz r))) ∧ σ_ = Φ (mI A') ∧ Rg r ∧ RG A' ∧ (Fr [40, 42] [62, 63] A A' ∧ (∀ k : Nat, (k : Int) < (N : Int) → A' 40 k = (dgt (N : Int).toNat (w : Int).toNat k : Nat)) ∧ (cuS (fun k => if k < N then A 39 k else 0) (bdT x2) (dgt (N : Int).toNat (w : Int).toNat) (bdL A) (N : Int).toNat = none → r = 0) ∧ ∀ l c bt, cuS (fun k => if k < N then A 39 k else 0) (bdT x2) (dgt (N : Int).toNat (w : Int).toNat) (bdL A) (N : Int).toNat = some (l, c, bt) → r = 1 ∧ A' 0 62 = (c : Nat) ∧ A' 0 63 = pc bt)) hΦ (A0 := A) (set := x2) (N := N) (w := w) (by omega) (by omega) rr.2 (fun A1 hR1 hF1 h40 => ?_) N A (Nat.le_refl N) hR Fr.rf (fun k h1 h2 => by omega)
  · rw [Nat.sub_self, Nat.pow_zero, Nat.div_one] at key
    exact key
  · refine L193b hΦ hB rr.2 (fun A2 hR2 hF2 h402 h42 h62 => ?_) 4 0 A1 rfl hR1 hF1 h40 (fun q hq => absurd hq (by omega))
    refine L193c hΦ (A0 := A) (a := dgt N w) (l0 := bdL A) (N := N) (fun k => dgt_5) (bdL_b hB) hNe (by omega) (fun k hk => hn k (by omega) (by omega)) rr.2 (fun A' hR' hF' q1 q2 => ?_) (fun A' l c bt hR' hF' q1 q2 q3 q4 => ?_) N 0 A2 (bdL A) 0 0 (by omega) hR2 hF2 h402 rfl h42 h62
    · exact ⟨0, A', rfl, rfl, by decide, hR', hF', fun k hk => q1 k (by omega), fun _ => rfl, fun l c bt q3 => by rw [show (N : Int).toNat = N from rfl, show (w : Int).toNat = w from rfl, q2] at q3; cases q3⟩
    · refine ⟨1, A', rfl, rfl, by decide, hR', hF', fun k hk => q1 k (by omega), fun q5 => (by rw [show (N : Int).toNat = N from rfl, show (w : Int).toNat = w from rfl, q2] at q5; cases q5), fun l' c' bt' q5 => ?_⟩
      rw [show (N : Int).toNat = N from rfl, show (w : Int).toNat = w from rfl, q2] at q5
      simp only [Option.some.injEq, Prod.mk.injEq] at q5
      obtain ⟨rfl, rfl, rfl⟩ := q5
      exact ⟨rfl, q3, q4⟩
