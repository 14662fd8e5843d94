def k_at (A : Nat → Int → Int) (p : Int) : Int := if p < 0 ∨ A 1 1 ≤ p ∨ 160 ≤ p then -1 else A 2 p
theorem rg_at {A : Nat → Int → Int} (h : RG A) {p : Int} : Rg (k_at A p) := rg_ite (by decide) (h _ _)
def k_put (A : Nat → Int → Int) (b : Int) : Nat → Int → Int := if A 1 1 < 160 then UA (UA A 2 (A 1 1) b) 1 1 (A 1 1 + 1) else A
theorem rg_kput {A : Nat → Int → Int} (h : RG A) {b : Int} (hb : Rg b) (h0 : 0 ≤ A 1 1) : RG (k_put A b) := by
  unfold k_put
  split
  · exact rg_UA (rg_UA h hb) ⟨by omega, by omega⟩
  · exact h
/-- frames: all but the rows rs and the fields fs of the object o is as before -/
def Fo (o : Nat) (rs : List Nat) (fs : List Int) (A A' : Nat → Int → Int) : Prop := (∀ c, c ∉ rs → ¬ c = o → A' c = A c) ∧ ∀ j, j ∉ fs → A' o j = A o j
theorem Fo.rf {o : Nat} {rs : List Nat} {fs : List Int} {A : Nat → Int → Int} : Fo o rs fs A A := ⟨fun _ _ _ => rfl, fun _ _ => rfl⟩
theorem Fo.tr {o : Nat} {rs : List Nat} {fs : List Int} {A A' A'' : Nat → Int → Int} (h : Fo o rs fs A A') (h' : Fo o rs fs A' A'') : Fo o rs fs A A'' := ⟨fun c h1 h2 => (h'.1 c h1 h2).trans (h.1 c h1 h2), fun j h1 => (h'.2 j h1).trans (h.2 j h1)⟩
theorem Fo.mono {o : Nat} {rs rs' : List Nat} {fs fs' : List Int} {A A' : Nat → Int → Int} (h : Fo o rs fs A A') (h1 : ∀ c, c ∈ rs → c ∈ rs') (h2 : ∀ j, j ∈ fs → j ∈ fs') : Fo o rs' fs' A A' := ⟨fun c q1 q2 => h.1 c (fun q => q1 (h1 c q)) q2, fun j q => h.2 j (fun q' => q (h2 j q'))⟩
theorem Fo.row {o : Nat} {rs : List Nat} {fs : List Int} {A A' : Nat → Int → Int} {c : Nat} {j v : Int} (h : Fo o rs fs A A') (hc : c ∈ rs) (h0 : ¬ c = o) : Fo o rs fs A (UA A' c j v) := ⟨fun q q1 q2 => by
  funext i; rw [UA_c (fun e => q1 (by rw [e]; exact hc)), h.1 q q1 q2], fun i hi => by rw [UA_c (fun e => h0 e.symm)]; exact h.2 i hi⟩
theorem Fo.fld {o : Nat} {rs : List Nat} {fs : List Int} {A A' : Nat → Int → Int} {j v : Int} (h : Fo o rs fs A A') (hj : j ∈ fs) : Fo o rs fs A (UA A' o j v) := ⟨fun q q1 q2 => by
  funext i; rw [UA_c q2, h.1 q q1 q2], fun i hi => by rw [UA_j (fun e => hi (by rw [e]; exact hj))]; exact h.2 i hi⟩
/-- the tape against the model's tape t -/
def TpR (A : Nat → Int → Int) (t : Int → Int) : Prop := (0 ≤ A 1 1 ∧ A 1 1 ≤ 160) ∧ TapeB t ∧ ∀ i : Int, 0 ≤ i → i < A 1 1 → A 2 i = t i % 256
theorem TpR.at {A : Nat → Int → Int} {t : Int → Int} (h : TpR A t) {p : Int} (h0 : 0 ≤ p) : (A 1 1 ≤ p → k_at A p = -1) ∧ (p < A 1 1 → k_at A p = t p % 256 ∧ -128 ≤ t p ∧ t p ≤ 127) := by
  unfold k_at
  refine ⟨fun q => by rw [if_pos (by omega)], fun q => ?_⟩
  rw [if_neg (by have := h.1; omega)]
  exact ⟨h.2.2 p h0 q, h.2.1 p⟩
def SOK (W : gW) (P : Nat → Int → Nat) (a : Nat) : Prop := (gK W a = 41 ∨ gK W a = 43) ∧ P a 30 = (a + 1) + 1 ∧ (gK W (a + 1) = 42 ∨ gK W (a + 1) = 43) ∧ (gL W (a + 1) : Int) ≤ 1000
theorem ch_b0 : ∀ v : Nat, v < 128 → ichr (iand (v : Int) 255) = v ∧ narrow .char (.int (iz (v : Int))) = .int (iz (v : Int)) := by decide
theorem ch_b {v : Int} (h : 0 ≤ v ∧ v ≤ 127) : ichr (iand v 255) = v ∧ narrow .char (.int (iz v)) = .int (iz v) := by
  have := ch_b0 v.toNat (by omega)
  rw [show ((v.toNat : Nat) : Int) = v by omega] at this
  exact this
theorem ishr_0 {x : Int} (h : Rg x) : ishr x 0 = x := by
  unfold ishr
  rw [show iz 0 &&& 31 = 0 from rfl]
  have : iz x >>> (0 : Int32) = iz x := by simp
  rw [this, iz_t h]
def spB (f g : Int → Int) (b : Int) : Nat → Bool
  | 0 => true
  | n + 1 => spB f g b n && decide (f n = g (b + n))
theorem spB_iff {f g : Int → Int} {b : Int} : ∀ {n : Nat}, spB f g b n = true ↔ ∀ i : Nat, i < n → f i = g (b + i)
  | 0 => ⟨fun _ i h => absurd h (Nat.not_lt_zero i), fun _ => rfl⟩
  | n + 1 => by
    have ih := spB_iff (f := f) (g := g) (b := b) (n := n)
    show (spB f g b n && decide (f n = g (b + n))) = true ↔ _
    rw [Bool.and_eq_true, ih, decide_eq_true_iff]
    constructor
    · rintro ⟨h1, h2⟩ i hi
      by_cases e : i = n
      · subst e; exact h2
      · exact h1 i (by omega)
    · intro h
      exact ⟨fun i hi => h i (by omega), h n (by omega)⟩
def wdR (w : Int) : Nat := if 0 ≤ w ∧ w ≤ 9 then 502 + 2 * w.toNat else 522
theorem rg_SL {W : gW} {P : Nat → Int → Nat} {a : Nat} (h : SOK W P a) : Rg (gL W (a + 1) : Int) := ⟨by omega, by have := h.2.2.2; omega⟩
theorem V18_0 {d : Nat} (hd : 0 ≤ d) {Q : Option Value → xM → Prop} {W : gW} (hW : HW W) {A : Nat → Int → Int} {P : Nat → Int → Nat} (hR : RG A) (hT : Stat W P) (hG : GL W) {x1 : Int} (rr : Rg x1) (h : (((x1 < 0) → Q (some (.int (iz (-1)))) (Wm W A P)) ∧ (¬ (x1 < 0) → ((((A 1 1) ≤ x1) → Q (some (.int (iz (-1)))) (Wm W A P)) ∧ (¬ ((A 1 1) ≤ x1) → (((x1 < 160) → (0 ≤ x1 ∧ x1 < 160) ∧ Q (some (.int (iz (A 2 x1)))) (Wm W A P)) ∧ (¬ (x1 < 160) → Q (some (.int (iz (-1)))) (Wm W A P)))))))) : wpE (xT 18) (xev xT d) Q (0, [(0, .ref (lo W 1)), (1, .int (iz x1))], [], Wm W A P) := by
  refine p_ild (cc3 c18_0) rfl ?_
  refine i_if (c' := x1 < 0) (cc3 c18_1) (c_lt0 rr) (fun c => ?_) (fun c => ?_)
  · have h := h.1 c
    refine p_lc (ls' := []) c18_19 rfl rfl ?_
    refine i_push (n := (-1)) (cct c18_19 rfl) zl_m1 ?_
    refine p_goto (cc3 c18_20) ?_
    exact p_ri (cct c18_29 rfl) trivial h
  · have h := h.2 c
    refine p_ild (cc3 c18_4) rfl ?_
    refine p_ald (cc3 c18_5) rfl ?_
    refine w_geti hW (v := A 1 1) (cc3 c18_6) (st_k hT 1 9 (by decide)) (ji := 1) rfl rfl ?_
    refine i_icmp (c' := (A 1 1) ≤ x1) (cc3 c18_9) (iz_le (hR 1 1) rr) (fun c => ?_) (fun c => ?_)
    · have h := h.1 c
      refine p_lc (ls' := []) c18_19 rfl rfl ?_
      refine i_push (n := (-1)) (cct c18_19 rfl) zl_m1 ?_
      refine p_goto (cc3 c18_20) ?_
      exact p_ri (cct c18_29 rfl) trivial h
    · have h := h.2 c
      refine p_ild (cc3 c18_12) rfl ?_
      refine i_push (n := 160) (cc3 c18_13) zl_160 ?_
      refine i_icmp (c' := x1 < 160) (cc3 c18_16) (iz_lt rr (by decide : Rg (160 : Int))) (fun c => ?_) (fun c => ?_)
      · have h := h.1 c
        refine p_ald (cc3 c18_23) rfl ?_
        refine w_getp hW hT.1 (b := 2) (cc3 c18_24) (st_k hT 1 9 (by decide)) (ji := 0) rfl (st_p hT 1 0 2 (by decide)) ?_
        refine p_ild (cc3 c18_27) rfl ?_
        obtain ⟨g1, h⟩ := h
        refine w_aldi hW (v := A 2 x1) (cc3 c18_28) (st_k hT 2 20 (by decide)) (st_i hT 2 160 (by decide) g1) rfl ?_
        refine p_lc (ls' := []) c18_29 rfl rfl ?_
        exact p_ri (cct c18_29 rfl) trivial h
      · have h := h.2 c
        refine p_lc (ls' := []) c18_19 rfl rfl ?_
        refine i_push (n := (-1)) (cct c18_19 rfl) zl_m1 ?_
        refine p_goto (cc3 c18_20) ?_
        exact p_ri (cct c18_29 rfl) trivial h
theorem S18 {d : Nat} (hd : 1 ≤ d) {W : gW} (hW : HW W) {A : Nat → Int → Int} {P : Nat → Int → Nat} (hR : RG A) (hT : Stat W P) (hG : GL W) {x1 : Int} (rr : Rg x1) : xev xT d 18 [.ref (lo W 1), .int (iz x1)] (Wm W A P) (some (.int (iz (k_at A x1)))) (Wm W A P) := by
  refine xev_i (D := 0) hd (Nat.le_of_ble_eq_true rfl) (fun d hd => V18_0 hd hW hR hT hG rr ?_)
  repeat' (first | refine And.intro ?_ ?_ | intro _)
  all_goals (first | assumption | rfl | omega | (refine congrArg (fun z => some (Value.int (iz z))) ?_; first | omega | exact (bI_f (by omega)).symm | exact (bI_t (by omega)).symm | exact bI_i (by omega)) | (refine congrArg (fun z => some (Value.int (iz z))) ?_; (try unfold k_at); (repeat' split) <;> first | rfl | omega | (exfalso; omega)))
theorem V15_0 {d : Nat} (hd : 0 ≤ d) {Q : Option Value → xM → Prop} {W : gW} (hW : HW W) {A : Nat → Int → Int} {P : Nat → Int → Nat} (hR : RG A) (hT : Stat W P) (hG : GL W) {x1 : Int} (rr : Rg x1) (h : (((160 ≤ (A 1 1)) → Q none (Wm W A P)) ∧ (¬ (160 ≤ (A 1 1)) → (0 ≤ (A 1 1) ∧ (A 1 1) < 160) ∧ (Rg ((A 1 1) + 1)) ∧ Q none (Wm W (UA (UA A 2 (A 1 1) x1) 1 1 ((A 1 1) + 1)) P)))) : wpE (xT 15) (xev xT d) Q (0, [(0, .ref (lo W 1)), (1, .int (iz x1))], [], Wm W A P) := by
  refine p_ald (cc3 c15_0) rfl ?_
  refine w_geti hW (v := A 1 1) (cc3 c15_1) (st_k hT 1 9 (by decide)) (ji := 1) rfl rfl ?_
  refine i_push (n := 160) (cc3 c15_4) zl_160 ?_
  refine i_icmp (c' := 160 ≤ (A 1 1)) (cc3 c15_7) (iz_le (by decide : Rg (160 : Int)) (hR 1 1)) (fun c => ?_) (fun c => ?_)
  · have h := h.1 c
    refine p_lc (ls' := []) c15_30 rfl rfl ?_
    exact p_rv (cct c15_30 rfl) h
  · have h := h.2 c
    refine p_ald (cc3 c15_10) rfl ?_
    refine w_getp hW hT.1 (b := 2) (cc3 c15_11) (st_k hT 1 9 (by decide)) (ji := 0) rfl (st_p hT 1 0 2 (by decide)) ?_
    refine p_ald (cc3 c15_14) rfl ?_
    refine w_geti hW (v := A 1 1) (cc3 c15_15) (st_k hT 1 9 (by decide)) (ji := 1) rfl rfl ?_
    refine p_ild (cc3 c15_18) rfl ?_
    obtain ⟨g1, h⟩ := h
    refine id (α := Rg x1 → _) (fun _ => ?_) rr; refine w_asti hW (cc3 c15_19) (st_k hT 2 20 (by decide)) (st_i hT 2 160 (by decide) g1) rfl ?_
    refine p_ald (cc3 c15_20) rfl ?_
    refine p_dup (cc3 c15_21) rfl ?_
    refine w_geti hW (v := A 1 1) (cc3 c15_22) (st_k hT 1 9 (by decide)) (ji := 1) rfl (by first | rfl | exact UA_eq | exact UA_j (by decide) | exact UA_c (by decide)) ?_
    refine i_push (n := 1) (cc3 c15_25) zl_1 ?_
    obtain ⟨g2, h⟩ := h
    refine (fun _ : Rg ((A 1 1) + 1) => i_add (cc3 c15_26) ?_) g2
    refine id (α := Rg ((A 1 1) + 1) → _) (fun _ => ?_) g2; refine w_puti hW (cc3 c15_27) (st_k hT 1 9 (by decide)) (ji := 1) rfl ?_
    refine p_lc (ls' := []) c15_30 rfl rfl ?_
    exact p_rv (cct c15_30 rfl) h
theorem S15 {d : Nat} (hd : 1 ≤ d) {W : gW} (hW : HW W) {A : Nat → Int → Int} {P : Nat → Int → Nat} (hR : RG A) (hT : Stat W P) (hG : GL W) {x1 : Int} (rr : Rg x1) (hp : (0 ≤ A 1 1)) : xev xT d 15 [.ref (lo W 1), .int (iz x1)] (Wm W A P) none (Wm W (k_put A x1) P) := by
  refine xev_i (D := 0) hd (Nat.le_of_ble_eq_true rfl) (fun d hd => V15_0 hd hW hR hT hG rr ?_)

  exact ⟨fun c => ⟨rfl, by unfold k_put; rw [if_neg (by omega)]⟩, fun c => ⟨⟨hp, by omega⟩, ⟨by omega, by omega⟩, rfl, by unfold k_put; rw [if_pos (by omega)]⟩⟩
theorem V14_0 {d : Nat} (hd : 0 ≤ d) {Q : Option Value → xM → Prop} {W : gW} (hW : HW W) {A : Nat → Int → Int} {P : Nat → Int → Nat} (hR : RG A) (hT : Stat W P) (hG : GL W) {x0 x1 : Int} {v2 : Value} (rr : Rg x0 ∧ Rg x1) (h : (((x0 < 0) → False) ∧ (¬ (x0 < 0) → (((x0 < x1) → Q (some (.int (iz x0))) (Wm W A P)) ∧ (¬ (x0 < x1) → False))))) : wpE (xT 14) (xev xT d) Q (0, [(0, .int (iz x0)), (1, .int (iz x1)), (2, v2)], [], Wm W A P) := by
  refine p_ild (cc3 c14_0) rfl ?_
  refine i_if (c' := x0 < 0) (cc3 c14_1) (c_lt0 rr.1) (fun c => ?_) (fun c => ?_)
  · have h := h.1 c
    exact h.elim
  · have h := h.2 c
    refine p_ild (cc3 c14_4) rfl ?_
    refine p_ild (cc3 c14_5) rfl ?_
    refine i_icmp (c' := x0 < x1) (cc3 c14_6) (iz_lt rr.1 rr.2) (fun c => ?_) (fun c => ?_)
    · have h := h.1 c
      refine p_ild (cc3 c14_16) rfl ?_
      exact p_ri (cc3 c14_17) trivial h
    · have h := h.2 c
      exact h.elim
theorem gF_c {W : gW} : (gF W).category = 1 := by unfold gF; split <;> rfl
theorem S14 {d : Nat} (hd : 1 ≤ d) {W : gW} (hW : HW W) {A : Nat → Int → Int} {P : Nat → Int → Nat} (hR : RG A) (hT : Stat W P) (hG : GL W) {x0 x1 : Int} (rr : Rg x0 ∧ Rg x1) (hp : (0 ≤ x0 ∧ x0 < x1)) : xev xT d 14 [.int (iz x0), .int (iz x1), gF W] (Wm W A P) (some (.int (iz x0))) (Wm W A P) := by
  refine xev_i (D := 0) hd ?_ (fun d hd => V14_0 hd hW hR hT hG rr ?_)
  · show 1 + (1 + ((gF W).category + 0)) ≤ mL 14
    rw [gF_c]; decide
  · exact ⟨fun c => by omega, fun _ => ⟨fun _ => ⟨rfl, rfl⟩, fun c => by omega⟩⟩
theorem V13_0 {d : Nat} (hd : 1 ≤ d) {Q : Option Value → xM → Prop} {W : gW} (hW : HW W) {A : Nat → Int → Int} {P : Nat → Int → Nat} (hR : RG A) (hT : Stat W P) (hG : GL W) {x0 x1 : Int} (rr : Rg x0 ∧ Rg x1) (h : (0 ≤ x0 ∧ x0 < x1) ∧ Q none (Wm W A P)) : wpE (xT 13) (xev xT d) Q (0, [(0, .int (iz x0)), (1, .int (iz x1))], [], Wm W A P) := by
  refine p_ild (cc3 c13_0) rfl ?_
  refine p_ild (cc3 c13_1) rfl ?_
  refine w_grefz hW (cc3 c13_2) ?_
  obtain ⟨g1, h⟩ := h
  refine p_callS (cc3 c13_5) (Nat.le_of_ble_eq_true rfl) rfl rfl (Nat.le_of_ble_eq_true rfl) (S14 (Nat.le_trans (by decide) hd) hW hR hT hG ⟨rr.1, rr.2⟩ g1) ?_
  refine p_pop (cc3 c13_8) rfl ?_
  exact p_rv (cc3 c13_9) h
theorem S13 {d : Nat} (hd : 2 ≤ d) {W : gW} (hW : HW W) {A : Nat → Int → Int} {P : Nat → Int → Nat} (hR : RG A) (hT : Stat W P) (hG : GL W) {x0 x1 : Int} (rr : Rg x0 ∧ Rg x1) (hp : (0 ≤ x0 ∧ x0 < x1)) : xev xT d 13 [.int (iz x0), .int (iz x1)] (Wm W A P) none (Wm W A P) := by
  refine xev_i (D := 1) hd (Nat.le_of_ble_eq_true rfl) (fun d hd => V13_0 hd hW hR hT hG rr ?_)

  exact ⟨hp, rfl, rfl⟩
theorem V12_0 {d : Nat} (hd : 2 ≤ d) {Q : Option Value → xM → Prop} {W : gW} (hW : HW W) {A : Nat → Int → Int} {P : Nat → Int → Nat} (hR : RG A) (hT : Stat W P) (hG : GL W) {x1 : Int} {a0 : Nat} (rr : Rg x1) (h : (gK W a0 = 42 ∨ gK W a0 = 43) ∧ (Rg (gL W a0 : Int)) ∧ (0 ≤ x1 ∧ x1 < (gL W a0 : Int)) ∧ (0 ≤ x1 ∧ x1 < gL W a0 ∧ x1 ≤ 2147483647) ∧ ((narrow .char (.int (iz (ichr (iand (A a0 x1) 255)))) = .int (iz (ichr (iand (A a0 x1) 255)))) ∧ Q (some (.int (iz (ichr (iand (A a0 x1) 255))))) (Wm W A P))) : wpE (xT 12) (xev xT d) Q (0, [(0, .ref (lo W a0)), (1, .int (iz x1))], [], Wm W A P) := by
  refine p_ild (cc3 c12_0) rfl ?_
  refine p_ald (cc3 c12_1) rfl ?_
  obtain ⟨g1, h⟩ := h
  refine w_lenB hW (cc3 c12_2) g1 ?_
  obtain ⟨g2, h⟩ := h
  obtain ⟨g3, h⟩ := h
  refine p_callS (cc3 c12_3) (Nat.le_of_ble_eq_true rfl) rfl rfl (Nat.le_of_ble_eq_true rfl) (S13 (Nat.le_trans (by decide) hd) hW hR hT hG ⟨rr, g2⟩ g3) ?_
  refine p_ald (cc3 c12_6) rfl ?_
  refine p_ild (cc3 c12_7) rfl ?_
  obtain ⟨g4, h⟩ := h
  refine w_aldB hW (cc3 c12_8) g1 g4 ?_
  refine i_push (n := 255) (cc3 c12_9) zl_255 ?_
  refine i_op (z := iand (A a0 x1) 255) (cc3 c12_12) (iz_of _).symm ?_
  refine i_un (z := ichr (iand (A a0 x1) 255)) (cc3 c12_13) (iz_of _).symm ?_
  exact p_ri (cc3 c12_14) h.1 h.2
theorem S12 {d : Nat} (hd : 3 ≤ d) {W : gW} (hW : HW W) {A : Nat → Int → Int} {P : Nat → Int → Nat} (hR : RG A) (hT : Stat W P) (hG : GL W) {x1 : Int} {a0 : Nat} (rr : Rg x1) (hp : (gK W a0 = 42 ∨ gK W a0 = 43) ∧ (0 ≤ x1 ∧ x1 < gL W a0) ∧ ((gL W a0 : Int) ≤ 1000) ∧ (0 ≤ A a0 x1 ∧ A a0 x1 ≤ 127)) : xev xT d 12 [.ref (lo W a0), .int (iz x1)] (Wm W A P) (some (.int (iz (A a0 x1)))) (Wm W A P) := by
  refine xev_i (D := 2) hd (Nat.le_of_ble_eq_true rfl) (fun d hd => V12_0 hd hW hR hT hG rr ?_)

  obtain ⟨p1, p2, p3, p4⟩ := hp
  have hc := ch_b p4
  refine ⟨p1, ⟨by omega, by omega⟩, p2, ⟨p2.1, p2.2, by omega⟩, ?_⟩
  rw [hc.1]
  exact ⟨hc.2, rfl, rfl⟩
theorem V11_0 {d : Nat} (hd : 0 ≤ d) {Q : Option Value → xM → Prop} {W : gW} (hW : HW W) {A : Nat → Int → Int} {P : Nat → Int → Nat} (hR : RG A) (hT : Stat W P) (hG : GL W) {a0 : Nat} (h : (gK W a0 = 41 ∨ gK W a0 = 43) ∧ Q (some (.int (iz 1))) (Wm W A P)) : wpE (xT 11) (xev xT d) Q (0, [(0, .ref (lo W a0))], [], Wm W A P) := by
  refine i_push (n := 1) (cc3 c11_0) zl_1 ?_
  refine i_if (c' := (1 : Int) = 0) (cc3 c11_3) (c_eq0 (by decide : Rg (1 : Int))) (fun c => ?_) (fun c => ?_)
  · exact absurd c (by decide)
  · skip
    refine p_ald (cc3 c11_6) rfl ?_
    obtain ⟨g1, h⟩ := h
    refine w_getSc hW (cc3 c11_7) g1 ?_
    refine i_if (c' := (0 : Int) = 0) (cc3 c11_10) (c_eq0 (by decide : Rg (0 : Int))) (fun c => ?_) (fun c => ?_)
    · skip
      refine i_push (n := 1) (cc3 c11_13) zl_1 ?_
      refine p_goto (cc3 c11_14) ?_
      refine p_lc (ls' := []) c11_18 rfl rfl ?_
      exact i_ri (cct c11_18 rfl) (by decide) h
    · exact absurd (by decide) c
theorem S11 {d : Nat} (hd : 1 ≤ d) {W : gW} (hW : HW W) {A : Nat → Int → Int} {P : Nat → Int → Nat} (hR : RG A) (hT : Stat W P) (hG : GL W) {a0 : Nat} (hp : (gK W a0 = 41 ∨ gK W a0 = 43)) : xev xT d 11 [.ref (lo W a0)] (Wm W A P) (some (.int (iz (bI ((0 : Int) = 0))))) (Wm W A P) := by
  refine xev_i (D := 0) hd (Nat.le_of_ble_eq_true rfl) (fun d hd => V11_0 hd hW hR hT hG ?_)
  exact ⟨hp, rfl, rfl⟩
theorem V9_0 {d : Nat} (hd : 0 ≤ d) {Q : Option Value → xM → Prop} {W : gW} (hW : HW W) {A : Nat → Int → Int} {P : Nat → Int → Nat} (hR : RG A) (hT : Stat W P) (hG : GL W) {a0 : Nat} (h : (gK W a0 = 41 ∨ gK W a0 = 43) ∧ ((narrow .byte (.int (iz 0)) = .int (iz 0)) ∧ Q (some (.int (iz 0))) (Wm W A P))) : wpE (xT 9) (xev xT d) Q (0, [(0, .ref (lo W a0))], [], Wm W A P) := by
  refine i_push (n := 1) (cc3 c9_0) zl_1 ?_
  refine i_if (c' := (1 : Int) = 0) (cc3 c9_3) (c_eq0 (by decide : Rg (1 : Int))) (fun c => ?_) (fun c => ?_)
  · exact absurd c (by decide)
  · skip
    refine p_ald (cc3 c9_6) rfl ?_
    obtain ⟨g1, h⟩ := h
    refine w_getSc hW (cc3 c9_7) g1 ?_
    refine p_goto (cc3 c9_10) ?_
    refine p_lc (ls' := []) c9_14 rfl rfl ?_
    exact p_ri (cct c9_14 rfl) h.1 h.2
theorem S9 {d : Nat} (hd : 1 ≤ d) {W : gW} (hW : HW W) {A : Nat → Int → Int} {P : Nat → Int → Nat} (hR : RG A) (hT : Stat W P) (hG : GL W) {a0 : Nat} (hp : (gK W a0 = 41 ∨ gK W a0 = 43)) : xev xT d 9 [.ref (lo W a0)] (Wm W A P) (some (.int (iz 0))) (Wm W A P) := by
  refine xev_i (D := 0) hd (Nat.le_of_ble_eq_true rfl) (fun d hd => V9_0 hd hW hR hT hG ?_)
  exact ⟨hp, rfl, rfl, rfl⟩
theorem V8_0 {d : Nat} (hd : 1 ≤ d) {Q : Option Value → xM → Prop} {W : gW} (hW : HW W) {A : Nat → Int → Int} {P : Nat → Int → Nat} (hR : RG A) (hT : Stat W P) (hG : GL W) {a0 : Nat} (h : (gK W a0 = 41 ∨ gK W a0 = 43) ∧ (P a0 30 = (a0 + 1) + 1) ∧ (gK W (a0 + 1) = 42 ∨ gK W (a0 + 1) = 43) ∧ Q (some (.int (iz (ishr (gL W (a0 + 1) : Int) 0)))) (Wm W A P)) : wpE (xT 8) (xev xT d) Q (0, [(0, .ref (lo W a0))], [], Wm W A P) := by
  refine p_ald (cc3 c8_0) rfl ?_
  obtain ⟨g1, h⟩ := h
  obtain ⟨g2, h⟩ := h
  refine w_getSv hW hT.1 (b := a0 + 1) (cc3 c8_1) g1 g2 ?_
  obtain ⟨g3, h⟩ := h
  refine w_lenB hW (cc3 c8_4) g3 ?_
  refine p_ald (cc3 c8_5) rfl ?_
  refine p_callW (cc3 c8_6) (Nat.le_of_ble_eq_true rfl) rfl rfl (Nat.le_of_ble_eq_true rfl) (wk_kdS hW g1) (S9 (Nat.le_trans (by decide) hd) hW hR hT hG g1) ?_
  refine i_op (z := ishr (gL W (a0 + 1) : Int) 0) (cc3 c8_9) (iz_of _).symm ?_
  exact p_ri (cc3 c8_10) trivial h
theorem S8 {d : Nat} (hd : 2 ≤ d) {W : gW} (hW : HW W) {A : Nat → Int → Int} {P : Nat → Int → Nat} (hR : RG A) (hT : Stat W P) (hG : GL W) {a0 : Nat} (hp : (SOK W P a0)) : xev xT d 8 [.ref (lo W a0)] (Wm W A P) (some (.int (iz (gL W (a0 + 1) : Int)))) (Wm W A P) := by
  refine xev_i (D := 1) hd (Nat.le_of_ble_eq_true rfl) (fun d hd => V8_0 hd hW hR hT hG ?_)

  obtain ⟨h1, h2, h3, h4⟩ := hp
  refine ⟨h1, h2, h3, ?_⟩
  rw [ishr_0 ⟨by omega, by omega⟩]
  exact ⟨rfl, rfl⟩
theorem V10_0 {d : Nat} (hd : 3 ≤ d) {Q : Option Value → xM → Prop} {W : gW} (hW : HW W) {A : Nat → Int → Int} {P : Nat → Int → Nat} (hR : RG A) (hT : Stat W P) (hG : GL W) {x1 : Int} {a0 : Nat} (rr : Rg x1) (h : (gK W a0 = 41 ∨ gK W a0 = 43) ∧ ((¬ ((0 : Int) = 0) → (P a0 30 = (a0 + 1) + 1) ∧ False) ∧ (((0 : Int) = 0) → (P a0 30 = (a0 + 1) + 1) ∧ (gK W (a0 + 1) = 42 ∨ gK W (a0 + 1) = 43) ∧ (0 ≤ x1 ∧ x1 < gL W (a0 + 1)) ∧ ((gL W (a0 + 1) : Int) ≤ 1000) ∧ (0 ≤ A (a0 + 1) x1 ∧ A (a0 + 1) x1 ≤ 127) ∧ ((narrow .char (.int (iz (A (a0 + 1) x1))) = .int (iz (A (a0 + 1) x1))) ∧ Q (some (.int (iz (A (a0 + 1) x1)))) (Wm W A P))))) : wpE (xT 10) (xev xT d) Q (0, [(0, .ref (lo W a0)), (1, .int (iz x1))], [], Wm W A P) := by
  refine p_ald (cc3 c10_0) rfl ?_
  obtain ⟨g1, h⟩ := h
  refine p_callW (cc3 c10_1) (Nat.le_of_ble_eq_true rfl) rfl rfl (Nat.le_of_ble_eq_true rfl) (wk_kdS hW g1) (S11 (Nat.le_trans (by decide) hd) hW hR hT hG g1) ?_
  refine i_ifB (cc3 c10_4) (fun c => ?_) (fun c => ?_)
  · have h := h.1 c
    refine p_ald (cc3 c10_16) rfl ?_
    obtain ⟨g2, h⟩ := h
    refine w_getSv hW hT.1 (b := a0 + 1) (cc3 c10_17) g1 g2 ?_
    refine p_ild (cc3 c10_20) rfl ?_
    exact h.elim
  · have h := h.2 c
    refine p_ald (cc3 c10_7) rfl ?_
    obtain ⟨g2, h⟩ := h
    refine w_getSv hW hT.1 (b := a0 + 1) (cc3 c10_8) g1 g2 ?_
    refine p_ild (cc3 c10_11) rfl ?_
    obtain ⟨g3, h⟩ := h
    obtain ⟨g4, h⟩ := h
    obtain ⟨g5, h⟩ := h
    obtain ⟨g6, h⟩ := h
    refine p_callS (cc3 c10_12) (Nat.le_of_ble_eq_true rfl) rfl rfl (Nat.le_of_ble_eq_true rfl) (S12 (Nat.le_trans (by decide) hd) hW hR hT hG rr ⟨g3, g4, g5, g6⟩) ?_
    exact p_ri (cc3 c10_15) h.1 h.2
theorem S10 {d : Nat} (hd : 4 ≤ d) {W : gW} (hW : HW W) {A : Nat → Int → Int} {P : Nat → Int → Nat} (hR : RG A) (hT : Stat W P) (hG : GL W) {x1 : Int} {a0 : Nat} (rr : Rg x1) (hp : (SOK W P a0) ∧ (0 ≤ x1 ∧ x1 < gL W (a0 + 1)) ∧ (0 ≤ A (a0 + 1) x1 ∧ A (a0 + 1) x1 ≤ 127)) : xev xT d 10 [.ref (lo W a0), .int (iz x1)] (Wm W A P) (some (.int (iz (A (a0 + 1) x1)))) (Wm W A P) := by
  refine xev_i (D := 3) hd (Nat.le_of_ble_eq_true rfl) (fun d hd => V10_0 hd hW hR hT hG rr ?_)

  obtain ⟨⟨h1, h2, h3, h4⟩, p2, p3⟩ := hp
  exact ⟨h1, fun c => absurd rfl c, fun _ => ⟨h2, h3, p2, h4, p3, (ch_b p3).2, rfl, rfl⟩⟩
theorem V22_0 {d : Nat} (hd : 0 ≤ d) {Q : Option Value → xM → Prop} {W : gW} (hW : HW W) {A : Nat → Int → Int} {P : Nat → Int → Nat} (hR : RG A) (hT : Stat W P) (hG : GL W) {x0 : Int} (rr : Rg x0) (h : (((x0 = 0) → Q (some (.ref (lo W 502))) (Wm W A P)) ∧ (¬ (x0 = 0) → ((x0 = 1) → Q (some (.ref (lo W 504))) (Wm W A P)) ∧ (¬ (x0 = 1) → ((x0 = 2) → Q (some (.ref (lo W 506))) (Wm W A P)) ∧ (¬ (x0 = 2) → ((x0 = 3) → Q (some (.ref (lo W 508))) (Wm W A P)) ∧ (¬ (x0 = 3) → ((x0 = 4) → Q (some (.ref (lo W 510))) (Wm W A P)) ∧ (¬ (x0 = 4) → ((x0 = 5) → Q (some (.ref (lo W 512))) (Wm W A P)) ∧ (¬ (x0 = 5) → ((x0 = 6) → Q (some (.ref (lo W 514))) (Wm W A P)) ∧ (¬ (x0 = 6) → ((x0 = 7) → Q (some (.ref (lo W 516))) (Wm W A P)) ∧ (¬ (x0 = 7) → ((x0 = 8) → Q (some (.ref (lo W 518))) (Wm W A P)) ∧ (¬ (x0 = 8) → ((x0 = 9) → Q (some (.ref (lo W 520))) (Wm W A P)) ∧ (¬ (x0 = 9) → Q (some (.ref (lo W 522))) (Wm W A P))))))))))))) : wpE (xT 22) (xev xT d) Q (0, [(0, .int (iz x0))], [], Wm W A P) := by
  refine p_ild (cc3 c22_0) rfl ?_
  refine (fun _ : Rg x0 => p_sw (cc3 c22_1) ?_) rr
  refine sw_c (n := 0) rr zl_0 (by decide) (fun c => ?_) (fun c => ?_)
  · have h := h.1 c
    refine w_gref hW (cc3 c22_56) (c := 502) (gz_t hG 1 (by decide)) ?_
    exact p_ra (cc3 c22_58) h
  · have h := h.2 c
    refine sw_c (n := 1) rr zl_1 (by decide) (fun c => ?_) (fun c => ?_)
    · have h := h.1 c
      refine w_gref hW (cc3 c22_59) (c := 504) (gz_t hG 2 (by decide)) ?_
      exact p_ra (cc3 c22_61) h
    · have h := h.2 c
      refine sw_c (n := 2) rr zl_2 (by decide) (fun c => ?_) (fun c => ?_)
      · have h := h.1 c
        refine w_gref hW (cc3 c22_62) (c := 506) (gz_t hG 3 (by decide)) ?_
        exact p_ra (cc3 c22_64) h
      · have h := h.2 c
        refine sw_c (n := 3) rr zl_3 (by decide) (fun c => ?_) (fun c => ?_)
        · have h := h.1 c
          refine w_gref hW (cc3 c22_65) (c := 508) (gz_t hG 4 (by decide)) ?_
          exact p_ra (cc3 c22_67) h
        · have h := h.2 c
          refine sw_c (n := 4) rr zl_4 (by decide) (fun c => ?_) (fun c => ?_)
          · have h := h.1 c
            refine w_gref hW (cc3 c22_68) (c := 510) (gz_t hG 5 (by decide)) ?_
            exact p_ra (cc3 c22_70) h
          · have h := h.2 c
            refine sw_c (n := 5) rr zl_5 (by decide) (fun c => ?_) (fun c => ?_)
            · have h := h.1 c
              refine w_gref hW (cc3 c22_71) (c := 512) (gz_t hG 6 (by decide)) ?_
              exact p_ra (cc3 c22_73) h
            · have h := h.2 c
              refine sw_c (n := 6) rr zl_6 (by decide) (fun c => ?_) (fun c => ?_)
              · have h := h.1 c
                refine w_gref hW (cc3 c22_74) (c := 514) (gz_t hG 7 (by decide)) ?_
                exact p_ra (cc3 c22_76) h
              · have h := h.2 c
                refine sw_c (n := 7) rr zl_7 (by decide) (fun c => ?_) (fun c => ?_)
                · have h := h.1 c
                  refine w_gref hW (cc3 c22_77) (c := 516) (gz_t hG 8 (by decide)) ?_
                  exact p_ra (cc3 c22_79) h
                · have h := h.2 c
                  refine sw_c (n := 8) rr zl_8 (by decide) (fun c => ?_) (fun c => ?_)
                  · have h := h.1 c
                    refine w_gref hW (cc3 c22_80) (c := 518) (gz_t hG 9 (by decide)) ?_
                    exact p_ra (cc3 c22_82) h
                  · have h := h.2 c
                    refine sw_c (n := 9) rr zl_9 (by decide) (fun c => ?_) (fun c => ?_)
                    · have h := h.1 c
                      refine w_gref hW (cc3 c22_83) (c := 520) (gz_t hG 10 (by decide)) ?_
                      exact p_ra (cc3 c22_85) h
                    · have h := h.2 c
                      refine sw_d ?_
                      refine w_gref hW (cc3 c22_86) (c := 522) (gz_t hG 11 (by decide)) ?_
                      exact p_ra (cc3 c22_88) h
theorem S22 {d : Nat} (hd : 1 ≤ d) {W : gW} (hW : HW W) {A : Nat → Int → Int} {P : Nat → Int → Nat} (hR : RG A) (hT : Stat W P) (hG : GL W) {x0 : Int} (rr : Rg x0) : xev xT d 22 [.int (iz x0)] (Wm W A P) (some (.ref (lo W (wdR x0)))) (Wm W A P) := by
  refine xev_i (D := 0) hd (Nat.le_of_ble_eq_true rfl) (fun d hd => V22_0 hd hW hR hT hG rr ?_)
  repeat' (first | refine And.intro ?_ ?_ | intro _)
  all_goals first | rfl | (subst_vars; rfl) | (refine congrArg (fun z => some (Value.ref (lo W z))) ?_; unfold wdR; rw [if_neg (by omega)])
theorem V23_0 {d : Nat} (hd : 4 ≤ d) {Q : Option Value → xM → Prop} {W : gW} (hW : HW W) {A : Nat → Int → Int} {P : Nat → Int → Nat} (hR : RG A) (hT : Stat W P) (hG : GL W) {a1 : Nat} (h : (SOK W P a1) ∧ (gK W a1 = 41 ∨ gK W a1 = 43) ∧ (Rg ((A 6 7) - (A 6 6))) ∧ ((((gL W (a1 + 1) : Int) = ((A 6 7) - (A 6 6))) → wpE (xT 23) (xev xT d) Q (20, [(0, .ref (lo W 6)), (1, .ref (lo W a1)), (2, .int (iz 0))], [], Wm W A P)) ∧ (¬ ((gL W (a1 + 1) : Int) = ((A 6 7) - (A 6 6))) → Q (some (.int (iz 0))) (Wm W A P)))) : wpE (xT 23) (xev xT d) Q (0, [(0, .ref (lo W 6)), (1, .ref (lo W a1))], [], Wm W A P) := by
  refine p_ald (cc3 c23_0) rfl ?_
  obtain ⟨g1, h⟩ := h
  obtain ⟨g2, h⟩ := h
  refine p_callW (cc3 c23_1) (Nat.le_of_ble_eq_true rfl) rfl rfl (Nat.le_of_ble_eq_true rfl) (wk_kdS hW g2) (S8 (Nat.le_trans (by decide) hd) hW hR hT hG g1) ?_
  refine p_ald (cc3 c23_4) rfl ?_
  refine w_geti hW (v := A 6 7) (cc3 c23_5) (st_k hT 6 11 (by decide)) (ji := 7) rfl rfl ?_
  refine p_ald (cc3 c23_8) rfl ?_
  refine w_geti hW (v := A 6 6) (cc3 c23_9) (st_k hT 6 11 (by decide)) (ji := 6) rfl rfl ?_
  obtain ⟨g3, h⟩ := h
  refine (fun _ : Rg ((A 6 7) - (A 6 6)) => i_sub (cc3 c23_12) ?_) g3
  refine i_icmp (c' := (gL W (a1 + 1) : Int) = ((A 6 7) - (A 6 6))) (cc3 c23_13) (iz_inj (rg_SL g1) g3) (fun c => ?_) (fun c => ?_)
  · have h := h.1 c
    refine i_push (n := 0) (cc3 c23_18) zl_0 ?_
    refine p_ist (ls' := [(2, .int (iz 0)), (0, .ref (lo W 6)), (1, .ref (lo W a1))]) (cc3 c23_19) (by decide) rfl ?_
    exact p_lc (ls' := [(0, .ref (lo W 6)), (1, .ref (lo W a1)), (2, .int (iz 0))]) c23_20 rfl rfl h
  · have h := h.2 c
    refine i_push (n := 0) (cc3 c23_16) zl_0 ?_
    exact i_ri (cc3 c23_17) (by decide) h
theorem V23_20 {d : Nat} (hd : 4 ≤ d) {Q : Option Value → xM → Prop} {W : gW} (hW : HW W) {A : Nat → Int → Int} {P : Nat → Int → Nat} (hR : RG A) (hT : Stat W P) (hG : GL W) {x2 : Int} {a1 : Nat} (rr : Rg x2) (h : (SOK W P a1) ∧ (gK W a1 = 41 ∨ gK W a1 = 43) ∧ ((((gL W (a1 + 1) : Int) ≤ x2) → Q (some (.int (iz 1))) (Wm W A P)) ∧ (¬ ((gL W (a1 + 1) : Int) ≤ x2) → (0 ≤ x2 ∧ x2 < gL W (a1 + 1)) ∧ (0 ≤ A (a1 + 1) x2 ∧ A (a1 + 1) x2 ≤ 127) ∧ (P 6 3 = 1 + 1) ∧ (Rg ((A 6 6) + x2)) ∧ ((((A (a1 + 1) x2) = (k_at A ((A 6 6) + x2))) → (Rg (x2 + 1)) ∧ wpE (xT 23) (xev xT d) Q (20, [(0, .ref (lo W 6)), (1, .ref (lo W a1)), (2, .int (iz (x2 + 1)))], [], Wm W A P)) ∧ (¬ ((A (a1 + 1) x2) = (k_at A ((A 6 6) + x2))) → Q (some (.int (iz 0))) (Wm W A P)))))) : wpE (xT 23) (xev xT d) Q (20, [(0, .ref (lo W 6)), (1, .ref (lo W a1)), (2, .int (iz x2))], [], Wm W A P) := by
  refine p_ild (cct c23_20 rfl) rfl ?_
  refine p_ald (cc3 c23_21) rfl ?_
  obtain ⟨g1, h⟩ := h
  obtain ⟨g2, h⟩ := h
  refine p_callW (cc3 c23_22) (Nat.le_of_ble_eq_true rfl) rfl rfl (Nat.le_of_ble_eq_true rfl) (wk_kdS hW g2) (S8 (Nat.le_trans (by decide) hd) hW hR hT hG g1) ?_
  refine i_icmp (c' := (gL W (a1 + 1) : Int) ≤ x2) (cc3 c23_25) (iz_le (rg_SL g1) rr) (fun c => ?_) (fun c => ?_)
  · have h := h.1 c
    refine i_push (n := 1) (cc3 c23_57) zl_1 ?_
    exact i_ri (cc3 c23_58) (by decide) h
  · have h := h.2 c
    refine p_ald (cc3 c23_28) rfl ?_
    refine p_ild (cc3 c23_29) rfl ?_
    obtain ⟨g3, h⟩ := h
    obtain ⟨g4, h⟩ := h
    refine p_callW (cc3 c23_30) (Nat.le_of_ble_eq_true rfl) rfl rfl (Nat.le_of_ble_eq_true rfl) (wk_kdS hW g2) (S10 (Nat.le_trans (by decide) hd) hW hR hT hG rr ⟨g1, g3, g4⟩) ?_
    refine p_ald (cc3 c23_33) rfl ?_
    obtain ⟨g5, h⟩ := h
    refine w_getp hW hT.1 (b := 1) (cc3 c23_34) (st_k hT 6 11 (by decide)) (ji := 3) rfl g5 ?_
    refine p_ald (cc3 c23_37) rfl ?_
    refine w_geti hW (v := A 6 6) (cc3 c23_38) (st_k hT 6 11 (by decide)) (ji := 6) rfl rfl ?_
    refine p_ild (cc3 c23_41) rfl ?_
    obtain ⟨g6, h⟩ := h
    refine (fun _ : Rg ((A 6 6) + x2) => i_add (cc3 c23_42) ?_) g6
    refine p_callV (cc3 c23_43) (Nat.le_of_ble_eq_true rfl) rfl rfl (Nat.le_of_ble_eq_true rfl) (wk_kd hW (by decide) (st_k hT 1 9 (by decide))) (S18 (Nat.le_trans (by decide) hd) hW hR hT hG g6) ?_
    refine i_icmp (c' := (A (a1 + 1) x2) = (k_at A ((A 6 6) + x2))) (cc3 c23_46) (iz_inj (hR _ _) (rg_at hR)) (fun c => ?_) (fun c => ?_)
    · have h := h.1 c
      obtain ⟨g7, h⟩ := h
      refine (fun _ : Rg (x2 + 1) => i_iinc (n := 1) (y := x2 + 1) (ls' := [(2, .int (iz (x2 + 1))), (0, .ref (lo W 6)), (1, .ref (lo W a1))]) (cc3 c23_51) (by decide) rfl zl_1 (by first | rfl | omega) rfl ?_) g7
      refine p_goto (cc3 c23_54) ?_
      exact p_lc (ls' := [(0, .ref (lo W 6)), (1, .ref (lo W a1)), (2, .int (iz (x2 + 1)))]) c23_20 rfl rfl h
    · have h := h.2 c
      refine i_push (n := 0) (cc3 c23_49) zl_0 ?_
      exact i_ri (cc3 c23_50) (by decide) h

theorem L23 {d : Nat} (hd : 4 ≤ d) {Q : Option Value → xM → Prop} {W : gW} (hW : HW W) {A : Nat → Int → Int} {P : Nat → Int → Nat} (hR : RG A) (hT : Stat W P) (hG : GL W) {a1 : Nat} (p1 : SOK W P a1) (p2 : ∀ k : Int, 0 ≤ k → k < gL W (a1 + 1) → 0 ≤ A (a1 + 1) k ∧ A (a1 + 1) k ≤ 127) (p3 : P 6 3 = 1 + 1) (p4 : 0 ≤ A 6 6 ∧ A 6 6 ≤ 1000)
    (hQ : Q (some (.int (iz (bI (spB (A (a1 + 1)) (k_at A) (A 6 6) (gL W (a1 + 1)) = true))))) (Wm W A P)) : ∀ n k : Nat, k + n = gL W (a1 + 1) → spB (A (a1 + 1)) (k_at A) (A 6 6) k = true → wpE (xT 23) (xev xT d) Q (20, [(0, .ref (lo W 6)), (1, .ref (lo W a1)), (2, .int (iz k))], [], Wm W A P) := by
  have h9 := p1.2.2.2
  intro n
  induction n with
  | zero =>
    intro k hk hs
    refine V23_20 hd hW hR hT hG ⟨by omega, by omega⟩ ⟨p1, p1.1, fun _ => ?_, fun c => absurd (by omega) c⟩
    have e : k = gL W (a1 + 1) := hk
    rw [← e, bI_t hs] at hQ
    exact hQ
  | succ n ih =>
    intro k hk hs
    refine V23_20 hd hW hR hT hG ⟨by omega, by omega⟩ ⟨p1, p1.1, fun c => absurd c (by omega), fun _ => ⟨⟨by omega, by omega⟩, p2 k (by omega) (by omega), p3, ⟨by omega, by omega⟩, fun c => ⟨⟨by omega, by omega⟩, ?_⟩, fun c => ?_⟩⟩
    · refine ih (k + 1) (by omega) ?_
      show (spB _ _ _ k && decide _) = true
      rw [hs, decide_eq_true c]; rfl
    · rw [bI_f (fun q => c (spB_iff.mp q k (by omega)))] at hQ
      exact hQ
theorem S23 {d : Nat} (hd : 5 ≤ d) {W : gW} (hW : HW W) {A : Nat → Int → Int} {P : Nat → Int → Nat} (hR : RG A) (hT : Stat W P) (hG : GL W) {a1 : Nat} (hp : (SOK W P a1) ∧ (∀ k : Int, 0 ≤ k → k < gL W (a1 + 1) → 0 ≤ A (a1 + 1) k ∧ A (a1 + 1) k ≤ 127) ∧ (P 6 3 = 1 + 1) ∧ (0 ≤ A 6 6 ∧ A 6 6 ≤ 1000) ∧ (-1000 ≤ A 6 7 ∧ A 6 7 ≤ 1000)) : xev xT d 23 [.ref (lo W 6), .ref (lo W a1)] (Wm W A P) (some (.int (iz (bI (A 6 7 - A 6 6 = (gL W (a1 + 1) : Int) ∧ spB (A (a1 + 1)) (k_at A) (A 6 6) (gL W (a1 + 1)) = true))))) (Wm W A P) := by
  refine xev_i (D := 4) hd (Nat.le_of_ble_eq_true rfl) (fun d hd => V23_0 hd hW hR hT hG ?_)

  obtain ⟨p1, p2, p3, p4, p5⟩ := hp
  refine ⟨p1, p1.1, ⟨by omega, by omega⟩, fun c => ?_, fun c => ⟨congrArg (fun z => some (Value.int (iz z))) (bI_f (fun q => c q.1.symm)).symm, rfl⟩⟩
  refine L23 hd hW hR hT hG p1 p2 p3 p4 ⟨congrArg (fun z => some (Value.int (iz z))) (bI_i ⟨fun q => ⟨c.symm, q⟩, fun q => q.2⟩), rfl⟩ (gL W (a1 + 1)) 0 (Nat.zero_add _) rfl
