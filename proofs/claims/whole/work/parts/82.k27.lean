section MAKE
variable {W : gW} {A : Nat → Int → Int} {R : Nat → Int → Nat} {c k n c' : Nat}
theorem gN_lo_n (h : ¬ c' = c) : lo (gN W c k n) c' = lo W c' := by rw [gN_lo, if_neg h]
theorem gN_lo_e : lo (gN W c k n) c = gsz W := by rw [gN_lo, if_pos rfl]
theorem gN_K_n (h : ¬ c' = c) : gK (gN W c k n) c' = gK W c' := by rw [gN_K, if_neg h]
theorem gN_K_e : gK (gN W c k n) c = k := by rw [gN_K, if_pos rfl]
theorem gN_L_n (h : ¬ c' = c) : gL (gN W c k n) c' = gL W c' := by rw [gN_L, if_neg h]
theorem gN_L_e : gL (gN W c k n) c = n := by rw [gN_L, if_pos rfl]
theorem gN_sz : gsz (gN W c k n) = gsz W + 1 := rfl
theorem gN_sl : gsl (gN W c k n) = gsl W + n := rfl
theorem gN_zr {j : Nat} : gzr (gN W c k n) j = gzr W j := rfl
theorem kd_ne (h : ¬ gK W c' = 0) (h0 : gK W c = 0) : ¬ c' = c := fun e => h (by rw [e]; exact h0)
theorem GL.gN (h : GL W) (h0 : gK W c = 0) : GL (gN W c k n) := by
  obtain ⟨h1, h2, h3, h4⟩ := h
  refine ⟨fun j hj => ?_, ?_, ?_, ?_⟩
  · obtain ⟨a1, a2, a3, a4⟩ := h1 j hj
    have n1 : ¬ 500 + 2 * j = c := kd_ne (by omega) h0
    have n2 : ¬ 501 + 2 * j = c := kd_ne (by omega) h0
    rw [gN_zr, gN_lo_n n1, gN_K_n n1, gN_K_n n2, gN_L_n n2]
    exact ⟨a1, a2, a3, a4⟩
  · rw [gN_zr, gN_lo_n (kd_ne (by omega) h0)]; exact h2
  · rw [gN_K_n (kd_ne (by omega) h0)]; exact h3
  · rw [gN_L_n (kd_ne (by omega) h0)]; exact h4
theorem Stat.gN (h : Stat W R) (hG : GL W) (h0 : gK W c = 0) (h9 : 29 ≤ c) (hk : ¬ k = 0) : Stat (gN W c k n) (ZP R c) := by
  refine ⟨h.1.gN h0, fun q hq => ?_, fun j hj => ?_⟩
  · have e : ¬ q = c := by omega
    rw [gN_K_n e, gN_L_n e]
    refine ⟨(h.2.1 q hq).1, (h.2.1 q hq).2.1, fun j hj => ?_⟩
    unfold ZP
    rw [if_neg e]
    exact (h.2.1 q hq).2.2 j hj
  · have e : ¬ 500 + 2 * j = c := kd_ne (by have := (hG.1 j hj).2.1; omega) h0
    unfold ZP
    rw [if_neg e]
    exact h.2.2 j hj
theorem ZA_n (h : ¬ c' = c) : ZA A c c' = A c' := by funext j; unfold ZA; rw [if_neg h]
theorem ZA_e {j : Int} : ZA A c c j = 0 := if_pos rfl
theorem ZP_n (h : ¬ c' = c) : ZP R c c' = R c' := by funext j; unfold ZP; rw [if_neg h]
theorem ZP_e {j : Int} : ZP R c c j = 0 := if_pos rfl
end MAKE
section WMAKE
variable {C : Nat → xI} {ev : xV} {Q : Option Value → xM → Prop} {pc nx : Nat} {ls : xL} {st : List Value} {W : gW} {A : Nat → Int → Int} {R : Nat → Int → Nat}
theorem w_new (hW : HW W) (hT : HR W R) {cl N : Nat} (hc : C pc ls st (Wm W A R) = oNew cl N nx ls st (Wm W A R)) (c : Nat) (h0 : gK W c = 0) (h : ∀ W1, W1 = gN W c (cl + 1) N → HW W1 → wpE C ev Q (nx, ls, .ref (lo W1 c) :: st, Wm W1 (ZA A c) (ZP R c))) : wpE C ev Q (pc, ls, st, Wm W A R) := by
  have := h _ rfl (gN_ok hW h0 (Nat.succ_ne_zero cl))
  rw [gN_lo_e] at this
  exact p_new hc (wm_new hW hT h0) this
theorem w_newa (hW : HW W) (hT : HR W R) {k : Nat} {e : Int} (hk : ¬ k = 0) (hc : C pc ls (.int (iz e) :: st) (Wm W A R) = oNewa k nx ls (.int (iz e) :: st) (Wm W A R)) (c : Nat) (hi : 0 ≤ e ∧ e ≤ 100000) (h0 : gK W c = 0) (h : ∀ W1, W1 = gN W c k e.toNat → HW W1 → wpE C ev Q (nx, ls, .ref (lo W1 c) :: st, Wm W1 (ZA A c) (ZP R c))) : wpE C ev Q (pc, ls, .int (iz e) :: st, Wm W A R) := by
  have := h _ rfl (gN_ok hW h0 hk)
  rw [gN_lo_e] at this
  exact p_newa hc (by rw [c_lt0 ⟨by omega, by omega⟩]; omega) (iz_nat ⟨by omega, by omega⟩) (by omega) (wm_new hW hT h0) this
end WMAKE
