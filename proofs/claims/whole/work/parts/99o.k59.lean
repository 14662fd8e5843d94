section INI
variable {C : Nat → xI} {ev : xV} {Q : Option Value → xM → Prop} {W : gW} {A : Nat → Int → Int} {P : Nat → Int → Nat}
theorem ZA_z {c : Nat} (h : A c = fun _ => 0) : ZA A c = A := by
  funext q i
  by_cases e : q = c
  · subst e; unfold ZA; rw [if_pos rfl, h]
  · rw [ZA_n e]
theorem ZP_z {c : Nat} (h : P c = fun _ => 0) : ZP P c = P := by
  funext q i
  unfold ZP
  by_cases e : q = c
  · rw [if_pos e, e, h]
  · rw [if_neg e]
theorem UA_z {c : Nat} {j : Int} (h : A c j = 0) : UA A c j 0 = A := by
  funext q i
  by_cases e : q = c ∧ i = j
  · rw [e.1, e.2, UA_eq, h]
  · by_cases e1 : q = c
    · rw [UA_j (fun z => e ⟨e1, z⟩)]
    · rw [UA_c e1]
/-- a field of a new object: an array of n cells, all 0, at the new role c -/
theorem ini_a {t c k cl j n p p1 p2 p3 p4 : Nat} {v : Int32} (hW : HW W) (hT : HR W P) (kt : gK W t = cl + 1) (k0 : gK W c = 0) (zA : A c = fun _ => 0) (zP : P c = fun _ => 0) (hk : ¬ k = 0 ∧ k < 40) (hcl : cl + 1 < 40) (hn : n ≤ 100000) (hv : v = iz (n : Int)) (c0 : C p = oAld 0 p1) (c1 : C p1 = oPush (.int v) p2) (c2 : C p2 = oNewa k p3) (c3 : C p3 = oPutp cl j p4) (h : ∀ W1, W1 = gN W c k n → HW W1 → HR W1 (UP P t j (c + 1)) → wpE C ev Q (p4, [(0, .ref (lo W1 t))], [], Wm W1 A (UP P t j (c + 1)))) : wpE C ev Q (p, [(0, .ref (lo W t))], [], Wm W A P) := by
  have ht : ¬ t = c := fun e => by rw [e, k0] at kt; omega
  refine p_ald (cc3 c0) rfl ?_
  refine i_push (n := (n : Int)) (cc3 c1) hv ?_
  refine w_newa hW hT hk.1 (cc3 c2) c ⟨by omega, by omega⟩ k0 (fun W1 e1 hW1 => ?_)
  rw [Int.toNat_natCast] at e1
  have hT1 : HR W1 (ZP P c) := by rw [e1]; exact hT.gN k0
  rw [ZA_z zA, ZP_z zP]
  rw [ZP_z zP] at hT1
  have l1 : lo W1 t = lo W t := by rw [e1]; exact gN_lo_n ht
  have k1 : gK W1 t = cl + 1 := by rw [e1, gN_K_n ht]; exact kt
  have kc : gK W1 c = k := by rw [e1]; exact gN_K_e
  rw [← l1]
  exact w_putp hW1 (cc3 c3) k1 (ji := (j : Int)) rfl (kn kc hk) (h W1 e1 hW1 (hT1.up (Or.inr (by rw [Nat.add_sub_cancel]; exact kn kc hk)))) hcl
/-- the model while it is made: n cells, the references up to field j -/
def IniM (W0 : gW) (P0 : Nat → Int → Nat) (W : gW) (P : Nat → Int → Nat) (n jj : Nat) : Prop := (HW W ∧ HR W P) ∧ (∀ c, c < n → gK W (1000 + c) = mkd c ∧ gL W (1000 + c) = mln c ∧ lo W (1000 + c) = lo W 1000 + c) ∧ (∀ c, n ≤ c → gK W (1000 + c) = 0) ∧ (gsz W = lo W 1000 + n ∧ lo W 1000 = gsz W0 ∧ gsl W ≤ gsl W0 + 5000 * n) ∧ (∀ c, c < 1000 → gK W c = gK W0 c ∧ gL W c = gL W0 c ∧ lo W c = lo W0 c) ∧ gz W = gz W0 ∧ (∀ j, j < jj → 0 < mpf j → P 1000 (j : Int) = 1000 + mpf j + 1) ∧ ∀ c, ¬ c = 1000 → P c = P0 c
theorem IniM.i {W0 : gW} {P0 : Nat → Int → Nat} {n jj : Nat} (h : IniM W0 P0 W P n jj) (hj : mpf jj = 0) : IniM W0 P0 W P n (jj + 1) := by
  obtain ⟨h1, h2, h3, h4, h5, h6, h7, h8⟩ := h
  refine ⟨h1, h2, h3, h4, h5, h6, fun j q1 q2 => ?_, h8⟩
  by_cases e : j = jj
  · rw [e, hj] at q2; omega
  · exact h7 j (by omega) q2
/-- one more row of the model -/
theorem IniM.a {W0 : gW} {P0 : Nat → Int → Nat} {W1 : gW} {n jj k N : Nat} (h : IniM W0 P0 W P n jj) (hd : (0 < n ∧ n < 46) ∧ mpf jj = n ∧ mkd n = k ∧ mln n = N ∧ (¬ k = 0 ∧ k < 40) ∧ N ≤ 5000) (e1 : W1 = gN W (1000 + n) k N) (hW1 : HW W1) (hT1 : HR W1 (UP P 1000 jj (1000 + n + 1))) : IniM W0 P0 W1 (UP P 1000 jj (1000 + n + 1)) (n + 1) (jj + 1) := by
  obtain ⟨⟨hW, hT⟩, h2, h3, h4, h5, h6, h7, h8⟩ := h
  obtain ⟨⟨d0, d1⟩, d2, d3, d4, d5, d6⟩ := hd
  subst e1
  have l0 : lo (gN W (1000 + n) k N) 1000 = lo W 1000 := gN_lo_n (by omega)
  refine ⟨⟨hW1, hT1⟩, fun c hc => ?_, fun c hc => ?_, ⟨?_, by rw [l0]; exact h4.2.1, ?_⟩, fun c hc => ?_, h6, fun j q1 q2 => ?_, fun c hc => ?_⟩
  · by_cases e : c = n
    · subst e
      rw [gN_K_e, gN_L_e, l0]
      refine ⟨d3.symm, d4.symm, ?_⟩
      rw [gN_lo, if_pos rfl]; exact h4.1
    · rw [gN_K_n (by omega), gN_L_n (by omega), gN_lo_n (by omega), l0]
      exact h2 c (by omega)
  · rw [gN_K_n (by omega)]; exact h3 c (by omega)
  · rw [l0]; show gsz W + 1 = _; omega
  · show gsl W + N ≤ _; omega
  · rw [gN_K_n (by omega), gN_L_n (by omega), gN_lo_n (by omega)]; exact h5 c hc
  · by_cases e : j = jj
    · subst e; rw [UP_e, d2]
    · rw [UP_j (by omega)]; exact h7 j (by omega) q2
  · rw [UP_n hc]; exact h8 c hc
theorem ini_m {W0 : gW} {P0 : Nat → Int → Nat} {n jj k N p p1 p2 p3 p4 : Nat} {v : Int32} (h : IniM W0 P0 W P n jj) (hA : A (1000 + n) = fun _ => 0) (hP : P0 (1000 + n) = fun _ => 0) (hd : (0 < n ∧ n < 46) ∧ mpf jj = n ∧ mkd n = k ∧ mln n = N ∧ (¬ k = 0 ∧ k < 40) ∧ N ≤ 5000) (hv : v = iz (N : Int)) (c0 : C p = oAld 0 p1) (c1 : C p1 = oPush (.int v) p2) (c2 : C p2 = oNewa k p3) (c3 : C p3 = oPutp 12 jj p4) (h' : ∀ W1 P1, IniM W0 P0 W1 P1 (n + 1) (jj + 1) → lo W1 1000 = lo W 1000 → wpE C ev Q (p4, [(0, .ref (lo W 1000))], [], Wm W1 A P1)) : wpE C ev Q (p, [(0, .ref (lo W 1000))], [], Wm W A P) := by
  have k13 : gK W 1000 = 12 + 1 := (h.2.1 0 hd.1.1).1
  refine ini_a h.1.1 h.1.2 k13 (h.2.2.1 n (Nat.le_refl n)) hA (by rw [h.2.2.2.2.2.2.2 _ (by omega)]; exact hP) hd.2.2.2.2.1 (by decide) (by omega) hv c0 c1 c2 c3 (fun W1 e1 hW1 hT1 => ?_)
  have l0 : lo W1 1000 = lo W 1000 := by rw [e1]; exact gN_lo_n (by omega)
  rw [l0]
  exact h' W1 _ (h.a hd e1 hW1 hT1) l0
/-- a row of the model that gets numbers at once: until it is stored -/
theorem ini_b {W0 : gW} {P0 : Nat → Int → Nat} {n jj k N p p1 p2 p3 : Nat} {v : Int32} (h : IniM W0 P0 W P n jj) (hA : A (1000 + n) = fun _ => 0) (hP : P0 (1000 + n) = fun _ => 0) (hd : (0 < n ∧ n < 46) ∧ mpf jj = n ∧ mkd n = k ∧ mln n = N ∧ (¬ k = 0 ∧ k < 40) ∧ N ≤ 5000) (hv : v = iz (N : Int)) (c0 : C p = oAld 0 p1) (c1 : C p1 = oPush (.int v) p2) (c2 : C p2 = oNewa k p3) (h' : ∀ W1, HW W1 → gK W1 (1000 + n) = k → gL W1 (1000 + n) = N → gK W1 1000 = 13 → IniM W0 P0 W1 (UP P 1000 jj (1000 + n + 1)) (n + 1) (jj + 1) → lo W1 1000 = lo W 1000 → wpE C ev Q (p3, [(0, .ref (lo W 1000))], [.ref (lo W1 (1000 + n)), .ref (lo W1 1000)], Wm W1 A P)) : wpE C ev Q (p, [(0, .ref (lo W 1000))], [], Wm W A P) := by
  have k0 := h.2.2.1 n (Nat.le_refl n)
  refine p_ald (cc3 c0) rfl ?_
  refine i_push (n := (N : Int)) (cc3 c1) hv ?_
  refine w_newa h.1.1 h.1.2 hd.2.2.2.2.1.1 (cc3 c2) (1000 + n) ⟨by omega, by omega⟩ k0 (fun W1 e1 hW1 => ?_)
  rw [Int.toNat_natCast] at e1
  have zP : P (1000 + n) = fun _ => 0 := by rw [h.2.2.2.2.2.2.2 _ (by omega)]; exact hP
  have hT1 : HR W1 (ZP P (1000 + n)) := by rw [e1]; exact h.1.2.gN k0
  rw [ZA_z hA, ZP_z zP]
  rw [ZP_z zP] at hT1
  have l0 : lo W1 1000 = lo W 1000 := by rw [e1]; exact gN_lo_n (by omega)
  have kc : gK W1 (1000 + n) = k := by rw [e1]; exact gN_K_e
  have k1 : gK W1 1000 = 13 := by rw [e1, gN_K_n (by omega)]; exact (h.2.1 0 hd.1.1).1
  have := h' W1 hW1 kc (by rw [e1]; exact gN_L_e) k1 (h.a hd e1 hW1 (hT1.up (Or.inr (by rw [Nat.add_sub_cancel]; exact kn kc hd.2.2.2.2.1)))) l0
  rw [l0] at this
  exact this
theorem ini_s {c i p p1 p2 p3 p4 : Nat} {x : Int} {v v2 : Int32} {ls : xL} {st : List Value} (hW : HW W) (kc : gK W c = 20) (hl : i < gL W c) (hi : i ≤ 1000) (hv : v = iz (i : Int)) (hx : v2 = iz x) (c0 : C p = oDup p1) (c1 : C p1 = oPush (.int v) p2) (c2 : C p2 = oPush (.int v2) p3) (c3 : C p3 = oAsti 20 (fun x => x) p4) (h : wpE C ev Q (p4, ls, .ref (lo W c) :: st, Wm W (UA A c i x) P)) : wpE C ev Q (p, ls, .ref (lo W c) :: st, Wm W A P) := by
  refine p_dup (cc3 c0) rfl ?_
  refine i_push (n := (i : Int)) (cc3 c1) hv ?_
  refine i_push (n := x) (cc3 c2) hx ?_
  exact w_asti (k := 19) hW (cc3 c3) kc (by omega) rfl h
theorem ini_i {W0 : gW} {P0 : Nat → Int → Nat} {n jj p p1 p2 p3 : Nat} {v : Int32} {x : Int} (h : IniM W0 P0 W P n jj) (hd : 0 < n ∧ mpf jj = 0) (hv : v = iz x) (c0 : C p = oAld 0 p1) (c1 : C p1 = oPush (.int v) p2) (c2 : C p2 = oPuti 12 jj p3) (h' : IniM W0 P0 W P n (jj + 1) → wpE C ev Q (p3, [(0, .ref (lo W 1000))], [], Wm W (UA A 1000 jj x) P)) : wpE C ev Q (p, [(0, .ref (lo W 1000))], [], Wm W A P) := by
  refine p_ald (cc3 c0) rfl ?_
  refine i_push (n := x) (cc3 c1) hv ?_
  exact w_puti h.1.1 (cc3 c2) (h.2.1 0 hd.1).1 (ji := (jj : Int)) rfl (h' (h.i hd.2))
theorem ini_i0 {W0 : gW} {P0 : Nat → Int → Nat} {n jj p p1 p2 p3 : Nat} {v : Int32} (h : IniM W0 P0 W P n jj) (hd : 0 < n ∧ mpf jj = 0) (hz : A 1000 (jj : Int) = 0) (hv : v = iz 0) (c0 : C p = oAld 0 p1) (c1 : C p1 = oPush (.int v) p2) (c2 : C p2 = oPuti 12 jj p3) (h' : IniM W0 P0 W P n (jj + 1) → wpE C ev Q (p3, [(0, .ref (lo W 1000))], [], Wm W A P)) : wpE C ev Q (p, [(0, .ref (lo W 1000))], [], Wm W A P) := ini_i h hd hv c0 c1 c2 (fun q => by rw [UA_z hz]; exact h' q)
end INI
