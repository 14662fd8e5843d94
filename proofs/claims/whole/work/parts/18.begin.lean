theorem tbl_at {s : State} {args : Array Value} (hts : ∀ w ∈ lw_tbl, w.before args s = true) {i : Nat} {w : Cond} (h : lw_tbl[i]? = some w) : w.before args s = true := hts w (List.mem_of_getElem? h)
/-- what the start gives: the global facts, the texts, the row of styles -/
theorem gf_ex {s : State} {b : Nat} (hts : ∀ w ∈ lw_tbl, w.before #[Value.ref b] s = true) (hgv : (Jvm.Cond.and given_1 narrow_1).before #[Value.ref b] s = true) (hbl : b < s.heap.size) :
    ∃ (G : xG) (adV : Nat → Nat) (t : Nat), G.2.2.1 = s.heap.size ∧ GF G s ∧ (∀ j, j < 12 → ∃ z, G.2.2.2 j = z + 1 ∧ va_O "java/lang/String" z (gA G) s s.heap ∧ va_OF "java/lang/String" "coder" "B" (.int 0) z (gA G) s s.heap ∧ va_OF "java/lang/String" "value" "[B" (.ref (adV j)) z (gA G) s s.heap ∧ va_T .byte (adV j) (sLen.getD j 0) (fun k => .int ((sByt.getD j []).getD k 0)) (gA G) s s.heap) ∧
      (∀ i j, i < 12 → j < 12 → G.2.2.2 i = G.2.2.2 j → i = j) ∧ G.2.2.2 20 = t + 1 ∧ va_T .int t 6 (fun j => .int (sAb.getD j 0)) (gA G) s s.heap ∧ b ≠ t ∧ ∃ (c : ClassId) (cell : Cell), s.heap[t]? = some cell ∧ cell.cls = c ∧ s.vm.findClass "[I" = some c := by
  have hs := flat_of_before _ hgv
  have htg : ∀ w ∈ gt, w.before #[Value.ref b] s = true := fun w hw => hts w (List.mem_filter.mp hw).1
  have hA : ∀ a : Nat, a < s.heap.size → ¬ (fun q : Nat => s.heap.size ≤ q) a := fun a h => Nat.not_le.mpr h
  have hk : ∀ i : Nat, ∃ q : ClassId × (Nat → Nat), i < 13 → u_Kn s (cN i) (cT i) (cK i) q.1 q.2 := by
    intro i
    by_cases hi : i < 13
    · obtain ⟨cC, iS, h⟩ := u_known (C := cN i) (T := cT i) (N := cK i) (n := cK i) htg (ws_in i hi) (htg _ (gtm _ (in_ok i hi).1 (in_ok i hi).2))
      exact ⟨(cC, iS), fun _ => h⟩
    · exact ⟨(0, fun _ => 0), fun h => absurd h hi⟩
  obtain ⟨dq, hdq⟩ := Classical.axiomOfChoice hk
  have ha : ∀ k : Nat, ∃ cA : ClassId, 20 ≤ k → k < 28 → ArrOfT s cA (kTy k) ∧ va_RA s cA (kTy k) := by
    intro k
    by_cases h1 : 20 ≤ k ∧ k < 23
    · have hw := tbl_at hts (aP_ok (k - 20) (by omega))
      rw [show 20 + (k - 20) = k by omega] at hw
      obtain ⟨c, kA, comp, f1, f2, f3⟩ := Cond.arrayClass_spec hw
      refine ⟨c, fun _ _ => ⟨fun n z => ⟨fun q h => (by cases h), kA, f2, comp, f3⟩, ?_⟩⟩
      rcases (show k = 20 ∨ k = 21 ∨ k = 22 by omega) with rfl | rfl | rfl <;> exact f1
    · by_cases h2 : 23 ≤ k ∧ k < 28
      · have hw := tbl_at hts (oP_ok (k - 23) (by omega))
        obtain ⟨comp, c, kA, f1, f2, f3, f4, f5⟩ := Cond.arrayOver_spec hw
        have e : kTy k = .object (aoL.getD (k - 23) "") := by
          rcases (show k = 23 ∨ k = 24 ∨ k = 25 ∨ k = 26 ∨ k = 27 by omega) with rfl | rfl | rfl | rfl | rfl <;> rfl
        refine ⟨c, fun _ _ => ?_⟩
        rw [e]
        exact ⟨fun n z => ⟨fun q h => (by cases h), kA, f3, comp, f4⟩, kA, comp, f3, f4, f1, f5⟩
      · exact ⟨0, fun h3 h4 => by omega⟩
  obtain ⟨aC, haC⟩ := Classical.axiomOfChoice ha
  obtain ⟨adK, adV, hS, hev⟩ := vk_Sof (args := #[Value.ref b]) (s := s) (N := 12) (tm := sT) (len := sLen) (byt := sByt) (A := fun q : Nat => s.heap.size ≤ q) (by decide +kernel) (fun i hi => hs _ (st_ex i hi)) (fun i hi => hs _ (st_co i hi)) (fun i hi => hs _ (st_ar i hi)) (fun i hi => hs _ (st_le i hi)) (fun i hi j hj => hs _ (st_el i hi j hj))
    (fun i j hi hj hne => (st_ne i hi j hj hne).imp (fun h => hs _ h) (fun h => hs _ h)) hA
  obtain ⟨t, het, hT⟩ := va_Tof (args := #[Value.ref b]) (s := s) (tm := .static "KiltRoom" "STYLE_ABOVE" "[I") (ty := .int) (N := 6) (f := fun j => .int (sAb.getD j 0)) (A := fun q : Nat => s.heap.size ≤ q) (by decide) (hs _ (by decide +kernel)) (va_eqt (z := Int32.ofNat 6) (hs _ (by decide +kernel))) (fun j hj => va_eqt (hs _ (st_ab j hj))) hA
  have hcs : (Cond.eq (.static "java/lang/String" "COMPACT_STRINGS" "Z") (.int 1)).before #[Value.ref b] s = true := hs _ (by decide +kernel)
  obtain ⟨fv, hfe, hfr⟩ := Cond.isRef_spec (hs (.isRef (.static "jdk/internal/util/Preconditions" "SIOOBE_FORMATTER" "Ljava/util/function/BiFunction;")) (by decide +kernel))
  obtain ⟨fn, hfn⟩ : ∃ n : Nat, fv = if n = 0 then Value.null else Value.ref (n - 1) := by
    cases fv with
    | null => exact ⟨0, rfl⟩
    | ref a => exact ⟨a + 1, rfl⟩
    | int _ => cases hfr
    | long _ => cases hfr
    | float _ => cases hfr
    | double _ => cases hfr
    | retAddr _ => cases hfr
  have hne : b ≠ t := va_neR (t := .arg 0) (u := .static "KiltRoom" "STYLE_ABOVE" "[I") (hs _ (by decide +kernel)) rfl het
  obtain ⟨ta, tc, tcell, tk, te, tf, th, -, -, tcl, -⟩ := Cond.exactly_spec (hs (.exactly (.static "KiltRoom" "STYLE_ABOVE" "[I") "[I") (by decide +kernel))
  cases het.symm.trans te
  refine ⟨((fun i => (dq i).1, fun i => (dq i).2), aC, s.heap.size, fun j => if j < 12 then adK j + 1 else if j = 20 then t + 1 else if j = 21 then fn else 0), adV, t, rfl, ⟨⟨fun c q hq => ?_, fun k q hq => ?_⟩, fun q hq => ?_, va_Nw.of rfl (tbl_at hts cst_ok), fun C hC => ?_, fun j hj => ?_, ?_, ?_, ?_, Nat.le_refl _, by show 0 < s.heap.size; omega⟩, fun j hj => ?_, fun i j hi hj e => ?_, rfl, hT, hne, tc, tcell, th, tcl, tf⟩
  · have hc : c < 13 := by
      have := (List.getElem?_eq_some_iff.mp hq).1
      simpa [classes] using this
    rw [classes_at hc] at hq
    cases hq
    exact hdq c hc
  · have hk8 : k < 8 := by
      have := (List.getElem?_eq_some_iff.mp hq).1
      simpa [tysOf] using this
    have e := ty_at (aC := aC) (k := 20 + k) (by omega) (by omega)
    rw [show 20 + k - 20 = k by omega] at e
    cases hq.symm.trans e
    exact haC (20 + k) (by omega) (by omega)
  · obtain ⟨j, hj⟩ := List.getElem?_of_mem hq
    have hj8 : j < 8 := (List.getElem?_eq_some_iff.mp hj).1
    have hw := tbl_at hts (nP_ok j hj8)
    have e : nestL.getD j ("", 0, 0) = q := by rw [List.getD_eq_getElem?_getD, hj]; rfl
    rw [e] at hw
    exact va_Nw.of rfl hw
  · obtain ⟨j, hj⟩ := List.getElem?_of_mem hC
    have hj5 : j < 5 := (List.getElem?_eq_some_iff.mp hj).1
    have hw := tbl_at hts (oP_ok j hj5)
    have e : aoL.getD j "" = C := by rw [List.getD_eq_getElem?_getD, hj]; rfl
    rw [e] at hw
    exact va_AO.of hw
  · have e : (if j < 12 then adK j + 1 else if j = 20 then t + 1 else if j = 21 then fn else 0) - 1 = adK j := by rw [if_pos hj]; rfl
    show vk_R _ _ _ ((if j < 12 then adK j + 1 else if j = 20 then t + 1 else if j = 21 then fn else 0) - 1) s
    rw [e]
    exact vk_R.of (tbl_at hts (sP_ok j hj)) (hev j hj)
  · exact va_Zof (tbl_at hts ls_A) (tbl_at hts li_A) het hA
  · exact va_Zof (tbl_at hts ls_C) (tbl_at hts li_C) (va_eqi hcs) hA
  · have hz := va_Zof (A := fun q : Nat => s.heap.size ≤ q) (tbl_at hts ls_F) (tbl_at hts li_F) hfe hA
    rw [hfn] at hz
    exact hz
  · obtain ⟨q1, q2, q3, q4⟩ := hS.1 j hj
    exact ⟨adK j, if_pos hj, q1, q2, q3, q4⟩
  · have e : adK i + 1 = adK j + 1 := by
      have e' : (if i < 12 then adK i + 1 else if i = 20 then t + 1 else if i = 21 then fn else 0) = (if j < 12 then adK j + 1 else if j = 20 then t + 1 else if j = 21 then fn else 0) := e
      rwa [if_pos hi, if_pos hj] at e'
    exact hS.2 i j hi hj (by omega)
