/-- the memory at the start -/
theorem start_mem {s : State} {b L : Nat} {xs : Nat → Int32} {G : xG} {adV : Nat → Nat} {t : Nat} (hX : va_X b L xs s s.heap) (hbl : b < s.heap.size) (hB : G.2.2.1 = s.heap.size)
    (hK : ∀ j, j < 12 → ∃ z, G.2.2.2 j = z + 1 ∧ va_O "java/lang/String" z (gA G) s s.heap ∧ va_OF "java/lang/String" "coder" "B" (.int 0) z (gA G) s s.heap ∧ va_OF "java/lang/String" "value" "[B" (.ref (adV j)) z (gA G) s s.heap ∧ va_T .byte (adV j) (sLen.getD j 0) (fun k => .int ((sByt.getD j []).getD k 0)) (gA G) s s.heap)
    (hinj : ∀ i j, i < 12 → j < 12 → G.2.2.2 i = G.2.2.2 j → i = j) (ht : G.2.2.2 20 = t + 1) (hT : va_T .int t 6 (fun j => .int (sAb.getD j 0)) (gA G) s s.heap) (hbt : b ≠ t) (hcl : ∃ (c : ClassId) (cell : Cell), s.heap[t]? = some cell ∧ cell.cls = c ∧ s.vm.findClass "[I" = some c) :
    ∃ σ : xM, Start σ b L xs ∧ Rp G σ s.heap ∧ OLD G s σ := by
  obtain ⟨scr, x1, x2, x3, x4, x5⟩ := hX
  have hA : ∀ a : Nat, a < s.heap.size → ¬ gA G a := fun a h => by show ¬ G.2.2.1 ≤ a; omega
  have lt_O : ∀ {E : String} {z : Nat}, va_O E z (gA G) s s.heap → z < s.heap.size := fun h => by
    obtain ⟨cell, q, -⟩ := h
    exact (Array.getElem?_eq_some_iff.mp q).1
  have lt_T : ∀ {ty : FieldType} {z n : Nat} {f : Nat → Value}, va_T ty z n f (gA G) s s.heap → z < s.heap.size := fun h => by
    obtain ⟨cell, q, -⟩ := h
    exact (Array.getElem?_eq_some_iff.mp q).1
  -- an array of ints is none of bytes
  have ib : ∀ {z : Nat} {c1 c2 : Cell}, s.heap[z]? = some c1 → s.isArrayOf c1 .int → s.heap[z]? = some c2 → s.isArrayOf c2 .byte → False := fun h1 a1 h2 a2 => by
    cases h1.symm.trans h2
    obtain ⟨-, k1, e1, m1, r1⟩ := a1
    obtain ⟨-, k2, e2, m2, r2⟩ := a2
    cases e1.symm.trans e2
    rw [r1] at r2
    cases r2
  have bV : ∀ j, j < 12 → adV j ≠ b := fun j hj e => by
    obtain ⟨z, -, -, -, -, cell, q1, q2, -⟩ := hK j hj
    rw [e] at q1
    exact ib x1 x2 q1 q2
  have tV : ∀ j, j < 12 → adV j ≠ t := fun j hj e => by
    obtain ⟨z, -, -, -, -, cell, q1, q2, -⟩ := hK j hj
    obtain ⟨cell2, r1, r2, -⟩ := hT
    rw [e] at q1
    exact ib r1 r2 q1 q2
  have bK : ∀ j z, j < 12 → G.2.2.2 j = z + 1 → z ≠ b := fun j z hj hz e => by
    obtain ⟨z', e1, -, -, q, -⟩ := hK j hj
    have : z' = z := by omega
    subst this
    obtain ⟨cf, k, i, f, cell, -, -, q3, -, q5, -⟩ := q
    rw [e] at q3
    cases x1.symm.trans q3
    have hlt := (Array.getElem?_eq_some_iff.mp q5).1
    rw [x5 _ (by omega)] at q5
    cases q5
  have tK : ∀ j z, j < 12 → G.2.2.2 j = z + 1 → z ≠ t := fun j z hj hz e => by
    obtain ⟨z', e1, q, -⟩ := hK j hj
    have : z' = z := by omega
    subst this
    obtain ⟨cell, q1, -, q3, -⟩ := q
    obtain ⟨c, cell2, r1, r2, r3⟩ := hcl
    rw [e] at q1
    cases q1.symm.trans r1
    rw [r2] at q3
    obtain ⟨k1, m1, n1⟩ := Vm.findClass_spec q3
    obtain ⟨k2, m2, n2⟩ := Vm.findClass_spec r3
    cases m1.symm.trans m2
    rw [n1] at n2
    exact absurd n2 (by decide)
  -- which text is at an address, which bytes
  let isK : Nat → Prop := fun a => ∃ j, j < 12 ∧ G.2.2.2 j = a + 1
  let isV : Nat → Prop := fun a => ∃ j, j < 12 ∧ adV j = a
  have chK : ∀ a, ∃ j : Nat, isK a → j < 12 ∧ G.2.2.2 j = a + 1 := fun a => by
    by_cases h : isK a
    · obtain ⟨j, h1, h2⟩ := h
      exact ⟨j, fun _ => ⟨h1, h2⟩⟩
    · exact ⟨0, fun q => absurd q h⟩
  have chV : ∀ a, ∃ j : Nat, isV a → j < 12 ∧ adV j = a := fun a => by
    by_cases h : isV a
    · obtain ⟨j, h1, h2⟩ := h
      exact ⟨j, fun _ => ⟨h1, h2⟩⟩
    · exact ⟨0, fun q => absurd q h⟩
  obtain ⟨nK, hnK⟩ := Classical.axiomOfChoice chK
  obtain ⟨nV, hnV⟩ := Classical.axiomOfChoice chV
  have decK : ∀ a, Decidable (isK a) := fun a => Classical.propDecidable _
  have decV : ∀ a, Decidable (isV a) := fun a => Classical.propDecidable _
  have chk : ∀ a, ∃ k : Nat, (isK a → isV a → k = 43) ∧ (isK a → ¬ isV a → k = 41) ∧ (¬ isK a → isV a → k = 42) ∧ (¬ isK a → ¬ isV a → k = 0) := fun a => by
    by_cases h1 : isK a <;> by_cases h2 : isV a
    · exact ⟨43, fun _ _ => rfl, fun _ h => absurd h2 h, fun h => absurd h1 h, fun h => absurd h1 h⟩
    · exact ⟨41, fun _ h => absurd h h2, fun _ _ => rfl, fun h => absurd h1 h, fun h => absurd h1 h⟩
    · exact ⟨42, fun h => absurd h h1, fun h => absurd h h1, fun _ _ => rfl, fun _ h => absurd h2 h⟩
    · exact ⟨0, fun h => absurd h h1, fun h => absurd h h1, fun _ h => absurd h h2, fun _ _ => rfl⟩
  obtain ⟨kK, hkK⟩ := Classical.axiomOfChoice chk
  let rz : Nat → Nat → Nat := fun a k => if k = 30 then adV (nK a) else if a = 0 ∧ k < 30 then G.2.2.2 k else 0
  let cel : Nat → xC := fun a => if a = b then (40, L, xs, rz a) else if a = t then (40, 6, fun j => sAb.getD j 0, rz a) else (kK a, sLen.getD (nV a) 0, fun k => (sByt.getD (nV a) []).getD k 0, rz a)
  have cb : cel b = (40, L, xs, rz b) := if_pos rfl
  have ct : cel t = (40, 6, fun j => sAb.getD j 0, rz t) := by
    show (if t = b then _ else if t = t then _ else _) = _
    rw [if_neg (Ne.symm hbt), if_pos rfl]
  have co : ∀ a, a ≠ b → a ≠ t → cel a = (kK a, sLen.getD (nV a) 0, fun k => (sByt.getD (nV a) []).getD k 0, rz a) := fun a h1 h2 => by
    show (if a = b then _ else if a = t then _ else _) = _
    rw [if_neg h1, if_neg h2]
  have cr : ∀ a, (cel a).2.2.2 = rz a := fun a => by
    by_cases h1 : a = b
    · subst h1; rw [cb]
    · by_cases h2 : a = t
      · subst h2; rw [ct]
      · rw [co a h1 h2]
  have kk : ∀ a, (cel a).1 = 40 ∨ (cel a).1 = kK a := fun a => by
    by_cases h1 : a = b
    · subst h1; rw [cb]; exact Or.inl rfl
    · by_cases h2 : a = t
      · subst h2; rw [ct]; exact Or.inl rfl
      · rw [co a h1 h2]; exact Or.inr rfl
  have kv : ∀ a, kK a = 0 ∨ kK a = 41 ∨ kK a = 42 ∨ kK a = 43 := fun a => by
    by_cases h1 : isK a <;> by_cases h2 : isV a
    · exact Or.inr (Or.inr (Or.inr ((hkK a).1 h1 h2)))
    · exact Or.inr (Or.inl ((hkK a).2.1 h1 h2))
    · exact Or.inr (Or.inr (Or.inl ((hkK a).2.2.1 h1 h2)))
    · exact Or.inl ((hkK a).2.2.2 h1 h2)
  have vlen : ∀ j, j < 12 → sLen.getD (nV (adV j)) 0 = sLen.getD j 0 ∧ ∀ k, k < sLen.getD j 0 → (sByt.getD (nV (adV j)) []).getD k 0 = (sByt.getD j []).getD k 0 := fun j hj => by
    obtain ⟨h1, h2⟩ := hnV (adV j) ⟨j, hj, rfl⟩
    obtain ⟨-, -, -, -, -, c1, p1, -, -, p4, p5, p6, -⟩ := hK j hj
    obtain ⟨-, -, -, -, -, c2, q1, -, -, q4, q5, q6, -⟩ := hK (nV (adV j)) h1
    rw [h2] at q1
    cases p1.symm.trans q1
    have hl : ∀ i, i < 12 → sLen.getD i 0 < 2 ^ 31 := by decide +kernel
    have e : sLen.getD (nV (adV j)) 0 = sLen.getD j 0 := by
      have e1 : nI (sLen.getD (nV (adV j)) 0) = nI (sLen.getD j 0) := q5.symm.trans p5
      exact (nI_eq (hl _ h1) (hl j hj)).mp e1
    refine ⟨e, fun k hk => ?_⟩
    have e2 := (q6 k (by omega)).symm.trans (p6 k hk)
    simpa using e2
  refine ⟨(s.heap.size, 0, cel), ⟨⟨by show (cel b).1 = 40; rw [cb], by show (cel b).2.1 = L; rw [cb], fun j => by show (cel b).2.2.1 j = xs j; rw [cb], hbl⟩, ⟨t, ?_, by show (cel t).1 = 40; rw [ct], by show (cel t).2.1 = 6; rw [ct], fun j hj => by show (cel t).2.2.1 j = _; rw [ct], lt_T hT⟩, fun j hj => ?_, by show 0 < s.heap.size; omega⟩, ⟨rfl, by rw [hB]; exact Nat.le_refl _, fun a h1 h2 => ?_⟩, fun a ha => ?_, fun j hj => ?_⟩
  · show (cel 0).2.2.2 20 = t + 1
    rw [cr, ← ht]
    show (if (20 : Nat) = 30 then _ else if (0 : Nat) = 0 ∧ (20 : Nat) < 30 then _ else _) = _
    rw [if_neg (by decide), if_pos (by decide)]
  · obtain ⟨z, hz, q1, q2, q3, q4⟩ := hK j hj
    have hKz : isK z := ⟨j, hj, hz⟩
    have hVv : isV (adV j) := ⟨j, hj, rfl⟩
    have ez : nK z = j := hinj _ _ (hnK z hKz).1 hj (by rw [(hnK z hKz).2, hz])
    have cz := co z (bK j z hj hz) (tK j z hj hz)
    have cv := co (adV j) (bV j hj) (tV j hj)
    refine ⟨z, adV j, ?_, ?_, ?_, ?_, ?_, fun k hk => ?_, lt_O q1, lt_T q4⟩
    · show (cel 0).2.2.2 j = z + 1
      rw [cr, ← hz]
      show (if j = 30 then _ else if (0 : Nat) = 0 ∧ j < 30 then _ else _) = _
      rw [if_neg (by omega), if_pos ⟨rfl, by omega⟩]
    · show (cel z).1 = 41 ∨ (cel z).1 = 43
      rw [cz]
      by_cases h2 : isV z
      · exact Or.inr ((hkK z).1 hKz h2)
      · exact Or.inl ((hkK z).2.1 hKz h2)
    · show (cel z).2.2.2 30 = adV j
      rw [cr]
      show (if (30 : Nat) = 30 then adV (nK z) else _) = _
      rw [if_pos rfl, ez]
    · show (cel (adV j)).1 = 42 ∨ (cel (adV j)).1 = 43
      rw [cv]
      by_cases h2 : isK (adV j)
      · exact Or.inr ((hkK _).1 h2 hVv)
      · exact Or.inl ((hkK _).2.2.1 h2 hVv)
    · show (cel (adV j)).2.1 = _
      rw [cv]
      exact (vlen j hj).1
    · show (cel (adV j)).2.2.1 k = _
      rw [cv]
      exact (vlen j hj).2 k hk
  · have h1 : ¬ (cel a).1 = 0 := h1
    have h2 : (cel a).1 < 40 := h2
    rcases kk a with q | q
    · omega
    · rcases kv a with r | r | r | r <;> omega
  · have ha : 40 ≤ (cel a).1 := ha
    show oldAt G s a (cel a)
    by_cases h1 : a = b
    · subst h1
      rw [cb]
      refine ⟨fun _ => ⟨scr, x1, x2, x3, by show L ≤ _; omega, by rw [x4], fun j hj => x5 j hj, hA _ hbl⟩, fun h => ?_, fun h => ?_⟩
      · rcases h with h | h <;> cases h
      · rcases h with h | h <;> cases h
    · by_cases h2 : a = t
      · subst h2
        rw [ct]
        refine ⟨fun _ => hT, fun h => ?_, fun h => ?_⟩
        · rcases h with h | h <;> cases h
        · rcases h with h | h <;> cases h
      · rw [co a h1 h2] at ha ⊢
        refine ⟨fun h => ?_, fun h => ?_, fun h => ?_⟩
        · have h : kK a = 40 := h
          rcases kv a with r | r | r | r <;> omega
        · have h : kK a = 42 ∨ kK a = 43 := h
          have hv : isV a := by
            by_cases hv : isV a
            · exact hv
            · by_cases hk : isK a
              · have := (hkK a).2.1 hk hv; omega
              · have := (hkK a).2.2.2 hk hv; omega
          obtain ⟨g1, g2⟩ := hnV a hv
          obtain ⟨-, -, -, -, -, q⟩ := hK (nV a) g1
          rw [g2] at q
          exact q
        · have h : kK a = 41 ∨ kK a = 43 := h
          have hk : isK a := by
            by_cases hk : isK a
            · exact hk
            · by_cases hv : isV a
              · have := (hkK a).2.2.1 hk hv; omega
              · have := (hkK a).2.2.2 hk hv; omega
          obtain ⟨g1, g2⟩ := hnK a hk
          obtain ⟨z, hz, q1, q2, q3, -⟩ := hK (nK a) g1
          have e : z = a := by omega
          subst e
          refine ⟨q1, q2, ?_⟩
          show va_OF _ _ _ (.ref (rz z 30)) _ _ _ _
          have e30 : rz z 30 = adV (nK z) := if_pos rfl
          rw [e30]
          exact q3
  · show (cel 0).2.2.2 j = G.2.2.2 j
    rw [cr]
    show (if j = 30 then _ else if (0 : Nat) = 0 ∧ j < 30 then _ else _) = _
    rw [if_neg (by omega), if_pos ⟨rfl, hj⟩]
