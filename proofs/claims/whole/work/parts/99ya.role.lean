/-! THE START'S ROLE MEMORY: the script (role 540), the row of styles (530), the texts (500 + 2i) and their bytes (501 + 2i) -/
theorem fits_no {s : State} {c : Cell} {i z : Nat} (ha : s.isArrayOf c .byte) (h : s.fitsSlot c.cls c.vm i (.ref z) = true) : False := by
  obtain ⟨hobj, k, hk, comp, hkind⟩ := ha
  cases hvm : c.vm <;> first | exact absurd hvm (hobj _) | (rw [hvm] at h; simp [State.fitsSlot, State.slotType?, hk, hkind, Jvm.fits] at h)
theorem fit_of {s : State} (h : heapFits s = true) (a : Nat) (c : Cell) (h1 : s.heap[a]? = some c) (i : Nat) (v : Value) (h2 : c.slots[i]? = some v) : s.fitsSlot c.cls c.vm i v = true := by
  obtain ⟨ha, hc⟩ := Array.getElem?_eq_some_iff.mp h1
  have h3 : s.heap.all (cellFits s) = true := h
  have h4 : cellFits s c = true := by
    have q := Array.all_eq_true.mp h3 a ha
    rw [hc] at q
    exact q
  obtain ⟨hi, -⟩ := Array.getElem?_eq_some_iff.mp h2
  unfold cellFits at h4
  have h6 := List.all_eq_true.mp h4 i (List.mem_range.mpr hi)
  simp only [h2] at h6
  exact h6
theorem st_dif : ∀ i, i < 12 → ∀ j, j < 12 → sLen.getD i 0 = sLen.getD j 0 → (∀ k, k < sLen.getD i 0 → (sByt.getD i []).getD k 0 = (sByt.getD j []).getD k 0) → i = j := by decide +kernel
def rz_ad (b t : Nat) (zz vv : Nat → Nat) (c : Nat) : Nat := if c = 540 then b else if c = 530 then t else if 500 ≤ c ∧ c < 524 then (if c % 2 = 0 then zz ((c - 500) / 2) else vv ((c - 500) / 2)) else 0
def rz_ki (c : Nat) : Nat := if c = 540 then 40 else if c = 530 then 40 else if 500 ≤ c ∧ c < 524 then (if c % 2 = 0 then 41 else 42) else 0
def rz_ln (L c : Nat) : Nat := if c = 540 then L else if c = 530 then 6 else if 500 ≤ c ∧ c < 524 then (if c % 2 = 0 then 0 else sLen.getD ((c - 500) / 2) 0) else 0
def rz_nm (xs : Nat → Int32) (c : Nat) (j : Int) : Int := if c = 540 then (xs j.toNat).toInt else if c = 530 then (sAb.getD j.toNat 0).toInt else if 500 ≤ c ∧ c < 524 ∧ c % 2 = 1 then ((sByt.getD ((c - 500) / 2) []).getD j.toNat 0).toInt else 0
def rz_rf (c : Nat) (j : Int) : Nat := if 500 ≤ c ∧ c < 524 ∧ c % 2 = 0 ∧ j = 30 then c + 2 else 0
def rz_W (ro : Nat → Nat) (b t L : Nat) (zz vv g : Nat → Nat) (N : Nat) : gW := (rz_ad b t zz vv, ro, rz_ki, rz_ln L, fun a => (0, 0, fun _ => 0, fun j => if a = 0 ∧ j < 30 then g j else 0), N, 0)
theorem rz_cs {c : Nat} (h : ¬ rz_ki c = 0) : c = 540 ∨ c = 530 ∨ (∃ i, i < 12 ∧ c = 500 + 2 * i) ∨ ∃ i, i < 12 ∧ c = 501 + 2 * i := by
  unfold rz_ki at h
  by_cases e1 : c = 540
  · exact Or.inl e1
  by_cases e2 : c = 530
  · exact Or.inr (Or.inl e2)
  rw [if_neg e1, if_neg e2] at h
  by_cases e3 : 500 ≤ c ∧ c < 524
  · by_cases e4 : c % 2 = 0
    · exact Or.inr (Or.inr (Or.inl ⟨(c - 500) / 2, by omega, by omega⟩))
    · exact Or.inr (Or.inr (Or.inr ⟨(c - 500) / 2, by omega, by omega⟩))
  · exact absurd (if_neg e3) h
section RZ
variable {b t L : Nat} {zz vv g : Nat → Nat} {i : Nat}
theorem rz_z (hi : i < 12) : rz_ad b t zz vv (500 + 2 * i) = zz i := by
  unfold rz_ad
  rw [if_neg (by omega), if_neg (by omega), if_pos ⟨by omega, by omega⟩, if_pos (by omega), show (500 + 2 * i - 500) / 2 = i by omega]
theorem rz_v (hi : i < 12) : rz_ad b t zz vv (501 + 2 * i) = vv i := by
  unfold rz_ad
  rw [if_neg (by omega), if_neg (by omega), if_pos ⟨by omega, by omega⟩, if_neg (by omega), show (501 + 2 * i - 500) / 2 = i by omega]
theorem rz_540 : rz_ad b t zz vv 540 = b := if_pos rfl
theorem rz_530 : rz_ad b t zz vv 530 = t := by
  unfold rz_ad
  rw [if_neg (by decide), if_pos rfl]
theorem rz_kz (hi : i < 12) : rz_ki (500 + 2 * i) = 41 := by
  unfold rz_ki
  rw [if_neg (by omega), if_neg (by omega), if_pos ⟨by omega, by omega⟩, if_pos (by omega)]
theorem rz_kv (hi : i < 12) : rz_ki (501 + 2 * i) = 42 := by
  unfold rz_ki
  rw [if_neg (by omega), if_neg (by omega), if_pos ⟨by omega, by omega⟩, if_neg (by omega)]
theorem rz_lv (hi : i < 12) : rz_ln L (501 + 2 * i) = sLen.getD i 0 := by
  unfold rz_ln
  rw [if_neg (by omega), if_neg (by omega), if_pos ⟨by omega, by omega⟩, if_neg (by omega), show (501 + 2 * i - 500) / 2 = i by omega]
theorem rz_k40 {c : Nat} (h : ¬ rz_ki c = 0) : 40 ≤ rz_ki c := by
  rcases rz_cs h with rfl | rfl | ⟨i, hi, rfl⟩ | ⟨i, hi, rfl⟩
  · decide
  · decide
  · rw [rz_kz hi]; decide
  · rw [rz_kv hi]; decide
theorem rz_nv {xs : Nat → Int32} (hi : i < 12) (k : Nat) : rz_nm xs (501 + 2 * i) (k : Int) = ((sByt.getD i []).getD k 0).toInt := by
  unfold rz_nm
  rw [if_neg (by omega), if_neg (by omega), if_pos ⟨by omega, by omega, by omega⟩, show (501 + 2 * i - 500) / 2 = i by omega, Int.toNat_natCast]
theorem rz_p (hi : i < 12) : rz_rf (500 + 2 * i) 30 = 501 + 2 * i + 1 := by
  unfold rz_rf
  rw [if_pos ⟨by omega, by omega, by omega, rfl⟩]
  omega
theorem rz_hw {N : Nat} (hlt : ∀ c, ¬ rz_ki c = 0 → rz_ad b t zz vv c < N) (hin : ∀ c d, ¬ rz_ki c = 0 → ¬ rz_ki d = 0 → rz_ad b t zz vv c = rz_ad b t zz vv d → c = d) (hN : 0 < N) : ∃ ro : Nat → Nat, HW (rz_W ro b t L zz vv g N) := by
  have ch : ∀ a, ∃ r : Nat, (∀ c, ¬ rz_ki c = 0 → rz_ad b t zz vv c = a → r = c + 1) ∧ (¬ r = 0 → rz_ad b t zz vv (r - 1) = a ∧ ¬ rz_ki (r - 1) = 0) := fun a => by
    by_cases h : ∃ c, ¬ rz_ki c = 0 ∧ rz_ad b t zz vv c = a
    · obtain ⟨c, h1, h2⟩ := h
      exact ⟨c + 1, fun d q1 q2 => by rw [hin d c q1 h1 (q2.trans h2.symm)], fun _ => ⟨h2, h1⟩⟩
    · exact ⟨0, fun c q1 q2 => absurd ⟨c, q1, q2⟩ h, fun q => absurd rfl q⟩
  obtain ⟨ro, hro⟩ := Classical.axiomOfChoice ch
  refine ⟨ro, fun c hc => ⟨(hro _).1 c hc rfl, fun q => ?_, hlt c hc⟩, fun a ha => ?_, fun a ha => (hro a).2 ha, hN⟩
  · have q1 : rz_ki c < 40 := q
    have q2 := rz_k40 (c := c) hc
    omega
  · have ha : N ≤ a := ha
    show ro a = 0
    apply Classical.byContradiction
    intro q
    obtain ⟨h1, h2⟩ := (hro a).2 q
    have := hlt _ h2
    omega
end RZ
theorem rz_ex {s : State} {b L : Nat} {xs : Nat → Int32} {G : xG} {adV : Nat → Nat} {t : Nat} (hX : va_X b L xs s s.heap) (hbl : b < s.heap.size)
    (hK : ∀ j, j < 12 → ∃ z, G.2.2.2 j = z + 1 ∧ va_O "java/lang/String" z (gA G) s s.heap ∧ va_OF "java/lang/String" "coder" "B" (.int 0) z (gA G) s s.heap ∧ va_OF "java/lang/String" "value" "[B" (.ref (adV j)) z (gA G) s s.heap ∧ va_T .byte (adV j) (sLen.getD j 0) (fun k => .int ((sByt.getD j []).getD k 0)) (gA G) s s.heap)
    (hinj : ∀ i j, i < 12 → j < 12 → G.2.2.2 i = G.2.2.2 j → i = j) (hT : va_T .int t 6 (fun j => .int (sAb.getD j 0)) (gA G) s s.heap) (hbt : b ≠ t) (hcl : ∃ (c : ClassId) (cell : Cell), s.heap[t]? = some cell ∧ cell.cls = c ∧ s.vm.findClass "[I" = some c)
    (hF : ∀ (a : Nat) (c : Cell), s.heap[a]? = some c → ∀ (i : Nat) (v : Value), c.slots[i]? = some v → s.fitsSlot c.cls c.vm i v = true) :
    ∃ zz : Nat → Nat, (∀ j, j < 12 → G.2.2.2 j = zz j + 1 ∧ va_O "java/lang/String" (zz j) (gA G) s s.heap ∧ va_OF "java/lang/String" "coder" "B" (.int 0) (zz j) (gA G) s s.heap ∧ va_OF "java/lang/String" "value" "[B" (.ref (adV j)) (zz j) (gA G) s s.heap ∧ va_T .byte (adV j) (sLen.getD j 0) (fun k => .int ((sByt.getD j []).getD k 0)) (gA G) s s.heap) ∧
      (∀ c, ¬ rz_ki c = 0 → rz_ad b t zz adV c < s.heap.size) ∧ ∀ c d, ¬ rz_ki c = 0 → ¬ rz_ki d = 0 → rz_ad b t zz adV c = rz_ad b t zz adV d → c = d := by
  have chz : ∀ j, ∃ z : Nat, j < 12 → (G.2.2.2 j = z + 1 ∧ va_O "java/lang/String" z (gA G) s s.heap ∧ va_OF "java/lang/String" "coder" "B" (.int 0) z (gA G) s s.heap ∧ va_OF "java/lang/String" "value" "[B" (.ref (adV j)) z (gA G) s s.heap ∧ va_T .byte (adV j) (sLen.getD j 0) (fun k => .int ((sByt.getD j []).getD k 0)) (gA G) s s.heap) := fun j => by
    by_cases h : j < 12
    · obtain ⟨z, q⟩ := hK j h
      exact ⟨z, fun _ => q⟩
    · exact ⟨0, fun q => absurd q h⟩
  obtain ⟨zz, hz⟩ := Classical.axiomOfChoice chz
  obtain ⟨scr, x1, x2, x3, x4, x5⟩ := hX
  have lt_O : ∀ {E : String} {z : Nat}, va_O E z (gA G) s s.heap → z < s.heap.size := fun h => by
    obtain ⟨cell, q, -⟩ := h
    exact (Array.getElem?_eq_some_iff.mp q).1
  have lt_T : ∀ {ty : FieldType} {z n : Nat} {f : Nat → Value}, va_T ty z n f (gA G) s s.heap → z < s.heap.size := fun h => by
    obtain ⟨cell, q, -⟩ := h
    exact (Array.getElem?_eq_some_iff.mp q).1
  have ib : ∀ {z : Nat} {c1 c2 : Cell}, s.heap[z]? = some c1 → s.isArrayOf c1 .int → s.heap[z]? = some c2 → s.isArrayOf c2 .byte → False := fun h1 a1 h2 a2 => by
    cases h1.symm.trans h2
    obtain ⟨-, k1, e1, m1, r1⟩ := a1
    obtain ⟨-, k2, e2, m2, r2⟩ := a2
    cases e1.symm.trans e2
    rw [r1] at r2
    cases r2
  have bV : ∀ j, j < 12 → adV j ≠ b := fun j hj e => by
    obtain ⟨-, -, -, -, cell, q1, q2, -⟩ := hz j hj
    rw [e] at q1
    exact ib x1 x2 q1 q2
  have tV : ∀ j, j < 12 → adV j ≠ t := fun j hj e => by
    obtain ⟨-, -, -, -, cell, q1, q2, -⟩ := hz j hj
    obtain ⟨cell2, r1, r2, -⟩ := hT
    rw [e] at q1
    exact ib r1 r2 q1 q2
  have bK : ∀ j, j < 12 → zz j ≠ b := fun j hj e => by
    obtain ⟨-, -, -, q, -⟩ := hz j hj
    obtain ⟨cf, k, i, f, cell, -, -, q3, -, q5, -⟩ := q
    rw [e] at q3
    cases x1.symm.trans q3
    have hlt := (Array.getElem?_eq_some_iff.mp q5).1
    rw [x5 _ (by omega)] at q5
    cases q5
  have tK : ∀ j, j < 12 → zz j ≠ t := fun j hj e => by
    obtain ⟨-, q, -⟩ := hz j hj
    obtain ⟨cell, q1, -, q3, -⟩ := q
    obtain ⟨c, cell2, r1, r2, r3⟩ := hcl
    rw [e] at q1
    cases q1.symm.trans r1
    rw [r2] at q3
    obtain ⟨k1, m1, n1⟩ := Vm.findClass_spec q3
    obtain ⟨k2, m2, n2⟩ := Vm.findClass_spec r3
    cases m1.symm.trans m2
    rw [n1] at n2
    exact absurd n2 (by decide)
  have zv : ∀ i j, i < 12 → j < 12 → zz i ≠ adV j := fun i j hi hj e => by
    obtain ⟨-, -, -, ⟨cf, k, i0, f, cell, -, -, q3, -, q5, -⟩, -⟩ := hz i hi
    obtain ⟨-, -, -, -, cell2, r1, r2, -⟩ := hz j hj
    rw [e] at q3
    cases q3.symm.trans r1
    exact fits_no r2 (hF _ _ q3 _ _ q5)
  have zi : ∀ i j, i < 12 → j < 12 → zz i = zz j → i = j := fun i j hi hj e => hinj i j hi hj (by rw [(hz i hi).1, (hz j hj).1, e])
  have vi : ∀ i j, i < 12 → j < 12 → adV i = adV j → i = j := fun i j hi hj e => by
    obtain ⟨-, -, -, -, c1, p1, -, -, p4, p5, p6, -⟩ := hz i hi
    obtain ⟨-, -, -, -, c2, q1, -, -, q4, q5, q6, -⟩ := hz j hj
    rw [e] at p1
    cases p1.symm.trans q1
    have hl : ∀ i, i < 12 → sLen.getD i 0 < 2 ^ 31 := by decide +kernel
    have e1 : sLen.getD i 0 = sLen.getD j 0 := by
      have e2 : nI (sLen.getD i 0) = nI (sLen.getD j 0) := p5.symm.trans q5
      exact (nI_eq (hl i hi) (hl j hj)).mp e2
    refine st_dif i hi j hj e1 (fun k hk => ?_)
    have e2 := (p6 k hk).symm.trans (q6 k (by omega))
    simpa using e2
  refine ⟨zz, hz, fun c hc => ?_, fun c d hc hd e => ?_⟩
  · rcases rz_cs hc with rfl | rfl | ⟨i, hi, rfl⟩ | ⟨i, hi, rfl⟩
    · rw [rz_540]; exact hbl
    · rw [rz_530]; exact lt_T hT
    · rw [rz_z hi]; exact lt_O (hz i hi).2.1
    · rw [rz_v hi]; exact lt_T (hz i hi).2.2.2.2
  · rcases rz_cs hc with rfl | rfl | ⟨i, hi, rfl⟩ | ⟨i, hi, rfl⟩
    · rw [rz_540] at e
      rcases rz_cs hd with rfl | rfl | ⟨j, hj, rfl⟩ | ⟨j, hj, rfl⟩
      · rfl
      · rw [rz_530] at e; exact absurd e hbt
      · rw [rz_z hj] at e; exact absurd e.symm (bK j hj)
      · rw [rz_v hj] at e; exact absurd e.symm (bV j hj)
    · rw [rz_530] at e
      rcases rz_cs hd with rfl | rfl | ⟨j, hj, rfl⟩ | ⟨j, hj, rfl⟩
      · rw [rz_540] at e; exact absurd e.symm hbt
      · rfl
      · rw [rz_z hj] at e; exact absurd e.symm (tK j hj)
      · rw [rz_v hj] at e; exact absurd e.symm (tV j hj)
    · rw [rz_z hi] at e
      rcases rz_cs hd with rfl | rfl | ⟨j, hj, rfl⟩ | ⟨j, hj, rfl⟩
      · rw [rz_540] at e; exact absurd e (bK i hi)
      · rw [rz_530] at e; exact absurd e (tK i hi)
      · rw [rz_z hj] at e; rw [zi i j hi hj e]
      · rw [rz_v hj] at e; exact absurd e (zv i j hi hj)
    · rw [rz_v hi] at e
      rcases rz_cs hd with rfl | rfl | ⟨j, hj, rfl⟩ | ⟨j, hj, rfl⟩
      · rw [rz_540] at e; exact absurd e (bV i hi)
      · rw [rz_530] at e; exact absurd e (tV i hi)
      · rw [rz_z hj] at e; exact absurd e.symm (zv j i hj hi)
      · rw [rz_v hj] at e; rw [vi i j hi hj e]
/-- the machine's start is a role memory -/
theorem start_role {s : State} {b L : Nat} {xs : Nat → Int32} {G : xG} {adV : Nat → Nat} {t : Nat} (hX : va_X b L xs s s.heap) (hbl : b < s.heap.size) (hB : G.2.2.1 = s.heap.size)
    (hK : ∀ j, j < 12 → ∃ z, G.2.2.2 j = z + 1 ∧ va_O "java/lang/String" z (gA G) s s.heap ∧ va_OF "java/lang/String" "coder" "B" (.int 0) z (gA G) s s.heap ∧ va_OF "java/lang/String" "value" "[B" (.ref (adV j)) z (gA G) s s.heap ∧ va_T .byte (adV j) (sLen.getD j 0) (fun k => .int ((sByt.getD j []).getD k 0)) (gA G) s s.heap)
    (hinj : ∀ i j, i < 12 → j < 12 → G.2.2.2 i = G.2.2.2 j → i = j) (ht : G.2.2.2 20 = t + 1) (hT : va_T .int t 6 (fun j => .int (sAb.getD j 0)) (gA G) s s.heap) (hbt : b ≠ t) (hcl : ∃ (c : ClassId) (cell : Cell), s.heap[t]? = some cell ∧ cell.cls = c ∧ s.vm.findClass "[I" = some c)
    (hF : ∀ (a : Nat) (c : Cell), s.heap[a]? = some c → ∀ (i : Nat) (v : Value), c.slots[i]? = some v → s.fitsSlot c.cls c.vm i v = true) :
    ∃ (W : gW) (P : Nat → Int → Nat) (A : Nat → Int → Int), (HW W ∧ HR W P ∧ RG A ∧ GL W) ∧ ((∀ c, c < 500 ∨ 541 ≤ c → gK W c = 0) ∧ (∀ c, c < 500 ∨ 541 ≤ c → A c = fun _ => 0) ∧ ∀ c, c < 500 ∨ 541 ≤ c → P c = fun _ => 0) ∧ (StrA A ∧ (∀ j, j < 12 → P (500 + 2 * j) 30 = 501 + 2 * j + 1) ∧ gK W 540 = 40 ∧ gL W 540 = L) ∧ lo W 540 = b ∧ Rp G (Wm W A P) s.heap ∧ OLD G s (Wm W A P) := by
  obtain ⟨zz, hz, hlt, hin⟩ := rz_ex hX hbl hK hinj hT hbt hcl hF
  obtain ⟨scr, x1, x2, x3, x4, x5⟩ := hX
  have hA : ∀ a : Nat, a < s.heap.size → ¬ gA G a := fun a h => by show ¬ G.2.2.1 ≤ a; omega
  obtain ⟨ro, hW⟩ := rz_hw (L := L) (g := G.2.2.2) hlt hin (show 0 < s.heap.size by omega)
  have kdc : ∀ a, kd (Wm (rz_W ro b t L zz adV G.2.2.2 s.heap.size) (rz_nm xs) rz_rf) a = 0 ∨ ∃ c, a = lo (rz_W ro b t L zz adV G.2.2.2 s.heap.size) c ∧ ¬ rz_ki c = 0 := fun a => by
    by_cases e : gRo (rz_W ro b t L zz adV G.2.2.2 s.heap.size) a = 0
    · refine Or.inl ?_
      show ((if gRo (rz_W ro b t L zz adV G.2.2.2 s.heap.size) a = 0 then gz (rz_W ro b t L zz adV G.2.2.2 s.heap.size) a else (_ : xC)) : xC).1 = 0
      rw [if_pos e]
      rfl
    · obtain ⟨h1, h2⟩ := hW.2.2.1 a e
      exact Or.inr ⟨_, h1.symm, h2⟩
  refine ⟨rz_W ro b t L zz adV G.2.2.2 s.heap.size, rz_rf, rz_nm xs, ⟨hW, fun c j h => ?_, fun c j => ?_, ⟨fun j hj => ⟨?_, Or.inl (rz_kz hj), Or.inl (rz_kv hj), rz_lv hj⟩, ?_, rfl, rfl⟩⟩, ⟨fun c hc => ?_, fun c hc => ?_, fun c hc => ?_⟩, ⟨⟨fun j hj k _ => rz_nv hj k, fun j _ => rfl⟩, fun j hj => rz_p hj, rfl, rfl⟩, rfl, ⟨rfl, by rw [hB]; exact Nat.le_refl _, fun a h1 h2 => ?_⟩, fun a ha => ?_, fun j hj => ?_⟩
  · by_cases e : 500 ≤ c ∧ c < 524 ∧ c % 2 = 0 ∧ j = 30
    · have e1 : rz_rf c j = c + 2 := if_pos e
      have e2 : c + 2 - 1 = 501 + 2 * ((c - 500) / 2) := by omega
      show ¬ rz_ki (rz_rf c j - 1) = 0 ∧ (rz_ki c < 40 → rz_ki (rz_rf c j - 1) < 40)
      rw [e1, e2, rz_kv (by omega)]
      refine ⟨by decide, fun q => ?_⟩
      have e3 : rz_ki (500 + 2 * ((c - 500) / 2)) = 41 := rz_kz (by omega)
      rw [show 500 + 2 * ((c - 500) / 2) = c by omega] at e3
      omega
    · exact absurd (if_neg e) h
  · unfold rz_nm
    by_cases e1 : c = 540
    · rw [if_pos e1]; exact rg_t _
    · rw [if_neg e1]
      by_cases e2 : c = 530
      · rw [if_pos e2]; exact rg_t _
      · rw [if_neg e2]
        by_cases e3 : 500 ≤ c ∧ c < 524 ∧ c % 2 = 1
        · rw [if_pos e3]; exact rg_t _
        · rw [if_neg e3]; exact ⟨by decide, by decide⟩
  · show (if (0 : Nat) = 0 ∧ j < 30 then G.2.2.2 j else 0) = rz_ad b t zz adV (500 + 2 * j) + 1
    rw [if_pos ⟨rfl, by omega⟩, rz_z hj]
    exact (hz j hj).1
  · show (if (0 : Nat) = 0 ∧ (20 : Nat) < 30 then G.2.2.2 20 else 0) = rz_ad b t zz adV 530 + 1
    rw [if_pos ⟨rfl, by decide⟩, rz_530]
    exact ht
  · show rz_ki c = 0
    unfold rz_ki
    rw [if_neg (by omega), if_neg (by omega), if_neg (by omega)]
  · funext j
    show rz_nm xs c j = 0
    unfold rz_nm
    rw [if_neg (by omega), if_neg (by omega), if_neg (by omega)]
  · funext j
    show rz_rf c j = 0
    unfold rz_rf
    rw [if_neg (by omega)]
  · rcases kdc a with q | ⟨c, rfl, hc⟩
    · exact absurd q h1
    · have q := rz_k40 hc
      have e : kd (Wm (rz_W ro b t L zz adV G.2.2.2 s.heap.size) (rz_nm xs) rz_rf) (lo (rz_W ro b t L zz adV G.2.2.2 s.heap.size) c) = rz_ki c := wk_kd hW hc rfl
      rw [e] at h2
      omega
  · rcases kdc a with q | ⟨c, rfl, hc⟩
    · rw [q] at ha
      exact absurd ha (by decide)
    · rw [wm_at hW hc]
      rcases rz_cs hc with rfl | rfl | ⟨i, hi, rfl⟩ | ⟨i, hi, rfl⟩
      · refine ⟨fun _ => ?_, fun h => ?_, fun h => ?_⟩
        · have e : (fun j => Value.int (mI (rz_nm xs) 540 j)) = fun j => Value.int (xs j) := by
            funext j
            exact congrArg Value.int (iz_of (xs j))
          show va_T .int b L (fun j => Value.int (mI (rz_nm xs) 540 j)) (gA G) s s.heap
          rw [e]
          exact ⟨scr, x1, x2, x3, by omega, by rw [x4], fun j hj => x5 j hj, hA _ hbl⟩
        · have h : (40 : Nat) = 42 ∨ (40 : Nat) = 43 := h
          omega
        · have h : (40 : Nat) = 41 ∨ (40 : Nat) = 43 := h
          omega
      · refine ⟨fun _ => ?_, fun h => ?_, fun h => ?_⟩
        · have e : (fun j => Value.int (mI (rz_nm xs) 530 j)) = fun j => Value.int (sAb.getD j 0) := by
            funext j
            exact congrArg Value.int (iz_of (sAb.getD j 0))
          show va_T .int t 6 (fun j => Value.int (mI (rz_nm xs) 530 j)) (gA G) s s.heap
          rw [e]
          exact hT
        · have h : (40 : Nat) = 42 ∨ (40 : Nat) = 43 := h
          omega
        · have h : (40 : Nat) = 41 ∨ (40 : Nat) = 43 := h
          omega
      · have ka : rz_ki (500 + 2 * i) = 41 := rz_kz hi
        refine ⟨fun h => ?_, fun h => ?_, fun _ => ?_⟩
        · have h : rz_ki (500 + 2 * i) = 40 := h
          omega
        · have h : rz_ki (500 + 2 * i) = 42 ∨ rz_ki (500 + 2 * i) = 43 := h
          omega
        · have eg : gRf (rz_W ro b t L zz adV G.2.2.2 s.heap.size) rz_rf (rz_ad b t zz adV (500 + 2 * i)) (500 + 2 * i) 30 = adV i := by
            rw [gRf_n (Or.inr (by decide))]
            show (if rz_rf (500 + 2 * i) 30 = 0 then 0 else rz_ad b t zz adV (rz_rf (500 + 2 * i) 30 - 1)) = adV i
            rw [rz_p hi, if_neg (by omega), show 501 + 2 * i + 1 - 1 = 501 + 2 * i by omega, rz_v hi]
          show va_O "java/lang/String" (rz_ad b t zz adV (500 + 2 * i)) (gA G) s s.heap ∧ va_OF "java/lang/String" "coder" "B" (.int 0) (rz_ad b t zz adV (500 + 2 * i)) (gA G) s s.heap ∧ va_OF "java/lang/String" "value" "[B" (.ref (gRf (rz_W ro b t L zz adV G.2.2.2 s.heap.size) rz_rf (rz_ad b t zz adV (500 + 2 * i)) (500 + 2 * i) 30)) (rz_ad b t zz adV (500 + 2 * i)) (gA G) s s.heap
          rw [eg, rz_z hi]
          exact ⟨(hz i hi).2.1, (hz i hi).2.2.1, (hz i hi).2.2.2.1⟩
      · have ka : rz_ki (501 + 2 * i) = 42 := rz_kv hi
        refine ⟨fun h => ?_, fun _ => ?_, fun h => ?_⟩
        · have h : rz_ki (501 + 2 * i) = 40 := h
          omega
        · have e : (fun j => Value.int (mI (rz_nm xs) (501 + 2 * i) j)) = fun k => Value.int ((sByt.getD i []).getD k 0) := by
            funext k
            show Value.int (iz (rz_nm xs (501 + 2 * i) (k : Int))) = _
            rw [rz_nv hi, iz_of]
          show va_T .byte (rz_ad b t zz adV (501 + 2 * i)) (rz_ln L (501 + 2 * i)) (fun j => Value.int (mI (rz_nm xs) (501 + 2 * i) j)) (gA G) s s.heap
          rw [e, rz_v hi, rz_lv hi]
          exact (hz i hi).2.2.2.2
        · have h : rz_ki (501 + 2 * i) = 41 ∨ rz_ki (501 + 2 * i) = 43 := h
          omega
  · rw [xp_0 hW hj]
    show (if (0 : Nat) = 0 ∧ j < 30 then G.2.2.2 j else 0) = _
    exact if_pos ⟨rfl, hj⟩
