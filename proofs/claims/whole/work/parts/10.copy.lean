/-! CLONE AND COPY OF ROWS OF INTS, AND THE RUN OF A WHOLE METHOD -/
section COPY
variable {own : String} {cc : ByteArray} {nL : Nat} {ret : Option FieldType} {nm : String} {pc : Nat}
theorem nn_of {z : Int32} (hz : ¬ z < 0) : z.toInt = (z.toNatClampNeg : Int) := by
  have hz0 : (0 : Int) ≤ z.toInt := by
    have := Int32.not_lt.mp hz
    simpa using Int32.le_iff_toInt_le.mp this
  show z.toInt = ((z.toInt.toNat : Nat) : Int)
  omega
theorem j_copy {idx nx : Nat} (hw1 : Cond.methodLink own idx arraycopyName ∈ gt) (hw2 : Cond.native arraycopyName ∈ gt) (hw3 : Cond.static arraycopyName ∈ gt) (hw4 : Cond.initialized "java/lang/System" ∈ gt) (hd : decode cc pc = .ok (.invokestatic idx, 3)) (hn : pc + 3 = nx) : JJ own cc nL ret nm pc (oCopy nx) := by
  subst hn
  refine ⟨fun ls st σ => by unfold oCopy; split <;> first | exact xle_rf | exact trivial, fun G p l e R s m args below meth c σ0 Q d ev rf σf X hC hR hM hE ls st σ h0 hk H locs lsA hP hO hS hl => ?_⟩
  unfold oCopy at hk
  split at hk
  · next n dp a sp b r =>
    obtain ⟨⟨ka, kb, h1, h2, h3, h4, h5, hsum⟩, -, hk⟩ := hk
    have k1 : ¬ kd σ a = 0 := by rw [ka]; omega
    have k2 : kd σ a < 40 := by rw [ka]; omega
    have hB := (hP.2.2 a k1 k2).1
    have hc1 := rp_at hP k1 k2
    rw [enc_ari ka (by decide) (by decide)] at hc1
    have hc0 := rp_at hP (a := b) (by rw [kb]; omega) (by rw [kb]; omega)
    rw [enc_ari kb (by decide) (by decide)] at hc0
    have hts := X.2.2.2.2.2.1
    have hA := (X.2.2.2.2.2.2.2.1.1.2 0 _ (ty_at (k := 20) (by decide) (by decide))).1
    obtain ⟨-, k0, hk0, cm0, hkk0⟩ := hA (ln σ b) (fun j => .int ((σ.2.2 b).2.2.1 j))
    obtain ⟨-, k1', hk1, cm1, hkk1⟩ := hA (ln σ a) (fun j => .int ((σ.2.2 a).2.2.1 j))
    intro T hT X0
    obtain ⟨vm', X', step⟩ := X0.arraycopy X.1 X.2.2.2.2.1 (hts _ hw1) (hts _ hw2) (hts _ hw3) (hts _ hw4) (src := b) (dst := a) (cs := vp_cell (G.2.1 20) (ln σ b, .inl (σ.2.2 b).2.2.1)) (cd := vp_cell (G.2.1 20) (ln σ a, .inl (σ.2.2 a).2.2.1)) (srcPos := sp) (destPos := dp) (n := n) (by rw [hT]; exact hc0) (by rw [hT]; exact hc1)
      (fun _ h => by cases h) (fun _ h => by cases h) (fun h => by cases h) (fun h => by cases h) hk0 hk1 hkk0 hkk1 (by simp [kTy, refKind]) h1 h2 h3
      (by rw [nn_of h1, nn_of h3]; show ¬ _ > ((arrV _ (ln σ b) (fun j => .int ((σ.2.2 b).2.2.1 j))).slots.size : Int); rw [arrV_size]; omega)
      (by rw [nn_of h2, nn_of h3]; show ¬ _ > ((arrV _ (ln σ a) (fun j => .int ((σ.2.2 a).2.2.1 j))).slots.size : Int); rw [arrV_size]; omega)
      (fun vm₁ _ i hi => by
        have e9 : (vp_cell (G.2.1 20) (ln σ b, .inl (σ.2.2 b).2.2.1)).slots.getD (sp.toNatClampNeg + i) .null = .int ((σ.2.2 b).2.2.1 (sp.toNatClampNeg + i)) := by
          show (arrV _ (ln σ b) (fun j => .int ((σ.2.2 b).2.2.1 j))).slots.getD _ _ = _
          rw [Array.getD_eq_getD_getElem?, arrV_read _ _ (by omega)]
          rfl
        refine ⟨?_, ?_⟩
        · rw [e9]
          rfl
        · rw [e9]
          exact trivial)
      (g := F0 m pc lsA (.int n :: .int dp :: .ref a :: .int sp :: .ref b :: r)) rfl (by rw [X.2.2.2.1]; exact hl.1) (rest := r) rfl (by rw [X.2.1]; exact hd) (by omega) (by
        have hs9 : (r.map fun v => v.category).sum ≤ 8 := hsum
        show 2 * 0 + _ + _ ≤ _
        have : nativeFrameWords "java/lang/System" "arraycopy" 5 + 11 ≤ 24 := by decide
        omega)
    have e1 : copied (vp_cell (G.2.1 20) (ln σ b, .inl (σ.2.2 b).2.2.1)) (vp_cell (G.2.1 20) (ln σ a, .inl (σ.2.2 a).2.2.1)) sp dp n = vp_cell (G.2.1 20) (ln σ a, .inl (va_cpy (σ.2.2 b).2.2.1 (σ.2.2 a).2.2.1 sp.toNatClampNeg dp.toNatClampNeg n.toNatClampNeg)) := va_copied (fun z => .int z) _ _ _ _ h4
    rw [e1] at X' step
    have hlt : a < H.size := (Array.getElem?_eq_some_iff.mp hc1).1
    have hheap : ((T.setVm vm').setCell a (vp_cell (G.2.1 20) (ln σ a, .inl (va_cpy (σ.2.2 b).2.2.1 (σ.2.2 a).2.2.1 sp.toNatClampNeg dp.toNatClampNeg n.toNatClampNeg)))).heap = H.setIfInBounds a (vp_cell (G.2.1 20) (ln σ a, .inl (va_cpy (σ.2.2 b).2.2.1 (σ.2.2 a).2.2.1 sp.toNatClampNeg dp.toNatClampNeg n.toNatClampNeg))) := by rw [← hT]; rfl
    have oq : ∀ q : Nat, q ≠ a → (H.setIfInBounds a (vp_cell (G.2.1 20) (ln σ a, .inl (va_cpy (σ.2.2 b).2.2.1 (σ.2.2 a).2.2.1 sp.toNatClampNeg dp.toNatClampNeg n.toNatClampNeg))))[q]? = H[q]? := fun q hq => by simp [Array.getElem?_setIfInBounds, Ne.symm hq]
    obtain ⟨t, a1, b1⟩ := hk h0 _ _ lsA (rp_set hP k1 k2 ka.symm (by simp) oq (by
        rw [enc_ari (k := 20) rfl (by decide) (by decide)]
        show (H.setIfInBounds a _)[a]? = some _
        simp [Array.getElem?_setIfInBounds, hlt])) (old_set hO (show (20 : Nat) < 40 by decide) (B_ne X.2.2.2.2.2.2.2.1 hB)) ⟨by simp; exact hS.1, fun q g1 g2 => by
        rw [oq q (fun e9 => g2 (by rw [e9]; exact hB))]
        exact hS.2.1 q g1 g2, fun q hq => by
        rcases List.mem_append.mp hq with h | h
        · exact hS.2.2 q h
        · obtain ⟨z, -, hz⟩ := List.mem_map.mp h
          rw [← hz]
          exact hB⟩ hl _ hheap X'
    exact ⟨t, step t a1, b1⟩
  · exact hk.elim
theorem j_clone {idx nx : Nat} (hw1 : Cond.methodLink own idx ⟨"[I", "clone", "()Ljava/lang/Object;"⟩ ∈ gt) (hw2 : Cond.sameMethod "[I" "java/lang/Object" "clone" "()Ljava/lang/Object;" ∈ gt) (hw3 : Cond.native ⟨"java/lang/Object", "clone", "()Ljava/lang/Object;"⟩ ∈ gt) (hw4 : Cond.instanceMethod ⟨"java/lang/Object", "clone", "()Ljava/lang/Object;"⟩ ∈ gt) (hw5 : Cond.selects "[I" ⟨"[I", "clone", "()Ljava/lang/Object;"⟩ ⟨"java/lang/Object", "clone", "()Ljava/lang/Object;"⟩ ∈ gt) (hd : decode cc pc = .ok (.invokevirtual idx, 3)) (hn : pc + 3 = nx) : JJ own cc nL ret nm pc (oClone nx) := by
  subst hn
  refine ⟨fun ls st σ => by unfold oClone; split <;> first | exact xle_rf | exact ⟨Nat.le_succ _, Nat.le_add_right _ _⟩ | exact trivial, fun G p l e R s m args below meth c σ0 Q d ev rf σf X hC hR hM hE ls st σ h0 hk H locs lsA hP hO hS hl => ?_⟩
  unfold oClone at hk
  split at hk
  · next a r =>
    obtain ⟨⟨ka, hsum⟩, hle, hk⟩ := hk
    have hc := rp_at hP (a := a) (by rw [ka]; omega) (by rw [ka]; omega)
    rw [enc_ari ka (by decide) (by decide)] at hc
    have hts := X.2.2.2.2.2.1
    have hG := X.2.2.2.2.2.2.2.1
    have hKA := hG.1.2 0 _ (ty_at (k := 20) (by decide) (by decide))
    have hnm : s.vm.findClass "[I" = some (G.2.1 20) := hKA.2
    have hrm : σ.1 - σ0.1 + 1 ≤ R.cells ∧ σ.2.1 - σ0.2.1 + ln σ a ≤ R.slots := room_new (k := 20) h0 hle hM
    have hcl0 : (vp_cell (G.2.1 20) (ln σ a, .inl (σ.2.2 a).2.2.1)).cls = G.2.1 20 := rfl
    have hsz : (vp_cell (G.2.1 20) (ln σ a, .inl (σ.2.2 a).2.2.1)).slots.size = ln σ a := arrV_size _ _ _
    have hcellE : ({ cls := (vp_cell (G.2.1 20) (ln σ a, .inl (σ.2.2 a).2.2.1)).cls, slots := (vp_cell (G.2.1 20) (ln σ a, .inl (σ.2.2 a).2.2.1)).slots } : Cell) = vp_cell (G.2.1 20) (ln σ a, .inl (σ.2.2 a).2.2.1) := rfl
    obtain ⟨c0, t0', f1, f2, f3⟩ := Cond.castable_spec (va_Nw.use (A := args) rfl hG.2.2.1)
    cases hnm.symm.trans f1
    intro T hT X0
    have hcellT : T.heap[a]? = some (vp_cell (G.2.1 20) (ln σ a, .inl (σ.2.2 a).2.2.1)) := by rw [hT]; exact hc
    obtain ⟨-, kA, hkA, comp, hkind⟩ := State.isArrayOf_alike X0.warmed.alike (hKA.1 0 (fun _ => .null))
    obtain ⟨-, kS, hkS, compS, hkindS⟩ := hKA.1 0 (fun _ => .null)
    obtain ⟨vm', X', st9⟩ := X0.cloneArray X.1 X.2.2.2.2.1 (hts _ hw1) (hts _ hw2) (hts _ hw3) (hts _ hw4) (hts _ hw5) (a := a) (cell := vp_cell (G.2.1 20) (ln σ a, .inl (σ.2.2 a).2.2.1)) hcellT (fun k h => by cases h) (fun h => by cases h) hnm f2 f3
      (fun i v hv => by
        have hk' : T.vm.classes[G.2.1 20]? = some kA := hkA
        have hfit : fits .int v = true := va_fit (ty := .int) (F := fun j => .int ((σ.2.2 a).2.2.1 j)) (fun i _ => rfl) i v hv
        have hkind' : kA.kind = .array comp .int := hkind
        rw [hcl0]
        simpa [State.fitsSlot, State.slotType?, hk', hkind'] using hfit)
      (g := F0 m pc lsA (.ref a :: r)) rfl (by rw [X.2.2.2.1]; exact hl.1) rfl (by rw [X.2.1]; exact hd) (by omega) (by have hs9 : (r.map fun v => v.category).sum ≤ 8 := hsum; show 2 * 0 + _ + 14 ≤ _; omega) hrm.1 (by rw [hsz]; exact hrm.2) (hloader := Vm.clonesLoader_of_array hkS hkindS)
    rw [hcellE, hsz] at X'
    generalize hH1 : H.push (vp_cell (G.2.1 20) (ln σ a, .inl (σ.2.2 a).2.2.1)) = H1
    have z1 : H1.size = H.size + 1 := by rw [← hH1, Array.size_push]
    have e1 : H1[H.size]? = some (vp_cell (G.2.1 20) (ln σ a, .inl (σ.2.2 a).2.2.1)) := by rw [← hH1, Array.getElem?_push_size]
    have o1 : ∀ q : Nat, q < H.size → H1[q]? = H[q]? := fun q hq => by rw [← hH1, Array.getElem?_push, if_neg (Nat.ne_of_lt hq)]
    have hRp : Rp G (xcl σ a) H1 := by
      refine ⟨by rw [z1, hP.1]; rfl, by rw [z1]; exact Nat.le_succ_of_le hP.2.1, fun b g1 g2 => ?_⟩
      by_cases e9 : b = σ.1
      · subst e9
        simp only [kd, xcl, if_pos] at g1 g2 ⊢
        refine ⟨by rw [← hP.1]; exact hP.2.1, Or.inr ⟨by decide, by decide⟩, ?_⟩
        rw [enc_ari (k := 20) rfl (by decide) (by decide)]
        show H1[σ.1]? = some (vp_cell _ _)
        rw [← hP.1]
        exact e1
      · simp only [kd, xcl, if_neg e9] at g1 g2 ⊢
        obtain ⟨q1, q2, q3⟩ := hP.2.2 b g1 g2
        exact ⟨q1, q2, q3.kept (o1 b q3.lt)⟩
    have hOl : OLD G s (xcl σ a) := by
      refine ⟨fun b hb => ?_, fun j hj => ?_⟩
      · by_cases e9 : b = σ.1
        · subst e9
          simp only [kd, xcl, if_pos] at hb
          omega
        · simp only [kd, xcl, if_neg e9] at hb ⊢
          exact hO.1 b hb
      · simp only [xp, xcl, if_neg (Ne.symm (B_nw hG hP))]
        exact hO.2 j hj
    have w := hk (xle_tr h0 ⟨Nat.le_succ _, Nat.le_add_right _ _⟩) H1 locs lsA hRp hOl (S_new hS z1 o1) hl
    have ec := cells_new (k := 20) (n := ln σ a) h0
    have w2 := W.cs ec.1 ec.2 w
    obtain ⟨t, b1, b2⟩ := w2 ((T.setVm vm').pushCell (vp_cell (G.2.1 20) (ln σ a, .inl (σ.2.2 a).2.2.1))) (by rw [← hH1, ← hT]; rfl) X'
    refine ⟨t, st9 t ?_, b2⟩
    rw [hcellE, hT]
    have b1' := b1
    rw [← hP.1] at b1'
    exact b1'
  · exact hk.elim
theorem j_tr {ks : List Nat} {I : xI} (h : JJ own cc nL ret nm pc I) : JJ own cc nL ret nm pc (oTr ks I) := by
  refine ⟨fun ls st σ => h.1 _ st σ, fun G p l e R s m args below meth c σ0 Q d ev rf σf X hC hR hM hE ls st σ h0 hk H locs lsA hP hO hS hl => ?_⟩
  refine h.2 G p l e R s m args below meth c σ0 Q d ev rf σf X hC hR hM hE (xcan ks ls) st σ h0 hk H locs lsA hP hO hS ⟨hl.1, hl.2.1, fun q hq => ?_⟩
  obtain ⟨k, -, hk9⟩ := List.mem_filterMap.mp hq
  cases e9 : xlk k ls with
  | none => rw [e9] at hk9; cases hk9
  | some v =>
    rw [e9] at hk9
    cases hk9
    exact hl.2.2 _ (xlk_mem e9)
end COPY
