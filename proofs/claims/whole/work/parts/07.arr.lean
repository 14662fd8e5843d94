/-! ARRAYS, NEW OBJECTS -/
theorem cI_def : ∀ i, i < 13 → ∀ k, k < cK i → defaultValue (cY i k) = if rfb i k = true then Value.null else Value.int 0 := by decide +kernel
theorem cells_new {σ0 σ : xM} {k n : Nat} (h : xle σ0 σ) : σ.1 - σ0.1 + 1 = (xnew σ k n).1 - σ0.1 ∧ σ.2.1 - σ0.2.1 + n = (xnew σ k n).2.1 - σ0.2.1 := by
  obtain ⟨h1, h2⟩ := h
  show σ.1 - σ0.1 + 1 = σ.1 + 1 - σ0.1 ∧ σ.2.1 - σ0.2.1 + n = σ.2.1 + n - σ0.2.1
  omega
theorem room_new {σ0 σ σf : xM} {k n rc rs : Nat} (h : xle σ0 σ) (hf : xle (xnew σ k n) σf) (hM : σf.1 - σ0.1 ≤ rc ∧ σf.2.1 - σ0.2.1 ≤ rs) : σ.1 - σ0.1 + 1 ≤ rc ∧ σ.2.1 - σ0.2.1 + n ≤ rs := by
  have e := cells_new (k := k) (n := n) h
  obtain ⟨f1, f2⟩ := hf
  omega
theorem gt_good {w : Cond} (h : w ∈ gt) : (w.onTables && w.keeps) = true ∨ ∃ ty, w = .arrayClass ty := by
  have hk := (List.mem_filter.mp h).2
  unfold gok at hk
  rcases Bool.or_eq_true_iff.mp hk with q | q
  · exact Or.inl q
  · split at q
    · exact Or.inr ⟨_, rfl⟩
    · cases q
theorem goodIn_gt {ws : List Cond} (h : ∀ w ∈ ws, w ∈ gt) : GoodIn gt ws := fun w hw => ⟨h w hw, gt_good (h w hw)⟩
section ARR
variable {own : String} {cc : ByteArray} {nL : Nat} {ret : Option FieldType} {nm : String} {pc : Nat}
theorem sz_aldi {k nx : Nat} : ∀ ls st σ, szA σ (oAldi k nx ls st σ) := fun ls st σ => by unfold oAldi; split <;> first | exact xle_rf | exact trivial
theorem j_iaload {nx : Nat} (hd : decode cc pc = .ok (.iaload, 1)) (hn : pc + 1 = nx) : JJ own cc nL ret nm pc (oAldi 20 nx) := by
  subst hn
  refine ⟨sz_aldi, fun G p l e R s m args below meth c σ0 Q d ev rf σf X hC hR hM hE ls st σ h0 hk H locs lsA hP hO hS hl => ?_⟩
  unfold oAldi at hk
  split at hk
  · next i a r =>
    have hv := rp_at hP (a := a) (by rw [hk.1.1]; omega) (by rw [hk.1.1]; omega)
    rw [enc_ari hk.1.1 (by decide) (by decide)] at hv
    exact va_iald (D := G.1) X.1 X.2.1 X.2.2.2.2.2.2.2.1.1 (one_P hv) 0 0 rfl (ty_at (k := 20) (by decide) (by decide)) hk.1.2 hd (hk.2.2 h0 H locs lsA hP hO hS hl)
  · exact hk.elim
theorem j_baload {nx : Nat} (hd : decode cc pc = .ok (.baload, 1)) (hn : pc + 1 = nx) : JJ own cc nL ret nm pc (oAldi 21 nx) := by
  subst hn
  refine ⟨sz_aldi, fun G p l e R s m args below meth c σ0 Q d ev rf σf X hC hR hM hE ls st σ h0 hk H locs lsA hP hO hS hl => ?_⟩
  unfold oAldi at hk
  split at hk
  · next i a r =>
    have hv := rp_at hP (a := a) (by rw [hk.1.1]; omega) (by rw [hk.1.1]; omega)
    rw [enc_ari hk.1.1 (by decide) (by decide)] at hv
    exact va_bald (D := G.1) X.1 X.2.1 X.2.2.2.2.2.2.2.1.1 (one_P hv) 0 1 rfl (ty_at (k := 21) (by decide) (by decide)) hk.1.2 hd (hk.2.2 h0 H locs lsA hP hO hS hl)
  · exact hk.elim
theorem j_zaload {nx : Nat} (hd : decode cc pc = .ok (.baload, 1)) (hn : pc + 1 = nx) : JJ own cc nL ret nm pc (oAldi 22 nx) := by
  subst hn
  refine ⟨sz_aldi, fun G p l e R s m args below meth c σ0 Q d ev rf σf X hC hR hM hE ls st σ h0 hk H locs lsA hP hO hS hl => ?_⟩
  unfold oAldi at hk
  split at hk
  · next i a r =>
    have hv := rp_at hP (a := a) (by rw [hk.1.1]; omega) (by rw [hk.1.1]; omega)
    rw [enc_ari hk.1.1 (by decide) (by decide)] at hv
    exact va_zald (D := G.1) X.1 X.2.1 X.2.2.2.2.2.2.2.1.1 (one_P hv) 0 2 rfl (ty_at (k := 22) (by decide) (by decide)) hk.1.2 hd (hk.2.2 h0 H locs lsA hP hO hS hl)
  · exact hk.elim
theorem j_ialoadO {nx : Nat} (hd : decode cc pc = .ok (.iaload, 1)) (hn : pc + 1 = nx) : JJ own cc nL ret nm pc (oAldi 40 nx) := by
  subst hn
  refine ⟨sz_aldi, fun G p l e R s m args below meth c σ0 Q d ev rf σf X hC hR hM hE ls st σ h0 hk H locs lsA hP hO hS hl => ?_⟩
  unfold oAldi at hk
  split at hk
  · next i a r =>
    rcases hO a (by rw [hk.1.1]; omega) with ⟨-, q⟩ | ⟨q, -⟩ | ⟨q, -⟩ | ⟨q, -⟩
    · exact va_ti X.1 X.2.1 q hS hk.1.2 rfl hd (hk.2.2 h0 H locs lsA hP hO hS hl)
    · exact absurd (q.symm.trans hk.1.1) (by decide)
    · exact absurd (q.symm.trans hk.1.1) (by decide)
    · exact absurd (q.symm.trans hk.1.1) (by decide)
  · exact hk.elim
theorem j_baloadO {nx : Nat} (hd : decode cc pc = .ok (.baload, 1)) (hn : pc + 1 = nx) : JJ own cc nL ret nm pc (oAldi 42 nx) := by
  subst hn
  refine ⟨sz_aldi, fun G p l e R s m args below meth c σ0 Q d ev rf σf X hC hR hM hE ls st σ h0 hk H locs lsA hP hO hS hl => ?_⟩
  unfold oAldi at hk
  split at hk
  · next i a r =>
    rcases hO a (by rw [hk.1.1]; omega) with ⟨q, -⟩ | ⟨-, q⟩ | ⟨q, -⟩ | ⟨q, -⟩
    · exact absurd (q.symm.trans hk.1.1) (by decide)
    · exact va_tb X.1 X.2.1 q hS hk.1.2 rfl hd (hk.2.2 h0 H locs lsA hP hO hS hl)
    · exact absurd (q.symm.trans hk.1.1) (by decide)
    · exact absurd (q.symm.trans hk.1.1) (by decide)
  · exact hk.elim
theorem sz_asti {k nx : Nat} {nar : Int32 → Int32} : ∀ ls st σ, szA σ (oAsti k nar nx ls st σ) := fun ls st σ => by unfold oAsti; split <;> first | exact xle_rf | exact trivial
theorem st_end {G : xG} {H1 : Heap} {σ : xM} {a k i : Nat} {x y : Int32} (hk : kd σ a = k) (h1 : 20 ≤ k) (h2 : k < 23) (w : Value) (hw : w = .int y) (e : H1[a]? = some ((vp_cell (G.2.1 k) (ln σ a, .inl (σ.2.2 a).2.2.1)).setSlot i w)) : va_at G.1 classes (a, enc G.2.1 (kd σ a, ln σ a, upd (σ.2.2 a).2.2.1 i y, (σ.2.2 a).2.2.2)) H1 := by
  subst hw
  rw [enc_ari (c := (kd σ a, ln σ a, upd (σ.2.2 a).2.2.1 i y, (σ.2.2 a).2.2.2)) hk h1 h2]
  show H1[a]? = some (vp_cell _ _)
  rw [e, vp_cell_i, vp_cell_i, arrV_store]
  congr 2
  funext q
  by_cases hq : q = i
  · subst hq
    simp [updV, upd]
  · simp [updV, upd, hq]
theorem j_iastore {nx : Nat} (hd : decode cc pc = .ok (.iastore, 1)) (hn : pc + 1 = nx) : JJ own cc nL ret nm pc (oAsti 20 (fun x => x) nx) := by
  subst hn
  refine ⟨sz_asti, fun G p l e R s m args below meth c σ0 Q d ev rf σf X hC hR hM hE ls st σ h0 hk H locs lsA hP hO hS hl => ?_⟩
  unfold oAsti at hk
  split at hk
  · next v i a r =>
    have k1 : ¬ kd σ a = 0 := by rw [hk.1.1]; omega
    have k2 : kd σ a < 40 := by rw [hk.1.1]; omega
    have hv := rp_at hP k1 k2
    have hB := (hP.2.2 a k1 k2).1
    rw [enc_ari hk.1.1 (by decide) (by decide)] at hv
    refine W.iast X.1 X.2.1 hv ((X.2.2.2.2.2.2.2.1.1.2 0 _ (ty_at (k := 20) (by decide) (by decide))).1 _ (fun j => .int ((σ.2.2 a).2.2.1 j))) (fun q => by cases q) (by show ¬ (i < 0 ∨ (arrV _ _ _).slots.size ≤ _); rw [arrV_size]; exact hk.1.2) rfl rfl hd fun H1 e z oq => ?_
    exact hk.2.2 h0 H1 _ lsA (rp_set hP k1 k2 rfl z oq (st_end (x := v) hk.1.1 (by decide) (by decide) _ rfl e)) (old_set hO k2) (hS.put z oq hB) hl
  · exact hk.elim
theorem nar_int (ty : FieldType) (h : ty = .byte ∨ ty = .boolean) (x : Int32) : narrow ty (.int x) = .int (vp_nar ty x) := by
  rcases h with rfl | rfl <;> rfl
theorem j_bastore {nx : Nat} (hd : decode cc pc = .ok (.bastore, 1)) (hn : pc + 1 = nx) : JJ own cc nL ret nm pc (oAsti 21 (vp_nar .byte) nx) := by
  subst hn
  refine ⟨sz_asti, fun G p l e R s m args below meth c σ0 Q d ev rf σf X hC hR hM hE ls st σ h0 hk H locs lsA hP hO hS hl => ?_⟩
  unfold oAsti at hk
  split at hk
  · next v i a r =>
    have k1 : ¬ kd σ a = 0 := by rw [hk.1.1]; omega
    have k2 : kd σ a < 40 := by rw [hk.1.1]; omega
    have hv := rp_at hP k1 k2
    have hB := (hP.2.2 a k1 k2).1
    rw [enc_ari hk.1.1 (by decide) (by decide)] at hv
    refine W.bast X.1 X.2.1 hv ((X.2.2.2.2.2.2.2.1.1.2 1 _ (ty_at (k := 21) (by decide) (by decide))).1 _ (fun j => .int ((σ.2.2 a).2.2.1 j))) (fun q => by cases q) (by show ¬ (i < 0 ∨ (arrV _ _ _).slots.size ≤ _); rw [arrV_size]; exact hk.1.2) rfl rfl hd fun H1 e z oq => ?_
    exact hk.2.2 h0 H1 _ lsA (rp_set hP k1 k2 rfl z oq (st_end (x := v) hk.1.1 (by decide) (by decide) _ (nar_int .byte (Or.inl rfl) v) e)) (old_set hO k2) (hS.put z oq hB) hl
  · exact hk.elim
theorem j_zastore {nx : Nat} (hd : decode cc pc = .ok (.bastore, 1)) (hn : pc + 1 = nx) : JJ own cc nL ret nm pc (oAsti 22 (vp_nar .boolean) nx) := by
  subst hn
  refine ⟨sz_asti, fun G p l e R s m args below meth c σ0 Q d ev rf σf X hC hR hM hE ls st σ h0 hk H locs lsA hP hO hS hl => ?_⟩
  unfold oAsti at hk
  split at hk
  · next v i a r =>
    have k1 : ¬ kd σ a = 0 := by rw [hk.1.1]; omega
    have k2 : kd σ a < 40 := by rw [hk.1.1]; omega
    have hv := rp_at hP k1 k2
    have hB := (hP.2.2 a k1 k2).1
    rw [enc_ari hk.1.1 (by decide) (by decide)] at hv
    refine W.zast X.1 X.2.1 hv ((X.2.2.2.2.2.2.2.1.1.2 2 _ (ty_at (k := 22) (by decide) (by decide))).1 _ (fun j => .int ((σ.2.2 a).2.2.1 j))) (fun q => by cases q) (by show ¬ (i < 0 ∨ (arrV _ _ _).slots.size ≤ _); rw [arrV_size]; exact hk.1.2) rfl rfl hd fun H1 e z oq => ?_
    exact hk.2.2 h0 H1 _ lsA (rp_set hP k1 k2 rfl z oq (st_end (x := v) hk.1.1 (by decide) (by decide) _ (nar_int .boolean (Or.inr rfl) v) e)) (old_set hO k2) (hS.put z oq hB) hl
  · exact hk.elim
theorem j_aaload {k nx : Nat} {C : String} (h1 : 23 ≤ k) (h2 : k < 28) (hC9 : kTy k = .object C) (hd : decode cc pc = .ok (.aaload, 1)) (hn : pc + 1 = nx) : JJ own cc nL ret nm pc (oAldp k nx) := by
  subst hn
  refine ⟨fun ls st σ => by unfold oAldp; split <;> first | exact xle_rf | exact trivial, fun G p l e R s m args below meth c σ0 Q d ev rf σf X hC hR hM hE ls st σ h0 hk H locs lsA hP hO hS hl => ?_⟩
  unfold oAldp at hk
  split at hk
  · next i a r =>
    have hv := rp_at hP (a := a) (by rw [hk.1.1]; omega) (by rw [hk.1.1]; omega)
    rw [enc_arp hk.1.1 h1] at hv
    refine va_aldq (D := G.1) X.1 X.2.1 X.2.2.2.2.2.2.2.1.1 (one_P hv) 0 (k - 20) rfl (by rw [ty_at (by omega) h2, hC9]) hk.1.2.1 hd ?_
    rw [va_rf_ro, rv_ne hk.1.2.2]
    exact hk.2.2 h0 H locs lsA hP hO hS hl
  · exact hk.elim
theorem j_aastore {k ci nx : Nat} (h1 : 23 ≤ k) (h2 : k < 28) (hci : ci < 13) (hC9 : kTy k = .object (cN ci)) (hd : decode cc pc = .ok (.aastore, 1)) (hn : pc + 1 = nx) : JJ own cc nL ret nm pc (oAstp k ci nx) := by
  subst hn
  refine ⟨fun ls st σ => by unfold oAstp; split <;> first | exact xle_rf | exact trivial, fun G p l e R s m args below meth c σ0 Q d ev rf σf X hC hR hM hE ls st σ h0 hk H locs lsA hP hO hS hl => ?_⟩
  unfold oAstp at hk
  split at hk
  · next v i a r =>
    have k1 : ¬ kd σ a = 0 := by rw [hk.1.1]; omega
    have k2 : kd σ a < 40 := by rw [hk.1.1]; omega
    have hv := rp_at hP k1 k2
    have hB := (hP.2.2 a k1 k2).1
    rw [enc_arp hk.1.1 h1] at hv
    have v1 : ¬ kd σ v = 0 := by rw [hk.1.2.2]; omega
    have v2 : kd σ v < 40 := by rw [hk.1.2.2]; omega
    have hw := rp_at hP v1 v2
    rw [enc_obj hk.1.2.2 hci] at hw
    obtain ⟨r', hr', cellV, g1, g2, g3, -⟩ := hw
    have hvz : ¬ v = 0 := by
      intro q
      have := (hP.2.2 v v1 v2).1
      have hb0 := (hP.2.2 a k1 k2).1
      subst q
      obtain ⟨hh, hz⟩ := Array.getElem?_eq_some_iff.mp g1
      sorry
    sorry
  · exact hk.elim
end ARR
