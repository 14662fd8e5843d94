/-! ARRAYS, NEW OBJECTS -/
theorem cI_def : ∀ i, i < 13 → ∀ k, k < cK i → defaultValue (cY i k) = if rfb i k = true then Value.null else Value.int 0 := by decide +kernel
theorem cells_new {σ0 σ : xM} {k n : Nat} (h : xle σ0 σ) : σ.1 - σ0.1 + 1 = (xnew σ k n).1 - σ0.1 ∧ σ.2.1 - σ0.2.1 + n = (xnew σ k n).2.1 - σ0.2.1 := by
  obtain ⟨h1, h2⟩ := h
  show σ.1 - σ0.1 + 1 = σ.1 + 1 - σ0.1 ∧ σ.2.1 - σ0.2.1 + n = σ.2.1 + n - σ0.2.1
  omega
theorem room_new {σ0 σ σf : xM} {k n rc rs : Nat} (h : xle σ0 σ) (hf : xle (xnew σ k n) σf) (hM : σf.1 - σ0.1 ≤ rc ∧ σf.2.1 - σ0.2.1 ≤ rs) : σ.1 - σ0.1 + 1 ≤ rc ∧ σ.2.1 - σ0.2.1 + n ≤ rs := by
  have e := cells_new (k := k) (n := n) h
  obtain ⟨f1, f2⟩ := hf
  omega
theorem gt_good {w : Cond} (h : w ∈ gt) : (w.onTables && w.keeps) = true ∨ ∃ ty, w = .arrayClass ty := by
  have hk := (List.mem_filter.mp h).2
  unfold gok at hk
  rcases Bool.or_eq_true_iff.mp hk with q | q
  · exact Or.inl q
  · split at q
    · exact Or.inr ⟨_, rfl⟩
    · cases q
theorem goodIn_gt {ws : List Cond} (h : ∀ w ∈ ws, w ∈ gt) : GoodIn gt ws := fun w hw => ⟨h w hw, gt_good (h w hw)⟩
section ARR
variable {own : String} {cc : ByteArray} {nL : Nat} {ret : Option FieldType} {nm : String} {pc : Nat}
theorem sz_aldi {k nx : Nat} : ∀ ls st σ, szA σ (oAldi k nx ls st σ) := fun ls st σ => by unfold oAldi; split <;> first | exact xle_rf | exact trivial
theorem j_iaload {nx : Nat} (hd : decode cc pc = .ok (.iaload, 1)) (hn : pc + 1 = nx) : JJ own cc nL ret nm pc (oAldi 20 nx) := by
  subst hn
  refine ⟨sz_aldi, fun G p l e R s m args below meth c σ0 Q d ev rf σf X hC hR hM hE ls st σ h0 hk H locs lsA hP hO hS hl => ?_⟩
  unfold oAldi at hk
  split at hk
  · next i a r =>
    have hv := rp_at hP (a := a) (by rw [hk.1.1]; omega) (by rw [hk.1.1]; omega)
    rw [enc_ari hk.1.1 (by decide) (by decide)] at hv
    exact va_iald (D := G.1) X.1 X.2.1 X.2.2.2.2.2.2.2.1.1 (one_P hv) 0 0 rfl (ty_at (k := 20) (by decide) (by decide)) hk.1.2 hd (hk.2.2 h0 H locs lsA hP hO hS hl)
  · exact hk.elim
theorem j_baload {nx : Nat} (hd : decode cc pc = .ok (.baload, 1)) (hn : pc + 1 = nx) : JJ own cc nL ret nm pc (oAldi 21 nx) := by
  subst hn
  refine ⟨sz_aldi, fun G p l e R s m args below meth c σ0 Q d ev rf σf X hC hR hM hE ls st σ h0 hk H locs lsA hP hO hS hl => ?_⟩
  unfold oAldi at hk
  split at hk
  · next i a r =>
    have hv := rp_at hP (a := a) (by rw [hk.1.1]; omega) (by rw [hk.1.1]; omega)
    rw [enc_ari hk.1.1 (by decide) (by decide)] at hv
    exact va_bald (D := G.1) X.1 X.2.1 X.2.2.2.2.2.2.2.1.1 (one_P hv) 0 1 rfl (ty_at (k := 21) (by decide) (by decide)) hk.1.2 hd (hk.2.2 h0 H locs lsA hP hO hS hl)
  · exact hk.elim
theorem j_zaload {nx : Nat} (hd : decode cc pc = .ok (.baload, 1)) (hn : pc + 1 = nx) : JJ own cc nL ret nm pc (oAldi 22 nx) := by
  subst hn
  refine ⟨sz_aldi, fun G p l e R s m args below meth c σ0 Q d ev rf σf X hC hR hM hE ls st σ h0 hk H locs lsA hP hO hS hl => ?_⟩
  unfold oAldi at hk
  split at hk
  · next i a r =>
    have hv := rp_at hP (a := a) (by rw [hk.1.1]; omega) (by rw [hk.1.1]; omega)
    rw [enc_ari hk.1.1 (by decide) (by decide)] at hv
    exact va_zald (D := G.1) X.1 X.2.1 X.2.2.2.2.2.2.2.1.1 (one_P hv) 0 2 rfl (ty_at (k := 22) (by decide) (by decide)) hk.1.2 hd (hk.2.2 h0 H locs lsA hP hO hS hl)
  · exact hk.elim
theorem j_ialoadO {nx : Nat} (hd : decode cc pc = .ok (.iaload, 1)) (hn : pc + 1 = nx) : JJ own cc nL ret nm pc (oAldi 40 nx) := by
  subst hn
  refine ⟨sz_aldi, fun G p l e R s m args below meth c σ0 Q d ev rf σf X hC hR hM hE ls st σ h0 hk H locs lsA hP hO hS hl => ?_⟩
  unfold oAldi at hk
  split at hk
  · next i a r => exact va_ti X.1 X.2.1 ((hO.1 a (by rw [hk.1.1]; omega)).1 hk.1.1) hS hk.1.2 rfl hd (hk.2.2 h0 H locs lsA hP hO hS hl)
  · exact hk.elim
theorem j_baloadO {nx : Nat} (hd : decode cc pc = .ok (.baload, 1)) (hn : pc + 1 = nx) : JJ own cc nL ret nm pc (oAldB nx) := by
  subst hn
  refine ⟨fun ls st σ => by unfold oAldB; split <;> first | exact xle_rf | exact trivial, fun G p l e R s m args below meth c σ0 Q d ev rf σf X hC hR hM hE ls st σ h0 hk H locs lsA hP hO hS hl => ?_⟩
  unfold oAldB at hk
  split at hk
  · next i a r => exact va_tb X.1 X.2.1 ((hO.1 a (show 40 ≤ kd σ a by rcases hk.1.1 with q | q <;> rw [q] <;> decide)).2.1 hk.1.1) hS hk.1.2 rfl hd (hk.2.2 h0 H locs lsA hP hO hS hl)
  · exact hk.elim
theorem sz_asti {k nx : Nat} {nar : Int32 → Int32} : ∀ ls st σ, szA σ (oAsti k nar nx ls st σ) := fun ls st σ => by unfold oAsti; split <;> first | exact xle_rf | exact trivial
theorem st_end {G : xG} {H1 : Heap} {σ : xM} {a k i : Nat} {x y : Int32} (hk : kd σ a = k) (h1 : 20 ≤ k) (h2 : k < 23) (w : Value) (hw : w = .int y) (e : H1[a]? = some ((vp_cell (G.2.1 k) (ln σ a, .inl (σ.2.2 a).2.2.1)).setSlot i w)) : va_at G.1 classes (a, enc G.2.1 (kd σ a, ln σ a, upd (σ.2.2 a).2.2.1 i y, (σ.2.2 a).2.2.2)) H1 := by
  subst hw
  rw [enc_ari (c := (kd σ a, ln σ a, upd (σ.2.2 a).2.2.1 i y, (σ.2.2 a).2.2.2)) hk h1 h2]
  show H1[a]? = some (vp_cell _ _)
  rw [e, vp_cell_i, vp_cell_i, arrV_store]
  congr 2
  funext q
  by_cases hq : q = i
  · subst hq
    simp [updV, upd]
  · simp [updV, upd, hq]
theorem j_iastore {nx : Nat} (hd : decode cc pc = .ok (.iastore, 1)) (hn : pc + 1 = nx) : JJ own cc nL ret nm pc (oAsti 20 (fun x => x) nx) := by
  subst hn
  refine ⟨sz_asti, fun G p l e R s m args below meth c σ0 Q d ev rf σf X hC hR hM hE ls st σ h0 hk H locs lsA hP hO hS hl => ?_⟩
  unfold oAsti at hk
  split at hk
  · next v i a r =>
    have k1 : ¬ kd σ a = 0 := by rw [hk.1.1]; omega
    have k2 : kd σ a < 40 := by rw [hk.1.1]; omega
    have hv := rp_at hP k1 k2
    have hB := (hP.2.2 a k1 k2).1
    rw [enc_ari hk.1.1 (by decide) (by decide)] at hv
    refine W.iast X.1 X.2.1 hv ((X.2.2.2.2.2.2.2.1.1.2 0 _ (ty_at (k := 20) (by decide) (by decide))).1 _ (fun j => .int ((σ.2.2 a).2.2.1 j))) (fun q => by cases q) (by show ¬ (i < 0 ∨ (arrV _ _ _).slots.size ≤ _); rw [arrV_size]; exact hk.1.2) rfl rfl hd fun H1 e z oq => ?_
    exact hk.2.2 h0 H1 _ lsA (rp_set hP k1 k2 rfl z oq (st_end (x := v) hk.1.1 (by decide) (by decide) _ rfl e)) (old_set hO k2 (B_ne X.2.2.2.2.2.2.2.1 hB)) (hS.put z oq hB) hl
  · exact hk.elim
theorem nar_int (ty : FieldType) (h : ty = .byte ∨ ty = .boolean) (x : Int32) : narrow ty (.int x) = .int (vp_nar ty x) := by
  rcases h with rfl | rfl <;> rfl
theorem j_bastore {nx : Nat} (hd : decode cc pc = .ok (.bastore, 1)) (hn : pc + 1 = nx) : JJ own cc nL ret nm pc (oAsti 21 (vp_nar .byte) nx) := by
  subst hn
  refine ⟨sz_asti, fun G p l e R s m args below meth c σ0 Q d ev rf σf X hC hR hM hE ls st σ h0 hk H locs lsA hP hO hS hl => ?_⟩
  unfold oAsti at hk
  split at hk
  · next v i a r =>
    have k1 : ¬ kd σ a = 0 := by rw [hk.1.1]; omega
    have k2 : kd σ a < 40 := by rw [hk.1.1]; omega
    have hv := rp_at hP k1 k2
    have hB := (hP.2.2 a k1 k2).1
    rw [enc_ari hk.1.1 (by decide) (by decide)] at hv
    refine W.bast X.1 X.2.1 hv ((X.2.2.2.2.2.2.2.1.1.2 1 _ (ty_at (k := 21) (by decide) (by decide))).1 _ (fun j => .int ((σ.2.2 a).2.2.1 j))) (fun q => by cases q) (by show ¬ (i < 0 ∨ (arrV _ _ _).slots.size ≤ _); rw [arrV_size]; exact hk.1.2) rfl rfl hd fun H1 e z oq => ?_
    exact hk.2.2 h0 H1 _ lsA (rp_set hP k1 k2 rfl z oq (st_end (x := v) hk.1.1 (by decide) (by decide) _ (nar_int .byte (Or.inl rfl) v) e)) (old_set hO k2 (B_ne X.2.2.2.2.2.2.2.1 hB)) (hS.put z oq hB) hl
  · exact hk.elim
theorem j_zastore {nx : Nat} (hd : decode cc pc = .ok (.bastore, 1)) (hn : pc + 1 = nx) : JJ own cc nL ret nm pc (oAsti 22 (vp_nar .boolean) nx) := by
  subst hn
  refine ⟨sz_asti, fun G p l e R s m args below meth c σ0 Q d ev rf σf X hC hR hM hE ls st σ h0 hk H locs lsA hP hO hS hl => ?_⟩
  unfold oAsti at hk
  split at hk
  · next v i a r =>
    have k1 : ¬ kd σ a = 0 := by rw [hk.1.1]; omega
    have k2 : kd σ a < 40 := by rw [hk.1.1]; omega
    have hv := rp_at hP k1 k2
    have hB := (hP.2.2 a k1 k2).1
    rw [enc_ari hk.1.1 (by decide) (by decide)] at hv
    refine W.zast X.1 X.2.1 hv ((X.2.2.2.2.2.2.2.1.1.2 2 _ (ty_at (k := 22) (by decide) (by decide))).1 _ (fun j => .int ((σ.2.2 a).2.2.1 j))) (fun q => by cases q) (by show ¬ (i < 0 ∨ (arrV _ _ _).slots.size ≤ _); rw [arrV_size]; exact hk.1.2) rfl rfl hd fun H1 e z oq => ?_
    exact hk.2.2 h0 H1 _ lsA (rp_set hP k1 k2 rfl z oq (st_end (x := v) hk.1.1 (by decide) (by decide) _ (nar_int .boolean (Or.inr rfl) v) e)) (old_set hO k2 (B_ne X.2.2.2.2.2.2.2.1 hB)) (hS.put z oq hB) hl
  · exact hk.elim
theorem j_aaload {k nx : Nat} {C : String} (h1 : 23 ≤ k) (h2 : k < 28) (hC9 : kTy k = .object C) (hd : decode cc pc = .ok (.aaload, 1)) (hn : pc + 1 = nx) : JJ own cc nL ret nm pc (oAldp k nx) := by
  subst hn
  refine ⟨fun ls st σ => by unfold oAldp; split <;> first | exact xle_rf | exact trivial, fun G p l e R s m args below meth c σ0 Q d ev rf σf X hC hR hM hE ls st σ h0 hk H locs lsA hP hO hS hl => ?_⟩
  unfold oAldp at hk
  split at hk
  · next i a r =>
    have hv := rp_at hP (a := a) (by rw [hk.1.1]; omega) (by rw [hk.1.1]; omega)
    rw [enc_arp hk.1.1 h1] at hv
    refine va_aldq (D := G.1) X.1 X.2.1 X.2.2.2.2.2.2.2.1.1 (one_P hv) 0 (k - 20) rfl (by rw [ty_at (by omega) h2, hC9]) hk.1.2.1 hd ?_
    rw [va_rf_ro, rv_ne hk.1.2.2]
    exact hk.2.2 h0 H locs lsA hP hO hS hl
  · exact hk.elim
theorem j_aastore {k ci nx : Nat} (h1 : 23 ≤ k) (h2 : k < 28) (hci : ci < 13) (hC9 : kTy k = .object (cN ci)) (hd : decode cc pc = .ok (.aastore, 1)) (hn : pc + 1 = nx) : JJ own cc nL ret nm pc (oAstp k ci nx) := by
  subst hn
  refine ⟨fun ls st σ => by unfold oAstp; split <;> first | exact xle_rf | exact trivial, fun G p l e R s m args below meth c σ0 Q d ev rf σf X hC hR hM hE ls st σ h0 hk H locs lsA hP hO hS hl => ?_⟩
  unfold oAstp at hk
  split at hk
  · next v i a r =>
    have k1 : ¬ kd σ a = 0 := by rw [hk.1.1]; omega
    have k2 : kd σ a < 40 := by rw [hk.1.1]; omega
    have hv := rp_at hP k1 k2
    have hB := (hP.2.2 a k1 k2).1
    rw [enc_arp hk.1.1 h1] at hv
    have v1 : ¬ kd σ v = 0 := by rw [hk.1.2.2.1]; omega
    have v2 : kd σ v < 40 := by rw [hk.1.2.2.1]; omega
    have hw := rp_at hP v1 v2
    rw [enc_obj hk.1.2.2.1 hci] at hw
    obtain ⟨r', hr', cellV, g1, g2, g3, -⟩ := hw
    have hK := X.2.2.2.2.2.2.2.1.1
    have hlt : i.toNatClampNeg < ln σ a := Nat.not_le.mp fun q => hk.1.2.1 (Or.inr q)
    have hi0 : ¬ i < 0 := fun q => hk.1.2.1 (Or.inl q)
    have hcls := (hK.1 ci _ (classes_at hci)).2
    have hra := (hK.2 (k - 20) _ (ty_at (by omega) h2)).2
    rw [hC9] at hra
    obtain ⟨kA, comp, k1', k2', k3', -⟩ := hra
    have hcomp : comp = G.1.1 ci := Option.some.inj (k3'.symm.trans hcls.1)
    subst hcomp
    obtain ⟨kC, hkC, -⟩ := hcls.2
    refine W.aast X.1 X.2.1 hv (fun q h => by cases h) (fun h => by cases h) k1' k2' rfl hkC ⟨hi0, by show _ < (arrV _ _ _).slots.size; rw [arrV_size]; exact hlt⟩ g1 (fun q h => by rw [g3] at h; cases h) (by rw [g2]; exact hkC) (by rw [g2]; exact va_assign hcls) rfl rfl hd fun H1 e z oq => ?_
    refine hk.2.2 h0 H1 _ lsA (rp_set hP k1 k2 rfl z oq ?_) (old_set hO k2 (B_ne X.2.2.2.2.2.2.2.1 hB)) (hS.put z oq hB) hl
    rw [enc_arp (c := (kd σ a, ln σ a, (σ.2.2 a).2.2.1, va_up (σ.2.2 a).2.2.2 i.toNatClampNeg v)) hk.1.1 h1]
    show H1[a]? = some (vp_cell _ _)
    rw [e, vp_cell_q, vp_cell_q, arrV_store]
    congr 2
    funext q
    by_cases hq : q = i.toNatClampNeg
    · subst hq
      simp [updV, va_up, va_rf_ro, rv_ne hk.1.2.2.2]
    · simp [updV, va_up, hq]
  · exact hk.elim
theorem sz_len {k nx : Nat} : ∀ ls st σ, szA σ (oLen k nx ls st σ) := fun ls st σ => by unfold oLen; split <;> first | exact xle_rf | exact trivial
theorem j_len {k nx : Nat} (h1 : 20 ≤ k) (h2 : k < 28) (hd : decode cc pc = .ok (.arraylength, 1)) (hn : pc + 1 = nx) : JJ own cc nL ret nm pc (oLen k nx) := by
  subst hn
  refine ⟨sz_len, fun G p l e R s m args below meth c σ0 Q d ev rf σf X hC hR hM hE ls st σ h0 hk H locs lsA hP hO hS hl => ?_⟩
  unfold oLen at hk
  split at hk
  · next a r =>
    have hv := rp_at hP (a := a) (by rw [hk.1]; omega) (by rw [hk.1]; omega)
    by_cases h3 : k < 23
    · rw [enc_ari hk.1 h1 h3] at hv
      exact va_alen (D := G.1) X.1 X.2.1 X.2.2.2.2.2.2.2.1.1 (one_P hv) 0 (k - 20) rfl (ty_at h1 h2) rfl hd (hk.2.2 h0 H locs lsA hP hO hS hl)
    · rw [enc_arp hk.1 (by omega)] at hv
      exact va_alen (D := G.1) X.1 X.2.1 X.2.2.2.2.2.2.2.1.1 (one_P hv) 0 (k - 20) rfl (ty_at h1 h2) rfl hd (hk.2.2 h0 H locs lsA hP hO hS hl)
  · exact hk.elim
theorem j_lenO {nx : Nat} (hd : decode cc pc = .ok (.arraylength, 1)) (hn : pc + 1 = nx) : JJ own cc nL ret nm pc (oLen 40 nx) := by
  subst hn
  refine ⟨sz_len, fun G p l e R s m args below meth c σ0 Q d ev rf σf X hC hR hM hE ls st σ h0 hk H locs lsA hP hO hS hl => ?_⟩
  unfold oLen at hk
  split at hk
  · next a r => exact va_tlen X.1 X.2.1 ((hO.1 a (by rw [hk.1]; omega)).1 hk.1) hS rfl hd (hk.2.2 h0 H locs lsA hP hO hS hl)
  · exact hk.elim
theorem j_lenB {nx : Nat} (hd : decode cc pc = .ok (.arraylength, 1)) (hn : pc + 1 = nx) : JJ own cc nL ret nm pc (oLenB nx) := by
  subst hn
  refine ⟨fun ls st σ => by unfold oLenB; split <;> first | exact xle_rf | exact trivial, fun G p l e R s m args below meth c σ0 Q d ev rf σf X hC hR hM hE ls st σ h0 hk H locs lsA hP hO hS hl => ?_⟩
  unfold oLenB at hk
  split at hk
  · next a r => exact va_tlen X.1 X.2.1 ((hO.1 a (show 40 ≤ kd σ a by rcases hk.1 with q | q <;> rw [q] <;> decide)).2.1 hk.1) hS rfl hd (hk.2.2 h0 H locs lsA hP hO hS hl)
  · exact hk.elim
theorem S_new {G : xG} {s : State} {H H1 : Heap} {locs : List Loc} (hS : va_S (gA G) s.heap H locs) (z : H1.size = H.size + 1) (oq : ∀ q : Nat, q < H.size → H1[q]? = H[q]?) : va_S (gA G) s.heap H1 locs :=
  ⟨Nat.le_trans hS.1 (by omega), fun x h1 h2 => (oq x (Nat.lt_of_lt_of_le h1 hS.1)).trans (hS.2.1 x h1 h2), hS.2.2⟩
theorem j_newarray {k nx : Nat} {atype : ArrayType} (h1 : 20 ≤ k) (h2 : k < 23) (hty : newarray.typeOf atype = kTy k) (hw : Cond.arrayClass (newarray.typeOf atype) ∈ gt) (hdef : defaultValue (kTy k) = .int 0) (hby : componentBytes (kTy k) ≤ 4) (hra9 : ∀ U cA, va_RA U cA (kTy k) → U.vm.findClass ("[" ++ (kTy k).toString) = some cA) (hd : decode cc pc = .ok (.newarray atype, 2)) (hn : pc + 2 = nx) : JJ own cc nL ret nm pc (oNewa k nx) := by
  subst hn
  refine ⟨fun ls st σ => by unfold oNewa; split <;> first | exact xle_new | exact trivial, fun G p l e R s m args below meth c σ0 Q d ev rf σf X hC hR hM hE ls st σ h0 hk H locs lsA hP hO hS hl => ?_⟩
  unfold oNewa at hk
  split at hk
  · next n r =>
    have hrm := room_new h0 hk.2.1 hM
    have hbt : n.toNatClampNeg * componentBytes (newarray.typeOf atype) ≤ 536870912 := by
      rw [hty]
      have q1 := hk.1.2
      have q2 : n.toNatClampNeg * componentBytes (kTy k) ≤ 100000 * 4 := Nat.mul_le_mul q1 hby
      omega
    refine va_newaK X.1 X.2.1 (X.2.2.2.2.2.1 _ hw) rfl hd rfl hk.1.1 rfl hbt hrm.1 hrm.2 rfl fun H1 cA e1 z oq hA hnm => ?_
    refine W.cs (cells_new (k := k) (n := n.toNatClampNeg) h0).1 (cells_new (k := k) (n := n.toNatClampNeg) h0).2 ?_
    have hcA : cA = G.2.1 k := by
      have q := hra9 s (G.2.1 k) (X.2.2.2.2.2.2.2.1.1.2 (k - 20) _ (ty_at h1 (by omega))).2
      rw [hty] at hnm
      exact Option.some.inj (hnm.symm.trans q)
    subst hcA
    have g := hk.2.2 (xle_tr h0 xle_new) H1 locs lsA (rp_new hP (Or.inr ⟨h1, by omega⟩) z oq (by
      rw [enc_ari (k := k) rfl h1 h2]
      show H1[H.size]? = some (vp_cell _ _)
      rw [e1, vp_cell_i, hty, hdef])) (old_new hO (by omega) (B_nw X.2.2.2.2.2.2.2.1 hP)) (S_new hS z oq) hl
    rw [← hP.1] at g
    exact g
  · exact hk.elim
theorem j_anewarray {k idx nx : Nat} {C : String} (h1 : 23 ≤ k) (h2 : k < 28) (hty : kTy k = .object C) (hao : C ∈ aoL) (hw : Cond.classLink own idx C ∈ gt) (hd : decode cc pc = .ok (.anewarray idx, 3)) (hn : pc + 3 = nx) : JJ own cc nL ret nm pc (oNewa k nx) := by
  subst hn
  refine ⟨fun ls st σ => by unfold oNewa; split <;> first | exact xle_new | exact trivial, fun G p l e R s m args below meth c σ0 Q d ev rf σf X hC hR hM hE ls st σ h0 hk H locs lsA hP hO hS hl => ?_⟩
  unfold oNewa at hk
  split at hk
  · next n r =>
    have hrm := room_new h0 hk.2.1 hM
    refine W.anew X.1 X.2.1 X.2.2.2.2.1 (X.2.2.2.2.2.1 _ hw) (va_AO.use (X.2.2.2.2.2.2.2.1.2.2.2.1 C hao)) rfl hd rfl hk.1.1 (by have := hk.1.2; omega) hrm.1 hrm.2 fun cA kA comp f1 f2 f3 f4 => ?_
    generalize hH1 : H.push ({ cls := cA, slots := Array.replicate n.toNatClampNeg .null, vm := .none } : Cell) = H1
    have z : H1.size = H.size + 1 := by rw [← hH1, Array.size_push]
    have e1 : H1[H.size]? = some (arrV cA n.toNatClampNeg (fun _ => .null)) := by rw [← hH1, Array.getElem?_push_size, ← arrV_new]
    have oq : ∀ q : Nat, q < H.size → H1[q]? = H[q]? := fun q hq => by rw [← hH1, Array.getElem?_push, if_neg (Nat.ne_of_lt hq)]
    refine W.cs (cells_new (k := k) (n := n.toNatClampNeg) h0).1 (cells_new (k := k) (n := n.toNatClampNeg) h0).2 ?_
    have hcA : cA = G.2.1 k := by
      have q := (X.2.2.2.2.2.2.2.1.1.2 (k - 20) _ (ty_at (by omega) h2)).2
      rw [hty] at q
      obtain ⟨_, _, -, -, -, q⟩ := q
      exact Option.some.inj (f1.symm.trans q)
    subst hcA
    have g := hk.2.2 (xle_tr h0 xle_new) H1 locs lsA (rp_new hP (Or.inr ⟨by omega, h2⟩) z oq (by
      rw [enc_arp (k := k) rfl h1]
      show H1[H.size]? = some (vp_cell _ _)
      rw [e1, vp_cell_q]
      rfl)) (old_new hO (by omega) (B_nw X.2.2.2.2.2.2.2.1 hP)) (S_new hS z oq) hl
    rw [← hP.1] at g
    exact g
  · exact hk.elim
theorem j_new {ci N idx nx : Nat} (hci : ci < 13) (hN : cK ci = N) (hw : Cond.classLink own idx (cN ci) ∈ gt) (hd : decode cc pc = .ok (.new idx, 3)) (hn : pc + 3 = nx) : JJ own cc nL ret nm pc (oNew ci N nx) := by
  subst hn
  subst hN
  refine ⟨fun ls st σ => xle_new, fun G p l e R s m args below meth c σ0 Q d ev rf σf X hC hR hM hE ls st σ h0 hk H locs lsA hP hO hS hl => ?_⟩
  have hk : xle (xnew σ (ci + 1) (cK ci)) σf ∧ (xle σ0 (xnew σ (ci + 1) (cK ci)) → WW G p l e R s m args below meth c nL σ0 Q (pc + 3, ls, .ref σ.1 :: st, xnew σ (ci + 1) (cK ci))) := hk
  have hrm := room_new h0 hk.1 hM
  have hts := X.2.2.2.2.2.1
  have hKn := X.2.2.2.2.2.2.2.1.1.1 ci _ (classes_at hci)
  refine W.newcK X.1 X.2.1 X.2.2.2.2.1 (hts _ hw) (hts _ (gtm _ (in_ok ci hci).1 (in_ok ci hci).2)) (hts _ (gtm _ (ini_ok ci hci).1 (ini_ok ci hci).2)) rfl hd hrm.1 hrm.2 hKn.2.1 rfl fun H1 kC hkC e1 z oq => ?_
  refine W.cs (cells_new (k := ci + 1) (n := cK ci) h0).1 (cells_new (k := ci + 1) (n := cK ci) h0).2 ?_
  have g := hk.2 (xle_tr h0 xle_new) H1 locs lsA (rp_new hP (Or.inl ⟨by omega, by omega⟩) z oq (by
    rw [enc_k (i := ci) rfl hci]
    refine ⟨_, classes_at hci, (u_born (cY ci) hts (ws_in ci hci) hKn hkC e1 (cY_ok ci hci)).to (fun k hk9 => ?_)⟩
    have hk9 : k < cK ci := hk9
    rw [cI_def ci hci k hk9]
    simp [vp_V, fvl, hk9, rv])) (old_new hO (by omega) (B_nw X.2.2.2.2.2.2.2.1 hP)) (S_new hS z oq) hl
  rw [← hP.1] at g
  exact g
theorem j_obj {idx nx : Nat} (hw1 : Cond.methodLink own idx Lib.objectInit ∈ gt) (hw2 : Cond.instanceMethod Lib.objectInit ∈ gt) (hw3 : Cond.code Lib.objectInit ⟨#[0xb1]⟩ 1 none ∈ gt) (hd : decode cc pc = .ok (.invokespecial idx, 3)) (hn : pc + 3 = nx) : JJ own cc nL ret nm pc (oObj nx) := by
  subst hn
  refine ⟨fun ls st σ => by unfold oObj; split <;> first | exact xle_rf | exact trivial, fun G p l e R s m args below meth c σ0 Q d ev rf σf X hC hR hM hE ls st σ h0 hk H locs lsA hP hO hS hl => ?_⟩
  unfold oObj at hk
  split at hk
  · next a r =>
    have hts := X.2.2.2.2.2.1
    refine W.objInit X.1 X.2.1 X.2.2.2.2.1 (hts _ hw1) (hts _ hw2) (hts _ hw3) rfl (by rw [X.2.2.2.1]; exact hl.1) rfl hd (by omega) (by have := lv_room (m := m) (pc := pc) (ls := lsA) (rest := .ref a :: r) (st := r) hk.1; show 2 * (F0 m pc lsA (Value.ref a :: r)).monitorRoom + (r.map fun v => v.category).sum + 12 ≤ R.locals; omega) ?_
    exact hk.2.2 h0 H locs lsA hP hO hS hl
  · exact hk.elim
theorem j_cast {idx nx : Nat} (hw : Cond.classLink own idx "[I" ∈ gt) (hd : decode cc pc = .ok (.checkcast idx, 3)) (hn : pc + 3 = nx) : JJ own cc nL ret nm pc (oCast nx) := by
  subst hn
  refine ⟨fun ls st σ => by unfold oCast; split <;> first | exact xle_rf | exact trivial, fun G p l e R s m args below meth c σ0 Q d ev rf σf X hC hR hM hE ls st σ h0 hk H locs lsA hP hO hS hl => ?_⟩
  unfold oCast at hk
  split at hk
  · next a r =>
    have hv := rp_at hP (a := a) (by rw [hk.1]; omega) (by rw [hk.1]; omega)
    rw [enc_ari hk.1 (by decide) (by decide)] at hv
    exact va_castA (D := G.1) X.1 X.2.1 X.2.2.2.2.1 (X.2.2.2.2.2.1 _ hw) (one_P hv) 0 rfl (X.2.2.2.2.2.2.2.1.1.2 0 _ (ty_at (k := 20) (by decide) (by decide))).2 hd (hk.2.2 h0 H locs lsA hP hO hS hl)
  · exact hk.elim
end ARR
