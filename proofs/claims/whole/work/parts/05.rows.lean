/-! THE INSTRUCTIONS ONE BY ONE: those that touch no heap -/
section ROWS
variable {own : String} {cc : ByteArray} {nL : Nat} {ret : Option FieldType} {nm : String} {pc : Nat}
theorem xlk_mem {k : Nat} {v : Value} : ∀ {ls : xL}, xlk k ls = some v → (k, v) ∈ ls
  | [], h => by cases h
  | (j, w) :: r, h => by
    unfold xlk at h
    split at h
    · next e => cases h; rw [e]; exact List.mem_cons_self
    · exact List.mem_cons_of_mem _ (xlk_mem h)
theorem xlk_at {k nL : Nat} {v : Value} {ls : xL} {lsA : Array Slot} (hl : lv_has lsA nL ls) (h : xlk k ls = some v) : lsA[k]? = some (.val v) := hl.2.2 (k, v) (xlk_mem h)
theorem xlk_pl {k nL : Nat} {v : Value} {ls : xL} (h : xlk k ls = some v) : ∃ j : Nat, ls[j]? = some (k, v) := List.getElem?_of_mem (xlk_mem h)
theorem sz_push {v : Value} {nx : Nat} : ∀ ls st σ, szA σ (oPush v nx ls st σ) := fun _ _ _ => xle_rf
theorem j_iconst {n : Int} {v : Int32} {nx : Nat} (hd : decode cc pc = .ok (.iconst n, 1)) (hv : Int32.ofInt n = v) (hn : pc + 1 = nx) : JJ own cc nL ret nm pc (oPush (.int v) nx) := by
  subst hn
  exact ⟨sz_push, fun G p l e R s m args below meth c σ0 Q d ev rf σf X hC hR hM hE ls st σ h0 hk H locs lsA hP hO hS hl => lv_iconst X.1 X.2.1 hd hv (hk.2 h0 H locs lsA hP hO hS hl)⟩
theorem j_bipush {n : Int} {v : Int32} {nx : Nat} (hd : decode cc pc = .ok (.bipush n, 2)) (hv : (Int8.ofInt n).toInt32 = v) (hn : pc + 2 = nx) : JJ own cc nL ret nm pc (oPush (.int v) nx) := by
  subst hn
  exact ⟨sz_push, fun G p l e R s m args below meth c σ0 Q d ev rf σf X hC hR hM hE ls st σ h0 hk H locs lsA hP hO hS hl => lv_bipush X.1 X.2.1 hd hv (hk.2 h0 H locs lsA hP hO hS hl)⟩
theorem j_sipush {n : Int} {v : Int32} {nx : Nat} (hd : decode cc pc = .ok (.sipush n, 3)) (hv : (Int16.ofInt n).toInt32 = v) (hn : pc + 3 = nx) : JJ own cc nL ret nm pc (oPush (.int v) nx) := by
  subst hn
  exact ⟨sz_push, fun G p l e R s m args below meth c σ0 Q d ev rf σf X hC hR hM hE ls st σ h0 hk H locs lsA hP hO hS hl => lv_sipush X.1 X.2.1 hd hv (hk.2 h0 H locs lsA hP hO hS hl)⟩
theorem j_ldc {idx : Nat} {v : Int32} {nx : Nat} (hd : decode cc pc = .ok (.ldc idx, 2)) (hw : Cond.constant own idx v ∈ gt) (hn : pc + 2 = nx) : JJ own cc nL ret nm pc (oPush (.int v) nx) := by
  subst hn
  exact ⟨sz_push, fun G p l e R s m args below meth c σ0 Q d ev rf σf X hC hR hM hE ls st σ h0 hk H locs lsA hP hO hS hl => lv_ldc X.1 X.2.1 X.2.2.2.2.1 (X.2.2.2.2.2.1 _ hw) hd (hk.2 h0 H locs lsA hP hO hS hl)⟩
theorem j_ldcw {idx : Nat} {v : Int32} {nx : Nat} (hd : decode cc pc = .ok (.ldc_w idx, 3)) (hw : Cond.constant own idx v ∈ gt) (hn : pc + 3 = nx) : JJ own cc nL ret nm pc (oPush (.int v) nx) := by
  subst hn
  exact ⟨sz_push, fun G p l e R s m args below meth c σ0 Q d ev rf σf X hC hR hM hE ls st σ h0 hk H locs lsA hP hO hS hl => lv_ldcw X.1 X.2.1 X.2.2.2.2.1 (X.2.2.2.2.2.1 _ hw) hd (hk.2 h0 H locs lsA hP hO hS hl)⟩
theorem j_ldc2 {idx : Nat} {v : Int64} {nx : Nat} (hd : decode cc pc = .ok (.ldc2_w idx, 3)) (hw : Cond.constantLong own idx v ∈ gt) (hn : pc + 3 = nx) : JJ own cc nL ret nm pc (oPush (.long v) nx) := by
  subst hn
  exact ⟨sz_push, fun G p l e R s m args below meth c σ0 Q d ev rf σf X hC hR hM hE ls st σ h0 hk H locs lsA hP hO hS hl => lv_ldc2 X.1 X.2.1 X.2.2.2.2.1 (X.2.2.2.2.2.1 _ hw) hd (hk.2 h0 H locs lsA hP hO hS hl)⟩
theorem j_lconst {n : Fin 2} {v : Int64} {nx : Nat} (hd : decode cc pc = .ok (.lconst n, 1)) (hv : Int64.ofNat (n : Nat) = v) (hn : pc + 1 = nx) : JJ own cc nL ret nm pc (oPush (.long v) nx) := by
  subst hn
  exact ⟨sz_push, fun G p l e R s m args below meth c σ0 Q d ev rf σf X hC hR hM hE ls st σ h0 hk H locs lsA hP hO hS hl => lv_lconst X.1 X.2.1 hd hv (hk.2 h0 H locs lsA hP hO hS hl)⟩
theorem j_null {nx : Nat} (hd : decode cc pc = .ok (.aconst_null, 1)) (hn : pc + 1 = nx) : JJ own cc nL ret nm pc (oPush .null nx) := by
  subst hn
  exact ⟨sz_push, fun G p l e R s m args below meth c σ0 Q d ev rf σf X hC hR hM hE ls st σ h0 hk H locs lsA hP hO hS hl => lv_null X.1 X.2.1 hd (hk.2 h0 H locs lsA hP hO hS hl)⟩
theorem sz_ild {k nx : Nat} : ∀ ls st σ, szA σ (oIld k nx ls st σ) := fun ls st σ => by unfold oIld; split <;> first | exact xle_rf | exact trivial
theorem sz_lld {k nx : Nat} : ∀ ls st σ, szA σ (oLld k nx ls st σ) := fun ls st σ => by unfold oLld; split <;> first | exact xle_rf | exact trivial
theorem sz_ald {k nx : Nat} : ∀ ls st σ, szA σ (oAld k nx ls st σ) := fun ls st σ => by unfold oAld; split <;> first | exact xle_rf | exact trivial
theorem j_iload_n {k : Fin 4} {i nx : Nat} (hd : decode cc pc = .ok (.iload_n k, 1)) (hi : (k : Nat) = i) (hn : pc + 1 = nx) : JJ own cc nL ret nm pc (oIld i nx) := by
  subst hn
  refine ⟨sz_ild, fun G p l e R s m args below meth c σ0 Q d ev rf σf X hC hR hM hE ls st σ h0 hk H locs lsA hP hO hS hl => ?_⟩
  unfold oIld at hk
  split at hk
  · next x hx => exact lv_iload_n X.1 X.2.1 hd hi (xlk_at hl hx) (hk.2 h0 H locs lsA hP hO hS hl)
  · exact hk.elim
theorem j_iload {i nx : Nat} (hd : decode cc pc = .ok (.iload i, 2)) (hn : pc + 2 = nx) : JJ own cc nL ret nm pc (oIld i nx) := by
  subst hn
  refine ⟨sz_ild, fun G p l e R s m args below meth c σ0 Q d ev rf σf X hC hR hM hE ls st σ h0 hk H locs lsA hP hO hS hl => ?_⟩
  unfold oIld at hk
  split at hk
  · next x hx => exact lv_iload X.1 X.2.1 hd (xlk_at hl hx) (hk.2 h0 H locs lsA hP hO hS hl)
  · exact hk.elim
theorem j_lload_n {k : Fin 4} {i nx : Nat} (hd : decode cc pc = .ok (.lload_n k, 1)) (hi : (k : Nat) = i) (hn : pc + 1 = nx) : JJ own cc nL ret nm pc (oLld i nx) := by
  subst hn
  refine ⟨sz_lld, fun G p l e R s m args below meth c σ0 Q d ev rf σf X hC hR hM hE ls st σ h0 hk H locs lsA hP hO hS hl => ?_⟩
  unfold oLld at hk
  split at hk
  · next x hx => exact lv_lload_n X.1 X.2.1 hd hi (xlk_at hl hx) (hk.2 h0 H locs lsA hP hO hS hl)
  · exact hk.elim
theorem j_aload_n {k : Fin 4} {i nx : Nat} (hd : decode cc pc = .ok (.aload_n k, 1)) (hi : (k : Nat) = i) (hn : pc + 1 = nx) : JJ own cc nL ret nm pc (oAld i nx) := by
  subst hn
  refine ⟨sz_ald, fun G p l e R s m args below meth c σ0 Q d ev rf σf X hC hR hM hE ls st σ h0 hk H locs lsA hP hO hS hl => ?_⟩
  unfold oAld at hk
  split at hk
  · next x hx => exact lv_aload_n X.1 X.2.1 hd hi (xlk_at hl hx) (hk.2 h0 H locs lsA hP hO hS hl)
  · next hx => exact lv_aload_nN X.1 X.2.1 hd hi (xlk_at hl hx) (hk.2 h0 H locs lsA hP hO hS hl)
  · exact hk.elim
theorem j_aload {i nx : Nat} (hd : decode cc pc = .ok (.aload i, 2)) (hn : pc + 2 = nx) : JJ own cc nL ret nm pc (oAld i nx) := by
  subst hn
  refine ⟨sz_ald, fun G p l e R s m args below meth c σ0 Q d ev rf σf X hC hR hM hE ls st σ h0 hk H locs lsA hP hO hS hl => ?_⟩
  unfold oAld at hk
  split at hk
  · next x hx => exact lv_aload X.1 X.2.1 hd (xlk_at hl hx) (hk.2 h0 H locs lsA hP hO hS hl)
  · next hx => exact lv_aloadN X.1 X.2.1 hd (xlk_at hl hx) (hk.2 h0 H locs lsA hP hO hS hl)
  · exact hk.elim
theorem sz_ist {k nx n : Nat} : ∀ ls st σ, szA σ (oIst k nx n ls st σ) := fun ls st σ => by unfold oIst; split <;> first | exact xle_rf | exact trivial
theorem sz_lst {k nx n : Nat} : ∀ ls st σ, szA σ (oLst k nx n ls st σ) := fun ls st σ => by unfold oLst; split <;> first | exact xle_rf | exact trivial
theorem sz_ast {k nx n : Nat} : ∀ ls st σ, szA σ (oAst k nx n ls st σ) := fun ls st σ => by unfold oAst; split <;> first | exact xle_rf | exact trivial
theorem j_istore_n {k : Fin 4} {i nx : Nat} (hd : decode cc pc = .ok (.istore_n k, 1)) (hi : (k : Nat) = i) (hn : pc + 1 = nx) : JJ own cc nL ret nm pc (oIst i nx nL) := by
  subst hn
  refine ⟨sz_ist, fun G p l e R s m args below meth c σ0 Q d ev rf σf X hC hR hM hE ls st σ h0 hk H locs lsA hP hO hS hl => ?_⟩
  unfold oIst at hk
  split at hk
  · exact lv_istore_n X.1 X.2.1 hd hi hl hk.1 rfl (fun ls' hl' => hk.2.2 h0 H locs ls' hP hO hS hl')
  · exact hk.elim
theorem j_istore {i nx : Nat} (hd : decode cc pc = .ok (.istore i, 2)) (hn : pc + 2 = nx) : JJ own cc nL ret nm pc (oIst i nx nL) := by
  subst hn
  refine ⟨sz_ist, fun G p l e R s m args below meth c σ0 Q d ev rf σf X hC hR hM hE ls st σ h0 hk H locs lsA hP hO hS hl => ?_⟩
  unfold oIst at hk
  split at hk
  · exact lv_istore X.1 X.2.1 hd hl hk.1 rfl (fun ls' hl' => hk.2.2 h0 H locs ls' hP hO hS hl')
  · exact hk.elim
theorem j_lstore_n {k : Fin 4} {i nx : Nat} (hd : decode cc pc = .ok (.lstore_n k, 1)) (hi : (k : Nat) = i) (hn : pc + 1 = nx) : JJ own cc nL ret nm pc (oLst i nx nL) := by
  subst hn
  refine ⟨sz_lst, fun G p l e R s m args below meth c σ0 Q d ev rf σf X hC hR hM hE ls st σ h0 hk H locs lsA hP hO hS hl => ?_⟩
  unfold oLst at hk
  split at hk
  · exact lv_lstore_n X.1 X.2.1 hd hi hl hk.1 rfl (fun ls' hl' => hk.2.2 h0 H locs ls' hP hO hS hl')
  · exact hk.elim
theorem j_astore_n {k : Fin 4} {i nx : Nat} (hd : decode cc pc = .ok (.astore_n k, 1)) (hi : (k : Nat) = i) (hn : pc + 1 = nx) : JJ own cc nL ret nm pc (oAst i nx nL) := by
  subst hn
  refine ⟨sz_ast, fun G p l e R s m args below meth c σ0 Q d ev rf σf X hC hR hM hE ls st σ h0 hk H locs lsA hP hO hS hl => ?_⟩
  unfold oAst at hk
  split at hk
  · exact lv_astore_n X.1 X.2.1 hd hi hl hk.1 rfl (fun ls' hl' => hk.2.2 h0 H locs ls' hP hO hS hl')
  · exact lv_astore_nN X.1 X.2.1 hd hi hl hk.1 rfl (fun ls' hl' => hk.2.2 h0 H locs ls' hP hO hS hl')
  · exact hk.elim
theorem j_astore {i nx : Nat} (hd : decode cc pc = .ok (.astore i, 2)) (hn : pc + 2 = nx) : JJ own cc nL ret nm pc (oAst i nx nL) := by
  subst hn
  refine ⟨sz_ast, fun G p l e R s m args below meth c σ0 Q d ev rf σf X hC hR hM hE ls st σ h0 hk H locs lsA hP hO hS hl => ?_⟩
  unfold oAst at hk
  split at hk
  · exact lv_astore X.1 X.2.1 hd hl hk.1 rfl (fun ls' hl' => hk.2.2 h0 H locs ls' hP hO hS hl')
  · exact lv_astoreN X.1 X.2.1 hd hl hk.1 rfl (fun ls' hl' => hk.2.2 h0 H locs ls' hP hO hS hl')
  · exact hk.elim
theorem j_iinc {i nx : Nat} {n : Int} {v : Int32} (hd : decode cc pc = .ok (.iinc i n, 3)) (hv : Int32.ofInt n = v) (hn : pc + 3 = nx) : JJ own cc nL ret nm pc (oIinc i v nx nL) := by
  subst hn
  refine ⟨fun ls st σ => by unfold oIinc; split <;> first | exact xle_rf | exact trivial, fun G p l e R s m args below meth c σ0 Q d ev rf σf X hC hR hM hE ls st σ h0 hk H locs lsA hP hO hS hl => ?_⟩
  unfold oIinc at hk
  split at hk
  · next x hx =>
    obtain ⟨k, hk9⟩ := xlk_pl (nL := nL) hx
    exact lv_iinc X.1 X.2.1 hd hl hk9 (by rw [hv]) hk.1 rfl (fun ls' hl' => hk.2.2 h0 H locs ls' hP hO hS hl')
  · exact hk.elim
theorem sz_bin {op : Int32 → Int32 → Int32} {nx : Nat} : ∀ ls st σ, szA σ (oBin op nx ls st σ) := fun ls st σ => by unfold oBin; split <;> first | exact xle_rf | exact trivial
theorem sz_div {op : Int32 → Int32 → Int32} {nx : Nat} : ∀ ls st σ, szA σ (oDiv op nx ls st σ) := fun ls st σ => by unfold oDiv; split <;> first | exact xle_rf | exact trivial
theorem sz_un {op : Int32 → Int32} {nx : Nat} : ∀ ls st σ, szA σ (oUn op nx ls st σ) := fun ls st σ => by unfold oUn; split <;> first | exact xle_rf | exact trivial
theorem j_iadd {nx : Nat} (hd : decode cc pc = .ok (.iadd, 1)) (hn : pc + 1 = nx) : JJ own cc nL ret nm pc (oBin (fun x y => x + y) nx) := by
  subst hn
  refine ⟨sz_bin, fun G p l e R s m args below meth c σ0 Q d ev rf σf X hC hR hM hE ls st σ h0 hk H locs lsA hP hO hS hl => ?_⟩
  unfold oBin at hk
  split at hk
  · exact lv_iadd X.1 X.2.1 hd (hk.2 h0 H locs lsA hP hO hS hl)
  · exact hk.elim
theorem j_isub {nx : Nat} (hd : decode cc pc = .ok (.isub, 1)) (hn : pc + 1 = nx) : JJ own cc nL ret nm pc (oBin (fun x y => x - y) nx) := by
  subst hn
  refine ⟨sz_bin, fun G p l e R s m args below meth c σ0 Q d ev rf σf X hC hR hM hE ls st σ h0 hk H locs lsA hP hO hS hl => ?_⟩
  unfold oBin at hk
  split at hk
  · exact lv_isub X.1 X.2.1 hd (hk.2 h0 H locs lsA hP hO hS hl)
  · exact hk.elim
theorem j_imul {nx : Nat} (hd : decode cc pc = .ok (.imul, 1)) (hn : pc + 1 = nx) : JJ own cc nL ret nm pc (oBin (fun x y => x * y) nx) := by
  subst hn
  refine ⟨sz_bin, fun G p l e R s m args below meth c σ0 Q d ev rf σf X hC hR hM hE ls st σ h0 hk H locs lsA hP hO hS hl => ?_⟩
  unfold oBin at hk
  split at hk
  · exact lv_imul X.1 X.2.1 hd (hk.2 h0 H locs lsA hP hO hS hl)
  · exact hk.elim
theorem j_iand {nx : Nat} (hd : decode cc pc = .ok (.iand, 1)) (hn : pc + 1 = nx) : JJ own cc nL ret nm pc (oBin (fun x y => x &&& y) nx) := by
  subst hn
  refine ⟨sz_bin, fun G p l e R s m args below meth c σ0 Q d ev rf σf X hC hR hM hE ls st σ h0 hk H locs lsA hP hO hS hl => ?_⟩
  unfold oBin at hk
  split at hk
  · exact lv_iand X.1 X.2.1 hd (hk.2 h0 H locs lsA hP hO hS hl)
  · exact hk.elim
theorem j_ior {nx : Nat} (hd : decode cc pc = .ok (.ior, 1)) (hn : pc + 1 = nx) : JJ own cc nL ret nm pc (oBin (fun x y => x ||| y) nx) := by
  subst hn
  refine ⟨sz_bin, fun G p l e R s m args below meth c σ0 Q d ev rf σf X hC hR hM hE ls st σ h0 hk H locs lsA hP hO hS hl => ?_⟩
  unfold oBin at hk
  split at hk
  · exact lv_ior X.1 X.2.1 hd (hk.2 h0 H locs lsA hP hO hS hl)
  · exact hk.elim
theorem j_ixor {nx : Nat} (hd : decode cc pc = .ok (.ixor, 1)) (hn : pc + 1 = nx) : JJ own cc nL ret nm pc (oBin (fun x y => x ^^^ y) nx) := by
  subst hn
  refine ⟨sz_bin, fun G p l e R s m args below meth c σ0 Q d ev rf σf X hC hR hM hE ls st σ h0 hk H locs lsA hP hO hS hl => ?_⟩
  unfold oBin at hk
  split at hk
  · exact lv_ixor X.1 X.2.1 hd (hk.2 h0 H locs lsA hP hO hS hl)
  · exact hk.elim
theorem j_ishl {nx : Nat} (hd : decode cc pc = .ok (.ishl, 1)) (hn : pc + 1 = nx) : JJ own cc nL ret nm pc (oBin (fun x y => x <<< (y &&& 31)) nx) := by
  subst hn
  refine ⟨sz_bin, fun G p l e R s m args below meth c σ0 Q d ev rf σf X hC hR hM hE ls st σ h0 hk H locs lsA hP hO hS hl => ?_⟩
  unfold oBin at hk
  split at hk
  · exact lv_ishl X.1 X.2.1 hd (hk.2 h0 H locs lsA hP hO hS hl)
  · exact hk.elim
theorem j_ishr {nx : Nat} (hd : decode cc pc = .ok (.ishr, 1)) (hn : pc + 1 = nx) : JJ own cc nL ret nm pc (oBin (fun x y => x >>> (y &&& 31)) nx) := by
  subst hn
  refine ⟨sz_bin, fun G p l e R s m args below meth c σ0 Q d ev rf σf X hC hR hM hE ls st σ h0 hk H locs lsA hP hO hS hl => ?_⟩
  unfold oBin at hk
  split at hk
  · exact lv_ishr X.1 X.2.1 hd (hk.2 h0 H locs lsA hP hO hS hl)
  · exact hk.elim
theorem j_iushr {nx : Nat} (hd : decode cc pc = .ok (.iushr, 1)) (hn : pc + 1 = nx) : JJ own cc nL ret nm pc (oBin (fun x y => (x.toUInt32 >>> (y.toUInt32 &&& Int32.toUInt32 31)).toInt32) nx) := by
  subst hn
  refine ⟨sz_bin, fun G p l e R s m args below meth c σ0 Q d ev rf σf X hC hR hM hE ls st σ h0 hk H locs lsA hP hO hS hl => ?_⟩
  unfold oBin at hk
  split at hk
  · exact lv_iushr X.1 X.2.1 hd rfl (hk.2 h0 H locs lsA hP hO hS hl)
  · exact hk.elim
theorem j_idiv {nx : Nat} (hd : decode cc pc = .ok (.idiv, 1)) (hn : pc + 1 = nx) : JJ own cc nL ret nm pc (oDiv (fun x y => x / y) nx) := by
  subst hn
  refine ⟨sz_div, fun G p l e R s m args below meth c σ0 Q d ev rf σf X hC hR hM hE ls st σ h0 hk H locs lsA hP hO hS hl => ?_⟩
  unfold oDiv at hk
  split at hk
  · exact lv_idiv X.1 X.2.1 hd hk.1 (hk.2.2 h0 H locs lsA hP hO hS hl)
  · exact hk.elim
theorem j_irem {nx : Nat} (hd : decode cc pc = .ok (.irem, 1)) (hn : pc + 1 = nx) : JJ own cc nL ret nm pc (oDiv (fun x y => x - x / y * y) nx) := by
  subst hn
  refine ⟨sz_div, fun G p l e R s m args below meth c σ0 Q d ev rf σf X hC hR hM hE ls st σ h0 hk H locs lsA hP hO hS hl => ?_⟩
  unfold oDiv at hk
  split at hk
  · exact lv_irem X.1 X.2.1 hd hk.1 (hk.2.2 h0 H locs lsA hP hO hS hl)
  · exact hk.elim
theorem j_ineg {nx : Nat} (hd : decode cc pc = .ok (.ineg, 1)) (hn : pc + 1 = nx) : JJ own cc nL ret nm pc (oUn (fun x => -x) nx) := by
  subst hn
  refine ⟨sz_un, fun G p l e R s m args below meth c σ0 Q d ev rf σf X hC hR hM hE ls st σ h0 hk H locs lsA hP hO hS hl => ?_⟩
  unfold oUn at hk
  split at hk
  · exact lv_ineg X.1 X.2.1 hd (hk.2 h0 H locs lsA hP hO hS hl)
  · exact hk.elim
theorem j_i2b {nx : Nat} (hd : decode cc pc = .ok (.i2b, 1)) (hn : pc + 1 = nx) : JJ own cc nL ret nm pc (oUn (fun x => x.toInt8.toInt32) nx) := by
  subst hn
  refine ⟨sz_un, fun G p l e R s m args below meth c σ0 Q d ev rf σf X hC hR hM hE ls st σ h0 hk H locs lsA hP hO hS hl => ?_⟩
  unfold oUn at hk
  split at hk
  · exact lv_i2b X.1 X.2.1 hd rfl (hk.2 h0 H locs lsA hP hO hS hl)
  · exact hk.elim
theorem j_i2s {nx : Nat} (hd : decode cc pc = .ok (.i2s, 1)) (hn : pc + 1 = nx) : JJ own cc nL ret nm pc (oUn (fun x => x.toInt16.toInt32) nx) := by
  subst hn
  refine ⟨sz_un, fun G p l e R s m args below meth c σ0 Q d ev rf σf X hC hR hM hE ls st σ h0 hk H locs lsA hP hO hS hl => ?_⟩
  unfold oUn at hk
  split at hk
  · exact lv_i2s X.1 X.2.1 hd rfl (hk.2 h0 H locs lsA hP hO hS hl)
  · exact hk.elim
theorem j_i2c {nx : Nat} (hd : decode cc pc = .ok (.i2c, 1)) (hn : pc + 1 = nx) : JJ own cc nL ret nm pc (oUn (fun x => (x.toUInt32 % 65536).toInt32) nx) := by
  subst hn
  refine ⟨sz_un, fun G p l e R s m args below meth c σ0 Q d ev rf σf X hC hR hM hE ls st σ h0 hk H locs lsA hP hO hS hl => ?_⟩
  unfold oUn at hk
  split at hk
  · exact lv_i2c X.1 X.2.1 hd rfl (hk.2 h0 H locs lsA hP hO hS hl)
  · exact hk.elim
theorem j_land {nx : Nat} (hd : decode cc pc = .ok (.land, 1)) (hn : pc + 1 = nx) : JJ own cc nL ret nm pc (oBinL (fun x y => x &&& y) nx) := by
  subst hn
  refine ⟨fun ls st σ => by unfold oBinL; split <;> first | exact xle_rf | exact ⟨xle_rf, xle_rf⟩ | exact trivial, fun G p l e R s m args below meth c σ0 Q d ev rf σf X hC hR hM hE ls st σ h0 hk H locs lsA hP hO hS hl => ?_⟩
  unfold oBinL at hk
  split at hk
  · exact lv_land X.1 X.2.1 hd (hk.2 h0 H locs lsA hP hO hS hl)
  · exact hk.elim
theorem j_lor {nx : Nat} (hd : decode cc pc = .ok (.lor, 1)) (hn : pc + 1 = nx) : JJ own cc nL ret nm pc (oBinL (fun x y => x ||| y) nx) := by
  subst hn
  refine ⟨fun ls st σ => by unfold oBinL; split <;> first | exact xle_rf | exact ⟨xle_rf, xle_rf⟩ | exact trivial, fun G p l e R s m args below meth c σ0 Q d ev rf σf X hC hR hM hE ls st σ h0 hk H locs lsA hP hO hS hl => ?_⟩
  unfold oBinL at hk
  split at hk
  · exact lv_lor X.1 X.2.1 hd (hk.2 h0 H locs lsA hP hO hS hl)
  · exact hk.elim
theorem j_lshl {nx : Nat} (hd : decode cc pc = .ok (.lshl, 1)) (hn : pc + 1 = nx) : JJ own cc nL ret nm pc (oShL (fun x y => x <<< (y.toInt64 &&& 63)) nx) := by
  subst hn
  refine ⟨fun ls st σ => by unfold oShL; split <;> first | exact xle_rf | exact ⟨xle_rf, xle_rf⟩ | exact trivial, fun G p l e R s m args below meth c σ0 Q d ev rf σf X hC hR hM hE ls st σ h0 hk H locs lsA hP hO hS hl => ?_⟩
  unfold oShL at hk
  split at hk
  · exact lv_lshl X.1 X.2.1 hd rfl (hk.2 h0 H locs lsA hP hO hS hl)
  · exact hk.elim
theorem j_lshr {nx : Nat} (hd : decode cc pc = .ok (.lshr, 1)) (hn : pc + 1 = nx) : JJ own cc nL ret nm pc (oShL (fun x y => x >>> (y.toInt64 &&& 63)) nx) := by
  subst hn
  refine ⟨fun ls st σ => by unfold oShL; split <;> first | exact xle_rf | exact ⟨xle_rf, xle_rf⟩ | exact trivial, fun G p l e R s m args below meth c σ0 Q d ev rf σf X hC hR hM hE ls st σ h0 hk H locs lsA hP hO hS hl => ?_⟩
  unfold oShL at hk
  split at hk
  · exact lv_lshr X.1 X.2.1 hd rfl (hk.2 h0 H locs lsA hP hO hS hl)
  · exact hk.elim
theorem j_lushr {nx : Nat} (hd : decode cc pc = .ok (.lushr, 1)) (hn : pc + 1 = nx) : JJ own cc nL ret nm pc (oShL (fun x y => (x.toUInt64 >>> (y.toInt64.toUInt64 &&& Int64.toUInt64 63)).toInt64) nx) := by
  subst hn
  refine ⟨fun ls st σ => by unfold oShL; split <;> first | exact xle_rf | exact ⟨xle_rf, xle_rf⟩ | exact trivial, fun G p l e R s m args below meth c σ0 Q d ev rf σf X hC hR hM hE ls st σ h0 hk H locs lsA hP hO hS hl => ?_⟩
  unfold oShL at hk
  split at hk
  · exact lv_lushr X.1 X.2.1 hd rfl (hk.2 h0 H locs lsA hP hO hS hl)
  · exact hk.elim
theorem j_i2l {nx : Nat} (hd : decode cc pc = .ok (.i2l, 1)) (hn : pc + 1 = nx) : JJ own cc nL ret nm pc (oI2l nx) := by
  subst hn
  refine ⟨fun ls st σ => by unfold oI2l; split <;> first | exact xle_rf | exact ⟨xle_rf, xle_rf⟩ | exact trivial, fun G p l e R s m args below meth c σ0 Q d ev rf σf X hC hR hM hE ls st σ h0 hk H locs lsA hP hO hS hl => ?_⟩
  unfold oI2l at hk
  split at hk
  · exact lv_i2l X.1 X.2.1 hd rfl (hk.2 h0 H locs lsA hP hO hS hl)
  · exact hk.elim
theorem j_l2i {nx : Nat} (hd : decode cc pc = .ok (.l2i, 1)) (hn : pc + 1 = nx) : JJ own cc nL ret nm pc (oL2i nx) := by
  subst hn
  refine ⟨fun ls st σ => by unfold oL2i; split <;> first | exact xle_rf | exact ⟨xle_rf, xle_rf⟩ | exact trivial, fun G p l e R s m args below meth c σ0 Q d ev rf σf X hC hR hM hE ls st σ h0 hk H locs lsA hP hO hS hl => ?_⟩
  unfold oL2i at hk
  split at hk
  · exact lv_l2i X.1 X.2.1 hd rfl (hk.2 h0 H locs lsA hP hO hS hl)
  · exact hk.elim
theorem j_lcmp {nx : Nat} (hd : decode cc pc = .ok (.lcmp, 1)) (hn : pc + 1 = nx) : JJ own cc nL ret nm pc (oLcmp nx) := by
  subst hn
  refine ⟨fun ls st σ => by unfold oLcmp; split <;> first | exact xle_rf | exact ⟨xle_rf, xle_rf⟩ | exact trivial, fun G p l e R s m args below meth c σ0 Q d ev rf σf X hC hR hM hE ls st σ h0 hk H locs lsA hP hO hS hl => ?_⟩
  unfold oLcmp at hk
  split at hk
  · exact W.lcmp X.1 X.2.1 hd (hk.2 h0 H locs lsA hP hO hS hl)
  · exact hk.elim
theorem j_dup {nx : Nat} (hd : decode cc pc = .ok (.dup, 1)) (hn : pc + 1 = nx) : JJ own cc nL ret nm pc (oDup nx) := by
  subst hn
  refine ⟨fun ls st σ => by unfold oDup; split <;> first | exact xle_rf | exact ⟨xle_rf, xle_rf⟩ | exact trivial, fun G p l e R s m args below meth c σ0 Q d ev rf σf X hC hR hM hE ls st σ h0 hk H locs lsA hP hO hS hl => ?_⟩
  unfold oDup at hk
  split at hk
  · exact lv_dup X.1 X.2.1 hd hk.1 (hk.2.2 h0 H locs lsA hP hO hS hl)
  · exact hk.elim
theorem j_pop {nx : Nat} (hd : decode cc pc = .ok (.pop, 1)) (hn : pc + 1 = nx) : JJ own cc nL ret nm pc (oPop nx) := by
  subst hn
  refine ⟨fun ls st σ => by unfold oPop; split <;> first | exact xle_rf | exact ⟨xle_rf, xle_rf⟩ | exact trivial, fun G p l e R s m args below meth c σ0 Q d ev rf σf X hC hR hM hE ls st σ h0 hk H locs lsA hP hO hS hl => ?_⟩
  unfold oPop at hk
  split at hk
  · exact lv_pop X.1 X.2.1 hd hk.1 (hk.2.2 h0 H locs lsA hP hO hS hl)
  · exact hk.elim
theorem j_dup2 {nx : Nat} (hd : decode cc pc = .ok (.dup2, 1)) (hn : pc + 1 = nx) : JJ own cc nL ret nm pc (oDup2 nx) := by
  subst hn
  refine ⟨fun ls st σ => by unfold oDup2; split <;> first | exact xle_rf | exact ⟨xle_rf, xle_rf⟩ | exact trivial, fun G p l e R s m args below meth c σ0 Q d ev rf σf X hC hR hM hE ls st σ h0 hk H locs lsA hP hO hS hl => ?_⟩
  unfold oDup2 at hk
  split at hk
  · exact lv_dup2_11 X.1 X.2.1 hd hk.1.1 hk.1.2 (hk.2.2 h0 H locs lsA hP hO hS hl)
  · exact hk.elim
theorem j_if_eq {off : Int} {tgt : Nat} (ht : (pc : Int) + off = (tgt : Int)) {nx : Nat} (hd : decode cc pc = .ok (.ifCond .eq off, 3)) (hn : pc + 3 = nx) : JJ own cc nL ret nm pc (oIf (fun x => x = 0) tgt nx) := by
  subst hn
  refine ⟨fun ls st σ => by unfold oIf; split <;> first | exact xle_rf | exact ⟨xle_rf, xle_rf⟩ | exact trivial, fun G p l e R s m args below meth c σ0 Q d ev rf σf X hC hR hM hE ls st σ h0 hk H locs lsA hP hO hS hl => ?_⟩
  unfold oIf at hk
  split at hk
  · exact lv_if_eq X.1 X.2.1 hd ht (fun q => (hk.1 q).2 h0 H locs lsA hP hO hS hl) (fun q => (hk.2 q).2 h0 H locs lsA hP hO hS hl)
  · exact hk.elim
theorem j_if_ne {off : Int} {tgt : Nat} (ht : (pc : Int) + off = (tgt : Int)) {nx : Nat} (hd : decode cc pc = .ok (.ifCond .ne off, 3)) (hn : pc + 3 = nx) : JJ own cc nL ret nm pc (oIf (fun x => x = 0) nx tgt) := by
  subst hn
  refine ⟨fun ls st σ => by unfold oIf; split <;> first | exact xle_rf | exact ⟨xle_rf, xle_rf⟩ | exact trivial, fun G p l e R s m args below meth c σ0 Q d ev rf σf X hC hR hM hE ls st σ h0 hk H locs lsA hP hO hS hl => ?_⟩
  unfold oIf at hk
  split at hk
  · exact lv_if_ne X.1 X.2.1 hd ht (fun q => (hk.2 q).2 h0 H locs lsA hP hO hS hl) (fun q => (hk.1 q).2 h0 H locs lsA hP hO hS hl)
  · exact hk.elim
theorem j_if_lt {off : Int} {tgt : Nat} (ht : (pc : Int) + off = (tgt : Int)) {nx : Nat} (hd : decode cc pc = .ok (.ifCond .lt off, 3)) (hn : pc + 3 = nx) : JJ own cc nL ret nm pc (oIf (fun x => x < 0) tgt nx) := by
  subst hn
  refine ⟨fun ls st σ => by unfold oIf; split <;> first | exact xle_rf | exact ⟨xle_rf, xle_rf⟩ | exact trivial, fun G p l e R s m args below meth c σ0 Q d ev rf σf X hC hR hM hE ls st σ h0 hk H locs lsA hP hO hS hl => ?_⟩
  unfold oIf at hk
  split at hk
  · exact lv_if_lt X.1 X.2.1 hd ht (fun q => (hk.1 q).2 h0 H locs lsA hP hO hS hl) (fun q => (hk.2 q).2 h0 H locs lsA hP hO hS hl)
  · exact hk.elim
theorem j_if_ge {off : Int} {tgt : Nat} (ht : (pc : Int) + off = (tgt : Int)) {nx : Nat} (hd : decode cc pc = .ok (.ifCond .ge off, 3)) (hn : pc + 3 = nx) : JJ own cc nL ret nm pc (oIf (fun x => 0 ≤ x) tgt nx) := by
  subst hn
  refine ⟨fun ls st σ => by unfold oIf; split <;> first | exact xle_rf | exact ⟨xle_rf, xle_rf⟩ | exact trivial, fun G p l e R s m args below meth c σ0 Q d ev rf σf X hC hR hM hE ls st σ h0 hk H locs lsA hP hO hS hl => ?_⟩
  unfold oIf at hk
  split at hk
  · exact lv_if_ge X.1 X.2.1 hd ht (fun q => (hk.1 q).2 h0 H locs lsA hP hO hS hl) (fun q => (hk.2 q).2 h0 H locs lsA hP hO hS hl)
  · exact hk.elim
theorem j_if_gt {off : Int} {tgt : Nat} (ht : (pc : Int) + off = (tgt : Int)) {nx : Nat} (hd : decode cc pc = .ok (.ifCond .gt off, 3)) (hn : pc + 3 = nx) : JJ own cc nL ret nm pc (oIf (fun x => 0 < x) tgt nx) := by
  subst hn
  refine ⟨fun ls st σ => by unfold oIf; split <;> first | exact xle_rf | exact ⟨xle_rf, xle_rf⟩ | exact trivial, fun G p l e R s m args below meth c σ0 Q d ev rf σf X hC hR hM hE ls st σ h0 hk H locs lsA hP hO hS hl => ?_⟩
  unfold oIf at hk
  split at hk
  · exact lv_if_gt X.1 X.2.1 hd ht (fun q => (hk.1 q).2 h0 H locs lsA hP hO hS hl) (fun q => (hk.2 q).2 h0 H locs lsA hP hO hS hl)
  · exact hk.elim
theorem j_if_le {off : Int} {tgt : Nat} (ht : (pc : Int) + off = (tgt : Int)) {nx : Nat} (hd : decode cc pc = .ok (.ifCond .le off, 3)) (hn : pc + 3 = nx) : JJ own cc nL ret nm pc (oIf (fun x => x ≤ 0) tgt nx) := by
  subst hn
  refine ⟨fun ls st σ => by unfold oIf; split <;> first | exact xle_rf | exact ⟨xle_rf, xle_rf⟩ | exact trivial, fun G p l e R s m args below meth c σ0 Q d ev rf σf X hC hR hM hE ls st σ h0 hk H locs lsA hP hO hS hl => ?_⟩
  unfold oIf at hk
  split at hk
  · exact lv_if_le X.1 X.2.1 hd ht (fun q => (hk.1 q).2 h0 H locs lsA hP hO hS hl) (fun q => (hk.2 q).2 h0 H locs lsA hP hO hS hl)
  · exact hk.elim
theorem j_icmp_eq {off : Int} {tgt : Nat} (ht : (pc : Int) + off = (tgt : Int)) {nx : Nat} (hd : decode cc pc = .ok (.if_icmp .eq off, 3)) (hn : pc + 3 = nx) : JJ own cc nL ret nm pc (oIcmp (fun x y => x = y) tgt nx) := by
  subst hn
  refine ⟨fun ls st σ => by unfold oIcmp; split <;> first | exact xle_rf | exact ⟨xle_rf, xle_rf⟩ | exact trivial, fun G p l e R s m args below meth c σ0 Q d ev rf σf X hC hR hM hE ls st σ h0 hk H locs lsA hP hO hS hl => ?_⟩
  unfold oIcmp at hk
  split at hk
  · exact lv_icmp_eq X.1 X.2.1 hd ht (fun q => (hk.1 q).2 h0 H locs lsA hP hO hS hl) (fun q => (hk.2 q).2 h0 H locs lsA hP hO hS hl)
  · exact hk.elim
theorem j_icmp_ne {off : Int} {tgt : Nat} (ht : (pc : Int) + off = (tgt : Int)) {nx : Nat} (hd : decode cc pc = .ok (.if_icmp .ne off, 3)) (hn : pc + 3 = nx) : JJ own cc nL ret nm pc (oIcmp (fun x y => x = y) nx tgt) := by
  subst hn
  refine ⟨fun ls st σ => by unfold oIcmp; split <;> first | exact xle_rf | exact ⟨xle_rf, xle_rf⟩ | exact trivial, fun G p l e R s m args below meth c σ0 Q d ev rf σf X hC hR hM hE ls st σ h0 hk H locs lsA hP hO hS hl => ?_⟩
  unfold oIcmp at hk
  split at hk
  · exact lv_icmp_ne X.1 X.2.1 hd ht (fun q => (hk.2 q).2 h0 H locs lsA hP hO hS hl) (fun q => (hk.1 q).2 h0 H locs lsA hP hO hS hl)
  · exact hk.elim
theorem j_icmp_lt {off : Int} {tgt : Nat} (ht : (pc : Int) + off = (tgt : Int)) {nx : Nat} (hd : decode cc pc = .ok (.if_icmp .lt off, 3)) (hn : pc + 3 = nx) : JJ own cc nL ret nm pc (oIcmp (fun x y => x < y) tgt nx) := by
  subst hn
  refine ⟨fun ls st σ => by unfold oIcmp; split <;> first | exact xle_rf | exact ⟨xle_rf, xle_rf⟩ | exact trivial, fun G p l e R s m args below meth c σ0 Q d ev rf σf X hC hR hM hE ls st σ h0 hk H locs lsA hP hO hS hl => ?_⟩
  unfold oIcmp at hk
  split at hk
  · exact lv_icmp_lt X.1 X.2.1 hd ht (fun q => (hk.1 q).2 h0 H locs lsA hP hO hS hl) (fun q => (hk.2 q).2 h0 H locs lsA hP hO hS hl)
  · exact hk.elim
theorem j_icmp_ge {off : Int} {tgt : Nat} (ht : (pc : Int) + off = (tgt : Int)) {nx : Nat} (hd : decode cc pc = .ok (.if_icmp .ge off, 3)) (hn : pc + 3 = nx) : JJ own cc nL ret nm pc (oIcmp (fun x y => y ≤ x) tgt nx) := by
  subst hn
  refine ⟨fun ls st σ => by unfold oIcmp; split <;> first | exact xle_rf | exact ⟨xle_rf, xle_rf⟩ | exact trivial, fun G p l e R s m args below meth c σ0 Q d ev rf σf X hC hR hM hE ls st σ h0 hk H locs lsA hP hO hS hl => ?_⟩
  unfold oIcmp at hk
  split at hk
  · exact lv_icmp_ge X.1 X.2.1 hd ht (fun q => (hk.1 q).2 h0 H locs lsA hP hO hS hl) (fun q => (hk.2 q).2 h0 H locs lsA hP hO hS hl)
  · exact hk.elim
theorem j_icmp_gt {off : Int} {tgt : Nat} (ht : (pc : Int) + off = (tgt : Int)) {nx : Nat} (hd : decode cc pc = .ok (.if_icmp .gt off, 3)) (hn : pc + 3 = nx) : JJ own cc nL ret nm pc (oIcmp (fun x y => y < x) tgt nx) := by
  subst hn
  refine ⟨fun ls st σ => by unfold oIcmp; split <;> first | exact xle_rf | exact ⟨xle_rf, xle_rf⟩ | exact trivial, fun G p l e R s m args below meth c σ0 Q d ev rf σf X hC hR hM hE ls st σ h0 hk H locs lsA hP hO hS hl => ?_⟩
  unfold oIcmp at hk
  split at hk
  · exact lv_icmp_gt X.1 X.2.1 hd ht (fun q => (hk.1 q).2 h0 H locs lsA hP hO hS hl) (fun q => (hk.2 q).2 h0 H locs lsA hP hO hS hl)
  · exact hk.elim
theorem j_icmp_le {off : Int} {tgt : Nat} (ht : (pc : Int) + off = (tgt : Int)) {nx : Nat} (hd : decode cc pc = .ok (.if_icmp .le off, 3)) (hn : pc + 3 = nx) : JJ own cc nL ret nm pc (oIcmp (fun x y => x ≤ y) tgt nx) := by
  subst hn
  refine ⟨fun ls st σ => by unfold oIcmp; split <;> first | exact xle_rf | exact ⟨xle_rf, xle_rf⟩ | exact trivial, fun G p l e R s m args below meth c σ0 Q d ev rf σf X hC hR hM hE ls st σ h0 hk H locs lsA hP hO hS hl => ?_⟩
  unfold oIcmp at hk
  split at hk
  · exact lv_icmp_le X.1 X.2.1 hd ht (fun q => (hk.1 q).2 h0 H locs lsA hP hO hS hl) (fun q => (hk.2 q).2 h0 H locs lsA hP hO hS hl)
  · exact hk.elim
theorem j_goto {off : Int} {tgt : Nat} (ht : (pc : Int) + off = (tgt : Int)) (hd : decode cc pc = .ok (.goto off, 3)) : JJ own cc nL ret nm pc (oGoto tgt) := by
  refine ⟨fun _ _ _ => xle_rf, fun G p l e R s m args below meth c σ0 Q d ev rf σf X hC hR hM hE ls st σ h0 hk H locs lsA hP hO hS hl => ?_⟩
  exact lv_goto X.1 X.2.1 hd ht (hk.2 h0 H locs lsA hP hO hS hl)
theorem j_ifnull {off : Int} {tgt nx : Nat} (ht : (pc : Int) + off = (tgt : Int)) (hd : decode cc pc = .ok (.ifnull off, 3)) (hn : pc + 3 = nx) : JJ own cc nL ret nm pc (oIfn tgt nx) := by
  subst hn
  refine ⟨fun ls st σ => by unfold oIfn; split <;> first | exact xle_rf | exact ⟨xle_rf, xle_rf⟩ | exact trivial, fun G p l e R s m args below meth c σ0 Q d ev rf σf X hC hR hM hE ls st σ h0 hk H locs lsA hP hO hS hl => ?_⟩
  unfold oIfn at hk
  split at hk
  · exact lv_ifnullN X.1 X.2.1 hd ht (hk.2 h0 H locs lsA hP hO hS hl)
  · exact lv_ifnull X.1 X.2.1 hd (hk.2 h0 H locs lsA hP hO hS hl)
  · exact hk.elim
theorem j_ifnonnull {off : Int} {tgt nx : Nat} (ht : (pc : Int) + off = (tgt : Int)) (hd : decode cc pc = .ok (.ifnonnull off, 3)) (hn : pc + 3 = nx) : JJ own cc nL ret nm pc (oIfn nx tgt) := by
  subst hn
  refine ⟨fun ls st σ => by unfold oIfn; split <;> first | exact xle_rf | exact ⟨xle_rf, xle_rf⟩ | exact trivial, fun G p l e R s m args below meth c σ0 Q d ev rf σf X hC hR hM hE ls st σ h0 hk H locs lsA hP hO hS hl => ?_⟩
  unfold oIfn at hk
  split at hk
  · exact lv_ifnonnullN X.1 X.2.1 hd (hk.2 h0 H locs lsA hP hO hS hl)
  · exact lv_ifnonnull X.1 X.2.1 hd ht (hk.2 h0 H locs lsA hP hO hS hl)
  · exact hk.elim
theorem j_ireturn {ty : FieldType} {g : Int32 → Prop} (hr : ret = some ty) (hg9 : ∀ x, g x → narrow ty (.int x) = .int x) (hd : decode cc pc = .ok (.ireturn, 1)) : JJ own cc nL ret nm pc (oRi g) := by
  refine ⟨fun ls st σ => by unfold oRi; split <;> first | exact xle_rf | exact trivial, fun G p l e R s m args below meth c σ0 Q d ev rf σf X hC hR hM hE ls st σ h0 hk H locs lsA hP hO hS hl => ?_⟩
  unfold oRi at hk
  split at hk
  · obtain ⟨hg, e1, e2⟩ := hk
    subst e2
    exact hE pc lsA _ H locs _ (Or.inl ⟨rfl, _, ty, hr, hg9 _ hg, e1.symm, rfl⟩) hd hP hO hS
  · exact hk.elim
theorem j_lreturn (hr : ret = some .long) (hd : decode cc pc = .ok (.lreturn, 1)) : JJ own cc nL ret nm pc (oRl) := by
  refine ⟨fun ls st σ => by unfold oRl; split <;> first | exact xle_rf | exact trivial, fun G p l e R s m args below meth c σ0 Q d ev rf σf X hC hR hM hE ls st σ h0 hk H locs lsA hP hO hS hl => ?_⟩
  unfold oRl at hk
  split at hk
  · obtain ⟨hg, e1, e2⟩ := hk
    subst e2
    exact hE pc lsA _ H locs _ (Or.inr (Or.inl ⟨rfl, _, hr, e1.symm, rfl⟩)) hd hP hO hS
  · exact hk.elim
theorem j_areturn {ty : FieldType} (hr : ret = some ty) (ho : (∃ n, ty = .object n) ∨ ∃ t, ty = .array t) (hd : decode cc pc = .ok (.areturn, 1)) : JJ own cc nL ret nm pc (oRa) := by
  refine ⟨fun ls st σ => by unfold oRa; split <;> first | exact xle_rf | exact trivial, fun G p l e R s m args below meth c σ0 Q d ev rf σf X hC hR hM hE ls st σ h0 hk H locs lsA hP hO hS hl => ?_⟩
  unfold oRa at hk
  split at hk
  · obtain ⟨hg, e1, e2⟩ := hk
    subst e2
    exact hE pc lsA _ H locs _ (Or.inr (Or.inr (Or.inl ⟨rfl, _, ty, hr, ho, Or.inr ⟨_, rfl⟩, e1.symm, rfl⟩))) hd hP hO hS
  · obtain ⟨hg, e1, e2⟩ := hk
    subst e2
    exact hE pc lsA _ H locs _ (Or.inr (Or.inr (Or.inl ⟨rfl, _, ty, hr, ho, Or.inl rfl, e1.symm, rfl⟩))) hd hP hO hS
  · exact hk.elim
theorem j_return (hr : ret = none) (hd : decode cc pc = .ok (.return_, 1)) : JJ own cc nL ret nm pc (oRv) := by
  refine ⟨fun ls st σ => by unfold oRv; split <;> first | exact xle_rf | exact trivial, fun G p l e R s m args below meth c σ0 Q d ev rf σf X hC hR hM hE ls st σ h0 hk H locs lsA hP hO hS hl => ?_⟩
  unfold oRv at hk
  split at hk
  · obtain ⟨hg, e1, e2⟩ := hk
    subst e2
    exact hE pc lsA _ H locs _ (Or.inr (Or.inr (Or.inr ⟨rfl, hr, e1.symm, rfl⟩))) hd hP hO hS
  · exact hk.elim
end ROWS
