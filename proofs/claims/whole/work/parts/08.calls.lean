/-! CALLS -/
theorem pre_blind {G : xG} {as : List Value} {σ : xM} : FrameBlind (PreM G as σ) := fun a U g mk h => ⟨h.1, gf_same (u := U) (U := U.calling g mk a) rfl rfl h.2.1, h.2.2.1, old_same (u := U) (U := U.calling g mk a) rfl rfl h.2.2.2⟩
theorem pre_at {G : xG} {as : List Value} {σ : xM} {s : State} {H : Heap} {locs : List Loc} (hG : GF G s) (hP : Rp G σ H) (hO : OLD G s σ) (hS : va_S (gA G) s.heap H locs) : ∀ U : State, U.heap = H → s.WarmedH U.vm → PreM G as σ as.toArray U := fun U hU hW =>
  ⟨rfl, gf_into hU hW hS hG, by rw [hU]; exact hP, old_into hU hW.alike hS hO⟩
theorem call_go {G : xG} {p : Program} {l : Launch} {e : Env} {R : Room} {s : State} {m : MethodId} {args : Array Value} {below : List Frame} {meth : Method} {c : Code} {H : Heap} {locs : List Loc} {cells slots mc ms pc : Nat} {Q : State → Prop} {ls : Array Slot} {st rest : List Value} {r : Option Value} {σ' : xM} {a : Array Value}
    (hB : G.2.2.1 ≤ s.heap.size) (hr : va_Run p l e R s m args below meth c H locs cells slots mc ms (F0 m pc ls st) rest (PostM G r σ' a) (gA G)) (hS : va_S (gA G) s.heap H locs)
    (kk : ∀ (H1 : Heap) (locs1 : List Loc), Rp G σ' H1 → OLD G s σ' → va_S (gA G) s.heap H1 locs1 → W p l e R s m args below meth c H1 locs1 (cells + mc) (slots + ms) Q (F0 m (pc + 3) ls (r.toList ++ rest))) : W p l e R s m args below meth c H locs cells slots Q (F0 m pc ls st) := by
  intro T hT X
  obtain ⟨v, st₀, t, T', L, h0, X', hL, e1, e2, ⟨hv, hRp, hOld, hz, hkq⟩, stp⟩ := hr T hT X
  cases hv
  rw [h0] at hz hkq
  have hS1 : va_S (gA G) s.heap T'.heap (locs ++ L) := ⟨Nat.le_trans hS.1 (by rw [e1]; exact hz), fun q h1 h2 => by rw [e1, hkq q (Nat.lt_of_lt_of_le h1 hS.1) h2]; exact hS.2.1 q h1 h2, fun q hq => by
      rcases List.mem_append.mp hq with h | h
      · exact hS.2.2 q h
      · exact hL q h⟩
  have al : s.vm.Alike t.vm := by rw [← e2]; exact X'.warmed.alike
  obtain ⟨t2, a1, b1⟩ := kk T'.heap (locs ++ L) (by rw [e1]; exact hRp) (old_back e1.symm al hB hS1 hOld) hS1 T' rfl X'
  exact ⟨t2, stp t2 a1, b1⟩
theorem cells_call {σ0 σ σ' : xM} (h : xle σ0 σ) (h' : xle σ σ') : σ.1 - σ0.1 + (σ'.1 - σ.1) = σ'.1 - σ0.1 ∧ σ.2.1 - σ0.2.1 + (σ'.2.1 - σ.2.1) = σ'.2.1 - σ0.2.1 := by
  obtain ⟨a, b⟩ := h
  obtain ⟨a', b'⟩ := h'
  omega
theorem room_call {σ0 σ σ' σf : xM} {rc rs : Nat} (h : xle σ0 σ) (h' : xle σ σ') (hf : xle σ' σf) (hM : σf.1 - σ0.1 ≤ rc ∧ σf.2.1 - σ0.2.1 ≤ rs) : σ.1 - σ0.1 + (σ'.1 - σ.1) ≤ rc ∧ σ.2.1 - σ0.2.1 + (σ'.2.1 - σ.2.1) ≤ rs := by
  have e := cells_call h h'
  obtain ⟨a, b⟩ := hf
  omega
theorem st_split {st : List Value} {n : Nat} {as : List Value} (h : (st.take n).reverse = as) : st = as.reverse ++ st.drop n := by
  rw [← h, List.reverse_reverse, List.take_append_drop]
theorem room_fr {d i : Nat} {R : Room} (hi : i < 202) (hR : d + 1 ≤ R.frames ∧ 32 * (d + 1) ≤ R.locals) {mc ms : Nat} : (rmm d mc ms).frames + 1 ≤ R.frames ∧ 8 + (mL i + 11) + (rmm d mc ms).locals ≤ R.locals := by
  have := (mN_ok i hi).2.2.2
  refine ⟨hR.1, ?_⟩
  show 8 + (mL i + 11) + 32 * d ≤ R.locals
  omega
theorem mi_in {i : Nat} (h : i < 202) : Cond.initialized (yy i).cls ∈ gt := gtm _ (mi_ok i h).1 (mi_ok i h).2
section CALL
variable {own : String} {cc : ByteArray} {nL : Nat} {ret : Option FieldType} {nm : String} {pc : Nat}
theorem j_callS {i n idx nx : Nat} (hi : i < 202) (hw1 : Cond.methodLink own idx (yy i) ∈ gt) (hw2 : Cond.static (yy i) ∈ gt) (hpar : (parseMethodDescriptor (yy i).desc).map (fun d => d.parameters.length) = some n) (hd : decode cc pc = .ok (.invokestatic idx, 3)) (hn : pc + 3 = nx) : JJ own cc nL ret nm pc (oCallS i n nx) := by
  subst hn
  refine ⟨fun ls st σ => xle_rf, fun G p l e R s m args below meth c σ0 Q d ev rf σf X hC hR hM hE ls st σ h0 hk H locs lsA hP hO hS hl => ?_⟩
  obtain ⟨⟨hlen, hsum⟩, r, σ', hev, hle, hk⟩ := hk
  obtain ⟨hx, hMet⟩ := hC i _ σ r σ' hi hev
  have hts := X.2.2.2.2.2.1
  have hG := X.2.2.2.2.2.2.2.1
  have cw := va_cwS (R := R) (own := own) (index := idx) (y := yy i) (bytes := mb i) (maxL := mL i) (ret := mR i) (ws := mW i :: gt) (ws' := gt) (rm := rmm d (σ'.1 - σ.1) (σ'.2.1 - σ.2.1)) n hts (goodIn_gt (fun w hw => by
    unfold va_wsS at hw
    simp only [List.cons_append, List.nil_append, List.mem_cons] at hw
    rcases hw with rfl | rfl | rfl | rfl | hw
    · exact hw1
    · exact hw2
    · exact mi_in hi
    · exact mW_in hi
    · exact hw)) rfl rfl rfl ⟨(mN_ok i hi).2.1, (mN_ok i hi).2.2.1, hpar⟩ (room_fr hi hR)
  refine call_go hG.2.2.2.2.2.2.2.2.1 (va_runS (As := (st.take n).reverse) (rest := st.drop n) ⟨X.1, X.2.1, X.2.2.2.1, X.2.2.2.2.1, hts⟩ hMet cw ⟨pre_blind, pre_at hG hP hO hS⟩ rfl (by simp; omega) hl.1 (st_split rfl) (lv_room hsum) hd (room_call h0 hx hle hM)) hS fun H1 locs1 q1 q2 q3 => ?_
  exact W.cs (cells_call h0 hx).1 (cells_call h0 hx).2 (hk (xle_tr h0 hx) H1 locs1 lsA q1 q2 q3 hl)
theorem j_callSN {i n idx nx : Nat} (hi : i < 202) (hw1 : (own, idx, i) ∈ nestL) (hw2 : Cond.static (yy i) ∈ gt) (hpar : (parseMethodDescriptor (yy i).desc).map (fun d => d.parameters.length) = some n) (hd : decode cc pc = .ok (.invokestatic idx, 3)) (hn : pc + 3 = nx) : JJ own cc nL ret nm pc (oCallS i n nx) := by
  subst hn
  refine ⟨fun ls st σ => xle_rf, fun G p l e R s m args below meth c σ0 Q d ev rf σf X hC hR hM hE ls st σ h0 hk H locs lsA hP hO hS hl => ?_⟩
  obtain ⟨⟨hlen, hsum⟩, r, σ', hev, hle, hk⟩ := hk
  obtain ⟨hx, hMet⟩ := hC i _ σ r σ' hi hev
  have hts := X.2.2.2.2.2.1
  have hG := X.2.2.2.2.2.2.2.1
  have cw := va_cnB (R := R) (own := own) (host := "KiltRoom") (index := idx) (y := yy i) (bytes := mb i) (maxL := mL i) (ret := mR i) (ws := mW i :: gt) (ws' := gt) (rm := rmm d (σ'.1 - σ.1) (σ'.2.1 - σ.2.1)) n hts (goodIn_gt (fun w hw => by
    rcases List.mem_cons.mp hw with rfl | hw
    · exact mW_in hi
    · exact hw)) rfl rfl rfl (hG.2.1 _ hw1) (hts _ (mi_in hi)) ⟨(mN_ok i hi).2.1, (mN_ok i hi).2.2.1, hpar⟩ (room_fr hi hR)
  refine call_go hG.2.2.2.2.2.2.2.2.1 (va_runSN (As := (st.take n).reverse) (rest := st.drop n) ⟨X.1, X.2.1, X.2.2.2.1, X.2.2.2.2.1, hts⟩ hMet ⟨cw, hts _ hw2, trivial⟩ ⟨pre_blind, pre_at hG hP hO hS⟩ rfl (by simp; omega) hl.1 (st_split rfl) (lv_room hsum) hd (room_call h0 hx hle hM)) hS fun H1 locs1 q1 q2 q3 => ?_
  exact W.cs (cells_call h0 hx).1 (cells_call h0 hx).2 (hk (xle_tr h0 hx) H1 locs1 lsA q1 q2 q3 hl)
theorem sz_callI {i n nx : Nat} : ∀ ls st σ, szA σ (oCallI i n nx ls st σ) := fun ls st σ => by unfold oCallI; split <;> first | exact xle_rf | exact trivial
theorem j_callI {i n idx nx : Nat} (hi : i < 202) (hnil : mR i = none) (hini : (yy i).name = "<init>") (hw1 : Cond.methodLink own idx (yy i) ∈ gt) (hw2 : Cond.instanceMethod (yy i) ∈ gt) (hpar : (parseMethodDescriptor (yy i).desc).map (fun d => d.parameters.length) = some n) (hd : decode cc pc = .ok (.invokespecial idx, 3)) (hn : pc + 3 = nx) : JJ own cc nL ret nm pc (oCallI i (n + 1) nx) := by
  subst hn
  refine ⟨sz_callI, fun G p l e R s m args below meth c σ0 Q d ev rf σf X hC hR hM hE ls st σ h0 hk H locs lsA hP hO hS hl => ?_⟩
  unfold oCallI at hk
  split at hk
  · next b As hb =>
    obtain ⟨⟨hlen, hsum⟩, r, σ', hev, hle, hk⟩ := hk
    obtain ⟨hx, hMet⟩ := hC i _ σ r σ' hi hev
    have hts := X.2.2.2.2.2.1
    have hG := X.2.2.2.2.2.2.2.1
    have hAs : As.length = n := by
      have := congrArg List.length hb
      simp at this
      omega
    have cw := cwI (R := R) (own := own) (index := idx) (y := yy i) (bytes := mb i) (maxL := mL i) (ws := mW i :: gt) (ws' := gt) (rm := rmm d (σ'.1 - σ.1) (σ'.2.1 - σ.2.1)) n hts (goodIn_gt (fun w hw => by
      rcases List.mem_cons.mp hw with rfl | hw
      · exact mW_in hi
      · exact hw)) (by rw [← hnil]; rfl) rfl rfl (hts _ (mi_in hi)) (hts _ hw1) (hts _ hw2) hini ⟨(mN_ok i hi).2.1, (mN_ok i hi).2.2.1, hpar⟩ (room_fr hi hR)
    refine call_go hG.2.2.2.2.2.2.2.2.1 (va_runI (As := As) (rest := st.drop (n + 1)) ⟨X.1, X.2.1, X.2.2.2.1, X.2.2.2.2.1, hts⟩ hMet cw ⟨pre_blind, pre_at hG hP hO hS⟩ rfl hAs hl.1 (by have := st_split hb; simpa using this) (lv_room hsum) hd (room_call h0 hx hle hM)) hS fun H1 locs1 q1 q2 q3 => ?_
    exact W.cs (cells_call h0 hx).1 (cells_call h0 hx).2 (hk (xle_tr h0 hx) H1 locs1 lsA q1 q2 q3 hl)
  · exact hk.elim
theorem j_callIN {i n idx nx : Nat} (hi : i < 202) (hnil : mR i = none) (hini : (yy i).name = "<init>") (hw1 : (own, idx, i) ∈ nestL) (hw2 : Cond.instanceMethod (yy i) ∈ gt) (hpar : (parseMethodDescriptor (yy i).desc).map (fun d => d.parameters.length) = some n) (hd : decode cc pc = .ok (.invokespecial idx, 3)) (hn : pc + 3 = nx) : JJ own cc nL ret nm pc (oCallI i (n + 1) nx) := by
  subst hn
  refine ⟨sz_callI, fun G p l e R s m args below meth c σ0 Q d ev rf σf X hC hR hM hE ls st σ h0 hk H locs lsA hP hO hS hl => ?_⟩
  unfold oCallI at hk
  split at hk
  · next b As hb =>
    obtain ⟨⟨hlen, hsum⟩, r, σ', hev, hle, hk⟩ := hk
    obtain ⟨hx, hMet⟩ := hC i _ σ r σ' hi hev
    have hts := X.2.2.2.2.2.1
    have hG := X.2.2.2.2.2.2.2.1
    have hAs : As.length = n := by
      have := congrArg List.length hb
      simp at this
      omega
    have cw := va_cnB (R := R) (own := own) (host := "KiltRoom") (index := idx) (y := yy i) (bytes := mb i) (maxL := mL i) (ret := none) (ws := mW i :: gt) (ws' := gt) (rm := rmm d (σ'.1 - σ.1) (σ'.2.1 - σ.2.1)) n hts (goodIn_gt (fun w hw => by
      rcases List.mem_cons.mp hw with rfl | hw
      · exact mW_in hi
      · exact hw)) (by rw [← hnil]; rfl) rfl rfl (hG.2.1 _ hw1) (hts _ (mi_in hi)) ⟨(mN_ok i hi).2.1, (mN_ok i hi).2.2.1, hpar⟩ (room_fr hi hR)
    refine call_go hG.2.2.2.2.2.2.2.2.1 (va_runIN (As := As) (rest := st.drop (n + 1)) ⟨X.1, X.2.1, X.2.2.2.1, X.2.2.2.2.1, hts⟩ hMet ⟨cw, hini, hts _ hw2⟩ ⟨pre_blind, pre_at hG hP hO hS⟩ rfl hAs hl.1 (by have := st_split hb; simpa using this) (lv_room hsum) hd (room_call h0 hx hle hM)) hS fun H1 locs1 q1 q2 q3 => ?_
    exact W.cs (cells_call h0 hx).1 (cells_call h0 hx).2 (hk (xle_tr h0 hx) H1 locs1 lsA q1 q2 q3 hl)
  · exact hk.elim
theorem sz_callV {k i n nx : Nat} : ∀ ls st σ, szA σ (oCallV k i n nx ls st σ) := fun ls st σ => by unfold oCallV; split <;> first | exact xle_rf | exact trivial
theorem recv_at {G : xG} {s : State} {σ : xM} {H : Heap} {k b : Nat} {C : String} (hk : k ≤ 13 ∧ 1 ≤ k ∧ cN (k - 1) = C) (hG : GF G s) (hP : Rp G σ H) (hb : kd σ b = k) : ∃ cell : Cell, H[b]? = some cell ∧ cell.vm.isStatics = false ∧ s.vm.findClass C = some cell.cls := by
  obtain ⟨h1, h2, rfl⟩ := hk
  have hv := rp_at hP (a := b) (by omega) (by omega)
  rw [enc_obj (i := k - 1) (by have : (σ.2.2 b).1 = k := hb; omega) (by omega)] at hv
  exact va_recv hG.1 (one_P hv) (classes_at (by omega)) (q0 := 0) rfl
theorem recv_S {G : xG} {s : State} {σ : xM} {H : Heap} {locs : List Loc} {b : Nat} (hO : OLD G s σ) (hS : va_S (gA G) s.heap H locs) (hb : kd σ b = 41 ∨ kd σ b = 43) : ∃ cell : Cell, H[b]? = some cell ∧ cell.vm.isStatics = false ∧ s.vm.findClass "java/lang/String" = some cell.cls := by
  have q := ((hO.1 b (by rcases hb with q | q <;> omega)).2.2 hb).1
  obtain ⟨cell, h1, h2, h3, -⟩ := q.kept hS.2.1
  exact ⟨cell, h1, h2, h3⟩
theorem j_callV {k i n idx nx : Nat} {C : String} (hk9 : k ≤ 13 ∧ 1 ≤ k ∧ cN (k - 1) = C) (hi : i < 202) (hcl : (yy i).cls = C) (hw1 : Cond.methodLink own idx (yy i) ∈ gt) (hw2 : Cond.instanceMethod (yy i) ∈ gt) (hw3 : Cond.selects C (yy i) (yy i) ∈ gt) (hpar : (parseMethodDescriptor (yy i).desc).map (fun d => d.parameters.length) = some n) (hd : decode cc pc = .ok (.invokevirtual idx, 3)) (hn : pc + 3 = nx) : JJ own cc nL ret nm pc (oCallV k i (n + 1) nx) := by
  subst hn
  refine ⟨sz_callV, fun G p l e R s m args below meth c σ0 Q d ev rf σf X hC hR hM hE ls st σ h0 hk H locs lsA hP hO hS hl => ?_⟩
  unfold oCallV at hk
  split at hk
  · next b As hb =>
    obtain ⟨⟨hlen, hsum, hkb⟩, r, σ', hev, hle, hk⟩ := hk
    obtain ⟨hx, hMet⟩ := hC i _ σ r σ' hi hev
    have hts := X.2.2.2.2.2.1
    have hG := X.2.2.2.2.2.2.2.1
    have hAs : As.length = n := by
      have := congrArg List.length hb
      simp at this
      omega
    have cw := cwV (R := R) (own := own) (C := C) (index := idx) (y := yy i) (bytes := mb i) (maxL := mL i) (ret := mR i) (ws := mW i :: gt) (ws' := gt) (rm := rmm d (σ'.1 - σ.1) (σ'.2.1 - σ.2.1)) n hts (goodIn_gt (fun w hw => by
      unfold wsV at hw
      simp only [List.cons_append, List.nil_append, List.mem_cons] at hw
      rcases hw with rfl | rfl | rfl | rfl | rfl | hw
      · exact hw1
      · exact hw2
      · exact hw3
      · rw [← hcl]; exact mi_in hi
      · exact mW_in hi
      · exact hw)) rfl rfl rfl ⟨hcl, (mN_ok i hi).2.1, (mN_ok i hi).2.2.1, hpar⟩ (room_fr hi hR)
    refine call_go hG.2.2.2.2.2.2.2.2.1 (va_runV (As := As) (rest := st.drop (n + 1)) ⟨X.1, X.2.1, X.2.2.2.1, X.2.2.2.2.1, hts⟩ hMet cw ⟨pre_blind, recv_at hk9 hG hP hkb, pre_at hG hP hO hS⟩ rfl hAs hl.1 (by have := st_split hb; simpa using this) (lv_room hsum) hd (room_call h0 hx hle hM)) hS fun H1 locs1 q1 q2 q3 => ?_
    exact W.cs (cells_call h0 hx).1 (cells_call h0 hx).2 (hk (xle_tr h0 hx) H1 locs1 lsA q1 q2 q3 hl)
  · exact hk.elim
theorem sz_callW {i n nx : Nat} : ∀ ls st σ, szA σ (oCallW i n nx ls st σ) := fun ls st σ => by unfold oCallW; split <;> first | exact xle_rf | exact trivial
theorem j_callW {i n idx nx : Nat} {C : String} (hk9 : C = "java/lang/String") (hi : i < 202) (hcl : (yy i).cls = C) (hw1 : Cond.methodLink own idx (yy i) ∈ gt) (hw2 : Cond.instanceMethod (yy i) ∈ gt) (hw3 : Cond.selects C (yy i) (yy i) ∈ gt) (hpar : (parseMethodDescriptor (yy i).desc).map (fun d => d.parameters.length) = some n) (hd : decode cc pc = .ok (.invokevirtual idx, 3)) (hn : pc + 3 = nx) : JJ own cc nL ret nm pc (oCallW i (n + 1) nx) := by
  subst hn
  refine ⟨sz_callW, fun G p l e R s m args below meth c σ0 Q d ev rf σf X hC hR hM hE ls st σ h0 hk H locs lsA hP hO hS hl => ?_⟩
  unfold oCallW at hk
  split at hk
  · next b As hb =>
    obtain ⟨⟨hlen, hsum, hkb⟩, r, σ', hev, hle, hk⟩ := hk
    obtain ⟨hx, hMet⟩ := hC i _ σ r σ' hi hev
    have hts := X.2.2.2.2.2.1
    have hG := X.2.2.2.2.2.2.2.1
    have hAs : As.length = n := by
      have := congrArg List.length hb
      simp at this
      omega
    have cw := cwV (R := R) (own := own) (C := C) (index := idx) (y := yy i) (bytes := mb i) (maxL := mL i) (ret := mR i) (ws := mW i :: gt) (ws' := gt) (rm := rmm d (σ'.1 - σ.1) (σ'.2.1 - σ.2.1)) n hts (goodIn_gt (fun w hw => by
      unfold wsV at hw
      simp only [List.cons_append, List.nil_append, List.mem_cons] at hw
      rcases hw with rfl | rfl | rfl | rfl | rfl | hw
      · exact hw1
      · exact hw2
      · exact hw3
      · rw [← hcl]; exact mi_in hi
      · exact mW_in hi
      · exact hw)) rfl rfl rfl ⟨hcl, (mN_ok i hi).2.1, (mN_ok i hi).2.2.1, hpar⟩ (room_fr hi hR)
    refine call_go hG.2.2.2.2.2.2.2.2.1 (va_runV (As := As) (rest := st.drop (n + 1)) ⟨X.1, X.2.1, X.2.2.2.1, X.2.2.2.2.1, hts⟩ hMet cw ⟨pre_blind, (by rw [hk9]; exact recv_S hO hS hkb), pre_at hG hP hO hS⟩ rfl hAs hl.1 (by have := st_split hb; simpa using this) (lv_room hsum) hd (room_call h0 hx hle hM)) hS fun H1 locs1 q1 q2 q3 => ?_
    exact W.cs (cells_call h0 hx).1 (cells_call h0 hx).2 (hk (xle_tr h0 hx) H1 locs1 lsA q1 q2 q3 hl)
  · exact hk.elim
end CALL
