/-! THE INSTRUCTIONS THAT TOUCH THE HEAP -/
theorem enc_obj {aC : Nat → ClassId} {c : xC} {i : Nat} (h : c.1 = i + 1) (hi : i < 13) : enc aC c = .inr (i, fvl i c) := by
  unfold enc
  rw [if_pos (by omega), h]
  rfl
theorem enc_k {aC : Nat → ClassId} {k n i : Nat} {f : Nat → Int32} {g : Nat → Nat} (h : k = i + 1) (hi : i < 13) : enc aC (k, n, f, g) = .inr (i, fvl i (k, n, f, g)) := enc_obj h hi
theorem enc_ari {aC : Nat → ClassId} {c : xC} {k : Nat} (h : c.1 = k) (h1 : 20 ≤ k) (h2 : k < 23) : enc aC c = .inl (aC k, c.2.1, .inl c.2.2.1) := by
  unfold enc
  rw [if_neg (by omega), if_pos (by omega), h]
theorem enc_arp {aC : Nat → ClassId} {c : xC} {k : Nat} (h : c.1 = k) (h1 : 23 ≤ k) : enc aC c = .inl (aC k, c.2.1, .inr (.inr (.inr (.inr (fun j => ro (c.2.2.2 j)))))) := by
  unfold enc
  rw [if_neg (by omega), if_neg (by omega), h]
theorem fvl_i {i j : Nat} {c : xC} (hj : j < cK i) (hr : rfb i j = false) : (fvl i c)[j]? = some (.int (c.2.2.1 j)) := by
  simp [fvl, hj, hr]
theorem fvl_p {i j : Nat} {c : xC} (hj : j < cK i) (hr : rfb i j = true) : (fvl i c)[j]? = some (rv (c.2.2.2 j)) := by
  simp [fvl, hj, hr]
theorem fvl_len {i : Nat} {c : xC} : (fvl i c).length = cK i := by simp [fvl]
theorem fvl_seti {i j : Nat} {c : xC} {v : Int32} (hj : j < cK i) (hr : rfb i j = false) : (fvl i c).set j (.int v) = fvl i (c.1, c.2.1, upd c.2.2.1 j v, c.2.2.2) := by
  apply List.ext_getElem?
  intro k
  by_cases hk : k = j
  · subst hk
    rw [List.getElem?_set_self (by rw [fvl_len]; exact hj), fvl_i hj hr]
    simp [upd]
  · rw [List.getElem?_set_ne (Ne.symm hk)]
    by_cases hlt : k < cK i
    · simp [fvl, upd, hk, List.getElem?_range hlt]
    · simp [fvl, List.getElem?_eq_none (l := List.range (cK i)) (i := k) (by simp; omega)]
theorem fvl_setp {i j : Nat} {c : xC} {v : Nat} (hj : j < cK i) (hr : rfb i j = true) : (fvl i c).set j (rv v) = fvl i (c.1, c.2.1, c.2.2.1, va_up c.2.2.2 j v) := by
  apply List.ext_getElem?
  intro k
  by_cases hk : k = j
  · subst hk
    rw [List.getElem?_set_self (by rw [fvl_len]; exact hj), fvl_p hj hr]
    simp [va_up]
  · rw [List.getElem?_set_ne (Ne.symm hk)]
    by_cases hlt : k < cK i
    · simp [fvl, va_up, hk, List.getElem?_range hlt]
    · simp [fvl, List.getElem?_eq_none (l := List.range (cK i)) (i := k) (by simp; omega)]
theorem rp_at {G : xG} {σ : xM} {H : Heap} (h : Rp G σ H) {a : Nat} (h1 : ¬ kd σ a = 0) (h2 : kd σ a < 40) : va_at G.1 classes (a, enc G.2.1 (σ.2.2 a)) H := (h.2.2 a h1 h2).2.2
theorem rp_set {G : xG} {σ : xM} {H H1 : Heap} {a : Nat} {c : xC} (h : Rp G σ H) (hk : ¬ kd σ a = 0) (hk2 : kd σ a < 40) (hc : c.1 = kd σ a) (z : H1.size = H.size) (oq : ∀ q : Nat, q ≠ a → H1[q]? = H[q]?) (hv : va_at G.1 classes (a, enc G.2.1 c) H1) : Rp G (xset σ a c) H1 := by
  refine ⟨z.trans h.1, by rw [z]; exact h.2.1, fun b h1 h2 => ?_⟩
  by_cases e : b = a
  · subst e
    have q := h.2.2 b hk hk2
    simp only [kd, xset, if_pos] at h1 h2 ⊢
    exact ⟨q.1, by rw [hc]; exact q.2.1, hv⟩
  · simp only [kd, xset, if_neg e] at h1 h2 ⊢
    obtain ⟨q1, q2, q3⟩ := h.2.2 b h1 h2
    exact ⟨q1, q2, q3.kept (oq b e)⟩
theorem rp_new {G : xG} {σ : xM} {H H1 : Heap} {k n : Nat} (h : Rp G σ H) (hk : okk k) (z : H1.size = H.size + 1) (oq : ∀ q : Nat, q < H.size → H1[q]? = H[q]?) (hv : va_at G.1 classes (H.size, enc G.2.1 (k, n, fun _ => 0, fun _ => 0)) H1) : Rp G (xnew σ k n) H1 := by
  refine ⟨by rw [z, h.1]; rfl, by rw [z]; exact Nat.le_succ_of_le h.2.1, fun b h1 h2 => ?_⟩
  by_cases e : b = σ.1
  · subst e
    simp only [kd, xnew, if_pos] at h1 h2 ⊢
    exact ⟨by rw [← h.1]; exact h.2.1, hk, by rw [← h.1]; exact hv⟩
  · simp only [kd, xnew, if_neg e] at h1 h2 ⊢
    obtain ⟨q1, q2, q3⟩ := h.2.2 b h1 h2
    exact ⟨q1, q2, q3.kept (oq b q3.lt)⟩
theorem old_set {G : xG} {s : State} {σ : xM} {a : Nat} {c : xC} (h : OLD G s σ) (hc : c.1 < 40) (ha : ¬ a = 0) : OLD G s (xset σ a c) := by
  refine ⟨fun b hb => ?_, fun j hj => ?_⟩
  · by_cases e : b = a
    · subst e
      simp only [kd, xset, if_pos] at hb
      omega
    · simp only [kd, xset, if_neg e] at hb ⊢
      exact h.1 b hb
  · simp only [xp, xset, if_neg (Ne.symm ha)]
    exact h.2 j hj
theorem old_new {G : xG} {s : State} {σ : xM} {k n : Nat} (h : OLD G s σ) (hk : k < 40) (ha : ¬ σ.1 = 0) : OLD G s (xnew σ k n) := by
  refine ⟨fun b hb => ?_, fun j hj => ?_⟩
  · by_cases e : b = σ.1
    · subst e
      simp only [kd, xnew, if_pos] at hb
      omega
    · simp only [kd, xnew, if_neg e] at hb ⊢
      exact h.1 b hb
  · simp only [xp, xnew, if_neg (Ne.symm ha)]
    exact h.2 j hj
theorem B_ne {G : xG} {s : State} {a : Nat} (hG : GF G s) (h : G.2.2.1 ≤ a) : ¬ a = 0 := by
  have := hG.2.2.2.2.2.2.2.2.2
  omega
theorem B_nw {G : xG} {s : State} {σ : xM} {H : Heap} (hG : GF G s) (h : Rp G σ H) : ¬ σ.1 = 0 := by
  have h1 := hG.2.2.2.2.2.2.2.2.2
  have h2 := h.1
  have h3 := h.2.1
  omega
theorem okk_40 {k : Nat} (h : okk k) : k < 40 ∧ ¬ k = 0 := by
  rcases h with h | h <;> omega
theorem one_P {D : va_G} {a : Nat} {e : va_E} {H : Heap} (h : va_at D classes (a, e) H) : va_P D classes [(a, e)] H := by
  intro k q hq
  have hk : k < 1 := (List.getElem?_eq_some_iff.mp hq).1
  rw [show k = 0 by omega] at hq
  cases hq
  exact h
theorem ty_at {aC : Nat → ClassId} {k : Nat} (h1 : 20 ≤ k) (h2 : k < 28) : (tysOf aC)[k - 20]? = some (aC k, kTy k) := by
  have e : 20 + (k - 20) = k := by omega
  simp only [tysOf, List.getElem?_map]
  rw [List.getElem?_range (by omega)]
  simp [e]
def refTy (ty : FieldType) : Prop := (∃ n, ty = .object n) ∨ ∃ t, ty = .array t
theorem rv_fit {ty : FieldType} (h : refTy ty) (n : Nat) : narrow ty (rv n) = rv n ∧ fits ty (rv n) = true := by
  unfold rv
  rcases h with ⟨x, rfl⟩ | ⟨x, rfl⟩ <;> split <;> exact ⟨rfl, rfl⟩
theorem z_fit {v : Int32} (h : v = 0 ∨ v = 1) : narrow .boolean (.int v) = .int v ∧ fits .boolean (.int v) = true := by
  rcases h with rfl | rfl <;> exact ⟨rfl, rfl⟩
section HEAP
variable {own : String} {cc : ByteArray} {nL : Nat} {ret : Option FieldType} {nm : String} {pc : Nat}
theorem j_geti {ci j idx nx : Nat} (hci : ci < 13) (hj : j < cK ci) (hr : rfb ci j = false) (hw : Cond.fieldLink own idx (cT ci j).1 (cT ci j).2.1 (cT ci j).2.2.1 ∈ gt) (hd : decode cc pc = .ok (.getfield idx, 3)) (hn : pc + 3 = nx) : JJ own cc nL ret nm pc (oGeti ci j nx) := by
  subst hn
  refine ⟨fun ls st σ => by unfold oGeti; split <;> first | exact xle_rf | exact trivial, fun G p l e R s m args below meth c σ0 Q d ev rf σf X hC hR hM hE ls st σ h0 hk H locs lsA hP hO hS hl => ?_⟩
  unfold oGeti at hk
  split at hk
  · next a r =>
    have hv := rp_at hP (a := a) (by rw [hk.1]; omega) (by rw [hk.1]; omega)
    rw [enc_obj hk.1 hci] at hv
    exact va_get (D := G.1) X.1 X.2.1 X.2.2.2.2.2.1 (ws_in ci hci) X.2.2.2.2.1 X.2.2.2.2.2.2.2.1.1 (one_P hv) 0 rfl (classes_at hci) j hj (X.2.2.2.2.2.1 _ hw) (fun _ h => h) (fvl_i hj hr) hd (hk.2.2 h0 H locs lsA hP hO hS hl)
  · exact hk.elim
theorem j_getp {ci j idx nx : Nat} (hci : ci < 13) (hj : j < cK ci) (hr : rfb ci j = true) (hw : Cond.fieldLink own idx (cT ci j).1 (cT ci j).2.1 (cT ci j).2.2.1 ∈ gt) (hd : decode cc pc = .ok (.getfield idx, 3)) (hn : pc + 3 = nx) : JJ own cc nL ret nm pc (oGetp ci j nx) := by
  subst hn
  refine ⟨fun ls st σ => by unfold oGetp; split <;> first | exact xle_rf | exact trivial, fun G p l e R s m args below meth c σ0 Q d ev rf σf X hC hR hM hE ls st σ h0 hk H locs lsA hP hO hS hl => ?_⟩
  unfold oGetp at hk
  split at hk
  · next a r =>
    have hv := rp_at hP (a := a) (by rw [hk.1.1]; omega) (by rw [hk.1.1]; omega)
    rw [enc_obj hk.1.1 hci] at hv
    exact va_get (D := G.1) X.1 X.2.1 X.2.2.2.2.2.1 (ws_in ci hci) X.2.2.2.2.1 X.2.2.2.2.2.2.2.1.1 (one_P hv) 0 rfl (classes_at hci) j hj (X.2.2.2.2.2.1 _ hw) (fun _ h => h) ((fvl_p hj hr).trans (by rw [rv_ne hk.1.2])) hd (hk.2.2 h0 H locs lsA hP hO hS hl)
  · exact hk.elim
theorem j_getz {ci j idx nx : Nat} (hci : ci < 13) (hj : j < cK ci) (hr : rfb ci j = true) (hw : Cond.fieldLink own idx (cT ci j).1 (cT ci j).2.1 (cT ci j).2.2.1 ∈ gt) (hd : decode cc pc = .ok (.getfield idx, 3)) (hn : pc + 3 = nx) : JJ own cc nL ret nm pc (oGetz ci j nx) := by
  subst hn
  refine ⟨fun ls st σ => by unfold oGetz; split <;> first | exact xle_rf | exact trivial, fun G p l e R s m args below meth c σ0 Q d ev rf σf X hC hR hM hE ls st σ h0 hk H locs lsA hP hO hS hl => ?_⟩
  unfold oGetz at hk
  split at hk
  · next a r =>
    have hv := rp_at hP (a := a) (by rw [hk.1]; omega) (by rw [hk.1]; omega)
    rw [enc_obj hk.1 hci] at hv
    exact va_get (D := G.1) X.1 X.2.1 X.2.2.2.2.2.1 (ws_in ci hci) X.2.2.2.2.1 X.2.2.2.2.2.2.2.1.1 (one_P hv) 0 rfl (classes_at hci) j hj (X.2.2.2.2.2.1 _ hw) (fun _ h => h) (fvl_p hj hr) hd (hk.2.2 h0 H locs lsA hP hO hS hl)
  · exact hk.elim
/-- a field is written: an ordinary one, or a final one in a constructor of its class -/
theorem put_core {G : xG} {p : Program} {l : Launch} {e : Env} {R : Room} {s : State} {m : MethodId} {args : Array Value} {below : List Frame} {meth : Method} {c : Code} {H : Heap} {locs : List Loc} {cells slots : Nat} {Q : State → Prop} {ls : Array Slot} {rest : List Value} {ci j idx a : Nat} {v : Value} {fs : List Value}
    (X : XC G p s m args meth c own cc nL ret nm) (hci : ci < 13) (hj : j < cK ci) (hw : Cond.fieldLink own idx (cT ci j).1 (cT ci j).2.1 (cT ci j).2.2.1 ∈ gt) (hf : (cT ci j).2.2.2 = false ∨ ((cT ci j).2.2.2 = true ∧ nm = "<init>" ∧ cN ci = own)) (hn : narrow (cY ci j) v = v) (hfit : fits (cY ci j) v = true)
    (hv : va_at G.1 classes (a, .inr (ci, fs)) H) (hlen : j < fs.length) (hd : decode cc pc = .ok (.putfield idx, 3))
    (kk : ∀ (H1 : Heap) (i : Nat), H1.size = H.size → (∀ q : Nat, q ≠ a → H1[q]? = H[q]?) → va_at G.1 classes (a, .inr (ci, fs.set j v)) H1 → W p l e R s m args below meth c H1 (locs ++ [⟨a, i⟩]) cells slots Q (F0 m (pc + 3) ls rest)) : W p l e R s m args below meth c H locs cells slots Q (F0 m pc ls (v :: .ref a :: rest)) := by
  obtain ⟨hexec, hb, -, -, hown, hts, -, hG, hnm⟩ := X
  have hK := hG.1
  have hin := ws_in ci hci
  have hc := classes_at hci
  have hap := va_apart (own := own) hts hin (cY ci) (cY_ok ci hci) (cT_ne ci hci) hK hc
  obtain ⟨r, h1, cell, q1, q2, q3, q4⟩ := hv
  have hr : r = (cN ci, cT ci, cK ci) := Option.some.inj (h1.symm.trans hc)
  subst hr
  obtain ⟨hS, hfc, kC, hkC, hkind⟩ := hK.1 ci _ hc
  obtain ⟨cf, kf, fi, f, hi, hsl⟩ := hS j hj
  have hlay := hts _ (hin _ (u_in_lay hj))
  unfold u_lay at hlay
  have hst := (u_facts hfc hkC (u_lays hts hin hj) hi).1
  rcases hf with hfin | ⟨hfin, hinit, hdecl⟩
  · rw [if_neg (by rw [hfin]; decide)] at hlay
    have h6 := u_store hfc hkC hkind hlay hi (cY_ok ci hci j hj) hn hfit
    refine W.putK hexec hb (f := f) ⟨hown, hts _ hw, ⟨_, _, _, hi⟩, hst⟩ (by rw [q2]; exact h6) q1 q3 (by rw [hsl]; exact k2_hasslot (q4 j hj)) rfl rfl hd fun H' e1 e2 e3 => ?_
    rw [hsl] at e1 ⊢
    exact kk H' _ e2 e3 ⟨_, hc, t_OB.to (V := updV (vp_V fs) j v) ⟨_, e1, q2, q3, t_set q4 hap hj v⟩ (fun k _ => vp_updV_set hlen v k)⟩
  · rw [if_pos hfin] at hlay
    have hcf : m.cls = cf := by
      obtain ⟨_, _, c', _, _, _, -, -, hf', -, -, -, hown2, -⟩ := Cond.laysFinal_spec hlay
      have e1 : c' = cf := by have := hi.symm.trans hf'; simp at this; exact this.1.symm
      have e2 : (cT ci j).1 = own := hdecl
      rw [e2] at hown2
      rw [← e1]; exact Option.some.inj (hown.symm.trans hown2)
    have h6 := u_fits hfc hkC hkind (Or.inr hlay) hi (cY_ok ci hci j hj) hn hfit
    refine W.putFinK hexec hb hown (hts _ hw) hi hst hcf (hnm.trans hinit) (by rw [q2]; exact h6) q1 q3 (by rw [hsl]; exact k2_hasslot (q4 j hj)) rfl rfl hd fun H' e1 e2 e3 => ?_
    rw [hsl] at e1 ⊢
    exact kk H' _ e2 e3 ⟨_, hc, t_OB.to (V := updV (vp_V fs) j v) ⟨_, e1, q2, q3, t_set q4 hap hj v⟩ (fun k _ => vp_updV_set hlen v k)⟩
theorem j_puti {ci j idx nx : Nat} (hci : ci < 13) (hj : j < cK ci) (hr : rfb ci j = false) (hy : cY ci j = .int) (hw : Cond.fieldLink own idx (cT ci j).1 (cT ci j).2.1 (cT ci j).2.2.1 ∈ gt) (hf : (cT ci j).2.2.2 = false ∨ ((cT ci j).2.2.2 = true ∧ nm = "<init>" ∧ cN ci = own)) (hd : decode cc pc = .ok (.putfield idx, 3)) (hn : pc + 3 = nx) : JJ own cc nL ret nm pc (oPuti ci j nx) := by
  subst hn
  refine ⟨fun ls st σ => by unfold oPuti; split <;> first | exact xle_rf | exact trivial, fun G p l e R s m args below meth c σ0 Q d ev rf σf X hC hR hM hE ls st σ h0 hk H locs lsA hP hO hS hl => ?_⟩
  unfold oPuti at hk
  split at hk
  · next v a r =>
    have k1 : ¬ kd σ a = 0 := by rw [hk.1]; omega
    have k2 : kd σ a < 40 := by rw [hk.1]; omega
    have hv := rp_at hP k1 k2
    have hB := (hP.2.2 a k1 k2).1
    rw [enc_obj hk.1 hci] at hv
    refine put_core X hci hj hw hf (by rw [hy]; rfl) (by rw [hy]; rfl) hv (by rw [fvl_len]; exact hj) hd fun H1 i z oq hv1 => ?_
    rw [fvl_seti hj hr] at hv1
    exact hk.2.2 h0 H1 _ lsA (rp_set hP k1 k2 rfl z oq (by rw [enc_k hk.1 hci]; exact hv1)) (old_set hO k2 (B_ne X.2.2.2.2.2.2.2.1 hB)) (hS.put z oq hB) hl
  · exact hk.elim
theorem j_putb {ci j idx nx : Nat} (hci : ci < 13) (hj : j < cK ci) (hr : rfb ci j = false) (hy : cY ci j = .boolean) (hw : Cond.fieldLink own idx (cT ci j).1 (cT ci j).2.1 (cT ci j).2.2.1 ∈ gt) (hf : (cT ci j).2.2.2 = false ∨ ((cT ci j).2.2.2 = true ∧ nm = "<init>" ∧ cN ci = own)) (hd : decode cc pc = .ok (.putfield idx, 3)) (hn : pc + 3 = nx) : JJ own cc nL ret nm pc (oPutb ci j nx) := by
  subst hn
  refine ⟨fun ls st σ => by unfold oPutb; split <;> first | exact xle_rf | exact trivial, fun G p l e R s m args below meth c σ0 Q d ev rf σf X hC hR hM hE ls st σ h0 hk H locs lsA hP hO hS hl => ?_⟩
  unfold oPutb at hk
  split at hk
  · next v a r =>
    have k1 : ¬ kd σ a = 0 := by rw [hk.1.1]; omega
    have k2 : kd σ a < 40 := by rw [hk.1.1]; omega
    have hv := rp_at hP k1 k2
    have hB := (hP.2.2 a k1 k2).1
    rw [enc_obj hk.1.1 hci] at hv
    refine put_core X hci hj hw hf (by rw [hy]; exact (z_fit hk.1.2).1) (by rw [hy]; exact (z_fit hk.1.2).2) hv (by rw [fvl_len]; exact hj) hd fun H1 i z oq hv1 => ?_
    rw [fvl_seti hj hr] at hv1
    exact hk.2.2 h0 H1 _ lsA (rp_set hP k1 k2 rfl z oq (by rw [enc_k hk.1.1 hci]; exact hv1)) (old_set hO k2 (B_ne X.2.2.2.2.2.2.2.1 hB)) (hS.put z oq hB) hl
  · exact hk.elim
theorem j_putp {ci j idx nx : Nat} (hci : ci < 13) (hj : j < cK ci) (hr : rfb ci j = true) (hy : refTy (cY ci j)) (hw : Cond.fieldLink own idx (cT ci j).1 (cT ci j).2.1 (cT ci j).2.2.1 ∈ gt) (hf : (cT ci j).2.2.2 = false ∨ ((cT ci j).2.2.2 = true ∧ nm = "<init>" ∧ cN ci = own)) (hd : decode cc pc = .ok (.putfield idx, 3)) (hn : pc + 3 = nx) : JJ own cc nL ret nm pc (oPutp ci j nx) := by
  subst hn
  refine ⟨fun ls st σ => by unfold oPutp; split <;> first | exact xle_rf | exact trivial, fun G p l e R s m args below meth c σ0 Q d ev rf σf X hC hR hM hE ls st σ h0 hk H locs lsA hP hO hS hl => ?_⟩
  unfold oPutp at hk
  split at hk
  · next v a r =>
    have k1 : ¬ kd σ a = 0 := by rw [hk.1.1]; omega
    have k2 : kd σ a < 40 := by rw [hk.1.1]; omega
    have hv := rp_at hP k1 k2
    have hB := (hP.2.2 a k1 k2).1
    rw [enc_obj hk.1.1 hci] at hv
    rw [← rv_ne hk.1.2]
    refine put_core X hci hj hw hf (rv_fit hy v).1 (rv_fit hy v).2 hv (by rw [fvl_len]; exact hj) hd fun H1 i z oq hv1 => ?_
    rw [fvl_setp hj hr] at hv1
    exact hk.2.2 h0 H1 _ lsA (rp_set hP k1 k2 rfl z oq (by rw [enc_k hk.1.1 hci]; exact hv1)) (old_set hO k2 (B_ne X.2.2.2.2.2.2.2.1 hB)) (hS.put z oq hB) hl
  · next a r =>
    have k1 : ¬ kd σ a = 0 := by rw [hk.1]; omega
    have k2 : kd σ a < 40 := by rw [hk.1]; omega
    have hv := rp_at hP k1 k2
    have hB := (hP.2.2 a k1 k2).1
    rw [enc_obj hk.1 hci] at hv
    rw [show Value.null = rv 0 from rfl]
    refine put_core X hci hj hw hf (rv_fit hy 0).1 (rv_fit hy 0).2 hv (by rw [fvl_len]; exact hj) hd fun H1 i z oq hv1 => ?_
    rw [fvl_setp hj hr] at hv1
    exact hk.2.2 h0 H1 _ lsA (rp_set hP k1 k2 rfl z oq (by rw [enc_k hk.1 hci]; exact hv1)) (old_set hO k2 (B_ne X.2.2.2.2.2.2.2.1 hB)) (hS.put z oq hB) hl
  · exact hk.elim
end HEAP
