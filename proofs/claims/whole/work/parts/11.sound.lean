/-! THE RUN OF A METHOD ON THE MACHINE -/
theorem sz_end {ev : xV} {σf : xM} (hev : ∀ i as σ r σ', ev i as σ r σ' → xle σ σ') {σ : xM} : ∀ {a : xA}, szA σ a → wpA ev (fun _ s' => s' = σf) (fun f => xle f.2.2.2 σf) a → xle σ σf
  | .inl _, h, w => xle_tr h w
  | .inr (.inl (_, _)), h, w => xle_tr h w.2
  | .inr (.inr (.inl (c, f1, f2))), h, w => by
    by_cases e : c
    · exact xle_tr h.1 (w.1 e)
    · exact xle_tr h.2 (w.2 e)
  | .inr (.inr (.inr (.inl (_, _, s')))), h, w => by
    have h : xle σ s' := h
    rw [← show s' = σf from w.2]
    exact h
  | .inr (.inr (.inr (.inr (.inl (_, _, _, _, _, _, _))))), h, w => by
    obtain ⟨g, r, s', h1, h2⟩ := w
    exact xle_tr h (xle_tr (hev _ _ _ _ _ h1) h2)
  | .inr (.inr (.inr (.inr (.inr (.inl (x, cs, d, ls, st, s')))))), h, w => by
    have h : xle σ s' := h
    have key : ∀ (cs : List (Int32 × Nat)), wpSw x (fun _ => xle s' σf) d cs → xle s' σf := by
      intro cs
      induction cs with
      | nil => exact fun w => w
      | cons q r ih =>
        intro w
        by_cases e : x = q.1
        · exact w.1 e
        · exact ih (w.2 e)
    exact xle_tr h (key cs w)
  | .inr (.inr (.inr (.inr (.inr (.inr ()))))), _, w => w.elim
theorem wpR_sz {C : Nat → xI} {ev : xV} {rf : Option Value} {σf : xM} (hC : ∀ pc ls st σ, szA σ (C pc ls st σ)) (hev : ∀ i as σ r σ', ev i as σ r σ' → xle σ σ') : ∀ {n : Nat} {f : xF}, wpR C ev (fun r' s' => r' = rf ∧ s' = σf) n f → xle f.2.2.2 σf
  | 0, _, w => w.elim
  | n + 1, f, w => sz_end hev (hC _ _ _ _) (wpA_mono (fun _ _ _ _ _ h => h) (fun _ _ h => h.2) (fun _ => wpR_sz hC hev) w)
theorem xev_sz {T : Nat → Nat → xI} (hT : ∀ i pc ls st σ, szA σ (T i pc ls st σ)) : ∀ (d : Nat) (i : Nat) (as : List Value) (σ : xM) (r : Option Value) (σ' : xM), xev T d i as σ r σ' → xle σ σ'
  | 0, _, _, _, _, _, w => w.elim
  | d + 1, i, as, σ, r, σ', ⟨_, n, w⟩ => wpR_sz (hT i) (xev_sz hT d) w
theorem run_sound {G : xG} {p : Program} {l : Launch} {e : Env} {R : Room} {s : State} {m : MethodId} {args : Array Value} {below : List Frame} {meth : Method} {c : Code} {nL : Nat} {σ0 : xM} {Q : State → Prop} {own : String} {cc : ByteArray} {ret : Option FieldType} {nm : String} {d : Nat} {ev : xV} {rf : Option Value} {σf : xM} {C : Nat → xI}
    (hJ : ∀ pc, JJ own cc nL ret nm pc (C pc)) (hev : ∀ i as σ r σ', ev i as σ r σ' → xle σ σ') (X : XC G p s m args meth c own cc nL ret nm) (hC : CallsOK G l d ev) (hR : d + 1 ≤ R.frames ∧ 32 * (d + 1) ≤ R.locals) (hM : σf.1 - σ0.1 ≤ R.cells ∧ σf.2.1 - σ0.2.1 ≤ R.slots) (hE : RetOK G p l e R s m args below meth c σ0 Q cc ret rf σf) :
    ∀ {n : Nat} {f : xF}, wpR C ev (fun r' s' => r' = rf ∧ s' = σf) n f → xle f.2.2.2 σf ∧ (xle σ0 f.2.2.2 → WW G p l e R s m args below meth c nL σ0 Q f)
  | 0, _, w => w.elim
  | n + 1, f, w => ⟨wpR_sz (fun pc => (hJ pc).1) hev w, fun h0 => (hJ f.1).2 G p l e R s m args below meth c σ0 Q d ev rf σf X hC hR hM hE f.2.1 f.2.2.1 f.2.2.2 h0 (wpA_mono (fun _ _ _ _ _ h => h) (fun _ _ h => h) (fun _ => run_sound hJ hev X hC hR hM hE) w)⟩
theorem sl_len : ∀ (as : List Value), (lg_sl as).length ≤ csum as
  | [] => Nat.le_refl _
  | v :: vs => by
    have ih := sl_len vs
    have e : csum (v :: vs) = v.category + csum vs := by simp [csum]
    have e2 : lg_sl (v :: vs) = (if v.category = 2 then [Slot.val v, Slot.second] else [Slot.val v]) ++ lg_sl vs := by simp [lg_sl]
    rw [e2, e, List.length_append]
    rcases lv_cat v with h | h
    · rw [if_neg (by omega)]
      simp only [List.length_cons, List.length_nil]
      omega
    · rw [if_pos h]
      simp only [List.length_cons, List.length_nil]
      omega
theorem ret_met {G : xG} {p : Program} {l : Launch} {e : Env} {R : Room} {s : State} {m : MethodId} {args : Array Value} {below : List Frame} {meth : Method} {c : Code} {σ0 σf : xM} {own : String} {cc : ByteArray} {ret : Option FieldType} {nm : String} {nL : Nat} {rf : Option Value}
    (X : XC G p s m args meth c own cc nL ret nm) : RetOK G p l e R s m args below meth c σ0 (MQ below (PostM G rf σf) args s (σf.1 - σ0.1) (σf.2.1 - σ0.2.1) (gA G)) cc ret rf σf := by
  intro pc ls st H locs ins hr hd hP hO hS
  obtain ⟨hx, hb, hret, -, -, -, hlocks, -, -⟩ := X
  have hq : ∀ t : State, t.heap = H → s.WarmedH t.vm → PostM G rf σf args s (.returned rf) t := fun t ht hW => ⟨rfl, by rw [ht]; exact hP, old_into ht hW.alike hS hO, hS.F ht⟩
  rcases hr with ⟨rfl, x, ty, h1, h2, rfl, rfl⟩ | ⟨rfl, x, h1, rfl, rfl⟩ | ⟨rfl, v, ty, h1, h2, h3, rfl, rfl⟩ | ⟨rfl, h1, rfl, rfl⟩
  · exact W.zret hx hb (hret.trans h1) h2 hq hS.2.2 hd
  · exact W.lret hx hb (hret.trans h1) hq hS.2.2 hd
  · exact W.aret hx hb (hret.trans h1) h2 h3 hq hS.2.2 hd
  · exact W.vret hx hb (hret.trans h1) hq hS.2.2 hd
/-- every method of the table, at every depth of calls -/
theorem sound {T : Nat → Nat → xI} (hT : ∀ i, i < 202 → ∀ pc, JJ (yy i).cls (mb i) (mL i) (mR i) (yy i).name pc (T i pc)) (hz : ∀ i pc ls st σ, szA σ (T i pc ls st σ)) (G : xG) (l : Launch) : ∀ d, CallsOK G l d (xev T d)
  | 0 => fun _ _ _ _ _ _ w => w.elim
  | d + 1 => fun i as σ r σ' hi w => by
    refine ⟨xev_sz hz _ _ _ _ _ _ w, ?_⟩
    obtain ⟨hc, n, w⟩ := w
    refine va_MetF (cc := mb i) (maxL := mL i) (ret := mR i) (ws' := gt) (mN_ok i hi).1 rfl ?_
    intro p e s m args below meth c s₁ B hml hv
    obtain ⟨rfl, hG, hP, hO⟩ := hv
    have hts := atoms_spec (ws := mW i :: gt) B.pre
    have X : XC G p s m as.toArray meth c (yy i).cls (mb i) (mL i) (mR i) (yy i).name := ⟨B.exec, B.bytes, B.returns, hml, findClass_of_methodNamed B.named, fun w hw => hts w (List.mem_cons_of_mem _ hw), B.notSynchronized, hG, (name_of_methodNamed B.named B.method).1⟩
    have hl := lv_entry as (n := mL i) (Nat.le_trans (sl_len as) hc)
    rw [lg_entry_eq]
    generalize (lg_sl as ++ List.replicate (mL i - (lg_sl as).length) Slot.unset).toArray = ls at hl ⊢
    have h := (run_sound (R := (headSpec (mW i :: gt) (rmm (d + 1) (σ'.1 - σ.1) (σ'.2.1 - σ.2.1))).room) (e := e) (below := below) (hT i hi) (xev_sz hz d) X (sound hT hz G l d) ⟨Nat.le_refl _, Nat.le_refl _⟩ ⟨Nat.le_refl _, Nat.le_refl _⟩ (ret_met X) w).2 xle_rf s.heap [] ls hP hO va_S.rf hl
    simpa using h
