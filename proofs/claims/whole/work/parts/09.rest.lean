/-! STRINGS, STATICS, SWITCHES, CLONE AND COPY -/
section REST
variable {own : String} {cc : ByteArray} {nL : Nat} {ret : Option FieldType} {nm : String} {pc : Nat}
theorem str_at {G : xG} {s : State} {σ : xM} {a : Nat} (hO : OLD G s σ) (h : kd σ a = 41 ∨ kd σ a = 43) : oldS G s a (σ.2.2 a) := (hO.1 a (by rcases h with q | q <;> omega)).2.2 h
theorem j_ldcS {j idx nx : Nat} (hj : j < 12) (ho : (sL.getD j ("", 0, "")).1 = own) (hx : (sL.getD j ("", 0, "")).2.1 = idx) (hd : decode cc pc = .ok (.ldc idx, 2)) (hn : pc + 2 = nx) : JJ own cc nL ret nm pc (oGref j nx) := by
  subst hn
  refine ⟨fun ls st σ => xle_rf, fun G p l e R s m args below meth c σ0 Q d ev rf σf X hC hR hM hE ls st σ h0 hk H locs lsA hP hO hS hl => ?_⟩
  have hG := X.2.2.2.2.2.2.2.1
  have hz := hG.2.2.2.2.1 j hj
  rw [ho, hx, ← hO.2 j (by omega)] at hz
  exact va_ldcS X.1 X.2.1 X.2.2.2.2.1 hz hd (hk.2.2 h0 H locs lsA hP hO hS hl)
theorem j_getsA {idx nx : Nat} (hw : Cond.fieldLink own idx "KiltRoom" "STYLE_ABOVE" "[I" ∈ gt) (hd : decode cc pc = .ok (.getstatic idx, 3)) (hn : pc + 3 = nx) : JJ own cc nL ret nm pc (oGref 20 nx) := by
  subst hn
  refine ⟨fun ls st σ => xle_rf, fun G p l e R s m args below meth c σ0 Q d ev rf σf X hC hR hM hE ls st σ h0 hk H locs lsA hP hO hS hl => ?_⟩
  have hG := X.2.2.2.2.2.2.2.1
  have hz := hG.2.2.2.2.2.1
  rw [← hO.2 20 (by decide)] at hz
  exact va_gets X.1 X.2.1 hz hS X.2.2.2.2.1 (X.2.2.2.2.2.1 _ hw) (fun _ h => h) hd (hk.2.2 h0 H locs lsA hP hO hS hl)
theorem j_getsC {idx nx : Nat} (hw : Cond.fieldLink own idx "java/lang/String" "COMPACT_STRINGS" "Z" ∈ gt) (hd : decode cc pc = .ok (.getstatic idx, 3)) (hn : pc + 3 = nx) : JJ own cc nL ret nm pc (oPush (.int 1) nx) := by
  subst hn
  refine ⟨sz_push, fun G p l e R s m args below meth c σ0 Q d ev rf σf X hC hR hM hE ls st σ h0 hk H locs lsA hP hO hS hl => ?_⟩
  have hG := X.2.2.2.2.2.2.2.1
  exact va_gets X.1 X.2.1 hG.2.2.2.2.2.2.1 hS X.2.2.2.2.1 (X.2.2.2.2.2.1 _ hw) (fun _ h => h) hd (hk.2 h0 H locs lsA hP hO hS hl)
theorem j_getsF {idx nx : Nat} (hw : Cond.fieldLink own idx "jdk/internal/util/Preconditions" "SIOOBE_FORMATTER" "Ljava/util/function/BiFunction;" ∈ gt) (hd : decode cc pc = .ok (.getstatic idx, 3)) (hn : pc + 3 = nx) : JJ own cc nL ret nm pc (oGrefz 21 nx) := by
  subst hn
  refine ⟨fun ls st σ => xle_rf, fun G p l e R s m args below meth c σ0 Q d ev rf σf X hC hR hM hE ls st σ h0 hk H locs lsA hP hO hS hl => ?_⟩
  have hG := X.2.2.2.2.2.2.2.1
  have hz := hG.2.2.2.2.2.2.2.1
  rw [← hO.2 21 (by decide)] at hz
  exact va_gets X.1 X.2.1 hz hS X.2.2.2.2.1 (X.2.2.2.2.2.1 _ hw) (fun _ h => h) hd (hk.2 h0 H locs lsA hP hO hS hl)
theorem j_getSv {idx nx : Nat} (hw : Cond.fieldLink own idx "java/lang/String" "value" "[B" ∈ gt) (hd : decode cc pc = .ok (.getfield idx, 3)) (hn : pc + 3 = nx) : JJ own cc nL ret nm pc (oGetSv nx) := by
  subst hn
  refine ⟨fun ls st σ => by unfold oGetSv; split <;> first | exact xle_rf | exact trivial, fun G p l e R s m args below meth c σ0 Q d ev rf σf X hC hR hM hE ls st σ h0 hk H locs lsA hP hO hS hl => ?_⟩
  unfold oGetSv at hk
  split at hk
  · next a r => exact vk_getf X.1 X.2.1 (str_at hO hk.1).2.2 hS X.2.2.2.2.1 (X.2.2.2.2.2.1 _ hw) (fun _ h => h) hd (hk.2.2 h0 H locs lsA hP hO hS hl)
  · exact hk.elim
theorem j_getSc {idx nx : Nat} (hw : Cond.fieldLink own idx "java/lang/String" "coder" "B" ∈ gt) (hd : decode cc pc = .ok (.getfield idx, 3)) (hn : pc + 3 = nx) : JJ own cc nL ret nm pc (oGetSc nx) := by
  subst hn
  refine ⟨fun ls st σ => by unfold oGetSc; split <;> first | exact xle_rf | exact trivial, fun G p l e R s m args below meth c σ0 Q d ev rf σf X hC hR hM hE ls st σ h0 hk H locs lsA hP hO hS hl => ?_⟩
  unfold oGetSc at hk
  split at hk
  · next a r => exact vk_getf X.1 X.2.1 (str_at hO hk.1).2.1 hS X.2.2.2.2.1 (X.2.2.2.2.2.1 _ hw) (fun _ h => h) hd (hk.2.2 h0 H locs lsA hP hO hS hl)
  · exact hk.elim
/-! switches -/
theorem wpSw_hit {x : Int32} {k : Nat → Prop} {d : Nat} : ∀ {cs : List (Int32 × Nat)} {j t : Nat}, wpSw x k d cs → cs[j]? = some (x, t) → (∀ (i : Nat) (q : Int32 × Nat), i < j → cs[i]? = some q → ¬ x = q.1) → k t
  | [], _, _, _, h, _ => by simp at h
  | (c, u) :: r, 0, t, w, h, _ => by
    simp at h
    obtain ⟨rfl, rfl⟩ := h
    exact w.1 rfl
  | (c, u) :: r, j + 1, t, w, h, hn => wpSw_hit (w.2 (hn 0 (c, u) (by omega) rfl)) h (fun i q hi hq => hn (i + 1) q (by omega) hq)
theorem wpSw_miss {x : Int32} {k : Nat → Prop} {d : Nat} : ∀ {cs : List (Int32 × Nat)}, wpSw x k d cs → (∀ q ∈ cs, ¬ x = q.1) → k d
  | [], w, _ => w
  | (c, u) :: r, w, h => wpSw_miss (w.2 (h _ List.mem_cons_self)) (fun q hq => h q (List.mem_cons_of_mem _ hq))
def swT (pc : Nat) (lo : Int) (offs : Array Int) (cs : List (Int32 × Nat)) : Bool := cs.length == offs.size && (List.range cs.length).all (fun j => match cs[j]?, offs[j]? with
  | some q, some o => decide (q.1.toInt = lo + (j : Int)) && decide ((pc : Int) + o = (q.2 : Int))
  | _, _ => false)
theorem sz_sw {cs : List (Int32 × Nat)} {d : Nat} : ∀ ls st σ, szA σ (oSw cs d ls st σ) := fun ls st σ => by unfold oSw; split <;> first | exact xle_rf | exact trivial
theorem j_tsw {dflt lo hi : Int} {offs : Array Int} {len dt : Nat} {cs : List (Int32 × Nat)} (hd : decode cc pc = .ok (.tableswitch dflt lo hi offs, len)) (hs : swT pc lo offs cs = true) (hhi : hi = lo + (offs.size : Int) - 1) (hdt : (pc : Int) + dflt = (dt : Int)) : JJ own cc nL ret nm pc (oSw cs dt) := by
  refine ⟨sz_sw, fun G p l e R s m args below meth c σ0 Q d ev rf σf X hC hR hM hE ls st σ h0 hk H locs lsA hP hO hS hl => ?_⟩
  unfold oSw at hk
  split at hk
  · next x r =>
    unfold swT at hs
    simp only [Bool.and_eq_true, beq_iff_eq, List.all_eq_true, List.mem_range] at hs
    obtain ⟨hlen, hall⟩ := hs
    have hk : wpSw x (fun t => xle (t, ls, r, σ).2.2.2 σf ∧ (xle σ0 (t, ls, r, σ).2.2.2 → WW G p l e R s m args below meth c nL σ0 Q (t, ls, r, σ))) dt cs := hk
    have at9 : ∀ j (hj : j < cs.length), ∃ q o, cs[j]? = some q ∧ offs[j]? = some o ∧ q.1.toInt = lo + (j : Int) ∧ (pc : Int) + o = (q.2 : Int) := by
      intro j hj
      have h := hall j hj
      split at h
      · next q o h1 h2 =>
        simp only [Bool.and_eq_true, decide_eq_true_eq] at h
        exact ⟨q, o, h1, h2, h.1, h.2⟩
      · cases h
    by_cases hin : x.toInt < lo ∨ hi < x.toInt
    · refine lv_tableOut X.1 X.2.1 hd hin hdt ((wpSw_miss hk (fun q hq e => ?_)).2 h0 H locs lsA hP hO hS hl)
      obtain ⟨j, hj⟩ := List.getElem?_of_mem hq
      have hjl : j < cs.length := (List.getElem?_eq_some_iff.mp hj).1
      obtain ⟨q', o, h1, h2, h3, h4⟩ := at9 j hjl
      cases hj.symm.trans h1
      subst e
      omega
    · have h1 : ¬ x.toInt < lo := fun q => hin (Or.inl q)
      have h2 : ¬ hi < x.toInt := fun q => hin (Or.inr q)
      have hj : (x.toInt - lo).toNat < cs.length := by omega
      obtain ⟨q, o, e1, e2, e3, e4⟩ := at9 _ hj
      have hxq : x = q.1 := Int32.toInt_inj.mp (by rw [e3]; omega)
      refine lv_tableIn X.1 X.2.1 hd h1 h2 e2 e4 ((wpSw_hit hk (j := (x.toInt - lo).toNat) (t := q.2) (by rw [e1, hxq]) (fun i q' hi9 hq' e => ?_)).2 h0 H locs lsA hP hO hS hl)
      obtain ⟨q'', o', f1, f2, f3, f4⟩ := at9 i (by omega)
      cases hq'.symm.trans f1
      subst e
      omega
  · exact hk.elim
theorem lsw_go {x : Int32} {k : Nat → Prop} {pc dt : Nat} {dflt : Int} (hdt : (pc : Int) + dflt = (dt : Int)) : ∀ {ps : List (Int × Int)} {cs : List (Int32 × Nat)}, (ps.map fun q => (q.1, (pc : Int) + q.2)) = (cs.map fun q => (q.1.toInt, (q.2 : Int))) → wpSw x k dt cs → ∃ tgt : Nat, (pc : Int) + Op.lookupswitch.offset ps dflt x.toInt = (tgt : Int) ∧ k tgt
  | [], [], _, w => ⟨dt, hdt, w⟩
  | [], _ :: _, h, _ => by simp at h
  | _ :: _, [], h, _ => by simp at h
  | (a, o) :: ps, (c, t) :: cs, h, w => by
    simp only [List.map_cons, List.cons.injEq, Prod.mk.injEq] at h
    obtain ⟨⟨h1, h2⟩, h3⟩ := h
    by_cases e : x = c
    · refine ⟨t, ?_, w.1 e⟩
      subst e
      simp [Op.lookupswitch.offset, h1, h2]
    · obtain ⟨tgt, g1, g2⟩ := lsw_go hdt h3 (w.2 e)
      exact ⟨tgt, by rw [lv_osw (k := c) e h1.symm]; exact g1, g2⟩
theorem j_lsw {dflt : Int} {ps : Array (Int × Int)} {len dt : Nat} {cs : List (Int32 × Nat)} (hd : decode cc pc = .ok (.lookupswitch dflt ps, len)) (hp : (ps.toList.zip (ps.toList.drop 1)).all (fun (a, next) => a.1 < next.1) = true) (hs : (ps.toList.map fun q => (q.1, (pc : Int) + q.2)) = (cs.map fun q => (q.1.toInt, (q.2 : Int)))) (hdt : (pc : Int) + dflt = (dt : Int)) : JJ own cc nL ret nm pc (oSw cs dt) := by
  refine ⟨sz_sw, fun G p l e R s m args below meth c σ0 Q d ev rf σf X hC hR hM hE ls st σ h0 hk H locs lsA hP hO hS hl => ?_⟩
  unfold oSw at hk
  split at hk
  · next x r =>
    obtain ⟨tgt, g1, g2⟩ := lsw_go (k := fun t => xle (t, ls, r, σ).2.2.2 σf ∧ (xle σ0 (t, ls, r, σ).2.2.2 → WW G p l e R s m args below meth c nL σ0 Q (t, ls, r, σ))) hdt hs hk
    exact lv_lookup X.1 X.2.1 hd hp rfl g1 (g2.2 h0 H locs lsA hP hO hS hl)
  · exact hk.elim
end REST
