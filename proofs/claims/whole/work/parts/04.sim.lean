/-! THE PURE MACHINE ON THE HEAP -/
def rv (n : Nat) : Value := if n = 0 then .null else .ref n
def ro (n : Nat) : Option Nat := if n = 0 then none else some n
theorem va_rf_ro (n : Nat) : va_rf (ro n) = rv n := by
  unfold ro rv
  split <;> rfl
theorem rv_ne {n : Nat} (h : ¬ n = 0) : rv n = .ref n := if_neg h
def fvl (i : Nat) (c : xC) : List Value := (List.range (cK i)).map (fun j => if rfb i j = true then rv (c.2.2.2 j) else .int (c.2.2.1 j))
def enc (aC : Nat → ClassId) (c : xC) : va_E := if c.1 < 20 then .inr (c.1 - 1, fvl (c.1 - 1) c) else if c.1 < 23 then .inl (aC c.1, c.2.1, .inl c.2.2.1) else .inl (aC c.1, c.2.1, .inr (.inr (.inr (.inr (fun j => ro (c.2.2.2 j))))))
def okk (k : Nat) : Prop := (1 ≤ k ∧ k ≤ 13) ∨ (20 ≤ k ∧ k < 28)
def kTy (k : Nat) : FieldType := if k = 20 then .int else if k = 21 then .byte else if k = 22 then .boolean else if k = 23 then .object "KiltRoom$Sett" else if k = 24 then .object "KiltRoom$Bolt" else if k = 25 then .object "KiltRoom$Kilt" else if k = 26 then .object "KiltRoom$Text" else .object "KiltRoom$Sheet"
abbrev xG : Type := va_G × (Nat → ClassId) × Nat × (Nat → Nat)
def tysOf (aC : Nat → ClassId) : List (ClassId × FieldType) := (List.range 8).map (fun j => (aC (20 + j), kTy (20 + j)))
def gA (G : xG) : Nat → Prop := fun q => G.2.2.1 ≤ q
def Rp (G : xG) (σ : xM) (H : Heap) : Prop := H.size = σ.1 ∧ G.2.2.1 ≤ H.size ∧ ∀ a, ¬ kd σ a = 0 → kd σ a < 40 → G.2.2.1 ≤ a ∧ okk (kd σ a) ∧ va_at G.1 classes (a, enc G.2.1 (σ.2.2 a)) H
def oldS (G : xG) (s : State) (a : Nat) (c : xC) : Prop := va_O "java/lang/String" a (gA G) s s.heap ∧ va_OF "java/lang/String" "coder" "B" (.int 0) a (gA G) s s.heap ∧ va_OF "java/lang/String" "value" "[B" (.ref (c.2.2.2 30)) a (gA G) s s.heap
def oldAt (G : xG) (s : State) (a : Nat) (c : xC) : Prop := (c.1 = 40 → va_T .int a c.2.1 (fun j => .int (c.2.2.1 j)) (gA G) s s.heap) ∧ (c.1 = 42 ∨ c.1 = 43 → va_T .byte a c.2.1 (fun j => .int (c.2.2.1 j)) (gA G) s s.heap) ∧ (c.1 = 41 ∨ c.1 = 43 → oldS G s a c)
def OLD (G : xG) (s : State) (σ : xM) : Prop := (∀ a, 40 ≤ kd σ a → oldAt G s a (σ.2.2 a)) ∧ ∀ j, j < 30 → xp σ 0 j = G.2.2.2 j
/-- String constants: class, entry, text, place among the global references -/
def sL : List (String × Nat × String) := [("KiltRoom", 75, "price used * 3 + pleats * 10 ; fit waist < hip ;"), ("KiltRoom$TextReader", 110, "price"), ("KiltRoom$TextReader", 112, "fit"), ("KiltRoom$TextReader", 114, "or"), ("KiltRoom$TextReader", 116, "and"), ("KiltRoom$TextReader", 118, "not"), ("KiltRoom$TextReader", 120, "used"), ("KiltRoom$TextReader", 122, "pleats"), ("KiltRoom$TextReader", 124, "hip"), ("KiltRoom$TextReader", 126, "waist"), ("KiltRoom$TextReader", 128, "shown"), ("KiltRoom$TextReader", 130, "style")]
def aoL : List String := ["KiltRoom$Sett", "KiltRoom$Bolt", "KiltRoom$Kilt", "KiltRoom$Text", "KiltRoom$Sheet"]
def nestL : List (String × Nat × Nat) := [("KiltRoom", 9, 1), ("KiltRoom", 18, 2), ("KiltRoom", 25, 3), ("KiltRoom", 32, 4), ("KiltRoom", 74, 7), ("KiltRoom$Kilt", 36, 60), ("KiltRoom$Kilt", 46, 59), ("KiltRoom$Kilt", 52, 63)]
def GF (G : xG) (s : State) : Prop := va_K G.1 classes (tysOf G.2.1) s ∧ (∀ q ∈ nestL, va_Nw (.methodLinkNest q.1 q.2.1 (yy q.2.2) "KiltRoom") s) ∧ va_Nw (.castable "[I" "java/lang/Cloneable") s ∧ (∀ C ∈ aoL, va_AO C s) ∧
  (∀ j, j < 12 → vk_R (sL.getD j ("", 0, "")).1 (sL.getD j ("", 0, "")).2.1 (sL.getD j ("", 0, "")).2.2 (G.2.2.2 j - 1) s) ∧ va_Z "KiltRoom" "STYLE_ABOVE" "[I" (.ref (G.2.2.2 20 - 1)) (gA G) s s.heap ∧ va_Z "java/lang/String" "COMPACT_STRINGS" "Z" (.int 1) (gA G) s s.heap ∧ va_Z "jdk/internal/util/Preconditions" "SIOOBE_FORMATTER" "Ljava/util/function/BiFunction;" (if G.2.2.2 21 = 0 then .null else .ref (G.2.2.2 21 - 1)) (gA G) s s.heap ∧ G.2.2.1 ≤ s.heap.size ∧ 0 < G.2.2.1
theorem gf_same {G : xG} {u U : State} (hv : U.vm = u.vm) (hh : U.heap = u.heap) (h : GF G u) : GF G U := by
  obtain ⟨h1, h2, h3, h4, h5, h6, h7, h8, h9⟩ := h
  have al : u.vm.Alike U.vm := by rw [hv]; exact Vm.Alike.refl _
  exact ⟨h1.moved al, fun q hq => va_Nw.same rfl hv.symm (h2 q hq), va_Nw.same rfl hv.symm h3, fun C hC => (h4 C hC).moved al, fun j hj => vk_R.same hv (h5 j hj), by rw [hh]; exact h6.moved al, by rw [hh]; exact h7.moved al, by rw [hh]; exact h8.moved al, by rw [hh]; exact h9.1, h9.2⟩
theorem old_same {G : xG} {u U : State} {σ : xM} (hv : U.vm = u.vm) (hh : U.heap = u.heap) (h : OLD G u σ) : OLD G U σ := by
  have al : u.vm.Alike U.vm := by rw [hv]; exact Vm.Alike.refl _
  refine ⟨fun a ha => ?_, h.2⟩
  obtain ⟨q1, q2, q3⟩ := h.1 a ha
  exact ⟨fun e => by rw [hh]; exact (q1 e).moved al, fun e => by rw [hh]; exact (q2 e).moved al, fun e => ⟨by rw [hh]; exact (q3 e).1.moved al, by rw [hh]; exact (q3 e).2.1.moved al, by rw [hh]; exact (q3 e).2.2.moved al⟩⟩
/-- into a callee -/
theorem gf_into {G : xG} {s U : State} {H : Heap} {locs : List Loc} (hU : U.heap = H) (hW : s.WarmedH U.vm) (hS : va_S (gA G) s.heap H locs) (h : GF G s) : GF G U := by
  obtain ⟨h1, h2, h3, h4, h5, h6, h7, h8, h9⟩ := h
  have kp := hS.2.1
  exact ⟨h1.moved hW.alike, fun q hq => va_Nw.warmM hW (h2 q hq), va_Nw.warmC hW h3, fun C hC => (h4 C hC).moved hW.alike, fun j hj => vk_R.warm hW (h5 j hj), by rw [hU]; exact (h6.kept kp).moved hW.alike, by rw [hU]; exact (h7.kept kp).moved hW.alike, by rw [hU]; exact (h8.kept kp).moved hW.alike, by rw [hU]; exact Nat.le_trans h9.1 hS.1, h9.2⟩
theorem old_into {G : xG} {s U : State} {σ : xM} {H : Heap} {locs : List Loc} (hU : U.heap = H) (al : s.vm.Alike U.vm) (hS : va_S (gA G) s.heap H locs) (h : OLD G s σ) : OLD G U σ := by
  have kp := hS.2.1
  refine ⟨fun a ha => ?_, h.2⟩
  obtain ⟨q1, q2, q3⟩ := h.1 a ha
  exact ⟨fun e => by rw [hU]; exact ((q1 e).kept kp).moved al, fun e => by rw [hU]; exact ((q2 e).kept kp).moved al, fun e => ⟨by rw [hU]; exact ((q3 e).1.kept kp).moved al, by rw [hU]; exact ((q3 e).2.1.kept kp).moved al, by rw [hU]; exact ((q3 e).2.2.kept kp).moved al⟩⟩
/-- and back -/
theorem old_back {G : xG} {s t : State} {σ : xM} {H1 : Heap} {locs : List Loc} (ht : t.heap = H1) (al : s.vm.Alike t.vm) (hB : G.2.2.1 ≤ s.heap.size) (hS : va_S (gA G) s.heap H1 locs) (h : OLD G t σ) : OLD G s σ := by
  have kp : ∀ a : Nat, a < t.heap.size → ¬ gA G a → s.heap[a]? = t.heap[a]? := fun a _ ha => by
    rw [ht]
    exact (hS.2.1 a (Nat.lt_of_lt_of_le (Nat.not_le.mp ha) hB) ha).symm
  refine ⟨fun a ha => ?_, h.2⟩
  obtain ⟨q1, q2, q3⟩ := h.1 a ha
  exact ⟨fun e => ((q1 e).kept kp).moved al.symm, fun e => ((q2 e).kept kp).moved al.symm, fun e => ⟨((q3 e).1.kept kp).moved al.symm, ((q3 e).2.1.kept kp).moved al.symm, ((q3 e).2.2.kept kp).moved al.symm⟩⟩
def xle (σ σ' : xM) : Prop := σ.1 ≤ σ'.1 ∧ σ.2.1 ≤ σ'.2.1
theorem xle_rf {σ : xM} : xle σ σ := ⟨Nat.le_refl _, Nat.le_refl _⟩
theorem xle_tr {σ σ' σ'' : xM} (h : xle σ σ') (h' : xle σ' σ'') : xle σ σ'' := ⟨Nat.le_trans h.1 h'.1, Nat.le_trans h.2 h'.2⟩
theorem xle_new {σ : xM} {k n : Nat} : xle σ (xnew σ k n) := ⟨Nat.le_succ _, Nat.le_add_right _ _⟩
def szA (σ : xM) (a : xA) : Prop := match a with
  | .inl f => xle σ f.2.2.2
  | .inr (.inl (_, f)) => xle σ f.2.2.2
  | .inr (.inr (.inl (_, f1, f2))) => xle σ f1.2.2.2 ∧ xle σ f2.2.2.2
  | .inr (.inr (.inr (.inl (_, _, σ')))) => xle σ σ'
  | .inr (.inr (.inr (.inr (.inl (_, _, _, _, _, _, σ'))))) => xle σ σ'
  | .inr (.inr (.inr (.inr (.inr (.inl (_, _, _, _, _, σ')))))) => xle σ σ'
  | .inr (.inr (.inr (.inr (.inr (.inr ()))))) => True
def rmm (d mc ms : Nat) : Room := { frames := d, cells := mc, slots := ms, locals := 32 * d }
def PreM (G : xG) (as : List Value) (σ : xM) : Array Value → State → Prop := va_Pc as (fun U => GF G U ∧ Rp G σ U.heap ∧ OLD G U σ)
def PostM (G : xG) (r : Option Value) (σ' : xM) : Array Value → State → Outcome → State → Prop := fun _ st oc t => oc = .returned r ∧ Rp G σ' t.heap ∧ OLD G t σ' ∧ va_F (gA G) st t
def CallsOK (G : xG) (l : Launch) (d : Nat) (ev : xV) : Prop := ∀ (i : Nat) (as : List Value) (σ : xM) (r : Option Value) (σ' : xM), i < 202 → ev i as σ r σ' → xle σ σ' ∧ Met l (yy i) (mW i :: gt) (rmm d (σ'.1 - σ.1) (σ'.2.1 - σ.2.1)) (PreM G as σ) (PostM G r σ') (σ'.1 - σ.1) (σ'.2.1 - σ.2.1) (gA G)
def XC (G : xG) (p : Program) (s : State) (m : MethodId) (args : Array Value) (meth : Method) (c : Code) (own : String) (cc : ByteArray) (nL : Nat) (ret : Option FieldType) (nm : String) : Prop :=
  p.tables.exec = Jvm.exec ∧ c.code = cc ∧ meth.sig.returnType = ret ∧ c.maxLocals = nL ∧ s.vm.findClass own = some m.cls ∧ (∀ w ∈ gt, w.before args s = true) ∧ meth.locks = false ∧ GF G s ∧ meth.name = nm
def Ret (r : Option Value) (ret : Option FieldType) (ins : Instr) (st : List Value) : Prop :=
  (ins = .ireturn ∧ ∃ (x : Int32) (ty : FieldType), ret = some ty ∧ narrow ty (.int x) = .int x ∧ r = some (.int x) ∧ st = [.int x]) ∨ (ins = .lreturn ∧ ∃ x : Int64, ret = some .long ∧ r = some (.long x) ∧ st = [.long x]) ∨
  (ins = .areturn ∧ ∃ (v : Value) (ty : FieldType), ret = some ty ∧ ((∃ n, ty = .object n) ∨ ∃ t, ty = .array t) ∧ (v = .null ∨ ∃ a, v = .ref a) ∧ r = some v ∧ st = [v]) ∨ (ins = .return_ ∧ ret = none ∧ r = none ∧ st = [])
section SIM
variable (G : xG) (p : Program) (l : Launch) (e : Env) (R : Room) (s : State) (m : MethodId) (args : Array Value) (below : List Frame) (meth : Method) (c : Code) (nL : Nat) (σ0 : xM) (Q : State → Prop)
def WW (f : xF) : Prop := ∀ (H : Heap) (locs : List Loc) (ls : Array Slot), Rp G f.2.2.2 H → OLD G s f.2.2.2 → va_S (gA G) s.heap H locs → lv_has ls nL f.2.1 →
  W p l e R s m args below meth c H locs (f.2.2.2.1 - σ0.1) (f.2.2.2.2.1 - σ0.2.1) Q (F0 m f.1 ls f.2.2.1)
def RetOK (cc : ByteArray) (ret : Option FieldType) (rf : Option Value) (σf : xM) : Prop := ∀ (pc : Nat) (ls : Array Slot) (st : List Value) (H : Heap) (locs : List Loc) (ins : Instr), Ret rf ret ins st → decode cc pc = .ok (ins, 1) → Rp G σf H → OLD G s σf → va_S (gA G) s.heap H locs →
  W p l e R s m args below meth c H locs (σf.1 - σ0.1) (σf.2.1 - σ0.2.1) Q (F0 m pc ls st)
end SIM
/-- an instruction of the pure machine is the one at pc -/
def JJ (own : String) (cc : ByteArray) (nL : Nat) (ret : Option FieldType) (nm : String) (pc : Nat) (I : xI) : Prop :=
  (∀ ls st σ, szA σ (I ls st σ)) ∧ ∀ (G : xG) (p : Program) (l : Launch) (e : Env) (R : Room) (s : State) (m : MethodId) (args : Array Value) (below : List Frame) (meth : Method) (c : Code) (σ0 : xM) (Q : State → Prop) (d : Nat) (ev : xV) (rf : Option Value) (σf : xM),
    XC G p s m args meth c own cc nL ret nm → CallsOK G l d ev → (d + 1 ≤ R.frames ∧ 32 * (d + 1) ≤ R.locals) → (σf.1 - σ0.1 ≤ R.cells ∧ σf.2.1 - σ0.2.1 ≤ R.slots) → RetOK G p l e R s m args below meth c σ0 Q cc ret rf σf →
    ∀ (ls : xL) (st : List Value) (σ : xM), xle σ0 σ → wpA ev (fun r' s' => r' = rf ∧ s' = σf) (fun f => xle f.2.2.2 σf ∧ (xle σ0 f.2.2.2 → WW G p l e R s m args below meth c nL σ0 Q f)) (I ls st σ) → WW G p l e R s m args below meth c nL σ0 Q (pc, ls, st, σ)
