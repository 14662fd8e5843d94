/-! THE PURE MACHINE. A memory is: the next address, the slots made so far, and of each address a cell: kind, length, numbers, references (0: null).
A configuration: pc, locals, stack, memory. An instruction is a function to an action; wpE: the machine comes to its end with Q. -/
abbrev xL : Type := List (Nat × Value)
abbrev xC : Type := Nat × Nat × (Nat → Int32) × (Nat → Nat)
abbrev xM : Type := Nat × Nat × (Nat → xC)
abbrev xF : Type := Nat × xL × List Value × xM
abbrev xA : Type := xF ⊕ (Prop × xF) ⊕ (Prop × xF × xF) ⊕ (Prop × Option Value × xM) ⊕ (Prop × Nat × List Value × Nat × xL × List Value × xM) ⊕ (Int32 × List (Int32 × Nat) × Nat × xL × List Value × xM) ⊕ Unit
abbrev xI : Type := xL → List Value → xM → xA
abbrev xV : Type := Nat → List Value → xM → Option Value → xM → Prop
abbrev aGo (f : xF) : xA := .inl f
abbrev aGd (g : Prop) (f : xF) : xA := .inr (.inl (g, f))
abbrev aBr (c : Prop) (f1 f2 : xF) : xA := .inr (.inr (.inl (c, f1, f2)))
abbrev aRt (g : Prop) (r : Option Value) (σ : xM) : xA := .inr (.inr (.inr (.inl (g, r, σ))))
abbrev aCl (g : Prop) (i : Nat) (as : List Value) (nx : Nat) (ls : xL) (st : List Value) (σ : xM) : xA := .inr (.inr (.inr (.inr (.inl (g, i, as, nx, ls, st, σ)))))
abbrev aSw (x : Int32) (cs : List (Int32 × Nat)) (d : Nat) (ls : xL) (st : List Value) (σ : xM) : xA := .inr (.inr (.inr (.inr (.inr (.inl (x, cs, d, ls, st, σ))))))
abbrev aNo : xA := .inr (.inr (.inr (.inr (.inr (.inr ())))))
def wpSw (x : Int32) (k : Nat → Prop) (d : Nat) : List (Int32 × Nat) → Prop
  | [] => k d
  | (c, t) :: r => (x = c → k t) ∧ (¬ x = c → wpSw x k d r)
def wpA (ev : xV) (Q : Option Value → xM → Prop) (k : xF → Prop) (a : xA) : Prop := match a with
  | .inl f => k f
  | .inr (.inl (g, f)) => g ∧ k f
  | .inr (.inr (.inl (c, f1, f2))) => (c → k f1) ∧ (¬ c → k f2)
  | .inr (.inr (.inr (.inl (g, r, σ)))) => g ∧ Q r σ
  | .inr (.inr (.inr (.inr (.inl (g, i, as, nx, ls, st, σ))))) => g ∧ ∃ r σ', ev i as σ r σ' ∧ k (nx, ls, r.toList ++ st, σ')
  | .inr (.inr (.inr (.inr (.inr (.inl (x, cs, d, ls, st, σ)))))) => wpSw x (fun t => k (t, ls, st, σ)) d cs
  | .inr (.inr (.inr (.inr (.inr (.inr ()))))) => False
def wpR (C : Nat → xI) (ev : xV) (Q : Option Value → xM → Prop) : Nat → xF → Prop
  | 0, _ => False
  | n + 1, f => wpA ev Q (wpR C ev Q n) (C f.1 f.2.1 f.2.2.1 f.2.2.2)
def wpE (C : Nat → xI) (ev : xV) (Q : Option Value → xM → Prop) (f : xF) : Prop := ∃ n, wpR C ev Q n f
theorem wpSw_mono {x : Int32} {k k' : Nat → Prop} {d : Nat} (h : ∀ t, k t → k' t) : ∀ {cs : List (Int32 × Nat)}, wpSw x k d cs → wpSw x k' d cs
  | [], w => h _ w
  | (_, _) :: _, w => ⟨fun e => h _ (w.1 e), fun e => wpSw_mono h (w.2 e)⟩
theorem wpA_mono {ev ev' : xV} {Q Q' : Option Value → xM → Prop} {k k' : xF → Prop} (he : ∀ i as σ r σ', ev i as σ r σ' → ev' i as σ r σ') (hq : ∀ r σ, Q r σ → Q' r σ) (h : ∀ f, k f → k' f) : ∀ {a : xA}, wpA ev Q k a → wpA ev' Q' k' a
  | .inl _, w => h _ w
  | .inr (.inl (_, _)), w => ⟨w.1, h _ w.2⟩
  | .inr (.inr (.inl (_, _, _))), w => ⟨fun e => h _ (w.1 e), fun e => h _ (w.2 e)⟩
  | .inr (.inr (.inr (.inl (_, _, _)))), w => ⟨w.1, hq _ _ w.2⟩
  | .inr (.inr (.inr (.inr (.inl (_, _, _, _, _, _, _))))), w => by
    obtain ⟨g, r, σ', h1, h2⟩ := w
    exact ⟨g, r, σ', he _ _ _ _ _ h1, h _ h2⟩
  | .inr (.inr (.inr (.inr (.inr (.inl (_, _, _, _, _, _)))))), w => wpSw_mono (fun _ => h _) w
  | .inr (.inr (.inr (.inr (.inr (.inr ()))))), w => w
theorem wpR_mono {C : Nat → xI} {ev ev' : xV} {Q Q' : Option Value → xM → Prop} (he : ∀ i as σ r σ', ev i as σ r σ' → ev' i as σ r σ') (hq : ∀ r σ, Q r σ → Q' r σ) : ∀ {n m : Nat} {f : xF}, n ≤ m → wpR C ev Q n f → wpR C ev' Q' m f
  | 0, _, _, _, w => w.elim
  | n + 1, 0, _, h, _ => absurd h (Nat.not_succ_le_zero n)
  | _ + 1, _ + 1, _, h, w => wpA_mono he hq (fun _ => wpR_mono he hq (Nat.le_of_succ_le_succ h)) w
theorem wpE_mono {C : Nat → xI} {ev ev' : xV} {Q Q' : Option Value → xM → Prop} (he : ∀ i as σ r σ', ev i as σ r σ' → ev' i as σ r σ') (hq : ∀ r σ, Q r σ → Q' r σ) {f : xF} : wpE C ev Q f → wpE C ev' Q' f
  | ⟨n, w⟩ => ⟨n, wpR_mono he hq (Nat.le_refl n) w⟩
theorem wpSw_ex {C : Nat → xI} {ev : xV} {Q : Option Value → xM → Prop} {x : Int32} {d : Nat} {ls : xL} {st : List Value} {σ : xM} : ∀ {cs : List (Int32 × Nat)}, wpSw x (fun t => wpE C ev Q (t, ls, st, σ)) d cs → ∃ n, wpSw x (fun t => wpR C ev Q n (t, ls, st, σ)) d cs
  | [], w => w
  | (c, t) :: r, w => by
    by_cases e : x = c
    · obtain ⟨n, h⟩ := w.1 e
      exact ⟨n, fun _ => h, fun e' => absurd e e'⟩
    · obtain ⟨n, h⟩ := wpSw_ex (w.2 e)
      exact ⟨n, fun e' => absurd e' e, fun _ => h⟩
/-- one step -/
theorem wpE_step {C : Nat → xI} {ev : xV} {Q : Option Value → xM → Prop} {f : xF} (w : wpA ev Q (wpE C ev Q) (C f.1 f.2.1 f.2.2.1 f.2.2.2)) : wpE C ev Q f := by
  have key : ∀ a : xA, wpA ev Q (wpE C ev Q) a → ∃ n, wpA ev Q (wpR C ev Q n) a := by
    intro a w
    match a, w with
    | .inl _, ⟨n, w⟩ => exact ⟨n, w⟩
    | .inr (.inl (_, _)), ⟨g, n, w⟩ => exact ⟨n, g, w⟩
    | .inr (.inr (.inl (c, f1, f2))), w =>
      by_cases e : c
      · obtain ⟨n, h⟩ := w.1 e
        exact ⟨n, fun _ => h, fun e' => absurd e e'⟩
      · obtain ⟨n, h⟩ := w.2 e
        exact ⟨n, fun e' => absurd e' e, fun _ => h⟩
    | .inr (.inr (.inr (.inl (_, _, _)))), w => exact ⟨0, w⟩
    | .inr (.inr (.inr (.inr (.inl (_, _, _, _, _, _, _))))), ⟨g, r, σ', h1, n, h2⟩ => exact ⟨n, g, r, σ', h1, h2⟩
    | .inr (.inr (.inr (.inr (.inr (.inl (_, _, _, _, _, _)))))), w => exact wpSw_ex w
    | .inr (.inr (.inr (.inr (.inr (.inr ()))))), w => exact w.elim
  obtain ⟨n, h⟩ := key _ w
  exact ⟨n + 1, h⟩
/-- many steps: k of them, or up to a call's answer -/
def wpK (C : Nat → xI) (ev : xV) (Q : Option Value → xM → Prop) : Nat → xF → Prop
  | 0, f => wpE C ev Q f
  | n + 1, f => wpA ev Q (wpK C ev Q n) (C f.1 f.2.1 f.2.2.1 f.2.2.2)
theorem wpK_E {C : Nat → xI} {ev : xV} {Q : Option Value → xM → Prop} : ∀ (n : Nat) {f : xF}, wpK C ev Q n f → wpE C ev Q f
  | 0, _, w => w
  | n + 1, _, w => wpE_step (wpA_mono (fun _ _ _ _ _ h => h) (fun _ _ h => h) (fun _ => wpK_E n) w)
theorem wpSw_wit {P : (Option Value → xM → Prop) → Nat → Prop} {Q : Option Value → xM → Prop} {x : Int32} {d : Nat} (h : ∀ t, P Q t → ∃ r σ', Q r σ' ∧ P (fun r' s' => r' = r ∧ s' = σ') t) : ∀ {cs : List (Int32 × Nat)}, wpSw x (P Q) d cs → ∃ r σ', Q r σ' ∧ wpSw x (P (fun r' s' => r' = r ∧ s' = σ')) d cs
  | [], w => h _ w
  | (c, t) :: r, w => by
    by_cases e : x = c
    · obtain ⟨a, b, h1, h2⟩ := h _ (w.1 e)
      exact ⟨a, b, h1, fun _ => h2, fun e' => absurd e e'⟩
    · obtain ⟨a, b, h1, h2⟩ := wpSw_wit h (w.2 e)
      exact ⟨a, b, h1, fun e' => absurd e' e, fun _ => h2⟩
/-- an end has an answer and a memory -/
theorem wpR_wit {C : Nat → xI} {ev : xV} {Q : Option Value → xM → Prop} : ∀ {n : Nat} {f : xF}, wpR C ev Q n f → ∃ r σ', Q r σ' ∧ wpR C ev (fun r' s' => r' = r ∧ s' = σ') n f
  | 0, _, w => w.elim
  | n + 1, f, w => by
    have key : ∀ a : xA, wpA ev Q (wpR C ev Q n) a → ∃ r σ', Q r σ' ∧ wpA ev (fun r' s' => r' = r ∧ s' = σ') (wpR C ev (fun r' s' => r' = r ∧ s' = σ') n) a := by
      intro a w
      match a, w with
      | .inl _, w => exact wpR_wit w
      | .inr (.inl (_, _)), ⟨g, w⟩ =>
        obtain ⟨a, b, h1, h2⟩ := wpR_wit w
        exact ⟨a, b, h1, g, h2⟩
      | .inr (.inr (.inl (c, f1, f2))), w =>
        by_cases e : c
        · obtain ⟨a, b, h1, h2⟩ := wpR_wit (w.1 e)
          exact ⟨a, b, h1, fun _ => h2, fun e' => absurd e e'⟩
        · obtain ⟨a, b, h1, h2⟩ := wpR_wit (w.2 e)
          exact ⟨a, b, h1, fun e' => absurd e' e, fun _ => h2⟩
      | .inr (.inr (.inr (.inl (_, r, σ)))), ⟨g, w⟩ => exact ⟨r, σ, w, g, rfl, rfl⟩
      | .inr (.inr (.inr (.inr (.inl (_, _, _, _, _, _, _))))), ⟨g, r, σ', h1, h2⟩ =>
        obtain ⟨a, b, h3, h4⟩ := wpR_wit h2
        exact ⟨a, b, h3, g, r, σ', h1, h4⟩
      | .inr (.inr (.inr (.inr (.inr (.inl (x, cs, d, ls, st, σ)))))), w =>
        exact wpSw_wit (P := fun Q t => wpR C ev Q n (t, ls, st, σ)) (fun t h => wpR_wit h) w
      | .inr (.inr (.inr (.inr (.inr (.inr ()))))), w => exact w.elim
    exact key _ w
def csum (st : List Value) : Nat := (st.map fun v => v.category).sum
/-- a method's run, by the depth of its calls -/
def xev (T : Nat → Nat → xI) : Nat → xV
  | 0, _, _, _, _, _ => False
  | d + 1, i, as, σ, r, σ' => csum as ≤ mL i ∧ wpE (T i) (xev T d) (fun r' s' => r' = r ∧ s' = σ') (0, lv_args 0 as, [], σ)
theorem xev_le {T : Nat → Nat → xI} : ∀ {d d' : Nat}, d ≤ d' → ∀ {i : Nat} {as : List Value} {σ : xM} {r : Option Value} {σ' : xM}, xev T d i as σ r σ' → xev T d' i as σ r σ'
  | 0, _, _, _, _, _, _, _, w => w.elim
  | d + 1, 0, h, _, _, _, _, _, _ => absurd h (Nat.not_succ_le_zero d)
  | _ + 1, _ + 1, h, _, _, _, _, _, w => ⟨w.1, wpE_mono (fun _ _ _ _ _ => xev_le (Nat.le_of_succ_le_succ h)) (fun _ _ q => q) w.2⟩
theorem xev_of {T : Nat → Nat → xI} {d i : Nat} {as : List Value} {σ : xM} {Q : Option Value → xM → Prop} (hc : csum as ≤ mL i) (w : wpE (T i) (xev T d) Q (0, lv_args 0 as, [], σ)) : ∃ r σ', xev T (d + 1) i as σ r σ' ∧ Q r σ' := by
  obtain ⟨n, w⟩ := w
  obtain ⟨r, σ', h1, h2⟩ := wpR_wit w
  exact ⟨r, σ', ⟨hc, n, h2⟩, h1⟩
/-! THE INSTRUCTIONS -/
abbrev kd (σ : xM) (a : Nat) : Nat := (σ.2.2 a).1
abbrev ln (σ : xM) (a : Nat) : Nat := (σ.2.2 a).2.1
abbrev xi (σ : xM) (a j : Nat) : Int32 := (σ.2.2 a).2.2.1 j
abbrev xp (σ : xM) (a j : Nat) : Nat := (σ.2.2 a).2.2.2 j
def xset (σ : xM) (a : Nat) (c : xC) : xM := (σ.1, σ.2.1, fun b => if b = a then c else σ.2.2 b)
def xpi (σ : xM) (a j : Nat) (v : Int32) : xM := xset σ a (kd σ a, ln σ a, upd (σ.2.2 a).2.2.1 j v, (σ.2.2 a).2.2.2)
def xpp (σ : xM) (a j : Nat) (v : Nat) : xM := xset σ a (kd σ a, ln σ a, (σ.2.2 a).2.2.1, va_up (σ.2.2 a).2.2.2 j v)
def xnew (σ : xM) (k n : Nat) : xM := (σ.1 + 1, σ.2.1 + n, fun b => if b = σ.1 then (k, n, fun _ => 0, fun _ => 0) else σ.2.2 b)
def xlk (k : Nat) : xL → Option Value
  | [] => none
  | (j, v) :: r => if j = k then some v else xlk k r
def xst (k : Nat) (v : Value) (ls : xL) : xL := (k, v) :: ls.filter (fun q => !(q.1 == k) && !(q.1 + 1 == k && q.2.category == 2))
def xst2 (k : Nat) (v : Value) (ls : xL) : xL := (k, v) :: ls.filter (fun q => !(q.1 == k) && (!(q.1 == k + 1) && !(q.1 + 1 == k && q.2.category == 2)))
def oPush (v : Value) (nx : Nat) : xI := fun ls st σ => aGo (nx, ls, v :: st, σ)
def oIld (k nx : Nat) : xI := fun ls st σ => match xlk k ls with
  | some (.int x) => aGo (nx, ls, .int x :: st, σ)
  | _ => aNo
def oLld (k nx : Nat) : xI := fun ls st σ => match xlk k ls with
  | some (.long x) => aGo (nx, ls, .long x :: st, σ)
  | _ => aNo
def oAld (k nx : Nat) : xI := fun ls st σ => match xlk k ls with
  | some (.ref x) => aGo (nx, ls, .ref x :: st, σ)
  | some .null => aGo (nx, ls, .null :: st, σ)
  | _ => aNo
def oIst (k nx nL : Nat) : xI := fun ls st σ => match st with
  | .int x :: r => aGd (k < nL) (nx, xst k (.int x) ls, r, σ)
  | _ => aNo
def oLst (k nx nL : Nat) : xI := fun ls st σ => match st with
  | .long x :: r => aGd (k + 1 < nL) (nx, xst2 k (.long x) ls, r, σ)
  | _ => aNo
def oAst (k nx nL : Nat) : xI := fun ls st σ => match st with
  | .ref x :: r => aGd (k < nL) (nx, xst k (.ref x) ls, r, σ)
  | .null :: r => aGd (k < nL) (nx, xst k .null ls, r, σ)
  | _ => aNo
def oIinc (k : Nat) (v : Int32) (nx nL : Nat) : xI := fun ls st σ => match xlk k ls with
  | some (.int x) => aGd (k < nL) (nx, xst k (.int (x + v)) ls, st, σ)
  | _ => aNo
def oBin (op : Int32 → Int32 → Int32) (nx : Nat) : xI := fun ls st σ => match st with
  | .int y :: .int x :: r => aGo (nx, ls, .int (op x y) :: r, σ)
  | _ => aNo
def oDiv (op : Int32 → Int32 → Int32) (nx : Nat) : xI := fun ls st σ => match st with
  | .int y :: .int x :: r => aGd (¬ y = 0) (nx, ls, .int (op x y) :: r, σ)
  | _ => aNo
def oUn (op : Int32 → Int32) (nx : Nat) : xI := fun ls st σ => match st with
  | .int x :: r => aGo (nx, ls, .int (op x) :: r, σ)
  | _ => aNo
def oBinL (op : Int64 → Int64 → Int64) (nx : Nat) : xI := fun ls st σ => match st with
  | .long y :: .long x :: r => aGo (nx, ls, .long (op x y) :: r, σ)
  | _ => aNo
def oShL (op : Int64 → Int32 → Int64) (nx : Nat) : xI := fun ls st σ => match st with
  | .int y :: .long x :: r => aGo (nx, ls, .long (op x y) :: r, σ)
  | _ => aNo
def oI2l (nx : Nat) : xI := fun ls st σ => match st with
  | .int x :: r => aGo (nx, ls, .long x.toInt64 :: r, σ)
  | _ => aNo
def oL2i (nx : Nat) : xI := fun ls st σ => match st with
  | .long x :: r => aGo (nx, ls, .int x.toInt32 :: r, σ)
  | _ => aNo
def oLcmp (nx : Nat) : xI := fun ls st σ => match st with
  | .long y :: .long x :: r => aGo (nx, ls, .int (lg_cmp x y) :: r, σ)
  | _ => aNo
def oDup (nx : Nat) : xI := fun ls st σ => match st with
  | v :: r => aGd (v.category = 1) (nx, ls, v :: v :: r, σ)
  | _ => aNo
def oPop (nx : Nat) : xI := fun ls st σ => match st with
  | v :: r => aGd (v.category = 1) (nx, ls, r, σ)
  | _ => aNo
def oDup2 (nx : Nat) : xI := fun ls st σ => match st with
  | v :: w :: r => aGd (v.category = 1 ∧ w.category = 1) (nx, ls, v :: w :: v :: w :: r, σ)
  | _ => aNo
def oIf (c : Int32 → Prop) (tgt nx : Nat) : xI := fun ls st σ => match st with
  | .int x :: r => aBr (c x) (tgt, ls, r, σ) (nx, ls, r, σ)
  | _ => aNo
def oIcmp (c : Int32 → Int32 → Prop) (tgt nx : Nat) : xI := fun ls st σ => match st with
  | .int y :: .int x :: r => aBr (c x y) (tgt, ls, r, σ) (nx, ls, r, σ)
  | _ => aNo
def oGoto (tgt : Nat) : xI := fun ls st σ => aGo (tgt, ls, st, σ)
def oIfn (tgtNull tgtRef : Nat) : xI := fun ls st σ => match st with
  | .null :: r => aGo (tgtNull, ls, r, σ)
  | .ref _ :: r => aGo (tgtRef, ls, r, σ)
  | _ => aNo
def oSw (cs : List (Int32 × Nat)) (d : Nat) : xI := fun ls st σ => match st with
  | .int x :: r => aSw x cs d ls r σ
  | _ => aNo
/-- a number of an object of class c (kind c + 1) -/
def oGeti (c j nx : Nat) : xI := fun ls st σ => match st with
  | .ref a :: r => aGd (kd σ a = c + 1) (nx, ls, .int (xi σ a j) :: r, σ)
  | _ => aNo
/-- a reference that isn't null -/
def oGetp (c j nx : Nat) : xI := fun ls st σ => match st with
  | .ref a :: r => aGd (kd σ a = c + 1 ∧ ¬ xp σ a j = 0) (nx, ls, .ref (xp σ a j) :: r, σ)
  | _ => aNo
/-- a reference, perhaps null -/
def oGetz (c j nx : Nat) : xI := fun ls st σ => match st with
  | .ref a :: r => aGd (kd σ a = c + 1) (nx, ls, (if xp σ a j = 0 then .null else .ref (xp σ a j)) :: r, σ)
  | _ => aNo
def oPuti (c j nx : Nat) : xI := fun ls st σ => match st with
  | .int v :: .ref a :: r => aGd (kd σ a = c + 1) (nx, ls, r, xpi σ a j v)
  | _ => aNo
def oPutb (c j nx : Nat) : xI := fun ls st σ => match st with
  | .int v :: .ref a :: r => aGd (kd σ a = c + 1 ∧ (v = 0 ∨ v = 1)) (nx, ls, r, xpi σ a j v)
  | _ => aNo
def oPutp (c j nx : Nat) : xI := fun ls st σ => match st with
  | .ref v :: .ref a :: r => aGd (kd σ a = c + 1 ∧ ¬ v = 0) (nx, ls, r, xpp σ a j v)
  | .null :: .ref a :: r => aGd (kd σ a = c + 1) (nx, ls, r, xpp σ a j 0)
  | _ => aNo
/-- an array of numbers of kind k: 20 int, 21 byte, 22 boolean, 40 old ints -/
def oAldi (k nx : Nat) : xI := fun ls st σ => match st with
  | .int i :: .ref a :: r => aGd (kd σ a = k ∧ vp_in i (ln σ a)) (nx, ls, .int (xi σ a i.toNatClampNeg) :: r, σ)
  | _ => aNo
def oAsti (k : Nat) (nar : Int32 → Int32) (nx : Nat) : xI := fun ls st σ => match st with
  | .int v :: .int i :: .ref a :: r => aGd (kd σ a = k ∧ vp_in i (ln σ a)) (nx, ls, r, xpi σ a i.toNatClampNeg (nar v))
  | _ => aNo
def oAldp (k nx : Nat) : xI := fun ls st σ => match st with
  | .int i :: .ref a :: r => aGd (kd σ a = k ∧ vp_in i (ln σ a) ∧ ¬ xp σ a i.toNatClampNeg = 0) (nx, ls, .ref (xp σ a i.toNatClampNeg) :: r, σ)
  | _ => aNo
/-- an object of class c into an array of kind k -/
def oAstp (k c nx : Nat) : xI := fun ls st σ => match st with
  | .ref v :: .int i :: .ref a :: r => aGd (kd σ a = k ∧ vp_in i (ln σ a) ∧ kd σ v = c + 1 ∧ ¬ v = 0) (nx, ls, r, xpp σ a i.toNatClampNeg v)
  | _ => aNo
def oLen (k nx : Nat) : xI := fun ls st σ => match st with
  | .ref a :: r => aGd (kd σ a = k) (nx, ls, .int (Int32.ofNat (ln σ a)) :: r, σ)
  | _ => aNo
def oNewa (k nx : Nat) : xI := fun ls st σ => match st with
  | .int n :: r => aGd (¬ n < 0 ∧ n.toNatClampNeg ≤ 100000) (nx, ls, .ref σ.1 :: r, xnew σ k n.toNatClampNeg)
  | _ => aNo
def oNew (c N nx : Nat) : xI := fun ls st σ => aGo (nx, ls, .ref σ.1 :: st, xnew σ (c + 1) N)
def oObj (nx : Nat) : xI := fun ls st σ => match st with
  | .ref _ :: r => aGd (csum r ≤ 8) (nx, ls, r, σ)
  | _ => aNo
/-- a call of method i with n arguments (the object among them, if there is one) -/
def oCallS (i n nx : Nat) : xI := fun ls st σ => aCl (n ≤ st.length ∧ csum (st.drop n) ≤ 8) i (st.take n).reverse nx ls (st.drop n) σ
def oCallI (i n nx : Nat) : xI := fun ls st σ => match (st.take n).reverse with
  | .ref b :: as => aCl (n ≤ st.length ∧ csum (st.drop n) ≤ 8) i (.ref b :: as) nx ls (st.drop n) σ
  | _ => aNo
def oCallV (k i n nx : Nat) : xI := fun ls st σ => match (st.take n).reverse with
  | .ref b :: as => aCl (n ≤ st.length ∧ csum (st.drop n) ≤ 8 ∧ kd σ b = k) i (.ref b :: as) nx ls (st.drop n) σ
  | _ => aNo
/-- a call of a String's method -/
def oCallW (i n nx : Nat) : xI := fun ls st σ => match (st.take n).reverse with
  | .ref b :: as => aCl (n ≤ st.length ∧ csum (st.drop n) ≤ 8 ∧ (kd σ b = 41 ∨ kd σ b = 43)) i (.ref b :: as) nx ls (st.drop n) σ
  | _ => aNo
/-- a String's bytes -/
def oAldB (nx : Nat) : xI := fun ls st σ => match st with
  | .int i :: .ref a :: r => aGd ((kd σ a = 42 ∨ kd σ a = 43) ∧ vp_in i (ln σ a)) (nx, ls, .int (xi σ a i.toNatClampNeg) :: r, σ)
  | _ => aNo
def oLenB (nx : Nat) : xI := fun ls st σ => match st with
  | .ref a :: r => aGd (kd σ a = 42 ∨ kd σ a = 43) (nx, ls, .int (Int32.ofNat (ln σ a)) :: r, σ)
  | _ => aNo
/-- global references (constants and statics): the references of the cell 0, each told as 1 more -/
def oGref (j nx : Nat) : xI := fun ls st σ => aGd (¬ xp σ 0 j = 0) (nx, ls, .ref (xp σ 0 j - 1) :: st, σ)
def oGrefz (j nx : Nat) : xI := fun ls st σ => aGo (nx, ls, (if xp σ 0 j = 0 then .null else .ref (xp σ 0 j - 1)) :: st, σ)
def oGetSv (nx : Nat) : xI := fun ls st σ => match st with
  | .ref a :: r => aGd (kd σ a = 41 ∨ kd σ a = 43) (nx, ls, .ref (xp σ a 30) :: r, σ)
  | _ => aNo
def oGetSc (nx : Nat) : xI := fun ls st σ => match st with
  | .ref a :: r => aGd (kd σ a = 41 ∨ kd σ a = 43) (nx, ls, .int 0 :: r, σ)
  | _ => aNo
def xcl (σ : xM) (a : Nat) : xM := (σ.1 + 1, σ.2.1 + ln σ a, fun b => if b = σ.1 then (20, ln σ a, (σ.2.2 a).2.2.1, fun _ => 0) else σ.2.2 b)
def oClone (nx : Nat) : xI := fun ls st σ => match st with
  | .ref a :: r => aGd (kd σ a = 20 ∧ csum r ≤ 8) (nx, ls, .ref σ.1 :: r, xcl σ a)
  | _ => aNo
def oCast (nx : Nat) : xI := fun ls st σ => match st with
  | .ref a :: r => aGd (kd σ a = 20) (nx, ls, .ref a :: r, σ)
  | _ => aNo
def oCopy (nx : Nat) : xI := fun ls st σ => match st with
  | .int n :: .int dp :: .ref a :: .int sp :: .ref b :: r => aGd (kd σ a = 20 ∧ kd σ b = 20 ∧ ¬ sp < 0 ∧ ¬ dp < 0 ∧ ¬ n < 0 ∧ sp.toNatClampNeg + n.toNatClampNeg ≤ ln σ b ∧ dp.toNatClampNeg + n.toNatClampNeg ≤ ln σ a ∧ csum r ≤ 8) (nx, ls, r, xset σ a (20, ln σ a, va_cpy (σ.2.2 b).2.2.1 (σ.2.2 a).2.2.1 sp.toNatClampNeg dp.toNatClampNeg n.toNatClampNeg, (σ.2.2 a).2.2.2))
  | _ => aNo
def oRi (g : Int32 → Prop) : xI := fun _ st σ => match st with
  | [.int x] => aRt (g x) (some (.int x)) σ
  | _ => aNo
def oRl : xI := fun _ st σ => match st with
  | [.long x] => aRt True (some (.long x)) σ
  | _ => aNo
def oRa : xI := fun _ st σ => match st with
  | [.ref x] => aRt True (some (.ref x)) σ
  | [.null] => aRt True (some .null) σ
  | _ => aNo
def oRv : xI := fun _ st σ => match st with
  | [] => aRt True none σ
  | _ => aNo
def oMax (nx : Nat) : xI := oBin (fun x y => if x < y then y else x) nx
/-- at a join: the locals that live there, in their order -/
def xcan (ks : List Nat) (ls : xL) : xL := ks.filterMap (fun k => (xlk k ls).map (fun v => (k, v)))
def oTr (ks : List Nat) (I : xI) : xI := fun ls st σ => I (xcan ks ls) st σ
theorem wpE_loc {C : Nat → xI} {ev : xV} {Q : Option Value → xM → Prop} {pc : Nat} {ls ls' : xL} {st : List Value} {σ : xM} (h : C pc ls st σ = C pc ls' st σ) (w : wpE C ev Q (pc, ls', st, σ)) : wpE C ev Q (pc, ls, st, σ) := by
  obtain ⟨n, w⟩ := w
  match n, w with
  | 0, w => exact w.elim
  | n + 1, w =>
    refine ⟨n + 1, ?_⟩
    show wpA ev Q (wpR C ev Q n) (C pc ls st σ)
    rw [h]
    exact w
