/-! A MEMORY BY ITS PARTS: next address, slots, kinds, lengths, numbers, references -/
def Mm (sz sl : Nat) (K L : Nat → Nat) (κ : Nat → Nat → Int32) (ρ : Nat → Nat → Nat) : xM := (sz, sl, fun a => (K a, L a, κ a, ρ a))
def UR (ρ : Nat → Nat → Nat) (a j v : Nat) : Nat → Nat → Nat := fun b k => if b = a ∧ k = j then v else ρ b k
def Z0 (κ : Nat → Nat → Int32) (a : Nat) : Nat → Nat → Int32 := fun b k => if b = a then 0 else κ b k
def ZR (ρ : Nat → Nat → Nat) (a : Nat) : Nat → Nat → Nat := fun b k => if b = a then 0 else ρ b k
def CP (κ : Nat → Nat → Int32) (b a sp dp n : Nat) : Nat → Nat → Int32 := va_up κ a (va_cpy (κ b) (κ a) sp dp n)
theorem xM_ext {σ σ' : xM} (h1 : σ.1 = σ'.1) (h2 : σ.2.1 = σ'.2.1) (h3 : ∀ a, σ.2.2 a = σ'.2.2 a) : σ = σ' := by
  obtain ⟨a, b, c⟩ := σ
  obtain ⟨a', b', c'⟩ := σ'
  simp only at h1 h2 h3
  subst h1; subst h2
  rw [show c = c' from funext h3]
section MM
variable {sz sl : Nat} {K L : Nat → Nat} {κ : Nat → Nat → Int32} {ρ : Nat → Nat → Nat}
theorem mm_xpi {a j : Nat} {v : Int32} : xpi (Mm sz sl K L κ ρ) a j v = Mm sz sl K L (U κ a j v) ρ := by
  refine xM_ext rfl rfl fun b => ?_
  by_cases e : b = a
  · subst e
    simp only [xpi, xset, Mm, if_pos, kd, ln]
    congr 3
    funext k
    simp [U, upd]
  · simp only [xpi, xset, Mm, if_neg e]
    congr 3
    funext k
    simp [U, e]
theorem mm_xpp {a j v : Nat} : xpp (Mm sz sl K L κ ρ) a j v = Mm sz sl K L κ (UR ρ a j v) := by
  refine xM_ext rfl rfl fun b => ?_
  by_cases e : b = a
  · subst e
    simp only [xpp, xset, Mm, if_pos, kd, ln]
    congr 3
    funext k
    simp [UR, va_up]
  · simp only [xpp, xset, Mm, if_neg e]
    congr 3
    funext k
    simp [UR, e]
theorem mm_new {k n : Nat} : xnew (Mm sz sl K L κ ρ) k n = Mm (sz + 1) (sl + n) (va_up K sz k) (va_up L sz n) (Z0 κ sz) (ZR ρ sz) := by
  refine xM_ext rfl rfl fun b => ?_
  by_cases e : b = sz
  · subst e
    simp only [xnew, Mm, if_pos, va_up]
    congr 3 <;> funext j <;> simp [Z0, ZR]
  · have e1 : Z0 κ sz b = κ b := by funext j; simp [Z0, e]
    have e2 : ZR ρ sz b = ρ b := by funext j; simp [ZR, e]
    show (if b = sz then ((k, n, fun _ => 0, fun _ => 0) : xC) else (K b, L b, κ b, ρ b)) = (va_up K sz k b, va_up L sz n b, Z0 κ sz b, ZR ρ sz b)
    rw [if_neg e, e1, e2, va_up_ne _ _ e, va_up_ne _ _ e]
variable {C : Nat → xI} {ev : xV} {Q : Option Value → xM → Prop} {pc nx : Nat} {ls : xL} {st : List Value}
theorem p_getSv {a v : Nat} {σ : xM} (hc : C pc ls (.ref a :: st) σ = oGetSv nx ls (.ref a :: st) σ) (hk : kd σ a = 41 ∨ kd σ a = 43) (hv : xp σ a 30 = v) (h : wpE C ev Q (nx, ls, .ref v :: st, σ)) : wpE C ev Q (pc, ls, .ref a :: st, σ) := p_st hc ⟨hk, by subst hv; exact h⟩
theorem p_getSc {a : Nat} {σ : xM} (hc : C pc ls (.ref a :: st) σ = oGetSc nx ls (.ref a :: st) σ) (hk : kd σ a = 41 ∨ kd σ a = 43) (h : wpE C ev Q (nx, ls, .int 0 :: st, σ)) : wpE C ev Q (pc, ls, .ref a :: st, σ) := p_st hc ⟨hk, h⟩
theorem p_aldB {a : Nat} {i v : Int32} {σ : xM} (hc : C pc ls (.int i :: .ref a :: st) σ = oAldB nx ls (.int i :: .ref a :: st) σ) (hk : kd σ a = 42 ∨ kd σ a = 43) (hi : vp_in i (ln σ a)) (hv : xi σ a i.toNatClampNeg = v) (h : wpE C ev Q (nx, ls, .int v :: st, σ)) : wpE C ev Q (pc, ls, .int i :: .ref a :: st, σ) := p_st hc ⟨⟨hk, hi⟩, by subst hv; exact h⟩
theorem p_lenB {a n : Nat} {σ : xM} (hc : C pc ls (.ref a :: st) σ = oLenB nx ls (.ref a :: st) σ) (hk : kd σ a = 42 ∨ kd σ a = 43) (hn : ln σ a = n) (h : wpE C ev Q (nx, ls, .int (Int32.ofNat n) :: st, σ)) : wpE C ev Q (pc, ls, .ref a :: st, σ) := p_st hc ⟨hk, by subst hn; exact h⟩
theorem p_callW {i n b : Nat} {as rest : List Value} {r : Option Value} {σ σ' : xM} (hc : C pc ls st σ = oCallW i n nx ls st σ) (hn : n ≤ st.length) (ha : (st.take n).reverse = .ref b :: as) (hr : st.drop n = rest) (hs : csum rest ≤ 8) (hk : kd σ b = 41 ∨ kd σ b = 43) (he : ev i (.ref b :: as) σ r σ') (h : wpE C ev Q (nx, ls, r.toList ++ rest, σ')) : wpE C ev Q (pc, ls, st, σ) := p_st hc (by unfold oCallW; rw [ha]; subst hr; exact ⟨⟨hn, hs, hk⟩, r, σ', he, h⟩)
theorem p_copy {a b : Nat} {sp dp n : Int32} (hc : C pc ls (.int n :: .int dp :: .ref a :: .int sp :: .ref b :: st) (Mm sz sl K L κ ρ) = oCopy nx ls (.int n :: .int dp :: .ref a :: .int sp :: .ref b :: st) (Mm sz sl K L κ ρ)) (h1 : K a = 20) (h2 : K b = 20) (h3 : ¬ sp < 0) (h4 : ¬ dp < 0) (h5 : ¬ n < 0) (h6 : sp.toNatClampNeg + n.toNatClampNeg ≤ L b) (h7 : dp.toNatClampNeg + n.toNatClampNeg ≤ L a) (h8 : csum st ≤ 8) (h : wpE C ev Q (nx, ls, st, Mm sz sl K L (CP κ b a sp.toNatClampNeg dp.toNatClampNeg n.toNatClampNeg) ρ)) : wpE C ev Q (pc, ls, .int n :: .int dp :: .ref a :: .int sp :: .ref b :: st, Mm sz sl K L κ ρ) := by
  have e9 : xset (Mm sz sl K L κ ρ) a (20, ln (Mm sz sl K L κ ρ) a, va_cpy ((Mm sz sl K L κ ρ).2.2 b).2.2.1 ((Mm sz sl K L κ ρ).2.2 a).2.2.1 sp.toNatClampNeg dp.toNatClampNeg n.toNatClampNeg, ((Mm sz sl K L κ ρ).2.2 a).2.2.2) = Mm sz sl K L (CP κ b a sp.toNatClampNeg dp.toNatClampNeg n.toNatClampNeg) ρ := by
    refine xM_ext rfl rfl fun q => ?_
    by_cases e : q = a
    · subst e
      simp only [xset, Mm, if_pos, ln, CP, va_up, h1]
    · simp only [xset, Mm, if_neg e, CP, va_up]
  exact p_st hc ⟨⟨h1, h2, h3, h4, h5, h6, h7, h8⟩, by rw [e9]; exact h⟩
theorem p_clone {a : Nat} (hc : C pc ls (.ref a :: st) (Mm sz sl K L κ ρ) = oClone nx ls (.ref a :: st) (Mm sz sl K L κ ρ)) (hk : K a = 20) (hs : csum st ≤ 8) (h : wpE C ev Q (nx, ls, .ref sz :: st, Mm (sz + 1) (sl + L a) (va_up K sz 20) (va_up L sz (L a)) (va_up κ sz (κ a)) (ZR ρ sz))) : wpE C ev Q (pc, ls, .ref a :: st, Mm sz sl K L κ ρ) := by
  have e9 : xcl (Mm sz sl K L κ ρ) a = Mm (sz + 1) (sl + L a) (va_up K sz 20) (va_up L sz (L a)) (va_up κ sz (κ a)) (ZR ρ sz) := by
    refine xM_ext rfl rfl fun q => ?_
    by_cases e : q = sz
    · subst e
      simp only [xcl, Mm, if_pos, va_up, ln]
      congr 3
      funext j
      simp [ZR]
    · have e2 : ZR ρ sz q = ρ q := by funext j; simp [ZR, e]
      show (if q = sz then ((20, L a, κ a, fun _ => 0) : xC) else (K q, L q, κ q, ρ q)) = (va_up K sz 20 q, va_up L sz (L a) q, va_up κ sz (κ a) q, ZR ρ sz q)
      rw [if_neg e, e2, va_up_ne _ _ e, va_up_ne _ _ e, va_up_ne _ _ e]
  exact p_st hc ⟨⟨hk, hs⟩, by rw [e9]; exact h⟩
end MM
