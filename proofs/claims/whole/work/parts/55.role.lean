/-! A MEMORY BY ROLES: each object of KiltRoom has a role (a number); lo: its address, ro: the address's role and 1 (0: none),
gK, gL: kind and length by role, gz: the cells without a role, then next address and slots. A: numbers by role, R: references by role (the role and 1; 0: null). -/
abbrev gW : Type := (Nat → Nat) × (Nat → Nat) × (Nat → Nat) × (Nat → Nat) × (Nat → xC) × Nat × Nat
def lo (W : gW) : Nat → Nat := W.1
def gRo (W : gW) : Nat → Nat := W.2.1
def gK (W : gW) : Nat → Nat := W.2.2.1
def gL (W : gW) : Nat → Nat := W.2.2.2.1
def gz (W : gW) : Nat → xC := W.2.2.2.2.1
def gsz (W : gW) : Nat := W.2.2.2.2.2.1
def gsl (W : gW) : Nat := W.2.2.2.2.2.2
/-- the references of the cell a of role c: the cell 0 keeps the global ones -/
def gRf (W : gW) (R : Nat → Int → Nat) (a c j : Nat) : Nat := if a = 0 ∧ j < 30 then (gz W 0).2.2.2 j else if R c (j : Int) = 0 then 0 else lo W (R c (j : Int) - 1)
def Wm (W : gW) (A : Nat → Int → Int) (R : Nat → Int → Nat) : xM := (gsz W, gsl W, fun a => if gRo W a = 0 then gz W a else (gK W (gRo W a - 1), gL W (gRo W a - 1), mI A (gRo W a - 1), fun j => gRf W R a (gRo W a - 1) j))
def HW (W : gW) : Prop := (∀ c, ¬ gK W c = 0 → gRo W (lo W c) = c + 1 ∧ (gK W c < 40 → ¬ lo W c = 0) ∧ lo W c < gsz W) ∧ (∀ a, gsz W ≤ a → gRo W a = 0) ∧ (∀ a, ¬ gRo W a = 0 → lo W (gRo W a - 1) = a ∧ ¬ gK W (gRo W a - 1) = 0) ∧ 0 < gsz W
abbrev NZ (W : gW) (c : Nat) : Prop := ¬ gK W c = 0 ∧ gK W c < 40
def HR (W : gW) (R : Nat → Int → Nat) : Prop := ∀ c j, ¬ R c j = 0 → ¬ gK W (R c j - 1) = 0 ∧ (gK W c < 40 → gK W (R c j - 1) < 40)
theorem kn {W : gW} {c k : Nat} (h : gK W c = k) (h0 : ¬ k = 0 ∧ k < 40 := by decide) : NZ W c := by rw [NZ, h]; exact h0
theorem gRf_n {W : gW} {R : Nat → Int → Nat} {a c j : Nat} (h : ¬ a = 0 ∨ 30 ≤ j) : gRf W R a c j = if R c (j : Int) = 0 then 0 else lo W (R c (j : Int) - 1) := if_neg (by omega)
section ROLE
variable {W : gW} {A : Nat → Int → Int} {R : Nat → Int → Nat} {c : Nat}
theorem wm_at (h : HW W) (hk : ¬ gK W c = 0) : (Wm W A R).2.2 (lo W c) = (gK W c, gL W c, mI A c, fun j : Nat => gRf W R (lo W c) c j) := by
  show (if gRo W (lo W c) = 0 then gz W (lo W c) else (_ : xC)) = _
  rw [(h.1 c hk).1, if_neg (Nat.succ_ne_zero c)]
  rfl
theorem wk_kd {k : Nat} (h : HW W) (h0 : ¬ k = 0) (hk : gK W c = k) : kd (Wm W A R) (lo W c) = k := by
  show ((Wm W A R).2.2 (lo W c)).1 = k
  rw [wm_at h (by rw [hk]; exact h0)]; exact hk
theorem wk_kdS (h : HW W) (hk : gK W c = 41 ∨ gK W c = 43) : kd (Wm W A R) (lo W c) = 41 ∨ kd (Wm W A R) (lo W c) = 43 := by
  rcases hk with e | e
  · exact Or.inl (wk_kd h (by decide) e)
  · exact Or.inr (wk_kd h (by decide) e)
theorem wk_kdB (h : HW W) (hk : gK W c = 42 ∨ gK W c = 43) : kd (Wm W A R) (lo W c) = 42 ∨ kd (Wm W A R) (lo W c) = 43 := by
  rcases hk with e | e
  · exact Or.inl (wk_kd h (by decide) e)
  · exact Or.inr (wk_kd h (by decide) e)
theorem wk_ln (h : HW W) (hk : ¬ gK W c = 0) : ln (Wm W A R) (lo W c) = gL W c := by
  show ((Wm W A R).2.2 (lo W c)).2.1 = _
  rw [wm_at h hk]
theorem wk_xi (h : HW W) (hk : ¬ gK W c = 0) (j : Nat) : xi (Wm W A R) (lo W c) j = iz (A c j) := by
  show ((Wm W A R).2.2 (lo W c)).2.2.1 j = _
  rw [wm_at h hk]; rfl
theorem wk_xp (h : HW W) (hk : ¬ gK W c = 0) (j : Nat) (h4 : gK W c < 40 ∨ 30 ≤ j) : xp (Wm W A R) (lo W c) j = if R c (j : Int) = 0 then 0 else lo W (R c (j : Int) - 1) := by
  show ((Wm W A R).2.2 (lo W c)).2.2.2 j = _
  rw [wm_at h hk]
  exact gRf_n (h4.imp (h.1 c hk).2.1 id)
theorem wk_set (h : HW W) (hk : ¬ gK W c = 0) {A' : Nat → Int → Int} {R' : Nat → Int → Nat} {q : xC} (hA : ∀ c', ¬ c' = c → A' c' = A c') (hR : ∀ c', ¬ c' = c → R' c' = R c') (hq : q = (gK W c, gL W c, mI A' c, fun j : Nat => gRf W R' (lo W c) c j)) : xset (Wm W A R) (lo W c) q = Wm W A' R' := by
  refine xM_ext rfl rfl fun b => ?_
  by_cases e : b = lo W c
  · subst e
    rw [wm_at h hk]
    show (if lo W c = lo W c then q else _) = _
    rw [if_pos rfl, hq]
  · show (if b = lo W c then q else _) = _
    rw [if_neg e]
    show (if gRo W b = 0 then gz W b else (_ : xC)) = (if gRo W b = 0 then gz W b else (_ : xC))
    by_cases e2 : gRo W b = 0
    · rw [if_pos e2, if_pos e2]
    · rw [if_neg e2, if_neg e2]
      have e3 : ¬ gRo W b - 1 = c := fun q => e (by rw [← q]; exact (h.2.2.1 b e2).1.symm)
      have e4 : mI A' (gRo W b - 1) = mI A (gRo W b - 1) := by funext j; unfold mI; rw [hA _ e3]
      have e5 : (fun j : Nat => gRf W R b (gRo W b - 1) j) = fun j : Nat => gRf W R' b (gRo W b - 1) j := by funext j; unfold gRf; rw [hR _ e3]
      rw [e4, e5]
theorem wk_xpi (h : HW W) (hk : ¬ gK W c = 0) {j : Nat} {ji v : Int} (hj : (j : Int) = ji) : xpi (Wm W A R) (lo W c) j (iz v) = Wm W (UA A c ji v) R := by
  unfold xpi
  refine wk_set h hk (fun c' e => by funext i; exact UA_c e) (fun _ _ => rfl) ?_
  rw [show kd (Wm W A R) (lo W c) = gK W c from wk_kd h hk rfl, wk_ln h hk, wm_at h hk]
  have e : upd (mI A c) j (iz v) = mI (UA A c ji v) c := by
    funext k
    unfold upd mI UA
    by_cases q : k = j
    · have e1 : c = c ∧ (k : Int) = ji := ⟨rfl, by omega⟩
      rw [if_pos q, if_pos e1]
    · have e1 : ¬ (c = c ∧ (k : Int) = ji) := fun z => q (by have := z.2; omega)
      rw [if_neg q, if_neg e1]
  show (gK W c, gL W c, upd (mI A c) j (iz v), _) = _
  rw [e]
theorem wk_xpp (h : HW W) (hk : ¬ gK W c = 0) (h4 : gK W c < 40) {j v : Nat} {ji : Int} (hj : (j : Int) = ji) : xpp (Wm W A R) (lo W c) j (if v = 0 then 0 else lo W (v - 1)) = Wm W A (UP R c ji v) := by
  unfold xpp
  refine wk_set h hk (fun _ _ => rfl) (fun c' e => by funext i; exact if_neg (fun q => e q.1)) ?_
  rw [show kd (Wm W A R) (lo W c) = gK W c from wk_kd h hk rfl, wk_ln h hk, wm_at h hk]
  refine congrArg (fun z => (gK W c, gL W c, mI A c, z)) ?_
  funext k
  have hz := (h.1 c hk).2.1 h4
  show (if k = j then (if v = 0 then 0 else lo W (v - 1)) else gRf W R (lo W c) c k) = _
  rw [gRf_n (Or.inl hz), gRf_n (Or.inl hz)]
  unfold UP
  by_cases q : k = j
  · have e1 : c = c ∧ (k : Int) = ji := ⟨rfl, by omega⟩
    rw [if_pos q]; simp only [e1, and_self, if_true]
  · have e1 : ¬ (c = c ∧ (k : Int) = ji) := fun z => q (by have := z.2; omega)
    have e2 : ¬ (k : Int) = ji := fun z => e1 ⟨rfl, z⟩
    rw [if_neg q]; simp only [e2, and_false, if_false]
theorem wk_nz (h : HW W) (hk : NZ W c) : ¬ lo W c = 0 := (h.1 c hk.1).2.1 hk.2
theorem wk_k1 {k : Nat} (hk : gK W c = k + 1) : ¬ gK W c = 0 := by omega
end ROLE
/-! the static objects, and the strings -/
def kst (c : Nat) : Nat := [12, 9, 20, 7, 20, 20, 11, 20, 4, 20, 20, 2, 20, 20, 20, 20, 23, 24, 25, 26, 27, 8, 20, 8, 20, 8, 20, 8, 20].getD c 0
def lst_ (c : Nat) : Nat := [16, 2, 160, 4, 10, 10, 9, 160, 8, 5064, 24, 6, 8, 4, 8, 8, 4, 4, 8, 6, 4, 3, 40, 3, 40, 3, 40, 3, 40].getD c 0
def po (k j : Nat) : Nat := if k = 12 then [1, 3, 6, 8, 11, 16, 17, 18, 19, 20].getD j 0 else if k = 7 ∨ k = 4 then [1, 2].getD j 0 else if k = 9 ∨ k = 11 ∨ k = 8 then [1].getD j 0 else if k = 2 then [1, 2, 3, 4].getD j 0 else 0
def Stat (W : gW) (R : Nat → Int → Nat) : Prop := HR W R ∧ (∀ c, c < 29 → gK W c = kst c ∧ gL W c = lst_ c ∧ ∀ j : Nat, 0 < po (kst c) j → R c (j : Int) = c + po (kst c) j + 1) ∧ ∀ j, j < 12 → R (500 + 2 * j) 30 = 501 + 2 * j + 1
def gzr (W : gW) (j : Nat) : Nat := (gz W 0).2.2.2 j
def GL (W : gW) : Prop := (∀ j, j < 12 → gzr W j = lo W (500 + 2 * j) + 1 ∧ (gK W (500 + 2 * j) = 41 ∨ gK W (500 + 2 * j) = 43) ∧ (gK W (501 + 2 * j) = 42 ∨ gK W (501 + 2 * j) = 43) ∧ gL W (501 + 2 * j) = sLen.getD j 0) ∧ gzr W 20 = lo W 530 + 1 ∧ gK W 530 = 40 ∧ gL W 530 = 6
def gF (W : gW) : Value := if gzr W 21 = 0 then .null else .ref (gzr W 21 - 1)
section STAT
variable {W : gW} {R : Nat → Int → Nat}
theorem st_k (h : Stat W R) (c k : Nat) (hc : c < 29 ∧ kst c = k) : gK W c = k := (h.2.1 c hc.1).1.trans hc.2
theorem st_a (h : Stat W R) (c : Nat) (hc : c < 29 ∧ ¬ kst c = 0 ∧ kst c < 40) : NZ W c := by rw [NZ, (h.2.1 c hc.1).1]; exact hc.2
theorem st_i (h : Stat W R) (c n : Nat) {e : Int} (hc : c < 29 ∧ lst_ c = n ∧ n < 100000) (he : 0 ≤ e ∧ e < (n : Int)) : 0 ≤ e ∧ e < (gL W c : Int) ∧ e ≤ 2147483647 := by
  rw [(h.2.1 c hc.1).2.1, hc.2.1]; omega
theorem st_p (h : Stat W R) (c j b : Nat) (hc : c < 29 ∧ 0 < po (kst c) j ∧ c + po (kst c) j = b) : R c (j : Int) = b + 1 := by
  rw [(h.2.1 c hc.1).2.2 j hc.2.1, hc.2.2]
theorem po_no (j : Nat) (hj : (∀ c, c < 29 → po (kst c) j = 0) ∧ ¬ j = 30) {c : Nat} : (c < 29 → ∀ q : Nat, (q : Int) = (j : Int) → po (kst c) q = 0) ∧ (¬ c < 500 → ¬ (j : Int) = 30) := ⟨fun h q hq => by rw [show q = j by omega]; exact hj.1 c h, fun _ => by omega⟩
theorem po_l {c j : Nat} (h : c < 29 ∧ po (kst c) j = 0) : (c < 29 → ∀ q : Nat, (q : Int) = (j : Int) → po (kst c) q = 0) ∧ (¬ c < 500 → ¬ (j : Int) = 30) := ⟨fun _ q hq => by rw [show q = j by omega]; exact h.2, fun q => by omega⟩
theorem po_r {c : Nat} {j : Int} (h : c < 29 ∧ 23 ≤ kst c) : (c < 29 → ∀ q : Nat, (q : Int) = j → po (kst c) q = 0) ∧ (¬ c < 500 → ¬ j = 30) := ⟨fun _ q _ => by unfold po; rw [if_neg (by omega), if_neg (by omega), if_neg (by omega), if_neg (by omega)], fun q => by omega⟩
theorem po_d {c j : Nat} (h : 29 ≤ c) (hj : ¬ j = 30) : (c < 29 → ∀ q : Nat, (q : Int) = (j : Int) → po (kst c) q = 0) ∧ (¬ c < 500 → ¬ (j : Int) = 30) := ⟨fun q => by omega, fun _ => by omega⟩
theorem HR.up (h : HR W R) {c v : Nat} {j : Int} (hv : v = 0 ∨ NZ W (v - 1)) : HR W (UP R c j v) := fun c' j' h' => by
  unfold UP at h' ⊢
  by_cases e : c' = c ∧ j' = j
  · rw [if_pos e] at h' ⊢; exact ⟨(hv.resolve_left h').1, fun _ => (hv.resolve_left h').2⟩
  · rw [if_neg e] at h' ⊢; exact h c' j' h'
theorem Stat.up (h : Stat W R) {c v : Nat} {j : Int} (hp : (c < 29 → ∀ q : Nat, (q : Int) = j → po (kst c) q = 0) ∧ (¬ c < 500 → ¬ j = 30)) (hv : v = 0 ∨ NZ W (v - 1)) : Stat W (UP R c j v) := by
  refine ⟨h.1.up hv, fun c' hc' => ⟨(h.2.1 c' hc').1, (h.2.1 c' hc').2.1, fun q hq => ?_⟩, fun q hq => ?_⟩
  · unfold UP
    rw [if_neg]
    · exact (h.2.1 c' hc').2.2 q hq
    · rintro ⟨rfl, e⟩
      rw [hp.1 hc' q e] at hq
      exact absurd hq (Nat.lt_irrefl 0)
  · unfold UP
    rw [if_neg]
    · exact h.2.2 q hq
    · rintro ⟨e1, e2⟩
      exact hp.2 (by omega) e2.symm
theorem gz_t (h : GL W) (j : Nat) (hj : j < 12) : gzr W j = lo W (500 + 2 * j) + 1 := (h.1 j hj).1
theorem gz_s (h : GL W) : gzr W 20 = lo W 530 + 1 := h.2.1
theorem xp_0 (h : HW W) {A : Nat → Int → Int} {j : Nat} (hj : j < 30) : xp (Wm W A R) 0 j = gzr W j := by
  show ((if gRo W 0 = 0 then gz W 0 else (_ : xC)) : xC).2.2.2 j = _
  by_cases e : gRo W 0 = 0
  · rw [if_pos e]; rfl
  · rw [if_neg e]; exact if_pos ⟨rfl, hj⟩
end STAT
section WROW
variable {C : Nat → xI} {ev : xV} {Q : Option Value → xM → Prop} {pc nx : Nat} {ls : xL} {st : List Value} {W : gW} {A : Nat → Int → Int} {R : Nat → Int → Nat}
theorem w_geti (hW : HW W) {c cl j : Nat} {ji v : Int} (hc : C pc ls (.ref (lo W c) :: st) (Wm W A R) = oGeti cl j nx ls (.ref (lo W c) :: st) (Wm W A R)) (hk : gK W c = cl + 1) (hj : (j : Int) = ji) (hv : A c ji = v) (h : wpE C ev Q (nx, ls, .int (iz v) :: st, Wm W A R)) : wpE C ev Q (pc, ls, .ref (lo W c) :: st, Wm W A R) := p_geti hc (wk_kd hW (by omega) hk) (by rw [wk_xi hW (wk_k1 hk), hj, hv]) h
theorem w_getp (hW : HW W) (hT : HR W R) {b c cl j : Nat} {ji : Int} (hc : C pc ls (.ref (lo W c) :: st) (Wm W A R) = oGetp cl j nx ls (.ref (lo W c) :: st) (Wm W A R)) (hk : gK W c = cl + 1) (hj : (j : Int) = ji) (hb : R c ji = b + 1) (h : wpE C ev Q (nx, ls, .ref (lo W b) :: st, Wm W A R)) (h4 : cl + 1 < 40 := by decide) : wpE C ev Q (pc, ls, .ref (lo W c) :: st, Wm W A R) := by
  have hb2 : NZ W b := by
    have := hT c ji (by omega)
    rw [hb] at this
    exact ⟨this.1, this.2 (by omega)⟩
  refine p_getp hc (wk_kd hW (by omega) hk) (v := lo W b) ?_ (wk_nz hW hb2) h
  rw [wk_xp hW (wk_k1 hk) _ (Or.inl (by omega)), hj, hb, if_neg (Nat.succ_ne_zero b)]; rfl
theorem w_getp0 (hW : HW W) (hT : HR W R) {c cl j : Nat} {ji : Int} (hc : C pc ls (.ref (lo W c) :: st) (Wm W A R) = oGetp cl j nx ls (.ref (lo W c) :: st) (Wm W A R)) (hk : gK W c = cl + 1) (hj : (j : Int) = ji) (hb : ¬ R c ji = 0) (h : wpE C ev Q (nx, ls, .ref (lo W (R c ji - 1)) :: st, Wm W A R)) (h4 : cl + 1 < 40 := by decide) : wpE C ev Q (pc, ls, .ref (lo W c) :: st, Wm W A R) := w_getp hW hT hc hk hj (by omega) h h4
theorem w_getz1 (hW : HW W) (hT : HR W R) {c cl j : Nat} {ji : Int} (hc : C pc ls (.ref (lo W c) :: st) (Wm W A R) = oGetz cl j nx ls (.ref (lo W c) :: st) (Wm W A R)) (hk : gK W c = cl + 1) (hj : (j : Int) = ji) (hb : ¬ R c ji = 0) (h : wpE C ev Q (nx, ls, .ref (lo W (R c ji - 1)) :: st, Wm W A R)) (h4 : cl + 1 < 40 := by decide) : wpE C ev Q (pc, ls, .ref (lo W c) :: st, Wm W A R) := by
  refine p_getz hc (wk_kd hW (by omega) hk) (v := lo W (R c ji - 1)) ?_ (wk_nz hW ⟨(hT c ji hb).1, (hT c ji hb).2 (by omega)⟩) h
  rw [wk_xp hW (wk_k1 hk) _ (Or.inl (by omega)), hj, if_neg hb]
theorem w_getzN (hW : HW W) (_ : HR W R) {c cl j : Nat} {ji : Int} (hc : C pc ls (.ref (lo W c) :: st) (Wm W A R) = oGetz cl j nx ls (.ref (lo W c) :: st) (Wm W A R)) (hk : gK W c = cl + 1) (hj : (j : Int) = ji) (hb : R c ji = 0) (h : wpE C ev Q (nx, ls, .null :: st, Wm W A R)) (h4 : cl + 1 < 40 := by decide) : wpE C ev Q (pc, ls, .ref (lo W c) :: st, Wm W A R) := by
  refine p_getzN hc (wk_kd hW (by omega) hk) ?_ h
  rw [wk_xp hW (wk_k1 hk) _ (Or.inl (by omega)), hj, if_pos hb]
theorem w_getz (hW : HW W) (hT : HR W R) {c cl j : Nat} {ji : Int} (hc : C pc ls (.ref (lo W c) :: st) (Wm W A R) = oGetz cl j nx ls (.ref (lo W c) :: st) (Wm W A R)) (hk : gK W c = cl + 1) (hj : (j : Int) = ji) (h1 : R c ji = 0 → wpE C ev Q (nx, ls, .null :: st, Wm W A R)) (h2 : ¬ R c ji = 0 → wpE C ev Q (nx, ls, .ref (lo W (R c ji - 1)) :: st, Wm W A R)) (h4 : cl + 1 < 40 := by decide) : wpE C ev Q (pc, ls, .ref (lo W c) :: st, Wm W A R) := by
  by_cases e : R c ji = 0
  · exact w_getzN hW hT hc hk hj e (h1 e) h4
  · exact w_getz1 hW hT hc hk hj e (h2 e) h4
theorem w_puti (hW : HW W) {c cl j : Nat} {ji v : Int} (hc : C pc ls (.int (iz v) :: .ref (lo W c) :: st) (Wm W A R) = oPuti cl j nx ls (.int (iz v) :: .ref (lo W c) :: st) (Wm W A R)) (hk : gK W c = cl + 1) (hj : (j : Int) = ji) (h : wpE C ev Q (nx, ls, st, Wm W (UA A c ji v) R)) : wpE C ev Q (pc, ls, .int (iz v) :: .ref (lo W c) :: st, Wm W A R) := p_puti hc (wk_kd hW (by omega) hk) (wk_xpi hW (wk_k1 hk) hj) h
theorem w_putb (hW : HW W) {c cl j : Nat} {ji v : Int} (hc : C pc ls (.int (iz v) :: .ref (lo W c) :: st) (Wm W A R) = oPutb cl j nx ls (.int (iz v) :: .ref (lo W c) :: st) (Wm W A R)) (hk : gK W c = cl + 1) (hj : (j : Int) = ji) (hv : v = 0 ∨ v = 1) (h : wpE C ev Q (nx, ls, st, Wm W (UA A c ji v) R)) : wpE C ev Q (pc, ls, .int (iz v) :: .ref (lo W c) :: st, Wm W A R) := p_putb hc (wk_kd hW (by omega) hk) (by rcases hv with rfl | rfl <;> decide) (wk_xpi hW (wk_k1 hk) hj) h
theorem w_putp (hW : HW W) {c cl j b : Nat} {ji : Int} (hc : C pc ls (.ref (lo W b) :: .ref (lo W c) :: st) (Wm W A R) = oPutp cl j nx ls (.ref (lo W b) :: .ref (lo W c) :: st) (Wm W A R)) (hk : gK W c = cl + 1) (hj : (j : Int) = ji) (hb : NZ W b) (h : wpE C ev Q (nx, ls, st, Wm W A (UP R c ji (b + 1)))) (h4 : cl + 1 < 40 := by decide) : wpE C ev Q (pc, ls, .ref (lo W b) :: .ref (lo W c) :: st, Wm W A R) := p_putp hc (wk_kd hW (by omega) hk) (wk_nz hW hb) (by
  have := wk_xpp (A := A) (R := R) hW (wk_k1 hk) (by omega) hj (v := b + 1)
  rw [if_neg (Nat.succ_ne_zero b)] at this; exact this) h
theorem w_putpN (hW : HW W) {c cl j : Nat} {ji : Int} (hc : C pc ls (.null :: .ref (lo W c) :: st) (Wm W A R) = oPutp cl j nx ls (.null :: .ref (lo W c) :: st) (Wm W A R)) (hk : gK W c = cl + 1) (hj : (j : Int) = ji) (h : wpE C ev Q (nx, ls, st, Wm W A (UP R c ji 0))) (h4 : cl + 1 < 40 := by decide) : wpE C ev Q (pc, ls, .null :: .ref (lo W c) :: st, Wm W A R) := p_putpN hc (wk_kd hW (by omega) hk) (by
  have := wk_xpp (A := A) (R := R) hW (wk_k1 hk) (by omega) hj (v := 0)
  rw [if_pos rfl] at this; exact this) h
theorem w_aldi (hW : HW W) {c k : Nat} {e v : Int} (hc : C pc ls (.int (iz e) :: .ref (lo W c) :: st) (Wm W A R) = oAldi (k + 1) nx ls (.int (iz e) :: .ref (lo W c) :: st) (Wm W A R)) (hk : gK W c = k + 1) (hi : 0 ≤ e ∧ e < (gL W c : Int) ∧ e ≤ 2147483647) (hv : A c e = v) (h : wpE C ev Q (nx, ls, .int (iz v) :: st, Wm W A R)) : wpE C ev Q (pc, ls, .int (iz e) :: .ref (lo W c) :: st, Wm W A R) :=
  p_aldi hc (wk_kd hW (by omega) hk) (by rw [wk_ln hW (wk_k1 hk)]; exact iz_in hi.1 hi.2.1 hi.2.2) (by rw [wk_xi hW (wk_k1 hk), iz_nat ⟨by omega, hi.2.2⟩, Int.toNat_of_nonneg hi.1, hv]) h
theorem w_asti (hW : HW W) {c k : Nat} {e v : Int} {nar : Int32 → Int32} (hc : C pc ls (.int (iz v) :: .int (iz e) :: .ref (lo W c) :: st) (Wm W A R) = oAsti (k + 1) nar nx ls (.int (iz v) :: .int (iz e) :: .ref (lo W c) :: st) (Wm W A R)) (hk : gK W c = k + 1) (hi : 0 ≤ e ∧ e < (gL W c : Int) ∧ e ≤ 2147483647) (hv : nar (iz v) = iz v) (h : wpE C ev Q (nx, ls, st, Wm W (UA A c e v) R)) : wpE C ev Q (pc, ls, .int (iz v) :: .int (iz e) :: .ref (lo W c) :: st, Wm W A R) :=
  p_asti hc (wk_kd hW (by omega) hk) (by rw [wk_ln hW (wk_k1 hk)]; exact iz_in hi.1 hi.2.1 hi.2.2) (by rw [hv, iz_nat ⟨by omega, hi.2.2⟩]; exact wk_xpi hW (wk_k1 hk) (Int.toNat_of_nonneg hi.1)) h
theorem w_aldp (hW : HW W) (hT : HR W R) {c k : Nat} {e : Int} (hc : C pc ls (.int (iz e) :: .ref (lo W c) :: st) (Wm W A R) = oAldp (k + 1) nx ls (.int (iz e) :: .ref (lo W c) :: st) (Wm W A R)) (hk : gK W c = k + 1) (hi : 0 ≤ e ∧ e < (gL W c : Int) ∧ e ≤ 2147483647) (h0 : ¬ R c e = 0) (h : wpE C ev Q (nx, ls, .ref (lo W (R c e - 1)) :: st, Wm W A R)) (h4 : k + 1 < 40 := by decide) : wpE C ev Q (pc, ls, .int (iz e) :: .ref (lo W c) :: st, Wm W A R) :=
  p_aldp hc (wk_kd hW (by omega) hk) (by rw [wk_ln hW (wk_k1 hk)]; exact iz_in hi.1 hi.2.1 hi.2.2) (by rw [wk_xp hW (wk_k1 hk) _ (Or.inl (by omega)), iz_nat ⟨by omega, hi.2.2⟩, Int.toNat_of_nonneg hi.1, if_neg h0]) (wk_nz hW ⟨(hT c e h0).1, (hT c e h0).2 (by omega)⟩) h
theorem w_astp (hW : HW W) {c k b cl : Nat} {e : Int} (hc : C pc ls (.ref (lo W b) :: .int (iz e) :: .ref (lo W c) :: st) (Wm W A R) = oAstp (k + 1) cl nx ls (.ref (lo W b) :: .int (iz e) :: .ref (lo W c) :: st) (Wm W A R)) (hk : gK W c = k + 1) (hi : 0 ≤ e ∧ e < (gL W c : Int) ∧ e ≤ 2147483647) (hb : gK W b = cl + 1) (h : wpE C ev Q (nx, ls, st, Wm W A (UP R c e (b + 1)))) (h4 : k + 1 < 40 ∧ cl + 1 < 40 := by decide) : wpE C ev Q (pc, ls, .ref (lo W b) :: .int (iz e) :: .ref (lo W c) :: st, Wm W A R) :=
  p_astp hc (wk_kd hW (by omega) hk) (by rw [wk_ln hW (wk_k1 hk)]; exact iz_in hi.1 hi.2.1 hi.2.2) (wk_kd hW (by omega) hb) (wk_nz hW ⟨wk_k1 hb, by omega⟩) (by
    rw [iz_nat ⟨by omega, hi.2.2⟩]
    have := wk_xpp (A := A) (R := R) hW (wk_k1 hk) (by omega) (Int.toNat_of_nonneg hi.1) (v := b + 1)
    rw [if_neg (Nat.succ_ne_zero b)] at this; exact this) h
theorem w_len (hW : HW W) {c k : Nat} (hc : C pc ls (.ref (lo W c) :: st) (Wm W A R) = oLen (k + 1) nx ls (.ref (lo W c) :: st) (Wm W A R)) (hk : gK W c = k + 1) (h : wpE C ev Q (nx, ls, .int (iz (gL W c)) :: st, Wm W A R)) : wpE C ev Q (pc, ls, .ref (lo W c) :: st, Wm W A R) := p_len hc (wk_kd hW (by omega) hk) (wk_ln hW (wk_k1 hk)) (by rw [iz_n]; exact h)
theorem w_cast (hW : HW W) {c : Nat} (hc : C pc ls (.ref (lo W c) :: st) (Wm W A R) = oCast nx ls (.ref (lo W c) :: st) (Wm W A R)) (hk : gK W c = 20) (h : wpE C ev Q (nx, ls, .ref (lo W c) :: st, Wm W A R)) : wpE C ev Q (pc, ls, .ref (lo W c) :: st, Wm W A R) := p_cast hc (wk_kd hW (by decide) hk) h
theorem w_gref (hW : HW W) {j c : Nat} (hc : C pc ls st (Wm W A R) = oGref j nx ls st (Wm W A R)) (hz : gzr W j = lo W c + 1) (h : wpE C ev Q (nx, ls, .ref (lo W c) :: st, Wm W A R)) (h4 : j < 30 := by decide) : wpE C ev Q (pc, ls, st, Wm W A R) := p_gref hc (v := lo W c) (by rw [xp_0 hW h4]; exact hz) h
theorem w_grefz (hW : HW W) (hc : C pc ls st (Wm W A R) = oGrefz 21 nx ls st (Wm W A R)) (h : wpE C ev Q (nx, ls, gF W :: st, Wm W A R)) : wpE C ev Q (pc, ls, st, Wm W A R) := p_st hc (by
  have e : xp (Wm W A R) 0 21 = gzr W 21 := xp_0 hW (by decide)
  show wpE C ev Q (nx, ls, (if xp (Wm W A R) 0 21 = 0 then .null else .ref (xp (Wm W A R) 0 21 - 1)) :: st, Wm W A R)
  rw [e]; exact h)
theorem w_getSv (hW : HW W) (hT : HR W R) {c b : Nat} (hc : C pc ls (.ref (lo W c) :: st) (Wm W A R) = oGetSv nx ls (.ref (lo W c) :: st) (Wm W A R)) (hk : gK W c = 41 ∨ gK W c = 43) (hb : R c 30 = b + 1) (h : wpE C ev Q (nx, ls, .ref (lo W b) :: st, Wm W A R)) : wpE C ev Q (pc, ls, .ref (lo W c) :: st, Wm W A R) := p_getSv hc (wk_kdS hW hk) (by
  rw [wk_xp hW (by omega) 30 (Or.inr (by decide))]
  show (if R c 30 = 0 then 0 else lo W (R c 30 - 1)) = _
  rw [hb, if_neg (Nat.succ_ne_zero b)]; rfl) h
theorem w_getSc (hW : HW W) {c : Nat} (hc : C pc ls (.ref (lo W c) :: st) (Wm W A R) = oGetSc nx ls (.ref (lo W c) :: st) (Wm W A R)) (hk : gK W c = 41 ∨ gK W c = 43) (h : wpE C ev Q (nx, ls, .int (iz 0) :: st, Wm W A R)) : wpE C ev Q (pc, ls, .ref (lo W c) :: st, Wm W A R) := p_getSc hc (wk_kdS hW hk) h
theorem w_aldB (hW : HW W) {c : Nat} {e : Int} (hc : C pc ls (.int (iz e) :: .ref (lo W c) :: st) (Wm W A R) = oAldB nx ls (.int (iz e) :: .ref (lo W c) :: st) (Wm W A R)) (hk : gK W c = 42 ∨ gK W c = 43) (hi : 0 ≤ e ∧ e < (gL W c : Int) ∧ e ≤ 2147483647) (h : wpE C ev Q (nx, ls, .int (iz (A c e)) :: st, Wm W A R)) : wpE C ev Q (pc, ls, .int (iz e) :: .ref (lo W c) :: st, Wm W A R) := by
  have hk0 : ¬ gK W c = 0 := by omega
  exact p_aldB hc (wk_kdB hW hk) (by rw [wk_ln hW hk0]; exact iz_in hi.1 hi.2.1 hi.2.2) (by rw [wk_xi hW hk0, iz_nat ⟨by omega, hi.2.2⟩, Int.toNat_of_nonneg hi.1]) h
theorem w_lenB (hW : HW W) {c : Nat} (hc : C pc ls (.ref (lo W c) :: st) (Wm W A R) = oLenB nx ls (.ref (lo W c) :: st) (Wm W A R)) (hk : gK W c = 42 ∨ gK W c = 43) (h : wpE C ev Q (nx, ls, .int (iz (gL W c)) :: st, Wm W A R)) : wpE C ev Q (pc, ls, .ref (lo W c) :: st, Wm W A R) := p_lenB hc (wk_kdB hW hk) (wk_ln hW (by omega)) (by rw [iz_n]; exact h)
theorem w_copy (hW : HW W) {a b : Nat} {sp dp n : Int} (hc : C pc ls (.int (iz n) :: .int (iz dp) :: .ref (lo W a) :: .int (iz sp) :: .ref (lo W b) :: st) (Wm W A R) = oCopy nx ls (.int (iz n) :: .int (iz dp) :: .ref (lo W a) :: .int (iz sp) :: .ref (lo W b) :: st) (Wm W A R)) (h1 : gK W a = 20) (h2 : gK W b = 20) (h3 : 0 ≤ sp ∧ 0 ≤ dp ∧ 0 ≤ n ∧ sp + n ≤ gL W b ∧ dp + n ≤ gL W a ∧ sp + n ≤ 2147483647 ∧ dp + n ≤ 2147483647) (h8 : csum st ≤ 8) (h : wpE C ev Q (nx, ls, st, Wm W (CA A b a sp dp n) R)) : wpE C ev Q (pc, ls, .int (iz n) :: .int (iz dp) :: .ref (lo W a) :: .int (iz sp) :: .ref (lo W b) :: st, Wm W A R) := by
  have r1 : Rg sp := ⟨by omega, by omega⟩
  have r2 : Rg dp := ⟨by omega, by omega⟩
  have r3 : Rg n := ⟨by omega, by omega⟩
  have ka : ¬ gK W a = 0 := by omega
  have kb : ¬ gK W b = 0 := by omega
  refine p_st hc ⟨⟨wk_kd hW (by decide) h1, wk_kd hW (by decide) h2, by rw [c_lt0 r1]; omega, by rw [c_lt0 r2]; omega, by rw [c_lt0 r3]; omega, by rw [iz_nat r1, iz_nat r3, wk_ln hW kb]; omega, by rw [iz_nat r2, iz_nat r3, wk_ln hW ka]; omega, h8⟩, ?_⟩
  have e9 : xset (Wm W A R) (lo W a) (20, ln (Wm W A R) (lo W a), va_cpy ((Wm W A R).2.2 (lo W b)).2.2.1 ((Wm W A R).2.2 (lo W a)).2.2.1 (iz sp).toNatClampNeg (iz dp).toNatClampNeg (iz n).toNatClampNeg, ((Wm W A R).2.2 (lo W a)).2.2.2) = Wm W (CA A b a sp dp n) R := by
    refine wk_set hW ka (fun c' e => by funext i; exact if_neg (fun q => e q.1)) (fun _ _ => rfl) ?_
    rw [wk_ln hW ka, wm_at hW ka, wm_at hW kb, iz_nat r1, iz_nat r2, iz_nat r3, h1]
    have e := congrFun (mI_C (A := A) (b := b) (a := a) h3.1 h3.2.1 h3.2.2.1) a
    have e2 : CP (mI A) b a sp.toNat dp.toNat n.toNat a = va_cpy (mI A b) (mI A a) sp.toNat dp.toNat n.toNat := by unfold CP va_up; rw [if_pos rfl]
    rw [e2] at e
    show (20, gL W a, va_cpy (mI A b) (mI A a) sp.toNat dp.toNat n.toNat, _) = _
    rw [e]
  show wpE C ev Q (nx, ls, st, _)
  rw [e9]
  exact h
end WROW
/-! a new object takes a role -/
def gN (W : gW) (c k n : Nat) : gW := (va_up (lo W) c (gsz W), va_up (gRo W) (gsz W) (c + 1), va_up (gK W) c k, va_up (gL W) c n, gz W, gsz W + 1, gsl W + n)
theorem gN_K {W : gW} {c k n c' : Nat} : gK (gN W c k n) c' = if c' = c then k else gK W c' := rfl
theorem gN_L {W : gW} {c k n c' : Nat} : gL (gN W c k n) c' = if c' = c then n else gL W c' := rfl
theorem gN_lo {W : gW} {c k n c' : Nat} : lo (gN W c k n) c' = if c' = c then gsz W else lo W c' := rfl
theorem gN_ok {W : gW} {c k n : Nat} (h : HW W) (h0 : gK W c = 0) (hk : ¬ k = 0) : HW (gN W c k n) := by
  refine ⟨fun c' hc' => ?_, fun a ha => ?_, fun a ha => ?_, Nat.succ_pos _⟩
  · rw [gN_K] at hc'
    rw [gN_lo, gN_K]
    show va_up (gRo W) (gsz W) (c + 1) _ = c' + 1 ∧ (_ → _) ∧ _ < gsz W + 1
    by_cases e : c' = c
    · rw [if_pos e, if_pos e]
      unfold va_up
      rw [if_pos rfl, e]
      have := h.2.2.2
      exact ⟨rfl, fun _ => by omega, by omega⟩
    · rw [if_neg e] at hc'
      rw [if_neg e, if_neg e]
      obtain ⟨h1, h2, h3⟩ := h.1 c' hc'
      unfold va_up
      rw [if_neg (by omega)]
      exact ⟨h1, h2, by omega⟩
  · show va_up (gRo W) (gsz W) (c + 1) a = 0
    have ha' : gsz W + 1 ≤ a := ha
    unfold va_up
    rw [if_neg (by omega)]
    exact h.2.1 a (by omega)
  · have ha' : ¬ va_up (gRo W) (gsz W) (c + 1) a = 0 := ha
    show lo (gN W c k n) (va_up (gRo W) (gsz W) (c + 1) a - 1) = a ∧ ¬ gK (gN W c k n) (va_up (gRo W) (gsz W) (c + 1) a - 1) = 0
    unfold va_up at ha' ⊢
    by_cases e : a = gsz W
    · rw [if_pos e, gN_lo, gN_K]
      show (if c = c then _ else _) = a ∧ ¬ (if c = c then k else _) = 0
      rw [if_pos rfl, if_pos rfl]
      exact ⟨e.symm, hk⟩
    · rw [if_neg e] at ha' ⊢
      obtain ⟨h1, h2⟩ := h.2.2.1 a ha'
      have e2 : ¬ gRo W a - 1 = c := fun q => h2 (by rw [q]; exact h0)
      rw [gN_lo, gN_K, if_neg e2, if_neg e2]
      exact ⟨h1, h2⟩
theorem wm_new {W : gW} {A : Nat → Int → Int} {R : Nat → Int → Nat} {c k n : Nat} (h : HW W) (hR : HR W R) (h0 : gK W c = 0) : xnew (Wm W A R) k n = Wm (gN W c k n) (ZA A c) (ZP R c) := by
  refine xM_ext rfl rfl fun a => ?_
  have hro : gRo (gN W c k n) a = if a = gsz W then c + 1 else gRo W a := rfl
  show (if a = gsz W then ((k, n, fun _ => 0, fun _ => 0) : xC) else (Wm W A R).2.2 a) = (if gRo (gN W c k n) a = 0 then gz W a else (gK (gN W c k n) (gRo (gN W c k n) a - 1), gL (gN W c k n) (gRo (gN W c k n) a - 1), mI (ZA A c) (gRo (gN W c k n) a - 1), fun j : Nat => gRf (gN W c k n) (ZP R c) a (gRo (gN W c k n) a - 1) j))
  rw [hro]
  by_cases e : a = gsz W
  · simp only [if_pos e, if_neg (Nat.succ_ne_zero c)]
    show _ = (gK (gN W c k n) c, gL (gN W c k n) c, mI (ZA A c) c, fun j : Nat => gRf (gN W c k n) (ZP R c) a c j)
    rw [gN_K, gN_L, if_pos rfl, if_pos rfl]
    have e1 : mI (ZA A c) c = fun _ => 0 := by funext j; unfold mI ZA; rw [if_pos rfl]; rfl
    have e2 : (fun j : Nat => gRf (gN W c k n) (ZP R c) a c j) = fun _ => 0 := by
      funext j
      rw [gRf_n (Or.inl (by have := h.2.2.2; omega))]
      unfold ZP
      rw [if_pos rfl]
      rfl
    rw [e1, e2]
  · simp only [if_neg e]
    show (if gRo W a = 0 then gz W a else (_ : xC)) = _
    by_cases e2 : gRo W a = 0
    · rw [if_pos e2, if_pos e2]
    · rw [if_neg e2, if_neg e2]
      obtain ⟨h1, h2⟩ := h.2.2.1 a e2
      have e3 : ¬ gRo W a - 1 = c := fun q => h2 (by rw [q]; exact h0)
      rw [gN_K, gN_L, if_neg e3, if_neg e3]
      have e4 : mI (ZA A c) (gRo W a - 1) = mI A (gRo W a - 1) := by funext j; unfold mI ZA; rw [if_neg e3]
      have e5 : (fun j : Nat => gRf (gN W c k n) (ZP R c) a (gRo W a - 1) j) = fun j : Nat => gRf W R a (gRo W a - 1) j := by
        funext j
        unfold gRf
        by_cases e6 : a = 0 ∧ j < 30
        · rw [if_pos e6, if_pos e6]; rfl
        · rw [if_neg e6, if_neg e6]
          unfold ZP
          rw [if_neg e3, gN_lo]
          by_cases q : R (gRo W a - 1) (j : Int) = 0
          · rw [if_pos q, if_pos q]
          · rw [if_neg q, if_neg q, if_neg (fun z => (hR _ _ q).1 (by rw [z]; exact h0))]
      rw [e4, e5]
theorem HR.gN {W : gW} {R : Nat → Int → Nat} {c k n : Nat} (h : HR W R) (h0 : gK W c = 0) : HR (gN W c k n) (ZP R c) := fun c' j h' => by
  unfold ZP at h' ⊢
  by_cases e : c' = c
  · rw [if_pos e] at h'; exact absurd rfl h'
  · rw [if_neg e] at h' ⊢
    have hh := h c' j h'
    have q : ¬ R c' j - 1 = c := fun z => hh.1 (by rw [z]; exact h0)
    rw [gN_K, gN_K, if_neg q, if_neg e]
    exact hh
