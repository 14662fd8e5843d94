def LyM (A : Nat → Int → Int) (k b s : Nat) (M : Nat → Int → Int) (kk bb ss : Int) : Prop := (M 11 kk = A k 0 ∧ M 15 kk = A k 4 ∧ M 17 kk = A k 6 ∧ M 18 kk = A k 7) ∧ (A k 9 = 0 ↔ ¬ strd M kk) ∧ (M 8 bb = A b 2 ∧ ∀ x l, m_isF M bb x l = true ↔ k_isF A b x l) ∧ (M 3 ss = A s 1 ∧ m_centre M ss 0 = A (s + 3) 0 ∧ (strd M kk → m_centre M ss (M 16 kk) = A (s + 3) (A k 5) ∧ 0 ≤ A k 5 ∧ A k 5 < A s 0)) ∧ (0 ≤ A k 0 ∧ A k 0 ≤ 5) ∧ (4 ≤ A k 4 ∧ A k 4 ≤ 24) ∧ (1 ≤ A k 6 ∧ A k 6 ≤ 300) ∧ (0 ≤ A k 7 ∧ A k 7 ≤ 2400) ∧ (1 ≤ A s 1 ∧ A s 1 ≤ 400) ∧ A b 2 ≤ 9999 ∧ 1 ≤ A s 0
def LyT (A : Nat → Int → Int) (k s : Nat) : Prop := A 8 2 = yk0 A k s ∧ A 8 3 = yku A k s ∧ ∀ p : Nat, (p : Int) < A k 4 → A 10 p = ykf A k s p
def ken (A : Nat → Int → Int) (k s : Nat) (z : Int) : Int := if z = -1 then 1000000 else k_usd A k s z
section LINK
variable {A M : Nat → Int → Int} {k b s : Nat} {kk bb ss : Int}
theorem yst_k (h : LyM A k b s M kk bb ss) {p m : Int} (hp : p ≤ A k 4 - 2) : yst M kk (M 3 ss) p m = ykw A k p + ykl A k p m * A s 1 := by
  obtain ⟨⟨m1, m2, m3, m4⟩, m5, -, ⟨q1, -⟩, q2, -⟩ := h
  have e1 : (m + 1) * A s 1 = m * A s 1 + A s 1 := by rw [Int.add_mul, Int.one_mul]
  have e2 : (2 * m + 1) * A s 1 = 2 * m * A s 1 + A s 1 := by rw [Int.add_mul, Int.one_mul]
  have m5' : A k 9 = 0 ↔ ¬ (A k 0 = 1 ∨ A k 0 = 3 ∨ A k 0 = 5) := by rw [← m1]; exact m5
  unfold yst yfx m_periods ykw ykl
  rw [q1, m3, m2, m1]
  rcases (by omega : A k 0 = 0 ∨ A k 0 = 1 ∨ A k 0 = 2 ∨ A k 0 = 3 ∨ A k 0 = 4 ∨ A k 0 = 5) with c | c | c | c | c | c <;> rw [c] at m5' ⊢ <;> (repeat' split) <;> omega
theorem lst_sh {P x j a c : Int} : lst P (x + j * P) a c = lst P x a c + j * P := by
  unfold lst
  have e : c - a - (x + j * P) = (c - a - x) + (-j) * P := by rw [Int.neg_mul]; omega
  rw [e, Int.add_mul_emod_self_right]
  omega
theorem lst_le {P x a c : Int} (h : 1 ≤ P) : x ≤ lst P x a c := by
  have := Int.emod_nonneg (c - a - x) (show P ≠ 0 by omega)
  unfold lst; omega
theorem usd_m {x y : Int} (hP : 0 ≤ A s 1) (h : x ≤ y) : k_usd A k s x ≤ k_usd A k s y := by
  have := Int.mul_le_mul_of_nonneg_right h hP
  unfold k_usd; omega
theorem usd_m1 {x y : Int} (hP : 1 ≤ A s 1) (h : x < y) : k_usd A k s x < k_usd A k s y := by
  have h1 := Int.mul_le_mul_of_nonneg_right (show x + 1 ≤ y from h) (show 0 ≤ A s 1 by omega)
  have e : (x + 1) * A s 1 = x * A s 1 + A s 1 := by rw [Int.add_mul, Int.one_mul]
  unfold k_usd; omega
theorem k_und_s {t : Int} : ∀ (r : Nat) (x : Int), (∃ i : Nat, i < r ∧ k_ucb A k b s (t + i) ∧ (∀ q : Nat, q < i → ¬ k_ucb A k b s (t + q)) ∧ k_und A k b s t r x = t + i) ∨ ((∀ q : Nat, q < r → ¬ k_ucb A k b s (t + q)) ∧ k_und A k b s t r x = x)
  | 0, x => Or.inr ⟨fun q h => absurd h (by omega), rfl⟩
  | r + 1, x => by
    show (∃ i : Nat, i < r + 1 ∧ k_ucb A k b s (t + i) ∧ (∀ q : Nat, q < i → ¬ k_ucb A k b s (t + q)) ∧ k_und A k b s t r (if k_ucb A k b s (t + r) then t + r else x) = t + i) ∨ ((∀ q : Nat, q < r + 1 → ¬ k_ucb A k b s (t + q)) ∧ k_und A k b s t r (if k_ucb A k b s (t + r) then t + r else x) = x)
    rcases k_und_s (t := t) r (if k_ucb A k b s (t + r) then t + r else x) with ⟨i, h1, h2, h3, h4⟩ | ⟨h1, h2⟩
    · exact Or.inl ⟨i, by omega, h2, h3, h4⟩
    · by_cases c : k_ucb A k b s (t + r)
      · exact Or.inl ⟨r, by omega, c, h1, by rw [h2, if_pos c]⟩
      · refine Or.inr ⟨fun q hq => ?_, by rw [h2, if_neg c]⟩
        by_cases e : q = r
        · subst e; exact c
        · exact h1 q (by omega)
theorem und_E (h : LyM A k b s M kk bb ss) {t : Int} (ht : 0 ≤ t) : ∀ (r i : Nat), i + r = 4 → (∀ q : Nat, q < i → ¬ k_ucb A k b s (t + q)) → gE (A 8 3 + t * A s 1) (A s 1) (A b 2) (A k 7) (m_isF M bb) r i = ken A k s (k_und A k b s t 4 (-1)) := by
  obtain ⟨-, -, ⟨-, hF⟩, -, -, -, -, -, hP, -⟩ := h
  intro r
  induction r with
  | zero =>
    intro i hi hn
    rcases k_und_s (A := A) (k := k) (b := b) (s := s) (t := t) 4 (-1) with ⟨j, h1, h2, -⟩ | ⟨-, h2⟩
    · exact absurd h2 (hn j (by omega))
    · rw [h2]; rfl
  | succ r ih =>
    intro i hi hn
    have e : A 8 3 + t * A s 1 + (i : Int) * A s 1 = A 8 3 + (t + i) * A s 1 := by rw [Int.add_mul]; omega
    show (if A b 2 < A 8 3 + t * A s 1 + (i : Int) * A s 1 + A k 7 then 1000000 else if m_isF M bb (A 8 3 + t * A s 1 + (i : Int) * A s 1) (A k 7) = true then gE (A 8 3 + t * A s 1) (A s 1) (A b 2) (A k 7) (m_isF M bb) r ((i : Int) + 1) else A 8 3 + t * A s 1 + (i : Int) * A s 1 + A k 7) = _
    rw [e]
    by_cases c : A b 2 < A 8 3 + (t + i) * A s 1 + A k 7
    · rw [if_pos c]
      rcases k_und_s (A := A) (k := k) (b := b) (s := s) (t := t) 4 (-1) with ⟨j, h1, h2, h3, -⟩ | ⟨-, h2⟩
      · by_cases e2 : j < i
        · exact absurd h2 (hn j e2)
        · have := usd_m (A := A) (k := k) (s := s) (x := t + i) (y := t + j) (by omega) (by omega)
          have h2' := h2.1
          unfold k_usd at this
          omega
      · rw [h2]; rfl
    · rw [if_neg c]
      by_cases c2 : m_isF M bb (A 8 3 + (t + i) * A s 1) (A k 7) = true
      · rw [if_pos c2]
        refine ih (i + 1) (by omega) (fun q hq => ?_)
        by_cases e2 : q = i
        · subst e2; exact fun z => z.2 ((hF _ _).mp c2)
        · exact hn q (by omega)
      · rw [if_neg c2]
        have hu : k_ucb A k b s (t + i) := ⟨by omega, fun z => c2 ((hF _ _).mpr z)⟩
        rcases k_und_s (A := A) (k := k) (b := b) (s := s) (t := t) 4 (-1) with ⟨j, h1, h2, h3, h4⟩ | ⟨h1, -⟩
        · have ej : j = i := by
            rcases Nat.lt_trichotomy j i with l | l | l
            · exact absurd h2 (hn j l)
            · exact l
            · exact absurd hu (h3 i l)
          rw [h4, ej]
          unfold ken k_usd
          rw [if_neg (by omega)]
        · exact absurd hu (h1 i (by omega))
theorem fewer_or {x y : Int} : k_fewer x y = x ∨ k_fewer x y = y := by unfold k_fewer; (repeat' split) <;> simp
theorem fmid_Q {Q : Int → Prop} {p t : Int} {g : Int → Int} (hg : ∀ m : Int, 1 ≤ m → m ≤ 4 → k_cf A k s p m → g (t + ykl A k p m) = -1 ∨ Q (g (t + ykl A k p m))) : ∀ r : Nat, r ≤ 4 → fmid A k s p t g r = -1 ∨ Q (fmid A k s p t g r)
  | 0, _ => Or.inl rfl
  | r + 1, hr => by
    have ih := fmid_Q hg r (by omega)
    show (if k_cf A k s p ((r : Int) + 1) then k_fewer (fmid A k s p t g r) (g (t + ykl A k p ((r : Int) + 1))) else fmid A k s p t g r) = -1 ∨ Q (if k_cf A k s p ((r : Int) + 1) then k_fewer (fmid A k s p t g r) (g (t + ykl A k p ((r : Int) + 1))) else fmid A k s p t g r)
    by_cases c : k_cf A k s p ((r : Int) + 1)
    · rw [if_pos c]
      rcases fewer_or (x := fmid A k s p t g r) (y := g (t + ykl A k p ((r : Int) + 1))) with e | e
      · rw [e]; exact ih
      · rw [e]; exact hg _ (by omega) (by omega) c
    · rw [if_neg c]; exact ih
theorem KT_le : ∀ (r : Nat) (p t : Int), KT A k b s r p t = -1 ∨ k_usd A k s (KT A k b s r p t) ≤ A b 2
  | 0, p, t => by
    unfold KT
    split
    · exact Or.inl rfl
    · rcases k_und_s (A := A) (k := k) (b := b) (s := s) (t := t) 4 (-1) with ⟨j, -, h2, -, h4⟩ | ⟨-, h2⟩
      · rw [h4]; exact Or.inr h2.1
      · exact Or.inl h2
  | r + 1, p, t => by
    have h := fmid_Q (A := A) (k := k) (s := s) (p := p) (t := t) (g := KT A k b s r (p + 1)) (Q := fun z => k_usd A k s z ≤ A b 2) (fun m _ _ _ => KT_le r (p + 1) (t + ykl A k p m)) 4 (Nat.le_refl 4)
    unfold KT
    split
    · exact Or.inl rfl
    · exact h
theorem ken_few {x y : Int} (hP : 1 ≤ A s 1) (hx : x = -1 ∨ k_usd A k s x < 1000000) (hy : y = -1 ∨ k_usd A k s y < 1000000) : ken A k s (k_fewer x y) = if ken A k s y < ken A k s x then ken A k s y else ken A k s x := by
  unfold k_fewer ken
  by_cases cx : x = -1
  · by_cases cy : y = -1
    · rw [if_pos cx, if_pos cx, if_pos cy, if_neg (by omega)]
    · rw [if_pos cx, if_pos cx, if_neg cy, if_pos (by rcases hy with z | z; exact absurd z cy; exact z)]
  · rw [if_neg cx, if_neg cx]
    by_cases cy : y = -1
    · rw [if_pos cy, if_pos cy, if_neg cx, if_neg (by rcases hx with z | z; exact absurd z cx; omega)]
    · rw [if_neg cy, if_neg cy]
      by_cases c : x ≤ y
      · have := usd_m (A := A) (k := k) (s := s) (by omega) c
        rw [if_pos c, if_neg cx, if_neg (by omega)]
      · have := usd_m1 (A := A) (k := k) (s := s) hP (show y < x by omega)
        rw [if_neg c, if_neg cy, if_pos this]
theorem gM_f {p t : Int} {f g : Int → Int} (hP : 1 ≤ A s 1) (hf : ∀ m : Int, 1 ≤ m → m ≤ 4 → f m = if k_cf A k s p m then ken A k s (g (t + ykl A k p m)) else 1000000) (hg : ∀ m : Int, 1 ≤ m → m ≤ 4 → k_cf A k s p m → g (t + ykl A k p m) = -1 ∨ k_usd A k s (g (t + ykl A k p m)) < 1000000) : ∀ r : Nat, r ≤ 4 → gM f r = ken A k s (fmid A k s p t g r)
  | 0, _ => rfl
  | r + 1, hr => by
    have ih := gM_f hP hf hg r (by omega)
    have hq := fmid_Q (Q := fun z => k_usd A k s z < 1000000) hg r (by omega)
    have hl := gM_le (f := f) r
    show (if f ((r : Int) + 1) < gM f r then f ((r : Int) + 1) else gM f r) = ken A k s (if k_cf A k s p ((r : Int) + 1) then k_fewer (fmid A k s p t g r) (g (t + ykl A k p ((r : Int) + 1))) else fmid A k s p t g r)
    rw [hf _ (by omega) (by omega)]
    by_cases c : k_cf A k s p ((r : Int) + 1)
    · rw [if_pos c, if_pos c, ken_few hP hq (hg _ (by omega) (by omega) c), ih]
    · rw [if_neg c, if_neg c, if_neg (by omega), ih]
end LINK
