/-! THE PURE RECURSIVE DESCENT, in KiltRoom's own shape; codes are KiltRoom's -/
def lvC (c : Int) : Int := if c = 202 then 0 else if c = 203 then 1 else if c = 60 ∨ c = 61 then 2 else if c = 43 ∨ c = 45 then 3 else if c = 42 then 4 else -1
abbrev Rr : Type := Bool × Int × List Int
def rdL (t : Int → Int) (n : Int) (sub : Int → Rr) (l : Int) : Nat → Int → List Int → Rr
  | 0, p, out => (true, p, out)
  | k + 1, p, out => if lvC (tkC t n p) = l then (if (sub (tkE t n p)).1 = true then rdL t n sub l k (sub (tkE t n p)).2.1 (out ++ (sub (tkE t n p)).2.2 ++ [-(tkC t n p)]) else (false, (sub (tkE t n p)).2.1, [])) else (true, p, out)
def rdE (t : Int → Int) (n : Int) : Nat → Int → Int → Int → Rr
  | 0, _, _, p => (false, p, [])
  | f + 1, l, op, p =>
    if 5 ≤ l then
      (if tkC t n p = 400 then (true, tkE t n p, [tkV t n p])
       else if 205 ≤ tkC t n p ∧ tkC t n p ≤ 210 then (true, tkE t n p, [10000 + (tkC t n p - 205)])
       else if tkC t n p = 45 then (if 5 ≤ op then (false, p, []) else if (rdE t n f 5 (op + 1) (tkE t n p)).1 = true then (true, (rdE t n f 5 (op + 1) (tkE t n p)).2.1, (rdE t n f 5 (op + 1) (tkE t n p)).2.2 ++ [-300]) else (false, (rdE t n f 5 (op + 1) (tkE t n p)).2.1, []))
       else if tkC t n p = 40 then (if 5 ≤ op then (false, p, []) else if (rdE t n f 0 (op + 1) (tkE t n p)).1 = true then (if tkC t n (rdE t n f 0 (op + 1) (tkE t n p)).2.1 = 41 then (true, tkE t n (rdE t n f 0 (op + 1) (tkE t n p)).2.1, (rdE t n f 0 (op + 1) (tkE t n p)).2.2) else (false, (rdE t n f 0 (op + 1) (tkE t n p)).2.1, [])) else (false, (rdE t n f 0 (op + 1) (tkE t n p)).2.1, []))
       else (false, p, []))
    else if l = 2 ∧ tkC t n p = 204 then (if 5 ≤ op then (false, p, []) else if (rdE t n f 2 (op + 1) (tkE t n p)).1 = true then (true, (rdE t n f 2 (op + 1) (tkE t n p)).2.1, (rdE t n f 2 (op + 1) (tkE t n p)).2.2 ++ [-204]) else (false, (rdE t n f 2 (op + 1) (tkE t n p)).2.1, []))
    else if (rdE t n f (l + 1) op p).1 = true then rdL t n (rdE t n f (l + 1) op) l (if l = 2 then 1 else 160) (rdE t n f (l + 1) op p).2.1 (rdE t n f (l + 1) op p).2.2
    else (false, (rdE t n f (l + 1) op p).2.1, [])
/-- a row that is reckoned from left to right: from h numbers on the stack -/
def vs : List Int → Nat → Option Nat
  | [], h => some h
  | c :: r, h => if 0 ≤ c then vs r (h + 1) else if c = -204 ∨ c = -300 then (if 1 ≤ h then vs r h else none) else (if 2 ≤ h then vs r (h - 1) else none)
def cdOK (c : Int) : Prop := (0 ≤ c ∧ c ≤ 10005) ∨ c = -204 ∨ c = -300 ∨ (0 ≤ lvC (-c) ∧ c < 0)
def RdOK (n : Int) (r : Rr) (p : Int) : Prop := (r.1 = true → p < r.2.1 ∧ r.2.1 ≤ n ∧ (r.2.2.length : Int) ≤ r.2.1 - p ∧ (∀ (h : Nat) (z : List Int), vs (r.2.2 ++ z) h = vs z (h + 1)) ∧ ∀ c ∈ r.2.2, cdOK c) ∧ (¬ r.1 = true → p ≤ r.2.1 ∧ r.2.1 ≤ n)
theorem lvC_c {c l : Int} (h : lvC c = l) (hl : 0 ≤ l) : c = 202 ∨ c = 203 ∨ c = 60 ∨ c = 61 ∨ c = 43 ∨ c = 45 ∨ c = 42 := by
  unfold lvC at h
  (repeat' split at h) <;> omega
theorem tok_adv {t : Int → Int} {n p : Int} (hp : p ≤ n) (h : ¬ tkC t n p = 401) : p < tkE t n p ∧ tkE t n p ≤ n := by
  have := tkC_lt h
  have := tkE_b (t := t) (n := n) (p := p) hp
  omega
theorem tkV_b {t : Int → Int} {n p : Int} (h : tkC t n p = 400) : 0 ≤ tkV t n p ∧ tkV t n p ≤ 9999 := by
  have hlt := tkC_lt (t := t) (n := n) (p := p) (by omega)
  have hL : ¬ isLe (t (tkB t n p)) = true := fun q => by
    unfold tkC at h; rw [if_neg (by omega), if_pos q] at h
    split at h
    · omega
    · rename_i c; unfold wkT at h c; (repeat' split at h) <;> omega
  have hD : isDi (t (tkB t n p)) = true := by
    apply Classical.byContradiction
    intro q
    unfold tkC at h; rw [if_neg (by omega), if_neg hL, if_neg q] at h
    split at h <;> rename_i c <;> (try unfold isSg at c) <;> omega
  have hE : tkE t n p = skf isDi t n (tkB t n p) := by unfold tkE; rw [if_neg (by omega), if_neg hL, if_pos hD]
  have key : ∀ (r : Nat) (q : Int), n - q ≤ r → ∀ i : Int, q ≤ i → i < skf isDi t n q → 48 ≤ t i ∧ t i ≤ 57 := by
    intro r
    induction r with
    | zero =>
      intro q hq i h1 h2
      rw [skf_e (by omega)] at h2
      omega
    | succ r ih =>
      intro q hq i h1 h2
      by_cases hn : q < n
      · rw [skf_s hn] at h2
        split at h2
        · rename_i c
          by_cases e : i = q
          · subst e; unfold isDi at c; simpa using c
          · exact ih (q + 1) (by omega) i (by omega) h2
        · omega
      · rw [skf_e (by omega)] at h2; omega
  have hk := key (n - tkB t n p).toNat (tkB t n p) (by omega)
  have h9 := dv_b4 (t := t) (p := tkB t n p) (min 4 (tkE t n p - tkB t n p)).toNat (by omega) (fun i hi => hk _ (by omega) (by rw [hE] at hi; omega))
  exact ⟨h9.1, h9.2.2⟩
theorem ffq {P : Prop} (q : false = true) : P := absurd q (by decide)
theorem rdL_ok {t : Int → Int} {n : Int} {sub : Int → Rr} {l : Int} (hl : 0 ≤ l) (hs : ∀ p, 0 ≤ p → p ≤ n → RdOK n (sub p) p) : ∀ (k : Nat) (p q : Int) (out : List Int), 0 ≤ p → p ≤ n → RdOK n (true, p, out) q → RdOK n (rdL t n sub l k p out) q
  | 0, p, q, out, _, _, h => h
  | k + 1, p, q, out, h0, h1, h => by
    unfold rdL
    by_cases c : lvC (tkC t n p) = l
    · have hc := lvC_c c hl
      have ta := tok_adv (t := t) h1 (by omega)
      have h2 := hs (tkE t n p) (by omega) ta.2
      rw [if_pos c]
      by_cases c2 : (sub (tkE t n p)).1 = true
      · rw [if_pos c2]
        obtain ⟨a1, a2, a3, a4, a5⟩ := h2.1 c2
        obtain ⟨b1, b2, b3, b4, b5⟩ := h.1 rfl
        change q < p at b1
        change (out.length : Int) ≤ p - q at b3
        change ∀ (h : Nat) (z : List Int), vs (out ++ z) h = vs z (h + 1) at b4
        refine rdL_ok hl hs k _ q _ (by omega) a2 ⟨fun _ => ⟨by show q < (sub (tkE t n p)).2.1; omega, a2, ?_, fun hh z => ?_, fun c' hc' => ?_⟩, fun q => absurd rfl q⟩
        · show ((out ++ (sub (tkE t n p)).2.2 ++ [-(tkC t n p)]).length : Int) ≤ (sub (tkE t n p)).2.1 - q
          simp only [List.length_append, List.length_cons, List.length_nil]
          omega
        · show vs (out ++ (sub (tkE t n p)).2.2 ++ [-(tkC t n p)] ++ z) hh = _
          rw [List.append_assoc, List.append_assoc, b4, a4]
          show (if 0 ≤ -(tkC t n p) then _ else if -(tkC t n p) = -204 ∨ -(tkC t n p) = -300 then _ else if 2 ≤ hh + 1 + 1 then vs z (hh + 1 + 1 - 1) else none) = _
          rw [if_neg (by omega), if_neg (by omega), if_pos (by omega)]
          rfl
        · have hm : c' ∈ out ∨ c' ∈ (sub (tkE t n p)).2.2 ∨ c' = -(tkC t n p) := by
            have := hc'
            simp only [List.mem_append, List.mem_singleton] at this
            rcases this with (z | z) | z
            · exact Or.inl z
            · exact Or.inr (Or.inl z)
            · exact Or.inr (Or.inr z)
          rcases hm with z | z | z
          · exact b5 c' z
          · exact a5 c' z
          · refine Or.inr (Or.inr (Or.inr ⟨?_, by omega⟩)); rw [z, Int.neg_neg, c]; exact hl
      · rw [if_neg c2]
        have b := h.1 rfl
        have a := h2.2 c2
        exact ⟨fun q => ffq q, fun _ => ⟨by have : q < p := b.1; show q ≤ (sub (tkE t n p)).2.1; omega, a.2⟩⟩
    · rw [if_neg c]; exact h
theorem rdE_ok {t : Int → Int} {n : Int} : ∀ (f : Nat) (l op p : Int), 0 ≤ l → 0 ≤ p → p ≤ n → RdOK n (rdE t n f l op p) p
  | 0, l, op, p, _, h0, h1 => ⟨fun q => ffq q, fun _ => ⟨Int.le_refl p, h1⟩⟩
  | f + 1, l, op, p, hl, h0, h1 => by
    have bad : RdOK n (false, p, []) p := ⟨fun q => ffq q, fun _ => ⟨Int.le_refl p, h1⟩⟩
    have un : ∀ (l' op' w : Int), 0 ≤ l' → w = -204 ∨ w = -300 → ¬ tkC t n p = 401 → RdOK n (if (rdE t n f l' op' (tkE t n p)).1 = true then (true, (rdE t n f l' op' (tkE t n p)).2.1, (rdE t n f l' op' (tkE t n p)).2.2 ++ [w]) else (false, (rdE t n f l' op' (tkE t n p)).2.1, [])) p := by
      intro l' op' w hl' hw hc
      have ta := tok_adv (t := t) h1 hc
      have h2 := rdE_ok (t := t) (n := n) f l' op' (tkE t n p) hl' (by omega) ta.2
      generalize rdE t n f l' op' (tkE t n p) = r at h2 ⊢
      by_cases c : r.1 = true
      · rw [if_pos c]
        obtain ⟨a1, a2, a3, a4, a5⟩ := h2.1 c
        refine ⟨fun _ => ⟨by show p < r.2.1; omega, a2, ?_, fun hh z => ?_, fun c' hc' => ?_⟩, fun q => absurd rfl q⟩
        · show ((r.2.2 ++ [w]).length : Int) ≤ r.2.1 - p
          simp only [List.length_append, List.length_cons, List.length_nil]; omega
        · show vs (r.2.2 ++ [w] ++ z) hh = _
          rw [List.append_assoc, a4]
          show (if 0 ≤ w then _ else if w = -204 ∨ w = -300 then (if 1 ≤ hh + 1 then vs z (hh + 1) else none) else _) = _
          rw [if_neg (by omega), if_pos hw, if_pos (by omega)]
        · have hm : c' ∈ r.2.2 ∨ c' = w := by
            have := hc'
            simp only [List.mem_append, List.mem_singleton] at this
            exact this
          rcases hm with z | z
          · exact a5 c' z
          · rcases hw with e | e
            · exact Or.inr (Or.inl (z.trans e))
            · exact Or.inr (Or.inr (Or.inl (z.trans e)))
      · rw [if_neg c]
        have a := h2.2 c
        exact ⟨fun q => ffq q, fun _ => ⟨by show p ≤ r.2.1; omega, a.2⟩⟩
    have one : ∀ w : Int, 0 ≤ w → w ≤ 10005 → ¬ tkC t n p = 401 → RdOK n (true, tkE t n p, [w]) p := by
      intro w hw hw2 hc
      have ta := tok_adv (t := t) h1 hc
      refine ⟨fun _ => ⟨ta.1, ta.2, ?_, fun hh z => ?_, fun c' hc' => ?_⟩, fun q => absurd rfl q⟩
      · show ((1 : Nat) : Int) ≤ tkE t n p - p; omega
      · show (if 0 ≤ w then vs z (hh + 1) else _) = _
        rw [if_pos hw]
      · have : c' = w := by simpa using hc'
        exact Or.inl ⟨by omega, by omega⟩
    unfold rdE
    by_cases c5 : 5 ≤ l
    · rw [if_pos c5]
      by_cases d1 : tkC t n p = 400
      · rw [if_pos d1]; have hv := tkV_b d1; exact one _ hv.1 (by omega) (by omega)
      · rw [if_neg d1]
        by_cases d2 : 205 ≤ tkC t n p ∧ tkC t n p ≤ 210
        · rw [if_pos d2]; exact one _ (by omega) (by omega) (by omega)
        · rw [if_neg d2]
          by_cases d3 : tkC t n p = 45
          · rw [if_pos d3]
            by_cases d4 : 5 ≤ op
            · rw [if_pos d4]; exact bad
            · rw [if_neg d4]; exact un 5 (op + 1) (-300) (by decide) (Or.inr rfl) (by omega)
          · rw [if_neg d3]
            by_cases d5 : tkC t n p = 40
            · rw [if_pos d5]
              by_cases d4 : 5 ≤ op
              · rw [if_pos d4]; exact bad
              · rw [if_neg d4]
                have ta := tok_adv (t := t) h1 (by omega)
                have h2 := rdE_ok (t := t) (n := n) f 0 (op + 1) (tkE t n p) (by decide) (by omega) ta.2
                generalize rdE t n f 0 (op + 1) (tkE t n p) = r at h2 ⊢
                by_cases c : r.1 = true
                · rw [if_pos c]
                  obtain ⟨a1, a2, a3, a4, a5⟩ := h2.1 c
                  by_cases c2 : tkC t n r.2.1 = 41
                  · rw [if_pos c2]
                    have tb := tok_adv (t := t) a2 (by omega)
                    exact ⟨fun _ => ⟨by show p < tkE t n r.2.1; omega, tb.2, by show (r.2.2.length : Int) ≤ tkE t n r.2.1 - p; omega, a4, a5⟩, fun q => absurd rfl q⟩
                  · rw [if_neg c2]
                    exact ⟨fun q => ffq q, fun _ => ⟨by show p ≤ r.2.1; omega, a2⟩⟩
                · rw [if_neg c]
                  have a := h2.2 c
                  exact ⟨fun q => ffq q, fun _ => ⟨by show p ≤ r.2.1; omega, a.2⟩⟩
            · rw [if_neg d5]; exact bad
    · rw [if_neg c5]
      by_cases d1 : l = 2 ∧ tkC t n p = 204
      · rw [if_pos d1]
        by_cases d4 : 5 ≤ op
        · rw [if_pos d4]; exact bad
        · rw [if_neg d4]; exact un 2 (op + 1) (-204) (by decide) (Or.inl rfl) (by omega)
      · rw [if_neg d1]
        have hs := fun q h0 h1 => rdE_ok (t := t) (n := n) f (l + 1) op q (by omega) h0 h1
        have h2 := hs p h0 h1
        by_cases c : (rdE t n f (l + 1) op p).1 = true
        · rw [if_pos c]
          obtain ⟨a1, a2, a3, a4, a5⟩ := h2.1 c
          exact rdL_ok hl hs _ _ p _ (by omega) a2 ⟨fun _ => ⟨a1, a2, a3, a4, a5⟩, fun q => absurd rfl q⟩
        · rw [if_neg c]
          have a := h2.2 c
          exact ⟨fun q => ffq q, fun _ => a⟩
