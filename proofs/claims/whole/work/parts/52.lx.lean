/-! THE MODEL'S READER AGAINST THE DESCENT: over any predicate that is closed under the reader's steps -/
def cm (c : Int) : Int := if c = -204 then -3 else if c = -300 then -9 else if c < 0 then sgC (-c) else c
def tpR : List Int → Int
  | [] => 0
  | x :: _ => m_rank x
def srk (l : Int) : Int := if l = 0 then 1 else if l = 1 then 2 else if l = 2 then 4 else if l = 3 then 5 else 6
def prk (l : Int) : Int := if l = 2 then 3 else srk l
abbrev GG : Type := Int → Int → List Int → List Int → (Int → Int) → Int → Int → Prop
def Clo (t : Int → Int) (n : Int) (G : GG) (B : Int → Prop) : Prop :=
  (∀ x2 S out F op p, (x2 = 0 ∨ x2 = 1) → ¬ (tkC t n p = 400 ∨ (205 ≤ tkC t n p ∧ tkC t n p ≤ 210) ∨ (¬ op = 5 ∧ ((tkC t n p = 204 ∧ ¬ x2 = 0) ∨ tkC t n p = 40 ∨ tkC t n p = 45))) → B p → G 1 x2 S out F op p) ∧
  (∀ x2 S out F op p w, (x2 = 0 ∨ x2 = 1) → (cntO S ≤ op ∧ op ≤ 5) → ((tkC t n p = 400 ∧ w = tkV t n p) ∨ (205 ≤ tkC t n p ∧ tkC t n p ≤ 210 ∧ w = 10000 + (tkC t n p - 205))) → G 0 x2 (popS 7 S) ((popR 7 S).reverse ++ w :: out) F (op - cntO (popR 7 S)) (tkE t n p) → G 1 x2 S out F op p) ∧
  (∀ S out F op p, (0 ≤ op ∧ op < 5) → tkC t n p = 204 → G 1 1 (-3 :: S) out F (op + 1) (tkE t n p) → G 1 1 S out F op p) ∧
  (∀ x2 S out F op p, (x2 = 0 ∨ x2 = 1) → (0 ≤ op ∧ op < 5) → tkC t n p = 45 → G 1 0 (-9 :: S) out F (op + 1) (tkE t n p) → G 1 x2 S out F op p) ∧
  (∀ x2 S out F op p, (x2 = 0 ∨ x2 = 1) → (0 ≤ op ∧ op < 5) → cntB S ≤ 5 → tkC t n p = 40 → G 1 1 (-10 :: S) out (fun i => if i = cntB S + 1 then 0 else F i) (op + 1) (tkE t n p) → G 1 x2 S out F op p) ∧
  (∀ x2 S S' out F op p, (x2 = 0 ∨ x2 = 1) → (cntO S + cntB S ≤ op ∧ op ≤ 5) → tkC t n p = 41 → popS 1 S = -10 :: S' → G 0 x2 (popS 7 S') ((popR 7 S').reverse ++ ((popR 1 S).reverse ++ out)) F (op - cntO (popR 1 S) - 1 - cntO (popR 7 S')) (tkE t n p) → G 0 x2 S out F op p) ∧
  (∀ x2 S out F op p, (x2 = 0 ∨ x2 = 1) → (cntO S ≤ op ∧ op ≤ 5) → cntB S ≤ 5 → ¬ sgC (tkC t n p) = 0 → (m_rank (sgC (tkC t n p)) = 4 → F (cntB S) = 0) → G 1 (if 3 ≤ m_rank (sgC (tkC t n p)) then 0 else 1) (sgC (tkC t n p) :: popS (m_rank (sgC (tkC t n p))) S) ((popR (m_rank (sgC (tkC t n p))) S).reverse ++ out) (fun i => if i = cntB S then flN (m_rank (sgC (tkC t n p))) (F (cntB S)) else F i) (op - cntO (popR (m_rank (sgC (tkC t n p))) S)) (tkE t n p) → G 0 x2 S out F op p) ∧
  (∀ x2 S out F op p, (x2 = 0 ∨ x2 = 1) → (cntO S ≤ op ∧ op ≤ 5) → cntB S ≤ 5 → ((tkC t n p = 41 ∧ cntB S = 0) ∨ (tkC t n p = 59 ∧ ¬ cntB S = 0) ∨ (¬ tkC t n p = 41 ∧ ¬ tkC t n p = 59 ∧ (sgC (tkC t n p) = 0 ∨ ((tkC t n p = 60 ∨ tkC t n p = 61) ∧ ¬ F (cntB S) = 0)))) → B p → G 0 x2 S out F op p)
theorem pop_hi {r : Int} : ∀ {S : List Int}, tpR S < r → popS r S = S ∧ popR r S = []
  | [], _ => ⟨rfl, rfl⟩
  | x :: s, h => by
    have h2 : m_rank x < r := h
    have h' : ¬ r ≤ m_rank x := by omega
    exact ⟨by unfold popS; rw [if_neg h'], by unfold popR; rw [if_neg h']⟩
theorem pop_all {r : Int} {S : List Int} (hS : tpR S < r) : ∀ {P : List Int}, (∀ x ∈ P, r ≤ m_rank x) → popS r (P ++ S) = S ∧ popR r (P ++ S) = P
  | [], _ => pop_hi hS
  | x :: P, h => by
    have h1 : r ≤ m_rank x := h x (by simp)
    have h2 := pop_all hS (P := P) (fun y hy => h y (by simp [hy]))
    show (if r ≤ m_rank x then popS r (P ++ S) else x :: (P ++ S)) = S ∧ (if r ≤ m_rank x then x :: popR r (P ++ S) else []) = x :: P
    rw [if_pos h1, if_pos h1, h2.1, h2.2]
    exact ⟨rfl, rfl⟩
theorem cntB_app {S : List Int} : ∀ {P : List Int}, (∀ x ∈ P, 1 ≤ m_rank x) → cntB (P ++ S) = cntB S
  | [], _ => rfl
  | x :: P, h => by
    have h1 := h x (by simp)
    have h2 := cntB_app (S := S) (P := P) (fun y hy => h y (by simp [hy]))
    have e : ¬ x = -10 := fun q => by subst q; simp [m_rank] at h1
    show (if x = -10 then 1 else 0) + cntB (P ++ S) = _
    rw [if_neg e, h2]; omega
theorem cntO_app {S : List Int} : ∀ {P : List Int}, cntO (P ++ S) = cntO P + cntO S
  | [] => by show cntO S = 0 + cntO S; omega
  | x :: P => by
    have h2 := cntO_app (S := S) (P := P)
    show (if x = -3 ∨ x = -9 then 1 else 0) + cntO (P ++ S) = (if x = -3 ∨ x = -9 then 1 else 0) + cntO P + cntO S
    rw [h2]; omega
theorem lv_sg {c l : Int} (h : lvC c = l) (h0 : 0 ≤ l) : ¬ sgC c = 0 ∧ m_rank (sgC c) = srk l ∧ cm (-c) = sgC c ∧ ¬ (sgC c = -3 ∨ sgC c = -9) ∧ ¬ sgC c = -10 ∧ (l = 2 → c = 60 ∨ c = 61) := by
  rcases lvC_c h h0 with e | e | e | e | e | e | e <;> subst e <;> subst h <;> decide
theorem lv_r {c : Int} : -1 ≤ lvC c ∧ lvC c ≤ 4 := by unfold lvC; (repeat' split) <;> omega
theorem sg_lv {c : Int} (h : lvC c < 0) : sgC c = 0 := by
  unfold lvC at h
  unfold sgC
  (repeat' split at h) <;> first | omega | (simp_all)
def EndC (l c f : Int) : Prop := lvC c < l ∨ (lvC c = 2 ∧ l ≤ 2 ∧ ¬ f = 0)
/-- what stands behind a part that was read: the row is row and what waits, P -/
def Cnt (t : Int → Int) (n : Int) (G : GG) (l op : Int) (S out : List Int) (F : Int → Int) (r : Rr) : Prop :=
  ∀ (x2 : Int) (P row : List Int) (F' : Int → Int), (x2 = 0 ∨ x2 = 1) → r.2.2.map cm = row ++ P → (l = 5 → P = []) → (∀ x ∈ P, prk l ≤ m_rank x) → (cntO P + op - cntO (popR 7 S) ≤ 5) → (∀ i, i < cntB S → F' i = F i) → (3 ≤ l → (F' (cntB S) = 0 ↔ F (cntB S) = 0)) → EndC l (tkC t n r.2.1) (F' (cntB S)) → G 0 x2 (P ++ popS 7 S) ((popR 7 S).reverse ++ (row.reverse ++ out)) F' (cntO P + op - cntO (popR 7 S)) r.2.1
def LXs (t : Int → Int) (n : Int) (G : GG) (B : Int → Prop) (f : Nat) (l : Int) : Prop := ∀ (op p x2 : Int) (S out : List Int) (F : Int → Int), (0 ≤ op ∧ op ≤ 5) → (5 - op) * 7 + 6 - l ≤ f → (x2 = 0 ∨ x2 = 1) → (l ≤ 2 → x2 = 1 ∧ F (cntB S) = 0) → (3 ≤ l → x2 = 1 → ¬ tkC t n p = 204) → op = cntO S + cntB S → (l ≤ 4 → tpR S < srk l) → (0 ≤ p ∧ p ≤ n) →
  (¬ (rdE t n f l op p).1 = true → B (rdE t n f l op p).2.1 → G 1 x2 S out F op p) ∧ ((rdE t n f l op p).1 = true → Cnt t n G l op S out F (rdE t n f l op p) → G 1 x2 S out F op p)
theorem srk_b {l : Int} (h0 : 0 ≤ l) (h4 : l ≤ 4) : 1 ≤ srk l ∧ srk l ≤ 6 ∧ (l ≤ 1 → srk l ≤ 2) ∧ (2 ≤ l → 4 ≤ srk l) ∧ (l = 2 ↔ srk l = 4) ∧ prk l ≤ srk l ∧ 1 ≤ prk l ∧ (l + 1 ≤ 4 → srk l < srk (l + 1) ∧ srk l ≤ prk (l + 1)) := by
  rcases (show l = 0 ∨ l = 1 ∨ l = 2 ∨ l = 3 ∨ l = 4 by omega) with e | e | e | e | e <;> subst e <;> decide
theorem LXl {t : Int → Int} {n : Int} {G : GG} {B : Int → Prop} (hC : Clo t n G B) (hn : n ≤ 160) {f : Nat} {l : Int} (hl : 0 ≤ l ∧ l ≤ 4) (IH : LXs t n G B f (l + 1)) {op : Int} {S out : List Int} {F : Int → Int} (hop : 0 ≤ op ∧ op ≤ 5) (hf : (5 - op) * 7 + 6 - (l + 1) ≤ f) (hopS : op = cntO S + cntB S) (hS : tpR S < srk l) :
    ∀ (k : Nat) (x2 p : Int) (P row o : List Int) (F1 : Int → Int), (x2 = 0 ∨ x2 = 1) → o.map cm = row ++ P → (∀ x ∈ P, srk l ≤ m_rank x) → cntO P + op ≤ 5 → (∀ i, i < cntB S → F1 i = F i) → (l = 2 → (k = 0 ∧ ¬ F1 (cntB S) = 0) ∨ (k = 1 ∧ F1 (cntB S) = 0)) → (¬ l = 2 → n - p < k) → (3 ≤ l → (F1 (cntB S) = 0 ↔ F (cntB S) = 0)) → EndC (l + 1) (tkC t n p) (F1 (cntB S)) → (0 ≤ p ∧ p ≤ n) →
      (¬ (rdL t n (rdE t n f (l + 1) op) l k p o).1 = true → B (rdL t n (rdE t n f (l + 1) op) l k p o).2.1 → G 0 x2 (P ++ S) (row.reverse ++ out) F1 (cntO P + op) p) ∧
      ((rdL t n (rdE t n f (l + 1) op) l k p o).1 = true → Cnt t n G l op S out F (rdL t n (rdE t n f (l + 1) op) l k p o) → G 0 x2 (P ++ S) (row.reverse ++ out) F1 (cntO P + op) p) := by
  obtain ⟨s1, s2, s3, s4, s5, s6, s7, s8⟩ := srk_b hl.1 hl.2
  have h7 := pop_hi (r := 7) (S := S) (by omega)
  intro k
  induction k with
  | zero =>
    intro x2 p P row o F1 hx ho hP hcn hF h2 hk h3 hE hp
    show (¬ (true = true) → _) ∧ ((true = true) → Cnt t n G l op S out F (true, p, o) → _)
    refine ⟨fun q => absurd rfl q, fun _ hG => ?_⟩
    have hl2 : l = 2 := by apply Classical.byContradiction; intro q; have := hk q; omega
    have := hG x2 P row F1 hx ho (fun q => by omega) (fun x hx => Int.le_trans s6 (hP x hx)) (by rw [h7.2]; show cntO P + op - 0 ≤ 5; omega) hF h3 (by
      show EndC l (tkC t n p) (F1 (cntB S))
      rcases hE with q | q
      · have := h2 hl2
        by_cases c : lvC (tkC t n p) < l
        · exact Or.inl c
        · exact Or.inr ⟨by omega, by omega, by omega⟩
      · omega)
    rw [h7.1, h7.2] at this
    simpa [cntO] using this
  | succ k ih =>
    intro x2 p P row o F1 hx ho hP hcn hF h2 hk h3 hE hp
    unfold rdL
    by_cases c : lvC (tkC t n p) = l
    · rw [if_pos c]
      have hc9 := lvC_c c hl.1
      obtain ⟨g1, g2, g3, g4, g5, g6⟩ := lv_sg c hl.1
      have ta := tok_adv (t := t) hp.2 (by omega)
      have hpa := pop_all hS hP
      have hcb : cntB (P ++ S) = cntB S := cntB_app (fun x hx => Int.le_trans s1 (hP x hx))
      have hco : cntO (P ++ S) = cntO P + cntO S := cntO_app
      have hbn := cntB_nn S
      have hon := cntO_nn S
      have hpn := cntO_nn P
      have hl2 : l = 2 → k = 0 ∧ F1 (cntB S) = 0 := fun q => by have := h2 q; omega
      -- the step
      have step : G 1 (if 3 ≤ srk l then 0 else 1) (sgC (tkC t n p) :: S) (P.reverse ++ (row.reverse ++ out)) (fun i => if i = cntB S then flN (srk l) (F1 (cntB S)) else F1 i) op (tkE t n p) → G 0 x2 (P ++ S) (row.reverse ++ out) F1 (cntO P + op) p := by
        intro h
        refine hC.2.2.2.2.2.2.1 x2 (P ++ S) (row.reverse ++ out) F1 (cntO P + op) p hx ⟨by omega, hcn⟩ (by omega) g1 (fun q => by rw [g2] at q; rw [hcb]; exact (hl2 (s5.mpr q)).2) ?_
        rw [g2, hpa.1, hpa.2, hcb, show cntO P + op - cntO P = op by omega]
        exact h
      have hop2 : op = cntO (sgC (tkC t n p) :: S) + cntB (sgC (tkC t n p) :: S) := by
        show op = ((if sgC (tkC t n p) = -3 ∨ sgC (tkC t n p) = -9 then 1 else 0) + cntO S) + ((if sgC (tkC t n p) = -10 then 1 else 0) + cntB S)
        rw [if_neg g4, if_neg g5]; omega
      have hcb2 : cntB (sgC (tkC t n p) :: S) = cntB S := by
        show (if sgC (tkC t n p) = -10 then 1 else 0) + cntB S = _
        rw [if_neg g5]; omega
      have ht7 := pop_hi (r := 7) (S := sgC (tkC t n p) :: S) (by show m_rank (sgC (tkC t n p)) < 7; omega)
      have hx3 : ∀ y : Int, y = (if 3 ≤ srk l then 0 else 1) → (y = 0 ∨ y = 1) ∧ (l + 1 ≤ 2 → y = 1) ∧ (3 ≤ l + 1 → y = 0) := fun y hy => by
        split at hy <;> omega
      have hI := IH op (tkE t n p) (if 3 ≤ srk l then 0 else 1) (sgC (tkC t n p) :: S) (P.reverse ++ (row.reverse ++ out)) (fun i => if i = cntB S then flN (srk l) (F1 (cntB S)) else F1 i) hop hf (hx3 _ rfl).1 (fun q => ⟨(hx3 _ rfl).2.1 q, by
        rw [hcb2]
        show (if cntB S = cntB S then flN (srk l) (F1 (cntB S)) else F1 (cntB S)) = 0
        rw [if_pos rfl]
        unfold flN
        rw [if_neg (by omega), if_pos (by omega)]⟩) (fun q1 q2 => by have := (hx3 _ rfl).2.2 q1; omega) hop2 (fun q => by show m_rank (sgC (tkC t n p)) < srk (l + 1); have := (s8 q).1; omega) ⟨by omega, ta.2⟩
      have hsub := rdE_ok (t := t) (n := n) f (l + 1) op (tkE t n p) (by omega) (by omega) ta.2
      by_cases c2 : (rdE t n f (l + 1) op (tkE t n p)).1 = true
      · rw [if_pos c2]
        obtain ⟨a1, a2, -⟩ := hsub.1 c2
        have key : ∀ (Z : Prop), (∀ (x2' : Int) (P2 row2 : List Int) (F' : Int → Int), (x2' = 0 ∨ x2' = 1) → (rdE t n f (l + 1) op (tkE t n p)).2.2.map cm = row2 ++ P2 → (∀ x ∈ P2, srk l ≤ m_rank x) → cntO P2 + op ≤ 5 → (∀ i, i < cntB S → F' i = F1 i) → (3 ≤ l + 1 → (F' (cntB S) = 0 ↔ flN (srk l) (F1 (cntB S)) = 0)) → EndC (l + 1) (tkC t n (rdE t n f (l + 1) op (tkE t n p)).2.1) (F' (cntB S)) → Z → G 0 x2' ((P2 ++ [sgC (tkC t n p)]) ++ S) ((row ++ P ++ row2).reverse ++ out) F' (cntO (P2 ++ [sgC (tkC t n p)]) + op) (rdE t n f (l + 1) op (tkE t n p)).2.1) → Z → G 0 x2 (P ++ S) (row.reverse ++ out) F1 (cntO P + op) p := by
          intro Z h z
          refine step (hI.2 c2 ?_)
          intro x2' P2 row2 F' b1 b2 b3 b4 b5 b6 b7 b8
          rw [hcb2] at b6 b7 b8
          rw [ht7.2] at b5
          have b7' : 3 ≤ l + 1 → (F' (cntB S) = 0 ↔ flN (srk l) (F1 (cntB S)) = 0) := fun q => by
            have := b7 q
            simpa using this
          have hPr : ∀ x ∈ P2, srk l ≤ m_rank x := fun x hx => by
            by_cases q : l + 1 ≤ 4
            · exact Int.le_trans (s8 q).2 (b4 x hx)
            · rw [b3 (by omega)] at hx; cases hx
          have b5' : cntO P2 + op ≤ 5 := by simpa [cntO] using b5
          have := h x2' P2 row2 F' b1 b2 hPr b5' (fun i hi => by
            have := b6 i hi
            rw [this]
            show (if i = cntB S then _ else F1 i) = F1 i
            rw [if_neg (by omega)]) b7' b8 z
          have e1 : (P2 ++ [sgC (tkC t n p)]) ++ S = P2 ++ (sgC (tkC t n p) :: S) := by simp
          have e2 : (row ++ P ++ row2).reverse ++ out = row2.reverse ++ (P.reverse ++ (row.reverse ++ out)) := by simp
          have e3 : cntO (P2 ++ [sgC (tkC t n p)]) = cntO P2 := by
            rw [cntO_app]
            show cntO P2 + ((if sgC (tkC t n p) = -3 ∨ sgC (tkC t n p) = -9 then 1 else 0) + 0) = cntO P2
            rw [if_neg g4]; omega
          rw [e1, e2, e3] at this
          rw [ht7.1, ht7.2]
          simpa [cntO] using this
        have nx : ∀ (x2' : Int) (P2 row2 : List Int) (F' : Int → Int), (x2' = 0 ∨ x2' = 1) → (rdE t n f (l + 1) op (tkE t n p)).2.2.map cm = row2 ++ P2 → (∀ x ∈ P2, srk l ≤ m_rank x) → cntO P2 + op ≤ 5 → (∀ i, i < cntB S → F' i = F1 i) → (3 ≤ l + 1 → (F' (cntB S) = 0 ↔ flN (srk l) (F1 (cntB S)) = 0)) → EndC (l + 1) (tkC t n (rdE t n f (l + 1) op (tkE t n p)).2.1) (F' (cntB S)) → _ := fun x2' P2 row2 F' b1 b2 b3 b4 b5 b6 b7 =>
          ih x2' (rdE t n f (l + 1) op (tkE t n p)).2.1 (P2 ++ [sgC (tkC t n p)]) (row ++ P ++ row2) (o ++ (rdE t n f (l + 1) op (tkE t n p)).2.2 ++ [-(tkC t n p)]) F' b1
            (by simp only [List.map_append, List.map_cons, List.map_nil, ho, b2, g3]; simp)
            (fun x hx => by
              rcases List.mem_append.mp hx with q | q
              · exact b3 x q
              · rw [List.mem_singleton.mp q, g2]; exact Int.le_refl _)
            (by
              rw [cntO_app]
              show cntO P2 + ((if sgC (tkC t n p) = -3 ∨ sgC (tkC t n p) = -9 then 1 else 0) + 0) + op ≤ 5
              rw [if_neg g4]; omega)
            (fun i hi => (b5 i hi).trans (hF i hi))
            (fun q => by
              have h9 := b6 (by omega)
              have h8 := hl2 q
              refine Or.inl ⟨h8.1, fun z => ?_⟩
              have := h9.mp z
              rw [s5.mp q] at this
              unfold flN at this
              rw [if_pos rfl] at this
              exact absurd this (by decide))
            (fun q => by have := hk q; omega)
            (fun q => by
              have h9 := b6 (by omega)
              have h8 := h3 q
              rw [h9, ← h8]
              unfold flN
              rw [if_neg (fun z => by have := s5.mpr z; omega), if_neg (by have := s4 (by omega); omega)]
              split
              · rename_i z; simp [z]
              · rename_i z; simp [z])
            b7 ⟨by omega, a2⟩
        refine ⟨fun q hB => ?_, fun q hG => ?_⟩
        · exact key True (fun x2' P2 row2 F' b1 b2 b3 b4 b5 b6 b7 _ => (nx x2' P2 row2 F' b1 b2 b3 b4 b5 b6 b7).1 q hB) trivial
        · exact key True (fun x2' P2 row2 F' b1 b2 b3 b4 b5 b6 b7 _ => (nx x2' P2 row2 F' b1 b2 b3 b4 b5 b6 b7).2 q hG) trivial
      · rw [if_neg c2]
        exact ⟨fun _ hB => step (hI.1 c2 hB), fun q => ffq q⟩
    · rw [if_neg c]
      refine ⟨fun q => absurd rfl q, fun _ hG => ?_⟩
      have := hG x2 P row F1 hx ho (fun q => by omega) (fun x hx => Int.le_trans s6 (hP x hx)) (by rw [h7.2]; show cntO P + op - 0 ≤ 5; omega) hF h3 (by
        rcases hE with q | q
        · exact Or.inl (by show lvC (tkC t n p) < l; omega)
        · exact Or.inr ⟨q.1, by omega, q.2.2⟩)
      rw [h7.1, h7.2] at this
      simpa [cntO] using this
theorem LX {t : Int → Int} {n : Int} {G : GG} {B : Int → Prop} (hC : Clo t n G B) (hn : n ≤ 160) : ∀ (f : Nat) (l : Int), 0 ≤ l → l ≤ 5 → LXs t n G B f l := by
  intro f
  induction f with
  | zero => intro l h0 h5 op p x2 S out F hop hf; omega
  | succ f ih =>
    intro l h0 h5 op p x2 S out F hop hf hx hl2 hl3 hopS hS hp
    have hbn := cntB_nn S
    have hon := cntO_nn S
    have co : ∀ w : Int, (w = -3 ∨ w = -9) → cntO (w :: S) = 1 + cntO S ∧ cntB (w :: S) = cntB S := fun w hw => ⟨by
      show (if w = -3 ∨ w = -9 then 1 else 0) + cntO S = _
      rw [if_pos hw], by
      show (if w = -10 then 1 else 0) + cntB S = _
      rw [if_neg (by omega)]; omega⟩
    have cb : cntO (-10 :: S) = cntO S ∧ cntB (-10 :: S) = 1 + cntB S := ⟨by show (0 : Int) + cntO S = _; omega, rfl⟩
    have no401 : ∀ c : Int, tkC t n p = c → ¬ c = 401 → p < tkE t n p ∧ tkE t n p ≤ n := fun c h1 h2 => tok_adv (t := t) hp.2 (by omega)
    unfold rdE
    by_cases c5 : 5 ≤ l
    · have el : l = 5 := by omega
      subst el
      rw [if_pos (by decide)]
      have one : ∀ w : Int, 0 ≤ w → ((tkC t n p = 400 ∧ w = tkV t n p) ∨ (205 ≤ tkC t n p ∧ tkC t n p ≤ 210 ∧ w = 10000 + (tkC t n p - 205))) → (¬ (true = true) → B (tkE t n p) → G 1 x2 S out F op p) ∧ ((true = true) → Cnt t n G 5 op S out F (true, tkE t n p, [w]) → G 1 x2 S out F op p) := by
        intro w hw hc
        refine ⟨fun q => absurd rfl q, fun _ hG => ?_⟩
        refine hC.2.1 x2 S out F op p w hx ⟨by omega, hop.2⟩ hc ?_
        have hcm : cm w = w := by unfold cm; rw [if_neg (by omega), if_neg (by omega), if_neg (by omega)]
        have := hG x2 [] [w] F hx (by show [cm w] = [w] ++ []; rw [hcm]; rfl) (fun _ => rfl) (fun x h => by cases h) (by have := cntO_nn (popR 7 S); show (0 : Int) + op - _ ≤ 5; omega) (fun _ _ => rfl) (fun _ => Iff.rfl) (Or.inl (by have := lv_r (c := tkC t n (tkE t n p)); show lvC (tkC t n (tkE t n p)) < 5; omega))
        simpa [cntO] using this
      by_cases d1 : tkC t n p = 400
      · rw [if_pos d1]; exact one _ (tkV_b d1).1 (Or.inl ⟨d1, rfl⟩)
      rw [if_neg d1]
      by_cases d2 : 205 ≤ tkC t n p ∧ tkC t n p ≤ 210
      · rw [if_pos d2]; exact one _ (by omega) (Or.inr ⟨d2.1, d2.2, rfl⟩)
      rw [if_neg d2]
      by_cases d3 : tkC t n p = 45
      · rw [if_pos d3]
        by_cases d4 : 5 ≤ op
        · rw [if_pos d4]
          exact ⟨fun _ hB => hC.1 x2 S out F op p hx (by omega) hB, fun q => ffq q⟩
        · rw [if_neg d4]
          have ta := no401 45 d3 (by decide)
          have hI := ih 5 (by decide) (by decide) (op + 1) (tkE t n p) 0 (-9 :: S) out F ⟨by omega, by omega⟩ (by omega) (Or.inl rfl) (fun q => absurd q (by decide)) (fun _ q => absurd q (by decide)) (by rw [(co (-9) (Or.inr rfl)).1, (co (-9) (Or.inr rfl)).2]; omega) (fun q => absurd q (by decide)) ⟨by omega, ta.2⟩
          by_cases c : (rdE t n f 5 (op + 1) (tkE t n p)).1 = true
          · rw [if_pos c]
            refine ⟨fun q => absurd rfl q, fun _ hG => ?_⟩
            refine hC.2.2.2.1 x2 S out F op p hx ⟨hop.1, by omega⟩ d3 (hI.2 c ?_)
            intro x2' P row F' b1 b2 b3 b4 b5 b6 b7 b8
            have eP := b3 rfl
            subst eP
            rw [(co (-9) (Or.inr rfl)).2] at b6 b7 b8
            have e1 : popS 7 (-9 :: S) = popS 7 S := rfl
            have e2 : popR 7 (-9 :: S) = -9 :: popR 7 S := rfl
            have e3 : cntO (-9 :: popR 7 S) = 1 + cntO (popR 7 S) := rfl
            rw [e2, e3] at b5
            have := hG x2' [] (row ++ [-9]) F' b1 (by
              show ((rdE t n f 5 (op + 1) (tkE t n p)).2.2 ++ [-300]).map cm = _
              rw [List.map_append, b2]; simp [cm]) (fun _ => rfl) (fun x h => by cases h) (by have : cntO [] = 0 := rfl; omega) b6 b7 b8
            rw [e1, e2, e3]
            have e4 : ((-9 :: popR 7 S).reverse ++ (row.reverse ++ out)) = (popR 7 S).reverse ++ ((row ++ [-9]).reverse ++ out) := by simp
            rw [e4, show cntO [] + (op + 1) - (1 + cntO (popR 7 S)) = cntO [] + op - cntO (popR 7 S) by omega]
            exact this
          · rw [if_neg c]
            exact ⟨fun _ hB => hC.2.2.2.1 x2 S out F op p hx ⟨hop.1, by omega⟩ d3 (hI.1 c hB), fun q => ffq q⟩
      rw [if_neg d3]
      by_cases d5 : tkC t n p = 40
      · rw [if_pos d5]
        by_cases d4 : 5 ≤ op
        · rw [if_pos d4]
          exact ⟨fun _ hB => hC.1 x2 S out F op p hx (by omega) hB, fun q => ffq q⟩
        · rw [if_neg d4]
          have ta := no401 40 d5 (by decide)
          have hI := ih 0 (by decide) (by decide) (op + 1) (tkE t n p) 1 (-10 :: S) out (fun i => if i = cntB S + 1 then 0 else F i) ⟨by omega, by omega⟩ (by omega) (Or.inr rfl) (fun _ => ⟨rfl, by
            rw [cb.2]
            show (if 1 + cntB S = cntB S + 1 then 0 else _) = _
            rw [if_pos (by omega)]⟩) (fun q => absurd q (by decide)) (by rw [cb.1, cb.2]; omega) (fun _ => by show m_rank (-10) < srk 0; decide) ⟨by omega, ta.2⟩
          have hsub := rdE_ok (t := t) (n := n) f 0 (op + 1) (tkE t n p) (by decide) (by omega) ta.2
          have stp := hC.2.2.2.2.1 x2 S out F op p hx ⟨hop.1, by omega⟩ (by omega) d5
          by_cases c : (rdE t n f 0 (op + 1) (tkE t n p)).1 = true
          · rw [if_pos c]
            have fr : ∀ (F' : Int → Int), (∀ i, i < 1 + cntB S → F' i = if i = cntB S + 1 then 0 else F i) → ∀ i, i ≤ cntB S → F' i = F i := fun F' h i hi => by
              rw [h i (by omega), if_neg (by omega)]
            have pp : ∀ P : List Int, (∀ x ∈ P, prk 0 ≤ m_rank x) → popS 1 (P ++ (-10 :: S)) = -10 :: S ∧ popR 1 (P ++ (-10 :: S)) = P := fun P h => pop_all (S := -10 :: S) (by show m_rank (-10) < 1; decide) h
            have e1 : popS 7 (-10 :: S) = -10 :: S := rfl
            have e2 : popR 7 (-10 :: S) = [] := rfl
            have e3 : cntO [] = 0 := rfl
            by_cases c2 : tkC t n (rdE t n f 0 (op + 1) (tkE t n p)).2.1 = 41
            · rw [if_pos c2]
              refine ⟨fun q => absurd rfl q, fun _ hG => stp (hI.2 c ?_)⟩
              intro x2' P row F' b1 b2 b3 b4 b5 b6 b7 b8
              rw [cb.2] at b6 b7 b8
              rw [e2] at b5
              have b6' := fr F' b6
              have hO : cntO (P ++ (-10 :: S)) = cntO P + cntO S := by rw [cntO_app, cb.1]
              have hB : cntB (P ++ (-10 :: S)) = 1 + cntB S := by rw [cntB_app (fun x hx => b4 x hx), cb.2]
              rw [e1, e2]
              refine hC.2.2.2.2.2.1 x2' (P ++ (-10 :: S)) S _ F' _ _ b1 ⟨by rw [hO, hB, e3]; omega, by omega⟩ c2 (pp P b4).1 ?_
              rw [(pp P b4).2]
              have := hG x2' [] (row ++ P) F' b1 (by show ((rdE t n f 0 (op + 1) (tkE t n p)).2.2).map cm = _; rw [b2]; simp) (fun _ => rfl) (fun x h => by cases h) (by rw [e3]; have := cntO_nn (popR 7 S); omega) (fun i hi => b6' i (by omega)) (fun _ => by rw [b6' _ (Int.le_refl _)]) (Or.inl (by have := lv_r (c := tkC t n (tkE t n (rdE t n f 0 (op + 1) (tkE t n p)).2.1)); show lvC (tkC t n (tkE t n (rdE t n f 0 (op + 1) (tkE t n p)).2.1)) < 5; omega))
              have e4 : (row ++ P).reverse ++ out = P.reverse ++ (([] : List Int).reverse ++ (row.reverse ++ out)) := by simp
              rw [e4] at this
              rw [show cntO P + (op + 1) - cntO [] - cntO P - 1 - cntO (popR 7 S) = cntO [] + op - cntO (popR 7 S) by rw [e3]; omega]
              exact this
            · rw [if_neg c2]
              refine ⟨fun _ hB => stp (hI.2 c ?_), fun q => ffq q⟩
              intro x2' P row F' b1 b2 b3 b4 b5 b6 b7 b8
              rw [cb.2] at b6 b7 b8
              rw [e2] at b5
              have hO : cntO (P ++ (-10 :: S)) = cntO P + cntO S := by rw [cntO_app, cb.1]
              have hBB : cntB (P ++ (-10 :: S)) = 1 + cntB S := by rw [cntB_app (fun x hx => b4 x hx), cb.2]
              rw [e1, e2]
              refine hC.2.2.2.2.2.2.2 x2' (P ++ (-10 :: S)) _ F' _ _ b1 ⟨by rw [hO, e3]; omega, by omega⟩ (by rw [hBB]; omega) ?_ hB
              rw [hBB]
              by_cases c3 : tkC t n (rdE t n f 0 (op + 1) (tkE t n p)).2.1 = 59
              · exact Or.inr (Or.inl ⟨c3, by omega⟩)
              · refine Or.inr (Or.inr ⟨c2, c3, ?_⟩)
                rcases b8 with q | ⟨q1, q2, q3⟩
                · exact Or.inl (sg_lv q)
                · exact Or.inr ⟨(lv_sg q1 (by decide)).2.2.2.2.2 rfl, q3⟩
          · rw [if_neg c]
            exact ⟨fun _ hB => stp (hI.1 c hB), fun q => ffq q⟩
      · rw [if_neg d5]
        refine ⟨fun _ hB => hC.1 x2 S out F op p hx ?_ hB, fun q => ffq q⟩
        have := hl3 (by decide)
        omega
    · rw [if_neg c5]
      obtain ⟨s1, s2, s3, s4, s5, s6, s7, s8⟩ := srk_b h0 (by omega)
      have hS' := hS (by omega)
      by_cases d1 : l = 2 ∧ tkC t n p = 204
      · rw [if_pos d1]
        obtain ⟨el, d1⟩ := d1
        subst el
        obtain ⟨ex, eF⟩ := hl2 (by decide)
        subst ex
        by_cases d4 : 5 ≤ op
        · rw [if_pos d4]
          exact ⟨fun _ hB => hC.1 1 S out F op p hx (by omega) hB, fun q => ffq q⟩
        · rw [if_neg d4]
          have ta := no401 204 d1 (by decide)
          have hI := ih 2 (by decide) (by decide) (op + 1) (tkE t n p) 1 (-3 :: S) out F ⟨by omega, by omega⟩ (by omega) (Or.inr rfl) (fun _ => ⟨rfl, by rw [(co (-3) (Or.inl rfl)).2]; exact eF⟩) (fun q => absurd q (by decide)) (by rw [(co (-3) (Or.inl rfl)).1, (co (-3) (Or.inl rfl)).2]; omega) (fun _ => by show m_rank (-3) < srk 2; decide) ⟨by omega, ta.2⟩
          have stp := hC.2.2.1 S out F op p ⟨hop.1, by omega⟩ d1
          by_cases c : (rdE t n f 2 (op + 1) (tkE t n p)).1 = true
          · rw [if_pos c]
            refine ⟨fun q => absurd rfl q, fun _ hG => stp (hI.2 c ?_)⟩
            intro x2' P row F' b1 b2 b3 b4 b5 b6 b7 b8
            rw [(co (-3) (Or.inl rfl)).2] at b6 b7 b8
            have e1 : popS 7 (-3 :: S) = -3 :: S := rfl
            have e2 : popR 7 (-3 :: S) = [] := rfl
            have e3 : cntO [] = 0 := rfl
            have h7 := pop_hi (r := 7) (S := S) (by omega)
            have e5 : cntO (P ++ [-3]) = cntO P + 1 := by rw [cntO_app]; rfl
            rw [e2] at b5
            have := hG x2' (P ++ [-3]) row F' b1 (by
              show ((rdE t n f 2 (op + 1) (tkE t n p)).2.2 ++ [-204]).map cm = _
              rw [List.map_append, b2]; simp [cm]) (fun q => absurd q (by decide)) (fun x hx => by
              rcases List.mem_append.mp hx with q | q
              · exact b4 x q
              · rw [List.mem_singleton.mp q]; decide) (by rw [e5, h7.2, e3]; omega) b6 (fun q => absurd q (by decide)) b8
            rw [h7.1, h7.2, e5] at this
            rw [e1, e2]
            rw [show cntO P + (op + 1) - cntO [] = cntO P + 1 + op - cntO [] by omega, show P ++ (-3 :: S) = (P ++ [-3]) ++ S by simp]
            exact this
          · rw [if_neg c]
            exact ⟨fun _ hB => stp (hI.1 c hB), fun q => ffq q⟩
      · rw [if_neg d1]
        have IHs := ih (l + 1) (by omega) (by omega)
        have hI := IHs op p x2 S out F hop (by omega) hx (fun q => hl2 (by omega)) (fun q1 q2 => by
          by_cases q : l = 2
          · exact fun z => d1 ⟨q, z⟩
          · exact hl3 (by omega) q2) hopS (fun q => by have := (s8 q).1; omega) hp
        have hsub := rdE_ok (t := t) (n := n) f (l + 1) op p (by omega) hp.1 hp.2
        by_cases c : (rdE t n f (l + 1) op p).1 = true
        · rw [if_pos c]
          obtain ⟨a1, a2, -⟩ := hsub.1 c
          have h7 := pop_hi (r := 7) (S := S) (by omega)
          have e3 : cntO [] = 0 := rfl
          have L9 := LXl hC hn ⟨h0, by omega⟩ IHs hop (by omega) hopS hS' (out := out) (F := F) (if l = 2 then 1 else 160)
          have nx : ∀ (x2' : Int) (P row : List Int) (F' : Int → Int), (x2' = 0 ∨ x2' = 1) → (rdE t n f (l + 1) op p).2.2.map cm = row ++ P → (l + 1 = 5 → P = []) → (∀ x ∈ P, prk (l + 1) ≤ m_rank x) → (cntO P + op - cntO (popR 7 S) ≤ 5) → (∀ i, i < cntB S → F' i = F i) → (3 ≤ l + 1 → (F' (cntB S) = 0 ↔ F (cntB S) = 0)) → EndC (l + 1) (tkC t n (rdE t n f (l + 1) op p).2.1) (F' (cntB S)) → _ := fun x2' P row F' b1 b2 b3 b4 b5 b6 b7 b8 =>
            L9 x2' (rdE t n f (l + 1) op p).2.1 P row (rdE t n f (l + 1) op p).2.2 F' b1 b2 (fun x hx => by
              by_cases q : l + 1 ≤ 4
              · exact Int.le_trans (s8 q).2 (b4 x hx)
              · rw [b3 (by omega)] at hx; cases hx) (by rw [h7.2, e3] at b5; omega) b6 (fun q => Or.inr ⟨by rw [if_pos q], (b7 (by omega)).mpr (hl2 (by omega)).2⟩) (fun q => by rw [if_neg q]; show n - _ < 160; omega) (fun q => b7 (by omega)) b8 ⟨by omega, a2⟩
          refine ⟨fun q hB => hI.2 c ?_, fun q hG => hI.2 c ?_⟩
          · intro x2' P row F' b1 b2 b3 b4 b5 b6 b7 b8
            have := (nx x2' P row F' b1 b2 b3 b4 b5 b6 b7 b8).1 q hB
            rw [h7.1, h7.2]
            simpa [cntO] using this
          · intro x2' P row F' b1 b2 b3 b4 b5 b6 b7 b8
            have := (nx x2' P row F' b1 b2 b3 b4 b5 b6 b7 b8).2 q hG
            rw [h7.1, h7.2]
            simpa [cntO] using this
        · rw [if_neg c]
          exact ⟨fun _ hB => hI.1 c hB, fun q => ffq q⟩
