theorem b8_s {x : Int} (h : 0 ≤ x ∧ x ≤ 7) : b8 x = x := by
  rcases (by omega : x = 0 ∨ x = 1 ∨ x = 2 ∨ x = 3 ∨ x = 4 ∨ x = 5 ∨ x = 6 ∨ x = 7) with e | e | e | e | e | e | e | e <;> subst e <;> decide
def Bk (w : Int → Int) : Nat → Int
  | 0 => 0
  | k + 1 => Bk w k + w ((k : Int) + 1)
theorem Bk_nn {w : Int → Int} {n : Nat} (h : ∀ k : Nat, k ≤ n → 0 ≤ w k) : 0 ≤ Bk w n := by
  induction n with
  | zero => exact Int.le_refl 0
  | succ n ih =>
    have h1 := ih (fun k hk => h k (by omega))
    have h2 : 0 ≤ w ((n : Int) + 1) := by have q := h (n + 1) (Nat.le_refl _); rwa [show ((n + 1 : Nat) : Int) = (n : Int) + 1 by omega] at q
    unfold Bk
    omega
theorem Bk_mono {w : Int → Int} {n m : Nat} (h : ∀ k : Nat, k ≤ n → 0 ≤ w k) (hm : m ≤ n) : Bk w m ≤ Bk w n := by
  induction n with
  | zero => rw [show m = 0 by omega]; exact Int.le_refl _
  | succ n ih =>
    by_cases e : m = n + 1
    · rw [e]; exact Int.le_refl _
    · have h1 := ih (fun k hk => h k (by omega)) (by omega)
      have h2 : 0 ≤ w ((n : Int) + 1) := by have q := h (n + 1) (Nat.le_refl _); rwa [show ((n + 1 : Nat) : Int) = (n : Int) + 1 by omega] at q
      have h3 : Bk w (n + 1) = Bk w n + w ((n : Int) + 1) := rfl
      omega
theorem sm_mono {w : Int → Int} {n m : Nat} (h : ∀ k : Nat, k < n → 0 ≤ w k) (hm : m ≤ n) : sm w m ≤ sm w n := by
  induction n with
  | zero => rw [show m = 0 by omega]; exact Int.le_refl _
  | succ n ih =>
    by_cases e : m = n + 1
    · rw [e]; exact Int.le_refl _
    · have h1 := ih (fun k hk => h k (by omega)) (by omega)
      have h2 := h n (by omega)
      have h3 : sm w (n + 1) = sm w n + w n := rfl
      omega
/-- the period: all threads, and those on the way back -/
theorem per_bk {w : Int → Int} {tb n : Int} (hn : 1 ≤ n) (htb : ¬ tb = 0) : sm (fun i => w i * (if ¬ tb = 0 ∧ 0 < i ∧ i < n - 1 then 2 else 1)) n.toNat = sm w n.toNat + Bk w (n - 2).toNat := by
  have h1 : ∀ m : Nat, (m : Int) + 1 ≤ n - 1 → sm (fun i => w i * (if ¬ tb = 0 ∧ 0 < i ∧ i < n - 1 then 2 else 1)) (m + 1) = sm w (m + 1) + Bk w m := by
    intro m
    induction m with
    | zero =>
      intro _
      show 0 + w ((0 : Nat) : Int) * _ = (0 + w ((0 : Nat) : Int)) + 0
      rw [if_neg (fun z => absurd z.2.1 (by decide))]; omega
    | succ m ih =>
      intro hm
      have h2 := ih (by omega)
      show sm _ (m + 1) + w ((m + 1 : Nat) : Int) * _ = (sm w (m + 1) + w ((m + 1 : Nat) : Int)) + (Bk w m + w ((m : Int) + 1))
      rw [h2, if_pos ⟨htb, by omega, by omega⟩, show ((m + 1 : Nat) : Int) = (m : Int) + 1 by omega]
      omega
  by_cases e : n = 1
  · subst e
    show 0 + w ((0 : Nat) : Int) * _ = (0 + w ((0 : Nat) : Int)) + 0
    rw [if_neg (fun z => absurd z.2.1 (by decide))]; omega
  · have h2 := h1 (n - 2).toNat (by omega)
    rw [show n.toNat = ((n - 2).toNat + 1) + 1 by omega]
    show sm _ ((n - 2).toNat + 1) + w (((n - 2).toNat + 1 : Nat) : Int) * _ = (sm w ((n - 2).toNat + 1) + w (((n - 2).toNat + 1 : Nat) : Int)) + Bk w (n - 2).toNat
    rw [h2, if_neg (fun z => by have := z.2.2; omega)]
    omega
theorem per_fw {w : Int → Int} {tb n : Int} (htb : tb = 0) {m : Nat} : sm (fun i => w i * (if ¬ tb = 0 ∧ 0 < i ∧ i < n - 1 then 2 else 1)) m = sm w m := sm_congr (fun k _ => by rw [if_neg (fun z => z.1 htb)]; omega)
/-- the colours, in the order in which they are wound -/
theorem cF_at {w c : Int → Int} {n : Nat} (hw : ∀ k : Nat, k < n → 0 ≤ w k) (N : Int) : ∀ (i : Nat) (l : Int), i ≤ n → 0 ≤ l → cF w c N n 0 (sm w i + l) = cF w c N (n - i) i l := by
  intro i
  induction i with
  | zero =>
    intro l _ _
    show cF w c N n 0 (0 + l) = cF w c N (n - 0) ((0 : Nat) : Int) l
    rw [Int.zero_add]; rfl
  | succ i ih =>
    intro l hi hl
    have h1 := ih (w i + l) (by omega) (by have := hw i (by omega); omega)
    have h2 : sm w (i + 1) + l = sm w i + (w i + l) := by show sm w i + w i + l = _; omega
    rw [h2, h1, show n - i = (n - (i + 1)) + 1 by omega]
    show (if w i + l < w i then c i else cF w c N (n - (i + 1)) ((i : Int) + 1) (w i + l - w i)) = _
    rw [if_neg (by omega), show w i + l - w i = l by omega]
    rfl
theorem cF_in {w c : Int → Int} {n : Nat} (hw : ∀ k : Nat, k < n → 0 ≤ w k) (N : Int) {i : Nat} (hi : i < n) {x : Int} (h1 : sm w i ≤ x) (h2 : x < sm w i + w i) : cF w c N n 0 x = c i := by
  have h := cF_at (c := c) hw N i (x - sm w i) (by omega) (by omega)
  rw [show sm w i + (x - sm w i) = x by omega] at h
  rw [h, show n - i = (n - (i + 1)) + 1 by omega]
  show (if x - sm w i < w i then c i else _) = _
  rw [if_pos (by omega)]
theorem cB_at {w c : Int → Int} {m : Nat} (hw : ∀ k : Nat, k ≤ m → 0 ≤ w k) : ∀ (j s : Nat) (l : Int), s + j = m → 0 ≤ l → cB w c m ((Bk w m - Bk w s) + l) = cB w c s l := by
  intro j
  induction j with
  | zero =>
    intro s l h _
    rw [show s = m by omega, Int.sub_self, Int.zero_add]
  | succ j ih =>
    intro s l h hl
    have h1 := ih (s + 1) (w ((s : Int) + 1) + l) (by omega) (by have q := hw (s + 1) (by omega); rw [show ((s + 1 : Nat) : Int) = (s : Int) + 1 by omega] at q; omega)
    have h2 : Bk w m - Bk w s + l = (Bk w m - Bk w (s + 1)) + (w ((s : Int) + 1) + l) := by
      have : Bk w (s + 1) = Bk w s + w ((s : Int) + 1) := rfl
      omega
    rw [h2, h1]
    show (if w ((s : Int) + 1) + l < w ((s : Int) + 1) then _ else cB w c s (w ((s : Int) + 1) + l - w ((s : Int) + 1))) = _
    rw [if_neg (by omega)]
    congr 1; omega
theorem cB_in {w c : Int → Int} {n : Nat} (hw : ∀ k : Nat, k < n → 0 ≤ w k) {s : Nat} (hs : (s : Int) + 1 ≤ (n : Int) - 2) {x : Int} (h1 : sm w n + (Bk w ((n : Int) - 2).toNat - Bk w (s + 1)) ≤ x) (h2 : x < sm w n + (Bk w ((n : Int) - 2).toNat - Bk w s)) : cF w c n n 0 x = c ((s : Int) + 1) := by
  have h3 := cF_at (c := c) hw (n : Int) n (x - sm w n) (Nat.le_refl n) (by have := Bk_mono (w := w) (n := ((n : Int) - 2).toNat) (m := s + 1) (fun k hk => hw k (by omega)) (by omega); omega)
  rw [show sm w n + (x - sm w n) = x by omega, Nat.sub_self] at h3
  rw [h3]
  show cB w c ((n : Int) - 2).toNat (x - sm w n) = _
  have h4 := cB_at (c := c) (w := w) (m := ((n : Int) - 2).toNat) (fun k hk => hw k (by omega)) (((n : Int) - 2).toNat - (s + 1)) (s + 1) (x - sm w n - (Bk w ((n : Int) - 2).toNat - Bk w (s + 1))) (by omega) (by omega)
  rw [show Bk w ((n : Int) - 2).toNat - Bk w (s + 1) + (x - sm w n - (Bk w ((n : Int) - 2).toNat - Bk w (s + 1))) = x - sm w n by omega] at h4
  rw [h4]
  show (if _ < w ((s : Int) + 1) then c ((s : Int) + 1) else _) = _
  have h5 : Bk w (s + 1) = Bk w s + w ((s : Int) + 1) := rfl
  rw [if_pos (by omega)]
theorem cF_congr {w w' c c' : Int → Int} {N : Int} : ∀ (r : Nat) (k l : Int), 0 ≤ k → k + r = N → (∀ i : Int, 0 ≤ i → i < N → w i = w' i ∧ c i = c' i) → cF w c N r k l = cF w' c' N r k l := by
  intro r
  induction r with
  | zero =>
    intro k l hk hN h
    show cB w c (N - 2).toNat l = cB w' c' (N - 2).toNat l
    have key : ∀ (m : Nat) (l : Int), (m : Int) < N → cB w c m l = cB w' c' m l := by
      intro m
      induction m with
      | zero => intro l _; rfl
      | succ m ih =>
        intro l hm
        show (if l < w ((m : Int) + 1) then c ((m : Int) + 1) else cB w c m (l - w ((m : Int) + 1))) = (if l < w' ((m : Int) + 1) then c' ((m : Int) + 1) else cB w' c' m (l - w' ((m : Int) + 1)))
        obtain ⟨q1, q2⟩ := h ((m : Int) + 1) (by omega) (by omega)
        rw [q1, q2, ih _ (by omega)]
    by_cases e : N = 0
    · rw [e]; rfl
    · exact key _ _ (by omega)
  | succ r ih =>
    intro k l hk hN h
    show (if l < w k then c k else cF w c N r (k + 1) (l - w k)) = (if l < w' k then c' k else cF w' c' N r (k + 1) (l - w' k))
    obtain ⟨q1, q2⟩ := h k hk (by omega)
    rw [q1, q2, ih (k + 1) _ (by omega) (by omega) h]
