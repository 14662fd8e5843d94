section LINK3
variable {A M : Nat → Int → Int} {k b s : Nat} {kk bb ss : Int}
theorem ken_inj {x y : Int} (hP : 1 ≤ A s 1) (hn : ¬ x = -1) (hx : k_usd A k s x < 1000000) (e : ken A k s y = ken A k s x) : y = x := by
  unfold ken at e
  rw [if_neg hn] at e
  by_cases c : y = -1
  · rw [if_pos c] at e; omega
  · rw [if_neg c] at e
    by_cases c1 : y < x
    · have := usd_m1 (A := A) (k := k) (s := s) hP c1; omega
    · by_cases c2 : x < y
      · have := usd_m1 (A := A) (k := k) (s := s) hP c2; omega
      · omega
theorem kept_K (hI : TIn A k b s 0) (h4 : 4 ≤ A k 4 ∧ A k 4 ≤ 24) {p t : Int} (hp : 0 ≤ p ∧ p < A k 4) (ht : 0 ≤ t ∧ t ≤ 3 + p * ykl A k 0 4) : k_kept A p t = KT A k b s (A k 4 - 1 - p).toNat p t := by
  have h9 := ykl_b (A := A) (k := k) (p := 0) (m := 4) (by decide)
  have e2 : p * ykl A k 0 4 ≤ 23 * 9 := Int.mul_le_mul (by omega) h9.2 (by omega) (by decide)
  unfold k_kept
  rw [if_pos ⟨⟨by omega, by omega⟩, by omega, by omega⟩]
  exact hI p t hp.1 hp.1 hp.2 ht.1 ht.2
theorem ktz_s : ∀ (r i : Nat) (t : Int), i ≤ r → (∀ q : Nat, q < i → ¬ (¬ k_isF A b (A 8 2 + (t + q) * A s 1) (A k 7) ∧ k_kept A 0 (t + q) = A 8 4)) → (i < r → (¬ k_isF A b (A 8 2 + (t + i) * A s 1) (A k 7) ∧ k_kept A 0 (t + i) = A 8 4)) → ktz A k b s r t = t + i
  | 0, i, t, hi, _, _ => by
    have e : i = 0 := by omega
    subst e
    show t = t + 0
    omega
  | r + 1, i, t, hi, hn, hc => by
    unfold ktz
    cases i with
    | zero =>
      have c := hc (by omega)
      rw [show t + ((0 : Nat) : Int) = t by omega] at c ⊢
      rw [if_pos c]
    | succ i =>
      have c := hn 0 (by omega)
      rw [show t + ((0 : Nat) : Int) = t by omega] at c
      rw [if_neg c]
      have := ktz_s r i (t + 1) (by omega) (fun q hq => by
        have := hn (q + 1) (by omega)
        rw [show t + ((q + 1 : Nat) : Int) = t + 1 + q by omega] at this
        exact this) (fun hr => by
        have := hc (by omega)
        rw [show t + ((i + 1 : Nat) : Int) = t + 1 + i by omega] at this
        exact this)
      rw [this]; omega
theorem lyB_j (h : LyM A k b s M kk bb ss) (hT : LyT A k s) (hI : TIn A k b s 0) (h84 : A 8 4 = ksr A k b s 4) (hn : ¬ A 8 4 = -1) : (lyB M kk bb ss 4).2 = ktz A k b s 3 0 ∧ (0 ≤ ktz A k b s 3 0 ∧ ktz A k b s 3 0 ≤ 3) ∧ KT A k b s ((A k 4).toNat - 1) 0 (ktz A k b s 3 0) = A 8 4 ∧ k_usd A k s (A 8 4) < 1000000 := by
  have hB := lyB_k h hT 4
  have hle := ksr_le (A := A) (k := k) (b := b) (s := s) 4
  have hG : ∀ j : Nat, _ := fun j => lyG_k h hT (j := j)
  have h9b := ykl_b (A := A) (k := k) (p := 0) (m := 4) (by decide)
  obtain ⟨-, -, -, -, -, h4, -, -, hP, h9, -⟩ := h
  rw [← h84] at hB hle
  have hu : k_usd A k s (A 8 4) < 1000000 := by
    rcases hle with z | z
    · exact absurd z hn
    · omega
  have hl : (lyB M kk bb ss 4).1 < 1000000 := by rw [hB]; unfold ken; rw [if_neg hn]; exact hu
  have hkp : ∀ t : Nat, t < 4 → k_kept A 0 t = KT A k b s ((A k 4).toNat - 1) 0 t := fun t ht => by
    rw [kept_K hI h4 ⟨by omega, by omega⟩ ⟨by omega, by omega⟩, show (A k 4 - 1 - 0).toNat = (A k 4).toNat - 1 by omega]
  obtain ⟨i, i4, e2, e1, hlt, -⟩ := lyB_ok 4 hl
  have key : ∀ t : Nat, t < 4 → ((¬ k_isF A b (A 8 2 + t * A s 1) (A k 7) ∧ k_kept A 0 t = A 8 4) ↔ lyG M kk bb ss t = (lyB M kk bb ss 4).1) := fun t ht => by
    rw [hG t, hB, hkp t ht]
    constructor
    · rintro ⟨c1, c2⟩
      rw [if_pos c1, c2]
    · intro e
      by_cases c : k_isF A b (A 8 2 + t * A s 1) (A k 7)
      · rw [if_neg (not_not_intro c)] at e
        rw [hB] at hl
        omega
      · rw [if_pos c] at e
        exact ⟨c, ken_inj (by omega) hn hu e⟩
  have ci := (key i i4).mpr e1.symm
  have hz := ktz_s (A := A) (k := k) (b := b) (s := s) 3 i 0 (by omega) (fun q hq c => by
    rw [Int.zero_add] at c
    have := (key q (by omega)).mp c
    have := hlt q hq
    omega) (fun _ => by rw [Int.zero_add]; exact ci)
  rw [Int.zero_add] at hz
  rw [hz, e2, ← hkp i i4]
  exact ⟨rfl, ⟨by omega, by omega⟩, ci.2, hu⟩
theorem dep_k (h : LyM A k b s M kk bb ss) (hT : LyT A k s) (hI : TIn A k b s 0) (hn : ¬ A 8 4 = -1) (hu : k_usd A k s (A 8 4) < 1000000) {p r : Nat} {t : Int} (hp : (p : Int) + r = A k 4 - 2) (ht : 0 ≤ t ∧ t ≤ 3 + p * ykl A k 0 4) (hK : KT A k b s (r + 1) p t = A 8 4) :
    ypk M kk bb ss p (A 10 p + t * A s 1) = k_dep A k s p t 3 1 ∧ KT A k b s r ((p : Int) + 1) (t + ykl A k p (k_dep A k s p t 3 1)) = A 8 4 ∧ 0 ≤ t + ykl A k p (k_dep A k s p t 3 1) ∧ t + ykl A k p (k_dep A k s p t 3 1) ≤ 3 + ((p : Int) + 1) * ykl A k 0 4 := by
  have hf := yf_k h hT (p := p) (r := r) (t := t) (by omega) (fun m hm1 hm4 => KT_G h hT r (p + 1) (t + ykl A k p m) (by have := ykl_b (A := A) (k := k) (p := p) ⟨hm1, hm4⟩; omega) (by omega))
  obtain ⟨-, -, -, -, -, h4, -, -, hP, h9, -⟩ := h
  have hM := gM_f (A := A) (k := k) (s := s) (p := p) (t := t) (g := KT A k b s r ((p : Int) + 1)) (by omega) hf (fun m _ _ _ => by
    rcases KT_le (A := A) (k := k) (b := b) (s := s) r ((p : Int) + 1) (t + ykl A k p m) with z | z
    · exact Or.inl z
    · exact Or.inr (by omega)) 4 (Nat.le_refl 4)
  have hfm : fmid A k s p t (KT A k b s r ((p : Int) + 1)) 4 = A 8 4 := by
    unfold KT at hK
    split at hK
    · exact absurd hK.symm hn
    · exact hK
  rw [hfm] at hM
  have hl : gM (yf M kk bb ss p (A 10 p + t * A s 1)) 4 < 1000000 := by rw [hM]; unfold ken; rw [if_neg hn]; exact hu
  have eL : ((p : Int) + 1) * ykl A k 0 4 = p * ykl A k 0 4 + ykl A k 0 4 := by rw [Int.add_mul, Int.one_mul]
  have bnd : ∀ m : Int, 1 ≤ m → m ≤ 4 → 0 ≤ t + ykl A k p m ∧ t + ykl A k p m ≤ 3 + ((p : Int) + 1) * ykl A k 0 4 := fun m m1 m4 => by
    have hb := ykl_b (A := A) (k := k) (p := p) ⟨m1, m4⟩
    have hl := ykl_le (A := A) (k := k) (p := p) ⟨m1, m4⟩ h4.1
    omega
  have hkp : ∀ m : Int, 1 ≤ m → m ≤ 4 → k_kept A ((p : Int) + 1) (t + ykl A k p m) = KT A k b s r ((p : Int) + 1) (t + ykl A k p m) := fun m m1 m4 => by
    rw [kept_K hI h4 ⟨by omega, by omega⟩ (bnd m m1 m4), show (A k 4 - 1 - ((p : Int) + 1)).toNat = r by omega]
  have key : ∀ m : Int, 1 ≤ m → m ≤ 4 → (yf M kk bb ss p (A 10 p + t * A s 1) m = gM (yf M kk bb ss p (A 10 p + t * A s 1)) 4 ↔ (k_cf A k s p m ∧ k_kept A ((p : Int) + 1) (t + ykl A k p m) = A 8 4)) := fun m m1 m4 => by
    rw [hf m m1 m4, hkp m m1 m4, hM]
    constructor
    · intro e
      by_cases c : k_cf A k s p m
      · rw [if_pos c] at e
        exact ⟨c, ken_inj (by omega) hn hu e⟩
      · rw [if_neg c] at e
        rw [hM] at hl
        omega
    · rintro ⟨c1, c2⟩
      rw [if_pos c1, c2]
  obtain ⟨i, i1, i4, hi⟩ := gM_ex 4 hl
  have di := (key i (by omega) (by omega)).mp hi
  have ed : k_dep A k s p t 3 1 = if k_cf A k s p 1 ∧ k_kept A ((p : Int) + 1) (t + ykl A k p 1) = A 8 4 then 1 else if k_cf A k s p 2 ∧ k_kept A ((p : Int) + 1) (t + ykl A k p 2) = A 8 4 then 2 else if k_cf A k s p 3 ∧ k_kept A ((p : Int) + 1) (t + ykl A k p 3) = A 8 4 then 3 else 4 := rfl
  have fin : ∀ m : Int, 1 ≤ m → m ≤ 4 → (k_cf A k s p m ∧ k_kept A ((p : Int) + 1) (t + ykl A k p m) = A 8 4) → KT A k b s r ((p : Int) + 1) (t + ykl A k p m) = A 8 4 ∧ 0 ≤ t + ykl A k p m ∧ t + ykl A k p m ≤ 3 + ((p : Int) + 1) * ykl A k 0 4 := fun m m1 m4 d => ⟨by rw [← hkp m m1 m4]; exact d.2, bnd m m1 m4⟩
  rw [ed]
  unfold ypk
  by_cases d1 : k_cf A k s p 1 ∧ k_kept A ((p : Int) + 1) (t + ykl A k p 1) = A 8 4
  · rw [if_pos ((key 1 (by decide) (by decide)).mpr d1), if_pos d1]
    exact ⟨rfl, fin 1 (by decide) (by decide) d1⟩
  · rw [if_neg (fun z => d1 ((key 1 (by decide) (by decide)).mp z)), if_neg d1]
    by_cases d2 : k_cf A k s p 2 ∧ k_kept A ((p : Int) + 1) (t + ykl A k p 2) = A 8 4
    · rw [if_pos ((key 2 (by decide) (by decide)).mpr d2), if_pos d2]
      exact ⟨rfl, fin 2 (by decide) (by decide) d2⟩
    · rw [if_neg (fun z => d2 ((key 2 (by decide) (by decide)).mp z)), if_neg d2]
      by_cases d3 : k_cf A k s p 3 ∧ k_kept A ((p : Int) + 1) (t + ykl A k p 3) = A 8 4
      · rw [if_pos ((key 3 (by decide) (by decide)).mpr d3), if_pos d3]
        exact ⟨rfl, fin 3 (by decide) (by decide) d3⟩
      · rw [if_neg (fun z => d3 ((key 3 (by decide) (by decide)).mp z)), if_neg d3]
        have i_4 : i = 4 := by
          rcases (by omega : i = 1 ∨ i = 2 ∨ i = 3 ∨ i = 4) with e | e | e | e
          · subst e; exact absurd di d1
          · subst e; exact absurd di d2
          · subst e; exact absurd di d3
          · exact e
        subst i_4
        exact ⟨rfl, fin 4 (by decide) (by decide) di⟩
theorem tr_k (h : LyM A k b s M kk bb ss) (hT : LyT A k s) (hI : TIn A k b s 0) (hn : ¬ A 8 4 = -1) (hu : k_usd A k s (A 8 4) < 1000000) {t0 : Int} (h0 : 0 ≤ t0 ∧ t0 ≤ 3) (hK : KT A k b s ((A k 4).toNat - 1) 0 t0 = A 8 4) : ∀ p : Nat, (p : Int) < A k 4 → (KT A k b s ((A k 4).toNat - 1 - p) p (kxt A k s t0 p) = A 8 4 ∧ 0 ≤ kxt A k s t0 p ∧ kxt A k s t0 p ≤ 3 + p * ykl A k 0 4) ∧ yxs M kk bb ss (A 10 0 + t0 * A s 1) p = A 10 p + kxt A k s t0 p * A s 1 ∧ ((p : Int) + 1 < A k 4 → ypk M kk bb ss p (A 10 p + kxt A k s t0 p * A s 1) = k_dep A k s p (kxt A k s t0 p) 3 1) := by
  have D : ∀ p : Nat, (p : Int) + 1 < A k 4 → (KT A k b s ((A k 4).toNat - 1 - p) p (kxt A k s t0 p) = A 8 4 ∧ 0 ≤ kxt A k s t0 p ∧ kxt A k s t0 p ≤ 3 + p * ykl A k 0 4) → _ := fun p hp hq => dep_k h hT hI hn hu (p := p) (r := (A k 4).toNat - 2 - p) (t := kxt A k s t0 p) (by omega) hq.2 (by rw [show (A k 4).toNat - 2 - p + 1 = (A k 4).toNat - 1 - p by omega]; exact hq.1)
  intro p
  induction p with
  | zero =>
    intro hp
    have q : KT A k b s ((A k 4).toNat - 1 - 0) ((0 : Nat) : Int) (kxt A k s t0 0) = A 8 4 ∧ 0 ≤ kxt A k s t0 0 ∧ kxt A k s t0 0 ≤ 3 + ((0 : Nat) : Int) * ykl A k 0 4 := ⟨hK, h0.1, by show t0 ≤ 3 + ((0 : Nat) : Int) * ykl A k 0 4; rw [show ((0 : Nat) : Int) = 0 from rfl, Int.zero_mul]; omega⟩
    exact ⟨q, rfl, fun hp1 => (D 0 hp1 q).1⟩
  | succ p ih =>
    intro hp
    obtain ⟨q, hx, hd⟩ := ih (by omega)
    have d := D p (by omega) q
    have hd := hd (by omega)
    have q' : KT A k b s ((A k 4).toNat - 1 - (p + 1)) ((p + 1 : Nat) : Int) (kxt A k s t0 (p + 1)) = A 8 4 ∧ 0 ≤ kxt A k s t0 (p + 1) ∧ kxt A k s t0 (p + 1) ≤ 3 + ((p + 1 : Nat) : Int) * ykl A k 0 4 := by
      rw [show (A k 4).toNat - 1 - (p + 1) = (A k 4).toNat - 2 - p by omega]
      exact d.2
    refine ⟨q', ?_, fun hp1 => (D (p + 1) hp1 q').1⟩
    show yxs M kk bb ss (A 10 0 + t0 * A s 1) p + yst M kk (M 3 ss) p (ypk M kk bb ss p (yxs M kk bb ss (A 10 0 + t0 * A s 1) p)) = A 10 ((p + 1 : Nat) : Int) + (kxt A k s t0 p + ykl A k p (k_dep A k s p (kxt A k s t0 p) 3 1)) * A s 1
    rw [hx, hd, yst_k h (by omega), hT.2.2 p (by omega), hT.2.2 (p + 1) (by omega), Int.add_mul]
    have e : ykf A k s (p + 1) = ykX A k s + (sm (fun i => ykw A k i) p + ykw A k p) := rfl
    have e2 : ykf A k s p = ykX A k s + sm (fun i => ykw A k i) p := rfl
    omega
/-- the layer's finding is the model's -/
theorem lay_k (h : LyM A k b s M kk bb ss) (hT : LyT A k s) (hI : TIn A k b s 0) (h84 : A 8 4 = ksr A k b s 4) : (lyB M kk bb ss 4).1 = (if A 8 4 = -1 then 1000000 else k_usd A k s (A 8 4)) ∧ (¬ A 8 4 = -1 → k_usd A k s (A 8 4) < 1000000 ∧ (0 ≤ ktz A k b s 3 0 ∧ ktz A k b s 3 0 ≤ 3) ∧ (lyB M kk bb ss 4).2 = ktz A k b s 3 0 ∧ lyS M kk ss (lyB M kk bb ss 4).2 = A 8 2 + ktz A k b s 3 0 * A s 1 ∧ ∀ p : Nat, (p : Int) < A k 4 → yxs M kk bb ss (lyX M kk ss (lyB M kk bb ss 4).2) p = A 10 p + kxt A k s (ktz A k b s 3 0) p * A s 1 ∧ ((p : Int) + 1 < A k 4 → ypk M kk bb ss p (yxs M kk bb ss (lyX M kk ss (lyB M kk bb ss 4).2) p) = k_dep A k s p (kxt A k s (ktz A k b s 3 0) p) 3 1)) := by
  refine ⟨by rw [lyB_k h hT 4, ← h84]; rfl, fun hn => ?_⟩
  obtain ⟨e2, h0, hK, hu⟩ := lyB_j h hT hI h84 hn
  refine ⟨hu, h0, e2, by rw [e2]; exact lyS_k h hT, fun p hp => ?_⟩
  obtain ⟨-, hx, hd⟩ := tr_k h hT hI hn hu h0 hK p hp
  rw [e2, lyX_k h hT, hx]
  exact ⟨rfl, hd⟩
end LINK3
