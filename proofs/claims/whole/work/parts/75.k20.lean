section SR
variable {A : Nat → Int → Int} {t : Int → Int}
theorem at_rg (h : TpR A t) {q l u : Int} (hq : 0 ≤ q) (hl : 0 ≤ l) (hu : u ≤ 127) : (l ≤ k_at A q ∧ k_at A q ≤ u) ↔ (q < A 1 1 ∧ l ≤ t q ∧ t q ≤ u) := by
  have ha := h.at hq
  by_cases c : q < A 1 1
  · have := ha.2 c; omega
  · have := ha.1 (by omega); omega
theorem at_e (h : TpR A t) {q c : Int} (hq : 0 ≤ q) (hc : 0 ≤ c ∧ c ≤ 127) : k_at A q = c ↔ (q < A 1 1 ∧ t q = c) := by
  have ha := h.at hq
  by_cases c : q < A 1 1
  · have := ha.2 c; omega
  · have := ha.1 (by omega); omega
theorem at_id (h : TpR A t) {q : Int} (hq : 0 ≤ q) (hn : q < A 1 1) (h0 : 0 ≤ t q) : k_at A q = t q := by
  have := (h.at hq).2 hn
  omega
theorem dg_k (h : TpR A t) {p i : Int} (hp : 0 ≤ p) (hi : 0 ≤ i) : DGK (k_at A) p i ↔ dg t (A 1 1) (if i = 0 then 1 else 0) (p + i) := by
  have h1 := at_rg h (q := p + i) (l := 48) (u := 57) (by omega) (by decide) (by decide)
  have h2 := at_e h (q := p + i) (c := 48) (by omega) (by decide)
  by_cases c : i = 0
  · rw [if_pos c]
    constructor
    · rintro ⟨a, b, e⟩
      have := h1.mp ⟨a, b⟩
      exact ⟨this.1, by have : ¬ t (p + i) = 48 := fun z => e ⟨h2.mpr ⟨this.1, z⟩, c⟩
                        omega, this.2.2⟩
    · rintro ⟨a, b, e⟩
      have := h1.mpr ⟨a, by omega, e⟩
      exact ⟨this.1, this.2, fun z => by have := (h2.mp z.1).2; omega⟩
  · rw [if_neg c]
    constructor
    · rintro ⟨a, b, e⟩
      have := h1.mp ⟨a, b⟩
      exact ⟨this.1, by omega, this.2.2⟩
    · rintro ⟨a, b, e⟩
      have := h1.mpr ⟨a, by omega, e⟩
      exact ⟨this.1, this.2, fun z => c z.2⟩
theorem nd_k (h : TpR A t) {p : Int} (hp : 0 ≤ p) : ndK (k_at A) p = nd t (A 1 1) p := by
  have h0 := dg_k h hp (i := 0) (by decide)
  have h1 := dg_k h hp (i := 1) (by decide)
  have h2 := dg_k h hp (i := 2) (by decide)
  rw [if_pos rfl, Int.add_zero] at h0
  rw [if_neg (by decide)] at h1 h2
  unfold ndK nd
  by_cases c0 : dg t (A 1 1) 1 p
  · rw [if_neg (not_not_intro (h0.mpr c0)), if_neg (not_not_intro c0)]
    by_cases c1 : dg t (A 1 1) 0 (p + 1)
    · rw [if_neg (not_not_intro (h1.mpr c1)), if_neg (not_not_intro c1)]
      by_cases c2 : dg t (A 1 1) 0 (p + 2)
      · rw [if_neg (not_not_intro (h2.mpr c2)), if_neg (not_not_intro c2)]
      · rw [if_pos (fun z => c2 (h2.mp z)), if_pos c2]
    · rw [if_pos (fun z => c1 (h1.mp z)), if_pos c1]
  · rw [if_pos (fun z => c0 (h0.mp z)), if_pos c0]
theorem dv_k (h : TpR A t) {p : Int} (hp : 0 ≤ p) : ∀ m : Nat, (m : Int) ≤ ndK (k_at A) p → dv (k_at A) p m = dv t p m
  | 0, _ => rfl
  | m + 1, hm => by
    have ih := dv_k h hp m (by omega)
    have hb := ndK_b (f := k_at A) (p := p)
    have hd : DGK (k_at A) p m := by
      apply Classical.byContradiction
      intro z
      have := (ndK_s (f := k_at A) (p := p) (i := m) (by omega) (by omega)).2 z
      omega
    have q := (at_rg h (q := p + m) (l := 48) (u := 57) (by omega) (by decide) (by decide)).mp ⟨hd.1, hd.2.1⟩
    have e := at_id h (q := p + m) (by omega) q.1 (by omega)
    show 10 * dv (k_at A) p m + k_at A (p + m) - 48 = 10 * dv t p m + t (p + m) - 48
    rw [ih, e]
theorem cv_k (h : TpR A t) {p : Int} (hp : 0 ≤ p) : cvK (k_at A) p = cv t (A 1 1) p := by
  have hb := ndK_b (f := k_at A) (p := p)
  unfold cvK cv
  rw [dv_k h hp _ (by omega), nd_k h hp]
theorem ko_k (h : TpR A t) {p : Int} (hp : 0 ≤ p) : KO (k_at A) p ↔ srOK t (A 1 1) p := by
  have h1 := at_rg h (q := p) (l := 97) (u := 104) hp (by decide) (by decide)
  have e := nd_k h (p := p + 1) (by omega)
  have e0 : nd t (A 1 1) (p + 1) = 0 ↔ ¬ dg t (A 1 1) 1 (p + 1) := by
    unfold nd
    by_cases c : dg t (A 1 1) 1 (p + 1)
    · rw [if_neg (not_not_intro c)]
      constructor
      · intro z; (repeat' split at z) <;> omega
      · intro z; exact absurd c z
    · rw [if_pos c]; exact ⟨fun _ => c, fun _ => rfl⟩
  constructor
  · rintro ⟨a, b, c⟩
    have := h1.mp ⟨a, b⟩
    exact ⟨this.1, this.2.1, this.2.2, Classical.byContradiction fun z => c (by rw [e]; exact e0.mpr z)⟩
  · rintro ⟨a, b, c, g⟩
    have := h1.mpr ⟨a, b, c⟩
    exact ⟨this.1, this.2, fun z => (e0.mp (by rw [← e]; exact z)) g⟩
theorem en_k (h : TpR A t) {p : Int} (hp : 0 ≤ p) : kEn (k_at A) p = srE t (A 1 1) p := by
  show p + 1 + ndK (k_at A) (p + 1) = p + 1 + nd t (A 1 1) (p + 1)
  rw [nd_k h (by omega)]
theorem kq_k (h : TpR A t) : ∀ k : Nat, kqK (k_at A) k = srq t (A 1 1) k
  | 0 => rfl
  | k + 1 => by
    have ih := kq_k h k
    have hb := kqK_b (f := k_at A) k
    have e := en_k h (p := kqK (k_at A) k) (by omega)
    show kEn (k_at A) (kqK (k_at A) k) + 1 = srE t (A 1 1) (srq t (A 1 1) k) + 1
    rw [e, ih]
theorem srq_0 (h : TpR A t) (k : Nat) : 0 ≤ srq t (A 1 1) k ∧ srq t (A 1 1) k ≤ 5 * k := by rw [← kq_k h k]; exact kqK_b k
theorem srE_0 {n p : Int} (hp : 0 ≤ p) : 0 ≤ srE t n p := by have := nd_b (t := t) (n := n) (p := p + 1); unfold srE; omega
theorem kc_k (h : TpR A t) {k : Nat} : KCo (k_at A) k ↔ srC t (A 1 1) k := by
  have hb := (srq_0 h k).1
  have e1 := ko_k h hb
  have e2 := at_e h (q := srE t (A 1 1) (srq t (A 1 1) k)) (c := 32) (srE_0 hb) (by decide)
  unfold KCo srC
  rw [kq_k h k, en_k h hb, e1, e2]
  exact ⟨fun z => ⟨z.1, z.2.1.1, z.2.1.2, z.2.2⟩, fun z => ⟨z.1, ⟨z.2.1, z.2.2.1⟩, z.2.2.2⟩⟩
theorem ft_k (h : TpR A t) {k : Nat} : kFt (k_at A) (A 1 1) (kqK (k_at A) k) = srFault t (A 1 1) k := by
  have hb := (srq_0 h k).1
  have e1 := ko_k h hb
  have hE := srE_0 (t := t) (n := A 1 1) hb
  have e47 := at_e h (q := srE t (A 1 1) (srq t (A 1 1) k)) (c := 47) hE (by decide)
  have e59 := at_e h (q := srE t (A 1 1) (srq t (A 1 1) k)) (c := 59) hE (by decide)
  have el := at_rg h (q := srq t (A 1 1) k) (l := 97) (u := 104) hb (by decide) (by decide)
  unfold kFt srFault srF
  rw [kq_k h k, en_k h hb]
  by_cases c : srOK t (A 1 1) (srq t (A 1 1) k)
  · rw [if_neg (not_not_intro (e1.mpr c)), if_neg (not_not_intro c)]
    by_cases c2 : srE t (A 1 1) (srq t (A 1 1) k) < A 1 1 ∧ (t (srE t (A 1 1) (srq t (A 1 1) k)) = 47 ∨ t (srE t (A 1 1) (srq t (A 1 1) k)) = 59)
    · rw [if_pos c2, if_pos (by
        rcases c2.2 with z | z
        · exact Or.inl (e47.mpr ⟨c2.1, z⟩)
        · exact Or.inr (e59.mpr ⟨c2.1, z⟩))]
    · rw [if_neg c2, if_neg (by
        rintro (z | z)
        · have := e47.mp z; exact c2 ⟨this.1, Or.inl this.2⟩
        · have := e59.mp z; exact c2 ⟨this.1, Or.inr this.2⟩)]
  · rw [if_pos (fun z => c (e1.mp z)), if_pos c]
    by_cases c3 : srq t (A 1 1) k < A 1 1 ∧ 97 ≤ t (srq t (A 1 1) k) ∧ t (srq t (A 1 1) k) ≤ 104
    · rw [if_pos c3, if_pos (el.mpr c3)]
    · rw [if_neg c3, if_neg (fun z => c3 (el.mp z))]
/-- what read leaves, in the model's words -/
theorem rd_k (h : TpR A t) {A' : Nat → Int → Int} {r : Int} (hr : RdK A A' r) : Fo 3 [4, 5] [2, 3] A A' ∧ ∃ K : Nat, K < 10 ∧ srK t (A 1 1) K ∧ r = srFault t (A 1 1) K ∧ (srOK t (A 1 1) (srq t (A 1 1) K) ∧ srE t (A 1 1) (srq t (A 1 1) K) < A 1 1 ∧ (t (srE t (A 1 1) (srq t (A 1 1) K)) = 47 ∨ t (srE t (A 1 1) (srq t (A 1 1) K)) = 59) → A' 3 2 = (K : Int) + 1 ∧ A' 3 3 = (if t (srE t (A 1 1) (srq t (A 1 1) K)) = 47 then 1 else 0) ∧ ∀ j : Nat, j < K + 1 → A' 4 j = t (srq t (A 1 1) j) - 97 ∧ A' 5 j = cv t (A 1 1) (srq t (A 1 1) j + 1)) := by
  obtain ⟨hF, K, hK, hC, hN, hR, hP⟩ := hr
  refine ⟨hF, K, hK, ⟨fun j hj => (kc_k h).mp (hC j hj), fun z => hN ((kc_k h).mpr z)⟩, by rw [hR, ft_k h], fun hq => ?_⟩
  have hb := (srq_0 h K).1
  have hE := srE_0 (t := t) (n := A 1 1) hb
  have e47 := at_e h (q := srE t (A 1 1) (srq t (A 1 1) K)) (c := 47) hE (by decide)
  have e59 := at_e h (q := srE t (A 1 1) (srq t (A 1 1) K)) (c := 59) hE (by decide)
  rw [kq_k h K, en_k h hb] at hP
  obtain ⟨p1, p2, p3⟩ := hP ⟨(ko_k h hb).mpr hq.1, by
    rcases hq.2.2 with z | z
    · exact Or.inl (e47.mpr ⟨hq.2.1, z⟩)
    · exact Or.inr (e59.mpr ⟨hq.2.1, z⟩)⟩
  refine ⟨p1, ?_, fun j hj => ?_⟩
  · rw [p2]
    by_cases c : t (srE t (A 1 1) (srq t (A 1 1) K)) = 47
    · rw [if_pos c, if_pos (e47.mpr ⟨hq.2.1, c⟩)]
    · rw [if_neg c, if_neg (fun z => c (e47.mp z).2)]
  · obtain ⟨q1, q2⟩ := p3 j hj
    have hbj := (srq_0 h j).1
    rw [kq_k h j] at q1 q2
    rw [cv_k h (by omega)] at q2
    have ok : srOK t (A 1 1) (srq t (A 1 1) j) := by
      by_cases e : j = K
      · subst e; exact hq.1
      · exact ((kc_k h).mp (hC j (by omega))).1
    rw [q1, q2, at_id h hbj ok.1 (by have := ok.2.1; omega)]
    exact ⟨rfl, rfl⟩
end SR
