/-- the model's cells are the rows from 1000 on -/
def mo (A : Nat → Int → Int) : Nat → Int → Int := fun c => A (1000 + c)
def pA (A M : Nat → Int → Int) : Nat → Int → Int := fun c => if c < 1000 then A c else M (c - 1000)
def qS (s : Int) : Nat := 100 + 10 * s.toNat
def qB (b : Int) : Nat := 200 + 10 * b.toNat
def qK (k : Int) : Nat := 300 + 10 * k.toNat
def qT (t : Int) : Nat := 400 + 10 * t.toNat
def qH (s : Int) : Nat := 21 + 2 * s.toNat
/-- what the counts and the rows of objects are like -/
def CtO (P : Nat → Int → Nat) (A : Nat → Int → Int) : Prop := ((0 ≤ A 0 10 ∧ A 0 10 ≤ 4) ∧ (0 ≤ A 0 11 ∧ A 0 11 ≤ 4) ∧ (0 ≤ A 0 12 ∧ A 0 12 ≤ 8)) ∧ (∀ s : Int, 0 ≤ s → s < A 0 10 → P 16 s = qS s + 1) ∧ (∀ b : Int, 0 ≤ b → b < A 0 11 → P 17 b = qB b + 1) ∧ (∀ k : Int, 0 ≤ k → k < A 0 12 → P 18 k = qK k + 1) ∧ ∀ s : Int, 0 ≤ s → s < 4 → P 20 s = qH s + 1
def RCn (A M : Nat → Int → Int) : Prop := A 0 10 = M 0 2 ∧ A 0 11 = M 0 8 ∧ A 0 12 = M 0 13 ∧ A 0 13 = M 0 42 ∧ A 0 14 = M 0 43 ∧ A 1 1 = M 0 1
def RSe (W : gW) (P : Nat → Int → Nat) (A M : Nat → Int → Int) (s : Int) : Prop := OSt W P A (qS s) ∧ (A (qS s) 0 = M 2 s ∧ A (qS s) 1 = M 3 s ∧ A (qS s) 2 = M 6 s) ∧ (∀ k : Int, 0 ≤ k → k < M 2 s → A (qS s + 1) k = M 4 (10 * s + k) ∧ A (qS s + 2) k = M 5 (10 * s + k) ∧ A (qS s + 3) k = m_centre M s k) ∧ ∀ x : Int, 0 ≤ x → x < M 3 s → A (qS s + 4) x = m_col M s x
def RBo (W : gW) (P : Nat → Int → Nat) (A M : Nat → Int → Int) (b : Int) : Prop := OBt W P A (qB b) ∧ (A (qB b) 1 = M 7 b ∧ A (qB b) 2 = M 8 b ∧ A (qB b) 4 = M 9 b) ∧ (∀ f : Int, 0 ≤ f → f < M 9 b → A (qB b + 1) f = M 10 (10 * b + f)) ∧ P (qB b) 0 = qS (M 7 b) + 1
def RWb (W : gW) (P : Nat → Int → Nat) (A M : Nat → Int → Int) : Prop := (M 0 2 = 0 → P 0 15 = 0) ∧ (0 < M 0 2 → P 0 15 = 240 + 1 ∧ OBt W P A 240 ∧ A 240 2 = 9999 ∧ A 240 4 = 0 ∧ P 240 0 = 100 + 1)
/-- what a KILT needs, once it has been asked for -/
def NdV (M : Nat → Int → Int) (k v : Int) : Prop := v = 0 ∨ (0 < M 0 2 ∧ m_hasS M k 0 ∧ ∃ (A1 : Nat → Int → Int) (k1 b1 s1 : Nat), LyM A1 k1 b1 s1 (Nd M) k 4 0 ∧ LyT A1 k1 s1 ∧ v = if ken A1 k1 s1 (ksr A1 k1 b1 s1 4) = 1000000 then -1 else ken A1 k1 s1 (ksr A1 k1 b1 s1 4))
def RKl (P : Nat → Int → Nat) (A M : Nat → Int → Int) (k : Int) : Prop := P (qK k) 11 = qB (M 20 k) + 1 ∧ A (qK k) 13 = M 25 k ∧ A (qK k) 14 = M 28 k ∧ A (qK k + 1) 2 = M 21 k ∧ A (qK k + 1) 3 = M 22 k ∧ A (qK k + 1) 4 = M 22 k + M 18 k ∧ A (qK k + 1) 5 = M 23 k ∧ A (qK k + 1) 6 = M 24 k ∧ ∀ p : Int, 0 ≤ p → p < M 15 k → A (qK k + 1 + 1) p = M 26 (24 * k + p) ∧ (if p + 1 < M 15 k then A (qK k + 1 + 2) p else -1) = M 27 (24 * k + p)
def RKn (A M : Nat → Int → Int) (k : Int) : Prop := A (qK k) 0 = M 11 k ∧ A (qK k) 1 = M 12 k ∧ A (qK k) 2 = M 13 k ∧ A (qK k) 3 = M 14 k ∧ A (qK k) 4 = M 15 k ∧ A (qK k) 5 = M 16 k ∧ A (qK k) 6 = M 17 k ∧ A (qK k) 7 = M 18 k ∧ A (qK k) 8 = M 19 k ∧ (A (qK k) 9 = 0 ↔ ¬ strd M k) ∧ A (qK k) 12 = M 20 k
def RKi (W : gW) (P : Nat → Int → Nat) (A M : Nat → Int → Int) (k : Int) : Prop := OKi W P A (qK k) ∧ StB A (qK k) ∧ RKn A M k ∧ (M 20 k < 0 → P (qK k) 11 = 0 ∧ M 20 k = -1 ∧ A (qK k) 13 = -1 ∧ A (qK k) 14 = 0) ∧ (0 ≤ M 20 k → RKl P A M k) ∧ NdV M k (A (qK k) 15)
def RTx (W : gW) (P : Nat → Int → Nat) (A M : Nat → Int → Int) (t : Int) : Prop := P 19 t = qT t + 1 ∧ OTx W P (qT t) ∧ (0 ≤ A (qT t) 2 ∧ A (qT t) 2 ≤ (gL W (qT t + 1) : Int)) ∧ gL W (qT t + 2) = gL W (qT t + 1) ∧ ∀ q : Int, 0 ≤ q → q ≤ 1 → (partK A W (qT t) q).map cm = rowL M (2 * t + q) ∧ (vs (partK A W (qT t) q) 0 = some 1 ∧ ∀ c ∈ partK A W (qT t) q, cdOK c) ∧ WkOK M (2 * t + q)
def RSh (W : gW) (P : Nat → Int → Nat) (A M : Nat → Int → Int) (s : Int) : Prop := OSh W P (qH s) ∧ A (qH s) 1 = M 43 s ∧ (0 ≤ M 43 s → A (qH s) 2 = M 44 s ∧ ∀ i : Int, 0 ≤ i → i < M 44 s → A (qH s + 1) i = M 45 (40 * s + i))
/-- roles that nothing has yet -/
def RFr (W : gW) (M : Nat → Int → Int) : Prop := (∀ c, 100 + 10 * (M 0 2).toNat ≤ c → c < 200 → gK W c = 0) ∧ (∀ c, 200 + 10 * (M 0 8).toNat ≤ c → c < 240 → gK W c = 0) ∧ (M 0 2 = 0 → ∀ c, 240 ≤ c → c < 300 → gK W c = 0) ∧ (∀ c, 300 + 10 * (M 0 13).toNat ≤ c → c < 400 → gK W c = 0) ∧ ∀ c, 400 + 10 * (M 0 42).toNat ≤ c → c < 500 → gK W c = 0
def RMo (W : gW) (P : Nat → Int → Nat) : Prop := (∀ c, c < 46 → lo W (1000 + c) = lo W 1000 + c ∧ gK W (1000 + c) = mkd c ∧ gL W (1000 + c) = mln c) ∧ ∀ j : Nat, 0 < mpf j → P 1000 (j : Int) = 1000 + mpf j + 1
def MOK (M : Nat → Int → Int) : Prop := SettsOK M ∧ BoltsOK M ∧ KiltsOK M ∧ SheetsOK M ∧ (1 ≤ M 0 42 ∧ M 0 42 ≤ 6) ∧ (0 ≤ M 0 43 ∧ M 0 43 < M 0 42)
def Rel (W : gW) (P : Nat → Int → Nat) (A M : Nat → Int → Int) : Prop := CtO P A ∧ RCn A M ∧ TpR A (M 1) ∧ (∀ s : Int, 0 ≤ s → s < M 0 2 → RSe W P A M s) ∧ (∀ b : Int, 0 ≤ b → b < M 0 8 → RBo W P A M b) ∧ RWb W P A M ∧ (∀ k : Int, 0 ≤ k → k < M 0 13 → RKi W P A M k) ∧ (∀ t : Int, 0 ≤ t → t < M 0 42 → RTx W P A M t) ∧ (∀ s : Int, 0 ≤ s → s < 4 → RSh W P A M s) ∧ (∀ j : Nat, j < 8 → A 14 j = M 41 j) ∧ RFr W M ∧ StrA A ∧ RMo W P ∧ MOK M
abbrev RelA (W : gW) (P : Nat → Int → Nat) (A : Nat → Int → Int) : Prop := Rel W P A (mo A)
section RELP
variable {W : gW} {P : Nat → Int → Nat} {A M : Nat → Int → Int}
theorem Rel.cto (h : Rel W P A M) : CtO P A := h.1
theorem Rel.cn (h : Rel W P A M) : RCn A M := h.2.1
theorem Rel.tp (h : Rel W P A M) : TpR A (M 1) := h.2.2.1
theorem Rel.se (h : Rel W P A M) {s : Int} (h0 : 0 ≤ s) (h1 : s < M 0 2) : RSe W P A M s := h.2.2.2.1 s h0 h1
theorem Rel.bo (h : Rel W P A M) {b : Int} (h0 : 0 ≤ b) (h1 : b < M 0 8) : RBo W P A M b := h.2.2.2.2.1 b h0 h1
theorem Rel.wb (h : Rel W P A M) : RWb W P A M := h.2.2.2.2.2.1
theorem Rel.ki (h : Rel W P A M) {k : Int} (h0 : 0 ≤ k) (h1 : k < M 0 13) : RKi W P A M k := h.2.2.2.2.2.2.1 k h0 h1
theorem Rel.tx (h : Rel W P A M) {t : Int} (h0 : 0 ≤ t) (h1 : t < M 0 42) : RTx W P A M t := h.2.2.2.2.2.2.2.1 t h0 h1
theorem Rel.sh (h : Rel W P A M) {s : Int} (h0 : 0 ≤ s) (h1 : s < 4) : RSh W P A M s := h.2.2.2.2.2.2.2.2.1 s h0 h1
theorem Rel.cu (h : Rel W P A M) : ∀ j : Nat, j < 8 → A 14 j = M 41 j := h.2.2.2.2.2.2.2.2.2.1
theorem Rel.fr (h : Rel W P A M) : RFr W M := h.2.2.2.2.2.2.2.2.2.2.1
theorem Rel.st (h : Rel W P A M) : StrA A := h.2.2.2.2.2.2.2.2.2.2.2.1
theorem Rel.mod (h : Rel W P A M) : RMo W P := h.2.2.2.2.2.2.2.2.2.2.2.2.1
theorem Rel.ok (h : Rel W P A M) : MOK M := h.2.2.2.2.2.2.2.2.2.2.2.2.2
theorem StrA.sty (h : StrA A) : StyA A := ⟨h.2 0 (by decide), h.2 1 (by decide), h.2 2 (by decide), h.2 3 (by decide), h.2 4 (by decide), h.2 5 (by decide)⟩
end RELP
/-- the model's law, out of the roles -/
def PhW (W : gW) (A : Nat → Int → Int) (P : Nat → Int → Nat) (μ : Nat → Nat → Int32) : xM := Wm W (pA A (fun c j => (μ c j.toNat).toInt)) P
theorem wm_congr {W : gW} {A A' : Nat → Int → Int} {P : Nat → Int → Nat} (h : ∀ c (j : Nat), iz (A' c j) = iz (A c j)) : Wm W A' P = Wm W A P := by
  refine xM_ext rfl rfl fun a => ?_
  show (if gRo W a = 0 then gz W a else (_ : xC)) = (if gRo W a = 0 then gz W a else (_ : xC))
  have e : mI A' (gRo W a - 1) = mI A (gRo W a - 1) := by funext j; exact h _ j
  rw [e]
theorem ph_eq {W : gW} {A M : Nat → Int → Int} {P : Nat → Int → Nat} : PhW W A P (mI M) = Wm W (pA A M) P := by
  refine wm_congr fun c j => ?_
  unfold pA
  by_cases e : c < 1000
  · rw [if_pos e, if_pos e]
  · rw [if_neg e, if_neg e]
    show iz ((iz (M (c - 1000) ((j : Int).toNat : Int))).toInt) = _
    rw [iz_of, Int.toNat_natCast]
theorem pA_mo {A : Nat → Int → Int} : pA A (mo A) = A := by
  funext c j
  unfold pA mo
  by_cases e : c < 1000
  · rw [if_pos e]
  · rw [if_neg e, show 1000 + (c - 1000) = c by omega]
theorem ph_mo {W : gW} {A : Nat → Int → Int} {P : Nat → Int → Nat} : PhW W A P (mI (mo A)) = Wm W A P := by rw [ph_eq, pA_mo]
theorem mo_pA {A M : Nat → Int → Int} : mo (pA A M) = M := by
  funext c
  show (if 1000 + c < 1000 then A (1000 + c) else M (1000 + c - 1000)) = M c
  rw [if_neg (by omega), show 1000 + c - 1000 = c by omega]
theorem pA_l {A M : Nat → Int → Int} {c : Nat} (h : c < 1000) : pA A M c = A c := by
  unfold pA; rw [if_pos h]
theorem rg_pA {A M : Nat → Int → Int} (h : RG A) (h2 : RG M) : RG (pA A M) := fun c j => by
  unfold pA; split; exact h c j; exact h2 _ j
theorem rg_mo {A : Nat → Int → Int} (h : RG A) : RG (mo A) := fun c j => h _ j
theorem ml_W {W : gW} {A : Nat → Int → Int} {P : Nat → Int → Nat} (hW : HW W) (hT : HR W P) (h : RMo W P) : MLaw (lo W 1000) (PhW W A P) := by
  intro μ
  have hk0 : ∀ c, c < 46 → ¬ mkd c = 0 := by decide
  refine ⟨fun c hc => ?_, fun j hj => ?_⟩
  · obtain ⟨q1, q2, q3⟩ := h.1 c hc
    have hk : ¬ gK W (1000 + c) = 0 := by rw [q2]; exact hk0 c hc
    rw [← q1]
    refine ⟨wk_kd hW (hk0 c hc) q2, (wk_ln hW hk).trans q3, fun j => ?_, fun j v => ?_⟩
    · refine (wk_xi hW hk j).trans ?_
      show iz (pA A (fun c j => (μ c j.toNat).toInt) (1000 + c) (j : Int)) = _
      unfold pA
      rw [if_neg (by omega), show 1000 + c - 1000 = c by omega, iz_of, Int.toNat_natCast]
    · have e := wk_xpi (A := pA A (fun c j => (μ c j.toNat).toInt)) (R := P) hW hk (j := j) (ji := (j : Int)) (v := v.toInt) rfl
      rw [iz_of] at e
      refine e.trans (wm_congr fun c' j' => ?_)
      unfold UA pA U
      by_cases e1 : c' < 1000
      · rw [if_neg (by omega), if_pos e1, if_pos e1]
      · rw [if_neg e1]
        simp only [if_neg e1, Int.toNat_natCast]
        by_cases e2 : c' = 1000 + c ∧ (j' : Int) = (j : Int)
        · rw [if_pos e2, if_pos (by omega)]
        · rw [if_neg e2, if_neg (by omega)]
  · have hk : ¬ gK W 1000 = 0 := by have := (h.1 0 (by decide)).2.1; rw [this]; exact hk0 0 (by decide)
    have hm : mpf j < 46 := by
      by_cases q : j < 67
      · have : ∀ i, i < 67 → mpf i < 46 := by decide
        exact this j q
      · unfold mpf
        rw [List.getD_eq_getElem?_getD, List.getElem?_eq_none (by simpa using q)]
        decide
    refine (wk_xp hW hk j (Or.inl (by have := (h.1 0 (by decide)).2.1; rw [this]; decide))).trans ?_
    rw [h.2 j hj, if_neg (by omega), show 1000 + mpf j + 1 - 1 = 1000 + mpf j by omega]
    exact (h.1 (mpf j) hm).1
