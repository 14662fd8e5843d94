section WAYS2
variable {need : Nat → Int} {told : Nat → Bool} {l0 : Nat → Int} {N : Nat} {nd : Int → Int}
theorem va_e {l : Nat → Int} {d j : Nat} {v : Int} : va_up l d v j = if j = d then v else l j := rfl
theorem kXL_off {g : BXg} {k : Int} {l : Int → Int} {c bt : Int} {tr : Nat → Int} {X : BX} : ∀ (r : Nat) (b : Int), kXL g (-1) k l c bt tr r b X = X
  | 0, _ => rfl
  | r + 1, b => by
    have ih := kXL_off (g := g) (k := k) (l := l) (c := c) (bt := bt) (tr := tr) (X := X) r (b + 1)
    show kXL g (-1) k l c bt tr r (b + 1) (if ¬ (-1 : Int) = -1 ∧ (-1 : Int) ≤ l b then _ else X) = X
    rw [if_neg (fun q => q.1 rfl)]
    exact ih
theorem kEx_off {l : Int → Int} {c bt : Int} {X : BX} : ∀ (r k : Nat) (tr : Nat → Int), (∀ n : Int, k ≤ n → n < k + r → nd n = -1) → ∃ tr', kEx nd r k l c bt tr X = bxU c bt tr' X ∧ (∀ j, j < k → tr' j = tr j) ∧ ∀ j, k ≤ j → j < k + r → tr' j = -1
  | 0, k, tr, _ => ⟨tr, rfl, fun _ _ => rfl, fun j h1 h2 => absurd h2 (by omega)⟩
  | r + 1, k, tr, h => by
    obtain ⟨tr', e, h1, h2⟩ := kEx_off (l := l) (c := c) (bt := bt) (X := X) r (k + 1) (tset tr k (-1)) (fun n n0 n1 => h n (by omega) (by omega))
    refine ⟨tr', ?_, fun j hj => ?_, fun j j0 j1 => ?_⟩
    · show kEx nd r ((k : Int) + 1) l c bt (tset tr k (-1)) (kXL (kEx nd r ((k : Int) + 1)) (nd k) k l c bt tr 4 0 X) = _
      rw [h k (Int.le_refl _) (by omega), kXL_off]
      exact e
    · rw [h1 j (by omega)]
      unfold tset
      rw [if_neg (by omega)]
    · by_cases e2 : j = k
      · subst e2
        rw [h1 j (by omega)]
        unfold tset
        rw [if_pos rfl]
      · exact h2 j (by omega) (by omega)
def BE (X Y : BX) : Prop := X.1 = Y.1 ∧ X.2.1 = Y.2.1 ∧ ∀ j : Nat, j < 8 → X.2.2 j = Y.2.2 j
abbrev NdR (need : Nat → Int) (told : Nat → Bool) (N : Nat) (nd : Int → Int) : Prop := N ≤ 8 ∧ ∀ k : Nat, k < 8 → (k < N → (nd k = -1 → ¬ (told k = true ∧ need k ≤ 9999)) ∧ (¬ nd k = -1 → told k = true ∧ need k = nd k ∧ 0 ≤ nd k)) ∧ (N ≤ k → nd k = -1)
theorem blk0 (hN : NdR need told N nd) {u : Nat} {l : Nat → Int} {c bt : Nat} {lK : Int → Int} {tr : Nat → Int} {X Y : BX} (hc : cuS need told (auD N u) l0 N = some (l, c, bt)) (ht : ∀ j, j < N → tr j = if auD N u j < 4 then ((auD N u j : Nat) : Int) else -1) (hE : BE X Y) : BE (kEx nd (8 - N) N lK c bt tr X) (bdS need told l0 N u Y) := by
  obtain ⟨h8, hN⟩ := hN
  obtain ⟨tr', e, h1, h2⟩ := kEx_off (nd := nd) (l := lK) (c := (c : Int)) (bt := (bt : Int)) (X := X) (8 - N) N tr (fun n n0 n1 => by
    have := (hN n.toNat (by omega)).2 (by omega)
    rw [show ((n.toNat : Nat) : Int) = n by omega] at this
    exact this)
  have hd : ∀ j, j < N → dgt N u j = auD N u j := fun j hj => by
    have := dgt_u (m := 0) (k := N) (u := u) (e := 0) hj (by decide)
    rw [Nat.pow_zero, Nat.mul_one, Nat.add_zero, Nat.add_zero] at this
    exact this
  have ec : cuS need told (dgt N u) l0 N = some (l, c, bt) := (cuS_c N hd).trans hc
  rw [e]
  unfold bdS bxU
  rw [ec, Int.toNat_natCast, hE.1, hE.2.1]
  show BE _ (if Y.1 < (c : Int) ∨ ((c : Int) = Y.1 ∧ pc bt < Y.2.1) then ((c : Int), pc bt, fun k => if k < N ∧ dgt N u k < 4 then ((dgt N u k : Nat) : Int) else -1) else Y)
  by_cases q : Y.1 < (c : Int) ∨ ((c : Int) = Y.1 ∧ pc bt < Y.2.1)
  · rw [if_pos q, if_pos q]
    refine ⟨rfl, rfl, fun j hj => ?_⟩
    show tr' j = if j < N ∧ dgt N u j < 4 then ((dgt N u j : Nat) : Int) else -1
    by_cases jn : j < N
    · rw [h1 j jn, ht j jn, hd j jn]
      by_cases q4 : auD N u j < 4
      · rw [if_pos q4, if_pos ⟨jn, q4⟩]
      · rw [if_neg q4, if_neg (fun z => q4 z.2)]
    · rw [h2 j (by omega) (by omega), if_neg (fun z => jn z.1)]
  · rw [if_neg q, if_neg q]; exact hE
theorem bdF_5 {m u : Nat} {Y : BX} : bdF need told l0 N (5 ^ (m + 1)) (u * 5 ^ (m + 1)) Y = bdF need told l0 N (5 ^ m) ((5 * u + 4) * 5 ^ m) (bdF need told l0 N (5 ^ m) ((5 * u + 3) * 5 ^ m) (bdF need told l0 N (5 ^ m) ((5 * u + 2) * 5 ^ m) (bdF need told l0 N (5 ^ m) ((5 * u + 1) * 5 ^ m) (bdF need told l0 N (5 ^ m) ((5 * u + 0) * 5 ^ m) Y)))) := by
  have e0 : u * 5 ^ (m + 1) = (5 * u + 0) * 5 ^ m := by rw [Nat.pow_succ, Nat.add_zero, Nat.mul_comm 5 u, Nat.mul_assoc, Nat.mul_comm (5 ^ m) 5]
  have es : ∀ d, (5 * u + d) * 5 ^ m + 5 ^ m = (5 * u + (d + 1)) * 5 ^ m := fun d => by rw [show 5 * u + (d + 1) = (5 * u + d) + 1 from rfl, Nat.succ_mul (5 * u + d)]
  have ep : 5 ^ (m + 1) = 5 ^ m + (5 ^ m + (5 ^ m + (5 ^ m + 5 ^ m))) := by rw [Nat.pow_succ]; omega
  rw [e0, ep, bdF_a, es, bdF_a, es, bdF_a, es, bdF_a, es]
theorem blk (hN : NdR need told N nd) : ∀ (m k u : Nat) (l : Nat → Int) (c bt : Nat) (lK : Int → Int) (tr : Nat → Int) (X Y : BX), N = k + m → cuS need told (auD k u) l0 k = some (l, c, bt) → (∀ b : Nat, b < 4 → lK b = l b ∧ 0 ≤ l b ∧ l b ≤ 9999) → bt < 16 → (∀ j, j < k → tr j = if auD k u j < 4 then ((auD k u j : Nat) : Int) else -1) → BE X Y → BE (kEx nd (m + (8 - N)) k lK c bt tr X) (bdF need told l0 N (5 ^ m) (u * 5 ^ m) Y)
  | 0, k, u, l, c, bt, lK, tr, X, Y, hk, hc, hl, hb, ht, hE => by
    have e : k = N := by omega
    subst e
    have := blk0 (lK := lK) hN hc ht hE
    rw [Nat.zero_add]
    show BE _ (bdS need told l0 k (u * 5 ^ 0 + 0) Y)
    rw [Nat.pow_zero, Nat.mul_one, Nat.add_zero]
    exact this
  | m + 1, k, u, l, c, bt, lK, tr, X, Y, hk, hc, hl, hb, ht, hE => by
    have h8 := hN.1
    obtain ⟨hn1, hn2⟩ := (hN.2 k (by omega)).1 (by omega)
    have st : ∀ d : Nat, d < 5 → cuS need told (auD (k + 1) (5 * u + d)) l0 (k + 1) = if d = 4 then some (l, c, bt) else if told k = true ∧ need k ≤ l d then some (va_up l d (l d - need k), c + 1, bOr bt d) else none := fun d hd => by
      have e1 : cuS need told (auD (k + 1) (5 * u + d)) l0 k = some (l, c, bt) := (cuS_c k (fun j hj => (auD_s hd).1 hj)).trans hc
      have e2 : auD (k + 1) (5 * u + d) k = d := (auD_s (j := 0) hd).2
      unfold cuS
      rw [e1, e2]
    have trd : ∀ d : Nat, d < 5 → ∀ v : Int, v = (if d < 4 then (d : Int) else -1) → ∀ j, j < k + 1 → tset tr k v j = if auD (k + 1) (5 * u + d) j < 4 then ((auD (k + 1) (5 * u + d) j : Nat) : Int) else -1 := fun d hd v hv j hj => by
      unfold tset
      by_cases e : j = k
      · subst e
        rw [if_pos rfl, (auD_s (j := 0) hd).2, hv]
      · rw [if_neg (by omega), ht j (by omega), (auD_s hd).1 (by omega)]
    have one : ∀ d : Nat, d < 4 → ∀ X Y : BX, BE X Y → BE (kX1 (kEx nd (m + (8 - N)) ((k : Int) + 1)) (nd k) k lK c bt tr d X) (bdF need told l0 N (5 ^ m) ((5 * u + d) * 5 ^ m) Y) := fun d hd X Y hE => by
      have s := st d (by omega)
      rw [if_neg (by omega)] at s
      obtain ⟨b1, b2, b3⟩ := hl d hd
      unfold kX1
      by_cases q : ¬ nd k = -1 ∧ nd k ≤ lK d
      · obtain ⟨t1, t2, t3⟩ := hn2 q.1
        rw [if_pos ⟨t1, by rw [t2, ← b1]; exact q.2⟩] at s
        rw [if_pos q]
        have ob := bOr_i bt hb d hd
        have := blk hN m (k + 1) (5 * u + d) _ (c + 1) (bOr bt d) (lset lK d (lK d - nd k)) (tset tr k d) X Y (by omega) s (fun b hb4 => by
          rw [va_e]
          unfold lset
          have := hl b hb4
          by_cases e : b = d
          · subst e
            rw [if_pos rfl, if_pos rfl, t2]
            omega
          · rw [if_neg (by omega), if_neg e]
            exact this) ob.2 (trd d (by omega) d (by rw [if_pos hd])) hE
        rw [ob.1]
        exact this
      · have hno : ¬ (told k = true ∧ need k ≤ l d) := fun z => by
          by_cases e : nd k = -1
          · exact hn1 e ⟨z.1, by omega⟩
          · exact q ⟨e, by rw [← (hn2 e).2.1, b1]; exact z.2⟩
        rw [if_neg hno] at s
        rw [if_neg q, bdF_n (k := k + 1) (by omega) s (5 ^ m) (Nat.le_refl _)]
        exact hE
    have four : ∀ X Y : BX, BE X Y → BE (kEx nd (m + (8 - N)) ((k : Int) + 1) lK c bt (tset tr k (-1)) X) (bdF need told l0 N (5 ^ m) ((5 * u + 4) * 5 ^ m) Y) := fun X Y hE => by
      have s := st 4 (by omega)
      rw [if_pos rfl] at s
      exact blk hN m (k + 1) (5 * u + 4) l c bt lK (tset tr k (-1)) X Y (by omega) s hl hb (trd 4 (by omega) (-1) rfl) hE
    rw [bdF_5, show m + 1 + (8 - N) = (m + (8 - N)) + 1 by omega]
    exact four _ _ (one 3 (by decide) _ _ (one 2 (by decide) _ _ (one 1 (by decide) _ _ (one 0 (by decide) X Y hE))))
end WAYS2
