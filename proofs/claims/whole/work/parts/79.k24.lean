section WAYS
variable {need : Nat → Int} {told : Nat → Bool} {l0 : Nat → Int} {N : Nat}
theorem cuS_c {a a' : Nat → Nat} : ∀ k : Nat, (∀ j, j < k → a j = a' j) → cuS need told a l0 k = cuS need told a' l0 k
  | 0, _ => rfl
  | k + 1, h => by
    have ih := cuS_c k (fun j hj => h j (by omega))
    unfold cuS
    rw [ih, h k (by omega)]
theorem cuS_n {a : Nat → Nat} {k : Nat} (h : cuS need told a l0 k = none) : ∀ d : Nat, cuS need told a l0 (k + d) = none
  | 0 => h
  | d + 1 => by
    have ih := cuS_n h d
    show cuS need told a l0 (k + d + 1) = none
    unfold cuS
    rw [ih]
/-- one way -/
def bdS (need : Nat → Int) (told : Nat → Bool) (l0 : Nat → Int) (N w : Nat) (Y : BX) : BX := match cuS need told (dgt N w) l0 N with
  | none => Y
  | some (_, c, bt) => if Y.1 < c ∨ ((c : Int) = Y.1 ∧ pc bt < Y.2.1) then ((c : Int), pc bt, fun k => if k < N ∧ dgt N w k < 4 then ((dgt N w k : Nat) : Int) else -1) else Y
/-- n ways from w0 on -/
def bdF (need : Nat → Int) (told : Nat → Bool) (l0 : Nat → Int) (N : Nat) : Nat → Nat → BX → BX
  | 0, _, Y => Y
  | n + 1, w0, Y => bdS need told l0 N (w0 + n) (bdF need told l0 N n w0 Y)
theorem bdB_F {f0 : Nat → Int} : ∀ w : Nat, bdB need told l0 N f0 w = bdF need told l0 N w 0 (-1, 0, f0)
  | 0 => rfl
  | w + 1 => by
    have ih := bdB_F (f0 := f0) w
    show bdB need told l0 N f0 (w + 1) = bdS need told l0 N (0 + w) (bdF need told l0 N w 0 (-1, 0, f0))
    rw [← ih, Nat.zero_add]
    unfold bdS
    conv => lhs; unfold bdB
    rfl
theorem bdF_a {w0 m : Nat} {Y : BX} : ∀ n : Nat, bdF need told l0 N (m + n) w0 Y = bdF need told l0 N n (w0 + m) (bdF need told l0 N m w0 Y)
  | 0 => rfl
  | n + 1 => by
    have ih := bdF_a (w0 := w0) (m := m) (Y := Y) n
    show bdS need told l0 N (w0 + (m + n)) (bdF need told l0 N (m + n) w0 Y) = bdS need told l0 N (w0 + m + n) (bdF need told l0 N n (w0 + m) (bdF need told l0 N m w0 Y))
    rw [ih, Nat.add_assoc]
/-- the first k bolts of the block u -/
def auD (k u : Nat) : Nat → Nat := fun j => u / 5 ^ (k - 1 - j) % 5
theorem dgt_u {m k u e j : Nat} (hj : j < k) (he : e < 5 ^ m) : dgt (k + m) (u * 5 ^ m + e) j = auD k u j := by
  unfold dgt auD
  have e1 : 5 ^ (k + m - 1 - j) = 5 ^ m * 5 ^ (k - 1 - j) := by rw [← Nat.pow_add]; congr 1; omega
  have e2 : (u * 5 ^ m + e) / 5 ^ m = u := by
    rw [Nat.add_comm, Nat.add_mul_div_right _ _ (Nat.pow_pos (by decide)), Nat.div_eq_of_lt he, Nat.zero_add]
  rw [e1, ← Nat.div_div_eq_div_mul, e2]
theorem auD_s {k u d j : Nat} (hd : d < 5) : (j < k → auD (k + 1) (5 * u + d) j = auD k u j) ∧ auD (k + 1) (5 * u + d) k = d := by
  unfold auD
  refine ⟨fun hj => ?_, ?_⟩
  · have e1 : 5 ^ (k + 1 - 1 - j) = 5 * 5 ^ (k - 1 - j) := by
      rw [show k + 1 - 1 - j = (k - 1 - j) + 1 by omega, Nat.pow_succ, Nat.mul_comm]
    rw [e1, ← Nat.div_div_eq_div_mul, show (5 * u + d) / 5 = u by omega]
  · rw [show k + 1 - 1 - k = 0 by omega, Nat.pow_zero, Nat.div_one]
    omega
/-- a block of ways that can't be -/
theorem bdF_n {m k u : Nat} {Y : BX} (hN : N = k + m) (h : cuS need told (auD k u) l0 k = none) : ∀ n : Nat, n ≤ 5 ^ m → bdF need told l0 N n (u * 5 ^ m) Y = Y
  | 0, _ => rfl
  | n + 1, hn => by
    have ih := bdF_n (Y := Y) hN h n (by omega)
    show bdS need told l0 N (u * 5 ^ m + n) (bdF need told l0 N n (u * 5 ^ m) Y) = Y
    rw [ih]
    have hd : ∀ j, j < k → dgt N (u * 5 ^ m + n) j = auD k u j := fun j hj => by rw [hN]; exact dgt_u hj (by omega)
    have e : cuS need told (dgt N (u * 5 ^ m + n)) l0 k = none := (cuS_c k hd).trans h
    have e2 := cuS_n e m
    unfold bdS
    rw [← hN] at e2
    rw [e2]
end WAYS
