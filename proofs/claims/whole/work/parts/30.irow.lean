/-! NUMBERS AS INTEGERS (iz), and the rows of the pure machine told in them -/
def iz (x : Int) : Int32 := Int32.ofInt x
abbrev Rg (x : Int) : Prop := -2147483648 ≤ x ∧ x ≤ 2147483647
theorem iz_t {x : Int} (h : Rg x) : (iz x).toInt = x := Int32.toInt_ofInt_of_le (by have := h.1; omega) (by have := h.2; omega)
theorem iz_of (v : Int32) : iz v.toInt = v := Int32.ofInt_toInt v
theorem rg_t (v : Int32) : Rg v.toInt := ⟨by have := v.le_toInt; omega, by have := v.toInt_lt; omega⟩
theorem iz_inj {x y : Int} (hx : Rg x) (hy : Rg y) : iz x = iz y ↔ x = y := ⟨fun h => by rw [← iz_t hx, ← iz_t hy, h], fun h => by rw [h]⟩
theorem iz_lt {x y : Int} (hx : Rg x) (hy : Rg y) : iz x < iz y ↔ x < y := by rw [Int32.lt_iff_toInt_lt, iz_t hx, iz_t hy]
theorem iz_le {x y : Int} (hx : Rg x) (hy : Rg y) : iz x ≤ iz y ↔ x ≤ y := by rw [Int32.le_iff_toInt_le, iz_t hx, iz_t hy]
theorem iz_add {x y : Int} : iz x + iz y = iz (x + y) := (Int32.ofInt_add x y).symm
theorem iz_sub {x y : Int} : iz x - iz y = iz (x - y) := (Int32.ofInt_sub x y).symm
theorem iz_mul {x y : Int} : iz x * iz y = iz (x * y) := (Int32.ofInt_mul x y).symm
theorem iz_neg {x : Int} : -iz x = iz (-x) := (Int32.ofInt_neg x).symm
theorem iz_div {x y : Int} (hx : Rg x) (hy : Rg y) (h0 : 0 < y) : iz x / iz y = iz (x.tdiv y) := (Int32.ofInt_tdiv (by have := hx.1; show (-2147483648 : Int) ≤ x; omega) (by have := hx.2; show x ≤ (2147483647 : Int); omega) (by have := hy.1; show (-2147483648 : Int) ≤ y; omega) (by have := hy.2; show y ≤ (2147483647 : Int); omega)).symm
theorem iz_rem {x y : Int} (hx : Rg x) (hy : Rg y) (h0 : 0 < y) : iz x - iz x / iz y * iz y = iz (x.tmod y) := by
  rw [iz_div hx hy h0, iz_mul, iz_sub, Int.tmod_def, Int.mul_comm]
theorem iz_nat {x : Int} (h : Rg x) : (iz x).toNatClampNeg = x.toNat := by rw [← Int32.toNat_toInt, iz_t h]
theorem iz_n (n : Nat) : Int32.ofNat n = iz (n : Int) := (Int32.ofInt_eq_ofNat).symm
theorem iz_in {x : Int} {n : Nat} (h0 : 0 ≤ x) (h1 : x < n) (h2 : x ≤ 2147483647) : vp_in (iz x) n := by
  have hr : Rg x := ⟨by omega, h2⟩
  intro h
  rw [iz_nat hr] at h
  rcases h with h | h
  · rw [show (0 : Int32) = iz 0 from rfl, iz_lt hr (by decide)] at h; omega
  · omega
theorem iz_ne0 {x : Int} (hx : Rg x) (h : 0 < x) : ¬ iz x = 0 := by
  rw [show (0 : Int32) = iz 0 from rfl, iz_inj hx (by decide)]; omega
def b8 (x : Int) : Int := (iz x).toInt8.toInt32.toInt
def b16 (x : Int) : Int := (iz x).toInt16.toInt32.toInt
def iand (x y : Int) : Int := (iz x &&& iz y).toInt
def ior (x y : Int) : Int := (iz x ||| iz y).toInt
def ixor (x y : Int) : Int := (iz x ^^^ iz y).toInt
def ishl (x y : Int) : Int := (iz x <<< (iz y &&& 31)).toInt
def ishr (x y : Int) : Int := (iz x >>> (iz y &&& 31)).toInt
def iushr (x y : Int) : Int := ((iz x).toUInt32 >>> ((iz y).toUInt32 &&& Int32.toUInt32 31)).toInt32.toInt
def ichr (x : Int) : Int := ((iz x).toUInt32 % 65536).toInt32.toInt
theorem rg_iand {x y : Int} : Rg (iand x y) := rg_t _
theorem rg_ior {x y : Int} : Rg (ior x y) := rg_t _
theorem rg_ixor {x y : Int} : Rg (ixor x y) := rg_t _
theorem rg_ishl {x y : Int} : Rg (ishl x y) := rg_t _
theorem rg_ishr {x y : Int} : Rg (ishr x y) := rg_t _
theorem rg_iushr {x y : Int} : Rg (iushr x y) := rg_t _
theorem rg_ichr {x : Int} : Rg (ichr x) := rg_t _
theorem rg_b8 {x : Int} : Rg (b8 x) := rg_t _
theorem rg_b16 {x : Int} : Rg (b16 x) := rg_t _
def bI (c : Prop) [Decidable c] : Int := if c then 1 else 0
theorem bI_t {c : Prop} [Decidable c] (h : c) : bI c = 1 := if_pos h
theorem bI_f {c : Prop} [Decidable c] (h : ¬ c) : bI c = 0 := if_neg h
theorem bI_r {c : Prop} [Decidable c] : 0 ≤ bI c ∧ bI c ≤ 1 := by unfold bI; split <;> omega
theorem bI_0 {c : Prop} [Decidable c] : bI c = 0 ↔ ¬ c := by unfold bI; split <;> simp [*]
theorem bI_i {c c' : Prop} [Decidable c] [Decidable c'] (h : c ↔ c') : bI c = bI c' := by unfold bI; simp [h]
theorem rg_bI {c : Prop} [Decidable c] : Rg (bI c) := by have := bI_r (c := c); omega
theorem iz_bI0 {c : Prop} [Decidable c] : iz (bI c) = 0 ↔ ¬ c := by
  rw [show (0 : Int32) = iz 0 from rfl, iz_inj rg_bI (by decide), bI_0]
theorem vnar8 {x : Int} (h : -128 ≤ x ∧ x ≤ 127) : vp_nar .byte (iz x) = iz x := by
  have hr : Rg x := ⟨by omega, by omega⟩
  unfold vp_nar
  apply Int32.toInt_inj.mp
  simp [narrow]
  rw [iz_t hr]
  exact Int.bmod_eq_of_le (by omega) (by omega)
theorem vnarB {x : Int} (h : x = 0 ∨ x = 1) : vp_nar .boolean (iz x) = iz x := by
  rcases h with rfl | rfl <;> decide
theorem vnar8b {x : Int} : vp_nar .byte (iz (b8 x)) = iz (b8 x) := by
  refine vnar8 ?_
  unfold b8
  have h1 := (iz x).toInt8.le_toInt
  have h2 := (iz x).toInt8.toInt_lt
  rw [Int8.toInt_toInt32]
  omega
/-! memories by integers -/
def UA (A : Nat → Int → Int) (c : Nat) (j v : Int) : Nat → Int → Int := fun c' j' => if c' = c ∧ j' = j then v else A c' j'
theorem UA_eq {A : Nat → Int → Int} {c : Nat} {j v : Int} : UA A c j v c j = v := if_pos ⟨rfl, rfl⟩
theorem UA_c {A : Nat → Int → Int} {c c' : Nat} {j j' v : Int} (h : ¬ c' = c) : UA A c j v c' j' = A c' j' := if_neg fun q => h q.1
theorem UA_j {A : Nat → Int → Int} {c c' : Nat} {j j' v : Int} (h : ¬ j' = j) : UA A c j v c' j' = A c' j' := if_neg fun q => h q.2
def mI (A : Nat → Int → Int) : Nat → Nat → Int32 := fun c j => iz (A c (j : Int))
def RG (A : Nat → Int → Int) : Prop := ∀ c j, Rg (A c j)
theorem rg_UA {A : Nat → Int → Int} {c : Nat} {j v : Int} (h : RG A) (hv : Rg v) : RG (UA A c j v) := fun c' j' => by
  unfold UA; split
  · exact hv
  · exact h c' j'
theorem mI_U {A : Nat → Int → Int} {c : Nat} {j v : Int} (h : 0 ≤ j) : U (mI A) c j.toNat (iz v) = mI (UA A c j v) := by
  funext c' j'
  unfold U mI UA
  by_cases h1 : c' = c
  · by_cases h2 : j' = j.toNat
    · rw [if_pos ⟨h1, h2⟩, if_pos ⟨h1, by omega⟩]
    · rw [if_neg (fun q => h2 q.2), if_neg (fun q => h2 (by omega))]
  · rw [if_neg (fun q => h1 q.1), if_neg (fun q => h1 q.1)]
def UP (P : Nat → Int → Nat) (a : Nat) (j : Int) (v : Nat) : Nat → Int → Nat := fun c' j' => if c' = a ∧ j' = j then v else P c' j'
def rI (P : Nat → Int → Nat) : Nat → Nat → Nat := fun c j => P c (j : Int)
theorem rI_U {P : Nat → Int → Nat} {c : Nat} {j : Int} {v : Nat} (h : 0 ≤ j) : UR (rI P) c j.toNat v = rI (UP P c j v) := by
  funext c' j'
  unfold UR rI UP
  by_cases h1 : c' = c
  · by_cases h2 : j' = j.toNat
    · rw [if_pos ⟨h1, h2⟩, if_pos ⟨h1, by omega⟩]
    · rw [if_neg (fun q => h2 q.2), if_neg (fun q => h2 (by omega))]
  · rw [if_neg (fun q => h1 q.1), if_neg (fun q => h1 q.1)]
def ZA (A : Nat → Int → Int) (a : Nat) : Nat → Int → Int := fun c j => if c = a then 0 else A c j
def ZP (P : Nat → Int → Nat) (a : Nat) : Nat → Int → Nat := fun c j => if c = a then 0 else P c j
theorem mI_Z {A : Nat → Int → Int} {a : Nat} : Z0 (mI A) a = mI (ZA A a) := by
  funext c j
  unfold Z0 mI ZA
  by_cases h : c = a
  · rw [if_pos h, if_pos h]; rfl
  · rw [if_neg h, if_neg h]
theorem rI_Z {P : Nat → Int → Nat} {a : Nat} : ZR (rI P) a = rI (ZP P a) := by
  funext c j
  by_cases h : c = a <;> simp [ZR, rI, ZP, h]
theorem rg_ZA {A : Nat → Int → Int} {a : Nat} (h : RG A) : RG (ZA A a) := fun c j => by
  unfold ZA; split
  · decide
  · exact h c j
def CA (A : Nat → Int → Int) (b a : Nat) (sp dp n : Int) : Nat → Int → Int := fun c j => if c = a ∧ dp ≤ j ∧ j < dp + n then A b (sp + (j - dp)) else A c j
theorem mI_C {A : Nat → Int → Int} {b a : Nat} {sp dp n : Int} (h1 : 0 ≤ sp) (h2 : 0 ≤ dp) (h3 : 0 ≤ n) : CP (mI A) b a sp.toNat dp.toNat n.toNat = mI (CA A b a sp dp n) := by
  funext c j
  unfold CP va_up va_cpy mI CA
  by_cases h : c = a
  · subst h
    rw [if_pos rfl]
    by_cases h4 : dp.toNat ≤ j ∧ j < dp.toNat + n.toNat
    · rw [if_pos h4, if_pos ⟨rfl, by omega, by omega⟩]
      congr 2
      omega
    · rw [if_neg h4, if_neg (fun q => h4 (by omega))]
  · rw [if_neg h, if_neg (fun q => h q.1)]
theorem rg_CA {A : Nat → Int → Int} {b a : Nat} {sp dp n : Int} (h : RG A) : RG (CA A b a sp dp n) := fun c j => by
  unfold CA; split
  · exact h _ _
  · exact h _ _
theorem mI_V {A : Nat → Int → Int} {a b : Nat} : va_up (mI A) a (mI A b) = mI (va_up A a (A b)) := by
  funext c j
  by_cases h : c = a <;> simp [va_up, mI, h]
theorem rg_VA {A : Nat → Int → Int} {a b : Nat} (h : RG A) : RG (va_up A a (A b)) := fun c j => by
  unfold va_up; split
  · exact h _ _
  · exact h _ _
/-- a method's run by its block -/
theorem xev_i {d i : Nat} {as : List Value} {σ : xM} {r : Option Value} {σ' : xM} {D : Nat} (hd : D + 1 ≤ d) (hc : csum as ≤ mL i) (h : ∀ d', D ≤ d' → wpE (xT i) (xev xT d') (fun r' s' => r' = r ∧ s' = σ') (0, lv_args 0 as, [], σ)) : xev xT d i as σ r σ' := by
  obtain ⟨d', rfl⟩ : ∃ d', d = d' + 1 := ⟨d - 1, by omega⟩
  exact ⟨hc, h d' (by omega)⟩
theorem xev_x {d i : Nat} {as : List Value} {σ : xM} {Q : Option Value → xM → Prop} {D : Nat} (hd : D + 1 ≤ d) (hc : csum as ≤ mL i) (h : ∀ d', D ≤ d' → wpE (xT i) (xev xT d') Q (0, lv_args 0 as, [], σ)) : ∃ r σ', xev xT d i as σ r σ' ∧ Q r σ' := by
  obtain ⟨d', rfl⟩ : ∃ d', d = d' + 1 := ⟨d - 1, by omega⟩
  exact xev_of hc (h d' (by omega))
theorem ret_i {a b : Int} {σ σ' : xM} (h : a = b) (hs : σ = σ') : (some (Value.int (iz a)) = some (Value.int (iz b))) ∧ σ = σ' := ⟨by rw [h], hs⟩
section IR
variable {C : Nat → xI} {ev : xV} {Q : Option Value → xM → Prop} {pc nx : Nat} {ls : xL} {st : List Value} {σ : xM}
theorem i_push {v : Int32} {n : Int} (hc : C pc ls st σ = oPush (.int v) nx ls st σ) (hv : v = iz n) (h : wpE C ev Q (nx, ls, .int (iz n) :: st, σ)) : wpE C ev Q (pc, ls, st, σ) := p_push (v := .int v) hc (by rw [hv]; exact h)
theorem i_iinc {k nL : Nat} {x : Int} {v : Int32} {n y : Int} {ls' : xL} (hc : C pc ls st σ = oIinc k v nx nL ls st σ) (hk : k < nL) (hx : xlk k ls = some (.int (iz x))) (hv : v = iz n) (hy : x + n = y) (hl : xst k (.int (iz y)) ls = ls') (h : wpE C ev Q (nx, ls', st, σ)) : wpE C ev Q (pc, ls, st, σ) := p_iinc hc hk hx (by rw [hv, iz_add, hy]) hl h
theorem i_add {x y : Int} (hc : C pc ls (.int (iz y) :: .int (iz x) :: st) σ = oBin (fun x y => x + y) nx ls (.int (iz y) :: .int (iz x) :: st) σ) (h : wpE C ev Q (nx, ls, .int (iz (x + y)) :: st, σ)) : wpE C ev Q (pc, ls, .int (iz y) :: .int (iz x) :: st, σ) := p_bin hc (by show wpE C ev Q (nx, ls, .int (iz x + iz y) :: st, σ); rw [iz_add]; exact h)
theorem i_sub {x y : Int} (hc : C pc ls (.int (iz y) :: .int (iz x) :: st) σ = oBin (fun x y => x - y) nx ls (.int (iz y) :: .int (iz x) :: st) σ) (h : wpE C ev Q (nx, ls, .int (iz (x - y)) :: st, σ)) : wpE C ev Q (pc, ls, .int (iz y) :: .int (iz x) :: st, σ) := p_bin hc (by show wpE C ev Q (nx, ls, .int (iz x - iz y) :: st, σ); rw [iz_sub]; exact h)
theorem i_mul {x y : Int} (hc : C pc ls (.int (iz y) :: .int (iz x) :: st) σ = oBin (fun x y => x * y) nx ls (.int (iz y) :: .int (iz x) :: st) σ) (h : wpE C ev Q (nx, ls, .int (iz (x * y)) :: st, σ)) : wpE C ev Q (pc, ls, .int (iz y) :: .int (iz x) :: st, σ) := p_bin hc (by show wpE C ev Q (nx, ls, .int (iz x * iz y) :: st, σ); rw [iz_mul]; exact h)
/-- any operation of two ints -/
theorem i_op {op : Int32 → Int32 → Int32} {x y z : Int} (hc : C pc ls (.int (iz y) :: .int (iz x) :: st) σ = oBin op nx ls (.int (iz y) :: .int (iz x) :: st) σ) (hz : op (iz x) (iz y) = iz z) (h : wpE C ev Q (nx, ls, .int (iz z) :: st, σ)) : wpE C ev Q (pc, ls, .int (iz y) :: .int (iz x) :: st, σ) := p_bin hc (by rw [hz]; exact h)
theorem i_div {x y : Int} (hc : C pc ls (.int (iz y) :: .int (iz x) :: st) σ = oDiv (fun x y => x / y) nx ls (.int (iz y) :: .int (iz x) :: st) σ) (hx : Rg x) (hy : 0 < y ∧ y ≤ 2147483647) (h : wpE C ev Q (nx, ls, .int (iz (x.tdiv y)) :: st, σ)) : wpE C ev Q (pc, ls, .int (iz y) :: .int (iz x) :: st, σ) := p_div hc (iz_ne0 ⟨by omega, hy.2⟩ hy.1) (by show wpE C ev Q (nx, ls, .int (iz x / iz y) :: st, σ); rw [iz_div hx ⟨by omega, hy.2⟩ hy.1]; exact h)
theorem i_rem {x y : Int} (hc : C pc ls (.int (iz y) :: .int (iz x) :: st) σ = oDiv (fun x y => x - x / y * y) nx ls (.int (iz y) :: .int (iz x) :: st) σ) (hx : Rg x) (hy : 0 < y ∧ y ≤ 2147483647) (h : wpE C ev Q (nx, ls, .int (iz (x.tmod y)) :: st, σ)) : wpE C ev Q (pc, ls, .int (iz y) :: .int (iz x) :: st, σ) := p_div hc (iz_ne0 ⟨by omega, hy.2⟩ hy.1) (by show wpE C ev Q (nx, ls, .int (iz x - iz x / iz y * iz y) :: st, σ); rw [iz_rem hx ⟨by omega, hy.2⟩ hy.1]; exact h)
theorem i_un {op : Int32 → Int32} {x z : Int} (hc : C pc ls (.int (iz x) :: st) σ = oUn op nx ls (.int (iz x) :: st) σ) (hz : op (iz x) = iz z) (h : wpE C ev Q (nx, ls, .int (iz z) :: st, σ)) : wpE C ev Q (pc, ls, .int (iz x) :: st, σ) := p_un hc (by rw [hz]; exact h)
theorem i_if {c : Int32 → Prop} {c' : Prop} {t : Nat} {x : Int} (hc : C pc ls (.int (iz x) :: st) σ = oIf c t nx ls (.int (iz x) :: st) σ) (hh : c (iz x) ↔ c') (h1 : c' → wpE C ev Q (t, ls, st, σ)) (h2 : ¬ c' → wpE C ev Q (nx, ls, st, σ)) : wpE C ev Q (pc, ls, .int (iz x) :: st, σ) := p_if hc (fun q => h1 (hh.mp q)) (fun q => h2 (fun q' => q (hh.mpr q')))
theorem i_icmp {c : Int32 → Int32 → Prop} {c' : Prop} {t : Nat} {x y : Int} (hc : C pc ls (.int (iz y) :: .int (iz x) :: st) σ = oIcmp c t nx ls (.int (iz y) :: .int (iz x) :: st) σ) (hh : c (iz x) (iz y) ↔ c') (h1 : c' → wpE C ev Q (t, ls, st, σ)) (h2 : ¬ c' → wpE C ev Q (nx, ls, st, σ)) : wpE C ev Q (pc, ls, .int (iz y) :: .int (iz x) :: st, σ) := p_icmp hc (fun q => h1 (hh.mp q)) (fun q => h2 (fun q' => q (hh.mpr q')))
theorem c_eq0 {x : Int} (hx : Rg x) : iz x = 0 ↔ x = 0 := iz_inj hx (by decide : Rg 0)
theorem c_lt0 {x : Int} (hx : Rg x) : iz x < 0 ↔ x < 0 := iz_lt hx (by decide : Rg 0)
theorem c_ge0 {x : Int} (hx : Rg x) : 0 ≤ iz x ↔ 0 ≤ x := iz_le (by decide : Rg 0) hx
theorem c_gt0 {x : Int} (hx : Rg x) : 0 < iz x ↔ 0 < x := iz_lt (by decide : Rg 0) hx
theorem c_le0 {x : Int} (hx : Rg x) : iz x ≤ 0 ↔ x ≤ 0 := iz_le hx (by decide : Rg 0)
theorem sw_c {x n : Int} {v : Int32} {t d : Nat} {k : Nat → Prop} {cs : List (Int32 × Nat)} (hx : Rg x) (hv : v = iz n) (hn : Rg n) (h1 : x = n → k t) (h2 : ¬ x = n → wpSw (iz x) k d cs) : wpSw (iz x) k d ((v, t) :: cs) := ⟨fun q => h1 (by rw [hv] at q; exact (iz_inj hx hn).mp q), fun q => h2 (fun q' => q (by rw [hv, q']))⟩
theorem sw_d {x : Int} {d : Nat} {k : Nat → Prop} (h : k d) : wpSw (iz x) k d [] := h
theorem i_ri {x : Int} (hc : C pc ls [.int (iz x)] σ = oRi (fun x => x = 0 ∨ x = 1) ls [.int (iz x)] σ) (hx : x = 0 ∨ x = 1) (h : Q (some (.int (iz x))) σ) : wpE C ev Q (pc, ls, [.int (iz x)], σ) := p_ri hc (by rcases hx with rfl | rfl <;> decide) h
theorem i_riB {c : Prop} [Decidable c] (hc : C pc ls [.int (iz (bI c))] σ = oRi (fun x => x = 0 ∨ x = 1) ls [.int (iz (bI c))] σ) (h : Q (some (.int (iz (bI c)))) σ) : wpE C ev Q (pc, ls, [.int (iz (bI c))], σ) := i_ri hc (by have := bI_r (c := c); omega) h
end IR
section IM
variable {C : Nat → xI} {ev : xV} {Q : Option Value → xM → Prop} {pc nx : Nat} {ls : xL} {st : List Value} {m : Nat} {Φ : (Nat → Nat → Int32) → xM} {A : Nat → Int → Int}
theorem n_geti {j : Nat} {ji v : Int} (hΦ : MLaw m Φ) (hc : C pc ls (.ref m :: st) (Φ (mI A)) = oGeti 12 j nx ls (.ref m :: st) (Φ (mI A))) (hj : (j : Int) = ji) (hv : A 0 ji = v) (h : wpE C ev Q (nx, ls, .int (iz v) :: st, Φ (mI A))) : wpE C ev Q (pc, ls, .ref m :: st, Φ (mI A)) := pm_geti hΦ hc (by show iz (A 0 (j : Int)) = _; rw [hj, hv]) h
theorem n_puti {j : Nat} {ji v : Int} (hΦ : MLaw m Φ) (hc : C pc ls (.int (iz v) :: .ref m :: st) (Φ (mI A)) = oPuti 12 j nx ls (.int (iz v) :: .ref m :: st) (Φ (mI A))) (hj : (j : Int) = ji) (h : wpE C ev Q (nx, ls, st, Φ (mI (UA A 0 ji v)))) : wpE C ev Q (pc, ls, .int (iz v) :: .ref m :: st, Φ (mI A)) := pm_puti hΦ hc (by
  have e : U (mI A) 0 j (iz v) = mI (UA A 0 ji v) := by rw [← mI_U (by omega)]; congr 1; omega
  rw [e]; exact h)
theorem n_aldi {c k n : Nat} {ni e v : Int} (hΦ : MLaw m Φ) (hc : C pc ls (.int (iz e) :: .ref (m + c) :: st) (Φ (mI A)) = oAldi k nx ls (.int (iz e) :: .ref (m + c) :: st) (Φ (mI A))) (h9 : c < 46) (hk : mkd c = k) (hn : mln c = n) (hni : (n : Int) = ni) (h8 : ni ≤ 2147483647) (hi : 0 ≤ e ∧ e < ni) (hv : A c e = v) (h : wpE C ev Q (nx, ls, .int (iz v) :: st, Φ (mI A))) : wpE C ev Q (pc, ls, .int (iz e) :: .ref (m + c) :: st, Φ (mI A)) :=
  pm_aldi hΦ hc h9 hk hn (iz_nat ⟨by omega, by omega⟩) (iz_in hi.1 (by omega) (by omega)) (by show iz (A c (e.toNat : Int)) = _; rw [Int.toNat_of_nonneg hi.1, hv]) h
theorem n_asti {c k n : Nat} {ni e v : Int} {nar : Int32 → Int32} (hΦ : MLaw m Φ) (hc : C pc ls (.int (iz v) :: .int (iz e) :: .ref (m + c) :: st) (Φ (mI A)) = oAsti k nar nx ls (.int (iz v) :: .int (iz e) :: .ref (m + c) :: st) (Φ (mI A))) (h9 : c < 46) (hk : mkd c = k) (hn : mln c = n) (hni : (n : Int) = ni) (h8 : ni ≤ 2147483647) (hi : 0 ≤ e ∧ e < ni) (hv : nar (iz v) = iz v) (h : wpE C ev Q (nx, ls, st, Φ (mI (UA A c e v)))) : wpE C ev Q (pc, ls, .int (iz v) :: .int (iz e) :: .ref (m + c) :: st, Φ (mI A)) :=
  pm_asti hΦ hc h9 hk hn (iz_nat ⟨by omega, by omega⟩) (iz_in hi.1 (by omega) (by omega)) (by rw [hv, mI_U hi.1]; exact h)
end IM
section IG
variable {C : Nat → xI} {ev : xV} {Q : Option Value → xM → Prop} {pc nx : Nat} {ls : xL} {st : List Value} {sz sl : Nat} {K L : Nat → Nat} {A : Nat → Int → Int} {P : Nat → Int → Nat}
theorem g_geti {a c j : Nat} {ji v : Int} (hc : C pc ls (.ref a :: st) (Mm sz sl K L (mI A) (rI P)) = oGeti c j nx ls (.ref a :: st) (Mm sz sl K L (mI A) (rI P))) (hk : K a = c + 1) (hj : (j : Int) = ji) (hv : A a ji = v) (h : wpE C ev Q (nx, ls, .int (iz v) :: st, Mm sz sl K L (mI A) (rI P))) : wpE C ev Q (pc, ls, .ref a :: st, Mm sz sl K L (mI A) (rI P)) := p_geti hc hk (by show iz (A a (j : Int)) = _; rw [hj, hv]) h
theorem g_getp {a c j : Nat} {ji : Int} (hc : C pc ls (.ref a :: st) (Mm sz sl K L (mI A) (rI P)) = oGetp c j nx ls (.ref a :: st) (Mm sz sl K L (mI A) (rI P))) (hk : K a = c + 1) (hj : (j : Int) = ji) (h0 : ¬ P a ji = 0) (h : wpE C ev Q (nx, ls, .ref (P a ji) :: st, Mm sz sl K L (mI A) (rI P))) : wpE C ev Q (pc, ls, .ref a :: st, Mm sz sl K L (mI A) (rI P)) := p_getp hc hk (by show P a (j : Int) = _; rw [hj]) h0 h
theorem g_getz {a c j : Nat} {ji : Int} (hc : C pc ls (.ref a :: st) (Mm sz sl K L (mI A) (rI P)) = oGetz c j nx ls (.ref a :: st) (Mm sz sl K L (mI A) (rI P))) (hk : K a = c + 1) (hj : (j : Int) = ji) (h1 : P a ji = 0 → wpE C ev Q (nx, ls, .null :: st, Mm sz sl K L (mI A) (rI P))) (h2 : ¬ P a ji = 0 → wpE C ev Q (nx, ls, .ref (P a ji) :: st, Mm sz sl K L (mI A) (rI P))) : wpE C ev Q (pc, ls, .ref a :: st, Mm sz sl K L (mI A) (rI P)) := by
  subst hj
  by_cases h : P a (j : Int) = 0
  · exact p_getzN hc hk h (h1 h)
  · exact p_getz hc hk rfl h (h2 h)
theorem g_puti {a c j : Nat} {ji v : Int} (hc : C pc ls (.int (iz v) :: .ref a :: st) (Mm sz sl K L (mI A) (rI P)) = oPuti c j nx ls (.int (iz v) :: .ref a :: st) (Mm sz sl K L (mI A) (rI P))) (hk : K a = c + 1) (hj : (j : Int) = ji) (h : wpE C ev Q (nx, ls, st, Mm sz sl K L (mI (UA A a ji v)) (rI P))) : wpE C ev Q (pc, ls, .int (iz v) :: .ref a :: st, Mm sz sl K L (mI A) (rI P)) := p_puti hc hk (by
  have e : U (mI A) a j (iz v) = mI (UA A a ji v) := by rw [← mI_U (by omega)]; congr 1; omega
  rw [mm_xpi, e]) h
theorem g_putb {a c j : Nat} {ji v : Int} (hc : C pc ls (.int (iz v) :: .ref a :: st) (Mm sz sl K L (mI A) (rI P)) = oPutb c j nx ls (.int (iz v) :: .ref a :: st) (Mm sz sl K L (mI A) (rI P))) (hk : K a = c + 1) (hj : (j : Int) = ji) (hv : v = 0 ∨ v = 1) (h : wpE C ev Q (nx, ls, st, Mm sz sl K L (mI (UA A a ji v)) (rI P))) : wpE C ev Q (pc, ls, .int (iz v) :: .ref a :: st, Mm sz sl K L (mI A) (rI P)) := p_putb hc hk (by rcases hv with rfl | rfl <;> decide) (by
  have e : U (mI A) a j (iz v) = mI (UA A a ji v) := by rw [← mI_U (by omega)]; congr 1; omega
  rw [mm_xpi, e]) h
theorem g_putp {a c j v : Nat} {ji : Int} (hc : C pc ls (.ref v :: .ref a :: st) (Mm sz sl K L (mI A) (rI P)) = oPutp c j nx ls (.ref v :: .ref a :: st) (Mm sz sl K L (mI A) (rI P))) (hk : K a = c + 1) (hj : (j : Int) = ji) (hv : ¬ v = 0) (h : wpE C ev Q (nx, ls, st, Mm sz sl K L (mI A) (rI (UP P a ji v)))) : wpE C ev Q (pc, ls, .ref v :: .ref a :: st, Mm sz sl K L (mI A) (rI P)) := p_putp hc hk hv (by
  have e : UR (rI P) a j v = rI (UP P a ji v) := by rw [← rI_U (by omega)]; congr 1; omega
  rw [mm_xpp, e]) h
theorem g_putpN {a c j : Nat} {ji : Int} (hc : C pc ls (.null :: .ref a :: st) (Mm sz sl K L (mI A) (rI P)) = oPutp c j nx ls (.null :: .ref a :: st) (Mm sz sl K L (mI A) (rI P))) (hk : K a = c + 1) (hj : (j : Int) = ji) (h : wpE C ev Q (nx, ls, st, Mm sz sl K L (mI A) (rI (UP P a ji 0)))) : wpE C ev Q (pc, ls, .null :: .ref a :: st, Mm sz sl K L (mI A) (rI P)) := p_putpN hc hk (by
  have e : UR (rI P) a j 0 = rI (UP P a ji 0) := by rw [← rI_U (by omega)]; congr 1; omega
  rw [mm_xpp, e]) h
theorem g_aldi {a k : Nat} {e v : Int} (hc : C pc ls (.int (iz e) :: .ref a :: st) (Mm sz sl K L (mI A) (rI P)) = oAldi k nx ls (.int (iz e) :: .ref a :: st) (Mm sz sl K L (mI A) (rI P))) (hk : K a = k) (hi : 0 ≤ e ∧ e < L a ∧ e ≤ 2147483647) (hv : A a e = v) (h : wpE C ev Q (nx, ls, .int (iz v) :: st, Mm sz sl K L (mI A) (rI P))) : wpE C ev Q (pc, ls, .int (iz e) :: .ref a :: st, Mm sz sl K L (mI A) (rI P)) :=
  p_aldi hc hk (iz_in hi.1 hi.2.1 hi.2.2) (by show iz (A a ((iz e).toNatClampNeg : Int)) = _; rw [iz_nat ⟨by omega, hi.2.2⟩, Int.toNat_of_nonneg hi.1, hv]) h
theorem g_asti {a k : Nat} {e v : Int} {nar : Int32 → Int32} (hc : C pc ls (.int (iz v) :: .int (iz e) :: .ref a :: st) (Mm sz sl K L (mI A) (rI P)) = oAsti k nar nx ls (.int (iz v) :: .int (iz e) :: .ref a :: st) (Mm sz sl K L (mI A) (rI P))) (hk : K a = k) (hi : 0 ≤ e ∧ e < L a ∧ e ≤ 2147483647) (hv : nar (iz v) = iz v) (h : wpE C ev Q (nx, ls, st, Mm sz sl K L (mI (UA A a e v)) (rI P))) : wpE C ev Q (pc, ls, .int (iz v) :: .int (iz e) :: .ref a :: st, Mm sz sl K L (mI A) (rI P)) :=
  p_asti hc hk (iz_in hi.1 hi.2.1 hi.2.2) (by rw [hv, iz_nat ⟨by omega, hi.2.2⟩, mm_xpi, mI_U hi.1]) h
theorem g_aldp {a k : Nat} {e : Int} (hc : C pc ls (.int (iz e) :: .ref a :: st) (Mm sz sl K L (mI A) (rI P)) = oAldp k nx ls (.int (iz e) :: .ref a :: st) (Mm sz sl K L (mI A) (rI P))) (hk : K a = k) (hi : 0 ≤ e ∧ e < L a ∧ e ≤ 2147483647) (h0 : ¬ P a e = 0) (h : wpE C ev Q (nx, ls, .ref (P a e) :: st, Mm sz sl K L (mI A) (rI P))) : wpE C ev Q (pc, ls, .int (iz e) :: .ref a :: st, Mm sz sl K L (mI A) (rI P)) :=
  p_aldp hc hk (iz_in hi.1 hi.2.1 hi.2.2) (by show P a ((iz e).toNatClampNeg : Int) = _; rw [iz_nat ⟨by omega, hi.2.2⟩, Int.toNat_of_nonneg hi.1]) h0 h
theorem g_astp {a k c v : Nat} {e : Int} (hc : C pc ls (.ref v :: .int (iz e) :: .ref a :: st) (Mm sz sl K L (mI A) (rI P)) = oAstp k c nx ls (.ref v :: .int (iz e) :: .ref a :: st) (Mm sz sl K L (mI A) (rI P))) (hk : K a = k) (hi : 0 ≤ e ∧ e < L a ∧ e ≤ 2147483647) (hv : K v = c + 1) (h0 : ¬ v = 0) (h : wpE C ev Q (nx, ls, st, Mm sz sl K L (mI A) (rI (UP P a e v)))) : wpE C ev Q (pc, ls, .ref v :: .int (iz e) :: .ref a :: st, Mm sz sl K L (mI A) (rI P)) :=
  p_astp hc hk (iz_in hi.1 hi.2.1 hi.2.2) hv h0 (by rw [iz_nat ⟨by omega, hi.2.2⟩, mm_xpp, rI_U hi.1]) h
theorem g_len {a k : Nat} (hc : C pc ls (.ref a :: st) (Mm sz sl K L (mI A) (rI P)) = oLen k nx ls (.ref a :: st) (Mm sz sl K L (mI A) (rI P))) (hk : K a = k) (h : wpE C ev Q (nx, ls, .int (iz (L a)) :: st, Mm sz sl K L (mI A) (rI P))) : wpE C ev Q (pc, ls, .ref a :: st, Mm sz sl K L (mI A) (rI P)) := p_len hc hk rfl (by rw [iz_n]; exact h)
theorem g_newa {k : Nat} {e : Int} (hc : C pc ls (.int (iz e) :: st) (Mm sz sl K L (mI A) (rI P)) = oNewa k nx ls (.int (iz e) :: st) (Mm sz sl K L (mI A) (rI P))) (hi : 0 ≤ e ∧ e ≤ 100000) (h : wpE C ev Q (nx, ls, .ref sz :: st, Mm (sz + 1) (sl + e.toNat) (va_up K sz k) (va_up L sz e.toNat) (mI (ZA A sz)) (rI (ZP P sz)))) : wpE C ev Q (pc, ls, .int (iz e) :: st, Mm sz sl K L (mI A) (rI P)) :=
  p_newa hc (by rw [c_lt0 ⟨by omega, by omega⟩]; omega) (iz_nat ⟨by omega, by omega⟩) (by omega) (by rw [mm_new, mI_Z, rI_Z]) h
theorem g_new {c N : Nat} (hc : C pc ls st (Mm sz sl K L (mI A) (rI P)) = oNew c N nx ls st (Mm sz sl K L (mI A) (rI P))) (h : wpE C ev Q (nx, ls, .ref sz :: st, Mm (sz + 1) (sl + N) (va_up K sz (c + 1)) (va_up L sz N) (mI (ZA A sz)) (rI (ZP P sz)))) : wpE C ev Q (pc, ls, st, Mm sz sl K L (mI A) (rI P)) := p_new hc (by rw [mm_new, mI_Z, rI_Z]) h
theorem g_gref {j : Nat} {ji : Int} (hc : C pc ls st (Mm sz sl K L (mI A) (rI P)) = oGref j nx ls st (Mm sz sl K L (mI A) (rI P))) (hj : (j : Int) = ji) (h0 : ¬ P 0 ji = 0) (h : wpE C ev Q (nx, ls, .ref (P 0 ji - 1) :: st, Mm sz sl K L (mI A) (rI P))) : wpE C ev Q (pc, ls, st, Mm sz sl K L (mI A) (rI P)) := p_gref hc (v := P 0 ji - 1) (by show P 0 (j : Int) = _; rw [hj]; omega) h
theorem g_getSv {a : Nat} (hc : C pc ls (.ref a :: st) (Mm sz sl K L (mI A) (rI P)) = oGetSv nx ls (.ref a :: st) (Mm sz sl K L (mI A) (rI P))) (hk : K a = 41 ∨ K a = 43) (h : wpE C ev Q (nx, ls, .ref (P a 30) :: st, Mm sz sl K L (mI A) (rI P))) : wpE C ev Q (pc, ls, .ref a :: st, Mm sz sl K L (mI A) (rI P)) := p_getSv hc hk rfl h
theorem g_getSc {a : Nat} (hc : C pc ls (.ref a :: st) (Mm sz sl K L (mI A) (rI P)) = oGetSc nx ls (.ref a :: st) (Mm sz sl K L (mI A) (rI P))) (hk : K a = 41 ∨ K a = 43) (h : wpE C ev Q (nx, ls, .int (iz 0) :: st, Mm sz sl K L (mI A) (rI P))) : wpE C ev Q (pc, ls, .ref a :: st, Mm sz sl K L (mI A) (rI P)) := p_getSc hc hk h
theorem g_aldB {a : Nat} {e : Int} (hc : C pc ls (.int (iz e) :: .ref a :: st) (Mm sz sl K L (mI A) (rI P)) = oAldB nx ls (.int (iz e) :: .ref a :: st) (Mm sz sl K L (mI A) (rI P))) (hk : K a = 42 ∨ K a = 43) (hi : 0 ≤ e ∧ e < L a ∧ e ≤ 2147483647) (h : wpE C ev Q (nx, ls, .int (iz (A a e)) :: st, Mm sz sl K L (mI A) (rI P))) : wpE C ev Q (pc, ls, .int (iz e) :: .ref a :: st, Mm sz sl K L (mI A) (rI P)) := p_aldB hc hk (iz_in hi.1 hi.2.1 hi.2.2) (by show iz (A a ((iz e).toNatClampNeg : Int)) = _; rw [iz_nat ⟨by omega, hi.2.2⟩, Int.toNat_of_nonneg hi.1]) h
theorem g_lenB {a : Nat} (hc : C pc ls (.ref a :: st) (Mm sz sl K L (mI A) (rI P)) = oLenB nx ls (.ref a :: st) (Mm sz sl K L (mI A) (rI P))) (hk : K a = 42 ∨ K a = 43) (h : wpE C ev Q (nx, ls, .int (iz (L a)) :: st, Mm sz sl K L (mI A) (rI P))) : wpE C ev Q (pc, ls, .ref a :: st, Mm sz sl K L (mI A) (rI P)) := p_lenB hc hk rfl (by rw [iz_n]; exact h)
theorem g_copy {a b : Nat} {sp dp n : Int} (hc : C pc ls (.int (iz n) :: .int (iz dp) :: .ref a :: .int (iz sp) :: .ref b :: st) (Mm sz sl K L (mI A) (rI P)) = oCopy nx ls (.int (iz n) :: .int (iz dp) :: .ref a :: .int (iz sp) :: .ref b :: st) (Mm sz sl K L (mI A) (rI P))) (h1 : K a = 20) (h2 : K b = 20) (h3 : 0 ≤ sp ∧ 0 ≤ dp ∧ 0 ≤ n ∧ sp + n ≤ L b ∧ dp + n ≤ L a ∧ sp + n ≤ 2147483647 ∧ dp + n ≤ 2147483647) (h8 : csum st ≤ 8) (h : wpE C ev Q (nx, ls, st, Mm sz sl K L (mI (CA A b a sp dp n)) (rI P))) : wpE C ev Q (pc, ls, .int (iz n) :: .int (iz dp) :: .ref a :: .int (iz sp) :: .ref b :: st, Mm sz sl K L (mI A) (rI P)) := by
  have r1 : Rg sp := ⟨by omega, by omega⟩
  have r2 : Rg dp := ⟨by omega, by omega⟩
  have r3 : Rg n := ⟨by omega, by omega⟩
  refine p_copy hc h1 h2 (by rw [c_lt0 r1]; omega) (by rw [c_lt0 r2]; omega) (by rw [c_lt0 r3]; omega) (by rw [iz_nat r1, iz_nat r3]; omega) (by rw [iz_nat r2, iz_nat r3]; omega) h8 ?_
  rw [iz_nat r1, iz_nat r2, iz_nat r3, mI_C h3.1 h3.2.1 h3.2.2.1]
  exact h
theorem g_clone {a : Nat} (hc : C pc ls (.ref a :: st) (Mm sz sl K L (mI A) (rI P)) = oClone nx ls (.ref a :: st) (Mm sz sl K L (mI A) (rI P))) (hk : K a = 20) (hs : csum st ≤ 8) (h : wpE C ev Q (nx, ls, .ref sz :: st, Mm (sz + 1) (sl + L a) (va_up K sz 20) (va_up L sz (L a)) (mI (va_up A sz (A a))) (rI (ZP P sz)))) : wpE C ev Q (pc, ls, .ref a :: st, Mm sz sl K L (mI A) (rI P)) := p_clone hc hk hs (by rw [mI_V, rI_Z]; exact h)
end IG
theorem bI_01 {c : Prop} [Decidable c] : bI c = 0 ∨ bI c = 1 := by have := bI_r (c := c); omega
theorem tdiv_pos {x y : Int} (hx : 0 ≤ x) : x.tdiv y = x / y := Int.tdiv_eq_ediv_of_nonneg hx
theorem tmod_pos {x y : Int} (hx : 0 ≤ x) : x.tmod y = x % y := Int.tmod_eq_emod_of_nonneg hx
theorem rg_tdiv {x y : Int} (hx : Rg x) (hy : 0 < y) : Rg (x.tdiv y) := by
  have h1 : (x.tdiv y).natAbs ≤ x.natAbs := by rw [Int.natAbs_tdiv]; exact Nat.div_le_self _ _
  by_cases h : 0 ≤ x
  · have := Int.tdiv_nonneg h (Int.le_of_lt hy); constructor <;> omega
  · have h2 : (-x).tdiv y = -(x.tdiv y) := Int.neg_tdiv ..
    have := Int.tdiv_nonneg (show 0 ≤ -x by omega) (Int.le_of_lt hy); constructor <;> omega
theorem rg_tmod {x y : Int} (hx : Rg x) (hy : 0 < y) : Rg (x.tmod y) := by
  have h1 : (x.tmod y).natAbs ≤ x.natAbs := by rw [Int.natAbs_tmod]; exact Nat.mod_le _ _
  by_cases h : 0 ≤ x
  · have := Int.tmod_nonneg y h; constructor <;> omega
  · have h2 : (-x).tmod y = -(x.tmod y) := Int.neg_tmod ..
    have := Int.tmod_nonneg y (show 0 ≤ -x by omega); constructor <;> omega
section IH
variable {C : Nat → xI} {ev : xV} {Q : Option Value → xM → Prop} {pc nx : Nat} {ls : xL} {st : List Value} {σ : xM}
theorem i_ifB {c : Prop} [Decidable c] {t : Nat} (hc : C pc ls (.int (iz (bI c)) :: st) σ = oIf (fun x => x = 0) t nx ls (.int (iz (bI c)) :: st) σ) (h1 : ¬ c → wpE C ev Q (t, ls, st, σ)) (h2 : c → wpE C ev Q (nx, ls, st, σ)) : wpE C ev Q (pc, ls, .int (iz (bI c)) :: st, σ) := p_if hc (fun q => h1 (iz_bI0.mp q)) (fun q => h2 (Classical.not_not.mp fun q' => q (iz_bI0.mpr q')))
variable {sz sl : Nat} {K L : Nat → Nat} {A : Nat → Int → Int} {P : Nat → Int → Nat}
theorem g_getp1 {a c j : Nat} {ji : Int} (hc : C pc ls (.ref a :: st) (Mm sz sl K L (mI A) (rI P)) = oGetz c j nx ls (.ref a :: st) (Mm sz sl K L (mI A) (rI P))) (hk : K a = c + 1) (hj : (j : Int) = ji) (h0 : ¬ P a ji = 0) (h : wpE C ev Q (nx, ls, .ref (P a ji) :: st, Mm sz sl K L (mI A) (rI P))) : wpE C ev Q (pc, ls, .ref a :: st, Mm sz sl K L (mI A) (rI P)) := g_getz hc hk hj (fun q => absurd q h0) (fun _ => h)
theorem g_getzN {a c j : Nat} {ji : Int} (hc : C pc ls (.ref a :: st) (Mm sz sl K L (mI A) (rI P)) = oGetz c j nx ls (.ref a :: st) (Mm sz sl K L (mI A) (rI P))) (hk : K a = c + 1) (hj : (j : Int) = ji) (h0 : P a ji = 0) (h : wpE C ev Q (nx, ls, .null :: st, Mm sz sl K L (mI A) (rI P))) : wpE C ev Q (pc, ls, .ref a :: st, Mm sz sl K L (mI A) (rI P)) := g_getz hc hk hj (fun _ => h) (fun q => absurd h0 q)
theorem nul_c {c : Prop} [Decidable c] {d i a : Nat} {as : List Value} {σ σ' : xM} {G : Prop} (h : xev xT d i as σ (some (if c then .null else .ref a)) σ') (h1 : c → xev xT d i as σ (some .null) σ' → G) (h2 : ¬ c → xev xT d i as σ (some (.ref a)) σ' → G) : G := by
  by_cases q : c
  · exact h1 q (by rw [if_pos q] at h; exact h)
  · exact h2 q (by rw [if_neg q] at h; exact h)
end IH
