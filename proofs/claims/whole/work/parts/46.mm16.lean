def skp (P : Int → Bool) (t : Int → Int) (n : Int) : Nat → Int → Int
  | 0, p => p
  | f + 1, p => if p < n ∧ P (t p) = true then skp P t n f (p + 1) else p
theorem skp_b {P : Int → Bool} {t : Int → Int} {n : Int} : ∀ (f : Nat) (p : Int), p ≤ n → p ≤ skp P t n f p ∧ skp P t n f p ≤ n
  | 0, p, h => ⟨Int.le_refl p, h⟩
  | f + 1, p, h => by
    unfold skp
    split
    · have := skp_b (P := P) (t := t) (n := n) f (p + 1) (by omega); omega
    · omega
/-- one more step of fuel changes nothing, where it suffices -/
theorem skp_f {P : Int → Bool} {t : Int → Int} {n : Int} : ∀ (f : Nat) (p : Int), n - p ≤ f → skp P t n (f + 1) p = skp P t n f p
  | 0, p, h => by unfold skp; rw [if_neg (by omega)]
  | f + 1, p, h => by
    have := skp_f (P := P) (t := t) (n := n) f (p + 1) (by omega)
    unfold skp
    split
    · exact this
    · rfl
def isBl (c : Int) : Bool := decide (c = 32 ∨ c = 10)
def isLe (c : Int) : Bool := decide (97 ≤ c ∧ c ≤ 122)
def isDi (c : Int) : Bool := decide (48 ≤ c ∧ c ≤ 57)
abbrev isSg (c : Int) : Prop := c = 40 ∨ c = 41 ∨ c = 59 ∨ c = 43 ∨ c = 45 ∨ c = 42 ∨ c = 60 ∨ c = 61
def skf (P : Int → Bool) (t : Int → Int) (n p : Int) : Int := skp P t n (n - p).toNat p
theorem skf_s {P : Int → Bool} {t : Int → Int} {n p : Int} (h : p < n) : skf P t n p = if P (t p) = true then skf P t n (p + 1) else p := by
  unfold skf
  rw [show (n - p).toNat = (n - (p + 1)).toNat + 1 by omega]
  show (if p < n ∧ P (t p) = true then skp P t n (n - (p + 1)).toNat (p + 1) else p) = _
  by_cases c : P (t p) = true
  · rw [if_pos ⟨h, c⟩, if_pos c]
  · rw [if_neg (fun q => c q.2), if_neg c]
theorem skf_e {P : Int → Bool} {t : Int → Int} {n p : Int} (h : n ≤ p) : skf P t n p = p := by
  unfold skf
  rw [show (n - p).toNat = 0 by omega]; rfl
theorem skf_b {P : Int → Bool} {t : Int → Int} {n p : Int} (h : p ≤ n) : p ≤ skf P t n p ∧ skf P t n p ≤ n := skp_b _ p h
/-- which word: 0 price fit or and not, 5 used pleats hip waist shown style; -1: none -/
def wkT (t : Int → Int) (b e : Int) : Int := if wq t b 13 707748 (e - 1) = true then 5 else if wq t b 13 549619347 (e - 1) = true then 6 else if wq t b 13 8496 (e - 1) = true then 7 else if wq t b 13 24159860 (e - 1) = true then 8 else if wq t b 13 20201198 (e - 1) = true then 9 else if wq t b 13 20604293 (e - 1) = true then 10 else if wq t b 13 17376357 (e - 1) = true then 0 else if wq t b 13 6452 (e - 1) = true then 1 else if wq t b 13 498 (e - 1) = true then 2 else if wq t b 13 1476 (e - 1) = true then 3 else if wq t b 13 14836 (e - 1) = true then 4 else -1
def tkB (t : Int → Int) (n p : Int) : Int := skf isBl t n p
def tkE (t : Int → Int) (n p : Int) : Int := if n ≤ tkB t n p then tkB t n p else if isLe (t (tkB t n p)) = true then skf isLe t n (tkB t n p) else if isDi (t (tkB t n p)) = true then skf isDi t n (tkB t n p) else tkB t n p + 1
def tkC (t : Int → Int) (n p : Int) : Int := if n ≤ tkB t n p then 401 else if isLe (t (tkB t n p)) = true then (if wkT t (tkB t n p) (tkE t n p) = -1 then 402 else 200 + wkT t (tkB t n p) (tkE t n p)) else if isDi (t (tkB t n p)) = true then (if tkE t n p - tkB t n p ≤ 4 then 400 else 402) else if isSg (t (tkB t n p)) then t (tkB t n p) else 402
def tkV (t : Int → Int) (n p : Int) : Int := dv t (tkB t n p) (min 4 (tkE t n p - tkB t n p)).toNat
def mTok (c : Int) : Int := if c = 400 then 1 else if 205 ≤ c ∧ c ≤ 210 then 2 else if 200 ≤ c ∧ c ≤ 204 then 3 else if c = 401 then 0 else if c = 402 then 5 else 4
def mVal (c v : Int) : Int := if c = 400 then v else if 205 ≤ c then c - 205 else if 200 ≤ c then c - 200 else c
theorem wkT_b {t : Int → Int} {b e : Int} : -1 ≤ wkT t b e ∧ wkT t b e ≤ 10 := by
  unfold wkT; (repeat' split) <;> omega
theorem V174_0 {d : Nat} (hd : 1 ≤ d) {Q : Option Value → xM → Prop} {m : Nat} {Φ : (Nat → Nat → Int32) → xM} (hΦ : MLaw m Φ) {A : Nat → Int → Int} (hR : RG A) (h : ((((A 0 1) ≤ (A 0 46)) → wpE (xT 174) (xev xT d) Q (40, [(0, .ref m)], [], Φ (mI A))) ∧ (¬ ((A 0 1) ≤ (A 0 46)) → (0 ≤ (A 0 46) ∧ (A 0 46) < 160) ∧ ((¬ (97 ≤ (A 1 (A 0 46)) ∧ (A 1 (A 0 46)) ≤ 122) → wpE (xT 174) (xev xT d) Q (40, [(0, .ref m)], [], Φ (mI A))) ∧ ((97 ≤ (A 1 (A 0 46)) ∧ (A 1 (A 0 46)) ≤ 122) → (Rg ((A 0 46) + 1)) ∧ wpE (xT 174) (xev xT d) Q (0, [(0, .ref m)], [], Φ (mI (UA A 0 46 ((A 0 46) + 1))))))))) : wpE (xT 174) (xev xT d) Q (0, [(0, .ref m)], [], Φ (mI A)) := by
  refine p_ald (cct c174_0 rfl) rfl ?_
  refine n_geti hΦ (v := A 0 46) (cc3 c174_1) (ji := 46) rfl rfl ?_
  refine p_ald (cc3 c174_4) rfl ?_
  refine n_geti hΦ (v := A 0 1) (cc3 c174_5) (ji := 1) rfl rfl ?_
  refine i_icmp (c' := (A 0 1) ≤ (A 0 46)) (cc3 c174_8) (iz_le (hR 0 1) (hR 0 46)) (fun c => ?_) (fun c => ?_)
  · have h := h.1 c
    exact h
  · have h := h.2 c
    refine p_ald (cc3 c174_11) rfl ?_
    refine p_ald (cc3 c174_12) rfl ?_
    refine pm_getp hΦ (cc3 c174_13) (c := 1) rfl (by decide) ?_
    refine p_ald (cc3 c174_16) rfl ?_
    refine n_geti hΦ (v := A 0 46) (cc3 c174_17) (ji := 46) rfl rfl ?_
    obtain ⟨g1, h⟩ := h
    refine n_aldi hΦ (c := 1) (n := 160) (ni := 160) (cc3 c174_20) (by decide) rfl rfl rfl (by decide) g1 (v := A 1 (A 0 46)) rfl ?_
    refine p_callV (cc3 c174_21) (Nat.le_of_ble_eq_true rfl) rfl rfl (Nat.le_of_ble_eq_true rfl) (ml_kd hΦ) (S173 (Nat.le_trans (by decide) hd) hΦ hR (hR 1 (A 0 46))) ?_
    refine i_ifB (cc3 c174_24) (fun c => ?_) (fun c => ?_)
    · have h := h.1 c
      exact h
    · have h := h.2 c
      refine p_ald (cc3 c174_27) rfl ?_
      refine p_dup (cc3 c174_28) rfl ?_
      refine n_geti hΦ (v := A 0 46) (cc3 c174_29) (ji := 46) rfl rfl ?_
      refine i_push (n := 1) (cc3 c174_32) zl_1 ?_
      obtain ⟨g2, h⟩ := h
      refine (fun _ : Rg ((A 0 46) + 1) => i_add (cc3 c174_33) ?_) g2
      refine (fun _ : Rg ((A 0 46) + 1) => n_puti hΦ (cc3 c174_34) (ji := 46) rfl ?_) g2
      refine p_goto (cc3 c174_37) ?_
      exact h
theorem V174_40 {d : Nat} (hd : 1 ≤ d) {Q : Option Value → xM → Prop} {m : Nat} {Φ : (Nat → Nat → Int32) → xM} (hΦ : MLaw m Φ) {A : Nat → Int → Int} (hR : RG A) (h : (0 ≤ Int64.toInt ((707748))) ∧ (TapeB (A 1)) ∧ (0 ≤ A 0 49) ∧ (A 0 49 ≤ A 0 46) ∧ (A 0 46 ≤ 160) ∧ ((¬ (m_isW A (707748) = true) → (0 ≤ Int64.toInt ((549619347))) ∧ ((¬ (m_isW A (549619347) = true) → (0 ≤ Int64.toInt ((8496))) ∧ ((¬ (m_isW A (8496) = true) → (0 ≤ Int64.toInt ((24159860))) ∧ ((¬ (m_isW A (24159860) = true) → (0 ≤ Int64.toInt ((20201198))) ∧ ((¬ (m_isW A (20201198) = true) → (0 ≤ Int64.toInt ((20604293))) ∧ ((¬ (m_isW A (20604293) = true) → (0 ≤ Int64.toInt ((17376357))) ∧ ((¬ (m_isW A (17376357) = true) → (0 ≤ Int64.toInt ((6452))) ∧ ((¬ (m_isW A (6452) = true) → (0 ≤ Int64.toInt ((498))) ∧ ((¬ (m_isW A (498) = true) → (0 ≤ Int64.toInt ((1476))) ∧ ((¬ (m_isW A (1476) = true) → (0 ≤ Int64.toInt ((14836))) ∧ ((¬ (m_isW A (14836) = true) → Q none (Φ (mI (UA (UA (UA (UA (UA A 0 47 2) 0 48 (-1)) 0 47 3) 0 48 (-1)) 0 47 5)))) ∧ ((m_isW A (14836) = true) → Q none (Φ (mI (UA (UA (UA (UA A 0 47 2) 0 48 (-1)) 0 47 3) 0 48 4)))))) ∧ ((m_isW A (1476) = true) → Q none (Φ (mI (UA (UA (UA (UA A 0 47 2) 0 48 (-1)) 0 47 3) 0 48 3)))))) ∧ ((m_isW A (498) = true) → Q none (Φ (mI (UA (UA (UA (UA A 0 47 2) 0 48 (-1)) 0 47 3) 0 48 2)))))) ∧ ((m_isW A (6452) = true) → Q none (Φ (mI (UA (UA (UA (UA A 0 47 2) 0 48 (-1)) 0 47 3) 0 48 1)))))) ∧ ((m_isW A (17376357) = true) → Q none (Φ (mI (UA (UA (UA (UA A 0 47 2) 0 48 (-1)) 0 47 3) 0 48 0)))))) ∧ ((m_isW A (20604293) = true) → Q none (Φ (mI (UA (UA A 0 47 2) 0 48 5)))))) ∧ ((m_isW A (20201198) = true) → Q none (Φ (mI (UA (UA A 0 47 2) 0 48 4)))))) ∧ ((m_isW A (24159860) = true) → Q none (Φ (mI (UA (UA A 0 47 2) 0 48 3)))))) ∧ ((m_isW A (8496) = true) → Q none (Φ (mI (UA (UA A 0 47 2) 0 48 2)))))) ∧ ((m_isW A (549619347) = true) → Q none (Φ (mI (UA (UA A 0 47 2) 0 48 1)))))) ∧ ((m_isW A (707748) = true) → Q none (Φ (mI (UA (UA A 0 47 2) 0 48 0)))))) : wpE (xT 174) (xev xT d) Q (40, [(0, .ref m)], [], Φ (mI A)) := by
  refine p_ald (cct c174_40 rfl) rfl ?_
  refine i_push (n := 2) (cc3 c174_41) zl_2 ?_
  refine (fun _ : Rg 2 => n_puti hΦ (cc3 c174_42) (ji := 47) rfl ?_) (by decide)
  refine p_ald (cc3 c174_45) rfl ?_
  refine p_ald (cc3 c174_46) rfl ?_
  refine p_push (cc3 c174_47) ?_
  obtain ⟨g1, h⟩ := h
  obtain ⟨g2, h⟩ := h
  obtain ⟨g3, h⟩ := h
  obtain ⟨g4, h⟩ := h
  obtain ⟨g5, h⟩ := h
  refine p_callV (cc3 c174_50) (Nat.le_of_ble_eq_true rfl) rfl rfl (Nat.le_of_ble_eq_true rfl) (ml_kd hΦ) (S175 (Nat.le_trans (by decide) hd) hΦ (rg_UA hR (by decide)) ⟨g1, g2, g3, g4, g5⟩) ?_
  refine i_ifB (cc3 c174_53) (fun c => ?_) (fun c => ?_)
  · have h := h.1 c
    refine p_ald (cc3 c174_60) rfl ?_
    refine p_push (cc3 c174_61) ?_
    obtain ⟨g6, h⟩ := h
    refine p_callV (cc3 c174_64) (Nat.le_of_ble_eq_true rfl) rfl rfl (Nat.le_of_ble_eq_true rfl) (ml_kd hΦ) (S175 (Nat.le_trans (by decide) hd) hΦ (rg_UA hR (by decide)) ⟨g6, g2, g3, g4, g5⟩) ?_
    refine i_ifB (cc3 c174_67) (fun c => ?_) (fun c => ?_)
    · have h := h.1 c
      refine p_ald (cc3 c174_74) rfl ?_
      refine p_push (cc3 c174_75) ?_
      obtain ⟨g7, h⟩ := h
      refine p_callV (cc3 c174_78) (Nat.le_of_ble_eq_true rfl) rfl rfl (Nat.le_of_ble_eq_true rfl) (ml_kd hΦ) (S175 (Nat.le_trans (by decide) hd) hΦ (rg_UA hR (by decide)) ⟨g7, g2, g3, g4, g5⟩) ?_
      refine i_ifB (cc3 c174_81) (fun c => ?_) (fun c => ?_)
      · have h := h.1 c
        refine p_ald (cc3 c174_88) rfl ?_
        refine p_push (cc3 c174_89) ?_
        obtain ⟨g8, h⟩ := h
        refine p_callV (cc3 c174_92) (Nat.le_of_ble_eq_true rfl) rfl rfl (Nat.le_of_ble_eq_true rfl) (ml_kd hΦ) (S175 (Nat.le_trans (by decide) hd) hΦ (rg_UA hR (by decide)) ⟨g8, g2, g3, g4, g5⟩) ?_
        refine i_ifB (cc3 c174_95) (fun c => ?_) (fun c => ?_)
        · have h := h.1 c
          refine p_ald (cc3 c174_102) rfl ?_
          refine p_push (cc3 c174_103) ?_
          obtain ⟨g9, h⟩ := h
          refine p_callV (cc3 c174_106) (Nat.le_of_ble_eq_true rfl) rfl rfl (Nat.le_of_ble_eq_true rfl) (ml_kd hΦ) (S175 (Nat.le_trans (by decide) hd) hΦ (rg_UA hR (by decide)) ⟨g9, g2, g3, g4, g5⟩) ?_
          refine i_ifB (cc3 c174_109) (fun c => ?_) (fun c => ?_)
          · have h := h.1 c
            refine p_ald (cc3 c174_116) rfl ?_
            refine p_push (cc3 c174_117) ?_
            obtain ⟨g10, h⟩ := h
            refine p_callV (cc3 c174_120) (Nat.le_of_ble_eq_true rfl) rfl rfl (Nat.le_of_ble_eq_true rfl) (ml_kd hΦ) (S175 (Nat.le_trans (by decide) hd) hΦ (rg_UA hR (by decide)) ⟨g10, g2, g3, g4, g5⟩) ?_
            refine i_ifB (cc3 c174_123) (fun c => ?_) (fun c => ?_)
            · have h := h.1 c
              refine i_push (n := (-1)) (cc3 c174_130) zl_m1 ?_
              refine (fun _ : Rg (-1) => n_puti hΦ (cct c174_131 rfl) (ji := 48) rfl ?_) (by decide)
              refine p_ald (cc3 c174_134) rfl ?_
              refine n_geti hΦ (v := (-1)) (cc3 c174_135) (ji := 48) rfl rfl ?_
              refine i_if (c' := (-1 : Int) < 0) (cc3 c174_138) (c_lt0 (by decide)) (fun c => ?_) (fun c => ?_)
              · skip
                refine p_ald (cc3 c174_142) rfl ?_
                refine i_push (n := 3) (cc3 c174_143) zl_3 ?_
                refine (fun _ : Rg 3 => n_puti hΦ (cc3 c174_144) (ji := 47) rfl ?_) (by decide)
                refine p_ald (cc3 c174_147) rfl ?_
                refine p_ald (cc3 c174_148) rfl ?_
                refine p_push (cc3 c174_149) ?_
                obtain ⟨g11, h⟩ := h
                refine p_callV (cc3 c174_152) (Nat.le_of_ble_eq_true rfl) rfl rfl (Nat.le_of_ble_eq_true rfl) (ml_kd hΦ) (S175 (Nat.le_trans (by decide) hd) hΦ (rg_UA (rg_UA (rg_UA hR (by decide)) (by decide)) (by decide)) ⟨g11, g2, g3, g4, g5⟩) ?_
                refine i_ifB (cc3 c174_155) (fun c => ?_) (fun c => ?_)
                · have h := h.1 c
                  refine p_ald (cc3 c174_162) rfl ?_
                  refine p_push (cc3 c174_163) ?_
                  obtain ⟨g12, h⟩ := h
                  refine p_callV (cc3 c174_166) (Nat.le_of_ble_eq_true rfl) rfl rfl (Nat.le_of_ble_eq_true rfl) (ml_kd hΦ) (S175 (Nat.le_trans (by decide) hd) hΦ (rg_UA (rg_UA (rg_UA hR (by decide)) (by decide)) (by decide)) ⟨g12, g2, g3, g4, g5⟩) ?_
                  refine i_ifB (cc3 c174_169) (fun c => ?_) (fun c => ?_)
                  · have h := h.1 c
                    refine p_ald (cc3 c174_176) rfl ?_
                    refine p_push (cc3 c174_177) ?_
                    obtain ⟨g13, h⟩ := h
                    refine p_callV (cc3 c174_180) (Nat.le_of_ble_eq_true rfl) rfl rfl (Nat.le_of_ble_eq_true rfl) (ml_kd hΦ) (S175 (Nat.le_trans (by decide) hd) hΦ (rg_UA (rg_UA (rg_UA hR (by decide)) (by decide)) (by decide)) ⟨g13, g2, g3, g4, g5⟩) ?_
                    refine i_ifB (cc3 c174_183) (fun c => ?_) (fun c => ?_)
                    · have h := h.1 c
                      refine p_ald (cc3 c174_190) rfl ?_
                      refine p_push (cc3 c174_191) ?_
                      obtain ⟨g14, h⟩ := h
                      refine p_callV (cc3 c174_194) (Nat.le_of_ble_eq_true rfl) rfl rfl (Nat.le_of_ble_eq_true rfl) (ml_kd hΦ) (S175 (Nat.le_trans (by decide) hd) hΦ (rg_UA (rg_UA (rg_UA hR (by decide)) (by decide)) (by decide)) ⟨g14, g2, g3, g4, g5⟩) ?_
                      refine i_ifB (cc3 c174_197) (fun c => ?_) (fun c => ?_)
                      · have h := h.1 c
                        refine p_ald (cc3 c174_204) rfl ?_
                        refine p_push (cc3 c174_205) ?_
                        obtain ⟨g15, h⟩ := h
                        refine p_callV (cc3 c174_208) (Nat.le_of_ble_eq_true rfl) rfl rfl (Nat.le_of_ble_eq_true rfl) (ml_kd hΦ) (S175 (Nat.le_trans (by decide) hd) hΦ (rg_UA (rg_UA (rg_UA hR (by decide)) (by decide)) (by decide)) ⟨g15, g2, g3, g4, g5⟩) ?_
                        refine i_ifB (cc3 c174_211) (fun c => ?_) (fun c => ?_)
                        · have h := h.1 c
                          refine i_push (n := (-1)) (cc3 c174_218) zl_m1 ?_
                          refine (fun _ : Rg (-1) => n_puti hΦ (cct c174_219 rfl) (ji := 48) rfl ?_) (by decide)
                          refine p_ald (cc3 c174_222) rfl ?_
                          refine n_geti hΦ (v := (-1)) (cc3 c174_223) (ji := 48) rfl rfl ?_
                          refine i_if (c' := 0 ≤ (-1 : Int)) (cc3 c174_226) (c_ge0 (by decide)) (fun c => ?_) (fun c => ?_)
                          · exact absurd c (by decide)
                          · skip
                            refine p_ald (cc3 c174_229) rfl ?_
                            refine i_push (n := 5) (cc3 c174_230) zl_5 ?_
                            refine (fun _ : Rg 5 => n_puti hΦ (cc3 c174_231) (ji := 47) rfl ?_) (by decide)
                            refine p_lc (ls' := []) c174_234 rfl rfl ?_
                            exact p_rv (cct c174_234 rfl) h
                        · have h := h.2 c
                          refine i_push (n := 4) (cc3 c174_214) zl_4 ?_
                          refine p_goto (cc3 c174_215) ?_
                          refine (fun _ : Rg 4 => n_puti hΦ (cct c174_219 rfl) (ji := 48) rfl ?_) (by decide)
                          refine p_ald (cc3 c174_222) rfl ?_
                          refine n_geti hΦ (v := 4) (cc3 c174_223) (ji := 48) rfl rfl ?_
                          refine i_if (c' := 0 ≤ (4 : Int)) (cc3 c174_226) (c_ge0 (by decide)) (fun c => ?_) (fun c => ?_)
                          · skip
                            refine p_lc (ls' := []) c174_234 rfl rfl ?_
                            exact p_rv (cct c174_234 rfl) h
                          · exact absurd (by decide) c
                      · have h := h.2 c
                        refine i_push (n := 3) (cc3 c174_200) zl_3 ?_
                        refine p_goto (cc3 c174_201) ?_
                        refine (fun _ : Rg 3 => n_puti hΦ (cct c174_219 rfl) (ji := 48) rfl ?_) (by decide)
                        refine p_ald (cc3 c174_222) rfl ?_
                        refine n_geti hΦ (v := 3) (cc3 c174_223) (ji := 48) rfl rfl ?_
                        refine i_if (c' := 0 ≤ (3 : Int)) (cc3 c174_226) (c_ge0 (by decide)) (fun c => ?_) (fun c => ?_)
                        · skip
                          refine p_lc (ls' := []) c174_234 rfl rfl ?_
                          exact p_rv (cct c174_234 rfl) h
                        · exact absurd (by decide) c
                    · have h := h.2 c
                      refine i_push (n := 2) (cc3 c174_186) zl_2 ?_
                      refine p_goto (cc3 c174_187) ?_
                      refine (fun _ : Rg 2 => n_puti hΦ (cct c174_219 rfl) (ji := 48) rfl ?_) (by decide)
                      refine p_ald (cc3 c174_222) rfl ?_
                      refine n_geti hΦ (v := 2) (cc3 c174_223) (ji := 48) rfl rfl ?_
                      refine i_if (c' := 0 ≤ (2 : Int)) (cc3 c174_226) (c_ge0 (by decide)) (fun c => ?_) (fun c => ?_)
                      · skip
                        refine p_lc (ls' := []) c174_234 rfl rfl ?_
                        exact p_rv (cct c174_234 rfl) h
                      · exact absurd (by decide) c
                  · have h := h.2 c
                    refine i_push (n := 1) (cc3 c174_172) zl_1 ?_
                    refine p_goto (cc3 c174_173) ?_
                    refine (fun _ : Rg 1 => n_puti hΦ (cct c174_219 rfl) (ji := 48) rfl ?_) (by decide)
                    refine p_ald (cc3 c174_222) rfl ?_
                    refine n_geti hΦ (v := 1) (cc3 c174_223) (ji := 48) rfl rfl ?_
                    refine i_if (c' := 0 ≤ (1 : Int)) (cc3 c174_226) (c_ge0 (by decide)) (fun c => ?_) (fun c => ?_)
                    · skip
                      refine p_lc (ls' := []) c174_234 rfl rfl ?_
                      exact p_rv (cct c174_234 rfl) h
                    · exact absurd (by decide) c
                · have h := h.2 c
                  refine i_push (n := 0) (cc3 c174_158) zl_0 ?_
                  refine p_goto (cc3 c174_159) ?_
                  refine (fun _ : Rg 0 => n_puti hΦ (cct c174_219 rfl) (ji := 48) rfl ?_) (by decide)
                  refine p_ald (cc3 c174_222) rfl ?_
                  refine n_geti hΦ (v := 0) (cc3 c174_223) (ji := 48) rfl rfl ?_
                  refine i_if (c' := 0 ≤ (0 : Int)) (cc3 c174_226) (c_ge0 (by decide)) (fun c => ?_) (fun c => ?_)
                  · skip
                    refine p_lc (ls' := []) c174_234 rfl rfl ?_
                    exact p_rv (cct c174_234 rfl) h
                  · exact absurd (by decide) c
              · exact absurd (by decide) c
            · have h := h.2 c
              refine i_push (n := 5) (cc3 c174_126) zl_5 ?_
              refine p_goto (cc3 c174_127) ?_
              refine (fun _ : Rg 5 => n_puti hΦ (cct c174_131 rfl) (ji := 48) rfl ?_) (by decide)
              refine p_ald (cc3 c174_134) rfl ?_
              refine n_geti hΦ (v := 5) (cc3 c174_135) (ji := 48) rfl rfl ?_
              refine i_if (c' := (5 : Int) < 0) (cc3 c174_138) (c_lt0 (by decide)) (fun c => ?_) (fun c => ?_)
              · exact absurd c (by decide)
              · skip
                exact p_rv (cc3 c174_141) h
          · have h := h.2 c
            refine i_push (n := 4) (cc3 c174_112) zl_4 ?_
            refine p_goto (cc3 c174_113) ?_
            refine (fun _ : Rg 4 => n_puti hΦ (cct c174_131 rfl) (ji := 48) rfl ?_) (by decide)
            refine p_ald (cc3 c174_134) rfl ?_
            refine n_geti hΦ (v := 4) (cc3 c174_135) (ji := 48) rfl rfl ?_
            refine i_if (c' := (4 : Int) < 0) (cc3 c174_138) (c_lt0 (by decide)) (fun c => ?_) (fun c => ?_)
            · exact absurd c (by decide)
            · skip
              exact p_rv (cc3 c174_141) h
        · have h := h.2 c
          refine i_push (n := 3) (cc3 c174_98) zl_3 ?_
          refine p_goto (cc3 c174_99) ?_
          refine (fun _ : Rg 3 => n_puti hΦ (cct c174_131 rfl) (ji := 48) rfl ?_) (by decide)
          refine p_ald (cc3 c174_134) rfl ?_
          refine n_geti hΦ (v := 3) (cc3 c174_135) (ji := 48) rfl rfl ?_
          refine i_if (c' := (3 : Int) < 0) (cc3 c174_138) (c_lt0 (by decide)) (fun c => ?_) (fun c => ?_)
          · exact absurd c (by decide)
          · skip
            exact p_rv (cc3 c174_141) h
      · have h := h.2 c
        refine i_push (n := 2) (cc3 c174_84) zl_2 ?_
        refine p_goto (cc3 c174_85) ?_
        refine (fun _ : Rg 2 => n_puti hΦ (cct c174_131 rfl) (ji := 48) rfl ?_) (by decide)
        refine p_ald (cc3 c174_134) rfl ?_
        refine n_geti hΦ (v := 2) (cc3 c174_135) (ji := 48) rfl rfl ?_
        refine i_if (c' := (2 : Int) < 0) (cc3 c174_138) (c_lt0 (by decide)) (fun c => ?_) (fun c => ?_)
        · exact absurd c (by decide)
        · skip
          exact p_rv (cc3 c174_141) h
    · have h := h.2 c
      refine i_push (n := 1) (cc3 c174_70) zl_1 ?_
      refine p_goto (cc3 c174_71) ?_
      refine (fun _ : Rg 1 => n_puti hΦ (cct c174_131 rfl) (ji := 48) rfl ?_) (by decide)
      refine p_ald (cc3 c174_134) rfl ?_
      refine n_geti hΦ (v := 1) (cc3 c174_135) (ji := 48) rfl rfl ?_
      refine i_if (c' := (1 : Int) < 0) (cc3 c174_138) (c_lt0 (by decide)) (fun c => ?_) (fun c => ?_)
      · exact absurd c (by decide)
      · skip
        exact p_rv (cc3 c174_141) h
  · have h := h.2 c
    refine i_push (n := 0) (cc3 c174_56) zl_0 ?_
    refine p_goto (cc3 c174_57) ?_
    refine (fun _ : Rg 0 => n_puti hΦ (cct c174_131 rfl) (ji := 48) rfl ?_) (by decide)
    refine p_ald (cc3 c174_134) rfl ?_
    refine n_geti hΦ (v := 0) (cc3 c174_135) (ji := 48) rfl rfl ?_
    refine i_if (c' := (0 : Int) < 0) (cc3 c174_138) (c_lt0 (by decide)) (fun c => ?_) (fun c => ?_)
    · exact absurd c (by decide)
    · skip
      exact p_rv (cc3 c174_141) h

theorem L174 {d : Nat} (hd : 1 ≤ d) {Q : Option Value → xM → Prop} {m : Nat} {Φ : (Nat → Nat → Int32) → xM} (hΦ : MLaw m Φ) {A0 : Nat → Int → Int} (hT : TapeB (A0 1)) (h0 : 0 ≤ A0 0 49) (hn : A0 0 1 ≤ 160) {E : Int}
    (hQ : ∀ A', RG A' → Fr [] [46, 47, 48] A0 A' → A' 0 46 = E → (wkT (A0 1) (A0 0 49) E = -1 → A' 0 47 = 5) → (5 ≤ wkT (A0 1) (A0 0 49) E → A' 0 47 = 2 ∧ A' 0 48 = wkT (A0 1) (A0 0 49) E - 5) → (0 ≤ wkT (A0 1) (A0 0 49) E → wkT (A0 1) (A0 0 49) E ≤ 4 → A' 0 47 = 3 ∧ A' 0 48 = wkT (A0 1) (A0 0 49) E) → Q none (Φ (mI A'))) :
    ∀ (r : Nat) (A : Nat → Int → Int), A0 0 1 - A 0 46 = r → RG A → Fr [] [46] A0 A → A0 0 49 ≤ A 0 46 → skf isLe (A0 1) (A0 0 1) (A 0 46) = E → wpE (xT 174) (xev xT d) Q (0, [(0, .ref m)], [], Φ (mI A)) := by
  have hend : ∀ A : Nat → Int → Int, RG A → Fr [] [46] A0 A → A 0 46 = E → A0 0 49 ≤ E → E ≤ 160 → wpE (xT 174) (xev xT d) Q (40, [(0, .ref m)], [], Φ (mI A)) := fun A hR hF h46 hE1 hE2 => by
    have e1 : A 1 = A0 1 := hF.1 1 (by decide) (by decide)
    have e49 : A 0 49 = A0 0 49 := hF.2 49 (by decide)
    have hF46 : Fr [] [46, 47, 48] A0 A := hF.mono (fun c h => h) (fun j h => by revert h; simp; omega)
    have hfin : ∀ (A' : Nat → Int → Int), RG A' → Fr [] [46, 47, 48] A0 A' → A' 0 46 = A 0 46 → ∀ {v : Int}, wkT (A0 1) (A0 0 49) (A 0 46) = v → (v = -1 → A' 0 47 = 5) → (5 ≤ v → A' 0 47 = 2 ∧ A' 0 48 = v - 5) → (0 ≤ v → v ≤ 4 → A' 0 47 = 3 ∧ A' 0 48 = v) → Q none (Φ (mI A')) := fun A' hR' hF' q46 v hv q1 q2 q3 => by
      rw [h46] at hv q46
      subst hv
      exact hQ A' hR' hF' q46 q1 q2 q3
    have w0 : m_isW A 707748 = wq (A0 1) (A0 0 49) 13 707748 (A 0 46 - 1) := by unfold m_isW; rw [e1, e49, show (707748 : Int64).toInt.toNat = 707748 by decide]
    have w1 : m_isW A 549619347 = wq (A0 1) (A0 0 49) 13 549619347 (A 0 46 - 1) := by unfold m_isW; rw [e1, e49, show (549619347 : Int64).toInt.toNat = 549619347 by decide]
    have w2 : m_isW A 8496 = wq (A0 1) (A0 0 49) 13 8496 (A 0 46 - 1) := by unfold m_isW; rw [e1, e49, show (8496 : Int64).toInt.toNat = 8496 by decide]
    have w3 : m_isW A 24159860 = wq (A0 1) (A0 0 49) 13 24159860 (A 0 46 - 1) := by unfold m_isW; rw [e1, e49, show (24159860 : Int64).toInt.toNat = 24159860 by decide]
    have w4 : m_isW A 20201198 = wq (A0 1) (A0 0 49) 13 20201198 (A 0 46 - 1) := by unfold m_isW; rw [e1, e49, show (20201198 : Int64).toInt.toNat = 20201198 by decide]
    have w5 : m_isW A 20604293 = wq (A0 1) (A0 0 49) 13 20604293 (A 0 46 - 1) := by unfold m_isW; rw [e1, e49, show (20604293 : Int64).toInt.toNat = 20604293 by decide]
    have w6 : m_isW A 17376357 = wq (A0 1) (A0 0 49) 13 17376357 (A 0 46 - 1) := by unfold m_isW; rw [e1, e49, show (17376357 : Int64).toInt.toNat = 17376357 by decide]
    have w7 : m_isW A 6452 = wq (A0 1) (A0 0 49) 13 6452 (A 0 46 - 1) := by unfold m_isW; rw [e1, e49, show (6452 : Int64).toInt.toNat = 6452 by decide]
    have w8 : m_isW A 498 = wq (A0 1) (A0 0 49) 13 498 (A 0 46 - 1) := by unfold m_isW; rw [e1, e49, show (498 : Int64).toInt.toNat = 498 by decide]
    have w9 : m_isW A 1476 = wq (A0 1) (A0 0 49) 13 1476 (A 0 46 - 1) := by unfold m_isW; rw [e1, e49, show (1476 : Int64).toInt.toNat = 1476 by decide]
    have w10 : m_isW A 14836 = wq (A0 1) (A0 0 49) 13 14836 (A 0 46 - 1) := by unfold m_isW; rw [e1, e49, show (14836 : Int64).toInt.toNat = 14836 by decide]
    refine V174_40 hd hΦ hR ?_
    rw [w0, w1, w2, w3, w4, w5, w6, w7, w8, w9, w10]
    exact ⟨by decide, by rw [e1]; exact hT, by omega, by omega, by omega, ⟨fun n0 => ⟨by decide, ⟨fun n1 => ⟨by decide, ⟨fun n2 => ⟨by decide, ⟨fun n3 => ⟨by decide, ⟨fun n4 => ⟨by decide, ⟨fun n5 => ⟨by decide, ⟨fun n6 => ⟨by decide, ⟨fun n7 => ⟨by decide, ⟨fun n8 => ⟨by decide, ⟨fun n9 => ⟨by decide, ⟨fun n10 => hfin _ (rg_UA (rg_UA (rg_UA (rg_UA (rg_UA hR (by decide)) (by decide)) (by decide)) (by decide)) (by decide)) (((((hF46.fld (by decide)).fld (by decide)).fld (by decide)).fld (by decide)).fld (by decide)) rfl (v := -1) (by unfold wkT; simp [n0, n1, n2, n3, n4, n5, n6, n7, n8, n9, n10]) (fun _ => rfl) (fun q => by omega) (fun q _ => by omega), fun c10 => hfin _ (rg_UA (rg_UA (rg_UA (rg_UA hR (by decide)) (by decide)) (by decide)) (by decide)) ((((hF46.fld (by decide)).fld (by decide)).fld (by decide)).fld (by decide)) rfl (v := 4) (by unfold wkT; simp [n0, n1, n2, n3, n4, n5, n6, n7, n8, n9, c10]) (fun q => by omega) (fun q => by omega) (fun _ _ => ⟨rfl, rfl⟩)⟩⟩, fun c9 => hfin _ (rg_UA (rg_UA (rg_UA (rg_UA hR (by decide)) (by decide)) (by decide)) (by decide)) ((((hF46.fld (by decide)).fld (by decide)).fld (by decide)).fld (by decide)) rfl (v := 3) (by unfold wkT; simp [n0, n1, n2, n3, n4, n5, n6, n7, n8, c9]) (fun q => by omega) (fun q => by omega) (fun _ _ => ⟨rfl, rfl⟩)⟩⟩, fun c8 => hfin _ (rg_UA (rg_UA (rg_UA (rg_UA hR (by decide)) (by decide)) (by decide)) (by decide)) ((((hF46.fld (by decide)).fld (by decide)).fld (by decide)).fld (by decide)) rfl (v := 2) (by unfold wkT; simp [n0, n1, n2, n3, n4, n5, n6, n7, c8]) (fun q => by omega) (fun q => by omega) (fun _ _ => ⟨rfl, rfl⟩)⟩⟩, fun c7 => hfin _ (rg_UA (rg_UA (rg_UA (rg_UA hR (by decide)) (by decide)) (by decide)) (by decide)) ((((hF46.fld (by decide)).fld (by decide)).fld (by decide)).fld (by decide)) rfl (v := 1) (by unfold wkT; simp [n0, n1, n2, n3, n4, n5, n6, c7]) (fun q => by omega) (fun q => by omega) (fun _ _ => ⟨rfl, rfl⟩)⟩⟩, fun c6 => hfin _ (rg_UA (rg_UA (rg_UA (rg_UA hR (by decide)) (by decide)) (by decide)) (by decide)) ((((hF46.fld (by decide)).fld (by decide)).fld (by decide)).fld (by decide)) rfl (v := 0) (by unfold wkT; simp [n0, n1, n2, n3, n4, n5, c6]) (fun q => by omega) (fun q => by omega) (fun _ _ => ⟨rfl, rfl⟩)⟩⟩, fun c5 => hfin _ (rg_UA (rg_UA hR (by decide)) (by decide)) ((hF46.fld (by decide)).fld (by decide)) rfl (v := 10) (by unfold wkT; simp [n0, n1, n2, n3, n4, c5]) (fun q => by omega) (fun _ => ⟨rfl, rfl⟩) (fun _ q => by omega)⟩⟩, fun c4 => hfin _ (rg_UA (rg_UA hR (by decide)) (by decide)) ((hF46.fld (by decide)).fld (by decide)) rfl (v := 9) (by unfold wkT; simp [n0, n1, n2, n3, c4]) (fun q => by omega) (fun _ => ⟨rfl, rfl⟩) (fun _ q => by omega)⟩⟩, fun c3 => hfin _ (rg_UA (rg_UA hR (by decide)) (by decide)) ((hF46.fld (by decide)).fld (by decide)) rfl (v := 8) (by unfold wkT; simp [n0, n1, n2, c3]) (fun q => by omega) (fun _ => ⟨rfl, rfl⟩) (fun _ q => by omega)⟩⟩, fun c2 => hfin _ (rg_UA (rg_UA hR (by decide)) (by decide)) ((hF46.fld (by decide)).fld (by decide)) rfl (v := 7) (by unfold wkT; simp [n0, n1, c2]) (fun q => by omega) (fun _ => ⟨rfl, rfl⟩) (fun _ q => by omega)⟩⟩, fun c1 => hfin _ (rg_UA (rg_UA hR (by decide)) (by decide)) ((hF46.fld (by decide)).fld (by decide)) rfl (v := 6) (by unfold wkT; simp [n0, c1]) (fun q => by omega) (fun _ => ⟨rfl, rfl⟩) (fun _ q => by omega)⟩⟩, fun c0 => hfin _ (rg_UA (rg_UA hR (by decide)) (by decide)) ((hF46.fld (by decide)).fld (by decide)) rfl (v := 5) (by unfold wkT; simp [c0]) (fun q => by omega) (fun _ => ⟨rfl, rfl⟩) (fun _ q => by omega)⟩⟩
  intro r
  induction r with
  | zero =>
    intro A hr hR hF h1 hE
    have e01 : A 0 1 = A0 0 1 := hF.2 1 (by decide)
    rw [skf_e (by omega)] at hE
    refine V174_0 hd hΦ hR ?_
    rw [e01]
    exact ⟨fun _ => hend A hR hF hE (by omega) (by omega), fun h => absurd (show A0 0 1 ≤ A 0 46 by omega) h⟩
  | succ r ih =>
    intro A hr hR hF h1 hE
    have e1 : A 1 = A0 1 := hF.1 1 (by decide) (by decide)
    have e01 : A 0 1 = A0 0 1 := hF.2 1 (by decide)
    rw [skf_s (by omega)] at hE
    refine V174_0 hd hΦ hR ?_
    rw [e01, e1]
    refine ⟨fun h => absurd h (by omega), fun _ => ⟨by omega, fun c => ?_, fun c => ⟨by omega, ?_⟩⟩⟩
    · rw [if_neg (by unfold isLe; simpa using c)] at hE
      exact hend A hR hF hE (by omega) (by omega)
    · rw [if_pos (by unfold isLe; simpa using c)] at hE
      exact ih _ (by rw [UA_eq]; omega) (rg_UA hR (by omega)) (hF.fld (by decide)) (by rw [UA_eq]; omega) (by rw [UA_eq]; exact hE)

theorem S174 {d : Nat} (hd : 2 ≤ d) {m : Nat} {Φ : (Nat → Nat → Int32) → xM} (hΦ : MLaw m Φ) {A : Nat → Int → Int} (hR : RG A) (hp : (TapeB (A 1)) ∧ (0 ≤ A 0 49) ∧ (A 0 49 ≤ A 0 46) ∧ (A 0 46 ≤ A 0 1) ∧ (A 0 1 ≤ 160)) : ∃ (A' : Nat → Int → Int), xev xT d 174 [.ref m] (Φ (mI A)) none (Φ (mI A')) ∧ RG A' ∧ (Fr [] [46, 47, 48] A A' ∧ A' 0 46 = skf isLe (A 1) (A 0 1) (A 0 46) ∧ (wkT (A 1) (A 0 49) (A' 0 46) = -1 → A' 0 47 = 5) ∧ (5 ≤ wkT (A 1) (A 0 49) (A' 0 46) → A' 0 47 = 2 ∧ A' 0 48 = wkT (A 1) (A 0 49) (A' 0 46) - 5) ∧ (0 ≤ wkT (A 1) (A 0 49) (A' 0 46) → wkT (A 1) (A 0 49) (A' 0 46) ≤ 4 → A' 0 47 = 3 ∧ A' 0 48 = wkT (A 1) (A 0 49) (A' 0 46))) := by
  refine xev_g (i := 174) (as := [.ref m]) (σ := Φ (mI A)) (Q := fun r_ σ_ => ∃ (A' : Nat → Int → Int), r_ = none ∧ σ_ = Φ (mI A') ∧ RG A' ∧ (Fr [] [46, 47, 48] A A' ∧ A' 0 46 = skf isLe (A 1) (A 0 1) (A 0 46) ∧ (wkT (A 1) (A 0 49) (A' 0 46) = -1 → A' 0 47 = 5) ∧ (5 ≤ wkT (A 1) (A 0 49) (A' 0 46) → A' 0 47 = 2 ∧ A' 0 48 = wkT (A 1) (A 0 49) (A' 0 46) - 5) ∧ (0 ≤ wkT (A 1) (A 0 49) (A' 0 46) → wkT (A 1) (A 0 49) (A' 0 46) ≤ 4 → A' 0 47 = 3 ∧ A' 0 48 = wkT (A 1) (A 0 49) (A' 0 46)))) (D := 1) hd (Nat.le_of_ble_eq_true rfl) (fun r_ σ_ he hq => ?_) (fun d hd => ?_)
  · obtain ⟨A', rfl, rfl, hq⟩ := hq
    exact ⟨A', he, hq⟩

  obtain ⟨hT, h0, h1, h2, h3⟩ := hp
  refine L174 hd hΦ hT h0 h3 (E := skf isLe (A 1) (A 0 1) (A 0 46)) (fun A' hR' hF' q1 q2 q3 q4 => ⟨A', rfl, rfl, hR', hF', q1, ?_, ?_, ?_⟩) (A 0 1 - A 0 46).toNat A (by omega) hR Fr.rf h1 rfl
  · rw [q1]; exact q2
  · rw [q1]; exact q3
  · rw [q1]; exact q4
