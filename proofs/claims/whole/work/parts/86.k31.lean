theorem w_clone {C : Nat → xI} {ev : xV} {Q : Option Value → xM → Prop} {pc nx : Nat} {ls : xL} {st : List Value} {W : gW} {A : Nat → Int → Int} {R : Nat → Int → Nat} (hW : HW W) (hT : HR W R) {a : Nat} (hc : C pc ls (.ref (lo W a) :: st) (Wm W A R) = oClone nx ls (.ref (lo W a) :: st) (Wm W A R)) (hk : gK W a = 20) (hs : csum st ≤ 8) (c : Nat) (h0 : gK W c = 0) (h : ∀ W1, W1 = gN W c 20 (gL W a) → HW W1 → wpE C ev Q (nx, ls, .ref (lo W1 c) :: st, Wm W1 (va_up A c (A a)) (ZP R c))) : wpE C ev Q (pc, ls, .ref (lo W a) :: st, Wm W A R) := by
  have hka : ¬ gK W a = 0 := by omega
  have h1 := h _ rfl (gN_ok hW h0 (by decide))
  rw [gN_lo_e] at h1
  refine p_st hc ⟨⟨wk_kd hW (by decide) hk, hs⟩, ?_⟩
  have e9 : xcl (Wm W A R) (lo W a) = Wm (gN W c 20 (gL W a)) (va_up A c (A a)) (ZP R c) := by
    have hn := wm_new (A := A) (k := 20) (n := gL W a) hW hT h0
    have hro : ∀ q, gRo (gN W c 20 (gL W a)) q = if q = gsz W then c + 1 else gRo W q := fun _ => rfl
    refine xM_ext rfl ?_ fun q => ?_
    · show gsl W + ln (Wm W A R) (lo W a) = gsl W + gL W a
      rw [wk_ln hW hka]
    · by_cases e : q = gsz W
      · show (if q = gsz W then ((20, ln (Wm W A R) (lo W a), ((Wm W A R).2.2 (lo W a)).2.2.1, fun _ => 0) : xC) else (Wm W A R).2.2 q) = (if gRo (gN W c 20 (gL W a)) q = 0 then gz W q else (gK (gN W c 20 (gL W a)) (gRo (gN W c 20 (gL W a)) q - 1), gL (gN W c 20 (gL W a)) (gRo (gN W c 20 (gL W a)) q - 1), mI (va_up A c (A a)) (gRo (gN W c 20 (gL W a)) q - 1), fun j : Nat => gRf (gN W c 20 (gL W a)) (ZP R c) q (gRo (gN W c 20 (gL W a)) q - 1) j))
        rw [hro]
        simp only [if_pos e, if_neg (Nat.succ_ne_zero c), Nat.add_sub_cancel]
        rw [gN_K_e, gN_L_e, wk_ln hW hka, wm_at hW hka]
        have e1 : mI (va_up A c (A a)) c = mI A a := by funext j; unfold mI va_up; rw [if_pos rfl]
        have e2 : (fun j : Nat => gRf (gN W c 20 (gL W a)) (ZP R c) q c j) = fun _ => 0 := by
          funext j
          rw [gRf_n (Or.inl (by have := hW.2.2.2; omega))]
          unfold ZP
          rw [if_pos rfl]
          rfl
        rw [e1, e2]
      · have h2 := congrArg (fun z : xM => z.2.2 q) hn
        have h3 : (xnew (Wm W A R) 20 (gL W a)).2.2 q = (Wm W A R).2.2 q := if_neg e
        have h4 : (xcl (Wm W A R) (lo W a)).2.2 q = (Wm W A R).2.2 q := if_neg e
        rw [h4, ← h3]
        refine Eq.trans h2 ?_
        show (if gRo (gN W c 20 (gL W a)) q = 0 then gz W q else (_ : xC)) = (if gRo (gN W c 20 (gL W a)) q = 0 then gz W q else (_ : xC))
        by_cases e5 : gRo (gN W c 20 (gL W a)) q = 0
        · rw [if_pos e5, if_pos e5]
        · rw [if_neg e5, if_neg e5]
          have e6 : gRo (gN W c 20 (gL W a)) q = gRo W q := by rw [hro, if_neg e]
          have e7 : ¬ gRo (gN W c 20 (gL W a)) q - 1 = c := fun z => (hW.2.2.1 q (by rw [← e6]; exact e5)).2 (by rw [← e6, z]; exact h0)
          have e8 : mI (ZA A c) (gRo (gN W c 20 (gL W a)) q - 1) = mI (va_up A c (A a)) (gRo (gN W c 20 (gL W a)) q - 1) := by funext j; unfold mI ZA va_up; rw [if_neg e7, if_neg e7]
          rw [e8]
  rw [e9]
  exact h1
theorem V35_0 {d : Nat} (hd : 1 ≤ d) {Q : Option Value → xM → Prop} {W : gW} (hW : HW W) {A : Nat → Int → Int} {P : Nat → Int → Nat} (hR : RG A) (hT : Stat W P) (hG : GL W) {x1 : Int} {a0 : Nat} (rr : Rg x1) (h : (gK W a0 = 20) ∧ (Rg (gL W a0 : Int)) ∧ (((x1 = (gL W a0 : Int)) → wpE (xT 35) (xev xT d) Q (7, [(0, .ref (lo W a0)), (1, .int (iz x1))], [.ref (lo W a0)], Wm W A P)) ∧ (¬ (x1 = (gL W a0 : Int)) → wpE (xT 35) (xev xT d) Q (15, [(0, .ref (lo W a0)), (1, .int (iz x1))], [.int (iz x1)], Wm W A P)))) : wpE (xT 35) (xev xT d) Q (0, [(0, .ref (lo W a0)), (1, .int (iz x1))], [], Wm W A P) := by
  refine p_ild (cc3 c35_0) rfl ?_
  refine p_ald (cc3 c35_1) rfl ?_
  obtain ⟨g1, h⟩ := h
  refine w_len hW (cc3 c35_2) g1 ?_
  obtain ⟨g2, h⟩ := h
  refine i_icmp (c' := x1 = (gL W a0 : Int)) (cc3 c35_3) (iz_inj rr g2) (fun c => ?_) (fun c => ?_)
  · have h := h.1 c
    refine p_ald (cc3 c35_6) rfl ?_
    exact h
  · have h := h.2 c
    refine p_ild (cc3 c35_14) rfl ?_
    exact h
theorem V35_10 {d : Nat} (hd : 1 ≤ d) {Q : Option Value → xM → Prop} {W : gW} (hW : HW W) {A : Nat → Int → Int} {P : Nat → Int → Nat} (hR : RG A) (hT : Stat W P) (hG : GL W) {x1 : Int} {a0 b0 : Nat} (rr : Rg x1) (h : (gK W b0 = 20) ∧ Q (some (.ref (lo W b0))) (Wm W A P)) : wpE (xT 35) (xev xT d) Q (10, [(0, .ref (lo W a0)), (1, .int (iz x1))], [.ref (lo W b0)], Wm W A P) := by
  obtain ⟨g1, h⟩ := h
  refine w_cast hW (cc3 c35_10) g1 ?_
  exact p_ra (cc3 c35_13) h
theorem V35_17 {d : Nat} (hd : 1 ≤ d) {Q : Option Value → xM → Prop} {W : gW} (hW : HW W) {A : Nat → Int → Int} {P : Nat → Int → Nat} (hR : RG A) (hT : Stat W P) (hG : GL W) {x1 : Int} {a0 b0 : Nat} (rr : Rg x1) (h : (gK W a0 = 20) ∧ (Rg (gL W a0 : Int)) ∧ (gK W b0 = 20) ∧ (0 ≤ (0 : Int) ∧ 0 ≤ (0 : Int) ∧ 0 ≤ (min (gL W a0 : Int) x1) ∧ (0 : Int) + (min (gL W a0 : Int) x1) ≤ gL W a0 ∧ (0 : Int) + (min (gL W a0 : Int) x1) ≤ gL W b0 ∧ (0 : Int) + (min (gL W a0 : Int) x1) ≤ 2147483647 ∧ (0 : Int) + (min (gL W a0 : Int) x1) ≤ 2147483647) ∧ Q (some (.ref (lo W b0))) (Wm W (CA A a0 b0 0 0 (min (gL W a0 : Int) x1)) P)) : wpE (xT 35) (xev xT d) Q (17, [(0, .ref (lo W a0)), (1, .int (iz x1))], [.ref (lo W b0)], Wm W A P) := by
  refine p_ast (ls' := [(2, .ref (lo W b0)), (0, .ref (lo W a0)), (1, .int (iz x1))]) (cc3 c35_17) (by decide) rfl ?_
  refine p_ald (cc3 c35_18) rfl ?_
  refine i_push (n := 0) (cc3 c35_19) zl_0 ?_
  refine p_ald (cc3 c35_20) rfl ?_
  refine i_push (n := 0) (cc3 c35_21) zl_0 ?_
  refine p_ald (cc3 c35_22) rfl ?_
  obtain ⟨g1, h⟩ := h
  refine w_len hW (cc3 c35_23) g1 ?_
  refine p_ild (cc3 c35_24) rfl ?_
  obtain ⟨g2, h⟩ := h
  refine p_callS (cc3 c35_25) (Nat.le_of_ble_eq_true rfl) rfl rfl (Nat.le_of_ble_eq_true rfl) (S36 (Nat.le_trans (by decide) hd) ⟨g2, rr⟩) ?_
  obtain ⟨g3, h⟩ := h
  obtain ⟨g4, h⟩ := h
  refine w_copy hW (cc3 c35_28) g3 g1 g4 (Nat.le_of_ble_eq_true rfl) ?_
  refine p_ald (cc3 c35_31) rfl ?_
  exact p_ra (cc3 c35_32) h
theorem S35 {d : Nat} (hd : 2 ≤ d) {W : gW} (hW : HW W) {A : Nat → Int → Int} {P : Nat → Int → Nat} (hR : RG A) (hT : Stat W P) (hG : GL W) {x : Int} {a c : Nat} (ha : gK W a = 20 ∧ gK W c = 0 ∧ 29 ≤ c) (hx : 0 ≤ x ∧ x ≤ (gL W a : Int) ∧ (gL W a : Int) ≤ 100000) : ∃ A' : Nat → Int → Int, xev xT d 35 [.ref (lo W a), .int (iz x)] (Wm W A P) (some (.ref (lo (gN W c 20 x.toNat) c))) (Wm (gN W c 20 x.toNat) A' (ZP P c)) ∧ RG A' ∧ (∀ c', ¬ c' = c → A' c' = A c') ∧ ∀ j : Int, 0 ≤ j → j < x → A' c j = A a j := by
  obtain ⟨h1, h2, h9⟩ := ha
  obtain ⟨x0, x1, x2⟩ := hx
  have rx : Rg x := ⟨by omega, by omega⟩
  have nac : ¬ a = c := kd_ne (by omega) h2
  have W1 : HW (gN W c 20 x.toNat) := gN_ok hW h2 (by decide)
  have T1 : Stat (gN W c 20 x.toNat) (ZP P c) := hT.gN hG h2 h9 (by decide)
  have G1 : GL (gN W c 20 x.toNat) := hG.gN h2
  have l1 : lo (gN W c 20 x.toNat) a = lo W a := gN_lo_n nac
  have R2 : RG (va_up A c (A a)) := fun c' j => by unfold va_up; split; exact hR _ _; exact hR _ _
  by_cases e : x = (gL W a : Int)
  · refine ⟨va_up A c (A a), ?_, R2, fun c' hc' => by unfold va_up; rw [if_neg hc'], fun j _ _ => by unfold va_up; rw [if_pos rfl]⟩
    refine xev_i (D := 1) hd (Nat.le_of_ble_eq_true rfl) (fun d hd => V35_0 hd hW hR hT hG rx ⟨h1, ⟨by omega, by omega⟩, fun _ => ?_, fun z => absurd e z⟩)
    refine w_clone hW hT.1 (cc3 c35_7) h1 (by decide) c h2 (fun V1 e1 _ => ?_)
    have e2 : V1 = gN W c 20 x.toNat := by rw [e1, show x.toNat = gL W a by omega]
    subst e2
    rw [← l1]
    exact V35_10 hd W1 R2 T1 G1 rx ⟨gN_K_e, rfl, rfl⟩
  · refine ⟨CA (ZA A c) a c 0 0 (min (gL (gN W c 20 x.toNat) a : Int) x), ?_, rg_CA (rg_ZA hR), fun c' hc' => by funext j; unfold CA; rw [if_neg (fun z => hc' z.1), ZA_n hc'], fun j j0 jx => ?_⟩
    · refine xev_i (D := 1) hd (Nat.le_of_ble_eq_true rfl) (fun d hd => V35_0 hd hW hR hT hG rx ⟨h1, ⟨by omega, by omega⟩, fun z => absurd z e, fun _ => ?_⟩)
      refine w_newa hW hT.1 (by decide) (cc3 c35_15) c ⟨x0, by omega⟩ h2 (fun V1 e1 _ => ?_)
      subst e1
      rw [← l1]
      have q1 : gL (gN W c 20 x.toNat) a = gL W a := gN_L_n nac
      have q2 : gL (gN W c 20 x.toNat) c = x.toNat := gN_L_e
      have q3 : min (gL (gN W c 20 x.toNat) a : Int) x = x := by rw [q1]; omega
      exact V35_17 hd W1 (rg_ZA hR) T1 G1 rx ⟨by rw [gN_K_n nac]; exact h1, ⟨by omega, by omega⟩, gN_K_e, ⟨by omega, by omega, by rw [q3]; exact x0, by rw [q3, q1]; omega, by rw [q3, q2]; omega, by rw [q3]; omega, by rw [q3]; omega⟩, rfl, rfl⟩
    · have q1 : gL (gN W c 20 x.toNat) a = gL W a := gN_L_n nac
      have q3 : min (gL (gN W c 20 x.toNat) a : Int) x = x := by rw [q1]; omega
      unfold CA
      rw [q3, if_pos ⟨rfl, j0, by omega⟩, ZA_n nac]
      congr 1; omega
