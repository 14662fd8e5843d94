def k_shn (A : Nat → Int → Int) (s how n : Int) : Nat → Int → Int := if m_sheet_ok s how n ∧ ¬ (0 ≤ how ∧ n < 0) then (if how < 0 then UA A (qH s) 1 (-1) else k_fill (UA (UA A (qH s) 1 how) (qH s) 2 n) (qH s + 1) 0 40) else A
def k_cln (A M : Nat → Int → Int) (s i v : Int) : Nat → Int → Int := if (0 ≤ s ∧ s ≤ 3) ∧ ¬ M 43 s < 0 ∧ (0 ≤ i ∧ i ≤ M 44 s - 1) then UA A (qH s + 1) i (if M 43 s = 0 then b8 v else if M 43 s = 1 then b16 v else v) else A
theorem rg_shn {A : Nat → Int → Int} (h : RG A) {s how n : Int} (h1 : Rg how ∧ Rg n) : RG (k_shn A s how n) := by
  unfold k_shn
  split
  · split
    · exact rg_UA h (by decide)
    · exact rg_fill (rg_UA (rg_UA h h1.1) h1.2) (by decide)
  · exact h
theorem rg_cvt {x v : Int} (hv : Rg v) : Rg (if x = 0 then b8 v else if x = 1 then b16 v else v) := by
  split
  · exact rg_b8
  · split
    · exact rg_b16
    · exact hv
theorem rg_cln {A M : Nat → Int → Int} (h : RG A) {s i v : Int} (hv : Rg v) : RG (k_cln A M s i v) := by
  unfold k_cln
  split
  · exact rg_UA h (rg_cvt hv)
  · exact h
theorem k_fill_n {A : Nat → Int → Int} {a c : Nat} {v n : Int} (h : ¬ c = a) : k_fill A a v n c = A c := funext fun j => if_neg (fun z => h z.1)
theorem zrn_n {A : Nat → Int → Int} {s n : Int} {c : Nat} (h : ¬ c = 45) : zrn A s n c = A c := funext fun j => if_neg (fun z => h z.1)
section SHE
variable {W : gW} {P : Nat → Int → Nat} {A A' M M' : Nat → Int → Int}
/-- the relation after a change of one sheet -/
theorem Rel.gsh (h : Rel W P A M) {s : Int} (h0 : 0 ≤ s) (h1 : s < 4) (a : ∀ c, ¬ c = qH s → ¬ c = qH s + 1 → A' c = A c) (m : ∀ c, ¬ c = 43 → ¬ c = 44 → ¬ c = 45 → M' c = M c) (eH : ∀ i : Int, 0 ≤ i → i < 4 → ¬ i = s → eqH M M' i) (cH : RSh W P A' M' s) (oH : SheetsOK M') : Rel W P A' M' := by
  obtain ⟨oS0, oB0, oK0, oH0, oT0, oR0⟩ := h.ok
  have qs := qH_d (s := s)
  have eS : ∀ s : Int, eqS M M' s := fun s => eqS_r (fun c hc => by simp at hc; exact m c (by omega) (by omega) (by omega)) s
  have eB : ∀ s : Int, eqB M M' s := fun s => eqB_r (fun c hc => by simp at hc; exact m c (by omega) (by omega) (by omega)) s
  have eK : ∀ s : Int, eqK M M' s := fun s => eqK_r (fun c hc => by simp at hc; exact m c (by omega) (by omega) (by omega)) s
  have eL : ∀ s : Int, eqL M M' s := fun s => eqL_r (fun c hc => by simp at hc; exact m c (by omega) (by omega) (by omega)) s
  have eT : ∀ s : Int, eqT M M' s := fun s => eqT_r (fun c hc => by simp at hc; exact m c (by omega) (by omega) (by omega)) s
  have m0 : M' 0 = M 0 := m 0 (by decide) (by decide) (by decide)
  have a0 : A' 0 = A 0 := a 0 (by omega) (by omega)
  refine h.gen (fun _ _ _ _ => rfl) (fun c q1 q2 _ _ => a c (by omega) (by omega)) (fun s _ _ => eS s) (fun t _ _ => eT t) (by rw [m0]; exact ⟨rfl, rfl, rfl, rfl⟩) (by rw [a0]; exact ⟨rfl, rfl, rfl⟩) ?_ ?_ (h.boS (fun _ _ _ => rfl) (fun c _ _ => a c (by omega) (by omega)) (fun b _ _ => eB b)) (h.kiS (fun _ _ _ => rfl) (fun c _ _ => a c (by omega) (by omega)) (fun k _ _ => ⟨eK k, eL k⟩) (by rw [m0]) (eS 0)) (fun i i0 i1 => ?_) ?_ (oB0.sm (fun b _ _ => eB b) (by rw [m0]) (by rw [m0])) (oK0.sm (fun k _ _ => ⟨eK k, eL k⟩) (by rw [m0]) (by rw [m0])) oH (by rw [m0]; exact oR0)
  · unfold RCn; rw [a0, a 1 (by omega) (by omega), m0]; exact h.cn
  · rw [m 1 (by decide) (by decide) (by decide)]; exact h.tp.same (a 1 (by omega) (by omega)) (a 2 (by omega) (by omega))
  · by_cases e : i = s
    · subst e; exact cH
    · have qi := qH_d (s := i)
      exact (h.sh i0 i1).same (fun c q1 q2 => ⟨rfl, rfl, rfl, a c (by omega) (by omega)⟩) (oH0 i i0 (by omega)).2.2 (eH i i0 i1 e)
  · rw [a 14 (by omega) (by omega), m 41 (by decide) (by decide) (by decide)]; exact h.cu
theorem Rel.shn (h : Rel W P A M) {s how n : Int} : Rel W P (k_shn A s how n) (m_sheet_n M s how n) := by
  unfold k_shn m_sheet_n
  by_cases q : m_sheet_ok s how n ∧ ¬ (0 ≤ how ∧ n < 0)
  · rw [if_pos q, if_pos q]
    obtain ⟨⟨⟨s0, s1⟩, ⟨q1, q2⟩, q3⟩, q4⟩ := q
    have oH0 := h.ok.2.2.2.1
    have hs := h.sh s0 (by omega)
    have m : ∀ c, ¬ c = 43 → ¬ c = 44 → ¬ c = 45 → zrn (UA (UA M 43 s how) 44 s (if how < 0 then 0 else n)) s 40 c = M c := fun c z1 z2 z3 => (zrn_n z3).trans ((UA_n z2).trans (UA_n z1))
    have m3 : ∀ i : Int, zrn (UA (UA M 43 s how) 44 s (if how < 0 then 0 else n)) s 40 43 i = if i = s then how else M 43 i := fun i => by
      rw [zrn_n (by decide), UA_n (by decide)]
      by_cases e : i = s
      · rw [if_pos e, e, UA_eq]
      · rw [if_neg e, UA_j e]
    have m4 : ∀ i : Int, zrn (UA (UA M 43 s how) 44 s (if how < 0 then 0 else n)) s 40 44 i = if i = s then (if how < 0 then 0 else n) else M 44 i := fun i => by
      rw [zrn_n (by decide)]
      by_cases e : i = s
      · rw [if_pos e, e, UA_eq]
      · rw [if_neg e, UA_j e, UA_n (by decide)]
    have m5 : ∀ j : Int, zrn (UA (UA M 43 s how) 44 s (if how < 0 then 0 else n)) s 40 45 j = if 40 * s ≤ j ∧ j < 40 * s + 40 then 0 else M 45 j := fun j => by
      unfold zrn
      by_cases e : 40 * s ≤ j ∧ j < 40 * s + 40
      · rw [if_pos e, if_pos ⟨rfl, e.1, e.2⟩]
      · rw [if_neg e, if_neg (fun z => e z.2), UA_n (by decide), UA_n (by decide)]
    have oH : SheetsOK (zrn (UA (UA M 43 s how) 44 s (if how < 0 then 0 else n)) s 40) := fun i i0 i1 => by
      rw [m3, m4]
      have := oH0 i i0 i1
      (repeat' split) <;> omega
    have eH : ∀ i : Int, 0 ≤ i → i < 4 → ¬ i = s → eqH M (zrn (UA (UA M 43 s how) 44 s (if how < 0 then 0 else n)) s 40) i := fun i i0 i1 e => ⟨by rw [m3, if_neg e], by rw [m4, if_neg e], fun j j0 j1 => by rw [m5, if_neg (by omega)]⟩
    by_cases c : how < 0
    · rw [if_pos c]
      refine h.gsh s0 (by omega) (fun c z1 z2 => UA_n z1) m eH ⟨hs.1, ?_, fun z => ?_⟩ oH
      · rw [UA_eq, m3, if_pos rfl]; omega
      · rw [m3, if_pos rfl] at z; omega
    · rw [if_neg c]
      refine h.gsh s0 (by omega) (fun c z1 z2 => (k_fill_n z2).trans ((UA_n z1).trans (UA_n z1))) m eH ⟨hs.1, ?_, fun _ => ⟨?_, fun i i0 i1 => ?_⟩⟩ oH
      · rw [k_fill_n (by omega), UA_j (by decide), UA_eq, m3, if_pos rfl]
      · rw [k_fill_n (by omega), UA_eq, m4, if_pos rfl, if_neg c]
      · rw [m4, if_pos rfl, if_neg c] at i1
        rw [m5, if_pos (by omega)]
        unfold k_fill
        rw [if_pos ⟨rfl, i0, by omega⟩]
  · rw [if_neg q, if_neg q]; exact h
theorem Rel.cln (h : Rel W P A M) {s i v : Int} : Rel W P (k_cln A M s i v) (m_cell_n M s i v) := by
  unfold k_cln m_cell_n
  by_cases q : (0 ≤ s ∧ s ≤ 3) ∧ ¬ M 43 s < 0 ∧ (0 ≤ i ∧ i ≤ M 44 s - 1)
  · rw [if_pos q, if_pos q]
    obtain ⟨⟨s0, s1⟩, q2, q3⟩ := q
    have oH0 := h.ok.2.2.2.1
    obtain ⟨h1, h2, h3⟩ := h.sh s0 (by omega)
    obtain ⟨h4, h5⟩ := h3 (by omega)
    have ob := (oH0 s s0 s1).2
    generalize (if M 43 s = 0 then b8 v else if M 43 s = 1 then b16 v else v) = x
    have m : ∀ c, ¬ c = 45 → UA M 45 (40 * s + i) x c = M c := fun c z => UA_n z
    refine h.gsh s0 (by omega) (fun c z1 z2 => UA_n z2) (fun c _ _ z => m c z) (fun j j0 j1 e => ⟨by rw [m 43 (by decide)], by rw [m 44 (by decide)], fun k k0 k1 => UA_j (by omega)⟩) ⟨h1, by rw [UA_n (by omega), m 43 (by decide)]; exact h2, fun z => ⟨by rw [UA_n (by omega), m 44 (by decide)]; exact h4, fun j j0 j1 => ?_⟩⟩ (oH0.same (m 43 (by decide)) (m 44 (by decide)))
    rw [m 44 (by decide)] at j1
    by_cases e : j = i
    · rw [e, UA_eq, UA_eq]
    · rw [UA_j e, UA_j (by omega)]; exact h5 j j0 j1
  · rw [if_neg q, if_neg q]; exact h
end SHE
theorem V118_0 {d : Nat} (hd : 2 ≤ d) {Q : Option Value → xM → Prop} {W : gW} (hW : HW W) {A : Nat → Int → Int} {P : Nat → Int → Nat} (hR : RG A) (hT : Stat W P) (hG : GL W) {x1 x2 x3 : Int} (rr : Rg x1 ∧ Rg x2 ∧ Rg x3) (h : (CtO P A) ∧ (((¬ (0 ≤ x1 ∧ x1 < 4)) → Q (some (.int (iz (-2)))) (Wm W A P)) ∧ (¬ (¬ (0 ≤ x1 ∧ x1 < 4)) → (((x2 < (-1)) → Q (some (.int (iz (-2)))) (Wm W A P)) ∧ (¬ (x2 < (-1)) → (((x2 ≤ 2) → (((x2 = (-1)) → (gK W (qH x1) = 8) ∧ Q (some (.int (iz 1))) (Wm W (UA A (qH x1) 1 (-1)) P)) ∧ (¬ (x2 = (-1)) → (((x3 ≤ 40) → (((0 ≤ x3) → (OSh W P (qH x1)) ∧ (gK W (qH x1) = 8) ∧ Q (some (.int (iz 1))) (Wm W (k_fill (UA (UA A (qH x1) 1 x2) (qH x1) 2 x3) ((qH x1) + 1) 0 40) P)) ∧ (¬ (0 ≤ x3) → Q (some (.int (iz (-14)))) (Wm W A P)))) ∧ (¬ (x3 ≤ 40) → Q (some (.int (iz (-2)))) (Wm W A P)))))) ∧ (¬ (x2 ≤ 2) → Q (some (.int (iz (-2)))) (Wm W A P)))))))) : wpE (xT 118) (xev xT d) Q (0, [(0, .ref (lo W 0)), (1, .int (iz x1)), (2, .int (iz x2)), (3, .int (iz x3))], [], Wm W A P) := by
  refine p_ald (cc3 c118_0) rfl ?_
  refine p_ild (cc3 c118_1) rfl ?_
  obtain ⟨g1, h⟩ := h
  have he := S119 (Nat.le_trans (by decide) hd) hW hR hT hG rr.1 g1
  refine nul_c (c := ¬ (0 ≤ x1 ∧ x1 < 4)) he (fun c he => ?_) (fun c he => ?_) <;> refine p_callV (cc3 c118_2) (Nat.le_of_ble_eq_true rfl) rfl rfl (Nat.le_of_ble_eq_true rfl) (wk_kd hW (by decide) (st_k hT 0 12 (by decide))) he ?_
  · have h := h.1 c
    refine p_astN (ls' := [(4, .null), (0, .ref (lo W 0)), (1, .int (iz x1)), (2, .int (iz x2)), (3, .int (iz x3))]) (cc3 c118_5) (by decide) rfl ?_
    refine p_aldN (cc3 c118_7) rfl ?_
    refine p_ifnN (cc3 c118_9) ?_
    refine p_lc (ls' := []) c118_22 rfl rfl ?_
    refine i_push (n := (-2)) (cct c118_22 rfl) zl_m2 ?_
    exact p_ri (cc3 c118_24) trivial h
  · have h := h.2 c
    refine p_ast (ls' := [(4, .ref (lo W (qH x1))), (0, .ref (lo W 0)), (1, .int (iz x1)), (2, .int (iz x2)), (3, .int (iz x3))]) (cc3 c118_5) (by decide) rfl ?_
    refine p_ald (cc3 c118_7) rfl ?_
    refine p_ifnR (cc3 c118_9) ?_
    refine p_ild (cc3 c118_12) rfl ?_
    refine i_push (n := (-1)) (cc3 c118_13) zl_m1 ?_
    refine i_icmp (c' := x2 < (-1)) (cc3 c118_14) (iz_lt rr.2.1 (by decide : Rg (-1 : Int))) (fun c => ?_) (fun c => ?_)
    · have h := h.1 c
      refine p_lc (ls' := []) c118_22 rfl rfl ?_
      refine i_push (n := (-2)) (cct c118_22 rfl) zl_m2 ?_
      exact p_ri (cc3 c118_24) trivial h
    · have h := h.2 c
      refine p_ild (cc3 c118_17) rfl ?_
      refine i_push (n := 2) (cc3 c118_18) zl_2 ?_
      refine i_icmp (c' := x2 ≤ 2) (cc3 c118_19) (iz_le rr.2.1 (by decide : Rg (2 : Int))) (fun c => ?_) (fun c => ?_)
      · have h := h.1 c
        refine p_ild (cc3 c118_25) rfl ?_
        refine i_push (n := (-1)) (cc3 c118_26) zl_m1 ?_
        refine i_icmp (c' := x2 = (-1)) (cc3 c118_27) (iz_inj rr.2.1 (by decide : Rg (-1 : Int))) (fun c => ?_) (fun c => ?_)
        · have h := h.1 c
          refine p_ald (cc3 c118_30) rfl ?_
          refine i_push (n := (-1)) (cc3 c118_32) zl_m1 ?_
          obtain ⟨g2, h⟩ := h
          refine id (α := Rg (-1) → _) (fun _ => ?_) (by decide : Rg (-1 : Int)); refine w_puti hW (cc3 c118_33) g2 (ji := 1) rfl ?_
          refine i_push (n := 1) (cc3 c118_36) zl_1 ?_
          exact p_ri (cc3 c118_37) trivial h
        · have h := h.2 c
          refine p_ild (cc3 c118_38) rfl ?_
          refine i_push (n := 40) (cc3 c118_39) zl_40 ?_
          refine i_icmp (c' := x3 ≤ 40) (cc3 c118_41) (iz_le rr.2.2 (by decide : Rg (40 : Int))) (fun c => ?_) (fun c => ?_)
          · have h := h.1 c
            refine p_ild (cc3 c118_47) rfl ?_
            refine i_if (c' := 0 ≤ x3) (cc3 c118_48) (c_ge0 rr.2.2) (fun c => ?_) (fun c => ?_)
            · have h := h.1 c
              refine p_ald (cc3 c118_54) rfl ?_
              refine p_ild (cc3 c118_56) rfl ?_
              refine p_ild (cc3 c118_57) rfl ?_
              obtain ⟨g2, h⟩ := h
              obtain ⟨g3, h⟩ := h
              refine p_callV (cc3 c118_58) (Nat.le_of_ble_eq_true rfl) rfl rfl (Nat.le_of_ble_eq_true rfl) (wk_kd hW (by decide) g3) (S120 (Nat.le_trans (by decide) hd) hW hR hT hG ⟨rr.2.1, rr.2.2⟩ g2) ?_
              refine i_push (n := 1) (cc3 c118_61) zl_1 ?_
              exact p_ri (cc3 c118_62) trivial h
            · have h := h.2 c
              refine i_push (n := (-14)) (cc3 c118_51) zl_m14 ?_
              exact p_ri (cc3 c118_53) trivial h
          · have h := h.2 c
            refine i_push (n := (-2)) (cc3 c118_44) zl_m2 ?_
            exact p_ri (cc3 c118_46) trivial h
      · have h := h.2 c
        refine p_lc (ls' := []) c118_22 rfl rfl ?_
        refine i_push (n := (-2)) (cct c118_22 rfl) zl_m2 ?_
        exact p_ri (cc3 c118_24) trivial h
theorem S118 {d : Nat} (hd : 3 ≤ d) {W : gW} (hW : HW W) {A : Nat → Int → Int} {P : Nat → Int → Nat} (hR : RG A) (hT : Stat W P) (hG : GL W) {x1 x2 x3 : Int} (rr : Rg x1 ∧ Rg x2 ∧ Rg x3) (hp : (RelA W P A)) : xev xT d 118 [.ref (lo W 0), .int (iz x1), .int (iz x2), .int (iz x3)] (Wm W A P) (some (.int (iz (m_sheet_r x1 x2 x3)))) (Wm W (k_shn A x1 x2 x3) P) := by
  refine xev_i (D := 2) hd (Nat.le_of_ble_eq_true rfl) (fun d hd => V118_0 hd hW hR hT hG rr ?_)

  have hs := fun (z : 0 ≤ x1 ∧ x1 < 4) => (hp.sh z.1 z.2).1
  unfold m_sheet_r k_shn
  have n1 : ¬ ((0 ≤ x1 ∧ x1 ≤ 3) ∧ (-1 ≤ x2 ∧ x2 ≤ 2) ∧ (x2 < 0 ∨ x3 ≤ 40)) → (if m_sheet_ok x1 x2 x3 then (if 0 ≤ x2 ∧ x3 < 0 then (-14 : Int) else 1) else -2) = -2 ∧ (if m_sheet_ok x1 x2 x3 ∧ ¬ (0 ≤ x2 ∧ x3 < 0) then (if x2 < 0 then UA A (qH x1) 1 (-1) else k_fill (UA (UA A (qH x1) 1 x2) (qH x1) 2 x3) (qH x1 + 1) 0 40) else A) = A := fun z => ⟨if_neg z, if_neg (fun w => z w.1)⟩
  have n2 : ((0 ≤ x1 ∧ x1 ≤ 3) ∧ (-1 ≤ x2 ∧ x2 ≤ 2) ∧ (x2 < 0 ∨ x3 ≤ 40)) → (if m_sheet_ok x1 x2 x3 then (if 0 ≤ x2 ∧ x3 < 0 then (-14 : Int) else 1) else -2) = (if 0 ≤ x2 ∧ x3 < 0 then -14 else 1) ∧ (if m_sheet_ok x1 x2 x3 ∧ ¬ (0 ≤ x2 ∧ x3 < 0) then (if x2 < 0 then UA A (qH x1) 1 (-1) else k_fill (UA (UA A (qH x1) 1 x2) (qH x1) 2 x3) (qH x1 + 1) 0 40) else A) = (if 0 ≤ x2 ∧ x3 < 0 then A else if x2 < 0 then UA A (qH x1) 1 (-1) else k_fill (UA (UA A (qH x1) 1 x2) (qH x1) 2 x3) (qH x1 + 1) 0 40) := fun z => ⟨if_pos z, by
    by_cases q : 0 ≤ x2 ∧ x3 < 0
    · rw [if_pos q, if_neg (fun w => w.2 q)]
    · rw [if_neg q, if_pos ⟨z, q⟩]⟩
  have out : ¬ ((0 ≤ x1 ∧ x1 ≤ 3) ∧ (-1 ≤ x2 ∧ x2 ≤ 2) ∧ (x2 < 0 ∨ x3 ≤ 40)) → _ := fun z => (⟨congrArg (fun y => some (Value.int (iz y))) (n1 z).1.symm, congrArg (fun y => Wm W y P) (n1 z).2.symm⟩ : some (Value.int (iz (-2))) = some (Value.int (iz (if m_sheet_ok x1 x2 x3 then (if 0 ≤ x2 ∧ x3 < 0 then (-14 : Int) else 1) else -2))) ∧ Wm W A P = Wm W (if m_sheet_ok x1 x2 x3 ∧ ¬ (0 ≤ x2 ∧ x3 < 0) then (if x2 < 0 then UA A (qH x1) 1 (-1) else k_fill (UA (UA A (qH x1) 1 x2) (qH x1) 2 x3) (qH x1 + 1) 0 40) else A) P)
  refine ⟨hp.cto, fun z => out (by omega), fun z => ⟨fun z2 => out (by omega), fun z2 => ⟨fun z3 => ⟨fun z4 => ⟨(hs (Classical.not_not.mp z)).1.1, ?_⟩, fun z4 => ⟨fun z5 => ⟨fun z6 => ⟨hs (Classical.not_not.mp z), (hs (Classical.not_not.mp z)).1.1, ?_⟩, fun z6 => ?_⟩, fun z5 => out (by omega)⟩⟩, fun z3 => out (by omega)⟩⟩⟩
  · rw [(n2 (by omega)).1, (n2 (by omega)).2, if_neg (by omega), if_neg (by omega), if_pos (by omega)]; exact ⟨rfl, rfl⟩
  · rw [(n2 (by omega)).1, (n2 (by omega)).2, if_neg (by omega), if_neg (by omega), if_neg (by omega)]; exact ⟨rfl, rfl⟩
  · rw [(n2 (by omega)).1, (n2 (by omega)).2, if_pos (by omega), if_pos (by omega)]; exact ⟨rfl, rfl⟩
theorem V121_0 {d : Nat} (hd : 1 ≤ d) {Q : Option Value → xM → Prop} {W : gW} (hW : HW W) {A : Nat → Int → Int} {P : Nat → Int → Nat} (hR : RG A) (hT : Stat W P) (hG : GL W) {x1 x2 x3 : Int} (rr : Rg x1 ∧ Rg x2 ∧ Rg x3) (h : (CtO P A) ∧ (((¬ (0 ≤ x1 ∧ x1 < 4)) → Q (some (.int (iz (-2)))) (Wm W A P)) ∧ (¬ (¬ (0 ≤ x1 ∧ x1 < 4)) → (gK W (qH x1) = 8) ∧ ((((A (qH x1) 1) = (-1)) → Q (some (.int (iz (-11)))) (Wm W A P)) ∧ (¬ ((A (qH x1) 1) = (-1)) → ((¬ (0 ≤ x2 ∧ x2 < A (qH x1) 2 ∧ x2 < 40) → Q (some (.int (iz (-12)))) (Wm W A P)) ∧ ((0 ≤ x2 ∧ x2 < A (qH x1) 2 ∧ x2 < 40) → (P (qH x1) 0 = ((qH x1) + 1) + 1) ∧ (gK W ((qH x1) + 1) = 20) ∧ (0 ≤ x2 ∧ x2 < gL W ((qH x1) + 1) ∧ x2 ≤ 2147483647) ∧ Q (some (.int (iz 1))) (Wm W (UA A ((qH x1) + 1) x2 (if A (qH x1) 1 = 0 then b8 x3 else if A (qH x1) 1 = 1 then b16 x3 else x3)) P)))))))) : wpE (xT 121) (xev xT d) Q (0, [(0, .ref (lo W 0)), (1, .int (iz x1)), (2, .int (iz x2)), (3, .int (iz x3))], [], Wm W A P) := by
  refine p_ald (cc3 c121_0) rfl ?_
  refine p_ild (cc3 c121_1) rfl ?_
  obtain ⟨g1, h⟩ := h
  have he := S119 (Nat.le_trans (by decide) hd) hW hR hT hG rr.1 g1
  refine nul_c (c := ¬ (0 ≤ x1 ∧ x1 < 4)) he (fun c he => ?_) (fun c he => ?_) <;> refine p_callV (cc3 c121_2) (Nat.le_of_ble_eq_true rfl) rfl rfl (Nat.le_of_ble_eq_true rfl) (wk_kd hW (by decide) (st_k hT 0 12 (by decide))) he ?_
  · have h := h.1 c
    refine p_astN (ls' := [(4, .null), (0, .ref (lo W 0)), (1, .int (iz x1)), (2, .int (iz x2)), (3, .int (iz x3))]) (cc3 c121_5) (by decide) rfl ?_
    refine p_aldN (cc3 c121_7) rfl ?_
    refine p_ifnN (cc3 c121_9) ?_
    refine i_push (n := (-2)) (cc3 c121_12) zl_m2 ?_
    exact p_ri (cc3 c121_14) trivial h
  · have h := h.2 c
    refine p_ast (ls' := [(4, .ref (lo W (qH x1))), (0, .ref (lo W 0)), (1, .int (iz x1)), (2, .int (iz x2)), (3, .int (iz x3))]) (cc3 c121_5) (by decide) rfl ?_
    refine p_ald (cc3 c121_7) rfl ?_
    refine p_ifnR (cc3 c121_9) ?_
    refine p_ald (cc3 c121_15) rfl ?_
    obtain ⟨g2, h⟩ := h
    refine w_geti hW (v := A (qH x1) 1) (cc3 c121_17) g2 (ji := 1) rfl rfl ?_
    refine i_push (n := (-1)) (cc3 c121_20) zl_m1 ?_
    refine i_icmp (c' := (A (qH x1) 1) = (-1)) (cc3 c121_21) (iz_inj (hR (qH x1) 1) (by decide : Rg (-1 : Int))) (fun c => ?_) (fun c => ?_)
    · have h := h.1 c
      refine i_push (n := (-11)) (cc3 c121_24) zl_m11 ?_
      exact p_ri (cc3 c121_26) trivial h
    · have h := h.2 c
      refine p_ald (cc3 c121_27) rfl ?_
      refine p_ild (cc3 c121_29) rfl ?_
      refine p_callV (cc3 c121_30) (Nat.le_of_ble_eq_true rfl) rfl rfl (Nat.le_of_ble_eq_true rfl) (wk_kd hW (by decide) g2) (S122 (Nat.le_trans (by decide) hd) hW hR hT hG rr.2.1 g2) ?_
      refine i_ifB (cc3 c121_33) (fun c => ?_) (fun c => ?_)
      · have h := h.1 c
        refine i_push (n := (-12)) (cc3 c121_36) zl_m12 ?_
        exact p_ri (cc3 c121_38) trivial h
      · have h := h.2 c
        refine p_ald (cc3 c121_39) rfl ?_
        obtain ⟨g3, h⟩ := h
        refine w_getp hW hT.1 (b := (qH x1) + 1) (cc3 c121_41) g2 (ji := 0) rfl g3 ?_
        refine p_ild (cc3 c121_44) rfl ?_
        refine p_ald (cc3 c121_45) rfl ?_
        refine p_ild (cc3 c121_47) rfl ?_
        refine p_callV (cc3 c121_48) (Nat.le_of_ble_eq_true rfl) rfl rfl (Nat.le_of_ble_eq_true rfl) (wk_kd hW (by decide) g2) (S123 (Nat.le_trans (by decide) hd) hW hR hT hG rr.2.2 g2) ?_
        obtain ⟨g4, h⟩ := h
        obtain ⟨g5, h⟩ := h
        refine id (α := Rg (if A (qH x1) 1 = 0 then b8 x3 else if A (qH x1) 1 = 1 then b16 x3 else x3) → _) (fun _ => ?_) (rg_ite rg_b8 (rg_ite rg_b16 rr.2.2)); refine w_asti hW (cc3 c121_51) g4 g5 rfl ?_
        refine i_push (n := 1) (cc3 c121_52) zl_1 ?_
        exact p_ri (cc3 c121_53) trivial h
theorem S121 {d : Nat} (hd : 2 ≤ d) {W : gW} (hW : HW W) {A : Nat → Int → Int} {P : Nat → Int → Nat} (hR : RG A) (hT : Stat W P) (hG : GL W) {x1 x2 x3 : Int} (rr : Rg x1 ∧ Rg x2 ∧ Rg x3) (hp : (RelA W P A)) : xev xT d 121 [.ref (lo W 0), .int (iz x1), .int (iz x2), .int (iz x3)] (Wm W A P) (some (.int (iz (m_cell_r (mo A) x1 x2)))) (Wm W (k_cln A (mo A) x1 x2 x3) P) := by
  refine xev_i (D := 1) hd (Nat.le_of_ble_eq_true rfl) (fun d hd => V121_0 hd hW hR hT hG rr ?_)

  have oH0 := hp.ok.2.2.2.1
  by_cases q : 0 ≤ x1 ∧ x1 < 4
  · obtain ⟨h1, h2, h3⟩ := hp.sh q.1 q.2
    have ob := oH0 x1 q.1 (by omega)
    have g1 := h1.2.2
    refine ⟨hp.cto, fun z => absurd q z, fun _ => ⟨h1.1.1, fun z => ?_, fun z => ⟨fun z2 => ?_, fun z2 => ⟨h1.2.1, h1.1.2, by omega, ?_⟩⟩⟩⟩
    all_goals unfold m_cell_r k_cln
    · rw [if_pos (by omega), if_pos (by omega), if_neg (fun w => w.2.1 (by omega))]; exact ⟨rfl, rfl⟩
    · have h4 := (h3 (by omega)).1
      rw [if_pos (by omega), if_neg (by omega), if_neg (by omega), if_neg (fun w => z2 (by omega))]; exact ⟨rfl, rfl⟩
    · have h4 := (h3 (by omega)).1
      rw [h2, if_pos (show 0 ≤ x1 ∧ x1 ≤ 3 by omega), if_neg (show ¬ mo A 43 x1 < 0 by omega), if_pos (show 0 ≤ x2 ∧ x2 ≤ mo A 44 x1 - 1 by omega), if_pos (show (0 ≤ x1 ∧ x1 ≤ 3) ∧ ¬ mo A 43 x1 < 0 ∧ (0 ≤ x2 ∧ x2 ≤ mo A 44 x1 - 1) by omega)]; exact ⟨rfl, rfl⟩
  · refine ⟨hp.cto, fun z => ?_, fun z => absurd (Classical.not_not.mp z) q⟩
    unfold m_cell_r k_cln
    rw [if_neg (by omega), if_neg (fun w => q (by omega))]; exact ⟨rfl, rfl⟩
theorem cl_24 {W : gW} {P : Nat → Int → Nat} {A : Nat → Int → Int} (h : Sta W P A) {x1 x2 x3 : Int} (rr : Rg x1 ∧ Rg x2 ∧ Rg x3) : Cll 118 196 [.int (iz x1), .int (iz x2), .int (iz x3)] W P A := by
  have hr := h.2.2.2.2
  have hx := S118 (d := 190) (by decide) h.1 h.2.1 h.2.2.1 h.2.2.2.1 rr hr
  have hm := fun B => S196 (d := 190) (by decide) (h.ml2 h.2.2.1.1 hr.mod B) (rg_mo h.2.1) rr
  refine stp_m3 h hx (fun c hc => ?_) (hm _) (rg_shn h.2.1 rr.2) ?_ hr.shn
  · have qs := qH_d (s := x1)
    unfold k_shn
    split
    · rename_i q
      have q1 : (0 ≤ x1 ∧ x1 ≤ 3) := q.1.1
      split
      · exact UA_n (by omega)
      · rw [k_fill_n (by omega), UA_n (by omega), UA_n (by omega)]
    · rfl
  · unfold m_sheet_n
    split
    · refine rg_zrn (rg_UA (rg_UA (rg_mo h.2.1) rr.2.1) ?_)
      split
      · decide
      · exact rr.2.2
    · exact rg_mo h.2.1
theorem cl_25 {W : gW} {P : Nat → Int → Nat} {A : Nat → Int → Int} (h : Sta W P A) {x1 x2 x3 : Int} (rr : Rg x1 ∧ Rg x2 ∧ Rg x3) : Cll 121 198 [.int (iz x1), .int (iz x2), .int (iz x3)] W P A := by
  have hr := h.2.2.2.2
  have hx := S121 (d := 190) (by decide) h.1 h.2.1 h.2.2.1 h.2.2.2.1 rr hr
  have hm := fun B => S198 (d := 190) (by decide) (h.ml2 h.2.2.1.1 hr.mod B) (rg_mo h.2.1) rr hr.ok.2.2.2.1
  refine stp_m3 h hx (fun c hc => ?_) (hm _) (rg_cln h.2.1 rr.2.2) ?_ hr.cln
  · have qs := qH_d (s := x1)
    unfold k_cln
    split
    · exact UA_n (by omega)
    · rfl
  · unfold m_cell_n
    split
    · exact rg_UA (rg_mo h.2.1) (rg_cvt rr.2.2)
    · exact rg_mo h.2.1
