theorem L29 {f d : Nat} (hd : 2 * f + 10 ≤ d) {Q : Option Value → xM → Prop} {t : Int → Int} (S29 : ∀ {d : Nat} (hd : 2 * f + 9 ≤ d) {W : gW} (hW : HW W) {A : Nat → Int → Int} {P : Nat → Int → Nat} (hR : RG A) (hT : Stat W P) (hG : GL W) (t : Int → Int) (p : Int) {x1 x2 : Int} (rr : Rg x1 ∧ Rg x2) (hp : (ExI A P t p) ∧ (ExO f x1 x2)), ∃ (A' : Nat → Int → Int), xev xT d 29 [.ref (lo W 6), .int (iz x1), .int (iz x2)] (Wm W A P) none (Wm W A' P) ∧ RG A' ∧ (ExQ t (rdE t (A 1 1) f x1 x2 p) A A')) (S30 : ∀ {d : Nat} (hd : 2 * (f + 1) + 8 ≤ d) {W : gW} (hW : HW W) {A : Nat → Int → Int} {P : Nat → Int → Nat} (hR : RG A) (hT : Stat W P) (hG : GL W) (t : Int → Int) (p : Int) {x1 : Int} (rr : Rg x1) (hp : (ExI A P t p) ∧ (ExO (f + 1) 5 x1)), ∃ (A' : Nat → Int → Int), xev xT d 30 [.ref (lo W 6), .int (iz x1)] (Wm W A P) none (Wm W A' P) ∧ RG A' ∧ (ExQ t (rdE t (A 1 1) (f + 1) 5 x1 p) A A')) {W : gW} (hW : HW W) {A : Nat → Int → Int} {P : Nat → Int → Nat} (hT : Stat W P) (hG : GL W) {p l op x3 : Int} (hp : ExI A P t p) (e8 : A 6 8 = -1) (hl : 0 ≤ l ∧ l ≤ 4) (hop : 0 ≤ op ∧ op ≤ 5) (hf : (5 - op) * 7 + 6 - (l + 1) ≤ f) (h3 : 0 ≤ x3 ∧ x3 ≤ 1000) :
    ∀ (k : Nat) (x4 : Int) (A1 : Nat → Int → Int) (q : Int) (o : List Int), 0 ≤ x4 → x4 + k = x3 → RG A1 → ExQ t (true, q, o) A A1 → (0 ≤ q ∧ q ≤ A 1 1) → A1 6 1 ≤ q → (∀ A', RG A' → ExQ t (rdL t (A 1 1) (rdE t (A 1 1) f (l + 1) op) l k q o) A A' → Q none (Wm W A' P)) → wpE (xT 29) (xev xT d) Q (78, [(0, .ref (lo W 6)), (1, .int (iz l)), (2, .int (iz op)), (3, .int (iz x3)), (4, .int (iz x4))], [], Wm W A1 P) := by
  intro k
  induction k with
  | zero =>
    intro x4 A1 q o hx0 hx hR h1 hq hk hQ
    exact V29_78 (t := t) (p := p) hd S29 S30 hW hR hT hG ⟨⟨by omega, by omega⟩, ⟨by omega, by omega⟩, ⟨by omega, by omega⟩, ⟨by omega, by omega⟩⟩ ⟨fun _ => hQ A1 hR h1, fun c => absurd (by omega) c⟩
  | succ k ih =>
    intro x4 A1 q o hx0 hx hR h1 hq hk hQ
    obtain ⟨hI, e11, e18⟩ := hp.of e8 h1 hq hk
    have h61 := hI.2.2.2.1
    have h1' := (h1.2.2.1 e8).1 rfl
    have e4 : A1 6 4 = tkC t (A 1 1) q := h1'.2.1.2.1
    have hrd : rdL t (A 1 1) (rdE t (A 1 1) f (l + 1) op) l (k + 1) q o = if lvC (tkC t (A 1 1) q) = l then (if (rdE t (A 1 1) f (l + 1) op (tkE t (A 1 1) q)).1 = true then rdL t (A 1 1) (rdE t (A 1 1) f (l + 1) op) l k (rdE t (A 1 1) f (l + 1) op (tkE t (A 1 1) q)).2.1 (o ++ (rdE t (A 1 1) f (l + 1) op (tkE t (A 1 1) q)).2.2 ++ [-(tkC t (A 1 1) q)]) else (false, (rdE t (A 1 1) f (l + 1) op (tkE t (A 1 1) q)).2.1, [])) else (true, q, o) := rfl
    rw [hrd] at hQ
    refine V29_78 (t := t) (p := q) hd S29 S30 hW hR hT hG ⟨⟨by omega, by omega⟩, ⟨by omega, by omega⟩, ⟨by omega, by omega⟩, ⟨by omega, by omega⟩⟩ ⟨fun c => absurd c (by omega), fun _ => ⟨fun c => ?_, fun c => ?_⟩⟩
    · have hcc := lvC_c c hl.1
      have hc : ¬ A1 6 4 = 402 ∧ ¬ A1 6 4 = 401 := by omega
      have g7 := hI.g7 hc
      rw [if_pos (by rw [← e4]; exact c)] at hQ
      refine ⟨hI.1, hI.2.1, hI.2.2.1, fun _ => by omega, fun A2 hR2 h2 => ?_⟩
      obtain ⟨n1, n2, n3, n4, n5, n6, n7, n8, n9⟩ := hI.nx hc Fo.rf (by omega) h2
      rw [e11] at n1 n4 n7 n8
      rw [e11]
      refine ⟨⟨by omega, by omega⟩, n1, ⟨by omega, hop, hf⟩, fun A3 hR3 h3 => ?_⟩
      rw [n4] at h3
      have hsub := rdE_ok (t := t) (n := A 1 1) f (l + 1) op (tkE t (A 1 1) q) (by omega) (by omega) n7.2.2
      have ap := ExQ.app (w := -(A1 6 4)) (L0 := o) hp.1.1.2 ⟨e8, n2⟩ n4 (h1.1.tr n6) hp.2.2.2.1.1 (by rw [n3]; exact h1'.2.2.1) (by omega) ⟨fun i hi => by rw [n5]; exact h1'.2.2.2.1 i hi, fun i hi => by rw [n5]; exact h1'.2.2.2.2 i hi⟩ hsub h3
      refine ⟨⟨by omega, by omega⟩, ap.2.2.1, ⟨by omega, by omega⟩, ?_⟩
      have hRE := rg_emit (w := -(A1 6 4)) hR3 ⟨by omega, by omega⟩ ap.2.2.1
      by_cases cr : (rdE t (A 1 1) f (l + 1) op (tkE t (A 1 1) q)).1 = true
      · rw [if_pos cr] at hQ
        obtain ⟨z1, z2, z3, z4, z5, z6, z7, z8⟩ := ap.2.2.2.1 cr
        rw [← e4] at hQ
        exact ih (x4 + 1) (k_emit A3 (-(A1 6 4))) (rdE t (A 1 1) f (l + 1) op (tkE t (A 1 1) q)).2.1 (o ++ (rdE t (A 1 1) f (l + 1) op (tkE t (A 1 1) q)).2.2 ++ [-(A1 6 4)]) (by omega) (by omega) hRE ⟨ap.1, ap.2.1, fun _ => ⟨fun _ => ⟨z1, z2, z3, z4, z5⟩, fun q => absurd rfl q⟩, fun q => by omega⟩ ⟨by omega, z8⟩ z6 hQ
      · rw [if_neg cr] at hQ
        obtain ⟨z1, z2, z3, z4⟩ := ap.2.2.2.2 cr
        have fin := hQ _ hRE ⟨ap.1, ap.2.1, fun _ => ⟨fun q => ffq q, fun _ => ⟨z1, z2⟩⟩, fun q => by omega⟩
        have hlv : ¬ lvC ((k_emit A3 (-(A1 6 4))) 6 4) = l := by rw [z2]; show ¬ (-1 : Int) = l; omega
        exact V29_78 (t := t) (p := q) hd S29 S30 hW hRE hT hG ⟨⟨by omega, by omega⟩, ⟨by omega, by omega⟩, ⟨by omega, by omega⟩, ⟨by omega, by omega⟩⟩ ⟨fun _ => fin, fun _ => ⟨fun c => absurd c hlv, fun _ => fin⟩⟩
    · rw [if_neg (by rw [← e4]; exact c)] at hQ
      exact hQ A1 hR h1
theorem L29b {f d : Nat} (hd : 2 * f + 10 ≤ d) {Q : Option Value → xM → Prop} {t : Int → Int} (S29 : ∀ {d : Nat} (hd : 2 * f + 9 ≤ d) {W : gW} (hW : HW W) {A : Nat → Int → Int} {P : Nat → Int → Nat} (hR : RG A) (hT : Stat W P) (hG : GL W) (t : Int → Int) (p : Int) {x1 x2 : Int} (rr : Rg x1 ∧ Rg x2) (hp : (ExI A P t p) ∧ (ExO f x1 x2)), ∃ (A' : Nat → Int → Int), xev xT d 29 [.ref (lo W 6), .int (iz x1), .int (iz x2)] (Wm W A P) none (Wm W A' P) ∧ RG A' ∧ (ExQ t (rdE t (A 1 1) f x1 x2 p) A A')) (S30 : ∀ {d : Nat} (hd : 2 * (f + 1) + 8 ≤ d) {W : gW} (hW : HW W) {A : Nat → Int → Int} {P : Nat → Int → Nat} (hR : RG A) (hT : Stat W P) (hG : GL W) (t : Int → Int) (p : Int) {x1 : Int} (rr : Rg x1) (hp : (ExI A P t p) ∧ (ExO (f + 1) 5 x1)), ∃ (A' : Nat → Int → Int), xev xT d 30 [.ref (lo W 6), .int (iz x1)] (Wm W A P) none (Wm W A' P) ∧ RG A' ∧ (ExQ t (rdE t (A 1 1) (f + 1) 5 x1 p) A A')) {W : gW} (hW : HW W) {A : Nat → Int → Int} {P : Nat → Int → Nat} (hR : RG A) (hT : Stat W P) (hG : GL W) {l op x3 x4 : Int} (rr : Rg l ∧ Rg op ∧ Rg x3 ∧ Rg x4) (hl : 0 ≤ l) (h4 : A 6 4 = 402) (hQ : Q none (Wm W A P)) : wpE (xT 29) (xev xT d) Q (78, [(0, .ref (lo W 6)), (1, .int (iz l)), (2, .int (iz op)), (3, .int (iz x3)), (4, .int (iz x4))], [], Wm W A P) := by
  have hlv : ¬ lvC (A 6 4) = l := by rw [h4]; show ¬ (-1 : Int) = l; omega
  exact V29_78 (t := t) (p := 0) hd S29 S30 hW hR hT hG rr ⟨fun _ => hQ, fun _ => ⟨fun c => absurd c hlv, fun _ => hQ⟩⟩
theorem E29 {f : Nat} (S29 : ∀ {d : Nat} (hd : 2 * f + 9 ≤ d) {W : gW} (hW : HW W) {A : Nat → Int → Int} {P : Nat → Int → Nat} (hR : RG A) (hT : Stat W P) (hG : GL W) (t : Int → Int) (p : Int) {x1 x2 : Int} (rr : Rg x1 ∧ Rg x2) (hp : (ExI A P t p) ∧ (ExO f x1 x2)), ∃ (A' : Nat → Int → Int), xev xT d 29 [.ref (lo W 6), .int (iz x1), .int (iz x2)] (Wm W A P) none (Wm W A' P) ∧ RG A' ∧ (ExQ t (rdE t (A 1 1) f x1 x2 p) A A')) (S30 : ∀ {d : Nat} (hd : 2 * (f + 1) + 8 ≤ d) {W : gW} (hW : HW W) {A : Nat → Int → Int} {P : Nat → Int → Nat} (hR : RG A) (hT : Stat W P) (hG : GL W) (t : Int → Int) (p : Int) {x1 : Int} (rr : Rg x1) (hp : (ExI A P t p) ∧ (ExO (f + 1) 5 x1)), ∃ (A' : Nat → Int → Int), xev xT d 30 [.ref (lo W 6), .int (iz x1)] (Wm W A P) none (Wm W A' P) ∧ RG A' ∧ (ExQ t (rdE t (A 1 1) (f + 1) 5 x1 p) A A')) : ∀ {d : Nat} (hd : 2 * (f + 1) + 9 ≤ d) {W : gW} (hW : HW W) {A : Nat → Int → Int} {P : Nat → Int → Nat} (hR : RG A) (hT : Stat W P) (hG : GL W) (t : Int → Int) (p : Int) {x1 x2 : Int} (rr : Rg x1 ∧ Rg x2) (hp : (ExI A P t p) ∧ (ExO (f + 1) x1 x2)), ∃ (A' : Nat → Int → Int), xev xT d 29 [.ref (lo W 6), .int (iz x1), .int (iz x2)] (Wm W A P) none (Wm W A' P) ∧ RG A' ∧ (ExQ t (rdE t (A 1 1) (f + 1) x1 x2 p) A A') := by
  intro d hd W hW A P hR hT hG t p x1 x2 rr hp
  obtain ⟨hp1, hp2⟩ := hp
  obtain ⟨o1, o2, o3⟩ := hp2
  have h61 := hp1.2.2.2.1
  refine xev_g (i := 29) (as := [.ref (lo W 6), .int (iz x1), .int (iz x2)]) (σ := Wm W A P) (Q := fun r_ σ_ => ∃ (A' : Nat → Int → Int), r_ = none ∧ σ_ = Wm W A' P ∧ RG A' ∧ (ExQ t (rdE t (A 1 1) (f + 1) x1 x2 p) A A')) (D := 2 * f + 10) (by omega) (Nat.le_of_ble_eq_true rfl) (fun r_ σ_ he hq => ?_) (fun d hd => V29_0 hd S29 S30 hW hR hT hG (t := t) (p := p) rr ?_)
  · obtain ⟨A', rfl, rfl, hq⟩ := hq
    exact ⟨A', he, hq⟩
  refine ⟨fun c => ⟨fun c2 => ⟨fun c4 => ?_, fun c4 => ?_⟩, fun c2 => ?_⟩, fun c => ?_⟩
  · have hc : ¬ A 6 4 = 402 ∧ ¬ A 6 4 = 401 := by omega
    have g := hp1.good hc.1
    have g7 := hp1.g7 hc
    have er : rdE t (A 1 1) (f + 1) x1 x2 p = if 5 ≤ x2 then (false, p, []) else if (rdE t (A 1 1) f 2 (x2 + 1) (tkE t (A 1 1) p)).1 = true then (true, (rdE t (A 1 1) f 2 (x2 + 1) (tkE t (A 1 1) p)).2.1, (rdE t (A 1 1) f 2 (x2 + 1) (tkE t (A 1 1) p)).2.2 ++ [-204]) else (false, (rdE t (A 1 1) f 2 (x2 + 1) (tkE t (A 1 1) p)).2.1, []) := by
      show (if (5 : Int) ≤ x1 then _ else _) = _
      rw [if_neg (by omega), if_pos ⟨c2, by omega⟩]
    refine ⟨fun c5 => ?_, fun c5 => ?_⟩
    · rw [may_f c5]
      refine ⟨_, rfl, rfl, rg_fail hR, ?_⟩
      rw [er, if_pos (by omega)]
      exact ExQ.bad hp1 _
    · rw [may_e c5]
      refine ⟨hp1.1, hp1.2.1, hp1.2.2.1, fun _ => by omega, fun A1 hR1 h1 => ?_⟩
      obtain ⟨n1, n2, n3, n4, n5, n6, n7, n8, n9⟩ := hp1.nx hc Fo.rf (by omega) h1
      refine ⟨⟨by omega, by omega⟩, n1, ⟨by omega, by omega, by omega⟩, fun A2 hR2 h2 => ?_⟩
      rw [n4] at h2
      have ap := ExQ.app (w := -204) (L0 := []) hp1.1.1.2 ⟨g.1, n2⟩ n4 n6 hp1.2.2.2.1.1 (by rw [n3]; exact (Int.add_zero _).symm) (by omega) ⟨fun i hi => by rw [n5], fun i hi => absurd hi (Nat.not_lt_zero i)⟩ (rdE_ok (t := t) f 2 (x2 + 1) (tkE t (A 1 1) p) (by decide) (by omega) n7.2.2) h2
      refine ⟨ap.2.2.1, _, rfl, rfl, rg_emit hR2 (by decide) ap.2.2.1, ?_⟩
      rw [er, if_neg (by omega)]
      exact ExQ.fin g.1 ap.1 ap.2.1 (fun q => ⟨(ap.2.2.2.1 q).1, (ap.2.2.2.1 q).2.1, (ap.2.2.2.1 q).2.2.1, (ap.2.2.2.1 q).2.2.2.1, (ap.2.2.2.1 q).2.2.2.2.1⟩) (fun q => ⟨(ap.2.2.2.2 q).1, (ap.2.2.2.2 q).2.1⟩)
  · refine ⟨⟨by omega, by omega⟩, ⟨hp1, ⟨by omega, o2, by omega⟩, fun A1 hR1 h1 => ?_⟩⟩
    have hsub := fun (h0 : 0 ≤ p ∧ p ≤ A 1 1) => rdE_ok (t := t) (n := A 1 1) f (x1 + 1) x2 p (by omega) h0.1 h0.2
    have LP : ∀ (x3 : Int) (k : Nat), x3 = k → k = (if x1 = 2 then 1 else 160) → wpE (xT 29) (xev xT d) (fun r_ σ_ => ∃ (A' : Nat → Int → Int), r_ = none ∧ σ_ = Wm W A' P ∧ RG A' ∧ (ExQ t (rdE t (A 1 1) (f + 1) x1 x2 p) A A')) (78, [(0, .ref (lo W 6)), (1, .int (iz x1)), (2, .int (iz x2)), (3, .int (iz x3)), (4, .int (iz 0))], [], Wm W A1 P) := by
      intro x3 k hx3 hk
      have hk1 : (k : Int) ≤ 160 := by rw [hk]; split <;> decide
      by_cases e8 : A 6 8 = -1
      · have g : KCur A t (A 1 1) p ∧ (0 ≤ p ∧ p ≤ A 1 1) ∧ A 6 1 ≤ p := by
          rcases hp1.2.2.2.2 with q | q
          · exact q.2
          · omega
        have er : rdE t (A 1 1) (f + 1) x1 x2 p = if (rdE t (A 1 1) f (x1 + 1) x2 p).1 = true then rdL t (A 1 1) (rdE t (A 1 1) f (x1 + 1) x2) x1 k (rdE t (A 1 1) f (x1 + 1) x2 p).2.1 (rdE t (A 1 1) f (x1 + 1) x2 p).2.2 else (false, (rdE t (A 1 1) f (x1 + 1) x2 p).2.1, []) := by
          show (if (5 : Int) ≤ x1 then _ else _) = _
          rw [if_neg (by omega), if_neg (by have := g.1.2.1; omega), hk]
        obtain ⟨q1, q2, q3, -⟩ := h1
        by_cases cr : (rdE t (A 1 1) f (x1 + 1) x2 p).1 = true
        · obtain ⟨s1, s2, s3, -⟩ := (hsub g.2.1).1 cr
          obtain ⟨z1, z2, z3, z4, z5⟩ := (q3 e8).1 cr
          refine L29 hd S29 S30 hW hT hG hp1 e8 ⟨by omega, by omega⟩ o2 (by omega) ⟨by omega, by omega⟩ k 0 A1 (rdE t (A 1 1) f (x1 + 1) x2 p).2.1 (rdE t (A 1 1) f (x1 + 1) x2 p).2.2 (Int.le_refl 0) (by omega) hR1 ⟨q1, q2, fun _ => ⟨fun _ => ⟨z1, z2, z3, z4, z5⟩, fun q => absurd rfl q⟩, fun q => by omega⟩ ⟨by omega, s2⟩ (by rw [z3]; omega) (fun A' hR' h' => ⟨A', rfl, rfl, hR', ?_⟩)
          rw [er, if_pos cr]; exact h'
        · obtain ⟨z1, z2⟩ := (q3 e8).2 cr
          refine L29b hd (t := t) S29 S30 hW hR1 hT hG ⟨rr.1, rr.2, ⟨by omega, by omega⟩, by decide⟩ (by omega) z2 ⟨A1, rfl, rfl, hR1, ?_⟩
          rw [er, if_neg cr]
          exact ⟨q1, q2, fun _ => ⟨fun q => ffq q, fun _ => ⟨z1, z2⟩⟩, fun q => by omega⟩
      · have hb : 0 ≤ A 6 8 := by
          rcases hp1.2.2.2.2 with q | q
          · exact absurd q.1 e8
          · exact q.1
        have z := h1.2.2.2 hb
        exact L29b hd (t := t) S29 S30 hW hR1 hT hG ⟨rr.1, rr.2, ⟨by omega, by omega⟩, by decide⟩ (by omega) z.2 ⟨A1, rfl, rfl, hR1, h1.1, h1.2.1, fun q => absurd q e8, fun _ => z⟩
    exact ⟨fun c2 => LP 1 1 rfl (by rw [if_pos c2]), fun c2 => LP 160 160 rfl (by rw [if_neg c2])⟩
  · refine ⟨⟨by omega, by omega⟩, ⟨hp1, ⟨by omega, o2, by omega⟩, fun A1 hR1 h1 => ?_⟩⟩
    have hsub := fun (h0 : 0 ≤ p ∧ p ≤ A 1 1) => rdE_ok (t := t) (n := A 1 1) f (x1 + 1) x2 p (by omega) h0.1 h0.2
    have LP : ∀ (x3 : Int) (k : Nat), x3 = k → k = (if x1 = 2 then 1 else 160) → wpE (xT 29) (xev xT d) (fun r_ σ_ => ∃ (A' : Nat → Int → Int), r_ = none ∧ σ_ = Wm W A' P ∧ RG A' ∧ (ExQ t (rdE t (A 1 1) (f + 1) x1 x2 p) A A')) (78, [(0, .ref (lo W 6)), (1, .int (iz x1)), (2, .int (iz x2)), (3, .int (iz x3)), (4, .int (iz 0))], [], Wm W A1 P) := by
      intro x3 k hx3 hk
      have hk1 : (k : Int) ≤ 160 := by rw [hk]; split <;> decide
      by_cases e8 : A 6 8 = -1
      · have g : KCur A t (A 1 1) p ∧ (0 ≤ p ∧ p ≤ A 1 1) ∧ A 6 1 ≤ p := by
          rcases hp1.2.2.2.2 with q | q
          · exact q.2
          · omega
        have er : rdE t (A 1 1) (f + 1) x1 x2 p = if (rdE t (A 1 1) f (x1 + 1) x2 p).1 = true then rdL t (A 1 1) (rdE t (A 1 1) f (x1 + 1) x2) x1 k (rdE t (A 1 1) f (x1 + 1) x2 p).2.1 (rdE t (A 1 1) f (x1 + 1) x2 p).2.2 else (false, (rdE t (A 1 1) f (x1 + 1) x2 p).2.1, []) := by
          show (if (5 : Int) ≤ x1 then _ else _) = _
          rw [if_neg (by omega), if_neg (by have := g.1.2.1; omega), hk]
        obtain ⟨q1, q2, q3, -⟩ := h1
        by_cases cr : (rdE t (A 1 1) f (x1 + 1) x2 p).1 = true
        · obtain ⟨s1, s2, s3, -⟩ := (hsub g.2.1).1 cr
          obtain ⟨z1, z2, z3, z4, z5⟩ := (q3 e8).1 cr
          refine L29 hd S29 S30 hW hT hG hp1 e8 ⟨by omega, by omega⟩ o2 (by omega) ⟨by omega, by omega⟩ k 0 A1 (rdE t (A 1 1) f (x1 + 1) x2 p).2.1 (rdE t (A 1 1) f (x1 + 1) x2 p).2.2 (Int.le_refl 0) (by omega) hR1 ⟨q1, q2, fun _ => ⟨fun _ => ⟨z1, z2, z3, z4, z5⟩, fun q => absurd rfl q⟩, fun q => by omega⟩ ⟨by omega, s2⟩ (by rw [z3]; omega) (fun A' hR' h' => ⟨A', rfl, rfl, hR', ?_⟩)
          rw [er, if_pos cr]; exact h'
        · obtain ⟨z1, z2⟩ := (q3 e8).2 cr
          refine L29b hd (t := t) S29 S30 hW hR1 hT hG ⟨rr.1, rr.2, ⟨by omega, by omega⟩, by decide⟩ (by omega) z2 ⟨A1, rfl, rfl, hR1, ?_⟩
          rw [er, if_neg cr]
          exact ⟨q1, q2, fun _ => ⟨fun q => ffq q, fun _ => ⟨z1, z2⟩⟩, fun q => by omega⟩
      · have hb : 0 ≤ A 6 8 := by
          rcases hp1.2.2.2.2 with q | q
          · exact absurd q.1 e8
          · exact q.1
        have z := h1.2.2.2 hb
        exact L29b hd (t := t) S29 S30 hW hR1 hT hG ⟨rr.1, rr.2, ⟨by omega, by omega⟩, by decide⟩ (by omega) z.2 ⟨A1, rfl, rfl, hR1, h1.1, h1.2.1, fun q => absurd q e8, fun _ => z⟩
    exact ⟨fun c2 => LP 1 1 rfl (by rw [if_pos c2]), fun c2 => LP 160 160 rfl (by rw [if_neg c2])⟩
  · have e : x1 = 5 := by omega
    subst e
    exact ⟨hp1, ⟨by omega, o2, by omega⟩, fun A1 hR1 h1 => ⟨A1, rfl, rfl, hR1, h1⟩⟩
theorem E0 : ∀ f : Nat, (∀ {d : Nat} (hd : 2 * f + 9 ≤ d) {W : gW} (hW : HW W) {A : Nat → Int → Int} {P : Nat → Int → Nat} (hR : RG A) (hT : Stat W P) (hG : GL W) (t : Int → Int) (p : Int) {x1 x2 : Int} (rr : Rg x1 ∧ Rg x2) (hp : (ExI A P t p) ∧ (ExO f x1 x2)), ∃ (A' : Nat → Int → Int), xev xT d 29 [.ref (lo W 6), .int (iz x1), .int (iz x2)] (Wm W A P) none (Wm W A' P) ∧ RG A' ∧ (ExQ t (rdE t (A 1 1) f x1 x2 p) A A')) ∧ (∀ {d : Nat} (hd : 2 * f + 8 ≤ d) {W : gW} (hW : HW W) {A : Nat → Int → Int} {P : Nat → Int → Nat} (hR : RG A) (hT : Stat W P) (hG : GL W) (t : Int → Int) (p : Int) {x1 : Int} (rr : Rg x1) (hp : (ExI A P t p) ∧ (ExO f 5 x1)), ∃ (A' : Nat → Int → Int), xev xT d 30 [.ref (lo W 6), .int (iz x1)] (Wm W A P) none (Wm W A' P) ∧ RG A' ∧ (ExQ t (rdE t (A 1 1) f 5 x1 p) A A')) := by
  intro f
  induction f with
  | zero =>
    refine ⟨?_, ?_⟩
    · intro d hd W hW A P hR hT hG t p x1 x2 rr hp
      obtain ⟨-, o1, o2, o3⟩ := hp
      omega
    · intro d hd W hW A P hR hT hG t p x1 rr hp
      obtain ⟨-, o1, o2, o3⟩ := hp
      omega
  | succ f ih =>
    exact ⟨E29 ih.1 (E30 ih.1 ih.2), E30 ih.1 ih.2⟩
