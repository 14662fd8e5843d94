theorem S29 {d : Nat} (hd : 2 * 41 + 9 ≤ d) {W : gW} (hW : HW W) {A : Nat → Int → Int} {P : Nat → Int → Nat} (hR : RG A) (hT : Stat W P) (hG : GL W) (t : Int → Int) (p : Int) {x1 x2 : Int} (rr : Rg x1 ∧ Rg x2) (hp : (ExI A P t p) ∧ (ExO 41 x1 x2)) : ∃ (A' : Nat → Int → Int), xev xT d 29 [.ref (lo W 6), .int (iz x1), .int (iz x2)] (Wm W A P) none (Wm W A' P) ∧ RG A' ∧ (ExQ t (rdE t (A 1 1) 41 x1 x2 p) A A') := (E0 41).1 hd hW hR hT hG t p rr hp
def sPass (t : Int → Int) (n due : Int) (r : Bool × Int) : Bool × Int := if r.1 = true then (if tkC t n r.2 = due then (true, if due = 401 then r.2 else tkE t n r.2) else (false, tkB t n r.2)) else r
def sExp (t : Int → Int) (n : Int) (r : Bool × Int) : Bool × Int := if r.1 = true then (if (prR t n r.2).1 = true then (true, (prR t n r.2).2.1) else (false, tkB t n (prR t n r.2).2.1)) else r
def RS (A : Nat → Int → Int) (P : Nat → Int → Nat) (t : Int → Int) (r : Bool × Int) (L : List Int) : Prop := TpR A t ∧ StrA A ∧ P 6 3 = 1 + 1 ∧ (0 ≤ A 6 1 ∧ A 6 1 ≤ 160) ∧ (r.1 = true → A 6 8 = -1 ∧ KCur A t (A 1 1) r.2 ∧ (0 ≤ r.2 ∧ r.2 ≤ A 1 1) ∧ A 6 1 ≤ r.2 ∧ A 6 1 = (L.length : Int) ∧ CdI A 0 L) ∧ (¬ r.1 = true → A 6 8 = r.2 ∧ 0 ≤ r.2 ∧ A 6 4 = 402)
section RSS
variable {A A' : Nat → Int → Int} {P : Nat → Int → Nat} {t : Int → Int} {r : Bool × Int} {L : List Int}
theorem RS.I (h : RS A P t r L) : ExI A P t r.2 := by
  obtain ⟨h1, h2, h3, h4, h5, h6⟩ := h
  refine ⟨h1, h2, h3, h4, ?_⟩
  by_cases c : r.1 = true
  · have := h5 c; exact Or.inl ⟨this.1, this.2.1, this.2.2.1, this.2.2.2.1⟩
  · have := h6 c; exact Or.inr ⟨by omega, this.2.2⟩
theorem RS.g (h : RS A P t r L) : TpR A t ∧ StrA A ∧ (A 6 8 = -1 → ¬ A 6 4 = 401 → 0 ≤ A 6 7 ∧ A 6 7 ≤ A 1 1) := by
  obtain ⟨h1, h2, h3, h4, h5, h6⟩ := h
  refine ⟨h1, h2, fun e8 c => ?_⟩
  by_cases cr : r.1 = true
  · obtain ⟨g1, g2, g3, -⟩ := h5 cr
    have ta := tkE_b (t := t) (n := A 1 1) (p := r.2) g3.2
    have e7 := g2.2.2.1 (by rw [← g2.2.1]; exact c)
    omega
  · have := h6 cr; omega
theorem RS.pass (h : RS A P t r L) {due : Int} (hd : ¬ due = 402) (hp : (A 6 4 = due → (due = 401 → A' = A) ∧ (¬ due = 401 → (¬ A 6 8 = -1 → A' = A) ∧ (A 6 8 = -1 → Fo 6 [] [4, 5, 6, 7] A A' ∧ KCur A' t (A 1 1) (A 6 7)))) ∧ (¬ A 6 4 = due → A' = k_fail A)) : RS A' P t (sPass t (A 1 1) due r) L ∧ A' 1 1 = A 1 1 ∧ Fo 6 [7] [1, 4, 5, 6, 7, 8] A A' := by
  have hI := h.I
  obtain ⟨h1, h2, h3, h4, h5, h6⟩ := h
  have bad : A' = k_fail A → TpR A' t ∧ StrA A' ∧ A' 1 1 = A 1 1 ∧ Fo 6 [7] [1, 4, 5, 6, 7, 8] A A' ∧ (0 ≤ A' 6 1 ∧ A' 6 1 ≤ 160) := fun e => by
    subst e
    obtain ⟨y1, y2, y3, y4⟩ := (fo_fail (A := A)).c1 (by decide) (by decide) (by decide)
    exact ⟨y3 t h1, y4 h2, by rw [y1], fo_fail, (ExQ.bad hI []).2.1⟩
  by_cases cr : r.1 = true
  · obtain ⟨g1, g2, g3, g4, g5, g6⟩ := h5 cr
    have e4 : A 6 4 = tkC t (A 1 1) r.2 := g2.2.1
    unfold sPass
    rw [if_pos cr]
    by_cases cd : A 6 4 = due
    · rw [if_pos (by rw [← e4]; exact cd)]
      by_cases c4 : due = 401
      · rw [if_pos c4]
        have e := (hp.1 cd).1 c4
        subst e
        exact ⟨⟨h1, h2, h3, h4, fun _ => ⟨g1, g2, g3, g4, g5, g6⟩, fun q => absurd rfl q⟩, rfl, Fo.rf⟩
      · rw [if_neg c4]
        obtain ⟨n1, n2, n3, n4, n5, n6, n7, n8, n9⟩ := hI.nx (by omega) Fo.rf (by omega) ((hp.1 cd).2 c4)
        have n10 := n1.2.2.2.2
        have hk : KCur A' t (A' 1 1) (tkE t (A 1 1) r.2) := by
          rcases n10 with q | q
          · exact q.2.1
          · omega
        exact ⟨⟨n1.1, n1.2.1, h3, n1.2.2.2.1, fun _ => ⟨n2, hk, by rw [n4]; omega, n8, by rw [n3]; exact g5, fun i hi => by rw [n5]; exact g6 i hi⟩, fun q => absurd rfl q⟩, n4, n6⟩
    · rw [if_neg (by rw [← e4]; exact cd)]
      have e := hp.2 cd
      obtain ⟨b1, b2, b3, b4, b5⟩ := bad e
      have hb := ((ExQ.bad hI []).2.2.1 g1).2 (by simp)
      rw [← e] at hb
      have tb := tkE_b (t := t) (n := A 1 1) (p := r.2) g3.2
      exact ⟨⟨b1, b2, h3, b5, fun q => ffq q, fun _ => ⟨hb.1, by show 0 ≤ tkB t (A 1 1) r.2; omega, hb.2⟩⟩, b3, b4⟩
  · obtain ⟨g1, g2, g3⟩ := h6 cr
    unfold sPass
    rw [if_neg cr]
    have e := hp.2 (by omega)
    obtain ⟨b1, b2, b3, b4, b5⟩ := bad e
    have hb := (ExQ.bad hI []).2.2.2 (by omega)
    rw [← e] at hb
    exact ⟨⟨b1, b2, h3, b5, fun q => absurd q cr, fun _ => ⟨hb.1.trans g1, g2, hb.2⟩⟩, b3, b4⟩
theorem RS.exp (h : RS A P t r L) (h' : ExQ t (prR t (A 1 1) r.2) A A') : RS A' P t (sExp t (A 1 1) r) (L ++ (prR t (A 1 1) r.2).2.2) ∧ A' 1 1 = A 1 1 ∧ Fo 6 [7] [1, 4, 5, 6, 7, 8] A A' := by
  obtain ⟨h1, h2, h3, h4, h5, h6⟩ := h
  obtain ⟨q1, q2, q3, q4⟩ := h'
  obtain ⟨y1, y2, y3, y4⟩ := q1.c1 (by decide) (by decide) (by decide)
  have e11 : A' 1 1 = A 1 1 := by rw [y1]
  refine ⟨⟨y3 t h1, y4 h2, h3, q2, ?_, ?_⟩, e11, q1⟩
  · intro cs
    by_cases cr : r.1 = true
    · obtain ⟨g1, g2, g3, g4, g5, g6⟩ := h5 cr
      have hrd := rdE_ok (t := t) (n := A 1 1) 41 0 0 r.2 (by decide) g3.1 g3.2
      change RdOK (A 1 1) (prR t (A 1 1) r.2) r.2 at hrd
      unfold sExp at cs ⊢
      rw [if_pos cr] at cs ⊢
      by_cases c2 : (prR t (A 1 1) r.2).1 = true
      · rw [if_pos c2]
        obtain ⟨z1, z2, z3, z4, z5⟩ := (q3 g1).1 c2
        obtain ⟨s1, s2, s3, -⟩ := hrd.1 c2
        refine ⟨z1, by rw [e11]; exact z2, by rw [e11]; exact ⟨by show 0 ≤ (prR t (A 1 1) r.2).2.1; omega, s2⟩, by show _ ≤ (prR t (A 1 1) r.2).2.1; omega, by rw [z3, g5]; simp only [List.length_append]; omega, fun i hi => ?_⟩
        by_cases c1 : i < L.length
        · rw [z4 _ (by omega), g6 i c1, gdA c1]
        · have hi' : i < L.length + (prR t (A 1 1) r.2).2.2.length := by simpa only [List.length_append] using hi
          have z6 := z5 (i - L.length) (by omega)
          rw [show A 6 1 + ((i - L.length : Nat) : Int) = 0 + (i : Int) by omega] at z6
          rw [z6, gdB (by omega)]
      · rw [if_neg c2] at cs; exact ffq cs
    · unfold sExp at cs; rw [if_neg cr] at cs; exact absurd cs cr
  · intro cs
    by_cases cr : r.1 = true
    · obtain ⟨g1, g2, g3, g4, g5, g6⟩ := h5 cr
      have hrd := rdE_ok (t := t) (n := A 1 1) 41 0 0 r.2 (by decide) g3.1 g3.2
      change RdOK (A 1 1) (prR t (A 1 1) r.2) r.2 at hrd
      unfold sExp at cs ⊢
      rw [if_pos cr] at cs ⊢
      by_cases c2 : (prR t (A 1 1) r.2).1 = true
      · rw [if_pos c2] at cs; exact absurd rfl cs
      · rw [if_neg c2]
        obtain ⟨z1, z2⟩ := (q3 g1).2 c2
        have s := hrd.2 c2
        have tb := tkE_b (t := t) (n := A 1 1) (p := (prR t (A 1 1) r.2).2.1) s.2
        exact ⟨z1, by show 0 ≤ tkB t (A 1 1) (prR t (A 1 1) r.2).2.1; omega, z2⟩
    · obtain ⟨g1, g2, g3⟩ := h6 cr
      unfold sExp
      rw [if_neg cr]
      have z := q4 (by omega)
      exact ⟨z.1.trans g1, g2, z.2⟩
theorem RS.fit (h : RS A P t r L) {v : Int} : RS (UA A 6 2 v) P t r L := by
  obtain ⟨h1, h2, h3, h4, h5, h6⟩ := h
  have hF : Fo 6 [] [2] A (UA A 6 2 v) := Fo.rf.fld (by decide)
  obtain ⟨y1, y2, y3, y4⟩ := hF.c1 (by decide) (by decide) (by decide)
  exact ⟨y3 t h1, y4 h2, h3, h4, fun q => h5 q, fun q => h6 q⟩
end RSS
theorem s_id {t : Int → Int} {n due q : Int} : sPass t n due (false, q) = (false, q) ∧ sExp t n (false, q) = (false, q) := ⟨rfl, rfl⟩
theorem s_step {t : Int → Int} {n w p : Int} (hw : w = 0 ∨ w = 1) : sPass t n 59 (sExp t n (sPass t n (200 + w) (true, p))) = if txO t n w p then (true, tkE t n (prR t n (tkE t n p)).2.1) else (false, tkB t n (txF t n w p)) := by
  have e1 : sPass t n (200 + w) (true, p) = if tkC t n p = 200 + w then (true, tkE t n p) else (false, tkB t n p) := by
    show (if true = true then _ else _) = _
    rw [if_pos rfl]
    show (if tkC t n p = 200 + w then (true, if 200 + w = 401 then p else tkE t n p) else (false, tkB t n p)) = _
    rw [if_neg (show ¬ 200 + w = 401 by omega)]
  rw [e1]
  unfold txF
  by_cases c : tkC t n p = 200 + w
  · rw [if_pos c, if_pos c]
    have e2 : sExp t n (true, tkE t n p) = if (prR t n (tkE t n p)).1 = true then (true, (prR t n (tkE t n p)).2.1) else (false, tkB t n (prR t n (tkE t n p)).2.1) := rfl
    rw [e2]
    by_cases c2 : (prR t n (tkE t n p)).1 = true
    · rw [if_pos c2]
      have e3 : sPass t n 59 (true, (prR t n (tkE t n p)).2.1) = if tkC t n (prR t n (tkE t n p)).2.1 = 59 then (true, tkE t n (prR t n (tkE t n p)).2.1) else (false, tkB t n (prR t n (tkE t n p)).2.1) := rfl
      rw [e3]
      by_cases c3 : tkC t n (prR t n (tkE t n p)).2.1 = 59
      · rw [if_pos c3, if_pos ⟨c, c2, c3⟩]
      · rw [if_neg c3, if_neg (fun q => c3 q.2.2)]
    · rw [if_neg c2, if_neg (fun q => c2 q.2.1)]
      exact s_id.1
  · rw [if_neg c, if_neg c, if_neg (fun q => c q.1)]
    rfl
theorem s_all {t : Int → Int} {n : Int} : (txA t n → sPass t n 401 (sPass t n 59 (sExp t n (sPass t n 201 (sPass t n 59 (sExp t n (sPass t n 200 (true, 0))))))) = (true, txQ t n 2) ∧ (sPass t n 200 (true, 0)).2 = tkE t n 0 ∧ (sPass t n 201 (sPass t n 59 (sExp t n (sPass t n 200 (true, 0))))).2 = tkE t n (txQ t n 1)) ∧ (¬ txA t n → sPass t n 401 (sPass t n 59 (sExp t n (sPass t n 201 (sPass t n 59 (sExp t n (sPass t n 200 (true, 0))))))) = (false, txB t n)) := by
  have h1 := s_step (t := t) (n := n) (w := 0) (p := 0) (Or.inl rfl)
  have h2 := s_step (t := t) (n := n) (w := 1) (p := txQ t n 1) (Or.inr rfl)
  change sPass t n 59 (sExp t n (sPass t n 200 (true, 0))) = _ at h1
  change sPass t n 59 (sExp t n (sPass t n 201 (true, txQ t n 1))) = _ at h2
  rw [h1]
  refine ⟨fun h => ?_, fun h => ?_⟩
  · obtain ⟨a, b, c⟩ := h
    rw [if_pos a]
    change sPass t n 401 (sPass t n 59 (sExp t n (sPass t n 201 (true, txQ t n 1)))) = _ ∧ _ ∧ (sPass t n 201 (true, txQ t n 1)).2 = _
    rw [h2, if_pos b]
    refine ⟨?_, ?_, ?_⟩
    · show (if tkC t n (txQ t n 2) = 401 then (true, txQ t n 2) else _) = _
      rw [if_pos c]
    · show (if tkC t n 0 = 200 then (true, tkE t n 0) else (false, tkB t n 0)).2 = _
      rw [if_pos (show tkC t n 0 = 200 from a.1)]
    · show (if tkC t n (txQ t n 1) = 201 then (true, tkE t n (txQ t n 1)) else (false, tkB t n (txQ t n 1))).2 = _
      rw [if_pos (show tkC t n (txQ t n 1) = 201 from b.1)]
  · unfold txB
    by_cases a : txO t n 0 0
    · rw [if_pos a, if_neg (fun q => q a)]
      change sPass t n 401 (sPass t n 59 (sExp t n (sPass t n 201 (true, txQ t n 1)))) = _
      rw [h2]
      by_cases b : txO t n 1 (txQ t n 1)
      · rw [if_pos b, if_neg (fun q => q b)]
        have c : ¬ tkC t n (txQ t n 2) = 401 := fun c => h ⟨a, b, c⟩
        show (if tkC t n (txQ t n 2) = 401 then (true, txQ t n 2) else (false, tkB t n (txQ t n 2))) = _
        rw [if_neg c]
      · rw [if_neg b, if_pos b]; rfl
    · rw [if_neg a, if_pos a]; rfl
theorem V16_0 {d : Nat} (hd : 91 ≤ d) {Q : Option Value → xM → Prop} {t : Int → Int} {W : gW} (hW : HW W) {A : Nat → Int → Int} {P : Nat → Int → Nat} (hR : RG A) (hT : Stat W P) (hG : GL W) (h : (TpR (UA (UA (UA A 6 7 0) 6 8 (-1)) 6 1 0) t) ∧ (StrA (UA (UA (UA A 6 7 0) 6 8 (-1)) 6 1 0)) ∧ ((UP P 6 3 (1 + 1)) 6 3 = 1 + 1) ∧ ((UA (UA (UA A 6 7 0) 6 8 (-1)) 6 1 0) 6 8 = -1 → 0 ≤ (UA (UA (UA A 6 7 0) 6 8 (-1)) 6 1 0) 6 7 ∧ (UA (UA (UA A 6 7 0) 6 8 (-1)) 6 1 0) 6 7 ≤ (UA (UA (UA A 6 7 0) 6 8 (-1)) 6 1 0) 1 1) ∧ (∀ (A_1 : Nat → Int → Int), RG A_1 → ((¬ (UA (UA (UA A 6 7 0) 6 8 (-1)) 6 1 0) 6 8 = -1 → A_1 = (UA (UA (UA A 6 7 0) 6 8 (-1)) 6 1 0)) ∧ ((UA (UA (UA A 6 7 0) 6 8 (-1)) 6 1 0) 6 8 = -1 → Fo 6 [] [4, 5, 6, 7] (UA (UA (UA A 6 7 0) 6 8 (-1)) 6 1 0) A_1 ∧ KCur A_1 t ((UA (UA (UA A 6 7 0) 6 8 (-1)) 6 1 0) 1 1) ((UA (UA (UA A 6 7 0) 6 8 (-1)) 6 1 0) 6 7))) → (TpR A_1 t) ∧ (StrA A_1) ∧ (A_1 6 8 = -1 → ¬ A_1 6 4 = 401 → 0 ≤ A_1 6 7 ∧ A_1 6 7 ≤ A_1 1 1) ∧ (∀ (A_2 : Nat → Int → Int), RG A_2 → ((A_1 6 4 = 200 → ((200 : Int) = 401 → A_2 = A_1) ∧ (¬ (200 : Int) = 401 → (¬ A_1 6 8 = -1 → A_2 = A_1) ∧ (A_1 6 8 = -1 → Fo 6 [] [4, 5, 6, 7] A_1 A_2 ∧ KCur A_2 t (A_1 1 1) (A_1 6 7)))) ∧ (¬ A_1 6 4 = 200 → A_2 = k_fail A_1)) → (ExI A_2 (UP P 6 3 (1 + 1)) t ((sPass t (A 1 1) 200 (true, 0)).2)) ∧ (ExO 41 (0 : Int) (0 : Int)) ∧ (∀ (A_3 : Nat → Int → Int), RG A_3 → (ExQ t (rdE t (A_2 1 1) 41 0 0 ((sPass t (A 1 1) 200 (true, 0)).2)) A_2 A_3) → (TpR A_3 t) ∧ (StrA A_3) ∧ (A_3 6 8 = -1 → ¬ A_3 6 4 = 401 → 0 ≤ A_3 6 7 ∧ A_3 6 7 ≤ A_3 1 1) ∧ (∀ (A_4 : Nat → Int → Int), RG A_4 → ((A_3 6 4 = 59 → ((59 : Int) = 401 → A_4 = A_3) ∧ (¬ (59 : Int) = 401 → (¬ A_3 6 8 = -1 → A_4 = A_3) ∧ (A_3 6 8 = -1 → Fo 6 [] [4, 5, 6, 7] A_3 A_4 ∧ KCur A_4 t (A_3 1 1) (A_3 6 7)))) ∧ (¬ A_3 6 4 = 59 → A_4 = k_fail A_3)) → (TpR (UA A_4 6 2 (A_4 6 1)) t) ∧ (StrA (UA A_4 6 2 (A_4 6 1))) ∧ ((UA A_4 6 2 (A_4 6 1)) 6 8 = -1 → ¬ (UA A_4 6 2 (A_4 6 1)) 6 4 = 401 → 0 ≤ (UA A_4 6 2 (A_4 6 1)) 6 7 ∧ (UA A_4 6 2 (A_4 6 1)) 6 7 ≤ (UA A_4 6 2 (A_4 6 1)) 1 1) ∧ (∀ (A_5 : Nat → Int → Int), RG A_5 → (((UA A_4 6 2 (A_4 6 1)) 6 4 = 201 → ((201 : Int) = 401 → A_5 = (UA A_4 6 2 (A_4 6 1))) ∧ (¬ (201 : Int) = 401 → (¬ (UA A_4 6 2 (A_4 6 1)) 6 8 = -1 → A_5 = (UA A_4 6 2 (A_4 6 1))) ∧ ((UA A_4 6 2 (A_4 6 1)) 6 8 = -1 → Fo 6 [] [4, 5, 6, 7] (UA A_4 6 2 (A_4 6 1)) A_5 ∧ KCur A_5 t ((UA A_4 6 2 (A_4 6 1)) 1 1) ((UA A_4 6 2 (A_4 6 1)) 6 7)))) ∧ (¬ (UA A_4 6 2 (A_4 6 1)) 6 4 = 201 → A_5 = k_fail (UA A_4 6 2 (A_4 6 1)))) → (ExI A_5 (UP P 6 3 (1 + 1)) t ((sPass t (A 1 1) 201 (sPass t (A 1 1) 59 (sExp t (A 1 1) (sPass t (A 1 1) 200 (true, 0))))).2)) ∧ (∀ (A_6 : Nat → Int → Int), RG A_6 → (ExQ t (rdE t (A_5 1 1) 41 0 0 ((sPass t (A 1 1) 201 (sPass t (A 1 1) 59 (sExp t (A 1 1) (sPass t (A 1 1) 200 (true, 0))))).2)) A_5 A_6) → (TpR A_6 t) ∧ (StrA A_6) ∧ (A_6 6 8 = -1 → ¬ A_6 6 4 = 401 → 0 ≤ A_6 6 7 ∧ A_6 6 7 ≤ A_6 1 1) ∧ (∀ (A_7 : Nat → Int → Int), RG A_7 → ((A_6 6 4 = 59 → ((59 : Int) = 401 → A_7 = A_6) ∧ (¬ (59 : Int) = 401 → (¬ A_6 6 8 = -1 → A_7 = A_6) ∧ (A_6 6 8 = -1 → Fo 6 [] [4, 5, 6, 7] A_6 A_7 ∧ KCur A_7 t (A_6 1 1) (A_6 6 7)))) ∧ (¬ A_6 6 4 = 59 → A_7 = k_fail A_6)) → (TpR A_7 t) ∧ (StrA A_7) ∧ (A_7 6 8 = -1 → ¬ A_7 6 4 = 401 → 0 ≤ A_7 6 7 ∧ A_7 6 7 ≤ A_7 1 1) ∧ (∀ (A_8 : Nat → Int → Int), RG A_8 → ((A_7 6 4 = 401 → ((401 : Int) = 401 → A_8 = A_7) ∧ (¬ (401 : Int) = 401 → (¬ A_7 6 8 = -1 → A_8 = A_7) ∧ (A_7 6 8 = -1 → Fo 6 [] [4, 5, 6, 7] A_7 A_8 ∧ KCur A_8 t (A_7 1 1) (A_7 6 7)))) ∧ (¬ A_7 6 4 = 401 → A_8 = k_fail A_7)) → Q (some (.int (iz (A_8 6 8)))) (Wm W A_8 (UP P 6 3 (1 + 1)))))))))))) : wpE (xT 16) (xev xT d) Q (0, [(0, .ref (lo W 6)), (1, .ref (lo W 1))], [], Wm W A P) := by
  refine p_ald (cc3 c16_0) rfl ?_
  refine p_ald (cc3 c16_1) rfl ?_
  refine w_putp hW (cc3 c16_2) (st_k hT 6 11 (by decide)) (ji := 3) rfl (st_a hT 1 (by decide)) ?_
  refine p_ald (cc3 c16_5) rfl ?_
  refine i_push (n := 0) (cc3 c16_6) zl_0 ?_
  refine id (α := Rg 0 → _) (fun _ => ?_) (by decide : Rg (0 : Int)); refine w_puti hW (cc3 c16_7) (st_k (Stat.up (v := 1 + 1) hT (po_l (c := 6) (j := 3) (by decide)) (Or.inr (st_a hT 1 (by decide)))) 6 11 (by decide)) (ji := 7) rfl ?_
  refine p_ald (cc3 c16_10) rfl ?_
  refine i_push (n := (-1)) (cc3 c16_11) zl_m1 ?_
  refine id (α := Rg (-1) → _) (fun _ => ?_) (by decide : Rg (-1 : Int)); refine w_puti hW (cc3 c16_12) (st_k (Stat.up (v := 1 + 1) hT (po_l (c := 6) (j := 3) (by decide)) (Or.inr (st_a hT 1 (by decide)))) 6 11 (by decide)) (ji := 8) rfl ?_
  refine p_ald (cc3 c16_15) rfl ?_
  refine i_push (n := 0) (cc3 c16_16) zl_0 ?_
  refine id (α := Rg 0 → _) (fun _ => ?_) (by decide : Rg (0 : Int)); refine w_puti hW (cc3 c16_17) (st_k (Stat.up (v := 1 + 1) hT (po_l (c := 6) (j := 3) (by decide)) (Or.inr (st_a hT 1 (by decide)))) 6 11 (by decide)) (ji := 1) rfl ?_
  refine p_ald (cc3 c16_20) rfl ?_
  obtain ⟨g1, h⟩ := h
  obtain ⟨g2, h⟩ := h
  obtain ⟨g3, h⟩ := h
  obtain ⟨g4, h⟩ := h
  obtain ⟨A_1, he, hR_1, hp_1⟩ := S17 (A := UA (UA (UA A 6 7 0) 6 8 (-1)) 6 1 0) (P := UP P 6 3 (1 + 1)) (Nat.le_trans (by decide) hd) hW (rg_UA (rg_UA (rg_UA hR (by decide : Rg (0 : Int))) (by decide : Rg (-1 : Int))) (by decide : Rg (0 : Int))) (Stat.up (v := 1 + 1) hT (po_l (c := 6) (j := 3) (by decide)) (Or.inr (st_a hT 1 (by decide)))) hG t ⟨g1, g2, g3, g4⟩
  have h := h A_1 hR_1 hp_1
  refine p_callV (cc3 c16_21) (Nat.le_of_ble_eq_true rfl) rfl rfl (Nat.le_of_ble_eq_true rfl) (wk_kd hW (by decide) (st_k (Stat.up (v := 1 + 1) hT (po_l (c := 6) (j := 3) (by decide)) (Or.inr (st_a hT 1 (by decide)))) 6 11 (by decide))) he ?_
  refine p_ald (cc3 c16_24) rfl ?_
  refine i_push (n := 200) (cc3 c16_25) zl_200 ?_
  obtain ⟨g5, h⟩ := h
  obtain ⟨g6, h⟩ := h
  obtain ⟨g7, h⟩ := h
  obtain ⟨A_2, he, hR_2, hp_2⟩ := S27 (A := A_1) (P := UP P 6 3 (1 + 1)) (Nat.le_trans (by decide) hd) hW hR_1 (Stat.up (v := 1 + 1) hT (po_l (c := 6) (j := 3) (by decide)) (Or.inr (st_a hT 1 (by decide)))) hG t (by decide : Rg (200 : Int)) ⟨g5, g6, g3, g7⟩
  have h := h A_2 hR_2 hp_2
  refine p_callV (cc3 c16_28) (Nat.le_of_ble_eq_true rfl) rfl rfl (Nat.le_of_ble_eq_true rfl) (wk_kd hW (by decide) (st_k (Stat.up (v := 1 + 1) hT (po_l (c := 6) (j := 3) (by decide)) (Or.inr (st_a hT 1 (by decide)))) 6 11 (by decide))) he ?_
  refine p_ald (cc3 c16_31) rfl ?_
  refine i_push (n := 0) (cc3 c16_32) zl_0 ?_
  refine i_push (n := 0) (cc3 c16_33) zl_0 ?_
  obtain ⟨g8, h⟩ := h
  obtain ⟨g9, h⟩ := h
  obtain ⟨A_3, he, hR_3, hp_3⟩ := S29 (A := A_2) (P := UP P 6 3 (1 + 1)) (Nat.le_trans (by decide) hd) hW hR_2 (Stat.up (v := 1 + 1) hT (po_l (c := 6) (j := 3) (by decide)) (Or.inr (st_a hT 1 (by decide)))) hG t ((sPass t (A 1 1) 200 (true, 0)).2) ⟨(by decide : Rg (0 : Int)), (by decide : Rg (0 : Int))⟩ ⟨g8, g9⟩
  have h := h A_3 hR_3 hp_3
  refine p_callV (cc3 c16_34) (Nat.le_of_ble_eq_true rfl) rfl rfl (Nat.le_of_ble_eq_true rfl) (wk_kd hW (by decide) (st_k (Stat.up (v := 1 + 1) hT (po_l (c := 6) (j := 3) (by decide)) (Or.inr (st_a hT 1 (by decide)))) 6 11 (by decide))) he ?_
  refine p_ald (cc3 c16_37) rfl ?_
  refine i_push (n := 59) (cc3 c16_38) zl_59 ?_
  obtain ⟨g10, h⟩ := h
  obtain ⟨g11, h⟩ := h
  obtain ⟨g12, h⟩ := h
  obtain ⟨A_4, he, hR_4, hp_4⟩ := S27 (A := A_3) (P := UP P 6 3 (1 + 1)) (Nat.le_trans (by decide) hd) hW hR_3 (Stat.up (v := 1 + 1) hT (po_l (c := 6) (j := 3) (by decide)) (Or.inr (st_a hT 1 (by decide)))) hG t (by decide : Rg (59 : Int)) ⟨g10, g11, g3, g12⟩
  have h := h A_4 hR_4 hp_4
  refine p_callV (cc3 c16_40) (Nat.le_of_ble_eq_true rfl) rfl rfl (Nat.le_of_ble_eq_true rfl) (wk_kd hW (by decide) (st_k (Stat.up (v := 1 + 1) hT (po_l (c := 6) (j := 3) (by decide)) (Or.inr (st_a hT 1 (by decide)))) 6 11 (by decide))) he ?_
  refine p_ald (cc3 c16_43) rfl ?_
  refine p_ald (cc3 c16_44) rfl ?_
  refine w_geti hW (v := A_4 6 1) (cc3 c16_45) (st_k (Stat.up (v := 1 + 1) hT (po_l (c := 6) (j := 3) (by decide)) (Or.inr (st_a hT 1 (by decide)))) 6 11 (by decide)) (ji := 1) rfl rfl ?_
  refine id (α := Rg (A_4 6 1) → _) (fun _ => ?_) (hR_4 6 1); refine w_puti hW (cc3 c16_48) (st_k (Stat.up (v := 1 + 1) hT (po_l (c := 6) (j := 3) (by decide)) (Or.inr (st_a hT 1 (by decide)))) 6 11 (by decide)) (ji := 2) rfl ?_
  refine p_ald (cc3 c16_51) rfl ?_
  refine i_push (n := 201) (cc3 c16_52) zl_201 ?_
  obtain ⟨g13, h⟩ := h
  obtain ⟨g14, h⟩ := h
  obtain ⟨g15, h⟩ := h
  obtain ⟨A_5, he, hR_5, hp_5⟩ := S27 (A := UA A_4 6 2 (A_4 6 1)) (P := UP P 6 3 (1 + 1)) (Nat.le_trans (by decide) hd) hW (rg_UA hR_4 (hR_4 6 1)) (Stat.up (v := 1 + 1) hT (po_l (c := 6) (j := 3) (by decide)) (Or.inr (st_a hT 1 (by decide)))) hG t (by decide : Rg (201 : Int)) ⟨g13, g14, g3, g15⟩
  have h := h A_5 hR_5 hp_5
  refine p_callV (cc3 c16_55) (Nat.le_of_ble_eq_true rfl) rfl rfl (Nat.le_of_ble_eq_true rfl) (wk_kd hW (by decide) (st_k (Stat.up (v := 1 + 1) hT (po_l (c := 6) (j := 3) (by decide)) (Or.inr (st_a hT 1 (by decide)))) 6 11 (by decide))) he ?_
  refine p_ald (cc3 c16_58) rfl ?_
  refine i_push (n := 0) (cc3 c16_59) zl_0 ?_
  refine i_push (n := 0) (cc3 c16_60) zl_0 ?_
  obtain ⟨g16, h⟩ := h
  obtain ⟨A_6, he, hR_6, hp_6⟩ := S29 (A := A_5) (P := UP P 6 3 (1 + 1)) (Nat.le_trans (by decide) hd) hW hR_5 (Stat.up (v := 1 + 1) hT (po_l (c := 6) (j := 3) (by decide)) (Or.inr (st_a hT 1 (by decide)))) hG t ((sPass t (A 1 1) 201 (sPass t (A 1 1) 59 (sExp t (A 1 1) (sPass t (A 1 1) 200 (true, 0))))).2) ⟨(by decide : Rg (0 : Int)), (by decide : Rg (0 : Int))⟩ ⟨g16, g9⟩
  have h := h A_6 hR_6 hp_6
  refine p_callV (cc3 c16_61) (Nat.le_of_ble_eq_true rfl) rfl rfl (Nat.le_of_ble_eq_true rfl) (wk_kd hW (by decide) (st_k (Stat.up (v := 1 + 1) hT (po_l (c := 6) (j := 3) (by decide)) (Or.inr (st_a hT 1 (by decide)))) 6 11 (by decide))) he ?_
  refine p_ald (cc3 c16_64) rfl ?_
  refine i_push (n := 59) (cc3 c16_65) zl_59 ?_
  obtain ⟨g17, h⟩ := h
  obtain ⟨g18, h⟩ := h
  obtain ⟨g19, h⟩ := h
  obtain ⟨A_7, he, hR_7, hp_7⟩ := S27 (A := A_6) (P := UP P 6 3 (1 + 1)) (Nat.le_trans (by decide) hd) hW hR_6 (Stat.up (v := 1 + 1) hT (po_l (c := 6) (j := 3) (by decide)) (Or.inr (st_a hT 1 (by decide)))) hG t (by decide : Rg (59 : Int)) ⟨g17, g18, g3, g19⟩
  have h := h A_7 hR_7 hp_7
  refine p_callV (cc3 c16_67) (Nat.le_of_ble_eq_true rfl) rfl rfl (Nat.le_of_ble_eq_true rfl) (wk_kd hW (by decide) (st_k (Stat.up (v := 1 + 1) hT (po_l (c := 6) (j := 3) (by decide)) (Or.inr (st_a hT 1 (by decide)))) 6 11 (by decide))) he ?_
  refine p_ald (cc3 c16_70) rfl ?_
  refine i_push (n := 401) (cc3 c16_71) zl_401 ?_
  obtain ⟨g20, h⟩ := h
  obtain ⟨g21, h⟩ := h
  obtain ⟨g22, h⟩ := h
  obtain ⟨A_8, he, hR_8, hp_8⟩ := S27 (A := A_7) (P := UP P 6 3 (1 + 1)) (Nat.le_trans (by decide) hd) hW hR_7 (Stat.up (v := 1 + 1) hT (po_l (c := 6) (j := 3) (by decide)) (Or.inr (st_a hT 1 (by decide)))) hG t (by decide : Rg (401 : Int)) ⟨g20, g21, g3, g22⟩
  have h := h A_8 hR_8 hp_8
  refine p_callV (cc3 c16_74) (Nat.le_of_ble_eq_true rfl) rfl rfl (Nat.le_of_ble_eq_true rfl) (wk_kd hW (by decide) (st_k (Stat.up (v := 1 + 1) hT (po_l (c := 6) (j := 3) (by decide)) (Or.inr (st_a hT 1 (by decide)))) 6 11 (by decide))) he ?_
  refine p_ald (cc3 c16_77) rfl ?_
  refine w_geti hW (v := A_8 6 8) (cc3 c16_78) (st_k (Stat.up (v := 1 + 1) hT (po_l (c := 6) (j := 3) (by decide)) (Or.inr (st_a hT 1 (by decide)))) 6 11 (by decide)) (ji := 8) rfl rfl ?_
  exact p_ri (cc3 c16_81) trivial h
theorem S16 {d : Nat} (hd : 92 ≤ d) {W : gW} (hW : HW W) {A : Nat → Int → Int} {P : Nat → Int → Nat} (hR : RG A) (hT : Stat W P) (hG : GL W) (t : Int → Int) (hp : (TpR A t) ∧ (StrA A)) : ∃ (r : Int) (A' : Nat → Int → Int) (P' : Nat → Int → Nat), xev xT d 16 [.ref (lo W 6), .ref (lo W 1)] (Wm W A P) (some (.int (iz r))) (Wm W A' P') ∧ Rg r ∧ RG A' ∧ Stat W P' ∧ (P' = UP P 6 3 (1 + 1) ∧ Fo 6 [7] [1, 2, 4, 5, 6, 7, 8] A A' ∧ (txA t (A 1 1) → r = -1 ∧ A' 6 2 = ((txRow t (A 1 1) 0).length : Int) ∧ A' 6 1 = ((txRow t (A 1 1) 0 ++ txRow t (A 1 1) 1).length : Int) ∧ CdI A' 0 (txRow t (A 1 1) 0 ++ txRow t (A 1 1) 1)) ∧ (¬ txA t (A 1 1) → r = txB t (A 1 1))) := by
  refine xev_g (i := 16) (as := [.ref (lo W 6), .ref (lo W 1)]) (σ := Wm W A P) (Q := fun r_ σ_ => ∃ (r : Int) (A' : Nat → Int → Int) (P' : Nat → Int → Nat), r_ = (some (.int (iz r))) ∧ σ_ = Wm W A' P' ∧ Rg r ∧ RG A' ∧ Stat W P' ∧ (P' = UP P 6 3 (1 + 1) ∧ Fo 6 [7] [1, 2, 4, 5, 6, 7, 8] A A' ∧ (txA t (A 1 1) → r = -1 ∧ A' 6 2 = ((txRow t (A 1 1) 0).length : Int) ∧ A' 6 1 = ((txRow t (A 1 1) 0 ++ txRow t (A 1 1) 1).length : Int) ∧ CdI A' 0 (txRow t (A 1 1) 0 ++ txRow t (A 1 1) 1)) ∧ (¬ txA t (A 1 1) → r = txB t (A 1 1)))) (D := 91) hd (Nat.le_of_ble_eq_true rfl) (fun r_ σ_ he hq => ?_) (fun d hd => V16_0 hd hW hR hT hG (t := t) ?_)
  · obtain ⟨r, A', P', rfl, rfl, hq⟩ := hq
    exact ⟨r, A', P', he, hq⟩

  obtain ⟨p1, p2⟩ := hp
  have hF0 : Fo 6 [7] [1, 2, 4, 5, 6, 7, 8] A (UA (UA (UA A 6 7 0) 6 8 (-1)) 6 1 0) := ((Fo.rf.fld (by decide)).fld (by decide)).fld (by decide)
  obtain ⟨y1, y2, y3, y4⟩ := hF0.c1 (by decide) (by decide) (by decide)
  have hn := p1.1
  have hPP : (UP P 6 3 (1 + 1)) 6 3 = 1 + 1 := if_pos ⟨rfl, rfl⟩
  have mo : ∀ {B B' : Nat → Int → Int}, Fo 6 [7] [1, 4, 5, 6, 7, 8] B B' → Fo 6 [7] [1, 2, 4, 5, 6, 7, 8] B B' := fun h => h.mono (by simp) (fun j h => by revert h; simp; omega)
  refine ⟨y3 t p1, y4 p2, hPP, fun _ => ⟨Int.le_refl 0, hn.1⟩, fun A1 hR1 h1 => ?_⟩
  obtain ⟨f1, k1⟩ := h1.2 rfl
  have r1 : RS A1 (UP P 6 3 (1 + 1)) t (true, 0) [] := by
    obtain ⟨z1, z2, z3, z4⟩ := f1.c1 (by decide) (by decide) (by decide)
    have e61 : A1 6 1 = 0 := f1.2 1 (by decide)
    have e11 : A1 1 1 = A 1 1 := by rw [z1]; rfl
    exact ⟨z3 t (y3 t p1), z4 (y4 p2), hPP, by omega, fun _ => ⟨f1.2 8 (by decide), by rw [e11]; exact k1, by rw [e11]; exact ⟨Int.le_refl 0, hn.1⟩, by rw [e61]; exact Int.le_refl 0, e61, fun i hi => absurd hi (Nat.not_lt_zero i)⟩, fun q => absurd rfl q⟩
  have n1 : A1 1 1 = A 1 1 := by rw [f1.1 1 (by decide) (by decide)]; rfl
  have F1 := hF0.tr (f1.mono (by simp) (fun j h => by revert h; simp; omega))
  refine ⟨r1.g.1, r1.g.2.1, r1.g.2.2, fun A2 hR2 h2 => ?_⟩
  obtain ⟨r2, n2, g2⟩ := r1.pass (by decide) h2
  rw [n1] at r2 n2
  have F2 := F1.tr (mo g2)
  refine ⟨r2.I, ⟨by decide, by decide, by decide⟩, fun A3 hR3 h3 => ?_⟩
  obtain ⟨r3, n3, g3⟩ := r2.exp h3
  rw [n2] at r3 n3
  have F3 := F2.tr (mo g3)
  refine ⟨r3.g.1, r3.g.2.1, r3.g.2.2, fun A4 hR4 h4 => ?_⟩
  obtain ⟨r4, n4, g4⟩ := r3.pass (by decide) h4
  rw [n3] at r4 n4
  have F4 := F3.tr (mo g4)
  have r4' := r4.fit (v := A4 6 1)
  have n4' : (UA A4 6 2 (A4 6 1)) 1 1 = A 1 1 := n4
  have F4' : Fo 6 [7] [1, 2, 4, 5, 6, 7, 8] A (UA A4 6 2 (A4 6 1)) := F4.fld (by decide)
  refine ⟨r4'.g.1, r4'.g.2.1, r4'.g.2.2, fun A5 hR5 h5 => ?_⟩
  obtain ⟨r5, n5, g5⟩ := r4'.pass (by decide) h5
  rw [n4'] at r5 n5
  have F5 := F4'.tr (mo g5)
  refine ⟨r5.I, fun A6 hR6 h6 => ?_⟩
  obtain ⟨r6, n6, g6⟩ := r5.exp h6
  rw [n5] at r6 n6
  have F6 := F5.tr (mo g6)
  refine ⟨r6.g.1, r6.g.2.1, r6.g.2.2, fun A7 hR7 h7 => ?_⟩
  obtain ⟨r7, n7, g7⟩ := r6.pass (by decide) h7
  rw [n6] at r7 n7
  have F7 := F6.tr (mo g7)
  refine ⟨r7.g.1, r7.g.2.1, r7.g.2.2, fun A8 hR8 h8 => ?_⟩
  obtain ⟨r8, n8, g8⟩ := r7.pass (by decide) h8
  rw [n7] at r8 n8
  have F8 := F7.tr (mo g8)
  have hs := s_all (t := t) (n := A 1 1)
  refine ⟨A8 6 8, A8, UP P 6 3 (1 + 1), rfl, rfl, hR8 _ _, hR8, Stat.up hT (po_l (c := 6) (j := 3) (by decide)) (Or.inr (st_a hT 1 (by decide))), rfl, F8, fun hA => ?_, fun hA => ?_⟩
  · obtain ⟨s1, s2, s3⟩ := hs.1 hA
    rw [s1] at r8
    rw [s2, s3] at r8
    obtain ⟨-, -, -, -, w5, -⟩ := r8
    obtain ⟨x1, x2, x3, x4, x5, x6⟩ := w5 rfl
    have e62 : A8 6 2 = A4 6 1 := by rw [g8.2 2 (by decide), g7.2 2 (by decide), g6.2 2 (by decide), g5.2 2 (by decide)]; exact UA_eq
    have c4 : (sPass t (A 1 1) 59 (sExp t (A 1 1) (sPass t (A 1 1) 200 (true, 0)))).1 = true := by
      have := s_step (t := t) (n := A 1 1) (w := 0) (p := 0) (Or.inl rfl)
      change sPass t (A 1 1) 59 (sExp t (A 1 1) (sPass t (A 1 1) 200 (true, 0))) = _ at this
      rw [this, if_pos hA.1]
    have x7 := (r4.2.2.2.2.1 c4).2.2.2.2.1
    rw [s2] at x7
    exact ⟨x1, by rw [e62, x7]; rfl, x5, x6⟩
  · rw [hs.2 hA] at r8
    exact (r8.2.2.2.2.2 (by simp)).1
