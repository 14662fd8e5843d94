/-- the law on the machine, out of the pure claim -/
theorem start_of_pure (hp : PureClaim) {p : Program} {e : Env} {s : State} {m : MethodId} {below : List Frame} {meth : Method} {c : Code} (l : Launch) {b L : Nat} {xs : Nat → Int32} (hL : L ≤ 3072) (C0 : lw_At p s m meth c b L xs) : W p l e room_1 s m #[Value.ref b] below meth c s.heap [] 0 0 (lw_Z below #[Value.ref b] s) (entryFrame m ([Value.ref b] : List Value).toArray 4) := by
  obtain ⟨hx, hb, hr, hml, hown, hts, hX, hbl, hlocks, hgv⟩ := C0
  obtain ⟨G, adV, t, hB, hG, hK, hinj, ht, hT, hbt, hcl⟩ := gf_ex hts hgv hbl
  obtain ⟨σ, hSt, hP, hO⟩ := start_mem hX hbl hB hK hinj ht hT hbt hcl
  obtain ⟨σf, ⟨n, w⟩, m1, m2⟩ := hp L xs σ b hL hSt
  have X : XC G p s m #[Value.ref b] meth c "KiltRoomLaw" code 4 (some .boolean) meth.name := ⟨hx, hb, hr, hml, hown, fun w hw => hts w (List.mem_filter.mp hw).1, hlocks, hG, rfl⟩
  have hE : RetOK G p l e room_1 s m #[Value.ref b] below meth c σ (lw_Z below #[Value.ref b] s) code (some .boolean) (some (.int 1)) σf := by
    intro pc ls st H locs ins hret hd hP hO hS
    rcases hret with ⟨rfl, x, ty, h1, h2, h3, rfl⟩ | ⟨rfl, x, h1, h3, rfl⟩ | ⟨rfl, v, ty, h1, h2, h4, h3, rfl⟩ | ⟨rfl, h1, h3, rfl⟩
    · cases h3
      refine va_forget (fun q hq => by have := hS.2.2 q hq; rw [← hB]; exact this) ?_
      refine W.widen (k := 600000) (n := 7302250) m1 m2 ?_
      exact lw_ret hx hb hr hlocks hd
    · cases h3
    · cases h3
      rcases h4 with h | ⟨a, h⟩ <;> cases h
    · cases h3
  have hl := lv_entry ([.ref b]) (n := 4) (Nat.le_of_ble_eq_true rfl)
  rw [lg_entry_eq]
  generalize (lg_sl ([.ref b]) ++ List.replicate (4 - (lg_sl ([.ref b])).length) Slot.unset).toArray = ls at hl ⊢
  have h := (run_sound (e := e) (below := below) (R := room_1) (fun pc => xget_JJ (cj_L (nm := meth.name)) pc) (xev_sz xT_sz 200) X (xT_sound G l 200) ⟨Nat.le_of_ble_eq_true rfl, Nat.le_of_ble_eq_true rfl⟩ ⟨m1, m2⟩ hE w).2 xle_rf s.heap [] ls hP hO va_S.rf hl
  simpa using h
