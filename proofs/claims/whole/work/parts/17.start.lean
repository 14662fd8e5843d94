/-! THE START: what the pure machine is given, and the claim out of it -/
def R_law : String := "KiltRoomLaw"
def lw_P (b : Addr) (xs : List Int32) (args : Array Value) (s : State) : Prop := args = #[.ref b] ∧ s.IntsAt b xs ∧ xs.length ≤ 3072 ∧ (Jvm.Cond.and given_1 narrow_1).before args s = true
def lw_Q (_ : Array Value) (s : State) (o : Outcome) (t : State) : Prop := o = .returned (some (.int 1)) ∧ Framed s o t [] 600000 7302250
def lw_Z (below : List Frame) (a : Array Value) (s : State) : State → Prop := fun t => ∃ o, t.status = .running ∧ Ended t below o ∧ lw_Q a s o t
/-- the law's own end, with 1 on the stack, nothing written that was there before, its room as the claim has it -/
theorem lw_ret {p : Program} {l : Launch} {e : Env} {s : State} {m : MethodId} {below : List Frame} {meth : Method} {c : Code} {b : Nat} (hx : p.tables.exec = Jvm.exec) (hb : c.code = code) (hr : meth.sig.returnType = ret) (hlocks : meth.locks = false) {pc : Nat} {H : Heap} {ls : Array Slot} (hdg : decode code pc = .ok (.ireturn, 1)) : W p l e room_1 s m #[Value.ref b] below meth c H [] 600000 7302250 (lw_Z below #[Value.ref b] s) (F0 m pc ls [.int 1]) := by
  intro T hT X
  obtain ⟨fs, hret, hrun, hended, hW, hframe⟩ := X.leave (v := some (.int 1)) (hlocks := hlocks) (fun h => by rw [hr] at h; cases h)
  have hmeth' : T.vm.method? m = some meth := X.method'
  refine ⟨T.setFrames fs, ?_, .returned (some (.int 1)), hrun, hended, rfl, ⟨_, rfl⟩, hW, hframe⟩
  jvm_step X.here [X.here.top, hx, hb, hdg, hmeth', hr, ret, narrow_b1]
  (try refine ⟨rfl, ?_⟩); (try refine ⟨rfl, ?_⟩)
  first | (intro acts; rw [hret _ acts rfl rfl rfl]) | rw [hret _ _ rfl rfl rfl]
  exact Steps.refl _
/-- what holds at the law's entry: the machine, the code, the tables' words (any of lw_tbl by 'hts w (by decide +kernel)'), the script of L ints xs at the cell b, what the Statement gives of the start (any of its parts by flat_of_before) -/
def lw_At (p : Program) (s : State) (m : MethodId) (meth : Method) (c : Code) (b L : Nat) (xs : Nat → Int32) : Prop :=
  p.tables.exec = Jvm.exec ∧ c.code = code ∧ meth.sig.returnType = ret ∧ c.maxLocals = 4 ∧ s.vm.findClass R_law = some m.cls ∧ (∀ w ∈ lw_tbl, w.before #[Value.ref b] s = true) ∧ va_X b L xs s s.heap ∧ b < s.heap.size ∧ meth.locks = false ∧ (Jvm.Cond.and given_1 narrow_1).before #[Value.ref b] s = true
def sLen : List Nat := [48, 5, 3, 2, 3, 3, 4, 6, 3, 5, 5, 5]
def sByt : List (List Int32) := [[112, 114, 105, 99, 101, 32, 117, 115, 101, 100, 32, 42, 32, 51, 32, 43, 32, 112, 108, 101, 97, 116, 115, 32, 42, 32, 49, 48, 32, 59, 32, 102, 105, 116, 32, 119, 97, 105, 115, 116, 32, 60, 32, 104, 105, 112, 32, 59], [112, 114, 105, 99, 101], [102, 105, 116], [111, 114], [97, 110, 100], [110, 111, 116], [117, 115, 101, 100], [112, 108, 101, 97, 116, 115], [104, 105, 112], [119, 97, 105, 115, 116], [115, 104, 111, 119, 110], [115, 116, 121, 108, 101]]
def sAb : List Int32 := [-1, 0, 0, 1, 2, 3]
def sT (i : Nat) : Term := .string (sL.getD i ("", 0, "")).1 (sL.getD i ("", 0, "")).2.1
/-- the memory with which the law begins: the script, the static row of styles, the texts -/
def Start (σ : xM) (b L : Nat) (xs : Nat → Int32) : Prop :=
  (kd σ b = 40 ∧ ln σ b = L ∧ (∀ j, xi σ b j = xs j) ∧ b < σ.1) ∧
  (∃ z, xp σ 0 20 = z + 1 ∧ kd σ z = 40 ∧ ln σ z = 6 ∧ (∀ j, j < 6 → xi σ z j = sAb.getD j 0) ∧ z < σ.1) ∧
  (∀ j, j < 12 → ∃ z v, xp σ 0 j = z + 1 ∧ (kd σ z = 41 ∨ kd σ z = 43) ∧ xp σ z 30 = v ∧ (kd σ v = 42 ∨ kd σ v = 43) ∧ ln σ v = sLen.getD j 0 ∧ (∀ k, k < sLen.getD j 0 → xi σ v k = (sByt.getD j []).getD k 0) ∧ z < σ.1 ∧ v < σ.1) ∧ 0 < σ.1
def PureClaim : Prop := ∀ (L : Nat) (xs : Nat → Int32) (σ : xM) (b : Nat), L ≤ 3072 → Start σ b L xs → ∃ σf : xM, wpE (xget cd_L) (xev xT 200) (fun r s' => r = some (.int 1) ∧ s' = σf) (0, [(0, .ref b)], [], σ) ∧ σf.1 - σ.1 ≤ 600000 ∧ σf.2.1 - σ.2.1 ≤ 7302250
theorem st_ex : ∀ i, i < 12 → Cond.exactly (sT i) "java/lang/String" ∈ flatC (Jvm.Cond.and given_1 narrow_1) := by decide +kernel
theorem st_co : ∀ i, i < 12 → Cond.eq (.field (sT i) "java/lang/String" "coder" "B") (.int 0) ∈ flatC (Jvm.Cond.and given_1 narrow_1) := by decide +kernel
theorem st_ar : ∀ i, i < 12 → Cond.arrayOf (.field (sT i) "java/lang/String" "value" "[B") .byte ∈ flatC (Jvm.Cond.and given_1 narrow_1) := by decide +kernel
theorem st_le : ∀ i, i < 12 → Cond.eq (.length (.field (sT i) "java/lang/String" "value" "[B")) (.int (Int32.ofNat (sLen.getD i 0))) ∈ flatC (Jvm.Cond.and given_1 narrow_1) := by decide +kernel
def stE : List (List Nat) := [[87, 88, 89, 90, 91, 92, 93, 94, 95, 96, 97, 98, 99, 100, 101, 102, 103, 104, 105, 106, 107, 108, 109, 110, 111, 112, 113, 114, 115, 116, 117, 118, 119, 120, 121, 122, 123, 124, 125, 126, 127, 128, 129, 130, 131, 132, 133, 134], [139, 140, 141, 142, 143], [149, 150, 151], [158, 159], [167, 168, 169], [178, 179, 180], [190, 191, 192, 193], [204, 205, 206, 207, 208, 209], [221, 222, 223], [236, 237, 238, 239, 240], [254, 255, 256, 257, 258], [273, 274, 275, 276, 277]]
theorem st_el0 : ∀ i, i < 12 → ∀ j, j < sLen.getD i 0 → (flatC (Jvm.Cond.and given_1 narrow_1))[(stE.getD i []).getD j 0]? = some (Cond.eq (.elem (.field (sT i) "java/lang/String" "value" "[B") (.int (Int32.ofNat j))) (.int ((sByt.getD i []).getD j 0))) := by decide +kernel
theorem st_el : ∀ i, i < 12 → ∀ j, j < sLen.getD i 0 → Cond.eq (.elem (.field (sT i) "java/lang/String" "value" "[B") (.int (Int32.ofNat j))) (.int ((sByt.getD i []).getD j 0)) ∈ flatC (Jvm.Cond.and given_1 narrow_1) := fun i hi j hj => List.mem_of_getElem? (st_el0 i hi j hj)
def stN : List (List Nat) := [[0, 144, 152, 160, 170, 181, 194, 210, 224, 241, 259, 278], [144, 0, 153, 161, 171, 182, 195, 211, 225, 242, 260, 279], [152, 153, 0, 162, 172, 183, 196, 212, 226, 243, 261, 280], [160, 161, 162, 0, 173, 184, 197, 213, 227, 244, 262, 281], [170, 171, 172, 173, 0, 185, 198, 214, 228, 245, 263, 282], [181, 182, 183, 184, 185, 0, 199, 215, 229, 246, 264, 283], [194, 195, 196, 197, 198, 199, 0, 216, 230, 247, 265, 284], [210, 211, 212, 213, 214, 215, 216, 0, 231, 248, 266, 285], [224, 225, 226, 227, 228, 229, 230, 231, 0, 249, 267, 286], [241, 242, 243, 244, 245, 246, 247, 248, 249, 0, 268, 287], [259, 260, 261, 262, 263, 264, 265, 266, 267, 268, 0, 288], [278, 279, 280, 281, 282, 283, 284, 285, 286, 287, 288, 0]]
theorem st_ne0 : ∀ i, i < 12 → ∀ j, j < 12 → i ≠ j → (flatC (Jvm.Cond.and given_1 narrow_1))[(stN.getD i []).getD j 0]? = some (Cond.not (Cond.eq (sT i) (sT j))) ∨ (flatC (Jvm.Cond.and given_1 narrow_1))[(stN.getD i []).getD j 0]? = some (Cond.not (Cond.eq (sT j) (sT i))) := by decide +kernel
theorem st_ne : ∀ i, i < 12 → ∀ j, j < 12 → i ≠ j → Cond.not (Cond.eq (sT i) (sT j)) ∈ flatC (Jvm.Cond.and given_1 narrow_1) ∨ Cond.not (Cond.eq (sT j) (sT i)) ∈ flatC (Jvm.Cond.and given_1 narrow_1) := fun i hi j hj h => (st_ne0 i hi j hj h).imp (fun q => List.mem_of_getElem? q) (fun q => List.mem_of_getElem? q)
theorem st_ab : ∀ j, j < 6 → Cond.eq (.elem (.static "KiltRoom" "STYLE_ABOVE" "[I") (.int (Int32.ofNat j))) (.int (sAb.getD j 0)) ∈ flatC (Jvm.Cond.and given_1 narrow_1) := by decide +kernel
def sP : List Nat := [276, 354, 355, 356, 357, 358, 359, 360, 361, 362, 363, 364]
theorem sP_ok : ∀ j, j < 12 → lw_tbl[sP.getD j 0]? = some (.stringRef (sL.getD j ("", 0, "")).1 (sL.getD j ("", 0, "")).2.1 (sL.getD j ("", 0, "")).2.2) := by decide +kernel
def nP : List Nat := [113, 129, 152, 189, 260, 650, 651, 652]
theorem nP_ok : ∀ j, j < 8 → lw_tbl[nP.getD j 0]? = some (.methodLinkNest (nestL.getD j ("", 0, 0)).1 (nestL.getD j ("", 0, 0)).2.1 (yy (nestL.getD j ("", 0, 0)).2.2) "KiltRoom") := by decide +kernel
def oP : List Nat := [250, 252, 254, 256, 258]
theorem oP_ok : ∀ j, j < 5 → lw_tbl[oP.getD j 0]? = some (.arrayOver (.object (aoL.getD j ""))) := by decide +kernel
def aP : List Nat := [126, 442, 1236]
theorem aP_ok : ∀ j, j < 3 → lw_tbl[aP.getD j 0]? = some (.arrayClass (kTy (20 + j))) := by decide +kernel
theorem cst_ok : lw_tbl[421]? = some (.castable "[I" "java/lang/Cloneable") := by decide +kernel
theorem ls_A : lw_tbl[656]? = some (.laysStatic "KiltRoom" "STYLE_ABOVE" "[I") := by decide +kernel
theorem li_A : lw_tbl[82]? = some (.initialized "KiltRoom") := by decide +kernel
theorem ls_C : lw_tbl[286]? = some (.laysStatic "java/lang/String" "COMPACT_STRINGS" "Z") := by decide +kernel
theorem li_C : lw_tbl[90]? = some (.initialized "java/lang/String") := by decide +kernel
theorem ls_F : lw_tbl[302]? = some (.laysStatic "jdk/internal/util/Preconditions" "SIOOBE_FORMATTER" "Ljava/util/function/BiFunction;") := by decide +kernel
theorem li_F : lw_tbl[92]? = some (.initialized "jdk/internal/util/Preconditions") := by decide +kernel
