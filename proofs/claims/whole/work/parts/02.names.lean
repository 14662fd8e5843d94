/-! NAMES: printed by wip/whole/mk02.py out of the Statement's own words -/
def gok (w : Cond) : Bool := (w.onTables && w.keeps) || (match w with | .arrayClass _ => true | _ => false)
def gt : List Cond := lw_tbl.filter gok
theorem gtm {w : Cond} (i : Nat) (h : lw_tbl[i]? = some w) (hk : gok w = true) : w ∈ gt := List.mem_filter.mpr ⟨List.mem_of_getElem? h, hk⟩
def tF : List (String × List (String × String × Bool × Bool)) := [
  ("KiltRoom$Bolt", [("weave", "LKiltRoom$Sett;", true, true), ("settNumber", "I", true, false), ("length", "I", true, false), ("marred", "[I", true, true), ("flawCount", "I", false, false)]),
  ("KiltRoom$Cutter", [("needed", "[I", true, true), ("left", "[I", true, true), ("best", "[I", true, true), ("tried", "[I", true, true), ("bestCount", "I", false, false), ("bestBolts", "I", false, false)]),
  ("KiltRoom$Kilt", [("style", "I", true, false), ("inch", "I", true, false), ("hip", "I", true, false), ("waist", "I", true, false), ("pleats", "I", true, false), ("stripe", "I", true, false), ("width", "I", true, false), ("apron", "I", true, false), ("taper", "I", true, false), ("striped", "Z", true, false), ("laying", "LKiltRoom$Laying;", true, true), ("laidOn", "LKiltRoom$Bolt;", false, true), ("boltNumber", "I", false, false), ("widthNow", "I", false, false), ("turned", "Z", false, false), ("need", "I", false, false)]),
  ("KiltRoom$Layer", [("least", "[I", true, true), ("firstStarts", "[I", true, true), ("firstOver", "I", false, false), ("firstUnder", "I", false, false), ("fewest", "I", false, false), ("kilt", "LKiltRoom$Kilt;", false, true), ("bolt", "LKiltRoom$Bolt;", false, true), ("sett", "LKiltRoom$Sett;", false, true)]),
  ("KiltRoom$Laying", [("starts", "[I", true, true), ("depths", "[I", true, true), ("over", "I", false, false), ("under", "I", false, false), ("used", "I", false, false), ("moreOver", "I", false, false), ("moreUnder", "I", false, false)]),
  ("KiltRoom$Sett", [("stripes", "I", true, false), ("period", "I", true, false), ("turnsBack", "Z", true, false), ("colours", "[I", true, true), ("counts", "[I", true, true), ("centres", "[I", true, true), ("warp", "[B", true, true)]),
  ("KiltRoom$SettReader", [("colours", "[I", true, true), ("counts", "[I", true, true), ("stripes", "I", false, false), ("turnsBack", "Z", false, false)]),
  ("KiltRoom$Sheet", [("cells", "[I", true, true), ("sort", "I", false, false), ("size", "I", false, false)]),
  ("KiltRoom$Tape", [("bytes", "[I", true, true), ("size", "I", false, false)]),
  ("KiltRoom$Text", [("code", "[I", true, true), ("stack", "[I", true, true), ("fitFrom", "I", true, false), ("top", "I", false, false)]),
  ("KiltRoom$TextReader", [("code", "[I", true, true), ("codeSize", "I", false, false), ("fitFrom", "I", false, false), ("tape", "LKiltRoom$Tape;", false, true), ("token", "I", false, false), ("value", "I", false, false), ("place", "I", false, false), ("behind", "I", false, false), ("fault", "I", false, false)]),
  ("KiltRoom", [("tape", "LKiltRoom$Tape;", true, true), ("settReader", "LKiltRoom$SettReader;", true, true), ("textReader", "LKiltRoom$TextReader;", true, true), ("layer", "LKiltRoom$Layer;", true, true), ("cutter", "LKiltRoom$Cutter;", true, true), ("setts", "[LKiltRoom$Sett;", true, true), ("bolts", "[LKiltRoom$Bolt;", true, true), ("kilts", "[LKiltRoom$Kilt;", true, true), ("texts", "[LKiltRoom$Text;", true, true), ("rows", "[LKiltRoom$Sheet;", true, true), ("settCount", "I", false, false), ("boltCount", "I", false, false), ("kiltCount", "I", false, false), ("textCount", "I", false, false), ("rule", "I", false, false), ("wholeBolt", "LKiltRoom$Bolt;", false, true)]),
  ("KiltRoomModel", [("tape", "[B", true, true), ("taped", "I", false, false), ("setts", "I", false, false), ("stripes", "[I", true, true), ("period", "[I", true, true), ("colour", "[I", true, true), ("width", "[I", true, true), ("isBack", "[Z", true, true), ("bolts", "I", false, false), ("settOf", "[I", true, true), ("size", "[I", true, true), ("flawMany", "[I", true, true), ("flaw", "[I", true, true), ("kilts", "I", false, false), ("style", "[I", true, true), ("inch", "[I", true, true), ("hip", "[I", true, true), ("waist", "[I", true, true), ("pleats", "[I", true, true), ("stripeOf", "[I", true, true), ("v", "[I", true, true), ("apron", "[I", true, true), ("taper", "[I", true, true), ("boltOf", "[I", true, true), ("a", "[I", true, true), ("u", "[I", true, true), ("j0", "[I", true, true), ("i0", "[I", true, true), ("now", "[I", true, true), ("x", "[I", true, true), ("depth", "[I", true, true), ("isTurned", "[Z", true, true), ("p0", "I", false, false), ("from0", "I", false, false), ("base", "[I", true, true), ("best", "[I", true, true), ("lastI", "I", false, false), ("foundDepth", "[I", true, true), ("foundX", "[I", true, true), ("foundJ", "I", false, false), ("foundA", "I", false, false), ("foundUsed", "I", false, false), ("texts", "I", false, false), ("rule", "I", false, false), ("many", "[I", true, true), ("row", "[I", true, true), ("at", "I", false, false), ("token", "I", false, false), ("value", "I", false, false), ("begin", "I", false, false), ("waits", "[I", true, true), ("compared", "[Z", true, true), ("held", "I", false, false), ("brackets", "I", false, false), ("open", "I", false, false), ("of", "I", false, false), ("facts", "[I", true, true), ("pile", "[I", true, true), ("need", "[I", true, true), ("cutFrom", "[I", true, true), ("bestFrom", "[I", true, true), ("left0", "[I", true, true), ("cutMany", "I", false, false), ("cutBolts", "I", false, false), ("sort", "[I", true, true), ("length", "[I", true, true), ("item", "[I", true, true)])]
def cN (i : Nat) : String := (tF.getD i ("", [])).1
def cK (i : Nat) : Nat := (tF.getD i ("", [])).2.length
def cE (i k : Nat) : String × String × Bool × Bool := (tF.getD i ("", [])).2.getD k ("", "", false, false)
def cT (i : Nat) : u_T := fun k => (cN i, (cE i k).1, (cE i k).2.1, (cE i k).2.2.1)
def rfb (i k : Nat) : Bool := (cE i k).2.2.2
def cY (i k : Nat) : FieldType := (parseFieldDescriptor (cE i k).2.1).getD .int
def classes : List vw_C := (List.range 13).map (fun i => (cN i, cT i, cK i))
theorem classes_at {i : Nat} (h : i < 13) : classes[i]? = some (cN i, cT i, cK i) := by simp [classes, h]
theorem cY_ok : ∀ i, i < 13 → ∀ k, k < cK i → parseFieldDescriptor (cT i k).2.2.1 = some (cY i k) := by decide +kernel
theorem cT_ne : ∀ i, i < 13 → ∀ a, a < cK i → ∀ b, b < cK i → a ≠ b → (cT i a).2.1 ≠ (cT i b).2.1 := by decide +kernel
def lyP : List (List Nat) := [
  [569, 571, 573, 575, 577],
  [236, 238, 240, 242, 244, 246],
  [735, 737, 739, 741, 743, 745, 747, 749, 751, 753, 755, 757, 759, 761, 763, 765],
  [201, 203, 205, 207, 209, 211, 213, 215],
  [679, 681, 683, 685, 687, 689, 691],
  [539, 541, 543, 545, 547, 549, 551],
  [141, 143, 145, 147],
  [269, 271, 273],
  [121, 123],
  [433, 435, 437, 439],
  [168, 170, 172, 174, 176, 178, 180, 182, 184],
  [459, 461, 463, 465, 467, 469, 471, 473, 475, 477, 479, 481, 483, 485, 487, 489],
  [1101, 1103, 1105, 1107, 1109, 1111, 1113, 1115, 1117, 1119, 1121, 1123, 1125, 1127, 1129, 1131, 1133, 1135, 1137, 1139, 1141, 1143, 1145, 1147, 1149, 1151, 1153, 1155, 1157, 1159, 1161, 1163, 1165, 1167, 1169, 1171, 1173, 1175, 1177, 1179, 1181, 1183, 1185, 1187, 1189, 1191, 1193, 1195, 1197, 1199, 1201, 1203, 1205, 1207, 1209, 1211, 1213, 1215, 1217, 1219, 1221, 1223, 1225, 1227, 1229, 1231, 1233]]
theorem ly_ok : ∀ i, i < 13 → ∀ k, k < cK i → lw_tbl[((lyP.getD i []).getD k 0)]? = some (u_lay (cN i) (cT i) k) ∧ gok (u_lay (cN i) (cT i) k) = true := by decide +kernel
theorem ws_in : ∀ i, i < 13 → ∀ w ∈ u_ws (cN i) (cT i) (cK i), w ∈ gt := by
  intro i hi w hw
  obtain ⟨k, hk, rfl⟩ := List.mem_map.mp hw
  obtain ⟨h1, h2⟩ := ly_ok i hi k (List.mem_range.mp hk)
  exact gtm _ h1 h2
def inP : List Nat := [554, 219, 645, 188, 658, 513, 128, 259, 112, 408, 151, 104, 1025]
theorem in_ok : ∀ i, i < 13 → lw_tbl[inP.getD i 0]? = some (.instantiable (cN i) (cK i)) ∧ gok (.instantiable (cN i) (cK i)) = true := by decide +kernel
def iniP : List Nat := [99, 87, 100, 86, 101, 98, 84, 89, 83, 94, 85, 82, 97]
theorem ini_ok : ∀ i, i < 13 → lw_tbl[iniP.getD i 0]? = some (.initialized (cN i)) ∧ gok (.initialized (cN i)) = true := by decide +kernel
def mYs : List (MethodName) := [⟨"KiltRoom", "<init>", "()V"⟩, ⟨"KiltRoom$Tape", "<init>", "()V"⟩, ⟨"KiltRoom$SettReader", "<init>", "()V"⟩, ⟨"KiltRoom$TextReader", "<init>", "()V"⟩, ⟨"KiltRoom$Layer", "<init>", "()V"⟩, ⟨"KiltRoom$Cutter", "<init>", "()V"⟩, ⟨"java/util/Arrays", "fill", "([II)V"⟩, ⟨"KiltRoom$Sheet", "<init>", "()V"⟩,
  ⟨"java/lang/String", "length", "()I"⟩, ⟨"java/lang/String", "coder", "()B"⟩, ⟨"java/lang/String", "charAt", "(I)C"⟩, ⟨"java/lang/String", "isLatin1", "()Z"⟩, ⟨"java/lang/StringLatin1", "charAt", "([BI)C"⟩, ⟨"java/lang/String", "checkIndex", "(II)V"⟩, ⟨"jdk/internal/util/Preconditions", "checkIndex", "(IILjava/util/function/BiFunction;)I"⟩, ⟨"KiltRoom$Tape", "put", "(I)V"⟩,
  ⟨"KiltRoom$TextReader", "read", "(LKiltRoom$Tape;)I"⟩, ⟨"KiltRoom$TextReader", "next", "()V"⟩, ⟨"KiltRoom$Tape", "at", "(I)I"⟩, ⟨"KiltRoom$TextReader", "isBlank", "(I)Z"⟩, ⟨"KiltRoom$TextReader", "isLetter", "(I)Z"⟩, ⟨"KiltRoom$TextReader", "readWord", "()V"⟩, ⟨"KiltRoom$TextReader", "word", "(I)Ljava/lang/String;"⟩, ⟨"KiltRoom$TextReader", "isSpelt", "(Ljava/lang/String;)Z"⟩,
  ⟨"KiltRoom$TextReader", "isDigit", "(I)Z"⟩, ⟨"KiltRoom$TextReader", "readNumber", "()V"⟩, ⟨"KiltRoom$TextReader", "isSign", "(I)Z"⟩, ⟨"KiltRoom$TextReader", "pass", "(I)V"⟩, ⟨"KiltRoom$TextReader", "fail", "()V"⟩, ⟨"KiltRoom$TextReader", "expression", "(II)V"⟩, ⟨"KiltRoom$TextReader", "one", "(I)V"⟩, ⟨"KiltRoom$TextReader", "emit", "(I)V"⟩,
  ⟨"KiltRoom$TextReader", "mayOpen", "(I)Z"⟩, ⟨"KiltRoom$TextReader", "levelOf", "(I)I"⟩, ⟨"KiltRoom$Text", "<init>", "(LKiltRoom$TextReader;)V"⟩, ⟨"java/util/Arrays", "copyOf", "([II)[I"⟩, ⟨"java/lang/Math", "min", "(II)I"⟩, ⟨"KiltRoom", "feed", "(IJ)I"⟩, ⟨"KiltRoom", "sett", "()I"⟩, ⟨"KiltRoom$SettReader", "read", "(LKiltRoom$Tape;)I"⟩,
  ⟨"KiltRoom$SettReader", "readCount", "(LKiltRoom$Tape;I)I"⟩, ⟨"KiltRoom$SettReader", "period", "()I"⟩, ⟨"KiltRoom$Sett", "<init>", "(LKiltRoom$SettReader;)V"⟩, ⟨"KiltRoom$Sett", "wind", "(II)I"⟩, ⟨"KiltRoom$Bolt", "<init>", "(LKiltRoom$Sett;II)V"⟩, ⟨"KiltRoom", "settTold", "(II)I"⟩, ⟨"KiltRoom", "settOf", "(I)LKiltRoom$Sett;"⟩, ⟨"KiltRoom", "stripe", "(III)I"⟩,
  ⟨"KiltRoom$Sett", "hasStripe", "(I)Z"⟩, ⟨"KiltRoom", "thread", "(II)I"⟩, ⟨"KiltRoom$Sett", "colourAt", "(I)I"⟩, ⟨"KiltRoom", "twill", "(III)I"⟩, ⟨"KiltRoom", "bolt", "(II)I"⟩, ⟨"KiltRoom", "flaw", "(II)I"⟩, ⟨"KiltRoom", "boltOf", "(I)LKiltRoom$Bolt;"⟩, ⟨"KiltRoom$Bolt", "mar", "(I)I"⟩,
  ⟨"KiltRoom$Bolt", "isClear", "(II)Z"⟩, ⟨"KiltRoom", "kilt", "(IIII)I"⟩, ⟨"KiltRoom", "canBeSewn", "(IIII)Z"⟩, ⟨"KiltRoom", "taperOf", "(III)I"⟩, ⟨"KiltRoom", "widthOf", "(III)I"⟩, ⟨"java/lang/Math", "max", "(II)I"⟩, ⟨"KiltRoom$Kilt", "<init>", "(IIIIII)V"⟩, ⟨"KiltRoom", "isOrLiesUnder", "(II)Z"⟩,
  ⟨"KiltRoom$Laying", "<init>", "(I)V"⟩, ⟨"KiltRoom", "kiltTold", "(II)I"⟩, ⟨"KiltRoom", "kiltOf", "(I)LKiltRoom$Kilt;"⟩, ⟨"KiltRoom", "lay", "(II)I"⟩, ⟨"KiltRoom$Kilt", "hasItsStripe", "(LKiltRoom$Sett;)Z"⟩, ⟨"KiltRoom$Layer", "search", "(LKiltRoom$Kilt;LKiltRoom$Bolt;)I"⟩, ⟨"KiltRoom$Layer", "placeWithoutPeriods", "()V"⟩, ⟨"KiltRoom$Sett", "centredFrom", "(III)I"⟩,
  ⟨"java/lang/Math", "floorMod", "(II)I"⟩, ⟨"KiltRoom$Layer", "widthInStep", "(I)I"⟩, ⟨"KiltRoom$Layer", "isBandsLast", "(I)Z"⟩, ⟨"KiltRoom$Layer", "lift", "(II)I"⟩, ⟨"KiltRoom$Layer", "fewestFrom", "(II)I"⟩, ⟨"KiltRoom$Layer", "usedBy", "(I)I"⟩, ⟨"KiltRoom$Layer", "underCanBe", "(I)Z"⟩, ⟨"KiltRoom$Layer", "canFold", "(II)Z"⟩,
  ⟨"KiltRoom$Layer", "kept", "(II)I"⟩, ⟨"KiltRoom$Layer", "fewer", "(II)I"⟩, ⟨"KiltRoom$Layer", "overIsClear", "(I)Z"⟩, ⟨"KiltRoom$Layer", "trace", "(LKiltRoom$Laying;)V"⟩, ⟨"KiltRoom$Layer", "leastDepth", "(II)I"⟩, ⟨"KiltRoom$Kilt", "putOn", "(LKiltRoom$Bolt;I)V"⟩, ⟨"KiltRoom", "laid", "(II)I"⟩, ⟨"KiltRoom", "pleat", "(III)I"⟩,
  ⟨"KiltRoom$Kilt", "lossOf", "(I)I"⟩, ⟨"KiltRoom$Laying", "startOf", "(I)I"⟩, ⟨"KiltRoom$Laying", "depthBehind", "(I)I"⟩, ⟨"KiltRoom$Laying", "startBehind", "(I)I"⟩, ⟨"KiltRoom", "shown", "(IIZ)I"⟩, ⟨"KiltRoom$Kilt", "threadsAround", "(Z)I"⟩, ⟨"KiltRoom$Kilt", "threadShown", "(IZ)I"⟩, ⟨"KiltRoom", "around", "(IZ)I"⟩,
  ⟨"KiltRoom", "let", "(II)I"⟩, ⟨"KiltRoom$Kilt", "canShow", "(I)Z"⟩, ⟨"KiltRoom", "turn", "(I)I"⟩, ⟨"KiltRoom", "text", "()I"⟩, ⟨"KiltRoom", "force", "(I)I"⟩, ⟨"KiltRoom", "says", "(II)J"⟩, ⟨"KiltRoom$Text", "worth", "(ILKiltRoom$Kilt;)I"⟩, ⟨"KiltRoom$Text", "named", "(ILKiltRoom$Kilt;)I"⟩,
  ⟨"KiltRoom$Text", "push", "(I)V"⟩, ⟨"KiltRoom$Text", "pop", "()I"⟩, ⟨"KiltRoom$Text", "joined", "(III)I"⟩, ⟨"KiltRoom", "needs", "(I)I"⟩, ⟨"KiltRoom", "threadsNeeded", "(LKiltRoom$Kilt;)I"⟩, ⟨"KiltRoom", "band", "(I)I"⟩, ⟨"KiltRoom$Cutter", "cutAll", "()I"⟩, ⟨"KiltRoom$Cutter", "cutFrom", "(III)V"⟩,
  ⟨"KiltRoom$Cutter", "mostFrom", "(I)I"⟩, ⟨"KiltRoom$Cutter", "mayBeBetter", "(II)Z"⟩, ⟨"java/lang/Integer", "bitCount", "(I)I"⟩, ⟨"KiltRoom", "from", "(I)I"⟩, ⟨"KiltRoom", "count", "(I)I"⟩, ⟨"KiltRoom", "laidKilts", "()I"⟩, ⟨"KiltRoom", "sheet", "(III)I"⟩, ⟨"KiltRoom", "rowOf", "(I)LKiltRoom$Sheet;"⟩,
  ⟨"KiltRoom$Sheet", "renew", "(II)V"⟩, ⟨"KiltRoom", "cell", "(III)I"⟩, ⟨"KiltRoom$Sheet", "has", "(I)Z"⟩, ⟨"KiltRoom$Sheet", "cutToSort", "(I)I"⟩, ⟨"KiltRoom", "flaws", "(IIIII)I"⟩, ⟨"KiltRoom", "taken", "(II)I"⟩, ⟨"KiltRoomModel", "<init>", "()V"⟩, ⟨"KiltRoomModel", "ruleZero", "()V"⟩,
  ⟨"KiltRoomModel", "feed", "(IJ)I"⟩, ⟨"KiltRoomModel", "in", "(III)Z"⟩, ⟨"KiltRoomModel", "sett", "()I"⟩, ⟨"KiltRoomModel", "takesSett", "(I)Z"⟩, ⟨"KiltRoomModel", "takesStripe", "(I)Z"⟩, ⟨"KiltRoomModel", "takesDigit", "(I)Z"⟩, ⟨"KiltRoomModel", "settTold", "(II)I"⟩, ⟨"KiltRoomModel", "isSett", "(I)Z"⟩,
  ⟨"KiltRoomModel", "stripe", "(III)I"⟩, ⟨"KiltRoomModel", "centre", "(II)I"⟩, ⟨"KiltRoomModel", "thread", "(II)I"⟩, ⟨"KiltRoomModel", "colourAt", "(II)I"⟩, ⟨"KiltRoomModel", "twill", "(III)I"⟩, ⟨"KiltRoomModel", "bolt", "(II)I"⟩, ⟨"KiltRoomModel", "flaw", "(II)I"⟩, ⟨"KiltRoomModel", "isBolt", "(I)Z"⟩,
  ⟨"KiltRoomModel", "isFlawed", "(III)Z"⟩, ⟨"KiltRoomModel", "kilt", "(IIII)I"⟩, ⟨"KiltRoomModel", "kiltTold", "(II)I"⟩, ⟨"KiltRoomModel", "isKilt", "(I)Z"⟩, ⟨"KiltRoomModel", "lay", "(II)I"⟩, ⟨"KiltRoomModel", "hasStripe", "(II)Z"⟩, ⟨"KiltRoomModel", "isStriped", "(I)Z"⟩, ⟨"KiltRoomModel", "find", "(III)I"⟩,
  ⟨"KiltRoomModel", "least", "(III)I"⟩, ⟨"KiltRoomModel", "fixed", "(II)I"⟩, ⟨"KiltRoomModel", "measure", "(III)V"⟩, ⟨"KiltRoomModel", "endsAt", "(IIII)I"⟩, ⟨"KiltRoomModel", "nextOf", "(IIII)I"⟩, ⟨"KiltRoomModel", "periods", "(III)I"⟩, ⟨"KiltRoomModel", "note", "(III)V"⟩, ⟨"KiltRoomModel", "laid", "(II)I"⟩,
  ⟨"KiltRoomModel", "isLaid", "(I)Z"⟩, ⟨"KiltRoomModel", "pleat", "(III)I"⟩, ⟨"KiltRoomModel", "loses", "(II)I"⟩, ⟨"KiltRoomModel", "behind", "(II)I"⟩, ⟨"KiltRoomModel", "shown", "(IIZ)I"⟩, ⟨"KiltRoomModel", "aroundOf", "(IZ)I"⟩, ⟨"KiltRoomModel", "around", "(IZ)I"⟩, ⟨"KiltRoomModel", "let", "(II)I"⟩,
  ⟨"KiltRoomModel", "canBe", "(II)Z"⟩, ⟨"KiltRoomModel", "turn", "(I)I"⟩, ⟨"KiltRoomModel", "text", "()I"⟩, ⟨"KiltRoomModel", "isText", "()Z"⟩, ⟨"KiltRoomModel", "next", "()V"⟩, ⟨"KiltRoomModel", "isLetter", "(I)Z"⟩, ⟨"KiltRoomModel", "wordToken", "()V"⟩, ⟨"KiltRoomModel", "isWord", "(J)Z"⟩,
  ⟨"KiltRoomModel", "isDigit", "(I)Z"⟩, ⟨"KiltRoomModel", "isKey", "(I)Z"⟩, ⟨"KiltRoomModel", "part", "()Z"⟩, ⟨"KiltRoomModel", "ahead", "(Z)Z"⟩, ⟨"KiltRoomModel", "isSign", "(I)Z"⟩, ⟨"KiltRoomModel", "hold", "(I)V"⟩, ⟨"KiltRoomModel", "put", "(I)V"⟩, ⟨"KiltRoomModel", "settle", "(I)V"⟩,
  ⟨"KiltRoomModel", "rank", "(I)I"⟩, ⟨"KiltRoomModel", "signOf", "()I"⟩, ⟨"KiltRoomModel", "force", "(I)I"⟩, ⟨"KiltRoomModel", "says", "(II)J"⟩, ⟨"KiltRoomModel", "work", "(I)I"⟩, ⟨"KiltRoomModel", "both", "(III)I"⟩, ⟨"KiltRoomModel", "needs", "(I)I"⟩, ⟨"KiltRoomModel", "needOf", "(I)I"⟩,
  ⟨"KiltRoomModel", "band", "(I)I"⟩, ⟨"KiltRoomModel", "canCut", "(II)Z"⟩, ⟨"KiltRoomModel", "from", "(I)I"⟩, ⟨"KiltRoomModel", "count", "(I)I"⟩, ⟨"KiltRoomModel", "sheet", "(III)I"⟩, ⟨"KiltRoomModel", "isSheet", "(I)Z"⟩, ⟨"KiltRoomModel", "cell", "(III)I"⟩, ⟨"KiltRoomModel", "flaws", "(IIIII)I"⟩,
  ⟨"KiltRoomModel", "taken", "(II)I"⟩, ⟨"KiltRoomModel", "isUnder", "(II)Z"⟩]
def mBs : List (ByteArray) := [prog_1_method_1_code, prog_10_method_1_code, prog_8_method_1_code, prog_12_method_1_code, prog_5_method_1_code, prog_3_method_1_code, prog_22_method_103_code, prog_9_method_1_code,
  prog_18_method_54_code, prog_18_method_152_code, prog_18_method_56_code, prog_18_method_154_code, prog_19_method_2_code, prog_18_method_155_code, prog_23_method_11_code, prog_10_method_2_code,
  prog_12_method_2_code, prog_12_method_10_code, prog_10_method_3_code, prog_12_method_15_code, prog_12_method_16_code, prog_12_method_11_code, prog_12_method_14_code, prog_12_method_13_code,
  prog_12_method_17_code, prog_12_method_12_code, prog_12_method_18_code, prog_12_method_7_code, prog_12_method_8_code, prog_12_method_3_code, prog_12_method_4_code, prog_12_method_9_code,
  prog_12_method_5_code, prog_12_method_6_code, prog_11_method_1_code, prog_22_method_123_code, prog_17_method_69_code, prog_1_method_2_code, prog_1_method_3_code, prog_8_method_2_code,
  prog_8_method_3_code, prog_8_method_4_code, prog_7_method_1_code, prog_7_method_2_code, prog_2_method_1_code, prog_1_method_4_code, prog_1_method_30_code, prog_1_method_5_code,
  prog_7_method_3_code, prog_1_method_6_code, prog_7_method_4_code, prog_1_method_7_code, prog_1_method_8_code, prog_1_method_9_code, prog_1_method_31_code, prog_2_method_2_code,
  prog_2_method_3_code, prog_1_method_10_code, prog_1_method_36_code, prog_1_method_38_code, prog_1_method_37_code, prog_17_method_65_code, prog_4_method_1_code, prog_1_method_39_code,
  prog_6_method_1_code, prog_1_method_11_code, prog_1_method_32_code, prog_1_method_12_code, prog_4_method_2_code, prog_5_method_2_code, prog_5_method_4_code, prog_7_method_5_code,
  prog_17_method_50_code, prog_5_method_13_code, prog_5_method_15_code, prog_5_method_14_code, prog_5_method_5_code, prog_5_method_11_code, prog_5_method_10_code, prog_5_method_12_code,
  prog_5_method_8_code, prog_5_method_7_code, prog_5_method_9_code, prog_5_method_3_code, prog_5_method_6_code, prog_4_method_3_code, prog_1_method_13_code, prog_1_method_14_code,
  prog_4_method_4_code, prog_6_method_2_code, prog_6_method_4_code, prog_6_method_3_code, prog_1_method_15_code, prog_4_method_5_code, prog_4_method_6_code, prog_1_method_16_code,
  prog_1_method_17_code, prog_4_method_7_code, prog_1_method_18_code, prog_1_method_19_code, prog_1_method_20_code, prog_1_method_21_code, prog_11_method_2_code, prog_11_method_3_code,
  prog_11_method_5_code, prog_11_method_6_code, prog_11_method_4_code, prog_1_method_22_code, prog_1_method_35_code, prog_1_method_23_code, prog_3_method_2_code, prog_3_method_3_code,
  prog_3_method_5_code, prog_3_method_4_code, prog_16_method_49_code, prog_1_method_24_code, prog_1_method_25_code, prog_1_method_34_code, prog_1_method_26_code, prog_1_method_33_code,
  prog_9_method_2_code, prog_1_method_27_code, prog_9_method_3_code, prog_9_method_4_code, prog_1_method_28_code, prog_1_method_29_code, prog_14_method_2_code, prog_14_method_44_code,
  prog_14_method_3_code, prog_14_method_1_code, prog_14_method_8_code, prog_14_method_7_code, prog_14_method_6_code, prog_14_method_5_code, prog_14_method_9_code, prog_14_method_4_code,
  prog_14_method_11_code, prog_14_method_10_code, prog_14_method_13_code, prog_14_method_12_code, prog_14_method_14_code, prog_14_method_16_code, prog_14_method_18_code, prog_14_method_15_code,
  prog_14_method_17_code, prog_14_method_20_code, prog_14_method_23_code, prog_14_method_19_code, prog_14_method_34_code, prog_14_method_33_code, prog_14_method_22_code, prog_14_method_32_code,
  prog_14_method_27_code, prog_14_method_25_code, prog_14_method_29_code, prog_14_method_28_code, prog_14_method_30_code, prog_14_method_26_code, prog_14_method_31_code, prog_14_method_35_code,
  prog_14_method_21_code, prog_14_method_37_code, prog_14_method_24_code, prog_14_method_36_code, prog_14_method_39_code, prog_14_method_38_code, prog_14_method_40_code, prog_14_method_42_code,
  prog_14_method_41_code, prog_14_method_43_code, prog_14_method_60_code, prog_14_method_59_code, prog_14_method_49_code, prog_14_method_45_code, prog_14_method_48_code, prog_14_method_47_code,
  prog_14_method_46_code, prog_14_method_50_code, prog_14_method_58_code, prog_14_method_56_code, prog_14_method_51_code, prog_14_method_55_code, prog_14_method_52_code, prog_14_method_54_code,
  prog_14_method_53_code, prog_14_method_57_code, prog_14_method_61_code, prog_14_method_64_code, prog_14_method_63_code, prog_14_method_62_code, prog_14_method_66_code, prog_14_method_65_code,
  prog_14_method_68_code, prog_14_method_67_code, prog_14_method_69_code, prog_14_method_70_code, prog_14_method_72_code, prog_14_method_71_code, prog_14_method_73_code, prog_14_method_74_code,
  prog_14_method_76_code, prog_14_method_75_code]
def mLs : List (Nat) := [2, 1, 1, 1, 1, 1, 4, 1,
  1, 1, 2, 1, 2, 2, 3, 2,
  2, 2, 2, 1, 1, 2, 1, 3,
  1, 2, 1, 2, 1, 6, 2, 2,
  2, 1, 2, 3, 2, 5, 3, 6,
  7, 4, 4, 5, 4, 4, 2, 5,
  2, 4, 2, 5, 4, 4, 2, 2,
  4, 9, 4, 3, 3, 2, 7, 4,
  2, 4, 2, 6, 2, 6, 5, 4,
  3, 2, 2, 3, 5, 2, 2, 3,
  3, 2, 2, 4, 4, 3, 4, 5,
  2, 2, 2, 2, 6, 2, 7, 4,
  4, 4, 3, 2, 3, 5, 8, 2,
  2, 1, 3, 3, 2, 4, 1, 6,
  5, 3, 1, 2, 2, 4, 5, 2,
  3, 5, 2, 2, 10, 4, 1, 1,
  5, 4, 5, 2, 5, 2, 3, 2,
  4, 5, 3, 5, 4, 3, 3, 2,
  6, 11, 3, 2, 4, 3, 2, 8,
  5, 3, 10, 8, 5, 4, 7, 3,
  2, 4, 3, 3, 6, 3, 3, 3,
  4, 2, 3, 2, 2, 2, 1, 6,
  2, 2, 4, 2, 2, 2, 2, 2,
  2, 1, 3, 3, 6, 4, 3, 2,
  7, 7, 2, 4, 5, 2, 4, 8,
  3, 3]
def mRs : List (Option FieldType) := [(none : Option FieldType), (none : Option FieldType), (none : Option FieldType), (none : Option FieldType), (none : Option FieldType), (none : Option FieldType), (none : Option FieldType), (none : Option FieldType),
  (some Jvm.ClassFile.FieldType.int), (some Jvm.ClassFile.FieldType.byte), (some Jvm.ClassFile.FieldType.char), (some Jvm.ClassFile.FieldType.boolean), (some Jvm.ClassFile.FieldType.char), (none : Option FieldType), (some Jvm.ClassFile.FieldType.int), (none : Option FieldType),
  (some Jvm.ClassFile.FieldType.int), (none : Option FieldType), (some Jvm.ClassFile.FieldType.int), (some Jvm.ClassFile.FieldType.boolean), (some Jvm.ClassFile.FieldType.boolean), (none : Option FieldType), (some (Jvm.ClassFile.FieldType.object "java/lang/String")), (some Jvm.ClassFile.FieldType.boolean),
  (some Jvm.ClassFile.FieldType.boolean), (none : Option FieldType), (some Jvm.ClassFile.FieldType.boolean), (none : Option FieldType), (none : Option FieldType), (none : Option FieldType), (none : Option FieldType), (none : Option FieldType),
  (some Jvm.ClassFile.FieldType.boolean), (some Jvm.ClassFile.FieldType.int), (none : Option FieldType), (some (Jvm.ClassFile.FieldType.array Jvm.ClassFile.FieldType.int)), (some Jvm.ClassFile.FieldType.int), (some Jvm.ClassFile.FieldType.int), (some Jvm.ClassFile.FieldType.int), (some Jvm.ClassFile.FieldType.int),
  (some Jvm.ClassFile.FieldType.int), (some Jvm.ClassFile.FieldType.int), (none : Option FieldType), (some Jvm.ClassFile.FieldType.int), (none : Option FieldType), (some Jvm.ClassFile.FieldType.int), (some (Jvm.ClassFile.FieldType.object "KiltRoom$Sett")), (some Jvm.ClassFile.FieldType.int),
  (some Jvm.ClassFile.FieldType.boolean), (some Jvm.ClassFile.FieldType.int), (some Jvm.ClassFile.FieldType.int), (some Jvm.ClassFile.FieldType.int), (some Jvm.ClassFile.FieldType.int), (some Jvm.ClassFile.FieldType.int), (some (Jvm.ClassFile.FieldType.object "KiltRoom$Bolt")), (some Jvm.ClassFile.FieldType.int),
  (some Jvm.ClassFile.FieldType.boolean), (some Jvm.ClassFile.FieldType.int), (some Jvm.ClassFile.FieldType.boolean), (some Jvm.ClassFile.FieldType.int), (some Jvm.ClassFile.FieldType.int), (some Jvm.ClassFile.FieldType.int), (none : Option FieldType), (some Jvm.ClassFile.FieldType.boolean),
  (none : Option FieldType), (some Jvm.ClassFile.FieldType.int), (some (Jvm.ClassFile.FieldType.object "KiltRoom$Kilt")), (some Jvm.ClassFile.FieldType.int), (some Jvm.ClassFile.FieldType.boolean), (some Jvm.ClassFile.FieldType.int), (none : Option FieldType), (some Jvm.ClassFile.FieldType.int),
  (some Jvm.ClassFile.FieldType.int), (some Jvm.ClassFile.FieldType.int), (some Jvm.ClassFile.FieldType.boolean), (some Jvm.ClassFile.FieldType.int), (some Jvm.ClassFile.FieldType.int), (some Jvm.ClassFile.FieldType.int), (some Jvm.ClassFile.FieldType.boolean), (some Jvm.ClassFile.FieldType.boolean),
  (some Jvm.ClassFile.FieldType.int), (some Jvm.ClassFile.FieldType.int), (some Jvm.ClassFile.FieldType.boolean), (none : Option FieldType), (some Jvm.ClassFile.FieldType.int), (none : Option FieldType), (some Jvm.ClassFile.FieldType.int), (some Jvm.ClassFile.FieldType.int),
  (some Jvm.ClassFile.FieldType.int), (some Jvm.ClassFile.FieldType.int), (some Jvm.ClassFile.FieldType.int), (some Jvm.ClassFile.FieldType.int), (some Jvm.ClassFile.FieldType.int), (some Jvm.ClassFile.FieldType.int), (some Jvm.ClassFile.FieldType.int), (some Jvm.ClassFile.FieldType.int),
  (some Jvm.ClassFile.FieldType.int), (some Jvm.ClassFile.FieldType.boolean), (some Jvm.ClassFile.FieldType.int), (some Jvm.ClassFile.FieldType.int), (some Jvm.ClassFile.FieldType.int), (some Jvm.ClassFile.FieldType.long), (some Jvm.ClassFile.FieldType.int), (some Jvm.ClassFile.FieldType.int),
  (none : Option FieldType), (some Jvm.ClassFile.FieldType.int), (some Jvm.ClassFile.FieldType.int), (some Jvm.ClassFile.FieldType.int), (some Jvm.ClassFile.FieldType.int), (some Jvm.ClassFile.FieldType.int), (some Jvm.ClassFile.FieldType.int), (none : Option FieldType),
  (some Jvm.ClassFile.FieldType.int), (some Jvm.ClassFile.FieldType.boolean), (some Jvm.ClassFile.FieldType.int), (some Jvm.ClassFile.FieldType.int), (some Jvm.ClassFile.FieldType.int), (some Jvm.ClassFile.FieldType.int), (some Jvm.ClassFile.FieldType.int), (some (Jvm.ClassFile.FieldType.object "KiltRoom$Sheet")),
  (none : Option FieldType), (some Jvm.ClassFile.FieldType.int), (some Jvm.ClassFile.FieldType.boolean), (some Jvm.ClassFile.FieldType.int), (some Jvm.ClassFile.FieldType.int), (some Jvm.ClassFile.FieldType.int), (none : Option FieldType), (none : Option FieldType),
  (some Jvm.ClassFile.FieldType.int), (some Jvm.ClassFile.FieldType.boolean), (some Jvm.ClassFile.FieldType.int), (some Jvm.ClassFile.FieldType.boolean), (some Jvm.ClassFile.FieldType.boolean), (some Jvm.ClassFile.FieldType.boolean), (some Jvm.ClassFile.FieldType.int), (some Jvm.ClassFile.FieldType.boolean),
  (some Jvm.ClassFile.FieldType.int), (some Jvm.ClassFile.FieldType.int), (some Jvm.ClassFile.FieldType.int), (some Jvm.ClassFile.FieldType.int), (some Jvm.ClassFile.FieldType.int), (some Jvm.ClassFile.FieldType.int), (some Jvm.ClassFile.FieldType.int), (some Jvm.ClassFile.FieldType.boolean),
  (some Jvm.ClassFile.FieldType.boolean), (some Jvm.ClassFile.FieldType.int), (some Jvm.ClassFile.FieldType.int), (some Jvm.ClassFile.FieldType.boolean), (some Jvm.ClassFile.FieldType.int), (some Jvm.ClassFile.FieldType.boolean), (some Jvm.ClassFile.FieldType.boolean), (some Jvm.ClassFile.FieldType.int),
  (some Jvm.ClassFile.FieldType.int), (some Jvm.ClassFile.FieldType.int), (none : Option FieldType), (some Jvm.ClassFile.FieldType.int), (some Jvm.ClassFile.FieldType.int), (some Jvm.ClassFile.FieldType.int), (none : Option FieldType), (some Jvm.ClassFile.FieldType.int),
  (some Jvm.ClassFile.FieldType.boolean), (some Jvm.ClassFile.FieldType.int), (some Jvm.ClassFile.FieldType.int), (some Jvm.ClassFile.FieldType.int), (some Jvm.ClassFile.FieldType.int), (some Jvm.ClassFile.FieldType.int), (some Jvm.ClassFile.FieldType.int), (some Jvm.ClassFile.FieldType.int),
  (some Jvm.ClassFile.FieldType.boolean), (some Jvm.ClassFile.FieldType.int), (some Jvm.ClassFile.FieldType.int), (some Jvm.ClassFile.FieldType.boolean), (none : Option FieldType), (some Jvm.ClassFile.FieldType.boolean), (none : Option FieldType), (some Jvm.ClassFile.FieldType.boolean),
  (some Jvm.ClassFile.FieldType.boolean), (some Jvm.ClassFile.FieldType.boolean), (some Jvm.ClassFile.FieldType.boolean), (some Jvm.ClassFile.FieldType.boolean), (some Jvm.ClassFile.FieldType.boolean), (none : Option FieldType), (none : Option FieldType), (none : Option FieldType),
  (some Jvm.ClassFile.FieldType.int), (some Jvm.ClassFile.FieldType.int), (some Jvm.ClassFile.FieldType.int), (some Jvm.ClassFile.FieldType.long), (some Jvm.ClassFile.FieldType.int), (some Jvm.ClassFile.FieldType.int), (some Jvm.ClassFile.FieldType.int), (some Jvm.ClassFile.FieldType.int),
  (some Jvm.ClassFile.FieldType.int), (some Jvm.ClassFile.FieldType.boolean), (some Jvm.ClassFile.FieldType.int), (some Jvm.ClassFile.FieldType.int), (some Jvm.ClassFile.FieldType.int), (some Jvm.ClassFile.FieldType.boolean), (some Jvm.ClassFile.FieldType.int), (some Jvm.ClassFile.FieldType.int),
  (some Jvm.ClassFile.FieldType.int), (some Jvm.ClassFile.FieldType.boolean)]
def yy (i : Nat) : MethodName := mYs.getD i ⟨"", "", ""⟩
def mb (i : Nat) : ByteArray := mBs.getD i ⟨#[]⟩
def mL (i : Nat) : Nat := mLs.getD i 0
def mR (i : Nat) : Option FieldType := mRs.getD i none
def mW (i : Nat) : Cond := .code (yy i) (mb i) (mL i) (mR i)
set_option maxRecDepth 20000 in
theorem mW_0 : mW 0 ∈ gt := gtm 107 rfl rfl
set_option maxRecDepth 20000 in
theorem mW_1 : mW 1 ∈ gt := gtm 115 rfl rfl
set_option maxRecDepth 20000 in
theorem mW_2 : mW 2 ∈ gt := gtm 131 rfl rfl
set_option maxRecDepth 20000 in
theorem mW_3 : mW 3 ∈ gt := gtm 154 rfl rfl
set_option maxRecDepth 20000 in
theorem mW_4 : mW 4 ∈ gt := gtm 191 rfl rfl
set_option maxRecDepth 20000 in
theorem mW_5 : mW 5 ∈ gt := gtm 222 rfl rfl
set_option maxRecDepth 20000 in
theorem mW_6 : mW 6 ∈ gt := gtm 226 rfl rfl
set_option maxRecDepth 20000 in
theorem mW_7 : mW 7 ∈ gt := gtm 262 rfl rfl
set_option maxRecDepth 20000 in
theorem mW_8 : mW 8 ∈ gt := gtm 280 rfl rfl
set_option maxRecDepth 20000 in
theorem mW_9 : mW 9 ∈ gt := gtm 284 rfl rfl
set_option maxRecDepth 20000 in
theorem mW_10 : mW 10 ∈ gt := gtm 290 rfl rfl
set_option maxRecDepth 20000 in
theorem mW_11 : mW 11 ∈ gt := gtm 294 rfl rfl
set_option maxRecDepth 20000 in
theorem mW_12 : mW 12 ∈ gt := gtm 297 rfl rfl
set_option maxRecDepth 20000 in
theorem mW_13 : mW 13 ∈ gt := gtm 300 rfl rfl
set_option maxRecDepth 20000 in
theorem mW_14 : mW 14 ∈ gt := gtm 305 rfl rfl
set_option maxRecDepth 20000 in
theorem mW_15 : mW 15 ∈ gt := gtm 328 rfl rfl
set_option maxRecDepth 20000 in
theorem mW_16 : mW 16 ∈ gt := gtm 332 rfl rfl
set_option maxRecDepth 20000 in
theorem mW_17 : mW 17 ∈ gt := gtm 336 rfl rfl
set_option maxRecDepth 20000 in
theorem mW_18 : mW 18 ∈ gt := gtm 340 rfl rfl
set_option maxRecDepth 20000 in
theorem mW_19 : mW 19 ∈ gt := gtm 343 rfl rfl
set_option maxRecDepth 20000 in
theorem mW_20 : mW 20 ∈ gt := gtm 346 rfl rfl
set_option maxRecDepth 20000 in
theorem mW_21 : mW 21 ∈ gt := gtm 350 rfl rfl
set_option maxRecDepth 20000 in
theorem mW_22 : mW 22 ∈ gt := gtm 353 rfl rfl
set_option maxRecDepth 20000 in
theorem mW_23 : mW 23 ∈ gt := gtm 368 rfl rfl
set_option maxRecDepth 20000 in
theorem mW_24 : mW 24 ∈ gt := gtm 373 rfl rfl
set_option maxRecDepth 20000 in
theorem mW_25 : mW 25 ∈ gt := gtm 377 rfl rfl
set_option maxRecDepth 20000 in
theorem mW_26 : mW 26 ∈ gt := gtm 380 rfl rfl
set_option maxRecDepth 20000 in
theorem mW_27 : mW 27 ∈ gt := gtm 384 rfl rfl
set_option maxRecDepth 20000 in
theorem mW_28 : mW 28 ∈ gt := gtm 388 rfl rfl
set_option maxRecDepth 20000 in
theorem mW_29 : mW 29 ∈ gt := gtm 392 rfl rfl
set_option maxRecDepth 20000 in
theorem mW_30 : mW 30 ∈ gt := gtm 396 rfl rfl
set_option maxRecDepth 20000 in
theorem mW_31 : mW 31 ∈ gt := gtm 400 rfl rfl
set_option maxRecDepth 20000 in
theorem mW_32 : mW 32 ∈ gt := gtm 404 rfl rfl
set_option maxRecDepth 20000 in
theorem mW_33 : mW 33 ∈ gt := gtm 407 rfl rfl
set_option maxRecDepth 20000 in
theorem mW_34 : mW 34 ∈ gt := gtm 411 rfl rfl
set_option maxRecDepth 20000 in
theorem mW_35 : mW 35 ∈ gt := gtm 415 rfl rfl
set_option maxRecDepth 20000 in
theorem mW_36 : mW 36 ∈ gt := gtm 425 rfl rfl
set_option maxRecDepth 20000 in
theorem mW_37 : mW 37 ∈ gt := gtm 495 rfl rfl
set_option maxRecDepth 20000 in
theorem mW_38 : mW 38 ∈ gt := gtm 499 rfl rfl
set_option maxRecDepth 20000 in
theorem mW_39 : mW 39 ∈ gt := gtm 503 rfl rfl
set_option maxRecDepth 20000 in
theorem mW_40 : mW 40 ∈ gt := gtm 508 rfl rfl
set_option maxRecDepth 20000 in
theorem mW_41 : mW 41 ∈ gt := gtm 512 rfl rfl
set_option maxRecDepth 20000 in
theorem mW_42 : mW 42 ∈ gt := gtm 516 rfl rfl
set_option maxRecDepth 20000 in
theorem mW_43 : mW 43 ∈ gt := gtm 523 rfl rfl
set_option maxRecDepth 20000 in
theorem mW_44 : mW 44 ∈ gt := gtm 557 rfl rfl
set_option maxRecDepth 20000 in
theorem mW_45 : mW 45 ∈ gt := gtm 583 rfl rfl
set_option maxRecDepth 20000 in
theorem mW_46 : mW 46 ∈ gt := gtm 587 rfl rfl
set_option maxRecDepth 20000 in
theorem mW_47 : mW 47 ∈ gt := gtm 591 rfl rfl
set_option maxRecDepth 20000 in
theorem mW_48 : mW 48 ∈ gt := gtm 595 rfl rfl
set_option maxRecDepth 20000 in
theorem mW_49 : mW 49 ∈ gt := gtm 599 rfl rfl
set_option maxRecDepth 20000 in
theorem mW_50 : mW 50 ∈ gt := gtm 603 rfl rfl
set_option maxRecDepth 20000 in
theorem mW_51 : mW 51 ∈ gt := gtm 607 rfl rfl
set_option maxRecDepth 20000 in
theorem mW_52 : mW 52 ∈ gt := gtm 612 rfl rfl
set_option maxRecDepth 20000 in
theorem mW_53 : mW 53 ∈ gt := gtm 616 rfl rfl
set_option maxRecDepth 20000 in
theorem mW_54 : mW 54 ∈ gt := gtm 620 rfl rfl
set_option maxRecDepth 20000 in
theorem mW_55 : mW 55 ∈ gt := gtm 624 rfl rfl
set_option maxRecDepth 20000 in
theorem mW_56 : mW 56 ∈ gt := gtm 628 rfl rfl
set_option maxRecDepth 20000 in
theorem mW_57 : mW 57 ∈ gt := gtm 632 rfl rfl
set_option maxRecDepth 20000 in
theorem mW_58 : mW 58 ∈ gt := gtm 635 rfl rfl
set_option maxRecDepth 20000 in
theorem mW_59 : mW 59 ∈ gt := gtm 638 rfl rfl
set_option maxRecDepth 20000 in
theorem mW_60 : mW 60 ∈ gt := gtm 641 rfl rfl
set_option maxRecDepth 20000 in
theorem mW_61 : mW 61 ∈ gt := gtm 644 rfl rfl
set_option maxRecDepth 20000 in
theorem mW_62 : mW 62 ∈ gt := gtm 648 rfl rfl
set_option maxRecDepth 20000 in
theorem mW_63 : mW 63 ∈ gt := gtm 654 rfl rfl
set_option maxRecDepth 20000 in
theorem mW_64 : mW 64 ∈ gt := gtm 661 rfl rfl
set_option maxRecDepth 20000 in
theorem mW_65 : mW 65 ∈ gt := gtm 771 rfl rfl
set_option maxRecDepth 20000 in
theorem mW_66 : mW 66 ∈ gt := gtm 775 rfl rfl
set_option maxRecDepth 20000 in
theorem mW_67 : mW 67 ∈ gt := gtm 779 rfl rfl
set_option maxRecDepth 20000 in
theorem mW_68 : mW 68 ∈ gt := gtm 783 rfl rfl
set_option maxRecDepth 20000 in
theorem mW_69 : mW 69 ∈ gt := gtm 788 rfl rfl
set_option maxRecDepth 20000 in
theorem mW_70 : mW 70 ∈ gt := gtm 792 rfl rfl
set_option maxRecDepth 20000 in
theorem mW_71 : mW 71 ∈ gt := gtm 796 rfl rfl
set_option maxRecDepth 20000 in
theorem mW_72 : mW 72 ∈ gt := gtm 800 rfl rfl
set_option maxRecDepth 20000 in
theorem mW_73 : mW 73 ∈ gt := gtm 804 rfl rfl
set_option maxRecDepth 20000 in
theorem mW_74 : mW 74 ∈ gt := gtm 808 rfl rfl
set_option maxRecDepth 20000 in
theorem mW_75 : mW 75 ∈ gt := gtm 812 rfl rfl
set_option maxRecDepth 20000 in
theorem mW_76 : mW 76 ∈ gt := gtm 817 rfl rfl
set_option maxRecDepth 20000 in
theorem mW_77 : mW 77 ∈ gt := gtm 821 rfl rfl
set_option maxRecDepth 20000 in
theorem mW_78 : mW 78 ∈ gt := gtm 826 rfl rfl
set_option maxRecDepth 20000 in
theorem mW_79 : mW 79 ∈ gt := gtm 830 rfl rfl
set_option maxRecDepth 20000 in
theorem mW_80 : mW 80 ∈ gt := gtm 834 rfl rfl
set_option maxRecDepth 20000 in
theorem mW_81 : mW 81 ∈ gt := gtm 837 rfl rfl
set_option maxRecDepth 20000 in
theorem mW_82 : mW 82 ∈ gt := gtm 841 rfl rfl
set_option maxRecDepth 20000 in
theorem mW_83 : mW 83 ∈ gt := gtm 845 rfl rfl
set_option maxRecDepth 20000 in
theorem mW_84 : mW 84 ∈ gt := gtm 849 rfl rfl
set_option maxRecDepth 20000 in
theorem mW_85 : mW 85 ∈ gt := gtm 853 rfl rfl
set_option maxRecDepth 20000 in
theorem mW_86 : mW 86 ∈ gt := gtm 857 rfl rfl
set_option maxRecDepth 20000 in
theorem mW_87 : mW 87 ∈ gt := gtm 861 rfl rfl
set_option maxRecDepth 20000 in
theorem mW_88 : mW 88 ∈ gt := gtm 865 rfl rfl
set_option maxRecDepth 20000 in
theorem mW_89 : mW 89 ∈ gt := gtm 869 rfl rfl
set_option maxRecDepth 20000 in
theorem mW_90 : mW 90 ∈ gt := gtm 873 rfl rfl
set_option maxRecDepth 20000 in
theorem mW_91 : mW 91 ∈ gt := gtm 877 rfl rfl
set_option maxRecDepth 20000 in
theorem mW_92 : mW 92 ∈ gt := gtm 882 rfl rfl
set_option maxRecDepth 20000 in
theorem mW_93 : mW 93 ∈ gt := gtm 886 rfl rfl
set_option maxRecDepth 20000 in
theorem mW_94 : mW 94 ∈ gt := gtm 890 rfl rfl
set_option maxRecDepth 20000 in
theorem mW_95 : mW 95 ∈ gt := gtm 896 rfl rfl
set_option maxRecDepth 20000 in
theorem mW_96 : mW 96 ∈ gt := gtm 900 rfl rfl
set_option maxRecDepth 20000 in
theorem mW_97 : mW 97 ∈ gt := gtm 904 rfl rfl
set_option maxRecDepth 20000 in
theorem mW_98 : mW 98 ∈ gt := gtm 910 rfl rfl
set_option maxRecDepth 20000 in
theorem mW_99 : mW 99 ∈ gt := gtm 914 rfl rfl
set_option maxRecDepth 20000 in
theorem mW_100 : mW 100 ∈ gt := gtm 918 rfl rfl
set_option maxRecDepth 20000 in
theorem mW_101 : mW 101 ∈ gt := gtm 922 rfl rfl
set_option maxRecDepth 20000 in
theorem mW_102 : mW 102 ∈ gt := gtm 927 rfl rfl
set_option maxRecDepth 20000 in
theorem mW_103 : mW 103 ∈ gt := gtm 930 rfl rfl
set_option maxRecDepth 20000 in
theorem mW_104 : mW 104 ∈ gt := gtm 934 rfl rfl
set_option maxRecDepth 20000 in
theorem mW_105 : mW 105 ∈ gt := gtm 938 rfl rfl
set_option maxRecDepth 20000 in
theorem mW_106 : mW 106 ∈ gt := gtm 941 rfl rfl
set_option maxRecDepth 20000 in
theorem mW_107 : mW 107 ∈ gt := gtm 945 rfl rfl
set_option maxRecDepth 20000 in
theorem mW_108 : mW 108 ∈ gt := gtm 949 rfl rfl
set_option maxRecDepth 20000 in
theorem mW_109 : mW 109 ∈ gt := gtm 953 rfl rfl
set_option maxRecDepth 20000 in
theorem mW_110 : mW 110 ∈ gt := gtm 957 rfl rfl
set_option maxRecDepth 20000 in
theorem mW_111 : mW 111 ∈ gt := gtm 961 rfl rfl
set_option maxRecDepth 20000 in
theorem mW_112 : mW 112 ∈ gt := gtm 965 rfl rfl
set_option maxRecDepth 20000 in
theorem mW_113 : mW 113 ∈ gt := gtm 970 rfl rfl
set_option maxRecDepth 20000 in
theorem mW_114 : mW 114 ∈ gt := gtm 973 rfl rfl
set_option maxRecDepth 20000 in
theorem mW_115 : mW 115 ∈ gt := gtm 981 rfl rfl
set_option maxRecDepth 20000 in
theorem mW_116 : mW 116 ∈ gt := gtm 985 rfl rfl
set_option maxRecDepth 20000 in
theorem mW_117 : mW 117 ∈ gt := gtm 989 rfl rfl
set_option maxRecDepth 20000 in
theorem mW_118 : mW 118 ∈ gt := gtm 993 rfl rfl
set_option maxRecDepth 20000 in
theorem mW_119 : mW 119 ∈ gt := gtm 997 rfl rfl
set_option maxRecDepth 20000 in
theorem mW_120 : mW 120 ∈ gt := gtm 1001 rfl rfl
set_option maxRecDepth 20000 in
theorem mW_121 : mW 121 ∈ gt := gtm 1006 rfl rfl
set_option maxRecDepth 20000 in
theorem mW_122 : mW 122 ∈ gt := gtm 1010 rfl rfl
set_option maxRecDepth 20000 in
theorem mW_123 : mW 123 ∈ gt := gtm 1014 rfl rfl
set_option maxRecDepth 20000 in
theorem mW_124 : mW 124 ∈ gt := gtm 1018 rfl rfl
set_option maxRecDepth 20000 in
theorem mW_125 : mW 125 ∈ gt := gtm 1022 rfl rfl
set_option maxRecDepth 20000 in
theorem mW_126 : mW 126 ∈ gt := gtm 1028 rfl rfl
set_option maxRecDepth 20000 in
theorem mW_127 : mW 127 ∈ gt := gtm 1033 rfl rfl
set_option maxRecDepth 20000 in
theorem mW_128 : mW 128 ∈ gt := gtm 1240 rfl rfl
set_option maxRecDepth 20000 in
theorem mW_129 : mW 129 ∈ gt := gtm 1244 rfl rfl
set_option maxRecDepth 20000 in
theorem mW_130 : mW 130 ∈ gt := gtm 1248 rfl rfl
set_option maxRecDepth 20000 in
theorem mW_131 : mW 131 ∈ gt := gtm 1252 rfl rfl
set_option maxRecDepth 20000 in
theorem mW_132 : mW 132 ∈ gt := gtm 1256 rfl rfl
set_option maxRecDepth 20000 in
theorem mW_133 : mW 133 ∈ gt := gtm 1260 rfl rfl
set_option maxRecDepth 20000 in
theorem mW_134 : mW 134 ∈ gt := gtm 1264 rfl rfl
set_option maxRecDepth 20000 in
theorem mW_135 : mW 135 ∈ gt := gtm 1268 rfl rfl
set_option maxRecDepth 20000 in
theorem mW_136 : mW 136 ∈ gt := gtm 1272 rfl rfl
set_option maxRecDepth 20000 in
theorem mW_137 : mW 137 ∈ gt := gtm 1276 rfl rfl
set_option maxRecDepth 20000 in
theorem mW_138 : mW 138 ∈ gt := gtm 1280 rfl rfl
set_option maxRecDepth 20000 in
theorem mW_139 : mW 139 ∈ gt := gtm 1284 rfl rfl
set_option maxRecDepth 20000 in
theorem mW_140 : mW 140 ∈ gt := gtm 1288 rfl rfl
set_option maxRecDepth 20000 in
theorem mW_141 : mW 141 ∈ gt := gtm 1293 rfl rfl
set_option maxRecDepth 20000 in
theorem mW_142 : mW 142 ∈ gt := gtm 1297 rfl rfl
set_option maxRecDepth 20000 in
theorem mW_143 : mW 143 ∈ gt := gtm 1301 rfl rfl
set_option maxRecDepth 20000 in
theorem mW_144 : mW 144 ∈ gt := gtm 1305 rfl rfl
set_option maxRecDepth 20000 in
theorem mW_145 : mW 145 ∈ gt := gtm 1309 rfl rfl
set_option maxRecDepth 20000 in
theorem mW_146 : mW 146 ∈ gt := gtm 1313 rfl rfl
set_option maxRecDepth 20000 in
theorem mW_147 : mW 147 ∈ gt := gtm 1317 rfl rfl
set_option maxRecDepth 20000 in
theorem mW_148 : mW 148 ∈ gt := gtm 1321 rfl rfl
set_option maxRecDepth 20000 in
theorem mW_149 : mW 149 ∈ gt := gtm 1325 rfl rfl
set_option maxRecDepth 20000 in
theorem mW_150 : mW 150 ∈ gt := gtm 1329 rfl rfl
set_option maxRecDepth 20000 in
theorem mW_151 : mW 151 ∈ gt := gtm 1333 rfl rfl
set_option maxRecDepth 20000 in
theorem mW_152 : mW 152 ∈ gt := gtm 1338 rfl rfl
set_option maxRecDepth 20000 in
theorem mW_153 : mW 153 ∈ gt := gtm 1342 rfl rfl
set_option maxRecDepth 20000 in
theorem mW_154 : mW 154 ∈ gt := gtm 1346 rfl rfl
set_option maxRecDepth 20000 in
theorem mW_155 : mW 155 ∈ gt := gtm 1350 rfl rfl
set_option maxRecDepth 20000 in
theorem mW_156 : mW 156 ∈ gt := gtm 1354 rfl rfl
set_option maxRecDepth 20000 in
theorem mW_157 : mW 157 ∈ gt := gtm 1358 rfl rfl
set_option maxRecDepth 20000 in
theorem mW_158 : mW 158 ∈ gt := gtm 1362 rfl rfl
set_option maxRecDepth 20000 in
theorem mW_159 : mW 159 ∈ gt := gtm 1366 rfl rfl
set_option maxRecDepth 20000 in
theorem mW_160 : mW 160 ∈ gt := gtm 1370 rfl rfl
set_option maxRecDepth 20000 in
theorem mW_161 : mW 161 ∈ gt := gtm 1374 rfl rfl
set_option maxRecDepth 20000 in
theorem mW_162 : mW 162 ∈ gt := gtm 1378 rfl rfl
set_option maxRecDepth 20000 in
theorem mW_163 : mW 163 ∈ gt := gtm 1382 rfl rfl
set_option maxRecDepth 20000 in
theorem mW_164 : mW 164 ∈ gt := gtm 1386 rfl rfl
set_option maxRecDepth 20000 in
theorem mW_165 : mW 165 ∈ gt := gtm 1390 rfl rfl
set_option maxRecDepth 20000 in
theorem mW_166 : mW 166 ∈ gt := gtm 1394 rfl rfl
set_option maxRecDepth 20000 in
theorem mW_167 : mW 167 ∈ gt := gtm 1398 rfl rfl
set_option maxRecDepth 20000 in
theorem mW_168 : mW 168 ∈ gt := gtm 1402 rfl rfl
set_option maxRecDepth 20000 in
theorem mW_169 : mW 169 ∈ gt := gtm 1406 rfl rfl
set_option maxRecDepth 20000 in
theorem mW_170 : mW 170 ∈ gt := gtm 1410 rfl rfl
set_option maxRecDepth 20000 in
theorem mW_171 : mW 171 ∈ gt := gtm 1414 rfl rfl
set_option maxRecDepth 20000 in
theorem mW_172 : mW 172 ∈ gt := gtm 1418 rfl rfl
set_option maxRecDepth 20000 in
theorem mW_173 : mW 173 ∈ gt := gtm 1422 rfl rfl
set_option maxRecDepth 20000 in
theorem mW_174 : mW 174 ∈ gt := gtm 1426 rfl rfl
set_option maxRecDepth 20000 in
theorem mW_175 : mW 175 ∈ gt := gtm 1431 rfl rfl
set_option maxRecDepth 20000 in
theorem mW_176 : mW 176 ∈ gt := gtm 1446 rfl rfl
set_option maxRecDepth 20000 in
theorem mW_177 : mW 177 ∈ gt := gtm 1450 rfl rfl
set_option maxRecDepth 20000 in
theorem mW_178 : mW 178 ∈ gt := gtm 1454 rfl rfl
set_option maxRecDepth 20000 in
theorem mW_179 : mW 179 ∈ gt := gtm 1458 rfl rfl
set_option maxRecDepth 20000 in
theorem mW_180 : mW 180 ∈ gt := gtm 1462 rfl rfl
set_option maxRecDepth 20000 in
theorem mW_181 : mW 181 ∈ gt := gtm 1466 rfl rfl
set_option maxRecDepth 20000 in
theorem mW_182 : mW 182 ∈ gt := gtm 1470 rfl rfl
set_option maxRecDepth 20000 in
theorem mW_183 : mW 183 ∈ gt := gtm 1474 rfl rfl
set_option maxRecDepth 20000 in
theorem mW_184 : mW 184 ∈ gt := gtm 1478 rfl rfl
set_option maxRecDepth 20000 in
theorem mW_185 : mW 185 ∈ gt := gtm 1482 rfl rfl
set_option maxRecDepth 20000 in
theorem mW_186 : mW 186 ∈ gt := gtm 1486 rfl rfl
set_option maxRecDepth 20000 in
theorem mW_187 : mW 187 ∈ gt := gtm 1490 rfl rfl
set_option maxRecDepth 20000 in
theorem mW_188 : mW 188 ∈ gt := gtm 1495 rfl rfl
set_option maxRecDepth 20000 in
theorem mW_189 : mW 189 ∈ gt := gtm 1499 rfl rfl
set_option maxRecDepth 20000 in
theorem mW_190 : mW 190 ∈ gt := gtm 1503 rfl rfl
set_option maxRecDepth 20000 in
theorem mW_191 : mW 191 ∈ gt := gtm 1507 rfl rfl
set_option maxRecDepth 20000 in
theorem mW_192 : mW 192 ∈ gt := gtm 1511 rfl rfl
set_option maxRecDepth 20000 in
theorem mW_193 : mW 193 ∈ gt := gtm 1515 rfl rfl
set_option maxRecDepth 20000 in
theorem mW_194 : mW 194 ∈ gt := gtm 1519 rfl rfl
set_option maxRecDepth 20000 in
theorem mW_195 : mW 195 ∈ gt := gtm 1523 rfl rfl
set_option maxRecDepth 20000 in
theorem mW_196 : mW 196 ∈ gt := gtm 1527 rfl rfl
set_option maxRecDepth 20000 in
theorem mW_197 : mW 197 ∈ gt := gtm 1531 rfl rfl
set_option maxRecDepth 20000 in
theorem mW_198 : mW 198 ∈ gt := gtm 1535 rfl rfl
set_option maxRecDepth 20000 in
theorem mW_199 : mW 199 ∈ gt := gtm 1539 rfl rfl
set_option maxRecDepth 20000 in
theorem mW_200 : mW 200 ∈ gt := gtm 1544 rfl rfl
set_option maxRecDepth 20000 in
theorem mW_201 : mW 201 ∈ gt := gtm 1548 rfl rfl
theorem mWa_20 : ∀ a, a < 20 → mW a ∈ gt := (lt_s (lt_s (lt_s (lt_s (lt_s (lt_s (lt_s (lt_s (lt_s (lt_s (lt_s (lt_s (lt_s (lt_s (lt_s (lt_s (lt_s (lt_s (lt_s (lt_s lt_0 mW_0) mW_1) mW_2) mW_3) mW_4) mW_5) mW_6) mW_7) mW_8) mW_9) mW_10) mW_11) mW_12) mW_13) mW_14) mW_15) mW_16) mW_17) mW_18) mW_19)
theorem mWa_40 : ∀ a, a < 40 → mW a ∈ gt := (lt_s (lt_s (lt_s (lt_s (lt_s (lt_s (lt_s (lt_s (lt_s (lt_s (lt_s (lt_s (lt_s (lt_s (lt_s (lt_s (lt_s (lt_s (lt_s (lt_s mWa_20 mW_20) mW_21) mW_22) mW_23) mW_24) mW_25) mW_26) mW_27) mW_28) mW_29) mW_30) mW_31) mW_32) mW_33) mW_34) mW_35) mW_36) mW_37) mW_38) mW_39)
theorem mWa_60 : ∀ a, a < 60 → mW a ∈ gt := (lt_s (lt_s (lt_s (lt_s (lt_s (lt_s (lt_s (lt_s (lt_s (lt_s (lt_s (lt_s (lt_s (lt_s (lt_s (lt_s (lt_s (lt_s (lt_s (lt_s mWa_40 mW_40) mW_41) mW_42) mW_43) mW_44) mW_45) mW_46) mW_47) mW_48) mW_49) mW_50) mW_51) mW_52) mW_53) mW_54) mW_55) mW_56) mW_57) mW_58) mW_59)
theorem mWa_80 : ∀ a, a < 80 → mW a ∈ gt := (lt_s (lt_s (lt_s (lt_s (lt_s (lt_s (lt_s (lt_s (lt_s (lt_s (lt_s (lt_s (lt_s (lt_s (lt_s (lt_s (lt_s (lt_s (lt_s (lt_s mWa_60 mW_60) mW_61) mW_62) mW_63) mW_64) mW_65) mW_66) mW_67) mW_68) mW_69) mW_70) mW_71) mW_72) mW_73) mW_74) mW_75) mW_76) mW_77) mW_78) mW_79)
theorem mWa_100 : ∀ a, a < 100 → mW a ∈ gt := (lt_s (lt_s (lt_s (lt_s (lt_s (lt_s (lt_s (lt_s (lt_s (lt_s (lt_s (lt_s (lt_s (lt_s (lt_s (lt_s (lt_s (lt_s (lt_s (lt_s mWa_80 mW_80) mW_81) mW_82) mW_83) mW_84) mW_85) mW_86) mW_87) mW_88) mW_89) mW_90) mW_91) mW_92) mW_93) mW_94) mW_95) mW_96) mW_97) mW_98) mW_99)
theorem mWa_120 : ∀ a, a < 120 → mW a ∈ gt := (lt_s (lt_s (lt_s (lt_s (lt_s (lt_s (lt_s (lt_s (lt_s (lt_s (lt_s (lt_s (lt_s (lt_s (lt_s (lt_s (lt_s (lt_s (lt_s (lt_s mWa_100 mW_100) mW_101) mW_102) mW_103) mW_104) mW_105) mW_106) mW_107) mW_108) mW_109) mW_110) mW_111) mW_112) mW_113) mW_114) mW_115) mW_116) mW_117) mW_118) mW_119)
theorem mWa_140 : ∀ a, a < 140 → mW a ∈ gt := (lt_s (lt_s (lt_s (lt_s (lt_s (lt_s (lt_s (lt_s (lt_s (lt_s (lt_s (lt_s (lt_s (lt_s (lt_s (lt_s (lt_s (lt_s (lt_s (lt_s mWa_120 mW_120) mW_121) mW_122) mW_123) mW_124) mW_125) mW_126) mW_127) mW_128) mW_129) mW_130) mW_131) mW_132) mW_133) mW_134) mW_135) mW_136) mW_137) mW_138) mW_139)
theorem mWa_160 : ∀ a, a < 160 → mW a ∈ gt := (lt_s (lt_s (lt_s (lt_s (lt_s (lt_s (lt_s (lt_s (lt_s (lt_s (lt_s (lt_s (lt_s (lt_s (lt_s (lt_s (lt_s (lt_s (lt_s (lt_s mWa_140 mW_140) mW_141) mW_142) mW_143) mW_144) mW_145) mW_146) mW_147) mW_148) mW_149) mW_150) mW_151) mW_152) mW_153) mW_154) mW_155) mW_156) mW_157) mW_158) mW_159)
theorem mWa_180 : ∀ a, a < 180 → mW a ∈ gt := (lt_s (lt_s (lt_s (lt_s (lt_s (lt_s (lt_s (lt_s (lt_s (lt_s (lt_s (lt_s (lt_s (lt_s (lt_s (lt_s (lt_s (lt_s (lt_s (lt_s mWa_160 mW_160) mW_161) mW_162) mW_163) mW_164) mW_165) mW_166) mW_167) mW_168) mW_169) mW_170) mW_171) mW_172) mW_173) mW_174) mW_175) mW_176) mW_177) mW_178) mW_179)
theorem mWa_200 : ∀ a, a < 200 → mW a ∈ gt := (lt_s (lt_s (lt_s (lt_s (lt_s (lt_s (lt_s (lt_s (lt_s (lt_s (lt_s (lt_s (lt_s (lt_s (lt_s (lt_s (lt_s (lt_s (lt_s (lt_s mWa_180 mW_180) mW_181) mW_182) mW_183) mW_184) mW_185) mW_186) mW_187) mW_188) mW_189) mW_190) mW_191) mW_192) mW_193) mW_194) mW_195) mW_196) mW_197) mW_198) mW_199)
theorem mWa_202 : ∀ a, a < 202 → mW a ∈ gt := (lt_s (lt_s mWa_200 mW_200) mW_201)
theorem mW_in {i : Nat} (h : i < 202) : mW i ∈ gt := mWa_202 i h
theorem mN_ok : ∀ i, i < 202 → plainFor (yy i) = true ∧ (yy i).cls ≠ "java/lang/invoke/MethodHandle" ∧ (yy i).cls ≠ "java/lang/invoke/VarHandle" ∧ mL i ≤ 11 := by decide +kernel
def miP : List Nat := [82, 83, 84, 85, 86, 87, 88, 89, 90, 90, 90, 90, 91, 90, 92, 83, 85, 85, 83, 85, 85, 85, 85, 85, 85, 85, 85, 85, 85, 85, 85, 85, 85, 85, 94, 88, 95, 82, 82, 84, 84, 84, 98, 98, 99, 82, 82, 82, 98, 82, 98, 82, 82, 82, 82, 99, 99, 82, 82, 82, 82, 95, 100, 82, 101, 82, 82, 82, 100, 86, 86, 98, 95, 86, 86, 86, 86, 86, 86, 86, 86, 86, 86, 86, 86, 100, 82, 82, 100, 101, 101, 101, 82, 100, 100, 82, 82, 100, 82, 82, 82, 82, 94, 94, 94, 94, 94, 82, 82, 82, 87, 87, 87, 87, 102, 82, 82, 82, 82, 82, 89, 82, 89, 89, 82, 82, 97, 97, 97, 97, 97, 97, 97, 97, 97, 97, 97, 97, 97, 97, 97, 97, 97, 97, 97, 97, 97, 97, 97, 97, 97, 97, 97, 97, 97, 97, 97, 97, 97, 97, 97, 97, 97, 97, 97, 97, 97, 97, 97, 97, 97, 97, 97, 97, 97, 97, 97, 97, 97, 97, 97, 97, 97, 97, 97, 97, 97, 97, 97, 97, 97, 97, 97, 97, 97, 97, 97, 97, 97, 97, 97, 97]
theorem mi_ok : ∀ i, i < 202 → lw_tbl[miP.getD i 0]? = some (.initialized (yy i).cls) ∧ gok (.initialized (yy i).cls) = true := by decide +kernel
