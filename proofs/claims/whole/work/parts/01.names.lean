-- ===== PART A: goes FIRST, ahead of the names: the tables' words, and 'selects' of the private methods out of them =====
/-- a private method of a class that the tables say can be made, by its rows of tables_1 -/
def lw_okq (q : MethodName × Nat) : Prop := (q.1.cls ≠ "java/lang/invoke/MethodHandle" ∧ q.1.cls ≠ "java/lang/invoke/VarHandle") ∧ Cond.instantiable q.1.cls q.2 ∈ tables_1 ∧ Cond.privateMethod q.1 ∈ tables_1 ∧ Cond.instanceMethod q.1 ∈ tables_1
theorem lw_p0 : lw_okq (⟨"BitCopier", "formOrNull", "(I)LBitCopier$Form;"⟩, 8) := ⟨⟨by decide +kernel, by decide +kernel⟩, List.mem_of_getElem? (i := 9) (by decide +kernel), List.mem_of_getElem? (i := 181) (by decide +kernel), List.mem_of_getElem? (i := 182) (by decide +kernel)⟩
theorem lw_p1 : lw_okq (⟨"BitCopier", "copyBits", "()I"⟩, 8) := ⟨⟨by decide +kernel, by decide +kernel⟩, List.mem_of_getElem? (i := 9) (by decide +kernel), List.mem_of_getElem? (i := 210) (by decide +kernel), List.mem_of_getElem? (i := 211) (by decide +kernel)⟩
theorem lw_p2 : lw_okq (⟨"BitCopier", "findReach", "(LBitCopier$Reach;I)V"⟩, 8) := ⟨⟨by decide +kernel, by decide +kernel⟩, List.mem_of_getElem? (i := 9) (by decide +kernel), List.mem_of_getElem? (i := 214) (by decide +kernel), List.mem_of_getElem? (i := 215) (by decide +kernel)⟩
theorem lw_p3 : lw_okq (⟨"BitCopier", "copyRow", "(I)V"⟩, 8) := ⟨⟨by decide +kernel, by decide +kernel⟩, List.mem_of_getElem? (i := 9) (by decide +kernel), List.mem_of_getElem? (i := 236) (by decide +kernel), List.mem_of_getElem? (i := 237) (by decide +kernel)⟩
theorem lw_p4 : lw_okq (⟨"BitCopier", "incoming", "(II)I"⟩, 8) := ⟨⟨by decide +kernel, by decide +kernel⟩, List.mem_of_getElem? (i := 9) (by decide +kernel), List.mem_of_getElem? (i := 241) (by decide +kernel), List.mem_of_getElem? (i := 242) (by decide +kernel)⟩
theorem lw_p5 : lw_okq (⟨"BitCopier$Form", "wordInRow", "(II)I"⟩, 4) := ⟨⟨by decide +kernel, by decide +kernel⟩, List.mem_of_getElem? (i := 18) (by decide +kernel), List.mem_of_getElem? (i := 252) (by decide +kernel), List.mem_of_getElem? (i := 253) (by decide +kernel)⟩
theorem lw_p6 : lw_okq (⟨"BitCopier", "byRule", "(II)I"⟩, 8) := ⟨⟨by decide +kernel, by decide +kernel⟩, List.mem_of_getElem? (i := 9) (by decide +kernel), List.mem_of_getElem? (i := 260) (by decide +kernel), List.mem_of_getElem? (i := 261) (by decide +kernel)⟩
theorem lw_p7 : lw_okq (⟨"BitCopier", "drawAlong", "(III)I"⟩, 8) := ⟨⟨by decide +kernel, by decide +kernel⟩, List.mem_of_getElem? (i := 9) (by decide +kernel), List.mem_of_getElem? (i := 274) (by decide +kernel), List.mem_of_getElem? (i := 275) (by decide +kernel)⟩
theorem lw_p8 : lw_okq (⟨"BitCopier", "moveTo", "(II)Z"⟩, 8) := ⟨⟨by decide +kernel, by decide +kernel⟩, List.mem_of_getElem? (i := 9) (by decide +kernel), List.mem_of_getElem? (i := 281) (by decide +kernel), List.mem_of_getElem? (i := 282) (by decide +kernel)⟩
theorem lw_p9 : lw_okq (⟨"BitCopierModel", "perRow", "(I)I"⟩, 10) := ⟨⟨by decide +kernel, by decide +kernel⟩, List.mem_of_getElem? (i := 285) (by decide +kernel), List.mem_of_getElem? (i := 332) (by decide +kernel), List.mem_of_getElem? (i := 333) (by decide +kernel)⟩
theorem lw_p10 : lw_okq (⟨"BitCopierModel", "isWord", "(II)Z"⟩, 10) := ⟨⟨by decide +kernel, by decide +kernel⟩, List.mem_of_getElem? (i := 285) (by decide +kernel), List.mem_of_getElem? (i := 340) (by decide +kernel), List.mem_of_getElem? (i := 341) (by decide +kernel)⟩
theorem lw_p11 : lw_okq (⟨"BitCopierModel", "isBit", "(IJJ)Z"⟩, 10) := ⟨⟨by decide +kernel, by decide +kernel⟩, List.mem_of_getElem? (i := 285) (by decide +kernel), List.mem_of_getElem? (i := 354) (by decide +kernel), List.mem_of_getElem? (i := 355) (by decide +kernel)⟩
theorem lw_p12 : lw_okq (⟨"BitCopierModel", "bitAt", "(III)I"⟩, 10) := ⟨⟨by decide +kernel, by decide +kernel⟩, List.mem_of_getElem? (i := 285) (by decide +kernel), List.mem_of_getElem? (i := 358) (by decide +kernel), List.mem_of_getElem? (i := 359) (by decide +kernel)⟩
theorem lw_p13 : lw_okq (⟨"BitCopierModel", "isPattern", "(I)Z"⟩, 10) := ⟨⟨by decide +kernel, by decide +kernel⟩, List.mem_of_getElem? (i := 285) (by decide +kernel), List.mem_of_getElem? (i := 374) (by decide +kernel), List.mem_of_getElem? (i := 375) (by decide +kernel)⟩
theorem lw_p14 : lw_okq (⟨"BitCopierModel", "lacksPattern", "()Z"⟩, 10) := ⟨⟨by decide +kernel, by decide +kernel⟩, List.mem_of_getElem? (i := 285) (by decide +kernel), List.mem_of_getElem? (i := 397) (by decide +kernel), List.mem_of_getElem? (i := 398) (by decide +kernel)⟩
theorem lw_p15 : lw_okq (⟨"BitCopierModel", "copyAll", "()I"⟩, 10) := ⟨⟨by decide +kernel, by decide +kernel⟩, List.mem_of_getElem? (i := 285) (by decide +kernel), List.mem_of_getElem? (i := 401) (by decide +kernel), List.mem_of_getElem? (i := 402) (by decide +kernel)⟩
def lw_privs_1 : List (MethodName × Nat) := [(⟨"BitCopier", "formOrNull", "(I)LBitCopier$Form;"⟩, 8), (⟨"BitCopier", "copyBits", "()I"⟩, 8), (⟨"BitCopier", "findReach", "(LBitCopier$Reach;I)V"⟩, 8), (⟨"BitCopier", "copyRow", "(I)V"⟩, 8), (⟨"BitCopier", "incoming", "(II)I"⟩, 8), (⟨"BitCopier$Form", "wordInRow", "(II)I"⟩, 4), (⟨"BitCopier", "byRule", "(II)I"⟩, 8), (⟨"BitCopier", "drawAlong", "(III)I"⟩, 8), (⟨"BitCopier", "moveTo", "(II)Z"⟩, 8), (⟨"BitCopierModel", "perRow", "(I)I"⟩, 10), (⟨"BitCopierModel", "isWord", "(II)Z"⟩, 10), (⟨"BitCopierModel", "isBit", "(IJJ)Z"⟩, 10), (⟨"BitCopierModel", "bitAt", "(III)I"⟩, 10), (⟨"BitCopierModel", "isPattern", "(I)Z"⟩, 10), (⟨"BitCopierModel", "lacksPattern", "()Z"⟩, 10), (⟨"BitCopierModel", "copyAll", "()I"⟩, 10)]
theorem lw_r1 : ∀ q ∈ lw_privs_1, lw_okq q := List.forall_mem_cons.mpr ⟨lw_p0, List.forall_mem_cons.mpr ⟨lw_p1, List.forall_mem_cons.mpr ⟨lw_p2, List.forall_mem_cons.mpr ⟨lw_p3, List.forall_mem_cons.mpr ⟨lw_p4, List.forall_mem_cons.mpr ⟨lw_p5, List.forall_mem_cons.mpr ⟨lw_p6, List.forall_mem_cons.mpr ⟨lw_p7, List.forall_mem_cons.mpr ⟨lw_p8, List.forall_mem_cons.mpr ⟨lw_p9, List.forall_mem_cons.mpr ⟨lw_p10, List.forall_mem_cons.mpr ⟨lw_p11, List.forall_mem_cons.mpr ⟨lw_p12, List.forall_mem_cons.mpr ⟨lw_p13, List.forall_mem_cons.mpr ⟨lw_p14, List.forall_mem_cons.mpr ⟨lw_p15, fun _ h => absurd h List.not_mem_nil⟩⟩⟩⟩⟩⟩⟩⟩⟩⟩⟩⟩⟩⟩⟩⟩
theorem lw_p16 : lw_okq (⟨"BitCopierModel", "keep", "()V"⟩, 10) := ⟨⟨by decide +kernel, by decide +kernel⟩, List.mem_of_getElem? (i := 285) (by decide +kernel), List.mem_of_getElem? (i := 405) (by decide +kernel), List.mem_of_getElem? (i := 406) (by decide +kernel)⟩
theorem lw_p17 : lw_okq (⟨"BitCopierModel", "copyBit", "(IIII)V"⟩, 10) := ⟨⟨by decide +kernel, by decide +kernel⟩, List.mem_of_getElem? (i := 285) (by decide +kernel), List.mem_of_getElem? (i := 415) (by decide +kernel), List.mem_of_getElem? (i := 416) (by decide +kernel)⟩
theorem lw_p18 : lw_okq (⟨"BitCopierModel", "sourceBit", "(II)I"⟩, 10) := ⟨⟨by decide +kernel, by decide +kernel⟩, List.mem_of_getElem? (i := 285) (by decide +kernel), List.mem_of_getElem? (i := 419) (by decide +kernel), List.mem_of_getElem? (i := 420) (by decide +kernel)⟩
def lw_privs_2 : List (MethodName × Nat) := [(⟨"BitCopierModel", "keep", "()V"⟩, 10), (⟨"BitCopierModel", "copyBit", "(IIII)V"⟩, 10), (⟨"BitCopierModel", "sourceBit", "(II)I"⟩, 10)]
theorem lw_r2 : ∀ q ∈ lw_privs_2, lw_okq q := List.forall_mem_cons.mpr ⟨lw_p16, List.forall_mem_cons.mpr ⟨lw_p17, List.forall_mem_cons.mpr ⟨lw_p18, fun _ h => absurd h List.not_mem_nil⟩⟩⟩
def lw_privs : List (MethodName × Nat) := lw_privs_1 ++ (lw_privs_2)
def lw_tbl : List Cond := k2_sels lw_privs ++ tables_1
theorem lw_privs_ok : ∀ q ∈ lw_privs, lw_okq q := by
  show ∀ q ∈ lw_privs_1 ++ (lw_privs_2), lw_okq q
  exact List.forall_mem_append.mpr ⟨lw_r1, lw_r2⟩
-- ===== end of PART A; then your names; then what follows =====
def tblG : List Cond := lw_tbl.filter goodWord
theorem tg {w : Cond} (h : w ∈ lw_tbl) (g : goodWord w = true) : w ∈ tblG := List.mem_filter.mpr ⟨h, g⟩
theorem tblG_good {w : Cond} (h : w ∈ tblG) : goodWord w = true := (List.mem_filter.mp h).2
theorem tblG_in {w : Cond} (h : w ∈ tblG) : w ∈ lw_tbl := (List.mem_filter.mp h).1
abbrev wM (y : MethodName) (c : ByteArray) (L : Nat) (r : Option FieldType) : List Cond := Cond.code y c L r :: tblG
theorem gA {ws3 : List Cond} {y : MethodName} {c : ByteArray} {L : Nat} {r : Option FieldType} (h3 : ∀ w ∈ ws3, w ∈ tblG) (hc : Cond.code y c L r ∈ tblG) : GoodIn tblG (ws3 ++ wM y c L r) := fun w h => by
  have hm : w ∈ tblG := (List.mem_append.mp h).elim (h3 w) (fun h => (List.mem_cons.mp h).elim (fun e => by rw [e]; exact hc) id)
  exact ⟨hm, good_of_word (tblG_good hm)⟩
theorem gB {y : MethodName} {c : ByteArray} {L : Nat} {r : Option FieldType} (hc : Cond.code y c L r ∈ tblG) : GoodIn tblG (wM y c L r) := gA (ws3 := []) (fun _ h => absurd h List.not_mem_nil) hc
theorem m3 {l : List Cond} {a b c : Cond} (h1 : a ∈ l) (h2 : b ∈ l) (h3 : c ∈ l) : ∀ w ∈ [a, b, c], w ∈ l := fun w h => by
  rcases List.mem_cons.mp h with rfl | h
  · exact h1
  · rcases List.mem_cons.mp h with rfl | h
    · exact h2
    · rcases List.mem_cons.mp h with rfl | h
      · exact h3
      · exact absurd h List.not_mem_nil
theorem m4 {l : List Cond} {a b c d : Cond} (h1 : a ∈ l) (h2 : b ∈ l) (h3 : c ∈ l) (h4 : d ∈ l) : ∀ w ∈ [a, b, c, d], w ∈ l := fun w h => by
  rcases List.mem_cons.mp h with rfl | h
  · exact h1
  · exact m3 h2 h3 h4 w h
abbrev RX0 : String := "BitCopier$Form"
def TX0 : u_T := fun k => match k with
  | 0 => ("BitCopier$Form", "width", "I", false)
  | 1 => ("BitCopier$Form", "height", "I", false)
  | 2 => ("BitCopier$Form", "rowWords", "I", false)
  | _ => ("BitCopier$Form", "words", "[I", false)
def tyX0 : Nat → FieldType := fun k => match k with
  | 0 => .int
  | 1 => .int
  | 2 => .int
  | _ => .array .int
theorem nmX0 : ∀ a, a < 4 → ∀ b, b < 4 → a ≠ b → (TX0 a).2.1 ≠ (TX0 b).2.1 := by decide +kernel
theorem tyX0_ok : ∀ k, k < 4 → parseFieldDescriptor (TX0 k).2.2.1 = some (tyX0 k) := by decide +kernel
theorem inX0 : ∀ w ∈ u_ws RX0 TX0 4, w ∈ tblG := by decide +kernel
abbrev cX0_init : ByteArray := prog_2_method_1_code
abbrev yX0_init : MethodName := ⟨RX0, "<init>", "()V"⟩
abbrev cX0_lengthAlong : ByteArray := prog_2_method_2_code
abbrev yX0_lengthAlong : MethodName := ⟨RX0, "lengthAlong", "(I)I"⟩
abbrev cX0_wordCount : ByteArray := prog_2_method_3_code
abbrev yX0_wordCount : MethodName := ⟨RX0, "wordCount", "()I"⟩
abbrev cX0_hasWord : ByteArray := prog_2_method_4_code
abbrev yX0_hasWord : MethodName := ⟨RX0, "hasWord", "(I)Z"⟩
abbrev cX0_hasBit : ByteArray := prog_2_method_5_code
abbrev yX0_hasBit : MethodName := ⟨RX0, "hasBit", "(II)Z"⟩
abbrev cX0_becomeBlank : ByteArray := prog_2_method_6_code
abbrev yX0_becomeBlank : MethodName := ⟨RX0, "becomeBlank", "(III)V"⟩
abbrev cX0_writeWord : ByteArray := prog_2_method_7_code
abbrev yX0_writeWord : MethodName := ⟨RX0, "writeWord", "(II)V"⟩
abbrev cX0_bitAt : ByteArray := prog_2_method_8_code
abbrev yX0_bitAt : MethodName := ⟨RX0, "bitAt", "(II)I"⟩
abbrev cX0_ones : ByteArray := prog_2_method_9_code
abbrev yX0_ones : MethodName := ⟨RX0, "ones", "()I"⟩
abbrev cX0_looksLike : ByteArray := prog_2_method_10_code
abbrev yX0_looksLike : MethodName := ⟨RX0, "looksLike", "(LBitCopier$Form;)Z"⟩
abbrev cX0_bitsFrom : ByteArray := prog_2_method_11_code
abbrev yX0_bitsFrom : MethodName := ⟨RX0, "bitsFrom", "(II)I"⟩
abbrev cX0_wordInRow : ByteArray := prog_2_method_12_code
abbrev yX0_wordInRow : MethodName := ⟨RX0, "wordInRow", "(II)I"⟩
abbrev RX1 : String := "BitCopier$Reach"
def TX1 : u_T := fun k => match k with
  | 0 => ("BitCopier$Reach", "start", "I", false)
  | 1 => ("BitCopier$Reach", "end", "I", false)
  | _ => ("BitCopier$Reach", "shift", "I", false)
def tyX1 : Nat → FieldType := fun k => match k with
  | 0 => .int
  | 1 => .int
  | _ => .int
theorem nmX1 : ∀ a, a < 3 → ∀ b, b < 3 → a ≠ b → (TX1 a).2.1 ≠ (TX1 b).2.1 := by decide +kernel
theorem tyX1_ok : ∀ k, k < 3 → parseFieldDescriptor (TX1 k).2.2.1 = some (tyX1 k) := by decide +kernel
theorem inX1 : ∀ w ∈ u_ws RX1 TX1 3, w ∈ tblG := by decide +kernel
abbrev cX1_init : ByteArray := prog_3_method_1_code
abbrev yX1_init : MethodName := ⟨RX1, "<init>", "()V"⟩
abbrev cX1_begin : ByteArray := prog_3_method_2_code
abbrev yX1_begin : MethodName := ⟨RX1, "begin", "(III)V"⟩
abbrev cX1_narrow : ByteArray := prog_3_method_3_code
abbrev yX1_narrow : MethodName := ⟨RX1, "narrow", "(II)V"⟩
abbrev cX1_length : ByteArray := prog_3_method_4_code
abbrev yX1_length : MethodName := ⟨RX1, "length", "()I"⟩
abbrev RX2 : String := "BitCopier"
def TX2 : u_T := fun k => match k with
  | 0 => ("BitCopier", "allForms", "[LBitCopier$Form;", true)
  | 1 => ("BitCopier", "numbers", "[I", true)
  | 2 => ("BitCopier", "across", "LBitCopier$Reach;", true)
  | 3 => ("BitCopier", "down", "LBitCopier$Reach;", true)
  | 4 => ("BitCopier", "target", "LBitCopier$Form;", false)
  | 5 => ("BitCopier", "source", "LBitCopier$Form;", false)
  | 6 => ("BitCopier", "pattern", "LBitCopier$Form;", false)
  | _ => ("BitCopier", "ruleBits", "I", false)
def tyX2 : Nat → FieldType := fun k => match k with
  | 0 => .array (.object "BitCopier$Form")
  | 1 => .array .int
  | 2 => .object "BitCopier$Reach"
  | 3 => .object "BitCopier$Reach"
  | 4 => .object "BitCopier$Form"
  | 5 => .object "BitCopier$Form"
  | 6 => .object "BitCopier$Form"
  | _ => .int
theorem nmX2 : ∀ a, a < 8 → ∀ b, b < 8 → a ≠ b → (TX2 a).2.1 ≠ (TX2 b).2.1 := by decide +kernel
theorem tyX2_ok : ∀ k, k < 8 → parseFieldDescriptor (TX2 k).2.2.1 = some (tyX2 k) := by decide +kernel
theorem inX2 : ∀ w ∈ u_ws RX2 TX2 8, w ∈ tblG := by decide +kernel
abbrev cX2_init : ByteArray := prog_1_method_1_code
abbrev yX2_init : MethodName := ⟨RX2, "<init>", "()V"⟩
abbrev cX2_form : ByteArray := prog_1_method_2_code
abbrev yX2_form : MethodName := ⟨RX2, "form", "(III)I"⟩
abbrev cX2_put : ByteArray := prog_1_method_3_code
abbrev yX2_put : MethodName := ⟨RX2, "put", "(III)Z"⟩
abbrev cX2_word : ByteArray := prog_1_method_4_code
abbrev yX2_word : MethodName := ⟨RX2, "word", "(II)I"⟩
abbrev cX2_bit : ByteArray := prog_1_method_5_code
abbrev yX2_bit : MethodName := ⟨RX2, "bit", "(III)I"⟩
abbrev cX2_count : ByteArray := prog_1_method_6_code
abbrev yX2_count : MethodName := ⟨RX2, "count", "(I)I"⟩
abbrev cX2_same : ByteArray := prog_1_method_7_code
abbrev yX2_same : MethodName := ⟨RX2, "same", "(II)Z"⟩
abbrev cX2_forms : ByteArray := prog_1_method_8_code
abbrev yX2_forms : MethodName := ⟨RX2, "forms", "(III)Z"⟩
abbrev cX2_rule : ByteArray := prog_1_method_9_code
abbrev yX2_rule : MethodName := ⟨RX2, "rule", "(I)Z"⟩
abbrev cX2_set : ByteArray := prog_1_method_10_code
abbrev yX2_set : MethodName := ⟨RX2, "set", "(III)Z"⟩
abbrev cX2_order : ByteArray := prog_1_method_11_code
abbrev yX2_order : MethodName := ⟨RX2, "order", "(IZ)I"⟩
abbrev cX2_copy : ByteArray := prog_1_method_12_code
abbrev yX2_copy : MethodName := ⟨RX2, "copy", "()I"⟩
abbrev cX2_line : ByteArray := prog_1_method_13_code
abbrev yX2_line : MethodName := ⟨RX2, "line", "(II)I"⟩
abbrev cX2_isForm : ByteArray := prog_1_method_14_code
abbrev yX2_isForm : MethodName := ⟨RX2, "isForm", "(I)Z"⟩
abbrev cX2_isFormOrNone : ByteArray := prog_1_method_15_code
abbrev yX2_isFormOrNone : MethodName := ⟨RX2, "isFormOrNone", "(I)Z"⟩
abbrev cX2_formOrNull : ByteArray := prog_1_method_16_code
abbrev yX2_formOrNull : MethodName := ⟨RX2, "formOrNull", "(I)LBitCopier$Form;"⟩
abbrev cX2_fitsAsPattern : ByteArray := prog_1_method_17_code
abbrev yX2_fitsAsPattern : MethodName := ⟨RX2, "fitsAsPattern", "(LBitCopier$Form;)Z"⟩
abbrev cX2_isPair : ByteArray := prog_1_method_18_code
abbrev yX2_isPair : MethodName := ⟨RX2, "isPair", "(I)Z"⟩
abbrev cX2_isNumber : ByteArray := prog_1_method_19_code
abbrev yX2_isNumber : MethodName := ⟨RX2, "isNumber", "(I)Z"⟩
abbrev cX2_isWay : ByteArray := prog_1_method_20_code
abbrev yX2_isWay : MethodName := ⟨RX2, "isWay", "(I)Z"⟩
abbrev cX2_signOf : ByteArray := prog_1_method_21_code
abbrev yX2_signOf : MethodName := ⟨RX2, "signOf", "(I)I"⟩
abbrev cX2_wordsNeeded : ByteArray := prog_1_method_22_code
abbrev yX2_wordsNeeded : MethodName := ⟨RX2, "wordsNeeded", "(II)I"⟩
abbrev cX2_wordsPerRow : ByteArray := prog_1_method_23_code
abbrev yX2_wordsPerRow : MethodName := ⟨RX2, "wordsPerRow", "(I)I"⟩
abbrev cX2_spanMask : ByteArray := prog_1_method_24_code
abbrev yX2_spanMask : MethodName := ⟨RX2, "spanMask", "(III)I"⟩
abbrev cX2_drawAlong : ByteArray := prog_1_method_25_code
abbrev yX2_drawAlong : MethodName := ⟨RX2, "drawAlong", "(III)I"⟩
abbrev cX2_moveTo : ByteArray := prog_1_method_26_code
abbrev yX2_moveTo : MethodName := ⟨RX2, "moveTo", "(II)Z"⟩
abbrev cX2_copyBits : ByteArray := prog_1_method_27_code
abbrev yX2_copyBits : MethodName := ⟨RX2, "copyBits", "()I"⟩
abbrev cX2_findReach : ByteArray := prog_1_method_28_code
abbrev yX2_findReach : MethodName := ⟨RX2, "findReach", "(LBitCopier$Reach;I)V"⟩
abbrev cX2_copyRow : ByteArray := prog_1_method_29_code
abbrev yX2_copyRow : MethodName := ⟨RX2, "copyRow", "(I)V"⟩
abbrev cX2_incoming : ByteArray := prog_1_method_30_code
abbrev yX2_incoming : MethodName := ⟨RX2, "incoming", "(II)I"⟩
abbrev cX2_byRule : ByteArray := prog_1_method_31_code
abbrev yX2_byRule : MethodName := ⟨RX2, "byRule", "(II)I"⟩
abbrev RX3 : String := "BitCopierModel"
def TX3 : u_T := fun k => match k with
  | 0 => ("BitCopierModel", "widths", "[I", true)
  | 1 => ("BitCopierModel", "heights", "[I", true)
  | 2 => ("BitCopierModel", "words", "[I", true)
  | 3 => ("BitCopierModel", "before", "[I", true)
  | 4 => ("BitCopierModel", "mask", "[I", true)
  | 5 => ("BitCopierModel", "target", "I", false)
  | 6 => ("BitCopierModel", "source", "I", false)
  | 7 => ("BitCopierModel", "pattern", "I", false)
  | 8 => ("BitCopierModel", "rule", "I", false)
  | _ => ("BitCopierModel", "numbers", "[I", true)
def tyX3 : Nat → FieldType := fun k => match k with
  | 0 => .array .int
  | 1 => .array .int
  | 2 => .array .int
  | 3 => .array .int
  | 4 => .array .int
  | 5 => .int
  | 6 => .int
  | 7 => .int
  | 8 => .int
  | _ => .array .int
theorem nmX3 : ∀ a, a < 10 → ∀ b, b < 10 → a ≠ b → (TX3 a).2.1 ≠ (TX3 b).2.1 := by decide +kernel
theorem tyX3_ok : ∀ k, k < 10 → parseFieldDescriptor (TX3 k).2.2.1 = some (tyX3 k) := by decide +kernel
theorem inX3 : ∀ w ∈ u_ws RX3 TX3 10, w ∈ tblG := by decide +kernel
abbrev cX3_init : ByteArray := prog_5_method_1_code
abbrev yX3_init : MethodName := ⟨RX3, "<init>", "()V"⟩
abbrev cX3_isForm : ByteArray := prog_5_method_3_code
abbrev yX3_isForm : MethodName := ⟨RX3, "isForm", "(I)Z"⟩
abbrev cX3_perRow : ByteArray := prog_5_method_4_code
abbrev yX3_perRow : MethodName := ⟨RX3, "perRow", "(I)I"⟩
abbrev cX3_form : ByteArray := prog_5_method_5_code
abbrev yX3_form : MethodName := ⟨RX3, "form", "(III)I"⟩
abbrev cX3_isWord : ByteArray := prog_5_method_6_code
abbrev yX3_isWord : MethodName := ⟨RX3, "isWord", "(II)Z"⟩
abbrev cX3_put : ByteArray := prog_5_method_7_code
abbrev yX3_put : MethodName := ⟨RX3, "put", "(III)Z"⟩
abbrev cX3_word : ByteArray := prog_5_method_8_code
abbrev yX3_word : MethodName := ⟨RX3, "word", "(II)I"⟩
abbrev cX3_isBit : ByteArray := prog_5_method_9_code
abbrev yX3_isBit : MethodName := ⟨RX3, "isBit", "(IJJ)Z"⟩
abbrev cX3_bitAt : ByteArray := prog_5_method_10_code
abbrev yX3_bitAt : MethodName := ⟨RX3, "bitAt", "(III)I"⟩
abbrev cX3_bit : ByteArray := prog_5_method_11_code
abbrev yX3_bit : MethodName := ⟨RX3, "bit", "(III)I"⟩
abbrev cX3_count : ByteArray := prog_5_method_12_code
abbrev yX3_count : MethodName := ⟨RX3, "count", "(I)I"⟩
abbrev cX3_same : ByteArray := prog_5_method_13_code
abbrev yX3_same : MethodName := ⟨RX3, "same", "(II)Z"⟩
abbrev cX3_isPattern : ByteArray := prog_5_method_14_code
abbrev yX3_isPattern : MethodName := ⟨RX3, "isPattern", "(I)Z"⟩
abbrev cX3_forms : ByteArray := prog_5_method_15_code
abbrev yX3_forms : MethodName := ⟨RX3, "forms", "(III)Z"⟩
abbrev cX3_rule : ByteArray := prog_5_method_16_code
abbrev yX3_rule : MethodName := ⟨RX3, "rule", "(I)Z"⟩
abbrev cX3_isNumber : ByteArray := prog_5_method_17_code
abbrev yX3_isNumber : MethodName := ⟨RX3, "isNumber", "(I)Z"⟩
abbrev cX3_set : ByteArray := prog_5_method_18_code
abbrev yX3_set : MethodName := ⟨RX3, "set", "(III)Z"⟩
abbrev cX3_order : ByteArray := prog_5_method_19_code
abbrev yX3_order : MethodName := ⟨RX3, "order", "(IZ)I"⟩
abbrev cX3_greatest : ByteArray := prog_5_method_20_code
abbrev yX3_greatest : MethodName := ⟨RX3, "greatest", "(III)I"⟩
abbrev cX3_least : ByteArray := prog_5_method_21_code
abbrev yX3_least : MethodName := ⟨RX3, "least", "(III)I"⟩
abbrev cX3_keep : ByteArray := prog_5_method_22_code
abbrev yX3_keep : MethodName := ⟨RX3, "keep", "()V"⟩
abbrev cX3_sourceBit : ByteArray := prog_5_method_23_code
abbrev yX3_sourceBit : MethodName := ⟨RX3, "sourceBit", "(II)I"⟩
abbrev cX3_copyBit : ByteArray := prog_5_method_24_code
abbrev yX3_copyBit : MethodName := ⟨RX3, "copyBit", "(IIII)V"⟩
abbrev cX3_copyAll : ByteArray := prog_5_method_25_code
abbrev yX3_copyAll : MethodName := ⟨RX3, "copyAll", "()I"⟩
abbrev cX3_lacksPattern : ByteArray := prog_5_method_26_code
abbrev yX3_lacksPattern : MethodName := ⟨RX3, "lacksPattern", "()Z"⟩
abbrev cX3_copy : ByteArray := prog_5_method_27_code
abbrev yX3_copy : MethodName := ⟨RX3, "copy", "()I"⟩
abbrev cX3_sign : ByteArray := prog_5_method_28_code
abbrev yX3_sign : MethodName := ⟨RX3, "sign", "(I)I"⟩
abbrev cX3_line : ByteArray := prog_5_method_29_code
abbrev yX3_line : MethodName := ⟨RX3, "line", "(II)I"⟩
abbrev RJ6 : String := "java/lang/Integer"
abbrev cJ6_bitCount : ByteArray := prog_6_method_49_code
abbrev yJ6_bitCount : MethodName := ⟨RJ6, "bitCount", "(I)I"⟩
abbrev RJ9 : String := "java/lang/Math"
abbrev cJ9_abs : ByteArray := prog_7_method_59_code
abbrev yJ9_abs : MethodName := ⟨RJ9, "abs", "(I)I"⟩
abbrev cJ9_floorDiv : ByteArray := prog_7_method_47_code
abbrev yJ9_floorDiv : MethodName := ⟨RJ9, "floorDiv", "(II)I"⟩
abbrev cJ9_floorMod : ByteArray := prog_7_method_50_code
abbrev yJ9_floorMod : MethodName := ⟨RJ9, "floorMod", "(II)I"⟩
abbrev cJ9_max : ByteArray := prog_7_method_65_code
abbrev yJ9_max : MethodName := ⟨RJ9, "max", "(II)I"⟩
abbrev cJ9_min : ByteArray := prog_7_method_69_code
abbrev yJ9_min : MethodName := ⟨RJ9, "min", "(II)I"⟩
abbrev RJ7 : String := "java/util/Arrays"
abbrev cJ7_fill : ByteArray := prog_8_method_103_code
abbrev yJ7_fill : MethodName := ⟨RJ7, "fill", "([II)V"⟩
abbrev RL : String := "BitCopierLaw"
abbrev cL_law : ByteArray := code
abbrev yL_law : MethodName := ⟨RL, "law", "([I)Z"⟩
abbrev vwCl : List vw_C := [(RX0, TX0, 4), (RX1, TX1, 3), (RX2, TX2, 8), (RX3, TX3, 10)]
theorem k0 : (.initialized "BitCopierLaw" : Cond) ∈ tblG := tg (List.mem_append_right _ (List.mem_of_getElem? (i := 0) (by decide +kernel))) (by decide +kernel)
theorem k1 : (.initialized "BitCopier" : Cond) ∈ tblG := tg (List.mem_append_right _ (List.mem_of_getElem? (i := 1) (by decide +kernel))) (by decide +kernel)
theorem k2 : (.initialized "BitCopier$Form" : Cond) ∈ tblG := tg (List.mem_append_right _ (List.mem_of_getElem? (i := 2) (by decide +kernel))) (by decide +kernel)
theorem k3 : (.initialized "BitCopier$Reach" : Cond) ∈ tblG := tg (List.mem_append_right _ (List.mem_of_getElem? (i := 3) (by decide +kernel))) (by decide +kernel)
theorem k4 : (.initialized "BitCopierModel" : Cond) ∈ tblG := tg (List.mem_append_right _ (List.mem_of_getElem? (i := 4) (by decide +kernel))) (by decide +kernel)
theorem k5 : (.initialized "java/lang/Math" : Cond) ∈ tblG := tg (List.mem_append_right _ (List.mem_of_getElem? (i := 5) (by decide +kernel))) (by decide +kernel)
theorem k6 : (.initialized "java/util/Arrays" : Cond) ∈ tblG := tg (List.mem_append_right _ (List.mem_of_getElem? (i := 6) (by decide +kernel))) (by decide +kernel)
theorem k7 : (.initialized "java/lang/Integer" : Cond) ∈ tblG := tg (List.mem_append_right _ (List.mem_of_getElem? (i := 7) (by decide +kernel))) (by decide +kernel)
theorem k8 : (.classLink "BitCopierLaw" (7) "BitCopier" : Cond) ∈ tblG := tg (List.mem_append_right _ (List.mem_of_getElem? (i := 8) (by decide +kernel))) (by decide +kernel)
theorem k9 : (.instantiable "BitCopier" (8) : Cond) ∈ tblG := tg (List.mem_append_right _ (List.mem_of_getElem? (i := 9) (by decide +kernel))) (by decide +kernel)
theorem k10 : (.methodLink "BitCopierLaw" (9) ⟨"BitCopier", "<init>", "()V"⟩ : Cond) ∈ tblG := tg (List.mem_append_right _ (List.mem_of_getElem? (i := 10) (by decide +kernel))) (by decide +kernel)
theorem k11 : (.instanceMethod ⟨"BitCopier", "<init>", "()V"⟩ : Cond) ∈ tblG := tg (List.mem_append_right _ (List.mem_of_getElem? (i := 11) (by decide +kernel))) (by decide +kernel)
theorem k12 : (.code ⟨"BitCopier", "<init>", "()V"⟩ prog_1_method_1_code (2) none : Cond) ∈ tblG := tg (List.mem_append_right _ (List.mem_of_getElem? (i := 12) (by decide +kernel))) (by decide +kernel)
theorem k13 : (.methodLink "BitCopier" (1) ⟨"java/lang/Object", "<init>", "()V"⟩ : Cond) ∈ tblG := tg (List.mem_append_right _ (List.mem_of_getElem? (i := 13) (by decide +kernel))) (by decide +kernel)
theorem k14 : (.instanceMethod ⟨"java/lang/Object", "<init>", "()V"⟩ : Cond) ∈ tblG := tg (List.mem_append_right _ (List.mem_of_getElem? (i := 14) (by decide +kernel))) (by decide +kernel)
theorem k15 : (.code ⟨"java/lang/Object", "<init>", "()V"⟩ object_method_1_code (1) none : Cond) ∈ tblG := tg (List.mem_append_right _ (List.mem_of_getElem? (i := 15) (by decide +kernel))) (by decide +kernel)
theorem k16 : (.classLink "BitCopier" (9) "BitCopier$Form" : Cond) ∈ tblG := tg (List.mem_append_right _ (List.mem_of_getElem? (i := 16) (by decide +kernel))) (by decide +kernel)
abbrev nw17 : Cond := .arrayOver (.object "BitCopier$Form")
theorem kb17 : nw17 ∈ lw_tbl := List.mem_append_right _ (List.mem_of_getElem? (i := 17) (by decide +kernel))
theorem k18 : (.instantiable "BitCopier$Form" (4) : Cond) ∈ tblG := tg (List.mem_append_right _ (List.mem_of_getElem? (i := 18) (by decide +kernel))) (by decide +kernel)
theorem k19 : (.methodLink "BitCopier" (15) ⟨"BitCopier$Form", "<init>", "()V"⟩ : Cond) ∈ tblG := tg (List.mem_append_right _ (List.mem_of_getElem? (i := 19) (by decide +kernel))) (by decide +kernel)
theorem k20 : (.instanceMethod ⟨"BitCopier$Form", "<init>", "()V"⟩ : Cond) ∈ tblG := tg (List.mem_append_right _ (List.mem_of_getElem? (i := 20) (by decide +kernel))) (by decide +kernel)
theorem k21 : (.code ⟨"BitCopier$Form", "<init>", "()V"⟩ prog_2_method_1_code (1) none : Cond) ∈ tblG := tg (List.mem_append_right _ (List.mem_of_getElem? (i := 21) (by decide +kernel))) (by decide +kernel)
theorem k22 : (.methodLink "BitCopier$Form" (3) ⟨"java/lang/Object", "<init>", "()V"⟩ : Cond) ∈ tblG := tg (List.mem_append_right _ (List.mem_of_getElem? (i := 22) (by decide +kernel))) (by decide +kernel)
theorem k23 : (.fieldLink "BitCopier$Form" (9) "BitCopier$Form" "width" "I" : Cond) ∈ tblG := tg (List.mem_append_right _ (List.mem_of_getElem? (i := 23) (by decide +kernel))) (by decide +kernel)
abbrev nw24 : Cond := .fieldLinkNest "BitCopier" (113) "BitCopier$Form" "width" "I" "BitCopier"
theorem kb24 : nw24 ∈ lw_tbl := List.mem_append_right _ (List.mem_of_getElem? (i := 24) (by decide +kernel))
theorem k25 : (.fieldLink "BitCopier$Form" (15) "BitCopier$Form" "height" "I" : Cond) ∈ tblG := tg (List.mem_append_right _ (List.mem_of_getElem? (i := 25) (by decide +kernel))) (by decide +kernel)
abbrev nw26 : Cond := .fieldLinkNest "BitCopier" (116) "BitCopier$Form" "height" "I" "BitCopier"
theorem kb26 : nw26 ∈ lw_tbl := List.mem_append_right _ (List.mem_of_getElem? (i := 26) (by decide +kernel))
theorem k27 : (.fieldLink "BitCopier$Form" (18) "BitCopier$Form" "rowWords" "I" : Cond) ∈ tblG := tg (List.mem_append_right _ (List.mem_of_getElem? (i := 27) (by decide +kernel))) (by decide +kernel)
abbrev nw28 : Cond := .fieldLinkNest "BitCopier" (165) "BitCopier$Form" "rowWords" "I" "BitCopier"
theorem kb28 : nw28 ∈ lw_tbl := List.mem_append_right _ (List.mem_of_getElem? (i := 28) (by decide +kernel))
theorem k29 : (.fieldLink "BitCopier$Form" (21) "BitCopier$Form" "words" "[I" : Cond) ∈ tblG := tg (List.mem_append_right _ (List.mem_of_getElem? (i := 29) (by decide +kernel))) (by decide +kernel)
abbrev nw30 : Cond := .fieldLinkNest "BitCopier" (63) "BitCopier$Form" "words" "[I" "BitCopier"
theorem kb30 : nw30 ∈ lw_tbl := List.mem_append_right _ (List.mem_of_getElem? (i := 30) (by decide +kernel))
theorem k31 : (.lays "BitCopier$Form" "BitCopier$Form" "width" "I" : Cond) ∈ tblG := tg (List.mem_append_right _ (List.mem_of_getElem? (i := 31) (by decide +kernel))) (by decide +kernel)
theorem k32 : (.soleField "BitCopier$Form" "width" : Cond) ∈ tblG := tg (List.mem_append_right _ (List.mem_of_getElem? (i := 32) (by decide +kernel))) (by decide +kernel)
theorem k33 : (.lays "BitCopier$Form" "BitCopier$Form" "height" "I" : Cond) ∈ tblG := tg (List.mem_append_right _ (List.mem_of_getElem? (i := 33) (by decide +kernel))) (by decide +kernel)
theorem k34 : (.soleField "BitCopier$Form" "height" : Cond) ∈ tblG := tg (List.mem_append_right _ (List.mem_of_getElem? (i := 34) (by decide +kernel))) (by decide +kernel)
theorem k35 : (.lays "BitCopier$Form" "BitCopier$Form" "rowWords" "I" : Cond) ∈ tblG := tg (List.mem_append_right _ (List.mem_of_getElem? (i := 35) (by decide +kernel))) (by decide +kernel)
theorem k36 : (.soleField "BitCopier$Form" "rowWords" : Cond) ∈ tblG := tg (List.mem_append_right _ (List.mem_of_getElem? (i := 36) (by decide +kernel))) (by decide +kernel)
theorem k37 : (.lays "BitCopier$Form" "BitCopier$Form" "words" "[I" : Cond) ∈ tblG := tg (List.mem_append_right _ (List.mem_of_getElem? (i := 37) (by decide +kernel))) (by decide +kernel)
theorem k38 : (.soleField "BitCopier$Form" "words" : Cond) ∈ tblG := tg (List.mem_append_right _ (List.mem_of_getElem? (i := 38) (by decide +kernel))) (by decide +kernel)
theorem k39 : (.superclass "BitCopier$Form" "java/lang/Object" : Cond) ∈ tblG := tg (List.mem_append_right _ (List.mem_of_getElem? (i := 39) (by decide +kernel))) (by decide +kernel)
theorem k40 : (.arrayClass .int : Cond) ∈ tblG := tg (List.mem_append_right _ (List.mem_of_getElem? (i := 40) (by decide +kernel))) (by decide +kernel)
theorem k41 : (.classLink "BitCopier" (20) "BitCopier$Reach" : Cond) ∈ tblG := tg (List.mem_append_right _ (List.mem_of_getElem? (i := 41) (by decide +kernel))) (by decide +kernel)
theorem k42 : (.instantiable "BitCopier$Reach" (3) : Cond) ∈ tblG := tg (List.mem_append_right _ (List.mem_of_getElem? (i := 42) (by decide +kernel))) (by decide +kernel)
abbrev nw43 : Cond := .methodLinkNest "BitCopier" (22) ⟨"BitCopier$Reach", "<init>", "()V"⟩ "BitCopier"
theorem kb43 : nw43 ∈ lw_tbl := List.mem_append_right _ (List.mem_of_getElem? (i := 43) (by decide +kernel))
theorem k44 : (.instanceMethod ⟨"BitCopier$Reach", "<init>", "()V"⟩ : Cond) ∈ tblG := tg (List.mem_append_right _ (List.mem_of_getElem? (i := 44) (by decide +kernel))) (by decide +kernel)
theorem k45 : (.code ⟨"BitCopier$Reach", "<init>", "()V"⟩ prog_3_method_1_code (1) none : Cond) ∈ tblG := tg (List.mem_append_right _ (List.mem_of_getElem? (i := 45) (by decide +kernel))) (by decide +kernel)
theorem k46 : (.methodLink "BitCopier$Reach" (1) ⟨"java/lang/Object", "<init>", "()V"⟩ : Cond) ∈ tblG := tg (List.mem_append_right _ (List.mem_of_getElem? (i := 46) (by decide +kernel))) (by decide +kernel)
theorem k47 : (.fieldLink "BitCopier$Reach" (7) "BitCopier$Reach" "start" "I" : Cond) ∈ tblG := tg (List.mem_append_right _ (List.mem_of_getElem? (i := 47) (by decide +kernel))) (by decide +kernel)
abbrev nw48 : Cond := .fieldLinkNest "BitCopier" (149) "BitCopier$Reach" "start" "I" "BitCopier"
theorem kb48 : nw48 ∈ lw_tbl := List.mem_append_right _ (List.mem_of_getElem? (i := 48) (by decide +kernel))
theorem k49 : (.fieldLink "BitCopier$Reach" (13) "BitCopier$Reach" "end" "I" : Cond) ∈ tblG := tg (List.mem_append_right _ (List.mem_of_getElem? (i := 49) (by decide +kernel))) (by decide +kernel)
abbrev nw50 : Cond := .fieldLinkNest "BitCopier" (146) "BitCopier$Reach" "end" "I" "BitCopier"
theorem kb50 : nw50 ∈ lw_tbl := List.mem_append_right _ (List.mem_of_getElem? (i := 50) (by decide +kernel))
theorem k51 : (.fieldLink "BitCopier$Reach" (16) "BitCopier$Reach" "shift" "I" : Cond) ∈ tblG := tg (List.mem_append_right _ (List.mem_of_getElem? (i := 51) (by decide +kernel))) (by decide +kernel)
abbrev nw52 : Cond := .fieldLinkNest "BitCopier" (143) "BitCopier$Reach" "shift" "I" "BitCopier"
theorem kb52 : nw52 ∈ lw_tbl := List.mem_append_right _ (List.mem_of_getElem? (i := 52) (by decide +kernel))
theorem k53 : (.lays "BitCopier$Reach" "BitCopier$Reach" "start" "I" : Cond) ∈ tblG := tg (List.mem_append_right _ (List.mem_of_getElem? (i := 53) (by decide +kernel))) (by decide +kernel)
theorem k54 : (.soleField "BitCopier$Reach" "start" : Cond) ∈ tblG := tg (List.mem_append_right _ (List.mem_of_getElem? (i := 54) (by decide +kernel))) (by decide +kernel)
theorem k55 : (.lays "BitCopier$Reach" "BitCopier$Reach" "end" "I" : Cond) ∈ tblG := tg (List.mem_append_right _ (List.mem_of_getElem? (i := 55) (by decide +kernel))) (by decide +kernel)
theorem k56 : (.soleField "BitCopier$Reach" "end" : Cond) ∈ tblG := tg (List.mem_append_right _ (List.mem_of_getElem? (i := 56) (by decide +kernel))) (by decide +kernel)
theorem k57 : (.lays "BitCopier$Reach" "BitCopier$Reach" "shift" "I" : Cond) ∈ tblG := tg (List.mem_append_right _ (List.mem_of_getElem? (i := 57) (by decide +kernel))) (by decide +kernel)
theorem k58 : (.soleField "BitCopier$Reach" "shift" : Cond) ∈ tblG := tg (List.mem_append_right _ (List.mem_of_getElem? (i := 58) (by decide +kernel))) (by decide +kernel)
theorem k59 : (.superclass "BitCopier$Reach" "java/lang/Object" : Cond) ∈ tblG := tg (List.mem_append_right _ (List.mem_of_getElem? (i := 59) (by decide +kernel))) (by decide +kernel)
theorem k60 : (.fieldLink "BitCopier" (11) "BitCopier" "allForms" "[LBitCopier$Form;" : Cond) ∈ tblG := tg (List.mem_append_right _ (List.mem_of_getElem? (i := 60) (by decide +kernel))) (by decide +kernel)
theorem k61 : (.fieldLink "BitCopier" (16) "BitCopier" "numbers" "[I" : Cond) ∈ tblG := tg (List.mem_append_right _ (List.mem_of_getElem? (i := 61) (by decide +kernel))) (by decide +kernel)
theorem k62 : (.fieldLink "BitCopier" (23) "BitCopier" "across" "LBitCopier$Reach;" : Cond) ∈ tblG := tg (List.mem_append_right _ (List.mem_of_getElem? (i := 62) (by decide +kernel))) (by decide +kernel)
theorem k63 : (.fieldLink "BitCopier" (27) "BitCopier" "down" "LBitCopier$Reach;" : Cond) ∈ tblG := tg (List.mem_append_right _ (List.mem_of_getElem? (i := 63) (by decide +kernel))) (by decide +kernel)
theorem k64 : (.fieldLink "BitCopier" (30) "BitCopier" "target" "LBitCopier$Form;" : Cond) ∈ tblG := tg (List.mem_append_right _ (List.mem_of_getElem? (i := 64) (by decide +kernel))) (by decide +kernel)
theorem k65 : (.fieldLink "BitCopier" (34) "BitCopier" "source" "LBitCopier$Form;" : Cond) ∈ tblG := tg (List.mem_append_right _ (List.mem_of_getElem? (i := 65) (by decide +kernel))) (by decide +kernel)
theorem k66 : (.fieldLink "BitCopier" (37) "BitCopier" "pattern" "LBitCopier$Form;" : Cond) ∈ tblG := tg (List.mem_append_right _ (List.mem_of_getElem? (i := 66) (by decide +kernel))) (by decide +kernel)
theorem k67 : (.fieldLink "BitCopier" (40) "BitCopier" "ruleBits" "I" : Cond) ∈ tblG := tg (List.mem_append_right _ (List.mem_of_getElem? (i := 67) (by decide +kernel))) (by decide +kernel)
theorem k68 : (.laysFinal "BitCopier" "BitCopier" "allForms" "[LBitCopier$Form;" : Cond) ∈ tblG := tg (List.mem_append_right _ (List.mem_of_getElem? (i := 68) (by decide +kernel))) (by decide +kernel)
theorem k69 : (.soleField "BitCopier" "allForms" : Cond) ∈ tblG := tg (List.mem_append_right _ (List.mem_of_getElem? (i := 69) (by decide +kernel))) (by decide +kernel)
theorem k70 : (.laysFinal "BitCopier" "BitCopier" "numbers" "[I" : Cond) ∈ tblG := tg (List.mem_append_right _ (List.mem_of_getElem? (i := 70) (by decide +kernel))) (by decide +kernel)
theorem k71 : (.soleField "BitCopier" "numbers" : Cond) ∈ tblG := tg (List.mem_append_right _ (List.mem_of_getElem? (i := 71) (by decide +kernel))) (by decide +kernel)
theorem k72 : (.laysFinal "BitCopier" "BitCopier" "across" "LBitCopier$Reach;" : Cond) ∈ tblG := tg (List.mem_append_right _ (List.mem_of_getElem? (i := 72) (by decide +kernel))) (by decide +kernel)
theorem k73 : (.soleField "BitCopier" "across" : Cond) ∈ tblG := tg (List.mem_append_right _ (List.mem_of_getElem? (i := 73) (by decide +kernel))) (by decide +kernel)
theorem k74 : (.laysFinal "BitCopier" "BitCopier" "down" "LBitCopier$Reach;" : Cond) ∈ tblG := tg (List.mem_append_right _ (List.mem_of_getElem? (i := 74) (by decide +kernel))) (by decide +kernel)
theorem k75 : (.soleField "BitCopier" "down" : Cond) ∈ tblG := tg (List.mem_append_right _ (List.mem_of_getElem? (i := 75) (by decide +kernel))) (by decide +kernel)
theorem k76 : (.lays "BitCopier" "BitCopier" "target" "LBitCopier$Form;" : Cond) ∈ tblG := tg (List.mem_append_right _ (List.mem_of_getElem? (i := 76) (by decide +kernel))) (by decide +kernel)
theorem k77 : (.soleField "BitCopier" "target" : Cond) ∈ tblG := tg (List.mem_append_right _ (List.mem_of_getElem? (i := 77) (by decide +kernel))) (by decide +kernel)
theorem k78 : (.lays "BitCopier" "BitCopier" "source" "LBitCopier$Form;" : Cond) ∈ tblG := tg (List.mem_append_right _ (List.mem_of_getElem? (i := 78) (by decide +kernel))) (by decide +kernel)
theorem k79 : (.soleField "BitCopier" "source" : Cond) ∈ tblG := tg (List.mem_append_right _ (List.mem_of_getElem? (i := 79) (by decide +kernel))) (by decide +kernel)
theorem k80 : (.lays "BitCopier" "BitCopier" "pattern" "LBitCopier$Form;" : Cond) ∈ tblG := tg (List.mem_append_right _ (List.mem_of_getElem? (i := 80) (by decide +kernel))) (by decide +kernel)
theorem k81 : (.soleField "BitCopier" "pattern" : Cond) ∈ tblG := tg (List.mem_append_right _ (List.mem_of_getElem? (i := 81) (by decide +kernel))) (by decide +kernel)
theorem k82 : (.lays "BitCopier" "BitCopier" "ruleBits" "I" : Cond) ∈ tblG := tg (List.mem_append_right _ (List.mem_of_getElem? (i := 82) (by decide +kernel))) (by decide +kernel)
theorem k83 : (.soleField "BitCopier" "ruleBits" : Cond) ∈ tblG := tg (List.mem_append_right _ (List.mem_of_getElem? (i := 83) (by decide +kernel))) (by decide +kernel)
theorem k84 : (.superclass "BitCopier" "java/lang/Object" : Cond) ∈ tblG := tg (List.mem_append_right _ (List.mem_of_getElem? (i := 84) (by decide +kernel))) (by decide +kernel)
theorem k85 : (.methodLink "BitCopierLaw" (13) ⟨"BitCopier", "form", "(III)I"⟩ : Cond) ∈ tblG := tg (List.mem_append_right _ (List.mem_of_getElem? (i := 85) (by decide +kernel))) (by decide +kernel)
theorem k86 : (.instanceMethod ⟨"BitCopier", "form", "(III)I"⟩ : Cond) ∈ tblG := tg (List.mem_append_right _ (List.mem_of_getElem? (i := 86) (by decide +kernel))) (by decide +kernel)
theorem k87 : (.selects "BitCopier" ⟨"BitCopier", "form", "(III)I"⟩ ⟨"BitCopier", "form", "(III)I"⟩ : Cond) ∈ tblG := tg (List.mem_append_right _ (List.mem_of_getElem? (i := 87) (by decide +kernel))) (by decide +kernel)
theorem k88 : (.code ⟨"BitCopier", "form", "(III)I"⟩ prog_1_method_2_code (5) (some .int) : Cond) ∈ tblG := tg (List.mem_append_right _ (List.mem_of_getElem? (i := 88) (by decide +kernel))) (by decide +kernel)
theorem k89 : (.methodLink "BitCopier" (44) ⟨"BitCopier", "wordsNeeded", "(II)I"⟩ : Cond) ∈ tblG := tg (List.mem_append_right _ (List.mem_of_getElem? (i := 89) (by decide +kernel))) (by decide +kernel)
theorem k90 : (.static ⟨"BitCopier", "wordsNeeded", "(II)I"⟩ : Cond) ∈ tblG := tg (List.mem_append_right _ (List.mem_of_getElem? (i := 90) (by decide +kernel))) (by decide +kernel)
theorem k91 : (.code ⟨"BitCopier", "wordsNeeded", "(II)I"⟩ prog_1_method_22_code (3) (some .int) : Cond) ∈ tblG := tg (List.mem_append_right _ (List.mem_of_getElem? (i := 91) (by decide +kernel))) (by decide +kernel)
theorem k92 : (.constant "BitCopier" (119) (64000) : Cond) ∈ tblG := tg (List.mem_append_right _ (List.mem_of_getElem? (i := 92) (by decide +kernel))) (by decide +kernel)
theorem k93 : (.methodLink "BitCopier" (120) ⟨"BitCopier", "wordsPerRow", "(I)I"⟩ : Cond) ∈ tblG := tg (List.mem_append_right _ (List.mem_of_getElem? (i := 93) (by decide +kernel))) (by decide +kernel)
theorem k94 : (.static ⟨"BitCopier", "wordsPerRow", "(I)I"⟩ : Cond) ∈ tblG := tg (List.mem_append_right _ (List.mem_of_getElem? (i := 94) (by decide +kernel))) (by decide +kernel)
theorem k95 : (.code ⟨"BitCopier", "wordsPerRow", "(I)I"⟩ prog_1_method_23_code (1) (some .int) : Cond) ∈ tblG := tg (List.mem_append_right _ (List.mem_of_getElem? (i := 95) (by decide +kernel))) (by decide +kernel)
theorem k96 : (.methodLink "BitCopier" (48) ⟨"BitCopier", "isForm", "(I)Z"⟩ : Cond) ∈ tblG := tg (List.mem_append_right _ (List.mem_of_getElem? (i := 96) (by decide +kernel))) (by decide +kernel)
theorem k97 : (.static ⟨"BitCopier", "isForm", "(I)Z"⟩ : Cond) ∈ tblG := tg (List.mem_append_right _ (List.mem_of_getElem? (i := 97) (by decide +kernel))) (by decide +kernel)
theorem k98 : (.code ⟨"BitCopier", "isForm", "(I)Z"⟩ prog_1_method_14_code (1) (some .boolean) : Cond) ∈ tblG := tg (List.mem_append_right _ (List.mem_of_getElem? (i := 98) (by decide +kernel))) (by decide +kernel)
theorem k99 : (.methodLink "BitCopier" (52) ⟨"BitCopier$Form", "becomeBlank", "(III)V"⟩ : Cond) ∈ tblG := tg (List.mem_append_right _ (List.mem_of_getElem? (i := 99) (by decide +kernel))) (by decide +kernel)
theorem k100 : (.instanceMethod ⟨"BitCopier$Form", "becomeBlank", "(III)V"⟩ : Cond) ∈ tblG := tg (List.mem_append_right _ (List.mem_of_getElem? (i := 100) (by decide +kernel))) (by decide +kernel)
theorem k101 : (.selects "BitCopier$Form" ⟨"BitCopier$Form", "becomeBlank", "(III)V"⟩ ⟨"BitCopier$Form", "becomeBlank", "(III)V"⟩ : Cond) ∈ tblG := tg (List.mem_append_right _ (List.mem_of_getElem? (i := 101) (by decide +kernel))) (by decide +kernel)
theorem k102 : (.code ⟨"BitCopier$Form", "becomeBlank", "(III)V"⟩ prog_2_method_6_code (4) none : Cond) ∈ tblG := tg (List.mem_append_right _ (List.mem_of_getElem? (i := 102) (by decide +kernel))) (by decide +kernel)
theorem k103 : (.methodLink "BitCopier$Form" (29) ⟨"java/lang/Math", "max", "(II)I"⟩ : Cond) ∈ tblG := tg (List.mem_append_right _ (List.mem_of_getElem? (i := 103) (by decide +kernel))) (by decide +kernel)
theorem k104 : (.static ⟨"java/lang/Math", "max", "(II)I"⟩ : Cond) ∈ tblG := tg (List.mem_append_right _ (List.mem_of_getElem? (i := 104) (by decide +kernel))) (by decide +kernel)
theorem k105 : (.code ⟨"java/lang/Math", "max", "(II)I"⟩ prog_7_method_65_code (2) (some .int) : Cond) ∈ tblG := tg (List.mem_append_right _ (List.mem_of_getElem? (i := 105) (by decide +kernel))) (by decide +kernel)
theorem k106 : (.methodLink "BitCopier$Form" (35) ⟨"java/lang/Math", "min", "(II)I"⟩ : Cond) ∈ tblG := tg (List.mem_append_right _ (List.mem_of_getElem? (i := 106) (by decide +kernel))) (by decide +kernel)
theorem k107 : (.static ⟨"java/lang/Math", "min", "(II)I"⟩ : Cond) ∈ tblG := tg (List.mem_append_right _ (List.mem_of_getElem? (i := 107) (by decide +kernel))) (by decide +kernel)
theorem k108 : (.code ⟨"java/lang/Math", "min", "(II)I"⟩ prog_7_method_69_code (2) (some .int) : Cond) ∈ tblG := tg (List.mem_append_right _ (List.mem_of_getElem? (i := 108) (by decide +kernel))) (by decide +kernel)
theorem k109 : (.methodLink "BitCopier$Form" (38) ⟨"java/util/Arrays", "fill", "([II)V"⟩ : Cond) ∈ tblG := tg (List.mem_append_right _ (List.mem_of_getElem? (i := 109) (by decide +kernel))) (by decide +kernel)
theorem k110 : (.static ⟨"java/util/Arrays", "fill", "([II)V"⟩ : Cond) ∈ tblG := tg (List.mem_append_right _ (List.mem_of_getElem? (i := 110) (by decide +kernel))) (by decide +kernel)
theorem k111 : (.code ⟨"java/util/Arrays", "fill", "([II)V"⟩ prog_8_method_103_code (4) none : Cond) ∈ tblG := tg (List.mem_append_right _ (List.mem_of_getElem? (i := 111) (by decide +kernel))) (by decide +kernel)
abbrev nw112 : Cond := .methodLinkNest "BitCopier$Form" (44) ⟨"BitCopier", "wordsPerRow", "(I)I"⟩ "BitCopier"
theorem kb112 : nw112 ∈ lw_tbl := List.mem_append_right _ (List.mem_of_getElem? (i := 112) (by decide +kernel))
theorem k113 : (.methodLink "BitCopierLaw" (18) ⟨"BitCopier", "put", "(III)Z"⟩ : Cond) ∈ tblG := tg (List.mem_append_right _ (List.mem_of_getElem? (i := 113) (by decide +kernel))) (by decide +kernel)
theorem k114 : (.instanceMethod ⟨"BitCopier", "put", "(III)Z"⟩ : Cond) ∈ tblG := tg (List.mem_append_right _ (List.mem_of_getElem? (i := 114) (by decide +kernel))) (by decide +kernel)
theorem k115 : (.selects "BitCopier" ⟨"BitCopier", "put", "(III)Z"⟩ ⟨"BitCopier", "put", "(III)Z"⟩ : Cond) ∈ tblG := tg (List.mem_append_right _ (List.mem_of_getElem? (i := 115) (by decide +kernel))) (by decide +kernel)
theorem k116 : (.code ⟨"BitCopier", "put", "(III)Z"⟩ prog_1_method_3_code (4) (some .boolean) : Cond) ∈ tblG := tg (List.mem_append_right _ (List.mem_of_getElem? (i := 116) (by decide +kernel))) (by decide +kernel)
theorem k117 : (.methodLink "BitCopier" (56) ⟨"BitCopier$Form", "hasWord", "(I)Z"⟩ : Cond) ∈ tblG := tg (List.mem_append_right _ (List.mem_of_getElem? (i := 117) (by decide +kernel))) (by decide +kernel)
theorem k118 : (.instanceMethod ⟨"BitCopier$Form", "hasWord", "(I)Z"⟩ : Cond) ∈ tblG := tg (List.mem_append_right _ (List.mem_of_getElem? (i := 118) (by decide +kernel))) (by decide +kernel)
theorem k119 : (.selects "BitCopier$Form" ⟨"BitCopier$Form", "hasWord", "(I)Z"⟩ ⟨"BitCopier$Form", "hasWord", "(I)Z"⟩ : Cond) ∈ tblG := tg (List.mem_append_right _ (List.mem_of_getElem? (i := 119) (by decide +kernel))) (by decide +kernel)
theorem k120 : (.code ⟨"BitCopier$Form", "hasWord", "(I)Z"⟩ prog_2_method_4_code (2) (some .boolean) : Cond) ∈ tblG := tg (List.mem_append_right _ (List.mem_of_getElem? (i := 120) (by decide +kernel))) (by decide +kernel)
theorem k121 : (.methodLink "BitCopier$Form" (25) ⟨"BitCopier$Form", "wordCount", "()I"⟩ : Cond) ∈ tblG := tg (List.mem_append_right _ (List.mem_of_getElem? (i := 121) (by decide +kernel))) (by decide +kernel)
theorem k122 : (.instanceMethod ⟨"BitCopier$Form", "wordCount", "()I"⟩ : Cond) ∈ tblG := tg (List.mem_append_right _ (List.mem_of_getElem? (i := 122) (by decide +kernel))) (by decide +kernel)
theorem k123 : (.selects "BitCopier$Form" ⟨"BitCopier$Form", "wordCount", "()I"⟩ ⟨"BitCopier$Form", "wordCount", "()I"⟩ : Cond) ∈ tblG := tg (List.mem_append_right _ (List.mem_of_getElem? (i := 123) (by decide +kernel))) (by decide +kernel)
theorem k124 : (.code ⟨"BitCopier$Form", "wordCount", "()I"⟩ prog_2_method_3_code (1) (some .int) : Cond) ∈ tblG := tg (List.mem_append_right _ (List.mem_of_getElem? (i := 124) (by decide +kernel))) (by decide +kernel)
theorem k125 : (.methodLink "BitCopier" (59) ⟨"BitCopier$Form", "writeWord", "(II)V"⟩ : Cond) ∈ tblG := tg (List.mem_append_right _ (List.mem_of_getElem? (i := 125) (by decide +kernel))) (by decide +kernel)
theorem k126 : (.instanceMethod ⟨"BitCopier$Form", "writeWord", "(II)V"⟩ : Cond) ∈ tblG := tg (List.mem_append_right _ (List.mem_of_getElem? (i := 126) (by decide +kernel))) (by decide +kernel)
theorem k127 : (.selects "BitCopier$Form" ⟨"BitCopier$Form", "writeWord", "(II)V"⟩ ⟨"BitCopier$Form", "writeWord", "(II)V"⟩ : Cond) ∈ tblG := tg (List.mem_append_right _ (List.mem_of_getElem? (i := 127) (by decide +kernel))) (by decide +kernel)
theorem k128 : (.code ⟨"BitCopier$Form", "writeWord", "(II)V"⟩ prog_2_method_7_code (3) none : Cond) ∈ tblG := tg (List.mem_append_right _ (List.mem_of_getElem? (i := 128) (by decide +kernel))) (by decide +kernel)
abbrev nw129 : Cond := .methodLinkNest "BitCopier$Form" (48) ⟨"BitCopier", "spanMask", "(III)I"⟩ "BitCopier"
theorem kb129 : nw129 ∈ lw_tbl := List.mem_append_right _ (List.mem_of_getElem? (i := 129) (by decide +kernel))
theorem k130 : (.static ⟨"BitCopier", "spanMask", "(III)I"⟩ : Cond) ∈ tblG := tg (List.mem_append_right _ (List.mem_of_getElem? (i := 130) (by decide +kernel))) (by decide +kernel)
theorem k131 : (.code ⟨"BitCopier", "spanMask", "(III)I"⟩ prog_1_method_24_code (5) (some .int) : Cond) ∈ tblG := tg (List.mem_append_right _ (List.mem_of_getElem? (i := 131) (by decide +kernel))) (by decide +kernel)
theorem k132 : (.methodLink "BitCopier" (123) ⟨"java/lang/Math", "max", "(II)I"⟩ : Cond) ∈ tblG := tg (List.mem_append_right _ (List.mem_of_getElem? (i := 132) (by decide +kernel))) (by decide +kernel)
theorem k133 : (.methodLink "BitCopier" (126) ⟨"java/lang/Math", "min", "(II)I"⟩ : Cond) ∈ tblG := tg (List.mem_append_right _ (List.mem_of_getElem? (i := 133) (by decide +kernel))) (by decide +kernel)
theorem k134 : (.constant "BitCopier" (129) (65535) : Cond) ∈ tblG := tg (List.mem_append_right _ (List.mem_of_getElem? (i := 134) (by decide +kernel))) (by decide +kernel)
theorem k135 : (.methodLink "BitCopierLaw" (23) ⟨"BitCopier", "word", "(II)I"⟩ : Cond) ∈ tblG := tg (List.mem_append_right _ (List.mem_of_getElem? (i := 135) (by decide +kernel))) (by decide +kernel)
theorem k136 : (.instanceMethod ⟨"BitCopier", "word", "(II)I"⟩ : Cond) ∈ tblG := tg (List.mem_append_right _ (List.mem_of_getElem? (i := 136) (by decide +kernel))) (by decide +kernel)
theorem k137 : (.selects "BitCopier" ⟨"BitCopier", "word", "(II)I"⟩ ⟨"BitCopier", "word", "(II)I"⟩ : Cond) ∈ tblG := tg (List.mem_append_right _ (List.mem_of_getElem? (i := 137) (by decide +kernel))) (by decide +kernel)
theorem k138 : (.code ⟨"BitCopier", "word", "(II)I"⟩ prog_1_method_4_code (3) (some .int) : Cond) ∈ tblG := tg (List.mem_append_right _ (List.mem_of_getElem? (i := 138) (by decide +kernel))) (by decide +kernel)
theorem k139 : (.methodLink "BitCopierLaw" (28) ⟨"BitCopier", "bit", "(III)I"⟩ : Cond) ∈ tblG := tg (List.mem_append_right _ (List.mem_of_getElem? (i := 139) (by decide +kernel))) (by decide +kernel)
theorem k140 : (.instanceMethod ⟨"BitCopier", "bit", "(III)I"⟩ : Cond) ∈ tblG := tg (List.mem_append_right _ (List.mem_of_getElem? (i := 140) (by decide +kernel))) (by decide +kernel)
theorem k141 : (.selects "BitCopier" ⟨"BitCopier", "bit", "(III)I"⟩ ⟨"BitCopier", "bit", "(III)I"⟩ : Cond) ∈ tblG := tg (List.mem_append_right _ (List.mem_of_getElem? (i := 141) (by decide +kernel))) (by decide +kernel)
theorem k142 : (.code ⟨"BitCopier", "bit", "(III)I"⟩ prog_1_method_5_code (4) (some .int) : Cond) ∈ tblG := tg (List.mem_append_right _ (List.mem_of_getElem? (i := 142) (by decide +kernel))) (by decide +kernel)
theorem k143 : (.methodLink "BitCopier" (66) ⟨"BitCopier$Form", "hasBit", "(II)Z"⟩ : Cond) ∈ tblG := tg (List.mem_append_right _ (List.mem_of_getElem? (i := 143) (by decide +kernel))) (by decide +kernel)
theorem k144 : (.instanceMethod ⟨"BitCopier$Form", "hasBit", "(II)Z"⟩ : Cond) ∈ tblG := tg (List.mem_append_right _ (List.mem_of_getElem? (i := 144) (by decide +kernel))) (by decide +kernel)
theorem k145 : (.selects "BitCopier$Form" ⟨"BitCopier$Form", "hasBit", "(II)Z"⟩ ⟨"BitCopier$Form", "hasBit", "(II)Z"⟩ : Cond) ∈ tblG := tg (List.mem_append_right _ (List.mem_of_getElem? (i := 145) (by decide +kernel))) (by decide +kernel)
theorem k146 : (.code ⟨"BitCopier$Form", "hasBit", "(II)Z"⟩ prog_2_method_5_code (3) (some .boolean) : Cond) ∈ tblG := tg (List.mem_append_right _ (List.mem_of_getElem? (i := 146) (by decide +kernel))) (by decide +kernel)
theorem k147 : (.methodLink "BitCopier" (70) ⟨"BitCopier$Form", "bitAt", "(II)I"⟩ : Cond) ∈ tblG := tg (List.mem_append_right _ (List.mem_of_getElem? (i := 147) (by decide +kernel))) (by decide +kernel)
theorem k148 : (.instanceMethod ⟨"BitCopier$Form", "bitAt", "(II)I"⟩ : Cond) ∈ tblG := tg (List.mem_append_right _ (List.mem_of_getElem? (i := 148) (by decide +kernel))) (by decide +kernel)
theorem k149 : (.selects "BitCopier$Form" ⟨"BitCopier$Form", "bitAt", "(II)I"⟩ ⟨"BitCopier$Form", "bitAt", "(II)I"⟩ : Cond) ∈ tblG := tg (List.mem_append_right _ (List.mem_of_getElem? (i := 149) (by decide +kernel))) (by decide +kernel)
theorem k150 : (.code ⟨"BitCopier$Form", "bitAt", "(II)I"⟩ prog_2_method_8_code (4) (some .int) : Cond) ∈ tblG := tg (List.mem_append_right _ (List.mem_of_getElem? (i := 150) (by decide +kernel))) (by decide +kernel)
theorem k151 : (.methodLink "BitCopierLaw" (32) ⟨"BitCopier", "count", "(I)I"⟩ : Cond) ∈ tblG := tg (List.mem_append_right _ (List.mem_of_getElem? (i := 151) (by decide +kernel))) (by decide +kernel)
theorem k152 : (.instanceMethod ⟨"BitCopier", "count", "(I)I"⟩ : Cond) ∈ tblG := tg (List.mem_append_right _ (List.mem_of_getElem? (i := 152) (by decide +kernel))) (by decide +kernel)
theorem k153 : (.selects "BitCopier" ⟨"BitCopier", "count", "(I)I"⟩ ⟨"BitCopier", "count", "(I)I"⟩ : Cond) ∈ tblG := tg (List.mem_append_right _ (List.mem_of_getElem? (i := 153) (by decide +kernel))) (by decide +kernel)
theorem k154 : (.code ⟨"BitCopier", "count", "(I)I"⟩ prog_1_method_6_code (2) (some .int) : Cond) ∈ tblG := tg (List.mem_append_right _ (List.mem_of_getElem? (i := 154) (by decide +kernel))) (by decide +kernel)
theorem k155 : (.methodLink "BitCopier" (73) ⟨"BitCopier$Form", "ones", "()I"⟩ : Cond) ∈ tblG := tg (List.mem_append_right _ (List.mem_of_getElem? (i := 155) (by decide +kernel))) (by decide +kernel)
theorem k156 : (.instanceMethod ⟨"BitCopier$Form", "ones", "()I"⟩ : Cond) ∈ tblG := tg (List.mem_append_right _ (List.mem_of_getElem? (i := 156) (by decide +kernel))) (by decide +kernel)
theorem k157 : (.selects "BitCopier$Form" ⟨"BitCopier$Form", "ones", "()I"⟩ ⟨"BitCopier$Form", "ones", "()I"⟩ : Cond) ∈ tblG := tg (List.mem_append_right _ (List.mem_of_getElem? (i := 157) (by decide +kernel))) (by decide +kernel)
theorem k158 : (.code ⟨"BitCopier$Form", "ones", "()I"⟩ prog_2_method_9_code (3) (some .int) : Cond) ∈ tblG := tg (List.mem_append_right _ (List.mem_of_getElem? (i := 158) (by decide +kernel))) (by decide +kernel)
theorem k159 : (.methodLink "BitCopier$Form" (52) ⟨"java/lang/Integer", "bitCount", "(I)I"⟩ : Cond) ∈ tblG := tg (List.mem_append_right _ (List.mem_of_getElem? (i := 159) (by decide +kernel))) (by decide +kernel)
theorem k160 : (.static ⟨"java/lang/Integer", "bitCount", "(I)I"⟩ : Cond) ∈ tblG := tg (List.mem_append_right _ (List.mem_of_getElem? (i := 160) (by decide +kernel))) (by decide +kernel)
theorem k161 : (.code ⟨"java/lang/Integer", "bitCount", "(I)I"⟩ prog_6_method_49_code (1) (some .int) : Cond) ∈ tblG := tg (List.mem_append_right _ (List.mem_of_getElem? (i := 161) (by decide +kernel))) (by decide +kernel)
theorem k162 : (.constant "java/lang/Integer" (265) (1431655765) : Cond) ∈ tblG := tg (List.mem_append_right _ (List.mem_of_getElem? (i := 162) (by decide +kernel))) (by decide +kernel)
theorem k163 : (.constant "java/lang/Integer" (266) (858993459) : Cond) ∈ tblG := tg (List.mem_append_right _ (List.mem_of_getElem? (i := 163) (by decide +kernel))) (by decide +kernel)
theorem k164 : (.constant "java/lang/Integer" (267) (252645135) : Cond) ∈ tblG := tg (List.mem_append_right _ (List.mem_of_getElem? (i := 164) (by decide +kernel))) (by decide +kernel)
theorem k165 : (.methodLink "BitCopierLaw" (37) ⟨"BitCopier", "same", "(II)Z"⟩ : Cond) ∈ tblG := tg (List.mem_append_right _ (List.mem_of_getElem? (i := 165) (by decide +kernel))) (by decide +kernel)
theorem k166 : (.instanceMethod ⟨"BitCopier", "same", "(II)Z"⟩ : Cond) ∈ tblG := tg (List.mem_append_right _ (List.mem_of_getElem? (i := 166) (by decide +kernel))) (by decide +kernel)
theorem k167 : (.selects "BitCopier" ⟨"BitCopier", "same", "(II)Z"⟩ ⟨"BitCopier", "same", "(II)Z"⟩ : Cond) ∈ tblG := tg (List.mem_append_right _ (List.mem_of_getElem? (i := 167) (by decide +kernel))) (by decide +kernel)
theorem k168 : (.code ⟨"BitCopier", "same", "(II)Z"⟩ prog_1_method_7_code (3) (some .boolean) : Cond) ∈ tblG := tg (List.mem_append_right _ (List.mem_of_getElem? (i := 168) (by decide +kernel))) (by decide +kernel)
theorem k169 : (.methodLink "BitCopier" (77) ⟨"BitCopier$Form", "looksLike", "(LBitCopier$Form;)Z"⟩ : Cond) ∈ tblG := tg (List.mem_append_right _ (List.mem_of_getElem? (i := 169) (by decide +kernel))) (by decide +kernel)
theorem k170 : (.instanceMethod ⟨"BitCopier$Form", "looksLike", "(LBitCopier$Form;)Z"⟩ : Cond) ∈ tblG := tg (List.mem_append_right _ (List.mem_of_getElem? (i := 170) (by decide +kernel))) (by decide +kernel)
theorem k171 : (.selects "BitCopier$Form" ⟨"BitCopier$Form", "looksLike", "(LBitCopier$Form;)Z"⟩ ⟨"BitCopier$Form", "looksLike", "(LBitCopier$Form;)Z"⟩ : Cond) ∈ tblG := tg (List.mem_append_right _ (List.mem_of_getElem? (i := 171) (by decide +kernel))) (by decide +kernel)
theorem k172 : (.code ⟨"BitCopier$Form", "looksLike", "(LBitCopier$Form;)Z"⟩ prog_2_method_10_code (3) (some .boolean) : Cond) ∈ tblG := tg (List.mem_append_right _ (List.mem_of_getElem? (i := 172) (by decide +kernel))) (by decide +kernel)
theorem k173 : (.methodLink "BitCopierLaw" (42) ⟨"BitCopier", "forms", "(III)Z"⟩ : Cond) ∈ tblG := tg (List.mem_append_right _ (List.mem_of_getElem? (i := 173) (by decide +kernel))) (by decide +kernel)
theorem k174 : (.instanceMethod ⟨"BitCopier", "forms", "(III)Z"⟩ : Cond) ∈ tblG := tg (List.mem_append_right _ (List.mem_of_getElem? (i := 174) (by decide +kernel))) (by decide +kernel)
theorem k175 : (.selects "BitCopier" ⟨"BitCopier", "forms", "(III)Z"⟩ ⟨"BitCopier", "forms", "(III)Z"⟩ : Cond) ∈ tblG := tg (List.mem_append_right _ (List.mem_of_getElem? (i := 175) (by decide +kernel))) (by decide +kernel)
theorem k176 : (.code ⟨"BitCopier", "forms", "(III)Z"⟩ prog_1_method_8_code (5) (some .boolean) : Cond) ∈ tblG := tg (List.mem_append_right _ (List.mem_of_getElem? (i := 176) (by decide +kernel))) (by decide +kernel)
theorem k177 : (.methodLink "BitCopier" (81) ⟨"BitCopier", "isFormOrNone", "(I)Z"⟩ : Cond) ∈ tblG := tg (List.mem_append_right _ (List.mem_of_getElem? (i := 177) (by decide +kernel))) (by decide +kernel)
theorem k178 : (.static ⟨"BitCopier", "isFormOrNone", "(I)Z"⟩ : Cond) ∈ tblG := tg (List.mem_append_right _ (List.mem_of_getElem? (i := 178) (by decide +kernel))) (by decide +kernel)
theorem k179 : (.code ⟨"BitCopier", "isFormOrNone", "(I)Z"⟩ prog_1_method_15_code (1) (some .boolean) : Cond) ∈ tblG := tg (List.mem_append_right _ (List.mem_of_getElem? (i := 179) (by decide +kernel))) (by decide +kernel)
theorem k180 : (.methodLink "BitCopier" (84) ⟨"BitCopier", "formOrNull", "(I)LBitCopier$Form;"⟩ : Cond) ∈ tblG := tg (List.mem_append_right _ (List.mem_of_getElem? (i := 180) (by decide +kernel))) (by decide +kernel)
theorem k182 : (.instanceMethod ⟨"BitCopier", "formOrNull", "(I)LBitCopier$Form;"⟩ : Cond) ∈ tblG := tg (List.mem_append_right _ (List.mem_of_getElem? (i := 182) (by decide +kernel))) (by decide +kernel)
theorem k183 : (.code ⟨"BitCopier", "formOrNull", "(I)LBitCopier$Form;"⟩ prog_1_method_16_code (2) (some (.object "BitCopier$Form")) : Cond) ∈ tblG := tg (List.mem_append_right _ (List.mem_of_getElem? (i := 183) (by decide +kernel))) (by decide +kernel)
theorem k184 : (.methodLink "BitCopier" (88) ⟨"BitCopier", "fitsAsPattern", "(LBitCopier$Form;)Z"⟩ : Cond) ∈ tblG := tg (List.mem_append_right _ (List.mem_of_getElem? (i := 184) (by decide +kernel))) (by decide +kernel)
theorem k185 : (.static ⟨"BitCopier", "fitsAsPattern", "(LBitCopier$Form;)Z"⟩ : Cond) ∈ tblG := tg (List.mem_append_right _ (List.mem_of_getElem? (i := 185) (by decide +kernel))) (by decide +kernel)
theorem k186 : (.code ⟨"BitCopier", "fitsAsPattern", "(LBitCopier$Form;)Z"⟩ prog_1_method_17_code (1) (some .boolean) : Cond) ∈ tblG := tg (List.mem_append_right _ (List.mem_of_getElem? (i := 186) (by decide +kernel))) (by decide +kernel)
theorem k187 : (.methodLink "BitCopierLaw" (46) ⟨"BitCopier", "rule", "(I)Z"⟩ : Cond) ∈ tblG := tg (List.mem_append_right _ (List.mem_of_getElem? (i := 187) (by decide +kernel))) (by decide +kernel)
theorem k188 : (.instanceMethod ⟨"BitCopier", "rule", "(I)Z"⟩ : Cond) ∈ tblG := tg (List.mem_append_right _ (List.mem_of_getElem? (i := 188) (by decide +kernel))) (by decide +kernel)
theorem k189 : (.selects "BitCopier" ⟨"BitCopier", "rule", "(I)Z"⟩ ⟨"BitCopier", "rule", "(I)Z"⟩ : Cond) ∈ tblG := tg (List.mem_append_right _ (List.mem_of_getElem? (i := 189) (by decide +kernel))) (by decide +kernel)
theorem k190 : (.code ⟨"BitCopier", "rule", "(I)Z"⟩ prog_1_method_9_code (2) (some .boolean) : Cond) ∈ tblG := tg (List.mem_append_right _ (List.mem_of_getElem? (i := 190) (by decide +kernel))) (by decide +kernel)
theorem k191 : (.methodLink "BitCopierLaw" (51) ⟨"BitCopier", "set", "(III)Z"⟩ : Cond) ∈ tblG := tg (List.mem_append_right _ (List.mem_of_getElem? (i := 191) (by decide +kernel))) (by decide +kernel)
theorem k192 : (.instanceMethod ⟨"BitCopier", "set", "(III)Z"⟩ : Cond) ∈ tblG := tg (List.mem_append_right _ (List.mem_of_getElem? (i := 192) (by decide +kernel))) (by decide +kernel)
theorem k193 : (.selects "BitCopier" ⟨"BitCopier", "set", "(III)Z"⟩ ⟨"BitCopier", "set", "(III)Z"⟩ : Cond) ∈ tblG := tg (List.mem_append_right _ (List.mem_of_getElem? (i := 193) (by decide +kernel))) (by decide +kernel)
theorem k194 : (.code ⟨"BitCopier", "set", "(III)Z"⟩ prog_1_method_10_code (4) (some .boolean) : Cond) ∈ tblG := tg (List.mem_append_right _ (List.mem_of_getElem? (i := 194) (by decide +kernel))) (by decide +kernel)
theorem k195 : (.methodLink "BitCopier" (91) ⟨"BitCopier", "isPair", "(I)Z"⟩ : Cond) ∈ tblG := tg (List.mem_append_right _ (List.mem_of_getElem? (i := 195) (by decide +kernel))) (by decide +kernel)
theorem k196 : (.static ⟨"BitCopier", "isPair", "(I)Z"⟩ : Cond) ∈ tblG := tg (List.mem_append_right _ (List.mem_of_getElem? (i := 196) (by decide +kernel))) (by decide +kernel)
theorem k197 : (.code ⟨"BitCopier", "isPair", "(I)Z"⟩ prog_1_method_18_code (1) (some .boolean) : Cond) ∈ tblG := tg (List.mem_append_right _ (List.mem_of_getElem? (i := 197) (by decide +kernel))) (by decide +kernel)
theorem k198 : (.methodLink "BitCopier" (94) ⟨"BitCopier", "isNumber", "(I)Z"⟩ : Cond) ∈ tblG := tg (List.mem_append_right _ (List.mem_of_getElem? (i := 198) (by decide +kernel))) (by decide +kernel)
theorem k199 : (.static ⟨"BitCopier", "isNumber", "(I)Z"⟩ : Cond) ∈ tblG := tg (List.mem_append_right _ (List.mem_of_getElem? (i := 199) (by decide +kernel))) (by decide +kernel)
theorem k200 : (.code ⟨"BitCopier", "isNumber", "(I)Z"⟩ prog_1_method_19_code (1) (some .boolean) : Cond) ∈ tblG := tg (List.mem_append_right _ (List.mem_of_getElem? (i := 200) (by decide +kernel))) (by decide +kernel)
theorem k201 : (.methodLink "BitCopierLaw" (55) ⟨"BitCopier", "order", "(IZ)I"⟩ : Cond) ∈ tblG := tg (List.mem_append_right _ (List.mem_of_getElem? (i := 201) (by decide +kernel))) (by decide +kernel)
theorem k202 : (.instanceMethod ⟨"BitCopier", "order", "(IZ)I"⟩ : Cond) ∈ tblG := tg (List.mem_append_right _ (List.mem_of_getElem? (i := 202) (by decide +kernel))) (by decide +kernel)
theorem k203 : (.selects "BitCopier" ⟨"BitCopier", "order", "(IZ)I"⟩ ⟨"BitCopier", "order", "(IZ)I"⟩ : Cond) ∈ tblG := tg (List.mem_append_right _ (List.mem_of_getElem? (i := 203) (by decide +kernel))) (by decide +kernel)
theorem k204 : (.code ⟨"BitCopier", "order", "(IZ)I"⟩ prog_1_method_11_code (3) (some .int) : Cond) ∈ tblG := tg (List.mem_append_right _ (List.mem_of_getElem? (i := 204) (by decide +kernel))) (by decide +kernel)
theorem k205 : (.methodLink "BitCopierLaw" (60) ⟨"BitCopier", "copy", "()I"⟩ : Cond) ∈ tblG := tg (List.mem_append_right _ (List.mem_of_getElem? (i := 205) (by decide +kernel))) (by decide +kernel)
theorem k206 : (.instanceMethod ⟨"BitCopier", "copy", "()I"⟩ : Cond) ∈ tblG := tg (List.mem_append_right _ (List.mem_of_getElem? (i := 206) (by decide +kernel))) (by decide +kernel)
theorem k207 : (.selects "BitCopier" ⟨"BitCopier", "copy", "()I"⟩ ⟨"BitCopier", "copy", "()I"⟩ : Cond) ∈ tblG := tg (List.mem_append_right _ (List.mem_of_getElem? (i := 207) (by decide +kernel))) (by decide +kernel)
theorem k208 : (.code ⟨"BitCopier", "copy", "()I"⟩ prog_1_method_12_code (1) (some .int) : Cond) ∈ tblG := tg (List.mem_append_right _ (List.mem_of_getElem? (i := 208) (by decide +kernel))) (by decide +kernel)
theorem k209 : (.methodLink "BitCopier" (97) ⟨"BitCopier", "copyBits", "()I"⟩ : Cond) ∈ tblG := tg (List.mem_append_right _ (List.mem_of_getElem? (i := 209) (by decide +kernel))) (by decide +kernel)
theorem k211 : (.instanceMethod ⟨"BitCopier", "copyBits", "()I"⟩ : Cond) ∈ tblG := tg (List.mem_append_right _ (List.mem_of_getElem? (i := 211) (by decide +kernel))) (by decide +kernel)
theorem k212 : (.code ⟨"BitCopier", "copyBits", "()I"⟩ prog_1_method_27_code (5) (some .int) : Cond) ∈ tblG := tg (List.mem_append_right _ (List.mem_of_getElem? (i := 212) (by decide +kernel))) (by decide +kernel)
theorem k213 : (.methodLink "BitCopier" (136) ⟨"BitCopier", "findReach", "(LBitCopier$Reach;I)V"⟩ : Cond) ∈ tblG := tg (List.mem_append_right _ (List.mem_of_getElem? (i := 213) (by decide +kernel))) (by decide +kernel)
theorem k215 : (.instanceMethod ⟨"BitCopier", "findReach", "(LBitCopier$Reach;I)V"⟩ : Cond) ∈ tblG := tg (List.mem_append_right _ (List.mem_of_getElem? (i := 215) (by decide +kernel))) (by decide +kernel)
theorem k216 : (.code ⟨"BitCopier", "findReach", "(LBitCopier$Reach;I)V"⟩ prog_1_method_28_code (3) none : Cond) ∈ tblG := tg (List.mem_append_right _ (List.mem_of_getElem? (i := 216) (by decide +kernel))) (by decide +kernel)
theorem k217 : (.methodLink "BitCopier" (156) ⟨"BitCopier$Reach", "begin", "(III)V"⟩ : Cond) ∈ tblG := tg (List.mem_append_right _ (List.mem_of_getElem? (i := 217) (by decide +kernel))) (by decide +kernel)
theorem k218 : (.instanceMethod ⟨"BitCopier$Reach", "begin", "(III)V"⟩ : Cond) ∈ tblG := tg (List.mem_append_right _ (List.mem_of_getElem? (i := 218) (by decide +kernel))) (by decide +kernel)
theorem k219 : (.selects "BitCopier$Reach" ⟨"BitCopier$Reach", "begin", "(III)V"⟩ ⟨"BitCopier$Reach", "begin", "(III)V"⟩ : Cond) ∈ tblG := tg (List.mem_append_right _ (List.mem_of_getElem? (i := 219) (by decide +kernel))) (by decide +kernel)
theorem k220 : (.code ⟨"BitCopier$Reach", "begin", "(III)V"⟩ prog_3_method_2_code (4) none : Cond) ∈ tblG := tg (List.mem_append_right _ (List.mem_of_getElem? (i := 220) (by decide +kernel))) (by decide +kernel)
theorem k221 : (.methodLink "BitCopier" (159) ⟨"BitCopier$Reach", "narrow", "(II)V"⟩ : Cond) ∈ tblG := tg (List.mem_append_right _ (List.mem_of_getElem? (i := 221) (by decide +kernel))) (by decide +kernel)
theorem k222 : (.instanceMethod ⟨"BitCopier$Reach", "narrow", "(II)V"⟩ : Cond) ∈ tblG := tg (List.mem_append_right _ (List.mem_of_getElem? (i := 222) (by decide +kernel))) (by decide +kernel)
theorem k223 : (.selects "BitCopier$Reach" ⟨"BitCopier$Reach", "narrow", "(II)V"⟩ ⟨"BitCopier$Reach", "narrow", "(II)V"⟩ : Cond) ∈ tblG := tg (List.mem_append_right _ (List.mem_of_getElem? (i := 223) (by decide +kernel))) (by decide +kernel)
theorem k224 : (.code ⟨"BitCopier$Reach", "narrow", "(II)V"⟩ prog_3_method_3_code (3) none : Cond) ∈ tblG := tg (List.mem_append_right _ (List.mem_of_getElem? (i := 224) (by decide +kernel))) (by decide +kernel)
theorem k225 : (.methodLink "BitCopier$Reach" (19) ⟨"java/lang/Math", "max", "(II)I"⟩ : Cond) ∈ tblG := tg (List.mem_append_right _ (List.mem_of_getElem? (i := 225) (by decide +kernel))) (by decide +kernel)
theorem k226 : (.methodLink "BitCopier$Reach" (25) ⟨"java/lang/Math", "min", "(II)I"⟩ : Cond) ∈ tblG := tg (List.mem_append_right _ (List.mem_of_getElem? (i := 226) (by decide +kernel))) (by decide +kernel)
theorem k227 : (.methodLink "BitCopier" (162) ⟨"BitCopier$Form", "lengthAlong", "(I)I"⟩ : Cond) ∈ tblG := tg (List.mem_append_right _ (List.mem_of_getElem? (i := 227) (by decide +kernel))) (by decide +kernel)
theorem k228 : (.instanceMethod ⟨"BitCopier$Form", "lengthAlong", "(I)I"⟩ : Cond) ∈ tblG := tg (List.mem_append_right _ (List.mem_of_getElem? (i := 228) (by decide +kernel))) (by decide +kernel)
theorem k229 : (.selects "BitCopier$Form" ⟨"BitCopier$Form", "lengthAlong", "(I)I"⟩ ⟨"BitCopier$Form", "lengthAlong", "(I)I"⟩ : Cond) ∈ tblG := tg (List.mem_append_right _ (List.mem_of_getElem? (i := 229) (by decide +kernel))) (by decide +kernel)
theorem k230 : (.code ⟨"BitCopier$Form", "lengthAlong", "(I)I"⟩ prog_2_method_2_code (2) (some .int) : Cond) ∈ tblG := tg (List.mem_append_right _ (List.mem_of_getElem? (i := 230) (by decide +kernel))) (by decide +kernel)
theorem k231 : (.methodLink "BitCopier" (140) ⟨"BitCopier$Reach", "length", "()I"⟩ : Cond) ∈ tblG := tg (List.mem_append_right _ (List.mem_of_getElem? (i := 231) (by decide +kernel))) (by decide +kernel)
theorem k232 : (.instanceMethod ⟨"BitCopier$Reach", "length", "()I"⟩ : Cond) ∈ tblG := tg (List.mem_append_right _ (List.mem_of_getElem? (i := 232) (by decide +kernel))) (by decide +kernel)
theorem k233 : (.selects "BitCopier$Reach" ⟨"BitCopier$Reach", "length", "()I"⟩ ⟨"BitCopier$Reach", "length", "()I"⟩ : Cond) ∈ tblG := tg (List.mem_append_right _ (List.mem_of_getElem? (i := 233) (by decide +kernel))) (by decide +kernel)
theorem k234 : (.code ⟨"BitCopier$Reach", "length", "()I"⟩ prog_3_method_4_code (1) (some .int) : Cond) ∈ tblG := tg (List.mem_append_right _ (List.mem_of_getElem? (i := 234) (by decide +kernel))) (by decide +kernel)
theorem k235 : (.methodLink "BitCopier" (152) ⟨"BitCopier", "copyRow", "(I)V"⟩ : Cond) ∈ tblG := tg (List.mem_append_right _ (List.mem_of_getElem? (i := 235) (by decide +kernel))) (by decide +kernel)
theorem k237 : (.instanceMethod ⟨"BitCopier", "copyRow", "(I)V"⟩ : Cond) ∈ tblG := tg (List.mem_append_right _ (List.mem_of_getElem? (i := 237) (by decide +kernel))) (by decide +kernel)
theorem k238 : (.code ⟨"BitCopier", "copyRow", "(I)V"⟩ prog_1_method_29_code (10) none : Cond) ∈ tblG := tg (List.mem_append_right _ (List.mem_of_getElem? (i := 238) (by decide +kernel))) (by decide +kernel)
theorem k239 : (.methodLink "BitCopier" (168) ⟨"BitCopier", "spanMask", "(III)I"⟩ : Cond) ∈ tblG := tg (List.mem_append_right _ (List.mem_of_getElem? (i := 239) (by decide +kernel))) (by decide +kernel)
theorem k240 : (.methodLink "BitCopier" (171) ⟨"BitCopier", "incoming", "(II)I"⟩ : Cond) ∈ tblG := tg (List.mem_append_right _ (List.mem_of_getElem? (i := 240) (by decide +kernel))) (by decide +kernel)
theorem k242 : (.instanceMethod ⟨"BitCopier", "incoming", "(II)I"⟩ : Cond) ∈ tblG := tg (List.mem_append_right _ (List.mem_of_getElem? (i := 242) (by decide +kernel))) (by decide +kernel)
theorem k243 : (.code ⟨"BitCopier", "incoming", "(II)I"⟩ prog_1_method_30_code (4) (some .int) : Cond) ∈ tblG := tg (List.mem_append_right _ (List.mem_of_getElem? (i := 243) (by decide +kernel))) (by decide +kernel)
theorem k244 : (.methodLink "BitCopier" (177) ⟨"BitCopier$Form", "bitsFrom", "(II)I"⟩ : Cond) ∈ tblG := tg (List.mem_append_right _ (List.mem_of_getElem? (i := 244) (by decide +kernel))) (by decide +kernel)
theorem k245 : (.instanceMethod ⟨"BitCopier$Form", "bitsFrom", "(II)I"⟩ : Cond) ∈ tblG := tg (List.mem_append_right _ (List.mem_of_getElem? (i := 245) (by decide +kernel))) (by decide +kernel)
theorem k246 : (.selects "BitCopier$Form" ⟨"BitCopier$Form", "bitsFrom", "(II)I"⟩ ⟨"BitCopier$Form", "bitsFrom", "(II)I"⟩ : Cond) ∈ tblG := tg (List.mem_append_right _ (List.mem_of_getElem? (i := 246) (by decide +kernel))) (by decide +kernel)
theorem k247 : (.code ⟨"BitCopier$Form", "bitsFrom", "(II)I"⟩ prog_2_method_11_code (5) (some .int) : Cond) ∈ tblG := tg (List.mem_append_right _ (List.mem_of_getElem? (i := 247) (by decide +kernel))) (by decide +kernel)
theorem k248 : (.methodLink "BitCopier$Form" (57) ⟨"java/lang/Math", "floorDiv", "(II)I"⟩ : Cond) ∈ tblG := tg (List.mem_append_right _ (List.mem_of_getElem? (i := 248) (by decide +kernel))) (by decide +kernel)
theorem k249 : (.static ⟨"java/lang/Math", "floorDiv", "(II)I"⟩ : Cond) ∈ tblG := tg (List.mem_append_right _ (List.mem_of_getElem? (i := 249) (by decide +kernel))) (by decide +kernel)
theorem k250 : (.code ⟨"java/lang/Math", "floorDiv", "(II)I"⟩ prog_7_method_47_code (3) (some .int) : Cond) ∈ tblG := tg (List.mem_append_right _ (List.mem_of_getElem? (i := 250) (by decide +kernel))) (by decide +kernel)
theorem k251 : (.methodLink "BitCopier$Form" (60) ⟨"BitCopier$Form", "wordInRow", "(II)I"⟩ : Cond) ∈ tblG := tg (List.mem_append_right _ (List.mem_of_getElem? (i := 251) (by decide +kernel))) (by decide +kernel)
theorem k253 : (.instanceMethod ⟨"BitCopier$Form", "wordInRow", "(II)I"⟩ : Cond) ∈ tblG := tg (List.mem_append_right _ (List.mem_of_getElem? (i := 253) (by decide +kernel))) (by decide +kernel)
theorem k254 : (.code ⟨"BitCopier$Form", "wordInRow", "(II)I"⟩ prog_2_method_12_code (3) (some .int) : Cond) ∈ tblG := tg (List.mem_append_right _ (List.mem_of_getElem? (i := 254) (by decide +kernel))) (by decide +kernel)
theorem k255 : (.methodLink "BitCopier$Form" (63) ⟨"java/lang/Math", "floorMod", "(II)I"⟩ : Cond) ∈ tblG := tg (List.mem_append_right _ (List.mem_of_getElem? (i := 255) (by decide +kernel))) (by decide +kernel)
theorem k256 : (.static ⟨"java/lang/Math", "floorMod", "(II)I"⟩ : Cond) ∈ tblG := tg (List.mem_append_right _ (List.mem_of_getElem? (i := 256) (by decide +kernel))) (by decide +kernel)
theorem k257 : (.code ⟨"java/lang/Math", "floorMod", "(II)I"⟩ prog_7_method_50_code (3) (some .int) : Cond) ∈ tblG := tg (List.mem_append_right _ (List.mem_of_getElem? (i := 257) (by decide +kernel))) (by decide +kernel)
theorem k258 : (.constant "BitCopier$Form" (66) (65535) : Cond) ∈ tblG := tg (List.mem_append_right _ (List.mem_of_getElem? (i := 258) (by decide +kernel))) (by decide +kernel)
theorem k259 : (.methodLink "BitCopier" (174) ⟨"BitCopier", "byRule", "(II)I"⟩ : Cond) ∈ tblG := tg (List.mem_append_right _ (List.mem_of_getElem? (i := 259) (by decide +kernel))) (by decide +kernel)
theorem k261 : (.instanceMethod ⟨"BitCopier", "byRule", "(II)I"⟩ : Cond) ∈ tblG := tg (List.mem_append_right _ (List.mem_of_getElem? (i := 261) (by decide +kernel))) (by decide +kernel)
theorem k262 : (.code ⟨"BitCopier", "byRule", "(II)I"⟩ prog_1_method_31_code (4) (some .int) : Cond) ∈ tblG := tg (List.mem_append_right _ (List.mem_of_getElem? (i := 262) (by decide +kernel))) (by decide +kernel)
theorem k263 : (.methodLink "BitCopierLaw" (65) ⟨"BitCopier", "line", "(II)I"⟩ : Cond) ∈ tblG := tg (List.mem_append_right _ (List.mem_of_getElem? (i := 263) (by decide +kernel))) (by decide +kernel)
theorem k264 : (.instanceMethod ⟨"BitCopier", "line", "(II)I"⟩ : Cond) ∈ tblG := tg (List.mem_append_right _ (List.mem_of_getElem? (i := 264) (by decide +kernel))) (by decide +kernel)
theorem k265 : (.selects "BitCopier" ⟨"BitCopier", "line", "(II)I"⟩ ⟨"BitCopier", "line", "(II)I"⟩ : Cond) ∈ tblG := tg (List.mem_append_right _ (List.mem_of_getElem? (i := 265) (by decide +kernel))) (by decide +kernel)
theorem k266 : (.code ⟨"BitCopier", "line", "(II)I"⟩ prog_1_method_13_code (3) (some .int) : Cond) ∈ tblG := tg (List.mem_append_right _ (List.mem_of_getElem? (i := 266) (by decide +kernel))) (by decide +kernel)
theorem k267 : (.methodLink "BitCopier" (100) ⟨"BitCopier", "isWay", "(I)Z"⟩ : Cond) ∈ tblG := tg (List.mem_append_right _ (List.mem_of_getElem? (i := 267) (by decide +kernel))) (by decide +kernel)
theorem k268 : (.static ⟨"BitCopier", "isWay", "(I)Z"⟩ : Cond) ∈ tblG := tg (List.mem_append_right _ (List.mem_of_getElem? (i := 268) (by decide +kernel))) (by decide +kernel)
theorem k269 : (.code ⟨"BitCopier", "isWay", "(I)Z"⟩ prog_1_method_20_code (1) (some .boolean) : Cond) ∈ tblG := tg (List.mem_append_right _ (List.mem_of_getElem? (i := 269) (by decide +kernel))) (by decide +kernel)
theorem k270 : (.methodLink "BitCopier" (103) ⟨"java/lang/Math", "abs", "(I)I"⟩ : Cond) ∈ tblG := tg (List.mem_append_right _ (List.mem_of_getElem? (i := 270) (by decide +kernel))) (by decide +kernel)
theorem k271 : (.static ⟨"java/lang/Math", "abs", "(I)I"⟩ : Cond) ∈ tblG := tg (List.mem_append_right _ (List.mem_of_getElem? (i := 271) (by decide +kernel))) (by decide +kernel)
theorem k272 : (.code ⟨"java/lang/Math", "abs", "(I)I"⟩ prog_7_method_59_code (1) (some .int) : Cond) ∈ tblG := tg (List.mem_append_right _ (List.mem_of_getElem? (i := 272) (by decide +kernel))) (by decide +kernel)
theorem k273 : (.methodLink "BitCopier" (109) ⟨"BitCopier", "drawAlong", "(III)I"⟩ : Cond) ∈ tblG := tg (List.mem_append_right _ (List.mem_of_getElem? (i := 273) (by decide +kernel))) (by decide +kernel)
theorem k275 : (.instanceMethod ⟨"BitCopier", "drawAlong", "(III)I"⟩ : Cond) ∈ tblG := tg (List.mem_append_right _ (List.mem_of_getElem? (i := 275) (by decide +kernel))) (by decide +kernel)
theorem k276 : (.code ⟨"BitCopier", "drawAlong", "(III)I"⟩ prog_1_method_25_code (8) (some .int) : Cond) ∈ tblG := tg (List.mem_append_right _ (List.mem_of_getElem? (i := 276) (by decide +kernel))) (by decide +kernel)
theorem k277 : (.methodLink "BitCopier" (130) ⟨"BitCopier", "signOf", "(I)I"⟩ : Cond) ∈ tblG := tg (List.mem_append_right _ (List.mem_of_getElem? (i := 277) (by decide +kernel))) (by decide +kernel)
theorem k278 : (.static ⟨"BitCopier", "signOf", "(I)I"⟩ : Cond) ∈ tblG := tg (List.mem_append_right _ (List.mem_of_getElem? (i := 278) (by decide +kernel))) (by decide +kernel)
theorem k279 : (.code ⟨"BitCopier", "signOf", "(I)I"⟩ prog_1_method_21_code (1) (some .int) : Cond) ∈ tblG := tg (List.mem_append_right _ (List.mem_of_getElem? (i := 279) (by decide +kernel))) (by decide +kernel)
theorem k280 : (.methodLink "BitCopier" (133) ⟨"BitCopier", "moveTo", "(II)Z"⟩ : Cond) ∈ tblG := tg (List.mem_append_right _ (List.mem_of_getElem? (i := 280) (by decide +kernel))) (by decide +kernel)
theorem k282 : (.instanceMethod ⟨"BitCopier", "moveTo", "(II)Z"⟩ : Cond) ∈ tblG := tg (List.mem_append_right _ (List.mem_of_getElem? (i := 282) (by decide +kernel))) (by decide +kernel)
theorem k283 : (.code ⟨"BitCopier", "moveTo", "(II)Z"⟩ prog_1_method_26_code (4) (some .boolean) : Cond) ∈ tblG := tg (List.mem_append_right _ (List.mem_of_getElem? (i := 283) (by decide +kernel))) (by decide +kernel)
theorem k284 : (.classLink "BitCopierLaw" (10) "BitCopierModel" : Cond) ∈ tblG := tg (List.mem_append_right _ (List.mem_of_getElem? (i := 284) (by decide +kernel))) (by decide +kernel)
theorem k285 : (.instantiable "BitCopierModel" (10) : Cond) ∈ tblG := tg (List.mem_append_right _ (List.mem_of_getElem? (i := 285) (by decide +kernel))) (by decide +kernel)
theorem k286 : (.methodLink "BitCopierLaw" (12) ⟨"BitCopierModel", "<init>", "()V"⟩ : Cond) ∈ tblG := tg (List.mem_append_right _ (List.mem_of_getElem? (i := 286) (by decide +kernel))) (by decide +kernel)
theorem k287 : (.instanceMethod ⟨"BitCopierModel", "<init>", "()V"⟩ : Cond) ∈ tblG := tg (List.mem_append_right _ (List.mem_of_getElem? (i := 287) (by decide +kernel))) (by decide +kernel)
theorem k288 : (.code ⟨"BitCopierModel", "<init>", "()V"⟩ prog_5_method_1_code (2) none : Cond) ∈ tblG := tg (List.mem_append_right _ (List.mem_of_getElem? (i := 288) (by decide +kernel))) (by decide +kernel)
theorem k289 : (.methodLink "BitCopierModel" (1) ⟨"java/lang/Object", "<init>", "()V"⟩ : Cond) ∈ tblG := tg (List.mem_append_right _ (List.mem_of_getElem? (i := 289) (by decide +kernel))) (by decide +kernel)
theorem k290 : (.fieldLink "BitCopierModel" (7) "BitCopierModel" "widths" "[I" : Cond) ∈ tblG := tg (List.mem_append_right _ (List.mem_of_getElem? (i := 290) (by decide +kernel))) (by decide +kernel)
theorem k291 : (.fieldLink "BitCopierModel" (13) "BitCopierModel" "heights" "[I" : Cond) ∈ tblG := tg (List.mem_append_right _ (List.mem_of_getElem? (i := 291) (by decide +kernel))) (by decide +kernel)
theorem k292 : (.fieldLink "BitCopierModel" (16) "BitCopierModel" "words" "[I" : Cond) ∈ tblG := tg (List.mem_append_right _ (List.mem_of_getElem? (i := 292) (by decide +kernel))) (by decide +kernel)
theorem k293 : (.fieldLink "BitCopierModel" (19) "BitCopierModel" "before" "[I" : Cond) ∈ tblG := tg (List.mem_append_right _ (List.mem_of_getElem? (i := 293) (by decide +kernel))) (by decide +kernel)
theorem k294 : (.fieldLink "BitCopierModel" (22) "BitCopierModel" "mask" "[I" : Cond) ∈ tblG := tg (List.mem_append_right _ (List.mem_of_getElem? (i := 294) (by decide +kernel))) (by decide +kernel)
theorem k295 : (.fieldLink "BitCopierModel" (69) "BitCopierModel" "target" "I" : Cond) ∈ tblG := tg (List.mem_append_right _ (List.mem_of_getElem? (i := 295) (by decide +kernel))) (by decide +kernel)
theorem k296 : (.fieldLink "BitCopierModel" (25) "BitCopierModel" "source" "I" : Cond) ∈ tblG := tg (List.mem_append_right _ (List.mem_of_getElem? (i := 296) (by decide +kernel))) (by decide +kernel)
theorem k297 : (.fieldLink "BitCopierModel" (29) "BitCopierModel" "pattern" "I" : Cond) ∈ tblG := tg (List.mem_append_right _ (List.mem_of_getElem? (i := 297) (by decide +kernel))) (by decide +kernel)
theorem k298 : (.fieldLink "BitCopierModel" (32) "BitCopierModel" "rule" "I" : Cond) ∈ tblG := tg (List.mem_append_right _ (List.mem_of_getElem? (i := 298) (by decide +kernel))) (by decide +kernel)
theorem k299 : (.fieldLink "BitCopierModel" (35) "BitCopierModel" "numbers" "[I" : Cond) ∈ tblG := tg (List.mem_append_right _ (List.mem_of_getElem? (i := 299) (by decide +kernel))) (by decide +kernel)
theorem k300 : (.laysFinal "BitCopierModel" "BitCopierModel" "widths" "[I" : Cond) ∈ tblG := tg (List.mem_append_right _ (List.mem_of_getElem? (i := 300) (by decide +kernel))) (by decide +kernel)
theorem k301 : (.soleField "BitCopierModel" "widths" : Cond) ∈ tblG := tg (List.mem_append_right _ (List.mem_of_getElem? (i := 301) (by decide +kernel))) (by decide +kernel)
theorem k302 : (.laysFinal "BitCopierModel" "BitCopierModel" "heights" "[I" : Cond) ∈ tblG := tg (List.mem_append_right _ (List.mem_of_getElem? (i := 302) (by decide +kernel))) (by decide +kernel)
theorem k303 : (.soleField "BitCopierModel" "heights" : Cond) ∈ tblG := tg (List.mem_append_right _ (List.mem_of_getElem? (i := 303) (by decide +kernel))) (by decide +kernel)
theorem k304 : (.laysFinal "BitCopierModel" "BitCopierModel" "words" "[I" : Cond) ∈ tblG := tg (List.mem_append_right _ (List.mem_of_getElem? (i := 304) (by decide +kernel))) (by decide +kernel)
theorem k305 : (.soleField "BitCopierModel" "words" : Cond) ∈ tblG := tg (List.mem_append_right _ (List.mem_of_getElem? (i := 305) (by decide +kernel))) (by decide +kernel)
theorem k306 : (.laysFinal "BitCopierModel" "BitCopierModel" "before" "[I" : Cond) ∈ tblG := tg (List.mem_append_right _ (List.mem_of_getElem? (i := 306) (by decide +kernel))) (by decide +kernel)
theorem k307 : (.soleField "BitCopierModel" "before" : Cond) ∈ tblG := tg (List.mem_append_right _ (List.mem_of_getElem? (i := 307) (by decide +kernel))) (by decide +kernel)
theorem k308 : (.laysFinal "BitCopierModel" "BitCopierModel" "mask" "[I" : Cond) ∈ tblG := tg (List.mem_append_right _ (List.mem_of_getElem? (i := 308) (by decide +kernel))) (by decide +kernel)
theorem k309 : (.soleField "BitCopierModel" "mask" : Cond) ∈ tblG := tg (List.mem_append_right _ (List.mem_of_getElem? (i := 309) (by decide +kernel))) (by decide +kernel)
theorem k310 : (.lays "BitCopierModel" "BitCopierModel" "target" "I" : Cond) ∈ tblG := tg (List.mem_append_right _ (List.mem_of_getElem? (i := 310) (by decide +kernel))) (by decide +kernel)
theorem k311 : (.soleField "BitCopierModel" "target" : Cond) ∈ tblG := tg (List.mem_append_right _ (List.mem_of_getElem? (i := 311) (by decide +kernel))) (by decide +kernel)
theorem k312 : (.lays "BitCopierModel" "BitCopierModel" "source" "I" : Cond) ∈ tblG := tg (List.mem_append_right _ (List.mem_of_getElem? (i := 312) (by decide +kernel))) (by decide +kernel)
theorem k313 : (.soleField "BitCopierModel" "source" : Cond) ∈ tblG := tg (List.mem_append_right _ (List.mem_of_getElem? (i := 313) (by decide +kernel))) (by decide +kernel)
theorem k314 : (.lays "BitCopierModel" "BitCopierModel" "pattern" "I" : Cond) ∈ tblG := tg (List.mem_append_right _ (List.mem_of_getElem? (i := 314) (by decide +kernel))) (by decide +kernel)
theorem k315 : (.soleField "BitCopierModel" "pattern" : Cond) ∈ tblG := tg (List.mem_append_right _ (List.mem_of_getElem? (i := 315) (by decide +kernel))) (by decide +kernel)
theorem k316 : (.lays "BitCopierModel" "BitCopierModel" "rule" "I" : Cond) ∈ tblG := tg (List.mem_append_right _ (List.mem_of_getElem? (i := 316) (by decide +kernel))) (by decide +kernel)
theorem k317 : (.soleField "BitCopierModel" "rule" : Cond) ∈ tblG := tg (List.mem_append_right _ (List.mem_of_getElem? (i := 317) (by decide +kernel))) (by decide +kernel)
theorem k318 : (.laysFinal "BitCopierModel" "BitCopierModel" "numbers" "[I" : Cond) ∈ tblG := tg (List.mem_append_right _ (List.mem_of_getElem? (i := 318) (by decide +kernel))) (by decide +kernel)
theorem k319 : (.soleField "BitCopierModel" "numbers" : Cond) ∈ tblG := tg (List.mem_append_right _ (List.mem_of_getElem? (i := 319) (by decide +kernel))) (by decide +kernel)
theorem k320 : (.superclass "BitCopierModel" "java/lang/Object" : Cond) ∈ tblG := tg (List.mem_append_right _ (List.mem_of_getElem? (i := 320) (by decide +kernel))) (by decide +kernel)
theorem k321 : (.methodLink "BitCopierLaw" (17) ⟨"BitCopierModel", "form", "(III)I"⟩ : Cond) ∈ tblG := tg (List.mem_append_right _ (List.mem_of_getElem? (i := 321) (by decide +kernel))) (by decide +kernel)
theorem k322 : (.instanceMethod ⟨"BitCopierModel", "form", "(III)I"⟩ : Cond) ∈ tblG := tg (List.mem_append_right _ (List.mem_of_getElem? (i := 322) (by decide +kernel))) (by decide +kernel)
theorem k323 : (.selects "BitCopierModel" ⟨"BitCopierModel", "form", "(III)I"⟩ ⟨"BitCopierModel", "form", "(III)I"⟩ : Cond) ∈ tblG := tg (List.mem_append_right _ (List.mem_of_getElem? (i := 323) (by decide +kernel))) (by decide +kernel)
theorem k324 : (.code ⟨"BitCopierModel", "form", "(III)I"⟩ prog_5_method_5_code (5) (some .int) : Cond) ∈ tblG := tg (List.mem_append_right _ (List.mem_of_getElem? (i := 324) (by decide +kernel))) (by decide +kernel)
theorem k325 : (.methodLink "BitCopierModel" (38) ⟨"BitCopierModel", "isForm", "(I)Z"⟩ : Cond) ∈ tblG := tg (List.mem_append_right _ (List.mem_of_getElem? (i := 325) (by decide +kernel))) (by decide +kernel)
theorem k326 : (.static ⟨"BitCopierModel", "isForm", "(I)Z"⟩ : Cond) ∈ tblG := tg (List.mem_append_right _ (List.mem_of_getElem? (i := 326) (by decide +kernel))) (by decide +kernel)
theorem k327 : (.code ⟨"BitCopierModel", "isForm", "(I)Z"⟩ prog_5_method_3_code (1) (some .boolean) : Cond) ∈ tblG := tg (List.mem_append_right _ (List.mem_of_getElem? (i := 327) (by decide +kernel))) (by decide +kernel)
theorem k328 : (.constantLong "BitCopierModel" (42) (15) : Cond) ∈ tblG := tg (List.mem_append_right _ (List.mem_of_getElem? (i := 328) (by decide +kernel))) (by decide +kernel)
theorem k329 : (.constantLong "BitCopierModel" (44) (16) : Cond) ∈ tblG := tg (List.mem_append_right _ (List.mem_of_getElem? (i := 329) (by decide +kernel))) (by decide +kernel)
theorem k330 : (.constantLong "BitCopierModel" (46) (4000) : Cond) ∈ tblG := tg (List.mem_append_right _ (List.mem_of_getElem? (i := 330) (by decide +kernel))) (by decide +kernel)
theorem k331 : (.methodLink "BitCopierModel" (48) ⟨"BitCopierModel", "perRow", "(I)I"⟩ : Cond) ∈ tblG := tg (List.mem_append_right _ (List.mem_of_getElem? (i := 331) (by decide +kernel))) (by decide +kernel)
theorem k333 : (.instanceMethod ⟨"BitCopierModel", "perRow", "(I)I"⟩ : Cond) ∈ tblG := tg (List.mem_append_right _ (List.mem_of_getElem? (i := 333) (by decide +kernel))) (by decide +kernel)
theorem k334 : (.code ⟨"BitCopierModel", "perRow", "(I)I"⟩ prog_5_method_4_code (2) (some .int) : Cond) ∈ tblG := tg (List.mem_append_right _ (List.mem_of_getElem? (i := 334) (by decide +kernel))) (by decide +kernel)
theorem k335 : (.methodLink "BitCopierLaw" (22) ⟨"BitCopierModel", "put", "(III)Z"⟩ : Cond) ∈ tblG := tg (List.mem_append_right _ (List.mem_of_getElem? (i := 335) (by decide +kernel))) (by decide +kernel)
theorem k336 : (.instanceMethod ⟨"BitCopierModel", "put", "(III)Z"⟩ : Cond) ∈ tblG := tg (List.mem_append_right _ (List.mem_of_getElem? (i := 336) (by decide +kernel))) (by decide +kernel)
theorem k337 : (.selects "BitCopierModel" ⟨"BitCopierModel", "put", "(III)Z"⟩ ⟨"BitCopierModel", "put", "(III)Z"⟩ : Cond) ∈ tblG := tg (List.mem_append_right _ (List.mem_of_getElem? (i := 337) (by decide +kernel))) (by decide +kernel)
theorem k338 : (.code ⟨"BitCopierModel", "put", "(III)Z"⟩ prog_5_method_7_code (7) (some .boolean) : Cond) ∈ tblG := tg (List.mem_append_right _ (List.mem_of_getElem? (i := 338) (by decide +kernel))) (by decide +kernel)
theorem k339 : (.methodLink "BitCopierModel" (52) ⟨"BitCopierModel", "isWord", "(II)Z"⟩ : Cond) ∈ tblG := tg (List.mem_append_right _ (List.mem_of_getElem? (i := 339) (by decide +kernel))) (by decide +kernel)
theorem k341 : (.instanceMethod ⟨"BitCopierModel", "isWord", "(II)Z"⟩ : Cond) ∈ tblG := tg (List.mem_append_right _ (List.mem_of_getElem? (i := 341) (by decide +kernel))) (by decide +kernel)
theorem k342 : (.code ⟨"BitCopierModel", "isWord", "(II)Z"⟩ prog_5_method_6_code (3) (some .boolean) : Cond) ∈ tblG := tg (List.mem_append_right _ (List.mem_of_getElem? (i := 342) (by decide +kernel))) (by decide +kernel)
theorem k343 : (.constant "BitCopierModel" (56) (65535) : Cond) ∈ tblG := tg (List.mem_append_right _ (List.mem_of_getElem? (i := 343) (by decide +kernel))) (by decide +kernel)
theorem k344 : (.constant "BitCopierModel" (57) (32768) : Cond) ∈ tblG := tg (List.mem_append_right _ (List.mem_of_getElem? (i := 344) (by decide +kernel))) (by decide +kernel)
theorem k345 : (.methodLink "BitCopierLaw" (27) ⟨"BitCopierModel", "word", "(II)I"⟩ : Cond) ∈ tblG := tg (List.mem_append_right _ (List.mem_of_getElem? (i := 345) (by decide +kernel))) (by decide +kernel)
theorem k346 : (.instanceMethod ⟨"BitCopierModel", "word", "(II)I"⟩ : Cond) ∈ tblG := tg (List.mem_append_right _ (List.mem_of_getElem? (i := 346) (by decide +kernel))) (by decide +kernel)
theorem k347 : (.selects "BitCopierModel" ⟨"BitCopierModel", "word", "(II)I"⟩ ⟨"BitCopierModel", "word", "(II)I"⟩ : Cond) ∈ tblG := tg (List.mem_append_right _ (List.mem_of_getElem? (i := 347) (by decide +kernel))) (by decide +kernel)
theorem k348 : (.code ⟨"BitCopierModel", "word", "(II)I"⟩ prog_5_method_8_code (3) (some .int) : Cond) ∈ tblG := tg (List.mem_append_right _ (List.mem_of_getElem? (i := 348) (by decide +kernel))) (by decide +kernel)
theorem k349 : (.methodLink "BitCopierLaw" (31) ⟨"BitCopierModel", "bit", "(III)I"⟩ : Cond) ∈ tblG := tg (List.mem_append_right _ (List.mem_of_getElem? (i := 349) (by decide +kernel))) (by decide +kernel)
theorem k350 : (.instanceMethod ⟨"BitCopierModel", "bit", "(III)I"⟩ : Cond) ∈ tblG := tg (List.mem_append_right _ (List.mem_of_getElem? (i := 350) (by decide +kernel))) (by decide +kernel)
theorem k351 : (.selects "BitCopierModel" ⟨"BitCopierModel", "bit", "(III)I"⟩ ⟨"BitCopierModel", "bit", "(III)I"⟩ : Cond) ∈ tblG := tg (List.mem_append_right _ (List.mem_of_getElem? (i := 351) (by decide +kernel))) (by decide +kernel)
theorem k352 : (.code ⟨"BitCopierModel", "bit", "(III)I"⟩ prog_5_method_11_code (4) (some .int) : Cond) ∈ tblG := tg (List.mem_append_right _ (List.mem_of_getElem? (i := 352) (by decide +kernel))) (by decide +kernel)
theorem k353 : (.methodLink "BitCopierModel" (58) ⟨"BitCopierModel", "isBit", "(IJJ)Z"⟩ : Cond) ∈ tblG := tg (List.mem_append_right _ (List.mem_of_getElem? (i := 353) (by decide +kernel))) (by decide +kernel)
theorem k355 : (.instanceMethod ⟨"BitCopierModel", "isBit", "(IJJ)Z"⟩ : Cond) ∈ tblG := tg (List.mem_append_right _ (List.mem_of_getElem? (i := 355) (by decide +kernel))) (by decide +kernel)
theorem k356 : (.code ⟨"BitCopierModel", "isBit", "(IJJ)Z"⟩ prog_5_method_9_code (6) (some .boolean) : Cond) ∈ tblG := tg (List.mem_append_right _ (List.mem_of_getElem? (i := 356) (by decide +kernel))) (by decide +kernel)
theorem k357 : (.methodLink "BitCopierModel" (62) ⟨"BitCopierModel", "bitAt", "(III)I"⟩ : Cond) ∈ tblG := tg (List.mem_append_right _ (List.mem_of_getElem? (i := 357) (by decide +kernel))) (by decide +kernel)
theorem k359 : (.instanceMethod ⟨"BitCopierModel", "bitAt", "(III)I"⟩ : Cond) ∈ tblG := tg (List.mem_append_right _ (List.mem_of_getElem? (i := 359) (by decide +kernel))) (by decide +kernel)
theorem k360 : (.code ⟨"BitCopierModel", "bitAt", "(III)I"⟩ prog_5_method_10_code (4) (some .int) : Cond) ∈ tblG := tg (List.mem_append_right _ (List.mem_of_getElem? (i := 360) (by decide +kernel))) (by decide +kernel)
theorem k361 : (.methodLink "BitCopierLaw" (36) ⟨"BitCopierModel", "count", "(I)I"⟩ : Cond) ∈ tblG := tg (List.mem_append_right _ (List.mem_of_getElem? (i := 361) (by decide +kernel))) (by decide +kernel)
theorem k362 : (.instanceMethod ⟨"BitCopierModel", "count", "(I)I"⟩ : Cond) ∈ tblG := tg (List.mem_append_right _ (List.mem_of_getElem? (i := 362) (by decide +kernel))) (by decide +kernel)
theorem k363 : (.selects "BitCopierModel" ⟨"BitCopierModel", "count", "(I)I"⟩ ⟨"BitCopierModel", "count", "(I)I"⟩ : Cond) ∈ tblG := tg (List.mem_append_right _ (List.mem_of_getElem? (i := 363) (by decide +kernel))) (by decide +kernel)
theorem k364 : (.code ⟨"BitCopierModel", "count", "(I)I"⟩ prog_5_method_12_code (5) (some .int) : Cond) ∈ tblG := tg (List.mem_append_right _ (List.mem_of_getElem? (i := 364) (by decide +kernel))) (by decide +kernel)
theorem k365 : (.methodLink "BitCopierLaw" (41) ⟨"BitCopierModel", "same", "(II)Z"⟩ : Cond) ∈ tblG := tg (List.mem_append_right _ (List.mem_of_getElem? (i := 365) (by decide +kernel))) (by decide +kernel)
theorem k366 : (.instanceMethod ⟨"BitCopierModel", "same", "(II)Z"⟩ : Cond) ∈ tblG := tg (List.mem_append_right _ (List.mem_of_getElem? (i := 366) (by decide +kernel))) (by decide +kernel)
theorem k367 : (.selects "BitCopierModel" ⟨"BitCopierModel", "same", "(II)Z"⟩ ⟨"BitCopierModel", "same", "(II)Z"⟩ : Cond) ∈ tblG := tg (List.mem_append_right _ (List.mem_of_getElem? (i := 367) (by decide +kernel))) (by decide +kernel)
theorem k368 : (.code ⟨"BitCopierModel", "same", "(II)Z"⟩ prog_5_method_13_code (5) (some .boolean) : Cond) ∈ tblG := tg (List.mem_append_right _ (List.mem_of_getElem? (i := 368) (by decide +kernel))) (by decide +kernel)
theorem k369 : (.methodLink "BitCopierLaw" (45) ⟨"BitCopierModel", "forms", "(III)Z"⟩ : Cond) ∈ tblG := tg (List.mem_append_right _ (List.mem_of_getElem? (i := 369) (by decide +kernel))) (by decide +kernel)
theorem k370 : (.instanceMethod ⟨"BitCopierModel", "forms", "(III)Z"⟩ : Cond) ∈ tblG := tg (List.mem_append_right _ (List.mem_of_getElem? (i := 370) (by decide +kernel))) (by decide +kernel)
theorem k371 : (.selects "BitCopierModel" ⟨"BitCopierModel", "forms", "(III)Z"⟩ ⟨"BitCopierModel", "forms", "(III)Z"⟩ : Cond) ∈ tblG := tg (List.mem_append_right _ (List.mem_of_getElem? (i := 371) (by decide +kernel))) (by decide +kernel)
theorem k372 : (.code ⟨"BitCopierModel", "forms", "(III)Z"⟩ prog_5_method_15_code (4) (some .boolean) : Cond) ∈ tblG := tg (List.mem_append_right _ (List.mem_of_getElem? (i := 372) (by decide +kernel))) (by decide +kernel)
theorem k373 : (.methodLink "BitCopierModel" (66) ⟨"BitCopierModel", "isPattern", "(I)Z"⟩ : Cond) ∈ tblG := tg (List.mem_append_right _ (List.mem_of_getElem? (i := 373) (by decide +kernel))) (by decide +kernel)
theorem k375 : (.instanceMethod ⟨"BitCopierModel", "isPattern", "(I)Z"⟩ : Cond) ∈ tblG := tg (List.mem_append_right _ (List.mem_of_getElem? (i := 375) (by decide +kernel))) (by decide +kernel)
theorem k376 : (.code ⟨"BitCopierModel", "isPattern", "(I)Z"⟩ prog_5_method_14_code (2) (some .boolean) : Cond) ∈ tblG := tg (List.mem_append_right _ (List.mem_of_getElem? (i := 376) (by decide +kernel))) (by decide +kernel)
theorem k377 : (.methodLink "BitCopierLaw" (50) ⟨"BitCopierModel", "rule", "(I)Z"⟩ : Cond) ∈ tblG := tg (List.mem_append_right _ (List.mem_of_getElem? (i := 377) (by decide +kernel))) (by decide +kernel)
theorem k378 : (.instanceMethod ⟨"BitCopierModel", "rule", "(I)Z"⟩ : Cond) ∈ tblG := tg (List.mem_append_right _ (List.mem_of_getElem? (i := 378) (by decide +kernel))) (by decide +kernel)
theorem k379 : (.selects "BitCopierModel" ⟨"BitCopierModel", "rule", "(I)Z"⟩ ⟨"BitCopierModel", "rule", "(I)Z"⟩ : Cond) ∈ tblG := tg (List.mem_append_right _ (List.mem_of_getElem? (i := 379) (by decide +kernel))) (by decide +kernel)
theorem k380 : (.code ⟨"BitCopierModel", "rule", "(I)Z"⟩ prog_5_method_16_code (2) (some .boolean) : Cond) ∈ tblG := tg (List.mem_append_right _ (List.mem_of_getElem? (i := 380) (by decide +kernel))) (by decide +kernel)
theorem k381 : (.methodLink "BitCopierLaw" (54) ⟨"BitCopierModel", "set", "(III)Z"⟩ : Cond) ∈ tblG := tg (List.mem_append_right _ (List.mem_of_getElem? (i := 381) (by decide +kernel))) (by decide +kernel)
theorem k382 : (.instanceMethod ⟨"BitCopierModel", "set", "(III)Z"⟩ : Cond) ∈ tblG := tg (List.mem_append_right _ (List.mem_of_getElem? (i := 382) (by decide +kernel))) (by decide +kernel)
theorem k383 : (.selects "BitCopierModel" ⟨"BitCopierModel", "set", "(III)Z"⟩ ⟨"BitCopierModel", "set", "(III)Z"⟩ : Cond) ∈ tblG := tg (List.mem_append_right _ (List.mem_of_getElem? (i := 383) (by decide +kernel))) (by decide +kernel)
theorem k384 : (.code ⟨"BitCopierModel", "set", "(III)Z"⟩ prog_5_method_18_code (4) (some .boolean) : Cond) ∈ tblG := tg (List.mem_append_right _ (List.mem_of_getElem? (i := 384) (by decide +kernel))) (by decide +kernel)
theorem k385 : (.methodLink "BitCopierModel" (72) ⟨"BitCopierModel", "isNumber", "(I)Z"⟩ : Cond) ∈ tblG := tg (List.mem_append_right _ (List.mem_of_getElem? (i := 385) (by decide +kernel))) (by decide +kernel)
theorem k386 : (.static ⟨"BitCopierModel", "isNumber", "(I)Z"⟩ : Cond) ∈ tblG := tg (List.mem_append_right _ (List.mem_of_getElem? (i := 386) (by decide +kernel))) (by decide +kernel)
theorem k387 : (.code ⟨"BitCopierModel", "isNumber", "(I)Z"⟩ prog_5_method_17_code (1) (some .boolean) : Cond) ∈ tblG := tg (List.mem_append_right _ (List.mem_of_getElem? (i := 387) (by decide +kernel))) (by decide +kernel)
theorem k388 : (.methodLink "BitCopierLaw" (59) ⟨"BitCopierModel", "order", "(IZ)I"⟩ : Cond) ∈ tblG := tg (List.mem_append_right _ (List.mem_of_getElem? (i := 388) (by decide +kernel))) (by decide +kernel)
theorem k389 : (.instanceMethod ⟨"BitCopierModel", "order", "(IZ)I"⟩ : Cond) ∈ tblG := tg (List.mem_append_right _ (List.mem_of_getElem? (i := 389) (by decide +kernel))) (by decide +kernel)
theorem k390 : (.selects "BitCopierModel" ⟨"BitCopierModel", "order", "(IZ)I"⟩ ⟨"BitCopierModel", "order", "(IZ)I"⟩ : Cond) ∈ tblG := tg (List.mem_append_right _ (List.mem_of_getElem? (i := 390) (by decide +kernel))) (by decide +kernel)
theorem k391 : (.code ⟨"BitCopierModel", "order", "(IZ)I"⟩ prog_5_method_19_code (3) (some .int) : Cond) ∈ tblG := tg (List.mem_append_right _ (List.mem_of_getElem? (i := 391) (by decide +kernel))) (by decide +kernel)
theorem k392 : (.methodLink "BitCopierLaw" (64) ⟨"BitCopierModel", "copy", "()I"⟩ : Cond) ∈ tblG := tg (List.mem_append_right _ (List.mem_of_getElem? (i := 392) (by decide +kernel))) (by decide +kernel)
theorem k393 : (.instanceMethod ⟨"BitCopierModel", "copy", "()I"⟩ : Cond) ∈ tblG := tg (List.mem_append_right _ (List.mem_of_getElem? (i := 393) (by decide +kernel))) (by decide +kernel)
theorem k394 : (.selects "BitCopierModel" ⟨"BitCopierModel", "copy", "()I"⟩ ⟨"BitCopierModel", "copy", "()I"⟩ : Cond) ∈ tblG := tg (List.mem_append_right _ (List.mem_of_getElem? (i := 394) (by decide +kernel))) (by decide +kernel)
theorem k395 : (.code ⟨"BitCopierModel", "copy", "()I"⟩ prog_5_method_27_code (1) (some .int) : Cond) ∈ tblG := tg (List.mem_append_right _ (List.mem_of_getElem? (i := 395) (by decide +kernel))) (by decide +kernel)
theorem k396 : (.methodLink "BitCopierModel" (92) ⟨"BitCopierModel", "lacksPattern", "()Z"⟩ : Cond) ∈ tblG := tg (List.mem_append_right _ (List.mem_of_getElem? (i := 396) (by decide +kernel))) (by decide +kernel)
theorem k398 : (.instanceMethod ⟨"BitCopierModel", "lacksPattern", "()Z"⟩ : Cond) ∈ tblG := tg (List.mem_append_right _ (List.mem_of_getElem? (i := 398) (by decide +kernel))) (by decide +kernel)
theorem k399 : (.code ⟨"BitCopierModel", "lacksPattern", "()Z"⟩ prog_5_method_26_code (1) (some .boolean) : Cond) ∈ tblG := tg (List.mem_append_right _ (List.mem_of_getElem? (i := 399) (by decide +kernel))) (by decide +kernel)
theorem k400 : (.methodLink "BitCopierModel" (96) ⟨"BitCopierModel", "copyAll", "()I"⟩ : Cond) ∈ tblG := tg (List.mem_append_right _ (List.mem_of_getElem? (i := 400) (by decide +kernel))) (by decide +kernel)
theorem k402 : (.instanceMethod ⟨"BitCopierModel", "copyAll", "()I"⟩ : Cond) ∈ tblG := tg (List.mem_append_right _ (List.mem_of_getElem? (i := 402) (by decide +kernel))) (by decide +kernel)
theorem k403 : (.code ⟨"BitCopierModel", "copyAll", "()I"⟩ prog_5_method_25_code (8) (some .int) : Cond) ∈ tblG := tg (List.mem_append_right _ (List.mem_of_getElem? (i := 403) (by decide +kernel))) (by decide +kernel)
theorem k404 : (.methodLink "BitCopierModel" (79) ⟨"BitCopierModel", "keep", "()V"⟩ : Cond) ∈ tblG := tg (List.mem_append_right _ (List.mem_of_getElem? (i := 404) (by decide +kernel))) (by decide +kernel)
theorem k406 : (.instanceMethod ⟨"BitCopierModel", "keep", "()V"⟩ : Cond) ∈ tblG := tg (List.mem_append_right _ (List.mem_of_getElem? (i := 406) (by decide +kernel))) (by decide +kernel)
theorem k407 : (.code ⟨"BitCopierModel", "keep", "()V"⟩ prog_5_method_22_code (2) none : Cond) ∈ tblG := tg (List.mem_append_right _ (List.mem_of_getElem? (i := 407) (by decide +kernel))) (by decide +kernel)
theorem k408 : (.methodLink "BitCopierModel" (82) ⟨"BitCopierModel", "greatest", "(III)I"⟩ : Cond) ∈ tblG := tg (List.mem_append_right _ (List.mem_of_getElem? (i := 408) (by decide +kernel))) (by decide +kernel)
theorem k409 : (.static ⟨"BitCopierModel", "greatest", "(III)I"⟩ : Cond) ∈ tblG := tg (List.mem_append_right _ (List.mem_of_getElem? (i := 409) (by decide +kernel))) (by decide +kernel)
theorem k410 : (.code ⟨"BitCopierModel", "greatest", "(III)I"⟩ prog_5_method_20_code (4) (some .int) : Cond) ∈ tblG := tg (List.mem_append_right _ (List.mem_of_getElem? (i := 410) (by decide +kernel))) (by decide +kernel)
theorem k411 : (.methodLink "BitCopierModel" (85) ⟨"BitCopierModel", "least", "(III)I"⟩ : Cond) ∈ tblG := tg (List.mem_append_right _ (List.mem_of_getElem? (i := 411) (by decide +kernel))) (by decide +kernel)
theorem k412 : (.static ⟨"BitCopierModel", "least", "(III)I"⟩ : Cond) ∈ tblG := tg (List.mem_append_right _ (List.mem_of_getElem? (i := 412) (by decide +kernel))) (by decide +kernel)
theorem k413 : (.code ⟨"BitCopierModel", "least", "(III)I"⟩ prog_5_method_21_code (4) (some .int) : Cond) ∈ tblG := tg (List.mem_append_right _ (List.mem_of_getElem? (i := 413) (by decide +kernel))) (by decide +kernel)
theorem k414 : (.methodLink "BitCopierModel" (88) ⟨"BitCopierModel", "copyBit", "(IIII)V"⟩ : Cond) ∈ tblG := tg (List.mem_append_right _ (List.mem_of_getElem? (i := 414) (by decide +kernel))) (by decide +kernel)
theorem k416 : (.instanceMethod ⟨"BitCopierModel", "copyBit", "(IIII)V"⟩ : Cond) ∈ tblG := tg (List.mem_append_right _ (List.mem_of_getElem? (i := 416) (by decide +kernel))) (by decide +kernel)
theorem k417 : (.code ⟨"BitCopierModel", "copyBit", "(IIII)V"⟩ prog_5_method_24_code (10) none : Cond) ∈ tblG := tg (List.mem_append_right _ (List.mem_of_getElem? (i := 417) (by decide +kernel))) (by decide +kernel)
theorem k418 : (.methodLink "BitCopierModel" (75) ⟨"BitCopierModel", "sourceBit", "(II)I"⟩ : Cond) ∈ tblG := tg (List.mem_append_right _ (List.mem_of_getElem? (i := 418) (by decide +kernel))) (by decide +kernel)
theorem k420 : (.instanceMethod ⟨"BitCopierModel", "sourceBit", "(II)I"⟩ : Cond) ∈ tblG := tg (List.mem_append_right _ (List.mem_of_getElem? (i := 420) (by decide +kernel))) (by decide +kernel)
theorem k421 : (.code ⟨"BitCopierModel", "sourceBit", "(II)I"⟩ prog_5_method_23_code (5) (some .int) : Cond) ∈ tblG := tg (List.mem_append_right _ (List.mem_of_getElem? (i := 421) (by decide +kernel))) (by decide +kernel)
theorem k422 : (.methodLink "BitCopierLaw" (68) ⟨"BitCopierModel", "line", "(II)I"⟩ : Cond) ∈ tblG := tg (List.mem_append_right _ (List.mem_of_getElem? (i := 422) (by decide +kernel))) (by decide +kernel)
theorem k423 : (.instanceMethod ⟨"BitCopierModel", "line", "(II)I"⟩ : Cond) ∈ tblG := tg (List.mem_append_right _ (List.mem_of_getElem? (i := 423) (by decide +kernel))) (by decide +kernel)
theorem k424 : (.selects "BitCopierModel" ⟨"BitCopierModel", "line", "(II)I"⟩ ⟨"BitCopierModel", "line", "(II)I"⟩ : Cond) ∈ tblG := tg (List.mem_append_right _ (List.mem_of_getElem? (i := 424) (by decide +kernel))) (by decide +kernel)
theorem k425 : (.code ⟨"BitCopierModel", "line", "(II)I"⟩ prog_5_method_29_code (14) (some .int) : Cond) ∈ tblG := tg (List.mem_append_right _ (List.mem_of_getElem? (i := 425) (by decide +kernel))) (by decide +kernel)
theorem k426 : (.methodLink "BitCopierModel" (100) ⟨"BitCopierModel", "sign", "(I)I"⟩ : Cond) ∈ tblG := tg (List.mem_append_right _ (List.mem_of_getElem? (i := 426) (by decide +kernel))) (by decide +kernel)
theorem k427 : (.static ⟨"BitCopierModel", "sign", "(I)I"⟩ : Cond) ∈ tblG := tg (List.mem_append_right _ (List.mem_of_getElem? (i := 427) (by decide +kernel))) (by decide +kernel)
theorem k428 : (.code ⟨"BitCopierModel", "sign", "(I)I"⟩ prog_5_method_28_code (1) (some .int) : Cond) ∈ tblG := tg (List.mem_append_right _ (List.mem_of_getElem? (i := 428) (by decide +kernel))) (by decide +kernel)
theorem ksel0 : (.selects "BitCopier" ⟨"BitCopier", "formOrNull", "(I)LBitCopier$Form;"⟩ ⟨"BitCopier", "formOrNull", "(I)LBitCopier$Form;"⟩ : Cond) ∈ tblG := tg (List.mem_append_left _ (List.mem_of_getElem? (i := 0) (by decide +kernel))) (by decide +kernel)
theorem ksel1 : (.selects "BitCopier" ⟨"BitCopier", "copyBits", "()I"⟩ ⟨"BitCopier", "copyBits", "()I"⟩ : Cond) ∈ tblG := tg (List.mem_append_left _ (List.mem_of_getElem? (i := 1) (by decide +kernel))) (by decide +kernel)
theorem ksel2 : (.selects "BitCopier" ⟨"BitCopier", "findReach", "(LBitCopier$Reach;I)V"⟩ ⟨"BitCopier", "findReach", "(LBitCopier$Reach;I)V"⟩ : Cond) ∈ tblG := tg (List.mem_append_left _ (List.mem_of_getElem? (i := 2) (by decide +kernel))) (by decide +kernel)
theorem ksel3 : (.selects "BitCopier" ⟨"BitCopier", "copyRow", "(I)V"⟩ ⟨"BitCopier", "copyRow", "(I)V"⟩ : Cond) ∈ tblG := tg (List.mem_append_left _ (List.mem_of_getElem? (i := 3) (by decide +kernel))) (by decide +kernel)
theorem ksel4 : (.selects "BitCopier" ⟨"BitCopier", "incoming", "(II)I"⟩ ⟨"BitCopier", "incoming", "(II)I"⟩ : Cond) ∈ tblG := tg (List.mem_append_left _ (List.mem_of_getElem? (i := 4) (by decide +kernel))) (by decide +kernel)
theorem ksel5 : (.selects "BitCopier$Form" ⟨"BitCopier$Form", "wordInRow", "(II)I"⟩ ⟨"BitCopier$Form", "wordInRow", "(II)I"⟩ : Cond) ∈ tblG := tg (List.mem_append_left _ (List.mem_of_getElem? (i := 5) (by decide +kernel))) (by decide +kernel)
theorem ksel6 : (.selects "BitCopier" ⟨"BitCopier", "byRule", "(II)I"⟩ ⟨"BitCopier", "byRule", "(II)I"⟩ : Cond) ∈ tblG := tg (List.mem_append_left _ (List.mem_of_getElem? (i := 6) (by decide +kernel))) (by decide +kernel)
theorem ksel7 : (.selects "BitCopier" ⟨"BitCopier", "drawAlong", "(III)I"⟩ ⟨"BitCopier", "drawAlong", "(III)I"⟩ : Cond) ∈ tblG := tg (List.mem_append_left _ (List.mem_of_getElem? (i := 7) (by decide +kernel))) (by decide +kernel)
theorem ksel8 : (.selects "BitCopier" ⟨"BitCopier", "moveTo", "(II)Z"⟩ ⟨"BitCopier", "moveTo", "(II)Z"⟩ : Cond) ∈ tblG := tg (List.mem_append_left _ (List.mem_of_getElem? (i := 8) (by decide +kernel))) (by decide +kernel)
theorem ksel9 : (.selects "BitCopierModel" ⟨"BitCopierModel", "perRow", "(I)I"⟩ ⟨"BitCopierModel", "perRow", "(I)I"⟩ : Cond) ∈ tblG := tg (List.mem_append_left _ (List.mem_of_getElem? (i := 9) (by decide +kernel))) (by decide +kernel)
theorem ksel10 : (.selects "BitCopierModel" ⟨"BitCopierModel", "isWord", "(II)Z"⟩ ⟨"BitCopierModel", "isWord", "(II)Z"⟩ : Cond) ∈ tblG := tg (List.mem_append_left _ (List.mem_of_getElem? (i := 10) (by decide +kernel))) (by decide +kernel)
theorem ksel11 : (.selects "BitCopierModel" ⟨"BitCopierModel", "isBit", "(IJJ)Z"⟩ ⟨"BitCopierModel", "isBit", "(IJJ)Z"⟩ : Cond) ∈ tblG := tg (List.mem_append_left _ (List.mem_of_getElem? (i := 11) (by decide +kernel))) (by decide +kernel)
theorem ksel12 : (.selects "BitCopierModel" ⟨"BitCopierModel", "bitAt", "(III)I"⟩ ⟨"BitCopierModel", "bitAt", "(III)I"⟩ : Cond) ∈ tblG := tg (List.mem_append_left _ (List.mem_of_getElem? (i := 12) (by decide +kernel))) (by decide +kernel)
theorem ksel13 : (.selects "BitCopierModel" ⟨"BitCopierModel", "isPattern", "(I)Z"⟩ ⟨"BitCopierModel", "isPattern", "(I)Z"⟩ : Cond) ∈ tblG := tg (List.mem_append_left _ (List.mem_of_getElem? (i := 13) (by decide +kernel))) (by decide +kernel)
theorem ksel14 : (.selects "BitCopierModel" ⟨"BitCopierModel", "lacksPattern", "()Z"⟩ ⟨"BitCopierModel", "lacksPattern", "()Z"⟩ : Cond) ∈ tblG := tg (List.mem_append_left _ (List.mem_of_getElem? (i := 14) (by decide +kernel))) (by decide +kernel)
theorem ksel15 : (.selects "BitCopierModel" ⟨"BitCopierModel", "copyAll", "()I"⟩ ⟨"BitCopierModel", "copyAll", "()I"⟩ : Cond) ∈ tblG := tg (List.mem_append_left _ (List.mem_of_getElem? (i := 15) (by decide +kernel))) (by decide +kernel)
theorem ksel16 : (.selects "BitCopierModel" ⟨"BitCopierModel", "keep", "()V"⟩ ⟨"BitCopierModel", "keep", "()V"⟩ : Cond) ∈ tblG := tg (List.mem_append_left _ (List.mem_of_getElem? (i := 16) (by decide +kernel))) (by decide +kernel)
theorem ksel17 : (.selects "BitCopierModel" ⟨"BitCopierModel", "copyBit", "(IIII)V"⟩ ⟨"BitCopierModel", "copyBit", "(IIII)V"⟩ : Cond) ∈ tblG := tg (List.mem_append_left _ (List.mem_of_getElem? (i := 17) (by decide +kernel))) (by decide +kernel)
theorem ksel18 : (.selects "BitCopierModel" ⟨"BitCopierModel", "sourceBit", "(II)I"⟩ ⟨"BitCopierModel", "sourceBit", "(II)I"⟩ : Cond) ∈ tblG := tg (List.mem_append_left _ (List.mem_of_getElem? (i := 18) (by decide +kernel))) (by decide +kernel)
/-- the nest mates' words, and that of the forms' array: they stand in the state -/
def NS (U : State) : Prop := va_Nw nw24 U ∧ va_Nw nw26 U ∧ va_Nw nw28 U ∧ va_Nw nw30 U ∧ va_Nw nw43 U ∧ va_Nw nw48 U ∧ va_Nw nw50 U ∧ va_Nw nw52 U ∧ va_Nw nw112 U ∧ va_Nw nw129 U ∧ va_AO RX0 U
theorem NS.warm {s U : State} (hW : s.WarmedH U.vm) (h : NS s) : NS U := by
  obtain ⟨h24, h26, h28, h30, h43, h48, h50, h52, h112, h129, ha⟩ := h
  exact ⟨va_Nw.warmF hW h24, va_Nw.warmF hW h26, va_Nw.warmF hW h28, va_Nw.warmF hW h30, va_Nw.warmM hW h43, va_Nw.warmF hW h48, va_Nw.warmF hW h50, va_Nw.warmF hW h52, va_Nw.warmM hW h112, va_Nw.warmM hW h129, va_AO.moved hW.alike ha⟩
theorem NS.same {s U : State} (e : s.vm = U.vm) (h : NS s) : NS U := by
  obtain ⟨h24, h26, h28, h30, h43, h48, h50, h52, h112, h129, ha⟩ := h
  exact ⟨va_Nw.same rfl e h24, va_Nw.same rfl e h26, va_Nw.same rfl e h28, va_Nw.same rfl e h30, va_Nw.same rfl e h43, va_Nw.same rfl e h48, va_Nw.same rfl e h50, va_Nw.same rfl e h52, va_Nw.same rfl e h112, va_Nw.same rfl e h129, va_AO.moved (by rw [e]; exact Vm.Alike.refl U.vm) ha⟩
theorem NS.start {s : State} {a : Array Value} (h : ∀ w ∈ lw_tbl, w.before a s = true) : NS s := ⟨va_Nw.of rfl (h _ kb24), va_Nw.of rfl (h _ kb26), va_Nw.of rfl (h _ kb28), va_Nw.of rfl (h _ kb30), va_Nw.of rfl (h _ kb43), va_Nw.of rfl (h _ kb48), va_Nw.of rfl (h _ kb50), va_Nw.of rfl (h _ kb52), va_Nw.of rfl (h _ kb112), va_Nw.of rfl (h _ kb129), va_AO.of (h _ kb17)⟩
