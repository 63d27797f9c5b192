section
-- ===== PART A: goes FIRST, ahead of the names: the tables' words, and 'selects' of the private methods out of them =====
/-- a private method of a class that the tables say can be made, by its rows of tables_1 -/
def lw_okq (q : MethodName × Nat) : Prop := (q.1.cls ≠ "java/lang/invoke/MethodHandle" ∧ q.1.cls ≠ "java/lang/invoke/VarHandle") ∧ Cond.instantiable q.1.cls q.2 ∈ tables_1 ∧ Cond.privateMethod q.1 ∈ tables_1 ∧ Cond.instanceMethod q.1 ∈ tables_1
theorem lw_p0 : lw_okq (⟨"PathSounder", "tookRefusal", "(IIII)I"⟩, 4) := ⟨⟨by decide +kernel, by decide +kernel⟩, List.mem_of_getElem? (i := 11) (by decide +kernel), List.mem_of_getElem? (i := 252) (by decide +kernel), List.mem_of_getElem? (i := 253) (by decide +kernel)⟩
theorem lw_p1 : lw_okq (⟨"PathSounder", "pairRefusal", "(II)I"⟩, 4) := ⟨⟨by decide +kernel, by decide +kernel⟩, List.mem_of_getElem? (i := 11) (by decide +kernel), List.mem_of_getElem? (i := 256) (by decide +kernel), List.mem_of_getElem? (i := 257) (by decide +kernel)⟩
theorem lw_p2 : lw_okq (⟨"PathSounder$Bounds", "stepFrom", "(I)V"⟩, 2) := ⟨⟨by decide +kernel, by decide +kernel⟩, List.mem_of_getElem? (i := 49) (by decide +kernel), List.mem_of_getElem? (i := 335) (by decide +kernel), List.mem_of_getElem? (i := 336) (by decide +kernel)⟩
theorem lw_p3 : lw_okq (⟨"PathSounder", "imageAt", "(I)LPathSounder$World;"⟩, 4) := ⟨⟨by decide +kernel, by decide +kernel⟩, List.mem_of_getElem? (i := 11) (by decide +kernel), List.mem_of_getElem? (i := 348) (by decide +kernel), List.mem_of_getElem? (i := 349) (by decide +kernel)⟩
theorem lw_p4 : lw_okq (⟨"PathSounder", "linkNumber", "(I)I"⟩, 4) := ⟨⟨by decide +kernel, by decide +kernel⟩, List.mem_of_getElem? (i := 11) (by decide +kernel), List.mem_of_getElem? (i := 388) (by decide +kernel), List.mem_of_getElem? (i := 389) (by decide +kernel)⟩
theorem lw_p5 : lw_okq (⟨"PathSounderModel", "begin", "(I)V"⟩, 4) := ⟨⟨by decide +kernel, by decide +kernel⟩, List.mem_of_getElem? (i := 392) (by decide +kernel), List.mem_of_getElem? (i := 398) (by decide +kernel), List.mem_of_getElem? (i := 399) (by decide +kernel)⟩
theorem lw_p6 : lw_okq (⟨"PathSounderModel", "isLink", "(I)Z"⟩, 4) := ⟨⟨by decide +kernel, by decide +kernel⟩, List.mem_of_getElem? (i := 392) (by decide +kernel), List.mem_of_getElem? (i := 427) (by decide +kernel), List.mem_of_getElem? (i := 428) (by decide +kernel)⟩
theorem lw_p7 : lw_okq (⟨"PathSounderModel", "linkOf", "(II)I"⟩, 4) := ⟨⟨by decide +kernel, by decide +kernel⟩, List.mem_of_getElem? (i := 392) (by decide +kernel), List.mem_of_getElem? (i := 434) (by decide +kernel), List.mem_of_getElem? (i := 435) (by decide +kernel)⟩
theorem lw_p8 : lw_okq (⟨"PathSounderModel", "isNode", "(I)Z"⟩, 4) := ⟨⟨by decide +kernel, by decide +kernel⟩, List.mem_of_getElem? (i := 392) (by decide +kernel), List.mem_of_getElem? (i := 442) (by decide +kernel), List.mem_of_getElem? (i := 443) (by decide +kernel)⟩
theorem lw_p9 : lw_okq (⟨"PathSounderModel", "sendOne", "()Z"⟩, 4) := ⟨⟨by decide +kernel, by decide +kernel⟩, List.mem_of_getElem? (i := 392) (by decide +kernel), List.mem_of_getElem? (i := 461) (by decide +kernel), List.mem_of_getElem? (i := 462) (by decide +kernel)⟩
theorem lw_p10 : lw_okq (⟨"PathSounderModel", "note", "(III)V"⟩, 4) := ⟨⟨by decide +kernel, by decide +kernel⟩, List.mem_of_getElem? (i := 392) (by decide +kernel), List.mem_of_getElem? (i := 465) (by decide +kernel), List.mem_of_getElem? (i := 466) (by decide +kernel)⟩
theorem lw_p11 : lw_okq (⟨"PathSounderModel", "isDropped", "(II)Z"⟩, 4) := ⟨⟨by decide +kernel, by decide +kernel⟩, List.mem_of_getElem? (i := 392) (by decide +kernel), List.mem_of_getElem? (i := 469) (by decide +kernel), List.mem_of_getElem? (i := 470) (by decide +kernel)⟩
theorem lw_p12 : lw_okq (⟨"PathSounderModel", "over", "(III)I"⟩, 4) := ⟨⟨by decide +kernel, by decide +kernel⟩, List.mem_of_getElem? (i := 392) (by decide +kernel), List.mem_of_getElem? (i := 473) (by decide +kernel), List.mem_of_getElem? (i := 474) (by decide +kernel)⟩
theorem lw_p13 : lw_okq (⟨"PathSounderModel", "countOf", "(II)I"⟩, 4) := ⟨⟨by decide +kernel, by decide +kernel⟩, List.mem_of_getElem? (i := 392) (by decide +kernel), List.mem_of_getElem? (i := 484) (by decide +kernel), List.mem_of_getElem? (i := 485) (by decide +kernel)⟩
theorem lw_p14 : lw_okq (⟨"PathSounderModel", "sumOf", "(II)I"⟩, 4) := ⟨⟨by decide +kernel, by decide +kernel⟩, List.mem_of_getElem? (i := 392) (by decide +kernel), List.mem_of_getElem? (i := 488) (by decide +kernel), List.mem_of_getElem? (i := 489) (by decide +kernel)⟩
theorem lw_p15 : lw_okq (⟨"PathSounderModel", "lostOf", "(II)I"⟩, 4) := ⟨⟨by decide +kernel, by decide +kernel⟩, List.mem_of_getElem? (i := 392) (by decide +kernel), List.mem_of_getElem? (i := 496) (by decide +kernel), List.mem_of_getElem? (i := 497) (by decide +kernel)⟩
def lw_privs_1 : List (MethodName × Nat) := [(⟨"PathSounder", "tookRefusal", "(IIII)I"⟩, 4), (⟨"PathSounder", "pairRefusal", "(II)I"⟩, 4), (⟨"PathSounder$Bounds", "stepFrom", "(I)V"⟩, 2), (⟨"PathSounder", "imageAt", "(I)LPathSounder$World;"⟩, 4), (⟨"PathSounder", "linkNumber", "(I)I"⟩, 4), (⟨"PathSounderModel", "begin", "(I)V"⟩, 4), (⟨"PathSounderModel", "isLink", "(I)Z"⟩, 4), (⟨"PathSounderModel", "linkOf", "(II)I"⟩, 4), (⟨"PathSounderModel", "isNode", "(I)Z"⟩, 4), (⟨"PathSounderModel", "sendOne", "()Z"⟩, 4), (⟨"PathSounderModel", "note", "(III)V"⟩, 4), (⟨"PathSounderModel", "isDropped", "(II)Z"⟩, 4), (⟨"PathSounderModel", "over", "(III)I"⟩, 4), (⟨"PathSounderModel", "countOf", "(II)I"⟩, 4), (⟨"PathSounderModel", "sumOf", "(II)I"⟩, 4), (⟨"PathSounderModel", "lostOf", "(II)I"⟩, 4)]
theorem lw_r1 : ∀ q ∈ lw_privs_1, lw_okq q := List.forall_mem_cons.mpr ⟨lw_p0, List.forall_mem_cons.mpr ⟨lw_p1, List.forall_mem_cons.mpr ⟨lw_p2, List.forall_mem_cons.mpr ⟨lw_p3, List.forall_mem_cons.mpr ⟨lw_p4, List.forall_mem_cons.mpr ⟨lw_p5, List.forall_mem_cons.mpr ⟨lw_p6, List.forall_mem_cons.mpr ⟨lw_p7, List.forall_mem_cons.mpr ⟨lw_p8, List.forall_mem_cons.mpr ⟨lw_p9, List.forall_mem_cons.mpr ⟨lw_p10, List.forall_mem_cons.mpr ⟨lw_p11, List.forall_mem_cons.mpr ⟨lw_p12, List.forall_mem_cons.mpr ⟨lw_p13, List.forall_mem_cons.mpr ⟨lw_p14, List.forall_mem_cons.mpr ⟨lw_p15, fun _ h => absurd h List.not_mem_nil⟩⟩⟩⟩⟩⟩⟩⟩⟩⟩⟩⟩⟩⟩⟩⟩
theorem lw_p16 : lw_okq (⟨"PathSounderModel", "isTaken", "(III)Z"⟩, 4) := ⟨⟨by decide +kernel, by decide +kernel⟩, List.mem_of_getElem? (i := 392) (by decide +kernel), List.mem_of_getElem? (i := 504) (by decide +kernel), List.mem_of_getElem? (i := 505) (by decide +kernel)⟩
theorem lw_p17 : lw_okq (⟨"PathSounderModel", "lostInBlock", "(I)I"⟩, 4) := ⟨⟨by decide +kernel, by decide +kernel⟩, List.mem_of_getElem? (i := 392) (by decide +kernel), List.mem_of_getElem? (i := 519) (by decide +kernel), List.mem_of_getElem? (i := 520) (by decide +kernel)⟩
theorem lw_p18 : lw_okq (⟨"PathSounderModel", "firstLink", "(I)I"⟩, 4) := ⟨⟨by decide +kernel, by decide +kernel⟩, List.mem_of_getElem? (i := 392) (by decide +kernel), List.mem_of_getElem? (i := 523) (by decide +kernel), List.mem_of_getElem? (i := 524) (by decide +kernel)⟩
theorem lw_p19 : lw_okq (⟨"PathSounderModel", "layLeast", "()V"⟩, 4) := ⟨⟨by decide +kernel, by decide +kernel⟩, List.mem_of_getElem? (i := 392) (by decide +kernel), List.mem_of_getElem? (i := 540) (by decide +kernel), List.mem_of_getElem? (i := 541) (by decide +kernel)⟩
theorem lw_p20 : lw_okq (⟨"PathSounderModel", "blocksSent", "()I"⟩, 4) := ⟨⟨by decide +kernel, by decide +kernel⟩, List.mem_of_getElem? (i := 392) (by decide +kernel), List.mem_of_getElem? (i := 561) (by decide +kernel), List.mem_of_getElem? (i := 562) (by decide +kernel)⟩
theorem lw_p21 : lw_okq (⟨"PathSounderModel", "pairs", "()I"⟩, 4) := ⟨⟨by decide +kernel, by decide +kernel⟩, List.mem_of_getElem? (i := 392) (by decide +kernel), List.mem_of_getElem? (i := 565) (by decide +kernel), List.mem_of_getElem? (i := 566) (by decide +kernel)⟩
def lw_privs_2 : List (MethodName × Nat) := [(⟨"PathSounderModel", "isTaken", "(III)Z"⟩, 4), (⟨"PathSounderModel", "lostInBlock", "(I)I"⟩, 4), (⟨"PathSounderModel", "firstLink", "(I)I"⟩, 4), (⟨"PathSounderModel", "layLeast", "()V"⟩, 4), (⟨"PathSounderModel", "blocksSent", "()I"⟩, 4), (⟨"PathSounderModel", "pairs", "()I"⟩, 4)]
theorem lw_r2 : ∀ q ∈ lw_privs_2, lw_okq q := List.forall_mem_cons.mpr ⟨lw_p16, List.forall_mem_cons.mpr ⟨lw_p17, List.forall_mem_cons.mpr ⟨lw_p18, List.forall_mem_cons.mpr ⟨lw_p19, List.forall_mem_cons.mpr ⟨lw_p20, List.forall_mem_cons.mpr ⟨lw_p21, fun _ h => absurd h List.not_mem_nil⟩⟩⟩⟩⟩⟩
def lw_privs : List (MethodName × Nat) := lw_privs_1 ++ (lw_privs_2)
def lw_tbl : List Cond := k2_sels lw_privs ++ tables_1
theorem lw_privs_ok : ∀ q ∈ lw_privs, lw_okq q := by
  show ∀ q ∈ lw_privs_1 ++ (lw_privs_2), lw_okq q
  exact List.forall_mem_append.mpr ⟨lw_r1, lw_r2⟩
end
section
/-! ===== BEGIN words of one list among another's, by their places ===== -/
theorem goodIn_r {big : List Cond} (ws : List Cond) (ps : List Nat) (hp : ws = ps.filterMap (fun i => big[i]?)) (h : ws.all goodWord = true) : GoodIn big ws := by
  intro w hw
  have h1 := List.all_eq_true.mp h w hw
  rw [hp] at hw
  obtain ⟨i, -, hi⟩ := List.mem_filterMap.mp hw
  have hm : w ∈ big := by first | exact List.mem_of_getElem? hi | exact List.getElem?_mem hi
  exact ⟨hm, good_of_word h1⟩
theorem goodIn_app {big a b : List Cond} (ha : GoodIn big a) (hb : GoodIn big b) : GoodIn big (a ++ b) := fun w h => (List.mem_append.mp h).elim (ha w) (hb w)
theorem goodIn_ca {big a b : List Cond} {c : Cond} (ha : GoodIn big (c :: a)) (hb : GoodIn big b) : GoodIn big (c :: (a ++ b)) := fun w h => (List.mem_cons.mp h).elim (fun e => ha w (List.mem_cons.mpr (Or.inl e))) (fun h => (List.mem_append.mp h).elim (fun h => ha w (List.mem_cons.mpr (Or.inr h))) (hb w))
theorem goodIn_sub {big ws : List Cond} (hm : ∀ w ∈ ws, w ∈ big) (h : ws.all goodWord = true) : GoodIn big ws := fun w hw => ⟨hm w hw, good_of_word (List.all_eq_true.mp h w hw)⟩
/-! ===== END ===== -/

/-! ===== BEGIN printed: names, fields, word lists, decode rows ===== -/
def RX0 : String := "PathSounder$Bounds"
def TX0 : u_T := fun k => match k with
  | 0 => ("PathSounder$Bounds", "most", "[I", true)
  | _ => ("PathSounder$Bounds", "reach", "[I", true)
def tyX0 : Nat → FieldType := fun k => match k with
  | 0 => .array .int
  | _ => .array .int
abbrev wsX00 : List Cond := u_ws RX0 TX0 2
theorem nmX0 : ∀ a, a < 2 → ∀ b, b < 2 → a ≠ b → (TX0 a).2.1 ≠ (TX0 b).2.1 := by decide +kernel
theorem tyX0_ok : ∀ k, k < 2 → parseFieldDescriptor (TX0 k).2.2.1 = some (tyX0 k) := by decide +kernel
abbrev cX0_init : ByteArray := prog_2_method_1_code
def yX0_init : MethodName := ⟨RX0, "<init>", "()V"⟩
abbrev cX0_begin : ByteArray := prog_2_method_2_code
def yX0_begin : MethodName := ⟨RX0, "begin", "()V"⟩
abbrev cX0_copyFrom : ByteArray := prog_2_method_3_code
def yX0_copyFrom : MethodName := ⟨RX0, "copyFrom", "(LPathSounder$Bounds;)V"⟩
abbrev cX0_cell : ByteArray := prog_2_method_4_code
def yX0_cell : MethodName := ⟨RX0, "cell", "(II)I"⟩
abbrev cX0_forget : ByteArray := prog_2_method_5_code
def yX0_forget : MethodName := ⟨RX0, "forget", "(I)V"⟩
abbrev cX0_narrow : ByteArray := prog_2_method_6_code
def yX0_narrow : MethodName := ⟨RX0, "narrow", "(IIII)V"⟩
abbrev cX0_hasBoth : ByteArray := prog_2_method_7_code
def yX0_hasBoth : MethodName := ⟨RX0, "hasBoth", "(II)Z"⟩
abbrev cX0_high : ByteArray := prog_2_method_8_code
def yX0_high : MethodName := ⟨RX0, "high", "(II)I"⟩
abbrev cX0_low : ByteArray := prog_2_method_9_code
def yX0_low : MethodName := ⟨RX0, "low", "(II)I"⟩
abbrev cX0_pairs : ByteArray := prog_2_method_10_code
def yX0_pairs : MethodName := ⟨RX0, "pairs", "()I"⟩
abbrev cX0_tightest : ByteArray := prog_2_method_11_code
def yX0_tightest : MethodName := ⟨RX0, "tightest", "(II)I"⟩
abbrev cX0_stepFrom : ByteArray := prog_2_method_12_code
def yX0_stepFrom : MethodName := ⟨RX0, "stepFrom", "(I)V"⟩
def RX1 : String := "PathSounder$Links"
def TX1 : u_T := fun k => match k with
  | _ => ("PathSounder$Links", "numbers", "[I", true)
def tyX1 : Nat → FieldType := fun k => match k with
  | _ => .array .int
abbrev wsX10 : List Cond := u_ws RX1 TX1 1
theorem nmX1 : ∀ a, a < 1 → ∀ b, b < 1 → a ≠ b → (TX1 a).2.1 ≠ (TX1 b).2.1 := by decide +kernel
theorem tyX1_ok : ∀ k, k < 1 → parseFieldDescriptor (TX1 k).2.2.1 = some (tyX1 k) := by decide +kernel
abbrev cX1_init : ByteArray := prog_3_method_1_code
def yX1_init : MethodName := ⟨RX1, "<init>", "()V"⟩
abbrev cX1_begin : ByteArray := prog_3_method_2_code
def yX1_begin : MethodName := ⟨RX1, "begin", "()V"⟩
abbrev cX1_copyFrom : ByteArray := prog_3_method_3_code
def yX1_copyFrom : MethodName := ⟨RX1, "copyFrom", "(LPathSounder$Links;)V"⟩
abbrev cX1_read : ByteArray := prog_3_method_4_code
def yX1_read : MethodName := ⟨RX1, "read", "(II)I"⟩
abbrev cX1_write : ByteArray := prog_3_method_5_code
def yX1_write : MethodName := ⟨RX1, "write", "(III)V"⟩
abbrev cX1_ticksThere : ByteArray := prog_3_method_6_code
def yX1_ticksThere : MethodName := ⟨RX1, "ticksThere", "(II)I"⟩
abbrev cX1_ticksBack : ByteArray := prog_3_method_7_code
def yX1_ticksBack : MethodName := ⟨RX1, "ticksBack", "(II)I"⟩
abbrev cX1_drops : ByteArray := prog_3_method_8_code
def yX1_drops : MethodName := ⟨RX1, "drops", "(II)Z"⟩
def RX2 : String := "PathSounder$Tally"
def TX2 : u_T := fun k => match k with
  | 0 => ("PathSounder$Tally", "counts", "[I", true)
  | _ => ("PathSounder$Tally", "sums", "[I", true)
def tyX2 : Nat → FieldType := fun k => match k with
  | 0 => .array .int
  | _ => .array .int
abbrev wsX20 : List Cond := u_ws RX2 TX2 2
theorem nmX2 : ∀ a, a < 2 → ∀ b, b < 2 → a ≠ b → (TX2 a).2.1 ≠ (TX2 b).2.1 := by decide +kernel
theorem tyX2_ok : ∀ k, k < 2 → parseFieldDescriptor (TX2 k).2.2.1 = some (tyX2 k) := by decide +kernel
abbrev cX2_init : ByteArray := prog_4_method_1_code
def yX2_init : MethodName := ⟨RX2, "<init>", "()V"⟩
abbrev cX2_begin : ByteArray := prog_4_method_2_code
def yX2_begin : MethodName := ⟨RX2, "begin", "()V"⟩
abbrev cX2_copyFrom : ByteArray := prog_4_method_3_code
def yX2_copyFrom : MethodName := ⟨RX2, "copyFrom", "(LPathSounder$Tally;)V"⟩
abbrev cX2_cell : ByteArray := prog_4_method_4_code
def yX2_cell : MethodName := ⟨RX2, "cell", "(II)I"⟩
abbrev cX2_add : ByteArray := prog_4_method_5_code
def yX2_add : MethodName := ⟨RX2, "add", "(III)V"⟩
abbrev cX2_countOf : ByteArray := prog_4_method_6_code
def yX2_countOf : MethodName := ⟨RX2, "countOf", "(II)I"⟩
abbrev cX2_sumOf : ByteArray := prog_4_method_7_code
def yX2_sumOf : MethodName := ⟨RX2, "sumOf", "(II)I"⟩
abbrev cX2_lostBetween : ByteArray := prog_4_method_8_code
def yX2_lostBetween : MethodName := ⟨RX2, "lostBetween", "(III)I"⟩
abbrev cX2_lostOfAll : ByteArray := prog_4_method_9_code
def yX2_lostOfAll : MethodName := ⟨RX2, "lostOfAll", "(I)I"⟩
abbrev cX2_hasTook : ByteArray := prog_4_method_10_code
def yX2_hasTook : MethodName := ⟨RX2, "hasTook", "(III)Z"⟩
abbrev cX2_tookUpper : ByteArray := prog_4_method_11_code
def yX2_tookUpper : MethodName := ⟨RX2, "tookUpper", "(III)I"⟩
abbrev cX2_blocksSent : ByteArray := prog_4_method_12_code
def yX2_blocksSent : MethodName := ⟨RX2, "blocksSent", "()I"⟩
def RX3 : String := "PathSounder$World"
def TX3 : u_T := fun k => match k with
  | 0 => ("PathSounder$World", "many", "I", false)
  | 1 => ("PathSounder$World", "time", "I", false)
  | 2 => ("PathSounder$World", "sent", "I", false)
  | 3 => ("PathSounder$World", "block", "I", false)
  | 4 => ("PathSounder$World", "clocks", "[I", true)
  | 5 => ("PathSounder$World", "links", "LPathSounder$Links;", true)
  | 6 => ("PathSounder$World", "tally", "LPathSounder$Tally;", true)
  | _ => ("PathSounder$World", "bounds", "LPathSounder$Bounds;", true)
def tyX3 : Nat → FieldType := fun k => match k with
  | 0 => .int
  | 1 => .int
  | 2 => .int
  | 3 => .int
  | 4 => .array .int
  | 5 => .object "PathSounder$Links"
  | 6 => .object "PathSounder$Tally"
  | _ => .object "PathSounder$Bounds"
abbrev wsX30 : List Cond := u_ws RX3 TX3 8
theorem nmX3 : ∀ a, a < 8 → ∀ b, b < 8 → a ≠ b → (TX3 a).2.1 ≠ (TX3 b).2.1 := by decide +kernel
theorem tyX3_ok : ∀ k, k < 8 → parseFieldDescriptor (TX3 k).2.2.1 = some (tyX3 k) := by decide +kernel
abbrev cX3_init : ByteArray := prog_5_method_1_code
def yX3_init : MethodName := ⟨RX3, "<init>", "()V"⟩
abbrev cX3_begin : ByteArray := prog_5_method_2_code
def yX3_begin : MethodName := ⟨RX3, "begin", "(I)V"⟩
abbrev cX3_copyFrom : ByteArray := prog_5_method_3_code
def yX3_copyFrom : MethodName := ⟨RX3, "copyFrom", "(LPathSounder$World;)V"⟩
abbrev cX3_hasNode : ByteArray := prog_5_method_4_code
def yX3_hasNode : MethodName := ⟨RX3, "hasNode", "(I)Z"⟩
abbrev cX3_hasLink : ByteArray := prog_5_method_5_code
def yX3_hasLink : MethodName := ⟨RX3, "hasLink", "(I)Z"⟩
abbrev cX3_sendPacket : ByteArray := prog_5_method_6_code
def yX3_sendPacket : MethodName := ⟨RX3, "sendPacket", "()Z"⟩
abbrev cX3_soundPath : ByteArray := prog_5_method_7_code
def yX3_soundPath : MethodName := ⟨RX3, "soundPath", "(II)I"⟩
abbrev cX3_firstBlockAbove : ByteArray := prog_5_method_8_code
def yX3_firstBlockAbove : MethodName := ⟨RX3, "firstBlockAbove", "(I)I"⟩
abbrev cX3_firstLinkThatLost : ByteArray := prog_5_method_9_code
def yX3_firstLinkThatLost : MethodName := ⟨RX3, "firstLinkThatLost", "(I)I"⟩
def RX4 : String := "PathSounder"
def TX4 : u_T := fun k => match k with
  | 0 => ("PathSounder", "now", "LPathSounder$World;", true)
  | 1 => ("PathSounder", "image0", "LPathSounder$World;", true)
  | 2 => ("PathSounder", "image1", "LPathSounder$World;", true)
  | _ => ("PathSounder", "imagesKept", "I", false)
def tyX4 : Nat → FieldType := fun k => match k with
  | 0 => .object "PathSounder$World"
  | 1 => .object "PathSounder$World"
  | 2 => .object "PathSounder$World"
  | _ => .int
abbrev wsX40 : List Cond := u_ws RX4 TX4 4
theorem nmX4 : ∀ a, a < 4 → ∀ b, b < 4 → a ≠ b → (TX4 a).2.1 ≠ (TX4 b).2.1 := by decide +kernel
theorem tyX4_ok : ∀ k, k < 4 → parseFieldDescriptor (TX4 k).2.2.1 = some (tyX4 k) := by decide +kernel
abbrev cX4_init : ByteArray := prog_1_method_1_code
def yX4_init : MethodName := ⟨RX4, "<init>", "()V"⟩
abbrev cX4_nodes : ByteArray := prog_1_method_2_code
def yX4_nodes : MethodName := ⟨RX4, "nodes", "(I)I"⟩
abbrev cX4_link : ByteArray := prog_1_method_3_code
def yX4_link : MethodName := ⟨RX4, "link", "(III)I"⟩
abbrev cX4_clock : ByteArray := prog_1_method_4_code
def yX4_clock : MethodName := ⟨RX4, "clock", "(II)I"⟩
abbrev cX4_block : ByteArray := prog_1_method_5_code
def yX4_block : MethodName := ⟨RX4, "block", "(I)I"⟩
abbrev cX4_pause : ByteArray := prog_1_method_6_code
def yX4_pause : MethodName := ⟨RX4, "pause", "(I)I"⟩
abbrev cX4_send : ByteArray := prog_1_method_7_code
def yX4_send : MethodName := ⟨RX4, "send", "(I)I"⟩
abbrev cX4_kept : ByteArray := prog_1_method_8_code
def yX4_kept : MethodName := ⟨RX4, "kept", "(III)I"⟩
abbrev cX4_lost : ByteArray := prog_1_method_9_code
def yX4_lost : MethodName := ⟨RX4, "lost", "(II)I"⟩
abbrev cX4_took : ByteArray := prog_1_method_10_code
def yX4_took : MethodName := ⟨RX4, "took", "(IIII)I"⟩
abbrev cX4_first : ByteArray := prog_1_method_11_code
def yX4_first : MethodName := ⟨RX4, "first", "(II)I"⟩
abbrev cX4_sound : ByteArray := prog_1_method_12_code
def yX4_sound : MethodName := ⟨RX4, "sound", "(II)I"⟩
abbrev cX4_apart : ByteArray := prog_1_method_13_code
def yX4_apart : MethodName := ⟨RX4, "apart", "(III)I"⟩
abbrev cX4_tight : ByteArray := prog_1_method_14_code
def yX4_tight : MethodName := ⟨RX4, "tight", "(II)I"⟩
abbrev cX4_truth : ByteArray := prog_1_method_15_code
def yX4_truth : MethodName := ⟨RX4, "truth", "(IIIII)I"⟩
abbrev cX4_image : ByteArray := prog_1_method_16_code
def yX4_image : MethodName := ⟨RX4, "image", "(I)I"⟩
abbrev cX4_restore : ByteArray := prog_1_method_17_code
def yX4_restore : MethodName := ⟨RX4, "restore", "(I)I"⟩
abbrev cX4_count : ByteArray := prog_1_method_18_code
def yX4_count : MethodName := ⟨RX4, "count", "(I)I"⟩
abbrev cX4_linkNumber : ByteArray := prog_1_method_19_code
def yX4_linkNumber : MethodName := ⟨RX4, "linkNumber", "(I)I"⟩
abbrev cX4_imageAt : ByteArray := prog_1_method_20_code
def yX4_imageAt : MethodName := ⟨RX4, "imageAt", "(I)LPathSounder$World;"⟩
abbrev cX4_pairRefusal : ByteArray := prog_1_method_21_code
def yX4_pairRefusal : MethodName := ⟨RX4, "pairRefusal", "(II)I"⟩
abbrev cX4_tookRefusal : ByteArray := prog_1_method_22_code
def yX4_tookRefusal : MethodName := ⟨RX4, "tookRefusal", "(IIII)I"⟩
abbrev cX4_isBlock : ByteArray := prog_1_method_23_code
def yX4_isBlock : MethodName := ⟨RX4, "isBlock", "(I)Z"⟩
abbrev cX4_within : ByteArray := prog_1_method_24_code
def yX4_within : MethodName := ⟨RX4, "within", "(III)Z"⟩
abbrev cX4_fractionPart : ByteArray := prog_1_method_25_code
def yX4_fractionPart : MethodName := ⟨RX4, "fractionPart", "(III)I"⟩
abbrev cX4_greatestDivisor : ByteArray := prog_1_method_26_code
def yX4_greatestDivisor : MethodName := ⟨RX4, "greatestDivisor", "(II)I"⟩
abbrev cX4_quotient : ByteArray := prog_1_method_27_code
def yX4_quotient : MethodName := ⟨RX4, "quotient", "(II)I"⟩
abbrev cX4_leftOver : ByteArray := prog_1_method_28_code
def yX4_leftOver : MethodName := ⟨RX4, "leftOver", "(II)I"⟩
def RX5 : String := "PathSounderModel"
def TX5 : u_T := fun k => match k with
  | 0 => ("PathSounderModel", "state", "[I", true)
  | 1 => ("PathSounderModel", "images", "[I", true)
  | 2 => ("PathSounderModel", "isKept", "[Z", true)
  | _ => ("PathSounderModel", "least", "[I", true)
def tyX5 : Nat → FieldType := fun k => match k with
  | 0 => .array .int
  | 1 => .array .int
  | 2 => .array .boolean
  | _ => .array .int
abbrev wsX50 : List Cond := u_ws RX5 TX5 4
theorem nmX5 : ∀ a, a < 4 → ∀ b, b < 4 → a ≠ b → (TX5 a).2.1 ≠ (TX5 b).2.1 := by decide +kernel
theorem tyX5_ok : ∀ k, k < 4 → parseFieldDescriptor (TX5 k).2.2.1 = some (tyX5 k) := by decide +kernel
abbrev cX5_init : ByteArray := prog_7_method_1_code
def yX5_init : MethodName := ⟨RX5, "<init>", "()V"⟩
abbrev cX5_begin : ByteArray := prog_7_method_2_code
def yX5_begin : MethodName := ⟨RX5, "begin", "(I)V"⟩
abbrev cX5_in : ByteArray := prog_7_method_3_code
def yX5_in : MethodName := ⟨RX5, "in", "(III)Z"⟩
abbrev cX5_isNode : ByteArray := prog_7_method_4_code
def yX5_isNode : MethodName := ⟨RX5, "isNode", "(I)Z"⟩
abbrev cX5_isLink : ByteArray := prog_7_method_5_code
def yX5_isLink : MethodName := ⟨RX5, "isLink", "(I)Z"⟩
abbrev cX5_isBlock : ByteArray := prog_7_method_6_code
def yX5_isBlock : MethodName := ⟨RX5, "isBlock", "(I)Z"⟩
abbrev cX5_linkOf : ByteArray := prog_7_method_7_code
def yX5_linkOf : MethodName := ⟨RX5, "linkOf", "(II)I"⟩
abbrev cX5_nodes : ByteArray := prog_7_method_8_code
def yX5_nodes : MethodName := ⟨RX5, "nodes", "(I)I"⟩
abbrev cX5_canBe : ByteArray := prog_7_method_9_code
def yX5_canBe : MethodName := ⟨RX5, "canBe", "(II)Z"⟩
abbrev cX5_link : ByteArray := prog_7_method_10_code
def yX5_link : MethodName := ⟨RX5, "link", "(III)I"⟩
abbrev cX5_clock : ByteArray := prog_7_method_11_code
def yX5_clock : MethodName := ⟨RX5, "clock", "(II)I"⟩
abbrev cX5_block : ByteArray := prog_7_method_12_code
def yX5_block : MethodName := ⟨RX5, "block", "(I)I"⟩
abbrev cX5_pause : ByteArray := prog_7_method_13_code
def yX5_pause : MethodName := ⟨RX5, "pause", "(I)I"⟩
abbrev cX5_over : ByteArray := prog_7_method_14_code
def yX5_over : MethodName := ⟨RX5, "over", "(III)I"⟩
abbrev cX5_isDropped : ByteArray := prog_7_method_15_code
def yX5_isDropped : MethodName := ⟨RX5, "isDropped", "(II)Z"⟩
abbrev cX5_note : ByteArray := prog_7_method_16_code
def yX5_note : MethodName := ⟨RX5, "note", "(III)V"⟩
abbrev cX5_sendOne : ByteArray := prog_7_method_17_code
def yX5_sendOne : MethodName := ⟨RX5, "sendOne", "()Z"⟩
abbrev cX5_send : ByteArray := prog_7_method_18_code
def yX5_send : MethodName := ⟨RX5, "send", "(I)I"⟩
abbrev cX5_countOf : ByteArray := prog_7_method_19_code
def yX5_countOf : MethodName := ⟨RX5, "countOf", "(II)I"⟩
abbrev cX5_sumOf : ByteArray := prog_7_method_20_code
def yX5_sumOf : MethodName := ⟨RX5, "sumOf", "(II)I"⟩
abbrev cX5_kept : ByteArray := prog_7_method_21_code
def yX5_kept : MethodName := ⟨RX5, "kept", "(III)I"⟩
abbrev cX5_lostOf : ByteArray := prog_7_method_22_code
def yX5_lostOf : MethodName := ⟨RX5, "lostOf", "(II)I"⟩
abbrev cX5_lost : ByteArray := prog_7_method_23_code
def yX5_lost : MethodName := ⟨RX5, "lost", "(II)I"⟩
abbrev cX5_common : ByteArray := prog_7_method_24_code
def yX5_common : MethodName := ⟨RX5, "common", "(II)I"⟩
abbrev cX5_told : ByteArray := prog_7_method_25_code
def yX5_told : MethodName := ⟨RX5, "told", "(III)I"⟩
abbrev cX5_isTaken : ByteArray := prog_7_method_26_code
def yX5_isTaken : MethodName := ⟨RX5, "isTaken", "(III)Z"⟩
abbrev cX5_took : ByteArray := prog_7_method_27_code
def yX5_took : MethodName := ⟨RX5, "took", "(IIII)I"⟩
abbrev cX5_lostInBlock : ByteArray := prog_7_method_28_code
def yX5_lostInBlock : MethodName := ⟨RX5, "lostInBlock", "(I)I"⟩
abbrev cX5_firstLink : ByteArray := prog_7_method_29_code
def yX5_firstLink : MethodName := ⟨RX5, "firstLink", "(I)I"⟩
abbrev cX5_first : ByteArray := prog_7_method_30_code
def yX5_first : MethodName := ⟨RX5, "first", "(II)I"⟩
abbrev cX5_sound : ByteArray := prog_7_method_31_code
def yX5_sound : MethodName := ⟨RX5, "sound", "(II)I"⟩
abbrev cX5_apart : ByteArray := prog_7_method_32_code
def yX5_apart : MethodName := ⟨RX5, "apart", "(III)I"⟩
abbrev cX5_layLeast : ByteArray := prog_7_method_33_code
def yX5_layLeast : MethodName := ⟨RX5, "layLeast", "()V"⟩
abbrev cX5_tight : ByteArray := prog_7_method_34_code
def yX5_tight : MethodName := ⟨RX5, "tight", "(II)I"⟩
abbrev cX5_truth : ByteArray := prog_7_method_35_code
def yX5_truth : MethodName := ⟨RX5, "truth", "(IIIII)I"⟩
abbrev cX5_image : ByteArray := prog_7_method_36_code
def yX5_image : MethodName := ⟨RX5, "image", "(I)I"⟩
abbrev cX5_restore : ByteArray := prog_7_method_37_code
def yX5_restore : MethodName := ⟨RX5, "restore", "(I)I"⟩
abbrev cX5_blocksSent : ByteArray := prog_7_method_38_code
def yX5_blocksSent : MethodName := ⟨RX5, "blocksSent", "()I"⟩
abbrev cX5_pairs : ByteArray := prog_7_method_39_code
def yX5_pairs : MethodName := ⟨RX5, "pairs", "()I"⟩
abbrev cX5_count : ByteArray := prog_7_method_40_code
def yX5_count : MethodName := ⟨RX5, "count", "(I)I"⟩
def RJ9 : String := "java/lang/Math"
def TJ9 : u_T := fun k => match k with
  | _ => ("", "", "", false)
def tyJ9 : Nat → FieldType := fun k => match k with
  | _ => .int
abbrev wsJ90 : List Cond := u_ws RJ9 TJ9 0
theorem nmJ9 : ∀ a, a < 0 → ∀ b, b < 0 → a ≠ b → (TJ9 a).2.1 ≠ (TJ9 b).2.1 := by decide +kernel
theorem tyJ9_ok : ∀ k, k < 0 → parseFieldDescriptor (TJ9 k).2.2.1 = some (tyJ9 k) := by decide +kernel
abbrev cJ9_min_7cf53 : ByteArray := prog_8_method_69_code
def yJ9_min_7cf53 : MethodName := ⟨RJ9, "min", "(II)I"⟩
def RJ10 : String := "java/lang/System"
def TJ10 : u_T := fun k => match k with
  | _ => ("", "", "", false)
def tyJ10 : Nat → FieldType := fun k => match k with
  | _ => .int
abbrev wsJ100 : List Cond := u_ws RJ10 TJ10 0
theorem nmJ10 : ∀ a, a < 0 → ∀ b, b < 0 → a ≠ b → (TJ10 a).2.1 ≠ (TJ10 b).2.1 := by decide +kernel
theorem tyJ10_ok : ∀ k, k < 0 → parseFieldDescriptor (TJ10 k).2.2.1 = some (tyJ10 k) := by decide +kernel
def RJ7 : String := "java/util/Arrays"
def TJ7 : u_T := fun k => match k with
  | _ => ("", "", "", false)
def tyJ7 : Nat → FieldType := fun k => match k with
  | _ => .int
abbrev wsJ70 : List Cond := u_ws RJ7 TJ7 0
theorem nmJ7 : ∀ a, a < 0 → ∀ b, b < 0 → a ≠ b → (TJ7 a).2.1 ≠ (TJ7 b).2.1 := by decide +kernel
theorem tyJ7_ok : ∀ k, k < 0 → parseFieldDescriptor (TJ7 k).2.2.1 = some (tyJ7 k) := by decide +kernel
abbrev cJ7_fill_53178 : ByteArray := prog_10_method_103_code
def yJ7_fill_53178 : MethodName := ⟨RJ7, "fill", "([II)V"⟩
def RL : String := "PathSounderLaw"
abbrev cL_law : ByteArray := code
def yL_law : MethodName := ⟨RL, "law", "([I)Z"⟩
def wsX0_init : List Cond := .code yX0_init cX0_init 1 none :: ([.methodLink RX0 3 objectInit, .instanceMethod objectInit, .code objectInit ⟨#[0xb1]⟩ 1 none, .arrayClass .int, .fieldLink RX0 9 "PathSounder$Bounds" "most" "[I", .fieldLink RX0 15 "PathSounder$Bounds" "reach" "[I"] ++ wsX00)
def wsJ7_fill_53178 : List Cond := .code yJ7_fill_53178 cJ7_fill_53178 4 none :: ([])
def wsX0_begin : List Cond := .code yX0_begin cX0_begin 1 none :: ([.fieldLink RX0 9 "PathSounder$Bounds" "most" "[I", .constant RX0 18 (1000000000), .methodLink RX0 19 yJ7_fill_53178, .static yJ7_fill_53178, .initialized RJ7, .code yJ7_fill_53178 cJ7_fill_53178 4 none] ++ wsX00)
def wsX0_copyFrom : List Cond := .code yX0_copyFrom cX0_copyFrom 2 none :: ([.fieldLink RX0 9 "PathSounder$Bounds" "most" "[I", .methodLink RX0 25 arraycopyName, .native arraycopyName, .static arraycopyName, .initialized "java/lang/System"] ++ wsX00)
def wsX0_cell : List Cond := .code yX0_cell cX0_cell 2 (some .int) :: ([])
def wsX0_forget : List Cond := .code yX0_forget cX0_forget 3 none :: ([.fieldLink RX0 9 "PathSounder$Bounds" "most" "[I", .constant RX0 18 (1000000000), .methodLink RX0 31 yX0_cell, .static yX0_cell, .initialized RX0, .code yX0_cell cX0_cell 2 (some .int)] ++ wsX00)
def wsX0_narrow : List Cond := .code yX0_narrow cX0_narrow 5 none :: ([.fieldLink RX0 9 "PathSounder$Bounds" "most" "[I", .methodLink RX0 35 Lib.Math.min.name, .static Lib.Math.min.name, .initialized "java/lang/Math", .code Lib.Math.min.name Lib.Math.min.code 2 (some .int), .methodLink RX0 31 yX0_cell, .static yX0_cell, .initialized RX0, .code yX0_cell cX0_cell 2 (some .int)] ++ wsX00)
def wsX0_hasBoth : List Cond := .code yX0_hasBoth cX0_hasBoth 3 (some .boolean) :: ([.fieldLink RX0 9 "PathSounder$Bounds" "most" "[I", .constant RX0 18 (1000000000), .methodLink RX0 31 yX0_cell, .static yX0_cell, .initialized RX0, .code yX0_cell cX0_cell 2 (some .int)] ++ wsX00)
def wsX0_high : List Cond := .code yX0_high cX0_high 3 (some .int) :: ([.fieldLink RX0 9 "PathSounder$Bounds" "most" "[I", .methodLink RX0 31 yX0_cell, .static yX0_cell, .initialized RX0, .code yX0_cell cX0_cell 2 (some .int)] ++ wsX00)
def wsX0_low : List Cond := .code yX0_low cX0_low 3 (some .int) :: ([.fieldLink RX0 9 "PathSounder$Bounds" "most" "[I", .methodLink RX0 31 yX0_cell, .static yX0_cell, .initialized RX0, .code yX0_cell cX0_cell 2 (some .int)] ++ wsX00)
def wsX0_pairs : List Cond := .code yX0_pairs cX0_pairs 4 (some .int) :: ([.methodLink RX0 40 yX0_hasBoth, .instanceMethod yX0_hasBoth, .selects RX0 yX0_hasBoth yX0_hasBoth, .initialized RX0, .code yX0_hasBoth cX0_hasBoth 3 (some .boolean), .fieldLink RX0 9 "PathSounder$Bounds" "most" "[I", .constant RX0 18 (1000000000), .methodLink RX0 31 yX0_cell, .static yX0_cell, .code yX0_cell cX0_cell 2 (some .int)] ++ wsX00)
def wsX0_stepFrom : List Cond := .code yX0_stepFrom cX0_stepFrom 4 none :: ([.fieldLink RX0 15 "PathSounder$Bounds" "reach" "[I", .constant RX0 18 (1000000000), .fieldLink RX0 9 "PathSounder$Bounds" "most" "[I", .methodLink RX0 35 Lib.Math.min.name, .static Lib.Math.min.name, .initialized "java/lang/Math", .code Lib.Math.min.name Lib.Math.min.code 2 (some .int), .methodLink RX0 31 yX0_cell, .static yX0_cell, .initialized RX0, .code yX0_cell cX0_cell 2 (some .int)] ++ wsX00)
def wsX0_tightest : List Cond := .code yX0_tightest cX0_tightest 5 (some .int) :: ([.fieldLink RX0 15 "PathSounder$Bounds" "reach" "[I", .constant RX0 18 (1000000000), .methodLink RX0 19 yJ7_fill_53178, .static yJ7_fill_53178, .initialized RJ7, .code yJ7_fill_53178 cJ7_fill_53178 4 none, .methodLink RX0 44 yX0_stepFrom, .instanceMethod yX0_stepFrom, .selects RX0 yX0_stepFrom yX0_stepFrom, .initialized RX0, .code yX0_stepFrom cX0_stepFrom 4 none, .fieldLink RX0 9 "PathSounder$Bounds" "most" "[I", .methodLink RX0 35 Lib.Math.min.name, .static Lib.Math.min.name, .initialized "java/lang/Math", .code Lib.Math.min.name Lib.Math.min.code 2 (some .int), .methodLink RX0 31 yX0_cell, .static yX0_cell, .code yX0_cell cX0_cell 2 (some .int)] ++ wsX00)
def wsX1_init : List Cond := .code yX1_init cX1_init 1 none :: ([.methodLink RX1 3 objectInit, .instanceMethod objectInit, .code objectInit ⟨#[0xb1]⟩ 1 none, .arrayClass .int, .fieldLink RX1 9 "PathSounder$Links" "numbers" "[I"] ++ wsX10)
def wsX1_begin : List Cond := .code yX1_begin cX1_begin 2 none :: ([.fieldLink RX1 9 "PathSounder$Links" "numbers" "[I", .methodLink RX1 18 arraycopyName, .native arraycopyName, .static arraycopyName, .initialized "java/lang/System"] ++ wsX10)
def wsX1_copyFrom : List Cond := .code yX1_copyFrom cX1_copyFrom 2 none :: ([.fieldLink RX1 9 "PathSounder$Links" "numbers" "[I", .methodLink RX1 18 arraycopyName, .native arraycopyName, .static arraycopyName, .initialized "java/lang/System"] ++ wsX10)
def wsX1_read : List Cond := .code yX1_read cX1_read 3 (some .int) :: ([.fieldLink RX1 9 "PathSounder$Links" "numbers" "[I"] ++ wsX10)
def wsX1_write : List Cond := .code yX1_write cX1_write 4 none :: ([.fieldLink RX1 9 "PathSounder$Links" "numbers" "[I"] ++ wsX10)
def wsX4_leftOver : List Cond := .code yX4_leftOver cX4_leftOver 2 (some .int) :: ([])
def wsX1_ticksThere : List Cond := .code yX1_ticksThere cX1_ticksThere 3 (some .int) :: ([.methodLink RX1 24 yX1_read, .instanceMethod yX1_read, .selects RX1 yX1_read yX1_read, .initialized RX1, .code yX1_read cX1_read 3 (some .int), .fieldLink RX1 9 "PathSounder$Links" "numbers" "[I", .static yX4_leftOver, .initialized RX4, .code yX4_leftOver cX4_leftOver 2 (some .int)] ++ wsX10)
def wsX1_ticksBack : List Cond := .code yX1_ticksBack cX1_ticksBack 3 (some .int) :: ([.methodLink RX1 24 yX1_read, .instanceMethod yX1_read, .selects RX1 yX1_read yX1_read, .initialized RX1, .code yX1_read cX1_read 3 (some .int), .fieldLink RX1 9 "PathSounder$Links" "numbers" "[I", .static yX4_leftOver, .initialized RX4, .code yX4_leftOver cX4_leftOver 2 (some .int)] ++ wsX10)
def wsX1_drops : List Cond := .code yX1_drops cX1_drops 4 (some .boolean) :: ([.methodLink RX1 24 yX1_read, .instanceMethod yX1_read, .selects RX1 yX1_read yX1_read, .initialized RX1, .code yX1_read cX1_read 3 (some .int), .fieldLink RX1 9 "PathSounder$Links" "numbers" "[I"] ++ wsX10)
def wsX2_init : List Cond := .code yX2_init cX2_init 1 none :: ([.methodLink RX2 3 objectInit, .instanceMethod objectInit, .code objectInit ⟨#[0xb1]⟩ 1 none, .arrayClass .int, .fieldLink RX2 9 "PathSounder$Tally" "counts" "[I", .fieldLink RX2 15 "PathSounder$Tally" "sums" "[I"] ++ wsX20)
def wsX2_begin : List Cond := .code yX2_begin cX2_begin 1 none :: ([.fieldLink RX2 9 "PathSounder$Tally" "counts" "[I", .fieldLink RX2 15 "PathSounder$Tally" "sums" "[I", .methodLink RX2 18 yJ7_fill_53178, .static yJ7_fill_53178, .initialized RJ7, .code yJ7_fill_53178 cJ7_fill_53178 4 none] ++ wsX20)
def wsX2_copyFrom : List Cond := .code yX2_copyFrom cX2_copyFrom 2 none :: ([.fieldLink RX2 9 "PathSounder$Tally" "counts" "[I", .methodLink RX2 24 arraycopyName, .native arraycopyName, .static arraycopyName, .initialized "java/lang/System", .fieldLink RX2 15 "PathSounder$Tally" "sums" "[I"] ++ wsX20)
def wsX2_cell : List Cond := .code yX2_cell cX2_cell 2 (some .int) :: ([])
def wsX2_add : List Cond := .code yX2_add cX2_add 4 none :: ([.fieldLink RX2 9 "PathSounder$Tally" "counts" "[I", .fieldLink RX2 15 "PathSounder$Tally" "sums" "[I", .methodLink RX2 30 yX2_cell, .static yX2_cell, .initialized RX2, .code yX2_cell cX2_cell 2 (some .int)] ++ wsX20)
def wsX2_countOf : List Cond := .code yX2_countOf cX2_countOf 3 (some .int) :: ([.fieldLink RX2 9 "PathSounder$Tally" "counts" "[I", .methodLink RX2 30 yX2_cell, .static yX2_cell, .initialized RX2, .code yX2_cell cX2_cell 2 (some .int)] ++ wsX20)
def wsX2_sumOf : List Cond := .code yX2_sumOf cX2_sumOf 3 (some .int) :: ([.fieldLink RX2 15 "PathSounder$Tally" "sums" "[I", .methodLink RX2 30 yX2_cell, .static yX2_cell, .initialized RX2, .code yX2_cell cX2_cell 2 (some .int)] ++ wsX20)
def wsX2_lostBetween : List Cond := .code yX2_lostBetween cX2_lostBetween 4 (some .int) :: ([.methodLink RX2 34 yX2_countOf, .instanceMethod yX2_countOf, .selects RX2 yX2_countOf yX2_countOf, .initialized RX2, .code yX2_countOf cX2_countOf 3 (some .int), .fieldLink RX2 9 "PathSounder$Tally" "counts" "[I", .methodLink RX2 30 yX2_cell, .static yX2_cell, .code yX2_cell cX2_cell 2 (some .int)] ++ wsX20)
def wsX2_lostOfAll : List Cond := .code yX2_lostOfAll cX2_lostOfAll 4 (some .int) :: ([.methodLink RX2 37 yX2_lostBetween, .instanceMethod yX2_lostBetween, .selects RX2 yX2_lostBetween yX2_lostBetween, .initialized RX2, .code yX2_lostBetween cX2_lostBetween 4 (some .int), .methodLink RX2 34 yX2_countOf, .instanceMethod yX2_countOf, .selects RX2 yX2_countOf yX2_countOf, .code yX2_countOf cX2_countOf 3 (some .int), .fieldLink RX2 9 "PathSounder$Tally" "counts" "[I", .methodLink RX2 30 yX2_cell, .static yX2_cell, .code yX2_cell cX2_cell 2 (some .int)] ++ wsX20)
def wsX2_hasTook : List Cond := .code yX2_hasTook cX2_hasTook 4 (some .boolean) :: ([.methodLink RX2 34 yX2_countOf, .instanceMethod yX2_countOf, .selects RX2 yX2_countOf yX2_countOf, .initialized RX2, .code yX2_countOf cX2_countOf 3 (some .int), .fieldLink RX2 9 "PathSounder$Tally" "counts" "[I", .methodLink RX2 30 yX2_cell, .static yX2_cell, .code yX2_cell cX2_cell 2 (some .int)] ++ wsX20)
def wsX2_tookUpper : List Cond := .code yX2_tookUpper cX2_tookUpper 4 (some .int) :: ([.methodLink RX2 41 yX2_sumOf, .instanceMethod yX2_sumOf, .selects RX2 yX2_sumOf yX2_sumOf, .initialized RX2, .code yX2_sumOf cX2_sumOf 3 (some .int), .fieldLink RX2 15 "PathSounder$Tally" "sums" "[I", .methodLink RX2 30 yX2_cell, .static yX2_cell, .code yX2_cell cX2_cell 2 (some .int)] ++ wsX20)
def wsX2_blocksSent : List Cond := .code yX2_blocksSent cX2_blocksSent 3 (some .int) :: ([.methodLink RX2 34 yX2_countOf, .instanceMethod yX2_countOf, .selects RX2 yX2_countOf yX2_countOf, .initialized RX2, .code yX2_countOf cX2_countOf 3 (some .int), .fieldLink RX2 9 "PathSounder$Tally" "counts" "[I", .methodLink RX2 30 yX2_cell, .static yX2_cell, .code yX2_cell cX2_cell 2 (some .int)] ++ wsX20)
def wsX3_init_r1 : List Cond := [Cond.methodLink RX3 3 objectInit, Cond.instanceMethod objectInit, Cond.code objectInit ⟨#[0xb1]⟩ 1 none, Cond.fieldLink RX3 9 "PathSounder$World" "many" "I", Cond.fieldLink RX3 15 "PathSounder$World" "time" "I", Cond.fieldLink RX3 18 "PathSounder$World" "sent" "I", Cond.fieldLink RX3 21 "PathSounder$World" "block" "I", Cond.arrayClass .int, Cond.fieldLink RX3 24 "PathSounder$World" "clocks" "[I", Cond.classLink RX3 28 RX1, Cond.instantiable RX1 1, Cond.initialized RX1, Cond.fieldLink RX3 31 "PathSounder$World" "links" "LPathSounder$Links;", Cond.classLink RX3 35 RX2, Cond.instantiable RX2 2, Cond.initialized RX2, Cond.fieldLink RX3 38 "PathSounder$World" "tally" "LPathSounder$Tally;", Cond.classLink RX3 42 RX0, Cond.instantiable RX0 2, Cond.initialized RX0, Cond.fieldLink RX3 45 "PathSounder$World" "bounds" "LPathSounder$Bounds;", Cond.instanceMethod yX1_init, Cond.code yX1_init cX1_init 1 none, Cond.methodLink RX1 3 objectInit]
def wsX3_init_r2 : List Cond := [Cond.fieldLink RX1 9 "PathSounder$Links" "numbers" "[I", Cond.instanceMethod yX2_init, Cond.code yX2_init cX2_init 1 none, Cond.methodLink RX2 3 objectInit, Cond.fieldLink RX2 9 "PathSounder$Tally" "counts" "[I", Cond.fieldLink RX2 15 "PathSounder$Tally" "sums" "[I", Cond.instanceMethod yX0_init, Cond.code yX0_init cX0_init 1 none, Cond.methodLink RX0 3 objectInit, Cond.fieldLink RX0 9 "PathSounder$Bounds" "most" "[I", Cond.fieldLink RX0 15 "PathSounder$Bounds" "reach" "[I"]
def wsX3_init : List Cond := .code yX3_init cX3_init 1 none :: ((wsX3_init_r1 ++ wsX3_init_r2) ++ wsX30 ++ wsX10 ++ wsX20 ++ wsX00)
def wsX3_begin_r1 : List Cond := [Cond.fieldLink RX3 9 "PathSounder$World" "many" "I", Cond.fieldLink RX3 15 "PathSounder$World" "time" "I", Cond.fieldLink RX3 18 "PathSounder$World" "sent" "I", Cond.fieldLink RX3 21 "PathSounder$World" "block" "I", Cond.fieldLink RX3 24 "PathSounder$World" "clocks" "[I", Cond.fieldLink RX3 31 "PathSounder$World" "links" "LPathSounder$Links;", Cond.fieldLink RX3 38 "PathSounder$World" "tally" "LPathSounder$Tally;", Cond.fieldLink RX3 45 "PathSounder$World" "bounds" "LPathSounder$Bounds;", Cond.methodLink RX3 49 yJ7_fill_53178, Cond.static yJ7_fill_53178, Cond.initialized RJ7, Cond.code yJ7_fill_53178 cJ7_fill_53178 4 none, Cond.methodLink RX3 55 yX1_begin, Cond.instanceMethod yX1_begin, Cond.selects RX1 yX1_begin yX1_begin, Cond.initialized RX1, Cond.code yX1_begin cX1_begin 2 none, Cond.fieldLink RX1 9 "PathSounder$Links" "numbers" "[I", Cond.methodLink RX1 18 arraycopyName, Cond.native arraycopyName, Cond.static arraycopyName, Cond.initialized "java/lang/System", Cond.methodLink RX3 58 yX2_begin, Cond.instanceMethod yX2_begin]
def wsX3_begin_r2 : List Cond := [Cond.selects RX2 yX2_begin yX2_begin, Cond.initialized RX2, Cond.code yX2_begin cX2_begin 1 none, Cond.fieldLink RX2 9 "PathSounder$Tally" "counts" "[I", Cond.fieldLink RX2 15 "PathSounder$Tally" "sums" "[I", Cond.methodLink RX2 18 yJ7_fill_53178, Cond.methodLink RX3 59 yX0_begin, Cond.instanceMethod yX0_begin, Cond.selects RX0 yX0_begin yX0_begin, Cond.initialized RX0, Cond.code yX0_begin cX0_begin 1 none, Cond.fieldLink RX0 9 "PathSounder$Bounds" "most" "[I", Cond.constant RX0 18 (1000000000), Cond.methodLink RX0 19 yJ7_fill_53178]
def wsX3_begin : List Cond := .code yX3_begin cX3_begin 2 none :: ((wsX3_begin_r1 ++ wsX3_begin_r2) ++ wsX30 ++ wsX10 ++ wsX20 ++ wsX00)
def wsX3_copyFrom_r1 : List Cond := [Cond.fieldLink RX3 9 "PathSounder$World" "many" "I", Cond.fieldLink RX3 15 "PathSounder$World" "time" "I", Cond.fieldLink RX3 18 "PathSounder$World" "sent" "I", Cond.fieldLink RX3 21 "PathSounder$World" "block" "I", Cond.fieldLink RX3 24 "PathSounder$World" "clocks" "[I", Cond.methodLink RX3 60 arraycopyName, Cond.native arraycopyName, Cond.static arraycopyName, Cond.initialized "java/lang/System", Cond.fieldLink RX3 31 "PathSounder$World" "links" "LPathSounder$Links;", Cond.fieldLink RX3 38 "PathSounder$World" "tally" "LPathSounder$Tally;", Cond.fieldLink RX3 45 "PathSounder$World" "bounds" "LPathSounder$Bounds;", Cond.methodLink RX3 66 yX1_copyFrom, Cond.instanceMethod yX1_copyFrom, Cond.selects RX1 yX1_copyFrom yX1_copyFrom, Cond.initialized RX1, Cond.code yX1_copyFrom cX1_copyFrom 2 none, Cond.fieldLink RX1 9 "PathSounder$Links" "numbers" "[I", Cond.methodLink RX1 18 arraycopyName, Cond.methodLink RX3 70 yX2_copyFrom, Cond.instanceMethod yX2_copyFrom, Cond.selects RX2 yX2_copyFrom yX2_copyFrom, Cond.initialized RX2, Cond.code yX2_copyFrom cX2_copyFrom 2 none]
def wsX3_copyFrom_r2 : List Cond := [Cond.fieldLink RX2 9 "PathSounder$Tally" "counts" "[I", Cond.methodLink RX2 24 arraycopyName, Cond.fieldLink RX2 15 "PathSounder$Tally" "sums" "[I", Cond.methodLink RX3 73 yX0_copyFrom, Cond.instanceMethod yX0_copyFrom, Cond.selects RX0 yX0_copyFrom yX0_copyFrom, Cond.initialized RX0, Cond.code yX0_copyFrom cX0_copyFrom 2 none, Cond.fieldLink RX0 9 "PathSounder$Bounds" "most" "[I", Cond.methodLink RX0 25 arraycopyName]
def wsX3_copyFrom : List Cond := .code yX3_copyFrom cX3_copyFrom 2 none :: ((wsX3_copyFrom_r1 ++ wsX3_copyFrom_r2) ++ wsX30 ++ wsX10 ++ wsX20 ++ wsX00)
def wsX4_within : List Cond := .code yX4_within cX4_within 3 (some .boolean) :: ([])
def wsX3_hasNode : List Cond := .code yX3_hasNode cX3_hasNode 2 (some .boolean) :: ([.fieldLink RX3 9 "PathSounder$World" "many" "I", .static yX4_within, .initialized RX4, .code yX4_within cX4_within 3 (some .boolean)] ++ wsX30)
def wsX3_hasLink : List Cond := .code yX3_hasLink cX3_hasLink 2 (some .boolean) :: ([.fieldLink RX3 9 "PathSounder$World" "many" "I", .static yX4_within, .initialized RX4, .code yX4_within cX4_within 3 (some .boolean)] ++ wsX30)
def wsX4_quotient : List Cond := .code yX4_quotient cX4_quotient 2 (some .int) :: ([])
def wsX3_sendPacket_r1 : List Cond := [Cond.fieldLink RX3 18 "PathSounder$World" "sent" "I", Cond.fieldLink RX3 21 "PathSounder$World" "block" "I", Cond.fieldLink RX3 15 "PathSounder$World" "time" "I", Cond.fieldLink RX3 38 "PathSounder$World" "tally" "LPathSounder$Tally;", Cond.fieldLink RX3 24 "PathSounder$World" "clocks" "[I", Cond.fieldLink RX3 9 "PathSounder$World" "many" "I", Cond.fieldLink RX3 31 "PathSounder$World" "links" "LPathSounder$Links;", Cond.static yX4_quotient, Cond.initialized RX4, Cond.code yX4_quotient cX4_quotient 2 (some .int), Cond.methodLink RX3 84 yX2_add, Cond.instanceMethod yX2_add, Cond.selects RX2 yX2_add yX2_add, Cond.initialized RX2, Cond.code yX2_add cX2_add 4 none, Cond.fieldLink RX2 9 "PathSounder$Tally" "counts" "[I", Cond.fieldLink RX2 15 "PathSounder$Tally" "sums" "[I", Cond.methodLink RX2 30 yX2_cell, Cond.static yX2_cell, Cond.code yX2_cell cX2_cell 2 (some .int), Cond.methodLink RX3 88 yX1_drops, Cond.instanceMethod yX1_drops, Cond.selects RX1 yX1_drops yX1_drops, Cond.initialized RX1]
def wsX3_sendPacket_r2 : List Cond := [Cond.code yX1_drops cX1_drops 4 (some .boolean), Cond.methodLink RX1 24 yX1_read, Cond.instanceMethod yX1_read, Cond.selects RX1 yX1_read yX1_read, Cond.code yX1_read cX1_read 3 (some .int), Cond.fieldLink RX1 9 "PathSounder$Links" "numbers" "[I", Cond.methodLink RX3 92 yX1_ticksThere, Cond.instanceMethod yX1_ticksThere, Cond.selects RX1 yX1_ticksThere yX1_ticksThere, Cond.code yX1_ticksThere cX1_ticksThere 3 (some .int), Cond.static yX4_leftOver, Cond.code yX4_leftOver cX4_leftOver 2 (some .int)]
def wsX3_sendPacket : List Cond := .code yX3_sendPacket cX3_sendPacket 5 (some .boolean) :: ((wsX3_sendPacket_r1 ++ wsX3_sendPacket_r2) ++ wsX30 ++ wsX20 ++ wsX10)
def wsX3_soundPath_r1 : List Cond := [Cond.fieldLink RX3 15 "PathSounder$World" "time" "I", Cond.fieldLink RX3 31 "PathSounder$World" "links" "LPathSounder$Links;", Cond.fieldLink RX3 24 "PathSounder$World" "clocks" "[I", Cond.fieldLink RX3 45 "PathSounder$World" "bounds" "LPathSounder$Bounds;", Cond.methodLink RX3 92 yX1_ticksThere, Cond.instanceMethod yX1_ticksThere, Cond.selects RX1 yX1_ticksThere yX1_ticksThere, Cond.initialized RX1, Cond.code yX1_ticksThere cX1_ticksThere 3 (some .int), Cond.methodLink RX1 24 yX1_read, Cond.instanceMethod yX1_read, Cond.selects RX1 yX1_read yX1_read, Cond.code yX1_read cX1_read 3 (some .int), Cond.fieldLink RX1 9 "PathSounder$Links" "numbers" "[I", Cond.static yX4_leftOver, Cond.initialized RX4, Cond.code yX4_leftOver cX4_leftOver 2 (some .int), Cond.methodLink RX3 95 yX1_ticksBack, Cond.instanceMethod yX1_ticksBack, Cond.selects RX1 yX1_ticksBack yX1_ticksBack, Cond.code yX1_ticksBack cX1_ticksBack 3 (some .int), Cond.methodLink RX3 98 yX0_narrow, Cond.instanceMethod yX0_narrow, Cond.selects RX0 yX0_narrow yX0_narrow]
def wsX3_soundPath_r2 : List Cond := [Cond.initialized RX0, Cond.code yX0_narrow cX0_narrow 5 none, Cond.fieldLink RX0 9 "PathSounder$Bounds" "most" "[I", Cond.methodLink RX0 35 Lib.Math.min.name, Cond.static Lib.Math.min.name, Cond.initialized "java/lang/Math", Cond.code Lib.Math.min.name Lib.Math.min.code 2 (some .int), Cond.methodLink RX0 31 yX0_cell, Cond.static yX0_cell, Cond.code yX0_cell cX0_cell 2 (some .int)]
def wsX3_soundPath : List Cond := .code yX3_soundPath cX3_soundPath 10 (some .int) :: ((wsX3_soundPath_r1 ++ wsX3_soundPath_r2) ++ wsX30 ++ wsX10 ++ wsX00)
def wsX3_firstBlockAbove : List Cond := .code yX3_firstBlockAbove cX3_firstBlockAbove 3 (some .int) :: ([.fieldLink RX3 38 "PathSounder$World" "tally" "LPathSounder$Tally;", .fieldLink RX3 9 "PathSounder$World" "many" "I", .methodLink RX3 102 yX2_lostBetween, .instanceMethod yX2_lostBetween, .selects RX2 yX2_lostBetween yX2_lostBetween, .initialized RX2, .code yX2_lostBetween cX2_lostBetween 4 (some .int), .methodLink RX2 34 yX2_countOf, .instanceMethod yX2_countOf, .selects RX2 yX2_countOf yX2_countOf, .code yX2_countOf cX2_countOf 3 (some .int), .fieldLink RX2 9 "PathSounder$Tally" "counts" "[I", .methodLink RX2 30 yX2_cell, .static yX2_cell, .code yX2_cell cX2_cell 2 (some .int)] ++ wsX30 ++ wsX20)
def wsX3_firstLinkThatLost : List Cond := .code yX3_firstLinkThatLost cX3_firstLinkThatLost 3 (some .int) :: ([.fieldLink RX3 9 "PathSounder$World" "many" "I", .fieldLink RX3 38 "PathSounder$World" "tally" "LPathSounder$Tally;", .methodLink RX3 102 yX2_lostBetween, .instanceMethod yX2_lostBetween, .selects RX2 yX2_lostBetween yX2_lostBetween, .initialized RX2, .code yX2_lostBetween cX2_lostBetween 4 (some .int), .methodLink RX2 34 yX2_countOf, .instanceMethod yX2_countOf, .selects RX2 yX2_countOf yX2_countOf, .code yX2_countOf cX2_countOf 3 (some .int), .fieldLink RX2 9 "PathSounder$Tally" "counts" "[I", .methodLink RX2 30 yX2_cell, .static yX2_cell, .code yX2_cell cX2_cell 2 (some .int)] ++ wsX30 ++ wsX20)
def wsX4_init_r1 : List Cond := [Cond.methodLink RX4 3 objectInit, Cond.instanceMethod objectInit, Cond.code objectInit ⟨#[0xb1]⟩ 1 none, Cond.classLink RX4 9 RX3, Cond.instantiable RX3 8, Cond.initialized RX3, Cond.fieldLink RX4 12 "PathSounder" "now" "LPathSounder$World;", Cond.fieldLink RX4 16 "PathSounder" "image0" "LPathSounder$World;", Cond.fieldLink RX4 19 "PathSounder" "image1" "LPathSounder$World;", Cond.fieldLink RX4 22 "PathSounder" "imagesKept" "I", Cond.instanceMethod yX3_init, Cond.code yX3_init cX3_init 1 none, Cond.methodLink RX3 3 objectInit, Cond.fieldLink RX3 9 "PathSounder$World" "many" "I", Cond.fieldLink RX3 15 "PathSounder$World" "time" "I", Cond.fieldLink RX3 18 "PathSounder$World" "sent" "I", Cond.fieldLink RX3 21 "PathSounder$World" "block" "I", Cond.arrayClass .int, Cond.fieldLink RX3 24 "PathSounder$World" "clocks" "[I", Cond.classLink RX3 28 RX1, Cond.instantiable RX1 1, Cond.initialized RX1, Cond.fieldLink RX3 31 "PathSounder$World" "links" "LPathSounder$Links;", Cond.classLink RX3 35 RX2]
def wsX4_init_r2 : List Cond := [Cond.instantiable RX2 2, Cond.initialized RX2, Cond.fieldLink RX3 38 "PathSounder$World" "tally" "LPathSounder$Tally;", Cond.classLink RX3 42 RX0, Cond.instantiable RX0 2, Cond.initialized RX0, Cond.fieldLink RX3 45 "PathSounder$World" "bounds" "LPathSounder$Bounds;", Cond.instanceMethod yX1_init, Cond.code yX1_init cX1_init 1 none, Cond.methodLink RX1 3 objectInit, Cond.fieldLink RX1 9 "PathSounder$Links" "numbers" "[I", Cond.instanceMethod yX2_init, Cond.code yX2_init cX2_init 1 none, Cond.methodLink RX2 3 objectInit, Cond.fieldLink RX2 9 "PathSounder$Tally" "counts" "[I", Cond.fieldLink RX2 15 "PathSounder$Tally" "sums" "[I", Cond.instanceMethod yX0_init, Cond.code yX0_init cX0_init 1 none, Cond.methodLink RX0 3 objectInit, Cond.fieldLink RX0 9 "PathSounder$Bounds" "most" "[I", Cond.fieldLink RX0 15 "PathSounder$Bounds" "reach" "[I", Cond.methodLink RX4 26 yX3_begin, Cond.instanceMethod yX3_begin, Cond.selects RX3 yX3_begin yX3_begin]
def wsX4_init_r3 : List Cond := [Cond.code yX3_begin cX3_begin 2 none, Cond.methodLink RX3 49 yJ7_fill_53178, Cond.static yJ7_fill_53178, Cond.initialized RJ7, Cond.code yJ7_fill_53178 cJ7_fill_53178 4 none, Cond.methodLink RX3 55 yX1_begin, Cond.instanceMethod yX1_begin, Cond.selects RX1 yX1_begin yX1_begin, Cond.code yX1_begin cX1_begin 2 none, Cond.methodLink RX1 18 arraycopyName, Cond.native arraycopyName, Cond.static arraycopyName, Cond.initialized "java/lang/System", Cond.methodLink RX3 58 yX2_begin, Cond.instanceMethod yX2_begin, Cond.selects RX2 yX2_begin yX2_begin, Cond.code yX2_begin cX2_begin 1 none, Cond.methodLink RX2 18 yJ7_fill_53178, Cond.methodLink RX3 59 yX0_begin, Cond.instanceMethod yX0_begin, Cond.selects RX0 yX0_begin yX0_begin, Cond.code yX0_begin cX0_begin 1 none, Cond.constant RX0 18 (1000000000), Cond.methodLink RX0 19 yJ7_fill_53178]
def wsX4_init : List Cond := .code yX4_init cX4_init 1 none :: ((wsX4_init_r1 ++ (wsX4_init_r2 ++ wsX4_init_r3)) ++ wsX30 ++ wsX40 ++ wsX10 ++ wsX20 ++ wsX00)
def wsX4_nodes_r1 : List Cond := [Cond.fieldLink RX4 12 "PathSounder" "now" "LPathSounder$World;", Cond.fieldLink RX4 34 "PathSounder$World" "many" "I", Cond.methodLink RX4 30 yX4_within, Cond.static yX4_within, Cond.initialized RX4, Cond.code yX4_within cX4_within 3 (some .boolean), Cond.methodLink RX4 26 yX3_begin, Cond.instanceMethod yX3_begin, Cond.selects RX3 yX3_begin yX3_begin, Cond.initialized RX3, Cond.code yX3_begin cX3_begin 2 none, Cond.fieldLink RX3 9 "PathSounder$World" "many" "I", Cond.fieldLink RX3 15 "PathSounder$World" "time" "I", Cond.fieldLink RX3 18 "PathSounder$World" "sent" "I", Cond.fieldLink RX3 21 "PathSounder$World" "block" "I", Cond.fieldLink RX3 24 "PathSounder$World" "clocks" "[I", Cond.fieldLink RX3 31 "PathSounder$World" "links" "LPathSounder$Links;", Cond.fieldLink RX3 38 "PathSounder$World" "tally" "LPathSounder$Tally;", Cond.fieldLink RX3 45 "PathSounder$World" "bounds" "LPathSounder$Bounds;", Cond.methodLink RX3 49 yJ7_fill_53178, Cond.static yJ7_fill_53178, Cond.initialized RJ7, Cond.code yJ7_fill_53178 cJ7_fill_53178 4 none, Cond.methodLink RX3 55 yX1_begin]
def wsX4_nodes_r2 : List Cond := [Cond.instanceMethod yX1_begin, Cond.selects RX1 yX1_begin yX1_begin, Cond.initialized RX1, Cond.code yX1_begin cX1_begin 2 none, Cond.fieldLink RX1 9 "PathSounder$Links" "numbers" "[I", Cond.methodLink RX1 18 arraycopyName, Cond.native arraycopyName, Cond.static arraycopyName, Cond.initialized "java/lang/System", Cond.methodLink RX3 58 yX2_begin, Cond.instanceMethod yX2_begin, Cond.selects RX2 yX2_begin yX2_begin, Cond.initialized RX2, Cond.code yX2_begin cX2_begin 1 none, Cond.fieldLink RX2 9 "PathSounder$Tally" "counts" "[I", Cond.fieldLink RX2 15 "PathSounder$Tally" "sums" "[I", Cond.methodLink RX2 18 yJ7_fill_53178, Cond.methodLink RX3 59 yX0_begin, Cond.instanceMethod yX0_begin, Cond.selects RX0 yX0_begin yX0_begin, Cond.initialized RX0, Cond.code yX0_begin cX0_begin 1 none, Cond.fieldLink RX0 9 "PathSounder$Bounds" "most" "[I", Cond.constant RX0 18 (1000000000)]
def wsX4_nodes_r3 : List Cond := [Cond.methodLink RX0 19 yJ7_fill_53178]
def wsX4_nodes : List Cond := .code yX4_nodes cX4_nodes 3 (some .int) :: ((wsX4_nodes_r1 ++ (wsX4_nodes_r2 ++ wsX4_nodes_r3)) ++ wsX40 ++ wsX30 ++ wsX10 ++ wsX20 ++ wsX00)
def wsX4_link : List Cond := .code yX4_link cX4_link 5 (some .int) :: ([.fieldLink RX4 12 "PathSounder" "now" "LPathSounder$World;", .fieldLink RX4 41 "PathSounder" "LINK_LEAST" "[I", .fieldLink RX4 45 "PathSounder" "LINK_MOST" "[I", .fieldLink RX4 48 "PathSounder$World" "links" "LPathSounder$Links;", .methodLink RX4 37 yX3_hasLink, .instanceMethod yX3_hasLink, .selects RX3 yX3_hasLink yX3_hasLink, .initialized RX3, .code yX3_hasLink cX3_hasLink 2 (some .boolean), .fieldLink RX3 9 "PathSounder$World" "many" "I", .static yX4_within, .initialized RX4, .code yX4_within cX4_within 3 (some .boolean), .methodLink RX4 30 yX4_within, .methodLink RX4 52 yX1_read, .instanceMethod yX1_read, .selects RX1 yX1_read yX1_read, .initialized RX1, .code yX1_read cX1_read 3 (some .int), .fieldLink RX1 9 "PathSounder$Links" "numbers" "[I", .methodLink RX4 58 yX1_write, .instanceMethod yX1_write, .selects RX1 yX1_write yX1_write, .code yX1_write cX1_write 4 none] ++ wsX40 ++ wsX30 ++ wsX10)
def wsX4_clock_r1 : List Cond := [Cond.fieldLink RX4 12 "PathSounder" "now" "LPathSounder$World;", Cond.constant RX4 65 (-1000000001), Cond.constant RX4 66 (-1000000002), Cond.fieldLink RX4 67 "PathSounder$World" "sent" "I", Cond.constant RX4 70 (-1000000003), Cond.fieldLink RX4 71 "PathSounder$World" "clocks" "[I", Cond.fieldLink RX4 74 "PathSounder$World" "bounds" "LPathSounder$Bounds;", Cond.methodLink RX4 62 yX3_hasNode, Cond.instanceMethod yX3_hasNode, Cond.selects RX3 yX3_hasNode yX3_hasNode, Cond.initialized RX3, Cond.code yX3_hasNode cX3_hasNode 2 (some .boolean), Cond.fieldLink RX3 9 "PathSounder$World" "many" "I", Cond.static yX4_within, Cond.initialized RX4, Cond.code yX4_within cX4_within 3 (some .boolean), Cond.methodLink RX4 30 yX4_within, Cond.methodLink RX4 78 yX0_forget, Cond.instanceMethod yX0_forget, Cond.selects RX0 yX0_forget yX0_forget, Cond.initialized RX0, Cond.code yX0_forget cX0_forget 3 none, Cond.fieldLink RX0 9 "PathSounder$Bounds" "most" "[I", Cond.constant RX0 18 (1000000000)]
def wsX4_clock_r2 : List Cond := [Cond.methodLink RX0 31 yX0_cell, Cond.static yX0_cell, Cond.code yX0_cell cX0_cell 2 (some .int)]
def wsX4_clock : List Cond := .code yX4_clock cX4_clock 4 (some .int) :: ((wsX4_clock_r1 ++ wsX4_clock_r2) ++ wsX40 ++ wsX30 ++ wsX00)
def wsX4_block : List Cond := .code yX4_block cX4_block 3 (some .int) :: ([.fieldLink RX4 12 "PathSounder" "now" "LPathSounder$World;", .fieldLink RX4 67 "PathSounder$World" "sent" "I", .fieldLink RX4 83 "PathSounder$World" "block" "I", .methodLink RX4 30 yX4_within, .static yX4_within, .initialized RX4, .code yX4_within cX4_within 3 (some .boolean)] ++ wsX40 ++ wsX30)
def wsX4_pause : List Cond := .code yX4_pause cX4_pause 2 (some .int) :: ([.fieldLink RX4 12 "PathSounder" "now" "LPathSounder$World;", .fieldLink RX4 86 "PathSounder$World" "time" "I", .methodLink RX4 30 yX4_within, .static yX4_within, .initialized RX4, .code yX4_within cX4_within 3 (some .boolean)] ++ wsX40 ++ wsX30)
def wsX4_send_r1 : List Cond := [Cond.fieldLink RX4 12 "PathSounder" "now" "LPathSounder$World;", Cond.fieldLink RX4 67 "PathSounder$World" "sent" "I", Cond.fieldLink RX4 86 "PathSounder$World" "time" "I", Cond.methodLink RX4 30 yX4_within, Cond.static yX4_within, Cond.initialized RX4, Cond.code yX4_within cX4_within 3 (some .boolean), Cond.methodLink RX4 89 yX3_sendPacket, Cond.instanceMethod yX3_sendPacket, Cond.selects RX3 yX3_sendPacket yX3_sendPacket, Cond.initialized RX3, Cond.code yX3_sendPacket cX3_sendPacket 5 (some .boolean), Cond.fieldLink RX3 18 "PathSounder$World" "sent" "I", Cond.fieldLink RX3 21 "PathSounder$World" "block" "I", Cond.fieldLink RX3 15 "PathSounder$World" "time" "I", Cond.fieldLink RX3 38 "PathSounder$World" "tally" "LPathSounder$Tally;", Cond.fieldLink RX3 24 "PathSounder$World" "clocks" "[I", Cond.fieldLink RX3 9 "PathSounder$World" "many" "I", Cond.fieldLink RX3 31 "PathSounder$World" "links" "LPathSounder$Links;", Cond.static yX4_quotient, Cond.code yX4_quotient cX4_quotient 2 (some .int), Cond.methodLink RX3 84 yX2_add, Cond.instanceMethod yX2_add, Cond.selects RX2 yX2_add yX2_add]
def wsX4_send_r2 : List Cond := [Cond.initialized RX2, Cond.code yX2_add cX2_add 4 none, Cond.fieldLink RX2 9 "PathSounder$Tally" "counts" "[I", Cond.fieldLink RX2 15 "PathSounder$Tally" "sums" "[I", Cond.methodLink RX2 30 yX2_cell, Cond.static yX2_cell, Cond.code yX2_cell cX2_cell 2 (some .int), Cond.methodLink RX3 88 yX1_drops, Cond.instanceMethod yX1_drops, Cond.selects RX1 yX1_drops yX1_drops, Cond.initialized RX1, Cond.code yX1_drops cX1_drops 4 (some .boolean), Cond.methodLink RX1 24 yX1_read, Cond.instanceMethod yX1_read, Cond.selects RX1 yX1_read yX1_read, Cond.code yX1_read cX1_read 3 (some .int), Cond.fieldLink RX1 9 "PathSounder$Links" "numbers" "[I", Cond.methodLink RX3 92 yX1_ticksThere, Cond.instanceMethod yX1_ticksThere, Cond.selects RX1 yX1_ticksThere yX1_ticksThere, Cond.code yX1_ticksThere cX1_ticksThere 3 (some .int), Cond.static yX4_leftOver, Cond.code yX4_leftOver cX4_leftOver 2 (some .int)]
def wsX4_send : List Cond := .code yX4_send cX4_send 4 (some .int) :: ((wsX4_send_r1 ++ wsX4_send_r2) ++ wsX40 ++ wsX30 ++ wsX20 ++ wsX10)
def wsX4_isBlock : List Cond := .code yX4_isBlock cX4_isBlock 1 (some .boolean) :: ([.methodLink RX4 30 yX4_within, .static yX4_within, .initialized RX4, .code yX4_within cX4_within 3 (some .boolean)])
def wsX4_kept_r1 : List Cond := [Cond.fieldLink RX4 12 "PathSounder" "now" "LPathSounder$World;", Cond.constant RX4 65 (-1000000001), Cond.constant RX4 66 (-1000000002), Cond.fieldLink RX4 96 "PathSounder$World" "tally" "LPathSounder$Tally;", Cond.methodLink RX4 62 yX3_hasNode, Cond.instanceMethod yX3_hasNode, Cond.selects RX3 yX3_hasNode yX3_hasNode, Cond.initialized RX3, Cond.code yX3_hasNode cX3_hasNode 2 (some .boolean), Cond.fieldLink RX3 9 "PathSounder$World" "many" "I", Cond.static yX4_within, Cond.initialized RX4, Cond.code yX4_within cX4_within 3 (some .boolean), Cond.methodLink RX4 93 yX4_isBlock, Cond.static yX4_isBlock, Cond.code yX4_isBlock cX4_isBlock 1 (some .boolean), Cond.methodLink RX4 30 yX4_within, Cond.methodLink RX4 100 yX2_countOf, Cond.instanceMethod yX2_countOf, Cond.selects RX2 yX2_countOf yX2_countOf, Cond.initialized RX2, Cond.code yX2_countOf cX2_countOf 3 (some .int), Cond.fieldLink RX2 9 "PathSounder$Tally" "counts" "[I", Cond.methodLink RX2 30 yX2_cell]
def wsX4_kept_r2 : List Cond := [Cond.static yX2_cell, Cond.code yX2_cell cX2_cell 2 (some .int), Cond.methodLink RX4 105 yX2_sumOf, Cond.instanceMethod yX2_sumOf, Cond.selects RX2 yX2_sumOf yX2_sumOf, Cond.code yX2_sumOf cX2_sumOf 3 (some .int), Cond.fieldLink RX2 15 "PathSounder$Tally" "sums" "[I"]
def wsX4_kept : List Cond := .code yX4_kept cX4_kept 4 (some .int) :: ((wsX4_kept_r1 ++ wsX4_kept_r2) ++ wsX40 ++ wsX30 ++ wsX20)
def wsX4_lost_r1 : List Cond := [Cond.fieldLink RX4 12 "PathSounder" "now" "LPathSounder$World;", Cond.fieldLink RX4 96 "PathSounder$World" "tally" "LPathSounder$Tally;", Cond.methodLink RX4 37 yX3_hasLink, Cond.instanceMethod yX3_hasLink, Cond.selects RX3 yX3_hasLink yX3_hasLink, Cond.initialized RX3, Cond.code yX3_hasLink cX3_hasLink 2 (some .boolean), Cond.fieldLink RX3 9 "PathSounder$World" "many" "I", Cond.static yX4_within, Cond.initialized RX4, Cond.code yX4_within cX4_within 3 (some .boolean), Cond.methodLink RX4 93 yX4_isBlock, Cond.static yX4_isBlock, Cond.code yX4_isBlock cX4_isBlock 1 (some .boolean), Cond.methodLink RX4 30 yX4_within, Cond.methodLink RX4 108 yX2_lostOfAll, Cond.instanceMethod yX2_lostOfAll, Cond.selects RX2 yX2_lostOfAll yX2_lostOfAll, Cond.initialized RX2, Cond.code yX2_lostOfAll cX2_lostOfAll 4 (some .int), Cond.methodLink RX2 37 yX2_lostBetween, Cond.instanceMethod yX2_lostBetween, Cond.selects RX2 yX2_lostBetween yX2_lostBetween, Cond.code yX2_lostBetween cX2_lostBetween 4 (some .int)]
def wsX4_lost_r2 : List Cond := [Cond.methodLink RX2 34 yX2_countOf, Cond.instanceMethod yX2_countOf, Cond.selects RX2 yX2_countOf yX2_countOf, Cond.code yX2_countOf cX2_countOf 3 (some .int), Cond.fieldLink RX2 9 "PathSounder$Tally" "counts" "[I", Cond.methodLink RX2 30 yX2_cell, Cond.static yX2_cell, Cond.code yX2_cell cX2_cell 2 (some .int), Cond.methodLink RX4 112 yX2_lostBetween]
def wsX4_lost : List Cond := .code yX4_lost cX4_lost 3 (some .int) :: ((wsX4_lost_r1 ++ wsX4_lost_r2) ++ wsX40 ++ wsX30 ++ wsX20)
def wsX4_pairRefusal : List Cond := .code yX4_pairRefusal cX4_pairRefusal 3 (some .int) :: ([.fieldLink RX4 12 "PathSounder" "now" "LPathSounder$World;", .methodLink RX4 62 yX3_hasNode, .instanceMethod yX3_hasNode, .selects RX3 yX3_hasNode yX3_hasNode, .initialized RX3, .code yX3_hasNode cX3_hasNode 2 (some .boolean), .fieldLink RX3 9 "PathSounder$World" "many" "I", .static yX4_within, .initialized RX4, .code yX4_within cX4_within 3 (some .boolean)] ++ wsX40 ++ wsX30)
def wsX4_tookRefusal : List Cond := .code yX4_tookRefusal cX4_tookRefusal 6 (some .int) :: ([.methodLink RX4 137 yX4_pairRefusal, .instanceMethod yX4_pairRefusal, .selects RX4 yX4_pairRefusal yX4_pairRefusal, .initialized RX4, .code yX4_pairRefusal cX4_pairRefusal 3 (some .int), .fieldLink RX4 12 "PathSounder" "now" "LPathSounder$World;", .methodLink RX4 62 yX3_hasNode, .instanceMethod yX3_hasNode, .selects RX3 yX3_hasNode yX3_hasNode, .initialized RX3, .code yX3_hasNode cX3_hasNode 2 (some .boolean), .fieldLink RX3 9 "PathSounder$World" "many" "I", .static yX4_within, .code yX4_within cX4_within 3 (some .boolean), .methodLink RX4 93 yX4_isBlock, .static yX4_isBlock, .code yX4_isBlock cX4_isBlock 1 (some .boolean), .methodLink RX4 30 yX4_within] ++ wsX40 ++ wsX30)
def wsX4_greatestDivisor : List Cond := .code yX4_greatestDivisor cX4_greatestDivisor 3 (some .int) :: ([])
def wsX4_fractionPart : List Cond := .code yX4_fractionPart cX4_fractionPart 3 (some .int) :: ([.methodLink RX4 176 yX4_greatestDivisor, .static yX4_greatestDivisor, .initialized RX4, .code yX4_greatestDivisor cX4_greatestDivisor 3 (some .int), .methodLink RX4 179 yX4_quotient, .static yX4_quotient, .code yX4_quotient cX4_quotient 2 (some .int)])
def wsX4_took_r1 : List Cond := [Cond.constant RX4 120 (-1000000000), Cond.fieldLink RX4 12 "PathSounder" "now" "LPathSounder$World;", Cond.fieldLink RX4 96 "PathSounder$World" "tally" "LPathSounder$Tally;", Cond.constant RX4 124 (-1000000005), Cond.methodLink RX4 116 yX4_tookRefusal, Cond.instanceMethod yX4_tookRefusal, Cond.selects RX4 yX4_tookRefusal yX4_tookRefusal, Cond.initialized RX4, Cond.code yX4_tookRefusal cX4_tookRefusal 6 (some .int), Cond.methodLink RX4 137 yX4_pairRefusal, Cond.instanceMethod yX4_pairRefusal, Cond.selects RX4 yX4_pairRefusal yX4_pairRefusal, Cond.code yX4_pairRefusal cX4_pairRefusal 3 (some .int), Cond.methodLink RX4 62 yX3_hasNode, Cond.instanceMethod yX3_hasNode, Cond.selects RX3 yX3_hasNode yX3_hasNode, Cond.initialized RX3, Cond.code yX3_hasNode cX3_hasNode 2 (some .boolean), Cond.fieldLink RX3 9 "PathSounder$World" "many" "I", Cond.static yX4_within, Cond.code yX4_within cX4_within 3 (some .boolean), Cond.methodLink RX4 93 yX4_isBlock, Cond.static yX4_isBlock, Cond.code yX4_isBlock cX4_isBlock 1 (some .boolean)]
def wsX4_took_r2 : List Cond := [Cond.methodLink RX4 30 yX4_within, Cond.methodLink RX4 121 yX2_hasTook, Cond.instanceMethod yX2_hasTook, Cond.selects RX2 yX2_hasTook yX2_hasTook, Cond.initialized RX2, Cond.code yX2_hasTook cX2_hasTook 4 (some .boolean), Cond.methodLink RX2 34 yX2_countOf, Cond.instanceMethod yX2_countOf, Cond.selects RX2 yX2_countOf yX2_countOf, Cond.code yX2_countOf cX2_countOf 3 (some .int), Cond.fieldLink RX2 9 "PathSounder$Tally" "counts" "[I", Cond.methodLink RX2 30 yX2_cell, Cond.static yX2_cell, Cond.code yX2_cell cX2_cell 2 (some .int), Cond.methodLink RX4 125 yX2_tookUpper, Cond.instanceMethod yX2_tookUpper, Cond.selects RX2 yX2_tookUpper yX2_tookUpper, Cond.code yX2_tookUpper cX2_tookUpper 4 (some .int), Cond.methodLink RX2 41 yX2_sumOf, Cond.instanceMethod yX2_sumOf, Cond.selects RX2 yX2_sumOf yX2_sumOf, Cond.code yX2_sumOf cX2_sumOf 3 (some .int), Cond.fieldLink RX2 15 "PathSounder$Tally" "sums" "[I", Cond.methodLink RX4 100 yX2_countOf]
def wsX4_took_r3 : List Cond := [Cond.methodLink RX4 128 yX4_fractionPart, Cond.static yX4_fractionPart, Cond.code yX4_fractionPart cX4_fractionPart 3 (some .int), Cond.methodLink RX4 176 yX4_greatestDivisor, Cond.static yX4_greatestDivisor, Cond.code yX4_greatestDivisor cX4_greatestDivisor 3 (some .int), Cond.methodLink RX4 179 yX4_quotient, Cond.static yX4_quotient, Cond.code yX4_quotient cX4_quotient 2 (some .int)]
def wsX4_took : List Cond := .code yX4_took cX4_took 6 (some .int) :: ((wsX4_took_r1 ++ (wsX4_took_r2 ++ wsX4_took_r3)) ++ wsX40 ++ wsX30 ++ wsX20)
def wsX4_first_r1 : List Cond := [Cond.fieldLink RX4 12 "PathSounder" "now" "LPathSounder$World;", Cond.fieldLink RX4 96 "PathSounder$World" "tally" "LPathSounder$Tally;", Cond.methodLink RX4 30 yX4_within, Cond.static yX4_within, Cond.initialized RX4, Cond.code yX4_within cX4_within 3 (some .boolean), Cond.methodLink RX4 131 yX3_firstBlockAbove, Cond.instanceMethod yX3_firstBlockAbove, Cond.selects RX3 yX3_firstBlockAbove yX3_firstBlockAbove, Cond.initialized RX3, Cond.code yX3_firstBlockAbove cX3_firstBlockAbove 3 (some .int), Cond.fieldLink RX3 38 "PathSounder$World" "tally" "LPathSounder$Tally;", Cond.fieldLink RX3 9 "PathSounder$World" "many" "I", Cond.methodLink RX3 102 yX2_lostBetween, Cond.instanceMethod yX2_lostBetween, Cond.selects RX2 yX2_lostBetween yX2_lostBetween, Cond.initialized RX2, Cond.code yX2_lostBetween cX2_lostBetween 4 (some .int), Cond.methodLink RX2 34 yX2_countOf, Cond.instanceMethod yX2_countOf, Cond.selects RX2 yX2_countOf yX2_countOf, Cond.code yX2_countOf cX2_countOf 3 (some .int), Cond.fieldLink RX2 9 "PathSounder$Tally" "counts" "[I", Cond.methodLink RX2 30 yX2_cell]
def wsX4_first_r2 : List Cond := [Cond.static yX2_cell, Cond.code yX2_cell cX2_cell 2 (some .int), Cond.methodLink RX4 93 yX4_isBlock, Cond.static yX4_isBlock, Cond.code yX4_isBlock cX4_isBlock 1 (some .boolean), Cond.methodLink RX4 134 yX3_firstLinkThatLost, Cond.instanceMethod yX3_firstLinkThatLost, Cond.selects RX3 yX3_firstLinkThatLost yX3_firstLinkThatLost, Cond.code yX3_firstLinkThatLost cX3_firstLinkThatLost 3 (some .int), Cond.methodLink RX4 112 yX2_lostBetween]
def wsX4_first : List Cond := .code yX4_first cX4_first 5 (some .int) :: ((wsX4_first_r1 ++ wsX4_first_r2) ++ wsX40 ++ wsX30 ++ wsX20)
def wsX4_sound_r1 : List Cond := [Cond.fieldLink RX4 12 "PathSounder" "now" "LPathSounder$World;", Cond.fieldLink RX4 86 "PathSounder$World" "time" "I", Cond.methodLink RX4 137 yX4_pairRefusal, Cond.instanceMethod yX4_pairRefusal, Cond.selects RX4 yX4_pairRefusal yX4_pairRefusal, Cond.initialized RX4, Cond.code yX4_pairRefusal cX4_pairRefusal 3 (some .int), Cond.methodLink RX4 62 yX3_hasNode, Cond.instanceMethod yX3_hasNode, Cond.selects RX3 yX3_hasNode yX3_hasNode, Cond.initialized RX3, Cond.code yX3_hasNode cX3_hasNode 2 (some .boolean), Cond.fieldLink RX3 9 "PathSounder$World" "many" "I", Cond.static yX4_within, Cond.code yX4_within cX4_within 3 (some .boolean), Cond.methodLink RX4 140 yX3_soundPath, Cond.instanceMethod yX3_soundPath, Cond.selects RX3 yX3_soundPath yX3_soundPath, Cond.code yX3_soundPath cX3_soundPath 10 (some .int), Cond.fieldLink RX3 15 "PathSounder$World" "time" "I", Cond.fieldLink RX3 31 "PathSounder$World" "links" "LPathSounder$Links;", Cond.fieldLink RX3 24 "PathSounder$World" "clocks" "[I", Cond.fieldLink RX3 45 "PathSounder$World" "bounds" "LPathSounder$Bounds;", Cond.methodLink RX3 92 yX1_ticksThere]
def wsX4_sound_r2 : List Cond := [Cond.instanceMethod yX1_ticksThere, Cond.selects RX1 yX1_ticksThere yX1_ticksThere, Cond.initialized RX1, Cond.code yX1_ticksThere cX1_ticksThere 3 (some .int), Cond.methodLink RX1 24 yX1_read, Cond.instanceMethod yX1_read, Cond.selects RX1 yX1_read yX1_read, Cond.code yX1_read cX1_read 3 (some .int), Cond.fieldLink RX1 9 "PathSounder$Links" "numbers" "[I", Cond.static yX4_leftOver, Cond.code yX4_leftOver cX4_leftOver 2 (some .int), Cond.methodLink RX3 95 yX1_ticksBack, Cond.instanceMethod yX1_ticksBack, Cond.selects RX1 yX1_ticksBack yX1_ticksBack, Cond.code yX1_ticksBack cX1_ticksBack 3 (some .int), Cond.methodLink RX3 98 yX0_narrow, Cond.instanceMethod yX0_narrow, Cond.selects RX0 yX0_narrow yX0_narrow, Cond.initialized RX0, Cond.code yX0_narrow cX0_narrow 5 none, Cond.fieldLink RX0 9 "PathSounder$Bounds" "most" "[I", Cond.methodLink RX0 35 Lib.Math.min.name, Cond.static Lib.Math.min.name, Cond.initialized "java/lang/Math"]
def wsX4_sound_r3 : List Cond := [Cond.code Lib.Math.min.name Lib.Math.min.code 2 (some .int), Cond.methodLink RX0 31 yX0_cell, Cond.static yX0_cell, Cond.code yX0_cell cX0_cell 2 (some .int)]
def wsX4_sound : List Cond := .code yX4_sound cX4_sound 4 (some .int) :: ((wsX4_sound_r1 ++ (wsX4_sound_r2 ++ wsX4_sound_r3)) ++ wsX40 ++ wsX30 ++ wsX10 ++ wsX00)
def wsX4_apart_r1 : List Cond := [Cond.constant RX4 120 (-1000000000), Cond.constant RX4 66 (-1000000002), Cond.fieldLink RX4 12 "PathSounder" "now" "LPathSounder$World;", Cond.fieldLink RX4 74 "PathSounder$World" "bounds" "LPathSounder$Bounds;", Cond.constant RX4 147 (-1000000006), Cond.methodLink RX4 137 yX4_pairRefusal, Cond.instanceMethod yX4_pairRefusal, Cond.selects RX4 yX4_pairRefusal yX4_pairRefusal, Cond.initialized RX4, Cond.code yX4_pairRefusal cX4_pairRefusal 3 (some .int), Cond.methodLink RX4 62 yX3_hasNode, Cond.instanceMethod yX3_hasNode, Cond.selects RX3 yX3_hasNode yX3_hasNode, Cond.initialized RX3, Cond.code yX3_hasNode cX3_hasNode 2 (some .boolean), Cond.fieldLink RX3 9 "PathSounder$World" "many" "I", Cond.static yX4_within, Cond.code yX4_within cX4_within 3 (some .boolean), Cond.methodLink RX4 30 yX4_within, Cond.methodLink RX4 143 yX0_hasBoth, Cond.instanceMethod yX0_hasBoth, Cond.selects RX0 yX0_hasBoth yX0_hasBoth, Cond.initialized RX0, Cond.code yX0_hasBoth cX0_hasBoth 3 (some .boolean)]
def wsX4_apart_r2 : List Cond := [Cond.fieldLink RX0 9 "PathSounder$Bounds" "most" "[I", Cond.constant RX0 18 (1000000000), Cond.methodLink RX0 31 yX0_cell, Cond.static yX0_cell, Cond.code yX0_cell cX0_cell 2 (some .int), Cond.methodLink RX4 148 yX0_low, Cond.instanceMethod yX0_low, Cond.selects RX0 yX0_low yX0_low, Cond.code yX0_low cX0_low 3 (some .int), Cond.methodLink RX4 151 yX0_high, Cond.instanceMethod yX0_high, Cond.selects RX0 yX0_high yX0_high, Cond.code yX0_high cX0_high 3 (some .int)]
def wsX4_apart : List Cond := .code yX4_apart cX4_apart 5 (some .int) :: ((wsX4_apart_r1 ++ wsX4_apart_r2) ++ wsX40 ++ wsX30 ++ wsX00)
def wsX4_tight_r1 : List Cond := [Cond.fieldLink RX4 12 "PathSounder" "now" "LPathSounder$World;", Cond.constant RX4 65 (-1000000001), Cond.fieldLink RX4 74 "PathSounder$World" "bounds" "LPathSounder$Bounds;", Cond.constant RX4 157 (1000000000), Cond.constant RX4 147 (-1000000006), Cond.methodLink RX4 62 yX3_hasNode, Cond.instanceMethod yX3_hasNode, Cond.selects RX3 yX3_hasNode yX3_hasNode, Cond.initialized RX3, Cond.code yX3_hasNode cX3_hasNode 2 (some .boolean), Cond.fieldLink RX3 9 "PathSounder$World" "many" "I", Cond.static yX4_within, Cond.initialized RX4, Cond.code yX4_within cX4_within 3 (some .boolean), Cond.methodLink RX4 154 yX0_tightest, Cond.instanceMethod yX0_tightest, Cond.selects RX0 yX0_tightest yX0_tightest, Cond.initialized RX0, Cond.code yX0_tightest cX0_tightest 5 (some .int), Cond.fieldLink RX0 15 "PathSounder$Bounds" "reach" "[I", Cond.constant RX0 18 (1000000000), Cond.methodLink RX0 19 yJ7_fill_53178, Cond.static yJ7_fill_53178, Cond.initialized RJ7]
def wsX4_tight_r2 : List Cond := [Cond.code yJ7_fill_53178 cJ7_fill_53178 4 none, Cond.methodLink RX0 44 yX0_stepFrom, Cond.instanceMethod yX0_stepFrom, Cond.selects RX0 yX0_stepFrom yX0_stepFrom, Cond.code yX0_stepFrom cX0_stepFrom 4 none, Cond.fieldLink RX0 9 "PathSounder$Bounds" "most" "[I", Cond.methodLink RX0 35 Lib.Math.min.name, Cond.static Lib.Math.min.name, Cond.initialized "java/lang/Math", Cond.code Lib.Math.min.name Lib.Math.min.code 2 (some .int), Cond.methodLink RX0 31 yX0_cell, Cond.static yX0_cell, Cond.code yX0_cell cX0_cell 2 (some .int)]
def wsX4_tight : List Cond := .code yX4_tight cX4_tight 4 (some .int) :: ((wsX4_tight_r1 ++ wsX4_tight_r2) ++ wsX40 ++ wsX30 ++ wsX00)
def wsX4_truth_r1 : List Cond := [Cond.constant RX4 120 (-1000000000), Cond.constant RX4 66 (-1000000002), Cond.fieldLink RX4 12 "PathSounder" "now" "LPathSounder$World;", Cond.fieldLink RX4 96 "PathSounder$World" "tally" "LPathSounder$Tally;", Cond.constant RX4 124 (-1000000005), Cond.fieldLink RX4 74 "PathSounder$World" "bounds" "LPathSounder$Bounds;", Cond.constant RX4 157 (1000000000), Cond.constant RX4 147 (-1000000006), Cond.methodLink RX4 116 yX4_tookRefusal, Cond.instanceMethod yX4_tookRefusal, Cond.selects RX4 yX4_tookRefusal yX4_tookRefusal, Cond.initialized RX4, Cond.code yX4_tookRefusal cX4_tookRefusal 6 (some .int), Cond.methodLink RX4 137 yX4_pairRefusal, Cond.instanceMethod yX4_pairRefusal, Cond.selects RX4 yX4_pairRefusal yX4_pairRefusal, Cond.code yX4_pairRefusal cX4_pairRefusal 3 (some .int), Cond.methodLink RX4 62 yX3_hasNode, Cond.instanceMethod yX3_hasNode, Cond.selects RX3 yX3_hasNode yX3_hasNode, Cond.initialized RX3, Cond.code yX3_hasNode cX3_hasNode 2 (some .boolean), Cond.fieldLink RX3 9 "PathSounder$World" "many" "I", Cond.static yX4_within]
def wsX4_truth_r2 : List Cond := [Cond.code yX4_within cX4_within 3 (some .boolean), Cond.methodLink RX4 93 yX4_isBlock, Cond.static yX4_isBlock, Cond.code yX4_isBlock cX4_isBlock 1 (some .boolean), Cond.methodLink RX4 30 yX4_within, Cond.methodLink RX4 121 yX2_hasTook, Cond.instanceMethod yX2_hasTook, Cond.selects RX2 yX2_hasTook yX2_hasTook, Cond.initialized RX2, Cond.code yX2_hasTook cX2_hasTook 4 (some .boolean), Cond.methodLink RX2 34 yX2_countOf, Cond.instanceMethod yX2_countOf, Cond.selects RX2 yX2_countOf yX2_countOf, Cond.code yX2_countOf cX2_countOf 3 (some .int), Cond.fieldLink RX2 9 "PathSounder$Tally" "counts" "[I", Cond.methodLink RX2 30 yX2_cell, Cond.static yX2_cell, Cond.code yX2_cell cX2_cell 2 (some .int), Cond.methodLink RX4 154 yX0_tightest, Cond.instanceMethod yX0_tightest, Cond.selects RX0 yX0_tightest yX0_tightest, Cond.initialized RX0, Cond.code yX0_tightest cX0_tightest 5 (some .int), Cond.fieldLink RX0 15 "PathSounder$Bounds" "reach" "[I"]
def wsX4_truth_r3 : List Cond := [Cond.constant RX0 18 (1000000000), Cond.methodLink RX0 19 yJ7_fill_53178, Cond.static yJ7_fill_53178, Cond.initialized RJ7, Cond.code yJ7_fill_53178 cJ7_fill_53178 4 none, Cond.methodLink RX0 44 yX0_stepFrom, Cond.instanceMethod yX0_stepFrom, Cond.selects RX0 yX0_stepFrom yX0_stepFrom, Cond.code yX0_stepFrom cX0_stepFrom 4 none, Cond.fieldLink RX0 9 "PathSounder$Bounds" "most" "[I", Cond.methodLink RX0 35 Lib.Math.min.name, Cond.static Lib.Math.min.name, Cond.initialized "java/lang/Math", Cond.code Lib.Math.min.name Lib.Math.min.code 2 (some .int), Cond.methodLink RX0 31 yX0_cell, Cond.static yX0_cell, Cond.code yX0_cell cX0_cell 2 (some .int), Cond.methodLink RX4 100 yX2_countOf, Cond.methodLink RX4 125 yX2_tookUpper, Cond.instanceMethod yX2_tookUpper, Cond.selects RX2 yX2_tookUpper yX2_tookUpper, Cond.code yX2_tookUpper cX2_tookUpper 4 (some .int), Cond.methodLink RX2 41 yX2_sumOf, Cond.instanceMethod yX2_sumOf]
def wsX4_truth_r4 : List Cond := [Cond.selects RX2 yX2_sumOf yX2_sumOf, Cond.code yX2_sumOf cX2_sumOf 3 (some .int), Cond.fieldLink RX2 15 "PathSounder$Tally" "sums" "[I", Cond.methodLink RX4 128 yX4_fractionPart, Cond.static yX4_fractionPart, Cond.code yX4_fractionPart cX4_fractionPart 3 (some .int), Cond.methodLink RX4 176 yX4_greatestDivisor, Cond.static yX4_greatestDivisor, Cond.code yX4_greatestDivisor cX4_greatestDivisor 3 (some .int), Cond.methodLink RX4 179 yX4_quotient, Cond.static yX4_quotient, Cond.code yX4_quotient cX4_quotient 2 (some .int)]
def wsX4_truth : List Cond := .code yX4_truth cX4_truth 10 (some .int) :: ((wsX4_truth_r1 ++ (wsX4_truth_r2 ++ (wsX4_truth_r3 ++ wsX4_truth_r4))) ++ wsX40 ++ wsX30 ++ wsX20 ++ wsX00)
def wsX4_imageAt : List Cond := .code yX4_imageAt cX4_imageAt 2 (some (.object "PathSounder$World")) :: ([.fieldLink RX4 16 "PathSounder" "image0" "LPathSounder$World;", .fieldLink RX4 19 "PathSounder" "image1" "LPathSounder$World;"] ++ wsX40)
def wsX4_image_r1 : List Cond := [Cond.fieldLink RX4 12 "PathSounder" "now" "LPathSounder$World;", Cond.fieldLink RX4 22 "PathSounder" "imagesKept" "I", Cond.methodLink RX4 30 yX4_within, Cond.static yX4_within, Cond.initialized RX4, Cond.code yX4_within cX4_within 3 (some .boolean), Cond.methodLink RX4 158 yX4_imageAt, Cond.instanceMethod yX4_imageAt, Cond.selects RX4 yX4_imageAt yX4_imageAt, Cond.code yX4_imageAt cX4_imageAt 2 (some (.object "PathSounder$World")), Cond.fieldLink RX4 16 "PathSounder" "image0" "LPathSounder$World;", Cond.fieldLink RX4 19 "PathSounder" "image1" "LPathSounder$World;", Cond.methodLink RX4 162 yX3_copyFrom, Cond.instanceMethod yX3_copyFrom, Cond.selects RX3 yX3_copyFrom yX3_copyFrom, Cond.initialized RX3, Cond.code yX3_copyFrom cX3_copyFrom 2 none, Cond.fieldLink RX3 9 "PathSounder$World" "many" "I", Cond.fieldLink RX3 15 "PathSounder$World" "time" "I", Cond.fieldLink RX3 18 "PathSounder$World" "sent" "I", Cond.fieldLink RX3 21 "PathSounder$World" "block" "I", Cond.fieldLink RX3 24 "PathSounder$World" "clocks" "[I", Cond.methodLink RX3 60 arraycopyName, Cond.native arraycopyName]
def wsX4_image_r2 : List Cond := [Cond.static arraycopyName, Cond.initialized "java/lang/System", Cond.fieldLink RX3 31 "PathSounder$World" "links" "LPathSounder$Links;", Cond.fieldLink RX3 38 "PathSounder$World" "tally" "LPathSounder$Tally;", Cond.fieldLink RX3 45 "PathSounder$World" "bounds" "LPathSounder$Bounds;", Cond.methodLink RX3 66 yX1_copyFrom, Cond.instanceMethod yX1_copyFrom, Cond.selects RX1 yX1_copyFrom yX1_copyFrom, Cond.initialized RX1, Cond.code yX1_copyFrom cX1_copyFrom 2 none, Cond.fieldLink RX1 9 "PathSounder$Links" "numbers" "[I", Cond.methodLink RX1 18 arraycopyName, Cond.methodLink RX3 70 yX2_copyFrom, Cond.instanceMethod yX2_copyFrom, Cond.selects RX2 yX2_copyFrom yX2_copyFrom, Cond.initialized RX2, Cond.code yX2_copyFrom cX2_copyFrom 2 none, Cond.fieldLink RX2 9 "PathSounder$Tally" "counts" "[I", Cond.methodLink RX2 24 arraycopyName, Cond.fieldLink RX2 15 "PathSounder$Tally" "sums" "[I", Cond.methodLink RX3 73 yX0_copyFrom, Cond.instanceMethod yX0_copyFrom, Cond.selects RX0 yX0_copyFrom yX0_copyFrom, Cond.initialized RX0]
def wsX4_image_r3 : List Cond := [Cond.code yX0_copyFrom cX0_copyFrom 2 none, Cond.fieldLink RX0 9 "PathSounder$Bounds" "most" "[I", Cond.methodLink RX0 25 arraycopyName]
def wsX4_image : List Cond := .code yX4_image cX4_image 2 (some .int) :: ((wsX4_image_r1 ++ (wsX4_image_r2 ++ wsX4_image_r3)) ++ wsX40 ++ wsX30 ++ wsX10 ++ wsX20 ++ wsX00)
def wsX4_restore_r1 : List Cond := [Cond.fieldLink RX4 22 "PathSounder" "imagesKept" "I", Cond.fieldLink RX4 12 "PathSounder" "now" "LPathSounder$World;", Cond.methodLink RX4 30 yX4_within, Cond.static yX4_within, Cond.initialized RX4, Cond.code yX4_within cX4_within 3 (some .boolean), Cond.methodLink RX4 158 yX4_imageAt, Cond.instanceMethod yX4_imageAt, Cond.selects RX4 yX4_imageAt yX4_imageAt, Cond.code yX4_imageAt cX4_imageAt 2 (some (.object "PathSounder$World")), Cond.fieldLink RX4 16 "PathSounder" "image0" "LPathSounder$World;", Cond.fieldLink RX4 19 "PathSounder" "image1" "LPathSounder$World;", Cond.methodLink RX4 162 yX3_copyFrom, Cond.instanceMethod yX3_copyFrom, Cond.selects RX3 yX3_copyFrom yX3_copyFrom, Cond.initialized RX3, Cond.code yX3_copyFrom cX3_copyFrom 2 none, Cond.fieldLink RX3 9 "PathSounder$World" "many" "I", Cond.fieldLink RX3 15 "PathSounder$World" "time" "I", Cond.fieldLink RX3 18 "PathSounder$World" "sent" "I", Cond.fieldLink RX3 21 "PathSounder$World" "block" "I", Cond.fieldLink RX3 24 "PathSounder$World" "clocks" "[I", Cond.methodLink RX3 60 arraycopyName, Cond.native arraycopyName]
def wsX4_restore_r2 : List Cond := [Cond.static arraycopyName, Cond.initialized "java/lang/System", Cond.fieldLink RX3 31 "PathSounder$World" "links" "LPathSounder$Links;", Cond.fieldLink RX3 38 "PathSounder$World" "tally" "LPathSounder$Tally;", Cond.fieldLink RX3 45 "PathSounder$World" "bounds" "LPathSounder$Bounds;", Cond.methodLink RX3 66 yX1_copyFrom, Cond.instanceMethod yX1_copyFrom, Cond.selects RX1 yX1_copyFrom yX1_copyFrom, Cond.initialized RX1, Cond.code yX1_copyFrom cX1_copyFrom 2 none, Cond.fieldLink RX1 9 "PathSounder$Links" "numbers" "[I", Cond.methodLink RX1 18 arraycopyName, Cond.methodLink RX3 70 yX2_copyFrom, Cond.instanceMethod yX2_copyFrom, Cond.selects RX2 yX2_copyFrom yX2_copyFrom, Cond.initialized RX2, Cond.code yX2_copyFrom cX2_copyFrom 2 none, Cond.fieldLink RX2 9 "PathSounder$Tally" "counts" "[I", Cond.methodLink RX2 24 arraycopyName, Cond.fieldLink RX2 15 "PathSounder$Tally" "sums" "[I", Cond.methodLink RX3 73 yX0_copyFrom, Cond.instanceMethod yX0_copyFrom, Cond.selects RX0 yX0_copyFrom yX0_copyFrom, Cond.initialized RX0]
def wsX4_restore_r3 : List Cond := [Cond.code yX0_copyFrom cX0_copyFrom 2 none, Cond.fieldLink RX0 9 "PathSounder$Bounds" "most" "[I", Cond.methodLink RX0 25 arraycopyName]
def wsX4_restore : List Cond := .code yX4_restore cX4_restore 2 (some .int) :: ((wsX4_restore_r1 ++ (wsX4_restore_r2 ++ wsX4_restore_r3)) ++ wsX40 ++ wsX30 ++ wsX10 ++ wsX20 ++ wsX00)
def wsX4_linkNumber : List Cond := .code yX4_linkNumber cX4_linkNumber 4 (some .int) :: ([.fieldLink RX4 12 "PathSounder" "now" "LPathSounder$World;", .fieldLink RX4 48 "PathSounder$World" "links" "LPathSounder$Links;", .methodLink RX4 37 yX3_hasLink, .instanceMethod yX3_hasLink, .selects RX3 yX3_hasLink yX3_hasLink, .initialized RX3, .code yX3_hasLink cX3_hasLink 2 (some .boolean), .fieldLink RX3 9 "PathSounder$World" "many" "I", .static yX4_within, .initialized RX4, .code yX4_within cX4_within 3 (some .boolean), .methodLink RX4 30 yX4_within, .methodLink RX4 52 yX1_read, .instanceMethod yX1_read, .selects RX1 yX1_read yX1_read, .initialized RX1, .code yX1_read cX1_read 3 (some .int), .fieldLink RX1 9 "PathSounder$Links" "numbers" "[I"] ++ wsX40 ++ wsX30 ++ wsX10)
def wsX4_count_r1 : List Cond := [Cond.fieldLink RX4 12 "PathSounder" "now" "LPathSounder$World;", Cond.fieldLink RX4 34 "PathSounder$World" "many" "I", Cond.fieldLink RX4 86 "PathSounder$World" "time" "I", Cond.fieldLink RX4 67 "PathSounder$World" "sent" "I", Cond.fieldLink RX4 83 "PathSounder$World" "block" "I", Cond.fieldLink RX4 96 "PathSounder$World" "tally" "LPathSounder$Tally;", Cond.fieldLink RX4 74 "PathSounder$World" "bounds" "LPathSounder$Bounds;", Cond.fieldLink RX4 22 "PathSounder" "imagesKept" "I", Cond.methodLink RX4 166 yX2_blocksSent, Cond.instanceMethod yX2_blocksSent, Cond.selects RX2 yX2_blocksSent yX2_blocksSent, Cond.initialized RX2, Cond.code yX2_blocksSent cX2_blocksSent 3 (some .int), Cond.methodLink RX2 34 yX2_countOf, Cond.instanceMethod yX2_countOf, Cond.selects RX2 yX2_countOf yX2_countOf, Cond.code yX2_countOf cX2_countOf 3 (some .int), Cond.fieldLink RX2 9 "PathSounder$Tally" "counts" "[I", Cond.methodLink RX2 30 yX2_cell, Cond.static yX2_cell, Cond.code yX2_cell cX2_cell 2 (some .int), Cond.methodLink RX4 170 yX0_pairs, Cond.instanceMethod yX0_pairs, Cond.selects RX0 yX0_pairs yX0_pairs]
def wsX4_count_r2 : List Cond := [Cond.initialized RX0, Cond.code yX0_pairs cX0_pairs 4 (some .int), Cond.methodLink RX0 40 yX0_hasBoth, Cond.instanceMethod yX0_hasBoth, Cond.selects RX0 yX0_hasBoth yX0_hasBoth, Cond.code yX0_hasBoth cX0_hasBoth 3 (some .boolean), Cond.fieldLink RX0 9 "PathSounder$Bounds" "most" "[I", Cond.constant RX0 18 (1000000000), Cond.methodLink RX0 31 yX0_cell, Cond.static yX0_cell, Cond.code yX0_cell cX0_cell 2 (some .int), Cond.methodLink RX4 173 yX4_linkNumber, Cond.instanceMethod yX4_linkNumber, Cond.selects RX4 yX4_linkNumber yX4_linkNumber, Cond.initialized RX4, Cond.code yX4_linkNumber cX4_linkNumber 4 (some .int), Cond.fieldLink RX4 48 "PathSounder$World" "links" "LPathSounder$Links;", Cond.methodLink RX4 37 yX3_hasLink, Cond.instanceMethod yX3_hasLink, Cond.selects RX3 yX3_hasLink yX3_hasLink, Cond.initialized RX3, Cond.code yX3_hasLink cX3_hasLink 2 (some .boolean), Cond.fieldLink RX3 9 "PathSounder$World" "many" "I", Cond.static yX4_within]
def wsX4_count_r3 : List Cond := [Cond.code yX4_within cX4_within 3 (some .boolean), Cond.methodLink RX4 30 yX4_within, Cond.methodLink RX4 52 yX1_read, Cond.instanceMethod yX1_read, Cond.selects RX1 yX1_read yX1_read, Cond.initialized RX1, Cond.code yX1_read cX1_read 3 (some .int), Cond.fieldLink RX1 9 "PathSounder$Links" "numbers" "[I"]
def wsX4_count : List Cond := .code yX4_count cX4_count 2 (some .int) :: ((wsX4_count_r1 ++ (wsX4_count_r2 ++ wsX4_count_r3)) ++ wsX40 ++ wsX30 ++ wsX20 ++ wsX00 ++ wsX10)
def wsX5_begin : List Cond := .code yX5_begin cX5_begin 3 none :: ([.fieldLink RX5 7 "PathSounderModel" "state" "[I"] ++ wsX50)
def wsX5_init : List Cond := .code yX5_init cX5_init 1 none :: ([.methodLink RX5 1 objectInit, .instanceMethod objectInit, .code objectInit ⟨#[0xb1]⟩ 1 none, .arrayClass .int, .fieldLink RX5 7 "PathSounderModel" "state" "[I", .fieldLink RX5 13 "PathSounderModel" "images" "[I", .arrayClass .boolean, .fieldLink RX5 16 "PathSounderModel" "isKept" "[Z", .fieldLink RX5 20 "PathSounderModel" "least" "[I", .methodLink RX5 23 yX5_begin, .instanceMethod yX5_begin, .selects RX5 yX5_begin yX5_begin, .initialized RX5, .code yX5_begin cX5_begin 3 none] ++ wsX50)
def wsX5_in : List Cond := .code yX5_in cX5_in 3 (some .boolean) :: ([])
def wsX5_isNode : List Cond := .code yX5_isNode cX5_isNode 2 (some .boolean) :: ([.fieldLink RX5 7 "PathSounderModel" "state" "[I", .methodLink RX5 27 yX5_in, .static yX5_in, .initialized RX5, .code yX5_in cX5_in 3 (some .boolean)] ++ wsX50)
def wsX5_isLink : List Cond := .code yX5_isLink cX5_isLink 2 (some .boolean) :: ([.fieldLink RX5 7 "PathSounderModel" "state" "[I", .methodLink RX5 27 yX5_in, .static yX5_in, .initialized RX5, .code yX5_in cX5_in 3 (some .boolean)] ++ wsX50)
def wsX5_isBlock : List Cond := .code yX5_isBlock cX5_isBlock 1 (some .boolean) :: ([.methodLink RX5 27 yX5_in, .static yX5_in, .initialized RX5, .code yX5_in cX5_in 3 (some .boolean)])
def wsX5_linkOf : List Cond := .code yX5_linkOf cX5_linkOf 3 (some .int) :: ([.fieldLink RX5 7 "PathSounderModel" "state" "[I"] ++ wsX50)
def wsX5_nodes : List Cond := .code yX5_nodes cX5_nodes 3 (some .int) :: ([.fieldLink RX5 7 "PathSounderModel" "state" "[I", .methodLink RX5 27 yX5_in, .static yX5_in, .initialized RX5, .code yX5_in cX5_in 3 (some .boolean), .methodLink RX5 23 yX5_begin, .instanceMethod yX5_begin, .selects RX5 yX5_begin yX5_begin, .code yX5_begin cX5_begin 3 none] ++ wsX50)
def wsX5_canBe : List Cond := .code yX5_canBe cX5_canBe 2 (some .boolean) :: ([.methodLink RX5 27 yX5_in, .static yX5_in, .initialized RX5, .code yX5_in cX5_in 3 (some .boolean)])
def wsX5_link : List Cond := .code yX5_link cX5_link 5 (some .int) :: ([.fieldLink RX5 7 "PathSounderModel" "state" "[I", .methodLink RX5 31 yX5_isLink, .instanceMethod yX5_isLink, .selects RX5 yX5_isLink yX5_isLink, .initialized RX5, .code yX5_isLink cX5_isLink 2 (some .boolean), .methodLink RX5 27 yX5_in, .static yX5_in, .code yX5_in cX5_in 3 (some .boolean), .methodLink RX5 35 yX5_canBe, .static yX5_canBe, .code yX5_canBe cX5_canBe 2 (some .boolean), .methodLink RX5 39 yX5_linkOf, .instanceMethod yX5_linkOf, .selects RX5 yX5_linkOf yX5_linkOf, .code yX5_linkOf cX5_linkOf 3 (some .int)] ++ wsX50)
def wsX5_clock : List Cond := .code yX5_clock cX5_clock 5 (some .int) :: ([.constant RX5 46 (-1000000001), .constant RX5 47 (-1000000002), .fieldLink RX5 7 "PathSounderModel" "state" "[I", .constant RX5 48 (-1000000003), .methodLink RX5 43 yX5_isNode, .instanceMethod yX5_isNode, .selects RX5 yX5_isNode yX5_isNode, .initialized RX5, .code yX5_isNode cX5_isNode 2 (some .boolean), .methodLink RX5 27 yX5_in, .static yX5_in, .code yX5_in cX5_in 3 (some .boolean)] ++ wsX50)
def wsX5_block : List Cond := .code yX5_block cX5_block 3 (some .int) :: ([.fieldLink RX5 7 "PathSounderModel" "state" "[I", .methodLink RX5 27 yX5_in, .static yX5_in, .initialized RX5, .code yX5_in cX5_in 3 (some .boolean)] ++ wsX50)
def wsX5_pause : List Cond := .code yX5_pause cX5_pause 2 (some .int) :: ([.fieldLink RX5 7 "PathSounderModel" "state" "[I", .methodLink RX5 27 yX5_in, .static yX5_in, .initialized RX5, .code yX5_in cX5_in 3 (some .boolean)] ++ wsX50)
def wsX5_over : List Cond := .code yX5_over cX5_over 4 (some .int) :: ([.methodLink RX5 39 yX5_linkOf, .instanceMethod yX5_linkOf, .selects RX5 yX5_linkOf yX5_linkOf, .initialized RX5, .code yX5_linkOf cX5_linkOf 3 (some .int), .fieldLink RX5 7 "PathSounderModel" "state" "[I"] ++ wsX50)
def wsX5_isDropped : List Cond := .code yX5_isDropped cX5_isDropped 3 (some .boolean) :: ([.methodLink RX5 39 yX5_linkOf, .instanceMethod yX5_linkOf, .selects RX5 yX5_linkOf yX5_linkOf, .initialized RX5, .code yX5_linkOf cX5_linkOf 3 (some .int), .fieldLink RX5 7 "PathSounderModel" "state" "[I"] ++ wsX50)
def wsX5_note : List Cond := .code yX5_note cX5_note 4 none :: ([.fieldLink RX5 7 "PathSounderModel" "state" "[I"] ++ wsX50)
def wsX5_sendOne : List Cond := .code yX5_sendOne cX5_sendOne 5 (some .boolean) :: ([.fieldLink RX5 7 "PathSounderModel" "state" "[I", .methodLink RX5 49 yX5_note, .instanceMethod yX5_note, .selects RX5 yX5_note yX5_note, .initialized RX5, .code yX5_note cX5_note 4 none, .methodLink RX5 53 yX5_isDropped, .instanceMethod yX5_isDropped, .selects RX5 yX5_isDropped yX5_isDropped, .code yX5_isDropped cX5_isDropped 3 (some .boolean), .methodLink RX5 39 yX5_linkOf, .instanceMethod yX5_linkOf, .selects RX5 yX5_linkOf yX5_linkOf, .code yX5_linkOf cX5_linkOf 3 (some .int), .methodLink RX5 56 yX5_over, .instanceMethod yX5_over, .selects RX5 yX5_over yX5_over, .code yX5_over cX5_over 4 (some .int)] ++ wsX50)
def wsX5_send_r1 : List Cond := [Cond.fieldLink RX5 7 "PathSounderModel" "state" "[I", Cond.methodLink RX5 27 yX5_in, Cond.static yX5_in, Cond.initialized RX5, Cond.code yX5_in cX5_in 3 (some .boolean), Cond.methodLink RX5 60 yX5_sendOne, Cond.instanceMethod yX5_sendOne, Cond.selects RX5 yX5_sendOne yX5_sendOne, Cond.code yX5_sendOne cX5_sendOne 5 (some .boolean), Cond.methodLink RX5 49 yX5_note, Cond.instanceMethod yX5_note, Cond.selects RX5 yX5_note yX5_note, Cond.code yX5_note cX5_note 4 none, Cond.methodLink RX5 53 yX5_isDropped, Cond.instanceMethod yX5_isDropped, Cond.selects RX5 yX5_isDropped yX5_isDropped, Cond.code yX5_isDropped cX5_isDropped 3 (some .boolean), Cond.methodLink RX5 39 yX5_linkOf, Cond.instanceMethod yX5_linkOf, Cond.selects RX5 yX5_linkOf yX5_linkOf, Cond.code yX5_linkOf cX5_linkOf 3 (some .int), Cond.methodLink RX5 56 yX5_over, Cond.instanceMethod yX5_over, Cond.selects RX5 yX5_over yX5_over]
def wsX5_send_r2 : List Cond := [Cond.code yX5_over cX5_over 4 (some .int)]
def wsX5_send : List Cond := .code yX5_send cX5_send 4 (some .int) :: ((wsX5_send_r1 ++ wsX5_send_r2) ++ wsX50)
def wsX5_countOf : List Cond := .code yX5_countOf cX5_countOf 3 (some .int) :: ([.fieldLink RX5 7 "PathSounderModel" "state" "[I"] ++ wsX50)
def wsX5_sumOf : List Cond := .code yX5_sumOf cX5_sumOf 3 (some .int) :: ([.fieldLink RX5 7 "PathSounderModel" "state" "[I"] ++ wsX50)
def wsX5_kept : List Cond := .code yX5_kept cX5_kept 4 (some .int) :: ([.constant RX5 46 (-1000000001), .constant RX5 47 (-1000000002), .methodLink RX5 43 yX5_isNode, .instanceMethod yX5_isNode, .selects RX5 yX5_isNode yX5_isNode, .initialized RX5, .code yX5_isNode cX5_isNode 2 (some .boolean), .fieldLink RX5 7 "PathSounderModel" "state" "[I", .methodLink RX5 27 yX5_in, .static yX5_in, .code yX5_in cX5_in 3 (some .boolean), .methodLink RX5 64 yX5_isBlock, .static yX5_isBlock, .code yX5_isBlock cX5_isBlock 1 (some .boolean), .methodLink RX5 67 yX5_countOf, .instanceMethod yX5_countOf, .selects RX5 yX5_countOf yX5_countOf, .code yX5_countOf cX5_countOf 3 (some .int), .methodLink RX5 70 yX5_sumOf, .instanceMethod yX5_sumOf, .selects RX5 yX5_sumOf yX5_sumOf, .code yX5_sumOf cX5_sumOf 3 (some .int)] ++ wsX50)
def wsX5_lostOf : List Cond := .code yX5_lostOf cX5_lostOf 3 (some .int) :: ([.methodLink RX5 67 yX5_countOf, .instanceMethod yX5_countOf, .selects RX5 yX5_countOf yX5_countOf, .initialized RX5, .code yX5_countOf cX5_countOf 3 (some .int), .fieldLink RX5 7 "PathSounderModel" "state" "[I"] ++ wsX50)
def wsX5_lost : List Cond := .code yX5_lost cX5_lost 5 (some .int) :: ([.methodLink RX5 31 yX5_isLink, .instanceMethod yX5_isLink, .selects RX5 yX5_isLink yX5_isLink, .initialized RX5, .code yX5_isLink cX5_isLink 2 (some .boolean), .fieldLink RX5 7 "PathSounderModel" "state" "[I", .methodLink RX5 27 yX5_in, .static yX5_in, .code yX5_in cX5_in 3 (some .boolean), .methodLink RX5 73 yX5_lostOf, .instanceMethod yX5_lostOf, .selects RX5 yX5_lostOf yX5_lostOf, .code yX5_lostOf cX5_lostOf 3 (some .int), .methodLink RX5 67 yX5_countOf, .instanceMethod yX5_countOf, .selects RX5 yX5_countOf yX5_countOf, .code yX5_countOf cX5_countOf 3 (some .int)] ++ wsX50)
def wsX5_common : List Cond := .code yX5_common cX5_common 5 (some .int) :: ([])
def wsX5_told : List Cond := .code yX5_told cX5_told 4 (some .int) :: ([.methodLink RX5 76 yX5_common, .static yX5_common, .initialized RX5, .code yX5_common cX5_common 5 (some .int)])
def wsX5_isTaken : List Cond := .code yX5_isTaken cX5_isTaken 4 (some .boolean) :: ([.methodLink RX5 67 yX5_countOf, .instanceMethod yX5_countOf, .selects RX5 yX5_countOf yX5_countOf, .initialized RX5, .code yX5_countOf cX5_countOf 3 (some .int), .fieldLink RX5 7 "PathSounderModel" "state" "[I"] ++ wsX50)
def wsX5_took_r1 : List Cond := [Cond.constant RX5 46 (-1000000001), Cond.constant RX5 47 (-1000000002), Cond.constant RX5 82 (-1000000005), Cond.methodLink RX5 43 yX5_isNode, Cond.instanceMethod yX5_isNode, Cond.selects RX5 yX5_isNode yX5_isNode, Cond.initialized RX5, Cond.code yX5_isNode cX5_isNode 2 (some .boolean), Cond.fieldLink RX5 7 "PathSounderModel" "state" "[I", Cond.methodLink RX5 27 yX5_in, Cond.static yX5_in, Cond.code yX5_in cX5_in 3 (some .boolean), Cond.methodLink RX5 64 yX5_isBlock, Cond.static yX5_isBlock, Cond.code yX5_isBlock cX5_isBlock 1 (some .boolean), Cond.methodLink RX5 79 yX5_isTaken, Cond.instanceMethod yX5_isTaken, Cond.selects RX5 yX5_isTaken yX5_isTaken, Cond.code yX5_isTaken cX5_isTaken 4 (some .boolean), Cond.methodLink RX5 67 yX5_countOf, Cond.instanceMethod yX5_countOf, Cond.selects RX5 yX5_countOf yX5_countOf, Cond.code yX5_countOf cX5_countOf 3 (some .int), Cond.methodLink RX5 70 yX5_sumOf]
def wsX5_took_r2 : List Cond := [Cond.instanceMethod yX5_sumOf, Cond.selects RX5 yX5_sumOf yX5_sumOf, Cond.code yX5_sumOf cX5_sumOf 3 (some .int), Cond.methodLink RX5 83 yX5_told, Cond.static yX5_told, Cond.code yX5_told cX5_told 4 (some .int), Cond.methodLink RX5 76 yX5_common, Cond.static yX5_common, Cond.code yX5_common cX5_common 5 (some .int)]
def wsX5_took : List Cond := .code yX5_took cX5_took 5 (some .int) :: ((wsX5_took_r1 ++ wsX5_took_r2) ++ wsX50)
def wsX5_lostInBlock : List Cond := .code yX5_lostInBlock cX5_lostInBlock 2 (some .int) :: ([.fieldLink RX5 7 "PathSounderModel" "state" "[I", .methodLink RX5 67 yX5_countOf, .instanceMethod yX5_countOf, .selects RX5 yX5_countOf yX5_countOf, .initialized RX5, .code yX5_countOf cX5_countOf 3 (some .int)] ++ wsX50)
def wsX5_firstLink : List Cond := .code yX5_firstLink cX5_firstLink 3 (some .int) :: ([.methodLink RX5 73 yX5_lostOf, .instanceMethod yX5_lostOf, .selects RX5 yX5_lostOf yX5_lostOf, .initialized RX5, .code yX5_lostOf cX5_lostOf 3 (some .int), .methodLink RX5 67 yX5_countOf, .instanceMethod yX5_countOf, .selects RX5 yX5_countOf yX5_countOf, .code yX5_countOf cX5_countOf 3 (some .int), .fieldLink RX5 7 "PathSounderModel" "state" "[I"] ++ wsX50)
def wsX5_first : List Cond := .code yX5_first cX5_first 4 (some .int) :: ([.methodLink RX5 27 yX5_in, .static yX5_in, .initialized RX5, .code yX5_in cX5_in 3 (some .boolean), .methodLink RX5 86 yX5_lostInBlock, .instanceMethod yX5_lostInBlock, .selects RX5 yX5_lostInBlock yX5_lostInBlock, .code yX5_lostInBlock cX5_lostInBlock 2 (some .int), .fieldLink RX5 7 "PathSounderModel" "state" "[I", .methodLink RX5 67 yX5_countOf, .instanceMethod yX5_countOf, .selects RX5 yX5_countOf yX5_countOf, .code yX5_countOf cX5_countOf 3 (some .int), .methodLink RX5 90 yX5_firstLink, .instanceMethod yX5_firstLink, .selects RX5 yX5_firstLink yX5_firstLink, .code yX5_firstLink cX5_firstLink 3 (some .int), .methodLink RX5 73 yX5_lostOf, .instanceMethod yX5_lostOf, .selects RX5 yX5_lostOf yX5_lostOf, .code yX5_lostOf cX5_lostOf 3 (some .int)] ++ wsX50)
def wsX5_sound : List Cond := .code yX5_sound cX5_sound 11 (some .int) :: ([.fieldLink RX5 7 "PathSounderModel" "state" "[I", .methodLink RX5 43 yX5_isNode, .instanceMethod yX5_isNode, .selects RX5 yX5_isNode yX5_isNode, .initialized RX5, .code yX5_isNode cX5_isNode 2 (some .boolean), .methodLink RX5 27 yX5_in, .static yX5_in, .code yX5_in cX5_in 3 (some .boolean), .methodLink RX5 56 yX5_over, .instanceMethod yX5_over, .selects RX5 yX5_over yX5_over, .code yX5_over cX5_over 4 (some .int), .methodLink RX5 39 yX5_linkOf, .instanceMethod yX5_linkOf, .selects RX5 yX5_linkOf yX5_linkOf, .code yX5_linkOf cX5_linkOf 3 (some .int)] ++ wsX50)
def wsX5_apart : List Cond := .code yX5_apart cX5_apart 5 (some .int) :: ([.constant RX5 46 (-1000000001), .constant RX5 47 (-1000000002), .fieldLink RX5 7 "PathSounderModel" "state" "[I", .constant RX5 93 (-1000000006), .methodLink RX5 43 yX5_isNode, .instanceMethod yX5_isNode, .selects RX5 yX5_isNode yX5_isNode, .initialized RX5, .code yX5_isNode cX5_isNode 2 (some .boolean), .methodLink RX5 27 yX5_in, .static yX5_in, .code yX5_in cX5_in 3 (some .boolean)] ++ wsX50)
def wsX5_layLeast : List Cond := .code yX5_layLeast cX5_layLeast 5 none :: ([.fieldLink RX5 20 "PathSounderModel" "least" "[I", .fieldLink RX5 7 "PathSounderModel" "state" "[I", .constant RX5 94 (1000000)] ++ wsX50)
def wsX5_tight : List Cond := .code yX5_tight cX5_tight 4 (some .int) :: ([.constant RX5 46 (-1000000001), .fieldLink RX5 20 "PathSounderModel" "least" "[I", .constant RX5 94 (1000000), .constant RX5 93 (-1000000006), .methodLink RX5 43 yX5_isNode, .instanceMethod yX5_isNode, .selects RX5 yX5_isNode yX5_isNode, .initialized RX5, .code yX5_isNode cX5_isNode 2 (some .boolean), .fieldLink RX5 7 "PathSounderModel" "state" "[I", .methodLink RX5 27 yX5_in, .static yX5_in, .code yX5_in cX5_in 3 (some .boolean), .methodLink RX5 95 yX5_layLeast, .instanceMethod yX5_layLeast, .selects RX5 yX5_layLeast yX5_layLeast, .code yX5_layLeast cX5_layLeast 5 none] ++ wsX50)
def wsX5_truth_r1 : List Cond := [Cond.constant RX5 46 (-1000000001), Cond.constant RX5 47 (-1000000002), Cond.constant RX5 82 (-1000000005), Cond.fieldLink RX5 20 "PathSounderModel" "least" "[I", Cond.constant RX5 94 (1000000), Cond.constant RX5 93 (-1000000006), Cond.methodLink RX5 43 yX5_isNode, Cond.instanceMethod yX5_isNode, Cond.selects RX5 yX5_isNode yX5_isNode, Cond.initialized RX5, Cond.code yX5_isNode cX5_isNode 2 (some .boolean), Cond.fieldLink RX5 7 "PathSounderModel" "state" "[I", Cond.methodLink RX5 27 yX5_in, Cond.static yX5_in, Cond.code yX5_in cX5_in 3 (some .boolean), Cond.methodLink RX5 64 yX5_isBlock, Cond.static yX5_isBlock, Cond.code yX5_isBlock cX5_isBlock 1 (some .boolean), Cond.methodLink RX5 79 yX5_isTaken, Cond.instanceMethod yX5_isTaken, Cond.selects RX5 yX5_isTaken yX5_isTaken, Cond.code yX5_isTaken cX5_isTaken 4 (some .boolean), Cond.methodLink RX5 67 yX5_countOf, Cond.instanceMethod yX5_countOf]
def wsX5_truth_r2 : List Cond := [Cond.selects RX5 yX5_countOf yX5_countOf, Cond.code yX5_countOf cX5_countOf 3 (some .int), Cond.methodLink RX5 95 yX5_layLeast, Cond.instanceMethod yX5_layLeast, Cond.selects RX5 yX5_layLeast yX5_layLeast, Cond.code yX5_layLeast cX5_layLeast 5 none, Cond.methodLink RX5 70 yX5_sumOf, Cond.instanceMethod yX5_sumOf, Cond.selects RX5 yX5_sumOf yX5_sumOf, Cond.code yX5_sumOf cX5_sumOf 3 (some .int), Cond.methodLink RX5 83 yX5_told, Cond.static yX5_told, Cond.code yX5_told cX5_told 4 (some .int), Cond.methodLink RX5 76 yX5_common, Cond.static yX5_common, Cond.code yX5_common cX5_common 5 (some .int)]
def wsX5_truth : List Cond := .code yX5_truth cX5_truth 9 (some .int) :: ((wsX5_truth_r1 ++ wsX5_truth_r2) ++ wsX50)
def wsX5_image : List Cond := .code yX5_image cX5_image 3 (some .int) :: ([.fieldLink RX5 13 "PathSounderModel" "images" "[I", .fieldLink RX5 7 "PathSounderModel" "state" "[I", .fieldLink RX5 16 "PathSounderModel" "isKept" "[Z", .methodLink RX5 27 yX5_in, .static yX5_in, .initialized RX5, .code yX5_in cX5_in 3 (some .boolean)] ++ wsX50)
def wsX5_restore : List Cond := .code yX5_restore cX5_restore 3 (some .int) :: ([.fieldLink RX5 16 "PathSounderModel" "isKept" "[Z", .fieldLink RX5 7 "PathSounderModel" "state" "[I", .fieldLink RX5 13 "PathSounderModel" "images" "[I", .methodLink RX5 27 yX5_in, .static yX5_in, .initialized RX5, .code yX5_in cX5_in 3 (some .boolean)] ++ wsX50)
def wsX5_blocksSent : List Cond := .code yX5_blocksSent cX5_blocksSent 1 (some .int) :: ([.fieldLink RX5 7 "PathSounderModel" "state" "[I"] ++ wsX50)
def wsX5_pairs : List Cond := .code yX5_pairs cX5_pairs 3 (some .int) :: ([.fieldLink RX5 7 "PathSounderModel" "state" "[I"] ++ wsX50)
def wsX5_count : List Cond := .code yX5_count cX5_count 2 (some .int) :: ([.fieldLink RX5 7 "PathSounderModel" "state" "[I", .fieldLink RX5 16 "PathSounderModel" "isKept" "[Z", .methodLink RX5 31 yX5_isLink, .instanceMethod yX5_isLink, .selects RX5 yX5_isLink yX5_isLink, .initialized RX5, .code yX5_isLink cX5_isLink 2 (some .boolean), .methodLink RX5 27 yX5_in, .static yX5_in, .code yX5_in cX5_in 3 (some .boolean), .methodLink RX5 39 yX5_linkOf, .instanceMethod yX5_linkOf, .selects RX5 yX5_linkOf yX5_linkOf, .code yX5_linkOf cX5_linkOf 3 (some .int), .methodLink RX5 98 yX5_blocksSent, .instanceMethod yX5_blocksSent, .selects RX5 yX5_blocksSent yX5_blocksSent, .code yX5_blocksSent cX5_blocksSent 1 (some .int), .methodLink RX5 102 yX5_pairs, .instanceMethod yX5_pairs, .selects RX5 yX5_pairs yX5_pairs, .code yX5_pairs cX5_pairs 3 (some .int)] ++ wsX50)
def wsJ9_min_7cf53 : List Cond := .code yJ9_min_7cf53 cJ9_min_7cf53 2 (some .int) :: ([])
def wsL_law_r1 : List Cond := [Cond.classLink RL 7 RX4, Cond.instantiable RX4 4, Cond.initialized RX4, Cond.classLink RL 10 RX5, Cond.instantiable RX5 4, Cond.initialized RX5, Cond.methodLink RL 9 yX4_init, Cond.instanceMethod yX4_init, Cond.code yX4_init cX4_init 1 none, Cond.methodLink RX4 3 objectInit, Cond.instanceMethod objectInit, Cond.code objectInit ⟨#[0xb1]⟩ 1 none, Cond.classLink RX4 9 RX3, Cond.instantiable RX3 8, Cond.initialized RX3, Cond.fieldLink RX4 12 "PathSounder" "now" "LPathSounder$World;", Cond.fieldLink RX4 16 "PathSounder" "image0" "LPathSounder$World;", Cond.fieldLink RX4 19 "PathSounder" "image1" "LPathSounder$World;", Cond.fieldLink RX4 22 "PathSounder" "imagesKept" "I", Cond.instanceMethod yX3_init, Cond.code yX3_init cX3_init 1 none, Cond.methodLink RX3 3 objectInit, Cond.fieldLink RX3 9 "PathSounder$World" "many" "I", Cond.fieldLink RX3 15 "PathSounder$World" "time" "I"]
def wsL_law_r2 : List Cond := [Cond.fieldLink RX3 18 "PathSounder$World" "sent" "I", Cond.fieldLink RX3 21 "PathSounder$World" "block" "I", Cond.arrayClass .int, Cond.fieldLink RX3 24 "PathSounder$World" "clocks" "[I", Cond.classLink RX3 28 RX1, Cond.instantiable RX1 1, Cond.initialized RX1, Cond.fieldLink RX3 31 "PathSounder$World" "links" "LPathSounder$Links;", Cond.classLink RX3 35 RX2, Cond.instantiable RX2 2, Cond.initialized RX2, Cond.fieldLink RX3 38 "PathSounder$World" "tally" "LPathSounder$Tally;", Cond.classLink RX3 42 RX0, Cond.instantiable RX0 2, Cond.initialized RX0, Cond.fieldLink RX3 45 "PathSounder$World" "bounds" "LPathSounder$Bounds;", Cond.instanceMethod yX1_init, Cond.code yX1_init cX1_init 1 none, Cond.methodLink RX1 3 objectInit, Cond.fieldLink RX1 9 "PathSounder$Links" "numbers" "[I", Cond.instanceMethod yX2_init, Cond.code yX2_init cX2_init 1 none, Cond.methodLink RX2 3 objectInit, Cond.fieldLink RX2 9 "PathSounder$Tally" "counts" "[I"]
def wsL_law_r3 : List Cond := [Cond.fieldLink RX2 15 "PathSounder$Tally" "sums" "[I", Cond.instanceMethod yX0_init, Cond.code yX0_init cX0_init 1 none, Cond.methodLink RX0 3 objectInit, Cond.fieldLink RX0 9 "PathSounder$Bounds" "most" "[I", Cond.fieldLink RX0 15 "PathSounder$Bounds" "reach" "[I", Cond.methodLink RX4 26 yX3_begin, Cond.instanceMethod yX3_begin, Cond.selects RX3 yX3_begin yX3_begin, Cond.code yX3_begin cX3_begin 2 none, Cond.methodLink RX3 49 yJ7_fill_53178, Cond.static yJ7_fill_53178, Cond.initialized RJ7, Cond.code yJ7_fill_53178 cJ7_fill_53178 4 none, Cond.methodLink RX3 55 yX1_begin, Cond.instanceMethod yX1_begin, Cond.selects RX1 yX1_begin yX1_begin, Cond.code yX1_begin cX1_begin 2 none, Cond.methodLink RX1 18 arraycopyName, Cond.native arraycopyName, Cond.static arraycopyName, Cond.initialized "java/lang/System", Cond.methodLink RX3 58 yX2_begin, Cond.instanceMethod yX2_begin]
def wsL_law_r4 : List Cond := [Cond.selects RX2 yX2_begin yX2_begin, Cond.code yX2_begin cX2_begin 1 none, Cond.methodLink RX2 18 yJ7_fill_53178, Cond.methodLink RX3 59 yX0_begin, Cond.instanceMethod yX0_begin, Cond.selects RX0 yX0_begin yX0_begin, Cond.code yX0_begin cX0_begin 1 none, Cond.constant RX0 18 (1000000000), Cond.methodLink RX0 19 yJ7_fill_53178, Cond.methodLink RL 12 yX5_init, Cond.instanceMethod yX5_init, Cond.code yX5_init cX5_init 1 none, Cond.methodLink RX5 1 objectInit, Cond.fieldLink RX5 7 "PathSounderModel" "state" "[I", Cond.fieldLink RX5 13 "PathSounderModel" "images" "[I", Cond.arrayClass .boolean, Cond.fieldLink RX5 16 "PathSounderModel" "isKept" "[Z", Cond.fieldLink RX5 20 "PathSounderModel" "least" "[I", Cond.methodLink RX5 23 yX5_begin, Cond.instanceMethod yX5_begin, Cond.selects RX5 yX5_begin yX5_begin, Cond.code yX5_begin cX5_begin 3 none, Cond.methodLink RL 13 yX4_nodes, Cond.instanceMethod yX4_nodes]
def wsL_law_r5 : List Cond := [Cond.selects RX4 yX4_nodes yX4_nodes, Cond.code yX4_nodes cX4_nodes 3 (some .int), Cond.fieldLink RX4 34 "PathSounder$World" "many" "I", Cond.methodLink RX4 30 yX4_within, Cond.static yX4_within, Cond.code yX4_within cX4_within 3 (some .boolean), Cond.methodLink RL 17 yX5_nodes, Cond.instanceMethod yX5_nodes, Cond.selects RX5 yX5_nodes yX5_nodes, Cond.code yX5_nodes cX5_nodes 3 (some .int), Cond.methodLink RX5 27 yX5_in, Cond.static yX5_in, Cond.code yX5_in cX5_in 3 (some .boolean), Cond.methodLink RL 18 yX4_link, Cond.instanceMethod yX4_link, Cond.selects RX4 yX4_link yX4_link, Cond.code yX4_link cX4_link 5 (some .int), Cond.fieldLink RX4 41 "PathSounder" "LINK_LEAST" "[I", Cond.fieldLink RX4 45 "PathSounder" "LINK_MOST" "[I", Cond.fieldLink RX4 48 "PathSounder$World" "links" "LPathSounder$Links;", Cond.methodLink RX4 37 yX3_hasLink, Cond.instanceMethod yX3_hasLink, Cond.selects RX3 yX3_hasLink yX3_hasLink, Cond.code yX3_hasLink cX3_hasLink 2 (some .boolean)]
def wsL_law_r6 : List Cond := [Cond.methodLink RX4 52 yX1_read, Cond.instanceMethod yX1_read, Cond.selects RX1 yX1_read yX1_read, Cond.code yX1_read cX1_read 3 (some .int), Cond.methodLink RX4 58 yX1_write, Cond.instanceMethod yX1_write, Cond.selects RX1 yX1_write yX1_write, Cond.code yX1_write cX1_write 4 none, Cond.methodLink RL 22 yX5_link, Cond.instanceMethod yX5_link, Cond.selects RX5 yX5_link yX5_link, Cond.code yX5_link cX5_link 5 (some .int), Cond.methodLink RX5 31 yX5_isLink, Cond.instanceMethod yX5_isLink, Cond.selects RX5 yX5_isLink yX5_isLink, Cond.code yX5_isLink cX5_isLink 2 (some .boolean), Cond.methodLink RX5 35 yX5_canBe, Cond.static yX5_canBe, Cond.code yX5_canBe cX5_canBe 2 (some .boolean), Cond.methodLink RX5 39 yX5_linkOf, Cond.instanceMethod yX5_linkOf, Cond.selects RX5 yX5_linkOf yX5_linkOf, Cond.code yX5_linkOf cX5_linkOf 3 (some .int), Cond.methodLink RL 23 yX4_clock]
def wsL_law_r7 : List Cond := [Cond.instanceMethod yX4_clock, Cond.selects RX4 yX4_clock yX4_clock, Cond.code yX4_clock cX4_clock 4 (some .int), Cond.constant RX4 65 (-1000000001), Cond.constant RX4 66 (-1000000002), Cond.fieldLink RX4 67 "PathSounder$World" "sent" "I", Cond.constant RX4 70 (-1000000003), Cond.fieldLink RX4 71 "PathSounder$World" "clocks" "[I", Cond.fieldLink RX4 74 "PathSounder$World" "bounds" "LPathSounder$Bounds;", Cond.methodLink RX4 62 yX3_hasNode, Cond.instanceMethod yX3_hasNode, Cond.selects RX3 yX3_hasNode yX3_hasNode, Cond.code yX3_hasNode cX3_hasNode 2 (some .boolean), Cond.methodLink RX4 78 yX0_forget, Cond.instanceMethod yX0_forget, Cond.selects RX0 yX0_forget yX0_forget, Cond.code yX0_forget cX0_forget 3 none, Cond.methodLink RX0 31 yX0_cell, Cond.static yX0_cell, Cond.code yX0_cell cX0_cell 2 (some .int), Cond.methodLink RL 27 yX5_clock, Cond.instanceMethod yX5_clock, Cond.selects RX5 yX5_clock yX5_clock, Cond.code yX5_clock cX5_clock 5 (some .int)]
def wsL_law_r8 : List Cond := [Cond.constant RX5 46 (-1000000001), Cond.constant RX5 47 (-1000000002), Cond.constant RX5 48 (-1000000003), Cond.methodLink RX5 43 yX5_isNode, Cond.instanceMethod yX5_isNode, Cond.selects RX5 yX5_isNode yX5_isNode, Cond.code yX5_isNode cX5_isNode 2 (some .boolean), Cond.methodLink RL 28 yX4_block, Cond.instanceMethod yX4_block, Cond.selects RX4 yX4_block yX4_block, Cond.code yX4_block cX4_block 3 (some .int), Cond.fieldLink RX4 83 "PathSounder$World" "block" "I", Cond.methodLink RL 31 yX5_block, Cond.instanceMethod yX5_block, Cond.selects RX5 yX5_block yX5_block, Cond.code yX5_block cX5_block 3 (some .int), Cond.methodLink RL 32 yX4_pause, Cond.instanceMethod yX4_pause, Cond.selects RX4 yX4_pause yX4_pause, Cond.code yX4_pause cX4_pause 2 (some .int), Cond.fieldLink RX4 86 "PathSounder$World" "time" "I", Cond.methodLink RL 35 yX5_pause, Cond.instanceMethod yX5_pause, Cond.selects RX5 yX5_pause yX5_pause]
def wsL_law_r9 : List Cond := [Cond.code yX5_pause cX5_pause 2 (some .int), Cond.methodLink RL 36 yX4_send, Cond.instanceMethod yX4_send, Cond.selects RX4 yX4_send yX4_send, Cond.code yX4_send cX4_send 4 (some .int), Cond.methodLink RX4 89 yX3_sendPacket, Cond.instanceMethod yX3_sendPacket, Cond.selects RX3 yX3_sendPacket yX3_sendPacket, Cond.code yX3_sendPacket cX3_sendPacket 5 (some .boolean), Cond.static yX4_quotient, Cond.code yX4_quotient cX4_quotient 2 (some .int), Cond.methodLink RX3 84 yX2_add, Cond.instanceMethod yX2_add, Cond.selects RX2 yX2_add yX2_add, Cond.code yX2_add cX2_add 4 none, Cond.methodLink RX2 30 yX2_cell, Cond.static yX2_cell, Cond.code yX2_cell cX2_cell 2 (some .int), Cond.methodLink RX3 88 yX1_drops, Cond.instanceMethod yX1_drops, Cond.selects RX1 yX1_drops yX1_drops, Cond.code yX1_drops cX1_drops 4 (some .boolean), Cond.methodLink RX1 24 yX1_read, Cond.methodLink RX3 92 yX1_ticksThere]
def wsL_law_r10 : List Cond := [Cond.instanceMethod yX1_ticksThere, Cond.selects RX1 yX1_ticksThere yX1_ticksThere, Cond.code yX1_ticksThere cX1_ticksThere 3 (some .int), Cond.static yX4_leftOver, Cond.code yX4_leftOver cX4_leftOver 2 (some .int), Cond.methodLink RL 39 yX5_send, Cond.instanceMethod yX5_send, Cond.selects RX5 yX5_send yX5_send, Cond.code yX5_send cX5_send 4 (some .int), Cond.methodLink RX5 60 yX5_sendOne, Cond.instanceMethod yX5_sendOne, Cond.selects RX5 yX5_sendOne yX5_sendOne, Cond.code yX5_sendOne cX5_sendOne 5 (some .boolean), Cond.methodLink RX5 49 yX5_note, Cond.instanceMethod yX5_note, Cond.selects RX5 yX5_note yX5_note, Cond.code yX5_note cX5_note 4 none, Cond.methodLink RX5 53 yX5_isDropped, Cond.instanceMethod yX5_isDropped, Cond.selects RX5 yX5_isDropped yX5_isDropped, Cond.code yX5_isDropped cX5_isDropped 3 (some .boolean), Cond.methodLink RX5 56 yX5_over, Cond.instanceMethod yX5_over, Cond.selects RX5 yX5_over yX5_over]
def wsL_law_r11 : List Cond := [Cond.code yX5_over cX5_over 4 (some .int), Cond.methodLink RL 40 yX4_kept, Cond.instanceMethod yX4_kept, Cond.selects RX4 yX4_kept yX4_kept, Cond.code yX4_kept cX4_kept 4 (some .int), Cond.fieldLink RX4 96 "PathSounder$World" "tally" "LPathSounder$Tally;", Cond.methodLink RX4 93 yX4_isBlock, Cond.static yX4_isBlock, Cond.code yX4_isBlock cX4_isBlock 1 (some .boolean), Cond.methodLink RX4 100 yX2_countOf, Cond.instanceMethod yX2_countOf, Cond.selects RX2 yX2_countOf yX2_countOf, Cond.code yX2_countOf cX2_countOf 3 (some .int), Cond.methodLink RX4 105 yX2_sumOf, Cond.instanceMethod yX2_sumOf, Cond.selects RX2 yX2_sumOf yX2_sumOf, Cond.code yX2_sumOf cX2_sumOf 3 (some .int), Cond.methodLink RL 43 yX5_kept, Cond.instanceMethod yX5_kept, Cond.selects RX5 yX5_kept yX5_kept, Cond.code yX5_kept cX5_kept 4 (some .int), Cond.methodLink RX5 64 yX5_isBlock, Cond.static yX5_isBlock, Cond.code yX5_isBlock cX5_isBlock 1 (some .boolean)]
def wsL_law_r12 : List Cond := [Cond.methodLink RX5 67 yX5_countOf, Cond.instanceMethod yX5_countOf, Cond.selects RX5 yX5_countOf yX5_countOf, Cond.code yX5_countOf cX5_countOf 3 (some .int), Cond.methodLink RX5 70 yX5_sumOf, Cond.instanceMethod yX5_sumOf, Cond.selects RX5 yX5_sumOf yX5_sumOf, Cond.code yX5_sumOf cX5_sumOf 3 (some .int), Cond.methodLink RL 44 yX4_lost, Cond.instanceMethod yX4_lost, Cond.selects RX4 yX4_lost yX4_lost, Cond.code yX4_lost cX4_lost 3 (some .int), Cond.methodLink RX4 108 yX2_lostOfAll, Cond.instanceMethod yX2_lostOfAll, Cond.selects RX2 yX2_lostOfAll yX2_lostOfAll, Cond.code yX2_lostOfAll cX2_lostOfAll 4 (some .int), Cond.methodLink RX2 37 yX2_lostBetween, Cond.instanceMethod yX2_lostBetween, Cond.selects RX2 yX2_lostBetween yX2_lostBetween, Cond.code yX2_lostBetween cX2_lostBetween 4 (some .int), Cond.methodLink RX2 34 yX2_countOf, Cond.methodLink RX4 112 yX2_lostBetween, Cond.methodLink RL 47 yX5_lost, Cond.instanceMethod yX5_lost]
def wsL_law_r13 : List Cond := [Cond.selects RX5 yX5_lost yX5_lost, Cond.code yX5_lost cX5_lost 5 (some .int), Cond.methodLink RX5 73 yX5_lostOf, Cond.instanceMethod yX5_lostOf, Cond.selects RX5 yX5_lostOf yX5_lostOf, Cond.code yX5_lostOf cX5_lostOf 3 (some .int), Cond.methodLink RL 48 yX4_took, Cond.instanceMethod yX4_took, Cond.selects RX4 yX4_took yX4_took, Cond.code yX4_took cX4_took 6 (some .int), Cond.constant RX4 120 (-1000000000), Cond.constant RX4 124 (-1000000005), Cond.methodLink RX4 116 yX4_tookRefusal, Cond.instanceMethod yX4_tookRefusal, Cond.selects RX4 yX4_tookRefusal yX4_tookRefusal, Cond.code yX4_tookRefusal cX4_tookRefusal 6 (some .int), Cond.methodLink RX4 137 yX4_pairRefusal, Cond.instanceMethod yX4_pairRefusal, Cond.selects RX4 yX4_pairRefusal yX4_pairRefusal, Cond.code yX4_pairRefusal cX4_pairRefusal 3 (some .int), Cond.methodLink RX4 121 yX2_hasTook, Cond.instanceMethod yX2_hasTook, Cond.selects RX2 yX2_hasTook yX2_hasTook, Cond.code yX2_hasTook cX2_hasTook 4 (some .boolean)]
def wsL_law_r14 : List Cond := [Cond.methodLink RX4 125 yX2_tookUpper, Cond.instanceMethod yX2_tookUpper, Cond.selects RX2 yX2_tookUpper yX2_tookUpper, Cond.code yX2_tookUpper cX2_tookUpper 4 (some .int), Cond.methodLink RX2 41 yX2_sumOf, Cond.methodLink RX4 128 yX4_fractionPart, Cond.static yX4_fractionPart, Cond.code yX4_fractionPart cX4_fractionPart 3 (some .int), Cond.methodLink RX4 176 yX4_greatestDivisor, Cond.static yX4_greatestDivisor, Cond.code yX4_greatestDivisor cX4_greatestDivisor 3 (some .int), Cond.methodLink RX4 179 yX4_quotient, Cond.methodLink RL 52 yX5_took, Cond.instanceMethod yX5_took, Cond.selects RX5 yX5_took yX5_took, Cond.code yX5_took cX5_took 5 (some .int), Cond.constant RX5 82 (-1000000005), Cond.methodLink RX5 79 yX5_isTaken, Cond.instanceMethod yX5_isTaken, Cond.selects RX5 yX5_isTaken yX5_isTaken, Cond.code yX5_isTaken cX5_isTaken 4 (some .boolean), Cond.methodLink RX5 83 yX5_told, Cond.static yX5_told, Cond.code yX5_told cX5_told 4 (some .int)]
def wsL_law_r15 : List Cond := [Cond.methodLink RX5 76 yX5_common, Cond.static yX5_common, Cond.code yX5_common cX5_common 5 (some .int), Cond.methodLink RL 53 yX4_first, Cond.instanceMethod yX4_first, Cond.selects RX4 yX4_first yX4_first, Cond.code yX4_first cX4_first 5 (some .int), Cond.methodLink RX4 131 yX3_firstBlockAbove, Cond.instanceMethod yX3_firstBlockAbove, Cond.selects RX3 yX3_firstBlockAbove yX3_firstBlockAbove, Cond.code yX3_firstBlockAbove cX3_firstBlockAbove 3 (some .int), Cond.methodLink RX3 102 yX2_lostBetween, Cond.methodLink RX4 134 yX3_firstLinkThatLost, Cond.instanceMethod yX3_firstLinkThatLost, Cond.selects RX3 yX3_firstLinkThatLost yX3_firstLinkThatLost, Cond.code yX3_firstLinkThatLost cX3_firstLinkThatLost 3 (some .int), Cond.methodLink RL 56 yX5_first, Cond.instanceMethod yX5_first, Cond.selects RX5 yX5_first yX5_first, Cond.code yX5_first cX5_first 4 (some .int), Cond.methodLink RX5 86 yX5_lostInBlock, Cond.instanceMethod yX5_lostInBlock, Cond.selects RX5 yX5_lostInBlock yX5_lostInBlock, Cond.code yX5_lostInBlock cX5_lostInBlock 2 (some .int)]
def wsL_law_r16 : List Cond := [Cond.methodLink RX5 90 yX5_firstLink, Cond.instanceMethod yX5_firstLink, Cond.selects RX5 yX5_firstLink yX5_firstLink, Cond.code yX5_firstLink cX5_firstLink 3 (some .int), Cond.methodLink RL 57 yX4_sound, Cond.instanceMethod yX4_sound, Cond.selects RX4 yX4_sound yX4_sound, Cond.code yX4_sound cX4_sound 4 (some .int), Cond.methodLink RX4 140 yX3_soundPath, Cond.instanceMethod yX3_soundPath, Cond.selects RX3 yX3_soundPath yX3_soundPath, Cond.code yX3_soundPath cX3_soundPath 10 (some .int), Cond.methodLink RX3 95 yX1_ticksBack, Cond.instanceMethod yX1_ticksBack, Cond.selects RX1 yX1_ticksBack yX1_ticksBack, Cond.code yX1_ticksBack cX1_ticksBack 3 (some .int), Cond.methodLink RX3 98 yX0_narrow, Cond.instanceMethod yX0_narrow, Cond.selects RX0 yX0_narrow yX0_narrow, Cond.code yX0_narrow cX0_narrow 5 none, Cond.methodLink RX0 35 Lib.Math.min.name, Cond.static Lib.Math.min.name, Cond.initialized "java/lang/Math", Cond.code Lib.Math.min.name Lib.Math.min.code 2 (some .int)]
def wsL_law_r17 : List Cond := [Cond.methodLink RL 60 yX5_sound, Cond.instanceMethod yX5_sound, Cond.selects RX5 yX5_sound yX5_sound, Cond.code yX5_sound cX5_sound 11 (some .int), Cond.methodLink RL 61 yX4_apart, Cond.instanceMethod yX4_apart, Cond.selects RX4 yX4_apart yX4_apart, Cond.code yX4_apart cX4_apart 5 (some .int), Cond.constant RX4 147 (-1000000006), Cond.methodLink RX4 143 yX0_hasBoth, Cond.instanceMethod yX0_hasBoth, Cond.selects RX0 yX0_hasBoth yX0_hasBoth, Cond.code yX0_hasBoth cX0_hasBoth 3 (some .boolean), Cond.methodLink RX4 148 yX0_low, Cond.instanceMethod yX0_low, Cond.selects RX0 yX0_low yX0_low, Cond.code yX0_low cX0_low 3 (some .int), Cond.methodLink RX4 151 yX0_high, Cond.instanceMethod yX0_high, Cond.selects RX0 yX0_high yX0_high, Cond.code yX0_high cX0_high 3 (some .int), Cond.methodLink RL 64 yX5_apart, Cond.instanceMethod yX5_apart, Cond.selects RX5 yX5_apart yX5_apart]
def wsL_law_r18 : List Cond := [Cond.code yX5_apart cX5_apart 5 (some .int), Cond.constant RX5 93 (-1000000006), Cond.methodLink RL 65 yX4_tight, Cond.instanceMethod yX4_tight, Cond.selects RX4 yX4_tight yX4_tight, Cond.code yX4_tight cX4_tight 4 (some .int), Cond.constant RX4 157 (1000000000), Cond.methodLink RX4 154 yX0_tightest, Cond.instanceMethod yX0_tightest, Cond.selects RX0 yX0_tightest yX0_tightest, Cond.code yX0_tightest cX0_tightest 5 (some .int), Cond.methodLink RX0 44 yX0_stepFrom, Cond.instanceMethod yX0_stepFrom, Cond.selects RX0 yX0_stepFrom yX0_stepFrom, Cond.code yX0_stepFrom cX0_stepFrom 4 none, Cond.methodLink RL 68 yX5_tight, Cond.instanceMethod yX5_tight, Cond.selects RX5 yX5_tight yX5_tight, Cond.code yX5_tight cX5_tight 4 (some .int), Cond.constant RX5 94 (1000000), Cond.methodLink RX5 95 yX5_layLeast, Cond.instanceMethod yX5_layLeast, Cond.selects RX5 yX5_layLeast yX5_layLeast, Cond.code yX5_layLeast cX5_layLeast 5 none]
def wsL_law_r19 : List Cond := [Cond.methodLink RL 69 yX4_truth, Cond.instanceMethod yX4_truth, Cond.selects RX4 yX4_truth yX4_truth, Cond.code yX4_truth cX4_truth 10 (some .int), Cond.methodLink RL 73 yX5_truth, Cond.instanceMethod yX5_truth, Cond.selects RX5 yX5_truth yX5_truth, Cond.code yX5_truth cX5_truth 9 (some .int), Cond.methodLink RL 74 yX4_image, Cond.instanceMethod yX4_image, Cond.selects RX4 yX4_image yX4_image, Cond.code yX4_image cX4_image 2 (some .int), Cond.methodLink RX4 158 yX4_imageAt, Cond.instanceMethod yX4_imageAt, Cond.selects RX4 yX4_imageAt yX4_imageAt, Cond.code yX4_imageAt cX4_imageAt 2 (some (.object "PathSounder$World")), Cond.methodLink RX4 162 yX3_copyFrom, Cond.instanceMethod yX3_copyFrom, Cond.selects RX3 yX3_copyFrom yX3_copyFrom, Cond.code yX3_copyFrom cX3_copyFrom 2 none, Cond.methodLink RX3 60 arraycopyName, Cond.methodLink RX3 66 yX1_copyFrom, Cond.instanceMethod yX1_copyFrom, Cond.selects RX1 yX1_copyFrom yX1_copyFrom]
def wsL_law_r20 : List Cond := [Cond.code yX1_copyFrom cX1_copyFrom 2 none, Cond.methodLink RX3 70 yX2_copyFrom, Cond.instanceMethod yX2_copyFrom, Cond.selects RX2 yX2_copyFrom yX2_copyFrom, Cond.code yX2_copyFrom cX2_copyFrom 2 none, Cond.methodLink RX2 24 arraycopyName, Cond.methodLink RX3 73 yX0_copyFrom, Cond.instanceMethod yX0_copyFrom, Cond.selects RX0 yX0_copyFrom yX0_copyFrom, Cond.code yX0_copyFrom cX0_copyFrom 2 none, Cond.methodLink RX0 25 arraycopyName, Cond.methodLink RL 77 yX5_image, Cond.instanceMethod yX5_image, Cond.selects RX5 yX5_image yX5_image, Cond.code yX5_image cX5_image 3 (some .int), Cond.methodLink RL 78 yX4_restore, Cond.instanceMethod yX4_restore, Cond.selects RX4 yX4_restore yX4_restore, Cond.code yX4_restore cX4_restore 2 (some .int), Cond.methodLink RL 81 yX5_restore, Cond.instanceMethod yX5_restore, Cond.selects RX5 yX5_restore yX5_restore, Cond.code yX5_restore cX5_restore 3 (some .int), Cond.methodLink RL 82 yX4_count]
def wsL_law_r21 : List Cond := [Cond.instanceMethod yX4_count, Cond.selects RX4 yX4_count yX4_count, Cond.code yX4_count cX4_count 2 (some .int), Cond.methodLink RX4 166 yX2_blocksSent, Cond.instanceMethod yX2_blocksSent, Cond.selects RX2 yX2_blocksSent yX2_blocksSent, Cond.code yX2_blocksSent cX2_blocksSent 3 (some .int), Cond.methodLink RX4 170 yX0_pairs, Cond.instanceMethod yX0_pairs, Cond.selects RX0 yX0_pairs yX0_pairs, Cond.code yX0_pairs cX0_pairs 4 (some .int), Cond.methodLink RX0 40 yX0_hasBoth, Cond.methodLink RX4 173 yX4_linkNumber, Cond.instanceMethod yX4_linkNumber, Cond.selects RX4 yX4_linkNumber yX4_linkNumber, Cond.code yX4_linkNumber cX4_linkNumber 4 (some .int), Cond.methodLink RL 85 yX5_count, Cond.instanceMethod yX5_count, Cond.selects RX5 yX5_count yX5_count, Cond.code yX5_count cX5_count 2 (some .int), Cond.methodLink RX5 98 yX5_blocksSent, Cond.instanceMethod yX5_blocksSent, Cond.selects RX5 yX5_blocksSent yX5_blocksSent, Cond.code yX5_blocksSent cX5_blocksSent 1 (some .int)]
def wsL_law_r22 : List Cond := [Cond.methodLink RX5 102 yX5_pairs, Cond.instanceMethod yX5_pairs, Cond.selects RX5 yX5_pairs yX5_pairs, Cond.code yX5_pairs cX5_pairs 3 (some .int)]
def wsL_law : List Cond := (wsL_law_r1 ++ (wsL_law_r2 ++ (wsL_law_r3 ++ (wsL_law_r4 ++ (wsL_law_r5 ++ (wsL_law_r6 ++ (wsL_law_r7 ++ (wsL_law_r8 ++ (wsL_law_r9 ++ (wsL_law_r10 ++ (wsL_law_r11 ++ (wsL_law_r12 ++ (wsL_law_r13 ++ (wsL_law_r14 ++ (wsL_law_r15 ++ (wsL_law_r16 ++ (wsL_law_r17 ++ (wsL_law_r18 ++ (wsL_law_r19 ++ (wsL_law_r20 ++ (wsL_law_r21 ++ wsL_law_r22))))))))))))))))))))) ++ wsX40 ++ wsX50 ++ wsX30 ++ wsX10 ++ wsX20 ++ wsX00 ++ ([] : List Cond)
set_option maxRecDepth 20000 in
theorem mem_ps {big ws : List Cond} (ps : List Nat) (hp : ws = ps.filterMap (fun i => big[i]?)) : ∀ w ∈ ws, w ∈ big := by
  intro w hw
  rw [hp] at hw
  obtain ⟨i, -, hi⟩ := List.mem_filterMap.mp hw
  exact List.mem_of_getElem? hi
set_option maxRecDepth 20000 in
theorem inT_wsL_law_r1 : ∀ w ∈ wsL_law_r1, w ∈ lw_tbl := mem_ps [32, 33, 23, 413, 414, 30, 34, 35, 36, 37, 38, 39, 40, 41, 24, 143, 144, 145, 146, 43, 44, 45, 83, 85] (by decide +kernel)
set_option maxRecDepth 20000 in
theorem inT_wsL_law_r2 : ∀ w ∈ wsL_law_r2, w ∈ lw_tbl := mem_ps [87, 89, 56, 91, 46, 47, 25, 93, 57, 58, 26, 95, 70, 71, 27, 97, 49, 50, 51, 52, 60, 61, 62, 63] (by decide +kernel)
set_option maxRecDepth 20000 in
theorem inT_wsL_law_r3 : ∀ w ∈ wsL_law_r3, w ∈ lw_tbl := mem_ps [64, 73, 74, 75, 76, 77, 116, 117, 118, 119, 120, 121, 28, 122, 123, 124, 125, 126, 129, 131, 130, 29, 132, 133] (by decide +kernel)
set_option maxRecDepth 20000 in
theorem inT_wsL_law_r4 : ∀ w ∈ wsL_law_r4, w ∈ lw_tbl := mem_ps [134, 135, 136, 137, 138, 139, 140, 141, 142, 415, 416, 417, 418, 423, 424, 436, 425, 426, 419, 421, 5, 422, 156, 157] (by decide +kernel)
set_option maxRecDepth 20000 in
theorem inT_wsL_law_r5 : ∀ w ∈ wsL_law_r5, w ∈ lw_tbl := mem_ps [158, 159, 84, 160, 161, 162, 437, 438, 439, 440, 441, 442, 443, 163, 164, 165, 166, 172, 174, 94, 167, 168, 169, 170] (by decide +kernel)
set_option maxRecDepth 20000 in
theorem inT_wsL_law_r6 : ∀ w ∈ wsL_law_r6, w ∈ lw_tbl := mem_ps [176, 177, 178, 179, 180, 181, 182, 183, 444, 445, 446, 447, 448, 450, 6, 451, 452, 453, 454, 455, 457, 7, 458, 184] (by decide +kernel)
set_option maxRecDepth 20000 in
theorem inT_wsL_law_r7 : ∀ w ∈ wsL_law_r7, w ∈ lw_tbl := mem_ps [185, 186, 187, 192, 193, 88, 194, 92, 98, 188, 189, 190, 191, 195, 196, 197, 198, 199, 200, 201, 459, 460, 461, 462] (by decide +kernel)
set_option maxRecDepth 20000 in
theorem inT_wsL_law_r8 : ∀ w ∈ wsL_law_r8, w ∈ lw_tbl := mem_ps [467, 468, 469, 463, 465, 8, 466, 202, 203, 204, 205, 90, 470, 471, 472, 473, 206, 207, 208, 209, 86, 474, 475, 476] (by decide +kernel)
set_option maxRecDepth 20000 in
theorem inT_wsL_law_r9 : ∀ w ∈ wsL_law_r9, w ∈ lw_tbl := mem_ps [477, 210, 211, 212, 213, 214, 215, 216, 217, 219, 220, 221, 222, 223, 224, 225, 226, 227, 228, 229, 230, 231, 232, 233] (by decide +kernel)
set_option maxRecDepth 20000 in
theorem inT_wsL_law_r10 : ∀ w ∈ wsL_law_r10, w ∈ lw_tbl := mem_ps [234, 235, 236, 238, 239, 478, 479, 480, 481, 482, 484, 9, 485, 486, 488, 10, 489, 490, 492, 11, 493, 494, 496, 12] (by decide +kernel)
set_option maxRecDepth 20000 in
theorem inT_wsL_law_r11 : ∀ w ∈ wsL_law_r11, w ∈ lw_tbl := mem_ps [497, 240, 241, 242, 243, 96, 244, 245, 246, 247, 248, 249, 250, 251, 252, 253, 254, 498, 499, 500, 501, 502, 503, 504] (by decide +kernel)
set_option maxRecDepth 20000 in
theorem inT_wsL_law_r12 : ∀ w ∈ wsL_law_r12, w ∈ lw_tbl := mem_ps [505, 507, 13, 508, 509, 511, 14, 512, 255, 256, 257, 258, 259, 260, 261, 262, 263, 264, 265, 266, 267, 268, 513, 514] (by decide +kernel)
set_option maxRecDepth 20000 in
theorem inT_wsL_law_r13 : ∀ w ∈ wsL_law_r13, w ∈ lw_tbl := mem_ps [515, 516, 517, 519, 15, 520, 269, 270, 271, 272, 281, 286, 273, 275, 0, 276, 277, 279, 1, 280, 282, 283, 284, 285] (by decide +kernel)
set_option maxRecDepth 20000 in
theorem inT_wsL_law_r14 : ∀ w ∈ wsL_law_r14, w ∈ lw_tbl := mem_ps [287, 288, 289, 290, 291, 292, 293, 294, 295, 296, 297, 298, 521, 522, 523, 524, 529, 525, 527, 16, 528, 530, 531, 532] (by decide +kernel)
set_option maxRecDepth 20000 in
theorem inT_wsL_law_r15 : ∀ w ∈ wsL_law_r15, w ∈ lw_tbl := mem_ps [533, 534, 535, 299, 300, 301, 302, 303, 304, 305, 306, 307, 308, 309, 310, 311, 536, 537, 538, 539, 540, 542, 17, 543] (by decide +kernel)
set_option maxRecDepth 20000 in
theorem inT_wsL_law_r16 : ∀ w ∈ wsL_law_r16, w ∈ lw_tbl := mem_ps [544, 546, 18, 547, 312, 313, 314, 315, 316, 317, 318, 319, 320, 321, 322, 323, 324, 325, 326, 327, 328, 329, 31, 330] (by decide +kernel)
set_option maxRecDepth 20000 in
theorem inT_wsL_law_r17 : ∀ w ∈ wsL_law_r17, w ∈ lw_tbl := mem_ps [548, 549, 550, 551, 331, 332, 333, 334, 339, 335, 336, 337, 338, 340, 341, 342, 343, 344, 345, 346, 347, 552, 553, 554] (by decide +kernel)
set_option maxRecDepth 20000 in
theorem inT_wsL_law_r18 : ∀ w ∈ wsL_law_r18, w ∈ lw_tbl := mem_ps [555, 556, 348, 349, 350, 351, 360, 352, 353, 354, 355, 356, 358, 2, 359, 557, 558, 559, 560, 565, 561, 563, 19, 564] (by decide +kernel)
set_option maxRecDepth 20000 in
theorem inT_wsL_law_r19 : ∀ w ∈ wsL_law_r19, w ∈ lw_tbl := mem_ps [361, 362, 363, 364, 566, 567, 568, 569, 365, 366, 367, 368, 369, 371, 3, 372, 373, 374, 375, 376, 377, 378, 379, 380] (by decide +kernel)
set_option maxRecDepth 20000 in
theorem inT_wsL_law_r20 : ∀ w ∈ wsL_law_r20, w ∈ lw_tbl := mem_ps [381, 382, 383, 384, 385, 386, 387, 388, 389, 390, 391, 570, 571, 572, 573, 392, 393, 394, 395, 574, 575, 576, 577, 396] (by decide +kernel)
set_option maxRecDepth 20000 in
theorem inT_wsL_law_r21 : ∀ w ∈ wsL_law_r21, w ∈ lw_tbl := mem_ps [397, 398, 399, 400, 401, 402, 403, 404, 405, 406, 407, 408, 409, 411, 4, 412, 578, 579, 580, 581, 582, 584, 20, 585] (by decide +kernel)
set_option maxRecDepth 20000 in
theorem inT_wsL_law_r22 : ∀ w ∈ wsL_law_r22, w ∈ lw_tbl := mem_ps [586, 588, 21, 589] (by decide +kernel)
set_option maxRecDepth 20000 in
theorem inT_wsX40 : ∀ w ∈ wsX40, w ∈ lw_tbl := mem_ps [147, 149, 151, 153] (by decide +kernel)
set_option maxRecDepth 20000 in
theorem inT_wsX50 : ∀ w ∈ wsX50, w ∈ lw_tbl := mem_ps [427, 429, 431, 433] (by decide +kernel)
set_option maxRecDepth 20000 in
theorem inT_wsX30 : ∀ w ∈ wsX30, w ∈ lw_tbl := mem_ps [99, 101, 103, 105, 107, 109, 111, 113] (by decide +kernel)
set_option maxRecDepth 20000 in
theorem inT_wsX10 : ∀ w ∈ wsX10, w ∈ lw_tbl := mem_ps [53] (by decide +kernel)
set_option maxRecDepth 20000 in
theorem inT_wsX20 : ∀ w ∈ wsX20, w ∈ lw_tbl := mem_ps [65, 67] (by decide +kernel)
set_option maxRecDepth 20000 in
theorem inT_wsX00 : ∀ w ∈ wsX00, w ∈ lw_tbl := mem_ps [78, 80] (by decide +kernel)
theorem wsL_law_in : ∀ w ∈ wsL_law, w ∈ lw_tbl := List.forall_mem_append.mpr ⟨(List.forall_mem_append.mpr ⟨(List.forall_mem_append.mpr ⟨(List.forall_mem_append.mpr ⟨(List.forall_mem_append.mpr ⟨(List.forall_mem_append.mpr ⟨(List.forall_mem_append.mpr ⟨(List.forall_mem_append.mpr ⟨inT_wsL_law_r1, List.forall_mem_append.mpr ⟨inT_wsL_law_r2, List.forall_mem_append.mpr ⟨inT_wsL_law_r3, List.forall_mem_append.mpr ⟨inT_wsL_law_r4, List.forall_mem_append.mpr ⟨inT_wsL_law_r5, List.forall_mem_append.mpr ⟨inT_wsL_law_r6, List.forall_mem_append.mpr ⟨inT_wsL_law_r7, List.forall_mem_append.mpr ⟨inT_wsL_law_r8, List.forall_mem_append.mpr ⟨inT_wsL_law_r9, List.forall_mem_append.mpr ⟨inT_wsL_law_r10, List.forall_mem_append.mpr ⟨inT_wsL_law_r11, List.forall_mem_append.mpr ⟨inT_wsL_law_r12, List.forall_mem_append.mpr ⟨inT_wsL_law_r13, List.forall_mem_append.mpr ⟨inT_wsL_law_r14, List.forall_mem_append.mpr ⟨inT_wsL_law_r15, List.forall_mem_append.mpr ⟨inT_wsL_law_r16, List.forall_mem_append.mpr ⟨inT_wsL_law_r17, List.forall_mem_append.mpr ⟨inT_wsL_law_r18, List.forall_mem_append.mpr ⟨inT_wsL_law_r19, List.forall_mem_append.mpr ⟨inT_wsL_law_r20, List.forall_mem_append.mpr ⟨inT_wsL_law_r21, inT_wsL_law_r22⟩⟩⟩⟩⟩⟩⟩⟩⟩⟩⟩⟩⟩⟩⟩⟩⟩⟩⟩⟩⟩), inT_wsX40⟩), inT_wsX50⟩), inT_wsX30⟩), inT_wsX10⟩), inT_wsX20⟩), inT_wsX00⟩), fun _ h => absurd h List.not_mem_nil⟩
theorem inlX0 : ∀ w ∈ wsX00, w ∈ wsL_law := fun _ h => List.mem_append_left _ (List.mem_append_right _ h)
theorem inX0 : ∀ w ∈ wsX00, w ∈ lw_tbl := fun w h => wsL_law_in w (inlX0 w h)
theorem inlX1 : ∀ w ∈ wsX10, w ∈ wsL_law := fun _ h => List.mem_append_left _ (List.mem_append_left _ (List.mem_append_left _ (List.mem_append_right _ h)))
theorem inX1 : ∀ w ∈ wsX10, w ∈ lw_tbl := fun w h => wsL_law_in w (inlX1 w h)
theorem inlX2 : ∀ w ∈ wsX20, w ∈ wsL_law := fun _ h => List.mem_append_left _ (List.mem_append_left _ (List.mem_append_right _ h))
theorem inX2 : ∀ w ∈ wsX20, w ∈ lw_tbl := fun w h => wsL_law_in w (inlX2 w h)
theorem inlX3 : ∀ w ∈ wsX30, w ∈ wsL_law := fun _ h => List.mem_append_left _ (List.mem_append_left _ (List.mem_append_left _ (List.mem_append_left _ (List.mem_append_right _ h))))
theorem inX3 : ∀ w ∈ wsX30, w ∈ lw_tbl := fun w h => wsL_law_in w (inlX3 w h)
theorem inlX4 : ∀ w ∈ wsX40, w ∈ wsL_law := fun _ h => List.mem_append_left _ (List.mem_append_left _ (List.mem_append_left _ (List.mem_append_left _ (List.mem_append_left _ (List.mem_append_left _ (List.mem_append_right _ h))))))
theorem inX4 : ∀ w ∈ wsX40, w ∈ lw_tbl := fun w h => wsL_law_in w (inlX4 w h)
theorem inlX5 : ∀ w ∈ wsX50, w ∈ wsL_law := fun _ h => List.mem_append_left _ (List.mem_append_left _ (List.mem_append_left _ (List.mem_append_left _ (List.mem_append_left _ (List.mem_append_right _ h)))))
theorem inX5 : ∀ w ∈ wsX50, w ∈ lw_tbl := fun w h => wsL_law_in w (inlX5 w h)
theorem inJ9 : ∀ w ∈ wsJ90, w ∈ lw_tbl := by decide +kernel
theorem inJ10 : ∀ w ∈ wsJ100, w ∈ lw_tbl := by decide +kernel
theorem inJ7 : ∀ w ∈ wsJ70, w ∈ lw_tbl := by decide +kernel
abbrev vwCl : List vw_C := [(RX0, TX0, 2), (RX1, TX1, 1), (RX2, TX2, 2), (RX3, TX3, 8), (RX4, TX4, 4), (RX5, TX5, 4)]
end
section
theorem dX0_init_0 : decode cX0_init 0 = .ok (.aload_n 0, 1) := by decide +kernel
theorem dX0_init_1 : decode cX0_init 1 = .ok (.invokespecial 3, 3) := by decide +kernel
theorem dX0_init_4 : decode cX0_init 4 = .ok (.aload_n 0, 1) := by decide +kernel
theorem dX0_init_5 : decode cX0_init 5 = .ok (.bipush 25, 2) := by decide +kernel
theorem dX0_init_7 : decode cX0_init 7 = .ok (.newarray .int, 2) := by decide +kernel
theorem dX0_init_9 : decode cX0_init 9 = .ok (.putfield 9, 3) := by decide +kernel
theorem dX0_init_12 : decode cX0_init 12 = .ok (.aload_n 0, 1) := by decide +kernel
theorem dX0_init_13 : decode cX0_init 13 = .ok (.iconst 5, 1) := by decide +kernel
theorem dX0_init_14 : decode cX0_init 14 = .ok (.newarray .int, 2) := by decide +kernel
theorem dX0_init_16 : decode cX0_init 16 = .ok (.putfield 15, 3) := by decide +kernel
theorem dX0_init_19 : decode cX0_init 19 = .ok (.return_, 1) := by decide +kernel
set_option maxRecDepth 20000 in
theorem ggX0_begin_J7_fill_53178 : GoodIn wsX0_begin wsJ7_fill_53178 := goodIn_r _ [6] (by decide +kernel) (by decide +kernel)
set_option maxRecDepth 20000 in
theorem gX0_begin_J7_fill_53178 : GoodIn wsX0_begin (va_wsS RX0 19 yJ7_fill_53178 wsJ7_fill_53178) := goodIn_app (goodIn_of _ (by decide +kernel)) ggX0_begin_J7_fill_53178
theorem dX0_begin_0 : decode cX0_begin 0 = .ok (.aload_n 0, 1) := by decide +kernel
theorem dX0_begin_1 : decode cX0_begin 1 = .ok (.getfield 9, 3) := by decide +kernel
theorem dX0_begin_4 : decode cX0_begin 4 = .ok (.ldc 18, 2) := by decide +kernel
theorem dX0_begin_6 : decode cX0_begin 6 = .ok (.invokestatic 19, 3) := by decide +kernel
theorem dX0_begin_9 : decode cX0_begin 9 = .ok (.return_, 1) := by decide +kernel
theorem dX0_copyFrom_0 : decode cX0_copyFrom 0 = .ok (.aload_n 1, 1) := by decide +kernel
theorem dX0_copyFrom_1 : decode cX0_copyFrom 1 = .ok (.getfield 9, 3) := by decide +kernel
theorem dX0_copyFrom_4 : decode cX0_copyFrom 4 = .ok (.iconst 0, 1) := by decide +kernel
theorem dX0_copyFrom_5 : decode cX0_copyFrom 5 = .ok (.aload_n 0, 1) := by decide +kernel
theorem dX0_copyFrom_6 : decode cX0_copyFrom 6 = .ok (.getfield 9, 3) := by decide +kernel
theorem dX0_copyFrom_9 : decode cX0_copyFrom 9 = .ok (.iconst 0, 1) := by decide +kernel
theorem dX0_copyFrom_10 : decode cX0_copyFrom 10 = .ok (.aload_n 0, 1) := by decide +kernel
theorem dX0_copyFrom_11 : decode cX0_copyFrom 11 = .ok (.getfield 9, 3) := by decide +kernel
theorem dX0_copyFrom_14 : decode cX0_copyFrom 14 = .ok (.arraylength, 1) := by decide +kernel
theorem dX0_copyFrom_15 : decode cX0_copyFrom 15 = .ok (.invokestatic 25, 3) := by decide +kernel
theorem dX0_copyFrom_18 : decode cX0_copyFrom 18 = .ok (.return_, 1) := by decide +kernel
theorem dX0_cell_0 : decode cX0_cell 0 = .ok (.iload_n 0, 1) := by decide +kernel
theorem dX0_cell_1 : decode cX0_cell 1 = .ok (.iconst 5, 1) := by decide +kernel
theorem dX0_cell_2 : decode cX0_cell 2 = .ok (.imul, 1) := by decide +kernel
theorem dX0_cell_3 : decode cX0_cell 3 = .ok (.iload_n 1, 1) := by decide +kernel
theorem dX0_cell_4 : decode cX0_cell 4 = .ok (.iadd, 1) := by decide +kernel
theorem dX0_cell_5 : decode cX0_cell 5 = .ok (.ireturn, 1) := by decide +kernel
set_option maxRecDepth 20000 in
theorem ggX0_forget_X0_cell : GoodIn wsX0_forget wsX0_cell := goodIn_r _ [6] (by decide +kernel) (by decide +kernel)
set_option maxRecDepth 20000 in
theorem gX0_forget_X0_cell : GoodIn wsX0_forget (va_wsS RX0 31 yX0_cell wsX0_cell) := goodIn_app (goodIn_of _ (by decide +kernel)) ggX0_forget_X0_cell
theorem dX0_forget_0 : decode cX0_forget 0 = .ok (.iconst 0, 1) := by decide +kernel
theorem dX0_forget_1 : decode cX0_forget 1 = .ok (.istore_n 2, 1) := by decide +kernel
theorem dX0_forget_2 : decode cX0_forget 2 = .ok (.iload_n 2, 1) := by decide +kernel
theorem dX0_forget_3 : decode cX0_forget 3 = .ok (.iconst 5, 1) := by decide +kernel
theorem dX0_forget_4 : decode cX0_forget 4 = .ok (.if_icmp .ge 33, 3) := by decide +kernel
theorem dX0_forget_7 : decode cX0_forget 7 = .ok (.aload_n 0, 1) := by decide +kernel
theorem dX0_forget_8 : decode cX0_forget 8 = .ok (.getfield 9, 3) := by decide +kernel
theorem dX0_forget_11 : decode cX0_forget 11 = .ok (.iload_n 1, 1) := by decide +kernel
theorem dX0_forget_12 : decode cX0_forget 12 = .ok (.iload_n 2, 1) := by decide +kernel
theorem dX0_forget_13 : decode cX0_forget 13 = .ok (.invokestatic 31, 3) := by decide +kernel
theorem dX0_forget_16 : decode cX0_forget 16 = .ok (.ldc 18, 2) := by decide +kernel
theorem dX0_forget_18 : decode cX0_forget 18 = .ok (.iastore, 1) := by decide +kernel
theorem dX0_forget_19 : decode cX0_forget 19 = .ok (.aload_n 0, 1) := by decide +kernel
theorem dX0_forget_20 : decode cX0_forget 20 = .ok (.getfield 9, 3) := by decide +kernel
theorem dX0_forget_23 : decode cX0_forget 23 = .ok (.iload_n 2, 1) := by decide +kernel
theorem dX0_forget_24 : decode cX0_forget 24 = .ok (.iload_n 1, 1) := by decide +kernel
theorem dX0_forget_25 : decode cX0_forget 25 = .ok (.invokestatic 31, 3) := by decide +kernel
theorem dX0_forget_28 : decode cX0_forget 28 = .ok (.ldc 18, 2) := by decide +kernel
theorem dX0_forget_30 : decode cX0_forget 30 = .ok (.iastore, 1) := by decide +kernel
theorem dX0_forget_31 : decode cX0_forget 31 = .ok (.iinc 2 1, 3) := by decide +kernel
theorem dX0_forget_34 : decode cX0_forget 34 = .ok (.goto (-32), 3) := by decide +kernel
theorem dX0_forget_37 : decode cX0_forget 37 = .ok (.return_, 1) := by decide +kernel
set_option maxRecDepth 20000 in
theorem ggX0_narrow_X0_cell : GoodIn wsX0_narrow wsX0_cell := goodIn_r _ [9] (by decide +kernel) (by decide +kernel)
set_option maxRecDepth 20000 in
theorem gX0_narrow_X0_cell : GoodIn wsX0_narrow (va_wsS RX0 31 yX0_cell wsX0_cell) := goodIn_app (goodIn_of _ (by decide +kernel)) ggX0_narrow_X0_cell
theorem dX0_narrow_0 : decode cX0_narrow 0 = .ok (.aload_n 0, 1) := by decide +kernel
theorem dX0_narrow_1 : decode cX0_narrow 1 = .ok (.getfield 9, 3) := by decide +kernel
theorem dX0_narrow_4 : decode cX0_narrow 4 = .ok (.iload_n 1, 1) := by decide +kernel
theorem dX0_narrow_5 : decode cX0_narrow 5 = .ok (.iload_n 2, 1) := by decide +kernel
theorem dX0_narrow_6 : decode cX0_narrow 6 = .ok (.invokestatic 31, 3) := by decide +kernel
theorem dX0_narrow_9 : decode cX0_narrow 9 = .ok (.aload_n 0, 1) := by decide +kernel
theorem dX0_narrow_10 : decode cX0_narrow 10 = .ok (.getfield 9, 3) := by decide +kernel
theorem dX0_narrow_13 : decode cX0_narrow 13 = .ok (.iload_n 1, 1) := by decide +kernel
theorem dX0_narrow_14 : decode cX0_narrow 14 = .ok (.iload_n 2, 1) := by decide +kernel
theorem dX0_narrow_15 : decode cX0_narrow 15 = .ok (.invokestatic 31, 3) := by decide +kernel
theorem dX0_narrow_18 : decode cX0_narrow 18 = .ok (.iaload, 1) := by decide +kernel
theorem dX0_narrow_19 : decode cX0_narrow 19 = .ok (.iload_n 3, 1) := by decide +kernel
theorem dX0_narrow_20 : decode cX0_narrow 20 = .ok (.invokestatic 35, 3) := by decide +kernel
theorem dX0_narrow_23 : decode cX0_narrow 23 = .ok (.iastore, 1) := by decide +kernel
theorem dX0_narrow_24 : decode cX0_narrow 24 = .ok (.aload_n 0, 1) := by decide +kernel
theorem dX0_narrow_25 : decode cX0_narrow 25 = .ok (.getfield 9, 3) := by decide +kernel
theorem dX0_narrow_28 : decode cX0_narrow 28 = .ok (.iload_n 2, 1) := by decide +kernel
theorem dX0_narrow_29 : decode cX0_narrow 29 = .ok (.iload_n 1, 1) := by decide +kernel
theorem dX0_narrow_30 : decode cX0_narrow 30 = .ok (.invokestatic 31, 3) := by decide +kernel
theorem dX0_narrow_33 : decode cX0_narrow 33 = .ok (.aload_n 0, 1) := by decide +kernel
theorem dX0_narrow_34 : decode cX0_narrow 34 = .ok (.getfield 9, 3) := by decide +kernel
theorem dX0_narrow_37 : decode cX0_narrow 37 = .ok (.iload_n 2, 1) := by decide +kernel
theorem dX0_narrow_38 : decode cX0_narrow 38 = .ok (.iload_n 1, 1) := by decide +kernel
theorem dX0_narrow_39 : decode cX0_narrow 39 = .ok (.invokestatic 31, 3) := by decide +kernel
theorem dX0_narrow_42 : decode cX0_narrow 42 = .ok (.iaload, 1) := by decide +kernel
theorem dX0_narrow_43 : decode cX0_narrow 43 = .ok (.iload 4, 2) := by decide +kernel
theorem dX0_narrow_45 : decode cX0_narrow 45 = .ok (.ineg, 1) := by decide +kernel
theorem dX0_narrow_46 : decode cX0_narrow 46 = .ok (.invokestatic 35, 3) := by decide +kernel
theorem dX0_narrow_49 : decode cX0_narrow 49 = .ok (.iastore, 1) := by decide +kernel
theorem dX0_narrow_50 : decode cX0_narrow 50 = .ok (.return_, 1) := by decide +kernel
set_option maxRecDepth 20000 in
theorem ggX0_hasBoth_X0_cell : GoodIn wsX0_hasBoth wsX0_cell := goodIn_r _ [6] (by decide +kernel) (by decide +kernel)
set_option maxRecDepth 20000 in
theorem gX0_hasBoth_X0_cell : GoodIn wsX0_hasBoth (va_wsS RX0 31 yX0_cell wsX0_cell) := goodIn_app (goodIn_of _ (by decide +kernel)) ggX0_hasBoth_X0_cell
theorem dX0_hasBoth_0 : decode cX0_hasBoth 0 = .ok (.aload_n 0, 1) := by decide +kernel
theorem dX0_hasBoth_1 : decode cX0_hasBoth 1 = .ok (.getfield 9, 3) := by decide +kernel
theorem dX0_hasBoth_4 : decode cX0_hasBoth 4 = .ok (.iload_n 1, 1) := by decide +kernel
theorem dX0_hasBoth_5 : decode cX0_hasBoth 5 = .ok (.iload_n 2, 1) := by decide +kernel
theorem dX0_hasBoth_6 : decode cX0_hasBoth 6 = .ok (.invokestatic 31, 3) := by decide +kernel
theorem dX0_hasBoth_9 : decode cX0_hasBoth 9 = .ok (.iaload, 1) := by decide +kernel
theorem dX0_hasBoth_10 : decode cX0_hasBoth 10 = .ok (.ldc 18, 2) := by decide +kernel
theorem dX0_hasBoth_12 : decode cX0_hasBoth 12 = .ok (.if_icmp .eq 7, 3) := by decide +kernel
theorem dX0_hasBoth_15 : decode cX0_hasBoth 15 = .ok (.iconst 1, 1) := by decide +kernel
theorem dX0_hasBoth_16 : decode cX0_hasBoth 16 = .ok (.goto 4, 3) := by decide +kernel
theorem dX0_hasBoth_19 : decode cX0_hasBoth 19 = .ok (.iconst 0, 1) := by decide +kernel
theorem dX0_hasBoth_20 : decode cX0_hasBoth 20 = .ok (.ireturn, 1) := by decide +kernel
set_option maxRecDepth 20000 in
theorem ggX0_high_X0_cell : GoodIn wsX0_high wsX0_cell := goodIn_r _ [5] (by decide +kernel) (by decide +kernel)
set_option maxRecDepth 20000 in
theorem gX0_high_X0_cell : GoodIn wsX0_high (va_wsS RX0 31 yX0_cell wsX0_cell) := goodIn_app (goodIn_of _ (by decide +kernel)) ggX0_high_X0_cell
theorem dX0_high_0 : decode cX0_high 0 = .ok (.aload_n 0, 1) := by decide +kernel
theorem dX0_high_1 : decode cX0_high 1 = .ok (.getfield 9, 3) := by decide +kernel
theorem dX0_high_4 : decode cX0_high 4 = .ok (.iload_n 1, 1) := by decide +kernel
theorem dX0_high_5 : decode cX0_high 5 = .ok (.iload_n 2, 1) := by decide +kernel
theorem dX0_high_6 : decode cX0_high 6 = .ok (.invokestatic 31, 3) := by decide +kernel
theorem dX0_high_9 : decode cX0_high 9 = .ok (.iaload, 1) := by decide +kernel
theorem dX0_high_10 : decode cX0_high 10 = .ok (.ireturn, 1) := by decide +kernel
set_option maxRecDepth 20000 in
theorem ggX0_low_X0_cell : GoodIn wsX0_low wsX0_cell := goodIn_r _ [5] (by decide +kernel) (by decide +kernel)
set_option maxRecDepth 20000 in
theorem gX0_low_X0_cell : GoodIn wsX0_low (va_wsS RX0 31 yX0_cell wsX0_cell) := goodIn_app (goodIn_of _ (by decide +kernel)) ggX0_low_X0_cell
theorem dX0_low_0 : decode cX0_low 0 = .ok (.aload_n 0, 1) := by decide +kernel
theorem dX0_low_1 : decode cX0_low 1 = .ok (.getfield 9, 3) := by decide +kernel
theorem dX0_low_4 : decode cX0_low 4 = .ok (.iload_n 2, 1) := by decide +kernel
theorem dX0_low_5 : decode cX0_low 5 = .ok (.iload_n 1, 1) := by decide +kernel
theorem dX0_low_6 : decode cX0_low 6 = .ok (.invokestatic 31, 3) := by decide +kernel
theorem dX0_low_9 : decode cX0_low 9 = .ok (.iaload, 1) := by decide +kernel
theorem dX0_low_10 : decode cX0_low 10 = .ok (.ineg, 1) := by decide +kernel
theorem dX0_low_11 : decode cX0_low 11 = .ok (.ireturn, 1) := by decide +kernel
set_option maxRecDepth 20000 in
theorem ggX0_pairs_X0_hasBoth : GoodIn wsX0_pairs wsX0_hasBoth := goodIn_r _ [5, 6, 7, 8, 9, 4, 10, 11, 12] (by decide +kernel) (by decide +kernel)
set_option maxRecDepth 20000 in
theorem gX0_pairs_X0_hasBoth : GoodIn wsX0_pairs (wsV RX0 40 RX0 yX0_hasBoth wsX0_hasBoth) := goodIn_app (goodIn_of _ (by decide +kernel)) ggX0_pairs_X0_hasBoth
theorem dX0_pairs_0 : decode cX0_pairs 0 = .ok (.iconst 0, 1) := by decide +kernel
theorem dX0_pairs_1 : decode cX0_pairs 1 = .ok (.istore_n 1, 1) := by decide +kernel
theorem dX0_pairs_2 : decode cX0_pairs 2 = .ok (.iconst 0, 1) := by decide +kernel
theorem dX0_pairs_3 : decode cX0_pairs 3 = .ok (.istore_n 2, 1) := by decide +kernel
theorem dX0_pairs_4 : decode cX0_pairs 4 = .ok (.iload_n 2, 1) := by decide +kernel
theorem dX0_pairs_5 : decode cX0_pairs 5 = .ok (.iconst 5, 1) := by decide +kernel
theorem dX0_pairs_6 : decode cX0_pairs 6 = .ok (.if_icmp .ge 36, 3) := by decide +kernel
theorem dX0_pairs_9 : decode cX0_pairs 9 = .ok (.iload_n 2, 1) := by decide +kernel
theorem dX0_pairs_10 : decode cX0_pairs 10 = .ok (.iconst 1, 1) := by decide +kernel
theorem dX0_pairs_11 : decode cX0_pairs 11 = .ok (.iadd, 1) := by decide +kernel
theorem dX0_pairs_12 : decode cX0_pairs 12 = .ok (.istore_n 3, 1) := by decide +kernel
theorem dX0_pairs_13 : decode cX0_pairs 13 = .ok (.iload_n 3, 1) := by decide +kernel
theorem dX0_pairs_14 : decode cX0_pairs 14 = .ok (.iconst 5, 1) := by decide +kernel
theorem dX0_pairs_15 : decode cX0_pairs 15 = .ok (.if_icmp .ge 21, 3) := by decide +kernel
theorem dX0_pairs_18 : decode cX0_pairs 18 = .ok (.aload_n 0, 1) := by decide +kernel
theorem dX0_pairs_19 : decode cX0_pairs 19 = .ok (.iload_n 2, 1) := by decide +kernel
theorem dX0_pairs_20 : decode cX0_pairs 20 = .ok (.iload_n 3, 1) := by decide +kernel
theorem dX0_pairs_21 : decode cX0_pairs 21 = .ok (.invokevirtual 40, 3) := by decide +kernel
theorem dX0_pairs_24 : decode cX0_pairs 24 = .ok (.ifCond .eq 6, 3) := by decide +kernel
theorem dX0_pairs_27 : decode cX0_pairs 27 = .ok (.iinc 1 1, 3) := by decide +kernel
theorem dX0_pairs_30 : decode cX0_pairs 30 = .ok (.iinc 3 1, 3) := by decide +kernel
theorem dX0_pairs_33 : decode cX0_pairs 33 = .ok (.goto (-20), 3) := by decide +kernel
theorem dX0_pairs_36 : decode cX0_pairs 36 = .ok (.iinc 2 1, 3) := by decide +kernel
theorem dX0_pairs_39 : decode cX0_pairs 39 = .ok (.goto (-35), 3) := by decide +kernel
theorem dX0_pairs_42 : decode cX0_pairs 42 = .ok (.iload_n 1, 1) := by decide +kernel
theorem dX0_pairs_43 : decode cX0_pairs 43 = .ok (.ireturn, 1) := by decide +kernel
set_option maxRecDepth 20000 in
theorem ggX0_tightest_J7_fill_53178 : GoodIn wsX0_tightest wsJ7_fill_53178 := goodIn_r _ [6] (by decide +kernel) (by decide +kernel)
set_option maxRecDepth 20000 in
theorem gX0_tightest_J7_fill_53178 : GoodIn wsX0_tightest (va_wsS RX0 19 yJ7_fill_53178 wsJ7_fill_53178) := goodIn_app (goodIn_of _ (by decide +kernel)) ggX0_tightest_J7_fill_53178
set_option maxRecDepth 20000 in
theorem ggX0_tightest_X0_stepFrom : GoodIn wsX0_tightest wsX0_stepFrom := goodIn_r _ [11, 1, 2, 12, 13, 14, 15, 16, 17, 18, 10, 19, 20, 21] (by decide +kernel) (by decide +kernel)
set_option maxRecDepth 20000 in
theorem gX0_tightest_X0_stepFrom : GoodIn wsX0_tightest (wsV RX0 44 RX0 yX0_stepFrom wsX0_stepFrom) := goodIn_app (goodIn_of _ (by decide +kernel)) ggX0_tightest_X0_stepFrom
theorem dX0_tightest_0 : decode cX0_tightest 0 = .ok (.aload_n 0, 1) := by decide +kernel
theorem dX0_tightest_1 : decode cX0_tightest 1 = .ok (.getfield 15, 3) := by decide +kernel
theorem dX0_tightest_4 : decode cX0_tightest 4 = .ok (.ldc 18, 2) := by decide +kernel
theorem dX0_tightest_6 : decode cX0_tightest 6 = .ok (.invokestatic 19, 3) := by decide +kernel
theorem dX0_tightest_9 : decode cX0_tightest 9 = .ok (.aload_n 0, 1) := by decide +kernel
theorem dX0_tightest_10 : decode cX0_tightest 10 = .ok (.getfield 15, 3) := by decide +kernel
theorem dX0_tightest_13 : decode cX0_tightest 13 = .ok (.iload_n 1, 1) := by decide +kernel
theorem dX0_tightest_14 : decode cX0_tightest 14 = .ok (.iconst 0, 1) := by decide +kernel
theorem dX0_tightest_15 : decode cX0_tightest 15 = .ok (.iastore, 1) := by decide +kernel
theorem dX0_tightest_16 : decode cX0_tightest 16 = .ok (.iconst 1, 1) := by decide +kernel
theorem dX0_tightest_17 : decode cX0_tightest 17 = .ok (.istore_n 3, 1) := by decide +kernel
theorem dX0_tightest_18 : decode cX0_tightest 18 = .ok (.iload_n 3, 1) := by decide +kernel
theorem dX0_tightest_19 : decode cX0_tightest 19 = .ok (.iconst 5, 1) := by decide +kernel
theorem dX0_tightest_20 : decode cX0_tightest 20 = .ok (.if_icmp .ge 30, 3) := by decide +kernel
theorem dX0_tightest_23 : decode cX0_tightest 23 = .ok (.iconst 0, 1) := by decide +kernel
theorem dX0_tightest_24 : decode cX0_tightest 24 = .ok (.istore 4, 2) := by decide +kernel
theorem dX0_tightest_26 : decode cX0_tightest 26 = .ok (.iload 4, 2) := by decide +kernel
theorem dX0_tightest_28 : decode cX0_tightest 28 = .ok (.iconst 5, 1) := by decide +kernel
theorem dX0_tightest_29 : decode cX0_tightest 29 = .ok (.if_icmp .ge 15, 3) := by decide +kernel
theorem dX0_tightest_32 : decode cX0_tightest 32 = .ok (.aload_n 0, 1) := by decide +kernel
theorem dX0_tightest_33 : decode cX0_tightest 33 = .ok (.iload 4, 2) := by decide +kernel
theorem dX0_tightest_35 : decode cX0_tightest 35 = .ok (.invokevirtual 44, 3) := by decide +kernel
theorem dX0_tightest_38 : decode cX0_tightest 38 = .ok (.iinc 4 1, 3) := by decide +kernel
theorem dX0_tightest_41 : decode cX0_tightest 41 = .ok (.goto (-15), 3) := by decide +kernel
theorem dX0_tightest_44 : decode cX0_tightest 44 = .ok (.iinc 3 1, 3) := by decide +kernel
theorem dX0_tightest_47 : decode cX0_tightest 47 = .ok (.goto (-29), 3) := by decide +kernel
theorem dX0_tightest_50 : decode cX0_tightest 50 = .ok (.aload_n 0, 1) := by decide +kernel
theorem dX0_tightest_51 : decode cX0_tightest 51 = .ok (.getfield 15, 3) := by decide +kernel
theorem dX0_tightest_54 : decode cX0_tightest 54 = .ok (.iload_n 2, 1) := by decide +kernel
theorem dX0_tightest_55 : decode cX0_tightest 55 = .ok (.iaload, 1) := by decide +kernel
theorem dX0_tightest_56 : decode cX0_tightest 56 = .ok (.ireturn, 1) := by decide +kernel
set_option maxRecDepth 20000 in
theorem ggX0_stepFrom_X0_cell : GoodIn wsX0_stepFrom wsX0_cell := goodIn_r _ [11] (by decide +kernel) (by decide +kernel)
set_option maxRecDepth 20000 in
theorem gX0_stepFrom_X0_cell : GoodIn wsX0_stepFrom (va_wsS RX0 31 yX0_cell wsX0_cell) := goodIn_app (goodIn_of _ (by decide +kernel)) ggX0_stepFrom_X0_cell
theorem dX0_stepFrom_0 : decode cX0_stepFrom 0 = .ok (.aload_n 0, 1) := by decide +kernel
theorem dX0_stepFrom_1 : decode cX0_stepFrom 1 = .ok (.getfield 15, 3) := by decide +kernel
theorem dX0_stepFrom_4 : decode cX0_stepFrom 4 = .ok (.iload_n 1, 1) := by decide +kernel
theorem dX0_stepFrom_5 : decode cX0_stepFrom 5 = .ok (.iaload, 1) := by decide +kernel
theorem dX0_stepFrom_6 : decode cX0_stepFrom 6 = .ok (.ldc 18, 2) := by decide +kernel
theorem dX0_stepFrom_8 : decode cX0_stepFrom 8 = .ok (.if_icmp .ne 4, 3) := by decide +kernel
theorem dX0_stepFrom_11 : decode cX0_stepFrom 11 = .ok (.return_, 1) := by decide +kernel
theorem dX0_stepFrom_12 : decode cX0_stepFrom 12 = .ok (.iconst 0, 1) := by decide +kernel
theorem dX0_stepFrom_13 : decode cX0_stepFrom 13 = .ok (.istore_n 2, 1) := by decide +kernel
theorem dX0_stepFrom_14 : decode cX0_stepFrom 14 = .ok (.iload_n 2, 1) := by decide +kernel
theorem dX0_stepFrom_15 : decode cX0_stepFrom 15 = .ok (.iconst 5, 1) := by decide +kernel
theorem dX0_stepFrom_16 : decode cX0_stepFrom 16 = .ok (.if_icmp .ge 49, 3) := by decide +kernel
theorem dX0_stepFrom_19 : decode cX0_stepFrom 19 = .ok (.aload_n 0, 1) := by decide +kernel
theorem dX0_stepFrom_20 : decode cX0_stepFrom 20 = .ok (.getfield 9, 3) := by decide +kernel
theorem dX0_stepFrom_23 : decode cX0_stepFrom 23 = .ok (.iload_n 1, 1) := by decide +kernel
theorem dX0_stepFrom_24 : decode cX0_stepFrom 24 = .ok (.iload_n 2, 1) := by decide +kernel
theorem dX0_stepFrom_25 : decode cX0_stepFrom 25 = .ok (.invokestatic 31, 3) := by decide +kernel
theorem dX0_stepFrom_28 : decode cX0_stepFrom 28 = .ok (.iaload, 1) := by decide +kernel
theorem dX0_stepFrom_29 : decode cX0_stepFrom 29 = .ok (.istore_n 3, 1) := by decide +kernel
theorem dX0_stepFrom_30 : decode cX0_stepFrom 30 = .ok (.iload_n 3, 1) := by decide +kernel
theorem dX0_stepFrom_31 : decode cX0_stepFrom 31 = .ok (.ldc 18, 2) := by decide +kernel
theorem dX0_stepFrom_33 : decode cX0_stepFrom 33 = .ok (.if_icmp .eq 26, 3) := by decide +kernel
theorem dX0_stepFrom_36 : decode cX0_stepFrom 36 = .ok (.aload_n 0, 1) := by decide +kernel
theorem dX0_stepFrom_37 : decode cX0_stepFrom 37 = .ok (.getfield 15, 3) := by decide +kernel
theorem dX0_stepFrom_40 : decode cX0_stepFrom 40 = .ok (.iload_n 2, 1) := by decide +kernel
theorem dX0_stepFrom_41 : decode cX0_stepFrom 41 = .ok (.aload_n 0, 1) := by decide +kernel
theorem dX0_stepFrom_42 : decode cX0_stepFrom 42 = .ok (.getfield 15, 3) := by decide +kernel
theorem dX0_stepFrom_45 : decode cX0_stepFrom 45 = .ok (.iload_n 2, 1) := by decide +kernel
theorem dX0_stepFrom_46 : decode cX0_stepFrom 46 = .ok (.iaload, 1) := by decide +kernel
theorem dX0_stepFrom_47 : decode cX0_stepFrom 47 = .ok (.aload_n 0, 1) := by decide +kernel
theorem dX0_stepFrom_48 : decode cX0_stepFrom 48 = .ok (.getfield 15, 3) := by decide +kernel
theorem dX0_stepFrom_51 : decode cX0_stepFrom 51 = .ok (.iload_n 1, 1) := by decide +kernel
theorem dX0_stepFrom_52 : decode cX0_stepFrom 52 = .ok (.iaload, 1) := by decide +kernel
theorem dX0_stepFrom_53 : decode cX0_stepFrom 53 = .ok (.iload_n 3, 1) := by decide +kernel
theorem dX0_stepFrom_54 : decode cX0_stepFrom 54 = .ok (.iadd, 1) := by decide +kernel
theorem dX0_stepFrom_55 : decode cX0_stepFrom 55 = .ok (.invokestatic 35, 3) := by decide +kernel
theorem dX0_stepFrom_58 : decode cX0_stepFrom 58 = .ok (.iastore, 1) := by decide +kernel
theorem dX0_stepFrom_59 : decode cX0_stepFrom 59 = .ok (.iinc 2 1, 3) := by decide +kernel
theorem dX0_stepFrom_62 : decode cX0_stepFrom 62 = .ok (.goto (-48), 3) := by decide +kernel
theorem dX0_stepFrom_65 : decode cX0_stepFrom 65 = .ok (.return_, 1) := by decide +kernel
theorem dX1_init_0 : decode cX1_init 0 = .ok (.aload_n 0, 1) := by decide +kernel
theorem dX1_init_1 : decode cX1_init 1 = .ok (.invokespecial 3, 3) := by decide +kernel
theorem dX1_init_4 : decode cX1_init 4 = .ok (.aload_n 0, 1) := by decide +kernel
theorem dX1_init_5 : decode cX1_init 5 = .ok (.bipush 24, 2) := by decide +kernel
theorem dX1_init_7 : decode cX1_init 7 = .ok (.newarray .int, 2) := by decide +kernel
theorem dX1_init_9 : decode cX1_init 9 = .ok (.putfield 9, 3) := by decide +kernel
theorem dX1_init_12 : decode cX1_init 12 = .ok (.return_, 1) := by decide +kernel
theorem dX1_begin_0 : decode cX1_begin 0 = .ok (.iconst 0, 1) := by decide +kernel
theorem dX1_begin_1 : decode cX1_begin 1 = .ok (.istore_n 1, 1) := by decide +kernel
theorem dX1_begin_2 : decode cX1_begin 2 = .ok (.iload_n 1, 1) := by decide +kernel
theorem dX1_begin_3 : decode cX1_begin 3 = .ok (.iconst 4, 1) := by decide +kernel
theorem dX1_begin_4 : decode cX1_begin 4 = .ok (.if_icmp .ge 26, 3) := by decide +kernel
theorem dX1_begin_7 : decode cX1_begin 7 = .ok (.getstatic 15, 3) := by decide +kernel
theorem dX1_begin_10 : decode cX1_begin 10 = .ok (.iconst 0, 1) := by decide +kernel
theorem dX1_begin_11 : decode cX1_begin 11 = .ok (.aload_n 0, 1) := by decide +kernel
theorem dX1_begin_12 : decode cX1_begin 12 = .ok (.getfield 9, 3) := by decide +kernel
theorem dX1_begin_15 : decode cX1_begin 15 = .ok (.iload_n 1, 1) := by decide +kernel
theorem dX1_begin_16 : decode cX1_begin 16 = .ok (.bipush 6, 2) := by decide +kernel
theorem dX1_begin_18 : decode cX1_begin 18 = .ok (.imul, 1) := by decide +kernel
theorem dX1_begin_19 : decode cX1_begin 19 = .ok (.bipush 6, 2) := by decide +kernel
theorem dX1_begin_21 : decode cX1_begin 21 = .ok (.invokestatic 18, 3) := by decide +kernel
theorem dX1_begin_24 : decode cX1_begin 24 = .ok (.iinc 1 1, 3) := by decide +kernel
theorem dX1_begin_27 : decode cX1_begin 27 = .ok (.goto (-25), 3) := by decide +kernel
theorem dX1_begin_30 : decode cX1_begin 30 = .ok (.return_, 1) := by decide +kernel
theorem dX1_copyFrom_0 : decode cX1_copyFrom 0 = .ok (.aload_n 1, 1) := by decide +kernel
theorem dX1_copyFrom_1 : decode cX1_copyFrom 1 = .ok (.getfield 9, 3) := by decide +kernel
theorem dX1_copyFrom_4 : decode cX1_copyFrom 4 = .ok (.iconst 0, 1) := by decide +kernel
theorem dX1_copyFrom_5 : decode cX1_copyFrom 5 = .ok (.aload_n 0, 1) := by decide +kernel
theorem dX1_copyFrom_6 : decode cX1_copyFrom 6 = .ok (.getfield 9, 3) := by decide +kernel
theorem dX1_copyFrom_9 : decode cX1_copyFrom 9 = .ok (.iconst 0, 1) := by decide +kernel
theorem dX1_copyFrom_10 : decode cX1_copyFrom 10 = .ok (.aload_n 0, 1) := by decide +kernel
theorem dX1_copyFrom_11 : decode cX1_copyFrom 11 = .ok (.getfield 9, 3) := by decide +kernel
theorem dX1_copyFrom_14 : decode cX1_copyFrom 14 = .ok (.arraylength, 1) := by decide +kernel
theorem dX1_copyFrom_15 : decode cX1_copyFrom 15 = .ok (.invokestatic 18, 3) := by decide +kernel
theorem dX1_copyFrom_18 : decode cX1_copyFrom 18 = .ok (.return_, 1) := by decide +kernel
theorem dX1_read_0 : decode cX1_read 0 = .ok (.aload_n 0, 1) := by decide +kernel
theorem dX1_read_1 : decode cX1_read 1 = .ok (.getfield 9, 3) := by decide +kernel
theorem dX1_read_4 : decode cX1_read 4 = .ok (.iload_n 1, 1) := by decide +kernel
theorem dX1_read_5 : decode cX1_read 5 = .ok (.bipush 6, 2) := by decide +kernel
theorem dX1_read_7 : decode cX1_read 7 = .ok (.imul, 1) := by decide +kernel
theorem dX1_read_8 : decode cX1_read 8 = .ok (.iload_n 2, 1) := by decide +kernel
theorem dX1_read_9 : decode cX1_read 9 = .ok (.iadd, 1) := by decide +kernel
theorem dX1_read_10 : decode cX1_read 10 = .ok (.iaload, 1) := by decide +kernel
theorem dX1_read_11 : decode cX1_read 11 = .ok (.ireturn, 1) := by decide +kernel
theorem dX1_write_0 : decode cX1_write 0 = .ok (.aload_n 0, 1) := by decide +kernel
theorem dX1_write_1 : decode cX1_write 1 = .ok (.getfield 9, 3) := by decide +kernel
theorem dX1_write_4 : decode cX1_write 4 = .ok (.iload_n 1, 1) := by decide +kernel
theorem dX1_write_5 : decode cX1_write 5 = .ok (.bipush 6, 2) := by decide +kernel
theorem dX1_write_7 : decode cX1_write 7 = .ok (.imul, 1) := by decide +kernel
theorem dX1_write_8 : decode cX1_write 8 = .ok (.iload_n 2, 1) := by decide +kernel
theorem dX1_write_9 : decode cX1_write 9 = .ok (.iadd, 1) := by decide +kernel
theorem dX1_write_10 : decode cX1_write 10 = .ok (.iload_n 3, 1) := by decide +kernel
theorem dX1_write_11 : decode cX1_write 11 = .ok (.iastore, 1) := by decide +kernel
theorem dX1_write_12 : decode cX1_write 12 = .ok (.return_, 1) := by decide +kernel
set_option maxRecDepth 20000 in
theorem ggX1_ticksThere_X1_read : GoodIn wsX1_ticksThere wsX1_read := goodIn_r _ [5, 6, 10] (by decide +kernel) (by decide +kernel)
set_option maxRecDepth 20000 in
theorem gX1_ticksThere_X1_read : GoodIn wsX1_ticksThere (wsV RX1 24 RX1 yX1_read wsX1_read) := goodIn_app (goodIn_of _ (by decide +kernel)) ggX1_ticksThere_X1_read
set_option maxRecDepth 20000 in
theorem ggX1_ticksThere_X4_leftOver : GoodIn wsX1_ticksThere wsX4_leftOver := goodIn_r _ [9] (by decide +kernel) (by decide +kernel)
set_option maxRecDepth 20000 in
theorem gX1_ticksThere_X4_leftOver_n28 : GoodIn wsX1_ticksThere (wsX4_leftOver) := ggX1_ticksThere_X4_leftOver
theorem dX1_ticksThere_0 : decode cX1_ticksThere 0 = .ok (.aload_n 0, 1) := by decide +kernel
theorem dX1_ticksThere_1 : decode cX1_ticksThere 1 = .ok (.iload_n 1, 1) := by decide +kernel
theorem dX1_ticksThere_2 : decode cX1_ticksThere 2 = .ok (.iconst 0, 1) := by decide +kernel
theorem dX1_ticksThere_3 : decode cX1_ticksThere 3 = .ok (.invokevirtual 24, 3) := by decide +kernel
theorem dX1_ticksThere_6 : decode cX1_ticksThere 6 = .ok (.iload_n 2, 1) := by decide +kernel
theorem dX1_ticksThere_7 : decode cX1_ticksThere 7 = .ok (.aload_n 0, 1) := by decide +kernel
theorem dX1_ticksThere_8 : decode cX1_ticksThere 8 = .ok (.iload_n 1, 1) := by decide +kernel
theorem dX1_ticksThere_9 : decode cX1_ticksThere 9 = .ok (.iconst 1, 1) := by decide +kernel
theorem dX1_ticksThere_10 : decode cX1_ticksThere 10 = .ok (.invokevirtual 24, 3) := by decide +kernel
theorem dX1_ticksThere_13 : decode cX1_ticksThere 13 = .ok (.iconst 1, 1) := by decide +kernel
theorem dX1_ticksThere_14 : decode cX1_ticksThere 14 = .ok (.iadd, 1) := by decide +kernel
theorem dX1_ticksThere_15 : decode cX1_ticksThere 15 = .ok (.invokestatic 28, 3) := by decide +kernel
theorem dX1_ticksThere_18 : decode cX1_ticksThere 18 = .ok (.iadd, 1) := by decide +kernel
theorem dX1_ticksThere_19 : decode cX1_ticksThere 19 = .ok (.ireturn, 1) := by decide +kernel
set_option maxRecDepth 20000 in
theorem ggX1_ticksBack_X1_read : GoodIn wsX1_ticksBack wsX1_read := goodIn_r _ [5, 6, 10] (by decide +kernel) (by decide +kernel)
set_option maxRecDepth 20000 in
theorem gX1_ticksBack_X1_read : GoodIn wsX1_ticksBack (wsV RX1 24 RX1 yX1_read wsX1_read) := goodIn_app (goodIn_of _ (by decide +kernel)) ggX1_ticksBack_X1_read
set_option maxRecDepth 20000 in
theorem ggX1_ticksBack_X4_leftOver : GoodIn wsX1_ticksBack wsX4_leftOver := goodIn_r _ [9] (by decide +kernel) (by decide +kernel)
set_option maxRecDepth 20000 in
theorem gX1_ticksBack_X4_leftOver_n28 : GoodIn wsX1_ticksBack (wsX4_leftOver) := ggX1_ticksBack_X4_leftOver
theorem dX1_ticksBack_0 : decode cX1_ticksBack 0 = .ok (.aload_n 0, 1) := by decide +kernel
theorem dX1_ticksBack_1 : decode cX1_ticksBack 1 = .ok (.iload_n 1, 1) := by decide +kernel
theorem dX1_ticksBack_2 : decode cX1_ticksBack 2 = .ok (.iconst 2, 1) := by decide +kernel
theorem dX1_ticksBack_3 : decode cX1_ticksBack 3 = .ok (.invokevirtual 24, 3) := by decide +kernel
theorem dX1_ticksBack_6 : decode cX1_ticksBack 6 = .ok (.iload_n 2, 1) := by decide +kernel
theorem dX1_ticksBack_7 : decode cX1_ticksBack 7 = .ok (.aload_n 0, 1) := by decide +kernel
theorem dX1_ticksBack_8 : decode cX1_ticksBack 8 = .ok (.iload_n 1, 1) := by decide +kernel
theorem dX1_ticksBack_9 : decode cX1_ticksBack 9 = .ok (.iconst 3, 1) := by decide +kernel
theorem dX1_ticksBack_10 : decode cX1_ticksBack 10 = .ok (.invokevirtual 24, 3) := by decide +kernel
theorem dX1_ticksBack_13 : decode cX1_ticksBack 13 = .ok (.iconst 1, 1) := by decide +kernel
theorem dX1_ticksBack_14 : decode cX1_ticksBack 14 = .ok (.iadd, 1) := by decide +kernel
theorem dX1_ticksBack_15 : decode cX1_ticksBack 15 = .ok (.invokestatic 28, 3) := by decide +kernel
theorem dX1_ticksBack_18 : decode cX1_ticksBack 18 = .ok (.iadd, 1) := by decide +kernel
theorem dX1_ticksBack_19 : decode cX1_ticksBack 19 = .ok (.ireturn, 1) := by decide +kernel
set_option maxRecDepth 20000 in
theorem ggX1_drops_X1_read : GoodIn wsX1_drops wsX1_read := goodIn_r _ [5, 6, 7] (by decide +kernel) (by decide +kernel)
set_option maxRecDepth 20000 in
theorem gX1_drops_X1_read : GoodIn wsX1_drops (wsV RX1 24 RX1 yX1_read wsX1_read) := goodIn_app (goodIn_of _ (by decide +kernel)) ggX1_drops_X1_read
theorem dX1_drops_0 : decode cX1_drops 0 = .ok (.aload_n 0, 1) := by decide +kernel
theorem dX1_drops_1 : decode cX1_drops 1 = .ok (.iload_n 1, 1) := by decide +kernel
theorem dX1_drops_2 : decode cX1_drops 2 = .ok (.iconst 4, 1) := by decide +kernel
theorem dX1_drops_3 : decode cX1_drops 3 = .ok (.invokevirtual 24, 3) := by decide +kernel
theorem dX1_drops_6 : decode cX1_drops 6 = .ok (.istore_n 3, 1) := by decide +kernel
theorem dX1_drops_7 : decode cX1_drops 7 = .ok (.iload_n 3, 1) := by decide +kernel
theorem dX1_drops_8 : decode cX1_drops 8 = .ok (.ifCond .le 19, 3) := by decide +kernel
theorem dX1_drops_11 : decode cX1_drops 11 = .ok (.iload_n 2, 1) := by decide +kernel
theorem dX1_drops_12 : decode cX1_drops 12 = .ok (.iload_n 3, 1) := by decide +kernel
theorem dX1_drops_13 : decode cX1_drops 13 = .ok (.irem, 1) := by decide +kernel
theorem dX1_drops_14 : decode cX1_drops 14 = .ok (.aload_n 0, 1) := by decide +kernel
theorem dX1_drops_15 : decode cX1_drops 15 = .ok (.iload_n 1, 1) := by decide +kernel
theorem dX1_drops_16 : decode cX1_drops 16 = .ok (.iconst 5, 1) := by decide +kernel
theorem dX1_drops_17 : decode cX1_drops 17 = .ok (.invokevirtual 24, 3) := by decide +kernel
theorem dX1_drops_20 : decode cX1_drops 20 = .ok (.if_icmp .ne 7, 3) := by decide +kernel
theorem dX1_drops_23 : decode cX1_drops 23 = .ok (.iconst 1, 1) := by decide +kernel
theorem dX1_drops_24 : decode cX1_drops 24 = .ok (.goto 4, 3) := by decide +kernel
theorem dX1_drops_27 : decode cX1_drops 27 = .ok (.iconst 0, 1) := by decide +kernel
theorem dX1_drops_28 : decode cX1_drops 28 = .ok (.ireturn, 1) := by decide +kernel
theorem dX2_init_0 : decode cX2_init 0 = .ok (.aload_n 0, 1) := by decide +kernel
theorem dX2_init_1 : decode cX2_init 1 = .ok (.invokespecial 3, 3) := by decide +kernel
theorem dX2_init_4 : decode cX2_init 4 = .ok (.aload_n 0, 1) := by decide +kernel
theorem dX2_init_5 : decode cX2_init 5 = .ok (.sipush 1000, 3) := by decide +kernel
theorem dX2_init_8 : decode cX2_init 8 = .ok (.newarray .int, 2) := by decide +kernel
theorem dX2_init_10 : decode cX2_init 10 = .ok (.putfield 9, 3) := by decide +kernel
theorem dX2_init_13 : decode cX2_init 13 = .ok (.aload_n 0, 1) := by decide +kernel
theorem dX2_init_14 : decode cX2_init 14 = .ok (.sipush 1000, 3) := by decide +kernel
theorem dX2_init_17 : decode cX2_init 17 = .ok (.newarray .int, 2) := by decide +kernel
theorem dX2_init_19 : decode cX2_init 19 = .ok (.putfield 15, 3) := by decide +kernel
theorem dX2_init_22 : decode cX2_init 22 = .ok (.return_, 1) := by decide +kernel
set_option maxRecDepth 20000 in
theorem ggX2_begin_J7_fill_53178 : GoodIn wsX2_begin wsJ7_fill_53178 := goodIn_r _ [6] (by decide +kernel) (by decide +kernel)
set_option maxRecDepth 20000 in
theorem gX2_begin_J7_fill_53178 : GoodIn wsX2_begin (va_wsS RX2 18 yJ7_fill_53178 wsJ7_fill_53178) := goodIn_app (goodIn_of _ (by decide +kernel)) ggX2_begin_J7_fill_53178
theorem dX2_begin_0 : decode cX2_begin 0 = .ok (.aload_n 0, 1) := by decide +kernel
theorem dX2_begin_1 : decode cX2_begin 1 = .ok (.getfield 9, 3) := by decide +kernel
theorem dX2_begin_4 : decode cX2_begin 4 = .ok (.iconst 0, 1) := by decide +kernel
theorem dX2_begin_5 : decode cX2_begin 5 = .ok (.invokestatic 18, 3) := by decide +kernel
theorem dX2_begin_8 : decode cX2_begin 8 = .ok (.aload_n 0, 1) := by decide +kernel
theorem dX2_begin_9 : decode cX2_begin 9 = .ok (.getfield 15, 3) := by decide +kernel
theorem dX2_begin_12 : decode cX2_begin 12 = .ok (.iconst 0, 1) := by decide +kernel
theorem dX2_begin_13 : decode cX2_begin 13 = .ok (.invokestatic 18, 3) := by decide +kernel
theorem dX2_begin_16 : decode cX2_begin 16 = .ok (.return_, 1) := by decide +kernel
theorem dX2_copyFrom_0 : decode cX2_copyFrom 0 = .ok (.aload_n 1, 1) := by decide +kernel
theorem dX2_copyFrom_1 : decode cX2_copyFrom 1 = .ok (.getfield 9, 3) := by decide +kernel
theorem dX2_copyFrom_4 : decode cX2_copyFrom 4 = .ok (.iconst 0, 1) := by decide +kernel
theorem dX2_copyFrom_5 : decode cX2_copyFrom 5 = .ok (.aload_n 0, 1) := by decide +kernel
theorem dX2_copyFrom_6 : decode cX2_copyFrom 6 = .ok (.getfield 9, 3) := by decide +kernel
theorem dX2_copyFrom_9 : decode cX2_copyFrom 9 = .ok (.iconst 0, 1) := by decide +kernel
theorem dX2_copyFrom_10 : decode cX2_copyFrom 10 = .ok (.aload_n 0, 1) := by decide +kernel
theorem dX2_copyFrom_11 : decode cX2_copyFrom 11 = .ok (.getfield 9, 3) := by decide +kernel
theorem dX2_copyFrom_14 : decode cX2_copyFrom 14 = .ok (.arraylength, 1) := by decide +kernel
theorem dX2_copyFrom_15 : decode cX2_copyFrom 15 = .ok (.invokestatic 24, 3) := by decide +kernel
theorem dX2_copyFrom_18 : decode cX2_copyFrom 18 = .ok (.aload_n 1, 1) := by decide +kernel
theorem dX2_copyFrom_19 : decode cX2_copyFrom 19 = .ok (.getfield 15, 3) := by decide +kernel
theorem dX2_copyFrom_22 : decode cX2_copyFrom 22 = .ok (.iconst 0, 1) := by decide +kernel
theorem dX2_copyFrom_23 : decode cX2_copyFrom 23 = .ok (.aload_n 0, 1) := by decide +kernel
theorem dX2_copyFrom_24 : decode cX2_copyFrom 24 = .ok (.getfield 15, 3) := by decide +kernel
theorem dX2_copyFrom_27 : decode cX2_copyFrom 27 = .ok (.iconst 0, 1) := by decide +kernel
theorem dX2_copyFrom_28 : decode cX2_copyFrom 28 = .ok (.aload_n 0, 1) := by decide +kernel
theorem dX2_copyFrom_29 : decode cX2_copyFrom 29 = .ok (.getfield 15, 3) := by decide +kernel
theorem dX2_copyFrom_32 : decode cX2_copyFrom 32 = .ok (.arraylength, 1) := by decide +kernel
theorem dX2_copyFrom_33 : decode cX2_copyFrom 33 = .ok (.invokestatic 24, 3) := by decide +kernel
theorem dX2_copyFrom_36 : decode cX2_copyFrom 36 = .ok (.return_, 1) := by decide +kernel
theorem dX2_cell_0 : decode cX2_cell 0 = .ok (.iload_n 0, 1) := by decide +kernel
theorem dX2_cell_1 : decode cX2_cell 1 = .ok (.sipush 200, 3) := by decide +kernel
theorem dX2_cell_4 : decode cX2_cell 4 = .ok (.imul, 1) := by decide +kernel
theorem dX2_cell_5 : decode cX2_cell 5 = .ok (.iload_n 1, 1) := by decide +kernel
theorem dX2_cell_6 : decode cX2_cell 6 = .ok (.iadd, 1) := by decide +kernel
theorem dX2_cell_7 : decode cX2_cell 7 = .ok (.ireturn, 1) := by decide +kernel
set_option maxRecDepth 20000 in
theorem ggX2_add_X2_cell : GoodIn wsX2_add wsX2_cell := goodIn_r _ [6] (by decide +kernel) (by decide +kernel)
set_option maxRecDepth 20000 in
theorem gX2_add_X2_cell : GoodIn wsX2_add (va_wsS RX2 30 yX2_cell wsX2_cell) := goodIn_app (goodIn_of _ (by decide +kernel)) ggX2_add_X2_cell
theorem dX2_add_0 : decode cX2_add 0 = .ok (.aload_n 0, 1) := by decide +kernel
theorem dX2_add_1 : decode cX2_add 1 = .ok (.getfield 9, 3) := by decide +kernel
theorem dX2_add_4 : decode cX2_add 4 = .ok (.iload_n 1, 1) := by decide +kernel
theorem dX2_add_5 : decode cX2_add 5 = .ok (.iload_n 2, 1) := by decide +kernel
theorem dX2_add_6 : decode cX2_add 6 = .ok (.invokestatic 30, 3) := by decide +kernel
theorem dX2_add_9 : decode cX2_add 9 = .ok (.dup2, 1) := by decide +kernel
theorem dX2_add_10 : decode cX2_add 10 = .ok (.iaload, 1) := by decide +kernel
theorem dX2_add_11 : decode cX2_add 11 = .ok (.iconst 1, 1) := by decide +kernel
theorem dX2_add_12 : decode cX2_add 12 = .ok (.iadd, 1) := by decide +kernel
theorem dX2_add_13 : decode cX2_add 13 = .ok (.iastore, 1) := by decide +kernel
theorem dX2_add_14 : decode cX2_add 14 = .ok (.aload_n 0, 1) := by decide +kernel
theorem dX2_add_15 : decode cX2_add 15 = .ok (.getfield 15, 3) := by decide +kernel
theorem dX2_add_18 : decode cX2_add 18 = .ok (.iload_n 1, 1) := by decide +kernel
theorem dX2_add_19 : decode cX2_add 19 = .ok (.iload_n 2, 1) := by decide +kernel
theorem dX2_add_20 : decode cX2_add 20 = .ok (.invokestatic 30, 3) := by decide +kernel
theorem dX2_add_23 : decode cX2_add 23 = .ok (.dup2, 1) := by decide +kernel
theorem dX2_add_24 : decode cX2_add 24 = .ok (.iaload, 1) := by decide +kernel
theorem dX2_add_25 : decode cX2_add 25 = .ok (.iload_n 3, 1) := by decide +kernel
theorem dX2_add_26 : decode cX2_add 26 = .ok (.iadd, 1) := by decide +kernel
theorem dX2_add_27 : decode cX2_add 27 = .ok (.iastore, 1) := by decide +kernel
theorem dX2_add_28 : decode cX2_add 28 = .ok (.return_, 1) := by decide +kernel
set_option maxRecDepth 20000 in
theorem ggX2_countOf_X2_cell : GoodIn wsX2_countOf wsX2_cell := goodIn_r _ [5] (by decide +kernel) (by decide +kernel)
set_option maxRecDepth 20000 in
theorem gX2_countOf_X2_cell : GoodIn wsX2_countOf (va_wsS RX2 30 yX2_cell wsX2_cell) := goodIn_app (goodIn_of _ (by decide +kernel)) ggX2_countOf_X2_cell
theorem dX2_countOf_0 : decode cX2_countOf 0 = .ok (.aload_n 0, 1) := by decide +kernel
theorem dX2_countOf_1 : decode cX2_countOf 1 = .ok (.getfield 9, 3) := by decide +kernel
theorem dX2_countOf_4 : decode cX2_countOf 4 = .ok (.iload_n 1, 1) := by decide +kernel
theorem dX2_countOf_5 : decode cX2_countOf 5 = .ok (.iload_n 2, 1) := by decide +kernel
theorem dX2_countOf_6 : decode cX2_countOf 6 = .ok (.invokestatic 30, 3) := by decide +kernel
theorem dX2_countOf_9 : decode cX2_countOf 9 = .ok (.iaload, 1) := by decide +kernel
theorem dX2_countOf_10 : decode cX2_countOf 10 = .ok (.ireturn, 1) := by decide +kernel
set_option maxRecDepth 20000 in
theorem ggX2_sumOf_X2_cell : GoodIn wsX2_sumOf wsX2_cell := goodIn_r _ [5] (by decide +kernel) (by decide +kernel)
set_option maxRecDepth 20000 in
theorem gX2_sumOf_X2_cell : GoodIn wsX2_sumOf (va_wsS RX2 30 yX2_cell wsX2_cell) := goodIn_app (goodIn_of _ (by decide +kernel)) ggX2_sumOf_X2_cell
theorem dX2_sumOf_0 : decode cX2_sumOf 0 = .ok (.aload_n 0, 1) := by decide +kernel
theorem dX2_sumOf_1 : decode cX2_sumOf 1 = .ok (.getfield 15, 3) := by decide +kernel
theorem dX2_sumOf_4 : decode cX2_sumOf 4 = .ok (.iload_n 1, 1) := by decide +kernel
theorem dX2_sumOf_5 : decode cX2_sumOf 5 = .ok (.iload_n 2, 1) := by decide +kernel
theorem dX2_sumOf_6 : decode cX2_sumOf 6 = .ok (.invokestatic 30, 3) := by decide +kernel
theorem dX2_sumOf_9 : decode cX2_sumOf 9 = .ok (.iaload, 1) := by decide +kernel
theorem dX2_sumOf_10 : decode cX2_sumOf 10 = .ok (.ireturn, 1) := by decide +kernel
set_option maxRecDepth 20000 in
theorem ggX2_lostBetween_X2_countOf : GoodIn wsX2_lostBetween wsX2_countOf := goodIn_r _ [5, 6, 7, 8, 4, 9, 10, 11] (by decide +kernel) (by decide +kernel)
set_option maxRecDepth 20000 in
theorem gX2_lostBetween_X2_countOf : GoodIn wsX2_lostBetween (wsV RX2 34 RX2 yX2_countOf wsX2_countOf) := goodIn_app (goodIn_of _ (by decide +kernel)) ggX2_lostBetween_X2_countOf
theorem dX2_lostBetween_0 : decode cX2_lostBetween 0 = .ok (.aload_n 0, 1) := by decide +kernel
theorem dX2_lostBetween_1 : decode cX2_lostBetween 1 = .ok (.iload_n 1, 1) := by decide +kernel
theorem dX2_lostBetween_2 : decode cX2_lostBetween 2 = .ok (.iload_n 3, 1) := by decide +kernel
theorem dX2_lostBetween_3 : decode cX2_lostBetween 3 = .ok (.invokevirtual 34, 3) := by decide +kernel
theorem dX2_lostBetween_6 : decode cX2_lostBetween 6 = .ok (.aload_n 0, 1) := by decide +kernel
theorem dX2_lostBetween_7 : decode cX2_lostBetween 7 = .ok (.iload_n 2, 1) := by decide +kernel
theorem dX2_lostBetween_8 : decode cX2_lostBetween 8 = .ok (.iload_n 3, 1) := by decide +kernel
theorem dX2_lostBetween_9 : decode cX2_lostBetween 9 = .ok (.invokevirtual 34, 3) := by decide +kernel
theorem dX2_lostBetween_12 : decode cX2_lostBetween 12 = .ok (.isub, 1) := by decide +kernel
theorem dX2_lostBetween_13 : decode cX2_lostBetween 13 = .ok (.ireturn, 1) := by decide +kernel
set_option maxRecDepth 20000 in
theorem ggX2_lostOfAll_X2_lostBetween : GoodIn wsX2_lostOfAll wsX2_lostBetween := goodIn_r _ [5, 6, 7, 8, 4, 9, 10, 11, 12, 13, 14, 15] (by decide +kernel) (by decide +kernel)
set_option maxRecDepth 20000 in
theorem gX2_lostOfAll_X2_lostBetween : GoodIn wsX2_lostOfAll (wsV RX2 37 RX2 yX2_lostBetween wsX2_lostBetween) := goodIn_app (goodIn_of _ (by decide +kernel)) ggX2_lostOfAll_X2_lostBetween
theorem dX2_lostOfAll_0 : decode cX2_lostOfAll 0 = .ok (.iconst 0, 1) := by decide +kernel
theorem dX2_lostOfAll_1 : decode cX2_lostOfAll 1 = .ok (.istore_n 2, 1) := by decide +kernel
theorem dX2_lostOfAll_2 : decode cX2_lostOfAll 2 = .ok (.iconst 0, 1) := by decide +kernel
theorem dX2_lostOfAll_3 : decode cX2_lostOfAll 3 = .ok (.istore_n 3, 1) := by decide +kernel
theorem dX2_lostOfAll_4 : decode cX2_lostOfAll 4 = .ok (.iload_n 3, 1) := by decide +kernel
theorem dX2_lostOfAll_5 : decode cX2_lostOfAll 5 = .ok (.sipush 200, 3) := by decide +kernel
theorem dX2_lostOfAll_8 : decode cX2_lostOfAll 8 = .ok (.if_icmp .ge 21, 3) := by decide +kernel
theorem dX2_lostOfAll_11 : decode cX2_lostOfAll 11 = .ok (.iload_n 2, 1) := by decide +kernel
theorem dX2_lostOfAll_12 : decode cX2_lostOfAll 12 = .ok (.aload_n 0, 1) := by decide +kernel
theorem dX2_lostOfAll_13 : decode cX2_lostOfAll 13 = .ok (.iload_n 1, 1) := by decide +kernel
theorem dX2_lostOfAll_14 : decode cX2_lostOfAll 14 = .ok (.iload_n 1, 1) := by decide +kernel
theorem dX2_lostOfAll_15 : decode cX2_lostOfAll 15 = .ok (.iconst 1, 1) := by decide +kernel
theorem dX2_lostOfAll_16 : decode cX2_lostOfAll 16 = .ok (.iadd, 1) := by decide +kernel
theorem dX2_lostOfAll_17 : decode cX2_lostOfAll 17 = .ok (.iload_n 3, 1) := by decide +kernel
theorem dX2_lostOfAll_18 : decode cX2_lostOfAll 18 = .ok (.invokevirtual 37, 3) := by decide +kernel
theorem dX2_lostOfAll_21 : decode cX2_lostOfAll 21 = .ok (.iadd, 1) := by decide +kernel
theorem dX2_lostOfAll_22 : decode cX2_lostOfAll 22 = .ok (.istore_n 2, 1) := by decide +kernel
theorem dX2_lostOfAll_23 : decode cX2_lostOfAll 23 = .ok (.iinc 3 1, 3) := by decide +kernel
theorem dX2_lostOfAll_26 : decode cX2_lostOfAll 26 = .ok (.goto (-22), 3) := by decide +kernel
theorem dX2_lostOfAll_29 : decode cX2_lostOfAll 29 = .ok (.iload_n 2, 1) := by decide +kernel
theorem dX2_lostOfAll_30 : decode cX2_lostOfAll 30 = .ok (.ireturn, 1) := by decide +kernel
set_option maxRecDepth 20000 in
theorem ggX2_hasTook_X2_countOf : GoodIn wsX2_hasTook wsX2_countOf := goodIn_r _ [5, 6, 7, 8, 4, 9, 10, 11] (by decide +kernel) (by decide +kernel)
set_option maxRecDepth 20000 in
theorem gX2_hasTook_X2_countOf : GoodIn wsX2_hasTook (wsV RX2 34 RX2 yX2_countOf wsX2_countOf) := goodIn_app (goodIn_of _ (by decide +kernel)) ggX2_hasTook_X2_countOf
theorem dX2_hasTook_0 : decode cX2_hasTook 0 = .ok (.aload_n 0, 1) := by decide +kernel
theorem dX2_hasTook_1 : decode cX2_hasTook 1 = .ok (.iload_n 1, 1) := by decide +kernel
theorem dX2_hasTook_2 : decode cX2_hasTook 2 = .ok (.iload_n 3, 1) := by decide +kernel
theorem dX2_hasTook_3 : decode cX2_hasTook 3 = .ok (.invokevirtual 34, 3) := by decide +kernel
theorem dX2_hasTook_6 : decode cX2_hasTook 6 = .ok (.ifCond .le 22, 3) := by decide +kernel
theorem dX2_hasTook_9 : decode cX2_hasTook 9 = .ok (.aload_n 0, 1) := by decide +kernel
theorem dX2_hasTook_10 : decode cX2_hasTook 10 = .ok (.iload_n 1, 1) := by decide +kernel
theorem dX2_hasTook_11 : decode cX2_hasTook 11 = .ok (.iload_n 3, 1) := by decide +kernel
theorem dX2_hasTook_12 : decode cX2_hasTook 12 = .ok (.invokevirtual 34, 3) := by decide +kernel
theorem dX2_hasTook_15 : decode cX2_hasTook 15 = .ok (.aload_n 0, 1) := by decide +kernel
theorem dX2_hasTook_16 : decode cX2_hasTook 16 = .ok (.iload_n 2, 1) := by decide +kernel
theorem dX2_hasTook_17 : decode cX2_hasTook 17 = .ok (.iload_n 3, 1) := by decide +kernel
theorem dX2_hasTook_18 : decode cX2_hasTook 18 = .ok (.invokevirtual 34, 3) := by decide +kernel
theorem dX2_hasTook_21 : decode cX2_hasTook 21 = .ok (.if_icmp .ne 7, 3) := by decide +kernel
theorem dX2_hasTook_24 : decode cX2_hasTook 24 = .ok (.iconst 1, 1) := by decide +kernel
theorem dX2_hasTook_25 : decode cX2_hasTook 25 = .ok (.goto 4, 3) := by decide +kernel
theorem dX2_hasTook_28 : decode cX2_hasTook 28 = .ok (.iconst 0, 1) := by decide +kernel
theorem dX2_hasTook_29 : decode cX2_hasTook 29 = .ok (.ireturn, 1) := by decide +kernel
set_option maxRecDepth 20000 in
theorem ggX2_tookUpper_X2_sumOf : GoodIn wsX2_tookUpper wsX2_sumOf := goodIn_r _ [5, 6, 7, 8, 4, 9, 10, 11] (by decide +kernel) (by decide +kernel)
set_option maxRecDepth 20000 in
theorem gX2_tookUpper_X2_sumOf : GoodIn wsX2_tookUpper (wsV RX2 41 RX2 yX2_sumOf wsX2_sumOf) := goodIn_app (goodIn_of _ (by decide +kernel)) ggX2_tookUpper_X2_sumOf
theorem dX2_tookUpper_0 : decode cX2_tookUpper 0 = .ok (.aload_n 0, 1) := by decide +kernel
theorem dX2_tookUpper_1 : decode cX2_tookUpper 1 = .ok (.iload_n 2, 1) := by decide +kernel
theorem dX2_tookUpper_2 : decode cX2_tookUpper 2 = .ok (.iload_n 3, 1) := by decide +kernel
theorem dX2_tookUpper_3 : decode cX2_tookUpper 3 = .ok (.invokevirtual 41, 3) := by decide +kernel
theorem dX2_tookUpper_6 : decode cX2_tookUpper 6 = .ok (.aload_n 0, 1) := by decide +kernel
theorem dX2_tookUpper_7 : decode cX2_tookUpper 7 = .ok (.iload_n 1, 1) := by decide +kernel
theorem dX2_tookUpper_8 : decode cX2_tookUpper 8 = .ok (.iload_n 3, 1) := by decide +kernel
theorem dX2_tookUpper_9 : decode cX2_tookUpper 9 = .ok (.invokevirtual 41, 3) := by decide +kernel
theorem dX2_tookUpper_12 : decode cX2_tookUpper 12 = .ok (.isub, 1) := by decide +kernel
theorem dX2_tookUpper_13 : decode cX2_tookUpper 13 = .ok (.ireturn, 1) := by decide +kernel
set_option maxRecDepth 20000 in
theorem ggX2_blocksSent_X2_countOf : GoodIn wsX2_blocksSent wsX2_countOf := goodIn_r _ [5, 6, 7, 8, 4, 9, 10, 11] (by decide +kernel) (by decide +kernel)
set_option maxRecDepth 20000 in
theorem gX2_blocksSent_X2_countOf : GoodIn wsX2_blocksSent (wsV RX2 34 RX2 yX2_countOf wsX2_countOf) := goodIn_app (goodIn_of _ (by decide +kernel)) ggX2_blocksSent_X2_countOf
theorem dX2_blocksSent_0 : decode cX2_blocksSent 0 = .ok (.iconst 0, 1) := by decide +kernel
theorem dX2_blocksSent_1 : decode cX2_blocksSent 1 = .ok (.istore_n 1, 1) := by decide +kernel
theorem dX2_blocksSent_2 : decode cX2_blocksSent 2 = .ok (.iconst 0, 1) := by decide +kernel
theorem dX2_blocksSent_3 : decode cX2_blocksSent 3 = .ok (.istore_n 2, 1) := by decide +kernel
theorem dX2_blocksSent_4 : decode cX2_blocksSent 4 = .ok (.iload_n 2, 1) := by decide +kernel
theorem dX2_blocksSent_5 : decode cX2_blocksSent 5 = .ok (.sipush 200, 3) := by decide +kernel
theorem dX2_blocksSent_8 : decode cX2_blocksSent 8 = .ok (.if_icmp .ge 21, 3) := by decide +kernel
theorem dX2_blocksSent_11 : decode cX2_blocksSent 11 = .ok (.aload_n 0, 1) := by decide +kernel
theorem dX2_blocksSent_12 : decode cX2_blocksSent 12 = .ok (.iconst 0, 1) := by decide +kernel
theorem dX2_blocksSent_13 : decode cX2_blocksSent 13 = .ok (.iload_n 2, 1) := by decide +kernel
theorem dX2_blocksSent_14 : decode cX2_blocksSent 14 = .ok (.invokevirtual 34, 3) := by decide +kernel
theorem dX2_blocksSent_17 : decode cX2_blocksSent 17 = .ok (.ifCond .le 6, 3) := by decide +kernel
theorem dX2_blocksSent_20 : decode cX2_blocksSent 20 = .ok (.iinc 1 1, 3) := by decide +kernel
theorem dX2_blocksSent_23 : decode cX2_blocksSent 23 = .ok (.iinc 2 1, 3) := by decide +kernel
theorem dX2_blocksSent_26 : decode cX2_blocksSent 26 = .ok (.goto (-22), 3) := by decide +kernel
theorem dX2_blocksSent_29 : decode cX2_blocksSent 29 = .ok (.iload_n 1, 1) := by decide +kernel
theorem dX2_blocksSent_30 : decode cX2_blocksSent 30 = .ok (.ireturn, 1) := by decide +kernel
set_option maxRecDepth 20000 in
theorem ggX3_init_X1_init : GoodIn wsX3_init wsX1_init := goodIn_r _ [23, 24, 2, 3, 8, 25, 44] (by decide +kernel) (by decide +kernel)
set_option maxRecDepth 20000 in
theorem gX3_init_X1_init_n30 : GoodIn wsX3_init (wsX1_init) := ggX3_init_X1_init
set_option maxRecDepth 20000 in
theorem ggX3_init_X2_init : GoodIn wsX3_init wsX2_init := goodIn_r _ [27, 28, 2, 3, 8, 29, 30, 45, 46] (by decide +kernel) (by decide +kernel)
set_option maxRecDepth 20000 in
theorem gX3_init_X2_init_n37 : GoodIn wsX3_init (wsX2_init) := ggX3_init_X2_init
set_option maxRecDepth 20000 in
theorem ggX3_init_X0_init : GoodIn wsX3_init wsX0_init := goodIn_r _ [32, 33, 2, 3, 8, 34, 35, 47, 48] (by decide +kernel) (by decide +kernel)
set_option maxRecDepth 20000 in
theorem gX3_init_X0_init_n44 : GoodIn wsX3_init (wsX0_init) := ggX3_init_X0_init
theorem dX3_init_0 : decode cX3_init 0 = .ok (.aload_n 0, 1) := by decide +kernel
theorem dX3_init_1 : decode cX3_init 1 = .ok (.invokespecial 3, 3) := by decide +kernel
theorem dX3_init_4 : decode cX3_init 4 = .ok (.aload_n 0, 1) := by decide +kernel
theorem dX3_init_5 : decode cX3_init 5 = .ok (.iconst 3, 1) := by decide +kernel
theorem dX3_init_6 : decode cX3_init 6 = .ok (.putfield 9, 3) := by decide +kernel
theorem dX3_init_9 : decode cX3_init 9 = .ok (.aload_n 0, 1) := by decide +kernel
theorem dX3_init_10 : decode cX3_init 10 = .ok (.iconst 0, 1) := by decide +kernel
theorem dX3_init_11 : decode cX3_init 11 = .ok (.putfield 15, 3) := by decide +kernel
theorem dX3_init_14 : decode cX3_init 14 = .ok (.aload_n 0, 1) := by decide +kernel
theorem dX3_init_15 : decode cX3_init 15 = .ok (.iconst 0, 1) := by decide +kernel
theorem dX3_init_16 : decode cX3_init 16 = .ok (.putfield 18, 3) := by decide +kernel
theorem dX3_init_19 : decode cX3_init 19 = .ok (.aload_n 0, 1) := by decide +kernel
theorem dX3_init_20 : decode cX3_init 20 = .ok (.iconst 5, 1) := by decide +kernel
theorem dX3_init_21 : decode cX3_init 21 = .ok (.putfield 21, 3) := by decide +kernel
theorem dX3_init_24 : decode cX3_init 24 = .ok (.aload_n 0, 1) := by decide +kernel
theorem dX3_init_25 : decode cX3_init 25 = .ok (.iconst 5, 1) := by decide +kernel
theorem dX3_init_26 : decode cX3_init 26 = .ok (.newarray .int, 2) := by decide +kernel
theorem dX3_init_28 : decode cX3_init 28 = .ok (.putfield 24, 3) := by decide +kernel
theorem dX3_init_31 : decode cX3_init 31 = .ok (.aload_n 0, 1) := by decide +kernel
theorem dX3_init_32 : decode cX3_init 32 = .ok (.new 28, 3) := by decide +kernel
theorem dX3_init_35 : decode cX3_init 35 = .ok (.dup, 1) := by decide +kernel
theorem dX3_init_36 : decode cX3_init 36 = .ok (.invokespecial 30, 3) := by decide +kernel
theorem dX3_init_39 : decode cX3_init 39 = .ok (.putfield 31, 3) := by decide +kernel
theorem dX3_init_42 : decode cX3_init 42 = .ok (.aload_n 0, 1) := by decide +kernel
theorem dX3_init_43 : decode cX3_init 43 = .ok (.new 35, 3) := by decide +kernel
theorem dX3_init_46 : decode cX3_init 46 = .ok (.dup, 1) := by decide +kernel
theorem dX3_init_47 : decode cX3_init 47 = .ok (.invokespecial 37, 3) := by decide +kernel
theorem dX3_init_50 : decode cX3_init 50 = .ok (.putfield 38, 3) := by decide +kernel
theorem dX3_init_53 : decode cX3_init 53 = .ok (.aload_n 0, 1) := by decide +kernel
theorem dX3_init_54 : decode cX3_init 54 = .ok (.new 42, 3) := by decide +kernel
theorem dX3_init_57 : decode cX3_init 57 = .ok (.dup, 1) := by decide +kernel
theorem dX3_init_58 : decode cX3_init 58 = .ok (.invokespecial 44, 3) := by decide +kernel
theorem dX3_init_61 : decode cX3_init 61 = .ok (.putfield 45, 3) := by decide +kernel
theorem dX3_init_64 : decode cX3_init 64 = .ok (.return_, 1) := by decide +kernel
set_option maxRecDepth 20000 in
theorem ggX3_begin_J7_fill_53178 : GoodIn wsX3_begin wsJ7_fill_53178 := goodIn_r _ [12] (by decide +kernel) (by decide +kernel)
set_option maxRecDepth 20000 in
theorem gX3_begin_J7_fill_53178 : GoodIn wsX3_begin (va_wsS RX3 49 yJ7_fill_53178 wsJ7_fill_53178) := goodIn_app (goodIn_of _ (by decide +kernel)) ggX3_begin_J7_fill_53178
set_option maxRecDepth 20000 in
theorem ggX3_begin_X1_begin : GoodIn wsX3_begin wsX1_begin := goodIn_r _ [17, 18, 19, 20, 21, 22, 47] (by decide +kernel) (by decide +kernel)
set_option maxRecDepth 20000 in
theorem gX3_begin_X1_begin : GoodIn wsX3_begin (wsV RX3 55 RX1 yX1_begin wsX1_begin) := goodIn_app (goodIn_of _ (by decide +kernel)) ggX3_begin_X1_begin
set_option maxRecDepth 20000 in
theorem ggX3_begin_X2_begin : GoodIn wsX3_begin wsX2_begin := goodIn_r _ [27, 28, 29, 30, 10, 11, 12, 48, 49] (by decide +kernel) (by decide +kernel)
set_option maxRecDepth 20000 in
theorem gX3_begin_X2_begin : GoodIn wsX3_begin (wsV RX3 58 RX2 yX2_begin wsX2_begin) := goodIn_app (goodIn_of _ (by decide +kernel)) ggX3_begin_X2_begin
set_option maxRecDepth 20000 in
theorem ggX3_begin_X0_begin : GoodIn wsX3_begin wsX0_begin := goodIn_r _ [35, 36, 37, 38, 10, 11, 12, 50, 51] (by decide +kernel) (by decide +kernel)
set_option maxRecDepth 20000 in
theorem gX3_begin_X0_begin : GoodIn wsX3_begin (wsV RX3 59 RX0 yX0_begin wsX0_begin) := goodIn_app (goodIn_of _ (by decide +kernel)) ggX3_begin_X0_begin
theorem dX3_begin_0 : decode cX3_begin 0 = .ok (.aload_n 0, 1) := by decide +kernel
theorem dX3_begin_1 : decode cX3_begin 1 = .ok (.iload_n 1, 1) := by decide +kernel
theorem dX3_begin_2 : decode cX3_begin 2 = .ok (.putfield 9, 3) := by decide +kernel
theorem dX3_begin_5 : decode cX3_begin 5 = .ok (.aload_n 0, 1) := by decide +kernel
theorem dX3_begin_6 : decode cX3_begin 6 = .ok (.iconst 0, 1) := by decide +kernel
theorem dX3_begin_7 : decode cX3_begin 7 = .ok (.putfield 15, 3) := by decide +kernel
theorem dX3_begin_10 : decode cX3_begin 10 = .ok (.aload_n 0, 1) := by decide +kernel
theorem dX3_begin_11 : decode cX3_begin 11 = .ok (.iconst 0, 1) := by decide +kernel
theorem dX3_begin_12 : decode cX3_begin 12 = .ok (.putfield 18, 3) := by decide +kernel
theorem dX3_begin_15 : decode cX3_begin 15 = .ok (.aload_n 0, 1) := by decide +kernel
theorem dX3_begin_16 : decode cX3_begin 16 = .ok (.iconst 5, 1) := by decide +kernel
theorem dX3_begin_17 : decode cX3_begin 17 = .ok (.putfield 21, 3) := by decide +kernel
theorem dX3_begin_20 : decode cX3_begin 20 = .ok (.aload_n 0, 1) := by decide +kernel
theorem dX3_begin_21 : decode cX3_begin 21 = .ok (.getfield 24, 3) := by decide +kernel
theorem dX3_begin_24 : decode cX3_begin 24 = .ok (.iconst 0, 1) := by decide +kernel
theorem dX3_begin_25 : decode cX3_begin 25 = .ok (.invokestatic 49, 3) := by decide +kernel
theorem dX3_begin_28 : decode cX3_begin 28 = .ok (.aload_n 0, 1) := by decide +kernel
theorem dX3_begin_29 : decode cX3_begin 29 = .ok (.getfield 31, 3) := by decide +kernel
theorem dX3_begin_32 : decode cX3_begin 32 = .ok (.invokevirtual 55, 3) := by decide +kernel
theorem dX3_begin_35 : decode cX3_begin 35 = .ok (.aload_n 0, 1) := by decide +kernel
theorem dX3_begin_36 : decode cX3_begin 36 = .ok (.getfield 38, 3) := by decide +kernel
theorem dX3_begin_39 : decode cX3_begin 39 = .ok (.invokevirtual 58, 3) := by decide +kernel
theorem dX3_begin_42 : decode cX3_begin 42 = .ok (.aload_n 0, 1) := by decide +kernel
theorem dX3_begin_43 : decode cX3_begin 43 = .ok (.getfield 45, 3) := by decide +kernel
theorem dX3_begin_46 : decode cX3_begin 46 = .ok (.invokevirtual 59, 3) := by decide +kernel
theorem dX3_begin_49 : decode cX3_begin 49 = .ok (.return_, 1) := by decide +kernel
set_option maxRecDepth 20000 in
theorem ggX3_copyFrom_X1_copyFrom : GoodIn wsX3_copyFrom wsX1_copyFrom := goodIn_r _ [17, 18, 19, 7, 8, 9, 43] (by decide +kernel) (by decide +kernel)
set_option maxRecDepth 20000 in
theorem gX3_copyFrom_X1_copyFrom : GoodIn wsX3_copyFrom (wsV RX3 66 RX1 yX1_copyFrom wsX1_copyFrom) := goodIn_app (goodIn_of _ (by decide +kernel)) ggX3_copyFrom_X1_copyFrom
set_option maxRecDepth 20000 in
theorem ggX3_copyFrom_X2_copyFrom : GoodIn wsX3_copyFrom wsX2_copyFrom := goodIn_r _ [24, 25, 26, 7, 8, 9, 27, 44, 45] (by decide +kernel) (by decide +kernel)
set_option maxRecDepth 20000 in
theorem gX3_copyFrom_X2_copyFrom : GoodIn wsX3_copyFrom (wsV RX3 70 RX2 yX2_copyFrom wsX2_copyFrom) := goodIn_app (goodIn_of _ (by decide +kernel)) ggX3_copyFrom_X2_copyFrom
set_option maxRecDepth 20000 in
theorem ggX3_copyFrom_X0_copyFrom : GoodIn wsX3_copyFrom wsX0_copyFrom := goodIn_r _ [32, 33, 34, 7, 8, 9, 46, 47] (by decide +kernel) (by decide +kernel)
set_option maxRecDepth 20000 in
theorem gX3_copyFrom_X0_copyFrom : GoodIn wsX3_copyFrom (wsV RX3 73 RX0 yX0_copyFrom wsX0_copyFrom) := goodIn_app (goodIn_of _ (by decide +kernel)) ggX3_copyFrom_X0_copyFrom
theorem dX3_copyFrom_0 : decode cX3_copyFrom 0 = .ok (.aload_n 0, 1) := by decide +kernel
theorem dX3_copyFrom_1 : decode cX3_copyFrom 1 = .ok (.aload_n 1, 1) := by decide +kernel
theorem dX3_copyFrom_2 : decode cX3_copyFrom 2 = .ok (.getfield 9, 3) := by decide +kernel
theorem dX3_copyFrom_5 : decode cX3_copyFrom 5 = .ok (.putfield 9, 3) := by decide +kernel
theorem dX3_copyFrom_8 : decode cX3_copyFrom 8 = .ok (.aload_n 0, 1) := by decide +kernel
theorem dX3_copyFrom_9 : decode cX3_copyFrom 9 = .ok (.aload_n 1, 1) := by decide +kernel
theorem dX3_copyFrom_10 : decode cX3_copyFrom 10 = .ok (.getfield 15, 3) := by decide +kernel
theorem dX3_copyFrom_13 : decode cX3_copyFrom 13 = .ok (.putfield 15, 3) := by decide +kernel
theorem dX3_copyFrom_16 : decode cX3_copyFrom 16 = .ok (.aload_n 0, 1) := by decide +kernel
theorem dX3_copyFrom_17 : decode cX3_copyFrom 17 = .ok (.aload_n 1, 1) := by decide +kernel
theorem dX3_copyFrom_18 : decode cX3_copyFrom 18 = .ok (.getfield 18, 3) := by decide +kernel
theorem dX3_copyFrom_21 : decode cX3_copyFrom 21 = .ok (.putfield 18, 3) := by decide +kernel
theorem dX3_copyFrom_24 : decode cX3_copyFrom 24 = .ok (.aload_n 0, 1) := by decide +kernel
theorem dX3_copyFrom_25 : decode cX3_copyFrom 25 = .ok (.aload_n 1, 1) := by decide +kernel
theorem dX3_copyFrom_26 : decode cX3_copyFrom 26 = .ok (.getfield 21, 3) := by decide +kernel
theorem dX3_copyFrom_29 : decode cX3_copyFrom 29 = .ok (.putfield 21, 3) := by decide +kernel
theorem dX3_copyFrom_32 : decode cX3_copyFrom 32 = .ok (.aload_n 1, 1) := by decide +kernel
theorem dX3_copyFrom_33 : decode cX3_copyFrom 33 = .ok (.getfield 24, 3) := by decide +kernel
theorem dX3_copyFrom_36 : decode cX3_copyFrom 36 = .ok (.iconst 0, 1) := by decide +kernel
theorem dX3_copyFrom_37 : decode cX3_copyFrom 37 = .ok (.aload_n 0, 1) := by decide +kernel
theorem dX3_copyFrom_38 : decode cX3_copyFrom 38 = .ok (.getfield 24, 3) := by decide +kernel
theorem dX3_copyFrom_41 : decode cX3_copyFrom 41 = .ok (.iconst 0, 1) := by decide +kernel
theorem dX3_copyFrom_42 : decode cX3_copyFrom 42 = .ok (.iconst 5, 1) := by decide +kernel
theorem dX3_copyFrom_43 : decode cX3_copyFrom 43 = .ok (.invokestatic 60, 3) := by decide +kernel
theorem dX3_copyFrom_46 : decode cX3_copyFrom 46 = .ok (.aload_n 0, 1) := by decide +kernel
theorem dX3_copyFrom_47 : decode cX3_copyFrom 47 = .ok (.getfield 31, 3) := by decide +kernel
theorem dX3_copyFrom_50 : decode cX3_copyFrom 50 = .ok (.aload_n 1, 1) := by decide +kernel
theorem dX3_copyFrom_51 : decode cX3_copyFrom 51 = .ok (.getfield 31, 3) := by decide +kernel
theorem dX3_copyFrom_54 : decode cX3_copyFrom 54 = .ok (.invokevirtual 66, 3) := by decide +kernel
theorem dX3_copyFrom_57 : decode cX3_copyFrom 57 = .ok (.aload_n 0, 1) := by decide +kernel
theorem dX3_copyFrom_58 : decode cX3_copyFrom 58 = .ok (.getfield 38, 3) := by decide +kernel
theorem dX3_copyFrom_61 : decode cX3_copyFrom 61 = .ok (.aload_n 1, 1) := by decide +kernel
theorem dX3_copyFrom_62 : decode cX3_copyFrom 62 = .ok (.getfield 38, 3) := by decide +kernel
theorem dX3_copyFrom_65 : decode cX3_copyFrom 65 = .ok (.invokevirtual 70, 3) := by decide +kernel
theorem dX3_copyFrom_68 : decode cX3_copyFrom 68 = .ok (.aload_n 0, 1) := by decide +kernel
theorem dX3_copyFrom_69 : decode cX3_copyFrom 69 = .ok (.getfield 45, 3) := by decide +kernel
theorem dX3_copyFrom_72 : decode cX3_copyFrom 72 = .ok (.aload_n 1, 1) := by decide +kernel
theorem dX3_copyFrom_73 : decode cX3_copyFrom 73 = .ok (.getfield 45, 3) := by decide +kernel
theorem dX3_copyFrom_76 : decode cX3_copyFrom 76 = .ok (.invokevirtual 73, 3) := by decide +kernel
theorem dX3_copyFrom_79 : decode cX3_copyFrom 79 = .ok (.return_, 1) := by decide +kernel
set_option maxRecDepth 20000 in
theorem ggX3_hasNode_X4_within : GoodIn wsX3_hasNode wsX4_within := goodIn_r _ [4] (by decide +kernel) (by decide +kernel)
set_option maxRecDepth 20000 in
theorem gX3_hasNode_X4_within_n76 : GoodIn wsX3_hasNode (wsX4_within) := ggX3_hasNode_X4_within
theorem dX3_hasNode_0 : decode cX3_hasNode 0 = .ok (.iload_n 1, 1) := by decide +kernel
theorem dX3_hasNode_1 : decode cX3_hasNode 1 = .ok (.iconst 0, 1) := by decide +kernel
theorem dX3_hasNode_2 : decode cX3_hasNode 2 = .ok (.aload_n 0, 1) := by decide +kernel
theorem dX3_hasNode_3 : decode cX3_hasNode 3 = .ok (.getfield 9, 3) := by decide +kernel
theorem dX3_hasNode_6 : decode cX3_hasNode 6 = .ok (.iconst 1, 1) := by decide +kernel
theorem dX3_hasNode_7 : decode cX3_hasNode 7 = .ok (.isub, 1) := by decide +kernel
theorem dX3_hasNode_8 : decode cX3_hasNode 8 = .ok (.invokestatic 76, 3) := by decide +kernel
theorem dX3_hasNode_11 : decode cX3_hasNode 11 = .ok (.ireturn, 1) := by decide +kernel
set_option maxRecDepth 20000 in
theorem ggX3_hasLink_X4_within : GoodIn wsX3_hasLink wsX4_within := goodIn_r _ [4] (by decide +kernel) (by decide +kernel)
set_option maxRecDepth 20000 in
theorem gX3_hasLink_X4_within_n76 : GoodIn wsX3_hasLink (wsX4_within) := ggX3_hasLink_X4_within
theorem dX3_hasLink_0 : decode cX3_hasLink 0 = .ok (.iload_n 1, 1) := by decide +kernel
theorem dX3_hasLink_1 : decode cX3_hasLink 1 = .ok (.iconst 0, 1) := by decide +kernel
theorem dX3_hasLink_2 : decode cX3_hasLink 2 = .ok (.aload_n 0, 1) := by decide +kernel
theorem dX3_hasLink_3 : decode cX3_hasLink 3 = .ok (.getfield 9, 3) := by decide +kernel
theorem dX3_hasLink_6 : decode cX3_hasLink 6 = .ok (.iconst 2, 1) := by decide +kernel
theorem dX3_hasLink_7 : decode cX3_hasLink 7 = .ok (.isub, 1) := by decide +kernel
theorem dX3_hasLink_8 : decode cX3_hasLink 8 = .ok (.invokestatic 76, 3) := by decide +kernel
theorem dX3_hasLink_11 : decode cX3_hasLink 11 = .ok (.ireturn, 1) := by decide +kernel
set_option maxRecDepth 20000 in
theorem ggX3_sendPacket_X4_quotient : GoodIn wsX3_sendPacket wsX4_quotient := goodIn_r _ [10] (by decide +kernel) (by decide +kernel)
set_option maxRecDepth 20000 in
theorem gX3_sendPacket_X4_quotient_n80 : GoodIn wsX3_sendPacket (wsX4_quotient) := ggX3_sendPacket_X4_quotient
set_option maxRecDepth 20000 in
theorem ggX3_sendPacket_X2_add : GoodIn wsX3_sendPacket wsX2_add := goodIn_r _ [15, 16, 17, 18, 19, 14, 20, 45, 46] (by decide +kernel) (by decide +kernel)
set_option maxRecDepth 20000 in
theorem gX3_sendPacket_X2_add : GoodIn wsX3_sendPacket (wsV RX3 84 RX2 yX2_add wsX2_add) := goodIn_app (goodIn_of _ (by decide +kernel)) ggX3_sendPacket_X2_add
set_option maxRecDepth 20000 in
theorem ggX3_sendPacket_X1_drops : GoodIn wsX3_sendPacket wsX1_drops := goodIn_r _ [25, 26, 27, 28, 24, 29, 30, 47] (by decide +kernel) (by decide +kernel)
set_option maxRecDepth 20000 in
theorem gX3_sendPacket_X1_drops : GoodIn wsX3_sendPacket (wsV RX3 88 RX1 yX1_drops wsX1_drops) := goodIn_app (goodIn_of _ (by decide +kernel)) ggX3_sendPacket_X1_drops
set_option maxRecDepth 20000 in
theorem ggX3_sendPacket_X1_ticksThere : GoodIn wsX3_sendPacket wsX1_ticksThere := goodIn_r _ [34, 26, 27, 28, 24, 29, 30, 35, 9, 36, 47] (by decide +kernel) (by decide +kernel)
set_option maxRecDepth 20000 in
theorem gX3_sendPacket_X1_ticksThere : GoodIn wsX3_sendPacket (wsV RX3 92 RX1 yX1_ticksThere wsX1_ticksThere) := goodIn_app (goodIn_of _ (by decide +kernel)) ggX3_sendPacket_X1_ticksThere
theorem dX3_sendPacket_0 : decode cX3_sendPacket 0 = .ok (.aload_n 0, 1) := by decide +kernel
theorem dX3_sendPacket_1 : decode cX3_sendPacket 1 = .ok (.getfield 18, 3) := by decide +kernel
theorem dX3_sendPacket_4 : decode cX3_sendPacket 4 = .ok (.istore_n 1, 1) := by decide +kernel
theorem dX3_sendPacket_5 : decode cX3_sendPacket 5 = .ok (.iload_n 1, 1) := by decide +kernel
theorem dX3_sendPacket_6 : decode cX3_sendPacket 6 = .ok (.aload_n 0, 1) := by decide +kernel
theorem dX3_sendPacket_7 : decode cX3_sendPacket 7 = .ok (.getfield 21, 3) := by decide +kernel
theorem dX3_sendPacket_10 : decode cX3_sendPacket 10 = .ok (.invokestatic 80, 3) := by decide +kernel
theorem dX3_sendPacket_13 : decode cX3_sendPacket 13 = .ok (.istore_n 2, 1) := by decide +kernel
theorem dX3_sendPacket_14 : decode cX3_sendPacket 14 = .ok (.aload_n 0, 1) := by decide +kernel
theorem dX3_sendPacket_15 : decode cX3_sendPacket 15 = .ok (.getfield 15, 3) := by decide +kernel
theorem dX3_sendPacket_18 : decode cX3_sendPacket 18 = .ok (.istore_n 3, 1) := by decide +kernel
theorem dX3_sendPacket_19 : decode cX3_sendPacket 19 = .ok (.aload_n 0, 1) := by decide +kernel
theorem dX3_sendPacket_20 : decode cX3_sendPacket 20 = .ok (.dup, 1) := by decide +kernel
theorem dX3_sendPacket_21 : decode cX3_sendPacket 21 = .ok (.getfield 18, 3) := by decide +kernel
theorem dX3_sendPacket_24 : decode cX3_sendPacket 24 = .ok (.iconst 1, 1) := by decide +kernel
theorem dX3_sendPacket_25 : decode cX3_sendPacket 25 = .ok (.iadd, 1) := by decide +kernel
theorem dX3_sendPacket_26 : decode cX3_sendPacket 26 = .ok (.putfield 18, 3) := by decide +kernel
theorem dX3_sendPacket_29 : decode cX3_sendPacket 29 = .ok (.aload_n 0, 1) := by decide +kernel
theorem dX3_sendPacket_30 : decode cX3_sendPacket 30 = .ok (.dup, 1) := by decide +kernel
theorem dX3_sendPacket_31 : decode cX3_sendPacket 31 = .ok (.getfield 15, 3) := by decide +kernel
theorem dX3_sendPacket_34 : decode cX3_sendPacket 34 = .ok (.iconst 1, 1) := by decide +kernel
theorem dX3_sendPacket_35 : decode cX3_sendPacket 35 = .ok (.iadd, 1) := by decide +kernel
theorem dX3_sendPacket_36 : decode cX3_sendPacket 36 = .ok (.putfield 15, 3) := by decide +kernel
theorem dX3_sendPacket_39 : decode cX3_sendPacket 39 = .ok (.aload_n 0, 1) := by decide +kernel
theorem dX3_sendPacket_40 : decode cX3_sendPacket 40 = .ok (.getfield 38, 3) := by decide +kernel
theorem dX3_sendPacket_43 : decode cX3_sendPacket 43 = .ok (.iconst 0, 1) := by decide +kernel
theorem dX3_sendPacket_44 : decode cX3_sendPacket 44 = .ok (.iload_n 2, 1) := by decide +kernel
theorem dX3_sendPacket_45 : decode cX3_sendPacket 45 = .ok (.iload_n 3, 1) := by decide +kernel
theorem dX3_sendPacket_46 : decode cX3_sendPacket 46 = .ok (.aload_n 0, 1) := by decide +kernel
theorem dX3_sendPacket_47 : decode cX3_sendPacket 47 = .ok (.getfield 24, 3) := by decide +kernel
theorem dX3_sendPacket_50 : decode cX3_sendPacket 50 = .ok (.iconst 0, 1) := by decide +kernel
theorem dX3_sendPacket_51 : decode cX3_sendPacket 51 = .ok (.iaload, 1) := by decide +kernel
theorem dX3_sendPacket_52 : decode cX3_sendPacket 52 = .ok (.iadd, 1) := by decide +kernel
theorem dX3_sendPacket_53 : decode cX3_sendPacket 53 = .ok (.invokevirtual 84, 3) := by decide +kernel
theorem dX3_sendPacket_56 : decode cX3_sendPacket 56 = .ok (.iconst 0, 1) := by decide +kernel
theorem dX3_sendPacket_57 : decode cX3_sendPacket 57 = .ok (.istore 4, 2) := by decide +kernel
theorem dX3_sendPacket_59 : decode cX3_sendPacket 59 = .ok (.iload 4, 2) := by decide +kernel
theorem dX3_sendPacket_61 : decode cX3_sendPacket 61 = .ok (.aload_n 0, 1) := by decide +kernel
theorem dX3_sendPacket_62 : decode cX3_sendPacket 62 = .ok (.getfield 9, 3) := by decide +kernel
theorem dX3_sendPacket_65 : decode cX3_sendPacket 65 = .ok (.iconst 1, 1) := by decide +kernel
theorem dX3_sendPacket_66 : decode cX3_sendPacket 66 = .ok (.isub, 1) := by decide +kernel
theorem dX3_sendPacket_67 : decode cX3_sendPacket 67 = .ok (.if_icmp .ge 60, 3) := by decide +kernel
theorem dX3_sendPacket_70 : decode cX3_sendPacket 70 = .ok (.aload_n 0, 1) := by decide +kernel
theorem dX3_sendPacket_71 : decode cX3_sendPacket 71 = .ok (.getfield 31, 3) := by decide +kernel
theorem dX3_sendPacket_74 : decode cX3_sendPacket 74 = .ok (.iload 4, 2) := by decide +kernel
theorem dX3_sendPacket_76 : decode cX3_sendPacket 76 = .ok (.iload_n 1, 1) := by decide +kernel
theorem dX3_sendPacket_77 : decode cX3_sendPacket 77 = .ok (.invokevirtual 88, 3) := by decide +kernel
theorem dX3_sendPacket_80 : decode cX3_sendPacket 80 = .ok (.ifCond .eq 5, 3) := by decide +kernel
theorem dX3_sendPacket_83 : decode cX3_sendPacket 83 = .ok (.iconst 0, 1) := by decide +kernel
theorem dX3_sendPacket_84 : decode cX3_sendPacket 84 = .ok (.ireturn, 1) := by decide +kernel
theorem dX3_sendPacket_85 : decode cX3_sendPacket 85 = .ok (.iload_n 3, 1) := by decide +kernel
theorem dX3_sendPacket_86 : decode cX3_sendPacket 86 = .ok (.aload_n 0, 1) := by decide +kernel
theorem dX3_sendPacket_87 : decode cX3_sendPacket 87 = .ok (.getfield 31, 3) := by decide +kernel
theorem dX3_sendPacket_90 : decode cX3_sendPacket 90 = .ok (.iload 4, 2) := by decide +kernel
theorem dX3_sendPacket_92 : decode cX3_sendPacket 92 = .ok (.iload_n 3, 1) := by decide +kernel
theorem dX3_sendPacket_93 : decode cX3_sendPacket 93 = .ok (.invokevirtual 92, 3) := by decide +kernel
theorem dX3_sendPacket_96 : decode cX3_sendPacket 96 = .ok (.iadd, 1) := by decide +kernel
theorem dX3_sendPacket_97 : decode cX3_sendPacket 97 = .ok (.istore_n 3, 1) := by decide +kernel
theorem dX3_sendPacket_98 : decode cX3_sendPacket 98 = .ok (.aload_n 0, 1) := by decide +kernel
theorem dX3_sendPacket_99 : decode cX3_sendPacket 99 = .ok (.getfield 38, 3) := by decide +kernel
theorem dX3_sendPacket_102 : decode cX3_sendPacket 102 = .ok (.iload 4, 2) := by decide +kernel
theorem dX3_sendPacket_104 : decode cX3_sendPacket 104 = .ok (.iconst 1, 1) := by decide +kernel
theorem dX3_sendPacket_105 : decode cX3_sendPacket 105 = .ok (.iadd, 1) := by decide +kernel
theorem dX3_sendPacket_106 : decode cX3_sendPacket 106 = .ok (.iload_n 2, 1) := by decide +kernel
theorem dX3_sendPacket_107 : decode cX3_sendPacket 107 = .ok (.iload_n 3, 1) := by decide +kernel
theorem dX3_sendPacket_108 : decode cX3_sendPacket 108 = .ok (.aload_n 0, 1) := by decide +kernel
theorem dX3_sendPacket_109 : decode cX3_sendPacket 109 = .ok (.getfield 24, 3) := by decide +kernel
theorem dX3_sendPacket_112 : decode cX3_sendPacket 112 = .ok (.iload 4, 2) := by decide +kernel
theorem dX3_sendPacket_114 : decode cX3_sendPacket 114 = .ok (.iconst 1, 1) := by decide +kernel
theorem dX3_sendPacket_115 : decode cX3_sendPacket 115 = .ok (.iadd, 1) := by decide +kernel
theorem dX3_sendPacket_116 : decode cX3_sendPacket 116 = .ok (.iaload, 1) := by decide +kernel
theorem dX3_sendPacket_117 : decode cX3_sendPacket 117 = .ok (.iadd, 1) := by decide +kernel
theorem dX3_sendPacket_118 : decode cX3_sendPacket 118 = .ok (.invokevirtual 84, 3) := by decide +kernel
theorem dX3_sendPacket_121 : decode cX3_sendPacket 121 = .ok (.iinc 4 1, 3) := by decide +kernel
theorem dX3_sendPacket_124 : decode cX3_sendPacket 124 = .ok (.goto (-65), 3) := by decide +kernel
theorem dX3_sendPacket_127 : decode cX3_sendPacket 127 = .ok (.iconst 1, 1) := by decide +kernel
theorem dX3_sendPacket_128 : decode cX3_sendPacket 128 = .ok (.ireturn, 1) := by decide +kernel
set_option maxRecDepth 20000 in
theorem ggX3_soundPath_X1_ticksThere : GoodIn wsX3_soundPath wsX1_ticksThere := goodIn_r _ [9, 10, 11, 12, 8, 13, 14, 15, 16, 17, 43] (by decide +kernel) (by decide +kernel)
set_option maxRecDepth 20000 in
theorem gX3_soundPath_X1_ticksThere : GoodIn wsX3_soundPath (wsV RX3 92 RX1 yX1_ticksThere wsX1_ticksThere) := goodIn_app (goodIn_of _ (by decide +kernel)) ggX3_soundPath_X1_ticksThere
set_option maxRecDepth 20000 in
theorem ggX3_soundPath_X1_ticksBack : GoodIn wsX3_soundPath wsX1_ticksBack := goodIn_r _ [21, 10, 11, 12, 8, 13, 14, 15, 16, 17, 43] (by decide +kernel) (by decide +kernel)
set_option maxRecDepth 20000 in
theorem gX3_soundPath_X1_ticksBack : GoodIn wsX3_soundPath (wsV RX3 95 RX1 yX1_ticksBack wsX1_ticksBack) := goodIn_app (goodIn_of _ (by decide +kernel)) ggX3_soundPath_X1_ticksBack
set_option maxRecDepth 20000 in
theorem ggX3_soundPath_X0_narrow : GoodIn wsX3_soundPath wsX0_narrow := goodIn_r _ [26, 27, 28, 29, 30, 31, 32, 33, 25, 34, 44, 45] (by decide +kernel) (by decide +kernel)
set_option maxRecDepth 20000 in
theorem gX3_soundPath_X0_narrow : GoodIn wsX3_soundPath (wsV RX3 98 RX0 yX0_narrow wsX0_narrow) := goodIn_app (goodIn_of _ (by decide +kernel)) ggX3_soundPath_X0_narrow
theorem dX3_soundPath_0 : decode cX3_soundPath 0 = .ok (.aload_n 0, 1) := by decide +kernel
theorem dX3_soundPath_1 : decode cX3_soundPath 1 = .ok (.getfield 15, 3) := by decide +kernel
theorem dX3_soundPath_4 : decode cX3_soundPath 4 = .ok (.istore_n 3, 1) := by decide +kernel
theorem dX3_soundPath_5 : decode cX3_soundPath 5 = .ok (.iload_n 1, 1) := by decide +kernel
theorem dX3_soundPath_6 : decode cX3_soundPath 6 = .ok (.istore 4, 2) := by decide +kernel
theorem dX3_soundPath_8 : decode cX3_soundPath 8 = .ok (.iload 4, 2) := by decide +kernel
theorem dX3_soundPath_10 : decode cX3_soundPath 10 = .ok (.iload_n 2, 1) := by decide +kernel
theorem dX3_soundPath_11 : decode cX3_soundPath 11 = .ok (.if_icmp .ge 22, 3) := by decide +kernel
theorem dX3_soundPath_14 : decode cX3_soundPath 14 = .ok (.iload_n 3, 1) := by decide +kernel
theorem dX3_soundPath_15 : decode cX3_soundPath 15 = .ok (.aload_n 0, 1) := by decide +kernel
theorem dX3_soundPath_16 : decode cX3_soundPath 16 = .ok (.getfield 31, 3) := by decide +kernel
theorem dX3_soundPath_19 : decode cX3_soundPath 19 = .ok (.iload 4, 2) := by decide +kernel
theorem dX3_soundPath_21 : decode cX3_soundPath 21 = .ok (.iload_n 3, 1) := by decide +kernel
theorem dX3_soundPath_22 : decode cX3_soundPath 22 = .ok (.invokevirtual 92, 3) := by decide +kernel
theorem dX3_soundPath_25 : decode cX3_soundPath 25 = .ok (.iadd, 1) := by decide +kernel
theorem dX3_soundPath_26 : decode cX3_soundPath 26 = .ok (.istore_n 3, 1) := by decide +kernel
theorem dX3_soundPath_27 : decode cX3_soundPath 27 = .ok (.iinc 4 1, 3) := by decide +kernel
theorem dX3_soundPath_30 : decode cX3_soundPath 30 = .ok (.goto (-22), 3) := by decide +kernel
theorem dX3_soundPath_33 : decode cX3_soundPath 33 = .ok (.iload_n 3, 1) := by decide +kernel
theorem dX3_soundPath_34 : decode cX3_soundPath 34 = .ok (.istore 4, 2) := by decide +kernel
theorem dX3_soundPath_36 : decode cX3_soundPath 36 = .ok (.iload_n 2, 1) := by decide +kernel
theorem dX3_soundPath_37 : decode cX3_soundPath 37 = .ok (.iconst 1, 1) := by decide +kernel
theorem dX3_soundPath_38 : decode cX3_soundPath 38 = .ok (.isub, 1) := by decide +kernel
theorem dX3_soundPath_39 : decode cX3_soundPath 39 = .ok (.istore 5, 2) := by decide +kernel
theorem dX3_soundPath_41 : decode cX3_soundPath 41 = .ok (.iload 5, 2) := by decide +kernel
theorem dX3_soundPath_43 : decode cX3_soundPath 43 = .ok (.iload_n 1, 1) := by decide +kernel
theorem dX3_soundPath_44 : decode cX3_soundPath 44 = .ok (.if_icmp .lt 25, 3) := by decide +kernel
theorem dX3_soundPath_47 : decode cX3_soundPath 47 = .ok (.iload 4, 2) := by decide +kernel
theorem dX3_soundPath_49 : decode cX3_soundPath 49 = .ok (.aload_n 0, 1) := by decide +kernel
theorem dX3_soundPath_50 : decode cX3_soundPath 50 = .ok (.getfield 31, 3) := by decide +kernel
theorem dX3_soundPath_53 : decode cX3_soundPath 53 = .ok (.iload 5, 2) := by decide +kernel
theorem dX3_soundPath_55 : decode cX3_soundPath 55 = .ok (.iload 4, 2) := by decide +kernel
theorem dX3_soundPath_57 : decode cX3_soundPath 57 = .ok (.invokevirtual 95, 3) := by decide +kernel
theorem dX3_soundPath_60 : decode cX3_soundPath 60 = .ok (.iadd, 1) := by decide +kernel
theorem dX3_soundPath_61 : decode cX3_soundPath 61 = .ok (.istore 4, 2) := by decide +kernel
theorem dX3_soundPath_63 : decode cX3_soundPath 63 = .ok (.iinc 5 (-1), 3) := by decide +kernel
theorem dX3_soundPath_66 : decode cX3_soundPath 66 = .ok (.goto (-25), 3) := by decide +kernel
theorem dX3_soundPath_69 : decode cX3_soundPath 69 = .ok (.aload_n 0, 1) := by decide +kernel
theorem dX3_soundPath_70 : decode cX3_soundPath 70 = .ok (.getfield 15, 3) := by decide +kernel
theorem dX3_soundPath_73 : decode cX3_soundPath 73 = .ok (.aload_n 0, 1) := by decide +kernel
theorem dX3_soundPath_74 : decode cX3_soundPath 74 = .ok (.getfield 24, 3) := by decide +kernel
theorem dX3_soundPath_77 : decode cX3_soundPath 77 = .ok (.iload_n 1, 1) := by decide +kernel
theorem dX3_soundPath_78 : decode cX3_soundPath 78 = .ok (.iaload, 1) := by decide +kernel
theorem dX3_soundPath_79 : decode cX3_soundPath 79 = .ok (.iadd, 1) := by decide +kernel
theorem dX3_soundPath_80 : decode cX3_soundPath 80 = .ok (.istore 5, 2) := by decide +kernel
theorem dX3_soundPath_82 : decode cX3_soundPath 82 = .ok (.iload_n 3, 1) := by decide +kernel
theorem dX3_soundPath_83 : decode cX3_soundPath 83 = .ok (.aload_n 0, 1) := by decide +kernel
theorem dX3_soundPath_84 : decode cX3_soundPath 84 = .ok (.getfield 24, 3) := by decide +kernel
theorem dX3_soundPath_87 : decode cX3_soundPath 87 = .ok (.iload_n 2, 1) := by decide +kernel
theorem dX3_soundPath_88 : decode cX3_soundPath 88 = .ok (.iaload, 1) := by decide +kernel
theorem dX3_soundPath_89 : decode cX3_soundPath 89 = .ok (.iadd, 1) := by decide +kernel
theorem dX3_soundPath_90 : decode cX3_soundPath 90 = .ok (.istore 6, 2) := by decide +kernel
theorem dX3_soundPath_92 : decode cX3_soundPath 92 = .ok (.iload 4, 2) := by decide +kernel
theorem dX3_soundPath_94 : decode cX3_soundPath 94 = .ok (.aload_n 0, 1) := by decide +kernel
theorem dX3_soundPath_95 : decode cX3_soundPath 95 = .ok (.getfield 24, 3) := by decide +kernel
theorem dX3_soundPath_98 : decode cX3_soundPath 98 = .ok (.iload_n 1, 1) := by decide +kernel
theorem dX3_soundPath_99 : decode cX3_soundPath 99 = .ok (.iaload, 1) := by decide +kernel
theorem dX3_soundPath_100 : decode cX3_soundPath 100 = .ok (.iadd, 1) := by decide +kernel
theorem dX3_soundPath_101 : decode cX3_soundPath 101 = .ok (.istore 7, 2) := by decide +kernel
theorem dX3_soundPath_103 : decode cX3_soundPath 103 = .ok (.iload_n 2, 1) := by decide +kernel
theorem dX3_soundPath_104 : decode cX3_soundPath 104 = .ok (.iload_n 1, 1) := by decide +kernel
theorem dX3_soundPath_105 : decode cX3_soundPath 105 = .ok (.isub, 1) := by decide +kernel
theorem dX3_soundPath_106 : decode cX3_soundPath 106 = .ok (.istore 8, 2) := by decide +kernel
theorem dX3_soundPath_108 : decode cX3_soundPath 108 = .ok (.aload_n 0, 1) := by decide +kernel
theorem dX3_soundPath_109 : decode cX3_soundPath 109 = .ok (.getfield 45, 3) := by decide +kernel
theorem dX3_soundPath_112 : decode cX3_soundPath 112 = .ok (.iload_n 1, 1) := by decide +kernel
theorem dX3_soundPath_113 : decode cX3_soundPath 113 = .ok (.iload_n 2, 1) := by decide +kernel
theorem dX3_soundPath_114 : decode cX3_soundPath 114 = .ok (.iload 6, 2) := by decide +kernel
theorem dX3_soundPath_116 : decode cX3_soundPath 116 = .ok (.iload 5, 2) := by decide +kernel
theorem dX3_soundPath_118 : decode cX3_soundPath 118 = .ok (.isub, 1) := by decide +kernel
theorem dX3_soundPath_119 : decode cX3_soundPath 119 = .ok (.iload 8, 2) := by decide +kernel
theorem dX3_soundPath_121 : decode cX3_soundPath 121 = .ok (.isub, 1) := by decide +kernel
theorem dX3_soundPath_122 : decode cX3_soundPath 122 = .ok (.iload 6, 2) := by decide +kernel
theorem dX3_soundPath_124 : decode cX3_soundPath 124 = .ok (.iload 7, 2) := by decide +kernel
theorem dX3_soundPath_126 : decode cX3_soundPath 126 = .ok (.isub, 1) := by decide +kernel
theorem dX3_soundPath_127 : decode cX3_soundPath 127 = .ok (.iload 8, 2) := by decide +kernel
theorem dX3_soundPath_129 : decode cX3_soundPath 129 = .ok (.iadd, 1) := by decide +kernel
theorem dX3_soundPath_130 : decode cX3_soundPath 130 = .ok (.invokevirtual 98, 3) := by decide +kernel
theorem dX3_soundPath_133 : decode cX3_soundPath 133 = .ok (.iload 4, 2) := by decide +kernel
theorem dX3_soundPath_135 : decode cX3_soundPath 135 = .ok (.aload_n 0, 1) := by decide +kernel
theorem dX3_soundPath_136 : decode cX3_soundPath 136 = .ok (.getfield 15, 3) := by decide +kernel
theorem dX3_soundPath_139 : decode cX3_soundPath 139 = .ok (.isub, 1) := by decide +kernel
theorem dX3_soundPath_140 : decode cX3_soundPath 140 = .ok (.istore 9, 2) := by decide +kernel
theorem dX3_soundPath_142 : decode cX3_soundPath 142 = .ok (.aload_n 0, 1) := by decide +kernel
theorem dX3_soundPath_143 : decode cX3_soundPath 143 = .ok (.dup, 1) := by decide +kernel
theorem dX3_soundPath_144 : decode cX3_soundPath 144 = .ok (.getfield 15, 3) := by decide +kernel
theorem dX3_soundPath_147 : decode cX3_soundPath 147 = .ok (.iconst 1, 1) := by decide +kernel
theorem dX3_soundPath_148 : decode cX3_soundPath 148 = .ok (.iadd, 1) := by decide +kernel
theorem dX3_soundPath_149 : decode cX3_soundPath 149 = .ok (.putfield 15, 3) := by decide +kernel
theorem dX3_soundPath_152 : decode cX3_soundPath 152 = .ok (.iload 9, 2) := by decide +kernel
theorem dX3_soundPath_154 : decode cX3_soundPath 154 = .ok (.ireturn, 1) := by decide +kernel
set_option maxRecDepth 20000 in
theorem ggX3_firstBlockAbove_X2_lostBetween : GoodIn wsX3_firstBlockAbove wsX2_lostBetween := goodIn_r _ [7, 8, 9, 10, 6, 11, 12, 13, 14, 15, 24, 25] (by decide +kernel) (by decide +kernel)
set_option maxRecDepth 20000 in
theorem gX3_firstBlockAbove_X2_lostBetween : GoodIn wsX3_firstBlockAbove (wsV RX3 102 RX2 yX2_lostBetween wsX2_lostBetween) := goodIn_app (goodIn_of _ (by decide +kernel)) ggX3_firstBlockAbove_X2_lostBetween
theorem dX3_firstBlockAbove_0 : decode cX3_firstBlockAbove 0 = .ok (.iconst 0, 1) := by decide +kernel
theorem dX3_firstBlockAbove_1 : decode cX3_firstBlockAbove 1 = .ok (.istore_n 2, 1) := by decide +kernel
theorem dX3_firstBlockAbove_2 : decode cX3_firstBlockAbove 2 = .ok (.iload_n 2, 1) := by decide +kernel
theorem dX3_firstBlockAbove_3 : decode cX3_firstBlockAbove 3 = .ok (.sipush 200, 3) := by decide +kernel
theorem dX3_firstBlockAbove_6 : decode cX3_firstBlockAbove 6 = .ok (.if_icmp .ge 30, 3) := by decide +kernel
theorem dX3_firstBlockAbove_9 : decode cX3_firstBlockAbove 9 = .ok (.aload_n 0, 1) := by decide +kernel
theorem dX3_firstBlockAbove_10 : decode cX3_firstBlockAbove 10 = .ok (.getfield 38, 3) := by decide +kernel
theorem dX3_firstBlockAbove_13 : decode cX3_firstBlockAbove 13 = .ok (.iconst 0, 1) := by decide +kernel
theorem dX3_firstBlockAbove_14 : decode cX3_firstBlockAbove 14 = .ok (.aload_n 0, 1) := by decide +kernel
theorem dX3_firstBlockAbove_15 : decode cX3_firstBlockAbove 15 = .ok (.getfield 9, 3) := by decide +kernel
theorem dX3_firstBlockAbove_18 : decode cX3_firstBlockAbove 18 = .ok (.iconst 1, 1) := by decide +kernel
theorem dX3_firstBlockAbove_19 : decode cX3_firstBlockAbove 19 = .ok (.isub, 1) := by decide +kernel
theorem dX3_firstBlockAbove_20 : decode cX3_firstBlockAbove 20 = .ok (.iload_n 2, 1) := by decide +kernel
theorem dX3_firstBlockAbove_21 : decode cX3_firstBlockAbove 21 = .ok (.invokevirtual 102, 3) := by decide +kernel
theorem dX3_firstBlockAbove_24 : decode cX3_firstBlockAbove 24 = .ok (.iload_n 1, 1) := by decide +kernel
theorem dX3_firstBlockAbove_25 : decode cX3_firstBlockAbove 25 = .ok (.if_icmp .le 5, 3) := by decide +kernel
theorem dX3_firstBlockAbove_28 : decode cX3_firstBlockAbove 28 = .ok (.iload_n 2, 1) := by decide +kernel
theorem dX3_firstBlockAbove_29 : decode cX3_firstBlockAbove 29 = .ok (.ireturn, 1) := by decide +kernel
theorem dX3_firstBlockAbove_30 : decode cX3_firstBlockAbove 30 = .ok (.iinc 2 1, 3) := by decide +kernel
theorem dX3_firstBlockAbove_33 : decode cX3_firstBlockAbove 33 = .ok (.goto (-31), 3) := by decide +kernel
theorem dX3_firstBlockAbove_36 : decode cX3_firstBlockAbove 36 = .ok (.sipush 200, 3) := by decide +kernel
theorem dX3_firstBlockAbove_39 : decode cX3_firstBlockAbove 39 = .ok (.ireturn, 1) := by decide +kernel
set_option maxRecDepth 20000 in
theorem ggX3_firstLinkThatLost_X2_lostBetween : GoodIn wsX3_firstLinkThatLost wsX2_lostBetween := goodIn_r _ [7, 8, 9, 10, 6, 11, 12, 13, 14, 15, 24, 25] (by decide +kernel) (by decide +kernel)
set_option maxRecDepth 20000 in
theorem gX3_firstLinkThatLost_X2_lostBetween : GoodIn wsX3_firstLinkThatLost (wsV RX3 102 RX2 yX2_lostBetween wsX2_lostBetween) := goodIn_app (goodIn_of _ (by decide +kernel)) ggX3_firstLinkThatLost_X2_lostBetween
theorem dX3_firstLinkThatLost_0 : decode cX3_firstLinkThatLost 0 = .ok (.iconst 0, 1) := by decide +kernel
theorem dX3_firstLinkThatLost_1 : decode cX3_firstLinkThatLost 1 = .ok (.istore_n 2, 1) := by decide +kernel
theorem dX3_firstLinkThatLost_2 : decode cX3_firstLinkThatLost 2 = .ok (.iload_n 2, 1) := by decide +kernel
theorem dX3_firstLinkThatLost_3 : decode cX3_firstLinkThatLost 3 = .ok (.aload_n 0, 1) := by decide +kernel
theorem dX3_firstLinkThatLost_4 : decode cX3_firstLinkThatLost 4 = .ok (.getfield 9, 3) := by decide +kernel
theorem dX3_firstLinkThatLost_7 : decode cX3_firstLinkThatLost 7 = .ok (.iconst 2, 1) := by decide +kernel
theorem dX3_firstLinkThatLost_8 : decode cX3_firstLinkThatLost 8 = .ok (.isub, 1) := by decide +kernel
theorem dX3_firstLinkThatLost_9 : decode cX3_firstLinkThatLost 9 = .ok (.if_icmp .ge 26, 3) := by decide +kernel
theorem dX3_firstLinkThatLost_12 : decode cX3_firstLinkThatLost 12 = .ok (.aload_n 0, 1) := by decide +kernel
theorem dX3_firstLinkThatLost_13 : decode cX3_firstLinkThatLost 13 = .ok (.getfield 38, 3) := by decide +kernel
theorem dX3_firstLinkThatLost_16 : decode cX3_firstLinkThatLost 16 = .ok (.iload_n 2, 1) := by decide +kernel
theorem dX3_firstLinkThatLost_17 : decode cX3_firstLinkThatLost 17 = .ok (.iload_n 2, 1) := by decide +kernel
theorem dX3_firstLinkThatLost_18 : decode cX3_firstLinkThatLost 18 = .ok (.iconst 1, 1) := by decide +kernel
theorem dX3_firstLinkThatLost_19 : decode cX3_firstLinkThatLost 19 = .ok (.iadd, 1) := by decide +kernel
theorem dX3_firstLinkThatLost_20 : decode cX3_firstLinkThatLost 20 = .ok (.iload_n 1, 1) := by decide +kernel
theorem dX3_firstLinkThatLost_21 : decode cX3_firstLinkThatLost 21 = .ok (.invokevirtual 102, 3) := by decide +kernel
theorem dX3_firstLinkThatLost_24 : decode cX3_firstLinkThatLost 24 = .ok (.ifCond .le 5, 3) := by decide +kernel
theorem dX3_firstLinkThatLost_27 : decode cX3_firstLinkThatLost 27 = .ok (.iload_n 2, 1) := by decide +kernel
theorem dX3_firstLinkThatLost_28 : decode cX3_firstLinkThatLost 28 = .ok (.ireturn, 1) := by decide +kernel
theorem dX3_firstLinkThatLost_29 : decode cX3_firstLinkThatLost 29 = .ok (.iinc 2 1, 3) := by decide +kernel
theorem dX3_firstLinkThatLost_32 : decode cX3_firstLinkThatLost 32 = .ok (.goto (-30), 3) := by decide +kernel
theorem dX3_firstLinkThatLost_35 : decode cX3_firstLinkThatLost 35 = .ok (.aload_n 0, 1) := by decide +kernel
theorem dX3_firstLinkThatLost_36 : decode cX3_firstLinkThatLost 36 = .ok (.getfield 9, 3) := by decide +kernel
theorem dX3_firstLinkThatLost_39 : decode cX3_firstLinkThatLost 39 = .ok (.iconst 2, 1) := by decide +kernel
theorem dX3_firstLinkThatLost_40 : decode cX3_firstLinkThatLost 40 = .ok (.isub, 1) := by decide +kernel
theorem dX3_firstLinkThatLost_41 : decode cX3_firstLinkThatLost 41 = .ok (.ireturn, 1) := by decide +kernel
end
section
set_option maxRecDepth 20000 in
theorem ggX4_init_X3_init : GoodIn wsX4_init wsX3_init := goodIn_r _ [12, 13, 2, 3, 14, 15, 16, 17, 18, 19, 20, 21, 22, 23, 24, 25, 26, 27, 28, 29, 30, 31, 32, 33, 34, 35, 36, 37, 38, 39, 40, 41, 42, 43, 44, 45, 73, 74, 75, 76, 77, 78, 79, 80, 85, 86, 87, 88, 89] (by decide +kernel) (by decide +kernel)
set_option maxRecDepth 20000 in
theorem gX4_init_X3_init_n11 : GoodIn wsX4_init (wsX3_init) := ggX4_init_X3_init
set_option maxRecDepth 20000 in
theorem ggX4_init_X3_begin : GoodIn wsX4_init wsX3_begin := goodIn_r _ [49, 14, 15, 16, 17, 19, 23, 27, 31, 50, 51, 52, 53, 54, 55, 56, 22, 57, 35, 58, 59, 60, 61, 62, 63, 64, 26, 65, 39, 40, 66, 67, 68, 69, 30, 70, 44, 71, 72, 73, 74, 75, 76, 77, 78, 79, 80, 85, 86, 87, 88, 89] (by decide +kernel) (by decide +kernel)
set_option maxRecDepth 20000 in
theorem gX4_init_X3_begin : GoodIn wsX4_init (wsV RX4 26 RX3 yX3_begin wsX3_begin) := goodIn_app (goodIn_of _ (by decide +kernel)) ggX4_init_X3_begin
theorem dX4_init_0 : decode cX4_init 0 = .ok (.aload_n 0, 1) := by decide +kernel
theorem dX4_init_1 : decode cX4_init 1 = .ok (.invokespecial 3, 3) := by decide +kernel
theorem dX4_init_4 : decode cX4_init 4 = .ok (.aload_n 0, 1) := by decide +kernel
theorem dX4_init_5 : decode cX4_init 5 = .ok (.new 9, 3) := by decide +kernel
theorem dX4_init_8 : decode cX4_init 8 = .ok (.dup, 1) := by decide +kernel
theorem dX4_init_9 : decode cX4_init 9 = .ok (.invokespecial 11, 3) := by decide +kernel
theorem dX4_init_12 : decode cX4_init 12 = .ok (.putfield 12, 3) := by decide +kernel
theorem dX4_init_15 : decode cX4_init 15 = .ok (.aload_n 0, 1) := by decide +kernel
theorem dX4_init_16 : decode cX4_init 16 = .ok (.new 9, 3) := by decide +kernel
theorem dX4_init_19 : decode cX4_init 19 = .ok (.dup, 1) := by decide +kernel
theorem dX4_init_20 : decode cX4_init 20 = .ok (.invokespecial 11, 3) := by decide +kernel
theorem dX4_init_23 : decode cX4_init 23 = .ok (.putfield 16, 3) := by decide +kernel
theorem dX4_init_26 : decode cX4_init 26 = .ok (.aload_n 0, 1) := by decide +kernel
theorem dX4_init_27 : decode cX4_init 27 = .ok (.new 9, 3) := by decide +kernel
theorem dX4_init_30 : decode cX4_init 30 = .ok (.dup, 1) := by decide +kernel
theorem dX4_init_31 : decode cX4_init 31 = .ok (.invokespecial 11, 3) := by decide +kernel
theorem dX4_init_34 : decode cX4_init 34 = .ok (.putfield 19, 3) := by decide +kernel
theorem dX4_init_37 : decode cX4_init 37 = .ok (.aload_n 0, 1) := by decide +kernel
theorem dX4_init_38 : decode cX4_init 38 = .ok (.iconst 0, 1) := by decide +kernel
theorem dX4_init_39 : decode cX4_init 39 = .ok (.putfield 22, 3) := by decide +kernel
theorem dX4_init_42 : decode cX4_init 42 = .ok (.aload_n 0, 1) := by decide +kernel
theorem dX4_init_43 : decode cX4_init 43 = .ok (.getfield 12, 3) := by decide +kernel
theorem dX4_init_46 : decode cX4_init 46 = .ok (.iconst 3, 1) := by decide +kernel
theorem dX4_init_47 : decode cX4_init 47 = .ok (.invokevirtual 26, 3) := by decide +kernel
theorem dX4_init_50 : decode cX4_init 50 = .ok (.return_, 1) := by decide +kernel
set_option maxRecDepth 20000 in
theorem ggX4_nodes_X4_within : GoodIn wsX4_nodes wsX4_within := goodIn_r _ [6] (by decide +kernel) (by decide +kernel)
set_option maxRecDepth 20000 in
theorem gX4_nodes_X4_within : GoodIn wsX4_nodes (va_wsS RX4 30 yX4_within wsX4_within) := goodIn_app (goodIn_of _ (by decide +kernel)) ggX4_nodes_X4_within
set_option maxRecDepth 20000 in
theorem ggX4_nodes_X3_begin : GoodIn wsX4_nodes wsX3_begin := goodIn_r _ [11, 12, 13, 14, 15, 16, 17, 18, 19, 20, 21, 22, 23, 24, 25, 26, 27, 28, 29, 30, 31, 32, 33, 34, 35, 36, 37, 38, 39, 40, 41, 42, 43, 44, 45, 46, 47, 48, 49, 54, 55, 56, 57, 58, 59, 60, 61, 62, 63, 64, 65, 66] (by decide +kernel) (by decide +kernel)
set_option maxRecDepth 20000 in
theorem gX4_nodes_X3_begin : GoodIn wsX4_nodes (wsV RX4 26 RX3 yX3_begin wsX3_begin) := goodIn_app (goodIn_of _ (by decide +kernel)) ggX4_nodes_X3_begin
theorem dX4_nodes_0 : decode cX4_nodes 0 = .ok (.iload_n 1, 1) := by decide +kernel
theorem dX4_nodes_1 : decode cX4_nodes 1 = .ok (.iconst 2, 1) := by decide +kernel
theorem dX4_nodes_2 : decode cX4_nodes 2 = .ok (.iconst 5, 1) := by decide +kernel
theorem dX4_nodes_3 : decode cX4_nodes 3 = .ok (.invokestatic 30, 3) := by decide +kernel
theorem dX4_nodes_6 : decode cX4_nodes 6 = .ok (.ifCond .ne 6, 3) := by decide +kernel
theorem dX4_nodes_9 : decode cX4_nodes 9 = .ok (.bipush (-2), 2) := by decide +kernel
theorem dX4_nodes_11 : decode cX4_nodes 11 = .ok (.ireturn, 1) := by decide +kernel
theorem dX4_nodes_12 : decode cX4_nodes 12 = .ok (.aload_n 0, 1) := by decide +kernel
theorem dX4_nodes_13 : decode cX4_nodes 13 = .ok (.getfield 12, 3) := by decide +kernel
theorem dX4_nodes_16 : decode cX4_nodes 16 = .ok (.getfield 34, 3) := by decide +kernel
theorem dX4_nodes_19 : decode cX4_nodes 19 = .ok (.istore_n 2, 1) := by decide +kernel
theorem dX4_nodes_20 : decode cX4_nodes 20 = .ok (.aload_n 0, 1) := by decide +kernel
theorem dX4_nodes_21 : decode cX4_nodes 21 = .ok (.getfield 12, 3) := by decide +kernel
theorem dX4_nodes_24 : decode cX4_nodes 24 = .ok (.iload_n 1, 1) := by decide +kernel
theorem dX4_nodes_25 : decode cX4_nodes 25 = .ok (.invokevirtual 26, 3) := by decide +kernel
theorem dX4_nodes_28 : decode cX4_nodes 28 = .ok (.iload_n 2, 1) := by decide +kernel
theorem dX4_nodes_29 : decode cX4_nodes 29 = .ok (.ireturn, 1) := by decide +kernel
set_option maxRecDepth 20000 in
theorem ggX4_link_X3_hasLink : GoodIn wsX4_link wsX3_hasLink := goodIn_r _ [9, 10, 11, 12, 13, 29, 30, 31, 32, 33, 34, 35, 36] (by decide +kernel) (by decide +kernel)
set_option maxRecDepth 20000 in
theorem gX4_link_X3_hasLink : GoodIn wsX4_link (wsV RX4 37 RX3 yX3_hasLink wsX3_hasLink) := goodIn_app (goodIn_of _ (by decide +kernel)) ggX4_link_X3_hasLink
set_option maxRecDepth 20000 in
theorem ggX4_link_X4_within : GoodIn wsX4_link wsX4_within := goodIn_r _ [13] (by decide +kernel) (by decide +kernel)
set_option maxRecDepth 20000 in
theorem gX4_link_X4_within : GoodIn wsX4_link (va_wsS RX4 30 yX4_within wsX4_within) := goodIn_app (goodIn_of _ (by decide +kernel)) ggX4_link_X4_within
set_option maxRecDepth 20000 in
theorem ggX4_link_X1_read : GoodIn wsX4_link wsX1_read := goodIn_r _ [19, 20, 37] (by decide +kernel) (by decide +kernel)
set_option maxRecDepth 20000 in
theorem gX4_link_X1_read : GoodIn wsX4_link (wsV RX4 52 RX1 yX1_read wsX1_read) := goodIn_app (goodIn_of _ (by decide +kernel)) ggX4_link_X1_read
set_option maxRecDepth 20000 in
theorem ggX4_link_X1_write : GoodIn wsX4_link wsX1_write := goodIn_r _ [24, 20, 37] (by decide +kernel) (by decide +kernel)
set_option maxRecDepth 20000 in
theorem gX4_link_X1_write : GoodIn wsX4_link (wsV RX4 58 RX1 yX1_write wsX1_write) := goodIn_app (goodIn_of _ (by decide +kernel)) ggX4_link_X1_write
theorem dX4_link_0 : decode cX4_link 0 = .ok (.aload_n 0, 1) := by decide +kernel
theorem dX4_link_1 : decode cX4_link 1 = .ok (.getfield 12, 3) := by decide +kernel
theorem dX4_link_4 : decode cX4_link 4 = .ok (.iload_n 1, 1) := by decide +kernel
theorem dX4_link_5 : decode cX4_link 5 = .ok (.invokevirtual 37, 3) := by decide +kernel
theorem dX4_link_8 : decode cX4_link 8 = .ok (.ifCond .ne 5, 3) := by decide +kernel
theorem dX4_link_11 : decode cX4_link 11 = .ok (.iconst (-1), 1) := by decide +kernel
theorem dX4_link_12 : decode cX4_link 12 = .ok (.ireturn, 1) := by decide +kernel
theorem dX4_link_13 : decode cX4_link 13 = .ok (.iload_n 2, 1) := by decide +kernel
theorem dX4_link_14 : decode cX4_link 14 = .ok (.iconst 0, 1) := by decide +kernel
theorem dX4_link_15 : decode cX4_link 15 = .ok (.iconst 5, 1) := by decide +kernel
theorem dX4_link_16 : decode cX4_link 16 = .ok (.invokestatic 30, 3) := by decide +kernel
theorem dX4_link_19 : decode cX4_link 19 = .ok (.ifCond .eq 20, 3) := by decide +kernel
theorem dX4_link_22 : decode cX4_link 22 = .ok (.iload_n 3, 1) := by decide +kernel
theorem dX4_link_23 : decode cX4_link 23 = .ok (.getstatic 41, 3) := by decide +kernel
theorem dX4_link_26 : decode cX4_link 26 = .ok (.iload_n 2, 1) := by decide +kernel
theorem dX4_link_27 : decode cX4_link 27 = .ok (.iaload, 1) := by decide +kernel
theorem dX4_link_28 : decode cX4_link 28 = .ok (.getstatic 45, 3) := by decide +kernel
theorem dX4_link_31 : decode cX4_link 31 = .ok (.iload_n 2, 1) := by decide +kernel
theorem dX4_link_32 : decode cX4_link 32 = .ok (.iaload, 1) := by decide +kernel
theorem dX4_link_33 : decode cX4_link 33 = .ok (.invokestatic 30, 3) := by decide +kernel
theorem dX4_link_36 : decode cX4_link 36 = .ok (.ifCond .ne 6, 3) := by decide +kernel
theorem dX4_link_39 : decode cX4_link 39 = .ok (.bipush (-2), 2) := by decide +kernel
theorem dX4_link_41 : decode cX4_link 41 = .ok (.ireturn, 1) := by decide +kernel
theorem dX4_link_42 : decode cX4_link 42 = .ok (.aload_n 0, 1) := by decide +kernel
theorem dX4_link_43 : decode cX4_link 43 = .ok (.getfield 12, 3) := by decide +kernel
theorem dX4_link_46 : decode cX4_link 46 = .ok (.getfield 48, 3) := by decide +kernel
theorem dX4_link_49 : decode cX4_link 49 = .ok (.iload_n 1, 1) := by decide +kernel
theorem dX4_link_50 : decode cX4_link 50 = .ok (.iload_n 2, 1) := by decide +kernel
theorem dX4_link_51 : decode cX4_link 51 = .ok (.invokevirtual 52, 3) := by decide +kernel
theorem dX4_link_54 : decode cX4_link 54 = .ok (.istore 4, 2) := by decide +kernel
theorem dX4_link_56 : decode cX4_link 56 = .ok (.aload_n 0, 1) := by decide +kernel
theorem dX4_link_57 : decode cX4_link 57 = .ok (.getfield 12, 3) := by decide +kernel
theorem dX4_link_60 : decode cX4_link 60 = .ok (.getfield 48, 3) := by decide +kernel
theorem dX4_link_63 : decode cX4_link 63 = .ok (.iload_n 1, 1) := by decide +kernel
theorem dX4_link_64 : decode cX4_link 64 = .ok (.iload_n 2, 1) := by decide +kernel
theorem dX4_link_65 : decode cX4_link 65 = .ok (.iload_n 3, 1) := by decide +kernel
theorem dX4_link_66 : decode cX4_link 66 = .ok (.invokevirtual 58, 3) := by decide +kernel
theorem dX4_link_69 : decode cX4_link 69 = .ok (.iload 4, 2) := by decide +kernel
theorem dX4_link_71 : decode cX4_link 71 = .ok (.ireturn, 1) := by decide +kernel
set_option maxRecDepth 20000 in
theorem ggX4_clock_X3_hasNode : GoodIn wsX4_clock wsX3_hasNode := goodIn_r _ [12, 13, 14, 15, 16, 32, 33, 34, 35, 36, 37, 38, 39] (by decide +kernel) (by decide +kernel)
set_option maxRecDepth 20000 in
theorem gX4_clock_X3_hasNode : GoodIn wsX4_clock (wsV RX4 62 RX3 yX3_hasNode wsX3_hasNode) := goodIn_app (goodIn_of _ (by decide +kernel)) ggX4_clock_X3_hasNode
set_option maxRecDepth 20000 in
theorem ggX4_clock_X4_within : GoodIn wsX4_clock wsX4_within := goodIn_r _ [16] (by decide +kernel) (by decide +kernel)
set_option maxRecDepth 20000 in
theorem gX4_clock_X4_within : GoodIn wsX4_clock (va_wsS RX4 30 yX4_within wsX4_within) := goodIn_app (goodIn_of _ (by decide +kernel)) ggX4_clock_X4_within
set_option maxRecDepth 20000 in
theorem ggX4_clock_X0_forget : GoodIn wsX4_clock wsX0_forget := goodIn_r _ [22, 23, 24, 25, 26, 21, 27, 40, 41] (by decide +kernel) (by decide +kernel)
set_option maxRecDepth 20000 in
theorem gX4_clock_X0_forget : GoodIn wsX4_clock (wsV RX4 78 RX0 yX0_forget wsX0_forget) := goodIn_app (goodIn_of _ (by decide +kernel)) ggX4_clock_X0_forget
theorem dX4_clock_0 : decode cX4_clock 0 = .ok (.aload_n 0, 1) := by decide +kernel
theorem dX4_clock_1 : decode cX4_clock 1 = .ok (.getfield 12, 3) := by decide +kernel
theorem dX4_clock_4 : decode cX4_clock 4 = .ok (.iload_n 1, 1) := by decide +kernel
theorem dX4_clock_5 : decode cX4_clock 5 = .ok (.invokevirtual 62, 3) := by decide +kernel
theorem dX4_clock_8 : decode cX4_clock 8 = .ok (.ifCond .ne 6, 3) := by decide +kernel
theorem dX4_clock_11 : decode cX4_clock 11 = .ok (.ldc 65, 2) := by decide +kernel
theorem dX4_clock_13 : decode cX4_clock 13 = .ok (.ireturn, 1) := by decide +kernel
theorem dX4_clock_14 : decode cX4_clock 14 = .ok (.iload_n 2, 1) := by decide +kernel
theorem dX4_clock_15 : decode cX4_clock 15 = .ok (.bipush (-99), 2) := by decide +kernel
theorem dX4_clock_17 : decode cX4_clock 17 = .ok (.bipush 99, 2) := by decide +kernel
theorem dX4_clock_19 : decode cX4_clock 19 = .ok (.invokestatic 30, 3) := by decide +kernel
theorem dX4_clock_22 : decode cX4_clock 22 = .ok (.ifCond .ne 6, 3) := by decide +kernel
theorem dX4_clock_25 : decode cX4_clock 25 = .ok (.ldc 66, 2) := by decide +kernel
theorem dX4_clock_27 : decode cX4_clock 27 = .ok (.ireturn, 1) := by decide +kernel
theorem dX4_clock_28 : decode cX4_clock 28 = .ok (.aload_n 0, 1) := by decide +kernel
theorem dX4_clock_29 : decode cX4_clock 29 = .ok (.getfield 12, 3) := by decide +kernel
theorem dX4_clock_32 : decode cX4_clock 32 = .ok (.getfield 67, 3) := by decide +kernel
theorem dX4_clock_35 : decode cX4_clock 35 = .ok (.ifCond .le 6, 3) := by decide +kernel
theorem dX4_clock_38 : decode cX4_clock 38 = .ok (.ldc 70, 2) := by decide +kernel
theorem dX4_clock_40 : decode cX4_clock 40 = .ok (.ireturn, 1) := by decide +kernel
theorem dX4_clock_41 : decode cX4_clock 41 = .ok (.aload_n 0, 1) := by decide +kernel
theorem dX4_clock_42 : decode cX4_clock 42 = .ok (.getfield 12, 3) := by decide +kernel
theorem dX4_clock_45 : decode cX4_clock 45 = .ok (.getfield 71, 3) := by decide +kernel
theorem dX4_clock_48 : decode cX4_clock 48 = .ok (.iload_n 1, 1) := by decide +kernel
theorem dX4_clock_49 : decode cX4_clock 49 = .ok (.iaload, 1) := by decide +kernel
theorem dX4_clock_50 : decode cX4_clock 50 = .ok (.istore_n 3, 1) := by decide +kernel
theorem dX4_clock_51 : decode cX4_clock 51 = .ok (.aload_n 0, 1) := by decide +kernel
theorem dX4_clock_52 : decode cX4_clock 52 = .ok (.getfield 12, 3) := by decide +kernel
theorem dX4_clock_55 : decode cX4_clock 55 = .ok (.getfield 71, 3) := by decide +kernel
theorem dX4_clock_58 : decode cX4_clock 58 = .ok (.iload_n 1, 1) := by decide +kernel
theorem dX4_clock_59 : decode cX4_clock 59 = .ok (.iload_n 2, 1) := by decide +kernel
theorem dX4_clock_60 : decode cX4_clock 60 = .ok (.iastore, 1) := by decide +kernel
theorem dX4_clock_61 : decode cX4_clock 61 = .ok (.aload_n 0, 1) := by decide +kernel
theorem dX4_clock_62 : decode cX4_clock 62 = .ok (.getfield 12, 3) := by decide +kernel
theorem dX4_clock_65 : decode cX4_clock 65 = .ok (.getfield 74, 3) := by decide +kernel
theorem dX4_clock_68 : decode cX4_clock 68 = .ok (.iload_n 1, 1) := by decide +kernel
theorem dX4_clock_69 : decode cX4_clock 69 = .ok (.invokevirtual 78, 3) := by decide +kernel
theorem dX4_clock_72 : decode cX4_clock 72 = .ok (.iload_n 3, 1) := by decide +kernel
theorem dX4_clock_73 : decode cX4_clock 73 = .ok (.ireturn, 1) := by decide +kernel
set_option maxRecDepth 20000 in
theorem ggX4_block_X4_within : GoodIn wsX4_block wsX4_within := goodIn_r _ [7] (by decide +kernel) (by decide +kernel)
set_option maxRecDepth 20000 in
theorem gX4_block_X4_within : GoodIn wsX4_block (va_wsS RX4 30 yX4_within wsX4_within) := goodIn_app (goodIn_of _ (by decide +kernel)) ggX4_block_X4_within
theorem dX4_block_0 : decode cX4_block 0 = .ok (.iload_n 1, 1) := by decide +kernel
theorem dX4_block_1 : decode cX4_block 1 = .ok (.iconst 1, 1) := by decide +kernel
theorem dX4_block_2 : decode cX4_block 2 = .ok (.bipush 20, 2) := by decide +kernel
theorem dX4_block_4 : decode cX4_block 4 = .ok (.invokestatic 30, 3) := by decide +kernel
theorem dX4_block_7 : decode cX4_block 7 = .ok (.ifCond .ne 6, 3) := by decide +kernel
theorem dX4_block_10 : decode cX4_block 10 = .ok (.bipush (-2), 2) := by decide +kernel
theorem dX4_block_12 : decode cX4_block 12 = .ok (.ireturn, 1) := by decide +kernel
theorem dX4_block_13 : decode cX4_block 13 = .ok (.aload_n 0, 1) := by decide +kernel
theorem dX4_block_14 : decode cX4_block 14 = .ok (.getfield 12, 3) := by decide +kernel
theorem dX4_block_17 : decode cX4_block 17 = .ok (.getfield 67, 3) := by decide +kernel
theorem dX4_block_20 : decode cX4_block 20 = .ok (.ifCond .le 6, 3) := by decide +kernel
theorem dX4_block_23 : decode cX4_block 23 = .ok (.bipush (-3), 2) := by decide +kernel
theorem dX4_block_25 : decode cX4_block 25 = .ok (.ireturn, 1) := by decide +kernel
theorem dX4_block_26 : decode cX4_block 26 = .ok (.aload_n 0, 1) := by decide +kernel
theorem dX4_block_27 : decode cX4_block 27 = .ok (.getfield 12, 3) := by decide +kernel
theorem dX4_block_30 : decode cX4_block 30 = .ok (.getfield 83, 3) := by decide +kernel
theorem dX4_block_33 : decode cX4_block 33 = .ok (.istore_n 2, 1) := by decide +kernel
theorem dX4_block_34 : decode cX4_block 34 = .ok (.aload_n 0, 1) := by decide +kernel
theorem dX4_block_35 : decode cX4_block 35 = .ok (.getfield 12, 3) := by decide +kernel
theorem dX4_block_38 : decode cX4_block 38 = .ok (.iload_n 1, 1) := by decide +kernel
theorem dX4_block_39 : decode cX4_block 39 = .ok (.putfield 83, 3) := by decide +kernel
theorem dX4_block_42 : decode cX4_block 42 = .ok (.iload_n 2, 1) := by decide +kernel
theorem dX4_block_43 : decode cX4_block 43 = .ok (.ireturn, 1) := by decide +kernel
set_option maxRecDepth 20000 in
theorem ggX4_pause_X4_within : GoodIn wsX4_pause wsX4_within := goodIn_r _ [6] (by decide +kernel) (by decide +kernel)
set_option maxRecDepth 20000 in
theorem gX4_pause_X4_within : GoodIn wsX4_pause (va_wsS RX4 30 yX4_within wsX4_within) := goodIn_app (goodIn_of _ (by decide +kernel)) ggX4_pause_X4_within
theorem dX4_pause_0 : decode cX4_pause 0 = .ok (.iload_n 1, 1) := by decide +kernel
theorem dX4_pause_1 : decode cX4_pause 1 = .ok (.iconst 1, 1) := by decide +kernel
theorem dX4_pause_2 : decode cX4_pause 2 = .ok (.sipush 999, 3) := by decide +kernel
theorem dX4_pause_5 : decode cX4_pause 5 = .ok (.invokestatic 30, 3) := by decide +kernel
theorem dX4_pause_8 : decode cX4_pause 8 = .ok (.ifCond .ne 6, 3) := by decide +kernel
theorem dX4_pause_11 : decode cX4_pause 11 = .ok (.bipush (-2), 2) := by decide +kernel
theorem dX4_pause_13 : decode cX4_pause 13 = .ok (.ireturn, 1) := by decide +kernel
theorem dX4_pause_14 : decode cX4_pause 14 = .ok (.aload_n 0, 1) := by decide +kernel
theorem dX4_pause_15 : decode cX4_pause 15 = .ok (.getfield 12, 3) := by decide +kernel
theorem dX4_pause_18 : decode cX4_pause 18 = .ok (.getfield 86, 3) := by decide +kernel
theorem dX4_pause_21 : decode cX4_pause 21 = .ok (.iload_n 1, 1) := by decide +kernel
theorem dX4_pause_22 : decode cX4_pause 22 = .ok (.iadd, 1) := by decide +kernel
theorem dX4_pause_23 : decode cX4_pause 23 = .ok (.sipush 9999, 3) := by decide +kernel
theorem dX4_pause_26 : decode cX4_pause 26 = .ok (.if_icmp .le 6, 3) := by decide +kernel
theorem dX4_pause_29 : decode cX4_pause 29 = .ok (.bipush (-4), 2) := by decide +kernel
theorem dX4_pause_31 : decode cX4_pause 31 = .ok (.ireturn, 1) := by decide +kernel
theorem dX4_pause_32 : decode cX4_pause 32 = .ok (.aload_n 0, 1) := by decide +kernel
theorem dX4_pause_33 : decode cX4_pause 33 = .ok (.getfield 12, 3) := by decide +kernel
theorem dX4_pause_36 : decode cX4_pause 36 = .ok (.dup, 1) := by decide +kernel
theorem dX4_pause_37 : decode cX4_pause 37 = .ok (.getfield 86, 3) := by decide +kernel
theorem dX4_pause_40 : decode cX4_pause 40 = .ok (.iload_n 1, 1) := by decide +kernel
theorem dX4_pause_41 : decode cX4_pause 41 = .ok (.iadd, 1) := by decide +kernel
theorem dX4_pause_42 : decode cX4_pause 42 = .ok (.putfield 86, 3) := by decide +kernel
theorem dX4_pause_45 : decode cX4_pause 45 = .ok (.aload_n 0, 1) := by decide +kernel
theorem dX4_pause_46 : decode cX4_pause 46 = .ok (.getfield 12, 3) := by decide +kernel
theorem dX4_pause_49 : decode cX4_pause 49 = .ok (.getfield 86, 3) := by decide +kernel
theorem dX4_pause_52 : decode cX4_pause 52 = .ok (.ireturn, 1) := by decide +kernel
set_option maxRecDepth 20000 in
theorem ggX4_send_X4_within : GoodIn wsX4_send wsX4_within := goodIn_r _ [7] (by decide +kernel) (by decide +kernel)
set_option maxRecDepth 20000 in
theorem gX4_send_X4_within : GoodIn wsX4_send (va_wsS RX4 30 yX4_within wsX4_within) := goodIn_app (goodIn_of _ (by decide +kernel)) ggX4_send_X4_within
set_option maxRecDepth 20000 in
theorem ggX4_send_X3_sendPacket : GoodIn wsX4_send wsX3_sendPacket := goodIn_r _ [12, 13, 14, 15, 16, 17, 18, 19, 20, 6, 21, 22, 23, 24, 25, 26, 27, 28, 29, 30, 31, 32, 33, 34, 35, 36, 37, 38, 39, 40, 41, 42, 43, 44, 45, 46, 47, 52, 53, 54, 55, 56, 57, 58, 59, 60, 61, 62] (by decide +kernel) (by decide +kernel)
set_option maxRecDepth 20000 in
theorem gX4_send_X3_sendPacket : GoodIn wsX4_send (wsV RX4 89 RX3 yX3_sendPacket wsX3_sendPacket) := goodIn_app (goodIn_of _ (by decide +kernel)) ggX4_send_X3_sendPacket
theorem dX4_send_0 : decode cX4_send 0 = .ok (.iload_n 1, 1) := by decide +kernel
theorem dX4_send_1 : decode cX4_send 1 = .ok (.iconst 1, 1) := by decide +kernel
theorem dX4_send_2 : decode cX4_send 2 = .ok (.bipush 60, 2) := by decide +kernel
theorem dX4_send_4 : decode cX4_send 4 = .ok (.invokestatic 30, 3) := by decide +kernel
theorem dX4_send_7 : decode cX4_send 7 = .ok (.ifCond .ne 6, 3) := by decide +kernel
theorem dX4_send_10 : decode cX4_send 10 = .ok (.bipush (-2), 2) := by decide +kernel
theorem dX4_send_12 : decode cX4_send 12 = .ok (.ireturn, 1) := by decide +kernel
theorem dX4_send_13 : decode cX4_send 13 = .ok (.aload_n 0, 1) := by decide +kernel
theorem dX4_send_14 : decode cX4_send 14 = .ok (.getfield 12, 3) := by decide +kernel
theorem dX4_send_17 : decode cX4_send 17 = .ok (.getfield 67, 3) := by decide +kernel
theorem dX4_send_20 : decode cX4_send 20 = .ok (.iload_n 1, 1) := by decide +kernel
theorem dX4_send_21 : decode cX4_send 21 = .ok (.iadd, 1) := by decide +kernel
theorem dX4_send_22 : decode cX4_send 22 = .ok (.sipush 200, 3) := by decide +kernel
theorem dX4_send_25 : decode cX4_send 25 = .ok (.if_icmp .gt 18, 3) := by decide +kernel
theorem dX4_send_28 : decode cX4_send 28 = .ok (.aload_n 0, 1) := by decide +kernel
theorem dX4_send_29 : decode cX4_send 29 = .ok (.getfield 12, 3) := by decide +kernel
theorem dX4_send_32 : decode cX4_send 32 = .ok (.getfield 86, 3) := by decide +kernel
theorem dX4_send_35 : decode cX4_send 35 = .ok (.iload_n 1, 1) := by decide +kernel
theorem dX4_send_36 : decode cX4_send 36 = .ok (.iadd, 1) := by decide +kernel
theorem dX4_send_37 : decode cX4_send 37 = .ok (.sipush 9999, 3) := by decide +kernel
theorem dX4_send_40 : decode cX4_send 40 = .ok (.if_icmp .le 6, 3) := by decide +kernel
theorem dX4_send_43 : decode cX4_send 43 = .ok (.bipush (-4), 2) := by decide +kernel
theorem dX4_send_45 : decode cX4_send 45 = .ok (.ireturn, 1) := by decide +kernel
theorem dX4_send_46 : decode cX4_send 46 = .ok (.iconst 0, 1) := by decide +kernel
theorem dX4_send_47 : decode cX4_send 47 = .ok (.istore_n 2, 1) := by decide +kernel
theorem dX4_send_48 : decode cX4_send 48 = .ok (.iconst 0, 1) := by decide +kernel
theorem dX4_send_49 : decode cX4_send 49 = .ok (.istore_n 3, 1) := by decide +kernel
theorem dX4_send_50 : decode cX4_send 50 = .ok (.iload_n 3, 1) := by decide +kernel
theorem dX4_send_51 : decode cX4_send 51 = .ok (.iload_n 1, 1) := by decide +kernel
theorem dX4_send_52 : decode cX4_send 52 = .ok (.if_icmp .ge 22, 3) := by decide +kernel
theorem dX4_send_55 : decode cX4_send 55 = .ok (.aload_n 0, 1) := by decide +kernel
theorem dX4_send_56 : decode cX4_send 56 = .ok (.getfield 12, 3) := by decide +kernel
theorem dX4_send_59 : decode cX4_send 59 = .ok (.invokevirtual 89, 3) := by decide +kernel
theorem dX4_send_62 : decode cX4_send 62 = .ok (.ifCond .eq 6, 3) := by decide +kernel
theorem dX4_send_65 : decode cX4_send 65 = .ok (.iinc 2 1, 3) := by decide +kernel
theorem dX4_send_68 : decode cX4_send 68 = .ok (.iinc 3 1, 3) := by decide +kernel
theorem dX4_send_71 : decode cX4_send 71 = .ok (.goto (-21), 3) := by decide +kernel
theorem dX4_send_74 : decode cX4_send 74 = .ok (.iload_n 2, 1) := by decide +kernel
theorem dX4_send_75 : decode cX4_send 75 = .ok (.ireturn, 1) := by decide +kernel
set_option maxRecDepth 20000 in
theorem ggX4_kept_X3_hasNode : GoodIn wsX4_kept wsX3_hasNode := goodIn_r _ [9, 10, 11, 12, 13, 36, 37, 38, 39, 40, 41, 42, 43] (by decide +kernel) (by decide +kernel)
set_option maxRecDepth 20000 in
theorem gX4_kept_X3_hasNode : GoodIn wsX4_kept (wsV RX4 62 RX3 yX3_hasNode wsX3_hasNode) := goodIn_app (goodIn_of _ (by decide +kernel)) ggX4_kept_X3_hasNode
set_option maxRecDepth 20000 in
theorem ggX4_kept_X4_isBlock : GoodIn wsX4_kept wsX4_isBlock := goodIn_r _ [16, 17, 11, 12, 13] (by decide +kernel) (by decide +kernel)
set_option maxRecDepth 20000 in
theorem gX4_kept_X4_isBlock : GoodIn wsX4_kept (va_wsS RX4 93 yX4_isBlock wsX4_isBlock) := goodIn_app (goodIn_of _ (by decide +kernel)) ggX4_kept_X4_isBlock
set_option maxRecDepth 20000 in
theorem ggX4_kept_X4_within : GoodIn wsX4_kept wsX4_within := goodIn_r _ [13] (by decide +kernel) (by decide +kernel)
set_option maxRecDepth 20000 in
theorem gX4_kept_X4_within : GoodIn wsX4_kept (va_wsS RX4 30 yX4_within wsX4_within) := goodIn_app (goodIn_of _ (by decide +kernel)) ggX4_kept_X4_within
set_option maxRecDepth 20000 in
theorem ggX4_kept_X2_countOf : GoodIn wsX4_kept wsX2_countOf := goodIn_r _ [22, 23, 24, 25, 21, 26, 44, 45] (by decide +kernel) (by decide +kernel)
set_option maxRecDepth 20000 in
theorem gX4_kept_X2_countOf : GoodIn wsX4_kept (wsV RX4 100 RX2 yX2_countOf wsX2_countOf) := goodIn_app (goodIn_of _ (by decide +kernel)) ggX4_kept_X2_countOf
set_option maxRecDepth 20000 in
theorem ggX4_kept_X2_sumOf : GoodIn wsX4_kept wsX2_sumOf := goodIn_r _ [30, 31, 24, 25, 21, 26, 44, 45] (by decide +kernel) (by decide +kernel)
set_option maxRecDepth 20000 in
theorem gX4_kept_X2_sumOf : GoodIn wsX4_kept (wsV RX4 105 RX2 yX2_sumOf wsX2_sumOf) := goodIn_app (goodIn_of _ (by decide +kernel)) ggX4_kept_X2_sumOf
theorem dX4_kept_0 : decode cX4_kept 0 = .ok (.aload_n 0, 1) := by decide +kernel
theorem dX4_kept_1 : decode cX4_kept 1 = .ok (.getfield 12, 3) := by decide +kernel
theorem dX4_kept_4 : decode cX4_kept 4 = .ok (.iload_n 1, 1) := by decide +kernel
theorem dX4_kept_5 : decode cX4_kept 5 = .ok (.invokevirtual 62, 3) := by decide +kernel
theorem dX4_kept_8 : decode cX4_kept 8 = .ok (.ifCond .ne 6, 3) := by decide +kernel
theorem dX4_kept_11 : decode cX4_kept 11 = .ok (.ldc 65, 2) := by decide +kernel
theorem dX4_kept_13 : decode cX4_kept 13 = .ok (.ireturn, 1) := by decide +kernel
theorem dX4_kept_14 : decode cX4_kept 14 = .ok (.iload_n 2, 1) := by decide +kernel
theorem dX4_kept_15 : decode cX4_kept 15 = .ok (.invokestatic 93, 3) := by decide +kernel
theorem dX4_kept_18 : decode cX4_kept 18 = .ok (.ifCond .eq 12, 3) := by decide +kernel
theorem dX4_kept_21 : decode cX4_kept 21 = .ok (.iload_n 3, 1) := by decide +kernel
theorem dX4_kept_22 : decode cX4_kept 22 = .ok (.iconst 0, 1) := by decide +kernel
theorem dX4_kept_23 : decode cX4_kept 23 = .ok (.iconst 1, 1) := by decide +kernel
theorem dX4_kept_24 : decode cX4_kept 24 = .ok (.invokestatic 30, 3) := by decide +kernel
theorem dX4_kept_27 : decode cX4_kept 27 = .ok (.ifCond .ne 6, 3) := by decide +kernel
theorem dX4_kept_30 : decode cX4_kept 30 = .ok (.ldc 66, 2) := by decide +kernel
theorem dX4_kept_32 : decode cX4_kept 32 = .ok (.ireturn, 1) := by decide +kernel
theorem dX4_kept_33 : decode cX4_kept 33 = .ok (.iload_n 3, 1) := by decide +kernel
theorem dX4_kept_34 : decode cX4_kept 34 = .ok (.ifCond .ne 18, 3) := by decide +kernel
theorem dX4_kept_37 : decode cX4_kept 37 = .ok (.aload_n 0, 1) := by decide +kernel
theorem dX4_kept_38 : decode cX4_kept 38 = .ok (.getfield 12, 3) := by decide +kernel
theorem dX4_kept_41 : decode cX4_kept 41 = .ok (.getfield 96, 3) := by decide +kernel
theorem dX4_kept_44 : decode cX4_kept 44 = .ok (.iload_n 1, 1) := by decide +kernel
theorem dX4_kept_45 : decode cX4_kept 45 = .ok (.iload_n 2, 1) := by decide +kernel
theorem dX4_kept_46 : decode cX4_kept 46 = .ok (.invokevirtual 100, 3) := by decide +kernel
theorem dX4_kept_49 : decode cX4_kept 49 = .ok (.goto 15, 3) := by decide +kernel
theorem dX4_kept_52 : decode cX4_kept 52 = .ok (.aload_n 0, 1) := by decide +kernel
theorem dX4_kept_53 : decode cX4_kept 53 = .ok (.getfield 12, 3) := by decide +kernel
theorem dX4_kept_56 : decode cX4_kept 56 = .ok (.getfield 96, 3) := by decide +kernel
theorem dX4_kept_59 : decode cX4_kept 59 = .ok (.iload_n 1, 1) := by decide +kernel
theorem dX4_kept_60 : decode cX4_kept 60 = .ok (.iload_n 2, 1) := by decide +kernel
theorem dX4_kept_61 : decode cX4_kept 61 = .ok (.invokevirtual 105, 3) := by decide +kernel
theorem dX4_kept_64 : decode cX4_kept 64 = .ok (.ireturn, 1) := by decide +kernel
set_option maxRecDepth 20000 in
theorem ggX4_lost_X3_hasLink : GoodIn wsX4_lost wsX3_hasLink := goodIn_r _ [7, 8, 9, 10, 11, 38, 39, 40, 41, 42, 43, 44, 45] (by decide +kernel) (by decide +kernel)
set_option maxRecDepth 20000 in
theorem gX4_lost_X3_hasLink : GoodIn wsX4_lost (wsV RX4 37 RX3 yX3_hasLink wsX3_hasLink) := goodIn_app (goodIn_of _ (by decide +kernel)) ggX4_lost_X3_hasLink
set_option maxRecDepth 20000 in
theorem ggX4_lost_X4_isBlock : GoodIn wsX4_lost wsX4_isBlock := goodIn_r _ [14, 15, 9, 10, 11] (by decide +kernel) (by decide +kernel)
set_option maxRecDepth 20000 in
theorem gX4_lost_X4_isBlock : GoodIn wsX4_lost (va_wsS RX4 93 yX4_isBlock wsX4_isBlock) := goodIn_app (goodIn_of _ (by decide +kernel)) ggX4_lost_X4_isBlock
set_option maxRecDepth 20000 in
theorem ggX4_lost_X2_lostOfAll : GoodIn wsX4_lost wsX2_lostOfAll := goodIn_r _ [20, 21, 22, 23, 19, 24, 25, 26, 27, 28, 29, 30, 31, 32, 46, 47] (by decide +kernel) (by decide +kernel)
set_option maxRecDepth 20000 in
theorem gX4_lost_X2_lostOfAll : GoodIn wsX4_lost (wsV RX4 108 RX2 yX2_lostOfAll wsX2_lostOfAll) := goodIn_app (goodIn_of _ (by decide +kernel)) ggX4_lost_X2_lostOfAll
set_option maxRecDepth 20000 in
theorem ggX4_lost_X2_lostBetween : GoodIn wsX4_lost wsX2_lostBetween := goodIn_r _ [24, 25, 26, 27, 19, 28, 29, 30, 31, 32, 46, 47] (by decide +kernel) (by decide +kernel)
set_option maxRecDepth 20000 in
theorem gX4_lost_X2_lostBetween : GoodIn wsX4_lost (wsV RX4 112 RX2 yX2_lostBetween wsX2_lostBetween) := goodIn_app (goodIn_of _ (by decide +kernel)) ggX4_lost_X2_lostBetween
theorem dX4_lost_0 : decode cX4_lost 0 = .ok (.aload_n 0, 1) := by decide +kernel
theorem dX4_lost_1 : decode cX4_lost 1 = .ok (.getfield 12, 3) := by decide +kernel
theorem dX4_lost_4 : decode cX4_lost 4 = .ok (.iload_n 1, 1) := by decide +kernel
theorem dX4_lost_5 : decode cX4_lost 5 = .ok (.invokevirtual 37, 3) := by decide +kernel
theorem dX4_lost_8 : decode cX4_lost 8 = .ok (.ifCond .ne 5, 3) := by decide +kernel
theorem dX4_lost_11 : decode cX4_lost 11 = .ok (.iconst (-1), 1) := by decide +kernel
theorem dX4_lost_12 : decode cX4_lost 12 = .ok (.ireturn, 1) := by decide +kernel
theorem dX4_lost_13 : decode cX4_lost 13 = .ok (.iload_n 2, 1) := by decide +kernel
theorem dX4_lost_14 : decode cX4_lost 14 = .ok (.iconst (-1), 1) := by decide +kernel
theorem dX4_lost_15 : decode cX4_lost 15 = .ok (.if_icmp .eq 13, 3) := by decide +kernel
theorem dX4_lost_18 : decode cX4_lost 18 = .ok (.iload_n 2, 1) := by decide +kernel
theorem dX4_lost_19 : decode cX4_lost 19 = .ok (.invokestatic 93, 3) := by decide +kernel
theorem dX4_lost_22 : decode cX4_lost 22 = .ok (.ifCond .ne 6, 3) := by decide +kernel
theorem dX4_lost_25 : decode cX4_lost 25 = .ok (.bipush (-2), 2) := by decide +kernel
theorem dX4_lost_27 : decode cX4_lost 27 = .ok (.ireturn, 1) := by decide +kernel
theorem dX4_lost_28 : decode cX4_lost 28 = .ok (.iload_n 2, 1) := by decide +kernel
theorem dX4_lost_29 : decode cX4_lost 29 = .ok (.iconst (-1), 1) := by decide +kernel
theorem dX4_lost_30 : decode cX4_lost 30 = .ok (.if_icmp .ne 17, 3) := by decide +kernel
theorem dX4_lost_33 : decode cX4_lost 33 = .ok (.aload_n 0, 1) := by decide +kernel
theorem dX4_lost_34 : decode cX4_lost 34 = .ok (.getfield 12, 3) := by decide +kernel
theorem dX4_lost_37 : decode cX4_lost 37 = .ok (.getfield 96, 3) := by decide +kernel
theorem dX4_lost_40 : decode cX4_lost 40 = .ok (.iload_n 1, 1) := by decide +kernel
theorem dX4_lost_41 : decode cX4_lost 41 = .ok (.invokevirtual 108, 3) := by decide +kernel
theorem dX4_lost_44 : decode cX4_lost 44 = .ok (.goto 18, 3) := by decide +kernel
theorem dX4_lost_47 : decode cX4_lost 47 = .ok (.aload_n 0, 1) := by decide +kernel
theorem dX4_lost_48 : decode cX4_lost 48 = .ok (.getfield 12, 3) := by decide +kernel
theorem dX4_lost_51 : decode cX4_lost 51 = .ok (.getfield 96, 3) := by decide +kernel
theorem dX4_lost_54 : decode cX4_lost 54 = .ok (.iload_n 1, 1) := by decide +kernel
theorem dX4_lost_55 : decode cX4_lost 55 = .ok (.iload_n 1, 1) := by decide +kernel
theorem dX4_lost_56 : decode cX4_lost 56 = .ok (.iconst 1, 1) := by decide +kernel
theorem dX4_lost_57 : decode cX4_lost 57 = .ok (.iadd, 1) := by decide +kernel
theorem dX4_lost_58 : decode cX4_lost 58 = .ok (.iload_n 2, 1) := by decide +kernel
theorem dX4_lost_59 : decode cX4_lost 59 = .ok (.invokevirtual 112, 3) := by decide +kernel
theorem dX4_lost_62 : decode cX4_lost 62 = .ok (.ireturn, 1) := by decide +kernel
set_option maxRecDepth 20000 in
theorem ggX4_took_X4_tookRefusal : GoodIn wsX4_took wsX4_tookRefusal := goodIn_r _ [9, 10, 11, 12, 8, 13, 2, 14, 15, 16, 17, 18, 19, 20, 21, 22, 23, 24, 25, 58, 59, 60, 61, 62, 63, 64, 65, 66, 67, 68, 69] (by decide +kernel) (by decide +kernel)
set_option maxRecDepth 20000 in
theorem gX4_took_X4_tookRefusal : GoodIn wsX4_took (wsV RX4 116 RX4 yX4_tookRefusal wsX4_tookRefusal) := goodIn_app (goodIn_of _ (by decide +kernel)) ggX4_took_X4_tookRefusal
set_option maxRecDepth 20000 in
theorem ggX4_took_X2_hasTook : GoodIn wsX4_took wsX2_hasTook := goodIn_r _ [30, 31, 32, 33, 29, 34, 35, 36, 37, 38, 70, 71] (by decide +kernel) (by decide +kernel)
set_option maxRecDepth 20000 in
theorem gX4_took_X2_hasTook : GoodIn wsX4_took (wsV RX4 121 RX2 yX2_hasTook wsX2_hasTook) := goodIn_app (goodIn_of _ (by decide +kernel)) ggX4_took_X2_hasTook
set_option maxRecDepth 20000 in
theorem ggX4_took_X2_tookUpper : GoodIn wsX4_took wsX2_tookUpper := goodIn_r _ [42, 43, 44, 45, 29, 46, 47, 36, 37, 38, 70, 71] (by decide +kernel) (by decide +kernel)
set_option maxRecDepth 20000 in
theorem gX4_took_X2_tookUpper : GoodIn wsX4_took (wsV RX4 125 RX2 yX2_tookUpper wsX2_tookUpper) := goodIn_app (goodIn_of _ (by decide +kernel)) ggX4_took_X2_tookUpper
set_option maxRecDepth 20000 in
theorem ggX4_took_X2_countOf : GoodIn wsX4_took wsX2_countOf := goodIn_r _ [34, 35, 36, 37, 29, 38, 70, 71] (by decide +kernel) (by decide +kernel)
set_option maxRecDepth 20000 in
theorem gX4_took_X2_countOf : GoodIn wsX4_took (wsV RX4 100 RX2 yX2_countOf wsX2_countOf) := goodIn_app (goodIn_of _ (by decide +kernel)) ggX4_took_X2_countOf
set_option maxRecDepth 20000 in
theorem ggX4_took_X4_fractionPart : GoodIn wsX4_took wsX4_fractionPart := goodIn_r _ [51, 52, 53, 8, 54, 55, 56, 57] (by decide +kernel) (by decide +kernel)
set_option maxRecDepth 20000 in
theorem gX4_took_X4_fractionPart : GoodIn wsX4_took (va_wsS RX4 128 yX4_fractionPart wsX4_fractionPart) := goodIn_app (goodIn_of _ (by decide +kernel)) ggX4_took_X4_fractionPart
theorem dX4_took_0 : decode cX4_took 0 = .ok (.aload_n 0, 1) := by decide +kernel
theorem dX4_took_1 : decode cX4_took 1 = .ok (.iload_n 1, 1) := by decide +kernel
theorem dX4_took_2 : decode cX4_took 2 = .ok (.iload_n 2, 1) := by decide +kernel
theorem dX4_took_3 : decode cX4_took 3 = .ok (.iload_n 3, 1) := by decide +kernel
theorem dX4_took_4 : decode cX4_took 4 = .ok (.iload 4, 2) := by decide +kernel
theorem dX4_took_6 : decode cX4_took 6 = .ok (.invokevirtual 116, 3) := by decide +kernel
theorem dX4_took_9 : decode cX4_took 9 = .ok (.istore 5, 2) := by decide +kernel
theorem dX4_took_11 : decode cX4_took 11 = .ok (.iload 5, 2) := by decide +kernel
theorem dX4_took_13 : decode cX4_took 13 = .ok (.ifCond .eq 9, 3) := by decide +kernel
theorem dX4_took_16 : decode cX4_took 16 = .ok (.ldc 120, 2) := by decide +kernel
theorem dX4_took_18 : decode cX4_took 18 = .ok (.iload 5, 2) := by decide +kernel
theorem dX4_took_20 : decode cX4_took 20 = .ok (.iadd, 1) := by decide +kernel
theorem dX4_took_21 : decode cX4_took 21 = .ok (.ireturn, 1) := by decide +kernel
theorem dX4_took_22 : decode cX4_took 22 = .ok (.aload_n 0, 1) := by decide +kernel
theorem dX4_took_23 : decode cX4_took 23 = .ok (.getfield 12, 3) := by decide +kernel
theorem dX4_took_26 : decode cX4_took 26 = .ok (.getfield 96, 3) := by decide +kernel
theorem dX4_took_29 : decode cX4_took 29 = .ok (.iload_n 1, 1) := by decide +kernel
theorem dX4_took_30 : decode cX4_took 30 = .ok (.iload_n 2, 1) := by decide +kernel
theorem dX4_took_31 : decode cX4_took 31 = .ok (.iload_n 3, 1) := by decide +kernel
theorem dX4_took_32 : decode cX4_took 32 = .ok (.invokevirtual 121, 3) := by decide +kernel
theorem dX4_took_35 : decode cX4_took 35 = .ok (.ifCond .ne 6, 3) := by decide +kernel
theorem dX4_took_38 : decode cX4_took 38 = .ok (.ldc 124, 2) := by decide +kernel
theorem dX4_took_40 : decode cX4_took 40 = .ok (.ireturn, 1) := by decide +kernel
theorem dX4_took_41 : decode cX4_took 41 = .ok (.aload_n 0, 1) := by decide +kernel
theorem dX4_took_42 : decode cX4_took 42 = .ok (.getfield 12, 3) := by decide +kernel
theorem dX4_took_45 : decode cX4_took 45 = .ok (.getfield 96, 3) := by decide +kernel
theorem dX4_took_48 : decode cX4_took 48 = .ok (.iload_n 1, 1) := by decide +kernel
theorem dX4_took_49 : decode cX4_took 49 = .ok (.iload_n 2, 1) := by decide +kernel
theorem dX4_took_50 : decode cX4_took 50 = .ok (.iload_n 3, 1) := by decide +kernel
theorem dX4_took_51 : decode cX4_took 51 = .ok (.invokevirtual 125, 3) := by decide +kernel
theorem dX4_took_54 : decode cX4_took 54 = .ok (.aload_n 0, 1) := by decide +kernel
theorem dX4_took_55 : decode cX4_took 55 = .ok (.getfield 12, 3) := by decide +kernel
theorem dX4_took_58 : decode cX4_took 58 = .ok (.getfield 96, 3) := by decide +kernel
theorem dX4_took_61 : decode cX4_took 61 = .ok (.iload_n 1, 1) := by decide +kernel
theorem dX4_took_62 : decode cX4_took 62 = .ok (.iload_n 3, 1) := by decide +kernel
theorem dX4_took_63 : decode cX4_took 63 = .ok (.invokevirtual 100, 3) := by decide +kernel
theorem dX4_took_66 : decode cX4_took 66 = .ok (.iload 4, 2) := by decide +kernel
theorem dX4_took_68 : decode cX4_took 68 = .ok (.invokestatic 128, 3) := by decide +kernel
theorem dX4_took_71 : decode cX4_took 71 = .ok (.ireturn, 1) := by decide +kernel
set_option maxRecDepth 20000 in
theorem ggX4_first_X4_within : GoodIn wsX4_first wsX4_within := goodIn_r _ [6] (by decide +kernel) (by decide +kernel)
set_option maxRecDepth 20000 in
theorem gX4_first_X4_within : GoodIn wsX4_first (va_wsS RX4 30 yX4_within wsX4_within) := goodIn_app (goodIn_of _ (by decide +kernel)) ggX4_first_X4_within
set_option maxRecDepth 20000 in
theorem ggX4_first_X3_firstBlockAbove : GoodIn wsX4_first wsX3_firstBlockAbove := goodIn_r _ [11, 12, 13, 14, 15, 16, 17, 18, 19, 20, 21, 22, 23, 24, 25, 26, 39, 40, 41, 42, 43, 44, 45, 46, 47, 48] (by decide +kernel) (by decide +kernel)
set_option maxRecDepth 20000 in
theorem gX4_first_X3_firstBlockAbove : GoodIn wsX4_first (wsV RX4 131 RX3 yX3_firstBlockAbove wsX3_firstBlockAbove) := goodIn_app (goodIn_of _ (by decide +kernel)) ggX4_first_X3_firstBlockAbove
set_option maxRecDepth 20000 in
theorem ggX4_first_X4_isBlock : GoodIn wsX4_first wsX4_isBlock := goodIn_r _ [29, 3, 4, 5, 6] (by decide +kernel) (by decide +kernel)
set_option maxRecDepth 20000 in
theorem gX4_first_X4_isBlock : GoodIn wsX4_first (va_wsS RX4 93 yX4_isBlock wsX4_isBlock) := goodIn_app (goodIn_of _ (by decide +kernel)) ggX4_first_X4_isBlock
set_option maxRecDepth 20000 in
theorem ggX4_first_X3_firstLinkThatLost : GoodIn wsX4_first wsX3_firstLinkThatLost := goodIn_r _ [33, 13, 12, 14, 15, 16, 17, 18, 19, 20, 21, 22, 23, 24, 25, 26, 39, 40, 41, 42, 43, 44, 45, 46, 47, 48] (by decide +kernel) (by decide +kernel)
set_option maxRecDepth 20000 in
theorem gX4_first_X3_firstLinkThatLost : GoodIn wsX4_first (wsV RX4 134 RX3 yX3_firstLinkThatLost wsX3_firstLinkThatLost) := goodIn_app (goodIn_of _ (by decide +kernel)) ggX4_first_X3_firstLinkThatLost
set_option maxRecDepth 20000 in
theorem ggX4_first_X2_lostBetween : GoodIn wsX4_first wsX2_lostBetween := goodIn_r _ [18, 19, 20, 21, 17, 22, 23, 24, 25, 26, 47, 48] (by decide +kernel) (by decide +kernel)
set_option maxRecDepth 20000 in
theorem gX4_first_X2_lostBetween : GoodIn wsX4_first (wsV RX4 112 RX2 yX2_lostBetween wsX2_lostBetween) := goodIn_app (goodIn_of _ (by decide +kernel)) ggX4_first_X2_lostBetween
theorem dX4_first_0 : decode cX4_first 0 = .ok (.iload_n 1, 1) := by decide +kernel
theorem dX4_first_1 : decode cX4_first 1 = .ok (.iconst 0, 1) := by decide +kernel
theorem dX4_first_2 : decode cX4_first 2 = .ok (.bipush 20, 2) := by decide +kernel
theorem dX4_first_4 : decode cX4_first 4 = .ok (.invokestatic 30, 3) := by decide +kernel
theorem dX4_first_7 : decode cX4_first 7 = .ok (.ifCond .eq 12, 3) := by decide +kernel
theorem dX4_first_10 : decode cX4_first 10 = .ok (.iload_n 2, 1) := by decide +kernel
theorem dX4_first_11 : decode cX4_first 11 = .ok (.iconst 0, 1) := by decide +kernel
theorem dX4_first_12 : decode cX4_first 12 = .ok (.iconst 2, 1) := by decide +kernel
theorem dX4_first_13 : decode cX4_first 13 = .ok (.invokestatic 30, 3) := by decide +kernel
theorem dX4_first_16 : decode cX4_first 16 = .ok (.ifCond .ne 6, 3) := by decide +kernel
theorem dX4_first_19 : decode cX4_first 19 = .ok (.bipush (-2), 2) := by decide +kernel
theorem dX4_first_21 : decode cX4_first 21 = .ok (.ireturn, 1) := by decide +kernel
theorem dX4_first_22 : decode cX4_first 22 = .ok (.aload_n 0, 1) := by decide +kernel
theorem dX4_first_23 : decode cX4_first 23 = .ok (.getfield 12, 3) := by decide +kernel
theorem dX4_first_26 : decode cX4_first 26 = .ok (.iload_n 1, 1) := by decide +kernel
theorem dX4_first_27 : decode cX4_first 27 = .ok (.invokevirtual 131, 3) := by decide +kernel
theorem dX4_first_30 : decode cX4_first 30 = .ok (.istore_n 3, 1) := by decide +kernel
theorem dX4_first_31 : decode cX4_first 31 = .ok (.iload_n 3, 1) := by decide +kernel
theorem dX4_first_32 : decode cX4_first 32 = .ok (.invokestatic 93, 3) := by decide +kernel
theorem dX4_first_35 : decode cX4_first 35 = .ok (.ifCond .ne 6, 3) := by decide +kernel
theorem dX4_first_38 : decode cX4_first 38 = .ok (.bipush (-6), 2) := by decide +kernel
theorem dX4_first_40 : decode cX4_first 40 = .ok (.ireturn, 1) := by decide +kernel
theorem dX4_first_41 : decode cX4_first 41 = .ok (.iload_n 2, 1) := by decide +kernel
theorem dX4_first_42 : decode cX4_first 42 = .ok (.ifCond .ne 5, 3) := by decide +kernel
theorem dX4_first_45 : decode cX4_first 45 = .ok (.iload_n 3, 1) := by decide +kernel
theorem dX4_first_46 : decode cX4_first 46 = .ok (.ireturn, 1) := by decide +kernel
theorem dX4_first_47 : decode cX4_first 47 = .ok (.aload_n 0, 1) := by decide +kernel
theorem dX4_first_48 : decode cX4_first 48 = .ok (.getfield 12, 3) := by decide +kernel
theorem dX4_first_51 : decode cX4_first 51 = .ok (.iload_n 3, 1) := by decide +kernel
theorem dX4_first_52 : decode cX4_first 52 = .ok (.invokevirtual 134, 3) := by decide +kernel
theorem dX4_first_55 : decode cX4_first 55 = .ok (.istore 4, 2) := by decide +kernel
theorem dX4_first_57 : decode cX4_first 57 = .ok (.iload_n 2, 1) := by decide +kernel
theorem dX4_first_58 : decode cX4_first 58 = .ok (.iconst 1, 1) := by decide +kernel
theorem dX4_first_59 : decode cX4_first 59 = .ok (.if_icmp .ne 8, 3) := by decide +kernel
theorem dX4_first_62 : decode cX4_first 62 = .ok (.iload 4, 2) := by decide +kernel
theorem dX4_first_64 : decode cX4_first 64 = .ok (.goto 20, 3) := by decide +kernel
theorem dX4_first_67 : decode cX4_first 67 = .ok (.aload_n 0, 1) := by decide +kernel
theorem dX4_first_68 : decode cX4_first 68 = .ok (.getfield 12, 3) := by decide +kernel
theorem dX4_first_71 : decode cX4_first 71 = .ok (.getfield 96, 3) := by decide +kernel
theorem dX4_first_74 : decode cX4_first 74 = .ok (.iload 4, 2) := by decide +kernel
theorem dX4_first_76 : decode cX4_first 76 = .ok (.iload 4, 2) := by decide +kernel
theorem dX4_first_78 : decode cX4_first 78 = .ok (.iconst 1, 1) := by decide +kernel
theorem dX4_first_79 : decode cX4_first 79 = .ok (.iadd, 1) := by decide +kernel
theorem dX4_first_80 : decode cX4_first 80 = .ok (.iload_n 3, 1) := by decide +kernel
theorem dX4_first_81 : decode cX4_first 81 = .ok (.invokevirtual 112, 3) := by decide +kernel
theorem dX4_first_84 : decode cX4_first 84 = .ok (.ireturn, 1) := by decide +kernel
set_option maxRecDepth 20000 in
theorem ggX4_sound_X4_pairRefusal : GoodIn wsX4_sound wsX4_pairRefusal := goodIn_r _ [7, 1, 8, 9, 10, 11, 12, 13, 14, 6, 15, 53, 54, 55, 56, 57, 58, 59, 60, 61, 62, 63, 64] (by decide +kernel) (by decide +kernel)
set_option maxRecDepth 20000 in
theorem gX4_sound_X4_pairRefusal : GoodIn wsX4_sound (wsV RX4 137 RX4 yX4_pairRefusal wsX4_pairRefusal) := goodIn_app (goodIn_of _ (by decide +kernel)) ggX4_sound_X4_pairRefusal
set_option maxRecDepth 20000 in
theorem ggX4_sound_X3_soundPath : GoodIn wsX4_sound wsX3_soundPath := goodIn_r _ [19, 20, 21, 22, 23, 24, 25, 26, 27, 28, 29, 30, 31, 32, 33, 34, 6, 35, 36, 37, 38, 39, 40, 41, 42, 43, 44, 45, 46, 47, 48, 49, 50, 51, 52, 57, 58, 59, 60, 61, 62, 63, 64, 65, 66, 67] (by decide +kernel) (by decide +kernel)
set_option maxRecDepth 20000 in
theorem gX4_sound_X3_soundPath : GoodIn wsX4_sound (wsV RX4 140 RX3 yX3_soundPath wsX3_soundPath) := goodIn_app (goodIn_of _ (by decide +kernel)) ggX4_sound_X3_soundPath
theorem dX4_sound_0 : decode cX4_sound 0 = .ok (.aload_n 0, 1) := by decide +kernel
theorem dX4_sound_1 : decode cX4_sound 1 = .ok (.iload_n 1, 1) := by decide +kernel
theorem dX4_sound_2 : decode cX4_sound 2 = .ok (.iload_n 2, 1) := by decide +kernel
theorem dX4_sound_3 : decode cX4_sound 3 = .ok (.invokevirtual 137, 3) := by decide +kernel
theorem dX4_sound_6 : decode cX4_sound 6 = .ok (.istore_n 3, 1) := by decide +kernel
theorem dX4_sound_7 : decode cX4_sound 7 = .ok (.iload_n 3, 1) := by decide +kernel
theorem dX4_sound_8 : decode cX4_sound 8 = .ok (.ifCond .eq 5, 3) := by decide +kernel
theorem dX4_sound_11 : decode cX4_sound 11 = .ok (.iload_n 3, 1) := by decide +kernel
theorem dX4_sound_12 : decode cX4_sound 12 = .ok (.ireturn, 1) := by decide +kernel
theorem dX4_sound_13 : decode cX4_sound 13 = .ok (.aload_n 0, 1) := by decide +kernel
theorem dX4_sound_14 : decode cX4_sound 14 = .ok (.getfield 12, 3) := by decide +kernel
theorem dX4_sound_17 : decode cX4_sound 17 = .ok (.getfield 86, 3) := by decide +kernel
theorem dX4_sound_20 : decode cX4_sound 20 = .ok (.iconst 1, 1) := by decide +kernel
theorem dX4_sound_21 : decode cX4_sound 21 = .ok (.iadd, 1) := by decide +kernel
theorem dX4_sound_22 : decode cX4_sound 22 = .ok (.sipush 9999, 3) := by decide +kernel
theorem dX4_sound_25 : decode cX4_sound 25 = .ok (.if_icmp .le 6, 3) := by decide +kernel
theorem dX4_sound_28 : decode cX4_sound 28 = .ok (.bipush (-4), 2) := by decide +kernel
theorem dX4_sound_30 : decode cX4_sound 30 = .ok (.ireturn, 1) := by decide +kernel
theorem dX4_sound_31 : decode cX4_sound 31 = .ok (.aload_n 0, 1) := by decide +kernel
theorem dX4_sound_32 : decode cX4_sound 32 = .ok (.getfield 12, 3) := by decide +kernel
theorem dX4_sound_35 : decode cX4_sound 35 = .ok (.iload_n 1, 1) := by decide +kernel
theorem dX4_sound_36 : decode cX4_sound 36 = .ok (.iload_n 2, 1) := by decide +kernel
theorem dX4_sound_37 : decode cX4_sound 37 = .ok (.invokevirtual 140, 3) := by decide +kernel
theorem dX4_sound_40 : decode cX4_sound 40 = .ok (.ireturn, 1) := by decide +kernel
set_option maxRecDepth 20000 in
theorem ggX4_apart_X4_pairRefusal : GoodIn wsX4_apart wsX4_pairRefusal := goodIn_r _ [10, 3, 11, 12, 13, 14, 15, 16, 17, 9, 18, 38, 39, 40, 41, 42, 43, 44, 45, 46, 47, 48, 49] (by decide +kernel) (by decide +kernel)
set_option maxRecDepth 20000 in
theorem gX4_apart_X4_pairRefusal : GoodIn wsX4_apart (wsV RX4 137 RX4 yX4_pairRefusal wsX4_pairRefusal) := goodIn_app (goodIn_of _ (by decide +kernel)) ggX4_apart_X4_pairRefusal
set_option maxRecDepth 20000 in
theorem ggX4_apart_X4_within : GoodIn wsX4_apart wsX4_within := goodIn_r _ [18] (by decide +kernel) (by decide +kernel)
set_option maxRecDepth 20000 in
theorem gX4_apart_X4_within : GoodIn wsX4_apart (va_wsS RX4 30 yX4_within wsX4_within) := goodIn_app (goodIn_of _ (by decide +kernel)) ggX4_apart_X4_within
set_option maxRecDepth 20000 in
theorem ggX4_apart_X0_hasBoth : GoodIn wsX4_apart wsX0_hasBoth := goodIn_r _ [24, 25, 26, 27, 28, 23, 29, 50, 51] (by decide +kernel) (by decide +kernel)
set_option maxRecDepth 20000 in
theorem gX4_apart_X0_hasBoth : GoodIn wsX4_apart (wsV RX4 143 RX0 yX0_hasBoth wsX0_hasBoth) := goodIn_app (goodIn_of _ (by decide +kernel)) ggX4_apart_X0_hasBoth
set_option maxRecDepth 20000 in
theorem ggX4_apart_X0_low : GoodIn wsX4_apart wsX0_low := goodIn_r _ [33, 25, 27, 28, 23, 29, 50, 51] (by decide +kernel) (by decide +kernel)
set_option maxRecDepth 20000 in
theorem gX4_apart_X0_low : GoodIn wsX4_apart (wsV RX4 148 RX0 yX0_low wsX0_low) := goodIn_app (goodIn_of _ (by decide +kernel)) ggX4_apart_X0_low
set_option maxRecDepth 20000 in
theorem ggX4_apart_X0_high : GoodIn wsX4_apart wsX0_high := goodIn_r _ [37, 25, 27, 28, 23, 29, 50, 51] (by decide +kernel) (by decide +kernel)
set_option maxRecDepth 20000 in
theorem gX4_apart_X0_high : GoodIn wsX4_apart (wsV RX4 151 RX0 yX0_high wsX0_high) := goodIn_app (goodIn_of _ (by decide +kernel)) ggX4_apart_X0_high
theorem dX4_apart_0 : decode cX4_apart 0 = .ok (.aload_n 0, 1) := by decide +kernel
theorem dX4_apart_1 : decode cX4_apart 1 = .ok (.iload_n 1, 1) := by decide +kernel
theorem dX4_apart_2 : decode cX4_apart 2 = .ok (.iload_n 2, 1) := by decide +kernel
theorem dX4_apart_3 : decode cX4_apart 3 = .ok (.invokevirtual 137, 3) := by decide +kernel
theorem dX4_apart_6 : decode cX4_apart 6 = .ok (.istore 4, 2) := by decide +kernel
theorem dX4_apart_8 : decode cX4_apart 8 = .ok (.iload 4, 2) := by decide +kernel
theorem dX4_apart_10 : decode cX4_apart 10 = .ok (.ifCond .eq 9, 3) := by decide +kernel
theorem dX4_apart_13 : decode cX4_apart 13 = .ok (.ldc 120, 2) := by decide +kernel
theorem dX4_apart_15 : decode cX4_apart 15 = .ok (.iload 4, 2) := by decide +kernel
theorem dX4_apart_17 : decode cX4_apart 17 = .ok (.iadd, 1) := by decide +kernel
theorem dX4_apart_18 : decode cX4_apart 18 = .ok (.ireturn, 1) := by decide +kernel
theorem dX4_apart_19 : decode cX4_apart 19 = .ok (.iload_n 3, 1) := by decide +kernel
theorem dX4_apart_20 : decode cX4_apart 20 = .ok (.iconst 0, 1) := by decide +kernel
theorem dX4_apart_21 : decode cX4_apart 21 = .ok (.iconst 1, 1) := by decide +kernel
theorem dX4_apart_22 : decode cX4_apart 22 = .ok (.invokestatic 30, 3) := by decide +kernel
theorem dX4_apart_25 : decode cX4_apart 25 = .ok (.ifCond .ne 6, 3) := by decide +kernel
theorem dX4_apart_28 : decode cX4_apart 28 = .ok (.ldc 66, 2) := by decide +kernel
theorem dX4_apart_30 : decode cX4_apart 30 = .ok (.ireturn, 1) := by decide +kernel
theorem dX4_apart_31 : decode cX4_apart 31 = .ok (.aload_n 0, 1) := by decide +kernel
theorem dX4_apart_32 : decode cX4_apart 32 = .ok (.getfield 12, 3) := by decide +kernel
theorem dX4_apart_35 : decode cX4_apart 35 = .ok (.getfield 74, 3) := by decide +kernel
theorem dX4_apart_38 : decode cX4_apart 38 = .ok (.iload_n 1, 1) := by decide +kernel
theorem dX4_apart_39 : decode cX4_apart 39 = .ok (.iload_n 2, 1) := by decide +kernel
theorem dX4_apart_40 : decode cX4_apart 40 = .ok (.invokevirtual 143, 3) := by decide +kernel
theorem dX4_apart_43 : decode cX4_apart 43 = .ok (.ifCond .ne 6, 3) := by decide +kernel
theorem dX4_apart_46 : decode cX4_apart 46 = .ok (.ldc 147, 2) := by decide +kernel
theorem dX4_apart_48 : decode cX4_apart 48 = .ok (.ireturn, 1) := by decide +kernel
theorem dX4_apart_49 : decode cX4_apart 49 = .ok (.iload_n 3, 1) := by decide +kernel
theorem dX4_apart_50 : decode cX4_apart 50 = .ok (.ifCond .ne 18, 3) := by decide +kernel
theorem dX4_apart_53 : decode cX4_apart 53 = .ok (.aload_n 0, 1) := by decide +kernel
theorem dX4_apart_54 : decode cX4_apart 54 = .ok (.getfield 12, 3) := by decide +kernel
theorem dX4_apart_57 : decode cX4_apart 57 = .ok (.getfield 74, 3) := by decide +kernel
theorem dX4_apart_60 : decode cX4_apart 60 = .ok (.iload_n 1, 1) := by decide +kernel
theorem dX4_apart_61 : decode cX4_apart 61 = .ok (.iload_n 2, 1) := by decide +kernel
theorem dX4_apart_62 : decode cX4_apart 62 = .ok (.invokevirtual 148, 3) := by decide +kernel
theorem dX4_apart_65 : decode cX4_apart 65 = .ok (.goto 15, 3) := by decide +kernel
theorem dX4_apart_68 : decode cX4_apart 68 = .ok (.aload_n 0, 1) := by decide +kernel
theorem dX4_apart_69 : decode cX4_apart 69 = .ok (.getfield 12, 3) := by decide +kernel
theorem dX4_apart_72 : decode cX4_apart 72 = .ok (.getfield 74, 3) := by decide +kernel
theorem dX4_apart_75 : decode cX4_apart 75 = .ok (.iload_n 1, 1) := by decide +kernel
theorem dX4_apart_76 : decode cX4_apart 76 = .ok (.iload_n 2, 1) := by decide +kernel
theorem dX4_apart_77 : decode cX4_apart 77 = .ok (.invokevirtual 151, 3) := by decide +kernel
theorem dX4_apart_80 : decode cX4_apart 80 = .ok (.ireturn, 1) := by decide +kernel
set_option maxRecDepth 20000 in
theorem ggX4_tight_X3_hasNode : GoodIn wsX4_tight wsX3_hasNode := goodIn_r _ [10, 11, 12, 13, 14, 42, 43, 44, 45, 46, 47, 48, 49] (by decide +kernel) (by decide +kernel)
set_option maxRecDepth 20000 in
theorem gX4_tight_X3_hasNode : GoodIn wsX4_tight (wsV RX4 62 RX3 yX3_hasNode wsX3_hasNode) := goodIn_app (goodIn_of _ (by decide +kernel)) ggX4_tight_X3_hasNode
set_option maxRecDepth 20000 in
theorem ggX4_tight_X0_tightest : GoodIn wsX4_tight wsX0_tightest := goodIn_r _ [19, 20, 21, 22, 23, 24, 25, 26, 27, 28, 18, 29, 30, 31, 32, 33, 34, 35, 36, 37, 50, 51] (by decide +kernel) (by decide +kernel)
set_option maxRecDepth 20000 in
theorem gX4_tight_X0_tightest : GoodIn wsX4_tight (wsV RX4 154 RX0 yX0_tightest wsX0_tightest) := goodIn_app (goodIn_of _ (by decide +kernel)) ggX4_tight_X0_tightest
theorem dX4_tight_0 : decode cX4_tight 0 = .ok (.aload_n 0, 1) := by decide +kernel
theorem dX4_tight_1 : decode cX4_tight 1 = .ok (.getfield 12, 3) := by decide +kernel
theorem dX4_tight_4 : decode cX4_tight 4 = .ok (.iload_n 1, 1) := by decide +kernel
theorem dX4_tight_5 : decode cX4_tight 5 = .ok (.invokevirtual 62, 3) := by decide +kernel
theorem dX4_tight_8 : decode cX4_tight 8 = .ok (.ifCond .eq 14, 3) := by decide +kernel
theorem dX4_tight_11 : decode cX4_tight 11 = .ok (.aload_n 0, 1) := by decide +kernel
theorem dX4_tight_12 : decode cX4_tight 12 = .ok (.getfield 12, 3) := by decide +kernel
theorem dX4_tight_15 : decode cX4_tight 15 = .ok (.iload_n 2, 1) := by decide +kernel
theorem dX4_tight_16 : decode cX4_tight 16 = .ok (.invokevirtual 62, 3) := by decide +kernel
theorem dX4_tight_19 : decode cX4_tight 19 = .ok (.ifCond .ne 6, 3) := by decide +kernel
theorem dX4_tight_22 : decode cX4_tight 22 = .ok (.ldc 65, 2) := by decide +kernel
theorem dX4_tight_24 : decode cX4_tight 24 = .ok (.ireturn, 1) := by decide +kernel
theorem dX4_tight_25 : decode cX4_tight 25 = .ok (.aload_n 0, 1) := by decide +kernel
theorem dX4_tight_26 : decode cX4_tight 26 = .ok (.getfield 12, 3) := by decide +kernel
theorem dX4_tight_29 : decode cX4_tight 29 = .ok (.getfield 74, 3) := by decide +kernel
theorem dX4_tight_32 : decode cX4_tight 32 = .ok (.iload_n 1, 1) := by decide +kernel
theorem dX4_tight_33 : decode cX4_tight 33 = .ok (.iload_n 2, 1) := by decide +kernel
theorem dX4_tight_34 : decode cX4_tight 34 = .ok (.invokevirtual 154, 3) := by decide +kernel
theorem dX4_tight_37 : decode cX4_tight 37 = .ok (.istore_n 3, 1) := by decide +kernel
theorem dX4_tight_38 : decode cX4_tight 38 = .ok (.iload_n 3, 1) := by decide +kernel
theorem dX4_tight_39 : decode cX4_tight 39 = .ok (.ldc 157, 2) := by decide +kernel
theorem dX4_tight_41 : decode cX4_tight 41 = .ok (.if_icmp .ne 8, 3) := by decide +kernel
theorem dX4_tight_44 : decode cX4_tight 44 = .ok (.ldc 147, 2) := by decide +kernel
theorem dX4_tight_46 : decode cX4_tight 46 = .ok (.goto 4, 3) := by decide +kernel
theorem dX4_tight_49 : decode cX4_tight 49 = .ok (.iload_n 3, 1) := by decide +kernel
theorem dX4_tight_50 : decode cX4_tight 50 = .ok (.ireturn, 1) := by decide +kernel
set_option maxRecDepth 20000 in
theorem ggX4_truth_X4_tookRefusal : GoodIn wsX4_truth wsX4_tookRefusal := goodIn_r _ [13, 14, 15, 16, 12, 17, 3, 18, 19, 20, 21, 22, 23, 24, 25, 26, 27, 28, 29, 85, 86, 87, 88, 89, 90, 91, 92, 93, 94, 95, 96] (by decide +kernel) (by decide +kernel)
set_option maxRecDepth 20000 in
theorem gX4_truth_X4_tookRefusal : GoodIn wsX4_truth (wsV RX4 116 RX4 yX4_tookRefusal wsX4_tookRefusal) := goodIn_app (goodIn_of _ (by decide +kernel)) ggX4_truth_X4_tookRefusal
set_option maxRecDepth 20000 in
theorem ggX4_truth_X4_within : GoodIn wsX4_truth wsX4_within := goodIn_r _ [25] (by decide +kernel) (by decide +kernel)
set_option maxRecDepth 20000 in
theorem gX4_truth_X4_within : GoodIn wsX4_truth (va_wsS RX4 30 yX4_within wsX4_within) := goodIn_app (goodIn_of _ (by decide +kernel)) ggX4_truth_X4_within
set_option maxRecDepth 20000 in
theorem ggX4_truth_X2_hasTook : GoodIn wsX4_truth wsX2_hasTook := goodIn_r _ [34, 35, 36, 37, 33, 38, 39, 40, 41, 42, 97, 98] (by decide +kernel) (by decide +kernel)
set_option maxRecDepth 20000 in
theorem gX4_truth_X2_hasTook : GoodIn wsX4_truth (wsV RX4 121 RX2 yX2_hasTook wsX2_hasTook) := goodIn_app (goodIn_of _ (by decide +kernel)) ggX4_truth_X2_hasTook
set_option maxRecDepth 20000 in
theorem ggX4_truth_X0_tightest : GoodIn wsX4_truth wsX0_tightest := goodIn_r _ [47, 48, 49, 50, 51, 52, 53, 54, 55, 56, 46, 57, 58, 59, 60, 61, 62, 63, 64, 65, 99, 100] (by decide +kernel) (by decide +kernel)
set_option maxRecDepth 20000 in
theorem gX4_truth_X0_tightest : GoodIn wsX4_truth (wsV RX4 154 RX0 yX0_tightest wsX0_tightest) := goodIn_app (goodIn_of _ (by decide +kernel)) ggX4_truth_X0_tightest
set_option maxRecDepth 20000 in
theorem ggX4_truth_X2_countOf : GoodIn wsX4_truth wsX2_countOf := goodIn_r _ [38, 39, 40, 41, 33, 42, 97, 98] (by decide +kernel) (by decide +kernel)
set_option maxRecDepth 20000 in
theorem gX4_truth_X2_countOf : GoodIn wsX4_truth (wsV RX4 100 RX2 yX2_countOf wsX2_countOf) := goodIn_app (goodIn_of _ (by decide +kernel)) ggX4_truth_X2_countOf
set_option maxRecDepth 20000 in
theorem ggX4_truth_X2_tookUpper : GoodIn wsX4_truth wsX2_tookUpper := goodIn_r _ [70, 71, 72, 73, 33, 74, 75, 40, 41, 42, 97, 98] (by decide +kernel) (by decide +kernel)
set_option maxRecDepth 20000 in
theorem gX4_truth_X2_tookUpper : GoodIn wsX4_truth (wsV RX4 125 RX2 yX2_tookUpper wsX2_tookUpper) := goodIn_app (goodIn_of _ (by decide +kernel)) ggX4_truth_X2_tookUpper
set_option maxRecDepth 20000 in
theorem ggX4_truth_X4_fractionPart : GoodIn wsX4_truth wsX4_fractionPart := goodIn_r _ [78, 79, 80, 12, 81, 82, 83, 84] (by decide +kernel) (by decide +kernel)
set_option maxRecDepth 20000 in
theorem gX4_truth_X4_fractionPart : GoodIn wsX4_truth (va_wsS RX4 128 yX4_fractionPart wsX4_fractionPart) := goodIn_app (goodIn_of _ (by decide +kernel)) ggX4_truth_X4_fractionPart
theorem dX4_truth_0 : decode cX4_truth 0 = .ok (.aload_n 0, 1) := by decide +kernel
theorem dX4_truth_1 : decode cX4_truth 1 = .ok (.iload_n 1, 1) := by decide +kernel
theorem dX4_truth_2 : decode cX4_truth 2 = .ok (.iload_n 2, 1) := by decide +kernel
theorem dX4_truth_3 : decode cX4_truth 3 = .ok (.iload_n 3, 1) := by decide +kernel
theorem dX4_truth_4 : decode cX4_truth 4 = .ok (.iload 5, 2) := by decide +kernel
theorem dX4_truth_6 : decode cX4_truth 6 = .ok (.invokevirtual 116, 3) := by decide +kernel
theorem dX4_truth_9 : decode cX4_truth 9 = .ok (.istore 6, 2) := by decide +kernel
theorem dX4_truth_11 : decode cX4_truth 11 = .ok (.iload 6, 2) := by decide +kernel
theorem dX4_truth_13 : decode cX4_truth 13 = .ok (.ifCond .eq 9, 3) := by decide +kernel
theorem dX4_truth_16 : decode cX4_truth 16 = .ok (.ldc 120, 2) := by decide +kernel
theorem dX4_truth_18 : decode cX4_truth 18 = .ok (.iload 6, 2) := by decide +kernel
theorem dX4_truth_20 : decode cX4_truth 20 = .ok (.iadd, 1) := by decide +kernel
theorem dX4_truth_21 : decode cX4_truth 21 = .ok (.ireturn, 1) := by decide +kernel
theorem dX4_truth_22 : decode cX4_truth 22 = .ok (.iload 4, 2) := by decide +kernel
theorem dX4_truth_24 : decode cX4_truth 24 = .ok (.iconst 0, 1) := by decide +kernel
theorem dX4_truth_25 : decode cX4_truth 25 = .ok (.iconst 1, 1) := by decide +kernel
theorem dX4_truth_26 : decode cX4_truth 26 = .ok (.invokestatic 30, 3) := by decide +kernel
theorem dX4_truth_29 : decode cX4_truth 29 = .ok (.ifCond .ne 6, 3) := by decide +kernel
theorem dX4_truth_32 : decode cX4_truth 32 = .ok (.ldc 66, 2) := by decide +kernel
theorem dX4_truth_34 : decode cX4_truth 34 = .ok (.ireturn, 1) := by decide +kernel
theorem dX4_truth_35 : decode cX4_truth 35 = .ok (.aload_n 0, 1) := by decide +kernel
theorem dX4_truth_36 : decode cX4_truth 36 = .ok (.getfield 12, 3) := by decide +kernel
theorem dX4_truth_39 : decode cX4_truth 39 = .ok (.getfield 96, 3) := by decide +kernel
theorem dX4_truth_42 : decode cX4_truth 42 = .ok (.iload_n 1, 1) := by decide +kernel
theorem dX4_truth_43 : decode cX4_truth 43 = .ok (.iload_n 2, 1) := by decide +kernel
theorem dX4_truth_44 : decode cX4_truth 44 = .ok (.iload_n 3, 1) := by decide +kernel
theorem dX4_truth_45 : decode cX4_truth 45 = .ok (.invokevirtual 121, 3) := by decide +kernel
theorem dX4_truth_48 : decode cX4_truth 48 = .ok (.ifCond .ne 6, 3) := by decide +kernel
theorem dX4_truth_51 : decode cX4_truth 51 = .ok (.ldc 124, 2) := by decide +kernel
theorem dX4_truth_53 : decode cX4_truth 53 = .ok (.ireturn, 1) := by decide +kernel
theorem dX4_truth_54 : decode cX4_truth 54 = .ok (.iload 4, 2) := by decide +kernel
theorem dX4_truth_56 : decode cX4_truth 56 = .ok (.ifCond .ne 18, 3) := by decide +kernel
theorem dX4_truth_59 : decode cX4_truth 59 = .ok (.aload_n 0, 1) := by decide +kernel
theorem dX4_truth_60 : decode cX4_truth 60 = .ok (.getfield 12, 3) := by decide +kernel
theorem dX4_truth_63 : decode cX4_truth 63 = .ok (.getfield 74, 3) := by decide +kernel
theorem dX4_truth_66 : decode cX4_truth 66 = .ok (.iload_n 2, 1) := by decide +kernel
theorem dX4_truth_67 : decode cX4_truth 67 = .ok (.iload_n 1, 1) := by decide +kernel
theorem dX4_truth_68 : decode cX4_truth 68 = .ok (.invokevirtual 154, 3) := by decide +kernel
theorem dX4_truth_71 : decode cX4_truth 71 = .ok (.goto 15, 3) := by decide +kernel
theorem dX4_truth_74 : decode cX4_truth 74 = .ok (.aload_n 0, 1) := by decide +kernel
theorem dX4_truth_75 : decode cX4_truth 75 = .ok (.getfield 12, 3) := by decide +kernel
theorem dX4_truth_78 : decode cX4_truth 78 = .ok (.getfield 74, 3) := by decide +kernel
theorem dX4_truth_81 : decode cX4_truth 81 = .ok (.iload_n 1, 1) := by decide +kernel
theorem dX4_truth_82 : decode cX4_truth 82 = .ok (.iload_n 2, 1) := by decide +kernel
theorem dX4_truth_83 : decode cX4_truth 83 = .ok (.invokevirtual 154, 3) := by decide +kernel
theorem dX4_truth_86 : decode cX4_truth 86 = .ok (.istore 7, 2) := by decide +kernel
theorem dX4_truth_88 : decode cX4_truth 88 = .ok (.iload 7, 2) := by decide +kernel
theorem dX4_truth_90 : decode cX4_truth 90 = .ok (.ldc 157, 2) := by decide +kernel
theorem dX4_truth_92 : decode cX4_truth 92 = .ok (.if_icmp .ne 6, 3) := by decide +kernel
theorem dX4_truth_95 : decode cX4_truth 95 = .ok (.ldc 147, 2) := by decide +kernel
theorem dX4_truth_97 : decode cX4_truth 97 = .ok (.ireturn, 1) := by decide +kernel
theorem dX4_truth_98 : decode cX4_truth 98 = .ok (.aload_n 0, 1) := by decide +kernel
theorem dX4_truth_99 : decode cX4_truth 99 = .ok (.getfield 12, 3) := by decide +kernel
theorem dX4_truth_102 : decode cX4_truth 102 = .ok (.getfield 96, 3) := by decide +kernel
theorem dX4_truth_105 : decode cX4_truth 105 = .ok (.iload_n 1, 1) := by decide +kernel
theorem dX4_truth_106 : decode cX4_truth 106 = .ok (.iload_n 3, 1) := by decide +kernel
theorem dX4_truth_107 : decode cX4_truth 107 = .ok (.invokevirtual 100, 3) := by decide +kernel
theorem dX4_truth_110 : decode cX4_truth 110 = .ok (.istore 8, 2) := by decide +kernel
theorem dX4_truth_112 : decode cX4_truth 112 = .ok (.iload 4, 2) := by decide +kernel
theorem dX4_truth_114 : decode cX4_truth 114 = .ok (.ifCond .ne 11, 3) := by decide +kernel
theorem dX4_truth_117 : decode cX4_truth 117 = .ok (.iload 7, 2) := by decide +kernel
theorem dX4_truth_119 : decode cX4_truth 119 = .ok (.iload 8, 2) := by decide +kernel
theorem dX4_truth_121 : decode cX4_truth 121 = .ok (.imul, 1) := by decide +kernel
theorem dX4_truth_122 : decode cX4_truth 122 = .ok (.goto 9, 3) := by decide +kernel
theorem dX4_truth_125 : decode cX4_truth 125 = .ok (.iload 7, 2) := by decide +kernel
theorem dX4_truth_127 : decode cX4_truth 127 = .ok (.ineg, 1) := by decide +kernel
theorem dX4_truth_128 : decode cX4_truth 128 = .ok (.iload 8, 2) := by decide +kernel
theorem dX4_truth_130 : decode cX4_truth 130 = .ok (.imul, 1) := by decide +kernel
theorem dX4_truth_131 : decode cX4_truth 131 = .ok (.istore 9, 2) := by decide +kernel
theorem dX4_truth_133 : decode cX4_truth 133 = .ok (.aload_n 0, 1) := by decide +kernel
theorem dX4_truth_134 : decode cX4_truth 134 = .ok (.getfield 12, 3) := by decide +kernel
theorem dX4_truth_137 : decode cX4_truth 137 = .ok (.getfield 96, 3) := by decide +kernel
theorem dX4_truth_140 : decode cX4_truth 140 = .ok (.iload_n 1, 1) := by decide +kernel
theorem dX4_truth_141 : decode cX4_truth 141 = .ok (.iload_n 2, 1) := by decide +kernel
theorem dX4_truth_142 : decode cX4_truth 142 = .ok (.iload_n 3, 1) := by decide +kernel
theorem dX4_truth_143 : decode cX4_truth 143 = .ok (.invokevirtual 125, 3) := by decide +kernel
theorem dX4_truth_146 : decode cX4_truth 146 = .ok (.iload 9, 2) := by decide +kernel
theorem dX4_truth_148 : decode cX4_truth 148 = .ok (.iadd, 1) := by decide +kernel
theorem dX4_truth_149 : decode cX4_truth 149 = .ok (.iload 8, 2) := by decide +kernel
theorem dX4_truth_151 : decode cX4_truth 151 = .ok (.iload 5, 2) := by decide +kernel
theorem dX4_truth_153 : decode cX4_truth 153 = .ok (.invokestatic 128, 3) := by decide +kernel
theorem dX4_truth_156 : decode cX4_truth 156 = .ok (.ireturn, 1) := by decide +kernel
set_option maxRecDepth 20000 in
theorem ggX4_image_X4_within : GoodIn wsX4_image wsX4_within := goodIn_r _ [6] (by decide +kernel) (by decide +kernel)
set_option maxRecDepth 20000 in
theorem gX4_image_X4_within : GoodIn wsX4_image (va_wsS RX4 30 yX4_within wsX4_within) := goodIn_app (goodIn_of _ (by decide +kernel)) ggX4_image_X4_within
set_option maxRecDepth 20000 in
theorem ggX4_image_X4_imageAt : GoodIn wsX4_image wsX4_imageAt := goodIn_r _ [10, 11, 12, 52, 53, 54, 55] (by decide +kernel) (by decide +kernel)
set_option maxRecDepth 20000 in
theorem gX4_image_X4_imageAt : GoodIn wsX4_image (wsV RX4 158 RX4 yX4_imageAt wsX4_imageAt) := goodIn_app (goodIn_of _ (by decide +kernel)) ggX4_image_X4_imageAt
set_option maxRecDepth 20000 in
theorem ggX4_image_X3_copyFrom : GoodIn wsX4_image wsX3_copyFrom := goodIn_r _ [17, 18, 19, 20, 21, 22, 23, 24, 25, 26, 27, 28, 29, 30, 31, 32, 33, 34, 35, 36, 37, 38, 39, 40, 41, 42, 43, 44, 45, 46, 47, 48, 49, 50, 51, 56, 57, 58, 59, 60, 61, 62, 63, 64, 65, 66, 67, 68] (by decide +kernel) (by decide +kernel)
set_option maxRecDepth 20000 in
theorem gX4_image_X3_copyFrom : GoodIn wsX4_image (wsV RX4 162 RX3 yX3_copyFrom wsX3_copyFrom) := goodIn_app (goodIn_of _ (by decide +kernel)) ggX4_image_X3_copyFrom
theorem dX4_image_0 : decode cX4_image 0 = .ok (.iload_n 1, 1) := by decide +kernel
theorem dX4_image_1 : decode cX4_image 1 = .ok (.iconst 0, 1) := by decide +kernel
theorem dX4_image_2 : decode cX4_image 2 = .ok (.iconst 1, 1) := by decide +kernel
theorem dX4_image_3 : decode cX4_image 3 = .ok (.invokestatic 30, 3) := by decide +kernel
theorem dX4_image_6 : decode cX4_image 6 = .ok (.ifCond .ne 6, 3) := by decide +kernel
theorem dX4_image_9 : decode cX4_image 9 = .ok (.bipush (-2), 2) := by decide +kernel
theorem dX4_image_11 : decode cX4_image 11 = .ok (.ireturn, 1) := by decide +kernel
theorem dX4_image_12 : decode cX4_image 12 = .ok (.aload_n 0, 1) := by decide +kernel
theorem dX4_image_13 : decode cX4_image 13 = .ok (.iload_n 1, 1) := by decide +kernel
theorem dX4_image_14 : decode cX4_image 14 = .ok (.invokevirtual 158, 3) := by decide +kernel
theorem dX4_image_17 : decode cX4_image 17 = .ok (.aload_n 0, 1) := by decide +kernel
theorem dX4_image_18 : decode cX4_image 18 = .ok (.getfield 12, 3) := by decide +kernel
theorem dX4_image_21 : decode cX4_image 21 = .ok (.invokevirtual 162, 3) := by decide +kernel
theorem dX4_image_24 : decode cX4_image 24 = .ok (.aload_n 0, 1) := by decide +kernel
theorem dX4_image_25 : decode cX4_image 25 = .ok (.dup, 1) := by decide +kernel
theorem dX4_image_26 : decode cX4_image 26 = .ok (.getfield 22, 3) := by decide +kernel
theorem dX4_image_29 : decode cX4_image 29 = .ok (.iconst 1, 1) := by decide +kernel
theorem dX4_image_30 : decode cX4_image 30 = .ok (.iload_n 1, 1) := by decide +kernel
theorem dX4_image_31 : decode cX4_image 31 = .ok (.ishl, 1) := by decide +kernel
theorem dX4_image_32 : decode cX4_image 32 = .ok (.ior, 1) := by decide +kernel
theorem dX4_image_33 : decode cX4_image 33 = .ok (.putfield 22, 3) := by decide +kernel
theorem dX4_image_36 : decode cX4_image 36 = .ok (.iconst 1, 1) := by decide +kernel
theorem dX4_image_37 : decode cX4_image 37 = .ok (.ireturn, 1) := by decide +kernel
set_option maxRecDepth 20000 in
theorem ggX4_restore_X4_within : GoodIn wsX4_restore wsX4_within := goodIn_r _ [6] (by decide +kernel) (by decide +kernel)
set_option maxRecDepth 20000 in
theorem gX4_restore_X4_within : GoodIn wsX4_restore (va_wsS RX4 30 yX4_within wsX4_within) := goodIn_app (goodIn_of _ (by decide +kernel)) ggX4_restore_X4_within
set_option maxRecDepth 20000 in
theorem ggX4_restore_X4_imageAt : GoodIn wsX4_restore wsX4_imageAt := goodIn_r _ [10, 11, 12, 52, 53, 54, 55] (by decide +kernel) (by decide +kernel)
set_option maxRecDepth 20000 in
theorem gX4_restore_X4_imageAt : GoodIn wsX4_restore (wsV RX4 158 RX4 yX4_imageAt wsX4_imageAt) := goodIn_app (goodIn_of _ (by decide +kernel)) ggX4_restore_X4_imageAt
set_option maxRecDepth 20000 in
theorem ggX4_restore_X3_copyFrom : GoodIn wsX4_restore wsX3_copyFrom := goodIn_r _ [17, 18, 19, 20, 21, 22, 23, 24, 25, 26, 27, 28, 29, 30, 31, 32, 33, 34, 35, 36, 37, 38, 39, 40, 41, 42, 43, 44, 45, 46, 47, 48, 49, 50, 51, 56, 57, 58, 59, 60, 61, 62, 63, 64, 65, 66, 67, 68] (by decide +kernel) (by decide +kernel)
set_option maxRecDepth 20000 in
theorem gX4_restore_X3_copyFrom : GoodIn wsX4_restore (wsV RX4 162 RX3 yX3_copyFrom wsX3_copyFrom) := goodIn_app (goodIn_of _ (by decide +kernel)) ggX4_restore_X3_copyFrom
theorem dX4_restore_0 : decode cX4_restore 0 = .ok (.iload_n 1, 1) := by decide +kernel
theorem dX4_restore_1 : decode cX4_restore 1 = .ok (.iconst 0, 1) := by decide +kernel
theorem dX4_restore_2 : decode cX4_restore 2 = .ok (.iconst 1, 1) := by decide +kernel
theorem dX4_restore_3 : decode cX4_restore 3 = .ok (.invokestatic 30, 3) := by decide +kernel
theorem dX4_restore_6 : decode cX4_restore 6 = .ok (.ifCond .ne 6, 3) := by decide +kernel
theorem dX4_restore_9 : decode cX4_restore 9 = .ok (.bipush (-2), 2) := by decide +kernel
theorem dX4_restore_11 : decode cX4_restore 11 = .ok (.ireturn, 1) := by decide +kernel
theorem dX4_restore_12 : decode cX4_restore 12 = .ok (.aload_n 0, 1) := by decide +kernel
theorem dX4_restore_13 : decode cX4_restore 13 = .ok (.getfield 22, 3) := by decide +kernel
theorem dX4_restore_16 : decode cX4_restore 16 = .ok (.iconst 1, 1) := by decide +kernel
theorem dX4_restore_17 : decode cX4_restore 17 = .ok (.iload_n 1, 1) := by decide +kernel
theorem dX4_restore_18 : decode cX4_restore 18 = .ok (.ishl, 1) := by decide +kernel
theorem dX4_restore_19 : decode cX4_restore 19 = .ok (.iand, 1) := by decide +kernel
theorem dX4_restore_20 : decode cX4_restore 20 = .ok (.ifCond .ne 6, 3) := by decide +kernel
theorem dX4_restore_23 : decode cX4_restore 23 = .ok (.bipush (-3), 2) := by decide +kernel
theorem dX4_restore_25 : decode cX4_restore 25 = .ok (.ireturn, 1) := by decide +kernel
theorem dX4_restore_26 : decode cX4_restore 26 = .ok (.aload_n 0, 1) := by decide +kernel
theorem dX4_restore_27 : decode cX4_restore 27 = .ok (.getfield 12, 3) := by decide +kernel
theorem dX4_restore_30 : decode cX4_restore 30 = .ok (.aload_n 0, 1) := by decide +kernel
theorem dX4_restore_31 : decode cX4_restore 31 = .ok (.iload_n 1, 1) := by decide +kernel
theorem dX4_restore_32 : decode cX4_restore 32 = .ok (.invokevirtual 158, 3) := by decide +kernel
theorem dX4_restore_35 : decode cX4_restore 35 = .ok (.invokevirtual 162, 3) := by decide +kernel
theorem dX4_restore_38 : decode cX4_restore 38 = .ok (.iconst 1, 1) := by decide +kernel
theorem dX4_restore_39 : decode cX4_restore 39 = .ok (.ireturn, 1) := by decide +kernel
set_option maxRecDepth 20000 in
theorem ggX4_count_X2_blocksSent : GoodIn wsX4_count wsX2_blocksSent := goodIn_r _ [13, 14, 15, 16, 12, 17, 18, 19, 20, 21, 69, 70] (by decide +kernel) (by decide +kernel)
set_option maxRecDepth 20000 in
theorem gX4_count_X2_blocksSent : GoodIn wsX4_count (wsV RX4 166 RX2 yX2_blocksSent wsX2_blocksSent) := goodIn_app (goodIn_of _ (by decide +kernel)) ggX4_count_X2_blocksSent
set_option maxRecDepth 20000 in
theorem ggX4_count_X0_pairs : GoodIn wsX4_count wsX0_pairs := goodIn_r _ [26, 27, 28, 29, 25, 30, 31, 32, 33, 34, 35, 71, 72] (by decide +kernel) (by decide +kernel)
set_option maxRecDepth 20000 in
theorem gX4_count_X0_pairs : GoodIn wsX4_count (wsV RX4 170 RX0 yX0_pairs wsX0_pairs) := goodIn_app (goodIn_of _ (by decide +kernel)) ggX4_count_X0_pairs
set_option maxRecDepth 20000 in
theorem ggX4_count_X4_linkNumber : GoodIn wsX4_count wsX4_linkNumber := goodIn_r _ [40, 1, 41, 42, 43, 44, 45, 46, 47, 48, 39, 49, 50, 51, 52, 53, 54, 55, 56, 57, 58, 59, 60, 61, 62, 63, 64, 65, 66, 67, 68, 73] (by decide +kernel) (by decide +kernel)
set_option maxRecDepth 20000 in
theorem gX4_count_X4_linkNumber : GoodIn wsX4_count (wsV RX4 173 RX4 yX4_linkNumber wsX4_linkNumber) := goodIn_app (goodIn_of _ (by decide +kernel)) ggX4_count_X4_linkNumber
theorem dX4_count_0 : decode cX4_count 0 = .ok (.iload_n 1, 1) := by decide +kernel
theorem dX4_count_1 : decode cX4_count 1 = .ok (.tableswitch 102 0 6 #[43, 51, 59, 67, 75, 86, 97], 43) := by decide +kernel
theorem dX4_count_44 : decode cX4_count 44 = .ok (.aload_n 0, 1) := by decide +kernel
theorem dX4_count_45 : decode cX4_count 45 = .ok (.getfield 12, 3) := by decide +kernel
theorem dX4_count_48 : decode cX4_count 48 = .ok (.getfield 34, 3) := by decide +kernel
theorem dX4_count_51 : decode cX4_count 51 = .ok (.ireturn, 1) := by decide +kernel
theorem dX4_count_52 : decode cX4_count 52 = .ok (.aload_n 0, 1) := by decide +kernel
theorem dX4_count_53 : decode cX4_count 53 = .ok (.getfield 12, 3) := by decide +kernel
theorem dX4_count_56 : decode cX4_count 56 = .ok (.getfield 86, 3) := by decide +kernel
theorem dX4_count_59 : decode cX4_count 59 = .ok (.ireturn, 1) := by decide +kernel
theorem dX4_count_60 : decode cX4_count 60 = .ok (.aload_n 0, 1) := by decide +kernel
theorem dX4_count_61 : decode cX4_count 61 = .ok (.getfield 12, 3) := by decide +kernel
theorem dX4_count_64 : decode cX4_count 64 = .ok (.getfield 67, 3) := by decide +kernel
theorem dX4_count_67 : decode cX4_count 67 = .ok (.ireturn, 1) := by decide +kernel
theorem dX4_count_68 : decode cX4_count 68 = .ok (.aload_n 0, 1) := by decide +kernel
theorem dX4_count_69 : decode cX4_count 69 = .ok (.getfield 12, 3) := by decide +kernel
theorem dX4_count_72 : decode cX4_count 72 = .ok (.getfield 83, 3) := by decide +kernel
theorem dX4_count_75 : decode cX4_count 75 = .ok (.ireturn, 1) := by decide +kernel
theorem dX4_count_76 : decode cX4_count 76 = .ok (.aload_n 0, 1) := by decide +kernel
theorem dX4_count_77 : decode cX4_count 77 = .ok (.getfield 12, 3) := by decide +kernel
theorem dX4_count_80 : decode cX4_count 80 = .ok (.getfield 96, 3) := by decide +kernel
theorem dX4_count_83 : decode cX4_count 83 = .ok (.invokevirtual 166, 3) := by decide +kernel
theorem dX4_count_86 : decode cX4_count 86 = .ok (.ireturn, 1) := by decide +kernel
theorem dX4_count_87 : decode cX4_count 87 = .ok (.aload_n 0, 1) := by decide +kernel
theorem dX4_count_88 : decode cX4_count 88 = .ok (.getfield 12, 3) := by decide +kernel
theorem dX4_count_91 : decode cX4_count 91 = .ok (.getfield 74, 3) := by decide +kernel
theorem dX4_count_94 : decode cX4_count 94 = .ok (.invokevirtual 170, 3) := by decide +kernel
theorem dX4_count_97 : decode cX4_count 97 = .ok (.ireturn, 1) := by decide +kernel
theorem dX4_count_98 : decode cX4_count 98 = .ok (.aload_n 0, 1) := by decide +kernel
theorem dX4_count_99 : decode cX4_count 99 = .ok (.getfield 22, 3) := by decide +kernel
theorem dX4_count_102 : decode cX4_count 102 = .ok (.ireturn, 1) := by decide +kernel
theorem dX4_count_103 : decode cX4_count 103 = .ok (.aload_n 0, 1) := by decide +kernel
theorem dX4_count_104 : decode cX4_count 104 = .ok (.iload_n 1, 1) := by decide +kernel
theorem dX4_count_105 : decode cX4_count 105 = .ok (.invokevirtual 173, 3) := by decide +kernel
theorem dX4_count_108 : decode cX4_count 108 = .ok (.ireturn, 1) := by decide +kernel
set_option maxRecDepth 20000 in
theorem ggX4_linkNumber_X3_hasLink : GoodIn wsX4_linkNumber wsX3_hasLink := goodIn_r _ [7, 8, 9, 10, 11, 23, 24, 25, 26, 27, 28, 29, 30] (by decide +kernel) (by decide +kernel)
set_option maxRecDepth 20000 in
theorem gX4_linkNumber_X3_hasLink : GoodIn wsX4_linkNumber (wsV RX4 37 RX3 yX3_hasLink wsX3_hasLink) := goodIn_app (goodIn_of _ (by decide +kernel)) ggX4_linkNumber_X3_hasLink
set_option maxRecDepth 20000 in
theorem ggX4_linkNumber_X4_within : GoodIn wsX4_linkNumber wsX4_within := goodIn_r _ [11] (by decide +kernel) (by decide +kernel)
set_option maxRecDepth 20000 in
theorem gX4_linkNumber_X4_within : GoodIn wsX4_linkNumber (va_wsS RX4 30 yX4_within wsX4_within) := goodIn_app (goodIn_of _ (by decide +kernel)) ggX4_linkNumber_X4_within
set_option maxRecDepth 20000 in
theorem ggX4_linkNumber_X1_read : GoodIn wsX4_linkNumber wsX1_read := goodIn_r _ [17, 18, 31] (by decide +kernel) (by decide +kernel)
set_option maxRecDepth 20000 in
theorem gX4_linkNumber_X1_read : GoodIn wsX4_linkNumber (wsV RX4 52 RX1 yX1_read wsX1_read) := goodIn_app (goodIn_of _ (by decide +kernel)) ggX4_linkNumber_X1_read
theorem dX4_linkNumber_0 : decode cX4_linkNumber 0 = .ok (.iload_n 1, 1) := by decide +kernel
theorem dX4_linkNumber_1 : decode cX4_linkNumber 1 = .ok (.bipush 10, 2) := by decide +kernel
theorem dX4_linkNumber_3 : decode cX4_linkNumber 3 = .ok (.if_icmp .ge 6, 3) := by decide +kernel
theorem dX4_linkNumber_6 : decode cX4_linkNumber 6 = .ok (.bipush (-2), 2) := by decide +kernel
theorem dX4_linkNumber_8 : decode cX4_linkNumber 8 = .ok (.ireturn, 1) := by decide +kernel
theorem dX4_linkNumber_9 : decode cX4_linkNumber 9 = .ok (.iload_n 1, 1) := by decide +kernel
theorem dX4_linkNumber_10 : decode cX4_linkNumber 10 = .ok (.bipush 10, 2) := by decide +kernel
theorem dX4_linkNumber_12 : decode cX4_linkNumber 12 = .ok (.idiv, 1) := by decide +kernel
theorem dX4_linkNumber_13 : decode cX4_linkNumber 13 = .ok (.iconst 1, 1) := by decide +kernel
theorem dX4_linkNumber_14 : decode cX4_linkNumber 14 = .ok (.isub, 1) := by decide +kernel
theorem dX4_linkNumber_15 : decode cX4_linkNumber 15 = .ok (.istore_n 2, 1) := by decide +kernel
theorem dX4_linkNumber_16 : decode cX4_linkNumber 16 = .ok (.iload_n 1, 1) := by decide +kernel
theorem dX4_linkNumber_17 : decode cX4_linkNumber 17 = .ok (.bipush 10, 2) := by decide +kernel
theorem dX4_linkNumber_19 : decode cX4_linkNumber 19 = .ok (.irem, 1) := by decide +kernel
theorem dX4_linkNumber_20 : decode cX4_linkNumber 20 = .ok (.istore_n 3, 1) := by decide +kernel
theorem dX4_linkNumber_21 : decode cX4_linkNumber 21 = .ok (.aload_n 0, 1) := by decide +kernel
theorem dX4_linkNumber_22 : decode cX4_linkNumber 22 = .ok (.getfield 12, 3) := by decide +kernel
theorem dX4_linkNumber_25 : decode cX4_linkNumber 25 = .ok (.iload_n 2, 1) := by decide +kernel
theorem dX4_linkNumber_26 : decode cX4_linkNumber 26 = .ok (.invokevirtual 37, 3) := by decide +kernel
theorem dX4_linkNumber_29 : decode cX4_linkNumber 29 = .ok (.ifCond .eq 12, 3) := by decide +kernel
theorem dX4_linkNumber_32 : decode cX4_linkNumber 32 = .ok (.iload_n 3, 1) := by decide +kernel
theorem dX4_linkNumber_33 : decode cX4_linkNumber 33 = .ok (.iconst 0, 1) := by decide +kernel
theorem dX4_linkNumber_34 : decode cX4_linkNumber 34 = .ok (.iconst 5, 1) := by decide +kernel
theorem dX4_linkNumber_35 : decode cX4_linkNumber 35 = .ok (.invokestatic 30, 3) := by decide +kernel
theorem dX4_linkNumber_38 : decode cX4_linkNumber 38 = .ok (.ifCond .ne 6, 3) := by decide +kernel
theorem dX4_linkNumber_41 : decode cX4_linkNumber 41 = .ok (.bipush (-2), 2) := by decide +kernel
theorem dX4_linkNumber_43 : decode cX4_linkNumber 43 = .ok (.ireturn, 1) := by decide +kernel
theorem dX4_linkNumber_44 : decode cX4_linkNumber 44 = .ok (.aload_n 0, 1) := by decide +kernel
theorem dX4_linkNumber_45 : decode cX4_linkNumber 45 = .ok (.getfield 12, 3) := by decide +kernel
theorem dX4_linkNumber_48 : decode cX4_linkNumber 48 = .ok (.getfield 48, 3) := by decide +kernel
theorem dX4_linkNumber_51 : decode cX4_linkNumber 51 = .ok (.iload_n 2, 1) := by decide +kernel
theorem dX4_linkNumber_52 : decode cX4_linkNumber 52 = .ok (.iload_n 3, 1) := by decide +kernel
theorem dX4_linkNumber_53 : decode cX4_linkNumber 53 = .ok (.invokevirtual 52, 3) := by decide +kernel
theorem dX4_linkNumber_56 : decode cX4_linkNumber 56 = .ok (.ireturn, 1) := by decide +kernel
theorem dX4_imageAt_0 : decode cX4_imageAt 0 = .ok (.iload_n 1, 1) := by decide +kernel
theorem dX4_imageAt_1 : decode cX4_imageAt 1 = .ok (.ifCond .ne 10, 3) := by decide +kernel
theorem dX4_imageAt_4 : decode cX4_imageAt 4 = .ok (.aload_n 0, 1) := by decide +kernel
theorem dX4_imageAt_5 : decode cX4_imageAt 5 = .ok (.getfield 16, 3) := by decide +kernel
theorem dX4_imageAt_8 : decode cX4_imageAt 8 = .ok (.goto 7, 3) := by decide +kernel
theorem dX4_imageAt_11 : decode cX4_imageAt 11 = .ok (.aload_n 0, 1) := by decide +kernel
theorem dX4_imageAt_12 : decode cX4_imageAt 12 = .ok (.getfield 19, 3) := by decide +kernel
theorem dX4_imageAt_15 : decode cX4_imageAt 15 = .ok (.areturn, 1) := by decide +kernel
set_option maxRecDepth 20000 in
theorem ggX4_pairRefusal_X3_hasNode : GoodIn wsX4_pairRefusal wsX3_hasNode := goodIn_r _ [6, 7, 8, 9, 10, 15, 16, 17, 18, 19, 20, 21, 22] (by decide +kernel) (by decide +kernel)
set_option maxRecDepth 20000 in
theorem gX4_pairRefusal_X3_hasNode : GoodIn wsX4_pairRefusal (wsV RX4 62 RX3 yX3_hasNode wsX3_hasNode) := goodIn_app (goodIn_of _ (by decide +kernel)) ggX4_pairRefusal_X3_hasNode
theorem dX4_pairRefusal_0 : decode cX4_pairRefusal 0 = .ok (.aload_n 0, 1) := by decide +kernel
theorem dX4_pairRefusal_1 : decode cX4_pairRefusal 1 = .ok (.getfield 12, 3) := by decide +kernel
theorem dX4_pairRefusal_4 : decode cX4_pairRefusal 4 = .ok (.iload_n 1, 1) := by decide +kernel
theorem dX4_pairRefusal_5 : decode cX4_pairRefusal 5 = .ok (.invokevirtual 62, 3) := by decide +kernel
theorem dX4_pairRefusal_8 : decode cX4_pairRefusal 8 = .ok (.ifCond .eq 14, 3) := by decide +kernel
theorem dX4_pairRefusal_11 : decode cX4_pairRefusal 11 = .ok (.aload_n 0, 1) := by decide +kernel
theorem dX4_pairRefusal_12 : decode cX4_pairRefusal 12 = .ok (.getfield 12, 3) := by decide +kernel
theorem dX4_pairRefusal_15 : decode cX4_pairRefusal 15 = .ok (.iload_n 2, 1) := by decide +kernel
theorem dX4_pairRefusal_16 : decode cX4_pairRefusal 16 = .ok (.invokevirtual 62, 3) := by decide +kernel
theorem dX4_pairRefusal_19 : decode cX4_pairRefusal 19 = .ok (.ifCond .ne 5, 3) := by decide +kernel
theorem dX4_pairRefusal_22 : decode cX4_pairRefusal 22 = .ok (.iconst (-1), 1) := by decide +kernel
theorem dX4_pairRefusal_23 : decode cX4_pairRefusal 23 = .ok (.ireturn, 1) := by decide +kernel
theorem dX4_pairRefusal_24 : decode cX4_pairRefusal 24 = .ok (.iload_n 2, 1) := by decide +kernel
theorem dX4_pairRefusal_25 : decode cX4_pairRefusal 25 = .ok (.iload_n 1, 1) := by decide +kernel
theorem dX4_pairRefusal_26 : decode cX4_pairRefusal 26 = .ok (.if_icmp .le 7, 3) := by decide +kernel
theorem dX4_pairRefusal_29 : decode cX4_pairRefusal 29 = .ok (.iconst 0, 1) := by decide +kernel
theorem dX4_pairRefusal_30 : decode cX4_pairRefusal 30 = .ok (.goto 5, 3) := by decide +kernel
theorem dX4_pairRefusal_33 : decode cX4_pairRefusal 33 = .ok (.bipush (-2), 2) := by decide +kernel
theorem dX4_pairRefusal_35 : decode cX4_pairRefusal 35 = .ok (.ireturn, 1) := by decide +kernel
set_option maxRecDepth 20000 in
theorem ggX4_tookRefusal_X4_pairRefusal : GoodIn wsX4_tookRefusal wsX4_pairRefusal := goodIn_r _ [5, 6, 7, 8, 9, 10, 11, 12, 13, 4, 14, 19, 20, 21, 22, 23, 24, 25, 26, 27, 28, 29, 30] (by decide +kernel) (by decide +kernel)
set_option maxRecDepth 20000 in
theorem gX4_tookRefusal_X4_pairRefusal : GoodIn wsX4_tookRefusal (wsV RX4 137 RX4 yX4_pairRefusal wsX4_pairRefusal) := goodIn_app (goodIn_of _ (by decide +kernel)) ggX4_tookRefusal_X4_pairRefusal
set_option maxRecDepth 20000 in
theorem ggX4_tookRefusal_X4_isBlock : GoodIn wsX4_tookRefusal wsX4_isBlock := goodIn_r _ [17, 18, 13, 4, 14] (by decide +kernel) (by decide +kernel)
set_option maxRecDepth 20000 in
theorem gX4_tookRefusal_X4_isBlock : GoodIn wsX4_tookRefusal (va_wsS RX4 93 yX4_isBlock wsX4_isBlock) := goodIn_app (goodIn_of _ (by decide +kernel)) ggX4_tookRefusal_X4_isBlock
set_option maxRecDepth 20000 in
theorem ggX4_tookRefusal_X4_within : GoodIn wsX4_tookRefusal wsX4_within := goodIn_r _ [14] (by decide +kernel) (by decide +kernel)
set_option maxRecDepth 20000 in
theorem gX4_tookRefusal_X4_within : GoodIn wsX4_tookRefusal (va_wsS RX4 30 yX4_within wsX4_within) := goodIn_app (goodIn_of _ (by decide +kernel)) ggX4_tookRefusal_X4_within
theorem dX4_tookRefusal_0 : decode cX4_tookRefusal 0 = .ok (.aload_n 0, 1) := by decide +kernel
theorem dX4_tookRefusal_1 : decode cX4_tookRefusal 1 = .ok (.iload_n 1, 1) := by decide +kernel
theorem dX4_tookRefusal_2 : decode cX4_tookRefusal 2 = .ok (.iload_n 2, 1) := by decide +kernel
theorem dX4_tookRefusal_3 : decode cX4_tookRefusal 3 = .ok (.invokevirtual 137, 3) := by decide +kernel
theorem dX4_tookRefusal_6 : decode cX4_tookRefusal 6 = .ok (.istore 5, 2) := by decide +kernel
theorem dX4_tookRefusal_8 : decode cX4_tookRefusal 8 = .ok (.iload 5, 2) := by decide +kernel
theorem dX4_tookRefusal_10 : decode cX4_tookRefusal 10 = .ok (.ifCond .eq 6, 3) := by decide +kernel
theorem dX4_tookRefusal_13 : decode cX4_tookRefusal 13 = .ok (.iload 5, 2) := by decide +kernel
theorem dX4_tookRefusal_15 : decode cX4_tookRefusal 15 = .ok (.ireturn, 1) := by decide +kernel
theorem dX4_tookRefusal_16 : decode cX4_tookRefusal 16 = .ok (.iload_n 3, 1) := by decide +kernel
theorem dX4_tookRefusal_17 : decode cX4_tookRefusal 17 = .ok (.invokestatic 93, 3) := by decide +kernel
theorem dX4_tookRefusal_20 : decode cX4_tookRefusal 20 = .ok (.ifCond .eq 17, 3) := by decide +kernel
theorem dX4_tookRefusal_23 : decode cX4_tookRefusal 23 = .ok (.iload 4, 2) := by decide +kernel
theorem dX4_tookRefusal_25 : decode cX4_tookRefusal 25 = .ok (.iconst 0, 1) := by decide +kernel
theorem dX4_tookRefusal_26 : decode cX4_tookRefusal 26 = .ok (.iconst 1, 1) := by decide +kernel
theorem dX4_tookRefusal_27 : decode cX4_tookRefusal 27 = .ok (.invokestatic 30, 3) := by decide +kernel
theorem dX4_tookRefusal_30 : decode cX4_tookRefusal 30 = .ok (.ifCond .eq 7, 3) := by decide +kernel
theorem dX4_tookRefusal_33 : decode cX4_tookRefusal 33 = .ok (.iconst 0, 1) := by decide +kernel
theorem dX4_tookRefusal_34 : decode cX4_tookRefusal 34 = .ok (.goto 5, 3) := by decide +kernel
theorem dX4_tookRefusal_37 : decode cX4_tookRefusal 37 = .ok (.bipush (-2), 2) := by decide +kernel
theorem dX4_tookRefusal_39 : decode cX4_tookRefusal 39 = .ok (.ireturn, 1) := by decide +kernel
set_option maxRecDepth 20000 in
theorem ggX4_isBlock_X4_within : GoodIn wsX4_isBlock wsX4_within := goodIn_r _ [4] (by decide +kernel) (by decide +kernel)
set_option maxRecDepth 20000 in
theorem gX4_isBlock_X4_within : GoodIn wsX4_isBlock (va_wsS RX4 30 yX4_within wsX4_within) := goodIn_app (goodIn_of _ (by decide +kernel)) ggX4_isBlock_X4_within
theorem dX4_isBlock_0 : decode cX4_isBlock 0 = .ok (.iload_n 0, 1) := by decide +kernel
theorem dX4_isBlock_1 : decode cX4_isBlock 1 = .ok (.iconst 0, 1) := by decide +kernel
theorem dX4_isBlock_2 : decode cX4_isBlock 2 = .ok (.sipush 199, 3) := by decide +kernel
theorem dX4_isBlock_5 : decode cX4_isBlock 5 = .ok (.invokestatic 30, 3) := by decide +kernel
theorem dX4_isBlock_8 : decode cX4_isBlock 8 = .ok (.ireturn, 1) := by decide +kernel
theorem dX4_within_0 : decode cX4_within 0 = .ok (.iload_n 0, 1) := by decide +kernel
theorem dX4_within_1 : decode cX4_within 1 = .ok (.iload_n 1, 1) := by decide +kernel
theorem dX4_within_2 : decode cX4_within 2 = .ok (.if_icmp .lt 12, 3) := by decide +kernel
theorem dX4_within_5 : decode cX4_within 5 = .ok (.iload_n 0, 1) := by decide +kernel
theorem dX4_within_6 : decode cX4_within 6 = .ok (.iload_n 2, 1) := by decide +kernel
theorem dX4_within_7 : decode cX4_within 7 = .ok (.if_icmp .gt 7, 3) := by decide +kernel
theorem dX4_within_10 : decode cX4_within 10 = .ok (.iconst 1, 1) := by decide +kernel
theorem dX4_within_11 : decode cX4_within 11 = .ok (.goto 4, 3) := by decide +kernel
theorem dX4_within_14 : decode cX4_within 14 = .ok (.iconst 0, 1) := by decide +kernel
theorem dX4_within_15 : decode cX4_within 15 = .ok (.ireturn, 1) := by decide +kernel
set_option maxRecDepth 20000 in
theorem ggX4_fractionPart_X4_greatestDivisor : GoodIn wsX4_fractionPart wsX4_greatestDivisor := goodIn_r _ [4] (by decide +kernel) (by decide +kernel)
set_option maxRecDepth 20000 in
theorem gX4_fractionPart_X4_greatestDivisor : GoodIn wsX4_fractionPart (va_wsS RX4 176 yX4_greatestDivisor wsX4_greatestDivisor) := goodIn_app (goodIn_of _ (by decide +kernel)) ggX4_fractionPart_X4_greatestDivisor
set_option maxRecDepth 20000 in
theorem ggX4_fractionPart_X4_quotient : GoodIn wsX4_fractionPart wsX4_quotient := goodIn_r _ [7] (by decide +kernel) (by decide +kernel)
set_option maxRecDepth 20000 in
theorem gX4_fractionPart_X4_quotient : GoodIn wsX4_fractionPart (va_wsS RX4 179 yX4_quotient wsX4_quotient) := goodIn_app (goodIn_of _ (by decide +kernel)) ggX4_fractionPart_X4_quotient
theorem dX4_fractionPart_0 : decode cX4_fractionPart 0 = .ok (.iload_n 2, 1) := by decide +kernel
theorem dX4_fractionPart_1 : decode cX4_fractionPart 1 = .ok (.ifCond .ne 7, 3) := by decide +kernel
theorem dX4_fractionPart_4 : decode cX4_fractionPart 4 = .ok (.iload_n 0, 1) := by decide +kernel
theorem dX4_fractionPart_5 : decode cX4_fractionPart 5 = .ok (.goto 4, 3) := by decide +kernel
theorem dX4_fractionPart_8 : decode cX4_fractionPart 8 = .ok (.iload_n 1, 1) := by decide +kernel
theorem dX4_fractionPart_9 : decode cX4_fractionPart 9 = .ok (.iload_n 0, 1) := by decide +kernel
theorem dX4_fractionPart_10 : decode cX4_fractionPart 10 = .ok (.iload_n 1, 1) := by decide +kernel
theorem dX4_fractionPart_11 : decode cX4_fractionPart 11 = .ok (.invokestatic 176, 3) := by decide +kernel
theorem dX4_fractionPart_14 : decode cX4_fractionPart 14 = .ok (.invokestatic 179, 3) := by decide +kernel
theorem dX4_fractionPart_17 : decode cX4_fractionPart 17 = .ok (.ireturn, 1) := by decide +kernel
theorem dX4_greatestDivisor_0 : decode cX4_greatestDivisor 0 = .ok (.iload_n 1, 1) := by decide +kernel
theorem dX4_greatestDivisor_1 : decode cX4_greatestDivisor 1 = .ok (.istore_n 2, 1) := by decide +kernel
theorem dX4_greatestDivisor_2 : decode cX4_greatestDivisor 2 = .ok (.iload_n 2, 1) := by decide +kernel
theorem dX4_greatestDivisor_3 : decode cX4_greatestDivisor 3 = .ok (.iconst 1, 1) := by decide +kernel
theorem dX4_greatestDivisor_4 : decode cX4_greatestDivisor 4 = .ok (.if_icmp .le 23, 3) := by decide +kernel
theorem dX4_greatestDivisor_7 : decode cX4_greatestDivisor 7 = .ok (.iload_n 0, 1) := by decide +kernel
theorem dX4_greatestDivisor_8 : decode cX4_greatestDivisor 8 = .ok (.iload_n 2, 1) := by decide +kernel
theorem dX4_greatestDivisor_9 : decode cX4_greatestDivisor 9 = .ok (.irem, 1) := by decide +kernel
theorem dX4_greatestDivisor_10 : decode cX4_greatestDivisor 10 = .ok (.ifCond .ne 11, 3) := by decide +kernel
theorem dX4_greatestDivisor_13 : decode cX4_greatestDivisor 13 = .ok (.iload_n 1, 1) := by decide +kernel
theorem dX4_greatestDivisor_14 : decode cX4_greatestDivisor 14 = .ok (.iload_n 2, 1) := by decide +kernel
theorem dX4_greatestDivisor_15 : decode cX4_greatestDivisor 15 = .ok (.irem, 1) := by decide +kernel
theorem dX4_greatestDivisor_16 : decode cX4_greatestDivisor 16 = .ok (.ifCond .ne 5, 3) := by decide +kernel
theorem dX4_greatestDivisor_19 : decode cX4_greatestDivisor 19 = .ok (.iload_n 2, 1) := by decide +kernel
theorem dX4_greatestDivisor_20 : decode cX4_greatestDivisor 20 = .ok (.ireturn, 1) := by decide +kernel
theorem dX4_greatestDivisor_21 : decode cX4_greatestDivisor 21 = .ok (.iinc 2 (-1), 3) := by decide +kernel
theorem dX4_greatestDivisor_24 : decode cX4_greatestDivisor 24 = .ok (.goto (-22), 3) := by decide +kernel
theorem dX4_greatestDivisor_27 : decode cX4_greatestDivisor 27 = .ok (.iconst 1, 1) := by decide +kernel
theorem dX4_greatestDivisor_28 : decode cX4_greatestDivisor 28 = .ok (.ireturn, 1) := by decide +kernel
theorem dX4_quotient_0 : decode cX4_quotient 0 = .ok (.iload_n 1, 1) := by decide +kernel
theorem dX4_quotient_1 : decode cX4_quotient 1 = .ok (.ifCond .le 9, 3) := by decide +kernel
theorem dX4_quotient_4 : decode cX4_quotient 4 = .ok (.iload_n 0, 1) := by decide +kernel
theorem dX4_quotient_5 : decode cX4_quotient 5 = .ok (.iload_n 1, 1) := by decide +kernel
theorem dX4_quotient_6 : decode cX4_quotient 6 = .ok (.idiv, 1) := by decide +kernel
theorem dX4_quotient_7 : decode cX4_quotient 7 = .ok (.goto 4, 3) := by decide +kernel
theorem dX4_quotient_10 : decode cX4_quotient 10 = .ok (.iconst 0, 1) := by decide +kernel
theorem dX4_quotient_11 : decode cX4_quotient 11 = .ok (.ireturn, 1) := by decide +kernel
theorem dX4_leftOver_0 : decode cX4_leftOver 0 = .ok (.iload_n 1, 1) := by decide +kernel
theorem dX4_leftOver_1 : decode cX4_leftOver 1 = .ok (.ifCond .le 9, 3) := by decide +kernel
theorem dX4_leftOver_4 : decode cX4_leftOver 4 = .ok (.iload_n 0, 1) := by decide +kernel
theorem dX4_leftOver_5 : decode cX4_leftOver 5 = .ok (.iload_n 1, 1) := by decide +kernel
theorem dX4_leftOver_6 : decode cX4_leftOver 6 = .ok (.irem, 1) := by decide +kernel
theorem dX4_leftOver_7 : decode cX4_leftOver 7 = .ok (.goto 4, 3) := by decide +kernel
theorem dX4_leftOver_10 : decode cX4_leftOver 10 = .ok (.iconst 0, 1) := by decide +kernel
theorem dX4_leftOver_11 : decode cX4_leftOver 11 = .ok (.ireturn, 1) := by decide +kernel
end
section
set_option maxRecDepth 20000 in
theorem ggX5_init_X5_begin : GoodIn wsX5_init wsX5_begin := goodIn_r _ [14, 5, 15, 16, 17, 18] (by decide +kernel) (by decide +kernel)
set_option maxRecDepth 20000 in
theorem gX5_init_X5_begin : GoodIn wsX5_init (wsV RX5 23 RX5 yX5_begin wsX5_begin) := goodIn_app (goodIn_of _ (by decide +kernel)) ggX5_init_X5_begin
theorem dX5_init_0 : decode cX5_init 0 = .ok (.aload_n 0, 1) := by decide +kernel
theorem dX5_init_1 : decode cX5_init 1 = .ok (.invokespecial 1, 3) := by decide +kernel
theorem dX5_init_4 : decode cX5_init 4 = .ok (.aload_n 0, 1) := by decide +kernel
theorem dX5_init_5 : decode cX5_init 5 = .ok (.sipush 2108, 3) := by decide +kernel
theorem dX5_init_8 : decode cX5_init 8 = .ok (.newarray .int, 2) := by decide +kernel
theorem dX5_init_10 : decode cX5_init 10 = .ok (.putfield 7, 3) := by decide +kernel
theorem dX5_init_13 : decode cX5_init 13 = .ok (.aload_n 0, 1) := by decide +kernel
theorem dX5_init_14 : decode cX5_init 14 = .ok (.sipush 4216, 3) := by decide +kernel
theorem dX5_init_17 : decode cX5_init 17 = .ok (.newarray .int, 2) := by decide +kernel
theorem dX5_init_19 : decode cX5_init 19 = .ok (.putfield 13, 3) := by decide +kernel
theorem dX5_init_22 : decode cX5_init 22 = .ok (.aload_n 0, 1) := by decide +kernel
theorem dX5_init_23 : decode cX5_init 23 = .ok (.iconst 2, 1) := by decide +kernel
theorem dX5_init_24 : decode cX5_init 24 = .ok (.newarray .boolean, 2) := by decide +kernel
theorem dX5_init_26 : decode cX5_init 26 = .ok (.putfield 16, 3) := by decide +kernel
theorem dX5_init_29 : decode cX5_init 29 = .ok (.aload_n 0, 1) := by decide +kernel
theorem dX5_init_30 : decode cX5_init 30 = .ok (.bipush 25, 2) := by decide +kernel
theorem dX5_init_32 : decode cX5_init 32 = .ok (.newarray .int, 2) := by decide +kernel
theorem dX5_init_34 : decode cX5_init 34 = .ok (.putfield 20, 3) := by decide +kernel
theorem dX5_init_37 : decode cX5_init 37 = .ok (.aload_n 0, 1) := by decide +kernel
theorem dX5_init_38 : decode cX5_init 38 = .ok (.iconst 3, 1) := by decide +kernel
theorem dX5_init_39 : decode cX5_init 39 = .ok (.invokevirtual 23, 3) := by decide +kernel
theorem dX5_init_42 : decode cX5_init 42 = .ok (.return_, 1) := by decide +kernel
theorem dX5_begin_0 : decode cX5_begin 0 = .ok (.iconst 0, 1) := by decide +kernel
theorem dX5_begin_1 : decode cX5_begin 1 = .ok (.istore_n 2, 1) := by decide +kernel
theorem dX5_begin_2 : decode cX5_begin 2 = .ok (.iload_n 2, 1) := by decide +kernel
theorem dX5_begin_3 : decode cX5_begin 3 = .ok (.sipush 2108, 3) := by decide +kernel
theorem dX5_begin_6 : decode cX5_begin 6 = .ok (.if_icmp .ge 16, 3) := by decide +kernel
theorem dX5_begin_9 : decode cX5_begin 9 = .ok (.aload_n 0, 1) := by decide +kernel
theorem dX5_begin_10 : decode cX5_begin 10 = .ok (.getfield 7, 3) := by decide +kernel
theorem dX5_begin_13 : decode cX5_begin 13 = .ok (.iload_n 2, 1) := by decide +kernel
theorem dX5_begin_14 : decode cX5_begin 14 = .ok (.iconst 0, 1) := by decide +kernel
theorem dX5_begin_15 : decode cX5_begin 15 = .ok (.iastore, 1) := by decide +kernel
theorem dX5_begin_16 : decode cX5_begin 16 = .ok (.iinc 2 1, 3) := by decide +kernel
theorem dX5_begin_19 : decode cX5_begin 19 = .ok (.goto (-17), 3) := by decide +kernel
theorem dX5_begin_22 : decode cX5_begin 22 = .ok (.aload_n 0, 1) := by decide +kernel
theorem dX5_begin_23 : decode cX5_begin 23 = .ok (.getfield 7, 3) := by decide +kernel
theorem dX5_begin_26 : decode cX5_begin 26 = .ok (.iconst 0, 1) := by decide +kernel
theorem dX5_begin_27 : decode cX5_begin 27 = .ok (.iload_n 1, 1) := by decide +kernel
theorem dX5_begin_28 : decode cX5_begin 28 = .ok (.iastore, 1) := by decide +kernel
theorem dX5_begin_29 : decode cX5_begin 29 = .ok (.aload_n 0, 1) := by decide +kernel
theorem dX5_begin_30 : decode cX5_begin 30 = .ok (.getfield 7, 3) := by decide +kernel
theorem dX5_begin_33 : decode cX5_begin 33 = .ok (.iconst 3, 1) := by decide +kernel
theorem dX5_begin_34 : decode cX5_begin 34 = .ok (.iconst 5, 1) := by decide +kernel
theorem dX5_begin_35 : decode cX5_begin 35 = .ok (.iastore, 1) := by decide +kernel
theorem dX5_begin_36 : decode cX5_begin 36 = .ok (.iconst 0, 1) := by decide +kernel
theorem dX5_begin_37 : decode cX5_begin 37 = .ok (.istore_n 2, 1) := by decide +kernel
theorem dX5_begin_38 : decode cX5_begin 38 = .ok (.iload_n 2, 1) := by decide +kernel
theorem dX5_begin_39 : decode cX5_begin 39 = .ok (.iconst 4, 1) := by decide +kernel
theorem dX5_begin_40 : decode cX5_begin 40 = .ok (.if_icmp .ge 35, 3) := by decide +kernel
theorem dX5_begin_43 : decode cX5_begin 43 = .ok (.aload_n 0, 1) := by decide +kernel
theorem dX5_begin_44 : decode cX5_begin 44 = .ok (.getfield 7, 3) := by decide +kernel
theorem dX5_begin_47 : decode cX5_begin 47 = .ok (.iconst 4, 1) := by decide +kernel
theorem dX5_begin_48 : decode cX5_begin 48 = .ok (.bipush 6, 2) := by decide +kernel
theorem dX5_begin_50 : decode cX5_begin 50 = .ok (.iload_n 2, 1) := by decide +kernel
theorem dX5_begin_51 : decode cX5_begin 51 = .ok (.imul, 1) := by decide +kernel
theorem dX5_begin_52 : decode cX5_begin 52 = .ok (.iadd, 1) := by decide +kernel
theorem dX5_begin_53 : decode cX5_begin 53 = .ok (.iconst 5, 1) := by decide +kernel
theorem dX5_begin_54 : decode cX5_begin 54 = .ok (.iastore, 1) := by decide +kernel
theorem dX5_begin_55 : decode cX5_begin 55 = .ok (.aload_n 0, 1) := by decide +kernel
theorem dX5_begin_56 : decode cX5_begin 56 = .ok (.getfield 7, 3) := by decide +kernel
theorem dX5_begin_59 : decode cX5_begin 59 = .ok (.iconst 4, 1) := by decide +kernel
theorem dX5_begin_60 : decode cX5_begin 60 = .ok (.bipush 6, 2) := by decide +kernel
theorem dX5_begin_62 : decode cX5_begin 62 = .ok (.iload_n 2, 1) := by decide +kernel
theorem dX5_begin_63 : decode cX5_begin 63 = .ok (.imul, 1) := by decide +kernel
theorem dX5_begin_64 : decode cX5_begin 64 = .ok (.iadd, 1) := by decide +kernel
theorem dX5_begin_65 : decode cX5_begin 65 = .ok (.iconst 2, 1) := by decide +kernel
theorem dX5_begin_66 : decode cX5_begin 66 = .ok (.iadd, 1) := by decide +kernel
theorem dX5_begin_67 : decode cX5_begin 67 = .ok (.iconst 5, 1) := by decide +kernel
theorem dX5_begin_68 : decode cX5_begin 68 = .ok (.iastore, 1) := by decide +kernel
theorem dX5_begin_69 : decode cX5_begin 69 = .ok (.iinc 2 1, 3) := by decide +kernel
theorem dX5_begin_72 : decode cX5_begin 72 = .ok (.goto (-34), 3) := by decide +kernel
theorem dX5_begin_75 : decode cX5_begin 75 = .ok (.return_, 1) := by decide +kernel
theorem dX5_in_0 : decode cX5_in 0 = .ok (.iload_n 0, 1) := by decide +kernel
theorem dX5_in_1 : decode cX5_in 1 = .ok (.iload_n 1, 1) := by decide +kernel
theorem dX5_in_2 : decode cX5_in 2 = .ok (.if_icmp .lt 12, 3) := by decide +kernel
theorem dX5_in_5 : decode cX5_in 5 = .ok (.iload_n 0, 1) := by decide +kernel
theorem dX5_in_6 : decode cX5_in 6 = .ok (.iload_n 2, 1) := by decide +kernel
theorem dX5_in_7 : decode cX5_in 7 = .ok (.if_icmp .gt 7, 3) := by decide +kernel
theorem dX5_in_10 : decode cX5_in 10 = .ok (.iconst 1, 1) := by decide +kernel
theorem dX5_in_11 : decode cX5_in 11 = .ok (.goto 4, 3) := by decide +kernel
theorem dX5_in_14 : decode cX5_in 14 = .ok (.iconst 0, 1) := by decide +kernel
theorem dX5_in_15 : decode cX5_in 15 = .ok (.ireturn, 1) := by decide +kernel
set_option maxRecDepth 20000 in
theorem ggX5_isNode_X5_in : GoodIn wsX5_isNode wsX5_in := goodIn_r _ [5] (by decide +kernel) (by decide +kernel)
set_option maxRecDepth 20000 in
theorem gX5_isNode_X5_in : GoodIn wsX5_isNode (va_wsS RX5 27 yX5_in wsX5_in) := goodIn_app (goodIn_of _ (by decide +kernel)) ggX5_isNode_X5_in
theorem dX5_isNode_0 : decode cX5_isNode 0 = .ok (.iload_n 1, 1) := by decide +kernel
theorem dX5_isNode_1 : decode cX5_isNode 1 = .ok (.iconst 0, 1) := by decide +kernel
theorem dX5_isNode_2 : decode cX5_isNode 2 = .ok (.aload_n 0, 1) := by decide +kernel
theorem dX5_isNode_3 : decode cX5_isNode 3 = .ok (.getfield 7, 3) := by decide +kernel
theorem dX5_isNode_6 : decode cX5_isNode 6 = .ok (.iconst 0, 1) := by decide +kernel
theorem dX5_isNode_7 : decode cX5_isNode 7 = .ok (.iaload, 1) := by decide +kernel
theorem dX5_isNode_8 : decode cX5_isNode 8 = .ok (.iconst 1, 1) := by decide +kernel
theorem dX5_isNode_9 : decode cX5_isNode 9 = .ok (.isub, 1) := by decide +kernel
theorem dX5_isNode_10 : decode cX5_isNode 10 = .ok (.invokestatic 27, 3) := by decide +kernel
theorem dX5_isNode_13 : decode cX5_isNode 13 = .ok (.ireturn, 1) := by decide +kernel
set_option maxRecDepth 20000 in
theorem ggX5_isLink_X5_in : GoodIn wsX5_isLink wsX5_in := goodIn_r _ [5] (by decide +kernel) (by decide +kernel)
set_option maxRecDepth 20000 in
theorem gX5_isLink_X5_in : GoodIn wsX5_isLink (va_wsS RX5 27 yX5_in wsX5_in) := goodIn_app (goodIn_of _ (by decide +kernel)) ggX5_isLink_X5_in
theorem dX5_isLink_0 : decode cX5_isLink 0 = .ok (.iload_n 1, 1) := by decide +kernel
theorem dX5_isLink_1 : decode cX5_isLink 1 = .ok (.iconst 0, 1) := by decide +kernel
theorem dX5_isLink_2 : decode cX5_isLink 2 = .ok (.aload_n 0, 1) := by decide +kernel
theorem dX5_isLink_3 : decode cX5_isLink 3 = .ok (.getfield 7, 3) := by decide +kernel
theorem dX5_isLink_6 : decode cX5_isLink 6 = .ok (.iconst 0, 1) := by decide +kernel
theorem dX5_isLink_7 : decode cX5_isLink 7 = .ok (.iaload, 1) := by decide +kernel
theorem dX5_isLink_8 : decode cX5_isLink 8 = .ok (.iconst 2, 1) := by decide +kernel
theorem dX5_isLink_9 : decode cX5_isLink 9 = .ok (.isub, 1) := by decide +kernel
theorem dX5_isLink_10 : decode cX5_isLink 10 = .ok (.invokestatic 27, 3) := by decide +kernel
theorem dX5_isLink_13 : decode cX5_isLink 13 = .ok (.ireturn, 1) := by decide +kernel
set_option maxRecDepth 20000 in
theorem ggX5_isBlock_X5_in : GoodIn wsX5_isBlock wsX5_in := goodIn_r _ [4] (by decide +kernel) (by decide +kernel)
set_option maxRecDepth 20000 in
theorem gX5_isBlock_X5_in : GoodIn wsX5_isBlock (va_wsS RX5 27 yX5_in wsX5_in) := goodIn_app (goodIn_of _ (by decide +kernel)) ggX5_isBlock_X5_in
theorem dX5_isBlock_0 : decode cX5_isBlock 0 = .ok (.iload_n 0, 1) := by decide +kernel
theorem dX5_isBlock_1 : decode cX5_isBlock 1 = .ok (.iconst 0, 1) := by decide +kernel
theorem dX5_isBlock_2 : decode cX5_isBlock 2 = .ok (.sipush 199, 3) := by decide +kernel
theorem dX5_isBlock_5 : decode cX5_isBlock 5 = .ok (.invokestatic 27, 3) := by decide +kernel
theorem dX5_isBlock_8 : decode cX5_isBlock 8 = .ok (.ireturn, 1) := by decide +kernel
theorem dX5_linkOf_0 : decode cX5_linkOf 0 = .ok (.aload_n 0, 1) := by decide +kernel
theorem dX5_linkOf_1 : decode cX5_linkOf 1 = .ok (.getfield 7, 3) := by decide +kernel
theorem dX5_linkOf_4 : decode cX5_linkOf 4 = .ok (.iconst 4, 1) := by decide +kernel
theorem dX5_linkOf_5 : decode cX5_linkOf 5 = .ok (.bipush 6, 2) := by decide +kernel
theorem dX5_linkOf_7 : decode cX5_linkOf 7 = .ok (.iload_n 1, 1) := by decide +kernel
theorem dX5_linkOf_8 : decode cX5_linkOf 8 = .ok (.imul, 1) := by decide +kernel
theorem dX5_linkOf_9 : decode cX5_linkOf 9 = .ok (.iadd, 1) := by decide +kernel
theorem dX5_linkOf_10 : decode cX5_linkOf 10 = .ok (.iload_n 2, 1) := by decide +kernel
theorem dX5_linkOf_11 : decode cX5_linkOf 11 = .ok (.iadd, 1) := by decide +kernel
theorem dX5_linkOf_12 : decode cX5_linkOf 12 = .ok (.iaload, 1) := by decide +kernel
theorem dX5_linkOf_13 : decode cX5_linkOf 13 = .ok (.ireturn, 1) := by decide +kernel
set_option maxRecDepth 20000 in
theorem ggX5_nodes_X5_in : GoodIn wsX5_nodes wsX5_in := goodIn_r _ [5] (by decide +kernel) (by decide +kernel)
set_option maxRecDepth 20000 in
theorem gX5_nodes_X5_in : GoodIn wsX5_nodes (va_wsS RX5 27 yX5_in wsX5_in) := goodIn_app (goodIn_of _ (by decide +kernel)) ggX5_nodes_X5_in
set_option maxRecDepth 20000 in
theorem ggX5_nodes_X5_begin : GoodIn wsX5_nodes wsX5_begin := goodIn_r _ [9, 1, 10, 11, 12, 13] (by decide +kernel) (by decide +kernel)
set_option maxRecDepth 20000 in
theorem gX5_nodes_X5_begin : GoodIn wsX5_nodes (wsV RX5 23 RX5 yX5_begin wsX5_begin) := goodIn_app (goodIn_of _ (by decide +kernel)) ggX5_nodes_X5_begin
theorem dX5_nodes_0 : decode cX5_nodes 0 = .ok (.iload_n 1, 1) := by decide +kernel
theorem dX5_nodes_1 : decode cX5_nodes 1 = .ok (.iconst 2, 1) := by decide +kernel
theorem dX5_nodes_2 : decode cX5_nodes 2 = .ok (.iconst 5, 1) := by decide +kernel
theorem dX5_nodes_3 : decode cX5_nodes 3 = .ok (.invokestatic 27, 3) := by decide +kernel
theorem dX5_nodes_6 : decode cX5_nodes 6 = .ok (.ifCond .ne 6, 3) := by decide +kernel
theorem dX5_nodes_9 : decode cX5_nodes 9 = .ok (.bipush (-2), 2) := by decide +kernel
theorem dX5_nodes_11 : decode cX5_nodes 11 = .ok (.ireturn, 1) := by decide +kernel
theorem dX5_nodes_12 : decode cX5_nodes 12 = .ok (.aload_n 0, 1) := by decide +kernel
theorem dX5_nodes_13 : decode cX5_nodes 13 = .ok (.getfield 7, 3) := by decide +kernel
theorem dX5_nodes_16 : decode cX5_nodes 16 = .ok (.iconst 0, 1) := by decide +kernel
theorem dX5_nodes_17 : decode cX5_nodes 17 = .ok (.iaload, 1) := by decide +kernel
theorem dX5_nodes_18 : decode cX5_nodes 18 = .ok (.istore_n 2, 1) := by decide +kernel
theorem dX5_nodes_19 : decode cX5_nodes 19 = .ok (.aload_n 0, 1) := by decide +kernel
theorem dX5_nodes_20 : decode cX5_nodes 20 = .ok (.iload_n 1, 1) := by decide +kernel
theorem dX5_nodes_21 : decode cX5_nodes 21 = .ok (.invokevirtual 23, 3) := by decide +kernel
theorem dX5_nodes_24 : decode cX5_nodes 24 = .ok (.iload_n 2, 1) := by decide +kernel
theorem dX5_nodes_25 : decode cX5_nodes 25 = .ok (.ireturn, 1) := by decide +kernel
set_option maxRecDepth 20000 in
theorem ggX5_canBe_X5_in : GoodIn wsX5_canBe wsX5_in := goodIn_r _ [4] (by decide +kernel) (by decide +kernel)
set_option maxRecDepth 20000 in
theorem gX5_canBe_X5_in : GoodIn wsX5_canBe (va_wsS RX5 27 yX5_in wsX5_in) := goodIn_app (goodIn_of _ (by decide +kernel)) ggX5_canBe_X5_in
theorem dX5_canBe_0 : decode cX5_canBe 0 = .ok (.iload_n 0, 1) := by decide +kernel
theorem dX5_canBe_1 : decode cX5_canBe 1 = .ok (.ifCond .eq 8, 3) := by decide +kernel
theorem dX5_canBe_4 : decode cX5_canBe 4 = .ok (.iload_n 0, 1) := by decide +kernel
theorem dX5_canBe_5 : decode cX5_canBe 5 = .ok (.iconst 2, 1) := by decide +kernel
theorem dX5_canBe_6 : decode cX5_canBe 6 = .ok (.if_icmp .ne 13, 3) := by decide +kernel
theorem dX5_canBe_9 : decode cX5_canBe 9 = .ok (.iload_n 1, 1) := by decide +kernel
theorem dX5_canBe_10 : decode cX5_canBe 10 = .ok (.iconst 1, 1) := by decide +kernel
theorem dX5_canBe_11 : decode cX5_canBe 11 = .ok (.bipush 20, 2) := by decide +kernel
theorem dX5_canBe_13 : decode cX5_canBe 13 = .ok (.invokestatic 27, 3) := by decide +kernel
theorem dX5_canBe_16 : decode cX5_canBe 16 = .ok (.goto 10, 3) := by decide +kernel
theorem dX5_canBe_19 : decode cX5_canBe 19 = .ok (.iload_n 1, 1) := by decide +kernel
theorem dX5_canBe_20 : decode cX5_canBe 20 = .ok (.iconst 0, 1) := by decide +kernel
theorem dX5_canBe_21 : decode cX5_canBe 21 = .ok (.bipush 9, 2) := by decide +kernel
theorem dX5_canBe_23 : decode cX5_canBe 23 = .ok (.invokestatic 27, 3) := by decide +kernel
theorem dX5_canBe_26 : decode cX5_canBe 26 = .ok (.ireturn, 1) := by decide +kernel
set_option maxRecDepth 20000 in
theorem ggX5_link_X5_isLink : GoodIn wsX5_link wsX5_isLink := goodIn_r _ [6, 1, 7, 8, 5, 9, 17, 18, 19, 20] (by decide +kernel) (by decide +kernel)
set_option maxRecDepth 20000 in
theorem gX5_link_X5_isLink : GoodIn wsX5_link (wsV RX5 31 RX5 yX5_isLink wsX5_isLink) := goodIn_app (goodIn_of _ (by decide +kernel)) ggX5_link_X5_isLink
set_option maxRecDepth 20000 in
theorem ggX5_link_X5_in : GoodIn wsX5_link wsX5_in := goodIn_r _ [9] (by decide +kernel) (by decide +kernel)
set_option maxRecDepth 20000 in
theorem gX5_link_X5_in : GoodIn wsX5_link (va_wsS RX5 27 yX5_in wsX5_in) := goodIn_app (goodIn_of _ (by decide +kernel)) ggX5_link_X5_in
set_option maxRecDepth 20000 in
theorem ggX5_link_X5_canBe : GoodIn wsX5_link wsX5_canBe := goodIn_r _ [12, 7, 8, 5, 9] (by decide +kernel) (by decide +kernel)
set_option maxRecDepth 20000 in
theorem gX5_link_X5_canBe : GoodIn wsX5_link (va_wsS RX5 35 yX5_canBe wsX5_canBe) := goodIn_app (goodIn_of _ (by decide +kernel)) ggX5_link_X5_canBe
set_option maxRecDepth 20000 in
theorem ggX5_link_X5_linkOf : GoodIn wsX5_link wsX5_linkOf := goodIn_r _ [16, 1, 17, 18, 19, 20] (by decide +kernel) (by decide +kernel)
set_option maxRecDepth 20000 in
theorem gX5_link_X5_linkOf : GoodIn wsX5_link (wsV RX5 39 RX5 yX5_linkOf wsX5_linkOf) := goodIn_app (goodIn_of _ (by decide +kernel)) ggX5_link_X5_linkOf
theorem dX5_link_0 : decode cX5_link 0 = .ok (.aload_n 0, 1) := by decide +kernel
theorem dX5_link_1 : decode cX5_link 1 = .ok (.iload_n 1, 1) := by decide +kernel
theorem dX5_link_2 : decode cX5_link 2 = .ok (.invokevirtual 31, 3) := by decide +kernel
theorem dX5_link_5 : decode cX5_link 5 = .ok (.ifCond .ne 5, 3) := by decide +kernel
theorem dX5_link_8 : decode cX5_link 8 = .ok (.iconst (-1), 1) := by decide +kernel
theorem dX5_link_9 : decode cX5_link 9 = .ok (.ireturn, 1) := by decide +kernel
theorem dX5_link_10 : decode cX5_link 10 = .ok (.iload_n 2, 1) := by decide +kernel
theorem dX5_link_11 : decode cX5_link 11 = .ok (.iconst 0, 1) := by decide +kernel
theorem dX5_link_12 : decode cX5_link 12 = .ok (.iconst 5, 1) := by decide +kernel
theorem dX5_link_13 : decode cX5_link 13 = .ok (.invokestatic 27, 3) := by decide +kernel
theorem dX5_link_16 : decode cX5_link 16 = .ok (.ifCond .eq 11, 3) := by decide +kernel
theorem dX5_link_19 : decode cX5_link 19 = .ok (.iload_n 2, 1) := by decide +kernel
theorem dX5_link_20 : decode cX5_link 20 = .ok (.iload_n 3, 1) := by decide +kernel
theorem dX5_link_21 : decode cX5_link 21 = .ok (.invokestatic 35, 3) := by decide +kernel
theorem dX5_link_24 : decode cX5_link 24 = .ok (.ifCond .ne 6, 3) := by decide +kernel
theorem dX5_link_27 : decode cX5_link 27 = .ok (.bipush (-2), 2) := by decide +kernel
theorem dX5_link_29 : decode cX5_link 29 = .ok (.ireturn, 1) := by decide +kernel
theorem dX5_link_30 : decode cX5_link 30 = .ok (.aload_n 0, 1) := by decide +kernel
theorem dX5_link_31 : decode cX5_link 31 = .ok (.iload_n 1, 1) := by decide +kernel
theorem dX5_link_32 : decode cX5_link 32 = .ok (.iload_n 2, 1) := by decide +kernel
theorem dX5_link_33 : decode cX5_link 33 = .ok (.invokevirtual 39, 3) := by decide +kernel
theorem dX5_link_36 : decode cX5_link 36 = .ok (.istore 4, 2) := by decide +kernel
theorem dX5_link_38 : decode cX5_link 38 = .ok (.aload_n 0, 1) := by decide +kernel
theorem dX5_link_39 : decode cX5_link 39 = .ok (.getfield 7, 3) := by decide +kernel
theorem dX5_link_42 : decode cX5_link 42 = .ok (.iconst 4, 1) := by decide +kernel
theorem dX5_link_43 : decode cX5_link 43 = .ok (.bipush 6, 2) := by decide +kernel
theorem dX5_link_45 : decode cX5_link 45 = .ok (.iload_n 1, 1) := by decide +kernel
theorem dX5_link_46 : decode cX5_link 46 = .ok (.imul, 1) := by decide +kernel
theorem dX5_link_47 : decode cX5_link 47 = .ok (.iadd, 1) := by decide +kernel
theorem dX5_link_48 : decode cX5_link 48 = .ok (.iload_n 2, 1) := by decide +kernel
theorem dX5_link_49 : decode cX5_link 49 = .ok (.iadd, 1) := by decide +kernel
theorem dX5_link_50 : decode cX5_link 50 = .ok (.iload_n 3, 1) := by decide +kernel
theorem dX5_link_51 : decode cX5_link 51 = .ok (.iastore, 1) := by decide +kernel
theorem dX5_link_52 : decode cX5_link 52 = .ok (.iload 4, 2) := by decide +kernel
theorem dX5_link_54 : decode cX5_link 54 = .ok (.ireturn, 1) := by decide +kernel
set_option maxRecDepth 20000 in
theorem ggX5_clock_X5_isNode : GoodIn wsX5_clock wsX5_isNode := goodIn_r _ [9, 3, 10, 11, 8, 12, 13, 14, 15, 16] (by decide +kernel) (by decide +kernel)
set_option maxRecDepth 20000 in
theorem gX5_clock_X5_isNode : GoodIn wsX5_clock (wsV RX5 43 RX5 yX5_isNode wsX5_isNode) := goodIn_app (goodIn_of _ (by decide +kernel)) ggX5_clock_X5_isNode
set_option maxRecDepth 20000 in
theorem ggX5_clock_X5_in : GoodIn wsX5_clock wsX5_in := goodIn_r _ [12] (by decide +kernel) (by decide +kernel)
set_option maxRecDepth 20000 in
theorem gX5_clock_X5_in : GoodIn wsX5_clock (va_wsS RX5 27 yX5_in wsX5_in) := goodIn_app (goodIn_of _ (by decide +kernel)) ggX5_clock_X5_in
theorem dX5_clock_0 : decode cX5_clock 0 = .ok (.aload_n 0, 1) := by decide +kernel
theorem dX5_clock_1 : decode cX5_clock 1 = .ok (.iload_n 1, 1) := by decide +kernel
theorem dX5_clock_2 : decode cX5_clock 2 = .ok (.invokevirtual 43, 3) := by decide +kernel
theorem dX5_clock_5 : decode cX5_clock 5 = .ok (.ifCond .ne 6, 3) := by decide +kernel
theorem dX5_clock_8 : decode cX5_clock 8 = .ok (.ldc 46, 2) := by decide +kernel
theorem dX5_clock_10 : decode cX5_clock 10 = .ok (.ireturn, 1) := by decide +kernel
theorem dX5_clock_11 : decode cX5_clock 11 = .ok (.iload_n 2, 1) := by decide +kernel
theorem dX5_clock_12 : decode cX5_clock 12 = .ok (.bipush (-99), 2) := by decide +kernel
theorem dX5_clock_14 : decode cX5_clock 14 = .ok (.bipush 99, 2) := by decide +kernel
theorem dX5_clock_16 : decode cX5_clock 16 = .ok (.invokestatic 27, 3) := by decide +kernel
theorem dX5_clock_19 : decode cX5_clock 19 = .ok (.ifCond .ne 6, 3) := by decide +kernel
theorem dX5_clock_22 : decode cX5_clock 22 = .ok (.ldc 47, 2) := by decide +kernel
theorem dX5_clock_24 : decode cX5_clock 24 = .ok (.ireturn, 1) := by decide +kernel
theorem dX5_clock_25 : decode cX5_clock 25 = .ok (.aload_n 0, 1) := by decide +kernel
theorem dX5_clock_26 : decode cX5_clock 26 = .ok (.getfield 7, 3) := by decide +kernel
theorem dX5_clock_29 : decode cX5_clock 29 = .ok (.iconst 2, 1) := by decide +kernel
theorem dX5_clock_30 : decode cX5_clock 30 = .ok (.iaload, 1) := by decide +kernel
theorem dX5_clock_31 : decode cX5_clock 31 = .ok (.ifCond .le 6, 3) := by decide +kernel
theorem dX5_clock_34 : decode cX5_clock 34 = .ok (.ldc 48, 2) := by decide +kernel
theorem dX5_clock_36 : decode cX5_clock 36 = .ok (.ireturn, 1) := by decide +kernel
theorem dX5_clock_37 : decode cX5_clock 37 = .ok (.aload_n 0, 1) := by decide +kernel
theorem dX5_clock_38 : decode cX5_clock 38 = .ok (.getfield 7, 3) := by decide +kernel
theorem dX5_clock_41 : decode cX5_clock 41 = .ok (.bipush 28, 2) := by decide +kernel
theorem dX5_clock_43 : decode cX5_clock 43 = .ok (.iload_n 1, 1) := by decide +kernel
theorem dX5_clock_44 : decode cX5_clock 44 = .ok (.iadd, 1) := by decide +kernel
theorem dX5_clock_45 : decode cX5_clock 45 = .ok (.iaload, 1) := by decide +kernel
theorem dX5_clock_46 : decode cX5_clock 46 = .ok (.istore_n 3, 1) := by decide +kernel
theorem dX5_clock_47 : decode cX5_clock 47 = .ok (.aload_n 0, 1) := by decide +kernel
theorem dX5_clock_48 : decode cX5_clock 48 = .ok (.getfield 7, 3) := by decide +kernel
theorem dX5_clock_51 : decode cX5_clock 51 = .ok (.bipush 28, 2) := by decide +kernel
theorem dX5_clock_53 : decode cX5_clock 53 = .ok (.iload_n 1, 1) := by decide +kernel
theorem dX5_clock_54 : decode cX5_clock 54 = .ok (.iadd, 1) := by decide +kernel
theorem dX5_clock_55 : decode cX5_clock 55 = .ok (.iload_n 2, 1) := by decide +kernel
theorem dX5_clock_56 : decode cX5_clock 56 = .ok (.iastore, 1) := by decide +kernel
theorem dX5_clock_57 : decode cX5_clock 57 = .ok (.iconst 0, 1) := by decide +kernel
theorem dX5_clock_58 : decode cX5_clock 58 = .ok (.istore 4, 2) := by decide +kernel
theorem dX5_clock_60 : decode cX5_clock 60 = .ok (.iload 4, 2) := by decide +kernel
theorem dX5_clock_62 : decode cX5_clock 62 = .ok (.iconst 5, 1) := by decide +kernel
theorem dX5_clock_63 : decode cX5_clock 63 = .ok (.if_icmp .ge 39, 3) := by decide +kernel
theorem dX5_clock_66 : decode cX5_clock 66 = .ok (.aload_n 0, 1) := by decide +kernel
theorem dX5_clock_67 : decode cX5_clock 67 = .ok (.getfield 7, 3) := by decide +kernel
theorem dX5_clock_70 : decode cX5_clock 70 = .ok (.bipush 83, 2) := by decide +kernel
theorem dX5_clock_72 : decode cX5_clock 72 = .ok (.iconst 5, 1) := by decide +kernel
theorem dX5_clock_73 : decode cX5_clock 73 = .ok (.iload_n 1, 1) := by decide +kernel
theorem dX5_clock_74 : decode cX5_clock 74 = .ok (.imul, 1) := by decide +kernel
theorem dX5_clock_75 : decode cX5_clock 75 = .ok (.iadd, 1) := by decide +kernel
theorem dX5_clock_76 : decode cX5_clock 76 = .ok (.iload 4, 2) := by decide +kernel
theorem dX5_clock_78 : decode cX5_clock 78 = .ok (.iadd, 1) := by decide +kernel
theorem dX5_clock_79 : decode cX5_clock 79 = .ok (.iconst 0, 1) := by decide +kernel
theorem dX5_clock_80 : decode cX5_clock 80 = .ok (.iastore, 1) := by decide +kernel
theorem dX5_clock_81 : decode cX5_clock 81 = .ok (.aload_n 0, 1) := by decide +kernel
theorem dX5_clock_82 : decode cX5_clock 82 = .ok (.getfield 7, 3) := by decide +kernel
theorem dX5_clock_85 : decode cX5_clock 85 = .ok (.bipush 83, 2) := by decide +kernel
theorem dX5_clock_87 : decode cX5_clock 87 = .ok (.iconst 5, 1) := by decide +kernel
theorem dX5_clock_88 : decode cX5_clock 88 = .ok (.iload 4, 2) := by decide +kernel
theorem dX5_clock_90 : decode cX5_clock 90 = .ok (.imul, 1) := by decide +kernel
theorem dX5_clock_91 : decode cX5_clock 91 = .ok (.iadd, 1) := by decide +kernel
theorem dX5_clock_92 : decode cX5_clock 92 = .ok (.iload_n 1, 1) := by decide +kernel
theorem dX5_clock_93 : decode cX5_clock 93 = .ok (.iadd, 1) := by decide +kernel
theorem dX5_clock_94 : decode cX5_clock 94 = .ok (.iconst 0, 1) := by decide +kernel
theorem dX5_clock_95 : decode cX5_clock 95 = .ok (.iastore, 1) := by decide +kernel
theorem dX5_clock_96 : decode cX5_clock 96 = .ok (.iinc 4 1, 3) := by decide +kernel
theorem dX5_clock_99 : decode cX5_clock 99 = .ok (.goto (-39), 3) := by decide +kernel
theorem dX5_clock_102 : decode cX5_clock 102 = .ok (.iload_n 3, 1) := by decide +kernel
theorem dX5_clock_103 : decode cX5_clock 103 = .ok (.ireturn, 1) := by decide +kernel
set_option maxRecDepth 20000 in
theorem ggX5_block_X5_in : GoodIn wsX5_block wsX5_in := goodIn_r _ [5] (by decide +kernel) (by decide +kernel)
set_option maxRecDepth 20000 in
theorem gX5_block_X5_in : GoodIn wsX5_block (va_wsS RX5 27 yX5_in wsX5_in) := goodIn_app (goodIn_of _ (by decide +kernel)) ggX5_block_X5_in
theorem dX5_block_0 : decode cX5_block 0 = .ok (.iload_n 1, 1) := by decide +kernel
theorem dX5_block_1 : decode cX5_block 1 = .ok (.iconst 1, 1) := by decide +kernel
theorem dX5_block_2 : decode cX5_block 2 = .ok (.bipush 20, 2) := by decide +kernel
theorem dX5_block_4 : decode cX5_block 4 = .ok (.invokestatic 27, 3) := by decide +kernel
theorem dX5_block_7 : decode cX5_block 7 = .ok (.ifCond .ne 6, 3) := by decide +kernel
theorem dX5_block_10 : decode cX5_block 10 = .ok (.bipush (-2), 2) := by decide +kernel
theorem dX5_block_12 : decode cX5_block 12 = .ok (.ireturn, 1) := by decide +kernel
theorem dX5_block_13 : decode cX5_block 13 = .ok (.aload_n 0, 1) := by decide +kernel
theorem dX5_block_14 : decode cX5_block 14 = .ok (.getfield 7, 3) := by decide +kernel
theorem dX5_block_17 : decode cX5_block 17 = .ok (.iconst 2, 1) := by decide +kernel
theorem dX5_block_18 : decode cX5_block 18 = .ok (.iaload, 1) := by decide +kernel
theorem dX5_block_19 : decode cX5_block 19 = .ok (.ifCond .le 6, 3) := by decide +kernel
theorem dX5_block_22 : decode cX5_block 22 = .ok (.bipush (-3), 2) := by decide +kernel
theorem dX5_block_24 : decode cX5_block 24 = .ok (.ireturn, 1) := by decide +kernel
theorem dX5_block_25 : decode cX5_block 25 = .ok (.aload_n 0, 1) := by decide +kernel
theorem dX5_block_26 : decode cX5_block 26 = .ok (.getfield 7, 3) := by decide +kernel
theorem dX5_block_29 : decode cX5_block 29 = .ok (.iconst 3, 1) := by decide +kernel
theorem dX5_block_30 : decode cX5_block 30 = .ok (.iaload, 1) := by decide +kernel
theorem dX5_block_31 : decode cX5_block 31 = .ok (.istore_n 2, 1) := by decide +kernel
theorem dX5_block_32 : decode cX5_block 32 = .ok (.aload_n 0, 1) := by decide +kernel
theorem dX5_block_33 : decode cX5_block 33 = .ok (.getfield 7, 3) := by decide +kernel
theorem dX5_block_36 : decode cX5_block 36 = .ok (.iconst 3, 1) := by decide +kernel
theorem dX5_block_37 : decode cX5_block 37 = .ok (.iload_n 1, 1) := by decide +kernel
theorem dX5_block_38 : decode cX5_block 38 = .ok (.iastore, 1) := by decide +kernel
theorem dX5_block_39 : decode cX5_block 39 = .ok (.iload_n 2, 1) := by decide +kernel
theorem dX5_block_40 : decode cX5_block 40 = .ok (.ireturn, 1) := by decide +kernel
set_option maxRecDepth 20000 in
theorem ggX5_pause_X5_in : GoodIn wsX5_pause wsX5_in := goodIn_r _ [5] (by decide +kernel) (by decide +kernel)
set_option maxRecDepth 20000 in
theorem gX5_pause_X5_in : GoodIn wsX5_pause (va_wsS RX5 27 yX5_in wsX5_in) := goodIn_app (goodIn_of _ (by decide +kernel)) ggX5_pause_X5_in
theorem dX5_pause_0 : decode cX5_pause 0 = .ok (.iload_n 1, 1) := by decide +kernel
theorem dX5_pause_1 : decode cX5_pause 1 = .ok (.iconst 1, 1) := by decide +kernel
theorem dX5_pause_2 : decode cX5_pause 2 = .ok (.sipush 999, 3) := by decide +kernel
theorem dX5_pause_5 : decode cX5_pause 5 = .ok (.invokestatic 27, 3) := by decide +kernel
theorem dX5_pause_8 : decode cX5_pause 8 = .ok (.ifCond .ne 6, 3) := by decide +kernel
theorem dX5_pause_11 : decode cX5_pause 11 = .ok (.bipush (-2), 2) := by decide +kernel
theorem dX5_pause_13 : decode cX5_pause 13 = .ok (.ireturn, 1) := by decide +kernel
theorem dX5_pause_14 : decode cX5_pause 14 = .ok (.aload_n 0, 1) := by decide +kernel
theorem dX5_pause_15 : decode cX5_pause 15 = .ok (.getfield 7, 3) := by decide +kernel
theorem dX5_pause_18 : decode cX5_pause 18 = .ok (.iconst 1, 1) := by decide +kernel
theorem dX5_pause_19 : decode cX5_pause 19 = .ok (.iaload, 1) := by decide +kernel
theorem dX5_pause_20 : decode cX5_pause 20 = .ok (.iload_n 1, 1) := by decide +kernel
theorem dX5_pause_21 : decode cX5_pause 21 = .ok (.iadd, 1) := by decide +kernel
theorem dX5_pause_22 : decode cX5_pause 22 = .ok (.sipush 9999, 3) := by decide +kernel
theorem dX5_pause_25 : decode cX5_pause 25 = .ok (.if_icmp .le 6, 3) := by decide +kernel
theorem dX5_pause_28 : decode cX5_pause 28 = .ok (.bipush (-4), 2) := by decide +kernel
theorem dX5_pause_30 : decode cX5_pause 30 = .ok (.ireturn, 1) := by decide +kernel
theorem dX5_pause_31 : decode cX5_pause 31 = .ok (.aload_n 0, 1) := by decide +kernel
theorem dX5_pause_32 : decode cX5_pause 32 = .ok (.getfield 7, 3) := by decide +kernel
theorem dX5_pause_35 : decode cX5_pause 35 = .ok (.iconst 1, 1) := by decide +kernel
theorem dX5_pause_36 : decode cX5_pause 36 = .ok (.dup2, 1) := by decide +kernel
theorem dX5_pause_37 : decode cX5_pause 37 = .ok (.iaload, 1) := by decide +kernel
theorem dX5_pause_38 : decode cX5_pause 38 = .ok (.iload_n 1, 1) := by decide +kernel
theorem dX5_pause_39 : decode cX5_pause 39 = .ok (.iadd, 1) := by decide +kernel
theorem dX5_pause_40 : decode cX5_pause 40 = .ok (.iastore, 1) := by decide +kernel
theorem dX5_pause_41 : decode cX5_pause 41 = .ok (.aload_n 0, 1) := by decide +kernel
theorem dX5_pause_42 : decode cX5_pause 42 = .ok (.getfield 7, 3) := by decide +kernel
theorem dX5_pause_45 : decode cX5_pause 45 = .ok (.iconst 1, 1) := by decide +kernel
theorem dX5_pause_46 : decode cX5_pause 46 = .ok (.iaload, 1) := by decide +kernel
theorem dX5_pause_47 : decode cX5_pause 47 = .ok (.ireturn, 1) := by decide +kernel
set_option maxRecDepth 20000 in
theorem ggX5_over_X5_linkOf : GoodIn wsX5_over wsX5_linkOf := goodIn_r _ [5, 6, 7, 8, 9, 10] (by decide +kernel) (by decide +kernel)
set_option maxRecDepth 20000 in
theorem gX5_over_X5_linkOf : GoodIn wsX5_over (wsV RX5 39 RX5 yX5_linkOf wsX5_linkOf) := goodIn_app (goodIn_of _ (by decide +kernel)) ggX5_over_X5_linkOf
theorem dX5_over_0 : decode cX5_over 0 = .ok (.iload_n 3, 1) := by decide +kernel
theorem dX5_over_1 : decode cX5_over 1 = .ok (.aload_n 0, 1) := by decide +kernel
theorem dX5_over_2 : decode cX5_over 2 = .ok (.iload_n 1, 1) := by decide +kernel
theorem dX5_over_3 : decode cX5_over 3 = .ok (.iconst 2, 1) := by decide +kernel
theorem dX5_over_4 : decode cX5_over 4 = .ok (.iload_n 2, 1) := by decide +kernel
theorem dX5_over_5 : decode cX5_over 5 = .ok (.imul, 1) := by decide +kernel
theorem dX5_over_6 : decode cX5_over 6 = .ok (.invokevirtual 39, 3) := by decide +kernel
theorem dX5_over_9 : decode cX5_over 9 = .ok (.iadd, 1) := by decide +kernel
theorem dX5_over_10 : decode cX5_over 10 = .ok (.iload_n 3, 1) := by decide +kernel
theorem dX5_over_11 : decode cX5_over 11 = .ok (.aload_n 0, 1) := by decide +kernel
theorem dX5_over_12 : decode cX5_over 12 = .ok (.iload_n 1, 1) := by decide +kernel
theorem dX5_over_13 : decode cX5_over 13 = .ok (.iconst 2, 1) := by decide +kernel
theorem dX5_over_14 : decode cX5_over 14 = .ok (.iload_n 2, 1) := by decide +kernel
theorem dX5_over_15 : decode cX5_over 15 = .ok (.imul, 1) := by decide +kernel
theorem dX5_over_16 : decode cX5_over 16 = .ok (.iconst 1, 1) := by decide +kernel
theorem dX5_over_17 : decode cX5_over 17 = .ok (.iadd, 1) := by decide +kernel
theorem dX5_over_18 : decode cX5_over 18 = .ok (.invokevirtual 39, 3) := by decide +kernel
theorem dX5_over_21 : decode cX5_over 21 = .ok (.iconst 1, 1) := by decide +kernel
theorem dX5_over_22 : decode cX5_over 22 = .ok (.iadd, 1) := by decide +kernel
theorem dX5_over_23 : decode cX5_over 23 = .ok (.irem, 1) := by decide +kernel
theorem dX5_over_24 : decode cX5_over 24 = .ok (.iadd, 1) := by decide +kernel
theorem dX5_over_25 : decode cX5_over 25 = .ok (.ireturn, 1) := by decide +kernel
set_option maxRecDepth 20000 in
theorem ggX5_isDropped_X5_linkOf : GoodIn wsX5_isDropped wsX5_linkOf := goodIn_r _ [5, 6, 7, 8, 9, 10] (by decide +kernel) (by decide +kernel)
set_option maxRecDepth 20000 in
theorem gX5_isDropped_X5_linkOf : GoodIn wsX5_isDropped (wsV RX5 39 RX5 yX5_linkOf wsX5_linkOf) := goodIn_app (goodIn_of _ (by decide +kernel)) ggX5_isDropped_X5_linkOf
theorem dX5_isDropped_0 : decode cX5_isDropped 0 = .ok (.aload_n 0, 1) := by decide +kernel
theorem dX5_isDropped_1 : decode cX5_isDropped 1 = .ok (.iload_n 1, 1) := by decide +kernel
theorem dX5_isDropped_2 : decode cX5_isDropped 2 = .ok (.iconst 4, 1) := by decide +kernel
theorem dX5_isDropped_3 : decode cX5_isDropped 3 = .ok (.invokevirtual 39, 3) := by decide +kernel
theorem dX5_isDropped_6 : decode cX5_isDropped 6 = .ok (.ifCond .le 24, 3) := by decide +kernel
theorem dX5_isDropped_9 : decode cX5_isDropped 9 = .ok (.iload_n 2, 1) := by decide +kernel
theorem dX5_isDropped_10 : decode cX5_isDropped 10 = .ok (.aload_n 0, 1) := by decide +kernel
theorem dX5_isDropped_11 : decode cX5_isDropped 11 = .ok (.iload_n 1, 1) := by decide +kernel
theorem dX5_isDropped_12 : decode cX5_isDropped 12 = .ok (.iconst 4, 1) := by decide +kernel
theorem dX5_isDropped_13 : decode cX5_isDropped 13 = .ok (.invokevirtual 39, 3) := by decide +kernel
theorem dX5_isDropped_16 : decode cX5_isDropped 16 = .ok (.irem, 1) := by decide +kernel
theorem dX5_isDropped_17 : decode cX5_isDropped 17 = .ok (.aload_n 0, 1) := by decide +kernel
theorem dX5_isDropped_18 : decode cX5_isDropped 18 = .ok (.iload_n 1, 1) := by decide +kernel
theorem dX5_isDropped_19 : decode cX5_isDropped 19 = .ok (.iconst 5, 1) := by decide +kernel
theorem dX5_isDropped_20 : decode cX5_isDropped 20 = .ok (.invokevirtual 39, 3) := by decide +kernel
theorem dX5_isDropped_23 : decode cX5_isDropped 23 = .ok (.if_icmp .ne 7, 3) := by decide +kernel
theorem dX5_isDropped_26 : decode cX5_isDropped 26 = .ok (.iconst 1, 1) := by decide +kernel
theorem dX5_isDropped_27 : decode cX5_isDropped 27 = .ok (.goto 4, 3) := by decide +kernel
theorem dX5_isDropped_30 : decode cX5_isDropped 30 = .ok (.iconst 0, 1) := by decide +kernel
theorem dX5_isDropped_31 : decode cX5_isDropped 31 = .ok (.ireturn, 1) := by decide +kernel
theorem dX5_note_0 : decode cX5_note 0 = .ok (.aload_n 0, 1) := by decide +kernel
theorem dX5_note_1 : decode cX5_note 1 = .ok (.getfield 7, 3) := by decide +kernel
theorem dX5_note_4 : decode cX5_note 4 = .ok (.bipush 108, 2) := by decide +kernel
theorem dX5_note_6 : decode cX5_note 6 = .ok (.sipush 200, 3) := by decide +kernel
theorem dX5_note_9 : decode cX5_note 9 = .ok (.iload_n 1, 1) := by decide +kernel
theorem dX5_note_10 : decode cX5_note 10 = .ok (.imul, 1) := by decide +kernel
theorem dX5_note_11 : decode cX5_note 11 = .ok (.iadd, 1) := by decide +kernel
theorem dX5_note_12 : decode cX5_note 12 = .ok (.iload_n 2, 1) := by decide +kernel
theorem dX5_note_13 : decode cX5_note 13 = .ok (.iadd, 1) := by decide +kernel
theorem dX5_note_14 : decode cX5_note 14 = .ok (.dup2, 1) := by decide +kernel
theorem dX5_note_15 : decode cX5_note 15 = .ok (.iaload, 1) := by decide +kernel
theorem dX5_note_16 : decode cX5_note 16 = .ok (.iconst 1, 1) := by decide +kernel
theorem dX5_note_17 : decode cX5_note 17 = .ok (.iadd, 1) := by decide +kernel
theorem dX5_note_18 : decode cX5_note 18 = .ok (.iastore, 1) := by decide +kernel
theorem dX5_note_19 : decode cX5_note 19 = .ok (.aload_n 0, 1) := by decide +kernel
theorem dX5_note_20 : decode cX5_note 20 = .ok (.getfield 7, 3) := by decide +kernel
theorem dX5_note_23 : decode cX5_note 23 = .ok (.sipush 1108, 3) := by decide +kernel
theorem dX5_note_26 : decode cX5_note 26 = .ok (.sipush 200, 3) := by decide +kernel
theorem dX5_note_29 : decode cX5_note 29 = .ok (.iload_n 1, 1) := by decide +kernel
theorem dX5_note_30 : decode cX5_note 30 = .ok (.imul, 1) := by decide +kernel
theorem dX5_note_31 : decode cX5_note 31 = .ok (.iadd, 1) := by decide +kernel
theorem dX5_note_32 : decode cX5_note 32 = .ok (.iload_n 2, 1) := by decide +kernel
theorem dX5_note_33 : decode cX5_note 33 = .ok (.iadd, 1) := by decide +kernel
theorem dX5_note_34 : decode cX5_note 34 = .ok (.dup2, 1) := by decide +kernel
theorem dX5_note_35 : decode cX5_note 35 = .ok (.iaload, 1) := by decide +kernel
theorem dX5_note_36 : decode cX5_note 36 = .ok (.iload_n 3, 1) := by decide +kernel
theorem dX5_note_37 : decode cX5_note 37 = .ok (.aload_n 0, 1) := by decide +kernel
theorem dX5_note_38 : decode cX5_note 38 = .ok (.getfield 7, 3) := by decide +kernel
theorem dX5_note_41 : decode cX5_note 41 = .ok (.bipush 28, 2) := by decide +kernel
theorem dX5_note_43 : decode cX5_note 43 = .ok (.iload_n 1, 1) := by decide +kernel
theorem dX5_note_44 : decode cX5_note 44 = .ok (.iadd, 1) := by decide +kernel
theorem dX5_note_45 : decode cX5_note 45 = .ok (.iaload, 1) := by decide +kernel
theorem dX5_note_46 : decode cX5_note 46 = .ok (.iadd, 1) := by decide +kernel
theorem dX5_note_47 : decode cX5_note 47 = .ok (.iadd, 1) := by decide +kernel
theorem dX5_note_48 : decode cX5_note 48 = .ok (.iastore, 1) := by decide +kernel
theorem dX5_note_49 : decode cX5_note 49 = .ok (.return_, 1) := by decide +kernel
set_option maxRecDepth 20000 in
theorem ggX5_sendOne_X5_note : GoodIn wsX5_sendOne wsX5_note := goodIn_r _ [6, 1, 19, 20, 21, 22] (by decide +kernel) (by decide +kernel)
set_option maxRecDepth 20000 in
theorem gX5_sendOne_X5_note : GoodIn wsX5_sendOne (wsV RX5 49 RX5 yX5_note wsX5_note) := goodIn_app (goodIn_of _ (by decide +kernel)) ggX5_sendOne_X5_note
set_option maxRecDepth 20000 in
theorem ggX5_sendOne_X5_isDropped : GoodIn wsX5_sendOne wsX5_isDropped := goodIn_r _ [10, 11, 12, 13, 5, 14, 1, 19, 20, 21, 22] (by decide +kernel) (by decide +kernel)
set_option maxRecDepth 20000 in
theorem gX5_sendOne_X5_isDropped : GoodIn wsX5_sendOne (wsV RX5 53 RX5 yX5_isDropped wsX5_isDropped) := goodIn_app (goodIn_of _ (by decide +kernel)) ggX5_sendOne_X5_isDropped
set_option maxRecDepth 20000 in
theorem ggX5_sendOne_X5_over : GoodIn wsX5_sendOne wsX5_over := goodIn_r _ [18, 11, 12, 13, 5, 14, 1, 19, 20, 21, 22] (by decide +kernel) (by decide +kernel)
set_option maxRecDepth 20000 in
theorem gX5_sendOne_X5_over : GoodIn wsX5_sendOne (wsV RX5 56 RX5 yX5_over wsX5_over) := goodIn_app (goodIn_of _ (by decide +kernel)) ggX5_sendOne_X5_over
theorem dX5_sendOne_0 : decode cX5_sendOne 0 = .ok (.aload_n 0, 1) := by decide +kernel
theorem dX5_sendOne_1 : decode cX5_sendOne 1 = .ok (.getfield 7, 3) := by decide +kernel
theorem dX5_sendOne_4 : decode cX5_sendOne 4 = .ok (.iconst 2, 1) := by decide +kernel
theorem dX5_sendOne_5 : decode cX5_sendOne 5 = .ok (.iaload, 1) := by decide +kernel
theorem dX5_sendOne_6 : decode cX5_sendOne 6 = .ok (.istore_n 1, 1) := by decide +kernel
theorem dX5_sendOne_7 : decode cX5_sendOne 7 = .ok (.iload_n 1, 1) := by decide +kernel
theorem dX5_sendOne_8 : decode cX5_sendOne 8 = .ok (.aload_n 0, 1) := by decide +kernel
theorem dX5_sendOne_9 : decode cX5_sendOne 9 = .ok (.getfield 7, 3) := by decide +kernel
theorem dX5_sendOne_12 : decode cX5_sendOne 12 = .ok (.iconst 3, 1) := by decide +kernel
theorem dX5_sendOne_13 : decode cX5_sendOne 13 = .ok (.iaload, 1) := by decide +kernel
theorem dX5_sendOne_14 : decode cX5_sendOne 14 = .ok (.idiv, 1) := by decide +kernel
theorem dX5_sendOne_15 : decode cX5_sendOne 15 = .ok (.istore_n 2, 1) := by decide +kernel
theorem dX5_sendOne_16 : decode cX5_sendOne 16 = .ok (.aload_n 0, 1) := by decide +kernel
theorem dX5_sendOne_17 : decode cX5_sendOne 17 = .ok (.getfield 7, 3) := by decide +kernel
theorem dX5_sendOne_20 : decode cX5_sendOne 20 = .ok (.iconst 1, 1) := by decide +kernel
theorem dX5_sendOne_21 : decode cX5_sendOne 21 = .ok (.iaload, 1) := by decide +kernel
theorem dX5_sendOne_22 : decode cX5_sendOne 22 = .ok (.istore_n 3, 1) := by decide +kernel
theorem dX5_sendOne_23 : decode cX5_sendOne 23 = .ok (.iconst 0, 1) := by decide +kernel
theorem dX5_sendOne_24 : decode cX5_sendOne 24 = .ok (.istore 4, 2) := by decide +kernel
theorem dX5_sendOne_26 : decode cX5_sendOne 26 = .ok (.aload_n 0, 1) := by decide +kernel
theorem dX5_sendOne_27 : decode cX5_sendOne 27 = .ok (.iconst 0, 1) := by decide +kernel
theorem dX5_sendOne_28 : decode cX5_sendOne 28 = .ok (.iload_n 2, 1) := by decide +kernel
theorem dX5_sendOne_29 : decode cX5_sendOne 29 = .ok (.iload_n 3, 1) := by decide +kernel
theorem dX5_sendOne_30 : decode cX5_sendOne 30 = .ok (.invokevirtual 49, 3) := by decide +kernel
theorem dX5_sendOne_33 : decode cX5_sendOne 33 = .ok (.iload 4, 2) := by decide +kernel
theorem dX5_sendOne_35 : decode cX5_sendOne 35 = .ok (.iconst 1, 1) := by decide +kernel
theorem dX5_sendOne_36 : decode cX5_sendOne 36 = .ok (.iadd, 1) := by decide +kernel
theorem dX5_sendOne_37 : decode cX5_sendOne 37 = .ok (.aload_n 0, 1) := by decide +kernel
theorem dX5_sendOne_38 : decode cX5_sendOne 38 = .ok (.getfield 7, 3) := by decide +kernel
theorem dX5_sendOne_41 : decode cX5_sendOne 41 = .ok (.iconst 0, 1) := by decide +kernel
theorem dX5_sendOne_42 : decode cX5_sendOne 42 = .ok (.iaload, 1) := by decide +kernel
theorem dX5_sendOne_43 : decode cX5_sendOne 43 = .ok (.if_icmp .ge 36, 3) := by decide +kernel
theorem dX5_sendOne_46 : decode cX5_sendOne 46 = .ok (.aload_n 0, 1) := by decide +kernel
theorem dX5_sendOne_47 : decode cX5_sendOne 47 = .ok (.iload 4, 2) := by decide +kernel
theorem dX5_sendOne_49 : decode cX5_sendOne 49 = .ok (.iload_n 1, 1) := by decide +kernel
theorem dX5_sendOne_50 : decode cX5_sendOne 50 = .ok (.invokevirtual 53, 3) := by decide +kernel
theorem dX5_sendOne_53 : decode cX5_sendOne 53 = .ok (.ifCond .ne 26, 3) := by decide +kernel
theorem dX5_sendOne_56 : decode cX5_sendOne 56 = .ok (.aload_n 0, 1) := by decide +kernel
theorem dX5_sendOne_57 : decode cX5_sendOne 57 = .ok (.iload 4, 2) := by decide +kernel
theorem dX5_sendOne_59 : decode cX5_sendOne 59 = .ok (.iconst 0, 1) := by decide +kernel
theorem dX5_sendOne_60 : decode cX5_sendOne 60 = .ok (.iload_n 3, 1) := by decide +kernel
theorem dX5_sendOne_61 : decode cX5_sendOne 61 = .ok (.invokevirtual 56, 3) := by decide +kernel
theorem dX5_sendOne_64 : decode cX5_sendOne 64 = .ok (.istore_n 3, 1) := by decide +kernel
theorem dX5_sendOne_65 : decode cX5_sendOne 65 = .ok (.iinc 4 1, 3) := by decide +kernel
theorem dX5_sendOne_68 : decode cX5_sendOne 68 = .ok (.aload_n 0, 1) := by decide +kernel
theorem dX5_sendOne_69 : decode cX5_sendOne 69 = .ok (.iload 4, 2) := by decide +kernel
theorem dX5_sendOne_71 : decode cX5_sendOne 71 = .ok (.iload_n 2, 1) := by decide +kernel
theorem dX5_sendOne_72 : decode cX5_sendOne 72 = .ok (.iload_n 3, 1) := by decide +kernel
theorem dX5_sendOne_73 : decode cX5_sendOne 73 = .ok (.invokevirtual 49, 3) := by decide +kernel
theorem dX5_sendOne_76 : decode cX5_sendOne 76 = .ok (.goto (-43), 3) := by decide +kernel
theorem dX5_sendOne_79 : decode cX5_sendOne 79 = .ok (.aload_n 0, 1) := by decide +kernel
theorem dX5_sendOne_80 : decode cX5_sendOne 80 = .ok (.getfield 7, 3) := by decide +kernel
theorem dX5_sendOne_83 : decode cX5_sendOne 83 = .ok (.iconst 2, 1) := by decide +kernel
theorem dX5_sendOne_84 : decode cX5_sendOne 84 = .ok (.dup2, 1) := by decide +kernel
theorem dX5_sendOne_85 : decode cX5_sendOne 85 = .ok (.iaload, 1) := by decide +kernel
theorem dX5_sendOne_86 : decode cX5_sendOne 86 = .ok (.iconst 1, 1) := by decide +kernel
theorem dX5_sendOne_87 : decode cX5_sendOne 87 = .ok (.iadd, 1) := by decide +kernel
theorem dX5_sendOne_88 : decode cX5_sendOne 88 = .ok (.iastore, 1) := by decide +kernel
theorem dX5_sendOne_89 : decode cX5_sendOne 89 = .ok (.aload_n 0, 1) := by decide +kernel
theorem dX5_sendOne_90 : decode cX5_sendOne 90 = .ok (.getfield 7, 3) := by decide +kernel
theorem dX5_sendOne_93 : decode cX5_sendOne 93 = .ok (.iconst 1, 1) := by decide +kernel
theorem dX5_sendOne_94 : decode cX5_sendOne 94 = .ok (.dup2, 1) := by decide +kernel
theorem dX5_sendOne_95 : decode cX5_sendOne 95 = .ok (.iaload, 1) := by decide +kernel
theorem dX5_sendOne_96 : decode cX5_sendOne 96 = .ok (.iconst 1, 1) := by decide +kernel
theorem dX5_sendOne_97 : decode cX5_sendOne 97 = .ok (.iadd, 1) := by decide +kernel
theorem dX5_sendOne_98 : decode cX5_sendOne 98 = .ok (.iastore, 1) := by decide +kernel
theorem dX5_sendOne_99 : decode cX5_sendOne 99 = .ok (.iload 4, 2) := by decide +kernel
theorem dX5_sendOne_101 : decode cX5_sendOne 101 = .ok (.iconst 1, 1) := by decide +kernel
theorem dX5_sendOne_102 : decode cX5_sendOne 102 = .ok (.iadd, 1) := by decide +kernel
theorem dX5_sendOne_103 : decode cX5_sendOne 103 = .ok (.aload_n 0, 1) := by decide +kernel
theorem dX5_sendOne_104 : decode cX5_sendOne 104 = .ok (.getfield 7, 3) := by decide +kernel
theorem dX5_sendOne_107 : decode cX5_sendOne 107 = .ok (.iconst 0, 1) := by decide +kernel
theorem dX5_sendOne_108 : decode cX5_sendOne 108 = .ok (.iaload, 1) := by decide +kernel
theorem dX5_sendOne_109 : decode cX5_sendOne 109 = .ok (.if_icmp .ne 7, 3) := by decide +kernel
theorem dX5_sendOne_112 : decode cX5_sendOne 112 = .ok (.iconst 1, 1) := by decide +kernel
theorem dX5_sendOne_113 : decode cX5_sendOne 113 = .ok (.goto 4, 3) := by decide +kernel
theorem dX5_sendOne_116 : decode cX5_sendOne 116 = .ok (.iconst 0, 1) := by decide +kernel
theorem dX5_sendOne_117 : decode cX5_sendOne 117 = .ok (.ireturn, 1) := by decide +kernel
set_option maxRecDepth 20000 in
theorem ggX5_send_X5_in : GoodIn wsX5_send wsX5_in := goodIn_r _ [5] (by decide +kernel) (by decide +kernel)
set_option maxRecDepth 20000 in
theorem gX5_send_X5_in : GoodIn wsX5_send (va_wsS RX5 27 yX5_in wsX5_in) := goodIn_app (goodIn_of _ (by decide +kernel)) ggX5_send_X5_in
set_option maxRecDepth 20000 in
theorem ggX5_send_X5_sendOne : GoodIn wsX5_send wsX5_sendOne := goodIn_r _ [9, 1, 10, 11, 12, 4, 13, 14, 15, 16, 17, 18, 19, 20, 21, 22, 23, 24, 25, 26, 27, 28, 29] (by decide +kernel) (by decide +kernel)
set_option maxRecDepth 20000 in
theorem gX5_send_X5_sendOne : GoodIn wsX5_send (wsV RX5 60 RX5 yX5_sendOne wsX5_sendOne) := goodIn_app (goodIn_of _ (by decide +kernel)) ggX5_send_X5_sendOne
theorem dX5_send_0 : decode cX5_send 0 = .ok (.iload_n 1, 1) := by decide +kernel
theorem dX5_send_1 : decode cX5_send 1 = .ok (.iconst 1, 1) := by decide +kernel
theorem dX5_send_2 : decode cX5_send 2 = .ok (.bipush 60, 2) := by decide +kernel
theorem dX5_send_4 : decode cX5_send 4 = .ok (.invokestatic 27, 3) := by decide +kernel
theorem dX5_send_7 : decode cX5_send 7 = .ok (.ifCond .ne 6, 3) := by decide +kernel
theorem dX5_send_10 : decode cX5_send 10 = .ok (.bipush (-2), 2) := by decide +kernel
theorem dX5_send_12 : decode cX5_send 12 = .ok (.ireturn, 1) := by decide +kernel
theorem dX5_send_13 : decode cX5_send 13 = .ok (.aload_n 0, 1) := by decide +kernel
theorem dX5_send_14 : decode cX5_send 14 = .ok (.getfield 7, 3) := by decide +kernel
theorem dX5_send_17 : decode cX5_send 17 = .ok (.iconst 2, 1) := by decide +kernel
theorem dX5_send_18 : decode cX5_send 18 = .ok (.iaload, 1) := by decide +kernel
theorem dX5_send_19 : decode cX5_send 19 = .ok (.iload_n 1, 1) := by decide +kernel
theorem dX5_send_20 : decode cX5_send 20 = .ok (.iadd, 1) := by decide +kernel
theorem dX5_send_21 : decode cX5_send 21 = .ok (.sipush 200, 3) := by decide +kernel
theorem dX5_send_24 : decode cX5_send 24 = .ok (.if_icmp .gt 17, 3) := by decide +kernel
theorem dX5_send_27 : decode cX5_send 27 = .ok (.aload_n 0, 1) := by decide +kernel
theorem dX5_send_28 : decode cX5_send 28 = .ok (.getfield 7, 3) := by decide +kernel
theorem dX5_send_31 : decode cX5_send 31 = .ok (.iconst 1, 1) := by decide +kernel
theorem dX5_send_32 : decode cX5_send 32 = .ok (.iaload, 1) := by decide +kernel
theorem dX5_send_33 : decode cX5_send 33 = .ok (.iload_n 1, 1) := by decide +kernel
theorem dX5_send_34 : decode cX5_send 34 = .ok (.iadd, 1) := by decide +kernel
theorem dX5_send_35 : decode cX5_send 35 = .ok (.sipush 9999, 3) := by decide +kernel
theorem dX5_send_38 : decode cX5_send 38 = .ok (.if_icmp .le 6, 3) := by decide +kernel
theorem dX5_send_41 : decode cX5_send 41 = .ok (.bipush (-4), 2) := by decide +kernel
theorem dX5_send_43 : decode cX5_send 43 = .ok (.ireturn, 1) := by decide +kernel
theorem dX5_send_44 : decode cX5_send 44 = .ok (.iconst 0, 1) := by decide +kernel
theorem dX5_send_45 : decode cX5_send 45 = .ok (.istore_n 2, 1) := by decide +kernel
theorem dX5_send_46 : decode cX5_send 46 = .ok (.iconst 0, 1) := by decide +kernel
theorem dX5_send_47 : decode cX5_send 47 = .ok (.istore_n 3, 1) := by decide +kernel
theorem dX5_send_48 : decode cX5_send 48 = .ok (.iload_n 3, 1) := by decide +kernel
theorem dX5_send_49 : decode cX5_send 49 = .ok (.iload_n 1, 1) := by decide +kernel
theorem dX5_send_50 : decode cX5_send 50 = .ok (.if_icmp .ge 24, 3) := by decide +kernel
theorem dX5_send_53 : decode cX5_send 53 = .ok (.iload_n 2, 1) := by decide +kernel
theorem dX5_send_54 : decode cX5_send 54 = .ok (.aload_n 0, 1) := by decide +kernel
theorem dX5_send_55 : decode cX5_send 55 = .ok (.invokevirtual 60, 3) := by decide +kernel
theorem dX5_send_58 : decode cX5_send 58 = .ok (.ifCond .eq 7, 3) := by decide +kernel
theorem dX5_send_61 : decode cX5_send 61 = .ok (.iconst 1, 1) := by decide +kernel
theorem dX5_send_62 : decode cX5_send 62 = .ok (.goto 4, 3) := by decide +kernel
theorem dX5_send_65 : decode cX5_send 65 = .ok (.iconst 0, 1) := by decide +kernel
theorem dX5_send_66 : decode cX5_send 66 = .ok (.iadd, 1) := by decide +kernel
theorem dX5_send_67 : decode cX5_send 67 = .ok (.istore_n 2, 1) := by decide +kernel
theorem dX5_send_68 : decode cX5_send 68 = .ok (.iinc 3 1, 3) := by decide +kernel
theorem dX5_send_71 : decode cX5_send 71 = .ok (.goto (-23), 3) := by decide +kernel
theorem dX5_send_74 : decode cX5_send 74 = .ok (.iload_n 2, 1) := by decide +kernel
theorem dX5_send_75 : decode cX5_send 75 = .ok (.ireturn, 1) := by decide +kernel
theorem dX5_countOf_0 : decode cX5_countOf 0 = .ok (.aload_n 0, 1) := by decide +kernel
theorem dX5_countOf_1 : decode cX5_countOf 1 = .ok (.getfield 7, 3) := by decide +kernel
theorem dX5_countOf_4 : decode cX5_countOf 4 = .ok (.bipush 108, 2) := by decide +kernel
theorem dX5_countOf_6 : decode cX5_countOf 6 = .ok (.sipush 200, 3) := by decide +kernel
theorem dX5_countOf_9 : decode cX5_countOf 9 = .ok (.iload_n 1, 1) := by decide +kernel
theorem dX5_countOf_10 : decode cX5_countOf 10 = .ok (.imul, 1) := by decide +kernel
theorem dX5_countOf_11 : decode cX5_countOf 11 = .ok (.iadd, 1) := by decide +kernel
theorem dX5_countOf_12 : decode cX5_countOf 12 = .ok (.iload_n 2, 1) := by decide +kernel
theorem dX5_countOf_13 : decode cX5_countOf 13 = .ok (.iadd, 1) := by decide +kernel
theorem dX5_countOf_14 : decode cX5_countOf 14 = .ok (.iaload, 1) := by decide +kernel
theorem dX5_countOf_15 : decode cX5_countOf 15 = .ok (.ireturn, 1) := by decide +kernel
theorem dX5_sumOf_0 : decode cX5_sumOf 0 = .ok (.aload_n 0, 1) := by decide +kernel
theorem dX5_sumOf_1 : decode cX5_sumOf 1 = .ok (.getfield 7, 3) := by decide +kernel
theorem dX5_sumOf_4 : decode cX5_sumOf 4 = .ok (.sipush 1108, 3) := by decide +kernel
theorem dX5_sumOf_7 : decode cX5_sumOf 7 = .ok (.sipush 200, 3) := by decide +kernel
theorem dX5_sumOf_10 : decode cX5_sumOf 10 = .ok (.iload_n 1, 1) := by decide +kernel
theorem dX5_sumOf_11 : decode cX5_sumOf 11 = .ok (.imul, 1) := by decide +kernel
theorem dX5_sumOf_12 : decode cX5_sumOf 12 = .ok (.iadd, 1) := by decide +kernel
theorem dX5_sumOf_13 : decode cX5_sumOf 13 = .ok (.iload_n 2, 1) := by decide +kernel
theorem dX5_sumOf_14 : decode cX5_sumOf 14 = .ok (.iadd, 1) := by decide +kernel
theorem dX5_sumOf_15 : decode cX5_sumOf 15 = .ok (.iaload, 1) := by decide +kernel
theorem dX5_sumOf_16 : decode cX5_sumOf 16 = .ok (.ireturn, 1) := by decide +kernel
set_option maxRecDepth 20000 in
theorem ggX5_kept_X5_isNode : GoodIn wsX5_kept wsX5_isNode := goodIn_r _ [7, 8, 9, 10, 6, 11, 23, 24, 25, 26] (by decide +kernel) (by decide +kernel)
set_option maxRecDepth 20000 in
theorem gX5_kept_X5_isNode : GoodIn wsX5_kept (wsV RX5 43 RX5 yX5_isNode wsX5_isNode) := goodIn_app (goodIn_of _ (by decide +kernel)) ggX5_kept_X5_isNode
set_option maxRecDepth 20000 in
theorem ggX5_kept_X5_isBlock : GoodIn wsX5_kept wsX5_isBlock := goodIn_r _ [14, 9, 10, 6, 11] (by decide +kernel) (by decide +kernel)
set_option maxRecDepth 20000 in
theorem gX5_kept_X5_isBlock : GoodIn wsX5_kept (va_wsS RX5 64 yX5_isBlock wsX5_isBlock) := goodIn_app (goodIn_of _ (by decide +kernel)) ggX5_kept_X5_isBlock
set_option maxRecDepth 20000 in
theorem ggX5_kept_X5_in : GoodIn wsX5_kept wsX5_in := goodIn_r _ [11] (by decide +kernel) (by decide +kernel)
set_option maxRecDepth 20000 in
theorem gX5_kept_X5_in : GoodIn wsX5_kept (va_wsS RX5 27 yX5_in wsX5_in) := goodIn_app (goodIn_of _ (by decide +kernel)) ggX5_kept_X5_in
set_option maxRecDepth 20000 in
theorem ggX5_kept_X5_countOf : GoodIn wsX5_kept wsX5_countOf := goodIn_r _ [18, 8, 23, 24, 25, 26] (by decide +kernel) (by decide +kernel)
set_option maxRecDepth 20000 in
theorem gX5_kept_X5_countOf : GoodIn wsX5_kept (wsV RX5 67 RX5 yX5_countOf wsX5_countOf) := goodIn_app (goodIn_of _ (by decide +kernel)) ggX5_kept_X5_countOf
set_option maxRecDepth 20000 in
theorem ggX5_kept_X5_sumOf : GoodIn wsX5_kept wsX5_sumOf := goodIn_r _ [22, 8, 23, 24, 25, 26] (by decide +kernel) (by decide +kernel)
set_option maxRecDepth 20000 in
theorem gX5_kept_X5_sumOf : GoodIn wsX5_kept (wsV RX5 70 RX5 yX5_sumOf wsX5_sumOf) := goodIn_app (goodIn_of _ (by decide +kernel)) ggX5_kept_X5_sumOf
theorem dX5_kept_0 : decode cX5_kept 0 = .ok (.aload_n 0, 1) := by decide +kernel
theorem dX5_kept_1 : decode cX5_kept 1 = .ok (.iload_n 1, 1) := by decide +kernel
theorem dX5_kept_2 : decode cX5_kept 2 = .ok (.invokevirtual 43, 3) := by decide +kernel
theorem dX5_kept_5 : decode cX5_kept 5 = .ok (.ifCond .ne 6, 3) := by decide +kernel
theorem dX5_kept_8 : decode cX5_kept 8 = .ok (.ldc 46, 2) := by decide +kernel
theorem dX5_kept_10 : decode cX5_kept 10 = .ok (.ireturn, 1) := by decide +kernel
theorem dX5_kept_11 : decode cX5_kept 11 = .ok (.iload_n 2, 1) := by decide +kernel
theorem dX5_kept_12 : decode cX5_kept 12 = .ok (.invokestatic 64, 3) := by decide +kernel
theorem dX5_kept_15 : decode cX5_kept 15 = .ok (.ifCond .eq 12, 3) := by decide +kernel
theorem dX5_kept_18 : decode cX5_kept 18 = .ok (.iload_n 3, 1) := by decide +kernel
theorem dX5_kept_19 : decode cX5_kept 19 = .ok (.iconst 0, 1) := by decide +kernel
theorem dX5_kept_20 : decode cX5_kept 20 = .ok (.iconst 1, 1) := by decide +kernel
theorem dX5_kept_21 : decode cX5_kept 21 = .ok (.invokestatic 27, 3) := by decide +kernel
theorem dX5_kept_24 : decode cX5_kept 24 = .ok (.ifCond .ne 6, 3) := by decide +kernel
theorem dX5_kept_27 : decode cX5_kept 27 = .ok (.ldc 47, 2) := by decide +kernel
theorem dX5_kept_29 : decode cX5_kept 29 = .ok (.ireturn, 1) := by decide +kernel
theorem dX5_kept_30 : decode cX5_kept 30 = .ok (.iload_n 3, 1) := by decide +kernel
theorem dX5_kept_31 : decode cX5_kept 31 = .ok (.ifCond .ne 12, 3) := by decide +kernel
theorem dX5_kept_34 : decode cX5_kept 34 = .ok (.aload_n 0, 1) := by decide +kernel
theorem dX5_kept_35 : decode cX5_kept 35 = .ok (.iload_n 1, 1) := by decide +kernel
theorem dX5_kept_36 : decode cX5_kept 36 = .ok (.iload_n 2, 1) := by decide +kernel
theorem dX5_kept_37 : decode cX5_kept 37 = .ok (.invokevirtual 67, 3) := by decide +kernel
theorem dX5_kept_40 : decode cX5_kept 40 = .ok (.goto 9, 3) := by decide +kernel
theorem dX5_kept_43 : decode cX5_kept 43 = .ok (.aload_n 0, 1) := by decide +kernel
theorem dX5_kept_44 : decode cX5_kept 44 = .ok (.iload_n 1, 1) := by decide +kernel
theorem dX5_kept_45 : decode cX5_kept 45 = .ok (.iload_n 2, 1) := by decide +kernel
theorem dX5_kept_46 : decode cX5_kept 46 = .ok (.invokevirtual 70, 3) := by decide +kernel
theorem dX5_kept_49 : decode cX5_kept 49 = .ok (.ireturn, 1) := by decide +kernel
set_option maxRecDepth 20000 in
theorem ggX5_lostOf_X5_countOf : GoodIn wsX5_lostOf wsX5_countOf := goodIn_r _ [5, 6, 7, 8, 9, 10] (by decide +kernel) (by decide +kernel)
set_option maxRecDepth 20000 in
theorem gX5_lostOf_X5_countOf : GoodIn wsX5_lostOf (wsV RX5 67 RX5 yX5_countOf wsX5_countOf) := goodIn_app (goodIn_of _ (by decide +kernel)) ggX5_lostOf_X5_countOf
theorem dX5_lostOf_0 : decode cX5_lostOf 0 = .ok (.aload_n 0, 1) := by decide +kernel
theorem dX5_lostOf_1 : decode cX5_lostOf 1 = .ok (.iload_n 1, 1) := by decide +kernel
theorem dX5_lostOf_2 : decode cX5_lostOf 2 = .ok (.iload_n 2, 1) := by decide +kernel
theorem dX5_lostOf_3 : decode cX5_lostOf 3 = .ok (.invokevirtual 67, 3) := by decide +kernel
theorem dX5_lostOf_6 : decode cX5_lostOf 6 = .ok (.aload_n 0, 1) := by decide +kernel
theorem dX5_lostOf_7 : decode cX5_lostOf 7 = .ok (.iload_n 1, 1) := by decide +kernel
theorem dX5_lostOf_8 : decode cX5_lostOf 8 = .ok (.iconst 1, 1) := by decide +kernel
theorem dX5_lostOf_9 : decode cX5_lostOf 9 = .ok (.iadd, 1) := by decide +kernel
theorem dX5_lostOf_10 : decode cX5_lostOf 10 = .ok (.iload_n 2, 1) := by decide +kernel
theorem dX5_lostOf_11 : decode cX5_lostOf 11 = .ok (.invokevirtual 67, 3) := by decide +kernel
theorem dX5_lostOf_14 : decode cX5_lostOf 14 = .ok (.isub, 1) := by decide +kernel
theorem dX5_lostOf_15 : decode cX5_lostOf 15 = .ok (.ireturn, 1) := by decide +kernel
set_option maxRecDepth 20000 in
theorem ggX5_lost_X5_isLink : GoodIn wsX5_lost wsX5_isLink := goodIn_r _ [5, 6, 7, 8, 4, 9, 18, 19, 20, 21] (by decide +kernel) (by decide +kernel)
set_option maxRecDepth 20000 in
theorem gX5_lost_X5_isLink : GoodIn wsX5_lost (wsV RX5 31 RX5 yX5_isLink wsX5_isLink) := goodIn_app (goodIn_of _ (by decide +kernel)) ggX5_lost_X5_isLink
set_option maxRecDepth 20000 in
theorem ggX5_lost_X5_in : GoodIn wsX5_lost wsX5_in := goodIn_r _ [9] (by decide +kernel) (by decide +kernel)
set_option maxRecDepth 20000 in
theorem gX5_lost_X5_in : GoodIn wsX5_lost (va_wsS RX5 27 yX5_in wsX5_in) := goodIn_app (goodIn_of _ (by decide +kernel)) ggX5_lost_X5_in
set_option maxRecDepth 20000 in
theorem ggX5_lost_X5_lostOf : GoodIn wsX5_lost wsX5_lostOf := goodIn_r _ [13, 14, 15, 16, 4, 17, 6, 18, 19, 20, 21] (by decide +kernel) (by decide +kernel)
set_option maxRecDepth 20000 in
theorem gX5_lost_X5_lostOf : GoodIn wsX5_lost (wsV RX5 73 RX5 yX5_lostOf wsX5_lostOf) := goodIn_app (goodIn_of _ (by decide +kernel)) ggX5_lost_X5_lostOf
theorem dX5_lost_0 : decode cX5_lost 0 = .ok (.aload_n 0, 1) := by decide +kernel
theorem dX5_lost_1 : decode cX5_lost 1 = .ok (.iload_n 1, 1) := by decide +kernel
theorem dX5_lost_2 : decode cX5_lost 2 = .ok (.invokevirtual 31, 3) := by decide +kernel
theorem dX5_lost_5 : decode cX5_lost 5 = .ok (.ifCond .ne 5, 3) := by decide +kernel
theorem dX5_lost_8 : decode cX5_lost 8 = .ok (.iconst (-1), 1) := by decide +kernel
theorem dX5_lost_9 : decode cX5_lost 9 = .ok (.ireturn, 1) := by decide +kernel
theorem dX5_lost_10 : decode cX5_lost 10 = .ok (.iload_n 2, 1) := by decide +kernel
theorem dX5_lost_11 : decode cX5_lost 11 = .ok (.iconst (-1), 1) := by decide +kernel
theorem dX5_lost_12 : decode cX5_lost 12 = .ok (.sipush 199, 3) := by decide +kernel
theorem dX5_lost_15 : decode cX5_lost 15 = .ok (.invokestatic 27, 3) := by decide +kernel
theorem dX5_lost_18 : decode cX5_lost 18 = .ok (.ifCond .ne 6, 3) := by decide +kernel
theorem dX5_lost_21 : decode cX5_lost 21 = .ok (.bipush (-2), 2) := by decide +kernel
theorem dX5_lost_23 : decode cX5_lost 23 = .ok (.ireturn, 1) := by decide +kernel
theorem dX5_lost_24 : decode cX5_lost 24 = .ok (.iconst 0, 1) := by decide +kernel
theorem dX5_lost_25 : decode cX5_lost 25 = .ok (.istore_n 3, 1) := by decide +kernel
theorem dX5_lost_26 : decode cX5_lost 26 = .ok (.iload_n 2, 1) := by decide +kernel
theorem dX5_lost_27 : decode cX5_lost 27 = .ok (.ifCond .ge 7, 3) := by decide +kernel
theorem dX5_lost_30 : decode cX5_lost 30 = .ok (.iconst 0, 1) := by decide +kernel
theorem dX5_lost_31 : decode cX5_lost 31 = .ok (.goto 4, 3) := by decide +kernel
theorem dX5_lost_34 : decode cX5_lost 34 = .ok (.iload_n 2, 1) := by decide +kernel
theorem dX5_lost_35 : decode cX5_lost 35 = .ok (.istore 4, 2) := by decide +kernel
theorem dX5_lost_37 : decode cX5_lost 37 = .ok (.iload 4, 2) := by decide +kernel
theorem dX5_lost_39 : decode cX5_lost 39 = .ok (.iload_n 2, 1) := by decide +kernel
theorem dX5_lost_40 : decode cX5_lost 40 = .ok (.ifCond .ge 9, 3) := by decide +kernel
theorem dX5_lost_43 : decode cX5_lost 43 = .ok (.sipush 199, 3) := by decide +kernel
theorem dX5_lost_46 : decode cX5_lost 46 = .ok (.goto 4, 3) := by decide +kernel
theorem dX5_lost_49 : decode cX5_lost 49 = .ok (.iload_n 2, 1) := by decide +kernel
theorem dX5_lost_50 : decode cX5_lost 50 = .ok (.if_icmp .gt 19, 3) := by decide +kernel
theorem dX5_lost_53 : decode cX5_lost 53 = .ok (.iload_n 3, 1) := by decide +kernel
theorem dX5_lost_54 : decode cX5_lost 54 = .ok (.aload_n 0, 1) := by decide +kernel
theorem dX5_lost_55 : decode cX5_lost 55 = .ok (.iload_n 1, 1) := by decide +kernel
theorem dX5_lost_56 : decode cX5_lost 56 = .ok (.iload 4, 2) := by decide +kernel
theorem dX5_lost_58 : decode cX5_lost 58 = .ok (.invokevirtual 73, 3) := by decide +kernel
theorem dX5_lost_61 : decode cX5_lost 61 = .ok (.iadd, 1) := by decide +kernel
theorem dX5_lost_62 : decode cX5_lost 62 = .ok (.istore_n 3, 1) := by decide +kernel
theorem dX5_lost_63 : decode cX5_lost 63 = .ok (.iinc 4 1, 3) := by decide +kernel
theorem dX5_lost_66 : decode cX5_lost 66 = .ok (.goto (-29), 3) := by decide +kernel
theorem dX5_lost_69 : decode cX5_lost 69 = .ok (.iload_n 3, 1) := by decide +kernel
theorem dX5_lost_70 : decode cX5_lost 70 = .ok (.ireturn, 1) := by decide +kernel
theorem dX5_common_0 : decode cX5_common 0 = .ok (.iload_n 0, 1) := by decide +kernel
theorem dX5_common_1 : decode cX5_common 1 = .ok (.istore_n 2, 1) := by decide +kernel
theorem dX5_common_2 : decode cX5_common 2 = .ok (.iload_n 1, 1) := by decide +kernel
theorem dX5_common_3 : decode cX5_common 3 = .ok (.ifCond .ge 8, 3) := by decide +kernel
theorem dX5_common_6 : decode cX5_common 6 = .ok (.iload_n 1, 1) := by decide +kernel
theorem dX5_common_7 : decode cX5_common 7 = .ok (.ineg, 1) := by decide +kernel
theorem dX5_common_8 : decode cX5_common 8 = .ok (.goto 4, 3) := by decide +kernel
theorem dX5_common_11 : decode cX5_common 11 = .ok (.iload_n 1, 1) := by decide +kernel
theorem dX5_common_12 : decode cX5_common 12 = .ok (.istore_n 3, 1) := by decide +kernel
theorem dX5_common_13 : decode cX5_common 13 = .ok (.iload_n 3, 1) := by decide +kernel
theorem dX5_common_14 : decode cX5_common 14 = .ok (.ifCond .eq 16, 3) := by decide +kernel
theorem dX5_common_17 : decode cX5_common 17 = .ok (.iload_n 2, 1) := by decide +kernel
theorem dX5_common_18 : decode cX5_common 18 = .ok (.iload_n 3, 1) := by decide +kernel
theorem dX5_common_19 : decode cX5_common 19 = .ok (.irem, 1) := by decide +kernel
theorem dX5_common_20 : decode cX5_common 20 = .ok (.istore 4, 2) := by decide +kernel
theorem dX5_common_22 : decode cX5_common 22 = .ok (.iload_n 3, 1) := by decide +kernel
theorem dX5_common_23 : decode cX5_common 23 = .ok (.istore_n 2, 1) := by decide +kernel
theorem dX5_common_24 : decode cX5_common 24 = .ok (.iload 4, 2) := by decide +kernel
theorem dX5_common_26 : decode cX5_common 26 = .ok (.istore_n 3, 1) := by decide +kernel
theorem dX5_common_27 : decode cX5_common 27 = .ok (.goto (-14), 3) := by decide +kernel
theorem dX5_common_30 : decode cX5_common 30 = .ok (.iload_n 2, 1) := by decide +kernel
theorem dX5_common_31 : decode cX5_common 31 = .ok (.ireturn, 1) := by decide +kernel
set_option maxRecDepth 20000 in
theorem ggX5_told_X5_common : GoodIn wsX5_told wsX5_common := goodIn_r _ [4] (by decide +kernel) (by decide +kernel)
set_option maxRecDepth 20000 in
theorem gX5_told_X5_common : GoodIn wsX5_told (va_wsS RX5 76 yX5_common wsX5_common) := goodIn_app (goodIn_of _ (by decide +kernel)) ggX5_told_X5_common
theorem dX5_told_0 : decode cX5_told 0 = .ok (.iload_n 1, 1) := by decide +kernel
theorem dX5_told_1 : decode cX5_told 1 = .ok (.iload_n 0, 1) := by decide +kernel
theorem dX5_told_2 : decode cX5_told 2 = .ok (.invokestatic 76, 3) := by decide +kernel
theorem dX5_told_5 : decode cX5_told 5 = .ok (.istore_n 3, 1) := by decide +kernel
theorem dX5_told_6 : decode cX5_told 6 = .ok (.iload_n 2, 1) := by decide +kernel
theorem dX5_told_7 : decode cX5_told 7 = .ok (.ifCond .ne 9, 3) := by decide +kernel
theorem dX5_told_10 : decode cX5_told 10 = .ok (.iload_n 0, 1) := by decide +kernel
theorem dX5_told_11 : decode cX5_told 11 = .ok (.iload_n 3, 1) := by decide +kernel
theorem dX5_told_12 : decode cX5_told 12 = .ok (.idiv, 1) := by decide +kernel
theorem dX5_told_13 : decode cX5_told 13 = .ok (.goto 6, 3) := by decide +kernel
theorem dX5_told_16 : decode cX5_told 16 = .ok (.iload_n 1, 1) := by decide +kernel
theorem dX5_told_17 : decode cX5_told 17 = .ok (.iload_n 3, 1) := by decide +kernel
theorem dX5_told_18 : decode cX5_told 18 = .ok (.idiv, 1) := by decide +kernel
theorem dX5_told_19 : decode cX5_told 19 = .ok (.ireturn, 1) := by decide +kernel
set_option maxRecDepth 20000 in
theorem ggX5_isTaken_X5_countOf : GoodIn wsX5_isTaken wsX5_countOf := goodIn_r _ [5, 6, 7, 8, 9, 10] (by decide +kernel) (by decide +kernel)
set_option maxRecDepth 20000 in
theorem gX5_isTaken_X5_countOf : GoodIn wsX5_isTaken (wsV RX5 67 RX5 yX5_countOf wsX5_countOf) := goodIn_app (goodIn_of _ (by decide +kernel)) ggX5_isTaken_X5_countOf
theorem dX5_isTaken_0 : decode cX5_isTaken 0 = .ok (.aload_n 0, 1) := by decide +kernel
theorem dX5_isTaken_1 : decode cX5_isTaken 1 = .ok (.iload_n 2, 1) := by decide +kernel
theorem dX5_isTaken_2 : decode cX5_isTaken 2 = .ok (.iload_n 3, 1) := by decide +kernel
theorem dX5_isTaken_3 : decode cX5_isTaken 3 = .ok (.invokevirtual 67, 3) := by decide +kernel
theorem dX5_isTaken_6 : decode cX5_isTaken 6 = .ok (.ifCond .le 22, 3) := by decide +kernel
theorem dX5_isTaken_9 : decode cX5_isTaken 9 = .ok (.aload_n 0, 1) := by decide +kernel
theorem dX5_isTaken_10 : decode cX5_isTaken 10 = .ok (.iload_n 1, 1) := by decide +kernel
theorem dX5_isTaken_11 : decode cX5_isTaken 11 = .ok (.iload_n 3, 1) := by decide +kernel
theorem dX5_isTaken_12 : decode cX5_isTaken 12 = .ok (.invokevirtual 67, 3) := by decide +kernel
theorem dX5_isTaken_15 : decode cX5_isTaken 15 = .ok (.aload_n 0, 1) := by decide +kernel
theorem dX5_isTaken_16 : decode cX5_isTaken 16 = .ok (.iload_n 2, 1) := by decide +kernel
theorem dX5_isTaken_17 : decode cX5_isTaken 17 = .ok (.iload_n 3, 1) := by decide +kernel
theorem dX5_isTaken_18 : decode cX5_isTaken 18 = .ok (.invokevirtual 67, 3) := by decide +kernel
theorem dX5_isTaken_21 : decode cX5_isTaken 21 = .ok (.if_icmp .ne 7, 3) := by decide +kernel
theorem dX5_isTaken_24 : decode cX5_isTaken 24 = .ok (.iconst 1, 1) := by decide +kernel
theorem dX5_isTaken_25 : decode cX5_isTaken 25 = .ok (.goto 4, 3) := by decide +kernel
theorem dX5_isTaken_28 : decode cX5_isTaken 28 = .ok (.iconst 0, 1) := by decide +kernel
theorem dX5_isTaken_29 : decode cX5_isTaken 29 = .ok (.ireturn, 1) := by decide +kernel
set_option maxRecDepth 20000 in
theorem ggX5_took_X5_isNode : GoodIn wsX5_took wsX5_isNode := goodIn_r _ [8, 9, 10, 11, 7, 12, 34, 35, 36, 37] (by decide +kernel) (by decide +kernel)
set_option maxRecDepth 20000 in
theorem gX5_took_X5_isNode : GoodIn wsX5_took (wsV RX5 43 RX5 yX5_isNode wsX5_isNode) := goodIn_app (goodIn_of _ (by decide +kernel)) ggX5_took_X5_isNode
set_option maxRecDepth 20000 in
theorem ggX5_took_X5_isBlock : GoodIn wsX5_took wsX5_isBlock := goodIn_r _ [15, 10, 11, 7, 12] (by decide +kernel) (by decide +kernel)
set_option maxRecDepth 20000 in
theorem gX5_took_X5_isBlock : GoodIn wsX5_took (va_wsS RX5 64 yX5_isBlock wsX5_isBlock) := goodIn_app (goodIn_of _ (by decide +kernel)) ggX5_took_X5_isBlock
set_option maxRecDepth 20000 in
theorem ggX5_took_X5_in : GoodIn wsX5_took wsX5_in := goodIn_r _ [12] (by decide +kernel) (by decide +kernel)
set_option maxRecDepth 20000 in
theorem gX5_took_X5_in : GoodIn wsX5_took (va_wsS RX5 27 yX5_in wsX5_in) := goodIn_app (goodIn_of _ (by decide +kernel)) ggX5_took_X5_in
set_option maxRecDepth 20000 in
theorem ggX5_took_X5_isTaken : GoodIn wsX5_took wsX5_isTaken := goodIn_r _ [19, 20, 21, 22, 7, 23, 9, 34, 35, 36, 37] (by decide +kernel) (by decide +kernel)
set_option maxRecDepth 20000 in
theorem gX5_took_X5_isTaken : GoodIn wsX5_took (wsV RX5 79 RX5 yX5_isTaken wsX5_isTaken) := goodIn_app (goodIn_of _ (by decide +kernel)) ggX5_took_X5_isTaken
set_option maxRecDepth 20000 in
theorem ggX5_took_X5_sumOf : GoodIn wsX5_took wsX5_sumOf := goodIn_r _ [27, 9, 34, 35, 36, 37] (by decide +kernel) (by decide +kernel)
set_option maxRecDepth 20000 in
theorem gX5_took_X5_sumOf : GoodIn wsX5_took (wsV RX5 70 RX5 yX5_sumOf wsX5_sumOf) := goodIn_app (goodIn_of _ (by decide +kernel)) ggX5_took_X5_sumOf
set_option maxRecDepth 20000 in
theorem ggX5_took_X5_countOf : GoodIn wsX5_took wsX5_countOf := goodIn_r _ [23, 9, 34, 35, 36, 37] (by decide +kernel) (by decide +kernel)
set_option maxRecDepth 20000 in
theorem gX5_took_X5_countOf : GoodIn wsX5_took (wsV RX5 67 RX5 yX5_countOf wsX5_countOf) := goodIn_app (goodIn_of _ (by decide +kernel)) ggX5_took_X5_countOf
set_option maxRecDepth 20000 in
theorem ggX5_took_X5_told : GoodIn wsX5_took wsX5_told := goodIn_r _ [30, 31, 32, 7, 33] (by decide +kernel) (by decide +kernel)
set_option maxRecDepth 20000 in
theorem gX5_took_X5_told : GoodIn wsX5_took (va_wsS RX5 83 yX5_told wsX5_told) := goodIn_app (goodIn_of _ (by decide +kernel)) ggX5_took_X5_told
theorem dX5_took_0 : decode cX5_took 0 = .ok (.aload_n 0, 1) := by decide +kernel
theorem dX5_took_1 : decode cX5_took 1 = .ok (.iload_n 1, 1) := by decide +kernel
theorem dX5_took_2 : decode cX5_took 2 = .ok (.invokevirtual 43, 3) := by decide +kernel
theorem dX5_took_5 : decode cX5_took 5 = .ok (.ifCond .eq 11, 3) := by decide +kernel
theorem dX5_took_8 : decode cX5_took 8 = .ok (.aload_n 0, 1) := by decide +kernel
theorem dX5_took_9 : decode cX5_took 9 = .ok (.iload_n 2, 1) := by decide +kernel
theorem dX5_took_10 : decode cX5_took 10 = .ok (.invokevirtual 43, 3) := by decide +kernel
theorem dX5_took_13 : decode cX5_took 13 = .ok (.ifCond .ne 6, 3) := by decide +kernel
theorem dX5_took_16 : decode cX5_took 16 = .ok (.ldc 46, 2) := by decide +kernel
theorem dX5_took_18 : decode cX5_took 18 = .ok (.ireturn, 1) := by decide +kernel
theorem dX5_took_19 : decode cX5_took 19 = .ok (.iload_n 2, 1) := by decide +kernel
theorem dX5_took_20 : decode cX5_took 20 = .ok (.iload_n 1, 1) := by decide +kernel
theorem dX5_took_21 : decode cX5_took 21 = .ok (.if_icmp .le 20, 3) := by decide +kernel
theorem dX5_took_24 : decode cX5_took 24 = .ok (.iload_n 3, 1) := by decide +kernel
theorem dX5_took_25 : decode cX5_took 25 = .ok (.invokestatic 64, 3) := by decide +kernel
theorem dX5_took_28 : decode cX5_took 28 = .ok (.ifCond .eq 13, 3) := by decide +kernel
theorem dX5_took_31 : decode cX5_took 31 = .ok (.iload 4, 2) := by decide +kernel
theorem dX5_took_33 : decode cX5_took 33 = .ok (.iconst 0, 1) := by decide +kernel
theorem dX5_took_34 : decode cX5_took 34 = .ok (.iconst 1, 1) := by decide +kernel
theorem dX5_took_35 : decode cX5_took 35 = .ok (.invokestatic 27, 3) := by decide +kernel
theorem dX5_took_38 : decode cX5_took 38 = .ok (.ifCond .ne 6, 3) := by decide +kernel
theorem dX5_took_41 : decode cX5_took 41 = .ok (.ldc 47, 2) := by decide +kernel
theorem dX5_took_43 : decode cX5_took 43 = .ok (.ireturn, 1) := by decide +kernel
theorem dX5_took_44 : decode cX5_took 44 = .ok (.aload_n 0, 1) := by decide +kernel
theorem dX5_took_45 : decode cX5_took 45 = .ok (.iload_n 1, 1) := by decide +kernel
theorem dX5_took_46 : decode cX5_took 46 = .ok (.iload_n 2, 1) := by decide +kernel
theorem dX5_took_47 : decode cX5_took 47 = .ok (.iload_n 3, 1) := by decide +kernel
theorem dX5_took_48 : decode cX5_took 48 = .ok (.invokevirtual 79, 3) := by decide +kernel
theorem dX5_took_51 : decode cX5_took 51 = .ok (.ifCond .ne 6, 3) := by decide +kernel
theorem dX5_took_54 : decode cX5_took 54 = .ok (.ldc 82, 2) := by decide +kernel
theorem dX5_took_56 : decode cX5_took 56 = .ok (.ireturn, 1) := by decide +kernel
theorem dX5_took_57 : decode cX5_took 57 = .ok (.aload_n 0, 1) := by decide +kernel
theorem dX5_took_58 : decode cX5_took 58 = .ok (.iload_n 2, 1) := by decide +kernel
theorem dX5_took_59 : decode cX5_took 59 = .ok (.iload_n 3, 1) := by decide +kernel
theorem dX5_took_60 : decode cX5_took 60 = .ok (.invokevirtual 70, 3) := by decide +kernel
theorem dX5_took_63 : decode cX5_took 63 = .ok (.aload_n 0, 1) := by decide +kernel
theorem dX5_took_64 : decode cX5_took 64 = .ok (.iload_n 1, 1) := by decide +kernel
theorem dX5_took_65 : decode cX5_took 65 = .ok (.iload_n 3, 1) := by decide +kernel
theorem dX5_took_66 : decode cX5_took 66 = .ok (.invokevirtual 70, 3) := by decide +kernel
theorem dX5_took_69 : decode cX5_took 69 = .ok (.isub, 1) := by decide +kernel
theorem dX5_took_70 : decode cX5_took 70 = .ok (.aload_n 0, 1) := by decide +kernel
theorem dX5_took_71 : decode cX5_took 71 = .ok (.iload_n 2, 1) := by decide +kernel
theorem dX5_took_72 : decode cX5_took 72 = .ok (.iload_n 3, 1) := by decide +kernel
theorem dX5_took_73 : decode cX5_took 73 = .ok (.invokevirtual 67, 3) := by decide +kernel
theorem dX5_took_76 : decode cX5_took 76 = .ok (.iload 4, 2) := by decide +kernel
theorem dX5_took_78 : decode cX5_took 78 = .ok (.invokestatic 83, 3) := by decide +kernel
theorem dX5_took_81 : decode cX5_took 81 = .ok (.ireturn, 1) := by decide +kernel
set_option maxRecDepth 20000 in
theorem ggX5_lostInBlock_X5_countOf : GoodIn wsX5_lostInBlock wsX5_countOf := goodIn_r _ [6, 1, 7, 8, 9, 10] (by decide +kernel) (by decide +kernel)
set_option maxRecDepth 20000 in
theorem gX5_lostInBlock_X5_countOf : GoodIn wsX5_lostInBlock (wsV RX5 67 RX5 yX5_countOf wsX5_countOf) := goodIn_app (goodIn_of _ (by decide +kernel)) ggX5_lostInBlock_X5_countOf
theorem dX5_lostInBlock_0 : decode cX5_lostInBlock 0 = .ok (.aload_n 0, 1) := by decide +kernel
theorem dX5_lostInBlock_1 : decode cX5_lostInBlock 1 = .ok (.iconst 0, 1) := by decide +kernel
theorem dX5_lostInBlock_2 : decode cX5_lostInBlock 2 = .ok (.iload_n 1, 1) := by decide +kernel
theorem dX5_lostInBlock_3 : decode cX5_lostInBlock 3 = .ok (.invokevirtual 67, 3) := by decide +kernel
theorem dX5_lostInBlock_6 : decode cX5_lostInBlock 6 = .ok (.aload_n 0, 1) := by decide +kernel
theorem dX5_lostInBlock_7 : decode cX5_lostInBlock 7 = .ok (.aload_n 0, 1) := by decide +kernel
theorem dX5_lostInBlock_8 : decode cX5_lostInBlock 8 = .ok (.getfield 7, 3) := by decide +kernel
theorem dX5_lostInBlock_11 : decode cX5_lostInBlock 11 = .ok (.iconst 0, 1) := by decide +kernel
theorem dX5_lostInBlock_12 : decode cX5_lostInBlock 12 = .ok (.iaload, 1) := by decide +kernel
theorem dX5_lostInBlock_13 : decode cX5_lostInBlock 13 = .ok (.iconst 1, 1) := by decide +kernel
theorem dX5_lostInBlock_14 : decode cX5_lostInBlock 14 = .ok (.isub, 1) := by decide +kernel
theorem dX5_lostInBlock_15 : decode cX5_lostInBlock 15 = .ok (.iload_n 1, 1) := by decide +kernel
theorem dX5_lostInBlock_16 : decode cX5_lostInBlock 16 = .ok (.invokevirtual 67, 3) := by decide +kernel
theorem dX5_lostInBlock_19 : decode cX5_lostInBlock 19 = .ok (.isub, 1) := by decide +kernel
theorem dX5_lostInBlock_20 : decode cX5_lostInBlock 20 = .ok (.ireturn, 1) := by decide +kernel
set_option maxRecDepth 20000 in
theorem ggX5_firstLink_X5_lostOf : GoodIn wsX5_firstLink wsX5_lostOf := goodIn_r _ [5, 6, 7, 8, 4, 9, 10, 11, 12, 13, 14] (by decide +kernel) (by decide +kernel)
set_option maxRecDepth 20000 in
theorem gX5_firstLink_X5_lostOf : GoodIn wsX5_firstLink (wsV RX5 73 RX5 yX5_lostOf wsX5_lostOf) := goodIn_app (goodIn_of _ (by decide +kernel)) ggX5_firstLink_X5_lostOf
theorem dX5_firstLink_0 : decode cX5_firstLink 0 = .ok (.iconst 0, 1) := by decide +kernel
theorem dX5_firstLink_1 : decode cX5_firstLink 1 = .ok (.istore_n 2, 1) := by decide +kernel
theorem dX5_firstLink_2 : decode cX5_firstLink 2 = .ok (.aload_n 0, 1) := by decide +kernel
theorem dX5_firstLink_3 : decode cX5_firstLink 3 = .ok (.iload_n 2, 1) := by decide +kernel
theorem dX5_firstLink_4 : decode cX5_firstLink 4 = .ok (.iload_n 1, 1) := by decide +kernel
theorem dX5_firstLink_5 : decode cX5_firstLink 5 = .ok (.invokevirtual 73, 3) := by decide +kernel
theorem dX5_firstLink_8 : decode cX5_firstLink 8 = .ok (.ifCond .ne 9, 3) := by decide +kernel
theorem dX5_firstLink_11 : decode cX5_firstLink 11 = .ok (.iinc 2 1, 3) := by decide +kernel
theorem dX5_firstLink_14 : decode cX5_firstLink 14 = .ok (.goto (-12), 3) := by decide +kernel
theorem dX5_firstLink_17 : decode cX5_firstLink 17 = .ok (.iload_n 2, 1) := by decide +kernel
theorem dX5_firstLink_18 : decode cX5_firstLink 18 = .ok (.ireturn, 1) := by decide +kernel
set_option maxRecDepth 20000 in
theorem ggX5_first_X5_in : GoodIn wsX5_first wsX5_in := goodIn_r _ [4] (by decide +kernel) (by decide +kernel)
set_option maxRecDepth 20000 in
theorem gX5_first_X5_in : GoodIn wsX5_first (va_wsS RX5 27 yX5_in wsX5_in) := goodIn_app (goodIn_of _ (by decide +kernel)) ggX5_first_X5_in
set_option maxRecDepth 20000 in
theorem ggX5_first_X5_lostInBlock : GoodIn wsX5_first wsX5_lostInBlock := goodIn_r _ [8, 9, 10, 11, 12, 3, 13, 22, 23, 24, 25] (by decide +kernel) (by decide +kernel)
set_option maxRecDepth 20000 in
theorem gX5_first_X5_lostInBlock : GoodIn wsX5_first (wsV RX5 86 RX5 yX5_lostInBlock wsX5_lostInBlock) := goodIn_app (goodIn_of _ (by decide +kernel)) ggX5_first_X5_lostInBlock
set_option maxRecDepth 20000 in
theorem ggX5_first_X5_firstLink : GoodIn wsX5_first wsX5_firstLink := goodIn_r _ [17, 18, 19, 20, 3, 21, 10, 11, 12, 13, 9, 22, 23, 24, 25] (by decide +kernel) (by decide +kernel)
set_option maxRecDepth 20000 in
theorem gX5_first_X5_firstLink : GoodIn wsX5_first (wsV RX5 90 RX5 yX5_firstLink wsX5_firstLink) := goodIn_app (goodIn_of _ (by decide +kernel)) ggX5_first_X5_firstLink
set_option maxRecDepth 20000 in
theorem ggX5_first_X5_lostOf : GoodIn wsX5_first wsX5_lostOf := goodIn_r _ [21, 10, 11, 12, 3, 13, 9, 22, 23, 24, 25] (by decide +kernel) (by decide +kernel)
set_option maxRecDepth 20000 in
theorem gX5_first_X5_lostOf : GoodIn wsX5_first (wsV RX5 73 RX5 yX5_lostOf wsX5_lostOf) := goodIn_app (goodIn_of _ (by decide +kernel)) ggX5_first_X5_lostOf
theorem dX5_first_0 : decode cX5_first 0 = .ok (.iload_n 1, 1) := by decide +kernel
theorem dX5_first_1 : decode cX5_first 1 = .ok (.iconst 0, 1) := by decide +kernel
theorem dX5_first_2 : decode cX5_first 2 = .ok (.bipush 20, 2) := by decide +kernel
theorem dX5_first_4 : decode cX5_first 4 = .ok (.invokestatic 27, 3) := by decide +kernel
theorem dX5_first_7 : decode cX5_first 7 = .ok (.ifCond .eq 12, 3) := by decide +kernel
theorem dX5_first_10 : decode cX5_first 10 = .ok (.iload_n 2, 1) := by decide +kernel
theorem dX5_first_11 : decode cX5_first 11 = .ok (.iconst 0, 1) := by decide +kernel
theorem dX5_first_12 : decode cX5_first 12 = .ok (.iconst 2, 1) := by decide +kernel
theorem dX5_first_13 : decode cX5_first 13 = .ok (.invokestatic 27, 3) := by decide +kernel
theorem dX5_first_16 : decode cX5_first 16 = .ok (.ifCond .ne 6, 3) := by decide +kernel
theorem dX5_first_19 : decode cX5_first 19 = .ok (.bipush (-2), 2) := by decide +kernel
theorem dX5_first_21 : decode cX5_first 21 = .ok (.ireturn, 1) := by decide +kernel
theorem dX5_first_22 : decode cX5_first 22 = .ok (.iconst 0, 1) := by decide +kernel
theorem dX5_first_23 : decode cX5_first 23 = .ok (.istore_n 3, 1) := by decide +kernel
theorem dX5_first_24 : decode cX5_first 24 = .ok (.iload_n 3, 1) := by decide +kernel
theorem dX5_first_25 : decode cX5_first 25 = .ok (.sipush 200, 3) := by decide +kernel
theorem dX5_first_28 : decode cX5_first 28 = .ok (.if_icmp .ge 18, 3) := by decide +kernel
theorem dX5_first_31 : decode cX5_first 31 = .ok (.aload_n 0, 1) := by decide +kernel
theorem dX5_first_32 : decode cX5_first 32 = .ok (.iload_n 3, 1) := by decide +kernel
theorem dX5_first_33 : decode cX5_first 33 = .ok (.invokevirtual 86, 3) := by decide +kernel
theorem dX5_first_36 : decode cX5_first 36 = .ok (.iload_n 1, 1) := by decide +kernel
theorem dX5_first_37 : decode cX5_first 37 = .ok (.if_icmp .gt 9, 3) := by decide +kernel
theorem dX5_first_40 : decode cX5_first 40 = .ok (.iinc 3 1, 3) := by decide +kernel
theorem dX5_first_43 : decode cX5_first 43 = .ok (.goto (-19), 3) := by decide +kernel
theorem dX5_first_46 : decode cX5_first 46 = .ok (.iload_n 3, 1) := by decide +kernel
theorem dX5_first_47 : decode cX5_first 47 = .ok (.sipush 200, 3) := by decide +kernel
theorem dX5_first_50 : decode cX5_first 50 = .ok (.if_icmp .ne 6, 3) := by decide +kernel
theorem dX5_first_53 : decode cX5_first 53 = .ok (.bipush (-6), 2) := by decide +kernel
theorem dX5_first_55 : decode cX5_first 55 = .ok (.ireturn, 1) := by decide +kernel
theorem dX5_first_56 : decode cX5_first 56 = .ok (.iload_n 2, 1) := by decide +kernel
theorem dX5_first_57 : decode cX5_first 57 = .ok (.ifCond .ne 7, 3) := by decide +kernel
theorem dX5_first_60 : decode cX5_first 60 = .ok (.iload_n 3, 1) := by decide +kernel
theorem dX5_first_61 : decode cX5_first 61 = .ok (.goto 26, 3) := by decide +kernel
theorem dX5_first_64 : decode cX5_first 64 = .ok (.iload_n 2, 1) := by decide +kernel
theorem dX5_first_65 : decode cX5_first 65 = .ok (.iconst 1, 1) := by decide +kernel
theorem dX5_first_66 : decode cX5_first 66 = .ok (.if_icmp .ne 11, 3) := by decide +kernel
theorem dX5_first_69 : decode cX5_first 69 = .ok (.aload_n 0, 1) := by decide +kernel
theorem dX5_first_70 : decode cX5_first 70 = .ok (.iload_n 3, 1) := by decide +kernel
theorem dX5_first_71 : decode cX5_first 71 = .ok (.invokevirtual 90, 3) := by decide +kernel
theorem dX5_first_74 : decode cX5_first 74 = .ok (.goto 13, 3) := by decide +kernel
theorem dX5_first_77 : decode cX5_first 77 = .ok (.aload_n 0, 1) := by decide +kernel
theorem dX5_first_78 : decode cX5_first 78 = .ok (.aload_n 0, 1) := by decide +kernel
theorem dX5_first_79 : decode cX5_first 79 = .ok (.iload_n 3, 1) := by decide +kernel
theorem dX5_first_80 : decode cX5_first 80 = .ok (.invokevirtual 90, 3) := by decide +kernel
theorem dX5_first_83 : decode cX5_first 83 = .ok (.iload_n 3, 1) := by decide +kernel
theorem dX5_first_84 : decode cX5_first 84 = .ok (.invokevirtual 73, 3) := by decide +kernel
theorem dX5_first_87 : decode cX5_first 87 = .ok (.ireturn, 1) := by decide +kernel
set_option maxRecDepth 20000 in
theorem ggX5_sound_X5_isNode : GoodIn wsX5_sound wsX5_isNode := goodIn_r _ [6, 1, 7, 8, 5, 9, 18, 19, 20, 21] (by decide +kernel) (by decide +kernel)
set_option maxRecDepth 20000 in
theorem gX5_sound_X5_isNode : GoodIn wsX5_sound (wsV RX5 43 RX5 yX5_isNode wsX5_isNode) := goodIn_app (goodIn_of _ (by decide +kernel)) ggX5_sound_X5_isNode
set_option maxRecDepth 20000 in
theorem ggX5_sound_X5_over : GoodIn wsX5_sound wsX5_over := goodIn_r _ [13, 14, 15, 16, 5, 17, 1, 18, 19, 20, 21] (by decide +kernel) (by decide +kernel)
set_option maxRecDepth 20000 in
theorem gX5_sound_X5_over : GoodIn wsX5_sound (wsV RX5 56 RX5 yX5_over wsX5_over) := goodIn_app (goodIn_of _ (by decide +kernel)) ggX5_sound_X5_over
theorem dX5_sound_0 : decode cX5_sound 0 = .ok (.aload_n 0, 1) := by decide +kernel
theorem dX5_sound_1 : decode cX5_sound 1 = .ok (.iload_n 1, 1) := by decide +kernel
theorem dX5_sound_2 : decode cX5_sound 2 = .ok (.invokevirtual 43, 3) := by decide +kernel
theorem dX5_sound_5 : decode cX5_sound 5 = .ok (.ifCond .eq 11, 3) := by decide +kernel
theorem dX5_sound_8 : decode cX5_sound 8 = .ok (.aload_n 0, 1) := by decide +kernel
theorem dX5_sound_9 : decode cX5_sound 9 = .ok (.iload_n 2, 1) := by decide +kernel
theorem dX5_sound_10 : decode cX5_sound 10 = .ok (.invokevirtual 43, 3) := by decide +kernel
theorem dX5_sound_13 : decode cX5_sound 13 = .ok (.ifCond .ne 5, 3) := by decide +kernel
theorem dX5_sound_16 : decode cX5_sound 16 = .ok (.iconst (-1), 1) := by decide +kernel
theorem dX5_sound_17 : decode cX5_sound 17 = .ok (.ireturn, 1) := by decide +kernel
theorem dX5_sound_18 : decode cX5_sound 18 = .ok (.iload_n 2, 1) := by decide +kernel
theorem dX5_sound_19 : decode cX5_sound 19 = .ok (.iload_n 1, 1) := by decide +kernel
theorem dX5_sound_20 : decode cX5_sound 20 = .ok (.if_icmp .gt 6, 3) := by decide +kernel
theorem dX5_sound_23 : decode cX5_sound 23 = .ok (.bipush (-2), 2) := by decide +kernel
theorem dX5_sound_25 : decode cX5_sound 25 = .ok (.ireturn, 1) := by decide +kernel
theorem dX5_sound_26 : decode cX5_sound 26 = .ok (.aload_n 0, 1) := by decide +kernel
theorem dX5_sound_27 : decode cX5_sound 27 = .ok (.getfield 7, 3) := by decide +kernel
theorem dX5_sound_30 : decode cX5_sound 30 = .ok (.iconst 1, 1) := by decide +kernel
theorem dX5_sound_31 : decode cX5_sound 31 = .ok (.iaload, 1) := by decide +kernel
theorem dX5_sound_32 : decode cX5_sound 32 = .ok (.iconst 1, 1) := by decide +kernel
theorem dX5_sound_33 : decode cX5_sound 33 = .ok (.iadd, 1) := by decide +kernel
theorem dX5_sound_34 : decode cX5_sound 34 = .ok (.sipush 9999, 3) := by decide +kernel
theorem dX5_sound_37 : decode cX5_sound 37 = .ok (.if_icmp .le 6, 3) := by decide +kernel
theorem dX5_sound_40 : decode cX5_sound 40 = .ok (.bipush (-4), 2) := by decide +kernel
theorem dX5_sound_42 : decode cX5_sound 42 = .ok (.ireturn, 1) := by decide +kernel
theorem dX5_sound_43 : decode cX5_sound 43 = .ok (.aload_n 0, 1) := by decide +kernel
theorem dX5_sound_44 : decode cX5_sound 44 = .ok (.getfield 7, 3) := by decide +kernel
theorem dX5_sound_47 : decode cX5_sound 47 = .ok (.iconst 1, 1) := by decide +kernel
theorem dX5_sound_48 : decode cX5_sound 48 = .ok (.iaload, 1) := by decide +kernel
theorem dX5_sound_49 : decode cX5_sound 49 = .ok (.istore_n 3, 1) := by decide +kernel
theorem dX5_sound_50 : decode cX5_sound 50 = .ok (.iload_n 1, 1) := by decide +kernel
theorem dX5_sound_51 : decode cX5_sound 51 = .ok (.istore 4, 2) := by decide +kernel
theorem dX5_sound_53 : decode cX5_sound 53 = .ok (.iload 4, 2) := by decide +kernel
theorem dX5_sound_55 : decode cX5_sound 55 = .ok (.iload_n 2, 1) := by decide +kernel
theorem dX5_sound_56 : decode cX5_sound 56 = .ok (.if_icmp .ge 18, 3) := by decide +kernel
theorem dX5_sound_59 : decode cX5_sound 59 = .ok (.aload_n 0, 1) := by decide +kernel
theorem dX5_sound_60 : decode cX5_sound 60 = .ok (.iload 4, 2) := by decide +kernel
theorem dX5_sound_62 : decode cX5_sound 62 = .ok (.iconst 0, 1) := by decide +kernel
theorem dX5_sound_63 : decode cX5_sound 63 = .ok (.iload_n 3, 1) := by decide +kernel
theorem dX5_sound_64 : decode cX5_sound 64 = .ok (.invokevirtual 56, 3) := by decide +kernel
theorem dX5_sound_67 : decode cX5_sound 67 = .ok (.istore_n 3, 1) := by decide +kernel
theorem dX5_sound_68 : decode cX5_sound 68 = .ok (.iinc 4 1, 3) := by decide +kernel
theorem dX5_sound_71 : decode cX5_sound 71 = .ok (.goto (-18), 3) := by decide +kernel
theorem dX5_sound_74 : decode cX5_sound 74 = .ok (.iload_n 3, 1) := by decide +kernel
theorem dX5_sound_75 : decode cX5_sound 75 = .ok (.istore 4, 2) := by decide +kernel
theorem dX5_sound_77 : decode cX5_sound 77 = .ok (.iload_n 2, 1) := by decide +kernel
theorem dX5_sound_78 : decode cX5_sound 78 = .ok (.iconst 1, 1) := by decide +kernel
theorem dX5_sound_79 : decode cX5_sound 79 = .ok (.isub, 1) := by decide +kernel
theorem dX5_sound_80 : decode cX5_sound 80 = .ok (.istore 5, 2) := by decide +kernel
theorem dX5_sound_82 : decode cX5_sound 82 = .ok (.iload 5, 2) := by decide +kernel
theorem dX5_sound_84 : decode cX5_sound 84 = .ok (.iload_n 1, 1) := by decide +kernel
theorem dX5_sound_85 : decode cX5_sound 85 = .ok (.if_icmp .lt 18, 3) := by decide +kernel
theorem dX5_sound_88 : decode cX5_sound 88 = .ok (.aload_n 0, 1) := by decide +kernel
theorem dX5_sound_89 : decode cX5_sound 89 = .ok (.iload 5, 2) := by decide +kernel
theorem dX5_sound_91 : decode cX5_sound 91 = .ok (.iconst 1, 1) := by decide +kernel
theorem dX5_sound_92 : decode cX5_sound 92 = .ok (.iload_n 3, 1) := by decide +kernel
theorem dX5_sound_93 : decode cX5_sound 93 = .ok (.invokevirtual 56, 3) := by decide +kernel
theorem dX5_sound_96 : decode cX5_sound 96 = .ok (.istore_n 3, 1) := by decide +kernel
theorem dX5_sound_97 : decode cX5_sound 97 = .ok (.iinc 5 (-1), 3) := by decide +kernel
theorem dX5_sound_100 : decode cX5_sound 100 = .ok (.goto (-18), 3) := by decide +kernel
theorem dX5_sound_103 : decode cX5_sound 103 = .ok (.aload_n 0, 1) := by decide +kernel
theorem dX5_sound_104 : decode cX5_sound 104 = .ok (.getfield 7, 3) := by decide +kernel
theorem dX5_sound_107 : decode cX5_sound 107 = .ok (.bipush 28, 2) := by decide +kernel
theorem dX5_sound_109 : decode cX5_sound 109 = .ok (.iload_n 2, 1) := by decide +kernel
theorem dX5_sound_110 : decode cX5_sound 110 = .ok (.iadd, 1) := by decide +kernel
theorem dX5_sound_111 : decode cX5_sound 111 = .ok (.iaload, 1) := by decide +kernel
theorem dX5_sound_112 : decode cX5_sound 112 = .ok (.aload_n 0, 1) := by decide +kernel
theorem dX5_sound_113 : decode cX5_sound 113 = .ok (.getfield 7, 3) := by decide +kernel
theorem dX5_sound_116 : decode cX5_sound 116 = .ok (.bipush 28, 2) := by decide +kernel
theorem dX5_sound_118 : decode cX5_sound 118 = .ok (.iload_n 1, 1) := by decide +kernel
theorem dX5_sound_119 : decode cX5_sound 119 = .ok (.iadd, 1) := by decide +kernel
theorem dX5_sound_120 : decode cX5_sound 120 = .ok (.iaload, 1) := by decide +kernel
theorem dX5_sound_121 : decode cX5_sound 121 = .ok (.isub, 1) := by decide +kernel
theorem dX5_sound_122 : decode cX5_sound 122 = .ok (.istore 5, 2) := by decide +kernel
theorem dX5_sound_124 : decode cX5_sound 124 = .ok (.iconst 5, 1) := by decide +kernel
theorem dX5_sound_125 : decode cX5_sound 125 = .ok (.iload_n 1, 1) := by decide +kernel
theorem dX5_sound_126 : decode cX5_sound 126 = .ok (.imul, 1) := by decide +kernel
theorem dX5_sound_127 : decode cX5_sound 127 = .ok (.iload_n 2, 1) := by decide +kernel
theorem dX5_sound_128 : decode cX5_sound 128 = .ok (.iadd, 1) := by decide +kernel
theorem dX5_sound_129 : decode cX5_sound 129 = .ok (.istore 6, 2) := by decide +kernel
theorem dX5_sound_131 : decode cX5_sound 131 = .ok (.iload 4, 2) := by decide +kernel
theorem dX5_sound_133 : decode cX5_sound 133 = .ok (.aload_n 0, 1) := by decide +kernel
theorem dX5_sound_134 : decode cX5_sound 134 = .ok (.getfield 7, 3) := by decide +kernel
theorem dX5_sound_137 : decode cX5_sound 137 = .ok (.iconst 1, 1) := by decide +kernel
theorem dX5_sound_138 : decode cX5_sound 138 = .ok (.iaload, 1) := by decide +kernel
theorem dX5_sound_139 : decode cX5_sound 139 = .ok (.isub, 1) := by decide +kernel
theorem dX5_sound_140 : decode cX5_sound 140 = .ok (.iload 5, 2) := by decide +kernel
theorem dX5_sound_142 : decode cX5_sound 142 = .ok (.iadd, 1) := by decide +kernel
theorem dX5_sound_143 : decode cX5_sound 143 = .ok (.iload_n 2, 1) := by decide +kernel
theorem dX5_sound_144 : decode cX5_sound 144 = .ok (.iload_n 1, 1) := by decide +kernel
theorem dX5_sound_145 : decode cX5_sound 145 = .ok (.isub, 1) := by decide +kernel
theorem dX5_sound_146 : decode cX5_sound 146 = .ok (.isub, 1) := by decide +kernel
theorem dX5_sound_147 : decode cX5_sound 147 = .ok (.istore 7, 2) := by decide +kernel
theorem dX5_sound_149 : decode cX5_sound 149 = .ok (.iload 4, 2) := by decide +kernel
theorem dX5_sound_151 : decode cX5_sound 151 = .ok (.iload_n 3, 1) := by decide +kernel
theorem dX5_sound_152 : decode cX5_sound 152 = .ok (.isub, 1) := by decide +kernel
theorem dX5_sound_153 : decode cX5_sound 153 = .ok (.iload 5, 2) := by decide +kernel
theorem dX5_sound_155 : decode cX5_sound 155 = .ok (.iadd, 1) := by decide +kernel
theorem dX5_sound_156 : decode cX5_sound 156 = .ok (.iload_n 2, 1) := by decide +kernel
theorem dX5_sound_157 : decode cX5_sound 157 = .ok (.iload_n 1, 1) := by decide +kernel
theorem dX5_sound_158 : decode cX5_sound 158 = .ok (.isub, 1) := by decide +kernel
theorem dX5_sound_159 : decode cX5_sound 159 = .ok (.iadd, 1) := by decide +kernel
theorem dX5_sound_160 : decode cX5_sound 160 = .ok (.istore 8, 2) := by decide +kernel
theorem dX5_sound_162 : decode cX5_sound 162 = .ok (.aload_n 0, 1) := by decide +kernel
theorem dX5_sound_163 : decode cX5_sound 163 = .ok (.getfield 7, 3) := by decide +kernel
theorem dX5_sound_166 : decode cX5_sound 166 = .ok (.bipush 83, 2) := by decide +kernel
theorem dX5_sound_168 : decode cX5_sound 168 = .ok (.iload 6, 2) := by decide +kernel
theorem dX5_sound_170 : decode cX5_sound 170 = .ok (.iadd, 1) := by decide +kernel
theorem dX5_sound_171 : decode cX5_sound 171 = .ok (.iaload, 1) := by decide +kernel
theorem dX5_sound_172 : decode cX5_sound 172 = .ok (.iconst 1, 1) := by decide +kernel
theorem dX5_sound_173 : decode cX5_sound 173 = .ok (.if_icmp .ne 7, 3) := by decide +kernel
theorem dX5_sound_176 : decode cX5_sound 176 = .ok (.iconst 1, 1) := by decide +kernel
theorem dX5_sound_177 : decode cX5_sound 177 = .ok (.goto 4, 3) := by decide +kernel
theorem dX5_sound_180 : decode cX5_sound 180 = .ok (.iconst 0, 1) := by decide +kernel
theorem dX5_sound_181 : decode cX5_sound 181 = .ok (.istore 9, 2) := by decide +kernel
theorem dX5_sound_183 : decode cX5_sound 183 = .ok (.aload_n 0, 1) := by decide +kernel
theorem dX5_sound_184 : decode cX5_sound 184 = .ok (.getfield 7, 3) := by decide +kernel
theorem dX5_sound_187 : decode cX5_sound 187 = .ok (.bipush 33, 2) := by decide +kernel
theorem dX5_sound_189 : decode cX5_sound 189 = .ok (.iload 6, 2) := by decide +kernel
theorem dX5_sound_191 : decode cX5_sound 191 = .ok (.iadd, 1) := by decide +kernel
theorem dX5_sound_192 : decode cX5_sound 192 = .ok (.iload 9, 2) := by decide +kernel
theorem dX5_sound_194 : decode cX5_sound 194 = .ok (.ifCond .eq 31, 3) := by decide +kernel
theorem dX5_sound_197 : decode cX5_sound 197 = .ok (.aload_n 0, 1) := by decide +kernel
theorem dX5_sound_198 : decode cX5_sound 198 = .ok (.getfield 7, 3) := by decide +kernel
theorem dX5_sound_201 : decode cX5_sound 201 = .ok (.bipush 33, 2) := by decide +kernel
theorem dX5_sound_203 : decode cX5_sound 203 = .ok (.iload 6, 2) := by decide +kernel
theorem dX5_sound_205 : decode cX5_sound 205 = .ok (.iadd, 1) := by decide +kernel
theorem dX5_sound_206 : decode cX5_sound 206 = .ok (.iaload, 1) := by decide +kernel
theorem dX5_sound_207 : decode cX5_sound 207 = .ok (.iload 7, 2) := by decide +kernel
theorem dX5_sound_209 : decode cX5_sound 209 = .ok (.if_icmp .ge 16, 3) := by decide +kernel
theorem dX5_sound_212 : decode cX5_sound 212 = .ok (.aload_n 0, 1) := by decide +kernel
theorem dX5_sound_213 : decode cX5_sound 213 = .ok (.getfield 7, 3) := by decide +kernel
theorem dX5_sound_216 : decode cX5_sound 216 = .ok (.bipush 33, 2) := by decide +kernel
theorem dX5_sound_218 : decode cX5_sound 218 = .ok (.iload 6, 2) := by decide +kernel
theorem dX5_sound_220 : decode cX5_sound 220 = .ok (.iadd, 1) := by decide +kernel
theorem dX5_sound_221 : decode cX5_sound 221 = .ok (.iaload, 1) := by decide +kernel
theorem dX5_sound_222 : decode cX5_sound 222 = .ok (.goto 5, 3) := by decide +kernel
theorem dX5_sound_225 : decode cX5_sound 225 = .ok (.iload 7, 2) := by decide +kernel
theorem dX5_sound_227 : decode cX5_sound 227 = .ok (.iastore, 1) := by decide +kernel
theorem dX5_sound_228 : decode cX5_sound 228 = .ok (.aload_n 0, 1) := by decide +kernel
theorem dX5_sound_229 : decode cX5_sound 229 = .ok (.getfield 7, 3) := by decide +kernel
theorem dX5_sound_232 : decode cX5_sound 232 = .ok (.bipush 58, 2) := by decide +kernel
theorem dX5_sound_234 : decode cX5_sound 234 = .ok (.iload 6, 2) := by decide +kernel
theorem dX5_sound_236 : decode cX5_sound 236 = .ok (.iadd, 1) := by decide +kernel
theorem dX5_sound_237 : decode cX5_sound 237 = .ok (.iload 9, 2) := by decide +kernel
theorem dX5_sound_239 : decode cX5_sound 239 = .ok (.ifCond .eq 31, 3) := by decide +kernel
theorem dX5_sound_242 : decode cX5_sound 242 = .ok (.aload_n 0, 1) := by decide +kernel
theorem dX5_sound_243 : decode cX5_sound 243 = .ok (.getfield 7, 3) := by decide +kernel
theorem dX5_sound_246 : decode cX5_sound 246 = .ok (.bipush 58, 2) := by decide +kernel
theorem dX5_sound_248 : decode cX5_sound 248 = .ok (.iload 6, 2) := by decide +kernel
theorem dX5_sound_250 : decode cX5_sound 250 = .ok (.iadd, 1) := by decide +kernel
theorem dX5_sound_251 : decode cX5_sound 251 = .ok (.iaload, 1) := by decide +kernel
theorem dX5_sound_252 : decode cX5_sound 252 = .ok (.iload 8, 2) := by decide +kernel
theorem dX5_sound_254 : decode cX5_sound 254 = .ok (.if_icmp .le 16, 3) := by decide +kernel
theorem dX5_sound_257 : decode cX5_sound 257 = .ok (.aload_n 0, 1) := by decide +kernel
theorem dX5_sound_258 : decode cX5_sound 258 = .ok (.getfield 7, 3) := by decide +kernel
theorem dX5_sound_261 : decode cX5_sound 261 = .ok (.bipush 58, 2) := by decide +kernel
theorem dX5_sound_263 : decode cX5_sound 263 = .ok (.iload 6, 2) := by decide +kernel
theorem dX5_sound_265 : decode cX5_sound 265 = .ok (.iadd, 1) := by decide +kernel
theorem dX5_sound_266 : decode cX5_sound 266 = .ok (.iaload, 1) := by decide +kernel
theorem dX5_sound_267 : decode cX5_sound 267 = .ok (.goto 5, 3) := by decide +kernel
theorem dX5_sound_270 : decode cX5_sound 270 = .ok (.iload 8, 2) := by decide +kernel
theorem dX5_sound_272 : decode cX5_sound 272 = .ok (.iastore, 1) := by decide +kernel
theorem dX5_sound_273 : decode cX5_sound 273 = .ok (.aload_n 0, 1) := by decide +kernel
theorem dX5_sound_274 : decode cX5_sound 274 = .ok (.getfield 7, 3) := by decide +kernel
theorem dX5_sound_277 : decode cX5_sound 277 = .ok (.bipush 83, 2) := by decide +kernel
theorem dX5_sound_279 : decode cX5_sound 279 = .ok (.iload 6, 2) := by decide +kernel
theorem dX5_sound_281 : decode cX5_sound 281 = .ok (.iadd, 1) := by decide +kernel
theorem dX5_sound_282 : decode cX5_sound 282 = .ok (.iconst 1, 1) := by decide +kernel
theorem dX5_sound_283 : decode cX5_sound 283 = .ok (.iastore, 1) := by decide +kernel
theorem dX5_sound_284 : decode cX5_sound 284 = .ok (.iload_n 3, 1) := by decide +kernel
theorem dX5_sound_285 : decode cX5_sound 285 = .ok (.aload_n 0, 1) := by decide +kernel
theorem dX5_sound_286 : decode cX5_sound 286 = .ok (.getfield 7, 3) := by decide +kernel
theorem dX5_sound_289 : decode cX5_sound 289 = .ok (.iconst 1, 1) := by decide +kernel
theorem dX5_sound_290 : decode cX5_sound 290 = .ok (.iaload, 1) := by decide +kernel
theorem dX5_sound_291 : decode cX5_sound 291 = .ok (.isub, 1) := by decide +kernel
theorem dX5_sound_292 : decode cX5_sound 292 = .ok (.istore 10, 2) := by decide +kernel
theorem dX5_sound_294 : decode cX5_sound 294 = .ok (.aload_n 0, 1) := by decide +kernel
theorem dX5_sound_295 : decode cX5_sound 295 = .ok (.getfield 7, 3) := by decide +kernel
theorem dX5_sound_298 : decode cX5_sound 298 = .ok (.iconst 1, 1) := by decide +kernel
theorem dX5_sound_299 : decode cX5_sound 299 = .ok (.dup2, 1) := by decide +kernel
theorem dX5_sound_300 : decode cX5_sound 300 = .ok (.iaload, 1) := by decide +kernel
theorem dX5_sound_301 : decode cX5_sound 301 = .ok (.iconst 1, 1) := by decide +kernel
theorem dX5_sound_302 : decode cX5_sound 302 = .ok (.iadd, 1) := by decide +kernel
theorem dX5_sound_303 : decode cX5_sound 303 = .ok (.iastore, 1) := by decide +kernel
theorem dX5_sound_304 : decode cX5_sound 304 = .ok (.iload 10, 2) := by decide +kernel
theorem dX5_sound_306 : decode cX5_sound 306 = .ok (.ireturn, 1) := by decide +kernel
set_option maxRecDepth 20000 in
theorem ggX5_apart_X5_isNode : GoodIn wsX5_apart wsX5_isNode := goodIn_r _ [9, 3, 10, 11, 8, 12, 13, 14, 15, 16] (by decide +kernel) (by decide +kernel)
set_option maxRecDepth 20000 in
theorem gX5_apart_X5_isNode : GoodIn wsX5_apart (wsV RX5 43 RX5 yX5_isNode wsX5_isNode) := goodIn_app (goodIn_of _ (by decide +kernel)) ggX5_apart_X5_isNode
set_option maxRecDepth 20000 in
theorem ggX5_apart_X5_in : GoodIn wsX5_apart wsX5_in := goodIn_r _ [12] (by decide +kernel) (by decide +kernel)
set_option maxRecDepth 20000 in
theorem gX5_apart_X5_in : GoodIn wsX5_apart (va_wsS RX5 27 yX5_in wsX5_in) := goodIn_app (goodIn_of _ (by decide +kernel)) ggX5_apart_X5_in
theorem dX5_apart_0 : decode cX5_apart 0 = .ok (.aload_n 0, 1) := by decide +kernel
theorem dX5_apart_1 : decode cX5_apart 1 = .ok (.iload_n 1, 1) := by decide +kernel
theorem dX5_apart_2 : decode cX5_apart 2 = .ok (.invokevirtual 43, 3) := by decide +kernel
theorem dX5_apart_5 : decode cX5_apart 5 = .ok (.ifCond .eq 11, 3) := by decide +kernel
theorem dX5_apart_8 : decode cX5_apart 8 = .ok (.aload_n 0, 1) := by decide +kernel
theorem dX5_apart_9 : decode cX5_apart 9 = .ok (.iload_n 2, 1) := by decide +kernel
theorem dX5_apart_10 : decode cX5_apart 10 = .ok (.invokevirtual 43, 3) := by decide +kernel
theorem dX5_apart_13 : decode cX5_apart 13 = .ok (.ifCond .ne 6, 3) := by decide +kernel
theorem dX5_apart_16 : decode cX5_apart 16 = .ok (.ldc 46, 2) := by decide +kernel
theorem dX5_apart_18 : decode cX5_apart 18 = .ok (.ireturn, 1) := by decide +kernel
theorem dX5_apart_19 : decode cX5_apart 19 = .ok (.iload_n 2, 1) := by decide +kernel
theorem dX5_apart_20 : decode cX5_apart 20 = .ok (.iload_n 1, 1) := by decide +kernel
theorem dX5_apart_21 : decode cX5_apart 21 = .ok (.if_icmp .le 12, 3) := by decide +kernel
theorem dX5_apart_24 : decode cX5_apart 24 = .ok (.iload_n 3, 1) := by decide +kernel
theorem dX5_apart_25 : decode cX5_apart 25 = .ok (.iconst 0, 1) := by decide +kernel
theorem dX5_apart_26 : decode cX5_apart 26 = .ok (.iconst 1, 1) := by decide +kernel
theorem dX5_apart_27 : decode cX5_apart 27 = .ok (.invokestatic 27, 3) := by decide +kernel
theorem dX5_apart_30 : decode cX5_apart 30 = .ok (.ifCond .ne 6, 3) := by decide +kernel
theorem dX5_apart_33 : decode cX5_apart 33 = .ok (.ldc 47, 2) := by decide +kernel
theorem dX5_apart_35 : decode cX5_apart 35 = .ok (.ireturn, 1) := by decide +kernel
theorem dX5_apart_36 : decode cX5_apart 36 = .ok (.iconst 5, 1) := by decide +kernel
theorem dX5_apart_37 : decode cX5_apart 37 = .ok (.iload_n 1, 1) := by decide +kernel
theorem dX5_apart_38 : decode cX5_apart 38 = .ok (.imul, 1) := by decide +kernel
theorem dX5_apart_39 : decode cX5_apart 39 = .ok (.iload_n 2, 1) := by decide +kernel
theorem dX5_apart_40 : decode cX5_apart 40 = .ok (.iadd, 1) := by decide +kernel
theorem dX5_apart_41 : decode cX5_apart 41 = .ok (.istore 4, 2) := by decide +kernel
theorem dX5_apart_43 : decode cX5_apart 43 = .ok (.aload_n 0, 1) := by decide +kernel
theorem dX5_apart_44 : decode cX5_apart 44 = .ok (.getfield 7, 3) := by decide +kernel
theorem dX5_apart_47 : decode cX5_apart 47 = .ok (.bipush 83, 2) := by decide +kernel
theorem dX5_apart_49 : decode cX5_apart 49 = .ok (.iload 4, 2) := by decide +kernel
theorem dX5_apart_51 : decode cX5_apart 51 = .ok (.iadd, 1) := by decide +kernel
theorem dX5_apart_52 : decode cX5_apart 52 = .ok (.iaload, 1) := by decide +kernel
theorem dX5_apart_53 : decode cX5_apart 53 = .ok (.ifCond .ne 8, 3) := by decide +kernel
theorem dX5_apart_56 : decode cX5_apart 56 = .ok (.ldc 93, 2) := by decide +kernel
theorem dX5_apart_58 : decode cX5_apart 58 = .ok (.goto 22, 3) := by decide +kernel
theorem dX5_apart_61 : decode cX5_apart 61 = .ok (.aload_n 0, 1) := by decide +kernel
theorem dX5_apart_62 : decode cX5_apart 62 = .ok (.getfield 7, 3) := by decide +kernel
theorem dX5_apart_65 : decode cX5_apart 65 = .ok (.iload_n 3, 1) := by decide +kernel
theorem dX5_apart_66 : decode cX5_apart 66 = .ok (.ifCond .ne 8, 3) := by decide +kernel
theorem dX5_apart_69 : decode cX5_apart 69 = .ok (.bipush 58, 2) := by decide +kernel
theorem dX5_apart_71 : decode cX5_apart 71 = .ok (.goto 5, 3) := by decide +kernel
theorem dX5_apart_74 : decode cX5_apart 74 = .ok (.bipush 33, 2) := by decide +kernel
theorem dX5_apart_76 : decode cX5_apart 76 = .ok (.iload 4, 2) := by decide +kernel
theorem dX5_apart_78 : decode cX5_apart 78 = .ok (.iadd, 1) := by decide +kernel
theorem dX5_apart_79 : decode cX5_apart 79 = .ok (.iaload, 1) := by decide +kernel
theorem dX5_apart_80 : decode cX5_apart 80 = .ok (.ireturn, 1) := by decide +kernel
theorem dX5_layLeast_0 : decode cX5_layLeast 0 = .ok (.iconst 0, 1) := by decide +kernel
theorem dX5_layLeast_1 : decode cX5_layLeast 1 = .ok (.istore_n 1, 1) := by decide +kernel
theorem dX5_layLeast_2 : decode cX5_layLeast 2 = .ok (.iload_n 1, 1) := by decide +kernel
theorem dX5_layLeast_3 : decode cX5_layLeast 3 = .ok (.bipush 25, 2) := by decide +kernel
theorem dX5_layLeast_5 : decode cX5_layLeast 5 = .ok (.if_icmp .ge 95, 3) := by decide +kernel
theorem dX5_layLeast_8 : decode cX5_layLeast 8 = .ok (.iload_n 1, 1) := by decide +kernel
theorem dX5_layLeast_9 : decode cX5_layLeast 9 = .ok (.iconst 5, 1) := by decide +kernel
theorem dX5_layLeast_10 : decode cX5_layLeast 10 = .ok (.idiv, 1) := by decide +kernel
theorem dX5_layLeast_11 : decode cX5_layLeast 11 = .ok (.istore_n 2, 1) := by decide +kernel
theorem dX5_layLeast_12 : decode cX5_layLeast 12 = .ok (.iload_n 1, 1) := by decide +kernel
theorem dX5_layLeast_13 : decode cX5_layLeast 13 = .ok (.iconst 5, 1) := by decide +kernel
theorem dX5_layLeast_14 : decode cX5_layLeast 14 = .ok (.irem, 1) := by decide +kernel
theorem dX5_layLeast_15 : decode cX5_layLeast 15 = .ok (.istore_n 3, 1) := by decide +kernel
theorem dX5_layLeast_16 : decode cX5_layLeast 16 = .ok (.iload_n 2, 1) := by decide +kernel
theorem dX5_layLeast_17 : decode cX5_layLeast 17 = .ok (.iload_n 3, 1) := by decide +kernel
theorem dX5_layLeast_18 : decode cX5_layLeast 18 = .ok (.if_icmp .ge 7, 3) := by decide +kernel
theorem dX5_layLeast_21 : decode cX5_layLeast 21 = .ok (.iload_n 1, 1) := by decide +kernel
theorem dX5_layLeast_22 : decode cX5_layLeast 22 = .ok (.goto 8, 3) := by decide +kernel
theorem dX5_layLeast_25 : decode cX5_layLeast 25 = .ok (.iconst 5, 1) := by decide +kernel
theorem dX5_layLeast_26 : decode cX5_layLeast 26 = .ok (.iload_n 3, 1) := by decide +kernel
theorem dX5_layLeast_27 : decode cX5_layLeast 27 = .ok (.imul, 1) := by decide +kernel
theorem dX5_layLeast_28 : decode cX5_layLeast 28 = .ok (.iload_n 2, 1) := by decide +kernel
theorem dX5_layLeast_29 : decode cX5_layLeast 29 = .ok (.iadd, 1) := by decide +kernel
theorem dX5_layLeast_30 : decode cX5_layLeast 30 = .ok (.istore 4, 2) := by decide +kernel
theorem dX5_layLeast_32 : decode cX5_layLeast 32 = .ok (.aload_n 0, 1) := by decide +kernel
theorem dX5_layLeast_33 : decode cX5_layLeast 33 = .ok (.getfield 20, 3) := by decide +kernel
theorem dX5_layLeast_36 : decode cX5_layLeast 36 = .ok (.iload_n 1, 1) := by decide +kernel
theorem dX5_layLeast_37 : decode cX5_layLeast 37 = .ok (.iload_n 2, 1) := by decide +kernel
theorem dX5_layLeast_38 : decode cX5_layLeast 38 = .ok (.iload_n 3, 1) := by decide +kernel
theorem dX5_layLeast_39 : decode cX5_layLeast 39 = .ok (.if_icmp .ne 7, 3) := by decide +kernel
theorem dX5_layLeast_42 : decode cX5_layLeast 42 = .ok (.iconst 0, 1) := by decide +kernel
theorem dX5_layLeast_43 : decode cX5_layLeast 43 = .ok (.goto 50, 3) := by decide +kernel
theorem dX5_layLeast_46 : decode cX5_layLeast 46 = .ok (.aload_n 0, 1) := by decide +kernel
theorem dX5_layLeast_47 : decode cX5_layLeast 47 = .ok (.getfield 7, 3) := by decide +kernel
theorem dX5_layLeast_50 : decode cX5_layLeast 50 = .ok (.bipush 83, 2) := by decide +kernel
theorem dX5_layLeast_52 : decode cX5_layLeast 52 = .ok (.iload 4, 2) := by decide +kernel
theorem dX5_layLeast_54 : decode cX5_layLeast 54 = .ok (.iadd, 1) := by decide +kernel
theorem dX5_layLeast_55 : decode cX5_layLeast 55 = .ok (.iaload, 1) := by decide +kernel
theorem dX5_layLeast_56 : decode cX5_layLeast 56 = .ok (.ifCond .ne 8, 3) := by decide +kernel
theorem dX5_layLeast_59 : decode cX5_layLeast 59 = .ok (.ldc 94, 2) := by decide +kernel
theorem dX5_layLeast_61 : decode cX5_layLeast 61 = .ok (.goto 32, 3) := by decide +kernel
theorem dX5_layLeast_64 : decode cX5_layLeast 64 = .ok (.iload_n 2, 1) := by decide +kernel
theorem dX5_layLeast_65 : decode cX5_layLeast 65 = .ok (.iload_n 3, 1) := by decide +kernel
theorem dX5_layLeast_66 : decode cX5_layLeast 66 = .ok (.if_icmp .ge 16, 3) := by decide +kernel
theorem dX5_layLeast_69 : decode cX5_layLeast 69 = .ok (.aload_n 0, 1) := by decide +kernel
theorem dX5_layLeast_70 : decode cX5_layLeast 70 = .ok (.getfield 7, 3) := by decide +kernel
theorem dX5_layLeast_73 : decode cX5_layLeast 73 = .ok (.bipush 33, 2) := by decide +kernel
theorem dX5_layLeast_75 : decode cX5_layLeast 75 = .ok (.iload 4, 2) := by decide +kernel
theorem dX5_layLeast_77 : decode cX5_layLeast 77 = .ok (.iadd, 1) := by decide +kernel
theorem dX5_layLeast_78 : decode cX5_layLeast 78 = .ok (.iaload, 1) := by decide +kernel
theorem dX5_layLeast_79 : decode cX5_layLeast 79 = .ok (.goto 14, 3) := by decide +kernel
theorem dX5_layLeast_82 : decode cX5_layLeast 82 = .ok (.aload_n 0, 1) := by decide +kernel
theorem dX5_layLeast_83 : decode cX5_layLeast 83 = .ok (.getfield 7, 3) := by decide +kernel
theorem dX5_layLeast_86 : decode cX5_layLeast 86 = .ok (.bipush 58, 2) := by decide +kernel
theorem dX5_layLeast_88 : decode cX5_layLeast 88 = .ok (.iload 4, 2) := by decide +kernel
theorem dX5_layLeast_90 : decode cX5_layLeast 90 = .ok (.iadd, 1) := by decide +kernel
theorem dX5_layLeast_91 : decode cX5_layLeast 91 = .ok (.iaload, 1) := by decide +kernel
theorem dX5_layLeast_92 : decode cX5_layLeast 92 = .ok (.ineg, 1) := by decide +kernel
theorem dX5_layLeast_93 : decode cX5_layLeast 93 = .ok (.iastore, 1) := by decide +kernel
theorem dX5_layLeast_94 : decode cX5_layLeast 94 = .ok (.iinc 1 1, 3) := by decide +kernel
theorem dX5_layLeast_97 : decode cX5_layLeast 97 = .ok (.goto (-95), 3) := by decide +kernel
theorem dX5_layLeast_100 : decode cX5_layLeast 100 = .ok (.iconst 0, 1) := by decide +kernel
theorem dX5_layLeast_101 : decode cX5_layLeast 101 = .ok (.istore_n 1, 1) := by decide +kernel
theorem dX5_layLeast_102 : decode cX5_layLeast 102 = .ok (.iload_n 1, 1) := by decide +kernel
theorem dX5_layLeast_103 : decode cX5_layLeast 103 = .ok (.iconst 5, 1) := by decide +kernel
theorem dX5_layLeast_104 : decode cX5_layLeast 104 = .ok (.if_icmp .ge 95, 3) := by decide +kernel
theorem dX5_layLeast_107 : decode cX5_layLeast 107 = .ok (.iconst 0, 1) := by decide +kernel
theorem dX5_layLeast_108 : decode cX5_layLeast 108 = .ok (.istore_n 2, 1) := by decide +kernel
theorem dX5_layLeast_109 : decode cX5_layLeast 109 = .ok (.iload_n 2, 1) := by decide +kernel
theorem dX5_layLeast_110 : decode cX5_layLeast 110 = .ok (.bipush 25, 2) := by decide +kernel
theorem dX5_layLeast_112 : decode cX5_layLeast 112 = .ok (.if_icmp .ge 81, 3) := by decide +kernel
theorem dX5_layLeast_115 : decode cX5_layLeast 115 = .ok (.aload_n 0, 1) := by decide +kernel
theorem dX5_layLeast_116 : decode cX5_layLeast 116 = .ok (.getfield 20, 3) := by decide +kernel
theorem dX5_layLeast_119 : decode cX5_layLeast 119 = .ok (.iconst 5, 1) := by decide +kernel
theorem dX5_layLeast_120 : decode cX5_layLeast 120 = .ok (.iload_n 2, 1) := by decide +kernel
theorem dX5_layLeast_121 : decode cX5_layLeast 121 = .ok (.iconst 5, 1) := by decide +kernel
theorem dX5_layLeast_122 : decode cX5_layLeast 122 = .ok (.idiv, 1) := by decide +kernel
theorem dX5_layLeast_123 : decode cX5_layLeast 123 = .ok (.imul, 1) := by decide +kernel
theorem dX5_layLeast_124 : decode cX5_layLeast 124 = .ok (.iload_n 1, 1) := by decide +kernel
theorem dX5_layLeast_125 : decode cX5_layLeast 125 = .ok (.iadd, 1) := by decide +kernel
theorem dX5_layLeast_126 : decode cX5_layLeast 126 = .ok (.iaload, 1) := by decide +kernel
theorem dX5_layLeast_127 : decode cX5_layLeast 127 = .ok (.istore_n 3, 1) := by decide +kernel
theorem dX5_layLeast_128 : decode cX5_layLeast 128 = .ok (.aload_n 0, 1) := by decide +kernel
theorem dX5_layLeast_129 : decode cX5_layLeast 129 = .ok (.getfield 20, 3) := by decide +kernel
theorem dX5_layLeast_132 : decode cX5_layLeast 132 = .ok (.iconst 5, 1) := by decide +kernel
theorem dX5_layLeast_133 : decode cX5_layLeast 133 = .ok (.iload_n 1, 1) := by decide +kernel
theorem dX5_layLeast_134 : decode cX5_layLeast 134 = .ok (.imul, 1) := by decide +kernel
theorem dX5_layLeast_135 : decode cX5_layLeast 135 = .ok (.iload_n 2, 1) := by decide +kernel
theorem dX5_layLeast_136 : decode cX5_layLeast 136 = .ok (.iconst 5, 1) := by decide +kernel
theorem dX5_layLeast_137 : decode cX5_layLeast 137 = .ok (.irem, 1) := by decide +kernel
theorem dX5_layLeast_138 : decode cX5_layLeast 138 = .ok (.iadd, 1) := by decide +kernel
theorem dX5_layLeast_139 : decode cX5_layLeast 139 = .ok (.iaload, 1) := by decide +kernel
theorem dX5_layLeast_140 : decode cX5_layLeast 140 = .ok (.istore 4, 2) := by decide +kernel
theorem dX5_layLeast_142 : decode cX5_layLeast 142 = .ok (.aload_n 0, 1) := by decide +kernel
theorem dX5_layLeast_143 : decode cX5_layLeast 143 = .ok (.getfield 20, 3) := by decide +kernel
theorem dX5_layLeast_146 : decode cX5_layLeast 146 = .ok (.iload_n 2, 1) := by decide +kernel
theorem dX5_layLeast_147 : decode cX5_layLeast 147 = .ok (.iload_n 3, 1) := by decide +kernel
theorem dX5_layLeast_148 : decode cX5_layLeast 148 = .ok (.ldc 94, 2) := by decide +kernel
theorem dX5_layLeast_150 : decode cX5_layLeast 150 = .ok (.if_icmp .ge 30, 3) := by decide +kernel
theorem dX5_layLeast_153 : decode cX5_layLeast 153 = .ok (.iload 4, 2) := by decide +kernel
theorem dX5_layLeast_155 : decode cX5_layLeast 155 = .ok (.ldc 94, 2) := by decide +kernel
theorem dX5_layLeast_157 : decode cX5_layLeast 157 = .ok (.if_icmp .ge 23, 3) := by decide +kernel
theorem dX5_layLeast_160 : decode cX5_layLeast 160 = .ok (.iload_n 3, 1) := by decide +kernel
theorem dX5_layLeast_161 : decode cX5_layLeast 161 = .ok (.iload 4, 2) := by decide +kernel
theorem dX5_layLeast_163 : decode cX5_layLeast 163 = .ok (.iadd, 1) := by decide +kernel
theorem dX5_layLeast_164 : decode cX5_layLeast 164 = .ok (.aload_n 0, 1) := by decide +kernel
theorem dX5_layLeast_165 : decode cX5_layLeast 165 = .ok (.getfield 20, 3) := by decide +kernel
theorem dX5_layLeast_168 : decode cX5_layLeast 168 = .ok (.iload_n 2, 1) := by decide +kernel
theorem dX5_layLeast_169 : decode cX5_layLeast 169 = .ok (.iaload, 1) := by decide +kernel
theorem dX5_layLeast_170 : decode cX5_layLeast 170 = .ok (.if_icmp .ge 10, 3) := by decide +kernel
theorem dX5_layLeast_173 : decode cX5_layLeast 173 = .ok (.iload_n 3, 1) := by decide +kernel
theorem dX5_layLeast_174 : decode cX5_layLeast 174 = .ok (.iload 4, 2) := by decide +kernel
theorem dX5_layLeast_176 : decode cX5_layLeast 176 = .ok (.iadd, 1) := by decide +kernel
theorem dX5_layLeast_177 : decode cX5_layLeast 177 = .ok (.goto 9, 3) := by decide +kernel
theorem dX5_layLeast_180 : decode cX5_layLeast 180 = .ok (.aload_n 0, 1) := by decide +kernel
theorem dX5_layLeast_181 : decode cX5_layLeast 181 = .ok (.getfield 20, 3) := by decide +kernel
theorem dX5_layLeast_184 : decode cX5_layLeast 184 = .ok (.iload_n 2, 1) := by decide +kernel
theorem dX5_layLeast_185 : decode cX5_layLeast 185 = .ok (.iaload, 1) := by decide +kernel
theorem dX5_layLeast_186 : decode cX5_layLeast 186 = .ok (.iastore, 1) := by decide +kernel
theorem dX5_layLeast_187 : decode cX5_layLeast 187 = .ok (.iinc 2 1, 3) := by decide +kernel
theorem dX5_layLeast_190 : decode cX5_layLeast 190 = .ok (.goto (-81), 3) := by decide +kernel
theorem dX5_layLeast_193 : decode cX5_layLeast 193 = .ok (.iinc 1 1, 3) := by decide +kernel
theorem dX5_layLeast_196 : decode cX5_layLeast 196 = .ok (.goto (-94), 3) := by decide +kernel
theorem dX5_layLeast_199 : decode cX5_layLeast 199 = .ok (.return_, 1) := by decide +kernel
set_option maxRecDepth 20000 in
theorem ggX5_tight_X5_isNode : GoodIn wsX5_tight wsX5_isNode := goodIn_r _ [9, 10, 11, 12, 8, 13, 18, 19, 20, 21] (by decide +kernel) (by decide +kernel)
set_option maxRecDepth 20000 in
theorem gX5_tight_X5_isNode : GoodIn wsX5_tight (wsV RX5 43 RX5 yX5_isNode wsX5_isNode) := goodIn_app (goodIn_of _ (by decide +kernel)) ggX5_tight_X5_isNode
set_option maxRecDepth 20000 in
theorem ggX5_tight_X5_layLeast : GoodIn wsX5_tight wsX5_layLeast := goodIn_r _ [17, 2, 10, 3, 18, 19, 20, 21] (by decide +kernel) (by decide +kernel)
set_option maxRecDepth 20000 in
theorem gX5_tight_X5_layLeast : GoodIn wsX5_tight (wsV RX5 95 RX5 yX5_layLeast wsX5_layLeast) := goodIn_app (goodIn_of _ (by decide +kernel)) ggX5_tight_X5_layLeast
theorem dX5_tight_0 : decode cX5_tight 0 = .ok (.aload_n 0, 1) := by decide +kernel
theorem dX5_tight_1 : decode cX5_tight 1 = .ok (.iload_n 1, 1) := by decide +kernel
theorem dX5_tight_2 : decode cX5_tight 2 = .ok (.invokevirtual 43, 3) := by decide +kernel
theorem dX5_tight_5 : decode cX5_tight 5 = .ok (.ifCond .eq 11, 3) := by decide +kernel
theorem dX5_tight_8 : decode cX5_tight 8 = .ok (.aload_n 0, 1) := by decide +kernel
theorem dX5_tight_9 : decode cX5_tight 9 = .ok (.iload_n 2, 1) := by decide +kernel
theorem dX5_tight_10 : decode cX5_tight 10 = .ok (.invokevirtual 43, 3) := by decide +kernel
theorem dX5_tight_13 : decode cX5_tight 13 = .ok (.ifCond .ne 6, 3) := by decide +kernel
theorem dX5_tight_16 : decode cX5_tight 16 = .ok (.ldc 46, 2) := by decide +kernel
theorem dX5_tight_18 : decode cX5_tight 18 = .ok (.ireturn, 1) := by decide +kernel
theorem dX5_tight_19 : decode cX5_tight 19 = .ok (.aload_n 0, 1) := by decide +kernel
theorem dX5_tight_20 : decode cX5_tight 20 = .ok (.invokevirtual 95, 3) := by decide +kernel
theorem dX5_tight_23 : decode cX5_tight 23 = .ok (.aload_n 0, 1) := by decide +kernel
theorem dX5_tight_24 : decode cX5_tight 24 = .ok (.getfield 20, 3) := by decide +kernel
theorem dX5_tight_27 : decode cX5_tight 27 = .ok (.iconst 5, 1) := by decide +kernel
theorem dX5_tight_28 : decode cX5_tight 28 = .ok (.iload_n 1, 1) := by decide +kernel
theorem dX5_tight_29 : decode cX5_tight 29 = .ok (.imul, 1) := by decide +kernel
theorem dX5_tight_30 : decode cX5_tight 30 = .ok (.iload_n 2, 1) := by decide +kernel
theorem dX5_tight_31 : decode cX5_tight 31 = .ok (.iadd, 1) := by decide +kernel
theorem dX5_tight_32 : decode cX5_tight 32 = .ok (.iaload, 1) := by decide +kernel
theorem dX5_tight_33 : decode cX5_tight 33 = .ok (.istore_n 3, 1) := by decide +kernel
theorem dX5_tight_34 : decode cX5_tight 34 = .ok (.iload_n 3, 1) := by decide +kernel
theorem dX5_tight_35 : decode cX5_tight 35 = .ok (.ldc 94, 2) := by decide +kernel
theorem dX5_tight_37 : decode cX5_tight 37 = .ok (.if_icmp .ne 8, 3) := by decide +kernel
theorem dX5_tight_40 : decode cX5_tight 40 = .ok (.ldc 93, 2) := by decide +kernel
theorem dX5_tight_42 : decode cX5_tight 42 = .ok (.goto 4, 3) := by decide +kernel
theorem dX5_tight_45 : decode cX5_tight 45 = .ok (.iload_n 3, 1) := by decide +kernel
theorem dX5_tight_46 : decode cX5_tight 46 = .ok (.ireturn, 1) := by decide +kernel
set_option maxRecDepth 20000 in
theorem ggX5_truth_X5_isNode : GoodIn wsX5_truth wsX5_isNode := goodIn_r _ [11, 12, 13, 14, 10, 15, 41, 42, 43, 44] (by decide +kernel) (by decide +kernel)
set_option maxRecDepth 20000 in
theorem gX5_truth_X5_isNode : GoodIn wsX5_truth (wsV RX5 43 RX5 yX5_isNode wsX5_isNode) := goodIn_app (goodIn_of _ (by decide +kernel)) ggX5_truth_X5_isNode
set_option maxRecDepth 20000 in
theorem ggX5_truth_X5_isBlock : GoodIn wsX5_truth wsX5_isBlock := goodIn_r _ [18, 13, 14, 10, 15] (by decide +kernel) (by decide +kernel)
set_option maxRecDepth 20000 in
theorem gX5_truth_X5_isBlock : GoodIn wsX5_truth (va_wsS RX5 64 yX5_isBlock wsX5_isBlock) := goodIn_app (goodIn_of _ (by decide +kernel)) ggX5_truth_X5_isBlock
set_option maxRecDepth 20000 in
theorem ggX5_truth_X5_in : GoodIn wsX5_truth wsX5_in := goodIn_r _ [15] (by decide +kernel) (by decide +kernel)
set_option maxRecDepth 20000 in
theorem gX5_truth_X5_in : GoodIn wsX5_truth (va_wsS RX5 27 yX5_in wsX5_in) := goodIn_app (goodIn_of _ (by decide +kernel)) ggX5_truth_X5_in
set_option maxRecDepth 20000 in
theorem ggX5_truth_X5_isTaken : GoodIn wsX5_truth wsX5_isTaken := goodIn_r _ [22, 23, 24, 25, 10, 26, 12, 41, 42, 43, 44] (by decide +kernel) (by decide +kernel)
set_option maxRecDepth 20000 in
theorem gX5_truth_X5_isTaken : GoodIn wsX5_truth (wsV RX5 79 RX5 yX5_isTaken wsX5_isTaken) := goodIn_app (goodIn_of _ (by decide +kernel)) ggX5_truth_X5_isTaken
set_option maxRecDepth 20000 in
theorem ggX5_truth_X5_layLeast : GoodIn wsX5_truth wsX5_layLeast := goodIn_r _ [30, 4, 12, 5, 41, 42, 43, 44] (by decide +kernel) (by decide +kernel)
set_option maxRecDepth 20000 in
theorem gX5_truth_X5_layLeast : GoodIn wsX5_truth (wsV RX5 95 RX5 yX5_layLeast wsX5_layLeast) := goodIn_app (goodIn_of _ (by decide +kernel)) ggX5_truth_X5_layLeast
set_option maxRecDepth 20000 in
theorem ggX5_truth_X5_countOf : GoodIn wsX5_truth wsX5_countOf := goodIn_r _ [26, 12, 41, 42, 43, 44] (by decide +kernel) (by decide +kernel)
set_option maxRecDepth 20000 in
theorem gX5_truth_X5_countOf : GoodIn wsX5_truth (wsV RX5 67 RX5 yX5_countOf wsX5_countOf) := goodIn_app (goodIn_of _ (by decide +kernel)) ggX5_truth_X5_countOf
set_option maxRecDepth 20000 in
theorem ggX5_truth_X5_sumOf : GoodIn wsX5_truth wsX5_sumOf := goodIn_r _ [34, 12, 41, 42, 43, 44] (by decide +kernel) (by decide +kernel)
set_option maxRecDepth 20000 in
theorem gX5_truth_X5_sumOf : GoodIn wsX5_truth (wsV RX5 70 RX5 yX5_sumOf wsX5_sumOf) := goodIn_app (goodIn_of _ (by decide +kernel)) ggX5_truth_X5_sumOf
set_option maxRecDepth 20000 in
theorem ggX5_truth_X5_told : GoodIn wsX5_truth wsX5_told := goodIn_r _ [37, 38, 39, 10, 40] (by decide +kernel) (by decide +kernel)
set_option maxRecDepth 20000 in
theorem gX5_truth_X5_told : GoodIn wsX5_truth (va_wsS RX5 83 yX5_told wsX5_told) := goodIn_app (goodIn_of _ (by decide +kernel)) ggX5_truth_X5_told
theorem dX5_truth_0 : decode cX5_truth 0 = .ok (.aload_n 0, 1) := by decide +kernel
theorem dX5_truth_1 : decode cX5_truth 1 = .ok (.iload_n 1, 1) := by decide +kernel
theorem dX5_truth_2 : decode cX5_truth 2 = .ok (.invokevirtual 43, 3) := by decide +kernel
theorem dX5_truth_5 : decode cX5_truth 5 = .ok (.ifCond .eq 11, 3) := by decide +kernel
theorem dX5_truth_8 : decode cX5_truth 8 = .ok (.aload_n 0, 1) := by decide +kernel
theorem dX5_truth_9 : decode cX5_truth 9 = .ok (.iload_n 2, 1) := by decide +kernel
theorem dX5_truth_10 : decode cX5_truth 10 = .ok (.invokevirtual 43, 3) := by decide +kernel
theorem dX5_truth_13 : decode cX5_truth 13 = .ok (.ifCond .ne 6, 3) := by decide +kernel
theorem dX5_truth_16 : decode cX5_truth 16 = .ok (.ldc 46, 2) := by decide +kernel
theorem dX5_truth_18 : decode cX5_truth 18 = .ok (.ireturn, 1) := by decide +kernel
theorem dX5_truth_19 : decode cX5_truth 19 = .ok (.iload_n 2, 1) := by decide +kernel
theorem dX5_truth_20 : decode cX5_truth 20 = .ok (.iload_n 1, 1) := by decide +kernel
theorem dX5_truth_21 : decode cX5_truth 21 = .ok (.if_icmp .le 30, 3) := by decide +kernel
theorem dX5_truth_24 : decode cX5_truth 24 = .ok (.iload_n 3, 1) := by decide +kernel
theorem dX5_truth_25 : decode cX5_truth 25 = .ok (.invokestatic 64, 3) := by decide +kernel
theorem dX5_truth_28 : decode cX5_truth 28 = .ok (.ifCond .eq 23, 3) := by decide +kernel
theorem dX5_truth_31 : decode cX5_truth 31 = .ok (.iload 4, 2) := by decide +kernel
theorem dX5_truth_33 : decode cX5_truth 33 = .ok (.iconst 0, 1) := by decide +kernel
theorem dX5_truth_34 : decode cX5_truth 34 = .ok (.iconst 1, 1) := by decide +kernel
theorem dX5_truth_35 : decode cX5_truth 35 = .ok (.invokestatic 27, 3) := by decide +kernel
theorem dX5_truth_38 : decode cX5_truth 38 = .ok (.ifCond .eq 13, 3) := by decide +kernel
theorem dX5_truth_41 : decode cX5_truth 41 = .ok (.iload 5, 2) := by decide +kernel
theorem dX5_truth_43 : decode cX5_truth 43 = .ok (.iconst 0, 1) := by decide +kernel
theorem dX5_truth_44 : decode cX5_truth 44 = .ok (.iconst 1, 1) := by decide +kernel
theorem dX5_truth_45 : decode cX5_truth 45 = .ok (.invokestatic 27, 3) := by decide +kernel
theorem dX5_truth_48 : decode cX5_truth 48 = .ok (.ifCond .ne 6, 3) := by decide +kernel
theorem dX5_truth_51 : decode cX5_truth 51 = .ok (.ldc 47, 2) := by decide +kernel
theorem dX5_truth_53 : decode cX5_truth 53 = .ok (.ireturn, 1) := by decide +kernel
theorem dX5_truth_54 : decode cX5_truth 54 = .ok (.aload_n 0, 1) := by decide +kernel
theorem dX5_truth_55 : decode cX5_truth 55 = .ok (.iload_n 1, 1) := by decide +kernel
theorem dX5_truth_56 : decode cX5_truth 56 = .ok (.iload_n 2, 1) := by decide +kernel
theorem dX5_truth_57 : decode cX5_truth 57 = .ok (.iload_n 3, 1) := by decide +kernel
theorem dX5_truth_58 : decode cX5_truth 58 = .ok (.invokevirtual 79, 3) := by decide +kernel
theorem dX5_truth_61 : decode cX5_truth 61 = .ok (.ifCond .ne 6, 3) := by decide +kernel
theorem dX5_truth_64 : decode cX5_truth 64 = .ok (.ldc 82, 2) := by decide +kernel
theorem dX5_truth_66 : decode cX5_truth 66 = .ok (.ireturn, 1) := by decide +kernel
theorem dX5_truth_67 : decode cX5_truth 67 = .ok (.aload_n 0, 1) := by decide +kernel
theorem dX5_truth_68 : decode cX5_truth 68 = .ok (.invokevirtual 95, 3) := by decide +kernel
theorem dX5_truth_71 : decode cX5_truth 71 = .ok (.iload 4, 2) := by decide +kernel
theorem dX5_truth_73 : decode cX5_truth 73 = .ok (.ifCond .ne 16, 3) := by decide +kernel
theorem dX5_truth_76 : decode cX5_truth 76 = .ok (.aload_n 0, 1) := by decide +kernel
theorem dX5_truth_77 : decode cX5_truth 77 = .ok (.getfield 20, 3) := by decide +kernel
theorem dX5_truth_80 : decode cX5_truth 80 = .ok (.iconst 5, 1) := by decide +kernel
theorem dX5_truth_81 : decode cX5_truth 81 = .ok (.iload_n 2, 1) := by decide +kernel
theorem dX5_truth_82 : decode cX5_truth 82 = .ok (.imul, 1) := by decide +kernel
theorem dX5_truth_83 : decode cX5_truth 83 = .ok (.iload_n 1, 1) := by decide +kernel
theorem dX5_truth_84 : decode cX5_truth 84 = .ok (.iadd, 1) := by decide +kernel
theorem dX5_truth_85 : decode cX5_truth 85 = .ok (.iaload, 1) := by decide +kernel
theorem dX5_truth_86 : decode cX5_truth 86 = .ok (.goto 13, 3) := by decide +kernel
theorem dX5_truth_89 : decode cX5_truth 89 = .ok (.aload_n 0, 1) := by decide +kernel
theorem dX5_truth_90 : decode cX5_truth 90 = .ok (.getfield 20, 3) := by decide +kernel
theorem dX5_truth_93 : decode cX5_truth 93 = .ok (.iconst 5, 1) := by decide +kernel
theorem dX5_truth_94 : decode cX5_truth 94 = .ok (.iload_n 1, 1) := by decide +kernel
theorem dX5_truth_95 : decode cX5_truth 95 = .ok (.imul, 1) := by decide +kernel
theorem dX5_truth_96 : decode cX5_truth 96 = .ok (.iload_n 2, 1) := by decide +kernel
theorem dX5_truth_97 : decode cX5_truth 97 = .ok (.iadd, 1) := by decide +kernel
theorem dX5_truth_98 : decode cX5_truth 98 = .ok (.iaload, 1) := by decide +kernel
theorem dX5_truth_99 : decode cX5_truth 99 = .ok (.istore 6, 2) := by decide +kernel
theorem dX5_truth_101 : decode cX5_truth 101 = .ok (.iload 6, 2) := by decide +kernel
theorem dX5_truth_103 : decode cX5_truth 103 = .ok (.ldc 94, 2) := by decide +kernel
theorem dX5_truth_105 : decode cX5_truth 105 = .ok (.if_icmp .ne 6, 3) := by decide +kernel
theorem dX5_truth_108 : decode cX5_truth 108 = .ok (.ldc 93, 2) := by decide +kernel
theorem dX5_truth_110 : decode cX5_truth 110 = .ok (.ireturn, 1) := by decide +kernel
theorem dX5_truth_111 : decode cX5_truth 111 = .ok (.iload 4, 2) := by decide +kernel
theorem dX5_truth_113 : decode cX5_truth 113 = .ok (.ifCond .ne 8, 3) := by decide +kernel
theorem dX5_truth_116 : decode cX5_truth 116 = .ok (.iload 6, 2) := by decide +kernel
theorem dX5_truth_118 : decode cX5_truth 118 = .ok (.goto 6, 3) := by decide +kernel
theorem dX5_truth_121 : decode cX5_truth 121 = .ok (.iload 6, 2) := by decide +kernel
theorem dX5_truth_123 : decode cX5_truth 123 = .ok (.ineg, 1) := by decide +kernel
theorem dX5_truth_124 : decode cX5_truth 124 = .ok (.istore 7, 2) := by decide +kernel
theorem dX5_truth_126 : decode cX5_truth 126 = .ok (.aload_n 0, 1) := by decide +kernel
theorem dX5_truth_127 : decode cX5_truth 127 = .ok (.iload_n 2, 1) := by decide +kernel
theorem dX5_truth_128 : decode cX5_truth 128 = .ok (.iload_n 3, 1) := by decide +kernel
theorem dX5_truth_129 : decode cX5_truth 129 = .ok (.invokevirtual 67, 3) := by decide +kernel
theorem dX5_truth_132 : decode cX5_truth 132 = .ok (.istore 8, 2) := by decide +kernel
theorem dX5_truth_134 : decode cX5_truth 134 = .ok (.aload_n 0, 1) := by decide +kernel
theorem dX5_truth_135 : decode cX5_truth 135 = .ok (.iload_n 2, 1) := by decide +kernel
theorem dX5_truth_136 : decode cX5_truth 136 = .ok (.iload_n 3, 1) := by decide +kernel
theorem dX5_truth_137 : decode cX5_truth 137 = .ok (.invokevirtual 70, 3) := by decide +kernel
theorem dX5_truth_140 : decode cX5_truth 140 = .ok (.aload_n 0, 1) := by decide +kernel
theorem dX5_truth_141 : decode cX5_truth 141 = .ok (.iload_n 1, 1) := by decide +kernel
theorem dX5_truth_142 : decode cX5_truth 142 = .ok (.iload_n 3, 1) := by decide +kernel
theorem dX5_truth_143 : decode cX5_truth 143 = .ok (.invokevirtual 70, 3) := by decide +kernel
theorem dX5_truth_146 : decode cX5_truth 146 = .ok (.isub, 1) := by decide +kernel
theorem dX5_truth_147 : decode cX5_truth 147 = .ok (.iload 7, 2) := by decide +kernel
theorem dX5_truth_149 : decode cX5_truth 149 = .ok (.iload 8, 2) := by decide +kernel
theorem dX5_truth_151 : decode cX5_truth 151 = .ok (.imul, 1) := by decide +kernel
theorem dX5_truth_152 : decode cX5_truth 152 = .ok (.iadd, 1) := by decide +kernel
theorem dX5_truth_153 : decode cX5_truth 153 = .ok (.iload 8, 2) := by decide +kernel
theorem dX5_truth_155 : decode cX5_truth 155 = .ok (.iload 5, 2) := by decide +kernel
theorem dX5_truth_157 : decode cX5_truth 157 = .ok (.invokestatic 83, 3) := by decide +kernel
theorem dX5_truth_160 : decode cX5_truth 160 = .ok (.ireturn, 1) := by decide +kernel
set_option maxRecDepth 20000 in
theorem ggX5_image_X5_in : GoodIn wsX5_image wsX5_in := goodIn_r _ [7] (by decide +kernel) (by decide +kernel)
set_option maxRecDepth 20000 in
theorem gX5_image_X5_in : GoodIn wsX5_image (va_wsS RX5 27 yX5_in wsX5_in) := goodIn_app (goodIn_of _ (by decide +kernel)) ggX5_image_X5_in
theorem dX5_image_0 : decode cX5_image 0 = .ok (.iload_n 1, 1) := by decide +kernel
theorem dX5_image_1 : decode cX5_image 1 = .ok (.iconst 0, 1) := by decide +kernel
theorem dX5_image_2 : decode cX5_image 2 = .ok (.iconst 1, 1) := by decide +kernel
theorem dX5_image_3 : decode cX5_image 3 = .ok (.invokestatic 27, 3) := by decide +kernel
theorem dX5_image_6 : decode cX5_image 6 = .ok (.ifCond .ne 6, 3) := by decide +kernel
theorem dX5_image_9 : decode cX5_image 9 = .ok (.bipush (-2), 2) := by decide +kernel
theorem dX5_image_11 : decode cX5_image 11 = .ok (.ireturn, 1) := by decide +kernel
theorem dX5_image_12 : decode cX5_image 12 = .ok (.iconst 0, 1) := by decide +kernel
theorem dX5_image_13 : decode cX5_image 13 = .ok (.istore_n 2, 1) := by decide +kernel
theorem dX5_image_14 : decode cX5_image 14 = .ok (.iload_n 2, 1) := by decide +kernel
theorem dX5_image_15 : decode cX5_image 15 = .ok (.sipush 2108, 3) := by decide +kernel
theorem dX5_image_18 : decode cX5_image 18 = .ok (.if_icmp .ge 27, 3) := by decide +kernel
theorem dX5_image_21 : decode cX5_image 21 = .ok (.aload_n 0, 1) := by decide +kernel
theorem dX5_image_22 : decode cX5_image 22 = .ok (.getfield 13, 3) := by decide +kernel
theorem dX5_image_25 : decode cX5_image 25 = .ok (.sipush 2108, 3) := by decide +kernel
theorem dX5_image_28 : decode cX5_image 28 = .ok (.iload_n 1, 1) := by decide +kernel
theorem dX5_image_29 : decode cX5_image 29 = .ok (.imul, 1) := by decide +kernel
theorem dX5_image_30 : decode cX5_image 30 = .ok (.iload_n 2, 1) := by decide +kernel
theorem dX5_image_31 : decode cX5_image 31 = .ok (.iadd, 1) := by decide +kernel
theorem dX5_image_32 : decode cX5_image 32 = .ok (.aload_n 0, 1) := by decide +kernel
theorem dX5_image_33 : decode cX5_image 33 = .ok (.getfield 7, 3) := by decide +kernel
theorem dX5_image_36 : decode cX5_image 36 = .ok (.iload_n 2, 1) := by decide +kernel
theorem dX5_image_37 : decode cX5_image 37 = .ok (.iaload, 1) := by decide +kernel
theorem dX5_image_38 : decode cX5_image 38 = .ok (.iastore, 1) := by decide +kernel
theorem dX5_image_39 : decode cX5_image 39 = .ok (.iinc 2 1, 3) := by decide +kernel
theorem dX5_image_42 : decode cX5_image 42 = .ok (.goto (-28), 3) := by decide +kernel
theorem dX5_image_45 : decode cX5_image 45 = .ok (.aload_n 0, 1) := by decide +kernel
theorem dX5_image_46 : decode cX5_image 46 = .ok (.getfield 16, 3) := by decide +kernel
theorem dX5_image_49 : decode cX5_image 49 = .ok (.iload_n 1, 1) := by decide +kernel
theorem dX5_image_50 : decode cX5_image 50 = .ok (.iconst 1, 1) := by decide +kernel
theorem dX5_image_51 : decode cX5_image 51 = .ok (.bastore, 1) := by decide +kernel
theorem dX5_image_52 : decode cX5_image 52 = .ok (.iconst 1, 1) := by decide +kernel
theorem dX5_image_53 : decode cX5_image 53 = .ok (.ireturn, 1) := by decide +kernel
set_option maxRecDepth 20000 in
theorem ggX5_restore_X5_in : GoodIn wsX5_restore wsX5_in := goodIn_r _ [7] (by decide +kernel) (by decide +kernel)
set_option maxRecDepth 20000 in
theorem gX5_restore_X5_in : GoodIn wsX5_restore (va_wsS RX5 27 yX5_in wsX5_in) := goodIn_app (goodIn_of _ (by decide +kernel)) ggX5_restore_X5_in
theorem dX5_restore_0 : decode cX5_restore 0 = .ok (.iload_n 1, 1) := by decide +kernel
theorem dX5_restore_1 : decode cX5_restore 1 = .ok (.iconst 0, 1) := by decide +kernel
theorem dX5_restore_2 : decode cX5_restore 2 = .ok (.iconst 1, 1) := by decide +kernel
theorem dX5_restore_3 : decode cX5_restore 3 = .ok (.invokestatic 27, 3) := by decide +kernel
theorem dX5_restore_6 : decode cX5_restore 6 = .ok (.ifCond .ne 6, 3) := by decide +kernel
theorem dX5_restore_9 : decode cX5_restore 9 = .ok (.bipush (-2), 2) := by decide +kernel
theorem dX5_restore_11 : decode cX5_restore 11 = .ok (.ireturn, 1) := by decide +kernel
theorem dX5_restore_12 : decode cX5_restore 12 = .ok (.aload_n 0, 1) := by decide +kernel
theorem dX5_restore_13 : decode cX5_restore 13 = .ok (.getfield 16, 3) := by decide +kernel
theorem dX5_restore_16 : decode cX5_restore 16 = .ok (.iload_n 1, 1) := by decide +kernel
theorem dX5_restore_17 : decode cX5_restore 17 = .ok (.baload, 1) := by decide +kernel
theorem dX5_restore_18 : decode cX5_restore 18 = .ok (.ifCond .ne 6, 3) := by decide +kernel
theorem dX5_restore_21 : decode cX5_restore 21 = .ok (.bipush (-3), 2) := by decide +kernel
theorem dX5_restore_23 : decode cX5_restore 23 = .ok (.ireturn, 1) := by decide +kernel
theorem dX5_restore_24 : decode cX5_restore 24 = .ok (.iconst 0, 1) := by decide +kernel
theorem dX5_restore_25 : decode cX5_restore 25 = .ok (.istore_n 2, 1) := by decide +kernel
theorem dX5_restore_26 : decode cX5_restore 26 = .ok (.iload_n 2, 1) := by decide +kernel
theorem dX5_restore_27 : decode cX5_restore 27 = .ok (.sipush 2108, 3) := by decide +kernel
theorem dX5_restore_30 : decode cX5_restore 30 = .ok (.if_icmp .ge 27, 3) := by decide +kernel
theorem dX5_restore_33 : decode cX5_restore 33 = .ok (.aload_n 0, 1) := by decide +kernel
theorem dX5_restore_34 : decode cX5_restore 34 = .ok (.getfield 7, 3) := by decide +kernel
theorem dX5_restore_37 : decode cX5_restore 37 = .ok (.iload_n 2, 1) := by decide +kernel
theorem dX5_restore_38 : decode cX5_restore 38 = .ok (.aload_n 0, 1) := by decide +kernel
theorem dX5_restore_39 : decode cX5_restore 39 = .ok (.getfield 13, 3) := by decide +kernel
theorem dX5_restore_42 : decode cX5_restore 42 = .ok (.sipush 2108, 3) := by decide +kernel
theorem dX5_restore_45 : decode cX5_restore 45 = .ok (.iload_n 1, 1) := by decide +kernel
theorem dX5_restore_46 : decode cX5_restore 46 = .ok (.imul, 1) := by decide +kernel
theorem dX5_restore_47 : decode cX5_restore 47 = .ok (.iload_n 2, 1) := by decide +kernel
theorem dX5_restore_48 : decode cX5_restore 48 = .ok (.iadd, 1) := by decide +kernel
theorem dX5_restore_49 : decode cX5_restore 49 = .ok (.iaload, 1) := by decide +kernel
theorem dX5_restore_50 : decode cX5_restore 50 = .ok (.iastore, 1) := by decide +kernel
theorem dX5_restore_51 : decode cX5_restore 51 = .ok (.iinc 2 1, 3) := by decide +kernel
theorem dX5_restore_54 : decode cX5_restore 54 = .ok (.goto (-28), 3) := by decide +kernel
theorem dX5_restore_57 : decode cX5_restore 57 = .ok (.iconst 1, 1) := by decide +kernel
theorem dX5_restore_58 : decode cX5_restore 58 = .ok (.ireturn, 1) := by decide +kernel
theorem dX5_blocksSent_0 : decode cX5_blocksSent 0 = .ok (.aload_n 0, 1) := by decide +kernel
theorem dX5_blocksSent_1 : decode cX5_blocksSent 1 = .ok (.getfield 7, 3) := by decide +kernel
theorem dX5_blocksSent_4 : decode cX5_blocksSent 4 = .ok (.iconst 2, 1) := by decide +kernel
theorem dX5_blocksSent_5 : decode cX5_blocksSent 5 = .ok (.iaload, 1) := by decide +kernel
theorem dX5_blocksSent_6 : decode cX5_blocksSent 6 = .ok (.aload_n 0, 1) := by decide +kernel
theorem dX5_blocksSent_7 : decode cX5_blocksSent 7 = .ok (.getfield 7, 3) := by decide +kernel
theorem dX5_blocksSent_10 : decode cX5_blocksSent 10 = .ok (.iconst 3, 1) := by decide +kernel
theorem dX5_blocksSent_11 : decode cX5_blocksSent 11 = .ok (.iaload, 1) := by decide +kernel
theorem dX5_blocksSent_12 : decode cX5_blocksSent 12 = .ok (.iadd, 1) := by decide +kernel
theorem dX5_blocksSent_13 : decode cX5_blocksSent 13 = .ok (.iconst 1, 1) := by decide +kernel
theorem dX5_blocksSent_14 : decode cX5_blocksSent 14 = .ok (.isub, 1) := by decide +kernel
theorem dX5_blocksSent_15 : decode cX5_blocksSent 15 = .ok (.aload_n 0, 1) := by decide +kernel
theorem dX5_blocksSent_16 : decode cX5_blocksSent 16 = .ok (.getfield 7, 3) := by decide +kernel
theorem dX5_blocksSent_19 : decode cX5_blocksSent 19 = .ok (.iconst 3, 1) := by decide +kernel
theorem dX5_blocksSent_20 : decode cX5_blocksSent 20 = .ok (.iaload, 1) := by decide +kernel
theorem dX5_blocksSent_21 : decode cX5_blocksSent 21 = .ok (.idiv, 1) := by decide +kernel
theorem dX5_blocksSent_22 : decode cX5_blocksSent 22 = .ok (.ireturn, 1) := by decide +kernel
theorem dX5_pairs_0 : decode cX5_pairs 0 = .ok (.iconst 0, 1) := by decide +kernel
theorem dX5_pairs_1 : decode cX5_pairs 1 = .ok (.istore_n 1, 1) := by decide +kernel
theorem dX5_pairs_2 : decode cX5_pairs 2 = .ok (.iconst 0, 1) := by decide +kernel
theorem dX5_pairs_3 : decode cX5_pairs 3 = .ok (.istore_n 2, 1) := by decide +kernel
theorem dX5_pairs_4 : decode cX5_pairs 4 = .ok (.iload_n 2, 1) := by decide +kernel
theorem dX5_pairs_5 : decode cX5_pairs 5 = .ok (.bipush 25, 2) := by decide +kernel
theorem dX5_pairs_7 : decode cX5_pairs 7 = .ok (.if_icmp .ge 21, 3) := by decide +kernel
theorem dX5_pairs_10 : decode cX5_pairs 10 = .ok (.iload_n 1, 1) := by decide +kernel
theorem dX5_pairs_11 : decode cX5_pairs 11 = .ok (.aload_n 0, 1) := by decide +kernel
theorem dX5_pairs_12 : decode cX5_pairs 12 = .ok (.getfield 7, 3) := by decide +kernel
theorem dX5_pairs_15 : decode cX5_pairs 15 = .ok (.bipush 83, 2) := by decide +kernel
theorem dX5_pairs_17 : decode cX5_pairs 17 = .ok (.iload_n 2, 1) := by decide +kernel
theorem dX5_pairs_18 : decode cX5_pairs 18 = .ok (.iadd, 1) := by decide +kernel
theorem dX5_pairs_19 : decode cX5_pairs 19 = .ok (.iaload, 1) := by decide +kernel
theorem dX5_pairs_20 : decode cX5_pairs 20 = .ok (.iadd, 1) := by decide +kernel
theorem dX5_pairs_21 : decode cX5_pairs 21 = .ok (.istore_n 1, 1) := by decide +kernel
theorem dX5_pairs_22 : decode cX5_pairs 22 = .ok (.iinc 2 1, 3) := by decide +kernel
theorem dX5_pairs_25 : decode cX5_pairs 25 = .ok (.goto (-21), 3) := by decide +kernel
theorem dX5_pairs_28 : decode cX5_pairs 28 = .ok (.iload_n 1, 1) := by decide +kernel
theorem dX5_pairs_29 : decode cX5_pairs 29 = .ok (.ireturn, 1) := by decide +kernel
set_option maxRecDepth 20000 in
theorem ggX5_count_X5_isLink : GoodIn wsX5_count wsX5_isLink := goodIn_r _ [7, 1, 8, 9, 6, 10, 23, 24, 25, 26] (by decide +kernel) (by decide +kernel)
set_option maxRecDepth 20000 in
theorem gX5_count_X5_isLink : GoodIn wsX5_count (wsV RX5 31 RX5 yX5_isLink wsX5_isLink) := goodIn_app (goodIn_of _ (by decide +kernel)) ggX5_count_X5_isLink
set_option maxRecDepth 20000 in
theorem ggX5_count_X5_linkOf : GoodIn wsX5_count wsX5_linkOf := goodIn_r _ [14, 1, 23, 24, 25, 26] (by decide +kernel) (by decide +kernel)
set_option maxRecDepth 20000 in
theorem gX5_count_X5_linkOf : GoodIn wsX5_count (wsV RX5 39 RX5 yX5_linkOf wsX5_linkOf) := goodIn_app (goodIn_of _ (by decide +kernel)) ggX5_count_X5_linkOf
set_option maxRecDepth 20000 in
theorem ggX5_count_X5_blocksSent : GoodIn wsX5_count wsX5_blocksSent := goodIn_r _ [18, 1, 23, 24, 25, 26] (by decide +kernel) (by decide +kernel)
set_option maxRecDepth 20000 in
theorem gX5_count_X5_blocksSent : GoodIn wsX5_count (wsV RX5 98 RX5 yX5_blocksSent wsX5_blocksSent) := goodIn_app (goodIn_of _ (by decide +kernel)) ggX5_count_X5_blocksSent
set_option maxRecDepth 20000 in
theorem ggX5_count_X5_pairs : GoodIn wsX5_count wsX5_pairs := goodIn_r _ [22, 1, 23, 24, 25, 26] (by decide +kernel) (by decide +kernel)
set_option maxRecDepth 20000 in
theorem gX5_count_X5_pairs : GoodIn wsX5_count (wsV RX5 102 RX5 yX5_pairs wsX5_pairs) := goodIn_app (goodIn_of _ (by decide +kernel)) ggX5_count_X5_pairs
theorem dX5_count_0 : decode cX5_count 0 = .ok (.iload_n 1, 1) := by decide +kernel
theorem dX5_count_1 : decode cX5_count 1 = .ok (.bipush 10, 2) := by decide +kernel
theorem dX5_count_3 : decode cX5_count 3 = .ok (.if_icmp .lt 40, 3) := by decide +kernel
theorem dX5_count_6 : decode cX5_count 6 = .ok (.aload_n 0, 1) := by decide +kernel
theorem dX5_count_7 : decode cX5_count 7 = .ok (.iload_n 1, 1) := by decide +kernel
theorem dX5_count_8 : decode cX5_count 8 = .ok (.bipush 10, 2) := by decide +kernel
theorem dX5_count_10 : decode cX5_count 10 = .ok (.idiv, 1) := by decide +kernel
theorem dX5_count_11 : decode cX5_count 11 = .ok (.iconst 1, 1) := by decide +kernel
theorem dX5_count_12 : decode cX5_count 12 = .ok (.isub, 1) := by decide +kernel
theorem dX5_count_13 : decode cX5_count 13 = .ok (.invokevirtual 31, 3) := by decide +kernel
theorem dX5_count_16 : decode cX5_count 16 = .ok (.ifCond .eq 27, 3) := by decide +kernel
theorem dX5_count_19 : decode cX5_count 19 = .ok (.iload_n 1, 1) := by decide +kernel
theorem dX5_count_20 : decode cX5_count 20 = .ok (.bipush 10, 2) := by decide +kernel
theorem dX5_count_22 : decode cX5_count 22 = .ok (.irem, 1) := by decide +kernel
theorem dX5_count_23 : decode cX5_count 23 = .ok (.bipush 6, 2) := by decide +kernel
theorem dX5_count_25 : decode cX5_count 25 = .ok (.if_icmp .ge 18, 3) := by decide +kernel
theorem dX5_count_28 : decode cX5_count 28 = .ok (.aload_n 0, 1) := by decide +kernel
theorem dX5_count_29 : decode cX5_count 29 = .ok (.iload_n 1, 1) := by decide +kernel
theorem dX5_count_30 : decode cX5_count 30 = .ok (.bipush 10, 2) := by decide +kernel
theorem dX5_count_32 : decode cX5_count 32 = .ok (.idiv, 1) := by decide +kernel
theorem dX5_count_33 : decode cX5_count 33 = .ok (.iconst 1, 1) := by decide +kernel
theorem dX5_count_34 : decode cX5_count 34 = .ok (.isub, 1) := by decide +kernel
theorem dX5_count_35 : decode cX5_count 35 = .ok (.iload_n 1, 1) := by decide +kernel
theorem dX5_count_36 : decode cX5_count 36 = .ok (.bipush 10, 2) := by decide +kernel
theorem dX5_count_38 : decode cX5_count 38 = .ok (.irem, 1) := by decide +kernel
theorem dX5_count_39 : decode cX5_count 39 = .ok (.invokevirtual 39, 3) := by decide +kernel
theorem dX5_count_42 : decode cX5_count 42 = .ok (.ireturn, 1) := by decide +kernel
theorem dX5_count_43 : decode cX5_count 43 = .ok (.iload_n 1, 1) := by decide +kernel
theorem dX5_count_44 : decode cX5_count 44 = .ok (.tableswitch 112 0 6 #[44, 51, 58, 65, 72, 77, 82], 44) := by decide +kernel
theorem dX5_count_88 : decode cX5_count 88 = .ok (.aload_n 0, 1) := by decide +kernel
theorem dX5_count_89 : decode cX5_count 89 = .ok (.getfield 7, 3) := by decide +kernel
theorem dX5_count_92 : decode cX5_count 92 = .ok (.iconst 0, 1) := by decide +kernel
theorem dX5_count_93 : decode cX5_count 93 = .ok (.iaload, 1) := by decide +kernel
theorem dX5_count_94 : decode cX5_count 94 = .ok (.ireturn, 1) := by decide +kernel
theorem dX5_count_95 : decode cX5_count 95 = .ok (.aload_n 0, 1) := by decide +kernel
theorem dX5_count_96 : decode cX5_count 96 = .ok (.getfield 7, 3) := by decide +kernel
theorem dX5_count_99 : decode cX5_count 99 = .ok (.iconst 1, 1) := by decide +kernel
theorem dX5_count_100 : decode cX5_count 100 = .ok (.iaload, 1) := by decide +kernel
theorem dX5_count_101 : decode cX5_count 101 = .ok (.ireturn, 1) := by decide +kernel
theorem dX5_count_102 : decode cX5_count 102 = .ok (.aload_n 0, 1) := by decide +kernel
theorem dX5_count_103 : decode cX5_count 103 = .ok (.getfield 7, 3) := by decide +kernel
theorem dX5_count_106 : decode cX5_count 106 = .ok (.iconst 2, 1) := by decide +kernel
theorem dX5_count_107 : decode cX5_count 107 = .ok (.iaload, 1) := by decide +kernel
theorem dX5_count_108 : decode cX5_count 108 = .ok (.ireturn, 1) := by decide +kernel
theorem dX5_count_109 : decode cX5_count 109 = .ok (.aload_n 0, 1) := by decide +kernel
theorem dX5_count_110 : decode cX5_count 110 = .ok (.getfield 7, 3) := by decide +kernel
theorem dX5_count_113 : decode cX5_count 113 = .ok (.iconst 3, 1) := by decide +kernel
theorem dX5_count_114 : decode cX5_count 114 = .ok (.iaload, 1) := by decide +kernel
theorem dX5_count_115 : decode cX5_count 115 = .ok (.ireturn, 1) := by decide +kernel
theorem dX5_count_116 : decode cX5_count 116 = .ok (.aload_n 0, 1) := by decide +kernel
theorem dX5_count_117 : decode cX5_count 117 = .ok (.invokevirtual 98, 3) := by decide +kernel
theorem dX5_count_120 : decode cX5_count 120 = .ok (.ireturn, 1) := by decide +kernel
theorem dX5_count_121 : decode cX5_count 121 = .ok (.aload_n 0, 1) := by decide +kernel
theorem dX5_count_122 : decode cX5_count 122 = .ok (.invokevirtual 102, 3) := by decide +kernel
theorem dX5_count_125 : decode cX5_count 125 = .ok (.ireturn, 1) := by decide +kernel
theorem dX5_count_126 : decode cX5_count 126 = .ok (.aload_n 0, 1) := by decide +kernel
theorem dX5_count_127 : decode cX5_count 127 = .ok (.getfield 16, 3) := by decide +kernel
theorem dX5_count_130 : decode cX5_count 130 = .ok (.iconst 0, 1) := by decide +kernel
theorem dX5_count_131 : decode cX5_count 131 = .ok (.baload, 1) := by decide +kernel
theorem dX5_count_132 : decode cX5_count 132 = .ok (.ifCond .eq 7, 3) := by decide +kernel
theorem dX5_count_135 : decode cX5_count 135 = .ok (.iconst 1, 1) := by decide +kernel
theorem dX5_count_136 : decode cX5_count 136 = .ok (.goto 4, 3) := by decide +kernel
theorem dX5_count_139 : decode cX5_count 139 = .ok (.iconst 0, 1) := by decide +kernel
theorem dX5_count_140 : decode cX5_count 140 = .ok (.aload_n 0, 1) := by decide +kernel
theorem dX5_count_141 : decode cX5_count 141 = .ok (.getfield 16, 3) := by decide +kernel
theorem dX5_count_144 : decode cX5_count 144 = .ok (.iconst 1, 1) := by decide +kernel
theorem dX5_count_145 : decode cX5_count 145 = .ok (.baload, 1) := by decide +kernel
theorem dX5_count_146 : decode cX5_count 146 = .ok (.ifCond .eq 7, 3) := by decide +kernel
theorem dX5_count_149 : decode cX5_count 149 = .ok (.iconst 2, 1) := by decide +kernel
theorem dX5_count_150 : decode cX5_count 150 = .ok (.goto 4, 3) := by decide +kernel
theorem dX5_count_153 : decode cX5_count 153 = .ok (.iconst 0, 1) := by decide +kernel
theorem dX5_count_154 : decode cX5_count 154 = .ok (.iadd, 1) := by decide +kernel
theorem dX5_count_155 : decode cX5_count 155 = .ok (.ireturn, 1) := by decide +kernel
theorem dX5_count_156 : decode cX5_count 156 = .ok (.bipush (-2), 2) := by decide +kernel
theorem dX5_count_158 : decode cX5_count 158 = .ok (.ireturn, 1) := by decide +kernel
theorem dJ9_min_7cf53_0 : decode cJ9_min_7cf53 0 = .ok (.iload_n 0, 1) := by decide +kernel
theorem dJ9_min_7cf53_1 : decode cJ9_min_7cf53 1 = .ok (.iload_n 1, 1) := by decide +kernel
theorem dJ9_min_7cf53_2 : decode cJ9_min_7cf53 2 = .ok (.if_icmp .gt 7, 3) := by decide +kernel
theorem dJ9_min_7cf53_5 : decode cJ9_min_7cf53 5 = .ok (.iload_n 0, 1) := by decide +kernel
theorem dJ9_min_7cf53_6 : decode cJ9_min_7cf53 6 = .ok (.goto 4, 3) := by decide +kernel
theorem dJ9_min_7cf53_9 : decode cJ9_min_7cf53 9 = .ok (.iload_n 1, 1) := by decide +kernel
theorem dJ9_min_7cf53_10 : decode cJ9_min_7cf53 10 = .ok (.ireturn, 1) := by decide +kernel
theorem dJ7_fill_53178_0 : decode cJ7_fill_53178 0 = .ok (.iconst 0, 1) := by decide +kernel
theorem dJ7_fill_53178_1 : decode cJ7_fill_53178 1 = .ok (.istore_n 2, 1) := by decide +kernel
theorem dJ7_fill_53178_2 : decode cJ7_fill_53178 2 = .ok (.aload_n 0, 1) := by decide +kernel
theorem dJ7_fill_53178_3 : decode cJ7_fill_53178 3 = .ok (.arraylength, 1) := by decide +kernel
theorem dJ7_fill_53178_4 : decode cJ7_fill_53178 4 = .ok (.istore_n 3, 1) := by decide +kernel
theorem dJ7_fill_53178_5 : decode cJ7_fill_53178 5 = .ok (.iload_n 2, 1) := by decide +kernel
theorem dJ7_fill_53178_6 : decode cJ7_fill_53178 6 = .ok (.iload_n 3, 1) := by decide +kernel
theorem dJ7_fill_53178_7 : decode cJ7_fill_53178 7 = .ok (.if_icmp .ge 13, 3) := by decide +kernel
theorem dJ7_fill_53178_10 : decode cJ7_fill_53178 10 = .ok (.aload_n 0, 1) := by decide +kernel
theorem dJ7_fill_53178_11 : decode cJ7_fill_53178 11 = .ok (.iload_n 2, 1) := by decide +kernel
theorem dJ7_fill_53178_12 : decode cJ7_fill_53178 12 = .ok (.iload_n 1, 1) := by decide +kernel
theorem dJ7_fill_53178_13 : decode cJ7_fill_53178 13 = .ok (.iastore, 1) := by decide +kernel
theorem dJ7_fill_53178_14 : decode cJ7_fill_53178 14 = .ok (.iinc 2 1, 3) := by decide +kernel
theorem dJ7_fill_53178_17 : decode cJ7_fill_53178 17 = .ok (.goto (-12), 3) := by decide +kernel
theorem dJ7_fill_53178_20 : decode cJ7_fill_53178 20 = .ok (.return_, 1) := by decide +kernel
end
section
set_option maxRecDepth 20000 in
theorem ggL_law_X4_init : GoodIn wsL_law wsX4_init := goodIn_r _ [8, 9, 10, 11, 12, 13, 14, 15, 16, 17, 18, 19, 20, 21, 22, 23, 24, 25, 26, 27, 28, 29, 30, 31, 32, 33, 34, 35, 36, 37, 38, 39, 40, 41, 42, 43, 44, 45, 46, 47, 48, 49, 50, 51, 52, 53, 54, 55, 56, 57, 58, 59, 60, 61, 62, 63, 64, 65, 66, 67, 68, 69, 70, 71, 72, 73, 74, 75, 76, 77, 78, 79, 80, 516, 517, 518, 519, 520, 521, 522, 523, 508, 509, 510, 511, 524, 525, 526, 527, 528] (by decide +kernel) (by decide +kernel)
set_option maxRecDepth 20000 in
theorem gL_law_X4_init : GoodIn wsL_law (wsX4_init) := ggL_law_X4_init
set_option maxRecDepth 20000 in
theorem ggL_law_X5_init : GoodIn wsL_law wsX5_init := goodIn_r _ [83, 84, 10, 11, 26, 85, 86, 87, 88, 89, 90, 91, 92, 5, 93, 512, 513, 514, 515] (by decide +kernel) (by decide +kernel)
set_option maxRecDepth 20000 in
theorem gL_law_X5_init : GoodIn wsL_law (wsX5_init) := ggL_law_X5_init
set_option maxRecDepth 20000 in
theorem ggL_law_X4_nodes : GoodIn wsL_law wsX4_nodes := goodIn_r _ [97, 15, 98, 99, 100, 2, 101, 54, 55, 56, 14, 57, 22, 23, 24, 25, 27, 31, 35, 39, 58, 59, 60, 61, 62, 63, 64, 30, 65, 43, 66, 67, 68, 69, 70, 71, 72, 34, 73, 47, 48, 74, 75, 76, 77, 38, 78, 52, 79, 80, 508, 509, 510, 511, 516, 517, 518, 519, 520, 521, 522, 523, 524, 525, 526, 527, 528] (by decide +kernel) (by decide +kernel)
set_option maxRecDepth 20000 in
theorem gL_law_X4_nodes : GoodIn wsL_law (wsV RL 13 RX4 yX4_nodes wsX4_nodes) := goodIn_app (goodIn_of _ (by decide +kernel)) ggL_law_X4_nodes
set_option maxRecDepth 20000 in
theorem ggL_law_X5_nodes : GoodIn wsL_law wsX5_nodes := goodIn_r _ [105, 85, 106, 107, 5, 108, 90, 91, 92, 93, 512, 513, 514, 515] (by decide +kernel) (by decide +kernel)
set_option maxRecDepth 20000 in
theorem gL_law_X5_nodes : GoodIn wsL_law (wsV RL 17 RX5 yX5_nodes wsX5_nodes) := goodIn_app (goodIn_of _ (by decide +kernel)) ggL_law_X5_nodes
set_option maxRecDepth 20000 in
theorem ggL_law_X4_link : GoodIn wsL_law wsX4_link := goodIn_r _ [112, 15, 113, 114, 115, 116, 117, 118, 14, 119, 22, 100, 2, 101, 99, 120, 121, 122, 30, 123, 43, 124, 125, 126, 127, 508, 509, 510, 511, 516, 517, 518, 519, 520, 521, 522, 523, 524] (by decide +kernel) (by decide +kernel)
set_option maxRecDepth 20000 in
theorem gL_law_X4_link : GoodIn wsL_law (wsV RL 18 RX4 yX4_link wsX4_link) := goodIn_app (goodIn_of _ (by decide +kernel)) ggL_law_X4_link
set_option maxRecDepth 20000 in
theorem ggL_law_X5_link : GoodIn wsL_law wsX5_link := goodIn_r _ [131, 85, 132, 133, 134, 5, 135, 106, 107, 108, 136, 137, 138, 139, 140, 141, 142, 512, 513, 514, 515] (by decide +kernel) (by decide +kernel)
set_option maxRecDepth 20000 in
theorem gL_law_X5_link : GoodIn wsL_law (wsV RL 22 RX5 yX5_link wsX5_link) := goodIn_app (goodIn_of _ (by decide +kernel)) ggL_law_X5_link
set_option maxRecDepth 20000 in
theorem ggL_law_X4_clock : GoodIn wsL_law wsX4_clock := goodIn_r _ [146, 15, 147, 148, 149, 150, 151, 152, 153, 154, 155, 14, 156, 22, 100, 2, 101, 99, 157, 158, 159, 38, 160, 52, 79, 161, 162, 163, 508, 509, 510, 511, 516, 517, 518, 519, 520, 521, 522, 523, 527, 528] (by decide +kernel) (by decide +kernel)
set_option maxRecDepth 20000 in
theorem gL_law_X4_clock : GoodIn wsL_law (wsV RL 23 RX4 yX4_clock wsX4_clock) := goodIn_app (goodIn_of _ (by decide +kernel)) ggL_law_X4_clock
set_option maxRecDepth 20000 in
theorem ggL_law_X5_clock : GoodIn wsL_law wsX5_clock := goodIn_r _ [167, 168, 169, 85, 170, 171, 172, 173, 5, 174, 106, 107, 108, 512, 513, 514, 515] (by decide +kernel) (by decide +kernel)
set_option maxRecDepth 20000 in
theorem gL_law_X5_clock : GoodIn wsL_law (wsV RL 27 RX5 yX5_clock wsX5_clock) := goodIn_app (goodIn_of _ (by decide +kernel)) ggL_law_X5_clock
set_option maxRecDepth 20000 in
theorem ggL_law_X4_block : GoodIn wsL_law wsX4_block := goodIn_r _ [178, 15, 149, 179, 99, 100, 2, 101, 508, 509, 510, 511, 516, 517, 518, 519, 520, 521, 522, 523] (by decide +kernel) (by decide +kernel)
set_option maxRecDepth 20000 in
theorem gL_law_X4_block : GoodIn wsL_law (wsV RL 28 RX4 yX4_block wsX4_block) := goodIn_app (goodIn_of _ (by decide +kernel)) ggL_law_X4_block
set_option maxRecDepth 20000 in
theorem ggL_law_X5_block : GoodIn wsL_law wsX5_block := goodIn_r _ [183, 85, 106, 107, 5, 108, 512, 513, 514, 515] (by decide +kernel) (by decide +kernel)
set_option maxRecDepth 20000 in
theorem gL_law_X5_block : GoodIn wsL_law (wsV RL 31 RX5 yX5_block wsX5_block) := goodIn_app (goodIn_of _ (by decide +kernel)) ggL_law_X5_block
set_option maxRecDepth 20000 in
theorem ggL_law_X4_pause : GoodIn wsL_law wsX4_pause := goodIn_r _ [187, 15, 188, 99, 100, 2, 101, 508, 509, 510, 511, 516, 517, 518, 519, 520, 521, 522, 523] (by decide +kernel) (by decide +kernel)
set_option maxRecDepth 20000 in
theorem gL_law_X4_pause : GoodIn wsL_law (wsV RL 32 RX4 yX4_pause wsX4_pause) := goodIn_app (goodIn_of _ (by decide +kernel)) ggL_law_X4_pause
set_option maxRecDepth 20000 in
theorem ggL_law_X5_pause : GoodIn wsL_law wsX5_pause := goodIn_r _ [192, 85, 106, 107, 5, 108, 512, 513, 514, 515] (by decide +kernel) (by decide +kernel)
set_option maxRecDepth 20000 in
theorem gL_law_X5_pause : GoodIn wsL_law (wsV RL 35 RX5 yX5_pause wsX5_pause) := goodIn_app (goodIn_of _ (by decide +kernel)) ggL_law_X5_pause
set_option maxRecDepth 20000 in
theorem ggL_law_X4_send : GoodIn wsL_law wsX4_send := goodIn_r _ [196, 15, 149, 188, 99, 100, 2, 101, 197, 198, 199, 14, 200, 24, 25, 23, 35, 27, 22, 31, 201, 202, 203, 204, 205, 34, 206, 47, 48, 207, 208, 209, 210, 211, 212, 30, 213, 214, 121, 122, 123, 43, 215, 216, 217, 218, 219, 220, 508, 509, 510, 511, 516, 517, 518, 519, 520, 521, 522, 523, 525, 526, 524] (by decide +kernel) (by decide +kernel)
set_option maxRecDepth 20000 in
theorem gL_law_X4_send : GoodIn wsL_law (wsV RL 36 RX4 yX4_send wsX4_send) := goodIn_app (goodIn_of _ (by decide +kernel)) ggL_law_X4_send
set_option maxRecDepth 20000 in
theorem ggL_law_X5_send : GoodIn wsL_law wsX5_send := goodIn_r _ [224, 85, 106, 107, 5, 108, 225, 226, 227, 228, 229, 230, 231, 232, 233, 234, 235, 236, 139, 140, 141, 142, 237, 238, 239, 240, 512, 513, 514, 515] (by decide +kernel) (by decide +kernel)
set_option maxRecDepth 20000 in
theorem gL_law_X5_send : GoodIn wsL_law (wsV RL 39 RX5 yX5_send wsX5_send) := goodIn_app (goodIn_of _ (by decide +kernel)) ggL_law_X5_send
set_option maxRecDepth 20000 in
theorem ggL_law_X4_kept : GoodIn wsL_law wsX4_kept := goodIn_r _ [244, 15, 147, 148, 245, 153, 154, 155, 14, 156, 22, 100, 2, 101, 246, 247, 248, 99, 249, 250, 251, 34, 252, 47, 207, 208, 209, 253, 254, 255, 256, 48, 508, 509, 510, 511, 516, 517, 518, 519, 520, 521, 522, 523, 525, 526] (by decide +kernel) (by decide +kernel)
set_option maxRecDepth 20000 in
theorem gL_law_X4_kept : GoodIn wsL_law (wsV RL 40 RX4 yX4_kept wsX4_kept) := goodIn_app (goodIn_of _ (by decide +kernel)) ggL_law_X4_kept
set_option maxRecDepth 20000 in
theorem ggL_law_X5_kept : GoodIn wsL_law wsX5_kept := goodIn_r _ [260, 168, 169, 171, 172, 173, 5, 174, 85, 106, 107, 108, 261, 262, 263, 264, 265, 266, 267, 268, 269, 270, 271, 512, 513, 514, 515] (by decide +kernel) (by decide +kernel)
set_option maxRecDepth 20000 in
theorem gL_law_X5_kept : GoodIn wsL_law (wsV RL 43 RX5 yX5_kept wsX5_kept) := goodIn_app (goodIn_of _ (by decide +kernel)) ggL_law_X5_kept
set_option maxRecDepth 20000 in
theorem ggL_law_X4_lost : GoodIn wsL_law wsX4_lost := goodIn_r _ [275, 15, 245, 116, 117, 118, 14, 119, 22, 100, 2, 101, 246, 247, 248, 99, 276, 277, 278, 34, 279, 280, 281, 282, 283, 284, 250, 251, 252, 47, 207, 208, 209, 285, 508, 509, 510, 511, 516, 517, 518, 519, 520, 521, 522, 523, 525, 526] (by decide +kernel) (by decide +kernel)
set_option maxRecDepth 20000 in
theorem gL_law_X4_lost : GoodIn wsL_law (wsV RL 44 RX4 yX4_lost wsX4_lost) := goodIn_app (goodIn_of _ (by decide +kernel)) ggL_law_X4_lost
set_option maxRecDepth 20000 in
theorem ggL_law_X5_lost : GoodIn wsL_law wsX5_lost := goodIn_r _ [289, 132, 133, 134, 5, 135, 85, 106, 107, 108, 290, 291, 292, 293, 264, 265, 266, 267, 512, 513, 514, 515] (by decide +kernel) (by decide +kernel)
set_option maxRecDepth 20000 in
theorem gL_law_X5_lost : GoodIn wsL_law (wsV RL 47 RX5 yX5_lost wsX5_lost) := goodIn_app (goodIn_of _ (by decide +kernel)) ggL_law_X5_lost
set_option maxRecDepth 20000 in
theorem ggL_law_X4_took : GoodIn wsL_law wsX4_took := goodIn_r _ [297, 298, 15, 245, 299, 300, 301, 302, 2, 303, 304, 305, 306, 307, 153, 154, 155, 14, 156, 22, 100, 101, 246, 247, 248, 99, 308, 309, 310, 34, 311, 284, 250, 251, 252, 47, 207, 208, 209, 312, 313, 314, 315, 316, 254, 255, 256, 48, 249, 317, 318, 319, 320, 321, 322, 323, 201, 202, 508, 509, 510, 511, 516, 517, 518, 519, 520, 521, 522, 523, 525, 526] (by decide +kernel) (by decide +kernel)
set_option maxRecDepth 20000 in
theorem gL_law_X4_took : GoodIn wsL_law (wsV RL 48 RX4 yX4_took wsX4_took) := goodIn_app (goodIn_of _ (by decide +kernel)) ggL_law_X4_took
set_option maxRecDepth 20000 in
theorem ggL_law_X5_took : GoodIn wsL_law wsX5_took := goodIn_r _ [327, 168, 169, 328, 171, 172, 173, 5, 174, 85, 106, 107, 108, 261, 262, 263, 329, 330, 331, 332, 264, 265, 266, 267, 268, 269, 270, 271, 333, 334, 335, 336, 337, 338, 512, 513, 514, 515] (by decide +kernel) (by decide +kernel)
set_option maxRecDepth 20000 in
theorem gL_law_X5_took : GoodIn wsL_law (wsV RL 52 RX5 yX5_took wsX5_took) := goodIn_app (goodIn_of _ (by decide +kernel)) ggL_law_X5_took
set_option maxRecDepth 20000 in
theorem ggL_law_X4_first : GoodIn wsL_law wsX4_first := goodIn_r _ [342, 15, 245, 99, 100, 2, 101, 343, 344, 345, 14, 346, 35, 22, 347, 281, 282, 34, 283, 284, 250, 251, 252, 47, 207, 208, 209, 246, 247, 248, 348, 349, 350, 351, 285, 508, 509, 510, 511, 516, 517, 518, 519, 520, 521, 522, 523, 525, 526] (by decide +kernel) (by decide +kernel)
set_option maxRecDepth 20000 in
theorem gL_law_X4_first : GoodIn wsL_law (wsV RL 53 RX4 yX4_first wsX4_first) := goodIn_app (goodIn_of _ (by decide +kernel)) ggL_law_X4_first
set_option maxRecDepth 20000 in
theorem ggL_law_X5_first : GoodIn wsL_law wsX5_first := goodIn_r _ [355, 106, 107, 5, 108, 356, 357, 358, 359, 85, 264, 265, 266, 267, 360, 361, 362, 363, 290, 291, 292, 293, 512, 513, 514, 515] (by decide +kernel) (by decide +kernel)
set_option maxRecDepth 20000 in
theorem gL_law_X5_first : GoodIn wsL_law (wsV RL 56 RX5 yX5_first wsX5_first) := goodIn_app (goodIn_of _ (by decide +kernel)) ggL_law_X5_first
set_option maxRecDepth 20000 in
theorem ggL_law_X4_sound : GoodIn wsL_law wsX4_sound := goodIn_r _ [367, 15, 188, 304, 305, 306, 2, 307, 153, 154, 155, 14, 156, 22, 100, 101, 368, 369, 370, 371, 23, 31, 27, 39, 215, 216, 217, 30, 218, 214, 121, 122, 123, 43, 219, 220, 372, 373, 374, 375, 376, 377, 378, 38, 379, 52, 380, 381, 382, 383, 161, 162, 163, 508, 509, 510, 511, 516, 517, 518, 519, 520, 521, 522, 523, 524, 527, 528] (by decide +kernel) (by decide +kernel)
set_option maxRecDepth 20000 in
theorem gL_law_X4_sound : GoodIn wsL_law (wsV RL 57 RX4 yX4_sound wsX4_sound) := goodIn_app (goodIn_of _ (by decide +kernel)) ggL_law_X4_sound
set_option maxRecDepth 20000 in
theorem ggL_law_X5_sound : GoodIn wsL_law wsX5_sound := goodIn_r _ [387, 85, 171, 172, 173, 5, 174, 106, 107, 108, 237, 238, 239, 240, 139, 140, 141, 142, 512, 513, 514, 515] (by decide +kernel) (by decide +kernel)
set_option maxRecDepth 20000 in
theorem gL_law_X5_sound : GoodIn wsL_law (wsV RL 60 RX5 yX5_sound wsX5_sound) := goodIn_app (goodIn_of _ (by decide +kernel)) ggL_law_X5_sound
set_option maxRecDepth 20000 in
theorem ggL_law_X4_apart : GoodIn wsL_law wsX4_apart := goodIn_r _ [391, 298, 148, 15, 152, 392, 304, 305, 306, 2, 307, 153, 154, 155, 14, 156, 22, 100, 101, 99, 393, 394, 395, 38, 396, 52, 79, 161, 162, 163, 397, 398, 399, 400, 401, 402, 403, 404, 508, 509, 510, 511, 516, 517, 518, 519, 520, 521, 522, 523, 527, 528] (by decide +kernel) (by decide +kernel)
set_option maxRecDepth 20000 in
theorem gL_law_X4_apart : GoodIn wsL_law (wsV RL 61 RX4 yX4_apart wsX4_apart) := goodIn_app (goodIn_of _ (by decide +kernel)) ggL_law_X4_apart
set_option maxRecDepth 20000 in
theorem ggL_law_X5_apart : GoodIn wsL_law wsX5_apart := goodIn_r _ [408, 168, 169, 85, 409, 171, 172, 173, 5, 174, 106, 107, 108, 512, 513, 514, 515] (by decide +kernel) (by decide +kernel)
set_option maxRecDepth 20000 in
theorem gL_law_X5_apart : GoodIn wsL_law (wsV RL 64 RX5 yX5_apart wsX5_apart) := goodIn_app (goodIn_of _ (by decide +kernel)) ggL_law_X5_apart
set_option maxRecDepth 20000 in
theorem ggL_law_X4_tight : GoodIn wsL_law wsX4_tight := goodIn_r _ [413, 15, 147, 152, 414, 392, 153, 154, 155, 14, 156, 22, 100, 2, 101, 415, 416, 417, 38, 418, 53, 79, 80, 59, 60, 61, 419, 420, 421, 422, 52, 380, 381, 382, 383, 161, 162, 163, 508, 509, 510, 511, 516, 517, 518, 519, 520, 521, 522, 523, 527, 528] (by decide +kernel) (by decide +kernel)
set_option maxRecDepth 20000 in
theorem gL_law_X4_tight : GoodIn wsL_law (wsV RL 65 RX4 yX4_tight wsX4_tight) := goodIn_app (goodIn_of _ (by decide +kernel)) ggL_law_X4_tight
set_option maxRecDepth 20000 in
theorem ggL_law_X5_tight : GoodIn wsL_law wsX5_tight := goodIn_r _ [426, 168, 89, 427, 409, 171, 172, 173, 5, 174, 85, 106, 107, 108, 428, 429, 430, 431, 512, 513, 514, 515] (by decide +kernel) (by decide +kernel)
set_option maxRecDepth 20000 in
theorem gL_law_X5_tight : GoodIn wsL_law (wsV RL 68 RX5 yX5_tight wsX5_tight) := goodIn_app (goodIn_of _ (by decide +kernel)) ggL_law_X5_tight
set_option maxRecDepth 20000 in
theorem ggL_law_X4_truth : GoodIn wsL_law wsX4_truth := goodIn_r _ [435, 298, 148, 15, 245, 299, 152, 414, 392, 300, 301, 302, 2, 303, 304, 305, 306, 307, 153, 154, 155, 14, 156, 22, 100, 101, 246, 247, 248, 99, 308, 309, 310, 34, 311, 284, 250, 251, 252, 47, 207, 208, 209, 415, 416, 417, 38, 418, 53, 79, 80, 59, 60, 61, 419, 420, 421, 422, 52, 380, 381, 382, 383, 161, 162, 163, 249, 312, 313, 314, 315, 316, 254, 255, 256, 48, 317, 318, 319, 320, 321, 322, 323, 201, 202, 508, 509, 510, 511, 516, 517, 518, 519, 520, 521, 522, 523, 525, 526, 527, 528] (by decide +kernel) (by decide +kernel)
set_option maxRecDepth 20000 in
theorem gL_law_X4_truth : GoodIn wsL_law (wsV RL 69 RX4 yX4_truth wsX4_truth) := goodIn_app (goodIn_of _ (by decide +kernel)) ggL_law_X4_truth
set_option maxRecDepth 20000 in
theorem ggL_law_X5_truth : GoodIn wsL_law wsX5_truth := goodIn_r _ [439, 168, 169, 328, 89, 427, 409, 171, 172, 173, 5, 174, 85, 106, 107, 108, 261, 262, 263, 329, 330, 331, 332, 264, 265, 266, 267, 428, 429, 430, 431, 268, 269, 270, 271, 333, 334, 335, 336, 337, 338, 512, 513, 514, 515] (by decide +kernel) (by decide +kernel)
set_option maxRecDepth 20000 in
theorem gL_law_X5_truth : GoodIn wsL_law (wsV RL 73 RX5 yX5_truth wsX5_truth) := goodIn_app (goodIn_of _ (by decide +kernel)) ggL_law_X5_truth
set_option maxRecDepth 20000 in
theorem ggL_law_X4_image : GoodIn wsL_law wsX4_image := goodIn_r _ [443, 15, 18, 99, 100, 2, 101, 444, 445, 446, 447, 16, 17, 448, 449, 450, 14, 451, 22, 23, 24, 25, 27, 452, 67, 68, 69, 31, 35, 39, 453, 454, 455, 30, 456, 43, 66, 457, 458, 459, 34, 460, 47, 461, 48, 462, 463, 464, 38, 465, 52, 466, 508, 509, 510, 511, 516, 517, 518, 519, 520, 521, 522, 523, 524, 525, 526, 527, 528] (by decide +kernel) (by decide +kernel)
set_option maxRecDepth 20000 in
theorem gL_law_X4_image : GoodIn wsL_law (wsV RL 74 RX4 yX4_image wsX4_image) := goodIn_app (goodIn_of _ (by decide +kernel)) ggL_law_X4_image
set_option maxRecDepth 20000 in
theorem ggL_law_X5_image : GoodIn wsL_law wsX5_image := goodIn_r _ [470, 86, 85, 88, 106, 107, 5, 108, 512, 513, 514, 515] (by decide +kernel) (by decide +kernel)
set_option maxRecDepth 20000 in
theorem gL_law_X5_image : GoodIn wsL_law (wsV RL 77 RX5 yX5_image wsX5_image) := goodIn_app (goodIn_of _ (by decide +kernel)) ggL_law_X5_image
set_option maxRecDepth 20000 in
theorem ggL_law_X4_restore : GoodIn wsL_law wsX4_restore := goodIn_r _ [474, 18, 15, 99, 100, 2, 101, 444, 445, 446, 447, 16, 17, 448, 449, 450, 14, 451, 22, 23, 24, 25, 27, 452, 67, 68, 69, 31, 35, 39, 453, 454, 455, 30, 456, 43, 66, 457, 458, 459, 34, 460, 47, 461, 48, 462, 463, 464, 38, 465, 52, 466, 508, 509, 510, 511, 516, 517, 518, 519, 520, 521, 522, 523, 524, 525, 526, 527, 528] (by decide +kernel) (by decide +kernel)
set_option maxRecDepth 20000 in
theorem gL_law_X4_restore : GoodIn wsL_law (wsV RL 78 RX4 yX4_restore wsX4_restore) := goodIn_app (goodIn_of _ (by decide +kernel)) ggL_law_X4_restore
set_option maxRecDepth 20000 in
theorem ggL_law_X5_restore : GoodIn wsL_law wsX5_restore := goodIn_r _ [478, 88, 85, 86, 106, 107, 5, 108, 512, 513, 514, 515] (by decide +kernel) (by decide +kernel)
set_option maxRecDepth 20000 in
theorem gL_law_X5_restore : GoodIn wsL_law (wsV RL 81 RX5 yX5_restore wsX5_restore) := goodIn_app (goodIn_of _ (by decide +kernel)) ggL_law_X5_restore
set_option maxRecDepth 20000 in
theorem ggL_law_X4_count : GoodIn wsL_law wsX4_count := goodIn_r _ [482, 15, 98, 188, 149, 179, 245, 152, 18, 483, 484, 485, 34, 486, 284, 250, 251, 252, 47, 207, 208, 209, 487, 488, 489, 38, 490, 491, 394, 395, 396, 52, 79, 161, 162, 163, 492, 493, 494, 2, 495, 115, 116, 117, 118, 14, 119, 22, 100, 101, 99, 120, 121, 122, 30, 123, 43, 508, 509, 510, 511, 516, 517, 518, 519, 520, 521, 522, 523, 525, 526, 527, 528, 524] (by decide +kernel) (by decide +kernel)
set_option maxRecDepth 20000 in
theorem gL_law_X4_count : GoodIn wsL_law (wsV RL 82 RX4 yX4_count wsX4_count) := goodIn_app (goodIn_of _ (by decide +kernel)) ggL_law_X4_count
set_option maxRecDepth 20000 in
theorem ggL_law_X5_count : GoodIn wsL_law wsX5_count := goodIn_r _ [499, 85, 88, 132, 133, 134, 5, 135, 106, 107, 108, 139, 140, 141, 142, 500, 501, 502, 503, 504, 505, 506, 507, 512, 513, 514, 515] (by decide +kernel) (by decide +kernel)
set_option maxRecDepth 20000 in
theorem gL_law_X5_count : GoodIn wsL_law (wsV RL 85 RX5 yX5_count wsX5_count) := goodIn_app (goodIn_of _ (by decide +kernel)) ggL_law_X5_count
theorem dL_law_0 : decode cL_law 0 = .ok (.new 7, 3) := by decide +kernel
theorem dL_law_3 : decode cL_law 3 = .ok (.dup, 1) := by decide +kernel
theorem dL_law_4 : decode cL_law 4 = .ok (.invokespecial 9, 3) := by decide +kernel
theorem dL_law_7 : decode cL_law 7 = .ok (.astore_n 1, 1) := by decide +kernel
theorem dL_law_8 : decode cL_law 8 = .ok (.new 10, 3) := by decide +kernel
theorem dL_law_11 : decode cL_law 11 = .ok (.dup, 1) := by decide +kernel
theorem dL_law_12 : decode cL_law 12 = .ok (.invokespecial 12, 3) := by decide +kernel
theorem dL_law_15 : decode cL_law 15 = .ok (.astore_n 2, 1) := by decide +kernel
theorem dL_law_16 : decode cL_law 16 = .ok (.iconst 0, 1) := by decide +kernel
theorem dL_law_17 : decode cL_law 17 = .ok (.istore_n 3, 1) := by decide +kernel
theorem dL_law_18 : decode cL_law 18 = .ok (.iload_n 3, 1) := by decide +kernel
theorem dL_law_19 : decode cL_law 19 = .ok (.aload_n 0, 1) := by decide +kernel
theorem dL_law_20 : decode cL_law 20 = .ok (.arraylength, 1) := by decide +kernel
theorem dL_law_21 : decode cL_law 21 = .ok (.bipush 6, 2) := by decide +kernel
theorem dL_law_23 : decode cL_law 23 = .ok (.isub, 1) := by decide +kernel
theorem dL_law_24 : decode cL_law 24 = .ok (.if_icmp .gt 669, 3) := by decide +kernel
theorem dL_law_27 : decode cL_law 27 = .ok (.aload_n 0, 1) := by decide +kernel
theorem dL_law_28 : decode cL_law 28 = .ok (.iload_n 3, 1) := by decide +kernel
theorem dL_law_29 : decode cL_law 29 = .ok (.iaload, 1) := by decide +kernel
theorem dL_law_30 : decode cL_law 30 = .ok (.bipush 31, 2) := by decide +kernel
theorem dL_law_32 : decode cL_law 32 = .ok (.iand, 1) := by decide +kernel
theorem dL_law_33 : decode cL_law 33 = .ok (.tableswitch 654 0 16 #[83, 106, 149, 182, 205, 228, 251, 294, 327, 380, 413, 446, 489, 522, 585, 608, 631], 83) := by decide +kernel
theorem dL_law_116 : decode cL_law 116 = .ok (.aload_n 1, 1) := by decide +kernel
theorem dL_law_117 : decode cL_law 117 = .ok (.aload_n 0, 1) := by decide +kernel
theorem dL_law_118 : decode cL_law 118 = .ok (.iload_n 3, 1) := by decide +kernel
theorem dL_law_119 : decode cL_law 119 = .ok (.iconst 1, 1) := by decide +kernel
theorem dL_law_120 : decode cL_law 120 = .ok (.iadd, 1) := by decide +kernel
theorem dL_law_121 : decode cL_law 121 = .ok (.iaload, 1) := by decide +kernel
theorem dL_law_122 : decode cL_law 122 = .ok (.invokevirtual 13, 3) := by decide +kernel
theorem dL_law_125 : decode cL_law 125 = .ok (.aload_n 2, 1) := by decide +kernel
theorem dL_law_126 : decode cL_law 126 = .ok (.aload_n 0, 1) := by decide +kernel
theorem dL_law_127 : decode cL_law 127 = .ok (.iload_n 3, 1) := by decide +kernel
theorem dL_law_128 : decode cL_law 128 = .ok (.iconst 1, 1) := by decide +kernel
theorem dL_law_129 : decode cL_law 129 = .ok (.iadd, 1) := by decide +kernel
theorem dL_law_130 : decode cL_law 130 = .ok (.iaload, 1) := by decide +kernel
theorem dL_law_131 : decode cL_law 131 = .ok (.invokevirtual 17, 3) := by decide +kernel
theorem dL_law_134 : decode cL_law 134 = .ok (.if_icmp .eq 553, 3) := by decide +kernel
theorem dL_law_137 : decode cL_law 137 = .ok (.iconst 0, 1) := by decide +kernel
theorem dL_law_138 : decode cL_law 138 = .ok (.ireturn, 1) := by decide +kernel
theorem dL_law_139 : decode cL_law 139 = .ok (.aload_n 1, 1) := by decide +kernel
theorem dL_law_140 : decode cL_law 140 = .ok (.aload_n 0, 1) := by decide +kernel
theorem dL_law_141 : decode cL_law 141 = .ok (.iload_n 3, 1) := by decide +kernel
theorem dL_law_142 : decode cL_law 142 = .ok (.iconst 1, 1) := by decide +kernel
theorem dL_law_143 : decode cL_law 143 = .ok (.iadd, 1) := by decide +kernel
theorem dL_law_144 : decode cL_law 144 = .ok (.iaload, 1) := by decide +kernel
theorem dL_law_145 : decode cL_law 145 = .ok (.aload_n 0, 1) := by decide +kernel
theorem dL_law_146 : decode cL_law 146 = .ok (.iload_n 3, 1) := by decide +kernel
theorem dL_law_147 : decode cL_law 147 = .ok (.iconst 2, 1) := by decide +kernel
theorem dL_law_148 : decode cL_law 148 = .ok (.iadd, 1) := by decide +kernel
theorem dL_law_149 : decode cL_law 149 = .ok (.iaload, 1) := by decide +kernel
theorem dL_law_150 : decode cL_law 150 = .ok (.aload_n 0, 1) := by decide +kernel
theorem dL_law_151 : decode cL_law 151 = .ok (.iload_n 3, 1) := by decide +kernel
theorem dL_law_152 : decode cL_law 152 = .ok (.iconst 3, 1) := by decide +kernel
theorem dL_law_153 : decode cL_law 153 = .ok (.iadd, 1) := by decide +kernel
theorem dL_law_154 : decode cL_law 154 = .ok (.iaload, 1) := by decide +kernel
theorem dL_law_155 : decode cL_law 155 = .ok (.invokevirtual 18, 3) := by decide +kernel
theorem dL_law_158 : decode cL_law 158 = .ok (.aload_n 2, 1) := by decide +kernel
theorem dL_law_159 : decode cL_law 159 = .ok (.aload_n 0, 1) := by decide +kernel
theorem dL_law_160 : decode cL_law 160 = .ok (.iload_n 3, 1) := by decide +kernel
theorem dL_law_161 : decode cL_law 161 = .ok (.iconst 1, 1) := by decide +kernel
theorem dL_law_162 : decode cL_law 162 = .ok (.iadd, 1) := by decide +kernel
theorem dL_law_163 : decode cL_law 163 = .ok (.iaload, 1) := by decide +kernel
theorem dL_law_164 : decode cL_law 164 = .ok (.aload_n 0, 1) := by decide +kernel
theorem dL_law_165 : decode cL_law 165 = .ok (.iload_n 3, 1) := by decide +kernel
theorem dL_law_166 : decode cL_law 166 = .ok (.iconst 2, 1) := by decide +kernel
theorem dL_law_167 : decode cL_law 167 = .ok (.iadd, 1) := by decide +kernel
theorem dL_law_168 : decode cL_law 168 = .ok (.iaload, 1) := by decide +kernel
theorem dL_law_169 : decode cL_law 169 = .ok (.aload_n 0, 1) := by decide +kernel
theorem dL_law_170 : decode cL_law 170 = .ok (.iload_n 3, 1) := by decide +kernel
theorem dL_law_171 : decode cL_law 171 = .ok (.iconst 3, 1) := by decide +kernel
theorem dL_law_172 : decode cL_law 172 = .ok (.iadd, 1) := by decide +kernel
theorem dL_law_173 : decode cL_law 173 = .ok (.iaload, 1) := by decide +kernel
theorem dL_law_174 : decode cL_law 174 = .ok (.invokevirtual 22, 3) := by decide +kernel
theorem dL_law_177 : decode cL_law 177 = .ok (.if_icmp .eq 510, 3) := by decide +kernel
theorem dL_law_180 : decode cL_law 180 = .ok (.iconst 0, 1) := by decide +kernel
theorem dL_law_181 : decode cL_law 181 = .ok (.ireturn, 1) := by decide +kernel
theorem dL_law_182 : decode cL_law 182 = .ok (.aload_n 1, 1) := by decide +kernel
theorem dL_law_183 : decode cL_law 183 = .ok (.aload_n 0, 1) := by decide +kernel
theorem dL_law_184 : decode cL_law 184 = .ok (.iload_n 3, 1) := by decide +kernel
theorem dL_law_185 : decode cL_law 185 = .ok (.iconst 1, 1) := by decide +kernel
theorem dL_law_186 : decode cL_law 186 = .ok (.iadd, 1) := by decide +kernel
theorem dL_law_187 : decode cL_law 187 = .ok (.iaload, 1) := by decide +kernel
theorem dL_law_188 : decode cL_law 188 = .ok (.aload_n 0, 1) := by decide +kernel
theorem dL_law_189 : decode cL_law 189 = .ok (.iload_n 3, 1) := by decide +kernel
theorem dL_law_190 : decode cL_law 190 = .ok (.iconst 2, 1) := by decide +kernel
theorem dL_law_191 : decode cL_law 191 = .ok (.iadd, 1) := by decide +kernel
theorem dL_law_192 : decode cL_law 192 = .ok (.iaload, 1) := by decide +kernel
theorem dL_law_193 : decode cL_law 193 = .ok (.invokevirtual 23, 3) := by decide +kernel
theorem dL_law_196 : decode cL_law 196 = .ok (.aload_n 2, 1) := by decide +kernel
theorem dL_law_197 : decode cL_law 197 = .ok (.aload_n 0, 1) := by decide +kernel
theorem dL_law_198 : decode cL_law 198 = .ok (.iload_n 3, 1) := by decide +kernel
theorem dL_law_199 : decode cL_law 199 = .ok (.iconst 1, 1) := by decide +kernel
theorem dL_law_200 : decode cL_law 200 = .ok (.iadd, 1) := by decide +kernel
theorem dL_law_201 : decode cL_law 201 = .ok (.iaload, 1) := by decide +kernel
theorem dL_law_202 : decode cL_law 202 = .ok (.aload_n 0, 1) := by decide +kernel
theorem dL_law_203 : decode cL_law 203 = .ok (.iload_n 3, 1) := by decide +kernel
theorem dL_law_204 : decode cL_law 204 = .ok (.iconst 2, 1) := by decide +kernel
theorem dL_law_205 : decode cL_law 205 = .ok (.iadd, 1) := by decide +kernel
theorem dL_law_206 : decode cL_law 206 = .ok (.iaload, 1) := by decide +kernel
theorem dL_law_207 : decode cL_law 207 = .ok (.invokevirtual 27, 3) := by decide +kernel
theorem dL_law_210 : decode cL_law 210 = .ok (.if_icmp .eq 477, 3) := by decide +kernel
theorem dL_law_213 : decode cL_law 213 = .ok (.iconst 0, 1) := by decide +kernel
theorem dL_law_214 : decode cL_law 214 = .ok (.ireturn, 1) := by decide +kernel
theorem dL_law_215 : decode cL_law 215 = .ok (.aload_n 1, 1) := by decide +kernel
theorem dL_law_216 : decode cL_law 216 = .ok (.aload_n 0, 1) := by decide +kernel
theorem dL_law_217 : decode cL_law 217 = .ok (.iload_n 3, 1) := by decide +kernel
theorem dL_law_218 : decode cL_law 218 = .ok (.iconst 1, 1) := by decide +kernel
theorem dL_law_219 : decode cL_law 219 = .ok (.iadd, 1) := by decide +kernel
theorem dL_law_220 : decode cL_law 220 = .ok (.iaload, 1) := by decide +kernel
theorem dL_law_221 : decode cL_law 221 = .ok (.invokevirtual 28, 3) := by decide +kernel
theorem dL_law_224 : decode cL_law 224 = .ok (.aload_n 2, 1) := by decide +kernel
theorem dL_law_225 : decode cL_law 225 = .ok (.aload_n 0, 1) := by decide +kernel
theorem dL_law_226 : decode cL_law 226 = .ok (.iload_n 3, 1) := by decide +kernel
theorem dL_law_227 : decode cL_law 227 = .ok (.iconst 1, 1) := by decide +kernel
theorem dL_law_228 : decode cL_law 228 = .ok (.iadd, 1) := by decide +kernel
theorem dL_law_229 : decode cL_law 229 = .ok (.iaload, 1) := by decide +kernel
theorem dL_law_230 : decode cL_law 230 = .ok (.invokevirtual 31, 3) := by decide +kernel
theorem dL_law_233 : decode cL_law 233 = .ok (.if_icmp .eq 454, 3) := by decide +kernel
theorem dL_law_236 : decode cL_law 236 = .ok (.iconst 0, 1) := by decide +kernel
theorem dL_law_237 : decode cL_law 237 = .ok (.ireturn, 1) := by decide +kernel
theorem dL_law_238 : decode cL_law 238 = .ok (.aload_n 1, 1) := by decide +kernel
theorem dL_law_239 : decode cL_law 239 = .ok (.aload_n 0, 1) := by decide +kernel
theorem dL_law_240 : decode cL_law 240 = .ok (.iload_n 3, 1) := by decide +kernel
theorem dL_law_241 : decode cL_law 241 = .ok (.iconst 1, 1) := by decide +kernel
theorem dL_law_242 : decode cL_law 242 = .ok (.iadd, 1) := by decide +kernel
theorem dL_law_243 : decode cL_law 243 = .ok (.iaload, 1) := by decide +kernel
theorem dL_law_244 : decode cL_law 244 = .ok (.invokevirtual 32, 3) := by decide +kernel
theorem dL_law_247 : decode cL_law 247 = .ok (.aload_n 2, 1) := by decide +kernel
theorem dL_law_248 : decode cL_law 248 = .ok (.aload_n 0, 1) := by decide +kernel
theorem dL_law_249 : decode cL_law 249 = .ok (.iload_n 3, 1) := by decide +kernel
theorem dL_law_250 : decode cL_law 250 = .ok (.iconst 1, 1) := by decide +kernel
theorem dL_law_251 : decode cL_law 251 = .ok (.iadd, 1) := by decide +kernel
theorem dL_law_252 : decode cL_law 252 = .ok (.iaload, 1) := by decide +kernel
theorem dL_law_253 : decode cL_law 253 = .ok (.invokevirtual 35, 3) := by decide +kernel
theorem dL_law_256 : decode cL_law 256 = .ok (.if_icmp .eq 431, 3) := by decide +kernel
theorem dL_law_259 : decode cL_law 259 = .ok (.iconst 0, 1) := by decide +kernel
theorem dL_law_260 : decode cL_law 260 = .ok (.ireturn, 1) := by decide +kernel
theorem dL_law_261 : decode cL_law 261 = .ok (.aload_n 1, 1) := by decide +kernel
theorem dL_law_262 : decode cL_law 262 = .ok (.aload_n 0, 1) := by decide +kernel
theorem dL_law_263 : decode cL_law 263 = .ok (.iload_n 3, 1) := by decide +kernel
theorem dL_law_264 : decode cL_law 264 = .ok (.iconst 1, 1) := by decide +kernel
theorem dL_law_265 : decode cL_law 265 = .ok (.iadd, 1) := by decide +kernel
theorem dL_law_266 : decode cL_law 266 = .ok (.iaload, 1) := by decide +kernel
theorem dL_law_267 : decode cL_law 267 = .ok (.invokevirtual 36, 3) := by decide +kernel
theorem dL_law_270 : decode cL_law 270 = .ok (.aload_n 2, 1) := by decide +kernel
theorem dL_law_271 : decode cL_law 271 = .ok (.aload_n 0, 1) := by decide +kernel
theorem dL_law_272 : decode cL_law 272 = .ok (.iload_n 3, 1) := by decide +kernel
theorem dL_law_273 : decode cL_law 273 = .ok (.iconst 1, 1) := by decide +kernel
theorem dL_law_274 : decode cL_law 274 = .ok (.iadd, 1) := by decide +kernel
theorem dL_law_275 : decode cL_law 275 = .ok (.iaload, 1) := by decide +kernel
theorem dL_law_276 : decode cL_law 276 = .ok (.invokevirtual 39, 3) := by decide +kernel
theorem dL_law_279 : decode cL_law 279 = .ok (.if_icmp .eq 408, 3) := by decide +kernel
theorem dL_law_282 : decode cL_law 282 = .ok (.iconst 0, 1) := by decide +kernel
theorem dL_law_283 : decode cL_law 283 = .ok (.ireturn, 1) := by decide +kernel
theorem dL_law_284 : decode cL_law 284 = .ok (.aload_n 1, 1) := by decide +kernel
theorem dL_law_285 : decode cL_law 285 = .ok (.aload_n 0, 1) := by decide +kernel
theorem dL_law_286 : decode cL_law 286 = .ok (.iload_n 3, 1) := by decide +kernel
theorem dL_law_287 : decode cL_law 287 = .ok (.iconst 1, 1) := by decide +kernel
theorem dL_law_288 : decode cL_law 288 = .ok (.iadd, 1) := by decide +kernel
theorem dL_law_289 : decode cL_law 289 = .ok (.iaload, 1) := by decide +kernel
theorem dL_law_290 : decode cL_law 290 = .ok (.aload_n 0, 1) := by decide +kernel
theorem dL_law_291 : decode cL_law 291 = .ok (.iload_n 3, 1) := by decide +kernel
theorem dL_law_292 : decode cL_law 292 = .ok (.iconst 2, 1) := by decide +kernel
theorem dL_law_293 : decode cL_law 293 = .ok (.iadd, 1) := by decide +kernel
theorem dL_law_294 : decode cL_law 294 = .ok (.iaload, 1) := by decide +kernel
theorem dL_law_295 : decode cL_law 295 = .ok (.aload_n 0, 1) := by decide +kernel
theorem dL_law_296 : decode cL_law 296 = .ok (.iload_n 3, 1) := by decide +kernel
theorem dL_law_297 : decode cL_law 297 = .ok (.iconst 3, 1) := by decide +kernel
theorem dL_law_298 : decode cL_law 298 = .ok (.iadd, 1) := by decide +kernel
theorem dL_law_299 : decode cL_law 299 = .ok (.iaload, 1) := by decide +kernel
theorem dL_law_300 : decode cL_law 300 = .ok (.invokevirtual 40, 3) := by decide +kernel
theorem dL_law_303 : decode cL_law 303 = .ok (.aload_n 2, 1) := by decide +kernel
theorem dL_law_304 : decode cL_law 304 = .ok (.aload_n 0, 1) := by decide +kernel
theorem dL_law_305 : decode cL_law 305 = .ok (.iload_n 3, 1) := by decide +kernel
theorem dL_law_306 : decode cL_law 306 = .ok (.iconst 1, 1) := by decide +kernel
theorem dL_law_307 : decode cL_law 307 = .ok (.iadd, 1) := by decide +kernel
theorem dL_law_308 : decode cL_law 308 = .ok (.iaload, 1) := by decide +kernel
theorem dL_law_309 : decode cL_law 309 = .ok (.aload_n 0, 1) := by decide +kernel
theorem dL_law_310 : decode cL_law 310 = .ok (.iload_n 3, 1) := by decide +kernel
theorem dL_law_311 : decode cL_law 311 = .ok (.iconst 2, 1) := by decide +kernel
theorem dL_law_312 : decode cL_law 312 = .ok (.iadd, 1) := by decide +kernel
theorem dL_law_313 : decode cL_law 313 = .ok (.iaload, 1) := by decide +kernel
theorem dL_law_314 : decode cL_law 314 = .ok (.aload_n 0, 1) := by decide +kernel
theorem dL_law_315 : decode cL_law 315 = .ok (.iload_n 3, 1) := by decide +kernel
theorem dL_law_316 : decode cL_law 316 = .ok (.iconst 3, 1) := by decide +kernel
theorem dL_law_317 : decode cL_law 317 = .ok (.iadd, 1) := by decide +kernel
theorem dL_law_318 : decode cL_law 318 = .ok (.iaload, 1) := by decide +kernel
theorem dL_law_319 : decode cL_law 319 = .ok (.invokevirtual 43, 3) := by decide +kernel
theorem dL_law_322 : decode cL_law 322 = .ok (.if_icmp .eq 365, 3) := by decide +kernel
theorem dL_law_325 : decode cL_law 325 = .ok (.iconst 0, 1) := by decide +kernel
theorem dL_law_326 : decode cL_law 326 = .ok (.ireturn, 1) := by decide +kernel
theorem dL_law_327 : decode cL_law 327 = .ok (.aload_n 1, 1) := by decide +kernel
theorem dL_law_328 : decode cL_law 328 = .ok (.aload_n 0, 1) := by decide +kernel
theorem dL_law_329 : decode cL_law 329 = .ok (.iload_n 3, 1) := by decide +kernel
theorem dL_law_330 : decode cL_law 330 = .ok (.iconst 1, 1) := by decide +kernel
theorem dL_law_331 : decode cL_law 331 = .ok (.iadd, 1) := by decide +kernel
theorem dL_law_332 : decode cL_law 332 = .ok (.iaload, 1) := by decide +kernel
theorem dL_law_333 : decode cL_law 333 = .ok (.aload_n 0, 1) := by decide +kernel
theorem dL_law_334 : decode cL_law 334 = .ok (.iload_n 3, 1) := by decide +kernel
theorem dL_law_335 : decode cL_law 335 = .ok (.iconst 2, 1) := by decide +kernel
theorem dL_law_336 : decode cL_law 336 = .ok (.iadd, 1) := by decide +kernel
theorem dL_law_337 : decode cL_law 337 = .ok (.iaload, 1) := by decide +kernel
theorem dL_law_338 : decode cL_law 338 = .ok (.invokevirtual 44, 3) := by decide +kernel
theorem dL_law_341 : decode cL_law 341 = .ok (.aload_n 2, 1) := by decide +kernel
theorem dL_law_342 : decode cL_law 342 = .ok (.aload_n 0, 1) := by decide +kernel
theorem dL_law_343 : decode cL_law 343 = .ok (.iload_n 3, 1) := by decide +kernel
theorem dL_law_344 : decode cL_law 344 = .ok (.iconst 1, 1) := by decide +kernel
theorem dL_law_345 : decode cL_law 345 = .ok (.iadd, 1) := by decide +kernel
theorem dL_law_346 : decode cL_law 346 = .ok (.iaload, 1) := by decide +kernel
theorem dL_law_347 : decode cL_law 347 = .ok (.aload_n 0, 1) := by decide +kernel
theorem dL_law_348 : decode cL_law 348 = .ok (.iload_n 3, 1) := by decide +kernel
theorem dL_law_349 : decode cL_law 349 = .ok (.iconst 2, 1) := by decide +kernel
theorem dL_law_350 : decode cL_law 350 = .ok (.iadd, 1) := by decide +kernel
theorem dL_law_351 : decode cL_law 351 = .ok (.iaload, 1) := by decide +kernel
theorem dL_law_352 : decode cL_law 352 = .ok (.invokevirtual 47, 3) := by decide +kernel
theorem dL_law_355 : decode cL_law 355 = .ok (.if_icmp .eq 332, 3) := by decide +kernel
theorem dL_law_358 : decode cL_law 358 = .ok (.iconst 0, 1) := by decide +kernel
theorem dL_law_359 : decode cL_law 359 = .ok (.ireturn, 1) := by decide +kernel
theorem dL_law_360 : decode cL_law 360 = .ok (.aload_n 1, 1) := by decide +kernel
theorem dL_law_361 : decode cL_law 361 = .ok (.aload_n 0, 1) := by decide +kernel
theorem dL_law_362 : decode cL_law 362 = .ok (.iload_n 3, 1) := by decide +kernel
theorem dL_law_363 : decode cL_law 363 = .ok (.iconst 1, 1) := by decide +kernel
theorem dL_law_364 : decode cL_law 364 = .ok (.iadd, 1) := by decide +kernel
theorem dL_law_365 : decode cL_law 365 = .ok (.iaload, 1) := by decide +kernel
theorem dL_law_366 : decode cL_law 366 = .ok (.aload_n 0, 1) := by decide +kernel
theorem dL_law_367 : decode cL_law 367 = .ok (.iload_n 3, 1) := by decide +kernel
theorem dL_law_368 : decode cL_law 368 = .ok (.iconst 2, 1) := by decide +kernel
theorem dL_law_369 : decode cL_law 369 = .ok (.iadd, 1) := by decide +kernel
theorem dL_law_370 : decode cL_law 370 = .ok (.iaload, 1) := by decide +kernel
theorem dL_law_371 : decode cL_law 371 = .ok (.aload_n 0, 1) := by decide +kernel
theorem dL_law_372 : decode cL_law 372 = .ok (.iload_n 3, 1) := by decide +kernel
theorem dL_law_373 : decode cL_law 373 = .ok (.iconst 3, 1) := by decide +kernel
theorem dL_law_374 : decode cL_law 374 = .ok (.iadd, 1) := by decide +kernel
theorem dL_law_375 : decode cL_law 375 = .ok (.iaload, 1) := by decide +kernel
theorem dL_law_376 : decode cL_law 376 = .ok (.aload_n 0, 1) := by decide +kernel
theorem dL_law_377 : decode cL_law 377 = .ok (.iload_n 3, 1) := by decide +kernel
theorem dL_law_378 : decode cL_law 378 = .ok (.iconst 4, 1) := by decide +kernel
theorem dL_law_379 : decode cL_law 379 = .ok (.iadd, 1) := by decide +kernel
theorem dL_law_380 : decode cL_law 380 = .ok (.iaload, 1) := by decide +kernel
theorem dL_law_381 : decode cL_law 381 = .ok (.invokevirtual 48, 3) := by decide +kernel
theorem dL_law_384 : decode cL_law 384 = .ok (.aload_n 2, 1) := by decide +kernel
theorem dL_law_385 : decode cL_law 385 = .ok (.aload_n 0, 1) := by decide +kernel
theorem dL_law_386 : decode cL_law 386 = .ok (.iload_n 3, 1) := by decide +kernel
theorem dL_law_387 : decode cL_law 387 = .ok (.iconst 1, 1) := by decide +kernel
theorem dL_law_388 : decode cL_law 388 = .ok (.iadd, 1) := by decide +kernel
theorem dL_law_389 : decode cL_law 389 = .ok (.iaload, 1) := by decide +kernel
theorem dL_law_390 : decode cL_law 390 = .ok (.aload_n 0, 1) := by decide +kernel
theorem dL_law_391 : decode cL_law 391 = .ok (.iload_n 3, 1) := by decide +kernel
theorem dL_law_392 : decode cL_law 392 = .ok (.iconst 2, 1) := by decide +kernel
theorem dL_law_393 : decode cL_law 393 = .ok (.iadd, 1) := by decide +kernel
theorem dL_law_394 : decode cL_law 394 = .ok (.iaload, 1) := by decide +kernel
theorem dL_law_395 : decode cL_law 395 = .ok (.aload_n 0, 1) := by decide +kernel
theorem dL_law_396 : decode cL_law 396 = .ok (.iload_n 3, 1) := by decide +kernel
theorem dL_law_397 : decode cL_law 397 = .ok (.iconst 3, 1) := by decide +kernel
theorem dL_law_398 : decode cL_law 398 = .ok (.iadd, 1) := by decide +kernel
theorem dL_law_399 : decode cL_law 399 = .ok (.iaload, 1) := by decide +kernel
theorem dL_law_400 : decode cL_law 400 = .ok (.aload_n 0, 1) := by decide +kernel
theorem dL_law_401 : decode cL_law 401 = .ok (.iload_n 3, 1) := by decide +kernel
theorem dL_law_402 : decode cL_law 402 = .ok (.iconst 4, 1) := by decide +kernel
theorem dL_law_403 : decode cL_law 403 = .ok (.iadd, 1) := by decide +kernel
theorem dL_law_404 : decode cL_law 404 = .ok (.iaload, 1) := by decide +kernel
theorem dL_law_405 : decode cL_law 405 = .ok (.invokevirtual 52, 3) := by decide +kernel
theorem dL_law_408 : decode cL_law 408 = .ok (.if_icmp .eq 279, 3) := by decide +kernel
theorem dL_law_411 : decode cL_law 411 = .ok (.iconst 0, 1) := by decide +kernel
theorem dL_law_412 : decode cL_law 412 = .ok (.ireturn, 1) := by decide +kernel
theorem dL_law_413 : decode cL_law 413 = .ok (.aload_n 1, 1) := by decide +kernel
theorem dL_law_414 : decode cL_law 414 = .ok (.aload_n 0, 1) := by decide +kernel
theorem dL_law_415 : decode cL_law 415 = .ok (.iload_n 3, 1) := by decide +kernel
theorem dL_law_416 : decode cL_law 416 = .ok (.iconst 1, 1) := by decide +kernel
theorem dL_law_417 : decode cL_law 417 = .ok (.iadd, 1) := by decide +kernel
theorem dL_law_418 : decode cL_law 418 = .ok (.iaload, 1) := by decide +kernel
theorem dL_law_419 : decode cL_law 419 = .ok (.aload_n 0, 1) := by decide +kernel
theorem dL_law_420 : decode cL_law 420 = .ok (.iload_n 3, 1) := by decide +kernel
theorem dL_law_421 : decode cL_law 421 = .ok (.iconst 2, 1) := by decide +kernel
theorem dL_law_422 : decode cL_law 422 = .ok (.iadd, 1) := by decide +kernel
theorem dL_law_423 : decode cL_law 423 = .ok (.iaload, 1) := by decide +kernel
theorem dL_law_424 : decode cL_law 424 = .ok (.invokevirtual 53, 3) := by decide +kernel
theorem dL_law_427 : decode cL_law 427 = .ok (.aload_n 2, 1) := by decide +kernel
theorem dL_law_428 : decode cL_law 428 = .ok (.aload_n 0, 1) := by decide +kernel
theorem dL_law_429 : decode cL_law 429 = .ok (.iload_n 3, 1) := by decide +kernel
theorem dL_law_430 : decode cL_law 430 = .ok (.iconst 1, 1) := by decide +kernel
theorem dL_law_431 : decode cL_law 431 = .ok (.iadd, 1) := by decide +kernel
theorem dL_law_432 : decode cL_law 432 = .ok (.iaload, 1) := by decide +kernel
theorem dL_law_433 : decode cL_law 433 = .ok (.aload_n 0, 1) := by decide +kernel
theorem dL_law_434 : decode cL_law 434 = .ok (.iload_n 3, 1) := by decide +kernel
theorem dL_law_435 : decode cL_law 435 = .ok (.iconst 2, 1) := by decide +kernel
theorem dL_law_436 : decode cL_law 436 = .ok (.iadd, 1) := by decide +kernel
theorem dL_law_437 : decode cL_law 437 = .ok (.iaload, 1) := by decide +kernel
theorem dL_law_438 : decode cL_law 438 = .ok (.invokevirtual 56, 3) := by decide +kernel
theorem dL_law_441 : decode cL_law 441 = .ok (.if_icmp .eq 246, 3) := by decide +kernel
theorem dL_law_444 : decode cL_law 444 = .ok (.iconst 0, 1) := by decide +kernel
theorem dL_law_445 : decode cL_law 445 = .ok (.ireturn, 1) := by decide +kernel
theorem dL_law_446 : decode cL_law 446 = .ok (.aload_n 1, 1) := by decide +kernel
theorem dL_law_447 : decode cL_law 447 = .ok (.aload_n 0, 1) := by decide +kernel
theorem dL_law_448 : decode cL_law 448 = .ok (.iload_n 3, 1) := by decide +kernel
theorem dL_law_449 : decode cL_law 449 = .ok (.iconst 1, 1) := by decide +kernel
theorem dL_law_450 : decode cL_law 450 = .ok (.iadd, 1) := by decide +kernel
theorem dL_law_451 : decode cL_law 451 = .ok (.iaload, 1) := by decide +kernel
theorem dL_law_452 : decode cL_law 452 = .ok (.aload_n 0, 1) := by decide +kernel
theorem dL_law_453 : decode cL_law 453 = .ok (.iload_n 3, 1) := by decide +kernel
theorem dL_law_454 : decode cL_law 454 = .ok (.iconst 2, 1) := by decide +kernel
theorem dL_law_455 : decode cL_law 455 = .ok (.iadd, 1) := by decide +kernel
theorem dL_law_456 : decode cL_law 456 = .ok (.iaload, 1) := by decide +kernel
theorem dL_law_457 : decode cL_law 457 = .ok (.invokevirtual 57, 3) := by decide +kernel
theorem dL_law_460 : decode cL_law 460 = .ok (.aload_n 2, 1) := by decide +kernel
theorem dL_law_461 : decode cL_law 461 = .ok (.aload_n 0, 1) := by decide +kernel
theorem dL_law_462 : decode cL_law 462 = .ok (.iload_n 3, 1) := by decide +kernel
theorem dL_law_463 : decode cL_law 463 = .ok (.iconst 1, 1) := by decide +kernel
theorem dL_law_464 : decode cL_law 464 = .ok (.iadd, 1) := by decide +kernel
theorem dL_law_465 : decode cL_law 465 = .ok (.iaload, 1) := by decide +kernel
theorem dL_law_466 : decode cL_law 466 = .ok (.aload_n 0, 1) := by decide +kernel
theorem dL_law_467 : decode cL_law 467 = .ok (.iload_n 3, 1) := by decide +kernel
theorem dL_law_468 : decode cL_law 468 = .ok (.iconst 2, 1) := by decide +kernel
theorem dL_law_469 : decode cL_law 469 = .ok (.iadd, 1) := by decide +kernel
theorem dL_law_470 : decode cL_law 470 = .ok (.iaload, 1) := by decide +kernel
theorem dL_law_471 : decode cL_law 471 = .ok (.invokevirtual 60, 3) := by decide +kernel
theorem dL_law_474 : decode cL_law 474 = .ok (.if_icmp .eq 213, 3) := by decide +kernel
theorem dL_law_477 : decode cL_law 477 = .ok (.iconst 0, 1) := by decide +kernel
theorem dL_law_478 : decode cL_law 478 = .ok (.ireturn, 1) := by decide +kernel
theorem dL_law_479 : decode cL_law 479 = .ok (.aload_n 1, 1) := by decide +kernel
theorem dL_law_480 : decode cL_law 480 = .ok (.aload_n 0, 1) := by decide +kernel
theorem dL_law_481 : decode cL_law 481 = .ok (.iload_n 3, 1) := by decide +kernel
theorem dL_law_482 : decode cL_law 482 = .ok (.iconst 1, 1) := by decide +kernel
theorem dL_law_483 : decode cL_law 483 = .ok (.iadd, 1) := by decide +kernel
theorem dL_law_484 : decode cL_law 484 = .ok (.iaload, 1) := by decide +kernel
theorem dL_law_485 : decode cL_law 485 = .ok (.aload_n 0, 1) := by decide +kernel
theorem dL_law_486 : decode cL_law 486 = .ok (.iload_n 3, 1) := by decide +kernel
theorem dL_law_487 : decode cL_law 487 = .ok (.iconst 2, 1) := by decide +kernel
theorem dL_law_488 : decode cL_law 488 = .ok (.iadd, 1) := by decide +kernel
theorem dL_law_489 : decode cL_law 489 = .ok (.iaload, 1) := by decide +kernel
theorem dL_law_490 : decode cL_law 490 = .ok (.aload_n 0, 1) := by decide +kernel
theorem dL_law_491 : decode cL_law 491 = .ok (.iload_n 3, 1) := by decide +kernel
theorem dL_law_492 : decode cL_law 492 = .ok (.iconst 3, 1) := by decide +kernel
theorem dL_law_493 : decode cL_law 493 = .ok (.iadd, 1) := by decide +kernel
theorem dL_law_494 : decode cL_law 494 = .ok (.iaload, 1) := by decide +kernel
theorem dL_law_495 : decode cL_law 495 = .ok (.invokevirtual 61, 3) := by decide +kernel
theorem dL_law_498 : decode cL_law 498 = .ok (.aload_n 2, 1) := by decide +kernel
theorem dL_law_499 : decode cL_law 499 = .ok (.aload_n 0, 1) := by decide +kernel
theorem dL_law_500 : decode cL_law 500 = .ok (.iload_n 3, 1) := by decide +kernel
theorem dL_law_501 : decode cL_law 501 = .ok (.iconst 1, 1) := by decide +kernel
theorem dL_law_502 : decode cL_law 502 = .ok (.iadd, 1) := by decide +kernel
theorem dL_law_503 : decode cL_law 503 = .ok (.iaload, 1) := by decide +kernel
theorem dL_law_504 : decode cL_law 504 = .ok (.aload_n 0, 1) := by decide +kernel
theorem dL_law_505 : decode cL_law 505 = .ok (.iload_n 3, 1) := by decide +kernel
theorem dL_law_506 : decode cL_law 506 = .ok (.iconst 2, 1) := by decide +kernel
theorem dL_law_507 : decode cL_law 507 = .ok (.iadd, 1) := by decide +kernel
theorem dL_law_508 : decode cL_law 508 = .ok (.iaload, 1) := by decide +kernel
theorem dL_law_509 : decode cL_law 509 = .ok (.aload_n 0, 1) := by decide +kernel
theorem dL_law_510 : decode cL_law 510 = .ok (.iload_n 3, 1) := by decide +kernel
theorem dL_law_511 : decode cL_law 511 = .ok (.iconst 3, 1) := by decide +kernel
theorem dL_law_512 : decode cL_law 512 = .ok (.iadd, 1) := by decide +kernel
theorem dL_law_513 : decode cL_law 513 = .ok (.iaload, 1) := by decide +kernel
theorem dL_law_514 : decode cL_law 514 = .ok (.invokevirtual 64, 3) := by decide +kernel
theorem dL_law_517 : decode cL_law 517 = .ok (.if_icmp .eq 170, 3) := by decide +kernel
theorem dL_law_520 : decode cL_law 520 = .ok (.iconst 0, 1) := by decide +kernel
theorem dL_law_521 : decode cL_law 521 = .ok (.ireturn, 1) := by decide +kernel
theorem dL_law_522 : decode cL_law 522 = .ok (.aload_n 1, 1) := by decide +kernel
theorem dL_law_523 : decode cL_law 523 = .ok (.aload_n 0, 1) := by decide +kernel
theorem dL_law_524 : decode cL_law 524 = .ok (.iload_n 3, 1) := by decide +kernel
theorem dL_law_525 : decode cL_law 525 = .ok (.iconst 1, 1) := by decide +kernel
theorem dL_law_526 : decode cL_law 526 = .ok (.iadd, 1) := by decide +kernel
theorem dL_law_527 : decode cL_law 527 = .ok (.iaload, 1) := by decide +kernel
theorem dL_law_528 : decode cL_law 528 = .ok (.aload_n 0, 1) := by decide +kernel
theorem dL_law_529 : decode cL_law 529 = .ok (.iload_n 3, 1) := by decide +kernel
theorem dL_law_530 : decode cL_law 530 = .ok (.iconst 2, 1) := by decide +kernel
theorem dL_law_531 : decode cL_law 531 = .ok (.iadd, 1) := by decide +kernel
theorem dL_law_532 : decode cL_law 532 = .ok (.iaload, 1) := by decide +kernel
theorem dL_law_533 : decode cL_law 533 = .ok (.invokevirtual 65, 3) := by decide +kernel
theorem dL_law_536 : decode cL_law 536 = .ok (.aload_n 2, 1) := by decide +kernel
theorem dL_law_537 : decode cL_law 537 = .ok (.aload_n 0, 1) := by decide +kernel
theorem dL_law_538 : decode cL_law 538 = .ok (.iload_n 3, 1) := by decide +kernel
theorem dL_law_539 : decode cL_law 539 = .ok (.iconst 1, 1) := by decide +kernel
theorem dL_law_540 : decode cL_law 540 = .ok (.iadd, 1) := by decide +kernel
theorem dL_law_541 : decode cL_law 541 = .ok (.iaload, 1) := by decide +kernel
theorem dL_law_542 : decode cL_law 542 = .ok (.aload_n 0, 1) := by decide +kernel
theorem dL_law_543 : decode cL_law 543 = .ok (.iload_n 3, 1) := by decide +kernel
theorem dL_law_544 : decode cL_law 544 = .ok (.iconst 2, 1) := by decide +kernel
theorem dL_law_545 : decode cL_law 545 = .ok (.iadd, 1) := by decide +kernel
theorem dL_law_546 : decode cL_law 546 = .ok (.iaload, 1) := by decide +kernel
theorem dL_law_547 : decode cL_law 547 = .ok (.invokevirtual 68, 3) := by decide +kernel
theorem dL_law_550 : decode cL_law 550 = .ok (.if_icmp .eq 137, 3) := by decide +kernel
theorem dL_law_553 : decode cL_law 553 = .ok (.iconst 0, 1) := by decide +kernel
theorem dL_law_554 : decode cL_law 554 = .ok (.ireturn, 1) := by decide +kernel
theorem dL_law_555 : decode cL_law 555 = .ok (.aload_n 1, 1) := by decide +kernel
theorem dL_law_556 : decode cL_law 556 = .ok (.aload_n 0, 1) := by decide +kernel
theorem dL_law_557 : decode cL_law 557 = .ok (.iload_n 3, 1) := by decide +kernel
theorem dL_law_558 : decode cL_law 558 = .ok (.iconst 1, 1) := by decide +kernel
theorem dL_law_559 : decode cL_law 559 = .ok (.iadd, 1) := by decide +kernel
theorem dL_law_560 : decode cL_law 560 = .ok (.iaload, 1) := by decide +kernel
theorem dL_law_561 : decode cL_law 561 = .ok (.aload_n 0, 1) := by decide +kernel
theorem dL_law_562 : decode cL_law 562 = .ok (.iload_n 3, 1) := by decide +kernel
theorem dL_law_563 : decode cL_law 563 = .ok (.iconst 2, 1) := by decide +kernel
theorem dL_law_564 : decode cL_law 564 = .ok (.iadd, 1) := by decide +kernel
theorem dL_law_565 : decode cL_law 565 = .ok (.iaload, 1) := by decide +kernel
theorem dL_law_566 : decode cL_law 566 = .ok (.aload_n 0, 1) := by decide +kernel
theorem dL_law_567 : decode cL_law 567 = .ok (.iload_n 3, 1) := by decide +kernel
theorem dL_law_568 : decode cL_law 568 = .ok (.iconst 3, 1) := by decide +kernel
theorem dL_law_569 : decode cL_law 569 = .ok (.iadd, 1) := by decide +kernel
theorem dL_law_570 : decode cL_law 570 = .ok (.iaload, 1) := by decide +kernel
theorem dL_law_571 : decode cL_law 571 = .ok (.aload_n 0, 1) := by decide +kernel
theorem dL_law_572 : decode cL_law 572 = .ok (.iload_n 3, 1) := by decide +kernel
theorem dL_law_573 : decode cL_law 573 = .ok (.iconst 4, 1) := by decide +kernel
theorem dL_law_574 : decode cL_law 574 = .ok (.iadd, 1) := by decide +kernel
theorem dL_law_575 : decode cL_law 575 = .ok (.iaload, 1) := by decide +kernel
theorem dL_law_576 : decode cL_law 576 = .ok (.aload_n 0, 1) := by decide +kernel
theorem dL_law_577 : decode cL_law 577 = .ok (.iload_n 3, 1) := by decide +kernel
theorem dL_law_578 : decode cL_law 578 = .ok (.iconst 5, 1) := by decide +kernel
theorem dL_law_579 : decode cL_law 579 = .ok (.iadd, 1) := by decide +kernel
theorem dL_law_580 : decode cL_law 580 = .ok (.iaload, 1) := by decide +kernel
theorem dL_law_581 : decode cL_law 581 = .ok (.invokevirtual 69, 3) := by decide +kernel
theorem dL_law_584 : decode cL_law 584 = .ok (.aload_n 2, 1) := by decide +kernel
theorem dL_law_585 : decode cL_law 585 = .ok (.aload_n 0, 1) := by decide +kernel
theorem dL_law_586 : decode cL_law 586 = .ok (.iload_n 3, 1) := by decide +kernel
theorem dL_law_587 : decode cL_law 587 = .ok (.iconst 1, 1) := by decide +kernel
theorem dL_law_588 : decode cL_law 588 = .ok (.iadd, 1) := by decide +kernel
theorem dL_law_589 : decode cL_law 589 = .ok (.iaload, 1) := by decide +kernel
theorem dL_law_590 : decode cL_law 590 = .ok (.aload_n 0, 1) := by decide +kernel
theorem dL_law_591 : decode cL_law 591 = .ok (.iload_n 3, 1) := by decide +kernel
theorem dL_law_592 : decode cL_law 592 = .ok (.iconst 2, 1) := by decide +kernel
theorem dL_law_593 : decode cL_law 593 = .ok (.iadd, 1) := by decide +kernel
theorem dL_law_594 : decode cL_law 594 = .ok (.iaload, 1) := by decide +kernel
theorem dL_law_595 : decode cL_law 595 = .ok (.aload_n 0, 1) := by decide +kernel
theorem dL_law_596 : decode cL_law 596 = .ok (.iload_n 3, 1) := by decide +kernel
theorem dL_law_597 : decode cL_law 597 = .ok (.iconst 3, 1) := by decide +kernel
theorem dL_law_598 : decode cL_law 598 = .ok (.iadd, 1) := by decide +kernel
theorem dL_law_599 : decode cL_law 599 = .ok (.iaload, 1) := by decide +kernel
theorem dL_law_600 : decode cL_law 600 = .ok (.aload_n 0, 1) := by decide +kernel
theorem dL_law_601 : decode cL_law 601 = .ok (.iload_n 3, 1) := by decide +kernel
theorem dL_law_602 : decode cL_law 602 = .ok (.iconst 4, 1) := by decide +kernel
theorem dL_law_603 : decode cL_law 603 = .ok (.iadd, 1) := by decide +kernel
theorem dL_law_604 : decode cL_law 604 = .ok (.iaload, 1) := by decide +kernel
theorem dL_law_605 : decode cL_law 605 = .ok (.aload_n 0, 1) := by decide +kernel
theorem dL_law_606 : decode cL_law 606 = .ok (.iload_n 3, 1) := by decide +kernel
theorem dL_law_607 : decode cL_law 607 = .ok (.iconst 5, 1) := by decide +kernel
theorem dL_law_608 : decode cL_law 608 = .ok (.iadd, 1) := by decide +kernel
theorem dL_law_609 : decode cL_law 609 = .ok (.iaload, 1) := by decide +kernel
theorem dL_law_610 : decode cL_law 610 = .ok (.invokevirtual 73, 3) := by decide +kernel
theorem dL_law_613 : decode cL_law 613 = .ok (.if_icmp .eq 74, 3) := by decide +kernel
theorem dL_law_616 : decode cL_law 616 = .ok (.iconst 0, 1) := by decide +kernel
theorem dL_law_617 : decode cL_law 617 = .ok (.ireturn, 1) := by decide +kernel
theorem dL_law_618 : decode cL_law 618 = .ok (.aload_n 1, 1) := by decide +kernel
theorem dL_law_619 : decode cL_law 619 = .ok (.aload_n 0, 1) := by decide +kernel
theorem dL_law_620 : decode cL_law 620 = .ok (.iload_n 3, 1) := by decide +kernel
theorem dL_law_621 : decode cL_law 621 = .ok (.iconst 1, 1) := by decide +kernel
theorem dL_law_622 : decode cL_law 622 = .ok (.iadd, 1) := by decide +kernel
theorem dL_law_623 : decode cL_law 623 = .ok (.iaload, 1) := by decide +kernel
theorem dL_law_624 : decode cL_law 624 = .ok (.invokevirtual 74, 3) := by decide +kernel
theorem dL_law_627 : decode cL_law 627 = .ok (.aload_n 2, 1) := by decide +kernel
theorem dL_law_628 : decode cL_law 628 = .ok (.aload_n 0, 1) := by decide +kernel
theorem dL_law_629 : decode cL_law 629 = .ok (.iload_n 3, 1) := by decide +kernel
theorem dL_law_630 : decode cL_law 630 = .ok (.iconst 1, 1) := by decide +kernel
theorem dL_law_631 : decode cL_law 631 = .ok (.iadd, 1) := by decide +kernel
theorem dL_law_632 : decode cL_law 632 = .ok (.iaload, 1) := by decide +kernel
theorem dL_law_633 : decode cL_law 633 = .ok (.invokevirtual 77, 3) := by decide +kernel
theorem dL_law_636 : decode cL_law 636 = .ok (.if_icmp .eq 51, 3) := by decide +kernel
theorem dL_law_639 : decode cL_law 639 = .ok (.iconst 0, 1) := by decide +kernel
theorem dL_law_640 : decode cL_law 640 = .ok (.ireturn, 1) := by decide +kernel
theorem dL_law_641 : decode cL_law 641 = .ok (.aload_n 1, 1) := by decide +kernel
theorem dL_law_642 : decode cL_law 642 = .ok (.aload_n 0, 1) := by decide +kernel
theorem dL_law_643 : decode cL_law 643 = .ok (.iload_n 3, 1) := by decide +kernel
theorem dL_law_644 : decode cL_law 644 = .ok (.iconst 1, 1) := by decide +kernel
theorem dL_law_645 : decode cL_law 645 = .ok (.iadd, 1) := by decide +kernel
theorem dL_law_646 : decode cL_law 646 = .ok (.iaload, 1) := by decide +kernel
theorem dL_law_647 : decode cL_law 647 = .ok (.invokevirtual 78, 3) := by decide +kernel
theorem dL_law_650 : decode cL_law 650 = .ok (.aload_n 2, 1) := by decide +kernel
theorem dL_law_651 : decode cL_law 651 = .ok (.aload_n 0, 1) := by decide +kernel
theorem dL_law_652 : decode cL_law 652 = .ok (.iload_n 3, 1) := by decide +kernel
theorem dL_law_653 : decode cL_law 653 = .ok (.iconst 1, 1) := by decide +kernel
theorem dL_law_654 : decode cL_law 654 = .ok (.iadd, 1) := by decide +kernel
theorem dL_law_655 : decode cL_law 655 = .ok (.iaload, 1) := by decide +kernel
theorem dL_law_656 : decode cL_law 656 = .ok (.invokevirtual 81, 3) := by decide +kernel
theorem dL_law_659 : decode cL_law 659 = .ok (.if_icmp .eq 28, 3) := by decide +kernel
theorem dL_law_662 : decode cL_law 662 = .ok (.iconst 0, 1) := by decide +kernel
theorem dL_law_663 : decode cL_law 663 = .ok (.ireturn, 1) := by decide +kernel
theorem dL_law_664 : decode cL_law 664 = .ok (.aload_n 1, 1) := by decide +kernel
theorem dL_law_665 : decode cL_law 665 = .ok (.aload_n 0, 1) := by decide +kernel
theorem dL_law_666 : decode cL_law 666 = .ok (.iload_n 3, 1) := by decide +kernel
theorem dL_law_667 : decode cL_law 667 = .ok (.iconst 1, 1) := by decide +kernel
theorem dL_law_668 : decode cL_law 668 = .ok (.iadd, 1) := by decide +kernel
theorem dL_law_669 : decode cL_law 669 = .ok (.iaload, 1) := by decide +kernel
theorem dL_law_670 : decode cL_law 670 = .ok (.invokevirtual 82, 3) := by decide +kernel
theorem dL_law_673 : decode cL_law 673 = .ok (.aload_n 2, 1) := by decide +kernel
theorem dL_law_674 : decode cL_law 674 = .ok (.aload_n 0, 1) := by decide +kernel
theorem dL_law_675 : decode cL_law 675 = .ok (.iload_n 3, 1) := by decide +kernel
theorem dL_law_676 : decode cL_law 676 = .ok (.iconst 1, 1) := by decide +kernel
theorem dL_law_677 : decode cL_law 677 = .ok (.iadd, 1) := by decide +kernel
theorem dL_law_678 : decode cL_law 678 = .ok (.iaload, 1) := by decide +kernel
theorem dL_law_679 : decode cL_law 679 = .ok (.invokevirtual 85, 3) := by decide +kernel
theorem dL_law_682 : decode cL_law 682 = .ok (.if_icmp .eq 5, 3) := by decide +kernel
theorem dL_law_685 : decode cL_law 685 = .ok (.iconst 0, 1) := by decide +kernel
theorem dL_law_686 : decode cL_law 686 = .ok (.ireturn, 1) := by decide +kernel
theorem dL_law_687 : decode cL_law 687 = .ok (.iinc 3 6, 3) := by decide +kernel
theorem dL_law_690 : decode cL_law 690 = .ok (.goto (-672), 3) := by decide +kernel
theorem dL_law_693 : decode cL_law 693 = .ok (.iconst 1, 1) := by decide +kernel
theorem dL_law_694 : decode cL_law 694 = .ok (.ireturn, 1) := by decide +kernel
end
section
/-! Numbers: every int is iI of an Int; an array of ints is vI of a function to Int -/
def iI (z : Int) : Int32 := Int32.ofInt z
def vI (f : Nat → Int) : Nat → Int32 := fun j => iI (f j)
def updI (f : Nat → Int) (k : Nat) (v : Int) : Nat → Int := fun j => if j = k then v else f j
theorem updI_s {f : Nat → Int} {k : Nat} {v : Int} : updI f k v k = v := if_pos rfl
theorem updI_n {f : Nat → Int} {k j : Nat} {v : Int} (h : j ≠ k) : updI f k v j = f j := if_neg h
theorem iI_nI (n : Nat) : iI (n : Int) = nI n := Int32.ofInt_eq_ofNat
theorem iI_add (a b : Int) : iI a + iI b = iI (a + b) := (Int32.ofInt_add a b).symm
theorem iI_sub (a b : Int) : iI a - iI b = iI (a - b) := (Int32.ofInt_sub a b).symm
theorem iI_mul (a b : Int) : iI a * iI b = iI (a * b) := (Int32.ofInt_mul a b).symm
theorem iI_neg (a : Int) : -iI a = iI (-a) := (Int32.ofInt_neg a).symm
theorem iI_toInt {z : Int} (h : -2147483648 ≤ z ∧ z ≤ 2147483647) : (iI z).toInt = z := Int32.toInt_ofInt_of_le (by omega) (by omega)
theorem iI_of (x : Int32) : iI x.toInt = x := Int32.ofInt_toInt x
theorem iI_rng (x : Int32) : -2147483648 ≤ x.toInt ∧ x.toInt ≤ 2147483647 := by
  have h1 := Int32.toInt_lt x
  have h2 := Int32.le_toInt x
  omega
theorem iI_le {a b : Int} (ha : -2147483648 ≤ a ∧ a ≤ 2147483647) (hb : -2147483648 ≤ b ∧ b ≤ 2147483647) : iI a ≤ iI b ↔ a ≤ b := by
  rw [Int32.le_iff_toInt_le, iI_toInt ha, iI_toInt hb]
theorem iI_lt {a b : Int} (ha : -2147483648 ≤ a ∧ a ≤ 2147483647) (hb : -2147483648 ≤ b ∧ b ≤ 2147483647) : iI a < iI b ↔ a < b := by
  rw [Int32.lt_iff_toInt_lt, iI_toInt ha, iI_toInt hb]
theorem iI_eq {a b : Int} (ha : -2147483648 ≤ a ∧ a ≤ 2147483647) (hb : -2147483648 ≤ b ∧ b ≤ 2147483647) : iI a = iI b ↔ a = b := by
  rw [← Int32.toInt_inj, iI_toInt ha, iI_toInt hb]
theorem iI_0 : (0 : Int32) = iI 0 := rfl
theorem iI_div {a b : Int} (ha : -2147483648 ≤ a ∧ a ≤ 2147483647) (hb : 0 < b ∧ b ≤ 2147483647) : iI a / iI b = iI (a.tdiv b) := by
  have h1 : (iI b).toInt = b := iI_toInt (by omega)
  have hne : iI b ≠ -1 := fun h => by
    have h2 : (iI b).toInt = (-1 : Int32).toInt := by rw [h]
    rw [h1] at h2
    have h3 : (-1 : Int32).toInt = -1 := by decide
    omega
  have h4 := Int32.toInt_div_of_ne_right (iI a) (iI b) hne
  rw [iI_toInt ha, h1] at h4
  rw [← iI_of (iI a / iI b), h4]
theorem iI_rem {a b : Int} (ha : -2147483648 ≤ a ∧ a ≤ 2147483647) (hb : 0 < b ∧ b ≤ 2147483647) : iI a - iI a / iI b * iI b = iI (a.tmod b) := by
  rw [iI_div ha hb, iI_mul, iI_sub, Int.tmod_def, Int.mul_comm]
theorem upd_vI (f : Nat → Int) (k : Nat) (v : Int) : upd (vI f) k (iI v) = vI (updI f k v) := by
  funext j
  by_cases h : j = k
  · simp [upd, vI, updI, h]
  · simp [upd, vI, updI, h]
theorem iI_cl {k : Nat} (h : k ≤ 2147483647) : (iI (k : Int)).toNatClampNeg = k := by
  rw [iI_nI]; exact nI_clamp (by omega)
theorem iI_in {k n : Nat} (h : k < n) (hn : n ≤ 2147483647) : vp_in (iI (k : Int)) n := by
  rw [iI_nI]; exact vp_in_nI h (by omega)
/-! The surroundings: classes, array classes, nest words, the three static rows -/
abbrev TY (cI cZ : ClassId) : List (ClassId × FieldType) := [(cI, .int), (cZ, .boolean)]
def Nw (U : State) : Prop := va_Nw (.methodLinkNest RX3 76 yX4_within "PathSounder") U ∧ va_Nw (.methodLinkNest RX3 80 yX4_quotient "PathSounder") U ∧ va_Nw (.methodLinkNest RX1 28 yX4_leftOver "PathSounder") U ∧ va_Nw (.methodLinkNest RX4 11 yX3_init "PathSounder") U ∧ va_Nw (.methodLinkNest RX3 30 yX1_init "PathSounder") U ∧ va_Nw (.methodLinkNest RX3 37 yX2_init "PathSounder") U ∧ va_Nw (.methodLinkNest RX3 44 yX0_init "PathSounder") U ∧ va_Nw (.fieldLinkNest RX1 15 "PathSounder" "LINK_AT_FIRST" "[I" "PathSounder") U
theorem Nw.warm {s U : State} (hW : s.WarmedH U.vm) (h : Nw s) : Nw U := by
  obtain ⟨h1, h2, h3, h4, h5, h6, h7, h8⟩ := h
  exact ⟨h1.warmM hW, h2.warmM hW, h3.warmM hW, h4.warmM hW, h5.warmM hW, h6.warmM hW, h7.warmM hW, h8.warmF hW⟩
theorem Nw.same {u U : State} (h : u.vm = U.vm) (hz : Nw u) : Nw U := by
  obtain ⟨h1, h2, h3, h4, h5, h6, h7, h8⟩ := hz
  exact ⟨h1.same rfl h, h2.same rfl h, h3.same rfl h, h4.same rfl h, h5.same rfl h, h6.same rfl h, h7.same rfl h, h8.same rfl h⟩
def lnLeast (j : Nat) : Int := ([1, 0, 1, 0, 0, 0] : List Int).getD j 0
def lnMost (j : Nat) : Int := ([20, 9, 20, 9, 9, 9] : List Int).getD j 0
def lnFirst (j : Nat) : Int := ([5, 0, 5, 0, 0, 0] : List Int).getD j 0
def S1 (nm : String) (f : Nat → Int) (N : Nat) (U : State) (H : Heap) : Prop := ∃ z : Nat, va_Z "PathSounder" nm "[I" (.ref z) (fun q => N ≤ q) U H ∧ va_T .int z 6 (fun j => .int (vI f j)) (fun q => N ≤ q) U H
def Sts (N : Nat) (U : State) (H : Heap) : Prop := S1 "LINK_LEAST" lnLeast N U H ∧ S1 "LINK_MOST" lnMost N U H ∧ S1 "LINK_AT_FIRST" lnFirst N U H
theorem S1.moved {nm : String} {f : Nat → Int} {N : Nat} {u U : State} {H : Heap} (hvm : u.vm.Alike U.vm) (h : S1 nm f N u H) : S1 nm f N U H := by
  obtain ⟨z, h1, h2⟩ := h
  exact ⟨z, h1.moved hvm, h2.moved hvm⟩
theorem S1.kept {nm : String} {f : Nat → Int} {N : Nat} {U : State} {H H1 : Heap} (h : S1 nm f N U H) (hq : ∀ a : Nat, a < H.size → ¬ N ≤ a → H1[a]? = H[a]?) : S1 nm f N U H1 := by
  obtain ⟨z, h1, h2⟩ := h
  exact ⟨z, h1.kept hq, h2.kept hq⟩
def En (D : va_G) (cI cZ : ClassId) (N : Nat) (U : State) : Prop := va_K D vwCl (TY cI cZ) U ∧ N ≤ U.heap.size ∧ Nw U ∧ Sts N U U.heap
theorem En.calling {D : va_G} {cI cZ : ClassId} {N : Nat} {U : State} {g : JFrame} {mk : MethodId} {a : Array Value} (h : En D cI cZ N U) : En D cI cZ N (U.calling g mk a) :=
  ⟨va_K.moved (u := U) (U := U.calling g mk a) (Vm.Alike.refl U.vm) h.1, h.2.1, Nw.same (u := U) (U := U.calling g mk a) rfl h.2.2.1, S1.moved (u := U) (U := U.calling g mk a) (Vm.Alike.refl U.vm) h.2.2.2.1, S1.moved (u := U) (U := U.calling g mk a) (Vm.Alike.refl U.vm) h.2.2.2.2.1, S1.moved (u := U) (U := U.calling g mk a) (Vm.Alike.refl U.vm) h.2.2.2.2.2⟩
theorem En.at {D : va_G} {cI cZ : ClassId} {N : Nat} {s U : State} {A : Nat → Prop} {H : Heap} {locs : List Loc} (h : En D cI cZ N s) (hS : va_S A s.heap H locs) (hAN : ∀ q, A q → N ≤ q) (hU : U.heap = H) (hW : s.WarmedH U.vm) : En D cI cZ N U := by
  obtain ⟨hK, hN, hn, h1, h2, h3⟩ := h
  have hq : ∀ a : Nat, a < s.heap.size → ¬ N ≤ a → U.heap[a]? = s.heap[a]? := fun a g1 g2 => by rw [hU]; exact hS.2.1 a g1 (fun z => g2 (hAN a z))
  exact ⟨hK.moved hW.alike, Nat.le_trans hN (by rw [hU]; exact hS.1), hn.warm hW, (h1.kept hq).moved hW.alike, (h2.kept hq).moved hW.alike, (h3.kept hq).moved hW.alike⟩
/-! Contracts: CR reads alone, CM maps the world w to w' -/
def PC (D : va_G) (cI cZ : ClassId) (N : Nat) (av : List Value) (w : va_W) : Array Value → State → Prop := fun v U => v = av.toArray ∧ En D cI cZ N U ∧ va_P D vwCl w U.heap ∧ va_D (fun q => N ≤ q) w
def QR (o : Option Value) : Array Value → State → Outcome → State → Prop := fun _ st oc t => oc = .returned o ∧ t.heap = st.heap
def memA (w : va_W) : Nat → Prop := fun q => ∃ x ∈ w, x.1 = q
def QM (D : va_G) (o : Option Value) (A : Nat → Prop) (w' : va_W) : Array Value → State → Outcome → State → Prop := fun _ st oc t => oc = .returned o ∧ va_P D vwCl w' t.heap ∧ va_F A st t
def CR (l : Launch) (D : va_G) (cI cZ : ClassId) (N : Nat) (y : MethodName) (wl : List Cond) (rm : Room) (av : List Value) (w : va_W) (o : Option Value) : Prop := Met l y wl rm (PC D cI cZ N av w) (QR o) 0 0 (fun _ => False)
def CM (l : Launch) (D : va_G) (cI cZ : ClassId) (N : Nat) (y : MethodName) (wl : List Cond) (rm : Room) (av : List Value) (w : va_W) (o : Option Value) (w' : va_W) : Prop := Met l y wl rm (PC D cI cZ N av w) (QM D o (memA w) w') 0 0 (memA w)
theorem PC.blind {D : va_G} {cI cZ : ClassId} {N : Nat} {av : List Value} {w : va_W} : FrameBlind (PC D cI cZ N av w) := fun _ _ _ _ h => ⟨h.1, h.2.1.calling, h.2.2.1, h.2.2.2⟩
theorem memA_D {N : Nat} {w : va_W} (h : va_D (fun q => N ≤ q) w) : va_D (memA w) w ∧ ∀ q, memA w q → N ≤ q := by
  refine ⟨⟨h.1, fun k q hk => ⟨q, List.mem_of_getElem? hk, rfl⟩⟩, fun q ⟨x, hx, he⟩ => ?_⟩
  obtain ⟨i, hi⟩ := List.getElem?_of_mem hx
  rw [← he]
  exact h.2 i x hi
def rep : va_W → List Nat → va_W → va_W
  | ws, i :: is, x :: xs => rep (ws.set i x) is xs
  | ws, _, _ => ws
theorem pick_at {ws wc : va_W} {is : List Nat} (hC : is.map (fun i => ws[i]?) = wc.map some) {k : Nat} {x : Nat × va_E} (hk : wc[k]? = some x) : ∃ i, is[k]? = some i ∧ ws[i]? = some x := by
  have h1 : (is.map (fun i => ws[i]?))[k]? = some (some x) := by rw [hC, List.getElem?_map, hk]; rfl
  rw [List.getElem?_map] at h1
  cases hi : is[k]? with
  | none => rw [hi] at h1; cases h1
  | some i => rw [hi] at h1; exact ⟨i, rfl, Option.some.inj h1⟩
theorem pick_P {D : va_G} {ws wc : va_W} {H : Heap} {is : List Nat} (hP : va_P D vwCl ws H) (hC : is.map (fun i => ws[i]?) = wc.map some) : va_P D vwCl wc H := by
  intro k x hk
  obtain ⟨i, -, hi⟩ := pick_at hC hk
  exact hP i x hi
/-- what stands at a place of rep: the new cell, if the place is named, else the old one -/
theorem rep_at : ∀ (is : List Nat) (ws w1 : va_W) (k : Nat) (x : Nat × va_E), (rep ws is w1)[k]? = some x → (∃ j : Nat, w1[j]? = some x ∧ is[j]? = some k) ∨ (ws[k]? = some x ∧ ∀ j : Nat, j < w1.length → is[j]? ≠ some k)
  | [], ws, w1, k, x, h => Or.inr ⟨by cases w1 <;> exact h, fun j _ => by simp⟩
  | i :: is, ws, [], k, x, h => Or.inr ⟨h, fun j hj => absurd hj (Nat.not_lt_zero _)⟩
  | i :: is, ws, y :: w1, k, x, h => by
    rcases rep_at is (ws.set i y) w1 k x h with ⟨j, h1, h2⟩ | ⟨h1, h2⟩
    · exact Or.inl ⟨j + 1, h1, h2⟩
    · by_cases hk : i = k
      · subst hk
        by_cases hl : i < ws.length
        · rw [List.getElem?_set_self hl] at h1
          exact Or.inl ⟨0, h1, rfl⟩
        · rw [List.getElem?_eq_none (by simp; omega)] at h1
          cases h1
      · rw [List.getElem?_set_ne hk] at h1
        refine Or.inr ⟨h1, fun j hj => ?_⟩
        cases j with
        | zero => exact fun e => hk (Option.some.inj e)
        | succ j => exact h2 j (by simpa using hj)
theorem rep_join {D : va_G} {A : Nat → Prop} {ws wc w1 : va_W} {H H1 : Heap} {is : List Nat} (hP : va_P D vwCl ws H) (hD : va_D A ws) (hC : is.map (fun i => ws[i]?) = wc.map some) (hn : va_nd is = true) (hw : w1.map Prod.fst = wc.map Prod.fst) (hk : ∀ q : Nat, q < H.size → ¬ memA wc q → H1[q]? = H[q]?) (hP1 : va_P D vwCl w1 H1) : va_P D vwCl (rep ws is w1) H1 ∧ va_D A (rep ws is w1) := by
  have hlen : is.length = wc.length := by simpa using congrArg List.length hC
  have hlen1 : w1.length = wc.length := by simpa using congrArg List.length hw
  have adr : ∀ (j : Nat) (x : Nat × va_E), w1[j]? = some x → ∃ y : Nat × va_E, wc[j]? = some y ∧ y.1 = x.1 := by
    intro j x hx
    have h1 : (w1.map Prod.fst)[j]? = some x.1 := by rw [List.getElem?_map, hx]; rfl
    rw [hw, List.getElem?_map] at h1
    cases hy : wc[j]? with
    | none => rw [hy] at h1; cases h1
    | some y => rw [hy] at h1; exact ⟨y, rfl, Option.some.inj h1⟩
  have key : ∀ (k : Nat) (x : Nat × va_E), (rep ws is w1)[k]? = some x → ∃ y : Nat × va_E, ws[k]? = some y ∧ y.1 = x.1 := by
    intro k x hx
    rcases rep_at is ws w1 k x hx with ⟨j, h1, h2⟩ | ⟨h1, -⟩
    · obtain ⟨y, hy, e⟩ := adr j x h1
      obtain ⟨i, h3, h4⟩ := pick_at hC hy
      rw [h2] at h3
      cases h3
      exact ⟨y, h4, e⟩
    · exact ⟨x, h1, rfl⟩
  refine ⟨fun k x hx => ?_, fun i j x y hi hj hxy => ?_, fun k x hx => ?_⟩
  · rcases rep_at is ws w1 k x hx with ⟨j, h1, -⟩ | ⟨h1, h2⟩
    · exact hP1 j x h1
    · refine (hP k x h1).kept (hk x.1 (hP k x h1).lt (fun ⟨y, hy, e⟩ => ?_))
      obtain ⟨j, hj⟩ := List.getElem?_of_mem hy
      obtain ⟨i, h3, h4⟩ := pick_at hC hj
      have hik := hD.1 i k y x h4 h1 e
      subst hik
      exact h2 j (by rw [hlen1]; exact (List.getElem?_eq_some_iff.mp hj).1) h3
  · obtain ⟨x0, h1, e1⟩ := key i x hi
    obtain ⟨y0, h2, e2⟩ := key j y hj
    exact hD.1 i j x0 y0 h1 h2 (e1.trans (hxy.trans e2.symm))
  · obtain ⟨y, h1, e⟩ := key k x hx
    rw [← e]
    exact hD.2 k y h1
end
section
section STEPS
variable {p : Program} {l : Launch} {e : Env} {R : Room} {s : State} {m : MethodId} {args : Array Value} {below : List Frame} {meth : Method} {c : Code} {H : Heap} {locs : List Loc} {cells slots : Nat} {Q : State → Prop}
variable {cc : ByteArray} {pc : Nat} {ls : Array Slot} {rest st0 : List Value} {D : va_G} {A : Nat → Prop} {a : Nat} {ws wc w1 : va_W} {H0 : Heap} {cI cZ : ClassId} {N nL : Nat} {Ts : List Cond} {own : String}
/-- the number on top under another name -/
theorem w_top {x : Int32} {z : Int} (h : x = iI z) (k : W p l e R s m args below meth c H locs cells slots Q (F0 m pc ls (.int (iI z) :: rest))) : W p l e R s m args below meth c H locs cells slots Q (F0 m pc ls (.int x :: rest)) := by
  rw [h]; exact k
theorem w_tz {y z : Int} (h : y = z) (k : W p l e R s m args below meth c H locs cells slots Q (F0 m pc ls (.int (iI z) :: rest))) : W p l e R s m args below meth c H locs cells slots Q (F0 m pc ls (.int (iI y) :: rest)) := by
  rw [h]; exact k
theorem w_iadd (S : CallFix p m c cc nL s args Ts own) {y z : Int} (hdg : decode cc pc = .ok (.iadd, 1)) (k : W p l e R s m args below meth c H locs cells slots Q (F0 m (pc + 1) ls (.int (iI (y + z)) :: rest))) : W p l e R s m args below meth c H locs cells slots Q (F0 m pc ls (.int (iI z) :: .int (iI y) :: rest)) :=
  lv_iadd S.1 S.2.1 hdg (by rw [iI_add]; exact k)
theorem w_isub (S : CallFix p m c cc nL s args Ts own) {y z : Int} (hdg : decode cc pc = .ok (.isub, 1)) (k : W p l e R s m args below meth c H locs cells slots Q (F0 m (pc + 1) ls (.int (iI (y - z)) :: rest))) : W p l e R s m args below meth c H locs cells slots Q (F0 m pc ls (.int (iI z) :: .int (iI y) :: rest)) :=
  lv_isub S.1 S.2.1 hdg (by rw [iI_sub]; exact k)
theorem w_imul (S : CallFix p m c cc nL s args Ts own) {y z : Int} (hdg : decode cc pc = .ok (.imul, 1)) (k : W p l e R s m args below meth c H locs cells slots Q (F0 m (pc + 1) ls (.int (iI (y * z)) :: rest))) : W p l e R s m args below meth c H locs cells slots Q (F0 m pc ls (.int (iI z) :: .int (iI y) :: rest)) :=
  lv_imul S.1 S.2.1 hdg (by rw [iI_mul]; exact k)
theorem w_ineg (S : CallFix p m c cc nL s args Ts own) {z : Int} (hdg : decode cc pc = .ok (.ineg, 1)) (k : W p l e R s m args below meth c H locs cells slots Q (F0 m (pc + 1) ls (.int (iI (-z)) :: rest))) : W p l e R s m args below meth c H locs cells slots Q (F0 m pc ls (.int (iI z) :: rest)) :=
  lv_ineg S.1 S.2.1 hdg (by rw [iI_neg]; exact k)
theorem w_idiv (S : CallFix p m c cc nL s args Ts own) {y z : Int} (hy : -2147483648 ≤ y ∧ y ≤ 2147483647) (hz : 0 < z ∧ z ≤ 2147483647) (hdg : decode cc pc = .ok (.idiv, 1)) (k : W p l e R s m args below meth c H locs cells slots Q (F0 m (pc + 1) ls (.int (iI (y.tdiv z)) :: rest))) : W p l e R s m args below meth c H locs cells slots Q (F0 m pc ls (.int (iI z) :: .int (iI y) :: rest)) :=
  lv_idiv S.1 S.2.1 hdg (fun h => by have h2 := (iI_eq (a := z) (b := 0) (by omega) (by omega)).mp h; omega) (by rw [iI_div hy hz]; exact k)
theorem w_irem (S : CallFix p m c cc nL s args Ts own) {y z : Int} (hy : -2147483648 ≤ y ∧ y ≤ 2147483647) (hz : 0 < z ∧ z ≤ 2147483647) (hdg : decode cc pc = .ok (.irem, 1)) (k : W p l e R s m args below meth c H locs cells slots Q (F0 m (pc + 1) ls (.int (iI (y.tmod z)) :: rest))) : W p l e R s m args below meth c H locs cells slots Q (F0 m pc ls (.int (iI z) :: .int (iI y) :: rest)) :=
  lv_irem S.1 S.2.1 hdg (fun h => by have h2 := (iI_eq (a := z) (b := 0) (by omega) (by omega)).mp h; omega) (by rw [iI_rem hy hz]; exact k)
theorem w_ldc (S : CallFix p m c cc nL s args Ts own) {index : Nat} {v : Int32} {z : Int} (hw : Cond.constant own index v ∈ Ts) (hv : v = iI z) (hdg : decode cc pc = .ok (.ldc index, 2)) (k : W p l e R s m args below meth c H locs cells slots Q (F0 m (pc + 2) ls (.int (iI z) :: rest))) : W p l e R s m args below meth c H locs cells slots Q (F0 m pc ls rest) :=
  lv_ldc S.1 S.2.1 S.2.2.2.1 (S.2.2.2.2 _ hw) hdg (by rw [hv]; exact k)
theorem w_iinc (S : CallFix p m c cc nL s args Ts own) {i k : Nat} {n x v : Int} {lv lv' : List (Nat × Value)} (hdg : decode cc pc = .ok (.iinc i n, 3)) (h : lv_has ls nL lv) (hk : lv[k]? = some (i, .int (iI x))) (hv : x + n = v) (hn : i < nL) (hl : (i, Value.int (iI v)) :: lv.filter (fun q => !(q.1 == i) && !(q.1 + 1 == i && q.2.category == 2)) = lv') (kk : ∀ ls' : Array Slot, lv_has ls' nL lv' → W p l e R s m args below meth c H locs cells slots Q (F0 m (pc + 3) ls' rest)) : W p l e R s m args below meth c H locs cells slots Q (F0 m pc ls rest) :=
  lv_iinc S.1 S.2.1 hdg h hk (by rw [← hv, ← iI_add]; rfl) hn hl kk
/-! branches whose outcome is known -/
theorem b_eqT (S : CallFix p m c cc nL s args Ts own) {z : Int} {off : Int} {tgt : Nat} (hdg : decode cc pc = .ok (.ifCond .eq off, 3)) (ht : (pc : Int) + off = (tgt : Int)) (h : z = 0) (k : W p l e R s m args below meth c H locs cells slots Q (F0 m tgt ls rest)) : W p l e R s m args below meth c H locs cells slots Q (F0 m pc ls (.int (iI z) :: rest)) :=
  lv_if_eq S.1 S.2.1 hdg ht (fun _ => k) (fun g => absurd (by rw [h]; rfl) g)
theorem b_eqF (S : CallFix p m c cc nL s args Ts own) {z : Int} {off : Int} {tgt : Nat} (hdg : decode cc pc = .ok (.ifCond .eq off, 3)) (ht : (pc : Int) + off = (tgt : Int)) (hz : -2147483648 ≤ z ∧ z ≤ 2147483647) (h : z ≠ 0) (k : W p l e R s m args below meth c H locs cells slots Q (F0 m (pc + 3) ls rest)) : W p l e R s m args below meth c H locs cells slots Q (F0 m pc ls (.int (iI z) :: rest)) :=
  lv_if_eq S.1 S.2.1 hdg ht (fun g => absurd ((iI_eq (a := z) (b := 0) hz (by omega)).mp g) h) (fun _ => k)
theorem b_neT (S : CallFix p m c cc nL s args Ts own) {z : Int} {off : Int} {tgt : Nat} (hdg : decode cc pc = .ok (.ifCond .ne off, 3)) (ht : (pc : Int) + off = (tgt : Int)) (hz : -2147483648 ≤ z ∧ z ≤ 2147483647) (h : z ≠ 0) (k : W p l e R s m args below meth c H locs cells slots Q (F0 m tgt ls rest)) : W p l e R s m args below meth c H locs cells slots Q (F0 m pc ls (.int (iI z) :: rest)) :=
  lv_if_ne S.1 S.2.1 hdg ht (fun _ => k) (fun g => absurd ((iI_eq (a := z) (b := 0) hz (by omega)).mp g) h)
theorem b_neF (S : CallFix p m c cc nL s args Ts own) {z : Int} {off : Int} {tgt : Nat} (hdg : decode cc pc = .ok (.ifCond .ne off, 3)) (ht : (pc : Int) + off = (tgt : Int)) (h : z = 0) (k : W p l e R s m args below meth c H locs cells slots Q (F0 m (pc + 3) ls rest)) : W p l e R s m args below meth c H locs cells slots Q (F0 m pc ls (.int (iI z) :: rest)) :=
  lv_if_ne S.1 S.2.1 hdg ht (fun g => absurd (by rw [h]; rfl) g) (fun _ => k)
theorem b_leT (S : CallFix p m c cc nL s args Ts own) {z : Int} {off : Int} {tgt : Nat} (hdg : decode cc pc = .ok (.ifCond .le off, 3)) (ht : (pc : Int) + off = (tgt : Int)) (hz : -2147483648 ≤ z ∧ z ≤ 2147483647) (h : z ≤ 0) (k : W p l e R s m args below meth c H locs cells slots Q (F0 m tgt ls rest)) : W p l e R s m args below meth c H locs cells slots Q (F0 m pc ls (.int (iI z) :: rest)) :=
  lv_if_le S.1 S.2.1 hdg ht (fun _ => k) (fun g => absurd ((iI_le (a := z) (b := 0) hz (by omega)).mpr h) g)
theorem b_leF (S : CallFix p m c cc nL s args Ts own) {z : Int} {off : Int} {tgt : Nat} (hdg : decode cc pc = .ok (.ifCond .le off, 3)) (ht : (pc : Int) + off = (tgt : Int)) (hz : -2147483648 ≤ z ∧ z ≤ 2147483647) (h : 0 < z) (k : W p l e R s m args below meth c H locs cells slots Q (F0 m (pc + 3) ls rest)) : W p l e R s m args below meth c H locs cells slots Q (F0 m pc ls (.int (iI z) :: rest)) :=
  lv_if_le S.1 S.2.1 hdg ht (fun g => absurd ((iI_le (a := z) (b := 0) hz (by omega)).mp g) (by omega)) (fun _ => k)
theorem b_geT (S : CallFix p m c cc nL s args Ts own) {z : Int} {off : Int} {tgt : Nat} (hdg : decode cc pc = .ok (.ifCond .ge off, 3)) (ht : (pc : Int) + off = (tgt : Int)) (hz : -2147483648 ≤ z ∧ z ≤ 2147483647) (h : 0 ≤ z) (k : W p l e R s m args below meth c H locs cells slots Q (F0 m tgt ls rest)) : W p l e R s m args below meth c H locs cells slots Q (F0 m pc ls (.int (iI z) :: rest)) :=
  lv_if_ge S.1 S.2.1 hdg ht (fun _ => k) (fun g => absurd ((iI_le (a := 0) (b := z) (by omega) hz).mpr h) g)
theorem b_geF (S : CallFix p m c cc nL s args Ts own) {z : Int} {off : Int} {tgt : Nat} (hdg : decode cc pc = .ok (.ifCond .ge off, 3)) (ht : (pc : Int) + off = (tgt : Int)) (hz : -2147483648 ≤ z ∧ z ≤ 2147483647) (h : z < 0) (k : W p l e R s m args below meth c H locs cells slots Q (F0 m (pc + 3) ls rest)) : W p l e R s m args below meth c H locs cells slots Q (F0 m pc ls (.int (iI z) :: rest)) :=
  lv_if_ge S.1 S.2.1 hdg ht (fun g => absurd ((iI_le (a := 0) (b := z) (by omega) hz).mp g) (by omega)) (fun _ => k)
theorem c_eqT (S : CallFix p m c cc nL s args Ts own) {y z : Int} {off : Int} {tgt : Nat} (hdg : decode cc pc = .ok (.if_icmp .eq off, 3)) (ht : (pc : Int) + off = (tgt : Int)) (h : y = z) (k : W p l e R s m args below meth c H locs cells slots Q (F0 m tgt ls rest)) : W p l e R s m args below meth c H locs cells slots Q (F0 m pc ls (.int (iI z) :: .int (iI y) :: rest)) :=
  lv_icmp_eq S.1 S.2.1 hdg ht (fun _ => k) (fun g => absurd (by rw [h]) g)
theorem c_eqF (S : CallFix p m c cc nL s args Ts own) {y z : Int} {off : Int} {tgt : Nat} (hdg : decode cc pc = .ok (.if_icmp .eq off, 3)) (ht : (pc : Int) + off = (tgt : Int)) (hy : -2147483648 ≤ y ∧ y ≤ 2147483647) (hz : -2147483648 ≤ z ∧ z ≤ 2147483647) (h : y ≠ z) (k : W p l e R s m args below meth c H locs cells slots Q (F0 m (pc + 3) ls rest)) : W p l e R s m args below meth c H locs cells slots Q (F0 m pc ls (.int (iI z) :: .int (iI y) :: rest)) :=
  lv_icmp_eq S.1 S.2.1 hdg ht (fun g => absurd ((iI_eq hy hz).mp g) h) (fun _ => k)
theorem c_neT (S : CallFix p m c cc nL s args Ts own) {y z : Int} {off : Int} {tgt : Nat} (hdg : decode cc pc = .ok (.if_icmp .ne off, 3)) (ht : (pc : Int) + off = (tgt : Int)) (hy : -2147483648 ≤ y ∧ y ≤ 2147483647) (hz : -2147483648 ≤ z ∧ z ≤ 2147483647) (h : y ≠ z) (k : W p l e R s m args below meth c H locs cells slots Q (F0 m tgt ls rest)) : W p l e R s m args below meth c H locs cells slots Q (F0 m pc ls (.int (iI z) :: .int (iI y) :: rest)) :=
  lv_icmp_ne S.1 S.2.1 hdg ht (fun _ => k) (fun g => absurd ((iI_eq hy hz).mp g) h)
theorem c_neF (S : CallFix p m c cc nL s args Ts own) {y z : Int} {off : Int} {tgt : Nat} (hdg : decode cc pc = .ok (.if_icmp .ne off, 3)) (ht : (pc : Int) + off = (tgt : Int)) (h : y = z) (k : W p l e R s m args below meth c H locs cells slots Q (F0 m (pc + 3) ls rest)) : W p l e R s m args below meth c H locs cells slots Q (F0 m pc ls (.int (iI z) :: .int (iI y) :: rest)) :=
  lv_icmp_ne S.1 S.2.1 hdg ht (fun g => absurd (by rw [h]) g) (fun _ => k)
theorem c_ltT (S : CallFix p m c cc nL s args Ts own) {y z : Int} {off : Int} {tgt : Nat} (hdg : decode cc pc = .ok (.if_icmp .lt off, 3)) (ht : (pc : Int) + off = (tgt : Int)) (hy : -2147483648 ≤ y ∧ y ≤ 2147483647) (hz : -2147483648 ≤ z ∧ z ≤ 2147483647) (h : y < z) (k : W p l e R s m args below meth c H locs cells slots Q (F0 m tgt ls rest)) : W p l e R s m args below meth c H locs cells slots Q (F0 m pc ls (.int (iI z) :: .int (iI y) :: rest)) :=
  lv_icmp_lt S.1 S.2.1 hdg ht (fun _ => k) (fun g => absurd ((iI_lt hy hz).mpr h) g)
theorem c_ltF (S : CallFix p m c cc nL s args Ts own) {y z : Int} {off : Int} {tgt : Nat} (hdg : decode cc pc = .ok (.if_icmp .lt off, 3)) (ht : (pc : Int) + off = (tgt : Int)) (hy : -2147483648 ≤ y ∧ y ≤ 2147483647) (hz : -2147483648 ≤ z ∧ z ≤ 2147483647) (h : z ≤ y) (k : W p l e R s m args below meth c H locs cells slots Q (F0 m (pc + 3) ls rest)) : W p l e R s m args below meth c H locs cells slots Q (F0 m pc ls (.int (iI z) :: .int (iI y) :: rest)) :=
  lv_icmp_lt S.1 S.2.1 hdg ht (fun g => absurd ((iI_lt hy hz).mp g) (by omega)) (fun _ => k)
theorem c_geT (S : CallFix p m c cc nL s args Ts own) {y z : Int} {off : Int} {tgt : Nat} (hdg : decode cc pc = .ok (.if_icmp .ge off, 3)) (ht : (pc : Int) + off = (tgt : Int)) (hy : -2147483648 ≤ y ∧ y ≤ 2147483647) (hz : -2147483648 ≤ z ∧ z ≤ 2147483647) (h : z ≤ y) (k : W p l e R s m args below meth c H locs cells slots Q (F0 m tgt ls rest)) : W p l e R s m args below meth c H locs cells slots Q (F0 m pc ls (.int (iI z) :: .int (iI y) :: rest)) :=
  lv_icmp_ge S.1 S.2.1 hdg ht (fun _ => k) (fun g => absurd ((iI_le hz hy).mpr h) g)
theorem c_geF (S : CallFix p m c cc nL s args Ts own) {y z : Int} {off : Int} {tgt : Nat} (hdg : decode cc pc = .ok (.if_icmp .ge off, 3)) (ht : (pc : Int) + off = (tgt : Int)) (hy : -2147483648 ≤ y ∧ y ≤ 2147483647) (hz : -2147483648 ≤ z ∧ z ≤ 2147483647) (h : y < z) (k : W p l e R s m args below meth c H locs cells slots Q (F0 m (pc + 3) ls rest)) : W p l e R s m args below meth c H locs cells slots Q (F0 m pc ls (.int (iI z) :: .int (iI y) :: rest)) :=
  lv_icmp_ge S.1 S.2.1 hdg ht (fun g => absurd ((iI_le hz hy).mp g) (by omega)) (fun _ => k)
theorem c_gtT (S : CallFix p m c cc nL s args Ts own) {y z : Int} {off : Int} {tgt : Nat} (hdg : decode cc pc = .ok (.if_icmp .gt off, 3)) (ht : (pc : Int) + off = (tgt : Int)) (hy : -2147483648 ≤ y ∧ y ≤ 2147483647) (hz : -2147483648 ≤ z ∧ z ≤ 2147483647) (h : z < y) (k : W p l e R s m args below meth c H locs cells slots Q (F0 m tgt ls rest)) : W p l e R s m args below meth c H locs cells slots Q (F0 m pc ls (.int (iI z) :: .int (iI y) :: rest)) :=
  lv_icmp_gt S.1 S.2.1 hdg ht (fun _ => k) (fun g => absurd ((iI_lt hz hy).mpr h) g)
theorem c_gtF (S : CallFix p m c cc nL s args Ts own) {y z : Int} {off : Int} {tgt : Nat} (hdg : decode cc pc = .ok (.if_icmp .gt off, 3)) (ht : (pc : Int) + off = (tgt : Int)) (hy : -2147483648 ≤ y ∧ y ≤ 2147483647) (hz : -2147483648 ≤ z ∧ z ≤ 2147483647) (h : y ≤ z) (k : W p l e R s m args below meth c H locs cells slots Q (F0 m (pc + 3) ls rest)) : W p l e R s m args below meth c H locs cells slots Q (F0 m pc ls (.int (iI z) :: .int (iI y) :: rest)) :=
  lv_icmp_gt S.1 S.2.1 hdg ht (fun g => absurd ((iI_lt hz hy).mp g) (by omega)) (fun _ => k)
theorem c_leT (S : CallFix p m c cc nL s args Ts own) {y z : Int} {off : Int} {tgt : Nat} (hdg : decode cc pc = .ok (.if_icmp .le off, 3)) (ht : (pc : Int) + off = (tgt : Int)) (hy : -2147483648 ≤ y ∧ y ≤ 2147483647) (hz : -2147483648 ≤ z ∧ z ≤ 2147483647) (h : y ≤ z) (k : W p l e R s m args below meth c H locs cells slots Q (F0 m tgt ls rest)) : W p l e R s m args below meth c H locs cells slots Q (F0 m pc ls (.int (iI z) :: .int (iI y) :: rest)) :=
  lv_icmp_le S.1 S.2.1 hdg ht (fun _ => k) (fun g => absurd ((iI_le hy hz).mpr h) g)
theorem c_leF (S : CallFix p m c cc nL s args Ts own) {y z : Int} {off : Int} {tgt : Nat} (hdg : decode cc pc = .ok (.if_icmp .le off, 3)) (ht : (pc : Int) + off = (tgt : Int)) (hy : -2147483648 ≤ y ∧ y ≤ 2147483647) (hz : -2147483648 ≤ z ∧ z ≤ 2147483647) (h : z < y) (k : W p l e R s m args below meth c H locs cells slots Q (F0 m (pc + 3) ls rest)) : W p l e R s m args below meth c H locs cells slots Q (F0 m pc ls (.int (iI z) :: .int (iI y) :: rest)) :=
  lv_icmp_le S.1 S.2.1 hdg ht (fun g => absurd ((iI_le hy hz).mp g) (by omega)) (fun _ => k)
/-! fields and rows of ints -/
theorem w_get (S : CallFix p m c cc nL s args Ts own) {C : String} {T : u_T} {Nf ci index : Nat} (hin : ∀ w ∈ u_ws C T Nf, w ∈ Ts) (hE : En D cI cZ N s) (hP : va_P D vwCl ws H) (q0 : Nat) {fs : List Value} (he : ws[q0]? = some (a, .inr (ci, fs))) (hc : vwCl[ci]? = some (C, T, Nf)) (k : Nat) (hk : k < Nf) (hl : Cond.fieldLink own index (T k).1 (T k).2.1 (T k).2.2.1 ∈ Ts) {v : Value} (hv : fs[k]? = some v) (hdg : decode cc pc = .ok (.getfield index, 3)) (kk : W p l e R s m args below meth c H locs cells slots Q (F0 m (pc + 3) ls (v :: rest))) : W p l e R s m args below meth c H locs cells slots Q (F0 m pc ls (.ref a :: rest)) :=
  va_get (tys := TY cI cZ) S.1 S.2.1 S.2.2.2.2 hin S.2.2.2.1 hE.1 hP q0 he hc k hk (S.2.2.2.2 _ hl) (fun _ h => h) hv hdg kk
theorem w_put (S : CallFix p m c cc nL s args Ts own) {C : String} {T : u_T} {Nf ci index : Nat} (hin : ∀ w ∈ u_ws C T Nf, w ∈ Ts) (ty0 : Nat → FieldType) (hty : ∀ k, k < Nf → parseFieldDescriptor (T k).2.2.1 = some (ty0 k)) (hnm : ∀ a, a < Nf → ∀ b, b < Nf → a ≠ b → (T a).2.1 ≠ (T b).2.1) (hE : En D cI cZ N s) (hP : va_P D vwCl ws H) (hD : va_D A ws) (hS : va_S A H0 H locs) (q0 : Nat) {fs : List Value} (he : ws[q0]? = some (a, .inr (ci, fs))) (hc : vwCl[ci]? = some (C, T, Nf)) (k : Nat) (hk : k < Nf) (hl : Cond.fieldLink own index (T k).1 (T k).2.1 (T k).2.2.1 ∈ Ts) (hfin : (T k).2.2.2 = false) {z : Int} (hd : ty0 k = .int) (hln : k < fs.length) (hdg : decode cc pc = .ok (.putfield index, 3)) (kk : ∀ (H1 : Heap) (locs1 : List Loc), va_P D vwCl (ws.set q0 (a, .inr (ci, fs.set k (.int (iI z))))) H1 → va_D A (ws.set q0 (a, .inr (ci, fs.set k (.int (iI z))))) → va_S A H0 H1 locs1 → W p l e R s m args below meth c H1 locs1 cells slots Q (F0 m (pc + 3) ls rest)) : W p l e R s m args below meth c H locs cells slots Q (F0 m pc ls (.int (iI z) :: .ref a :: rest)) :=
  va_put (tys := TY cI cZ) (ty := .int) S.1 S.2.1 S.2.2.2.2 hin ty0 hty hnm S.2.2.2.1 hE.1 hP hD hS q0 he hc k hk (S.2.2.2.2 _ hl) (fun _ h => h) hfin (by rw [hty k hk, hd]) rfl rfl hln hdg kk
theorem w_iald (S : CallFix p m c cc nL s args Ts own) (hE : En D cI cZ N s) (hP : va_P D vwCl ws H) (q0 : Nat) {n : Nat} {f : Nat → Int} (ha : ws[q0]? = some (a, .inl (cI, n, .inl (vI f)))) {z : Int} (k : Nat) (hz : z = (k : Int)) (hk : k < n) (hn : n ≤ 2147483647) (hdg : decode cc pc = .ok (.iaload, 1)) (kk : W p l e R s m args below meth c H locs cells slots Q (F0 m (pc + 1) ls (.int (iI (f k)) :: rest))) : W p l e R s m args below meth c H locs cells slots Q (F0 m pc ls (.int (iI z) :: .ref a :: rest)) := by
  subst hz
  refine va_iald (tys := TY cI cZ) S.1 S.2.1 hE.1 hP q0 0 ha rfl (iI_in hk hn) hdg ?_
  rw [iI_cl (by omega)]
  exact kk
theorem w_iast (S : CallFix p m c cc nL s args Ts own) (hE : En D cI cZ N s) (hP : va_P D vwCl ws H) (hD : va_D A ws) (hS : va_S A H0 H locs) (q0 : Nat) {n : Nat} {f : Nat → Int} (ha : ws[q0]? = some (a, .inl (cI, n, .inl (vI f)))) {z v : Int} (k : Nat) (hz : z = (k : Int)) (hk : k < n) (hn : n ≤ 2147483647) (hdg : decode cc pc = .ok (.iastore, 1)) (kk : ∀ (H1 : Heap) (locs1 : List Loc), va_P D vwCl (ws.set q0 (a, .inl (cI, n, .inl (vI (updI f k v))))) H1 → va_D A (ws.set q0 (a, .inl (cI, n, .inl (vI (updI f k v))))) → va_S A H0 H1 locs1 → W p l e R s m args below meth c H1 locs1 cells slots Q (F0 m (pc + 1) ls rest)) : W p l e R s m args below meth c H locs cells slots Q (F0 m pc ls (.int (iI v) :: .int (iI z) :: .ref a :: rest)) := by
  subst hz
  refine va_iast (tys := TY cI cZ) S.1 S.2.1 hE.1 hP hD hS q0 0 ha rfl (iI_in hk hn) hdg ?_
  rw [iI_cl (by omega), upd_vI]
  exact kk
theorem w_zald (S : CallFix p m c cc nL s args Ts own) (hE : En D cI cZ N s) (hP : va_P D vwCl ws H) (q0 : Nat) {n : Nat} {f : Nat → Int} (ha : ws[q0]? = some (a, .inl (cZ, n, .inl (vI f)))) {z : Int} (k : Nat) (hz : z = (k : Int)) (hk : k < n) (hn : n ≤ 2147483647) (hdg : decode cc pc = .ok (.baload, 1)) (kk : W p l e R s m args below meth c H locs cells slots Q (F0 m (pc + 1) ls (.int (iI (f k)) :: rest))) : W p l e R s m args below meth c H locs cells slots Q (F0 m pc ls (.int (iI z) :: .ref a :: rest)) := by
  subst hz
  refine va_zald (tys := TY cI cZ) S.1 S.2.1 hE.1 hP q0 1 ha rfl (iI_in hk hn) hdg ?_
  rw [iI_cl (by omega)]
  exact kk
theorem w_zast1 (S : CallFix p m c cc nL s args Ts own) (hE : En D cI cZ N s) (hP : va_P D vwCl ws H) (hD : va_D A ws) (hS : va_S A H0 H locs) (q0 : Nat) {n : Nat} {f : Nat → Int} (ha : ws[q0]? = some (a, .inl (cZ, n, .inl (vI f)))) {z : Int} (k : Nat) (hz : z = (k : Int)) (hk : k < n) (hn : n ≤ 2147483647) (hdg : decode cc pc = .ok (.bastore, 1)) (kk : ∀ (H1 : Heap) (locs1 : List Loc), va_P D vwCl (ws.set q0 (a, .inl (cZ, n, .inl (vI (updI f k 1))))) H1 → va_D A (ws.set q0 (a, .inl (cZ, n, .inl (vI (updI f k 1))))) → va_S A H0 H1 locs1 → W p l e R s m args below meth c H1 locs1 cells slots Q (F0 m (pc + 1) ls rest)) : W p l e R s m args below meth c H locs cells slots Q (F0 m pc ls (.int (iI 1) :: .int (iI z) :: .ref a :: rest)) := by
  subst hz
  refine va_zast (tys := TY cI cZ) S.1 S.2.1 hE.1 hP hD hS q0 1 ha rfl (iI_in hk hn) hdg ?_
  have h1 : vp_nar .boolean (iI 1) = iI 1 := rfl
  rw [iI_cl (by omega), h1, upd_vI]
  exact kk
theorem w_alen (S : CallFix p m c cc nL s args Ts own) (hE : En D cI cZ N s) (hP : va_P D vwCl ws H) (q0 : Nat) {n : Nat} {g : Nat → Int32} (ha : ws[q0]? = some (a, .inl (cI, n, .inl g))) (hdg : decode cc pc = .ok (.arraylength, 1)) (kk : W p l e R s m args below meth c H locs cells slots Q (F0 m (pc + 1) ls (.int (iI (n : Int)) :: rest))) : W p l e R s m args below meth c H locs cells slots Q (F0 m pc ls (.ref a :: rest)) :=
  va_alen (tys := TY cI cZ) S.1 S.2.1 hE.1 hP q0 0 ha rfl (v := iI (n : Int)) (iI_nI n).symm hdg kk
/-! returns -/
theorem r_R {o : Int32} {v : Int32} {cells slots : Nat} (S : CallFix p m c cc nL s args Ts own) (hr : meth.sig.returnType = some .int) (hlk : meth.locks = false) (hS : H = s.heap) (hv : v = o) (hdg : decode cc pc = .ok (.ireturn, 1)) : W p l e R s m args below meth c H [] cells slots (MQ below (QR (some (.int o))) args s cells slots (fun _ => False)) (F0 m pc ls [.int v]) :=
  W.iret S.1 S.2.1 hr (fun t ht _ => ⟨by rw [hv], ht.trans hS⟩) (fun q h => absurd h List.not_mem_nil) hdg hlk
theorem r_RZ {o : Int32} {v : Int32} {cells slots : Nat} (S : CallFix p m c cc nL s args Ts own) (hr : meth.sig.returnType = some .boolean) (hlk : meth.locks = false) (hS : H = s.heap) (hv : v = o) (h01 : v = iI 0 ∨ v = iI 1) (hdg : decode cc pc = .ok (.ireturn, 1)) : W p l e R s m args below meth c H [] cells slots (MQ below (QR (some (.int o))) args s cells slots (fun _ => False)) (F0 m pc ls [.int v]) :=
  W.zret S.1 S.2.1 hr (by rcases h01 with h | h <;> rw [h] <;> rfl) (fun t ht _ => ⟨by rw [hv], ht.trans hS⟩) (fun q h => absurd h List.not_mem_nil) hdg hlk
theorem r_M {o : Int32} {v : Int32} {w' : va_W} {cells slots : Nat} (S : CallFix p m c cc nL s args Ts own) (hr : meth.sig.returnType = some .int) (hlk : meth.locks = false) (hP : va_P D vwCl w' H) (hS : va_S A s.heap H locs) (hv : v = o) (hdg : decode cc pc = .ok (.ireturn, 1)) : W p l e R s m args below meth c H locs cells slots (MQ below (QM D (some (.int o)) A w') args s cells slots A) (F0 m pc ls [.int v]) :=
  W.iret S.1 S.2.1 hr (fun t ht _ => ⟨by rw [hv], by rw [ht]; exact hP, hS.F ht⟩) (fun q h => hS.2.2 q h) hdg hlk
theorem r_MZ {o : Int32} {v : Int32} {w' : va_W} {cells slots : Nat} (S : CallFix p m c cc nL s args Ts own) (hr : meth.sig.returnType = some .boolean) (hlk : meth.locks = false) (hP : va_P D vwCl w' H) (hS : va_S A s.heap H locs) (hv : v = o) (h01 : v = iI 0 ∨ v = iI 1) (hdg : decode cc pc = .ok (.ireturn, 1)) : W p l e R s m args below meth c H locs cells slots (MQ below (QM D (some (.int o)) A w') args s cells slots A) (F0 m pc ls [.int v]) :=
  W.zret S.1 S.2.1 hr (by rcases h01 with h | h <;> rw [h] <;> rfl) (fun t ht _ => ⟨by rw [hv], by rw [ht]; exact hP, hS.F ht⟩) (fun q h => hS.2.2 q h) hdg hlk
theorem r_MV {w' : va_W} {cells slots : Nat} (S : CallFix p m c cc nL s args Ts own) (hr : meth.sig.returnType = none) (hlk : meth.locks = false) (hP : va_P D vwCl w' H) (hS : va_S A s.heap H locs) (hdg : decode cc pc = .ok (.return_, 1)) : W p l e R s m args below meth c H locs cells slots (MQ below (QM D none A w') args s cells slots A) (F0 m pc ls []) :=
  W.vret S.1 S.2.1 hr (fun t ht _ => ⟨rfl, by rw [ht]; exact hP, hS.F ht⟩) (fun q h => hS.2.2 q h) hdg hlk
end STEPS
end
section
section CALLS
variable {p : Program} {l : Launch} {e : Env} {R : Room} {s : State} {m : MethodId} {args : Array Value} {below : List Frame} {meth : Method} {c : Code} {H : Heap} {locs : List Loc} {cells slots : Nat} {Q : State → Prop}
variable {cc bytes : ByteArray} {pc : Nat} {ls : Array Slot} {rest st0 As : List Value} {D : va_G} {A : Nat → Prop} {a : Nat} {ws wc w1 : va_W} {H0 : Heap} {cI cZ : ClassId} {N nL maxL n index : Nat} {Ts wl wl' : List Cond} {own C host : String} {y : MethodName} {ret : Option FieldType} {rm : Room} {o : Option Value} {b : Nat} {is : List Nat} {arr : Array Value}
theorem run_R (hr : va_Run p l e R s m args below meth c H locs cells slots 0 0 (F0 m pc ls st0) rest (QR o arr) (fun _ => False)) (kk : W p l e R s m args below meth c H locs cells slots Q (F0 m (pc + 3) ls (o.toList ++ rest))) : W p l e R s m args below meth c H locs cells slots Q (F0 m pc ls st0) := by
  intro T hT X
  obtain ⟨v, st₀, t, T', L, h0, X', hL, e1, e2, ⟨hv, hh⟩, st⟩ := hr T hT X
  cases hv
  obtain ⟨t2, a1, b1⟩ := kk T' (by rw [e1, hh, h0]) (Stand.forget X' (fun q h => (hL q h).elim))
  exact ⟨t2, st t2 a1, b1⟩
theorem run_M (hr : va_Run p l e R s m args below meth c H locs cells slots 0 0 (F0 m pc ls st0) rest (QM D o (memA wc) w1 arr) (memA wc)) (hP : va_P D vwCl ws H) (hD : va_D A ws) (hS : va_S A H0 H locs) (hC : is.map (fun i => ws[i]?) = wc.map some) (hn : va_nd is = true) (hw : w1.map Prod.fst = wc.map Prod.fst)
    (kk : ∀ (H1 : Heap) (locs1 : List Loc), va_P D vwCl (rep ws is w1) H1 → va_D A (rep ws is w1) → va_S A H0 H1 locs1 → W p l e R s m args below meth c H1 locs1 cells slots Q (F0 m (pc + 3) ls (o.toList ++ rest))) : W p l e R s m args below meth c H locs cells slots Q (F0 m pc ls st0) := by
  intro T hT X
  obtain ⟨v, st₀, t, T', L, h0, X', hL, e1, e2, ⟨hv, hp1, hz, hk⟩, st⟩ := hr T hT X
  cases hv
  rw [h0] at hz hk
  have hA : ∀ q, memA wc q → A q := fun q ⟨x, hx, hq⟩ => by
    obtain ⟨j, hj⟩ := List.getElem?_of_mem hx
    obtain ⟨i, -, h4⟩ := pick_at hC hj
    rw [← hq]
    exact hD.2 i x h4
  obtain ⟨g1, g2⟩ := rep_join (H1 := t.heap) hP hD hC hn hw hk hp1
  obtain ⟨t2, a1, b1⟩ := kk t.heap (locs ++ L) g1 g2 ⟨Nat.le_trans hS.1 hz, fun q h1 h2 => by rw [hk q (Nat.lt_of_lt_of_le h1 hS.1) (fun z => h2 (hA q z))]; exact hS.2.1 q h1 h2, fun q hq => by
      rcases List.mem_append.mp hq with h | h
      · exact hS.2.2 q h
      · exact hA _ (hL q h)⟩ T' e1 X'
  exact ⟨t2, st t2 a1, b1⟩
/-- a callee's start, out of the caller's world -/
theorem pre_at {av : List Value} (hE : En D cI cZ N s) (hAN : ∀ q, A q → N ≤ q) (hP : va_P D vwCl ws H) (hD : va_D A ws) (hS : va_S A s.heap H locs) (hC : is.map (fun i => ws[i]?) = wc.map some) (hn : va_nd is = true) : PreS s H (PC D cI cZ N av wc) av :=
  ⟨PC.blind, fun U hU hW => ⟨rfl, hE.at hS hAN hU hW, by rw [hU]; exact pick_P hP hC, (hD.sub is hn hC).weaken (fun _ q _ h => hAN q.1 h)⟩⟩
theorem recv_at {ci : Nat} {fs : List Value} {q : vw_C} (hE : En D cI cZ N s) (hP : va_P D vwCl wc H) (hq : vwCl[ci]? = some q) (h0 : wc[0]? = some (b, .inr (ci, fs))) (hC : q.1 = C) : ∃ cell : Cell, H[b]? = some cell ∧ cell.vm.isStatics = false ∧ s.vm.findClass C = some cell.cls := by
  rw [← hC]
  exact va_recv hE.1 hP hq h0
abbrev Fits (rm R : Room) (maxL : Nat) : Prop := rm.frames + 1 ≤ R.frames ∧ 8 + (maxL + 11) + rm.locals ≤ R.locals
abbrev Cls (y : MethodName) (n : Nat) : Prop := y.cls ≠ "java/lang/invoke/MethodHandle" ∧ y.cls ≠ "java/lang/invoke/VarHandle" ∧ (parseMethodDescriptor y.desc).map (fun d => d.parameters.length) = some n
/-- invokevirtual of one of ours, reading -/
theorem kV_R (S : CallFix p m c cc nL s args Ts own) (hM : CR l D cI cZ N y wl rm (.ref b :: As) wc o) (hg : GoodIn Ts (wsV own index C y wl)) (hw : wl = Cond.code y bytes maxL ret :: wl') (hy : y.cls = C) (hd : Cls y n) (hrc : rm.cells = 0) (hrs : rm.slots = 0) (hR : Fits rm R maxL) (hE : En D cI cZ N s) (hAN : ∀ q, A q → N ≤ q) (hP : va_P D vwCl ws H) (hD : va_D A ws) (hS : va_S A s.heap H locs) (is : List Nat) (hC : is.map (fun i => ws[i]?) = wc.map some) (hn : va_nd is = true) {ci : Nat} {fs : List Value} {q : vw_C} (hq : vwCl[ci]? = some q) (hqC : q.1 = C) (h0 : wc[0]? = some (b, .inr (ci, fs))) (hln : As.length = n) (hsz : ls.size = nL) (rest : List Value) (hst : st0 = As.reverse ++ .ref b :: rest) (hcat : (rest.map fun v => v.category).sum ≤ 8) (hdg : decode cc pc = .ok (.invokevirtual index, 3)) (hf : cells ≤ R.cells ∧ slots ≤ R.slots)
    (kk : W p l e R s m args below meth c H locs cells slots Q (F0 m (pc + 3) ls (o.toList ++ rest))) : W p l e R s m args below meth c H locs cells slots Q (F0 m pc ls st0) :=
  run_R (va_runV S hM (cwV n S.2.2.2.2 hg hw hrc hrs ⟨hy, hd⟩ hR) ⟨PC.blind, recv_at hE (pick_P hP hC) hq h0 hqC, (pre_at hE hAN hP hD hS hC hn).2⟩ rfl hln hsz hst (lv_room hcat) hdg hf) kk
theorem kV_M (S : CallFix p m c cc nL s args Ts own) (hM : CM l D cI cZ N y wl rm (.ref b :: As) wc o w1) (hg : GoodIn Ts (wsV own index C y wl)) (hw : wl = Cond.code y bytes maxL ret :: wl') (hy : y.cls = C) (hd : Cls y n) (hrc : rm.cells = 0) (hrs : rm.slots = 0) (hR : Fits rm R maxL) (hE : En D cI cZ N s) (hAN : ∀ q, A q → N ≤ q) (hP : va_P D vwCl ws H) (hD : va_D A ws) (hS : va_S A s.heap H locs) (is : List Nat) (hC : is.map (fun i => ws[i]?) = wc.map some) (hn : va_nd is = true) (hw1 : w1.map Prod.fst = wc.map Prod.fst) {ci : Nat} {fs : List Value} {q : vw_C} (hq : vwCl[ci]? = some q) (hqC : q.1 = C) (h0 : wc[0]? = some (b, .inr (ci, fs))) (hln : As.length = n) (hsz : ls.size = nL) (rest : List Value) (hst : st0 = As.reverse ++ .ref b :: rest) (hcat : (rest.map fun v => v.category).sum ≤ 8) (hdg : decode cc pc = .ok (.invokevirtual index, 3)) (hf : cells ≤ R.cells ∧ slots ≤ R.slots)
    (kk : ∀ (H1 : Heap) (locs1 : List Loc), va_P D vwCl (rep ws is w1) H1 → va_D A (rep ws is w1) → va_S A s.heap H1 locs1 → W p l e R s m args below meth c H1 locs1 cells slots Q (F0 m (pc + 3) ls (o.toList ++ rest))) : W p l e R s m args below meth c H locs cells slots Q (F0 m pc ls st0) :=
  run_M (va_runV S hM (cwV n S.2.2.2.2 hg hw hrc hrs ⟨hy, hd⟩ hR) ⟨PC.blind, recv_at hE (pick_P hP hC) hq h0 hqC, (pre_at hE hAN hP hD hS hC hn).2⟩ rfl hln hsz hst (lv_room hcat) hdg hf) hP hD hS hC hn hw1 kk
/-- invokestatic -/
theorem kS_R (S : CallFix p m c cc nL s args Ts own) (hM : CR l D cI cZ N y wl rm As wc o) (hg : GoodIn Ts (va_wsS own index y wl)) (hw : wl = Cond.code y bytes maxL ret :: wl') (hd : Cls y n) (hrc : rm.cells = 0) (hrs : rm.slots = 0) (hR : Fits rm R maxL) (hE : En D cI cZ N s) (hAN : ∀ q, A q → N ≤ q) (hP : va_P D vwCl ws H) (hD : va_D A ws) (hS : va_S A s.heap H locs) (is : List Nat) (hC : is.map (fun i => ws[i]?) = wc.map some) (hn : va_nd is = true) (hln : As.length = n) (hsz : ls.size = nL) (rest : List Value) (hst : st0 = As.reverse ++ rest) (hcat : (rest.map fun v => v.category).sum ≤ 8) (hdg : decode cc pc = .ok (.invokestatic index, 3)) (hf : cells ≤ R.cells ∧ slots ≤ R.slots)
    (kk : W p l e R s m args below meth c H locs cells slots Q (F0 m (pc + 3) ls (o.toList ++ rest))) : W p l e R s m args below meth c H locs cells slots Q (F0 m pc ls st0) :=
  run_R (va_runS S hM (va_cwS n S.2.2.2.2 hg hw hrc hrs hd hR) (pre_at hE hAN hP hD hS hC hn) rfl hln hsz hst (lv_room hcat) hdg hf) kk
theorem kS_M (S : CallFix p m c cc nL s args Ts own) (hM : CM l D cI cZ N y wl rm As wc o w1) (hg : GoodIn Ts (va_wsS own index y wl)) (hw : wl = Cond.code y bytes maxL ret :: wl') (hd : Cls y n) (hrc : rm.cells = 0) (hrs : rm.slots = 0) (hR : Fits rm R maxL) (hE : En D cI cZ N s) (hAN : ∀ q, A q → N ≤ q) (hP : va_P D vwCl ws H) (hD : va_D A ws) (hS : va_S A s.heap H locs) (is : List Nat) (hC : is.map (fun i => ws[i]?) = wc.map some) (hn : va_nd is = true) (hw1 : w1.map Prod.fst = wc.map Prod.fst) (hln : As.length = n) (hsz : ls.size = nL) (rest : List Value) (hst : st0 = As.reverse ++ rest) (hcat : (rest.map fun v => v.category).sum ≤ 8) (hdg : decode cc pc = .ok (.invokestatic index, 3)) (hf : cells ≤ R.cells ∧ slots ≤ R.slots)
    (kk : ∀ (H1 : Heap) (locs1 : List Loc), va_P D vwCl (rep ws is w1) H1 → va_D A (rep ws is w1) → va_S A s.heap H1 locs1 → W p l e R s m args below meth c H1 locs1 cells slots Q (F0 m (pc + 3) ls (o.toList ++ rest))) : W p l e R s m args below meth c H locs cells slots Q (F0 m pc ls st0) :=
  run_M (va_runS S hM (va_cwS n S.2.2.2.2 hg hw hrc hrs hd hR) (pre_at hE hAN hP hD hS hC hn) rfl hln hsz hst (lv_room hcat) hdg hf) hP hD hS hC hn hw1 kk
/-- invokestatic of a nest mate's private method -/
theorem kN_R (S : CallFix p m c cc nL s args Ts own) (hM : CR l D cI cZ N y wl rm As wc o) (hg : GoodIn Ts wl) (hnw : va_Nw (.methodLinkNest own index y host) s) (hini : Cond.initialized y.cls ∈ Ts) (hstc : Cond.static y ∈ Ts) (hw : wl = Cond.code y bytes maxL ret :: wl') (hd : Cls y n) (hrc : rm.cells = 0) (hrs : rm.slots = 0) (hR : Fits rm R maxL) (hE : En D cI cZ N s) (hAN : ∀ q, A q → N ≤ q) (hP : va_P D vwCl ws H) (hD : va_D A ws) (hS : va_S A s.heap H locs) (is : List Nat) (hC : is.map (fun i => ws[i]?) = wc.map some) (hn : va_nd is = true) (hln : As.length = n) (hsz : ls.size = nL) (rest : List Value) (hst : st0 = As.reverse ++ rest) (hcat : (rest.map fun v => v.category).sum ≤ 8) (hdg : decode cc pc = .ok (.invokestatic index, 3)) (hf : cells ≤ R.cells ∧ slots ≤ R.slots)
    (kk : W p l e R s m args below meth c H locs cells slots Q (F0 m (pc + 3) ls (o.toList ++ rest))) : W p l e R s m args below meth c H locs cells slots Q (F0 m pc ls st0) :=
  run_R (va_runSN S hM ⟨va_cnB n S.2.2.2.2 hg hw hrc hrs hnw (S.2.2.2.2 _ hini) hd hR, S.2.2.2.2 _ hstc, trivial⟩ (pre_at hE hAN hP hD hS hC hn) rfl hln hsz hst (lv_room hcat) hdg hf) kk
/-- a reading contract is one that leaves the world -/
theorem CR.M {w : va_W} (h : CR l D cI cZ N y wl rm As w o) : CM l D cI cZ N y wl rm As w o w := by
  intro p e ha hc hk s m args below hf happ hP hK
  obtain ⟨n, o1, h1, h2, h3, ⟨h4, h5⟩, L, hF, hL⟩ := h p e ha hc hk s m args below hf happ hP hK
  exact ⟨n, o1, h1, h2, h3, ⟨h4, by rw [h5]; exact hP.2.2.1, by rw [h5]; exact Nat.le_refl _, fun q _ _ => by rw [h5]⟩, L, hF, fun q hq => (hL q hq).elim⟩
/-- a method's body, entered -/
theorem CR.of {w : va_W} {av : List Value} (hy : plainName y.cls = true) (hw : wl = Cond.code y cc maxL ret :: wl') (hlen : (lg_sl av).length ≤ maxL)
    (body : ∀ (p : Program) (e : Env) (s : State) (m : MethodId) (below : List Frame) (meth : Method) (c : Code), CallFix p m c cc maxL s av.toArray wl y.cls → meth.sig.returnType = ret → meth.locks = false → En D cI cZ N s → ∀ A : Nat → Prop, (∀ q, A q → N ≤ q) → va_P D vwCl w s.heap → va_D A w → va_S A s.heap s.heap [] → ∀ ls : Array Slot, lv_has ls maxL (lv_args 0 av) →
      W p l e rm s m av.toArray below meth c s.heap [] 0 0 (MQ below (QR o) av.toArray s 0 0 (fun _ => False)) (F0 m 0 ls [])) : CR l D cI cZ N y wl rm av w o := by
  refine Met.ofW (cc := cc) (maxL := maxL) (ret := ret) hy hw ?_
  intro p e s m args below meth c s₁ B hml hv
  obtain ⟨rfl, hE, hP, hD⟩ := hv
  have hl := lv_entry av (n := maxL) hlen
  rw [lg_entry_eq]
  exact body p e s m below meth c ⟨B.exec, B.bytes, hml, findClass_of_methodNamed B.named, atoms_spec (ws := wl) B.pre⟩ B.returns B.notSynchronized hE _ (memA_D hD).2 hP (memA_D hD).1 va_S.rf _ hl
theorem CM.of {w w' : va_W} {av : List Value} (hy : plainName y.cls = true) (hw : wl = Cond.code y cc maxL ret :: wl') (hlen : (lg_sl av).length ≤ maxL)
    (body : ∀ (p : Program) (e : Env) (s : State) (m : MethodId) (below : List Frame) (meth : Method) (c : Code), CallFix p m c cc maxL s av.toArray wl y.cls → meth.sig.returnType = ret → meth.locks = false → En D cI cZ N s → ∀ A : Nat → Prop, (∀ q, A q → N ≤ q) → va_P D vwCl w s.heap → va_D A w → va_S A s.heap s.heap [] → ∀ ls : Array Slot, lv_has ls maxL (lv_args 0 av) →
      W p l e rm s m av.toArray below meth c s.heap [] 0 0 (MQ below (QM D o A w') av.toArray s 0 0 A) (F0 m 0 ls [])) : CM l D cI cZ N y wl rm av w o w' := by
  refine Met.ofW (cc := cc) (maxL := maxL) (ret := ret) hy hw ?_
  intro p e s m args below meth c s₁ B hml hv
  obtain ⟨rfl, hE, hP, hD⟩ := hv
  have hl := lv_entry av (n := maxL) hlen
  rw [lg_entry_eq]
  exact body p e s m below meth c ⟨B.exec, B.bytes, hml, findClass_of_methodNamed B.named, atoms_spec (ws := wl) B.pre⟩ B.returns B.notSynchronized hE _ (memA_D hD).2 hP (memA_D hD).1 va_S.rf _ hl
end CALLS
end
section
/-! A method's body, entered: room, arguments and goal under names; the ends given -/
abbrev rmK (f L : Nat) : Room := { frames := f, cells := 0, slots := 0, locals := L }
section BODIES
variable {l : Launch} {cc : ByteArray} {D : va_G} {cI cZ : ClassId} {N maxL : Nat} {wl wl' : List Cond} {y : MethodName} {rm : Room} {av : List Value} {w w' : va_W} {r : Int32}
theorem CR.I (hy : plainName y.cls = true) (hw : wl = Cond.code y cc maxL (some .int) :: wl') (hlen : (lg_sl av).length ≤ maxL)
    (body : ∀ (p : Program) (e : Env) (s : State) (m : MethodId) (args : Array Value) (below : List Frame) (meth : Method) (c : Code) (R : Room) (Q : State → Prop), CallFix p m c cc maxL s args wl y.cls → En D cI cZ N s → ∀ A : Nat → Prop, (∀ q, A q → N ≤ q) → rm.frames ≤ R.frames → rm.locals ≤ R.locals → va_P D vwCl w s.heap → va_D A w → va_S A s.heap s.heap [] →
      (∀ (pc : Nat) (ls : Array Slot) (v : Int32), decode cc pc = .ok (.ireturn, 1) → v = r → W p l e R s m args below meth c s.heap [] 0 0 Q (F0 m pc ls [.int v])) →
      ∀ ls : Array Slot, lv_has ls maxL (lv_args 0 av) → W p l e R s m args below meth c s.heap [] 0 0 Q (F0 m 0 ls [])) : CR l D cI cZ N y wl rm av w (some (.int r)) :=
  CR.of hy hw hlen fun p e s m below meth c S hr hlk hE A hAN hP hD hS ls hl => body p e s m _ below meth c _ _ S hE A hAN (Nat.le_refl _) (Nat.le_refl _) hP hD hS (fun pc ls v hd hv => r_R S hr hlk rfl hv hd) ls hl
theorem CR.Z (hy : plainName y.cls = true) (hw : wl = Cond.code y cc maxL (some .boolean) :: wl') (hlen : (lg_sl av).length ≤ maxL)
    (body : ∀ (p : Program) (e : Env) (s : State) (m : MethodId) (args : Array Value) (below : List Frame) (meth : Method) (c : Code) (R : Room) (Q : State → Prop), CallFix p m c cc maxL s args wl y.cls → En D cI cZ N s → ∀ A : Nat → Prop, (∀ q, A q → N ≤ q) → rm.frames ≤ R.frames → rm.locals ≤ R.locals → va_P D vwCl w s.heap → va_D A w → va_S A s.heap s.heap [] →
      (∀ (pc : Nat) (ls : Array Slot) (v : Int32), decode cc pc = .ok (.ireturn, 1) → v = r → (v = iI 0 ∨ v = iI 1) → W p l e R s m args below meth c s.heap [] 0 0 Q (F0 m pc ls [.int v])) →
      ∀ ls : Array Slot, lv_has ls maxL (lv_args 0 av) → W p l e R s m args below meth c s.heap [] 0 0 Q (F0 m 0 ls [])) : CR l D cI cZ N y wl rm av w (some (.int r)) :=
  CR.of hy hw hlen fun p e s m below meth c S hr hlk hE A hAN hP hD hS ls hl => body p e s m _ below meth c _ _ S hE A hAN (Nat.le_refl _) (Nat.le_refl _) hP hD hS (fun pc ls v hd hv h01 => r_RZ S hr hlk rfl hv h01 hd) ls hl
theorem CM.I (hy : plainName y.cls = true) (hw : wl = Cond.code y cc maxL (some .int) :: wl') (hlen : (lg_sl av).length ≤ maxL)
    (body : ∀ (p : Program) (e : Env) (s : State) (m : MethodId) (args : Array Value) (below : List Frame) (meth : Method) (c : Code) (R : Room) (Q : State → Prop), CallFix p m c cc maxL s args wl y.cls → En D cI cZ N s → ∀ A : Nat → Prop, (∀ q, A q → N ≤ q) → rm.frames ≤ R.frames → rm.locals ≤ R.locals → va_P D vwCl w s.heap → va_D A w → va_S A s.heap s.heap [] →
      (∀ (pc : Nat) (ls : Array Slot) (H : Heap) (locs : List Loc) (v : Int32), decode cc pc = .ok (.ireturn, 1) → v = r → va_P D vwCl w' H → va_S A s.heap H locs → W p l e R s m args below meth c H locs 0 0 Q (F0 m pc ls [.int v])) →
      ∀ ls : Array Slot, lv_has ls maxL (lv_args 0 av) → W p l e R s m args below meth c s.heap [] 0 0 Q (F0 m 0 ls [])) : CM l D cI cZ N y wl rm av w (some (.int r)) w' :=
  CM.of hy hw hlen fun p e s m below meth c S hr hlk hE A hAN hP hD hS ls hl => body p e s m _ below meth c _ _ S hE A hAN (Nat.le_refl _) (Nat.le_refl _) hP hD hS (fun pc ls H locs v hd hv hP hS => r_M S hr hlk hP hS hv hd) ls hl
theorem CM.Z (hy : plainName y.cls = true) (hw : wl = Cond.code y cc maxL (some .boolean) :: wl') (hlen : (lg_sl av).length ≤ maxL)
    (body : ∀ (p : Program) (e : Env) (s : State) (m : MethodId) (args : Array Value) (below : List Frame) (meth : Method) (c : Code) (R : Room) (Q : State → Prop), CallFix p m c cc maxL s args wl y.cls → En D cI cZ N s → ∀ A : Nat → Prop, (∀ q, A q → N ≤ q) → rm.frames ≤ R.frames → rm.locals ≤ R.locals → va_P D vwCl w s.heap → va_D A w → va_S A s.heap s.heap [] →
      (∀ (pc : Nat) (ls : Array Slot) (H : Heap) (locs : List Loc) (v : Int32), decode cc pc = .ok (.ireturn, 1) → v = r → (v = iI 0 ∨ v = iI 1) → va_P D vwCl w' H → va_S A s.heap H locs → W p l e R s m args below meth c H locs 0 0 Q (F0 m pc ls [.int v])) →
      ∀ ls : Array Slot, lv_has ls maxL (lv_args 0 av) → W p l e R s m args below meth c s.heap [] 0 0 Q (F0 m 0 ls [])) : CM l D cI cZ N y wl rm av w (some (.int r)) w' :=
  CM.of hy hw hlen fun p e s m below meth c S hr hlk hE A hAN hP hD hS ls hl => body p e s m _ below meth c _ _ S hE A hAN (Nat.le_refl _) (Nat.le_refl _) hP hD hS (fun pc ls H locs v hd hv h01 hP hS => r_MZ S hr hlk hP hS hv h01 hd) ls hl
theorem CM.V (hy : plainName y.cls = true) (hw : wl = Cond.code y cc maxL none :: wl') (hlen : (lg_sl av).length ≤ maxL)
    (body : ∀ (p : Program) (e : Env) (s : State) (m : MethodId) (args : Array Value) (below : List Frame) (meth : Method) (c : Code) (R : Room) (Q : State → Prop), CallFix p m c cc maxL s args wl y.cls → En D cI cZ N s → ∀ A : Nat → Prop, (∀ q, A q → N ≤ q) → rm.frames ≤ R.frames → rm.locals ≤ R.locals → va_P D vwCl w s.heap → va_D A w → va_S A s.heap s.heap [] →
      (∀ (pc : Nat) (ls : Array Slot) (H : Heap) (locs : List Loc), decode cc pc = .ok (.return_, 1) → va_P D vwCl w' H → va_S A s.heap H locs → W p l e R s m args below meth c H locs 0 0 Q (F0 m pc ls [])) →
      ∀ ls : Array Slot, lv_has ls maxL (lv_args 0 av) → W p l e R s m args below meth c s.heap [] 0 0 Q (F0 m 0 ls [])) : CM l D cI cZ N y wl rm av w none w' :=
  CM.of hy hw hlen fun p e s m below meth c S hr hlk hE A hAN hP hD hS ls hl => body p e s m _ below meth c _ _ S hE A hAN (Nat.le_refl _) (Nat.le_refl _) hP hD hS (fun pc ls H locs hd hP hS => r_MV S hr hlk hP hS hd) ls hl
end BODIES
/-! Library calls, and rows copied -/
section LIBS
variable {p : Program} {l : Launch} {e : Env} {R : Room} {s : State} {m : MethodId} {args : Array Value} {below : List Frame} {meth : Method} {c : Code} {H : Heap} {locs : List Loc} {Q : State → Prop}
variable {cc : ByteArray} {pc : Nat} {ls : Array Slot} {rest : List Value} {D : va_G} {A : Nat → Prop} {a : Nat} {ws : va_W} {cI cZ : ClassId} {N nL index : Nat} {Ts : List Cond} {own : String}
theorem w_min (S : CallFix p m c cc nL s args Ts own) (hsz : ls.size = nL) (h1 : Cond.methodLink own index Lib.Math.min.name ∈ Ts) (h2 : Cond.static Lib.Math.min.name ∈ Ts) (h3 : Cond.initialized "java/lang/Math" ∈ Ts) (h4 : Cond.code Lib.Math.min.name Lib.Math.min.code 2 (some .int) ∈ Ts) (hfr : 1 ≤ R.frames) (hlo : 21 ≤ R.locals) (hcat : (rest.map fun v => v.category).sum ≤ 8) {y z : Int} (hy : -2147483648 ≤ y ∧ y ≤ 2147483647) (hz : -2147483648 ≤ z ∧ z ≤ 2147483647) (hdg : decode cc pc = .ok (.invokestatic index, 3))
    (kk : W p l e R s m args below meth c H locs 0 0 Q (F0 m (pc + 3) ls (.int (iI (if z < y then z else y)) :: rest))) : W p l e R s m args below meth c H locs 0 0 Q (F0 m pc ls (.int (iI z) :: .int (iI y) :: rest)) := by
  refine va_mmin S.1 S.2.1 (S.2.2.1.trans hsz.symm) S.2.2.2.1 (S.2.2.2.2 _ h1) (S.2.2.2.2 _ h2) (S.2.2.2.2 _ h3) (S.2.2.2.2 _ h4) hfr (by omega) (Nat.zero_le _) (Nat.zero_le _) hdg ?_
  have e1 : (if iI z < iI y then iI z else iI y) = iI (if z < y then z else y) := by
    by_cases h : z < y
    · rw [if_pos h, if_pos ((iI_lt hz hy).mpr h)]
    · rw [if_neg h, if_neg (fun g => h ((iI_lt hz hy).mp g))]
  rw [e1]
  exact kk
theorem cpy_vI {f g : Nat → Int} {n : Nat} (k : Nat) (x : Nat) (hk : n ≤ k) : va_cpy (vI f) (vI g) 0 0 k x = vI (fun j => if j < k then f j else g j) x := by
  by_cases h : x < k
  · simp [va_cpy, vI, h]
  · simp [va_cpy, vI, h]
theorem cell_eq {cA : ClassId} {n : Nat} {f g : Nat → Int32} (h : ∀ k, k < n → f k = g k) : vp_cell cA (n, .inl f) = vp_cell cA (n, .inl g) := by
  show arrV cA n (fun j => .int (f j)) = arrV cA n (fun j => .int (g j))
  unfold arrV
  congr 1
  first
    | (congr 1; exact List.map_congr_left (fun a ha => by rw [h a (List.mem_range.mp ha)]))
    | (apply Array.ext (by simp); intro i h1 h2; simp at h1 ⊢; exact h i h1)
/-- the row of a cell under another name, where they agree -/
theorem P_row {ws : va_W} {q0 n : Nat} {f g : Nat → Int32} {cA : ClassId} (hP : va_P D vwCl ws H) (ha : ws[q0]? = some (a, .inl (cA, n, .inl f))) (h : ∀ k, k < n → f k = g k) : va_P D vwCl (ws.set q0 (a, .inl (cA, n, .inl g))) H := by
  intro k x hx
  have hl := (List.getElem?_eq_some_iff.mp ha).1
  by_cases hk : k = q0
  · subst hk
    rw [List.getElem?_set_self hl] at hx
    cases hx
    have h1 := hP k _ ha
    show H[a]? = some (vp_cell cA (n, .inl g))
    rw [← cell_eq h]
    exact h1
  · rw [List.getElem?_set_ne (Ne.symm hk)] at hx
    exact hP k x hx
theorem w_copy (S : CallFix p m c cc nL s args Ts own) (hE : En D cI cZ N s) (hsz : ls.size = nL) (h1 : Cond.methodLink own index arraycopyName ∈ Ts) (h2 : Cond.native arraycopyName ∈ Ts) (h3 : Cond.static arraycopyName ∈ Ts) (h4 : Cond.initialized "java/lang/System" ∈ Ts) (hfr : 1 ≤ R.frames) (hlo : 26 ≤ R.locals) (hcat : (rest.map fun v => v.category).sum ≤ 8) (hP : va_P D vwCl ws H) (hD : va_D A ws) (hS : va_S A s.heap H locs) (q0 q1 : Nat) {a0 n : Nat} {f g : Nat → Int} (ha0 : ws[q0]? = some (a0, .inl (cI, n, .inl (vI f)))) (ha1 : ws[q1]? = some (a, .inl (cI, n, .inl (vI g)))) (hn : n ≤ 100000) {z : Int} (hz : z = (n : Int)) (hdg : decode cc pc = .ok (.invokestatic index, 3))
    (kk : ∀ (H1 : Heap) (locs1 : List Loc), va_P D vwCl (ws.set q1 (a, .inl (cI, n, .inl (vI f)))) H1 → va_D A (ws.set q1 (a, .inl (cI, n, .inl (vI f)))) → va_S A s.heap H1 locs1 → W p l e R s m args below meth c H1 locs1 0 0 Q (F0 m (pc + 3) ls rest)) : W p l e R s m args below meth c H locs 0 0 Q (F0 m pc ls (.int (iI z) :: .int (iI 0) :: .ref a :: .int (iI 0) :: .ref a0 :: rest)) := by
  subst hz
  have e0 : (iI 0).toNatClampNeg = 0 := rfl
  have en : (iI (n : Int)).toNatClampNeg = n := iI_cl (by omega)
  refine va_copyi (tys := TY cI cZ) (ty := .int) S.1 S.2.1 (S.2.2.1.trans hsz.symm) S.2.2.2.1 (S.2.2.2.2 _ h1) (S.2.2.2.2 _ h2) (S.2.2.2.2 _ h3) (S.2.2.2.2 _ h4) hE.1 hP hD hS q0 q1 0 0 ha0 ha1 rfl rfl rfl (by decide) (by decide) (by rw [iI_nI]; exact nI_pos (by omega)) (by rw [e0, en]; omega) (by rw [e0, en]; omega) (fun _ _ => rfl) hfr (by simp [nativeFrameWords]; omega) hdg ?_
  rw [e0, en]
  intro H1 locs1 hP1 hD1 hS1
  have hl := (List.getElem?_eq_some_iff.mp ha1).1
  have hP2 := P_row (g := vI f) (q0 := q1) hP1 (by rw [List.getElem?_set_self hl]) (fun k hk => by simp [va_cpy, hk])
  have hD2 := va_D.set (e := .inl (cI, n, .inl (vI f))) hD1 (p := q1) (by rw [List.getElem?_set_self hl])
  rw [List.set_set] at hP2 hD2
  exact kk H1 locs1 hP2 hD2 hS1
end LIBS
end
section
/-! The pure words of the class's methods -/
def sumTo (f : Nat → Int) : Nat → Int
  | 0 => 0
  | n + 1 => sumTo f n + f n
def cntP (f : Nat → Int) : Nat → Int
  | 0 => 0
  | n + 1 => cntP f n + (if 0 < f n then 1 else 0)
theorem cntP_rng (f : Nat → Int) : ∀ n, 0 ≤ cntP f n ∧ cntP f n ≤ (n : Int)
  | 0 => ⟨Int.le_refl _, Int.le_refl _⟩
  | n + 1 => by
    have h := cntP_rng f n
    show 0 ≤ cntP f n + (if 0 < f n then 1 else 0) ∧ cntP f n + (if 0 < f n then 1 else 0) ≤ ((n + 1 : Nat) : Int)
    split <;> omega
/-- links: ticks there and back, drops -/
def tkT (nb : Nat → Int) (l : Nat) (t : Int) : Int := nb (l * 6) + t.tmod (nb (l * 6 + 1) + 1)
def tkB (nb : Nat → Int) (l : Nat) (t : Int) : Int := nb (l * 6 + 2) + t.tmod (nb (l * 6 + 3) + 1)
def drp (nb : Nat → Int) (l : Nat) (x : Int) : Prop := 0 < nb (l * 6 + 4) ∧ x.tmod (nb (l * 6 + 4)) = nb (l * 6 + 5)
def nbFirst (k : Nat) : Int := lnFirst (k % 6)
theorem tmod_rng {t d : Int} (ht : 0 ≤ t) (hd : 0 < d) : 0 ≤ t.tmod d ∧ t.tmod d < d := ⟨Int.tmod_nonneg _ ht, Int.tmod_lt_of_pos _ hd⟩
theorem tmod_rngZ {t d : Int} (hd : 0 < d) : -d < t.tmod d ∧ t.tmod d < d := ⟨Int.lt_tmod_of_pos _ hd, Int.tmod_lt_of_pos _ hd⟩
theorem tkT_rng {nb : Nat → Int} {l : Nat} {t : Int} (hl : l < 4) (ht : 0 ≤ t) (hnb : ∀ k, k < 24 → 0 ≤ nb k ∧ nb k ≤ 20) : 0 ≤ tkT nb l t ∧ tkT nb l t ≤ 40 := by
  have h1 := hnb (l * 6) (by omega)
  have h2 := hnb (l * 6 + 1) (by omega)
  have h3 := tmod_rng (d := nb (l * 6 + 1) + 1) ht (by omega)
  unfold tkT
  omega
theorem tkB_rng {nb : Nat → Int} {l : Nat} {t : Int} (hl : l < 4) (ht : 0 ≤ t) (hnb : ∀ k, k < 24 → 0 ≤ nb k ∧ nb k ≤ 20) : 0 ≤ tkB nb l t ∧ tkB nb l t ≤ 40 := by
  have h1 := hnb (l * 6 + 2) (by omega)
  have h2 := hnb (l * 6 + 3) (by omega)
  have h3 := tmod_rng (d := nb (l * 6 + 3) + 1) ht (by omega)
  unfold tkB
  omega
/-- bounds -/
def fgt (mo : Nat → Int) (n i : Nat) : Nat → Int := fun k => if (k / 5 = n ∧ k % 5 < i) ∨ (k % 5 = n ∧ k / 5 < i) then 1000000000 else mo k
theorem fgt_0 (mo : Nat → Int) (n : Nat) : mo = fgt mo n 0 := by funext k; simp [fgt]
theorem fgt_s (mo : Nat → Int) (n i : Nat) (hn : n < 5) (hi : i < 5) : updI (updI (fgt mo n i) (n * 5 + i) 1000000000) (i * 5 + n) 1000000000 = fgt mo n (i + 1) := by
  funext k
  unfold updI fgt
  by_cases h1 : k = i * 5 + n
  · rw [if_pos h1, if_pos (Or.inr (by omega))]
  · rw [if_neg h1]
    by_cases h2 : k = n * 5 + i
    · rw [if_pos h2, if_pos (Or.inl (by omega))]
    · rw [if_neg h2]
      by_cases h3 : (k / 5 = n ∧ k % 5 < i) ∨ (k % 5 = n ∧ k / 5 < i)
      · rw [if_pos h3, if_pos (by omega)]
      · rw [if_neg h3, if_neg (by omega)]
def nrw (mo : Nat → Int) (f t : Nat) (x y : Int) : Nat → Int := updI (updI mo (f * 5 + t) (if x < mo (f * 5 + t) then x else mo (f * 5 + t))) (t * 5 + f) (if -y < updI mo (f * 5 + t) (if x < mo (f * 5 + t) then x else mo (f * 5 + t)) (t * 5 + f) then -y else updI mo (f * 5 + t) (if x < mo (f * 5 + t) then x else mo (f * 5 + t)) (t * 5 + f))
def prI (mo : Nat → Int) (f : Nat) : Nat → Int
  | 0 => 0
  | j + 1 => prI mo f j + (if mo (f * 5 + (f + 1 + j)) = 1000000000 then 0 else 1)
def prO (mo : Nat → Int) : Nat → Int
  | 0 => 0
  | f + 1 => prO mo f + prI mo f (4 - f)
def rlx (mo : Nat → Int) (a : Nat) (re : Nat → Int) : Nat → (Nat → Int)
  | 0 => re
  | k + 1 => if mo (a * 5 + k) = 1000000000 then rlx mo a re k else updI (rlx mo a re k) k (if rlx mo a re k a + mo (a * 5 + k) < rlx mo a re k k then rlx mo a re k a + mo (a * 5 + k) else rlx mo a re k k)
def stp (mo : Nat → Int) (a : Nat) (re : Nat → Int) : Nat → Int := if re a = 1000000000 then re else rlx mo a re 5
def rnd (mo : Nat → Int) (re : Nat → Int) : Nat → (Nat → Int)
  | 0 => re
  | a + 1 => stp mo a (rnd mo re a)
def rnds (mo : Nat → Int) (re : Nat → Int) : Nat → (Nat → Int)
  | 0 => re
  | r + 1 => rnd mo (rnds mo re r) 5
theorem rlx_rng {mo re : Nat → Int} {a : Nat} {L : Int} (ha : a < 5) (hmo : ∀ k, k < 25 → -1000 ≤ mo k ∧ mo k ≤ 1000000000) (hre : ∀ k, k < 5 → -L ≤ re k ∧ re k ≤ 1000000000) : ∀ j : Nat, j ≤ 5 → ∀ k, k < 5 → -(L + 1000 * (j : Int)) ≤ rlx mo a re j k ∧ rlx mo a re j k ≤ 1000000000
  | 0, _, k, hk => by have h := hre k hk; show -(L + 1000 * ((0 : Nat) : Int)) ≤ re k ∧ re k ≤ 1000000000; omega
  | j + 1, hj, k, hk => by
    have h1 := rlx_rng ha hmo hre j (by omega) k hk
    have h2 := rlx_rng ha hmo hre j (by omega) a ha
    have h3 := hmo (a * 5 + j) (by omega)
    have h4 := rlx_rng ha hmo hre j (by omega) j (by omega)
    unfold rlx
    split
    · omega
    · unfold updI
      split
      · split <;> omega
      · omega
theorem stp_rng {mo re : Nat → Int} {a : Nat} {L : Int} (ha : a < 5) (hL : 0 ≤ L) (hmo : ∀ k, k < 25 → -1000 ≤ mo k ∧ mo k ≤ 1000000000) (hre : ∀ k, k < 5 → -L ≤ re k ∧ re k ≤ 1000000000) : ∀ k, k < 5 → -(L + 5000) ≤ stp mo a re k ∧ stp mo a re k ≤ 1000000000 := by
  intro k hk
  unfold stp
  split
  · have h := hre k hk; omega
  · have h := rlx_rng ha hmo hre 5 (by omega) k hk; omega
theorem rnd_rng {mo re : Nat → Int} {L : Int} (hL : 0 ≤ L) (hmo : ∀ k, k < 25 → -1000 ≤ mo k ∧ mo k ≤ 1000000000) (hre : ∀ k, k < 5 → -L ≤ re k ∧ re k ≤ 1000000000) : ∀ a : Nat, a ≤ 5 → ∀ k, k < 5 → -(L + 5000 * (a : Int)) ≤ rnd mo re a k ∧ rnd mo re a k ≤ 1000000000
  | 0, _, k, hk => by have h := hre k hk; show -(L + 5000 * ((0 : Nat) : Int)) ≤ re k ∧ re k ≤ 1000000000; omega
  | a + 1, ha, k, hk => by
    have h := stp_rng (a := a) (by omega) (L := L + 5000 * (a : Int)) (by omega) hmo (rnd_rng hL hmo hre a (by omega)) k hk
    show -(L + 5000 * ((a + 1 : Nat) : Int)) ≤ stp mo a (rnd mo re a) k ∧ stp mo a (rnd mo re a) k ≤ 1000000000
    omega
theorem rnds_rng {mo re : Nat → Int} {L : Int} (hL : 0 ≤ L) (hmo : ∀ k, k < 25 → -1000 ≤ mo k ∧ mo k ≤ 1000000000) (hre : ∀ k, k < 5 → -L ≤ re k ∧ re k ≤ 1000000000) : ∀ r : Nat, ∀ k, k < 5 → -(L + 25000 * (r : Int)) ≤ rnds mo re r k ∧ rnds mo re r k ≤ 1000000000
  | 0, k, hk => by have h := hre k hk; show -(L + 25000 * ((0 : Nat) : Int)) ≤ re k ∧ re k ≤ 1000000000; omega
  | r + 1, k, hk => by
    have h := rnd_rng (L := L + 25000 * (r : Int)) (by omega) hmo (rnds_rng hL hmo hre r) 5 (by omega) k hk
    show -(L + 25000 * ((r + 1 : Nat) : Int)) ≤ rnd mo (rnds mo re r) 5 k ∧ rnd mo (rnds mo re r) 5 k ≤ 1000000000
    omega
/-- what lies in the three worlds' parts -/
def re0 (x : Nat) : Nat → Int := updI (fun _ => 1000000000) x 0
theorem re0_rng (x : Nat) : ∀ k, k < 5 → -0 ≤ re0 x k ∧ re0 x k ≤ 1000000000 := by
  intro k _
  unfold re0 updI
  split
  · omega
  · show -0 ≤ (1000000000 : Int) ∧ (1000000000 : Int) ≤ 1000000000
    omega
end
section
/-! The static rows: read, and copied out of -/
def cpyI (f g : Nat → Int) (dp n : Nat) : Nat → Int := fun k => if dp ≤ k ∧ k < dp + n then f (k - dp) else g k
section TABS
variable {p : Program} {l : Launch} {e : Env} {R : Room} {s : State} {m : MethodId} {args : Array Value} {below : List Frame} {meth : Method} {c : Code} {H : Heap} {locs : List Loc} {Q : State → Prop}
variable {cc : ByteArray} {pc : Nat} {ls : Array Slot} {rest : List Value} {D : va_G} {A : Nat → Prop} {a : Nat} {ws : va_W} {cI cZ : ClassId} {N nL index : Nat} {Ts : List Cond} {own : String}
theorem w_gets {nm : String} {z : Nat} (S : CallFix p m c cc nL s args Ts own) (hZ : va_Z "PathSounder" nm "[I" (.ref z) (fun q => N ≤ q) s s.heap) (hAN : ∀ q, A q → N ≤ q) (hS : va_S A s.heap H locs) (hl : Cond.fieldLink own index "PathSounder" nm "[I" ∈ Ts) (hdg : decode cc pc = .ok (.getstatic index, 3)) (kk : W p l e R s m args below meth c H locs 0 0 Q (F0 m (pc + 3) ls (.ref z :: rest))) : W p l e R s m args below meth c H locs 0 0 Q (F0 m pc ls rest) :=
  va_gets S.1 S.2.1 (hZ.narrow hAN) hS S.2.2.2.1 (S.2.2.2.2 _ hl) (fun _ h => h) hdg kk
theorem w_getsN {nm : String} {z : Nat} (S : CallFix p m c cc nL s args Ts own) (hZ : va_Z "PathSounder" nm "[I" (.ref z) (fun q => N ≤ q) s s.heap) (hAN : ∀ q, A q → N ≤ q) (hS : va_S A s.heap H locs) (hl : va_Nw (.fieldLinkNest own index "PathSounder" nm "[I" "PathSounder") s) (hdg : decode cc pc = .ok (.getstatic index, 3)) (kk : W p l e R s m args below meth c H locs 0 0 Q (F0 m (pc + 3) ls (.ref z :: rest))) : W p l e R s m args below meth c H locs 0 0 Q (F0 m pc ls rest) :=
  va_getsN S.1 S.2.1 (hZ.narrow hAN) hS S.2.2.2.1 (hl.use rfl) (fun _ h => h) hdg kk
theorem w_tld {f : Nat → Int} {z : Nat} (S : CallFix p m c cc nL s args Ts own) (hT : va_T .int z 6 (fun j => .int (vI f j)) (fun q => N ≤ q) s s.heap) (hAN : ∀ q, A q → N ≤ q) (hS : va_S A s.heap H locs) {x : Int} (k : Nat) (hz : x = (k : Int)) (hk : k < 6) (hdg : decode cc pc = .ok (.iaload, 1)) (kk : W p l e R s m args below meth c H locs 0 0 Q (F0 m (pc + 1) ls (.int (iI (f k)) :: rest))) : W p l e R s m args below meth c H locs 0 0 Q (F0 m pc ls (.int (iI x) :: .ref z :: rest)) := by
  subst hz
  refine va_ti S.1 S.2.1 (hT.narrow hAN) hS (iI_in hk (by omega)) (v := .int (iI (f k))) ?_ hdg kk
  rw [iI_cl (by omega)]
  rfl
/-- arraycopy out of a static row: no cell of the world is its source -/
theorem w_copyT (S : CallFix p m c cc nL s args Ts own) (hE : En D cI cZ N s) (hsz : ls.size = nL) (h1 : Cond.methodLink own index arraycopyName ∈ Ts) (h2 : Cond.native arraycopyName ∈ Ts) (h3 : Cond.static arraycopyName ∈ Ts) (h4 : Cond.initialized "java/lang/System" ∈ Ts) (hfr : 1 ≤ R.frames) (hlo : 26 ≤ R.locals) (hcat : (rest.map fun v => v.category).sum ≤ 8) (hP : va_P D vwCl ws H) (hD : va_D A ws) (hS : va_S A s.heap H locs) (hAN : ∀ q, A q → N ≤ q) {z0 n0 : Nat} {f g : Nat → Int} (hX : va_T .int z0 n0 (fun j => .int (vI f j)) (fun q => N ≤ q) s s.heap) (q1 : Nat) {n1 : Nat} (ha1 : ws[q1]? = some (a, .inl (cI, n1, .inl (vI g)))) (hn1 : n1 ≤ 100000) (dp n : Nat) {y z : Int} (hy : y = (dp : Int)) (hz : z = (n : Int)) (hn : n ≤ n0) (hd : dp + n ≤ n1) (hdg : decode cc pc = .ok (.invokestatic index, 3))
    (kk : ∀ (H1 : Heap) (locs1 : List Loc), va_P D vwCl (ws.set q1 (a, .inl (cI, n1, .inl (vI (cpyI f g dp n))))) H1 → va_D A (ws.set q1 (a, .inl (cI, n1, .inl (vI (cpyI f g dp n))))) → va_S A s.heap H1 locs1 → W p l e R s m args below meth c H1 locs1 0 0 Q (F0 m (pc + 3) ls rest)) : W p l e R s m args below meth c H locs 0 0 Q (F0 m pc ls (.int (iI z) :: .int (iI y) :: .ref a :: .int (iI 0) :: .ref z0 :: rest)) := by
  subst hy; subst hz
  have c0 : (iI 0).toNatClampNeg = 0 := rfl
  have cd : (iI (dp : Int)).toNatClampNeg = dp := iI_cl (by omega)
  have cn : (iI (n : Int)).toNatClampNeg = n := iI_cl (by omega)
  have td : (iI (dp : Int)).toInt = (dp : Int) := iI_toInt (by omega)
  have tn : (iI (n : Int)).toInt = (n : Int) := iI_toInt (by omega)
  have t0 : (iI 0).toInt = 0 := rfl
  obtain ⟨src, s1, ⟨s2, k0, hk0, cm0, hkk0⟩, s3, s4, -, s5, s6⟩ := hX.narrow hAN
  have hsrc : H[z0]? = some src := by rw [hS.2.1 z0 (Array.getElem?_eq_some_iff.mp s1).1 s6]; exact s1
  have hdst : H[a]? = some (vp_cell cI (n1, .inl (vI g))) := hP q1 _ ha1
  obtain ⟨-, k1, hk1, cm1, hkk1⟩ := (hE.1.2 0 (cI, .int) rfl).1 n1 (fun j => .int (vI g j))
  intro T hT X
  obtain ⟨vm', X', step⟩ := X.arraycopy S.1 S.2.2.2.1 (S.2.2.2.2 _ h1) (S.2.2.2.2 _ h2) (S.2.2.2.2 _ h3) (S.2.2.2.2 _ h4) (src := z0) (dst := a) (cs := src) (cd := vp_cell cI (n1, .inl (vI g))) (srcPos := iI 0) (destPos := iI (dp : Int)) (n := iI (n : Int)) (by rw [hT]; exact hsrc) (by rw [hT]; exact hdst)
    s2 (fun _ h => by cases h) s3 (fun h => by cases h) hk0 hk1 hkk0 hkk1 (by simp [refKind]) (by decide) (by rw [iI_nI]; exact nI_pos (by omega)) (by rw [iI_nI]; exact nI_pos (by omega))
    (by rw [t0, tn]; omega)
    (by rw [td, tn]; show ¬ _ > ((arrV cI n1 (fun j => .int (vI g j))).slots.size : Int); rw [arrV_size]; omega)
    (fun vm₁ _ i hi => by
      rw [cn] at hi
      have e : src.slots.getD ((iI 0).toNatClampNeg + i) .null = .int (vI f i) := by
        rw [c0, Nat.zero_add, Array.getD_eq_getD_getElem?, s5 _ (by omega)]
        rfl
      rw [e]
      exact ⟨rfl, trivial⟩)
    (g := F0 m pc ls (.int (iI (n : Int)) :: .int (iI (dp : Int)) :: .ref a :: .int (iI 0) :: .ref z0 :: rest)) rfl (by rw [S.2.2.1]; exact hsz) (rest := rest) rfl (by rw [S.2.1]; exact hdg) hfr (by show 2 * 0 + _ + _ ≤ _; simp [nativeFrameWords]; omega)
  have e1 : copied src (vp_cell cI (n1, .inl (vI g))) (iI 0) (iI (dp : Int)) (iI (n : Int)) = vp_cell cI (n1, .inl (va_cpy (vI f) (vI g) (iI 0).toNatClampNeg (iI (dp : Int)).toNatClampNeg (iI (n : Int)).toNatClampNeg)) := va_copiedX (fun z => .int z) src cI (vI f) (vI g) s5 (by rw [c0, cn]; omega)
  have e2 : va_cpy (vI f) (vI g) (iI 0).toNatClampNeg (iI (dp : Int)).toNatClampNeg (iI (n : Int)).toNatClampNeg = vI (cpyI f g dp n) := by
    rw [c0, cd, cn]
    funext k
    unfold va_cpy cpyI vI
    dsimp only
    by_cases h : dp ≤ k ∧ k < dp + n
    · rw [if_pos h, if_pos h, Nat.zero_add]
    · rw [if_neg h, if_neg h]
  rw [e1, e2] at X' step
  have hl : a < H.size := (Array.getElem?_eq_some_iff.mp hdst).1
  have hheap : ((T.setVm vm').setCell a (vp_cell cI (n1, .inl (vI (cpyI f g dp n))))).heap = H.setIfInBounds a (vp_cell cI (n1, .inl (vI (cpyI f g dp n)))) := by rw [← hT]; rfl
  have oq : ∀ q : Nat, q ≠ a → (H.setIfInBounds a (vp_cell cI (n1, .inl (vI (cpyI f g dp n)))))[q]? = H[q]? := fun q hq => by simp [Array.getElem?_setIfInBounds, Ne.symm hq]
  have hAa : A a := hD.2 q1 _ ha1
  obtain ⟨t, g1, g2⟩ := kk _ _ (hP.set hD ha1 (show (H.setIfInBounds a _)[a]? = some _ by simp [Array.getElem?_setIfInBounds, hl]) oq) (hD.set ha1) ⟨by simp; exact hS.1, fun q w1 w2 => by
      rw [oq q (fun h => w2 (h ▸ hAa))]
      exact hS.2.1 q w1 w2, fun q hq => by
      rcases List.mem_append.mp hq with h | h
      · exact hS.2.2 q h
      · obtain ⟨x, -, hx⟩ := List.mem_map.mp h
        rw [← hx]
        exact hAa⟩ _ hheap X'
  exact ⟨t, step t g1, g2⟩
end TABS
theorem first_s (nb : Nat → Int) (i : Nat) : cpyI lnFirst (fun k => if k < i * 6 then nbFirst k else nb k) (i * 6) 6 = (fun k => if k < (i + 1) * 6 then nbFirst k else nb k) := by
  funext k
  unfold cpyI
  dsimp only
  by_cases h : i * 6 ≤ k ∧ k < i * 6 + 6
  · rw [if_pos h, if_pos (by omega)]
    unfold nbFirst
    rw [show k % 6 = k - i * 6 by omega]
  · rw [if_neg h]
    by_cases h2 : k < i * 6
    · rw [if_pos h2, if_pos (by omega)]
    · rw [if_neg h2, if_neg (by omega)]
/-! Greatest common divisors -/
theorem tm0 {u : Int} {d : Nat} : u.tmod (d : Int) = 0 ↔ d ∣ u.natAbs := by
  rw [← Int.dvd_iff_tmod_eq_zero, Int.ofNat_dvd_left]
theorem tm0w {w d : Nat} : ((w : Nat) : Int).tmod (d : Int) = 0 ↔ d ∣ w := by
  rw [tm0]; rfl
theorem gcd_is {x w d : Nat} (hw : 0 < w) (h1 : d ∣ x) (h2 : d ∣ w) (h : ∀ k, d < k → k ≤ w → ¬ (k ∣ x ∧ k ∣ w)) : Nat.gcd x w = d := by
  have g1 := Nat.gcd_dvd_left x w
  have g2 := Nat.gcd_dvd_right x w
  have g3 : d ∣ Nat.gcd x w := Nat.dvd_gcd h1 h2
  have g4 : Nat.gcd x w ≤ w := Nat.le_of_dvd hw g2
  have g5 : 0 < Nat.gcd x w := Nat.gcd_pos_of_pos_right _ hw
  have g6 : d ≤ Nat.gcd x w := Nat.le_of_dvd g5 g3
  rcases Nat.lt_or_ge d (Nat.gcd x w) with h' | h'
  · exact absurd ⟨g1, g2⟩ (h _ h' g4)
  · omega
theorem gcd_pos {x w : Nat} (hw : 0 < w) : 0 < Nat.gcd x w ∧ Nat.gcd x w ≤ w := ⟨Nat.gcd_pos_of_pos_right _ hw, Nat.le_of_dvd hw (Nat.gcd_dvd_right x w)⟩
theorem gcd_step {x y : Nat} : Nat.gcd y (x % y) = Nat.gcd x y := by
  rw [Nat.gcd_comm x y, Nat.gcd_rec y x, Nat.gcd_comm]
theorem tmodN (x y : Nat) : ((x : Nat) : Int).tmod (y : Int) = ((x % y : Nat) : Int) := by
  rw [Int.ofNat_tmod]
end
section
set_option maxHeartbeats 4000000 in
set_option maxRecDepth 100000 in
theorem c_fill (lc : Launch) (D : va_G) (cI cZ : ClassId) (N : Nat) (a : Nat) (n : Nat) (f : Nat → Int) (v : Int) (hn : n ≤ 100000) : CM lc D cI cZ N yJ7_fill_53178 wsJ7_fill_53178 (rmK 0 0) [.ref a, .int (iI (v))] [(a, .inl (cI, n, .inl (vI f)))] none [(a, .inl (cI, n, .inl (vI (fun _ => v))))] := by
  refine CM.V (cc := cJ7_fill_53178) (maxL := 4) (by decide) rfl (Nat.le_of_ble_eq_true rfl) ?_
  intro p e s m args below meth c R Q S hE A hAN hfr hlo hP hD hS hret ls hl
  have S : CallFix p m c cJ7_fill_53178 4 s args wsJ7_fill_53178 RJ7 := S
  have hx := S.1
  have hb := S.2.1
  have hl : lv_has ls 4 [(0, .ref a), (1, .int (iI (v)))] := hl
  refine lv_iconst (v := iI (0)) hx hb dJ7_fill_53178_0 rfl ?_
  refine lv_istore_n (lv' := [(2, .int (iI (0))), (0, .ref a), (1, .int (iI (v)))]) hx hb dJ7_fill_53178_1 rfl hl (by decide) rfl (fun ls hl => ?_)
  refine lv_aload_n hx hb dJ7_fill_53178_2 rfl (lv_at hl 1 rfl) ?_
  refine w_alen S hE hP 0 rfl dJ7_fill_53178_3 ?_
  refine lv_istore_n (lv' := [(3, .int (iI (((n : Nat) : Int)))), (2, .int (iI (0))), (0, .ref a), (1, .int (iI (v)))]) hx hb dJ7_fill_53178_4 rfl hl (by decide) rfl (fun ls hl => ?_)
  have loop1 : ∀ (k i : Nat) , i + k = n → ∀ (H : Heap) (locs : List Loc) (ls : Array Slot), va_P D vwCl [(a, .inl (cI, n, .inl (vI (fun j => if j < i then v else f j))))] H → va_D A [(a, .inl (cI, n, .inl (vI (fun j => if j < i then v else f j))))] → va_S A s.heap H locs → lv_has ls 4 [(3, .int (iI (((n : Nat) : Int)))), (2, .int (iI (((i : Nat) : Int)))), (0, .ref a), (1, .int (iI (v)))] → W p lc e R s m args below meth c H locs 0 0 Q (F0 m 5 ls []) := by
    intro k
    induction k with
    | zero =>
      intro i  hm  H locs ls hP hD hS hl
      refine lv_iload_n hx hb dJ7_fill_53178_5 rfl (lv_at hl 1 rfl) ?_
      refine lv_iload_n hx hb dJ7_fill_53178_6 rfl (lv_at hl 0 rfl) ?_
      refine c_geT (tgt := 20) S dJ7_fill_53178_7 (by decide) (by omega) (by omega) (by omega) ?_
      exact hret _ _ _ _ dJ7_fill_53178_20 (P_row (q0 := 0) (g := vI (fun _ => v)) hP rfl (fun k hk => by simp only [vI]; rw [if_pos (by omega)])) hS
    | succ k ih1 =>
      intro i  hm  H locs ls hP hD hS hl
      refine lv_iload_n hx hb dJ7_fill_53178_5 rfl (lv_at hl 1 rfl) ?_
      refine lv_iload_n hx hb dJ7_fill_53178_6 rfl (lv_at hl 0 rfl) ?_
      refine c_geF (tgt := 20) S dJ7_fill_53178_7 (by decide) (by omega) (by omega) (by omega) ?_
      refine lv_aload_n hx hb dJ7_fill_53178_10 rfl (lv_at hl 2 rfl) ?_
      refine lv_iload_n hx hb dJ7_fill_53178_11 rfl (lv_at hl 1 rfl) ?_
      refine lv_iload_n hx hb dJ7_fill_53178_12 rfl (lv_at hl 3 rfl) ?_
      refine w_iast S hE hP hD hS 0 rfl (i) (by omega) (by omega) (by omega) dJ7_fill_53178_13 (fun H locs hP hD hS => ?_)
      have hP : va_P D vwCl [(a, .inl (cI, n, .inl (vI (updI (fun j => if j < i then v else f j) i v))))] H := hP
      have hD : va_D A [(a, .inl (cI, n, .inl (vI (updI (fun j => if j < i then v else f j) i v))))] := hD
      refine w_iinc (v := ((i + 1 : Nat) : Int)) (lv' := [(2, .int (iI (((i + 1 : Nat) : Int)))), (3, .int (iI (((n : Nat) : Int)))), (0, .ref a), (1, .int (iI (v)))]) S dJ7_fill_53178_14 hl (k := 1) rfl (by omega) (by decide) rfl (fun ls hl => ?_)
      refine lv_goto (tgt := 5) hx hb dJ7_fill_53178_17 (by decide) ?_
      have hcell : updI (fun j => if j < i then v else f j) i v = (fun j => if j < (i + 1) then v else f j) := (funext fun j => by by_cases h1 : j = i <;> by_cases h2 : j < i <;> simp [updI, h1, h2] <;> omega)
      rw [hcell] at hP hD
      exact ih1 (i + 1)  (by omega)  _ _ _ hP hD hS (lv_sub hl [1, 0, 2, 3] rfl)
  have hcell : f = (fun j => if j < 0 then v else f j) := (funext fun j => by simp)
  rw [hcell] at hP hD
  exact loop1 n 0  (by omega)  _ _ _ hP hD hS (lv_sub hl [0, 1, 2, 3] rfl)
set_option maxHeartbeats 4000000 in
set_option maxRecDepth 100000 in
theorem c_within_T (lc : Launch) (D : va_G) (cI cZ : ClassId) (N : Nat) (v : Int) (lo : Int) (hi : Int) (hr_0 : -2147483648 ≤ v ∧ v ≤ 2147483647) (hr_1 : -2147483648 ≤ lo ∧ lo ≤ 2147483647) (hr_2 : -2147483648 ≤ hi ∧ hi ≤ 2147483647) (h : lo ≤ v ∧ v ≤ hi) : CR lc D cI cZ N yX4_within wsX4_within (rmK 0 0) [.int (iI (v)), .int (iI (lo)), .int (iI (hi))] [] (some (.int (iI (1)))) := by
  refine CR.Z (cc := cX4_within) (maxL := 3) (by decide) rfl (Nat.le_of_ble_eq_true rfl) ?_
  intro p e s m args below meth c R Q S hE A hAN hfr hlo hP hD hS hret ls hl
  have S : CallFix p m c cX4_within 3 s args wsX4_within RX4 := S
  have hx := S.1
  have hb := S.2.1
  have hl : lv_has ls 3 [(0, .int (iI (v))), (1, .int (iI (lo))), (2, .int (iI (hi)))] := hl
  refine lv_iload_n hx hb dX4_within_0 rfl (lv_at hl 0 rfl) ?_
  refine lv_iload_n hx hb dX4_within_1 rfl (lv_at hl 1 rfl) ?_
  refine c_ltF (tgt := 14) S dX4_within_2 (by decide) (by omega) (by omega) (by omega) ?_
  refine lv_iload_n hx hb dX4_within_5 rfl (lv_at hl 0 rfl) ?_
  refine lv_iload_n hx hb dX4_within_6 rfl (lv_at hl 2 rfl) ?_
  refine c_gtF (tgt := 14) S dX4_within_7 (by decide) (by omega) (by omega) (by omega) ?_
  refine lv_iconst (v := iI (1)) hx hb dX4_within_10 rfl ?_
  refine lv_goto (tgt := 15) hx hb dX4_within_11 (by decide) ?_
  exact hret _ _ _ dX4_within_15 rfl (Or.inr rfl)
set_option maxHeartbeats 4000000 in
set_option maxRecDepth 100000 in
theorem c_within_F (lc : Launch) (D : va_G) (cI cZ : ClassId) (N : Nat) (v : Int) (lo : Int) (hi : Int) (hr_0 : -2147483648 ≤ v ∧ v ≤ 2147483647) (hr_1 : -2147483648 ≤ lo ∧ lo ≤ 2147483647) (hr_2 : -2147483648 ≤ hi ∧ hi ≤ 2147483647) (h : ¬ (lo ≤ v ∧ v ≤ hi)) : CR lc D cI cZ N yX4_within wsX4_within (rmK 0 0) [.int (iI (v)), .int (iI (lo)), .int (iI (hi))] [] (some (.int (iI (0)))) := by
  refine CR.Z (cc := cX4_within) (maxL := 3) (by decide) rfl (Nat.le_of_ble_eq_true rfl) ?_
  intro p e s m args below meth c R Q S hE A hAN hfr hlo hP hD hS hret ls hl
  have S : CallFix p m c cX4_within 3 s args wsX4_within RX4 := S
  have hx := S.1
  have hb := S.2.1
  have hl : lv_has ls 3 [(0, .int (iI (v))), (1, .int (iI (lo))), (2, .int (iI (hi)))] := hl
  by_cases h1 : v < lo
  · refine lv_iload_n hx hb dX4_within_0 rfl (lv_at hl 0 rfl) ?_
    refine lv_iload_n hx hb dX4_within_1 rfl (lv_at hl 1 rfl) ?_
    refine c_ltT (tgt := 14) S dX4_within_2 (by decide) (by omega) (by omega) (by omega) ?_
    refine lv_iconst (v := iI (0)) hx hb dX4_within_14 rfl ?_
    exact hret _ _ _ dX4_within_15 rfl (Or.inl rfl)
  · refine lv_iload_n hx hb dX4_within_0 rfl (lv_at hl 0 rfl) ?_
    refine lv_iload_n hx hb dX4_within_1 rfl (lv_at hl 1 rfl) ?_
    refine c_ltF (tgt := 14) S dX4_within_2 (by decide) (by omega) (by omega) (by omega) ?_
    refine lv_iload_n hx hb dX4_within_5 rfl (lv_at hl 0 rfl) ?_
    refine lv_iload_n hx hb dX4_within_6 rfl (lv_at hl 2 rfl) ?_
    refine c_gtT (tgt := 14) S dX4_within_7 (by decide) (by omega) (by omega) (by omega) ?_
    refine lv_iconst (v := iI (0)) hx hb dX4_within_14 rfl ?_
    exact hret _ _ _ dX4_within_15 rfl (Or.inl rfl)
set_option maxHeartbeats 4000000 in
set_option maxRecDepth 100000 in
theorem c_isBlock_T (lc : Launch) (D : va_G) (cI cZ : ClassId) (N : Nat) (v : Int) (hr_0 : -2147483648 ≤ v ∧ v ≤ 2147483647) (h : 0 ≤ v ∧ v ≤ 199) : CR lc D cI cZ N yX4_isBlock wsX4_isBlock (rmK 1 22) [.int (iI (v))] [] (some (.int (iI (1)))) := by
  refine CR.Z (cc := cX4_isBlock) (maxL := 1) (by decide) rfl (Nat.le_of_ble_eq_true rfl) ?_
  intro p e s m args below meth c R Q S hE A hAN hfr hlo hP hD hS hret ls hl
  have S : CallFix p m c cX4_isBlock 1 s args wsX4_isBlock RX4 := S
  have hx := S.1
  have hb := S.2.1
  have hl : lv_has ls 1 [(0, .int (iI (v)))] := hl
  refine lv_iload_n hx hb dX4_isBlock_0 rfl (lv_at hl 0 rfl) ?_
  refine lv_iconst (v := iI (0)) hx hb dX4_isBlock_1 rfl ?_
  refine lv_sipush (v := iI (199)) hx hb dX4_isBlock_2 (by decide) ?_
  refine kS_R (n := 3) S (c_within_T lc D cI cZ N v 0 199 (by omega) (by omega) (by omega) (by omega)) gX4_isBlock_X4_within rfl (by decide +kernel) rfl rfl ⟨Nat.le_trans (Nat.le_of_ble_eq_true rfl) hfr, Nat.le_trans (Nat.le_of_ble_eq_true rfl) hlo⟩ hE hAN hP hD hS [] rfl (by decide) rfl hl.1 [] rfl (Nat.le_of_ble_eq_true rfl) dX4_isBlock_5 ⟨Nat.zero_le _, Nat.zero_le _⟩ ?_
  refine W.eq (g2 := F0 m 8 ls [.int (iI (1))]) rfl ?_
  exact hret _ _ _ dX4_isBlock_8 rfl (Or.inr rfl)
set_option maxHeartbeats 4000000 in
set_option maxRecDepth 100000 in
theorem c_isBlock_F (lc : Launch) (D : va_G) (cI cZ : ClassId) (N : Nat) (v : Int) (hr_0 : -2147483648 ≤ v ∧ v ≤ 2147483647) (h : ¬ (0 ≤ v ∧ v ≤ 199)) : CR lc D cI cZ N yX4_isBlock wsX4_isBlock (rmK 1 22) [.int (iI (v))] [] (some (.int (iI (0)))) := by
  refine CR.Z (cc := cX4_isBlock) (maxL := 1) (by decide) rfl (Nat.le_of_ble_eq_true rfl) ?_
  intro p e s m args below meth c R Q S hE A hAN hfr hlo hP hD hS hret ls hl
  have S : CallFix p m c cX4_isBlock 1 s args wsX4_isBlock RX4 := S
  have hx := S.1
  have hb := S.2.1
  have hl : lv_has ls 1 [(0, .int (iI (v)))] := hl
  refine lv_iload_n hx hb dX4_isBlock_0 rfl (lv_at hl 0 rfl) ?_
  refine lv_iconst (v := iI (0)) hx hb dX4_isBlock_1 rfl ?_
  refine lv_sipush (v := iI (199)) hx hb dX4_isBlock_2 (by decide) ?_
  refine kS_R (n := 3) S (c_within_F lc D cI cZ N v 0 199 (by omega) (by omega) (by omega) (by omega)) gX4_isBlock_X4_within rfl (by decide +kernel) rfl rfl ⟨Nat.le_trans (Nat.le_of_ble_eq_true rfl) hfr, Nat.le_trans (Nat.le_of_ble_eq_true rfl) hlo⟩ hE hAN hP hD hS [] rfl (by decide) rfl hl.1 [] rfl (Nat.le_of_ble_eq_true rfl) dX4_isBlock_5 ⟨Nat.zero_le _, Nat.zero_le _⟩ ?_
  refine W.eq (g2 := F0 m 8 ls [.int (iI (0))]) rfl ?_
  exact hret _ _ _ dX4_isBlock_8 rfl (Or.inl rfl)
set_option maxHeartbeats 4000000 in
set_option maxRecDepth 100000 in
theorem c_quotient (lc : Launch) (D : va_G) (cI cZ : ClassId) (N : Nat) (u : Int) (d : Int) (hr_0 : -2147483648 ≤ u ∧ u ≤ 2147483647) (hd : 0 < d ∧ d ≤ 2147483647) : CR lc D cI cZ N yX4_quotient wsX4_quotient (rmK 0 0) [.int (iI (u)), .int (iI (d))] [] (some (.int (iI (u.tdiv d)))) := by
  refine CR.I (cc := cX4_quotient) (maxL := 2) (by decide) rfl (Nat.le_of_ble_eq_true rfl) ?_
  intro p e s m args below meth c R Q S hE A hAN hfr hlo hP hD hS hret ls hl
  have S : CallFix p m c cX4_quotient 2 s args wsX4_quotient RX4 := S
  have hx := S.1
  have hb := S.2.1
  have hl : lv_has ls 2 [(0, .int (iI (u))), (1, .int (iI (d)))] := hl
  refine lv_iload_n hx hb dX4_quotient_0 rfl (lv_at hl 1 rfl) ?_
  refine b_leF (tgt := 10) S dX4_quotient_1 (by decide) (by omega) (by omega) ?_
  refine lv_iload_n hx hb dX4_quotient_4 rfl (lv_at hl 0 rfl) ?_
  refine lv_iload_n hx hb dX4_quotient_5 rfl (lv_at hl 1 rfl) ?_
  refine w_idiv S (by omega) (by omega) dX4_quotient_6 ?_
  refine lv_goto (tgt := 11) hx hb dX4_quotient_7 (by decide) ?_
  exact hret _ _ _ dX4_quotient_11 rfl
set_option maxHeartbeats 4000000 in
set_option maxRecDepth 100000 in
theorem c_leftOver (lc : Launch) (D : va_G) (cI cZ : ClassId) (N : Nat) (u : Int) (d : Int) (hr_0 : -2147483648 ≤ u ∧ u ≤ 2147483647) (hd : 0 < d ∧ d ≤ 2147483647) : CR lc D cI cZ N yX4_leftOver wsX4_leftOver (rmK 0 0) [.int (iI (u)), .int (iI (d))] [] (some (.int (iI (u.tmod d)))) := by
  refine CR.I (cc := cX4_leftOver) (maxL := 2) (by decide) rfl (Nat.le_of_ble_eq_true rfl) ?_
  intro p e s m args below meth c R Q S hE A hAN hfr hlo hP hD hS hret ls hl
  have S : CallFix p m c cX4_leftOver 2 s args wsX4_leftOver RX4 := S
  have hx := S.1
  have hb := S.2.1
  have hl : lv_has ls 2 [(0, .int (iI (u))), (1, .int (iI (d)))] := hl
  refine lv_iload_n hx hb dX4_leftOver_0 rfl (lv_at hl 1 rfl) ?_
  refine b_leF (tgt := 10) S dX4_leftOver_1 (by decide) (by omega) (by omega) ?_
  refine lv_iload_n hx hb dX4_leftOver_4 rfl (lv_at hl 0 rfl) ?_
  refine lv_iload_n hx hb dX4_leftOver_5 rfl (lv_at hl 1 rfl) ?_
  refine w_irem S (by omega) (by omega) dX4_leftOver_6 ?_
  refine lv_goto (tgt := 11) hx hb dX4_leftOver_7 (by decide) ?_
  exact hret _ _ _ dX4_leftOver_11 rfl
end
section
set_option maxHeartbeats 4000000 in
set_option maxRecDepth 100000 in
theorem c_read (lc : Launch) (D : va_G) (cI cZ : ClassId) (N : Nat) (k : Nat) (kn : Nat) (nb : Nat → Int) (l : Nat) (w : Nat) (hw : l * 6 + w < 24) : CR lc D cI cZ N yX1_read wsX1_read (rmK 0 0) [.ref k, .int (iI (((l : Nat) : Int))), .int (iI (((w : Nat) : Int)))] [(k, .inr (1, [.ref kn])), (kn, .inl (cI, 24, .inl (vI nb)))] (some (.int (iI (nb (l * 6 + w))))) := by
  refine CR.I (cc := cX1_read) (maxL := 3) (by decide) rfl (Nat.le_of_ble_eq_true rfl) ?_
  intro p e s m args below meth c R Q S hE A hAN hfr hlo hP hD hS hret ls hl
  have S : CallFix p m c cX1_read 3 s args wsX1_read RX1 := S
  have hx := S.1
  have hb := S.2.1
  have hl : lv_has ls 3 [(0, .ref k), (1, .int (iI (((l : Nat) : Int)))), (2, .int (iI (((w : Nat) : Int))))] := hl
  refine lv_aload_n hx hb dX1_read_0 rfl (lv_at hl 0 rfl) ?_
  refine w_get (C := RX1) (T := TX1) (Nf := 1) (ci := 1) (v := .ref kn) S (fun _ h => List.mem_cons_of_mem _ (List.mem_append_right _ h)) hE hP 0 rfl rfl 0 (by decide) (List.mem_of_getElem? (i := 1) rfl) rfl dX1_read_1 ?_
  refine lv_iload_n hx hb dX1_read_4 rfl (lv_at hl 1 rfl) ?_
  refine lv_bipush (v := iI (6)) hx hb dX1_read_5 (by decide) ?_
  refine w_imul S dX1_read_7 ?_
  refine lv_iload_n hx hb dX1_read_8 rfl (lv_at hl 2 rfl) ?_
  refine w_iadd S dX1_read_9 ?_
  refine w_iald S hE hP 1 rfl ((l * 6) + w) (by omega) (by omega) (by omega) dX1_read_10 ?_
  exact hret _ _ _ dX1_read_11 (congrArg iI (by omega))
set_option maxHeartbeats 4000000 in
set_option maxRecDepth 100000 in
theorem c_write (lc : Launch) (D : va_G) (cI cZ : ClassId) (N : Nat) (k : Nat) (kn : Nat) (nb : Nat → Int) (l : Nat) (w : Nat) (v : Int) (hw : l * 6 + w < 24) : CM lc D cI cZ N yX1_write wsX1_write (rmK 0 0) [.ref k, .int (iI (((l : Nat) : Int))), .int (iI (((w : Nat) : Int))), .int (iI (v))] [(k, .inr (1, [.ref kn])), (kn, .inl (cI, 24, .inl (vI nb)))] none [(k, .inr (1, [.ref kn])), (kn, .inl (cI, 24, .inl (vI (updI nb (l * 6 + w) v))))] := by
  refine CM.V (cc := cX1_write) (maxL := 4) (by decide) rfl (Nat.le_of_ble_eq_true rfl) ?_
  intro p e s m args below meth c R Q S hE A hAN hfr hlo hP hD hS hret ls hl
  have S : CallFix p m c cX1_write 4 s args wsX1_write RX1 := S
  have hx := S.1
  have hb := S.2.1
  have hl : lv_has ls 4 [(0, .ref k), (1, .int (iI (((l : Nat) : Int)))), (2, .int (iI (((w : Nat) : Int)))), (3, .int (iI (v)))] := hl
  refine lv_aload_n hx hb dX1_write_0 rfl (lv_at hl 0 rfl) ?_
  refine w_get (C := RX1) (T := TX1) (Nf := 1) (ci := 1) (v := .ref kn) S (fun _ h => List.mem_cons_of_mem _ (List.mem_append_right _ h)) hE hP 0 rfl rfl 0 (by decide) (List.mem_of_getElem? (i := 1) rfl) rfl dX1_write_1 ?_
  refine lv_iload_n hx hb dX1_write_4 rfl (lv_at hl 1 rfl) ?_
  refine lv_bipush (v := iI (6)) hx hb dX1_write_5 (by decide) ?_
  refine w_imul S dX1_write_7 ?_
  refine lv_iload_n hx hb dX1_write_8 rfl (lv_at hl 2 rfl) ?_
  refine w_iadd S dX1_write_9 ?_
  refine lv_iload_n hx hb dX1_write_10 rfl (lv_at hl 3 rfl) ?_
  refine w_iast S hE hP hD hS 1 rfl ((l * 6) + w) (by omega) (by omega) (by omega) dX1_write_11 (fun H locs hP hD hS => ?_)
  have hP : va_P D vwCl [(k, .inr (1, [.ref kn])), (kn, .inl (cI, 24, .inl (vI (updI nb ((l * 6) + w) v))))] H := hP
  have hD : va_D A [(k, .inr (1, [.ref kn])), (kn, .inl (cI, 24, .inl (vI (updI nb ((l * 6) + w) v))))] := hD
  exact hret _ _ _ _ dX1_write_12 hP hS
set_option maxHeartbeats 4000000 in
set_option maxRecDepth 100000 in
theorem c_ticksThere (lc : Launch) (D : va_G) (cI cZ : ClassId) (N : Nat) (k : Nat) (kn : Nat) (nb : Nat → Int) (l : Nat) (t : Int) (hnb : ∀ k, k < 24 → 0 ≤ nb k ∧ nb k ≤ 20) (hl4 : l < 4) (ht : 0 ≤ t ∧ t ≤ 100000000) : CR lc D cI cZ N yX1_ticksThere wsX1_ticksThere (rmK 1 22) [.ref k, .int (iI (((l : Nat) : Int))), .int (iI (t))] [(k, .inr (1, [.ref kn])), (kn, .inl (cI, 24, .inl (vI nb)))] (some (.int (iI (tkT nb l t)))) := by
  refine CR.I (cc := cX1_ticksThere) (maxL := 3) (by decide) rfl (Nat.le_of_ble_eq_true rfl) ?_
  intro p e s m args below meth c R Q S hE A hAN hfr hlo hP hD hS hret ls hl
  have S : CallFix p m c cX1_ticksThere 3 s args wsX1_ticksThere RX1 := S
  have hx := S.1
  have hb := S.2.1
  have hl : lv_has ls 3 [(0, .ref k), (1, .int (iI (((l : Nat) : Int)))), (2, .int (iI (t)))] := hl
  refine lv_aload_n hx hb dX1_ticksThere_0 rfl (lv_at hl 0 rfl) ?_
  refine lv_iload_n hx hb dX1_ticksThere_1 rfl (lv_at hl 1 rfl) ?_
  refine lv_iconst (v := iI (0)) hx hb dX1_ticksThere_2 rfl ?_
  refine kV_R (n := 2) (ci := 1) (q := (RX1, TX1, 1)) S (c_read lc D cI cZ N k kn nb l 0 (by omega)) gX1_ticksThere_X1_read rfl rfl (by decide +kernel) rfl rfl ⟨Nat.le_trans (Nat.le_of_ble_eq_true rfl) hfr, Nat.le_trans (Nat.le_of_ble_eq_true rfl) hlo⟩ hE hAN hP hD hS [0, 1] rfl (by decide) rfl rfl rfl rfl hl.1 [] rfl (Nat.le_of_ble_eq_true rfl) dX1_ticksThere_3 ⟨Nat.zero_le _, Nat.zero_le _⟩ ?_
  refine W.eq (g2 := F0 m 6 ls [.int (iI (nb (l * 6 + 0)))]) rfl ?_
  refine lv_iload_n hx hb dX1_ticksThere_6 rfl (lv_at hl 2 rfl) ?_
  refine lv_aload_n hx hb dX1_ticksThere_7 rfl (lv_at hl 0 rfl) ?_
  refine lv_iload_n hx hb dX1_ticksThere_8 rfl (lv_at hl 1 rfl) ?_
  refine lv_iconst (v := iI (1)) hx hb dX1_ticksThere_9 rfl ?_
  refine kV_R (n := 2) (ci := 1) (q := (RX1, TX1, 1)) S (c_read lc D cI cZ N k kn nb l 1 (by omega)) gX1_ticksThere_X1_read rfl rfl (by decide +kernel) rfl rfl ⟨Nat.le_trans (Nat.le_of_ble_eq_true rfl) hfr, Nat.le_trans (Nat.le_of_ble_eq_true rfl) hlo⟩ hE hAN hP hD hS [0, 1] rfl (by decide) rfl rfl rfl rfl hl.1 [.int (iI (t)), .int (iI (nb (l * 6 + 0)))] rfl (Nat.le_of_ble_eq_true rfl) dX1_ticksThere_10 ⟨Nat.zero_le _, Nat.zero_le _⟩ ?_
  refine W.eq (g2 := F0 m 13 ls [.int (iI (nb (l * 6 + 1))), .int (iI (t)), .int (iI (nb (l * 6 + 0)))]) rfl ?_
  have h2 := hnb (l * 6 + 1) (by omega)
  refine lv_iconst (v := iI (1)) hx hb dX1_ticksThere_13 rfl ?_
  refine w_iadd S dX1_ticksThere_14 ?_
  refine kN_R (n := 2) S (c_leftOver lc D cI cZ N t ((nb (l * 6 + 1)) + 1) (by omega) (by omega)) gX1_ticksThere_X4_leftOver_n28 hE.2.2.1.2.2.1 (List.mem_of_getElem? (i := 8) rfl) (List.mem_of_getElem? (i := 7) rfl) rfl (by decide +kernel) rfl rfl ⟨Nat.le_trans (Nat.le_of_ble_eq_true rfl) hfr, Nat.le_trans (Nat.le_of_ble_eq_true rfl) hlo⟩ hE hAN hP hD hS [] rfl (by decide) rfl hl.1 [.int (iI (nb (l * 6 + 0)))] rfl (Nat.le_of_ble_eq_true rfl) dX1_ticksThere_15 ⟨Nat.zero_le _, Nat.zero_le _⟩ ?_
  refine W.eq (g2 := F0 m 18 ls [.int (iI (t.tmod ((nb (l * 6 + 1)) + 1))), .int (iI (nb (l * 6 + 0)))]) rfl ?_
  refine w_iadd S dX1_ticksThere_18 ?_
  exact hret _ _ _ dX1_ticksThere_19 rfl
set_option maxHeartbeats 4000000 in
set_option maxRecDepth 100000 in
theorem c_ticksBack (lc : Launch) (D : va_G) (cI cZ : ClassId) (N : Nat) (k : Nat) (kn : Nat) (nb : Nat → Int) (l : Nat) (t : Int) (hnb : ∀ k, k < 24 → 0 ≤ nb k ∧ nb k ≤ 20) (hl4 : l < 4) (ht : 0 ≤ t ∧ t ≤ 100000000) : CR lc D cI cZ N yX1_ticksBack wsX1_ticksBack (rmK 1 22) [.ref k, .int (iI (((l : Nat) : Int))), .int (iI (t))] [(k, .inr (1, [.ref kn])), (kn, .inl (cI, 24, .inl (vI nb)))] (some (.int (iI (tkB nb l t)))) := by
  refine CR.I (cc := cX1_ticksBack) (maxL := 3) (by decide) rfl (Nat.le_of_ble_eq_true rfl) ?_
  intro p e s m args below meth c R Q S hE A hAN hfr hlo hP hD hS hret ls hl
  have S : CallFix p m c cX1_ticksBack 3 s args wsX1_ticksBack RX1 := S
  have hx := S.1
  have hb := S.2.1
  have hl : lv_has ls 3 [(0, .ref k), (1, .int (iI (((l : Nat) : Int)))), (2, .int (iI (t)))] := hl
  refine lv_aload_n hx hb dX1_ticksBack_0 rfl (lv_at hl 0 rfl) ?_
  refine lv_iload_n hx hb dX1_ticksBack_1 rfl (lv_at hl 1 rfl) ?_
  refine lv_iconst (v := iI (2)) hx hb dX1_ticksBack_2 rfl ?_
  refine kV_R (n := 2) (ci := 1) (q := (RX1, TX1, 1)) S (c_read lc D cI cZ N k kn nb l 2 (by omega)) gX1_ticksBack_X1_read rfl rfl (by decide +kernel) rfl rfl ⟨Nat.le_trans (Nat.le_of_ble_eq_true rfl) hfr, Nat.le_trans (Nat.le_of_ble_eq_true rfl) hlo⟩ hE hAN hP hD hS [0, 1] rfl (by decide) rfl rfl rfl rfl hl.1 [] rfl (Nat.le_of_ble_eq_true rfl) dX1_ticksBack_3 ⟨Nat.zero_le _, Nat.zero_le _⟩ ?_
  refine W.eq (g2 := F0 m 6 ls [.int (iI (nb (l * 6 + 2)))]) rfl ?_
  refine lv_iload_n hx hb dX1_ticksBack_6 rfl (lv_at hl 2 rfl) ?_
  refine lv_aload_n hx hb dX1_ticksBack_7 rfl (lv_at hl 0 rfl) ?_
  refine lv_iload_n hx hb dX1_ticksBack_8 rfl (lv_at hl 1 rfl) ?_
  refine lv_iconst (v := iI (3)) hx hb dX1_ticksBack_9 rfl ?_
  refine kV_R (n := 2) (ci := 1) (q := (RX1, TX1, 1)) S (c_read lc D cI cZ N k kn nb l 3 (by omega)) gX1_ticksBack_X1_read rfl rfl (by decide +kernel) rfl rfl ⟨Nat.le_trans (Nat.le_of_ble_eq_true rfl) hfr, Nat.le_trans (Nat.le_of_ble_eq_true rfl) hlo⟩ hE hAN hP hD hS [0, 1] rfl (by decide) rfl rfl rfl rfl hl.1 [.int (iI (t)), .int (iI (nb (l * 6 + 2)))] rfl (Nat.le_of_ble_eq_true rfl) dX1_ticksBack_10 ⟨Nat.zero_le _, Nat.zero_le _⟩ ?_
  refine W.eq (g2 := F0 m 13 ls [.int (iI (nb (l * 6 + 3))), .int (iI (t)), .int (iI (nb (l * 6 + 2)))]) rfl ?_
  have h2 := hnb (l * 6 + 3) (by omega)
  refine lv_iconst (v := iI (1)) hx hb dX1_ticksBack_13 rfl ?_
  refine w_iadd S dX1_ticksBack_14 ?_
  refine kN_R (n := 2) S (c_leftOver lc D cI cZ N t ((nb (l * 6 + 3)) + 1) (by omega) (by omega)) gX1_ticksBack_X4_leftOver_n28 hE.2.2.1.2.2.1 (List.mem_of_getElem? (i := 8) rfl) (List.mem_of_getElem? (i := 7) rfl) rfl (by decide +kernel) rfl rfl ⟨Nat.le_trans (Nat.le_of_ble_eq_true rfl) hfr, Nat.le_trans (Nat.le_of_ble_eq_true rfl) hlo⟩ hE hAN hP hD hS [] rfl (by decide) rfl hl.1 [.int (iI (nb (l * 6 + 2)))] rfl (Nat.le_of_ble_eq_true rfl) dX1_ticksBack_15 ⟨Nat.zero_le _, Nat.zero_le _⟩ ?_
  refine W.eq (g2 := F0 m 18 ls [.int (iI (t.tmod ((nb (l * 6 + 3)) + 1))), .int (iI (nb (l * 6 + 2)))]) rfl ?_
  refine w_iadd S dX1_ticksBack_18 ?_
  exact hret _ _ _ dX1_ticksBack_19 rfl
set_option maxHeartbeats 4000000 in
set_option maxRecDepth 100000 in
theorem c_drops_T (lc : Launch) (D : va_G) (cI cZ : ClassId) (N : Nat) (k : Nat) (kn : Nat) (nb : Nat → Int) (l : Nat) (x : Int) (hnb : ∀ k, k < 24 → 0 ≤ nb k ∧ nb k ≤ 20) (hl4 : l < 4) (hx0 : -100000000 ≤ x ∧ x ≤ 100000000) (h : drp nb l x) : CR lc D cI cZ N yX1_drops wsX1_drops (rmK 1 22) [.ref k, .int (iI (((l : Nat) : Int))), .int (iI (x))] [(k, .inr (1, [.ref kn])), (kn, .inl (cI, 24, .inl (vI nb)))] (some (.int (iI (1)))) := by
  refine CR.Z (cc := cX1_drops) (maxL := 4) (by decide) rfl (Nat.le_of_ble_eq_true rfl) ?_
  intro p e s m args below meth c R Q S hE A hAN hfr hlo hP hD hS hret ls hl
  have S : CallFix p m c cX1_drops 4 s args wsX1_drops RX1 := S
  have hx := S.1
  have hb := S.2.1
  have hl : lv_has ls 4 [(0, .ref k), (1, .int (iI (((l : Nat) : Int)))), (2, .int (iI (x)))] := hl
  have h4 := hnb (l * 6 + 4) (by omega)
  have h5 := hnb (l * 6 + 5) (by omega)
  have h6 := h.1
  refine lv_aload_n hx hb dX1_drops_0 rfl (lv_at hl 0 rfl) ?_
  refine lv_iload_n hx hb dX1_drops_1 rfl (lv_at hl 1 rfl) ?_
  refine lv_iconst (v := iI (4)) hx hb dX1_drops_2 rfl ?_
  refine kV_R (n := 2) (ci := 1) (q := (RX1, TX1, 1)) S (c_read lc D cI cZ N k kn nb l 4 (by omega)) gX1_drops_X1_read rfl rfl (by decide +kernel) rfl rfl ⟨Nat.le_trans (Nat.le_of_ble_eq_true rfl) hfr, Nat.le_trans (Nat.le_of_ble_eq_true rfl) hlo⟩ hE hAN hP hD hS [0, 1] rfl (by decide) rfl rfl rfl rfl hl.1 [] rfl (Nat.le_of_ble_eq_true rfl) dX1_drops_3 ⟨Nat.zero_le _, Nat.zero_le _⟩ ?_
  refine W.eq (g2 := F0 m 6 ls [.int (iI (nb (l * 6 + 4)))]) rfl ?_
  refine lv_istore_n (lv' := [(3, .int (iI (nb (l * 6 + 4)))), (0, .ref k), (1, .int (iI (((l : Nat) : Int)))), (2, .int (iI (x)))]) hx hb dX1_drops_6 rfl hl (by decide) rfl (fun ls hl => ?_)
  refine lv_iload_n hx hb dX1_drops_7 rfl (lv_at hl 0 rfl) ?_
  refine b_leF (tgt := 27) S dX1_drops_8 (by decide) (by omega) (by omega) ?_
  refine lv_iload_n hx hb dX1_drops_11 rfl (lv_at hl 3 rfl) ?_
  refine lv_iload_n hx hb dX1_drops_12 rfl (lv_at hl 0 rfl) ?_
  refine w_irem S (by omega) (by omega) dX1_drops_13 ?_
  refine lv_aload_n hx hb dX1_drops_14 rfl (lv_at hl 1 rfl) ?_
  refine lv_iload_n hx hb dX1_drops_15 rfl (lv_at hl 2 rfl) ?_
  refine lv_iconst (v := iI (5)) hx hb dX1_drops_16 rfl ?_
  refine kV_R (n := 2) (ci := 1) (q := (RX1, TX1, 1)) S (c_read lc D cI cZ N k kn nb l 5 (by omega)) gX1_drops_X1_read rfl rfl (by decide +kernel) rfl rfl ⟨Nat.le_trans (Nat.le_of_ble_eq_true rfl) hfr, Nat.le_trans (Nat.le_of_ble_eq_true rfl) hlo⟩ hE hAN hP hD hS [0, 1] rfl (by decide) rfl rfl rfl rfl hl.1 [.int (iI (x.tmod (nb (l * 6 + 4))))] rfl (Nat.le_of_ble_eq_true rfl) dX1_drops_17 ⟨Nat.zero_le _, Nat.zero_le _⟩ ?_
  refine W.eq (g2 := F0 m 20 ls [.int (iI (nb (l * 6 + 5))), .int (iI (x.tmod (nb (l * 6 + 4))))]) rfl ?_
  refine c_neF (tgt := 27) S dX1_drops_20 (by decide) h.2 ?_
  refine lv_iconst (v := iI (1)) hx hb dX1_drops_23 rfl ?_
  refine lv_goto (tgt := 28) hx hb dX1_drops_24 (by decide) ?_
  exact hret _ _ _ dX1_drops_28 rfl (Or.inr rfl)
set_option maxHeartbeats 4000000 in
set_option maxRecDepth 100000 in
theorem c_drops_F (lc : Launch) (D : va_G) (cI cZ : ClassId) (N : Nat) (k : Nat) (kn : Nat) (nb : Nat → Int) (l : Nat) (x : Int) (hnb : ∀ k, k < 24 → 0 ≤ nb k ∧ nb k ≤ 20) (hl4 : l < 4) (hx0 : -100000000 ≤ x ∧ x ≤ 100000000) (h : ¬ drp nb l x) : CR lc D cI cZ N yX1_drops wsX1_drops (rmK 1 22) [.ref k, .int (iI (((l : Nat) : Int))), .int (iI (x))] [(k, .inr (1, [.ref kn])), (kn, .inl (cI, 24, .inl (vI nb)))] (some (.int (iI (0)))) := by
  refine CR.Z (cc := cX1_drops) (maxL := 4) (by decide) rfl (Nat.le_of_ble_eq_true rfl) ?_
  intro p e s m args below meth c R Q S hE A hAN hfr hlo hP hD hS hret ls hl
  have S : CallFix p m c cX1_drops 4 s args wsX1_drops RX1 := S
  have hx := S.1
  have hb := S.2.1
  have hl : lv_has ls 4 [(0, .ref k), (1, .int (iI (((l : Nat) : Int)))), (2, .int (iI (x)))] := hl
  have h4 := hnb (l * 6 + 4) (by omega)
  have h5 := hnb (l * 6 + 5) (by omega)
  by_cases h6 : 0 < nb (l * 6 + 4)
  · refine lv_aload_n hx hb dX1_drops_0 rfl (lv_at hl 0 rfl) ?_
    refine lv_iload_n hx hb dX1_drops_1 rfl (lv_at hl 1 rfl) ?_
    refine lv_iconst (v := iI (4)) hx hb dX1_drops_2 rfl ?_
    refine kV_R (n := 2) (ci := 1) (q := (RX1, TX1, 1)) S (c_read lc D cI cZ N k kn nb l 4 (by omega)) gX1_drops_X1_read rfl rfl (by decide +kernel) rfl rfl ⟨Nat.le_trans (Nat.le_of_ble_eq_true rfl) hfr, Nat.le_trans (Nat.le_of_ble_eq_true rfl) hlo⟩ hE hAN hP hD hS [0, 1] rfl (by decide) rfl rfl rfl rfl hl.1 [] rfl (Nat.le_of_ble_eq_true rfl) dX1_drops_3 ⟨Nat.zero_le _, Nat.zero_le _⟩ ?_
    refine W.eq (g2 := F0 m 6 ls [.int (iI (nb (l * 6 + 4)))]) rfl ?_
    refine lv_istore_n (lv' := [(3, .int (iI (nb (l * 6 + 4)))), (0, .ref k), (1, .int (iI (((l : Nat) : Int)))), (2, .int (iI (x)))]) hx hb dX1_drops_6 rfl hl (by decide) rfl (fun ls hl => ?_)
    refine lv_iload_n hx hb dX1_drops_7 rfl (lv_at hl 0 rfl) ?_
    refine b_leF (tgt := 27) S dX1_drops_8 (by decide) (by omega) (by omega) ?_
    refine lv_iload_n hx hb dX1_drops_11 rfl (lv_at hl 3 rfl) ?_
    refine lv_iload_n hx hb dX1_drops_12 rfl (lv_at hl 0 rfl) ?_
    refine w_irem S (by omega) (by omega) dX1_drops_13 ?_
    have h7 := tmod_rngZ (t := x) h6
    refine lv_aload_n hx hb dX1_drops_14 rfl (lv_at hl 1 rfl) ?_
    refine lv_iload_n hx hb dX1_drops_15 rfl (lv_at hl 2 rfl) ?_
    refine lv_iconst (v := iI (5)) hx hb dX1_drops_16 rfl ?_
    refine kV_R (n := 2) (ci := 1) (q := (RX1, TX1, 1)) S (c_read lc D cI cZ N k kn nb l 5 (by omega)) gX1_drops_X1_read rfl rfl (by decide +kernel) rfl rfl ⟨Nat.le_trans (Nat.le_of_ble_eq_true rfl) hfr, Nat.le_trans (Nat.le_of_ble_eq_true rfl) hlo⟩ hE hAN hP hD hS [0, 1] rfl (by decide) rfl rfl rfl rfl hl.1 [.int (iI (x.tmod (nb (l * 6 + 4))))] rfl (Nat.le_of_ble_eq_true rfl) dX1_drops_17 ⟨Nat.zero_le _, Nat.zero_le _⟩ ?_
    refine W.eq (g2 := F0 m 20 ls [.int (iI (nb (l * 6 + 5))), .int (iI (x.tmod (nb (l * 6 + 4))))]) rfl ?_
    refine c_neT (tgt := 27) S dX1_drops_20 (by decide) (by omega) (by omega) (fun q => h ⟨h6, q⟩) ?_
    refine lv_iconst (v := iI (0)) hx hb dX1_drops_27 rfl ?_
    exact hret _ _ _ dX1_drops_28 rfl (Or.inl rfl)
  · refine lv_aload_n hx hb dX1_drops_0 rfl (lv_at hl 0 rfl) ?_
    refine lv_iload_n hx hb dX1_drops_1 rfl (lv_at hl 1 rfl) ?_
    refine lv_iconst (v := iI (4)) hx hb dX1_drops_2 rfl ?_
    refine kV_R (n := 2) (ci := 1) (q := (RX1, TX1, 1)) S (c_read lc D cI cZ N k kn nb l 4 (by omega)) gX1_drops_X1_read rfl rfl (by decide +kernel) rfl rfl ⟨Nat.le_trans (Nat.le_of_ble_eq_true rfl) hfr, Nat.le_trans (Nat.le_of_ble_eq_true rfl) hlo⟩ hE hAN hP hD hS [0, 1] rfl (by decide) rfl rfl rfl rfl hl.1 [] rfl (Nat.le_of_ble_eq_true rfl) dX1_drops_3 ⟨Nat.zero_le _, Nat.zero_le _⟩ ?_
    refine W.eq (g2 := F0 m 6 ls [.int (iI (nb (l * 6 + 4)))]) rfl ?_
    refine lv_istore_n (lv' := [(3, .int (iI (nb (l * 6 + 4)))), (0, .ref k), (1, .int (iI (((l : Nat) : Int)))), (2, .int (iI (x)))]) hx hb dX1_drops_6 rfl hl (by decide) rfl (fun ls hl => ?_)
    refine lv_iload_n hx hb dX1_drops_7 rfl (lv_at hl 0 rfl) ?_
    refine b_leT (tgt := 27) S dX1_drops_8 (by decide) (by omega) (by omega) ?_
    refine lv_iconst (v := iI (0)) hx hb dX1_drops_27 rfl ?_
    exact hret _ _ _ dX1_drops_28 rfl (Or.inl rfl)
set_option maxHeartbeats 4000000 in
set_option maxRecDepth 100000 in
theorem c_X1_copyFrom (lc : Launch) (D : va_G) (cI cZ : ClassId) (N : Nat) (k : Nat) (kn : Nat) (nb : Nat → Int) (k2 : Nat) (kn2 : Nat) (nb2 : Nat → Int)  : CM lc D cI cZ N yX1_copyFrom wsX1_copyFrom (rmK 1 26) [.ref k, .ref k2] [(k, .inr (1, [.ref kn])), (kn, .inl (cI, 24, .inl (vI nb))), (k2, .inr (1, [.ref kn2])), (kn2, .inl (cI, 24, .inl (vI nb2)))] none [(k, .inr (1, [.ref kn])), (kn, .inl (cI, 24, .inl (vI nb2))), (k2, .inr (1, [.ref kn2])), (kn2, .inl (cI, 24, .inl (vI nb2)))] := by
  refine CM.V (cc := cX1_copyFrom) (maxL := 2) (by decide) rfl (Nat.le_of_ble_eq_true rfl) ?_
  intro p e s m args below meth c R Q S hE A hAN hfr hlo hP hD hS hret ls hl
  have S : CallFix p m c cX1_copyFrom 2 s args wsX1_copyFrom RX1 := S
  have hx := S.1
  have hb := S.2.1
  have hl : lv_has ls 2 [(0, .ref k), (1, .ref k2)] := hl
  refine lv_aload_n hx hb dX1_copyFrom_0 rfl (lv_at hl 1 rfl) ?_
  refine w_get (C := RX1) (T := TX1) (Nf := 1) (ci := 1) (v := .ref kn2) S (fun _ h => List.mem_cons_of_mem _ (List.mem_append_right _ h)) hE hP 2 rfl rfl 0 (by decide) (List.mem_of_getElem? (i := 1) rfl) rfl dX1_copyFrom_1 ?_
  refine lv_iconst (v := iI (0)) hx hb dX1_copyFrom_4 rfl ?_
  refine lv_aload_n hx hb dX1_copyFrom_5 rfl (lv_at hl 0 rfl) ?_
  refine w_get (C := RX1) (T := TX1) (Nf := 1) (ci := 1) (v := .ref kn) S (fun _ h => List.mem_cons_of_mem _ (List.mem_append_right _ h)) hE hP 0 rfl rfl 0 (by decide) (List.mem_of_getElem? (i := 1) rfl) rfl dX1_copyFrom_6 ?_
  refine lv_iconst (v := iI (0)) hx hb dX1_copyFrom_9 rfl ?_
  refine lv_aload_n hx hb dX1_copyFrom_10 rfl (lv_at hl 0 rfl) ?_
  refine w_get (C := RX1) (T := TX1) (Nf := 1) (ci := 1) (v := .ref kn) S (fun _ h => List.mem_cons_of_mem _ (List.mem_append_right _ h)) hE hP 0 rfl rfl 0 (by decide) (List.mem_of_getElem? (i := 1) rfl) rfl dX1_copyFrom_11 ?_
  refine w_alen S hE hP 1 rfl dX1_copyFrom_14 ?_
  refine w_copy S hE hl.1 (List.mem_of_getElem? (i := 2) rfl) (List.mem_of_getElem? (i := 3) rfl) (List.mem_of_getElem? (i := 4) rfl) (List.mem_of_getElem? (i := 5) rfl) (Nat.le_trans (Nat.le_of_ble_eq_true rfl) hfr) (Nat.le_trans (Nat.le_of_ble_eq_true rfl) hlo) (Nat.le_of_ble_eq_true rfl) hP hD hS 3 1 rfl rfl (by decide) (by omega) dX1_copyFrom_15 (fun H locs hP hD hS => ?_)
  have hP : va_P D vwCl [(k, .inr (1, [.ref kn])), (kn, .inl (cI, 24, .inl (vI nb2))), (k2, .inr (1, [.ref kn2])), (kn2, .inl (cI, 24, .inl (vI nb2)))] H := hP
  have hD : va_D A [(k, .inr (1, [.ref kn])), (kn, .inl (cI, 24, .inl (vI nb2))), (k2, .inr (1, [.ref kn2])), (kn2, .inl (cI, 24, .inl (vI nb2)))] := hD
  exact hret _ _ _ _ dX1_copyFrom_18 hP hS
end
section
set_option maxHeartbeats 4000000 in
set_option maxRecDepth 100000 in
theorem c_X2_cell (lc : Launch) (D : va_G) (cI cZ : ClassId) (N : Nat) (x : Int) (y : Int)  : CR lc D cI cZ N yX2_cell wsX2_cell (rmK 0 0) [.int (iI (x)), .int (iI (y))] [] (some (.int (iI (x * 200 + y)))) := by
  refine CR.I (cc := cX2_cell) (maxL := 2) (by decide) rfl (Nat.le_of_ble_eq_true rfl) ?_
  intro p e s m args below meth c R Q S hE A hAN hfr hlo hP hD hS hret ls hl
  have S : CallFix p m c cX2_cell 2 s args wsX2_cell RX2 := S
  have hx := S.1
  have hb := S.2.1
  have hl : lv_has ls 2 [(0, .int (iI (x))), (1, .int (iI (y)))] := hl
  refine lv_iload_n hx hb dX2_cell_0 rfl (lv_at hl 0 rfl) ?_
  refine lv_sipush (v := iI (200)) hx hb dX2_cell_1 (by decide) ?_
  refine w_imul S dX2_cell_4 ?_
  refine lv_iload_n hx hb dX2_cell_5 rfl (lv_at hl 1 rfl) ?_
  refine w_iadd S dX2_cell_6 ?_
  exact hret _ _ _ dX2_cell_7 (congrArg iI (by omega))
set_option maxHeartbeats 4000000 in
set_option maxRecDepth 100000 in
theorem c_countOf (lc : Launch) (D : va_G) (cI cZ : ClassId) (N : Nat) (t : Nat) (tc : Nat) (ts : Nat) (cn : Nat → Int) (sm : Nat → Int) (n : Nat) (b : Nat) (hn : n < 5) (hb2 : b < 200) : CR lc D cI cZ N yX2_countOf wsX2_countOf (rmK 1 21) [.ref t, .int (iI (((n : Nat) : Int))), .int (iI (((b : Nat) : Int)))] [(t, .inr (2, [.ref tc, .ref ts])), (tc, .inl (cI, 1000, .inl (vI cn))), (ts, .inl (cI, 1000, .inl (vI sm)))] (some (.int (iI (cn (n * 200 + b))))) := by
  refine CR.I (cc := cX2_countOf) (maxL := 3) (by decide) rfl (Nat.le_of_ble_eq_true rfl) ?_
  intro p e s m args below meth c R Q S hE A hAN hfr hlo hP hD hS hret ls hl
  have S : CallFix p m c cX2_countOf 3 s args wsX2_countOf RX2 := S
  have hx := S.1
  have hb := S.2.1
  have hl : lv_has ls 3 [(0, .ref t), (1, .int (iI (((n : Nat) : Int)))), (2, .int (iI (((b : Nat) : Int))))] := hl
  refine lv_aload_n hx hb dX2_countOf_0 rfl (lv_at hl 0 rfl) ?_
  refine w_get (C := RX2) (T := TX2) (Nf := 2) (ci := 2) (v := .ref tc) S (fun _ h => List.mem_cons_of_mem _ (List.mem_append_right _ h)) hE hP 0 rfl rfl 0 (by decide) (List.mem_of_getElem? (i := 1) rfl) rfl dX2_countOf_1 ?_
  refine lv_iload_n hx hb dX2_countOf_4 rfl (lv_at hl 1 rfl) ?_
  refine lv_iload_n hx hb dX2_countOf_5 rfl (lv_at hl 2 rfl) ?_
  refine kS_R (n := 2) S (c_X2_cell lc D cI cZ N ((n : Nat) : Int) ((b : Nat) : Int) ) gX2_countOf_X2_cell rfl (by decide +kernel) rfl rfl ⟨Nat.le_trans (Nat.le_of_ble_eq_true rfl) hfr, Nat.le_trans (Nat.le_of_ble_eq_true rfl) hlo⟩ hE hAN hP hD hS [] rfl (by decide) rfl hl.1 [.ref tc] rfl (Nat.le_of_ble_eq_true rfl) dX2_countOf_6 ⟨Nat.zero_le _, Nat.zero_le _⟩ ?_
  refine W.eq (g2 := F0 m 9 ls [.int (iI (((n : Nat) : Int) * 200 + ((b : Nat) : Int))), .ref tc]) rfl ?_
  refine w_iald S hE hP 1 rfl (n * 200 + b) (by omega) (by omega) (by omega) dX2_countOf_9 ?_
  exact hret _ _ _ dX2_countOf_10 rfl
set_option maxHeartbeats 4000000 in
set_option maxRecDepth 100000 in
theorem c_sumOf (lc : Launch) (D : va_G) (cI cZ : ClassId) (N : Nat) (t : Nat) (tc : Nat) (ts : Nat) (cn : Nat → Int) (sm : Nat → Int) (n : Nat) (b : Nat) (hn : n < 5) (hb2 : b < 200) : CR lc D cI cZ N yX2_sumOf wsX2_sumOf (rmK 1 21) [.ref t, .int (iI (((n : Nat) : Int))), .int (iI (((b : Nat) : Int)))] [(t, .inr (2, [.ref tc, .ref ts])), (tc, .inl (cI, 1000, .inl (vI cn))), (ts, .inl (cI, 1000, .inl (vI sm)))] (some (.int (iI (sm (n * 200 + b))))) := by
  refine CR.I (cc := cX2_sumOf) (maxL := 3) (by decide) rfl (Nat.le_of_ble_eq_true rfl) ?_
  intro p e s m args below meth c R Q S hE A hAN hfr hlo hP hD hS hret ls hl
  have S : CallFix p m c cX2_sumOf 3 s args wsX2_sumOf RX2 := S
  have hx := S.1
  have hb := S.2.1
  have hl : lv_has ls 3 [(0, .ref t), (1, .int (iI (((n : Nat) : Int)))), (2, .int (iI (((b : Nat) : Int))))] := hl
  refine lv_aload_n hx hb dX2_sumOf_0 rfl (lv_at hl 0 rfl) ?_
  refine w_get (C := RX2) (T := TX2) (Nf := 2) (ci := 2) (v := .ref ts) S (fun _ h => List.mem_cons_of_mem _ (List.mem_append_right _ h)) hE hP 0 rfl rfl 1 (by decide) (List.mem_of_getElem? (i := 1) rfl) rfl dX2_sumOf_1 ?_
  refine lv_iload_n hx hb dX2_sumOf_4 rfl (lv_at hl 1 rfl) ?_
  refine lv_iload_n hx hb dX2_sumOf_5 rfl (lv_at hl 2 rfl) ?_
  refine kS_R (n := 2) S (c_X2_cell lc D cI cZ N ((n : Nat) : Int) ((b : Nat) : Int) ) gX2_sumOf_X2_cell rfl (by decide +kernel) rfl rfl ⟨Nat.le_trans (Nat.le_of_ble_eq_true rfl) hfr, Nat.le_trans (Nat.le_of_ble_eq_true rfl) hlo⟩ hE hAN hP hD hS [] rfl (by decide) rfl hl.1 [.ref ts] rfl (Nat.le_of_ble_eq_true rfl) dX2_sumOf_6 ⟨Nat.zero_le _, Nat.zero_le _⟩ ?_
  refine W.eq (g2 := F0 m 9 ls [.int (iI (((n : Nat) : Int) * 200 + ((b : Nat) : Int))), .ref ts]) rfl ?_
  refine w_iald S hE hP 2 rfl (n * 200 + b) (by omega) (by omega) (by omega) dX2_sumOf_9 ?_
  exact hret _ _ _ dX2_sumOf_10 rfl
set_option maxHeartbeats 4000000 in
set_option maxRecDepth 100000 in
theorem c_add (lc : Launch) (D : va_G) (cI cZ : ClassId) (N : Nat) (t : Nat) (tc : Nat) (ts : Nat) (cn : Nat → Int) (sm : Nat → Int) (n : Nat) (b : Nat) (x : Int) (hn : n < 5) (hb2 : b < 200) : CM lc D cI cZ N yX2_add wsX2_add (rmK 1 21) [.ref t, .int (iI (((n : Nat) : Int))), .int (iI (((b : Nat) : Int))), .int (iI (x))] [(t, .inr (2, [.ref tc, .ref ts])), (tc, .inl (cI, 1000, .inl (vI cn))), (ts, .inl (cI, 1000, .inl (vI sm)))] none [(t, .inr (2, [.ref tc, .ref ts])), (tc, .inl (cI, 1000, .inl (vI (updI cn (n * 200 + b) (cn (n * 200 + b) + 1))))), (ts, .inl (cI, 1000, .inl (vI (updI sm (n * 200 + b) (sm (n * 200 + b) + x)))))] := by
  refine CM.V (cc := cX2_add) (maxL := 4) (by decide) rfl (Nat.le_of_ble_eq_true rfl) ?_
  intro p e s m args below meth c R Q S hE A hAN hfr hlo hP hD hS hret ls hl
  have S : CallFix p m c cX2_add 4 s args wsX2_add RX2 := S
  have hx := S.1
  have hb := S.2.1
  have hl : lv_has ls 4 [(0, .ref t), (1, .int (iI (((n : Nat) : Int)))), (2, .int (iI (((b : Nat) : Int)))), (3, .int (iI (x)))] := hl
  refine lv_aload_n hx hb dX2_add_0 rfl (lv_at hl 0 rfl) ?_
  refine w_get (C := RX2) (T := TX2) (Nf := 2) (ci := 2) (v := .ref tc) S (fun _ h => List.mem_cons_of_mem _ (List.mem_append_right _ h)) hE hP 0 rfl rfl 0 (by decide) (List.mem_of_getElem? (i := 1) rfl) rfl dX2_add_1 ?_
  refine lv_iload_n hx hb dX2_add_4 rfl (lv_at hl 1 rfl) ?_
  refine lv_iload_n hx hb dX2_add_5 rfl (lv_at hl 2 rfl) ?_
  refine kS_R (n := 2) S (c_X2_cell lc D cI cZ N ((n : Nat) : Int) ((b : Nat) : Int) ) gX2_add_X2_cell rfl (by decide +kernel) rfl rfl ⟨Nat.le_trans (Nat.le_of_ble_eq_true rfl) hfr, Nat.le_trans (Nat.le_of_ble_eq_true rfl) hlo⟩ hE hAN hP hD hS [] rfl (by decide) rfl hl.1 [.ref tc] rfl (Nat.le_of_ble_eq_true rfl) dX2_add_6 ⟨Nat.zero_le _, Nat.zero_le _⟩ ?_
  refine W.eq (g2 := F0 m 9 ls [.int (iI (((n : Nat) : Int) * 200 + ((b : Nat) : Int))), .ref tc]) rfl ?_
  refine lv_dup2_11 hx hb dX2_add_9 rfl rfl ?_
  refine w_iald S hE hP 1 rfl (n * 200 + b) (by omega) (by omega) (by omega) dX2_add_10 ?_
  refine lv_iconst (v := iI (1)) hx hb dX2_add_11 rfl ?_
  refine w_iadd S dX2_add_12 ?_
  refine w_iast S hE hP hD hS 1 rfl (n * 200 + b) (by omega) (by omega) (by omega) dX2_add_13 (fun H locs hP hD hS => ?_)
  have hP : va_P D vwCl [(t, .inr (2, [.ref tc, .ref ts])), (tc, .inl (cI, 1000, .inl (vI (updI cn (n * 200 + b) ((cn (n * 200 + b)) + 1))))), (ts, .inl (cI, 1000, .inl (vI sm)))] H := hP
  have hD : va_D A [(t, .inr (2, [.ref tc, .ref ts])), (tc, .inl (cI, 1000, .inl (vI (updI cn (n * 200 + b) ((cn (n * 200 + b)) + 1))))), (ts, .inl (cI, 1000, .inl (vI sm)))] := hD
  refine lv_aload_n hx hb dX2_add_14 rfl (lv_at hl 0 rfl) ?_
  refine w_get (C := RX2) (T := TX2) (Nf := 2) (ci := 2) (v := .ref ts) S (fun _ h => List.mem_cons_of_mem _ (List.mem_append_right _ h)) hE hP 0 rfl rfl 1 (by decide) (List.mem_of_getElem? (i := 2) rfl) rfl dX2_add_15 ?_
  refine lv_iload_n hx hb dX2_add_18 rfl (lv_at hl 1 rfl) ?_
  refine lv_iload_n hx hb dX2_add_19 rfl (lv_at hl 2 rfl) ?_
  refine kS_R (n := 2) S (c_X2_cell lc D cI cZ N ((n : Nat) : Int) ((b : Nat) : Int) ) gX2_add_X2_cell rfl (by decide +kernel) rfl rfl ⟨Nat.le_trans (Nat.le_of_ble_eq_true rfl) hfr, Nat.le_trans (Nat.le_of_ble_eq_true rfl) hlo⟩ hE hAN hP hD hS [] rfl (by decide) rfl hl.1 [.ref ts] rfl (Nat.le_of_ble_eq_true rfl) dX2_add_20 ⟨Nat.zero_le _, Nat.zero_le _⟩ ?_
  refine W.eq (g2 := F0 m 23 ls [.int (iI (((n : Nat) : Int) * 200 + ((b : Nat) : Int))), .ref ts]) rfl ?_
  refine lv_dup2_11 hx hb dX2_add_23 rfl rfl ?_
  refine w_iald S hE hP 2 rfl (n * 200 + b) (by omega) (by omega) (by omega) dX2_add_24 ?_
  refine lv_iload_n hx hb dX2_add_25 rfl (lv_at hl 3 rfl) ?_
  refine w_iadd S dX2_add_26 ?_
  refine w_iast S hE hP hD hS 2 rfl (n * 200 + b) (by omega) (by omega) (by omega) dX2_add_27 (fun H locs hP hD hS => ?_)
  have hP : va_P D vwCl [(t, .inr (2, [.ref tc, .ref ts])), (tc, .inl (cI, 1000, .inl (vI (updI cn (n * 200 + b) ((cn (n * 200 + b)) + 1))))), (ts, .inl (cI, 1000, .inl (vI (updI sm (n * 200 + b) ((sm (n * 200 + b)) + x)))))] H := hP
  have hD : va_D A [(t, .inr (2, [.ref tc, .ref ts])), (tc, .inl (cI, 1000, .inl (vI (updI cn (n * 200 + b) ((cn (n * 200 + b)) + 1))))), (ts, .inl (cI, 1000, .inl (vI (updI sm (n * 200 + b) ((sm (n * 200 + b)) + x)))))] := hD
  exact hret _ _ _ _ dX2_add_28 hP hS
set_option maxHeartbeats 4000000 in
set_option maxRecDepth 100000 in
theorem c_lostBetween (lc : Launch) (D : va_G) (cI cZ : ClassId) (N : Nat) (t : Nat) (tc : Nat) (ts : Nat) (cn : Nat → Int) (sm : Nat → Int) (f : Nat) (g : Nat) (b : Nat) (hf : f < 5) (hg : g < 5) (hb2 : b < 200) : CR lc D cI cZ N yX2_lostBetween wsX2_lostBetween (rmK 2 43) [.ref t, .int (iI (((f : Nat) : Int))), .int (iI (((g : Nat) : Int))), .int (iI (((b : Nat) : Int)))] [(t, .inr (2, [.ref tc, .ref ts])), (tc, .inl (cI, 1000, .inl (vI cn))), (ts, .inl (cI, 1000, .inl (vI sm)))] (some (.int (iI (cn (f * 200 + b) - cn (g * 200 + b))))) := by
  refine CR.I (cc := cX2_lostBetween) (maxL := 4) (by decide) rfl (Nat.le_of_ble_eq_true rfl) ?_
  intro p e s m args below meth c R Q S hE A hAN hfr hlo hP hD hS hret ls hl
  have S : CallFix p m c cX2_lostBetween 4 s args wsX2_lostBetween RX2 := S
  have hx := S.1
  have hb := S.2.1
  have hl : lv_has ls 4 [(0, .ref t), (1, .int (iI (((f : Nat) : Int)))), (2, .int (iI (((g : Nat) : Int)))), (3, .int (iI (((b : Nat) : Int))))] := hl
  refine lv_aload_n hx hb dX2_lostBetween_0 rfl (lv_at hl 0 rfl) ?_
  refine lv_iload_n hx hb dX2_lostBetween_1 rfl (lv_at hl 1 rfl) ?_
  refine lv_iload_n hx hb dX2_lostBetween_2 rfl (lv_at hl 3 rfl) ?_
  refine kV_R (n := 2) (ci := 2) (q := (RX2, TX2, 2)) S (c_countOf lc D cI cZ N t tc ts cn sm f b (by omega) (by omega)) gX2_lostBetween_X2_countOf rfl rfl (by decide +kernel) rfl rfl ⟨Nat.le_trans (Nat.le_of_ble_eq_true rfl) hfr, Nat.le_trans (Nat.le_of_ble_eq_true rfl) hlo⟩ hE hAN hP hD hS [0, 1, 2] rfl (by decide) rfl rfl rfl rfl hl.1 [] rfl (Nat.le_of_ble_eq_true rfl) dX2_lostBetween_3 ⟨Nat.zero_le _, Nat.zero_le _⟩ ?_
  refine W.eq (g2 := F0 m 6 ls [.int (iI (cn (f * 200 + b)))]) rfl ?_
  refine lv_aload_n hx hb dX2_lostBetween_6 rfl (lv_at hl 0 rfl) ?_
  refine lv_iload_n hx hb dX2_lostBetween_7 rfl (lv_at hl 2 rfl) ?_
  refine lv_iload_n hx hb dX2_lostBetween_8 rfl (lv_at hl 3 rfl) ?_
  refine kV_R (n := 2) (ci := 2) (q := (RX2, TX2, 2)) S (c_countOf lc D cI cZ N t tc ts cn sm g b (by omega) (by omega)) gX2_lostBetween_X2_countOf rfl rfl (by decide +kernel) rfl rfl ⟨Nat.le_trans (Nat.le_of_ble_eq_true rfl) hfr, Nat.le_trans (Nat.le_of_ble_eq_true rfl) hlo⟩ hE hAN hP hD hS [0, 1, 2] rfl (by decide) rfl rfl rfl rfl hl.1 [.int (iI (cn (f * 200 + b)))] rfl (Nat.le_of_ble_eq_true rfl) dX2_lostBetween_9 ⟨Nat.zero_le _, Nat.zero_le _⟩ ?_
  refine W.eq (g2 := F0 m 12 ls [.int (iI (cn (g * 200 + b))), .int (iI (cn (f * 200 + b)))]) rfl ?_
  refine w_isub S dX2_lostBetween_12 ?_
  exact hret _ _ _ dX2_lostBetween_13 (congrArg iI (by omega))
set_option maxHeartbeats 4000000 in
set_option maxRecDepth 100000 in
theorem c_lostOfAll (lc : Launch) (D : va_G) (cI cZ : ClassId) (N : Nat) (t : Nat) (tc : Nat) (ts : Nat) (cn : Nat → Int) (sm : Nat → Int) (l : Nat) (hl4 : l < 4) : CR lc D cI cZ N yX2_lostOfAll wsX2_lostOfAll (rmK 3 66) [.ref t, .int (iI (((l : Nat) : Int)))] [(t, .inr (2, [.ref tc, .ref ts])), (tc, .inl (cI, 1000, .inl (vI cn))), (ts, .inl (cI, 1000, .inl (vI sm)))] (some (.int (iI (sumTo (fun b => cn (l * 200 + b) - cn ((l + 1) * 200 + b)) 200)))) := by
  refine CR.I (cc := cX2_lostOfAll) (maxL := 4) (by decide) rfl (Nat.le_of_ble_eq_true rfl) ?_
  intro p e s m args below meth c R Q S hE A hAN hfr hlo hP hD hS hret ls hl
  have S : CallFix p m c cX2_lostOfAll 4 s args wsX2_lostOfAll RX2 := S
  have hx := S.1
  have hb := S.2.1
  have hl : lv_has ls 4 [(0, .ref t), (1, .int (iI (((l : Nat) : Int))))] := hl
  refine lv_iconst (v := iI (0)) hx hb dX2_lostOfAll_0 rfl ?_
  refine lv_istore_n (lv' := [(2, .int (iI (0))), (0, .ref t), (1, .int (iI (((l : Nat) : Int))))]) hx hb dX2_lostOfAll_1 rfl hl (by decide) rfl (fun ls hl => ?_)
  refine lv_iconst (v := iI (0)) hx hb dX2_lostOfAll_2 rfl ?_
  refine lv_istore_n (lv' := [(3, .int (iI (0))), (2, .int (iI (0))), (0, .ref t), (1, .int (iI (((l : Nat) : Int))))]) hx hb dX2_lostOfAll_3 rfl hl (by decide) rfl (fun ls hl => ?_)
  have loop1 : ∀ (n i : Nat) , i + n = 200 → ∀ (ls : Array Slot), lv_has ls 4 [(3, .int (iI (((i : Nat) : Int)))), (2, .int (iI (sumTo (fun b => cn (l * 200 + b) - cn ((l + 1) * 200 + b)) i))), (0, .ref t), (1, .int (iI (((l : Nat) : Int))))] → W p lc e R s m args below meth c s.heap [] 0 0 Q (F0 m 4 ls []) := by
    intro n
    induction n with
    | zero =>
      intro i  hm  ls hl
      refine lv_iload_n hx hb dX2_lostOfAll_4 rfl (lv_at hl 0 rfl) ?_
      refine lv_sipush (v := iI (200)) hx hb dX2_lostOfAll_5 (by decide) ?_
      refine c_geT (tgt := 29) S dX2_lostOfAll_8 (by decide) (by omega) (by omega) (by omega) ?_
      refine lv_iload_n hx hb dX2_lostOfAll_29 rfl (lv_at hl 1 rfl) ?_
      exact hret _ _ _ dX2_lostOfAll_30 (by rw [show i = 200 by omega])
    | succ n ih1 =>
      intro i  hm  ls hl
      refine lv_iload_n hx hb dX2_lostOfAll_4 rfl (lv_at hl 0 rfl) ?_
      refine lv_sipush (v := iI (200)) hx hb dX2_lostOfAll_5 (by decide) ?_
      refine c_geF (tgt := 29) S dX2_lostOfAll_8 (by decide) (by omega) (by omega) (by omega) ?_
      refine lv_iload_n hx hb dX2_lostOfAll_11 rfl (lv_at hl 1 rfl) ?_
      refine lv_aload_n hx hb dX2_lostOfAll_12 rfl (lv_at hl 2 rfl) ?_
      refine lv_iload_n hx hb dX2_lostOfAll_13 rfl (lv_at hl 3 rfl) ?_
      refine lv_iload_n hx hb dX2_lostOfAll_14 rfl (lv_at hl 3 rfl) ?_
      refine lv_iconst (v := iI (1)) hx hb dX2_lostOfAll_15 rfl ?_
      refine w_iadd S dX2_lostOfAll_16 ?_
      refine lv_iload_n hx hb dX2_lostOfAll_17 rfl (lv_at hl 0 rfl) ?_
      refine kV_R (n := 3) (ci := 2) (q := (RX2, TX2, 2)) S (c_lostBetween lc D cI cZ N t tc ts cn sm l (l + 1) i (by omega) (by omega) (by omega)) gX2_lostOfAll_X2_lostBetween rfl rfl (by decide +kernel) rfl rfl ⟨Nat.le_trans (Nat.le_of_ble_eq_true rfl) hfr, Nat.le_trans (Nat.le_of_ble_eq_true rfl) hlo⟩ hE hAN hP hD hS [0, 1, 2] rfl (by decide) rfl rfl rfl rfl hl.1 [.int (iI (sumTo (fun b => cn (l * 200 + b) - cn ((l + 1) * 200 + b)) i))] rfl (Nat.le_of_ble_eq_true rfl) dX2_lostOfAll_18 ⟨Nat.zero_le _, Nat.zero_le _⟩ ?_
      refine W.eq (g2 := F0 m 21 ls [.int (iI (cn (l * 200 + i) - cn ((l + 1) * 200 + i))), .int (iI (sumTo (fun b => cn (l * 200 + b) - cn ((l + 1) * 200 + b)) i))]) rfl ?_
      refine w_iadd S dX2_lostOfAll_21 ?_
      refine lv_istore_n (lv' := [(2, .int (iI ((sumTo (fun b => cn (l * 200 + b) - cn ((l + 1) * 200 + b)) i) + (cn (l * 200 + i) - cn ((l + 1) * 200 + i))))), (3, .int (iI (((i : Nat) : Int)))), (0, .ref t), (1, .int (iI (((l : Nat) : Int))))]) hx hb dX2_lostOfAll_22 rfl hl (by decide) rfl (fun ls hl => ?_)
      refine w_iinc (v := ((i + 1 : Nat) : Int)) (lv' := [(3, .int (iI (((i + 1 : Nat) : Int)))), (2, .int (iI ((sumTo (fun b => cn (l * 200 + b) - cn ((l + 1) * 200 + b)) i) + (cn (l * 200 + i) - cn ((l + 1) * 200 + i))))), (0, .ref t), (1, .int (iI (((l : Nat) : Int))))]) S dX2_lostOfAll_23 hl (k := 1) rfl (by omega) (by decide) rfl (fun ls hl => ?_)
      refine lv_goto (tgt := 4) hx hb dX2_lostOfAll_26 (by decide) ?_
      have hloc : ((sumTo (fun b => cn (l * 200 + b) - cn ((l + 1) * 200 + b)) i) + (cn (l * 200 + i) - cn ((l + 1) * 200 + i)) : Int) = sumTo (fun b => cn (l * 200 + b) - cn ((l + 1) * 200 + b)) (i + 1) := rfl
      rw [hloc] at hl
      exact ih1 (i + 1)  (by omega)  _ (lv_sub hl [0, 1, 2, 3] rfl)
  have hloc : (0 : Int) = sumTo (fun b => cn (l * 200 + b) - cn ((l + 1) * 200 + b)) 0 := rfl
  rw [hloc] at hl
  exact loop1 200 0  (by omega)  _ (lv_sub hl [0, 1, 2, 3] rfl)
set_option maxHeartbeats 4000000 in
set_option maxRecDepth 100000 in
theorem c_hasTook_T (lc : Launch) (D : va_G) (cI cZ : ClassId) (N : Nat) (t : Nat) (tc : Nat) (ts : Nat) (cn : Nat → Int) (sm : Nat → Int) (f : Nat) (g : Nat) (b : Nat) (hf : f < 5) (hg : g < 5) (hb2 : b < 200) (hcn : ∀ k, k < 1000 → 0 ≤ cn k ∧ cn k ≤ 200) (h : 0 < cn (f * 200 + b) ∧ cn (f * 200 + b) = cn (g * 200 + b)) : CR lc D cI cZ N yX2_hasTook wsX2_hasTook (rmK 2 43) [.ref t, .int (iI (((f : Nat) : Int))), .int (iI (((g : Nat) : Int))), .int (iI (((b : Nat) : Int)))] [(t, .inr (2, [.ref tc, .ref ts])), (tc, .inl (cI, 1000, .inl (vI cn))), (ts, .inl (cI, 1000, .inl (vI sm)))] (some (.int (iI (1)))) := by
  refine CR.Z (cc := cX2_hasTook) (maxL := 4) (by decide) rfl (Nat.le_of_ble_eq_true rfl) ?_
  intro p e s m args below meth c R Q S hE A hAN hfr hlo hP hD hS hret ls hl
  have S : CallFix p m c cX2_hasTook 4 s args wsX2_hasTook RX2 := S
  have hx := S.1
  have hb := S.2.1
  have hl : lv_has ls 4 [(0, .ref t), (1, .int (iI (((f : Nat) : Int)))), (2, .int (iI (((g : Nat) : Int)))), (3, .int (iI (((b : Nat) : Int))))] := hl
  have h1 := hcn (f * 200 + b) (by omega)
  have h2 := hcn (g * 200 + b) (by omega)
  refine lv_aload_n hx hb dX2_hasTook_0 rfl (lv_at hl 0 rfl) ?_
  refine lv_iload_n hx hb dX2_hasTook_1 rfl (lv_at hl 1 rfl) ?_
  refine lv_iload_n hx hb dX2_hasTook_2 rfl (lv_at hl 3 rfl) ?_
  refine kV_R (n := 2) (ci := 2) (q := (RX2, TX2, 2)) S (c_countOf lc D cI cZ N t tc ts cn sm f b (by omega) (by omega)) gX2_hasTook_X2_countOf rfl rfl (by decide +kernel) rfl rfl ⟨Nat.le_trans (Nat.le_of_ble_eq_true rfl) hfr, Nat.le_trans (Nat.le_of_ble_eq_true rfl) hlo⟩ hE hAN hP hD hS [0, 1, 2] rfl (by decide) rfl rfl rfl rfl hl.1 [] rfl (Nat.le_of_ble_eq_true rfl) dX2_hasTook_3 ⟨Nat.zero_le _, Nat.zero_le _⟩ ?_
  refine W.eq (g2 := F0 m 6 ls [.int (iI (cn (f * 200 + b)))]) rfl ?_
  refine b_leF (tgt := 28) S dX2_hasTook_6 (by decide) (by omega) (by omega) ?_
  refine lv_aload_n hx hb dX2_hasTook_9 rfl (lv_at hl 0 rfl) ?_
  refine lv_iload_n hx hb dX2_hasTook_10 rfl (lv_at hl 1 rfl) ?_
  refine lv_iload_n hx hb dX2_hasTook_11 rfl (lv_at hl 3 rfl) ?_
  refine kV_R (n := 2) (ci := 2) (q := (RX2, TX2, 2)) S (c_countOf lc D cI cZ N t tc ts cn sm f b (by omega) (by omega)) gX2_hasTook_X2_countOf rfl rfl (by decide +kernel) rfl rfl ⟨Nat.le_trans (Nat.le_of_ble_eq_true rfl) hfr, Nat.le_trans (Nat.le_of_ble_eq_true rfl) hlo⟩ hE hAN hP hD hS [0, 1, 2] rfl (by decide) rfl rfl rfl rfl hl.1 [] rfl (Nat.le_of_ble_eq_true rfl) dX2_hasTook_12 ⟨Nat.zero_le _, Nat.zero_le _⟩ ?_
  refine W.eq (g2 := F0 m 15 ls [.int (iI (cn (f * 200 + b)))]) rfl ?_
  refine lv_aload_n hx hb dX2_hasTook_15 rfl (lv_at hl 0 rfl) ?_
  refine lv_iload_n hx hb dX2_hasTook_16 rfl (lv_at hl 2 rfl) ?_
  refine lv_iload_n hx hb dX2_hasTook_17 rfl (lv_at hl 3 rfl) ?_
  refine kV_R (n := 2) (ci := 2) (q := (RX2, TX2, 2)) S (c_countOf lc D cI cZ N t tc ts cn sm g b (by omega) (by omega)) gX2_hasTook_X2_countOf rfl rfl (by decide +kernel) rfl rfl ⟨Nat.le_trans (Nat.le_of_ble_eq_true rfl) hfr, Nat.le_trans (Nat.le_of_ble_eq_true rfl) hlo⟩ hE hAN hP hD hS [0, 1, 2] rfl (by decide) rfl rfl rfl rfl hl.1 [.int (iI (cn (f * 200 + b)))] rfl (Nat.le_of_ble_eq_true rfl) dX2_hasTook_18 ⟨Nat.zero_le _, Nat.zero_le _⟩ ?_
  refine W.eq (g2 := F0 m 21 ls [.int (iI (cn (g * 200 + b))), .int (iI (cn (f * 200 + b)))]) rfl ?_
  refine c_neF (tgt := 28) S dX2_hasTook_21 (by decide) (by omega) ?_
  refine lv_iconst (v := iI (1)) hx hb dX2_hasTook_24 rfl ?_
  refine lv_goto (tgt := 29) hx hb dX2_hasTook_25 (by decide) ?_
  exact hret _ _ _ dX2_hasTook_29 rfl (Or.inr rfl)
set_option maxHeartbeats 4000000 in
set_option maxRecDepth 100000 in
theorem c_hasTook_F (lc : Launch) (D : va_G) (cI cZ : ClassId) (N : Nat) (t : Nat) (tc : Nat) (ts : Nat) (cn : Nat → Int) (sm : Nat → Int) (f : Nat) (g : Nat) (b : Nat) (hf : f < 5) (hg : g < 5) (hb2 : b < 200) (hcn : ∀ k, k < 1000 → 0 ≤ cn k ∧ cn k ≤ 200) (h : ¬ (0 < cn (f * 200 + b) ∧ cn (f * 200 + b) = cn (g * 200 + b))) : CR lc D cI cZ N yX2_hasTook wsX2_hasTook (rmK 2 43) [.ref t, .int (iI (((f : Nat) : Int))), .int (iI (((g : Nat) : Int))), .int (iI (((b : Nat) : Int)))] [(t, .inr (2, [.ref tc, .ref ts])), (tc, .inl (cI, 1000, .inl (vI cn))), (ts, .inl (cI, 1000, .inl (vI sm)))] (some (.int (iI (0)))) := by
  refine CR.Z (cc := cX2_hasTook) (maxL := 4) (by decide) rfl (Nat.le_of_ble_eq_true rfl) ?_
  intro p e s m args below meth c R Q S hE A hAN hfr hlo hP hD hS hret ls hl
  have S : CallFix p m c cX2_hasTook 4 s args wsX2_hasTook RX2 := S
  have hx := S.1
  have hb := S.2.1
  have hl : lv_has ls 4 [(0, .ref t), (1, .int (iI (((f : Nat) : Int)))), (2, .int (iI (((g : Nat) : Int)))), (3, .int (iI (((b : Nat) : Int))))] := hl
  have h1 := hcn (f * 200 + b) (by omega)
  have h2 := hcn (g * 200 + b) (by omega)
  by_cases h3 : 0 < cn (f * 200 + b)
  · refine lv_aload_n hx hb dX2_hasTook_0 rfl (lv_at hl 0 rfl) ?_
    refine lv_iload_n hx hb dX2_hasTook_1 rfl (lv_at hl 1 rfl) ?_
    refine lv_iload_n hx hb dX2_hasTook_2 rfl (lv_at hl 3 rfl) ?_
    refine kV_R (n := 2) (ci := 2) (q := (RX2, TX2, 2)) S (c_countOf lc D cI cZ N t tc ts cn sm f b (by omega) (by omega)) gX2_hasTook_X2_countOf rfl rfl (by decide +kernel) rfl rfl ⟨Nat.le_trans (Nat.le_of_ble_eq_true rfl) hfr, Nat.le_trans (Nat.le_of_ble_eq_true rfl) hlo⟩ hE hAN hP hD hS [0, 1, 2] rfl (by decide) rfl rfl rfl rfl hl.1 [] rfl (Nat.le_of_ble_eq_true rfl) dX2_hasTook_3 ⟨Nat.zero_le _, Nat.zero_le _⟩ ?_
    refine W.eq (g2 := F0 m 6 ls [.int (iI (cn (f * 200 + b)))]) rfl ?_
    refine b_leF (tgt := 28) S dX2_hasTook_6 (by decide) (by omega) (by omega) ?_
    refine lv_aload_n hx hb dX2_hasTook_9 rfl (lv_at hl 0 rfl) ?_
    refine lv_iload_n hx hb dX2_hasTook_10 rfl (lv_at hl 1 rfl) ?_
    refine lv_iload_n hx hb dX2_hasTook_11 rfl (lv_at hl 3 rfl) ?_
    refine kV_R (n := 2) (ci := 2) (q := (RX2, TX2, 2)) S (c_countOf lc D cI cZ N t tc ts cn sm f b (by omega) (by omega)) gX2_hasTook_X2_countOf rfl rfl (by decide +kernel) rfl rfl ⟨Nat.le_trans (Nat.le_of_ble_eq_true rfl) hfr, Nat.le_trans (Nat.le_of_ble_eq_true rfl) hlo⟩ hE hAN hP hD hS [0, 1, 2] rfl (by decide) rfl rfl rfl rfl hl.1 [] rfl (Nat.le_of_ble_eq_true rfl) dX2_hasTook_12 ⟨Nat.zero_le _, Nat.zero_le _⟩ ?_
    refine W.eq (g2 := F0 m 15 ls [.int (iI (cn (f * 200 + b)))]) rfl ?_
    refine lv_aload_n hx hb dX2_hasTook_15 rfl (lv_at hl 0 rfl) ?_
    refine lv_iload_n hx hb dX2_hasTook_16 rfl (lv_at hl 2 rfl) ?_
    refine lv_iload_n hx hb dX2_hasTook_17 rfl (lv_at hl 3 rfl) ?_
    refine kV_R (n := 2) (ci := 2) (q := (RX2, TX2, 2)) S (c_countOf lc D cI cZ N t tc ts cn sm g b (by omega) (by omega)) gX2_hasTook_X2_countOf rfl rfl (by decide +kernel) rfl rfl ⟨Nat.le_trans (Nat.le_of_ble_eq_true rfl) hfr, Nat.le_trans (Nat.le_of_ble_eq_true rfl) hlo⟩ hE hAN hP hD hS [0, 1, 2] rfl (by decide) rfl rfl rfl rfl hl.1 [.int (iI (cn (f * 200 + b)))] rfl (Nat.le_of_ble_eq_true rfl) dX2_hasTook_18 ⟨Nat.zero_le _, Nat.zero_le _⟩ ?_
    refine W.eq (g2 := F0 m 21 ls [.int (iI (cn (g * 200 + b))), .int (iI (cn (f * 200 + b)))]) rfl ?_
    refine c_neT (tgt := 28) S dX2_hasTook_21 (by decide) (by omega) (by omega) (by omega) ?_
    refine lv_iconst (v := iI (0)) hx hb dX2_hasTook_28 rfl ?_
    exact hret _ _ _ dX2_hasTook_29 rfl (Or.inl rfl)
  · refine lv_aload_n hx hb dX2_hasTook_0 rfl (lv_at hl 0 rfl) ?_
    refine lv_iload_n hx hb dX2_hasTook_1 rfl (lv_at hl 1 rfl) ?_
    refine lv_iload_n hx hb dX2_hasTook_2 rfl (lv_at hl 3 rfl) ?_
    refine kV_R (n := 2) (ci := 2) (q := (RX2, TX2, 2)) S (c_countOf lc D cI cZ N t tc ts cn sm f b (by omega) (by omega)) gX2_hasTook_X2_countOf rfl rfl (by decide +kernel) rfl rfl ⟨Nat.le_trans (Nat.le_of_ble_eq_true rfl) hfr, Nat.le_trans (Nat.le_of_ble_eq_true rfl) hlo⟩ hE hAN hP hD hS [0, 1, 2] rfl (by decide) rfl rfl rfl rfl hl.1 [] rfl (Nat.le_of_ble_eq_true rfl) dX2_hasTook_3 ⟨Nat.zero_le _, Nat.zero_le _⟩ ?_
    refine W.eq (g2 := F0 m 6 ls [.int (iI (cn (f * 200 + b)))]) rfl ?_
    refine b_leT (tgt := 28) S dX2_hasTook_6 (by decide) (by omega) (by omega) ?_
    refine lv_iconst (v := iI (0)) hx hb dX2_hasTook_28 rfl ?_
    exact hret _ _ _ dX2_hasTook_29 rfl (Or.inl rfl)
set_option maxHeartbeats 4000000 in
set_option maxRecDepth 100000 in
theorem c_tookUpper (lc : Launch) (D : va_G) (cI cZ : ClassId) (N : Nat) (t : Nat) (tc : Nat) (ts : Nat) (cn : Nat → Int) (sm : Nat → Int) (f : Nat) (g : Nat) (b : Nat) (hf : f < 5) (hg : g < 5) (hb2 : b < 200) : CR lc D cI cZ N yX2_tookUpper wsX2_tookUpper (rmK 2 43) [.ref t, .int (iI (((f : Nat) : Int))), .int (iI (((g : Nat) : Int))), .int (iI (((b : Nat) : Int)))] [(t, .inr (2, [.ref tc, .ref ts])), (tc, .inl (cI, 1000, .inl (vI cn))), (ts, .inl (cI, 1000, .inl (vI sm)))] (some (.int (iI (sm (g * 200 + b) - sm (f * 200 + b))))) := by
  refine CR.I (cc := cX2_tookUpper) (maxL := 4) (by decide) rfl (Nat.le_of_ble_eq_true rfl) ?_
  intro p e s m args below meth c R Q S hE A hAN hfr hlo hP hD hS hret ls hl
  have S : CallFix p m c cX2_tookUpper 4 s args wsX2_tookUpper RX2 := S
  have hx := S.1
  have hb := S.2.1
  have hl : lv_has ls 4 [(0, .ref t), (1, .int (iI (((f : Nat) : Int)))), (2, .int (iI (((g : Nat) : Int)))), (3, .int (iI (((b : Nat) : Int))))] := hl
  refine lv_aload_n hx hb dX2_tookUpper_0 rfl (lv_at hl 0 rfl) ?_
  refine lv_iload_n hx hb dX2_tookUpper_1 rfl (lv_at hl 2 rfl) ?_
  refine lv_iload_n hx hb dX2_tookUpper_2 rfl (lv_at hl 3 rfl) ?_
  refine kV_R (n := 2) (ci := 2) (q := (RX2, TX2, 2)) S (c_sumOf lc D cI cZ N t tc ts cn sm g b (by omega) (by omega)) gX2_tookUpper_X2_sumOf rfl rfl (by decide +kernel) rfl rfl ⟨Nat.le_trans (Nat.le_of_ble_eq_true rfl) hfr, Nat.le_trans (Nat.le_of_ble_eq_true rfl) hlo⟩ hE hAN hP hD hS [0, 1, 2] rfl (by decide) rfl rfl rfl rfl hl.1 [] rfl (Nat.le_of_ble_eq_true rfl) dX2_tookUpper_3 ⟨Nat.zero_le _, Nat.zero_le _⟩ ?_
  refine W.eq (g2 := F0 m 6 ls [.int (iI (sm (g * 200 + b)))]) rfl ?_
  refine lv_aload_n hx hb dX2_tookUpper_6 rfl (lv_at hl 0 rfl) ?_
  refine lv_iload_n hx hb dX2_tookUpper_7 rfl (lv_at hl 1 rfl) ?_
  refine lv_iload_n hx hb dX2_tookUpper_8 rfl (lv_at hl 3 rfl) ?_
  refine kV_R (n := 2) (ci := 2) (q := (RX2, TX2, 2)) S (c_sumOf lc D cI cZ N t tc ts cn sm f b (by omega) (by omega)) gX2_tookUpper_X2_sumOf rfl rfl (by decide +kernel) rfl rfl ⟨Nat.le_trans (Nat.le_of_ble_eq_true rfl) hfr, Nat.le_trans (Nat.le_of_ble_eq_true rfl) hlo⟩ hE hAN hP hD hS [0, 1, 2] rfl (by decide) rfl rfl rfl rfl hl.1 [.int (iI (sm (g * 200 + b)))] rfl (Nat.le_of_ble_eq_true rfl) dX2_tookUpper_9 ⟨Nat.zero_le _, Nat.zero_le _⟩ ?_
  refine W.eq (g2 := F0 m 12 ls [.int (iI (sm (f * 200 + b))), .int (iI (sm (g * 200 + b)))]) rfl ?_
  refine w_isub S dX2_tookUpper_12 ?_
  exact hret _ _ _ dX2_tookUpper_13 (congrArg iI (by omega))
set_option maxHeartbeats 4000000 in
set_option maxRecDepth 100000 in
theorem c_X2_blocksSent (lc : Launch) (D : va_G) (cI cZ : ClassId) (N : Nat) (t : Nat) (tc : Nat) (ts : Nat) (cn : Nat → Int) (sm : Nat → Int) (hcn : ∀ k, k < 1000 → 0 ≤ cn k ∧ cn k ≤ 200) : CR lc D cI cZ N yX2_blocksSent wsX2_blocksSent (rmK 2 43) [.ref t] [(t, .inr (2, [.ref tc, .ref ts])), (tc, .inl (cI, 1000, .inl (vI cn))), (ts, .inl (cI, 1000, .inl (vI sm)))] (some (.int (iI (cntP (fun b => cn (0 * 200 + b)) 200)))) := by
  refine CR.I (cc := cX2_blocksSent) (maxL := 3) (by decide) rfl (Nat.le_of_ble_eq_true rfl) ?_
  intro p e s m args below meth c R Q S hE A hAN hfr hlo hP hD hS hret ls hl
  have S : CallFix p m c cX2_blocksSent 3 s args wsX2_blocksSent RX2 := S
  have hx := S.1
  have hb := S.2.1
  have hl : lv_has ls 3 [(0, .ref t)] := hl
  refine lv_iconst (v := iI (0)) hx hb dX2_blocksSent_0 rfl ?_
  refine lv_istore_n (lv' := [(1, .int (iI (0))), (0, .ref t)]) hx hb dX2_blocksSent_1 rfl hl (by decide) rfl (fun ls hl => ?_)
  refine lv_iconst (v := iI (0)) hx hb dX2_blocksSent_2 rfl ?_
  refine lv_istore_n (lv' := [(2, .int (iI (0))), (1, .int (iI (0))), (0, .ref t)]) hx hb dX2_blocksSent_3 rfl hl (by decide) rfl (fun ls hl => ?_)
  have loop2 : ∀ (n i : Nat) , i + n = 200 → ∀ (ls : Array Slot), lv_has ls 3 [(2, .int (iI (((i : Nat) : Int)))), (1, .int (iI (cntP (fun b => cn (0 * 200 + b)) i))), (0, .ref t)] → W p lc e R s m args below meth c s.heap [] 0 0 Q (F0 m 4 ls []) := by
    intro n
    induction n with
    | zero =>
      intro i  hm  ls hl
      refine lv_iload_n hx hb dX2_blocksSent_4 rfl (lv_at hl 0 rfl) ?_
      refine lv_sipush (v := iI (200)) hx hb dX2_blocksSent_5 (by decide) ?_
      refine c_geT (tgt := 29) S dX2_blocksSent_8 (by decide) (by omega) (by omega) (by omega) ?_
      refine lv_iload_n hx hb dX2_blocksSent_29 rfl (lv_at hl 1 rfl) ?_
      exact hret _ _ _ dX2_blocksSent_30 (by rw [show i = 200 by omega])
    | succ n ih2 =>
      intro i  hm  ls hl
      refine lv_iload_n hx hb dX2_blocksSent_4 rfl (lv_at hl 0 rfl) ?_
      refine lv_sipush (v := iI (200)) hx hb dX2_blocksSent_5 (by decide) ?_
      refine c_geF (tgt := 29) S dX2_blocksSent_8 (by decide) (by omega) (by omega) (by omega) ?_
      have h1 := hcn (0 * 200 + i) (by omega)
      refine lv_aload_n hx hb dX2_blocksSent_11 rfl (lv_at hl 2 rfl) ?_
      refine lv_iconst (v := iI (0)) hx hb dX2_blocksSent_12 rfl ?_
      refine lv_iload_n hx hb dX2_blocksSent_13 rfl (lv_at hl 0 rfl) ?_
      refine kV_R (n := 2) (ci := 2) (q := (RX2, TX2, 2)) S (c_countOf lc D cI cZ N t tc ts cn sm 0 i (by omega) (by omega)) gX2_blocksSent_X2_countOf rfl rfl (by decide +kernel) rfl rfl ⟨Nat.le_trans (Nat.le_of_ble_eq_true rfl) hfr, Nat.le_trans (Nat.le_of_ble_eq_true rfl) hlo⟩ hE hAN hP hD hS [0, 1, 2] rfl (by decide) rfl rfl rfl rfl hl.1 [] rfl (Nat.le_of_ble_eq_true rfl) dX2_blocksSent_14 ⟨Nat.zero_le _, Nat.zero_le _⟩ ?_
      refine W.eq (g2 := F0 m 17 ls [.int (iI (cn (0 * 200 + i)))]) rfl ?_
      by_cases h2 : 0 < cn (0 * 200 + i)
      · refine b_leF (tgt := 23) S dX2_blocksSent_17 (by decide) (by omega) (by omega) ?_
        refine w_iinc (v := (cntP (fun b => cn (0 * 200 + b)) i) + 1) (lv' := [(1, .int (iI ((cntP (fun b => cn (0 * 200 + b)) i) + 1))), (2, .int (iI (((i : Nat) : Int)))), (0, .ref t)]) S dX2_blocksSent_20 hl (k := 1) rfl rfl (by decide) rfl (fun ls hl => ?_)
        refine w_iinc (v := ((i + 1 : Nat) : Int)) (lv' := [(2, .int (iI (((i + 1 : Nat) : Int)))), (1, .int (iI ((cntP (fun b => cn (0 * 200 + b)) i) + 1))), (0, .ref t)]) S dX2_blocksSent_23 hl (k := 1) rfl (by omega) (by decide) rfl (fun ls hl => ?_)
        refine lv_goto (tgt := 4) hx hb dX2_blocksSent_26 (by decide) ?_
        have hloc : ((cntP (fun b => cn (0 * 200 + b)) i) + 1 : Int) = cntP (fun b => cn (0 * 200 + b)) (i + 1) := (by show _ = cntP _ i + _; rw [if_pos h2])
        rw [hloc] at hl
        exact ih2 (i + 1)  (by omega)  _ (lv_sub hl [0, 1, 2] rfl)
      · refine b_leT (tgt := 23) S dX2_blocksSent_17 (by decide) (by omega) (by omega) ?_
        refine w_iinc (v := ((i + 1 : Nat) : Int)) (lv' := [(2, .int (iI (((i + 1 : Nat) : Int)))), (1, .int (iI (cntP (fun b => cn (0 * 200 + b)) i))), (0, .ref t)]) S dX2_blocksSent_23 hl (k := 0) rfl (by omega) (by decide) rfl (fun ls hl => ?_)
        refine lv_goto (tgt := 4) hx hb dX2_blocksSent_26 (by decide) ?_
        have hloc : (cntP (fun b => cn (0 * 200 + b)) i : Int) = cntP (fun b => cn (0 * 200 + b)) (i + 1) := (by show _ = cntP _ i + _; rw [if_neg h2]; omega)
        rw [hloc] at hl
        exact ih2 (i + 1)  (by omega)  _ (lv_sub hl [0, 1, 2] rfl)
  have hloc : (0 : Int) = cntP (fun b => cn (0 * 200 + b)) 0 := rfl
  rw [hloc] at hl
  exact loop2 200 0  (by omega)  _ (lv_sub hl [0, 1, 2] rfl)
set_option maxHeartbeats 4000000 in
set_option maxRecDepth 100000 in
theorem c_X2_begin (lc : Launch) (D : va_G) (cI cZ : ClassId) (N : Nat) (t : Nat) (tc : Nat) (ts : Nat) (cn : Nat → Int) (sm : Nat → Int)  : CM lc D cI cZ N yX2_begin wsX2_begin (rmK 1 23) [.ref t] [(t, .inr (2, [.ref tc, .ref ts])), (tc, .inl (cI, 1000, .inl (vI cn))), (ts, .inl (cI, 1000, .inl (vI sm)))] none [(t, .inr (2, [.ref tc, .ref ts])), (tc, .inl (cI, 1000, .inl (vI (fun _ => 0)))), (ts, .inl (cI, 1000, .inl (vI (fun _ => 0))))] := by
  refine CM.V (cc := cX2_begin) (maxL := 1) (by decide) rfl (Nat.le_of_ble_eq_true rfl) ?_
  intro p e s m args below meth c R Q S hE A hAN hfr hlo hP hD hS hret ls hl
  have S : CallFix p m c cX2_begin 1 s args wsX2_begin RX2 := S
  have hx := S.1
  have hb := S.2.1
  have hl : lv_has ls 1 [(0, .ref t)] := hl
  refine lv_aload_n hx hb dX2_begin_0 rfl (lv_at hl 0 rfl) ?_
  refine w_get (C := RX2) (T := TX2) (Nf := 2) (ci := 2) (v := .ref tc) S (fun _ h => List.mem_cons_of_mem _ (List.mem_append_right _ h)) hE hP 0 rfl rfl 0 (by decide) (List.mem_of_getElem? (i := 1) rfl) rfl dX2_begin_1 ?_
  refine lv_iconst (v := iI (0)) hx hb dX2_begin_4 rfl ?_
  refine kS_M (n := 2) S (c_fill lc D cI cZ N tc 1000 cn 0 (by omega)) gX2_begin_J7_fill_53178 rfl (by decide +kernel) rfl rfl ⟨Nat.le_trans (Nat.le_of_ble_eq_true rfl) hfr, Nat.le_trans (Nat.le_of_ble_eq_true rfl) hlo⟩ hE hAN hP hD hS [1] rfl (by decide) rfl rfl hl.1 [] rfl (Nat.le_of_ble_eq_true rfl) dX2_begin_5 ⟨Nat.zero_le _, Nat.zero_le _⟩ (fun H locs hP hD hS => ?_)
  have hP : va_P D vwCl [(t, .inr (2, [.ref tc, .ref ts])), (tc, .inl (cI, 1000, .inl (vI (fun _ => 0)))), (ts, .inl (cI, 1000, .inl (vI sm)))] H := hP
  have hD : va_D A [(t, .inr (2, [.ref tc, .ref ts])), (tc, .inl (cI, 1000, .inl (vI (fun _ => 0)))), (ts, .inl (cI, 1000, .inl (vI sm)))] := hD
  refine W.eq (g2 := F0 m 8 ls []) rfl ?_
  refine lv_aload_n hx hb dX2_begin_8 rfl (lv_at hl 0 rfl) ?_
  refine w_get (C := RX2) (T := TX2) (Nf := 2) (ci := 2) (v := .ref ts) S (fun _ h => List.mem_cons_of_mem _ (List.mem_append_right _ h)) hE hP 0 rfl rfl 1 (by decide) (List.mem_of_getElem? (i := 2) rfl) rfl dX2_begin_9 ?_
  refine lv_iconst (v := iI (0)) hx hb dX2_begin_12 rfl ?_
  refine kS_M (n := 2) S (c_fill lc D cI cZ N ts 1000 sm 0 (by omega)) gX2_begin_J7_fill_53178 rfl (by decide +kernel) rfl rfl ⟨Nat.le_trans (Nat.le_of_ble_eq_true rfl) hfr, Nat.le_trans (Nat.le_of_ble_eq_true rfl) hlo⟩ hE hAN hP hD hS [2] rfl (by decide) rfl rfl hl.1 [] rfl (Nat.le_of_ble_eq_true rfl) dX2_begin_13 ⟨Nat.zero_le _, Nat.zero_le _⟩ (fun H locs hP hD hS => ?_)
  have hP : va_P D vwCl [(t, .inr (2, [.ref tc, .ref ts])), (tc, .inl (cI, 1000, .inl (vI (fun _ => 0)))), (ts, .inl (cI, 1000, .inl (vI (fun _ => 0))))] H := hP
  have hD : va_D A [(t, .inr (2, [.ref tc, .ref ts])), (tc, .inl (cI, 1000, .inl (vI (fun _ => 0)))), (ts, .inl (cI, 1000, .inl (vI (fun _ => 0))))] := hD
  refine W.eq (g2 := F0 m 16 ls []) rfl ?_
  exact hret _ _ _ _ dX2_begin_16 hP hS
set_option maxHeartbeats 4000000 in
set_option maxRecDepth 100000 in
theorem c_X2_copyFrom (lc : Launch) (D : va_G) (cI cZ : ClassId) (N : Nat) (t : Nat) (tc : Nat) (ts : Nat) (cn : Nat → Int) (sm : Nat → Int) (t2 : Nat) (tc2 : Nat) (ts2 : Nat) (cn2 : Nat → Int) (sm2 : Nat → Int)  : CM lc D cI cZ N yX2_copyFrom wsX2_copyFrom (rmK 1 26) [.ref t, .ref t2] [(t, .inr (2, [.ref tc, .ref ts])), (tc, .inl (cI, 1000, .inl (vI cn))), (ts, .inl (cI, 1000, .inl (vI sm))), (t2, .inr (2, [.ref tc2, .ref ts2])), (tc2, .inl (cI, 1000, .inl (vI cn2))), (ts2, .inl (cI, 1000, .inl (vI sm2)))] none [(t, .inr (2, [.ref tc, .ref ts])), (tc, .inl (cI, 1000, .inl (vI cn2))), (ts, .inl (cI, 1000, .inl (vI sm2))), (t2, .inr (2, [.ref tc2, .ref ts2])), (tc2, .inl (cI, 1000, .inl (vI cn2))), (ts2, .inl (cI, 1000, .inl (vI sm2)))] := by
  refine CM.V (cc := cX2_copyFrom) (maxL := 2) (by decide) rfl (Nat.le_of_ble_eq_true rfl) ?_
  intro p e s m args below meth c R Q S hE A hAN hfr hlo hP hD hS hret ls hl
  have S : CallFix p m c cX2_copyFrom 2 s args wsX2_copyFrom RX2 := S
  have hx := S.1
  have hb := S.2.1
  have hl : lv_has ls 2 [(0, .ref t), (1, .ref t2)] := hl
  refine lv_aload_n hx hb dX2_copyFrom_0 rfl (lv_at hl 1 rfl) ?_
  refine w_get (C := RX2) (T := TX2) (Nf := 2) (ci := 2) (v := .ref tc2) S (fun _ h => List.mem_cons_of_mem _ (List.mem_append_right _ h)) hE hP 3 rfl rfl 0 (by decide) (List.mem_of_getElem? (i := 1) rfl) rfl dX2_copyFrom_1 ?_
  refine lv_iconst (v := iI (0)) hx hb dX2_copyFrom_4 rfl ?_
  refine lv_aload_n hx hb dX2_copyFrom_5 rfl (lv_at hl 0 rfl) ?_
  refine w_get (C := RX2) (T := TX2) (Nf := 2) (ci := 2) (v := .ref tc) S (fun _ h => List.mem_cons_of_mem _ (List.mem_append_right _ h)) hE hP 0 rfl rfl 0 (by decide) (List.mem_of_getElem? (i := 1) rfl) rfl dX2_copyFrom_6 ?_
  refine lv_iconst (v := iI (0)) hx hb dX2_copyFrom_9 rfl ?_
  refine lv_aload_n hx hb dX2_copyFrom_10 rfl (lv_at hl 0 rfl) ?_
  refine w_get (C := RX2) (T := TX2) (Nf := 2) (ci := 2) (v := .ref tc) S (fun _ h => List.mem_cons_of_mem _ (List.mem_append_right _ h)) hE hP 0 rfl rfl 0 (by decide) (List.mem_of_getElem? (i := 1) rfl) rfl dX2_copyFrom_11 ?_
  refine w_alen S hE hP 1 rfl dX2_copyFrom_14 ?_
  refine w_copy S hE hl.1 (List.mem_of_getElem? (i := 2) rfl) (List.mem_of_getElem? (i := 3) rfl) (List.mem_of_getElem? (i := 4) rfl) (List.mem_of_getElem? (i := 5) rfl) (Nat.le_trans (Nat.le_of_ble_eq_true rfl) hfr) (Nat.le_trans (Nat.le_of_ble_eq_true rfl) hlo) (Nat.le_of_ble_eq_true rfl) hP hD hS 4 1 rfl rfl (by decide) (by omega) dX2_copyFrom_15 (fun H locs hP hD hS => ?_)
  have hP : va_P D vwCl [(t, .inr (2, [.ref tc, .ref ts])), (tc, .inl (cI, 1000, .inl (vI cn2))), (ts, .inl (cI, 1000, .inl (vI sm))), (t2, .inr (2, [.ref tc2, .ref ts2])), (tc2, .inl (cI, 1000, .inl (vI cn2))), (ts2, .inl (cI, 1000, .inl (vI sm2)))] H := hP
  have hD : va_D A [(t, .inr (2, [.ref tc, .ref ts])), (tc, .inl (cI, 1000, .inl (vI cn2))), (ts, .inl (cI, 1000, .inl (vI sm))), (t2, .inr (2, [.ref tc2, .ref ts2])), (tc2, .inl (cI, 1000, .inl (vI cn2))), (ts2, .inl (cI, 1000, .inl (vI sm2)))] := hD
  refine lv_aload_n hx hb dX2_copyFrom_18 rfl (lv_at hl 1 rfl) ?_
  refine w_get (C := RX2) (T := TX2) (Nf := 2) (ci := 2) (v := .ref ts2) S (fun _ h => List.mem_cons_of_mem _ (List.mem_append_right _ h)) hE hP 3 rfl rfl 1 (by decide) (List.mem_of_getElem? (i := 6) rfl) rfl dX2_copyFrom_19 ?_
  refine lv_iconst (v := iI (0)) hx hb dX2_copyFrom_22 rfl ?_
  refine lv_aload_n hx hb dX2_copyFrom_23 rfl (lv_at hl 0 rfl) ?_
  refine w_get (C := RX2) (T := TX2) (Nf := 2) (ci := 2) (v := .ref ts) S (fun _ h => List.mem_cons_of_mem _ (List.mem_append_right _ h)) hE hP 0 rfl rfl 1 (by decide) (List.mem_of_getElem? (i := 6) rfl) rfl dX2_copyFrom_24 ?_
  refine lv_iconst (v := iI (0)) hx hb dX2_copyFrom_27 rfl ?_
  refine lv_aload_n hx hb dX2_copyFrom_28 rfl (lv_at hl 0 rfl) ?_
  refine w_get (C := RX2) (T := TX2) (Nf := 2) (ci := 2) (v := .ref ts) S (fun _ h => List.mem_cons_of_mem _ (List.mem_append_right _ h)) hE hP 0 rfl rfl 1 (by decide) (List.mem_of_getElem? (i := 6) rfl) rfl dX2_copyFrom_29 ?_
  refine w_alen S hE hP 2 rfl dX2_copyFrom_32 ?_
  refine w_copy S hE hl.1 (List.mem_of_getElem? (i := 2) rfl) (List.mem_of_getElem? (i := 3) rfl) (List.mem_of_getElem? (i := 4) rfl) (List.mem_of_getElem? (i := 5) rfl) (Nat.le_trans (Nat.le_of_ble_eq_true rfl) hfr) (Nat.le_trans (Nat.le_of_ble_eq_true rfl) hlo) (Nat.le_of_ble_eq_true rfl) hP hD hS 5 2 rfl rfl (by decide) (by omega) dX2_copyFrom_33 (fun H locs hP hD hS => ?_)
  have hP : va_P D vwCl [(t, .inr (2, [.ref tc, .ref ts])), (tc, .inl (cI, 1000, .inl (vI cn2))), (ts, .inl (cI, 1000, .inl (vI sm2))), (t2, .inr (2, [.ref tc2, .ref ts2])), (tc2, .inl (cI, 1000, .inl (vI cn2))), (ts2, .inl (cI, 1000, .inl (vI sm2)))] H := hP
  have hD : va_D A [(t, .inr (2, [.ref tc, .ref ts])), (tc, .inl (cI, 1000, .inl (vI cn2))), (ts, .inl (cI, 1000, .inl (vI sm2))), (t2, .inr (2, [.ref tc2, .ref ts2])), (tc2, .inl (cI, 1000, .inl (vI cn2))), (ts2, .inl (cI, 1000, .inl (vI sm2)))] := hD
  exact hret _ _ _ _ dX2_copyFrom_36 hP hS
end
section
set_option maxHeartbeats 4000000 in
set_option maxRecDepth 100000 in
theorem c_X1_begin (lc : Launch) (D : va_G) (cI cZ : ClassId) (N : Nat) (k : Nat) (kn : Nat) (nb : Nat → Int) : CM lc D cI cZ N yX1_begin wsX1_begin (rmK 1 26) [.ref k] [(k, .inr (1, [.ref kn])), (kn, .inl (cI, 24, .inl (vI nb)))] none [(k, .inr (1, [.ref kn])), (kn, .inl (cI, 24, .inl (vI nbFirst)))] := by
  refine CM.V (cc := cX1_begin) (maxL := 2) (by decide) rfl (Nat.le_of_ble_eq_true rfl) ?_
  intro p e s m args below meth c R Q S hE A hAN hfr hlo hP hD hS hret ls hl
  have S : CallFix p m c cX1_begin 2 s args wsX1_begin RX1 := S
  have hx := S.1
  have hb := S.2.1
  have hl : lv_has ls 2 [(0, .ref k)] := hl
  obtain ⟨z0, hZ, hT⟩ := hE.2.2.2.2.2
  refine lv_iconst (v := iI 0) hx hb dX1_begin_0 rfl ?_
  refine lv_istore_n (lv' := [(1, .int (iI 0)), (0, .ref k)]) hx hb dX1_begin_1 rfl hl (by decide) rfl (fun ls hl => ?_)
  have loop : ∀ (n i : Nat), i + n = 4 → ∀ (H : Heap) (locs : List Loc) (ls : Array Slot), va_P D vwCl [(k, .inr (1, [.ref kn])), (kn, .inl (cI, 24, .inl (vI (fun j => if j < i * 6 then nbFirst j else nb j))))] H → va_D A [(k, .inr (1, [.ref kn])), (kn, .inl (cI, 24, .inl (vI (fun j => if j < i * 6 then nbFirst j else nb j))))] → va_S A s.heap H locs → lv_has ls 2 [(1, .int (iI ((i : Nat) : Int))), (0, .ref k)] → W p lc e R s m args below meth c H locs 0 0 Q (F0 m 2 ls []) := by
    intro n
    induction n with
    | zero =>
      intro i hm H locs ls hP hD hS hl
      refine lv_iload_n hx hb dX1_begin_2 rfl (lv_at hl 0 rfl) ?_
      refine lv_iconst (v := iI 4) hx hb dX1_begin_3 rfl ?_
      refine c_geT (tgt := 30) S dX1_begin_4 (by decide) (by omega) (by omega) (by omega) ?_
      exact hret _ _ _ _ dX1_begin_30 (P_row (q0 := 1) (g := vI nbFirst) hP rfl (fun k hk => by simp only [vI]; rw [if_pos (by omega)])) hS
    | succ n ih =>
      intro i hm H locs ls hP hD hS hl
      refine lv_iload_n hx hb dX1_begin_2 rfl (lv_at hl 0 rfl) ?_
      refine lv_iconst (v := iI 4) hx hb dX1_begin_3 rfl ?_
      refine c_geF (tgt := 30) S dX1_begin_4 (by decide) (by omega) (by omega) (by omega) ?_
      refine w_getsN S hZ hAN hS hE.2.2.1.2.2.2.2.2.2.2 dX1_begin_7 ?_
      refine lv_iconst (v := iI 0) hx hb dX1_begin_10 rfl ?_
      refine lv_aload_n hx hb dX1_begin_11 rfl (lv_at hl 1 rfl) ?_
      refine w_get (C := RX1) (T := TX1) (Nf := 1) (ci := 1) (v := .ref kn) S (fun _ h => List.mem_cons_of_mem _ (List.mem_append_right _ h)) hE hP 0 rfl rfl 0 (by decide) (List.mem_of_getElem? (i := 1) rfl) rfl dX1_begin_12 ?_
      refine lv_iload_n hx hb dX1_begin_15 rfl (lv_at hl 0 rfl) ?_
      refine lv_bipush (v := iI 6) hx hb dX1_begin_16 (by decide) ?_
      refine w_imul S dX1_begin_18 ?_
      refine lv_bipush (v := iI 6) hx hb dX1_begin_19 (by decide) ?_
      refine w_copyT S hE hl.1 (List.mem_of_getElem? (i := 2) rfl) (List.mem_of_getElem? (i := 3) rfl) (List.mem_of_getElem? (i := 4) rfl) (List.mem_of_getElem? (i := 5) rfl) (Nat.le_trans (Nat.le_of_ble_eq_true rfl) hfr) (Nat.le_trans (Nat.le_of_ble_eq_true rfl) hlo) (Nat.le_of_ble_eq_true rfl) hP hD hS hAN hT 1 rfl (by omega) (i * 6) 6 (by omega) (by omega) (by omega) (by omega) dX1_begin_21 (fun H locs hP hD hS => ?_)
      rw [first_s] at hP hD
      refine w_iinc (v := ((i + 1 : Nat) : Int)) (lv' := [(1, .int (iI ((i + 1 : Nat) : Int))), (0, .ref k)]) S dX1_begin_24 hl (k := 0) rfl (by omega) (by decide) rfl (fun ls hl => ?_)
      refine lv_goto (tgt := 2) hx hb dX1_begin_27 (by decide) ?_
      exact ih (i + 1) (by omega) _ _ _ hP hD hS hl
  have h0 : nb = (fun j => if j < 0 * 6 then nbFirst j else nb j) := funext fun j => by simp
  rw [h0] at hP hD
  exact loop 4 0 (by omega) _ _ _ hP hD hS hl
set_option maxHeartbeats 4000000 in
set_option maxRecDepth 100000 in
theorem c_X0_cell (lc : Launch) (D : va_G) (cI cZ : ClassId) (N : Nat) (x : Int) (y : Int)  : CR lc D cI cZ N yX0_cell wsX0_cell (rmK 0 0) [.int (iI (x)), .int (iI (y))] [] (some (.int (iI (x * 5 + y)))) := by
  refine CR.I (cc := cX0_cell) (maxL := 2) (by decide) rfl (Nat.le_of_ble_eq_true rfl) ?_
  intro p e s m args below meth c R Q S hE A hAN hfr hlo hP hD hS hret ls hl
  have S : CallFix p m c cX0_cell 2 s args wsX0_cell RX0 := S
  have hx := S.1
  have hb := S.2.1
  have hl : lv_has ls 2 [(0, .int (iI (x))), (1, .int (iI (y)))] := hl
  refine lv_iload_n hx hb dX0_cell_0 rfl (lv_at hl 0 rfl) ?_
  refine lv_iconst (v := iI (5)) hx hb dX0_cell_1 rfl ?_
  refine w_imul S dX0_cell_2 ?_
  refine lv_iload_n hx hb dX0_cell_3 rfl (lv_at hl 1 rfl) ?_
  refine w_iadd S dX0_cell_4 ?_
  exact hret _ _ _ dX0_cell_5 (congrArg iI (by omega))
set_option maxHeartbeats 4000000 in
set_option maxRecDepth 100000 in
theorem c_X0_begin (lc : Launch) (D : va_G) (cI cZ : ClassId) (N : Nat) (b : Nat) (bm : Nat) (br : Nat) (mo : Nat → Int) (re : Nat → Int)  : CM lc D cI cZ N yX0_begin wsX0_begin (rmK 1 23) [.ref b] [(b, .inr (0, [.ref bm, .ref br])), (bm, .inl (cI, 25, .inl (vI mo))), (br, .inl (cI, 5, .inl (vI re)))] none [(b, .inr (0, [.ref bm, .ref br])), (bm, .inl (cI, 25, .inl (vI (fun _ => 1000000000)))), (br, .inl (cI, 5, .inl (vI re)))] := by
  refine CM.V (cc := cX0_begin) (maxL := 1) (by decide) rfl (Nat.le_of_ble_eq_true rfl) ?_
  intro p e s m args below meth c R Q S hE A hAN hfr hlo hP hD hS hret ls hl
  have S : CallFix p m c cX0_begin 1 s args wsX0_begin RX0 := S
  have hx := S.1
  have hb := S.2.1
  have hl : lv_has ls 1 [(0, .ref b)] := hl
  refine lv_aload_n hx hb dX0_begin_0 rfl (lv_at hl 0 rfl) ?_
  refine w_get (C := RX0) (T := TX0) (Nf := 2) (ci := 0) (v := .ref bm) S (fun _ h => List.mem_cons_of_mem _ (List.mem_append_right _ h)) hE hP 0 rfl rfl 0 (by decide) (List.mem_of_getElem? (i := 1) rfl) rfl dX0_begin_1 ?_
  refine w_ldc (z := 1000000000) S (List.mem_of_getElem? (i := 2) rfl) (by decide) dX0_begin_4 ?_
  refine kS_M (n := 2) S (c_fill lc D cI cZ N bm 25 mo 1000000000 (by omega)) gX0_begin_J7_fill_53178 rfl (by decide +kernel) rfl rfl ⟨Nat.le_trans (Nat.le_of_ble_eq_true rfl) hfr, Nat.le_trans (Nat.le_of_ble_eq_true rfl) hlo⟩ hE hAN hP hD hS [1] rfl (by decide) rfl rfl hl.1 [] rfl (Nat.le_of_ble_eq_true rfl) dX0_begin_6 ⟨Nat.zero_le _, Nat.zero_le _⟩ (fun H locs hP hD hS => ?_)
  have hP : va_P D vwCl [(b, .inr (0, [.ref bm, .ref br])), (bm, .inl (cI, 25, .inl (vI (fun _ => 1000000000)))), (br, .inl (cI, 5, .inl (vI re)))] H := hP
  have hD : va_D A [(b, .inr (0, [.ref bm, .ref br])), (bm, .inl (cI, 25, .inl (vI (fun _ => 1000000000)))), (br, .inl (cI, 5, .inl (vI re)))] := hD
  refine W.eq (g2 := F0 m 9 ls []) rfl ?_
  exact hret _ _ _ _ dX0_begin_9 hP hS
set_option maxHeartbeats 4000000 in
set_option maxRecDepth 100000 in
theorem c_X0_copyFrom (lc : Launch) (D : va_G) (cI cZ : ClassId) (N : Nat) (b : Nat) (bm : Nat) (br : Nat) (mo : Nat → Int) (re : Nat → Int) (b2 : Nat) (bm2 : Nat) (br2 : Nat) (mo2 : Nat → Int) (re2 : Nat → Int)  : CM lc D cI cZ N yX0_copyFrom wsX0_copyFrom (rmK 1 26) [.ref b, .ref b2] [(b, .inr (0, [.ref bm, .ref br])), (bm, .inl (cI, 25, .inl (vI mo))), (br, .inl (cI, 5, .inl (vI re))), (b2, .inr (0, [.ref bm2, .ref br2])), (bm2, .inl (cI, 25, .inl (vI mo2))), (br2, .inl (cI, 5, .inl (vI re2)))] none [(b, .inr (0, [.ref bm, .ref br])), (bm, .inl (cI, 25, .inl (vI mo2))), (br, .inl (cI, 5, .inl (vI re))), (b2, .inr (0, [.ref bm2, .ref br2])), (bm2, .inl (cI, 25, .inl (vI mo2))), (br2, .inl (cI, 5, .inl (vI re2)))] := by
  refine CM.V (cc := cX0_copyFrom) (maxL := 2) (by decide) rfl (Nat.le_of_ble_eq_true rfl) ?_
  intro p e s m args below meth c R Q S hE A hAN hfr hlo hP hD hS hret ls hl
  have S : CallFix p m c cX0_copyFrom 2 s args wsX0_copyFrom RX0 := S
  have hx := S.1
  have hb := S.2.1
  have hl : lv_has ls 2 [(0, .ref b), (1, .ref b2)] := hl
  refine lv_aload_n hx hb dX0_copyFrom_0 rfl (lv_at hl 1 rfl) ?_
  refine w_get (C := RX0) (T := TX0) (Nf := 2) (ci := 0) (v := .ref bm2) S (fun _ h => List.mem_cons_of_mem _ (List.mem_append_right _ h)) hE hP 3 rfl rfl 0 (by decide) (List.mem_of_getElem? (i := 1) rfl) rfl dX0_copyFrom_1 ?_
  refine lv_iconst (v := iI (0)) hx hb dX0_copyFrom_4 rfl ?_
  refine lv_aload_n hx hb dX0_copyFrom_5 rfl (lv_at hl 0 rfl) ?_
  refine w_get (C := RX0) (T := TX0) (Nf := 2) (ci := 0) (v := .ref bm) S (fun _ h => List.mem_cons_of_mem _ (List.mem_append_right _ h)) hE hP 0 rfl rfl 0 (by decide) (List.mem_of_getElem? (i := 1) rfl) rfl dX0_copyFrom_6 ?_
  refine lv_iconst (v := iI (0)) hx hb dX0_copyFrom_9 rfl ?_
  refine lv_aload_n hx hb dX0_copyFrom_10 rfl (lv_at hl 0 rfl) ?_
  refine w_get (C := RX0) (T := TX0) (Nf := 2) (ci := 0) (v := .ref bm) S (fun _ h => List.mem_cons_of_mem _ (List.mem_append_right _ h)) hE hP 0 rfl rfl 0 (by decide) (List.mem_of_getElem? (i := 1) rfl) rfl dX0_copyFrom_11 ?_
  refine w_alen S hE hP 1 rfl dX0_copyFrom_14 ?_
  refine w_copy S hE hl.1 (List.mem_of_getElem? (i := 2) rfl) (List.mem_of_getElem? (i := 3) rfl) (List.mem_of_getElem? (i := 4) rfl) (List.mem_of_getElem? (i := 5) rfl) (Nat.le_trans (Nat.le_of_ble_eq_true rfl) hfr) (Nat.le_trans (Nat.le_of_ble_eq_true rfl) hlo) (Nat.le_of_ble_eq_true rfl) hP hD hS 4 1 rfl rfl (by decide) (by omega) dX0_copyFrom_15 (fun H locs hP hD hS => ?_)
  have hP : va_P D vwCl [(b, .inr (0, [.ref bm, .ref br])), (bm, .inl (cI, 25, .inl (vI mo2))), (br, .inl (cI, 5, .inl (vI re))), (b2, .inr (0, [.ref bm2, .ref br2])), (bm2, .inl (cI, 25, .inl (vI mo2))), (br2, .inl (cI, 5, .inl (vI re2)))] H := hP
  have hD : va_D A [(b, .inr (0, [.ref bm, .ref br])), (bm, .inl (cI, 25, .inl (vI mo2))), (br, .inl (cI, 5, .inl (vI re))), (b2, .inr (0, [.ref bm2, .ref br2])), (bm2, .inl (cI, 25, .inl (vI mo2))), (br2, .inl (cI, 5, .inl (vI re2)))] := hD
  exact hret _ _ _ _ dX0_copyFrom_18 hP hS
set_option maxHeartbeats 4000000 in
set_option maxRecDepth 100000 in
theorem c_forget (lc : Launch) (D : va_G) (cI cZ : ClassId) (N : Nat) (b : Nat) (bm : Nat) (br : Nat) (mo : Nat → Int) (re : Nat → Int) (n : Nat) (hn : n < 5) : CM lc D cI cZ N yX0_forget wsX0_forget (rmK 1 21) [.ref b, .int (iI (((n : Nat) : Int)))] [(b, .inr (0, [.ref bm, .ref br])), (bm, .inl (cI, 25, .inl (vI mo))), (br, .inl (cI, 5, .inl (vI re)))] none [(b, .inr (0, [.ref bm, .ref br])), (bm, .inl (cI, 25, .inl (vI (fgt mo n 5)))), (br, .inl (cI, 5, .inl (vI re)))] := by
  refine CM.V (cc := cX0_forget) (maxL := 3) (by decide) rfl (Nat.le_of_ble_eq_true rfl) ?_
  intro p e s m args below meth c R Q S hE A hAN hfr hlo hP hD hS hret ls hl
  have S : CallFix p m c cX0_forget 3 s args wsX0_forget RX0 := S
  have hx := S.1
  have hb := S.2.1
  have hl : lv_has ls 3 [(0, .ref b), (1, .int (iI (((n : Nat) : Int))))] := hl
  refine lv_iconst (v := iI (0)) hx hb dX0_forget_0 rfl ?_
  refine lv_istore_n (lv' := [(2, .int (iI (0))), (0, .ref b), (1, .int (iI (((n : Nat) : Int))))]) hx hb dX0_forget_1 rfl hl (by decide) rfl (fun ls hl => ?_)
  have loop1 : ∀ (q i : Nat) , i + q = 5 → ∀ (H : Heap) (locs : List Loc) (ls : Array Slot), va_P D vwCl [(b, .inr (0, [.ref bm, .ref br])), (bm, .inl (cI, 25, .inl (vI (fgt mo n i)))), (br, .inl (cI, 5, .inl (vI re)))] H → va_D A [(b, .inr (0, [.ref bm, .ref br])), (bm, .inl (cI, 25, .inl (vI (fgt mo n i)))), (br, .inl (cI, 5, .inl (vI re)))] → va_S A s.heap H locs → lv_has ls 3 [(2, .int (iI (((i : Nat) : Int)))), (0, .ref b), (1, .int (iI (((n : Nat) : Int))))] → W p lc e R s m args below meth c H locs 0 0 Q (F0 m 2 ls []) := by
    intro q
    induction q with
    | zero =>
      intro i  hm  H locs ls hP hD hS hl
      refine lv_iload_n hx hb dX0_forget_2 rfl (lv_at hl 0 rfl) ?_
      refine lv_iconst (v := iI (5)) hx hb dX0_forget_3 rfl ?_
      refine c_geT (tgt := 37) S dX0_forget_4 (by decide) (by omega) (by omega) (by omega) ?_
      have hi5 : i = 5 := by omega
      subst hi5
      exact hret _ _ _ _ dX0_forget_37 hP hS
    | succ q ih1 =>
      intro i  hm  H locs ls hP hD hS hl
      refine lv_iload_n hx hb dX0_forget_2 rfl (lv_at hl 0 rfl) ?_
      refine lv_iconst (v := iI (5)) hx hb dX0_forget_3 rfl ?_
      refine c_geF (tgt := 37) S dX0_forget_4 (by decide) (by omega) (by omega) (by omega) ?_
      refine lv_aload_n hx hb dX0_forget_7 rfl (lv_at hl 1 rfl) ?_
      refine w_get (C := RX0) (T := TX0) (Nf := 2) (ci := 0) (v := .ref bm) S (fun _ h => List.mem_cons_of_mem _ (List.mem_append_right _ h)) hE hP 0 rfl rfl 0 (by decide) (List.mem_of_getElem? (i := 1) rfl) rfl dX0_forget_8 ?_
      refine lv_iload_n hx hb dX0_forget_11 rfl (lv_at hl 2 rfl) ?_
      refine lv_iload_n hx hb dX0_forget_12 rfl (lv_at hl 0 rfl) ?_
      refine kS_R (n := 2) S (c_X0_cell lc D cI cZ N ((n : Nat) : Int) ((i : Nat) : Int) ) gX0_forget_X0_cell rfl (by decide +kernel) rfl rfl ⟨Nat.le_trans (Nat.le_of_ble_eq_true rfl) hfr, Nat.le_trans (Nat.le_of_ble_eq_true rfl) hlo⟩ hE hAN hP hD hS [] rfl (by decide) rfl hl.1 [.ref bm] rfl (Nat.le_of_ble_eq_true rfl) dX0_forget_13 ⟨Nat.zero_le _, Nat.zero_le _⟩ ?_
      refine W.eq (g2 := F0 m 16 ls [.int (iI (((n : Nat) : Int) * 5 + ((i : Nat) : Int))), .ref bm]) rfl ?_
      refine w_ldc (z := 1000000000) S (List.mem_of_getElem? (i := 2) rfl) (by decide) dX0_forget_16 ?_
      refine w_iast S hE hP hD hS 1 rfl (n * 5 + i) (by omega) (by omega) (by omega) dX0_forget_18 (fun H locs hP hD hS => ?_)
      have hP : va_P D vwCl [(b, .inr (0, [.ref bm, .ref br])), (bm, .inl (cI, 25, .inl (vI (updI (fgt mo n i) (n * 5 + i) 1000000000)))), (br, .inl (cI, 5, .inl (vI re)))] H := hP
      have hD : va_D A [(b, .inr (0, [.ref bm, .ref br])), (bm, .inl (cI, 25, .inl (vI (updI (fgt mo n i) (n * 5 + i) 1000000000)))), (br, .inl (cI, 5, .inl (vI re)))] := hD
      refine lv_aload_n hx hb dX0_forget_19 rfl (lv_at hl 1 rfl) ?_
      refine w_get (C := RX0) (T := TX0) (Nf := 2) (ci := 0) (v := .ref bm) S (fun _ h => List.mem_cons_of_mem _ (List.mem_append_right _ h)) hE hP 0 rfl rfl 0 (by decide) (List.mem_of_getElem? (i := 1) rfl) rfl dX0_forget_20 ?_
      refine lv_iload_n hx hb dX0_forget_23 rfl (lv_at hl 0 rfl) ?_
      refine lv_iload_n hx hb dX0_forget_24 rfl (lv_at hl 2 rfl) ?_
      refine kS_R (n := 2) S (c_X0_cell lc D cI cZ N ((i : Nat) : Int) ((n : Nat) : Int) ) gX0_forget_X0_cell rfl (by decide +kernel) rfl rfl ⟨Nat.le_trans (Nat.le_of_ble_eq_true rfl) hfr, Nat.le_trans (Nat.le_of_ble_eq_true rfl) hlo⟩ hE hAN hP hD hS [] rfl (by decide) rfl hl.1 [.ref bm] rfl (Nat.le_of_ble_eq_true rfl) dX0_forget_25 ⟨Nat.zero_le _, Nat.zero_le _⟩ ?_
      refine W.eq (g2 := F0 m 28 ls [.int (iI (((i : Nat) : Int) * 5 + ((n : Nat) : Int))), .ref bm]) rfl ?_
      refine w_ldc (z := 1000000000) S (List.mem_of_getElem? (i := 2) rfl) (by decide) dX0_forget_28 ?_
      refine w_iast S hE hP hD hS 1 rfl (i * 5 + n) (by omega) (by omega) (by omega) dX0_forget_30 (fun H locs hP hD hS => ?_)
      have hP : va_P D vwCl [(b, .inr (0, [.ref bm, .ref br])), (bm, .inl (cI, 25, .inl (vI (updI (updI (fgt mo n i) (n * 5 + i) 1000000000) (i * 5 + n) 1000000000)))), (br, .inl (cI, 5, .inl (vI re)))] H := hP
      have hD : va_D A [(b, .inr (0, [.ref bm, .ref br])), (bm, .inl (cI, 25, .inl (vI (updI (updI (fgt mo n i) (n * 5 + i) 1000000000) (i * 5 + n) 1000000000)))), (br, .inl (cI, 5, .inl (vI re)))] := hD
      refine w_iinc (v := ((i + 1 : Nat) : Int)) (lv' := [(2, .int (iI (((i + 1 : Nat) : Int)))), (0, .ref b), (1, .int (iI (((n : Nat) : Int))))]) S dX0_forget_31 hl (k := 0) rfl (by omega) (by decide) rfl (fun ls hl => ?_)
      refine lv_goto (tgt := 2) hx hb dX0_forget_34 (by decide) ?_
      have hcell : updI (updI (fgt mo n i) (n * 5 + i) 1000000000) (i * 5 + n) 1000000000 = fgt mo n (i + 1) := (fgt_s mo n i hn (by omega))
      rw [hcell] at hP hD
      exact ih1 (i + 1)  (by omega)  _ _ _ hP hD hS (lv_sub hl [0, 1, 2] rfl)
  have hcell : mo = fgt mo n 0 := (fgt_0 mo n)
  rw [hcell] at hP hD
  exact loop1 5 0  (by omega)  _ _ _ hP hD hS (lv_sub hl [0, 1, 2] rfl)
set_option maxHeartbeats 4000000 in
set_option maxRecDepth 100000 in
theorem c_narrow (lc : Launch) (D : va_G) (cI cZ : ClassId) (N : Nat) (b : Nat) (bm : Nat) (br : Nat) (mo : Nat → Int) (re : Nat → Int) (f : Nat) (g : Nat) (x : Int) (y : Int) (hf : f < 5) (hg : g < 5) (hmo : ∀ k, k < 25 → -1000 ≤ mo k ∧ mo k ≤ 1000000000) (hx1 : -100000 ≤ x ∧ x ≤ 100000) (hy1 : -100000 ≤ y ∧ y ≤ 100000) : CM lc D cI cZ N yX0_narrow wsX0_narrow (rmK 1 21) [.ref b, .int (iI (((f : Nat) : Int))), .int (iI (((g : Nat) : Int))), .int (iI (x)), .int (iI (y))] [(b, .inr (0, [.ref bm, .ref br])), (bm, .inl (cI, 25, .inl (vI mo))), (br, .inl (cI, 5, .inl (vI re)))] none [(b, .inr (0, [.ref bm, .ref br])), (bm, .inl (cI, 25, .inl (vI (nrw mo f g x y)))), (br, .inl (cI, 5, .inl (vI re)))] := by
  refine CM.V (cc := cX0_narrow) (maxL := 5) (by decide) rfl (Nat.le_of_ble_eq_true rfl) ?_
  intro p e s m args below meth c R Q S hE A hAN hfr hlo hP hD hS hret ls hl
  have S : CallFix p m c cX0_narrow 5 s args wsX0_narrow RX0 := S
  have hx := S.1
  have hb := S.2.1
  have hl : lv_has ls 5 [(0, .ref b), (1, .int (iI (((f : Nat) : Int)))), (2, .int (iI (((g : Nat) : Int)))), (3, .int (iI (x))), (4, .int (iI (y)))] := hl
  have h1 := hmo (f * 5 + g) (by omega)
  have h2 := hmo (g * 5 + f) (by omega)
  have h3 : -100000 ≤ updI mo (f * 5 + g) (if x < mo (f * 5 + g) then x else mo (f * 5 + g)) (g * 5 + f) ∧ updI mo (f * 5 + g) (if x < mo (f * 5 + g) then x else mo (f * 5 + g)) (g * 5 + f) ≤ 1000000000 := by
    unfold updI
    split
    · split <;> omega
    · omega
  refine lv_aload_n hx hb dX0_narrow_0 rfl (lv_at hl 0 rfl) ?_
  refine w_get (C := RX0) (T := TX0) (Nf := 2) (ci := 0) (v := .ref bm) S (fun _ h => List.mem_cons_of_mem _ (List.mem_append_right _ h)) hE hP 0 rfl rfl 0 (by decide) (List.mem_of_getElem? (i := 1) rfl) rfl dX0_narrow_1 ?_
  refine lv_iload_n hx hb dX0_narrow_4 rfl (lv_at hl 1 rfl) ?_
  refine lv_iload_n hx hb dX0_narrow_5 rfl (lv_at hl 2 rfl) ?_
  refine kS_R (n := 2) S (c_X0_cell lc D cI cZ N ((f : Nat) : Int) ((g : Nat) : Int) ) gX0_narrow_X0_cell rfl (by decide +kernel) rfl rfl ⟨Nat.le_trans (Nat.le_of_ble_eq_true rfl) hfr, Nat.le_trans (Nat.le_of_ble_eq_true rfl) hlo⟩ hE hAN hP hD hS [] rfl (by decide) rfl hl.1 [.ref bm] rfl (Nat.le_of_ble_eq_true rfl) dX0_narrow_6 ⟨Nat.zero_le _, Nat.zero_le _⟩ ?_
  refine W.eq (g2 := F0 m 9 ls [.int (iI (((f : Nat) : Int) * 5 + ((g : Nat) : Int))), .ref bm]) rfl ?_
  refine lv_aload_n hx hb dX0_narrow_9 rfl (lv_at hl 0 rfl) ?_
  refine w_get (C := RX0) (T := TX0) (Nf := 2) (ci := 0) (v := .ref bm) S (fun _ h => List.mem_cons_of_mem _ (List.mem_append_right _ h)) hE hP 0 rfl rfl 0 (by decide) (List.mem_of_getElem? (i := 1) rfl) rfl dX0_narrow_10 ?_
  refine lv_iload_n hx hb dX0_narrow_13 rfl (lv_at hl 1 rfl) ?_
  refine lv_iload_n hx hb dX0_narrow_14 rfl (lv_at hl 2 rfl) ?_
  refine kS_R (n := 2) S (c_X0_cell lc D cI cZ N ((f : Nat) : Int) ((g : Nat) : Int) ) gX0_narrow_X0_cell rfl (by decide +kernel) rfl rfl ⟨Nat.le_trans (Nat.le_of_ble_eq_true rfl) hfr, Nat.le_trans (Nat.le_of_ble_eq_true rfl) hlo⟩ hE hAN hP hD hS [] rfl (by decide) rfl hl.1 [.ref bm, .int (iI (((f : Nat) : Int) * 5 + ((g : Nat) : Int))), .ref bm] rfl (Nat.le_of_ble_eq_true rfl) dX0_narrow_15 ⟨Nat.zero_le _, Nat.zero_le _⟩ ?_
  refine W.eq (g2 := F0 m 18 ls [.int (iI (((f : Nat) : Int) * 5 + ((g : Nat) : Int))), .ref bm, .int (iI (((f : Nat) : Int) * 5 + ((g : Nat) : Int))), .ref bm]) rfl ?_
  refine w_iald S hE hP 1 rfl (f * 5 + g) (by omega) (by omega) (by omega) dX0_narrow_18 ?_
  refine lv_iload_n hx hb dX0_narrow_19 rfl (lv_at hl 3 rfl) ?_
  refine w_min S hl.1 (List.mem_of_getElem? (i := 2) rfl) (List.mem_of_getElem? (i := 3) rfl) (List.mem_of_getElem? (i := 4) rfl) (List.mem_of_getElem? (i := 5) rfl) (Nat.le_trans (Nat.le_of_ble_eq_true rfl) hfr) (Nat.le_trans (Nat.le_of_ble_eq_true rfl) hlo) (Nat.le_of_ble_eq_true rfl) (by omega) (by omega) dX0_narrow_20 ?_
  refine w_iast S hE hP hD hS 1 rfl (f * 5 + g) (by omega) (by omega) (by omega) dX0_narrow_23 (fun H locs hP hD hS => ?_)
  have hP : va_P D vwCl [(b, .inr (0, [.ref bm, .ref br])), (bm, .inl (cI, 25, .inl (vI (updI mo (f * 5 + g) (if x < mo (f * 5 + g) then x else mo (f * 5 + g)))))), (br, .inl (cI, 5, .inl (vI re)))] H := hP
  have hD : va_D A [(b, .inr (0, [.ref bm, .ref br])), (bm, .inl (cI, 25, .inl (vI (updI mo (f * 5 + g) (if x < mo (f * 5 + g) then x else mo (f * 5 + g)))))), (br, .inl (cI, 5, .inl (vI re)))] := hD
  refine lv_aload_n hx hb dX0_narrow_24 rfl (lv_at hl 0 rfl) ?_
  refine w_get (C := RX0) (T := TX0) (Nf := 2) (ci := 0) (v := .ref bm) S (fun _ h => List.mem_cons_of_mem _ (List.mem_append_right _ h)) hE hP 0 rfl rfl 0 (by decide) (List.mem_of_getElem? (i := 1) rfl) rfl dX0_narrow_25 ?_
  refine lv_iload_n hx hb dX0_narrow_28 rfl (lv_at hl 2 rfl) ?_
  refine lv_iload_n hx hb dX0_narrow_29 rfl (lv_at hl 1 rfl) ?_
  refine kS_R (n := 2) S (c_X0_cell lc D cI cZ N ((g : Nat) : Int) ((f : Nat) : Int) ) gX0_narrow_X0_cell rfl (by decide +kernel) rfl rfl ⟨Nat.le_trans (Nat.le_of_ble_eq_true rfl) hfr, Nat.le_trans (Nat.le_of_ble_eq_true rfl) hlo⟩ hE hAN hP hD hS [] rfl (by decide) rfl hl.1 [.ref bm] rfl (Nat.le_of_ble_eq_true rfl) dX0_narrow_30 ⟨Nat.zero_le _, Nat.zero_le _⟩ ?_
  refine W.eq (g2 := F0 m 33 ls [.int (iI (((g : Nat) : Int) * 5 + ((f : Nat) : Int))), .ref bm]) rfl ?_
  refine lv_aload_n hx hb dX0_narrow_33 rfl (lv_at hl 0 rfl) ?_
  refine w_get (C := RX0) (T := TX0) (Nf := 2) (ci := 0) (v := .ref bm) S (fun _ h => List.mem_cons_of_mem _ (List.mem_append_right _ h)) hE hP 0 rfl rfl 0 (by decide) (List.mem_of_getElem? (i := 1) rfl) rfl dX0_narrow_34 ?_
  refine lv_iload_n hx hb dX0_narrow_37 rfl (lv_at hl 2 rfl) ?_
  refine lv_iload_n hx hb dX0_narrow_38 rfl (lv_at hl 1 rfl) ?_
  refine kS_R (n := 2) S (c_X0_cell lc D cI cZ N ((g : Nat) : Int) ((f : Nat) : Int) ) gX0_narrow_X0_cell rfl (by decide +kernel) rfl rfl ⟨Nat.le_trans (Nat.le_of_ble_eq_true rfl) hfr, Nat.le_trans (Nat.le_of_ble_eq_true rfl) hlo⟩ hE hAN hP hD hS [] rfl (by decide) rfl hl.1 [.ref bm, .int (iI (((g : Nat) : Int) * 5 + ((f : Nat) : Int))), .ref bm] rfl (Nat.le_of_ble_eq_true rfl) dX0_narrow_39 ⟨Nat.zero_le _, Nat.zero_le _⟩ ?_
  refine W.eq (g2 := F0 m 42 ls [.int (iI (((g : Nat) : Int) * 5 + ((f : Nat) : Int))), .ref bm, .int (iI (((g : Nat) : Int) * 5 + ((f : Nat) : Int))), .ref bm]) rfl ?_
  refine w_iald S hE hP 1 rfl (g * 5 + f) (by omega) (by omega) (by omega) dX0_narrow_42 ?_
  refine lv_iload hx hb dX0_narrow_43 (lv_at hl 4 rfl) ?_
  refine w_ineg S dX0_narrow_45 ?_
  refine w_min S hl.1 (List.mem_of_getElem? (i := 2) rfl) (List.mem_of_getElem? (i := 3) rfl) (List.mem_of_getElem? (i := 4) rfl) (List.mem_of_getElem? (i := 5) rfl) (Nat.le_trans (Nat.le_of_ble_eq_true rfl) hfr) (Nat.le_trans (Nat.le_of_ble_eq_true rfl) hlo) (Nat.le_of_ble_eq_true rfl) (by omega) (by omega) dX0_narrow_46 ?_
  refine w_iast S hE hP hD hS 1 rfl (g * 5 + f) (by omega) (by omega) (by omega) dX0_narrow_49 (fun H locs hP hD hS => ?_)
  have hP : va_P D vwCl [(b, .inr (0, [.ref bm, .ref br])), (bm, .inl (cI, 25, .inl (vI (updI (updI mo (f * 5 + g) (if x < mo (f * 5 + g) then x else mo (f * 5 + g))) (g * 5 + f) (if -y < (updI mo (f * 5 + g) (if x < mo (f * 5 + g) then x else mo (f * 5 + g))) (g * 5 + f) then -y else (updI mo (f * 5 + g) (if x < mo (f * 5 + g) then x else mo (f * 5 + g))) (g * 5 + f)))))), (br, .inl (cI, 5, .inl (vI re)))] H := hP
  have hD : va_D A [(b, .inr (0, [.ref bm, .ref br])), (bm, .inl (cI, 25, .inl (vI (updI (updI mo (f * 5 + g) (if x < mo (f * 5 + g) then x else mo (f * 5 + g))) (g * 5 + f) (if -y < (updI mo (f * 5 + g) (if x < mo (f * 5 + g) then x else mo (f * 5 + g))) (g * 5 + f) then -y else (updI mo (f * 5 + g) (if x < mo (f * 5 + g) then x else mo (f * 5 + g))) (g * 5 + f)))))), (br, .inl (cI, 5, .inl (vI re)))] := hD
  exact hret _ _ _ _ dX0_narrow_50 hP hS
set_option maxHeartbeats 4000000 in
set_option maxRecDepth 100000 in
theorem c_hasBoth_T (lc : Launch) (D : va_G) (cI cZ : ClassId) (N : Nat) (b : Nat) (bm : Nat) (br : Nat) (mo : Nat → Int) (re : Nat → Int) (f : Nat) (g : Nat) (hf : f < 5) (hg : g < 5) (hmo : ∀ k, k < 25 → -1000 ≤ mo k ∧ mo k ≤ 1000000000) (h : mo (f * 5 + g) ≠ 1000000000) : CR lc D cI cZ N yX0_hasBoth wsX0_hasBoth (rmK 1 21) [.ref b, .int (iI (((f : Nat) : Int))), .int (iI (((g : Nat) : Int)))] [(b, .inr (0, [.ref bm, .ref br])), (bm, .inl (cI, 25, .inl (vI mo))), (br, .inl (cI, 5, .inl (vI re)))] (some (.int (iI (1)))) := by
  refine CR.Z (cc := cX0_hasBoth) (maxL := 3) (by decide) rfl (Nat.le_of_ble_eq_true rfl) ?_
  intro p e s m args below meth c R Q S hE A hAN hfr hlo hP hD hS hret ls hl
  have S : CallFix p m c cX0_hasBoth 3 s args wsX0_hasBoth RX0 := S
  have hx := S.1
  have hb := S.2.1
  have hl : lv_has ls 3 [(0, .ref b), (1, .int (iI (((f : Nat) : Int)))), (2, .int (iI (((g : Nat) : Int))))] := hl
  have h1 := hmo (f * 5 + g) (by omega)
  refine lv_aload_n hx hb dX0_hasBoth_0 rfl (lv_at hl 0 rfl) ?_
  refine w_get (C := RX0) (T := TX0) (Nf := 2) (ci := 0) (v := .ref bm) S (fun _ h => List.mem_cons_of_mem _ (List.mem_append_right _ h)) hE hP 0 rfl rfl 0 (by decide) (List.mem_of_getElem? (i := 1) rfl) rfl dX0_hasBoth_1 ?_
  refine lv_iload_n hx hb dX0_hasBoth_4 rfl (lv_at hl 1 rfl) ?_
  refine lv_iload_n hx hb dX0_hasBoth_5 rfl (lv_at hl 2 rfl) ?_
  refine kS_R (n := 2) S (c_X0_cell lc D cI cZ N ((f : Nat) : Int) ((g : Nat) : Int) ) gX0_hasBoth_X0_cell rfl (by decide +kernel) rfl rfl ⟨Nat.le_trans (Nat.le_of_ble_eq_true rfl) hfr, Nat.le_trans (Nat.le_of_ble_eq_true rfl) hlo⟩ hE hAN hP hD hS [] rfl (by decide) rfl hl.1 [.ref bm] rfl (Nat.le_of_ble_eq_true rfl) dX0_hasBoth_6 ⟨Nat.zero_le _, Nat.zero_le _⟩ ?_
  refine W.eq (g2 := F0 m 9 ls [.int (iI (((f : Nat) : Int) * 5 + ((g : Nat) : Int))), .ref bm]) rfl ?_
  refine w_iald S hE hP 1 rfl (f * 5 + g) (by omega) (by omega) (by omega) dX0_hasBoth_9 ?_
  refine w_ldc (z := 1000000000) S (List.mem_of_getElem? (i := 2) rfl) (by decide) dX0_hasBoth_10 ?_
  refine c_eqF (tgt := 19) S dX0_hasBoth_12 (by decide) (by omega) (by omega) (by omega) ?_
  refine lv_iconst (v := iI (1)) hx hb dX0_hasBoth_15 rfl ?_
  refine lv_goto (tgt := 20) hx hb dX0_hasBoth_16 (by decide) ?_
  exact hret _ _ _ dX0_hasBoth_20 rfl (Or.inr rfl)
set_option maxHeartbeats 4000000 in
set_option maxRecDepth 100000 in
theorem c_hasBoth_F (lc : Launch) (D : va_G) (cI cZ : ClassId) (N : Nat) (b : Nat) (bm : Nat) (br : Nat) (mo : Nat → Int) (re : Nat → Int) (f : Nat) (g : Nat) (hf : f < 5) (hg : g < 5) (h : mo (f * 5 + g) = 1000000000) : CR lc D cI cZ N yX0_hasBoth wsX0_hasBoth (rmK 1 21) [.ref b, .int (iI (((f : Nat) : Int))), .int (iI (((g : Nat) : Int)))] [(b, .inr (0, [.ref bm, .ref br])), (bm, .inl (cI, 25, .inl (vI mo))), (br, .inl (cI, 5, .inl (vI re)))] (some (.int (iI (0)))) := by
  refine CR.Z (cc := cX0_hasBoth) (maxL := 3) (by decide) rfl (Nat.le_of_ble_eq_true rfl) ?_
  intro p e s m args below meth c R Q S hE A hAN hfr hlo hP hD hS hret ls hl
  have S : CallFix p m c cX0_hasBoth 3 s args wsX0_hasBoth RX0 := S
  have hx := S.1
  have hb := S.2.1
  have hl : lv_has ls 3 [(0, .ref b), (1, .int (iI (((f : Nat) : Int)))), (2, .int (iI (((g : Nat) : Int))))] := hl
  refine lv_aload_n hx hb dX0_hasBoth_0 rfl (lv_at hl 0 rfl) ?_
  refine w_get (C := RX0) (T := TX0) (Nf := 2) (ci := 0) (v := .ref bm) S (fun _ h => List.mem_cons_of_mem _ (List.mem_append_right _ h)) hE hP 0 rfl rfl 0 (by decide) (List.mem_of_getElem? (i := 1) rfl) rfl dX0_hasBoth_1 ?_
  refine lv_iload_n hx hb dX0_hasBoth_4 rfl (lv_at hl 1 rfl) ?_
  refine lv_iload_n hx hb dX0_hasBoth_5 rfl (lv_at hl 2 rfl) ?_
  refine kS_R (n := 2) S (c_X0_cell lc D cI cZ N ((f : Nat) : Int) ((g : Nat) : Int) ) gX0_hasBoth_X0_cell rfl (by decide +kernel) rfl rfl ⟨Nat.le_trans (Nat.le_of_ble_eq_true rfl) hfr, Nat.le_trans (Nat.le_of_ble_eq_true rfl) hlo⟩ hE hAN hP hD hS [] rfl (by decide) rfl hl.1 [.ref bm] rfl (Nat.le_of_ble_eq_true rfl) dX0_hasBoth_6 ⟨Nat.zero_le _, Nat.zero_le _⟩ ?_
  refine W.eq (g2 := F0 m 9 ls [.int (iI (((f : Nat) : Int) * 5 + ((g : Nat) : Int))), .ref bm]) rfl ?_
  refine w_iald S hE hP 1 rfl (f * 5 + g) (by omega) (by omega) (by omega) dX0_hasBoth_9 ?_
  refine w_ldc (z := 1000000000) S (List.mem_of_getElem? (i := 2) rfl) (by decide) dX0_hasBoth_10 ?_
  refine c_eqT (tgt := 19) S dX0_hasBoth_12 (by decide) (by omega) ?_
  refine lv_iconst (v := iI (0)) hx hb dX0_hasBoth_19 rfl ?_
  exact hret _ _ _ dX0_hasBoth_20 rfl (Or.inl rfl)
set_option maxHeartbeats 4000000 in
set_option maxRecDepth 100000 in
theorem c_high (lc : Launch) (D : va_G) (cI cZ : ClassId) (N : Nat) (b : Nat) (bm : Nat) (br : Nat) (mo : Nat → Int) (re : Nat → Int) (f : Nat) (g : Nat) (hf : f < 5) (hg : g < 5) : CR lc D cI cZ N yX0_high wsX0_high (rmK 1 21) [.ref b, .int (iI (((f : Nat) : Int))), .int (iI (((g : Nat) : Int)))] [(b, .inr (0, [.ref bm, .ref br])), (bm, .inl (cI, 25, .inl (vI mo))), (br, .inl (cI, 5, .inl (vI re)))] (some (.int (iI (mo (f * 5 + g))))) := by
  refine CR.I (cc := cX0_high) (maxL := 3) (by decide) rfl (Nat.le_of_ble_eq_true rfl) ?_
  intro p e s m args below meth c R Q S hE A hAN hfr hlo hP hD hS hret ls hl
  have S : CallFix p m c cX0_high 3 s args wsX0_high RX0 := S
  have hx := S.1
  have hb := S.2.1
  have hl : lv_has ls 3 [(0, .ref b), (1, .int (iI (((f : Nat) : Int)))), (2, .int (iI (((g : Nat) : Int))))] := hl
  refine lv_aload_n hx hb dX0_high_0 rfl (lv_at hl 0 rfl) ?_
  refine w_get (C := RX0) (T := TX0) (Nf := 2) (ci := 0) (v := .ref bm) S (fun _ h => List.mem_cons_of_mem _ (List.mem_append_right _ h)) hE hP 0 rfl rfl 0 (by decide) (List.mem_of_getElem? (i := 1) rfl) rfl dX0_high_1 ?_
  refine lv_iload_n hx hb dX0_high_4 rfl (lv_at hl 1 rfl) ?_
  refine lv_iload_n hx hb dX0_high_5 rfl (lv_at hl 2 rfl) ?_
  refine kS_R (n := 2) S (c_X0_cell lc D cI cZ N ((f : Nat) : Int) ((g : Nat) : Int) ) gX0_high_X0_cell rfl (by decide +kernel) rfl rfl ⟨Nat.le_trans (Nat.le_of_ble_eq_true rfl) hfr, Nat.le_trans (Nat.le_of_ble_eq_true rfl) hlo⟩ hE hAN hP hD hS [] rfl (by decide) rfl hl.1 [.ref bm] rfl (Nat.le_of_ble_eq_true rfl) dX0_high_6 ⟨Nat.zero_le _, Nat.zero_le _⟩ ?_
  refine W.eq (g2 := F0 m 9 ls [.int (iI (((f : Nat) : Int) * 5 + ((g : Nat) : Int))), .ref bm]) rfl ?_
  refine w_iald S hE hP 1 rfl (f * 5 + g) (by omega) (by omega) (by omega) dX0_high_9 ?_
  exact hret _ _ _ dX0_high_10 rfl
set_option maxHeartbeats 4000000 in
set_option maxRecDepth 100000 in
theorem c_low (lc : Launch) (D : va_G) (cI cZ : ClassId) (N : Nat) (b : Nat) (bm : Nat) (br : Nat) (mo : Nat → Int) (re : Nat → Int) (f : Nat) (g : Nat) (hf : f < 5) (hg : g < 5) : CR lc D cI cZ N yX0_low wsX0_low (rmK 1 21) [.ref b, .int (iI (((f : Nat) : Int))), .int (iI (((g : Nat) : Int)))] [(b, .inr (0, [.ref bm, .ref br])), (bm, .inl (cI, 25, .inl (vI mo))), (br, .inl (cI, 5, .inl (vI re)))] (some (.int (iI (-(mo (g * 5 + f)))))) := by
  refine CR.I (cc := cX0_low) (maxL := 3) (by decide) rfl (Nat.le_of_ble_eq_true rfl) ?_
  intro p e s m args below meth c R Q S hE A hAN hfr hlo hP hD hS hret ls hl
  have S : CallFix p m c cX0_low 3 s args wsX0_low RX0 := S
  have hx := S.1
  have hb := S.2.1
  have hl : lv_has ls 3 [(0, .ref b), (1, .int (iI (((f : Nat) : Int)))), (2, .int (iI (((g : Nat) : Int))))] := hl
  refine lv_aload_n hx hb dX0_low_0 rfl (lv_at hl 0 rfl) ?_
  refine w_get (C := RX0) (T := TX0) (Nf := 2) (ci := 0) (v := .ref bm) S (fun _ h => List.mem_cons_of_mem _ (List.mem_append_right _ h)) hE hP 0 rfl rfl 0 (by decide) (List.mem_of_getElem? (i := 1) rfl) rfl dX0_low_1 ?_
  refine lv_iload_n hx hb dX0_low_4 rfl (lv_at hl 2 rfl) ?_
  refine lv_iload_n hx hb dX0_low_5 rfl (lv_at hl 1 rfl) ?_
  refine kS_R (n := 2) S (c_X0_cell lc D cI cZ N ((g : Nat) : Int) ((f : Nat) : Int) ) gX0_low_X0_cell rfl (by decide +kernel) rfl rfl ⟨Nat.le_trans (Nat.le_of_ble_eq_true rfl) hfr, Nat.le_trans (Nat.le_of_ble_eq_true rfl) hlo⟩ hE hAN hP hD hS [] rfl (by decide) rfl hl.1 [.ref bm] rfl (Nat.le_of_ble_eq_true rfl) dX0_low_6 ⟨Nat.zero_le _, Nat.zero_le _⟩ ?_
  refine W.eq (g2 := F0 m 9 ls [.int (iI (((g : Nat) : Int) * 5 + ((f : Nat) : Int))), .ref bm]) rfl ?_
  refine w_iald S hE hP 1 rfl (g * 5 + f) (by omega) (by omega) (by omega) dX0_low_9 ?_
  refine w_ineg S dX0_low_10 ?_
  exact hret _ _ _ dX0_low_11 rfl
set_option maxHeartbeats 4000000 in
set_option maxRecDepth 100000 in
theorem c_X0_pairs (lc : Launch) (D : va_G) (cI cZ : ClassId) (N : Nat) (b : Nat) (bm : Nat) (br : Nat) (mo : Nat → Int) (re : Nat → Int) (hmo : ∀ k, k < 25 → -1000 ≤ mo k ∧ mo k ≤ 1000000000) : CR lc D cI cZ N yX0_pairs wsX0_pairs (rmK 2 43) [.ref b] [(b, .inr (0, [.ref bm, .ref br])), (bm, .inl (cI, 25, .inl (vI mo))), (br, .inl (cI, 5, .inl (vI re)))] (some (.int (iI (prO mo 5)))) := by
  refine CR.I (cc := cX0_pairs) (maxL := 4) (by decide) rfl (Nat.le_of_ble_eq_true rfl) ?_
  intro p e s m args below meth c R Q S hE A hAN hfr hlo hP hD hS hret ls hl
  have S : CallFix p m c cX0_pairs 4 s args wsX0_pairs RX0 := S
  have hx := S.1
  have hb := S.2.1
  have hl : lv_has ls 4 [(0, .ref b)] := hl
  refine lv_iconst (v := iI (0)) hx hb dX0_pairs_0 rfl ?_
  refine lv_istore_n (lv' := [(1, .int (iI (0))), (0, .ref b)]) hx hb dX0_pairs_1 rfl hl (by decide) rfl (fun ls hl => ?_)
  refine lv_iconst (v := iI (0)) hx hb dX0_pairs_2 rfl ?_
  refine lv_istore_n (lv' := [(2, .int (iI (0))), (1, .int (iI (0))), (0, .ref b)]) hx hb dX0_pairs_3 rfl hl (by decide) rfl (fun ls hl => ?_)
  have loop2 : ∀ (n f : Nat) , f + n = 5 → ∀ (ls : Array Slot), lv_has ls 4 [(2, .int (iI (((f : Nat) : Int)))), (1, .int (iI (prO mo f))), (0, .ref b)] → W p lc e R s m args below meth c s.heap [] 0 0 Q (F0 m 4 ls []) := by
    intro n
    induction n with
    | zero =>
      intro f  hm  ls hl
      refine lv_iload_n hx hb dX0_pairs_4 rfl (lv_at hl 0 rfl) ?_
      refine lv_iconst (v := iI (5)) hx hb dX0_pairs_5 rfl ?_
      refine c_geT (tgt := 42) S dX0_pairs_6 (by decide) (by omega) (by omega) (by omega) ?_
      refine lv_iload_n hx hb dX0_pairs_42 rfl (lv_at hl 1 rfl) ?_
      exact hret _ _ _ dX0_pairs_43 (by rw [show f = 5 by omega])
    | succ n ih2 =>
      intro f  hm  ls hl
      refine lv_iload_n hx hb dX0_pairs_4 rfl (lv_at hl 0 rfl) ?_
      refine lv_iconst (v := iI (5)) hx hb dX0_pairs_5 rfl ?_
      refine c_geF (tgt := 42) S dX0_pairs_6 (by decide) (by omega) (by omega) (by omega) ?_
      refine lv_iload_n hx hb dX0_pairs_9 rfl (lv_at hl 0 rfl) ?_
      refine lv_iconst (v := iI (1)) hx hb dX0_pairs_10 rfl ?_
      refine w_iadd S dX0_pairs_11 ?_
      refine lv_istore_n (lv' := [(3, .int (iI (((f : Nat) : Int) + 1))), (2, .int (iI (((f : Nat) : Int)))), (1, .int (iI (prO mo f))), (0, .ref b)]) hx hb dX0_pairs_12 rfl hl (by decide) rfl (fun ls hl => ?_)
      have loop3 : ∀ (q j : Nat) , f + 1 + j + q = 5 → ∀ (ls : Array Slot), lv_has ls 4 [(3, .int (iI (((f + 1 + j : Nat) : Int)))), (2, .int (iI (((f : Nat) : Int)))), (1, .int (iI (prO mo f + prI mo f j))), (0, .ref b)] → W p lc e R s m args below meth c s.heap [] 0 0 Q (F0 m 13 ls []) := by
        intro q
        induction q with
        | zero =>
          intro j  hm  ls hl
          refine lv_iload_n hx hb dX0_pairs_13 rfl (lv_at hl 0 rfl) ?_
          refine lv_iconst (v := iI (5)) hx hb dX0_pairs_14 rfl ?_
          refine c_geT (tgt := 36) S dX0_pairs_15 (by decide) (by omega) (by omega) (by omega) ?_
          refine w_iinc (v := ((f + 1 : Nat) : Int)) (lv' := [(2, .int (iI (((f + 1 : Nat) : Int)))), (3, .int (iI (((f + 1 + j : Nat) : Int)))), (1, .int (iI (prO mo f + prI mo f j))), (0, .ref b)]) S dX0_pairs_36 hl (k := 1) rfl (by omega) (by decide) rfl (fun ls hl => ?_)
          refine lv_goto (tgt := 4) hx hb dX0_pairs_39 (by decide) ?_
          have hloc : (prO mo f + prI mo f j : Int) = prO mo (f + 1) := (by show _ = prO mo f + prI mo f (4 - f); rw [show j = 4 - f by omega])
          rw [hloc] at hl
          exact ih2 (f + 1)  (by omega)  _ (lv_sub hl [0, 2, 3] rfl)
        | succ q ih3 =>
          intro j  hm  ls hl
          refine lv_iload_n hx hb dX0_pairs_13 rfl (lv_at hl 0 rfl) ?_
          refine lv_iconst (v := iI (5)) hx hb dX0_pairs_14 rfl ?_
          refine c_geF (tgt := 36) S dX0_pairs_15 (by decide) (by omega) (by omega) (by omega) ?_
          by_cases h2 : mo (f * 5 + (f + 1 + j)) = 1000000000
          · refine lv_aload_n hx hb dX0_pairs_18 rfl (lv_at hl 3 rfl) ?_
            refine lv_iload_n hx hb dX0_pairs_19 rfl (lv_at hl 1 rfl) ?_
            refine lv_iload_n hx hb dX0_pairs_20 rfl (lv_at hl 0 rfl) ?_
            refine kV_R (n := 2) (ci := 0) (q := (RX0, TX0, 2)) S (c_hasBoth_F lc D cI cZ N b bm br mo re f (f + 1 + j) (by omega) (by omega) (by omega)) gX0_pairs_X0_hasBoth rfl rfl (by decide +kernel) rfl rfl ⟨Nat.le_trans (Nat.le_of_ble_eq_true rfl) hfr, Nat.le_trans (Nat.le_of_ble_eq_true rfl) hlo⟩ hE hAN hP hD hS [0, 1, 2] rfl (by decide) rfl rfl rfl rfl hl.1 [] rfl (Nat.le_of_ble_eq_true rfl) dX0_pairs_21 ⟨Nat.zero_le _, Nat.zero_le _⟩ ?_
            refine W.eq (g2 := F0 m 24 ls [.int (iI (0))]) rfl ?_
            refine b_eqT (tgt := 30) S dX0_pairs_24 (by decide) (by decide) ?_
            refine w_iinc (v := (((f + 1 + j) + 1 : Nat) : Int)) (lv' := [(3, .int (iI ((((f + 1 + j) + 1 : Nat) : Int)))), (2, .int (iI (((f : Nat) : Int)))), (1, .int (iI (prO mo f + prI mo f j))), (0, .ref b)]) S dX0_pairs_30 hl (k := 0) rfl (by omega) (by decide) rfl (fun ls hl => ?_)
            refine lv_goto (tgt := 13) hx hb dX0_pairs_33 (by decide) ?_
            have hloc : ((((f + 1 + j) + 1 : Nat) : Int) : Int) = ((f + 1 + (j + 1) : Nat) : Int) := (by omega)
            rw [hloc] at hl
            have hloc : (prO mo f + prI mo f j : Int) = prO mo f + prI mo f (j + 1) := (by show _ = prO mo f + (prI mo f j + _); rw [if_pos h2]; omega)
            rw [hloc] at hl
            exact ih3 (j + 1)  (by omega)  _ (lv_sub hl [0, 1, 2, 3] rfl)
          · refine lv_aload_n hx hb dX0_pairs_18 rfl (lv_at hl 3 rfl) ?_
            refine lv_iload_n hx hb dX0_pairs_19 rfl (lv_at hl 1 rfl) ?_
            refine lv_iload_n hx hb dX0_pairs_20 rfl (lv_at hl 0 rfl) ?_
            refine kV_R (n := 2) (ci := 0) (q := (RX0, TX0, 2)) S (c_hasBoth_T lc D cI cZ N b bm br mo re f (f + 1 + j) (by omega) (by omega) (by omega) (by omega)) gX0_pairs_X0_hasBoth rfl rfl (by decide +kernel) rfl rfl ⟨Nat.le_trans (Nat.le_of_ble_eq_true rfl) hfr, Nat.le_trans (Nat.le_of_ble_eq_true rfl) hlo⟩ hE hAN hP hD hS [0, 1, 2] rfl (by decide) rfl rfl rfl rfl hl.1 [] rfl (Nat.le_of_ble_eq_true rfl) dX0_pairs_21 ⟨Nat.zero_le _, Nat.zero_le _⟩ ?_
            refine W.eq (g2 := F0 m 24 ls [.int (iI (1))]) rfl ?_
            refine b_eqF (tgt := 30) S dX0_pairs_24 (by decide) (by decide) (by decide) ?_
            refine w_iinc (v := (prO mo f + prI mo f j) + 1) (lv' := [(1, .int (iI ((prO mo f + prI mo f j) + 1))), (3, .int (iI (((f + 1 + j : Nat) : Int)))), (2, .int (iI (((f : Nat) : Int)))), (0, .ref b)]) S dX0_pairs_27 hl (k := 2) rfl rfl (by decide) rfl (fun ls hl => ?_)
            refine w_iinc (v := (((f + 1 + j) + 1 : Nat) : Int)) (lv' := [(3, .int (iI ((((f + 1 + j) + 1 : Nat) : Int)))), (1, .int (iI ((prO mo f + prI mo f j) + 1))), (2, .int (iI (((f : Nat) : Int)))), (0, .ref b)]) S dX0_pairs_30 hl (k := 1) rfl (by omega) (by decide) rfl (fun ls hl => ?_)
            refine lv_goto (tgt := 13) hx hb dX0_pairs_33 (by decide) ?_
            have hloc : ((((f + 1 + j) + 1 : Nat) : Int) : Int) = ((f + 1 + (j + 1) : Nat) : Int) := (by omega)
            rw [hloc] at hl
            have hloc : ((prO mo f + prI mo f j) + 1 : Int) = prO mo f + prI mo f (j + 1) := (by show _ = prO mo f + (prI mo f j + _); rw [if_neg h2]; omega)
            rw [hloc] at hl
            exact ih3 (j + 1)  (by omega)  _ (lv_sub hl [0, 2, 1, 3] rfl)
      have hloc : (((f : Nat) : Int) + 1 : Int) = ((f + 1 + 0 : Nat) : Int) := (by omega)
      rw [hloc] at hl
      have hloc : (prO mo f : Int) = prO mo f + prI mo f 0 := (by show _ = prO mo f + 0; omega)
      rw [hloc] at hl
      exact loop3 (4 - f) 0  (by omega)  _ (lv_sub hl [0, 1, 2, 3] rfl)
  have hloc : (0 : Int) = prO mo 0 := rfl
  rw [hloc] at hl
  exact loop2 5 0  (by omega)  _ (lv_sub hl [0, 1, 2] rfl)
set_option maxHeartbeats 4000000 in
set_option maxRecDepth 100000 in
theorem c_stepFrom (lc : Launch) (D : va_G) (cI cZ : ClassId) (N : Nat) (b : Nat) (bm : Nat) (br : Nat) (mo : Nat → Int) (re : Nat → Int) (a : Nat) (L : Int) (ha : a < 5) (hmo : ∀ k, k < 25 → -1000 ≤ mo k ∧ mo k ≤ 1000000000) (hre : ∀ k, k < 5 → -L ≤ re k ∧ re k ≤ 1000000000) (hL : 0 ≤ L ∧ L ≤ 10000000) : CM lc D cI cZ N yX0_stepFrom wsX0_stepFrom (rmK 1 21) [.ref b, .int (iI (((a : Nat) : Int)))] [(b, .inr (0, [.ref bm, .ref br])), (bm, .inl (cI, 25, .inl (vI mo))), (br, .inl (cI, 5, .inl (vI re)))] none [(b, .inr (0, [.ref bm, .ref br])), (bm, .inl (cI, 25, .inl (vI mo))), (br, .inl (cI, 5, .inl (vI (stp mo a re))))] := by
  refine CM.V (cc := cX0_stepFrom) (maxL := 4) (by decide) rfl (Nat.le_of_ble_eq_true rfl) ?_
  intro p e s m args below meth c R Q S hE A hAN hfr hlo hP hD hS hret ls hl
  have S : CallFix p m c cX0_stepFrom 4 s args wsX0_stepFrom RX0 := S
  have hx := S.1
  have hb := S.2.1
  have hl : lv_has ls 4 [(0, .ref b), (1, .int (iI (((a : Nat) : Int))))] := hl
  have g0 := hre a ha
  refine lv_aload_n hx hb dX0_stepFrom_0 rfl (lv_at hl 0 rfl) ?_
  refine w_get (C := RX0) (T := TX0) (Nf := 2) (ci := 0) (v := .ref br) S (fun _ h => List.mem_cons_of_mem _ (List.mem_append_right _ h)) hE hP 0 rfl rfl 1 (by decide) (List.mem_of_getElem? (i := 1) rfl) rfl dX0_stepFrom_1 ?_
  refine lv_iload_n hx hb dX0_stepFrom_4 rfl (lv_at hl 1 rfl) ?_
  refine w_iald S hE hP 2 rfl (a) (by omega) (by omega) (by omega) dX0_stepFrom_5 ?_
  refine w_ldc (z := 1000000000) S (List.mem_of_getElem? (i := 2) rfl) (by decide) dX0_stepFrom_6 ?_
  by_cases h1 : re a = 1000000000
  · refine c_neF (tgt := 12) S dX0_stepFrom_8 (by decide) (by omega) ?_
    have hst : re = stp mo a re := by unfold stp; rw [if_pos h1]
    exact hret _ _ _ _ dX0_stepFrom_11 (by rw [← hst]; exact hP) hS
  · refine c_neT (tgt := 12) S dX0_stepFrom_8 (by decide) (by omega) (by omega) (by omega) ?_
    refine lv_iconst (v := iI (0)) hx hb dX0_stepFrom_12 rfl ?_
    refine lv_istore_n (lv' := [(2, .int (iI (0))), (0, .ref b), (1, .int (iI (((a : Nat) : Int))))]) hx hb dX0_stepFrom_13 rfl hl (by decide) rfl (fun ls hl => ?_)
    have loop4 : ∀ (q j : Nat) , j + q = 5 → ∀ (H : Heap) (locs : List Loc) (ls : Array Slot), va_P D vwCl [(b, .inr (0, [.ref bm, .ref br])), (bm, .inl (cI, 25, .inl (vI mo))), (br, .inl (cI, 5, .inl (vI (rlx mo a re j))))] H → va_D A [(b, .inr (0, [.ref bm, .ref br])), (bm, .inl (cI, 25, .inl (vI mo))), (br, .inl (cI, 5, .inl (vI (rlx mo a re j))))] → va_S A s.heap H locs → lv_has ls 4 [(2, .int (iI (((j : Nat) : Int)))), (0, .ref b), (1, .int (iI (((a : Nat) : Int))))] → W p lc e R s m args below meth c H locs 0 0 Q (F0 m 14 ls []) := by
      intro q
      induction q with
      | zero =>
        intro j  hm  H locs ls hP hD hS hl
        refine lv_iload_n hx hb dX0_stepFrom_14 rfl (lv_at hl 0 rfl) ?_
        refine lv_iconst (v := iI (5)) hx hb dX0_stepFrom_15 rfl ?_
        refine c_geT (tgt := 65) S dX0_stepFrom_16 (by decide) (by omega) (by omega) (by omega) ?_
        have hj5 : j = 5 := by omega
        subst hj5
        have hst : rlx mo a re 5 = stp mo a re := by unfold stp; rw [if_neg h1]
        rw [hst] at hP
        exact hret _ _ _ _ dX0_stepFrom_65 hP hS
      | succ q ih4 =>
        intro j  hm  H locs ls hP hD hS hl
        refine lv_iload_n hx hb dX0_stepFrom_14 rfl (lv_at hl 0 rfl) ?_
        refine lv_iconst (v := iI (5)) hx hb dX0_stepFrom_15 rfl ?_
        refine c_geF (tgt := 65) S dX0_stepFrom_16 (by decide) (by omega) (by omega) (by omega) ?_
        have g1 := hmo (a * 5 + j) (by omega)
        have g2 := rlx_rng ha hmo hre j (by omega) a ha
        have g3 := rlx_rng ha hmo hre j (by omega) j (by omega)
        refine lv_aload_n hx hb dX0_stepFrom_19 rfl (lv_at hl 1 rfl) ?_
        refine w_get (C := RX0) (T := TX0) (Nf := 2) (ci := 0) (v := .ref bm) S (fun _ h => List.mem_cons_of_mem _ (List.mem_append_right _ h)) hE hP 0 rfl rfl 0 (by decide) (List.mem_of_getElem? (i := 3) rfl) rfl dX0_stepFrom_20 ?_
        refine lv_iload_n hx hb dX0_stepFrom_23 rfl (lv_at hl 2 rfl) ?_
        refine lv_iload_n hx hb dX0_stepFrom_24 rfl (lv_at hl 0 rfl) ?_
        refine kS_R (n := 2) S (c_X0_cell lc D cI cZ N ((a : Nat) : Int) ((j : Nat) : Int) ) gX0_stepFrom_X0_cell rfl (by decide +kernel) rfl rfl ⟨Nat.le_trans (Nat.le_of_ble_eq_true rfl) hfr, Nat.le_trans (Nat.le_of_ble_eq_true rfl) hlo⟩ hE hAN hP hD hS [] rfl (by decide) rfl hl.1 [.ref bm] rfl (Nat.le_of_ble_eq_true rfl) dX0_stepFrom_25 ⟨Nat.zero_le _, Nat.zero_le _⟩ ?_
        refine W.eq (g2 := F0 m 28 ls [.int (iI (((a : Nat) : Int) * 5 + ((j : Nat) : Int))), .ref bm]) rfl ?_
        refine w_iald S hE hP 1 rfl (a * 5 + j) (by omega) (by omega) (by omega) dX0_stepFrom_28 ?_
        refine lv_istore_n (lv' := [(3, .int (iI (mo (a * 5 + j)))), (2, .int (iI (((j : Nat) : Int)))), (0, .ref b), (1, .int (iI (((a : Nat) : Int))))]) hx hb dX0_stepFrom_29 rfl hl (by decide) rfl (fun ls hl => ?_)
        by_cases h2 : mo (a * 5 + j) = 1000000000
        · refine lv_iload_n hx hb dX0_stepFrom_30 rfl (lv_at hl 0 rfl) ?_
          refine w_ldc (z := 1000000000) S (List.mem_of_getElem? (i := 2) rfl) (by decide) dX0_stepFrom_31 ?_
          refine c_eqT (tgt := 59) S dX0_stepFrom_33 (by decide) (by omega) ?_
          refine w_iinc (v := ((j + 1 : Nat) : Int)) (lv' := [(2, .int (iI (((j + 1 : Nat) : Int)))), (3, .int (iI (mo (a * 5 + j)))), (0, .ref b), (1, .int (iI (((a : Nat) : Int))))]) S dX0_stepFrom_59 hl (k := 1) rfl (by omega) (by decide) rfl (fun ls hl => ?_)
          refine lv_goto (tgt := 14) hx hb dX0_stepFrom_62 (by decide) ?_
          have hcell : rlx mo a re j = rlx mo a re (j + 1) := (by show _ = if _ then _ else _; rw [if_pos h2])
          rw [hcell] at hP hD
          exact ih4 (j + 1)  (by omega)  _ _ _ hP hD hS (lv_sub hl [0, 2, 3] rfl)
        · refine lv_iload_n hx hb dX0_stepFrom_30 rfl (lv_at hl 0 rfl) ?_
          refine w_ldc (z := 1000000000) S (List.mem_of_getElem? (i := 2) rfl) (by decide) dX0_stepFrom_31 ?_
          refine c_eqF (tgt := 59) S dX0_stepFrom_33 (by decide) (by omega) (by omega) (by omega) ?_
          refine lv_aload_n hx hb dX0_stepFrom_36 rfl (lv_at hl 2 rfl) ?_
          refine w_get (C := RX0) (T := TX0) (Nf := 2) (ci := 0) (v := .ref br) S (fun _ h => List.mem_cons_of_mem _ (List.mem_append_right _ h)) hE hP 0 rfl rfl 1 (by decide) (List.mem_of_getElem? (i := 1) rfl) rfl dX0_stepFrom_37 ?_
          refine lv_iload_n hx hb dX0_stepFrom_40 rfl (lv_at hl 1 rfl) ?_
          refine lv_aload_n hx hb dX0_stepFrom_41 rfl (lv_at hl 2 rfl) ?_
          refine w_get (C := RX0) (T := TX0) (Nf := 2) (ci := 0) (v := .ref br) S (fun _ h => List.mem_cons_of_mem _ (List.mem_append_right _ h)) hE hP 0 rfl rfl 1 (by decide) (List.mem_of_getElem? (i := 1) rfl) rfl dX0_stepFrom_42 ?_
          refine lv_iload_n hx hb dX0_stepFrom_45 rfl (lv_at hl 1 rfl) ?_
          refine w_iald S hE hP 2 rfl (j) (by omega) (by omega) (by omega) dX0_stepFrom_46 ?_
          refine lv_aload_n hx hb dX0_stepFrom_47 rfl (lv_at hl 2 rfl) ?_
          refine w_get (C := RX0) (T := TX0) (Nf := 2) (ci := 0) (v := .ref br) S (fun _ h => List.mem_cons_of_mem _ (List.mem_append_right _ h)) hE hP 0 rfl rfl 1 (by decide) (List.mem_of_getElem? (i := 1) rfl) rfl dX0_stepFrom_48 ?_
          refine lv_iload_n hx hb dX0_stepFrom_51 rfl (lv_at hl 3 rfl) ?_
          refine w_iald S hE hP 2 rfl (a) (by omega) (by omega) (by omega) dX0_stepFrom_52 ?_
          refine lv_iload_n hx hb dX0_stepFrom_53 rfl (lv_at hl 0 rfl) ?_
          refine w_iadd S dX0_stepFrom_54 ?_
          refine w_min S hl.1 (List.mem_of_getElem? (i := 4) rfl) (List.mem_of_getElem? (i := 5) rfl) (List.mem_of_getElem? (i := 6) rfl) (List.mem_of_getElem? (i := 7) rfl) (Nat.le_trans (Nat.le_of_ble_eq_true rfl) hfr) (Nat.le_trans (Nat.le_of_ble_eq_true rfl) hlo) (Nat.le_of_ble_eq_true rfl) (by omega) (by omega) dX0_stepFrom_55 ?_
          refine w_iast S hE hP hD hS 2 rfl (j) (by omega) (by omega) (by omega) dX0_stepFrom_58 (fun H locs hP hD hS => ?_)
          have hP : va_P D vwCl [(b, .inr (0, [.ref bm, .ref br])), (bm, .inl (cI, 25, .inl (vI mo))), (br, .inl (cI, 5, .inl (vI (updI (rlx mo a re j) j (if ((rlx mo a re j) a) + (mo (a * 5 + j)) < (rlx mo a re j) j then ((rlx mo a re j) a) + (mo (a * 5 + j)) else (rlx mo a re j) j)))))] H := hP
          have hD : va_D A [(b, .inr (0, [.ref bm, .ref br])), (bm, .inl (cI, 25, .inl (vI mo))), (br, .inl (cI, 5, .inl (vI (updI (rlx mo a re j) j (if ((rlx mo a re j) a) + (mo (a * 5 + j)) < (rlx mo a re j) j then ((rlx mo a re j) a) + (mo (a * 5 + j)) else (rlx mo a re j) j)))))] := hD
          refine w_iinc (v := ((j + 1 : Nat) : Int)) (lv' := [(2, .int (iI (((j + 1 : Nat) : Int)))), (3, .int (iI (mo (a * 5 + j)))), (0, .ref b), (1, .int (iI (((a : Nat) : Int))))]) S dX0_stepFrom_59 hl (k := 1) rfl (by omega) (by decide) rfl (fun ls hl => ?_)
          refine lv_goto (tgt := 14) hx hb dX0_stepFrom_62 (by decide) ?_
          have hcell : updI (rlx mo a re j) j (if ((rlx mo a re j) a) + (mo (a * 5 + j)) < (rlx mo a re j) j then ((rlx mo a re j) a) + (mo (a * 5 + j)) else (rlx mo a re j) j) = rlx mo a re (j + 1) := (by show _ = if _ then _ else _; rw [if_neg h2])
          rw [hcell] at hP hD
          exact ih4 (j + 1)  (by omega)  _ _ _ hP hD hS (lv_sub hl [0, 2, 3] rfl)
    have hcell : re = rlx mo a re 0 := rfl
    rw [hcell] at hP hD
    exact loop4 5 0  (by omega)  _ _ _ hP hD hS (lv_sub hl [0, 1, 2] rfl)
set_option maxHeartbeats 4000000 in
set_option maxRecDepth 100000 in
theorem c_tightest (lc : Launch) (D : va_G) (cI cZ : ClassId) (N : Nat) (b : Nat) (bm : Nat) (br : Nat) (mo : Nat → Int) (re : Nat → Int) (x : Nat) (y : Nat) (hx5 : x < 5) (hy5 : y < 5) (hmo : ∀ k, k < 25 → -1000 ≤ mo k ∧ mo k ≤ 1000000000) : CM lc D cI cZ N yX0_tightest wsX0_tightest (rmK 2 44) [.ref b, .int (iI (((x : Nat) : Int))), .int (iI (((y : Nat) : Int)))] [(b, .inr (0, [.ref bm, .ref br])), (bm, .inl (cI, 25, .inl (vI mo))), (br, .inl (cI, 5, .inl (vI re)))] (some (.int (iI (rnds mo (re0 x) 4 y)))) [(b, .inr (0, [.ref bm, .ref br])), (bm, .inl (cI, 25, .inl (vI mo))), (br, .inl (cI, 5, .inl (vI (rnds mo (re0 x) 4))))] := by
  refine CM.I (cc := cX0_tightest) (maxL := 5) (by decide) rfl (Nat.le_of_ble_eq_true rfl) ?_
  intro p e s m args below meth c R Q S hE A hAN hfr hlo hP hD hS hret ls hl
  have S : CallFix p m c cX0_tightest 5 s args wsX0_tightest RX0 := S
  have hx := S.1
  have hb := S.2.1
  have hl : lv_has ls 5 [(0, .ref b), (1, .int (iI (((x : Nat) : Int)))), (2, .int (iI (((y : Nat) : Int))))] := hl
  refine lv_aload_n hx hb dX0_tightest_0 rfl (lv_at hl 0 rfl) ?_
  refine w_get (C := RX0) (T := TX0) (Nf := 2) (ci := 0) (v := .ref br) S (fun _ h => List.mem_cons_of_mem _ (List.mem_append_right _ h)) hE hP 0 rfl rfl 1 (by decide) (List.mem_of_getElem? (i := 1) rfl) rfl dX0_tightest_1 ?_
  refine w_ldc (z := 1000000000) S (List.mem_of_getElem? (i := 2) rfl) (by decide) dX0_tightest_4 ?_
  refine kS_M (n := 2) S (c_fill lc D cI cZ N br 5 re 1000000000 (by omega)) gX0_tightest_J7_fill_53178 rfl (by decide +kernel) rfl rfl ⟨Nat.le_trans (Nat.le_of_ble_eq_true rfl) hfr, Nat.le_trans (Nat.le_of_ble_eq_true rfl) hlo⟩ hE hAN hP hD hS [2] rfl (by decide) rfl rfl hl.1 [] rfl (Nat.le_of_ble_eq_true rfl) dX0_tightest_6 ⟨Nat.zero_le _, Nat.zero_le _⟩ (fun H locs hP hD hS => ?_)
  have hP : va_P D vwCl [(b, .inr (0, [.ref bm, .ref br])), (bm, .inl (cI, 25, .inl (vI mo))), (br, .inl (cI, 5, .inl (vI (fun _ => 1000000000))))] H := hP
  have hD : va_D A [(b, .inr (0, [.ref bm, .ref br])), (bm, .inl (cI, 25, .inl (vI mo))), (br, .inl (cI, 5, .inl (vI (fun _ => 1000000000))))] := hD
  refine W.eq (g2 := F0 m 9 ls []) rfl ?_
  refine lv_aload_n hx hb dX0_tightest_9 rfl (lv_at hl 0 rfl) ?_
  refine w_get (C := RX0) (T := TX0) (Nf := 2) (ci := 0) (v := .ref br) S (fun _ h => List.mem_cons_of_mem _ (List.mem_append_right _ h)) hE hP 0 rfl rfl 1 (by decide) (List.mem_of_getElem? (i := 1) rfl) rfl dX0_tightest_10 ?_
  refine lv_iload_n hx hb dX0_tightest_13 rfl (lv_at hl 1 rfl) ?_
  refine lv_iconst (v := iI (0)) hx hb dX0_tightest_14 rfl ?_
  refine w_iast S hE hP hD hS 2 rfl (x) (by omega) (by omega) (by omega) dX0_tightest_15 (fun H locs hP hD hS => ?_)
  have hP : va_P D vwCl [(b, .inr (0, [.ref bm, .ref br])), (bm, .inl (cI, 25, .inl (vI mo))), (br, .inl (cI, 5, .inl (vI (updI (fun _ => 1000000000) x 0))))] H := hP
  have hD : va_D A [(b, .inr (0, [.ref bm, .ref br])), (bm, .inl (cI, 25, .inl (vI mo))), (br, .inl (cI, 5, .inl (vI (updI (fun _ => 1000000000) x 0))))] := hD
  refine lv_iconst (v := iI (1)) hx hb dX0_tightest_16 rfl ?_
  refine lv_istore_n (lv' := [(3, .int (iI (1))), (0, .ref b), (1, .int (iI (((x : Nat) : Int)))), (2, .int (iI (((y : Nat) : Int))))]) hx hb dX0_tightest_17 rfl hl (by decide) rfl (fun ls hl => ?_)
  have loop5 : ∀ (q r : Nat) , r + q = 4 → ∀ (H : Heap) (locs : List Loc) (ls : Array Slot), va_P D vwCl [(b, .inr (0, [.ref bm, .ref br])), (bm, .inl (cI, 25, .inl (vI mo))), (br, .inl (cI, 5, .inl (vI (rnds mo (re0 x) r))))] H → va_D A [(b, .inr (0, [.ref bm, .ref br])), (bm, .inl (cI, 25, .inl (vI mo))), (br, .inl (cI, 5, .inl (vI (rnds mo (re0 x) r))))] → va_S A s.heap H locs → lv_has ls 5 [(3, .int (iI (((r + 1 : Nat) : Int)))), (0, .ref b), (1, .int (iI (((x : Nat) : Int)))), (2, .int (iI (((y : Nat) : Int))))] → W p lc e R s m args below meth c H locs 0 0 Q (F0 m 18 ls []) := by
    intro q
    induction q with
    | zero =>
      intro r  hm  H locs ls hP hD hS hl
      refine lv_iload_n hx hb dX0_tightest_18 rfl (lv_at hl 0 rfl) ?_
      refine lv_iconst (v := iI (5)) hx hb dX0_tightest_19 rfl ?_
      refine c_geT (tgt := 50) S dX0_tightest_20 (by decide) (by omega) (by omega) (by omega) ?_
      have hr4 : r = 4 := by omega
      subst hr4
      refine lv_aload_n hx hb dX0_tightest_50 rfl (lv_at hl 1 rfl) ?_
      refine w_get (C := RX0) (T := TX0) (Nf := 2) (ci := 0) (v := .ref br) S (fun _ h => List.mem_cons_of_mem _ (List.mem_append_right _ h)) hE hP 0 rfl rfl 1 (by decide) (List.mem_of_getElem? (i := 1) rfl) rfl dX0_tightest_51 ?_
      refine lv_iload_n hx hb dX0_tightest_54 rfl (lv_at hl 3 rfl) ?_
      refine w_iald S hE hP 2 rfl (y) (by omega) (by omega) (by omega) dX0_tightest_55 ?_
      exact hret _ _ _ _ _ dX0_tightest_56 (congrArg iI (by omega)) hP hS
    | succ q ih5 =>
      intro r  hm  H locs ls hP hD hS hl
      refine lv_iload_n hx hb dX0_tightest_18 rfl (lv_at hl 0 rfl) ?_
      refine lv_iconst (v := iI (5)) hx hb dX0_tightest_19 rfl ?_
      refine c_geF (tgt := 50) S dX0_tightest_20 (by decide) (by omega) (by omega) (by omega) ?_
      refine lv_iconst (v := iI (0)) hx hb dX0_tightest_23 rfl ?_
      refine lv_istore (lv' := [(4, .int (iI (0))), (3, .int (iI (((r + 1 : Nat) : Int)))), (0, .ref b), (1, .int (iI (((x : Nat) : Int)))), (2, .int (iI (((y : Nat) : Int))))]) hx hb dX0_tightest_24 hl (by decide) rfl (fun ls hl => ?_)
      have loop6 : ∀ (w a : Nat) , a + w = 5 → ∀ (H : Heap) (locs : List Loc) (ls : Array Slot), va_P D vwCl [(b, .inr (0, [.ref bm, .ref br])), (bm, .inl (cI, 25, .inl (vI mo))), (br, .inl (cI, 5, .inl (vI (rnd mo (rnds mo (re0 x) r) a))))] H → va_D A [(b, .inr (0, [.ref bm, .ref br])), (bm, .inl (cI, 25, .inl (vI mo))), (br, .inl (cI, 5, .inl (vI (rnd mo (rnds mo (re0 x) r) a))))] → va_S A s.heap H locs → lv_has ls 5 [(4, .int (iI (((a : Nat) : Int)))), (3, .int (iI (((r + 1 : Nat) : Int)))), (0, .ref b), (1, .int (iI (((x : Nat) : Int)))), (2, .int (iI (((y : Nat) : Int))))] → W p lc e R s m args below meth c H locs 0 0 Q (F0 m 26 ls []) := by
        intro w
        induction w with
        | zero =>
          intro a  hm  H locs ls hP hD hS hl
          refine lv_iload hx hb dX0_tightest_26 (lv_at hl 0 rfl) ?_
          refine lv_iconst (v := iI (5)) hx hb dX0_tightest_28 rfl ?_
          refine c_geT (tgt := 44) S dX0_tightest_29 (by decide) (by omega) (by omega) (by omega) ?_
          refine w_iinc (v := (((r + 1) + 1 : Nat) : Int)) (lv' := [(3, .int (iI ((((r + 1) + 1 : Nat) : Int)))), (4, .int (iI (((a : Nat) : Int)))), (0, .ref b), (1, .int (iI (((x : Nat) : Int)))), (2, .int (iI (((y : Nat) : Int))))]) S dX0_tightest_44 hl (k := 1) rfl (by omega) (by decide) rfl (fun ls hl => ?_)
          refine lv_goto (tgt := 18) hx hb dX0_tightest_47 (by decide) ?_
          have hcell : rnd mo (rnds mo (re0 x) r) a = rnds mo (re0 x) (r + 1) := (by show _ = rnd mo (rnds mo (re0 x) r) 5; rw [show a = 5 by omega])
          rw [hcell] at hP hD
          exact ih5 (r + 1)  (by omega)  _ _ _ hP hD hS (lv_sub hl [0, 2, 3, 4] rfl)
        | succ w ih6 =>
          intro a  hm  H locs ls hP hD hS hl
          refine lv_iload hx hb dX0_tightest_26 (lv_at hl 0 rfl) ?_
          refine lv_iconst (v := iI (5)) hx hb dX0_tightest_28 rfl ?_
          refine c_geF (tgt := 44) S dX0_tightest_29 (by decide) (by omega) (by omega) (by omega) ?_
          refine lv_aload_n hx hb dX0_tightest_32 rfl (lv_at hl 2 rfl) ?_
          refine lv_iload hx hb dX0_tightest_33 (lv_at hl 0 rfl) ?_
          refine kV_M (n := 1) (ci := 0) (q := (RX0, TX0, 2)) S (c_stepFrom lc D cI cZ N b bm br mo (rnd mo (rnds mo (re0 x) r) a) a (0 + 25000 * (r : Int) + 5000 * (a : Int)) (by omega) (by omega) (rnd_rng (by omega) hmo (rnds_rng (by omega) hmo (re0_rng x) r) a (by omega)) (by omega)) gX0_tightest_X0_stepFrom rfl rfl (by decide +kernel) rfl rfl ⟨Nat.le_trans (Nat.le_of_ble_eq_true rfl) hfr, Nat.le_trans (Nat.le_of_ble_eq_true rfl) hlo⟩ hE hAN hP hD hS [0, 1, 2] rfl (by decide) rfl rfl rfl rfl rfl hl.1 [] rfl (Nat.le_of_ble_eq_true rfl) dX0_tightest_35 ⟨Nat.zero_le _, Nat.zero_le _⟩ (fun H locs hP hD hS => ?_)
          have hP : va_P D vwCl [(b, .inr (0, [.ref bm, .ref br])), (bm, .inl (cI, 25, .inl (vI mo))), (br, .inl (cI, 5, .inl (vI (stp mo a (rnd mo (rnds mo (re0 x) r) a)))))] H := hP
          have hD : va_D A [(b, .inr (0, [.ref bm, .ref br])), (bm, .inl (cI, 25, .inl (vI mo))), (br, .inl (cI, 5, .inl (vI (stp mo a (rnd mo (rnds mo (re0 x) r) a)))))] := hD
          refine W.eq (g2 := F0 m 38 ls []) rfl ?_
          refine w_iinc (v := ((a + 1 : Nat) : Int)) (lv' := [(4, .int (iI (((a + 1 : Nat) : Int)))), (3, .int (iI (((r + 1 : Nat) : Int)))), (0, .ref b), (1, .int (iI (((x : Nat) : Int)))), (2, .int (iI (((y : Nat) : Int))))]) S dX0_tightest_38 hl (k := 0) rfl (by omega) (by decide) rfl (fun ls hl => ?_)
          refine lv_goto (tgt := 26) hx hb dX0_tightest_41 (by decide) ?_
          have hcell : (stp mo a (rnd mo (rnds mo (re0 x) r) a)) = rnd mo (rnds mo (re0 x) r) (a + 1) := rfl
          rw [hcell] at hP hD
          exact ih6 (a + 1)  (by omega)  _ _ _ hP hD hS (lv_sub hl [0, 1, 2, 3, 4] rfl)
      have hcell : rnds mo (re0 x) r = rnd mo (rnds mo (re0 x) r) 0 := rfl
      rw [hcell] at hP hD
      exact loop6 5 0  (by omega)  _ _ _ hP hD hS (lv_sub hl [0, 1, 2, 3, 4] rfl)
  have hcell : updI (fun _ => 1000000000) x 0 = rnds mo (re0 x) 0 := rfl
  rw [hcell] at hP hD
  have hloc : (1 : Int) = ((0 + 1 : Nat) : Int) := (by omega)
  rw [hloc] at hl
  exact loop5 4 0  (by omega)  _ _ _ hP hD hS (lv_sub hl [0, 1, 2, 3] rfl)
end
section
set_option maxHeartbeats 4000000 in
set_option maxRecDepth 100000 in
theorem c_greatestDivisor (lc : Launch) (D : va_G) (cI cZ : ClassId) (N : Nat) (u : Int) (w : Nat) (hu : -1000000000 ≤ u ∧ u ≤ 1000000000) (hw0 : 0 < w ∧ w ≤ 1000000) : CR lc D cI cZ N yX4_greatestDivisor wsX4_greatestDivisor (rmK 0 0) [.int (iI (u)), .int (iI (((w : Nat) : Int)))] [] (some (.int (iI (((Nat.gcd u.natAbs w : Nat) : Int))))) := by
  refine CR.I (cc := cX4_greatestDivisor) (maxL := 3) (by decide) rfl (Nat.le_of_ble_eq_true rfl) ?_
  intro p e s m args below meth c R Q S hE A hAN hfr hlo hP hD hS hret ls hl
  have S : CallFix p m c cX4_greatestDivisor 3 s args wsX4_greatestDivisor RX4 := S
  have hx := S.1
  have hb := S.2.1
  have hl : lv_has ls 3 [(0, .int (iI (u))), (1, .int (iI (((w : Nat) : Int))))] := hl
  refine lv_iload_n hx hb dX4_greatestDivisor_0 rfl (lv_at hl 1 rfl) ?_
  refine lv_istore_n (lv' := [(2, .int (iI (((w : Nat) : Int)))), (0, .int (iI (u))), (1, .int (iI (((w : Nat) : Int))))]) hx hb dX4_greatestDivisor_1 rfl hl (by decide) rfl (fun ls hl => ?_)
  have loop7 : ∀ (n i : Nat) , i = n + 1 → (i ≤ w) → (∀ k, i < k → k ≤ w → ¬ (k ∣ u.natAbs ∧ k ∣ w)) → ∀ (ls : Array Slot), lv_has ls 3 [(2, .int (iI (((i : Nat) : Int)))), (0, .int (iI (u))), (1, .int (iI (((w : Nat) : Int))))] → W p lc e R s m args below meth c s.heap [] 0 0 Q (F0 m 2 ls []) := by
    intro n
    induction n with
    | zero =>
      intro i  hm hiw hk ls hl
      refine lv_iload_n hx hb dX4_greatestDivisor_2 rfl (lv_at hl 0 rfl) ?_
      refine lv_iconst (v := iI (1)) hx hb dX4_greatestDivisor_3 rfl ?_
      refine c_leT (tgt := 27) S dX4_greatestDivisor_4 (by decide) (by omega) (by omega) (by omega) ?_
      refine lv_iconst (v := iI (1)) hx hb dX4_greatestDivisor_27 rfl ?_
      exact hret _ _ _ dX4_greatestDivisor_28 (congrArg iI (by rw [gcd_is (d := 1) (by omega) (Nat.one_dvd _) (Nat.one_dvd _) (by rw [show (1 : Nat) = i by omega]; exact hk)]; rfl))
    | succ n ih7 =>
      intro i  hm hiw hk ls hl
      refine lv_iload_n hx hb dX4_greatestDivisor_2 rfl (lv_at hl 0 rfl) ?_
      refine lv_iconst (v := iI (1)) hx hb dX4_greatestDivisor_3 rfl ?_
      refine c_leF (tgt := 27) S dX4_greatestDivisor_4 (by decide) (by omega) (by omega) (by omega) ?_
      have g1 := tmod_rngZ (t := u) (d := ((i : Nat) : Int)) (by omega)
      have g2 := tmod_rngZ (t := ((w : Nat) : Int)) (d := ((i : Nat) : Int)) (by omega)
      refine lv_iload_n hx hb dX4_greatestDivisor_7 rfl (lv_at hl 1 rfl) ?_
      refine lv_iload_n hx hb dX4_greatestDivisor_8 rfl (lv_at hl 0 rfl) ?_
      refine w_irem S (by omega) (by omega) dX4_greatestDivisor_9 ?_
      by_cases h1 : i ∣ u.natAbs
      · refine b_neF (tgt := 21) S dX4_greatestDivisor_10 (by decide) (tm0.mpr h1) ?_
        refine lv_iload_n hx hb dX4_greatestDivisor_13 rfl (lv_at hl 2 rfl) ?_
        refine lv_iload_n hx hb dX4_greatestDivisor_14 rfl (lv_at hl 0 rfl) ?_
        refine w_irem S (by omega) (by omega) dX4_greatestDivisor_15 ?_
        by_cases h2 : i ∣ w
        · refine b_neF (tgt := 21) S dX4_greatestDivisor_16 (by decide) (tm0w.mpr h2) ?_
          refine lv_iload_n hx hb dX4_greatestDivisor_19 rfl (lv_at hl 0 rfl) ?_
          exact hret _ _ _ dX4_greatestDivisor_20 (congrArg iI (by rw [gcd_is (by omega) h1 h2 hk]))
        · refine b_neT (tgt := 21) S dX4_greatestDivisor_16 (by decide) (by omega) (fun q => h2 (tm0w.mp q)) ?_
          refine w_iinc (v := ((i - 1 : Nat) : Int)) (lv' := [(2, .int (iI (((i - 1 : Nat) : Int)))), (0, .int (iI (u))), (1, .int (iI (((w : Nat) : Int))))]) S dX4_greatestDivisor_21 hl (k := 0) rfl (by omega) (by decide) rfl (fun ls hl => ?_)
          refine lv_goto (tgt := 2) hx hb dX4_greatestDivisor_24 (by decide) ?_
          exact ih7 (i - 1)  (by omega) (by omega) (fun k g1 g2 => by rcases Nat.lt_or_ge i k with g | g; exact hk k g g2; rw [show k = i by omega]; exact fun q => h2 q.2) _ (lv_sub hl [0, 1, 2] rfl)
      · refine b_neT (tgt := 21) S dX4_greatestDivisor_10 (by decide) (by omega) (fun q => h1 (tm0.mp q)) ?_
        refine w_iinc (v := ((i - 1 : Nat) : Int)) (lv' := [(2, .int (iI (((i - 1 : Nat) : Int)))), (0, .int (iI (u))), (1, .int (iI (((w : Nat) : Int))))]) S dX4_greatestDivisor_21 hl (k := 0) rfl (by omega) (by decide) rfl (fun ls hl => ?_)
        refine lv_goto (tgt := 2) hx hb dX4_greatestDivisor_24 (by decide) ?_
        exact ih7 (i - 1)  (by omega) (by omega) (fun k g1 g2 => by rcases Nat.lt_or_ge i k with g | g; exact hk k g g2; rw [show k = i by omega]; exact fun q => h1 q.1) _ (lv_sub hl [0, 1, 2] rfl)
  exact loop7 (w - 1) w  (by omega) (by omega) (fun k g1 g2 => absurd g1 (by omega)) _ (lv_sub hl [0, 1, 2] rfl)
set_option maxHeartbeats 4000000 in
set_option maxRecDepth 100000 in
theorem c_fraction_0 (lc : Launch) (D : va_G) (cI cZ : ClassId) (N : Nat) (u : Int) (w : Nat) (q : Int) (hu : -1000000000 ≤ u ∧ u ≤ 1000000000) (hw0 : 0 < w ∧ w ≤ 1000000) (hq : q = 0) : CR lc D cI cZ N yX4_fractionPart wsX4_fractionPart (rmK 1 22) [.int (iI (u)), .int (iI (((w : Nat) : Int))), .int (iI (q))] [] (some (.int (iI (u.tdiv ((Nat.gcd u.natAbs w : Nat) : Int))))) := by
  refine CR.I (cc := cX4_fractionPart) (maxL := 3) (by decide) rfl (Nat.le_of_ble_eq_true rfl) ?_
  intro p e s m args below meth c R Q S hE A hAN hfr hlo hP hD hS hret ls hl
  have S : CallFix p m c cX4_fractionPart 3 s args wsX4_fractionPart RX4 := S
  have hx := S.1
  have hb := S.2.1
  have hl : lv_has ls 3 [(0, .int (iI (u))), (1, .int (iI (((w : Nat) : Int)))), (2, .int (iI (q)))] := hl
  have h1 := gcd_pos (x := u.natAbs) hw0.1
  refine lv_iload_n hx hb dX4_fractionPart_0 rfl (lv_at hl 2 rfl) ?_
  refine b_neF (tgt := 8) S dX4_fractionPart_1 (by decide) (by omega) ?_
  refine lv_iload_n hx hb dX4_fractionPart_4 rfl (lv_at hl 0 rfl) ?_
  refine lv_goto (tgt := 9) hx hb dX4_fractionPart_5 (by decide) ?_
  refine lv_iload_n hx hb dX4_fractionPart_9 rfl (lv_at hl 0 rfl) ?_
  refine lv_iload_n hx hb dX4_fractionPart_10 rfl (lv_at hl 1 rfl) ?_
  refine kS_R (n := 2) S (c_greatestDivisor lc D cI cZ N u w (by omega) (by omega)) gX4_fractionPart_X4_greatestDivisor rfl (by decide +kernel) rfl rfl ⟨Nat.le_trans (Nat.le_of_ble_eq_true rfl) hfr, Nat.le_trans (Nat.le_of_ble_eq_true rfl) hlo⟩ hE hAN hP hD hS [] rfl (by decide) rfl hl.1 [.int (iI (u))] rfl (Nat.le_of_ble_eq_true rfl) dX4_fractionPart_11 ⟨Nat.zero_le _, Nat.zero_le _⟩ ?_
  refine W.eq (g2 := F0 m 14 ls [.int (iI (((Nat.gcd u.natAbs w : Nat) : Int))), .int (iI (u))]) rfl ?_
  refine kS_R (n := 2) S (c_quotient lc D cI cZ N u ((Nat.gcd u.natAbs w : Nat) : Int) (by omega) (by omega)) gX4_fractionPart_X4_quotient rfl (by decide +kernel) rfl rfl ⟨Nat.le_trans (Nat.le_of_ble_eq_true rfl) hfr, Nat.le_trans (Nat.le_of_ble_eq_true rfl) hlo⟩ hE hAN hP hD hS [] rfl (by decide) rfl hl.1 [] rfl (Nat.le_of_ble_eq_true rfl) dX4_fractionPart_14 ⟨Nat.zero_le _, Nat.zero_le _⟩ ?_
  refine W.eq (g2 := F0 m 17 ls [.int (iI (u.tdiv ((Nat.gcd u.natAbs w : Nat) : Int)))]) rfl ?_
  exact hret _ _ _ dX4_fractionPart_17 rfl
set_option maxHeartbeats 4000000 in
set_option maxRecDepth 100000 in
theorem c_fraction_1 (lc : Launch) (D : va_G) (cI cZ : ClassId) (N : Nat) (u : Int) (w : Nat) (q : Int) (hu : -1000000000 ≤ u ∧ u ≤ 1000000000) (hw0 : 0 < w ∧ w ≤ 1000000) (hq : q = 1) : CR lc D cI cZ N yX4_fractionPart wsX4_fractionPart (rmK 1 22) [.int (iI (u)), .int (iI (((w : Nat) : Int))), .int (iI (q))] [] (some (.int (iI (((w : Nat) : Int).tdiv ((Nat.gcd u.natAbs w : Nat) : Int))))) := by
  refine CR.I (cc := cX4_fractionPart) (maxL := 3) (by decide) rfl (Nat.le_of_ble_eq_true rfl) ?_
  intro p e s m args below meth c R Q S hE A hAN hfr hlo hP hD hS hret ls hl
  have S : CallFix p m c cX4_fractionPart 3 s args wsX4_fractionPart RX4 := S
  have hx := S.1
  have hb := S.2.1
  have hl : lv_has ls 3 [(0, .int (iI (u))), (1, .int (iI (((w : Nat) : Int)))), (2, .int (iI (q)))] := hl
  have h1 := gcd_pos (x := u.natAbs) hw0.1
  refine lv_iload_n hx hb dX4_fractionPart_0 rfl (lv_at hl 2 rfl) ?_
  refine b_neT (tgt := 8) S dX4_fractionPart_1 (by decide) (by omega) (by omega) ?_
  refine lv_iload_n hx hb dX4_fractionPart_8 rfl (lv_at hl 1 rfl) ?_
  refine lv_iload_n hx hb dX4_fractionPart_9 rfl (lv_at hl 0 rfl) ?_
  refine lv_iload_n hx hb dX4_fractionPart_10 rfl (lv_at hl 1 rfl) ?_
  refine kS_R (n := 2) S (c_greatestDivisor lc D cI cZ N u w (by omega) (by omega)) gX4_fractionPart_X4_greatestDivisor rfl (by decide +kernel) rfl rfl ⟨Nat.le_trans (Nat.le_of_ble_eq_true rfl) hfr, Nat.le_trans (Nat.le_of_ble_eq_true rfl) hlo⟩ hE hAN hP hD hS [] rfl (by decide) rfl hl.1 [.int (iI (((w : Nat) : Int)))] rfl (Nat.le_of_ble_eq_true rfl) dX4_fractionPart_11 ⟨Nat.zero_le _, Nat.zero_le _⟩ ?_
  refine W.eq (g2 := F0 m 14 ls [.int (iI (((Nat.gcd u.natAbs w : Nat) : Int))), .int (iI (((w : Nat) : Int)))]) rfl ?_
  refine kS_R (n := 2) S (c_quotient lc D cI cZ N ((w : Nat) : Int) ((Nat.gcd u.natAbs w : Nat) : Int) (by omega) (by omega)) gX4_fractionPart_X4_quotient rfl (by decide +kernel) rfl rfl ⟨Nat.le_trans (Nat.le_of_ble_eq_true rfl) hfr, Nat.le_trans (Nat.le_of_ble_eq_true rfl) hlo⟩ hE hAN hP hD hS [] rfl (by decide) rfl hl.1 [] rfl (Nat.le_of_ble_eq_true rfl) dX4_fractionPart_14 ⟨Nat.zero_le _, Nat.zero_le _⟩ ?_
  refine W.eq (g2 := F0 m 17 ls [.int (iI (((w : Nat) : Int).tdiv ((Nat.gcd u.natAbs w : Nat) : Int)))]) rfl ?_
  exact hret _ _ _ dX4_fractionPart_17 rfl
end
section
/-! The pure words of the world's methods -/
def atN (nb : Nat → Int) (t : Int) : Nat → Int
  | 0 => t
  | l + 1 => atN nb t l + tkT nb l (atN nb t l)
theorem atN_rng {nb : Nat → Int} {t : Int} (ht : 0 ≤ t) (hnb : ∀ k, k < 24 → 0 ≤ nb k ∧ nb k ≤ 20) : ∀ l : Nat, l ≤ 4 → 0 ≤ atN nb t l ∧ atN nb t l ≤ t + 40 * (l : Int)
  | 0, _ => by show 0 ≤ t ∧ t ≤ t + 40 * ((0 : Nat) : Int); omega
  | l + 1, h => by
    have h1 := atN_rng ht hnb l (by omega)
    have h2 := tkT_rng (l := l) (by omega) h1.1 hnb
    show 0 ≤ atN nb t l + tkT nb l (atN nb t l) ∧ atN nb t l + tkT nb l (atN nb t l) ≤ t + 40 * ((l + 1 : Nat) : Int)
    omega
def cnA (cn : Nat → Int) (b : Nat) : Nat → (Nat → Int)
  | 0 => updI cn (0 * 200 + b) (cn (0 * 200 + b) + 1)
  | l + 1 => updI (cnA cn b l) ((l + 1) * 200 + b) (cnA cn b l ((l + 1) * 200 + b) + 1)
def smA (sm ck nb : Nat → Int) (t : Int) (b : Nat) : Nat → (Nat → Int)
  | 0 => updI sm (0 * 200 + b) (sm (0 * 200 + b) + (t + ck 0))
  | l + 1 => updI (smA sm ck nb t b l) ((l + 1) * 200 + b) (smA sm ck nb t b l ((l + 1) * 200 + b) + (atN nb t (l + 1) + ck (l + 1)))
def thN (nb : Nat → Int) (t : Int) (f : Nat) : Nat → Int
  | 0 => t
  | j + 1 => thN nb t f j + tkT nb (f + j) (thN nb t f j)
theorem thN_rng {nb : Nat → Int} {t : Int} {f : Nat} (ht : 0 ≤ t) (hnb : ∀ k, k < 24 → 0 ≤ nb k ∧ nb k ≤ 20) : ∀ j : Nat, f + j ≤ 4 → 0 ≤ thN nb t f j ∧ thN nb t f j ≤ t + 40 * (j : Int) ∧ t ≤ thN nb t f j
  | 0, _ => by show 0 ≤ t ∧ t ≤ t + 40 * ((0 : Nat) : Int) ∧ t ≤ t; omega
  | j + 1, h => by
    have h1 := thN_rng (f := f) ht hnb j (by omega)
    have h2 := tkT_rng (l := f + j) (by omega) h1.1 hnb
    show 0 ≤ thN nb t f j + tkT nb (f + j) (thN nb t f j) ∧ thN nb t f j + tkT nb (f + j) (thN nb t f j) ≤ t + 40 * ((j + 1 : Nat) : Int) ∧ t ≤ thN nb t f j + tkT nb (f + j) (thN nb t f j)
    omega
def bkN (nb : Nat → Int) (t : Int) (g : Nat) : Nat → Int
  | 0 => t
  | j + 1 => bkN nb t g j + tkB nb (g - 1 - j) (bkN nb t g j)
theorem bkN_rng {nb : Nat → Int} {t : Int} {g : Nat} (hg : g ≤ 4) (ht : 0 ≤ t) (hnb : ∀ k, k < 24 → 0 ≤ nb k ∧ nb k ≤ 20) : ∀ j : Nat, j ≤ g → 0 ≤ bkN nb t g j ∧ bkN nb t g j ≤ t + 40 * (j : Int) ∧ t ≤ bkN nb t g j
  | 0, _ => by show 0 ≤ t ∧ t ≤ t + 40 * ((0 : Nat) : Int) ∧ t ≤ t; omega
  | j + 1, h => by
    have h1 := bkN_rng hg ht hnb j (by omega)
    have h2 := tkB_rng (l := g - 1 - j) (by omega) h1.1 hnb
    show 0 ≤ bkN nb t g j + tkB nb (g - 1 - j) (bkN nb t g j) ∧ bkN nb t g j + tkB nb (g - 1 - j) (bkN nb t g j) ≤ t + 40 * ((j + 1 : Nat) : Int) ∧ t ≤ bkN nb t g j + tkB nb (g - 1 - j) (bkN nb t g j)
    omega
end
section
set_option maxHeartbeats 4000000 in
set_option maxRecDepth 100000 in
theorem c_X3_begin (lc : Launch) (D : va_G) (cI cZ : ClassId) (N : Nat) (w : Nat) (wc : Nat) (k : Nat) (kn : Nat) (t : Nat) (tc : Nat) (ts : Nat) (b : Nat) (bm : Nat) (br : Nat) (mn : Nat) (tA : Int) (sA : Int) (kA : Int) (ck : Nat → Int) (nb : Nat → Int) (cn : Nat → Int) (sm : Nat → Int) (mo : Nat → Int) (re : Nat → Int) (v : Nat)  : CM lc D cI cZ N yX3_begin wsX3_begin (rmK 2 47) [.ref w, .int (iI (((v : Nat) : Int)))] [(w, .inr (3, [.int (iI (((mn : Nat) : Int))), .int (iI (tA)), .int (iI (sA)), .int (iI (kA)), .ref wc, .ref k, .ref t, .ref b])), (wc, .inl (cI, 5, .inl (vI ck))), (k, .inr (1, [.ref kn])), (kn, .inl (cI, 24, .inl (vI nb))), (t, .inr (2, [.ref tc, .ref ts])), (tc, .inl (cI, 1000, .inl (vI cn))), (ts, .inl (cI, 1000, .inl (vI sm))), (b, .inr (0, [.ref bm, .ref br])), (bm, .inl (cI, 25, .inl (vI mo))), (br, .inl (cI, 5, .inl (vI re)))] none [(w, .inr (3, [.int (iI (((v : Nat) : Int))), .int (iI (0)), .int (iI (0)), .int (iI (5)), .ref wc, .ref k, .ref t, .ref b])), (wc, .inl (cI, 5, .inl (vI (fun _ => 0)))), (k, .inr (1, [.ref kn])), (kn, .inl (cI, 24, .inl (vI nbFirst))), (t, .inr (2, [.ref tc, .ref ts])), (tc, .inl (cI, 1000, .inl (vI (fun _ => 0)))), (ts, .inl (cI, 1000, .inl (vI (fun _ => 0)))), (b, .inr (0, [.ref bm, .ref br])), (bm, .inl (cI, 25, .inl (vI (fun _ => 1000000000)))), (br, .inl (cI, 5, .inl (vI re)))] := by
  refine CM.V (cc := cX3_begin) (maxL := 2) (by decide) rfl (Nat.le_of_ble_eq_true rfl) ?_
  intro p e s m args below meth c R Q S hE A hAN hfr hlo hP hD hS hret ls hl
  have S : CallFix p m c cX3_begin 2 s args wsX3_begin RX3 := S
  have hx := S.1
  have hb := S.2.1
  have hl : lv_has ls 2 [(0, .ref w), (1, .int (iI (((v : Nat) : Int))))] := hl
  refine lv_aload_n hx hb dX3_begin_0 rfl (lv_at hl 0 rfl) ?_
  refine lv_iload_n hx hb dX3_begin_1 rfl (lv_at hl 1 rfl) ?_
  refine w_put (C := RX3) (T := TX3) (Nf := 8) (ci := 3) S (fun _ h => List.mem_cons_of_mem _ (List.mem_append_left _ (List.mem_append_left _ (List.mem_append_left _ (List.mem_append_right _ h))))) tyX3 tyX3_ok nmX3 hE hP hD hS 0 rfl rfl 0 (by decide) (List.mem_of_getElem? (i := 1) rfl) rfl rfl (Nat.le_of_ble_eq_true rfl) dX3_begin_2 (fun H locs hP hD hS => ?_)
  have hP : va_P D vwCl [(w, .inr (3, [.int (iI (((v : Nat) : Int))), .int (iI (tA)), .int (iI (sA)), .int (iI (kA)), .ref wc, .ref k, .ref t, .ref b])), (wc, .inl (cI, 5, .inl (vI ck))), (k, .inr (1, [.ref kn])), (kn, .inl (cI, 24, .inl (vI nb))), (t, .inr (2, [.ref tc, .ref ts])), (tc, .inl (cI, 1000, .inl (vI cn))), (ts, .inl (cI, 1000, .inl (vI sm))), (b, .inr (0, [.ref bm, .ref br])), (bm, .inl (cI, 25, .inl (vI mo))), (br, .inl (cI, 5, .inl (vI re)))] H := hP
  have hD : va_D A [(w, .inr (3, [.int (iI (((v : Nat) : Int))), .int (iI (tA)), .int (iI (sA)), .int (iI (kA)), .ref wc, .ref k, .ref t, .ref b])), (wc, .inl (cI, 5, .inl (vI ck))), (k, .inr (1, [.ref kn])), (kn, .inl (cI, 24, .inl (vI nb))), (t, .inr (2, [.ref tc, .ref ts])), (tc, .inl (cI, 1000, .inl (vI cn))), (ts, .inl (cI, 1000, .inl (vI sm))), (b, .inr (0, [.ref bm, .ref br])), (bm, .inl (cI, 25, .inl (vI mo))), (br, .inl (cI, 5, .inl (vI re)))] := hD
  refine lv_aload_n hx hb dX3_begin_5 rfl (lv_at hl 0 rfl) ?_
  refine lv_iconst (v := iI (0)) hx hb dX3_begin_6 rfl ?_
  refine w_put (C := RX3) (T := TX3) (Nf := 8) (ci := 3) S (fun _ h => List.mem_cons_of_mem _ (List.mem_append_left _ (List.mem_append_left _ (List.mem_append_left _ (List.mem_append_right _ h))))) tyX3 tyX3_ok nmX3 hE hP hD hS 0 rfl rfl 1 (by decide) (List.mem_of_getElem? (i := 2) rfl) rfl rfl (Nat.le_of_ble_eq_true rfl) dX3_begin_7 (fun H locs hP hD hS => ?_)
  have hP : va_P D vwCl [(w, .inr (3, [.int (iI (((v : Nat) : Int))), .int (iI (0)), .int (iI (sA)), .int (iI (kA)), .ref wc, .ref k, .ref t, .ref b])), (wc, .inl (cI, 5, .inl (vI ck))), (k, .inr (1, [.ref kn])), (kn, .inl (cI, 24, .inl (vI nb))), (t, .inr (2, [.ref tc, .ref ts])), (tc, .inl (cI, 1000, .inl (vI cn))), (ts, .inl (cI, 1000, .inl (vI sm))), (b, .inr (0, [.ref bm, .ref br])), (bm, .inl (cI, 25, .inl (vI mo))), (br, .inl (cI, 5, .inl (vI re)))] H := hP
  have hD : va_D A [(w, .inr (3, [.int (iI (((v : Nat) : Int))), .int (iI (0)), .int (iI (sA)), .int (iI (kA)), .ref wc, .ref k, .ref t, .ref b])), (wc, .inl (cI, 5, .inl (vI ck))), (k, .inr (1, [.ref kn])), (kn, .inl (cI, 24, .inl (vI nb))), (t, .inr (2, [.ref tc, .ref ts])), (tc, .inl (cI, 1000, .inl (vI cn))), (ts, .inl (cI, 1000, .inl (vI sm))), (b, .inr (0, [.ref bm, .ref br])), (bm, .inl (cI, 25, .inl (vI mo))), (br, .inl (cI, 5, .inl (vI re)))] := hD
  refine lv_aload_n hx hb dX3_begin_10 rfl (lv_at hl 0 rfl) ?_
  refine lv_iconst (v := iI (0)) hx hb dX3_begin_11 rfl ?_
  refine w_put (C := RX3) (T := TX3) (Nf := 8) (ci := 3) S (fun _ h => List.mem_cons_of_mem _ (List.mem_append_left _ (List.mem_append_left _ (List.mem_append_left _ (List.mem_append_right _ h))))) tyX3 tyX3_ok nmX3 hE hP hD hS 0 rfl rfl 2 (by decide) (List.mem_of_getElem? (i := 3) rfl) rfl rfl (Nat.le_of_ble_eq_true rfl) dX3_begin_12 (fun H locs hP hD hS => ?_)
  have hP : va_P D vwCl [(w, .inr (3, [.int (iI (((v : Nat) : Int))), .int (iI (0)), .int (iI (0)), .int (iI (kA)), .ref wc, .ref k, .ref t, .ref b])), (wc, .inl (cI, 5, .inl (vI ck))), (k, .inr (1, [.ref kn])), (kn, .inl (cI, 24, .inl (vI nb))), (t, .inr (2, [.ref tc, .ref ts])), (tc, .inl (cI, 1000, .inl (vI cn))), (ts, .inl (cI, 1000, .inl (vI sm))), (b, .inr (0, [.ref bm, .ref br])), (bm, .inl (cI, 25, .inl (vI mo))), (br, .inl (cI, 5, .inl (vI re)))] H := hP
  have hD : va_D A [(w, .inr (3, [.int (iI (((v : Nat) : Int))), .int (iI (0)), .int (iI (0)), .int (iI (kA)), .ref wc, .ref k, .ref t, .ref b])), (wc, .inl (cI, 5, .inl (vI ck))), (k, .inr (1, [.ref kn])), (kn, .inl (cI, 24, .inl (vI nb))), (t, .inr (2, [.ref tc, .ref ts])), (tc, .inl (cI, 1000, .inl (vI cn))), (ts, .inl (cI, 1000, .inl (vI sm))), (b, .inr (0, [.ref bm, .ref br])), (bm, .inl (cI, 25, .inl (vI mo))), (br, .inl (cI, 5, .inl (vI re)))] := hD
  refine lv_aload_n hx hb dX3_begin_15 rfl (lv_at hl 0 rfl) ?_
  refine lv_iconst (v := iI (5)) hx hb dX3_begin_16 rfl ?_
  refine w_put (C := RX3) (T := TX3) (Nf := 8) (ci := 3) S (fun _ h => List.mem_cons_of_mem _ (List.mem_append_left _ (List.mem_append_left _ (List.mem_append_left _ (List.mem_append_right _ h))))) tyX3 tyX3_ok nmX3 hE hP hD hS 0 rfl rfl 3 (by decide) (List.mem_of_getElem? (i := 4) rfl) rfl rfl (Nat.le_of_ble_eq_true rfl) dX3_begin_17 (fun H locs hP hD hS => ?_)
  have hP : va_P D vwCl [(w, .inr (3, [.int (iI (((v : Nat) : Int))), .int (iI (0)), .int (iI (0)), .int (iI (5)), .ref wc, .ref k, .ref t, .ref b])), (wc, .inl (cI, 5, .inl (vI ck))), (k, .inr (1, [.ref kn])), (kn, .inl (cI, 24, .inl (vI nb))), (t, .inr (2, [.ref tc, .ref ts])), (tc, .inl (cI, 1000, .inl (vI cn))), (ts, .inl (cI, 1000, .inl (vI sm))), (b, .inr (0, [.ref bm, .ref br])), (bm, .inl (cI, 25, .inl (vI mo))), (br, .inl (cI, 5, .inl (vI re)))] H := hP
  have hD : va_D A [(w, .inr (3, [.int (iI (((v : Nat) : Int))), .int (iI (0)), .int (iI (0)), .int (iI (5)), .ref wc, .ref k, .ref t, .ref b])), (wc, .inl (cI, 5, .inl (vI ck))), (k, .inr (1, [.ref kn])), (kn, .inl (cI, 24, .inl (vI nb))), (t, .inr (2, [.ref tc, .ref ts])), (tc, .inl (cI, 1000, .inl (vI cn))), (ts, .inl (cI, 1000, .inl (vI sm))), (b, .inr (0, [.ref bm, .ref br])), (bm, .inl (cI, 25, .inl (vI mo))), (br, .inl (cI, 5, .inl (vI re)))] := hD
  refine lv_aload_n hx hb dX3_begin_20 rfl (lv_at hl 0 rfl) ?_
  refine w_get (C := RX3) (T := TX3) (Nf := 8) (ci := 3) (v := .ref wc) S (fun _ h => List.mem_cons_of_mem _ (List.mem_append_left _ (List.mem_append_left _ (List.mem_append_left _ (List.mem_append_right _ h))))) hE hP 0 rfl rfl 4 (by decide) (List.mem_of_getElem? (i := 5) rfl) rfl dX3_begin_21 ?_
  refine lv_iconst (v := iI (0)) hx hb dX3_begin_24 rfl ?_
  refine kS_M (n := 2) S (c_fill lc D cI cZ N wc 5 ck 0 (by omega)) gX3_begin_J7_fill_53178 rfl (by decide +kernel) rfl rfl ⟨Nat.le_trans (Nat.le_of_ble_eq_true rfl) hfr, Nat.le_trans (Nat.le_of_ble_eq_true rfl) hlo⟩ hE hAN hP hD hS [1] rfl (by decide) rfl rfl hl.1 [] rfl (Nat.le_of_ble_eq_true rfl) dX3_begin_25 ⟨Nat.zero_le _, Nat.zero_le _⟩ (fun H locs hP hD hS => ?_)
  have hP : va_P D vwCl [(w, .inr (3, [.int (iI (((v : Nat) : Int))), .int (iI (0)), .int (iI (0)), .int (iI (5)), .ref wc, .ref k, .ref t, .ref b])), (wc, .inl (cI, 5, .inl (vI (fun _ => 0)))), (k, .inr (1, [.ref kn])), (kn, .inl (cI, 24, .inl (vI nb))), (t, .inr (2, [.ref tc, .ref ts])), (tc, .inl (cI, 1000, .inl (vI cn))), (ts, .inl (cI, 1000, .inl (vI sm))), (b, .inr (0, [.ref bm, .ref br])), (bm, .inl (cI, 25, .inl (vI mo))), (br, .inl (cI, 5, .inl (vI re)))] H := hP
  have hD : va_D A [(w, .inr (3, [.int (iI (((v : Nat) : Int))), .int (iI (0)), .int (iI (0)), .int (iI (5)), .ref wc, .ref k, .ref t, .ref b])), (wc, .inl (cI, 5, .inl (vI (fun _ => 0)))), (k, .inr (1, [.ref kn])), (kn, .inl (cI, 24, .inl (vI nb))), (t, .inr (2, [.ref tc, .ref ts])), (tc, .inl (cI, 1000, .inl (vI cn))), (ts, .inl (cI, 1000, .inl (vI sm))), (b, .inr (0, [.ref bm, .ref br])), (bm, .inl (cI, 25, .inl (vI mo))), (br, .inl (cI, 5, .inl (vI re)))] := hD
  refine W.eq (g2 := F0 m 28 ls []) rfl ?_
  refine lv_aload_n hx hb dX3_begin_28 rfl (lv_at hl 0 rfl) ?_
  refine w_get (C := RX3) (T := TX3) (Nf := 8) (ci := 3) (v := .ref k) S (fun _ h => List.mem_cons_of_mem _ (List.mem_append_left _ (List.mem_append_left _ (List.mem_append_left _ (List.mem_append_right _ h))))) hE hP 0 rfl rfl 5 (by decide) (List.mem_of_getElem? (i := 6) rfl) rfl dX3_begin_29 ?_
  refine kV_M (n := 0) (ci := 1) (q := (RX1, TX1, 1)) S (c_X1_begin lc D cI cZ N k kn nb ) gX3_begin_X1_begin rfl rfl (by decide +kernel) rfl rfl ⟨Nat.le_trans (Nat.le_of_ble_eq_true rfl) hfr, Nat.le_trans (Nat.le_of_ble_eq_true rfl) hlo⟩ hE hAN hP hD hS [2, 3] rfl (by decide) rfl rfl rfl rfl rfl hl.1 [] rfl (Nat.le_of_ble_eq_true rfl) dX3_begin_32 ⟨Nat.zero_le _, Nat.zero_le _⟩ (fun H locs hP hD hS => ?_)
  have hP : va_P D vwCl [(w, .inr (3, [.int (iI (((v : Nat) : Int))), .int (iI (0)), .int (iI (0)), .int (iI (5)), .ref wc, .ref k, .ref t, .ref b])), (wc, .inl (cI, 5, .inl (vI (fun _ => 0)))), (k, .inr (1, [.ref kn])), (kn, .inl (cI, 24, .inl (vI nbFirst))), (t, .inr (2, [.ref tc, .ref ts])), (tc, .inl (cI, 1000, .inl (vI cn))), (ts, .inl (cI, 1000, .inl (vI sm))), (b, .inr (0, [.ref bm, .ref br])), (bm, .inl (cI, 25, .inl (vI mo))), (br, .inl (cI, 5, .inl (vI re)))] H := hP
  have hD : va_D A [(w, .inr (3, [.int (iI (((v : Nat) : Int))), .int (iI (0)), .int (iI (0)), .int (iI (5)), .ref wc, .ref k, .ref t, .ref b])), (wc, .inl (cI, 5, .inl (vI (fun _ => 0)))), (k, .inr (1, [.ref kn])), (kn, .inl (cI, 24, .inl (vI nbFirst))), (t, .inr (2, [.ref tc, .ref ts])), (tc, .inl (cI, 1000, .inl (vI cn))), (ts, .inl (cI, 1000, .inl (vI sm))), (b, .inr (0, [.ref bm, .ref br])), (bm, .inl (cI, 25, .inl (vI mo))), (br, .inl (cI, 5, .inl (vI re)))] := hD
  refine W.eq (g2 := F0 m 35 ls []) rfl ?_
  refine lv_aload_n hx hb dX3_begin_35 rfl (lv_at hl 0 rfl) ?_
  refine w_get (C := RX3) (T := TX3) (Nf := 8) (ci := 3) (v := .ref t) S (fun _ h => List.mem_cons_of_mem _ (List.mem_append_left _ (List.mem_append_left _ (List.mem_append_left _ (List.mem_append_right _ h))))) hE hP 0 rfl rfl 6 (by decide) (List.mem_of_getElem? (i := 7) rfl) rfl dX3_begin_36 ?_
  refine kV_M (n := 0) (ci := 2) (q := (RX2, TX2, 2)) S (c_X2_begin lc D cI cZ N t tc ts cn sm ) gX3_begin_X2_begin rfl rfl (by decide +kernel) rfl rfl ⟨Nat.le_trans (Nat.le_of_ble_eq_true rfl) hfr, Nat.le_trans (Nat.le_of_ble_eq_true rfl) hlo⟩ hE hAN hP hD hS [4, 5, 6] rfl (by decide) rfl rfl rfl rfl rfl hl.1 [] rfl (Nat.le_of_ble_eq_true rfl) dX3_begin_39 ⟨Nat.zero_le _, Nat.zero_le _⟩ (fun H locs hP hD hS => ?_)
  have hP : va_P D vwCl [(w, .inr (3, [.int (iI (((v : Nat) : Int))), .int (iI (0)), .int (iI (0)), .int (iI (5)), .ref wc, .ref k, .ref t, .ref b])), (wc, .inl (cI, 5, .inl (vI (fun _ => 0)))), (k, .inr (1, [.ref kn])), (kn, .inl (cI, 24, .inl (vI nbFirst))), (t, .inr (2, [.ref tc, .ref ts])), (tc, .inl (cI, 1000, .inl (vI (fun _ => 0)))), (ts, .inl (cI, 1000, .inl (vI (fun _ => 0)))), (b, .inr (0, [.ref bm, .ref br])), (bm, .inl (cI, 25, .inl (vI mo))), (br, .inl (cI, 5, .inl (vI re)))] H := hP
  have hD : va_D A [(w, .inr (3, [.int (iI (((v : Nat) : Int))), .int (iI (0)), .int (iI (0)), .int (iI (5)), .ref wc, .ref k, .ref t, .ref b])), (wc, .inl (cI, 5, .inl (vI (fun _ => 0)))), (k, .inr (1, [.ref kn])), (kn, .inl (cI, 24, .inl (vI nbFirst))), (t, .inr (2, [.ref tc, .ref ts])), (tc, .inl (cI, 1000, .inl (vI (fun _ => 0)))), (ts, .inl (cI, 1000, .inl (vI (fun _ => 0)))), (b, .inr (0, [.ref bm, .ref br])), (bm, .inl (cI, 25, .inl (vI mo))), (br, .inl (cI, 5, .inl (vI re)))] := hD
  refine W.eq (g2 := F0 m 42 ls []) rfl ?_
  refine lv_aload_n hx hb dX3_begin_42 rfl (lv_at hl 0 rfl) ?_
  refine w_get (C := RX3) (T := TX3) (Nf := 8) (ci := 3) (v := .ref b) S (fun _ h => List.mem_cons_of_mem _ (List.mem_append_left _ (List.mem_append_left _ (List.mem_append_left _ (List.mem_append_right _ h))))) hE hP 0 rfl rfl 7 (by decide) (List.mem_of_getElem? (i := 8) rfl) rfl dX3_begin_43 ?_
  refine kV_M (n := 0) (ci := 0) (q := (RX0, TX0, 2)) S (c_X0_begin lc D cI cZ N b bm br mo re ) gX3_begin_X0_begin rfl rfl (by decide +kernel) rfl rfl ⟨Nat.le_trans (Nat.le_of_ble_eq_true rfl) hfr, Nat.le_trans (Nat.le_of_ble_eq_true rfl) hlo⟩ hE hAN hP hD hS [7, 8, 9] rfl (by decide) rfl rfl rfl rfl rfl hl.1 [] rfl (Nat.le_of_ble_eq_true rfl) dX3_begin_46 ⟨Nat.zero_le _, Nat.zero_le _⟩ (fun H locs hP hD hS => ?_)
  have hP : va_P D vwCl [(w, .inr (3, [.int (iI (((v : Nat) : Int))), .int (iI (0)), .int (iI (0)), .int (iI (5)), .ref wc, .ref k, .ref t, .ref b])), (wc, .inl (cI, 5, .inl (vI (fun _ => 0)))), (k, .inr (1, [.ref kn])), (kn, .inl (cI, 24, .inl (vI nbFirst))), (t, .inr (2, [.ref tc, .ref ts])), (tc, .inl (cI, 1000, .inl (vI (fun _ => 0)))), (ts, .inl (cI, 1000, .inl (vI (fun _ => 0)))), (b, .inr (0, [.ref bm, .ref br])), (bm, .inl (cI, 25, .inl (vI (fun _ => 1000000000)))), (br, .inl (cI, 5, .inl (vI re)))] H := hP
  have hD : va_D A [(w, .inr (3, [.int (iI (((v : Nat) : Int))), .int (iI (0)), .int (iI (0)), .int (iI (5)), .ref wc, .ref k, .ref t, .ref b])), (wc, .inl (cI, 5, .inl (vI (fun _ => 0)))), (k, .inr (1, [.ref kn])), (kn, .inl (cI, 24, .inl (vI nbFirst))), (t, .inr (2, [.ref tc, .ref ts])), (tc, .inl (cI, 1000, .inl (vI (fun _ => 0)))), (ts, .inl (cI, 1000, .inl (vI (fun _ => 0)))), (b, .inr (0, [.ref bm, .ref br])), (bm, .inl (cI, 25, .inl (vI (fun _ => 1000000000)))), (br, .inl (cI, 5, .inl (vI re)))] := hD
  refine W.eq (g2 := F0 m 49 ls []) rfl ?_
  exact hret _ _ _ _ dX3_begin_49 hP hS
set_option maxHeartbeats 4000000 in
set_option maxRecDepth 100000 in
theorem c_X3_copyFrom (lc : Launch) (D : va_G) (cI cZ : ClassId) (N : Nat) (w : Nat) (wc : Nat) (k : Nat) (kn : Nat) (t : Nat) (tc : Nat) (ts : Nat) (b : Nat) (bm : Nat) (br : Nat) (mn : Nat) (tA : Int) (sA : Int) (kA : Int) (ck : Nat → Int) (nb : Nat → Int) (cn : Nat → Int) (sm : Nat → Int) (mo : Nat → Int) (re : Nat → Int) (w2 : Nat) (wc2 : Nat) (k2 : Nat) (kn2 : Nat) (t2 : Nat) (tc2 : Nat) (ts2 : Nat) (b2 : Nat) (bm2 : Nat) (br2 : Nat) (mn2 : Nat) (tA2 : Int) (sA2 : Int) (kA2 : Int) (ck2 : Nat → Int) (nb2 : Nat → Int) (cn2 : Nat → Int) (sm2 : Nat → Int) (mo2 : Nat → Int) (re2 : Nat → Int)  : CM lc D cI cZ N yX3_copyFrom wsX3_copyFrom (rmK 2 47) [.ref w, .ref w2] [(w, .inr (3, [.int (iI (((mn : Nat) : Int))), .int (iI (tA)), .int (iI (sA)), .int (iI (kA)), .ref wc, .ref k, .ref t, .ref b])), (wc, .inl (cI, 5, .inl (vI ck))), (k, .inr (1, [.ref kn])), (kn, .inl (cI, 24, .inl (vI nb))), (t, .inr (2, [.ref tc, .ref ts])), (tc, .inl (cI, 1000, .inl (vI cn))), (ts, .inl (cI, 1000, .inl (vI sm))), (b, .inr (0, [.ref bm, .ref br])), (bm, .inl (cI, 25, .inl (vI mo))), (br, .inl (cI, 5, .inl (vI re))), (w2, .inr (3, [.int (iI (((mn2 : Nat) : Int))), .int (iI (tA2)), .int (iI (sA2)), .int (iI (kA2)), .ref wc2, .ref k2, .ref t2, .ref b2])), (wc2, .inl (cI, 5, .inl (vI ck2))), (k2, .inr (1, [.ref kn2])), (kn2, .inl (cI, 24, .inl (vI nb2))), (t2, .inr (2, [.ref tc2, .ref ts2])), (tc2, .inl (cI, 1000, .inl (vI cn2))), (ts2, .inl (cI, 1000, .inl (vI sm2))), (b2, .inr (0, [.ref bm2, .ref br2])), (bm2, .inl (cI, 25, .inl (vI mo2))), (br2, .inl (cI, 5, .inl (vI re2)))] none [(w, .inr (3, [.int (iI (((mn2 : Nat) : Int))), .int (iI (tA2)), .int (iI (sA2)), .int (iI (kA2)), .ref wc, .ref k, .ref t, .ref b])), (wc, .inl (cI, 5, .inl (vI ck2))), (k, .inr (1, [.ref kn])), (kn, .inl (cI, 24, .inl (vI nb2))), (t, .inr (2, [.ref tc, .ref ts])), (tc, .inl (cI, 1000, .inl (vI cn2))), (ts, .inl (cI, 1000, .inl (vI sm2))), (b, .inr (0, [.ref bm, .ref br])), (bm, .inl (cI, 25, .inl (vI mo2))), (br, .inl (cI, 5, .inl (vI re))), (w2, .inr (3, [.int (iI (((mn2 : Nat) : Int))), .int (iI (tA2)), .int (iI (sA2)), .int (iI (kA2)), .ref wc2, .ref k2, .ref t2, .ref b2])), (wc2, .inl (cI, 5, .inl (vI ck2))), (k2, .inr (1, [.ref kn2])), (kn2, .inl (cI, 24, .inl (vI nb2))), (t2, .inr (2, [.ref tc2, .ref ts2])), (tc2, .inl (cI, 1000, .inl (vI cn2))), (ts2, .inl (cI, 1000, .inl (vI sm2))), (b2, .inr (0, [.ref bm2, .ref br2])), (bm2, .inl (cI, 25, .inl (vI mo2))), (br2, .inl (cI, 5, .inl (vI re2)))] := by
  refine CM.V (cc := cX3_copyFrom) (maxL := 2) (by decide) rfl (Nat.le_of_ble_eq_true rfl) ?_
  intro p e s m args below meth c R Q S hE A hAN hfr hlo hP hD hS hret ls hl
  have S : CallFix p m c cX3_copyFrom 2 s args wsX3_copyFrom RX3 := S
  have hx := S.1
  have hb := S.2.1
  have hl : lv_has ls 2 [(0, .ref w), (1, .ref w2)] := hl
  refine lv_aload_n hx hb dX3_copyFrom_0 rfl (lv_at hl 0 rfl) ?_
  refine lv_aload_n hx hb dX3_copyFrom_1 rfl (lv_at hl 1 rfl) ?_
  refine w_get (C := RX3) (T := TX3) (Nf := 8) (ci := 3) (v := .int (iI (((mn2 : Nat) : Int)))) S (fun _ h => List.mem_cons_of_mem _ (List.mem_append_left _ (List.mem_append_left _ (List.mem_append_left _ (List.mem_append_right _ h))))) hE hP 10 rfl rfl 0 (by decide) (List.mem_of_getElem? (i := 1) rfl) rfl dX3_copyFrom_2 ?_
  refine w_put (C := RX3) (T := TX3) (Nf := 8) (ci := 3) S (fun _ h => List.mem_cons_of_mem _ (List.mem_append_left _ (List.mem_append_left _ (List.mem_append_left _ (List.mem_append_right _ h))))) tyX3 tyX3_ok nmX3 hE hP hD hS 0 rfl rfl 0 (by decide) (List.mem_of_getElem? (i := 1) rfl) rfl rfl (Nat.le_of_ble_eq_true rfl) dX3_copyFrom_5 (fun H locs hP hD hS => ?_)
  have hP : va_P D vwCl [(w, .inr (3, [.int (iI (((mn2 : Nat) : Int))), .int (iI (tA)), .int (iI (sA)), .int (iI (kA)), .ref wc, .ref k, .ref t, .ref b])), (wc, .inl (cI, 5, .inl (vI ck))), (k, .inr (1, [.ref kn])), (kn, .inl (cI, 24, .inl (vI nb))), (t, .inr (2, [.ref tc, .ref ts])), (tc, .inl (cI, 1000, .inl (vI cn))), (ts, .inl (cI, 1000, .inl (vI sm))), (b, .inr (0, [.ref bm, .ref br])), (bm, .inl (cI, 25, .inl (vI mo))), (br, .inl (cI, 5, .inl (vI re))), (w2, .inr (3, [.int (iI (((mn2 : Nat) : Int))), .int (iI (tA2)), .int (iI (sA2)), .int (iI (kA2)), .ref wc2, .ref k2, .ref t2, .ref b2])), (wc2, .inl (cI, 5, .inl (vI ck2))), (k2, .inr (1, [.ref kn2])), (kn2, .inl (cI, 24, .inl (vI nb2))), (t2, .inr (2, [.ref tc2, .ref ts2])), (tc2, .inl (cI, 1000, .inl (vI cn2))), (ts2, .inl (cI, 1000, .inl (vI sm2))), (b2, .inr (0, [.ref bm2, .ref br2])), (bm2, .inl (cI, 25, .inl (vI mo2))), (br2, .inl (cI, 5, .inl (vI re2)))] H := hP
  have hD : va_D A [(w, .inr (3, [.int (iI (((mn2 : Nat) : Int))), .int (iI (tA)), .int (iI (sA)), .int (iI (kA)), .ref wc, .ref k, .ref t, .ref b])), (wc, .inl (cI, 5, .inl (vI ck))), (k, .inr (1, [.ref kn])), (kn, .inl (cI, 24, .inl (vI nb))), (t, .inr (2, [.ref tc, .ref ts])), (tc, .inl (cI, 1000, .inl (vI cn))), (ts, .inl (cI, 1000, .inl (vI sm))), (b, .inr (0, [.ref bm, .ref br])), (bm, .inl (cI, 25, .inl (vI mo))), (br, .inl (cI, 5, .inl (vI re))), (w2, .inr (3, [.int (iI (((mn2 : Nat) : Int))), .int (iI (tA2)), .int (iI (sA2)), .int (iI (kA2)), .ref wc2, .ref k2, .ref t2, .ref b2])), (wc2, .inl (cI, 5, .inl (vI ck2))), (k2, .inr (1, [.ref kn2])), (kn2, .inl (cI, 24, .inl (vI nb2))), (t2, .inr (2, [.ref tc2, .ref ts2])), (tc2, .inl (cI, 1000, .inl (vI cn2))), (ts2, .inl (cI, 1000, .inl (vI sm2))), (b2, .inr (0, [.ref bm2, .ref br2])), (bm2, .inl (cI, 25, .inl (vI mo2))), (br2, .inl (cI, 5, .inl (vI re2)))] := hD
  refine lv_aload_n hx hb dX3_copyFrom_8 rfl (lv_at hl 0 rfl) ?_
  refine lv_aload_n hx hb dX3_copyFrom_9 rfl (lv_at hl 1 rfl) ?_
  refine w_get (C := RX3) (T := TX3) (Nf := 8) (ci := 3) (v := .int (iI (tA2))) S (fun _ h => List.mem_cons_of_mem _ (List.mem_append_left _ (List.mem_append_left _ (List.mem_append_left _ (List.mem_append_right _ h))))) hE hP 10 rfl rfl 1 (by decide) (List.mem_of_getElem? (i := 2) rfl) rfl dX3_copyFrom_10 ?_
  refine w_put (C := RX3) (T := TX3) (Nf := 8) (ci := 3) S (fun _ h => List.mem_cons_of_mem _ (List.mem_append_left _ (List.mem_append_left _ (List.mem_append_left _ (List.mem_append_right _ h))))) tyX3 tyX3_ok nmX3 hE hP hD hS 0 rfl rfl 1 (by decide) (List.mem_of_getElem? (i := 2) rfl) rfl rfl (Nat.le_of_ble_eq_true rfl) dX3_copyFrom_13 (fun H locs hP hD hS => ?_)
  have hP : va_P D vwCl [(w, .inr (3, [.int (iI (((mn2 : Nat) : Int))), .int (iI (tA2)), .int (iI (sA)), .int (iI (kA)), .ref wc, .ref k, .ref t, .ref b])), (wc, .inl (cI, 5, .inl (vI ck))), (k, .inr (1, [.ref kn])), (kn, .inl (cI, 24, .inl (vI nb))), (t, .inr (2, [.ref tc, .ref ts])), (tc, .inl (cI, 1000, .inl (vI cn))), (ts, .inl (cI, 1000, .inl (vI sm))), (b, .inr (0, [.ref bm, .ref br])), (bm, .inl (cI, 25, .inl (vI mo))), (br, .inl (cI, 5, .inl (vI re))), (w2, .inr (3, [.int (iI (((mn2 : Nat) : Int))), .int (iI (tA2)), .int (iI (sA2)), .int (iI (kA2)), .ref wc2, .ref k2, .ref t2, .ref b2])), (wc2, .inl (cI, 5, .inl (vI ck2))), (k2, .inr (1, [.ref kn2])), (kn2, .inl (cI, 24, .inl (vI nb2))), (t2, .inr (2, [.ref tc2, .ref ts2])), (tc2, .inl (cI, 1000, .inl (vI cn2))), (ts2, .inl (cI, 1000, .inl (vI sm2))), (b2, .inr (0, [.ref bm2, .ref br2])), (bm2, .inl (cI, 25, .inl (vI mo2))), (br2, .inl (cI, 5, .inl (vI re2)))] H := hP
  have hD : va_D A [(w, .inr (3, [.int (iI (((mn2 : Nat) : Int))), .int (iI (tA2)), .int (iI (sA)), .int (iI (kA)), .ref wc, .ref k, .ref t, .ref b])), (wc, .inl (cI, 5, .inl (vI ck))), (k, .inr (1, [.ref kn])), (kn, .inl (cI, 24, .inl (vI nb))), (t, .inr (2, [.ref tc, .ref ts])), (tc, .inl (cI, 1000, .inl (vI cn))), (ts, .inl (cI, 1000, .inl (vI sm))), (b, .inr (0, [.ref bm, .ref br])), (bm, .inl (cI, 25, .inl (vI mo))), (br, .inl (cI, 5, .inl (vI re))), (w2, .inr (3, [.int (iI (((mn2 : Nat) : Int))), .int (iI (tA2)), .int (iI (sA2)), .int (iI (kA2)), .ref wc2, .ref k2, .ref t2, .ref b2])), (wc2, .inl (cI, 5, .inl (vI ck2))), (k2, .inr (1, [.ref kn2])), (kn2, .inl (cI, 24, .inl (vI nb2))), (t2, .inr (2, [.ref tc2, .ref ts2])), (tc2, .inl (cI, 1000, .inl (vI cn2))), (ts2, .inl (cI, 1000, .inl (vI sm2))), (b2, .inr (0, [.ref bm2, .ref br2])), (bm2, .inl (cI, 25, .inl (vI mo2))), (br2, .inl (cI, 5, .inl (vI re2)))] := hD
  refine lv_aload_n hx hb dX3_copyFrom_16 rfl (lv_at hl 0 rfl) ?_
  refine lv_aload_n hx hb dX3_copyFrom_17 rfl (lv_at hl 1 rfl) ?_
  refine w_get (C := RX3) (T := TX3) (Nf := 8) (ci := 3) (v := .int (iI (sA2))) S (fun _ h => List.mem_cons_of_mem _ (List.mem_append_left _ (List.mem_append_left _ (List.mem_append_left _ (List.mem_append_right _ h))))) hE hP 10 rfl rfl 2 (by decide) (List.mem_of_getElem? (i := 3) rfl) rfl dX3_copyFrom_18 ?_
  refine w_put (C := RX3) (T := TX3) (Nf := 8) (ci := 3) S (fun _ h => List.mem_cons_of_mem _ (List.mem_append_left _ (List.mem_append_left _ (List.mem_append_left _ (List.mem_append_right _ h))))) tyX3 tyX3_ok nmX3 hE hP hD hS 0 rfl rfl 2 (by decide) (List.mem_of_getElem? (i := 3) rfl) rfl rfl (Nat.le_of_ble_eq_true rfl) dX3_copyFrom_21 (fun H locs hP hD hS => ?_)
  have hP : va_P D vwCl [(w, .inr (3, [.int (iI (((mn2 : Nat) : Int))), .int (iI (tA2)), .int (iI (sA2)), .int (iI (kA)), .ref wc, .ref k, .ref t, .ref b])), (wc, .inl (cI, 5, .inl (vI ck))), (k, .inr (1, [.ref kn])), (kn, .inl (cI, 24, .inl (vI nb))), (t, .inr (2, [.ref tc, .ref ts])), (tc, .inl (cI, 1000, .inl (vI cn))), (ts, .inl (cI, 1000, .inl (vI sm))), (b, .inr (0, [.ref bm, .ref br])), (bm, .inl (cI, 25, .inl (vI mo))), (br, .inl (cI, 5, .inl (vI re))), (w2, .inr (3, [.int (iI (((mn2 : Nat) : Int))), .int (iI (tA2)), .int (iI (sA2)), .int (iI (kA2)), .ref wc2, .ref k2, .ref t2, .ref b2])), (wc2, .inl (cI, 5, .inl (vI ck2))), (k2, .inr (1, [.ref kn2])), (kn2, .inl (cI, 24, .inl (vI nb2))), (t2, .inr (2, [.ref tc2, .ref ts2])), (tc2, .inl (cI, 1000, .inl (vI cn2))), (ts2, .inl (cI, 1000, .inl (vI sm2))), (b2, .inr (0, [.ref bm2, .ref br2])), (bm2, .inl (cI, 25, .inl (vI mo2))), (br2, .inl (cI, 5, .inl (vI re2)))] H := hP
  have hD : va_D A [(w, .inr (3, [.int (iI (((mn2 : Nat) : Int))), .int (iI (tA2)), .int (iI (sA2)), .int (iI (kA)), .ref wc, .ref k, .ref t, .ref b])), (wc, .inl (cI, 5, .inl (vI ck))), (k, .inr (1, [.ref kn])), (kn, .inl (cI, 24, .inl (vI nb))), (t, .inr (2, [.ref tc, .ref ts])), (tc, .inl (cI, 1000, .inl (vI cn))), (ts, .inl (cI, 1000, .inl (vI sm))), (b, .inr (0, [.ref bm, .ref br])), (bm, .inl (cI, 25, .inl (vI mo))), (br, .inl (cI, 5, .inl (vI re))), (w2, .inr (3, [.int (iI (((mn2 : Nat) : Int))), .int (iI (tA2)), .int (iI (sA2)), .int (iI (kA2)), .ref wc2, .ref k2, .ref t2, .ref b2])), (wc2, .inl (cI, 5, .inl (vI ck2))), (k2, .inr (1, [.ref kn2])), (kn2, .inl (cI, 24, .inl (vI nb2))), (t2, .inr (2, [.ref tc2, .ref ts2])), (tc2, .inl (cI, 1000, .inl (vI cn2))), (ts2, .inl (cI, 1000, .inl (vI sm2))), (b2, .inr (0, [.ref bm2, .ref br2])), (bm2, .inl (cI, 25, .inl (vI mo2))), (br2, .inl (cI, 5, .inl (vI re2)))] := hD
  refine lv_aload_n hx hb dX3_copyFrom_24 rfl (lv_at hl 0 rfl) ?_
  refine lv_aload_n hx hb dX3_copyFrom_25 rfl (lv_at hl 1 rfl) ?_
  refine w_get (C := RX3) (T := TX3) (Nf := 8) (ci := 3) (v := .int (iI (kA2))) S (fun _ h => List.mem_cons_of_mem _ (List.mem_append_left _ (List.mem_append_left _ (List.mem_append_left _ (List.mem_append_right _ h))))) hE hP 10 rfl rfl 3 (by decide) (List.mem_of_getElem? (i := 4) rfl) rfl dX3_copyFrom_26 ?_
  refine w_put (C := RX3) (T := TX3) (Nf := 8) (ci := 3) S (fun _ h => List.mem_cons_of_mem _ (List.mem_append_left _ (List.mem_append_left _ (List.mem_append_left _ (List.mem_append_right _ h))))) tyX3 tyX3_ok nmX3 hE hP hD hS 0 rfl rfl 3 (by decide) (List.mem_of_getElem? (i := 4) rfl) rfl rfl (Nat.le_of_ble_eq_true rfl) dX3_copyFrom_29 (fun H locs hP hD hS => ?_)
  have hP : va_P D vwCl [(w, .inr (3, [.int (iI (((mn2 : Nat) : Int))), .int (iI (tA2)), .int (iI (sA2)), .int (iI (kA2)), .ref wc, .ref k, .ref t, .ref b])), (wc, .inl (cI, 5, .inl (vI ck))), (k, .inr (1, [.ref kn])), (kn, .inl (cI, 24, .inl (vI nb))), (t, .inr (2, [.ref tc, .ref ts])), (tc, .inl (cI, 1000, .inl (vI cn))), (ts, .inl (cI, 1000, .inl (vI sm))), (b, .inr (0, [.ref bm, .ref br])), (bm, .inl (cI, 25, .inl (vI mo))), (br, .inl (cI, 5, .inl (vI re))), (w2, .inr (3, [.int (iI (((mn2 : Nat) : Int))), .int (iI (tA2)), .int (iI (sA2)), .int (iI (kA2)), .ref wc2, .ref k2, .ref t2, .ref b2])), (wc2, .inl (cI, 5, .inl (vI ck2))), (k2, .inr (1, [.ref kn2])), (kn2, .inl (cI, 24, .inl (vI nb2))), (t2, .inr (2, [.ref tc2, .ref ts2])), (tc2, .inl (cI, 1000, .inl (vI cn2))), (ts2, .inl (cI, 1000, .inl (vI sm2))), (b2, .inr (0, [.ref bm2, .ref br2])), (bm2, .inl (cI, 25, .inl (vI mo2))), (br2, .inl (cI, 5, .inl (vI re2)))] H := hP
  have hD : va_D A [(w, .inr (3, [.int (iI (((mn2 : Nat) : Int))), .int (iI (tA2)), .int (iI (sA2)), .int (iI (kA2)), .ref wc, .ref k, .ref t, .ref b])), (wc, .inl (cI, 5, .inl (vI ck))), (k, .inr (1, [.ref kn])), (kn, .inl (cI, 24, .inl (vI nb))), (t, .inr (2, [.ref tc, .ref ts])), (tc, .inl (cI, 1000, .inl (vI cn))), (ts, .inl (cI, 1000, .inl (vI sm))), (b, .inr (0, [.ref bm, .ref br])), (bm, .inl (cI, 25, .inl (vI mo))), (br, .inl (cI, 5, .inl (vI re))), (w2, .inr (3, [.int (iI (((mn2 : Nat) : Int))), .int (iI (tA2)), .int (iI (sA2)), .int (iI (kA2)), .ref wc2, .ref k2, .ref t2, .ref b2])), (wc2, .inl (cI, 5, .inl (vI ck2))), (k2, .inr (1, [.ref kn2])), (kn2, .inl (cI, 24, .inl (vI nb2))), (t2, .inr (2, [.ref tc2, .ref ts2])), (tc2, .inl (cI, 1000, .inl (vI cn2))), (ts2, .inl (cI, 1000, .inl (vI sm2))), (b2, .inr (0, [.ref bm2, .ref br2])), (bm2, .inl (cI, 25, .inl (vI mo2))), (br2, .inl (cI, 5, .inl (vI re2)))] := hD
  refine lv_aload_n hx hb dX3_copyFrom_32 rfl (lv_at hl 1 rfl) ?_
  refine w_get (C := RX3) (T := TX3) (Nf := 8) (ci := 3) (v := .ref wc2) S (fun _ h => List.mem_cons_of_mem _ (List.mem_append_left _ (List.mem_append_left _ (List.mem_append_left _ (List.mem_append_right _ h))))) hE hP 10 rfl rfl 4 (by decide) (List.mem_of_getElem? (i := 5) rfl) rfl dX3_copyFrom_33 ?_
  refine lv_iconst (v := iI (0)) hx hb dX3_copyFrom_36 rfl ?_
  refine lv_aload_n hx hb dX3_copyFrom_37 rfl (lv_at hl 0 rfl) ?_
  refine w_get (C := RX3) (T := TX3) (Nf := 8) (ci := 3) (v := .ref wc) S (fun _ h => List.mem_cons_of_mem _ (List.mem_append_left _ (List.mem_append_left _ (List.mem_append_left _ (List.mem_append_right _ h))))) hE hP 0 rfl rfl 4 (by decide) (List.mem_of_getElem? (i := 5) rfl) rfl dX3_copyFrom_38 ?_
  refine lv_iconst (v := iI (0)) hx hb dX3_copyFrom_41 rfl ?_
  refine lv_iconst (v := iI (5)) hx hb dX3_copyFrom_42 rfl ?_
  refine w_copy S hE hl.1 (List.mem_of_getElem? (i := 6) rfl) (List.mem_of_getElem? (i := 7) rfl) (List.mem_of_getElem? (i := 8) rfl) (List.mem_of_getElem? (i := 9) rfl) (Nat.le_trans (Nat.le_of_ble_eq_true rfl) hfr) (Nat.le_trans (Nat.le_of_ble_eq_true rfl) hlo) (Nat.le_of_ble_eq_true rfl) hP hD hS 11 1 rfl rfl (by decide) (by omega) dX3_copyFrom_43 (fun H locs hP hD hS => ?_)
  have hP : va_P D vwCl [(w, .inr (3, [.int (iI (((mn2 : Nat) : Int))), .int (iI (tA2)), .int (iI (sA2)), .int (iI (kA2)), .ref wc, .ref k, .ref t, .ref b])), (wc, .inl (cI, 5, .inl (vI ck2))), (k, .inr (1, [.ref kn])), (kn, .inl (cI, 24, .inl (vI nb))), (t, .inr (2, [.ref tc, .ref ts])), (tc, .inl (cI, 1000, .inl (vI cn))), (ts, .inl (cI, 1000, .inl (vI sm))), (b, .inr (0, [.ref bm, .ref br])), (bm, .inl (cI, 25, .inl (vI mo))), (br, .inl (cI, 5, .inl (vI re))), (w2, .inr (3, [.int (iI (((mn2 : Nat) : Int))), .int (iI (tA2)), .int (iI (sA2)), .int (iI (kA2)), .ref wc2, .ref k2, .ref t2, .ref b2])), (wc2, .inl (cI, 5, .inl (vI ck2))), (k2, .inr (1, [.ref kn2])), (kn2, .inl (cI, 24, .inl (vI nb2))), (t2, .inr (2, [.ref tc2, .ref ts2])), (tc2, .inl (cI, 1000, .inl (vI cn2))), (ts2, .inl (cI, 1000, .inl (vI sm2))), (b2, .inr (0, [.ref bm2, .ref br2])), (bm2, .inl (cI, 25, .inl (vI mo2))), (br2, .inl (cI, 5, .inl (vI re2)))] H := hP
  have hD : va_D A [(w, .inr (3, [.int (iI (((mn2 : Nat) : Int))), .int (iI (tA2)), .int (iI (sA2)), .int (iI (kA2)), .ref wc, .ref k, .ref t, .ref b])), (wc, .inl (cI, 5, .inl (vI ck2))), (k, .inr (1, [.ref kn])), (kn, .inl (cI, 24, .inl (vI nb))), (t, .inr (2, [.ref tc, .ref ts])), (tc, .inl (cI, 1000, .inl (vI cn))), (ts, .inl (cI, 1000, .inl (vI sm))), (b, .inr (0, [.ref bm, .ref br])), (bm, .inl (cI, 25, .inl (vI mo))), (br, .inl (cI, 5, .inl (vI re))), (w2, .inr (3, [.int (iI (((mn2 : Nat) : Int))), .int (iI (tA2)), .int (iI (sA2)), .int (iI (kA2)), .ref wc2, .ref k2, .ref t2, .ref b2])), (wc2, .inl (cI, 5, .inl (vI ck2))), (k2, .inr (1, [.ref kn2])), (kn2, .inl (cI, 24, .inl (vI nb2))), (t2, .inr (2, [.ref tc2, .ref ts2])), (tc2, .inl (cI, 1000, .inl (vI cn2))), (ts2, .inl (cI, 1000, .inl (vI sm2))), (b2, .inr (0, [.ref bm2, .ref br2])), (bm2, .inl (cI, 25, .inl (vI mo2))), (br2, .inl (cI, 5, .inl (vI re2)))] := hD
  refine lv_aload_n hx hb dX3_copyFrom_46 rfl (lv_at hl 0 rfl) ?_
  refine w_get (C := RX3) (T := TX3) (Nf := 8) (ci := 3) (v := .ref k) S (fun _ h => List.mem_cons_of_mem _ (List.mem_append_left _ (List.mem_append_left _ (List.mem_append_left _ (List.mem_append_right _ h))))) hE hP 0 rfl rfl 5 (by decide) (List.mem_of_getElem? (i := 10) rfl) rfl dX3_copyFrom_47 ?_
  refine lv_aload_n hx hb dX3_copyFrom_50 rfl (lv_at hl 1 rfl) ?_
  refine w_get (C := RX3) (T := TX3) (Nf := 8) (ci := 3) (v := .ref k2) S (fun _ h => List.mem_cons_of_mem _ (List.mem_append_left _ (List.mem_append_left _ (List.mem_append_left _ (List.mem_append_right _ h))))) hE hP 10 rfl rfl 5 (by decide) (List.mem_of_getElem? (i := 10) rfl) rfl dX3_copyFrom_51 ?_
  refine kV_M (n := 1) (ci := 1) (q := (RX1, TX1, 1)) S (c_X1_copyFrom lc D cI cZ N k kn nb k2 kn2 nb2 ) gX3_copyFrom_X1_copyFrom rfl rfl (by decide +kernel) rfl rfl ⟨Nat.le_trans (Nat.le_of_ble_eq_true rfl) hfr, Nat.le_trans (Nat.le_of_ble_eq_true rfl) hlo⟩ hE hAN hP hD hS [2, 3, 12, 13] rfl (by decide) rfl rfl rfl rfl rfl hl.1 [] rfl (Nat.le_of_ble_eq_true rfl) dX3_copyFrom_54 ⟨Nat.zero_le _, Nat.zero_le _⟩ (fun H locs hP hD hS => ?_)
  have hP : va_P D vwCl [(w, .inr (3, [.int (iI (((mn2 : Nat) : Int))), .int (iI (tA2)), .int (iI (sA2)), .int (iI (kA2)), .ref wc, .ref k, .ref t, .ref b])), (wc, .inl (cI, 5, .inl (vI ck2))), (k, .inr (1, [.ref kn])), (kn, .inl (cI, 24, .inl (vI nb2))), (t, .inr (2, [.ref tc, .ref ts])), (tc, .inl (cI, 1000, .inl (vI cn))), (ts, .inl (cI, 1000, .inl (vI sm))), (b, .inr (0, [.ref bm, .ref br])), (bm, .inl (cI, 25, .inl (vI mo))), (br, .inl (cI, 5, .inl (vI re))), (w2, .inr (3, [.int (iI (((mn2 : Nat) : Int))), .int (iI (tA2)), .int (iI (sA2)), .int (iI (kA2)), .ref wc2, .ref k2, .ref t2, .ref b2])), (wc2, .inl (cI, 5, .inl (vI ck2))), (k2, .inr (1, [.ref kn2])), (kn2, .inl (cI, 24, .inl (vI nb2))), (t2, .inr (2, [.ref tc2, .ref ts2])), (tc2, .inl (cI, 1000, .inl (vI cn2))), (ts2, .inl (cI, 1000, .inl (vI sm2))), (b2, .inr (0, [.ref bm2, .ref br2])), (bm2, .inl (cI, 25, .inl (vI mo2))), (br2, .inl (cI, 5, .inl (vI re2)))] H := hP
  have hD : va_D A [(w, .inr (3, [.int (iI (((mn2 : Nat) : Int))), .int (iI (tA2)), .int (iI (sA2)), .int (iI (kA2)), .ref wc, .ref k, .ref t, .ref b])), (wc, .inl (cI, 5, .inl (vI ck2))), (k, .inr (1, [.ref kn])), (kn, .inl (cI, 24, .inl (vI nb2))), (t, .inr (2, [.ref tc, .ref ts])), (tc, .inl (cI, 1000, .inl (vI cn))), (ts, .inl (cI, 1000, .inl (vI sm))), (b, .inr (0, [.ref bm, .ref br])), (bm, .inl (cI, 25, .inl (vI mo))), (br, .inl (cI, 5, .inl (vI re))), (w2, .inr (3, [.int (iI (((mn2 : Nat) : Int))), .int (iI (tA2)), .int (iI (sA2)), .int (iI (kA2)), .ref wc2, .ref k2, .ref t2, .ref b2])), (wc2, .inl (cI, 5, .inl (vI ck2))), (k2, .inr (1, [.ref kn2])), (kn2, .inl (cI, 24, .inl (vI nb2))), (t2, .inr (2, [.ref tc2, .ref ts2])), (tc2, .inl (cI, 1000, .inl (vI cn2))), (ts2, .inl (cI, 1000, .inl (vI sm2))), (b2, .inr (0, [.ref bm2, .ref br2])), (bm2, .inl (cI, 25, .inl (vI mo2))), (br2, .inl (cI, 5, .inl (vI re2)))] := hD
  refine W.eq (g2 := F0 m 57 ls []) rfl ?_
  refine lv_aload_n hx hb dX3_copyFrom_57 rfl (lv_at hl 0 rfl) ?_
  refine w_get (C := RX3) (T := TX3) (Nf := 8) (ci := 3) (v := .ref t) S (fun _ h => List.mem_cons_of_mem _ (List.mem_append_left _ (List.mem_append_left _ (List.mem_append_left _ (List.mem_append_right _ h))))) hE hP 0 rfl rfl 6 (by decide) (List.mem_of_getElem? (i := 11) rfl) rfl dX3_copyFrom_58 ?_
  refine lv_aload_n hx hb dX3_copyFrom_61 rfl (lv_at hl 1 rfl) ?_
  refine w_get (C := RX3) (T := TX3) (Nf := 8) (ci := 3) (v := .ref t2) S (fun _ h => List.mem_cons_of_mem _ (List.mem_append_left _ (List.mem_append_left _ (List.mem_append_left _ (List.mem_append_right _ h))))) hE hP 10 rfl rfl 6 (by decide) (List.mem_of_getElem? (i := 11) rfl) rfl dX3_copyFrom_62 ?_
  refine kV_M (n := 1) (ci := 2) (q := (RX2, TX2, 2)) S (c_X2_copyFrom lc D cI cZ N t tc ts cn sm t2 tc2 ts2 cn2 sm2 ) gX3_copyFrom_X2_copyFrom rfl rfl (by decide +kernel) rfl rfl ⟨Nat.le_trans (Nat.le_of_ble_eq_true rfl) hfr, Nat.le_trans (Nat.le_of_ble_eq_true rfl) hlo⟩ hE hAN hP hD hS [4, 5, 6, 14, 15, 16] rfl (by decide) rfl rfl rfl rfl rfl hl.1 [] rfl (Nat.le_of_ble_eq_true rfl) dX3_copyFrom_65 ⟨Nat.zero_le _, Nat.zero_le _⟩ (fun H locs hP hD hS => ?_)
  have hP : va_P D vwCl [(w, .inr (3, [.int (iI (((mn2 : Nat) : Int))), .int (iI (tA2)), .int (iI (sA2)), .int (iI (kA2)), .ref wc, .ref k, .ref t, .ref b])), (wc, .inl (cI, 5, .inl (vI ck2))), (k, .inr (1, [.ref kn])), (kn, .inl (cI, 24, .inl (vI nb2))), (t, .inr (2, [.ref tc, .ref ts])), (tc, .inl (cI, 1000, .inl (vI cn2))), (ts, .inl (cI, 1000, .inl (vI sm2))), (b, .inr (0, [.ref bm, .ref br])), (bm, .inl (cI, 25, .inl (vI mo))), (br, .inl (cI, 5, .inl (vI re))), (w2, .inr (3, [.int (iI (((mn2 : Nat) : Int))), .int (iI (tA2)), .int (iI (sA2)), .int (iI (kA2)), .ref wc2, .ref k2, .ref t2, .ref b2])), (wc2, .inl (cI, 5, .inl (vI ck2))), (k2, .inr (1, [.ref kn2])), (kn2, .inl (cI, 24, .inl (vI nb2))), (t2, .inr (2, [.ref tc2, .ref ts2])), (tc2, .inl (cI, 1000, .inl (vI cn2))), (ts2, .inl (cI, 1000, .inl (vI sm2))), (b2, .inr (0, [.ref bm2, .ref br2])), (bm2, .inl (cI, 25, .inl (vI mo2))), (br2, .inl (cI, 5, .inl (vI re2)))] H := hP
  have hD : va_D A [(w, .inr (3, [.int (iI (((mn2 : Nat) : Int))), .int (iI (tA2)), .int (iI (sA2)), .int (iI (kA2)), .ref wc, .ref k, .ref t, .ref b])), (wc, .inl (cI, 5, .inl (vI ck2))), (k, .inr (1, [.ref kn])), (kn, .inl (cI, 24, .inl (vI nb2))), (t, .inr (2, [.ref tc, .ref ts])), (tc, .inl (cI, 1000, .inl (vI cn2))), (ts, .inl (cI, 1000, .inl (vI sm2))), (b, .inr (0, [.ref bm, .ref br])), (bm, .inl (cI, 25, .inl (vI mo))), (br, .inl (cI, 5, .inl (vI re))), (w2, .inr (3, [.int (iI (((mn2 : Nat) : Int))), .int (iI (tA2)), .int (iI (sA2)), .int (iI (kA2)), .ref wc2, .ref k2, .ref t2, .ref b2])), (wc2, .inl (cI, 5, .inl (vI ck2))), (k2, .inr (1, [.ref kn2])), (kn2, .inl (cI, 24, .inl (vI nb2))), (t2, .inr (2, [.ref tc2, .ref ts2])), (tc2, .inl (cI, 1000, .inl (vI cn2))), (ts2, .inl (cI, 1000, .inl (vI sm2))), (b2, .inr (0, [.ref bm2, .ref br2])), (bm2, .inl (cI, 25, .inl (vI mo2))), (br2, .inl (cI, 5, .inl (vI re2)))] := hD
  refine W.eq (g2 := F0 m 68 ls []) rfl ?_
  refine lv_aload_n hx hb dX3_copyFrom_68 rfl (lv_at hl 0 rfl) ?_
  refine w_get (C := RX3) (T := TX3) (Nf := 8) (ci := 3) (v := .ref b) S (fun _ h => List.mem_cons_of_mem _ (List.mem_append_left _ (List.mem_append_left _ (List.mem_append_left _ (List.mem_append_right _ h))))) hE hP 0 rfl rfl 7 (by decide) (List.mem_of_getElem? (i := 12) rfl) rfl dX3_copyFrom_69 ?_
  refine lv_aload_n hx hb dX3_copyFrom_72 rfl (lv_at hl 1 rfl) ?_
  refine w_get (C := RX3) (T := TX3) (Nf := 8) (ci := 3) (v := .ref b2) S (fun _ h => List.mem_cons_of_mem _ (List.mem_append_left _ (List.mem_append_left _ (List.mem_append_left _ (List.mem_append_right _ h))))) hE hP 10 rfl rfl 7 (by decide) (List.mem_of_getElem? (i := 12) rfl) rfl dX3_copyFrom_73 ?_
  refine kV_M (n := 1) (ci := 0) (q := (RX0, TX0, 2)) S (c_X0_copyFrom lc D cI cZ N b bm br mo re b2 bm2 br2 mo2 re2 ) gX3_copyFrom_X0_copyFrom rfl rfl (by decide +kernel) rfl rfl ⟨Nat.le_trans (Nat.le_of_ble_eq_true rfl) hfr, Nat.le_trans (Nat.le_of_ble_eq_true rfl) hlo⟩ hE hAN hP hD hS [7, 8, 9, 17, 18, 19] rfl (by decide) rfl rfl rfl rfl rfl hl.1 [] rfl (Nat.le_of_ble_eq_true rfl) dX3_copyFrom_76 ⟨Nat.zero_le _, Nat.zero_le _⟩ (fun H locs hP hD hS => ?_)
  have hP : va_P D vwCl [(w, .inr (3, [.int (iI (((mn2 : Nat) : Int))), .int (iI (tA2)), .int (iI (sA2)), .int (iI (kA2)), .ref wc, .ref k, .ref t, .ref b])), (wc, .inl (cI, 5, .inl (vI ck2))), (k, .inr (1, [.ref kn])), (kn, .inl (cI, 24, .inl (vI nb2))), (t, .inr (2, [.ref tc, .ref ts])), (tc, .inl (cI, 1000, .inl (vI cn2))), (ts, .inl (cI, 1000, .inl (vI sm2))), (b, .inr (0, [.ref bm, .ref br])), (bm, .inl (cI, 25, .inl (vI mo2))), (br, .inl (cI, 5, .inl (vI re))), (w2, .inr (3, [.int (iI (((mn2 : Nat) : Int))), .int (iI (tA2)), .int (iI (sA2)), .int (iI (kA2)), .ref wc2, .ref k2, .ref t2, .ref b2])), (wc2, .inl (cI, 5, .inl (vI ck2))), (k2, .inr (1, [.ref kn2])), (kn2, .inl (cI, 24, .inl (vI nb2))), (t2, .inr (2, [.ref tc2, .ref ts2])), (tc2, .inl (cI, 1000, .inl (vI cn2))), (ts2, .inl (cI, 1000, .inl (vI sm2))), (b2, .inr (0, [.ref bm2, .ref br2])), (bm2, .inl (cI, 25, .inl (vI mo2))), (br2, .inl (cI, 5, .inl (vI re2)))] H := hP
  have hD : va_D A [(w, .inr (3, [.int (iI (((mn2 : Nat) : Int))), .int (iI (tA2)), .int (iI (sA2)), .int (iI (kA2)), .ref wc, .ref k, .ref t, .ref b])), (wc, .inl (cI, 5, .inl (vI ck2))), (k, .inr (1, [.ref kn])), (kn, .inl (cI, 24, .inl (vI nb2))), (t, .inr (2, [.ref tc, .ref ts])), (tc, .inl (cI, 1000, .inl (vI cn2))), (ts, .inl (cI, 1000, .inl (vI sm2))), (b, .inr (0, [.ref bm, .ref br])), (bm, .inl (cI, 25, .inl (vI mo2))), (br, .inl (cI, 5, .inl (vI re))), (w2, .inr (3, [.int (iI (((mn2 : Nat) : Int))), .int (iI (tA2)), .int (iI (sA2)), .int (iI (kA2)), .ref wc2, .ref k2, .ref t2, .ref b2])), (wc2, .inl (cI, 5, .inl (vI ck2))), (k2, .inr (1, [.ref kn2])), (kn2, .inl (cI, 24, .inl (vI nb2))), (t2, .inr (2, [.ref tc2, .ref ts2])), (tc2, .inl (cI, 1000, .inl (vI cn2))), (ts2, .inl (cI, 1000, .inl (vI sm2))), (b2, .inr (0, [.ref bm2, .ref br2])), (bm2, .inl (cI, 25, .inl (vI mo2))), (br2, .inl (cI, 5, .inl (vI re2)))] := hD
  refine W.eq (g2 := F0 m 79 ls []) rfl ?_
  exact hret _ _ _ _ dX3_copyFrom_79 hP hS
set_option maxHeartbeats 4000000 in
set_option maxRecDepth 100000 in
theorem c_hasNode_T (lc : Launch) (D : va_G) (cI cZ : ClassId) (N : Nat) (w : Nat) (wc : Nat) (k : Nat) (kn : Nat) (t : Nat) (tc : Nat) (ts : Nat) (b : Nat) (bm : Nat) (br : Nat) (mn : Nat) (tA : Int) (sA : Int) (kA : Int) (ck : Nat → Int) (nb : Nat → Int) (cn : Nat → Int) (sm : Nat → Int) (mo : Nat → Int) (re : Nat → Int) (x : Int) (hmn : 2 ≤ mn ∧ mn ≤ 5) (hxr : -2147483648 ≤ x ∧ x ≤ 2147483647) (h : 0 ≤ x ∧ x ≤ (mn : Int) - 1) : CR lc D cI cZ N yX3_hasNode wsX3_hasNode (rmK 1 22) [.ref w, .int (iI (x))] [(w, .inr (3, [.int (iI (((mn : Nat) : Int))), .int (iI (tA)), .int (iI (sA)), .int (iI (kA)), .ref wc, .ref k, .ref t, .ref b])), (wc, .inl (cI, 5, .inl (vI ck))), (k, .inr (1, [.ref kn])), (kn, .inl (cI, 24, .inl (vI nb))), (t, .inr (2, [.ref tc, .ref ts])), (tc, .inl (cI, 1000, .inl (vI cn))), (ts, .inl (cI, 1000, .inl (vI sm))), (b, .inr (0, [.ref bm, .ref br])), (bm, .inl (cI, 25, .inl (vI mo))), (br, .inl (cI, 5, .inl (vI re)))] (some (.int (iI (1)))) := by
  refine CR.Z (cc := cX3_hasNode) (maxL := 2) (by decide) rfl (Nat.le_of_ble_eq_true rfl) ?_
  intro p e s m args below meth c R Q S hE A hAN hfr hlo hP hD hS hret ls hl
  have S : CallFix p m c cX3_hasNode 2 s args wsX3_hasNode RX3 := S
  have hx := S.1
  have hb := S.2.1
  have hl : lv_has ls 2 [(0, .ref w), (1, .int (iI (x)))] := hl
  refine lv_iload_n hx hb dX3_hasNode_0 rfl (lv_at hl 1 rfl) ?_
  refine lv_iconst (v := iI (0)) hx hb dX3_hasNode_1 rfl ?_
  refine lv_aload_n hx hb dX3_hasNode_2 rfl (lv_at hl 0 rfl) ?_
  refine w_get (C := RX3) (T := TX3) (Nf := 8) (ci := 3) (v := .int (iI (((mn : Nat) : Int)))) S (fun _ h => List.mem_cons_of_mem _ (List.mem_append_right _ h)) hE hP 0 rfl rfl 0 (by decide) (List.mem_of_getElem? (i := 1) rfl) rfl dX3_hasNode_3 ?_
  refine lv_iconst (v := iI (1)) hx hb dX3_hasNode_6 rfl ?_
  refine w_isub S dX3_hasNode_7 ?_
  refine kN_R (n := 3) S (c_within_T lc D cI cZ N x 0 (((mn : Nat) : Int) - 1) (by omega) (by omega) (by omega) (by omega)) gX3_hasNode_X4_within_n76 hE.2.2.1.1 (List.mem_of_getElem? (i := 3) rfl) (List.mem_of_getElem? (i := 2) rfl) rfl (by decide +kernel) rfl rfl ⟨Nat.le_trans (Nat.le_of_ble_eq_true rfl) hfr, Nat.le_trans (Nat.le_of_ble_eq_true rfl) hlo⟩ hE hAN hP hD hS [] rfl (by decide) rfl hl.1 [] rfl (Nat.le_of_ble_eq_true rfl) dX3_hasNode_8 ⟨Nat.zero_le _, Nat.zero_le _⟩ ?_
  refine W.eq (g2 := F0 m 11 ls [.int (iI (1))]) rfl ?_
  exact hret _ _ _ dX3_hasNode_11 rfl (Or.inr rfl)
set_option maxHeartbeats 4000000 in
set_option maxRecDepth 100000 in
theorem c_hasNode_F (lc : Launch) (D : va_G) (cI cZ : ClassId) (N : Nat) (w : Nat) (wc : Nat) (k : Nat) (kn : Nat) (t : Nat) (tc : Nat) (ts : Nat) (b : Nat) (bm : Nat) (br : Nat) (mn : Nat) (tA : Int) (sA : Int) (kA : Int) (ck : Nat → Int) (nb : Nat → Int) (cn : Nat → Int) (sm : Nat → Int) (mo : Nat → Int) (re : Nat → Int) (x : Int) (hmn : 2 ≤ mn ∧ mn ≤ 5) (hxr : -2147483648 ≤ x ∧ x ≤ 2147483647) (h : ¬ (0 ≤ x ∧ x ≤ (mn : Int) - 1)) : CR lc D cI cZ N yX3_hasNode wsX3_hasNode (rmK 1 22) [.ref w, .int (iI (x))] [(w, .inr (3, [.int (iI (((mn : Nat) : Int))), .int (iI (tA)), .int (iI (sA)), .int (iI (kA)), .ref wc, .ref k, .ref t, .ref b])), (wc, .inl (cI, 5, .inl (vI ck))), (k, .inr (1, [.ref kn])), (kn, .inl (cI, 24, .inl (vI nb))), (t, .inr (2, [.ref tc, .ref ts])), (tc, .inl (cI, 1000, .inl (vI cn))), (ts, .inl (cI, 1000, .inl (vI sm))), (b, .inr (0, [.ref bm, .ref br])), (bm, .inl (cI, 25, .inl (vI mo))), (br, .inl (cI, 5, .inl (vI re)))] (some (.int (iI (0)))) := by
  refine CR.Z (cc := cX3_hasNode) (maxL := 2) (by decide) rfl (Nat.le_of_ble_eq_true rfl) ?_
  intro p e s m args below meth c R Q S hE A hAN hfr hlo hP hD hS hret ls hl
  have S : CallFix p m c cX3_hasNode 2 s args wsX3_hasNode RX3 := S
  have hx := S.1
  have hb := S.2.1
  have hl : lv_has ls 2 [(0, .ref w), (1, .int (iI (x)))] := hl
  refine lv_iload_n hx hb dX3_hasNode_0 rfl (lv_at hl 1 rfl) ?_
  refine lv_iconst (v := iI (0)) hx hb dX3_hasNode_1 rfl ?_
  refine lv_aload_n hx hb dX3_hasNode_2 rfl (lv_at hl 0 rfl) ?_
  refine w_get (C := RX3) (T := TX3) (Nf := 8) (ci := 3) (v := .int (iI (((mn : Nat) : Int)))) S (fun _ h => List.mem_cons_of_mem _ (List.mem_append_right _ h)) hE hP 0 rfl rfl 0 (by decide) (List.mem_of_getElem? (i := 1) rfl) rfl dX3_hasNode_3 ?_
  refine lv_iconst (v := iI (1)) hx hb dX3_hasNode_6 rfl ?_
  refine w_isub S dX3_hasNode_7 ?_
  refine kN_R (n := 3) S (c_within_F lc D cI cZ N x 0 (((mn : Nat) : Int) - 1) (by omega) (by omega) (by omega) (by omega)) gX3_hasNode_X4_within_n76 hE.2.2.1.1 (List.mem_of_getElem? (i := 3) rfl) (List.mem_of_getElem? (i := 2) rfl) rfl (by decide +kernel) rfl rfl ⟨Nat.le_trans (Nat.le_of_ble_eq_true rfl) hfr, Nat.le_trans (Nat.le_of_ble_eq_true rfl) hlo⟩ hE hAN hP hD hS [] rfl (by decide) rfl hl.1 [] rfl (Nat.le_of_ble_eq_true rfl) dX3_hasNode_8 ⟨Nat.zero_le _, Nat.zero_le _⟩ ?_
  refine W.eq (g2 := F0 m 11 ls [.int (iI (0))]) rfl ?_
  exact hret _ _ _ dX3_hasNode_11 rfl (Or.inl rfl)
set_option maxHeartbeats 4000000 in
set_option maxRecDepth 100000 in
theorem c_hasLink_T (lc : Launch) (D : va_G) (cI cZ : ClassId) (N : Nat) (w : Nat) (wc : Nat) (k : Nat) (kn : Nat) (t : Nat) (tc : Nat) (ts : Nat) (b : Nat) (bm : Nat) (br : Nat) (mn : Nat) (tA : Int) (sA : Int) (kA : Int) (ck : Nat → Int) (nb : Nat → Int) (cn : Nat → Int) (sm : Nat → Int) (mo : Nat → Int) (re : Nat → Int) (x : Int) (hmn : 2 ≤ mn ∧ mn ≤ 5) (hxr : -2147483648 ≤ x ∧ x ≤ 2147483647) (h : 0 ≤ x ∧ x ≤ (mn : Int) - 2) : CR lc D cI cZ N yX3_hasLink wsX3_hasLink (rmK 1 22) [.ref w, .int (iI (x))] [(w, .inr (3, [.int (iI (((mn : Nat) : Int))), .int (iI (tA)), .int (iI (sA)), .int (iI (kA)), .ref wc, .ref k, .ref t, .ref b])), (wc, .inl (cI, 5, .inl (vI ck))), (k, .inr (1, [.ref kn])), (kn, .inl (cI, 24, .inl (vI nb))), (t, .inr (2, [.ref tc, .ref ts])), (tc, .inl (cI, 1000, .inl (vI cn))), (ts, .inl (cI, 1000, .inl (vI sm))), (b, .inr (0, [.ref bm, .ref br])), (bm, .inl (cI, 25, .inl (vI mo))), (br, .inl (cI, 5, .inl (vI re)))] (some (.int (iI (1)))) := by
  refine CR.Z (cc := cX3_hasLink) (maxL := 2) (by decide) rfl (Nat.le_of_ble_eq_true rfl) ?_
  intro p e s m args below meth c R Q S hE A hAN hfr hlo hP hD hS hret ls hl
  have S : CallFix p m c cX3_hasLink 2 s args wsX3_hasLink RX3 := S
  have hx := S.1
  have hb := S.2.1
  have hl : lv_has ls 2 [(0, .ref w), (1, .int (iI (x)))] := hl
  refine lv_iload_n hx hb dX3_hasLink_0 rfl (lv_at hl 1 rfl) ?_
  refine lv_iconst (v := iI (0)) hx hb dX3_hasLink_1 rfl ?_
  refine lv_aload_n hx hb dX3_hasLink_2 rfl (lv_at hl 0 rfl) ?_
  refine w_get (C := RX3) (T := TX3) (Nf := 8) (ci := 3) (v := .int (iI (((mn : Nat) : Int)))) S (fun _ h => List.mem_cons_of_mem _ (List.mem_append_right _ h)) hE hP 0 rfl rfl 0 (by decide) (List.mem_of_getElem? (i := 1) rfl) rfl dX3_hasLink_3 ?_
  refine lv_iconst (v := iI (2)) hx hb dX3_hasLink_6 rfl ?_
  refine w_isub S dX3_hasLink_7 ?_
  refine kN_R (n := 3) S (c_within_T lc D cI cZ N x 0 (((mn : Nat) : Int) - 2) (by omega) (by omega) (by omega) (by omega)) gX3_hasLink_X4_within_n76 hE.2.2.1.1 (List.mem_of_getElem? (i := 3) rfl) (List.mem_of_getElem? (i := 2) rfl) rfl (by decide +kernel) rfl rfl ⟨Nat.le_trans (Nat.le_of_ble_eq_true rfl) hfr, Nat.le_trans (Nat.le_of_ble_eq_true rfl) hlo⟩ hE hAN hP hD hS [] rfl (by decide) rfl hl.1 [] rfl (Nat.le_of_ble_eq_true rfl) dX3_hasLink_8 ⟨Nat.zero_le _, Nat.zero_le _⟩ ?_
  refine W.eq (g2 := F0 m 11 ls [.int (iI (1))]) rfl ?_
  exact hret _ _ _ dX3_hasLink_11 rfl (Or.inr rfl)
set_option maxHeartbeats 4000000 in
set_option maxRecDepth 100000 in
theorem c_hasLink_F (lc : Launch) (D : va_G) (cI cZ : ClassId) (N : Nat) (w : Nat) (wc : Nat) (k : Nat) (kn : Nat) (t : Nat) (tc : Nat) (ts : Nat) (b : Nat) (bm : Nat) (br : Nat) (mn : Nat) (tA : Int) (sA : Int) (kA : Int) (ck : Nat → Int) (nb : Nat → Int) (cn : Nat → Int) (sm : Nat → Int) (mo : Nat → Int) (re : Nat → Int) (x : Int) (hmn : 2 ≤ mn ∧ mn ≤ 5) (hxr : -2147483648 ≤ x ∧ x ≤ 2147483647) (h : ¬ (0 ≤ x ∧ x ≤ (mn : Int) - 2)) : CR lc D cI cZ N yX3_hasLink wsX3_hasLink (rmK 1 22) [.ref w, .int (iI (x))] [(w, .inr (3, [.int (iI (((mn : Nat) : Int))), .int (iI (tA)), .int (iI (sA)), .int (iI (kA)), .ref wc, .ref k, .ref t, .ref b])), (wc, .inl (cI, 5, .inl (vI ck))), (k, .inr (1, [.ref kn])), (kn, .inl (cI, 24, .inl (vI nb))), (t, .inr (2, [.ref tc, .ref ts])), (tc, .inl (cI, 1000, .inl (vI cn))), (ts, .inl (cI, 1000, .inl (vI sm))), (b, .inr (0, [.ref bm, .ref br])), (bm, .inl (cI, 25, .inl (vI mo))), (br, .inl (cI, 5, .inl (vI re)))] (some (.int (iI (0)))) := by
  refine CR.Z (cc := cX3_hasLink) (maxL := 2) (by decide) rfl (Nat.le_of_ble_eq_true rfl) ?_
  intro p e s m args below meth c R Q S hE A hAN hfr hlo hP hD hS hret ls hl
  have S : CallFix p m c cX3_hasLink 2 s args wsX3_hasLink RX3 := S
  have hx := S.1
  have hb := S.2.1
  have hl : lv_has ls 2 [(0, .ref w), (1, .int (iI (x)))] := hl
  refine lv_iload_n hx hb dX3_hasLink_0 rfl (lv_at hl 1 rfl) ?_
  refine lv_iconst (v := iI (0)) hx hb dX3_hasLink_1 rfl ?_
  refine lv_aload_n hx hb dX3_hasLink_2 rfl (lv_at hl 0 rfl) ?_
  refine w_get (C := RX3) (T := TX3) (Nf := 8) (ci := 3) (v := .int (iI (((mn : Nat) : Int)))) S (fun _ h => List.mem_cons_of_mem _ (List.mem_append_right _ h)) hE hP 0 rfl rfl 0 (by decide) (List.mem_of_getElem? (i := 1) rfl) rfl dX3_hasLink_3 ?_
  refine lv_iconst (v := iI (2)) hx hb dX3_hasLink_6 rfl ?_
  refine w_isub S dX3_hasLink_7 ?_
  refine kN_R (n := 3) S (c_within_F lc D cI cZ N x 0 (((mn : Nat) : Int) - 2) (by omega) (by omega) (by omega) (by omega)) gX3_hasLink_X4_within_n76 hE.2.2.1.1 (List.mem_of_getElem? (i := 3) rfl) (List.mem_of_getElem? (i := 2) rfl) rfl (by decide +kernel) rfl rfl ⟨Nat.le_trans (Nat.le_of_ble_eq_true rfl) hfr, Nat.le_trans (Nat.le_of_ble_eq_true rfl) hlo⟩ hE hAN hP hD hS [] rfl (by decide) rfl hl.1 [] rfl (Nat.le_of_ble_eq_true rfl) dX3_hasLink_8 ⟨Nat.zero_le _, Nat.zero_le _⟩ ?_
  refine W.eq (g2 := F0 m 11 ls [.int (iI (0))]) rfl ?_
  exact hret _ _ _ dX3_hasLink_11 rfl (Or.inl rfl)
set_option maxHeartbeats 4000000 in
set_option maxRecDepth 100000 in
theorem c_sendPacket_T (lc : Launch) (D : va_G) (cI cZ : ClassId) (N : Nat) (w : Nat) (wc : Nat) (k : Nat) (kn : Nat) (t : Nat) (tc : Nat) (ts : Nat) (b : Nat) (bm : Nat) (br : Nat) (mn : Nat) (tA : Int) (sA : Int) (kA : Int) (ck : Nat → Int) (nb : Nat → Int) (cn : Nat → Int) (sm : Nat → Int) (mo : Nat → Int) (re : Nat → Int) (bb : Nat) (hmn : 2 ≤ mn ∧ mn ≤ 5) (hnb : ∀ k, k < 24 → 0 ≤ nb k ∧ nb k ≤ 20) (hta : 0 ≤ tA ∧ tA ≤ 10000) (hsA : 0 ≤ sA ∧ sA ≤ 200) (hkA : 1 ≤ kA ∧ kA ≤ 20) (hbb : sA.tdiv kA = ((bb : Nat) : Int)) (hbb2 : bb < 200) (hd : ∀ i, i < mn - 1 → ¬ drp nb i sA) : CM lc D cI cZ N yX3_sendPacket wsX3_sendPacket (rmK 2 45) [.ref w] [(w, .inr (3, [.int (iI (((mn : Nat) : Int))), .int (iI (tA)), .int (iI (sA)), .int (iI (kA)), .ref wc, .ref k, .ref t, .ref b])), (wc, .inl (cI, 5, .inl (vI ck))), (k, .inr (1, [.ref kn])), (kn, .inl (cI, 24, .inl (vI nb))), (t, .inr (2, [.ref tc, .ref ts])), (tc, .inl (cI, 1000, .inl (vI cn))), (ts, .inl (cI, 1000, .inl (vI sm))), (b, .inr (0, [.ref bm, .ref br])), (bm, .inl (cI, 25, .inl (vI mo))), (br, .inl (cI, 5, .inl (vI re)))] (some (.int (iI (1)))) [(w, .inr (3, [.int (iI (((mn : Nat) : Int))), .int (iI ((tA + 1))), .int (iI ((sA + 1))), .int (iI (kA)), .ref wc, .ref k, .ref t, .ref b])), (wc, .inl (cI, 5, .inl (vI ck))), (k, .inr (1, [.ref kn])), (kn, .inl (cI, 24, .inl (vI nb))), (t, .inr (2, [.ref tc, .ref ts])), (tc, .inl (cI, 1000, .inl (vI (cnA cn bb (mn - 1))))), (ts, .inl (cI, 1000, .inl (vI (smA sm ck nb tA bb (mn - 1))))), (b, .inr (0, [.ref bm, .ref br])), (bm, .inl (cI, 25, .inl (vI mo))), (br, .inl (cI, 5, .inl (vI re)))] := by
  refine CM.Z (cc := cX3_sendPacket) (maxL := 5) (by decide) rfl (Nat.le_of_ble_eq_true rfl) ?_
  intro p e s m args below meth c R Q S hE A hAN hfr hlo hP hD hS hret ls hl
  have S : CallFix p m c cX3_sendPacket 5 s args wsX3_sendPacket RX3 := S
  have hx := S.1
  have hb := S.2.1
  have hl : lv_has ls 5 [(0, .ref w)] := hl
  refine lv_aload_n hx hb dX3_sendPacket_0 rfl (lv_at hl 0 rfl) ?_
  refine w_get (C := RX3) (T := TX3) (Nf := 8) (ci := 3) (v := .int (iI (sA))) S (fun _ h => List.mem_cons_of_mem _ (List.mem_append_left _ (List.mem_append_left _ (List.mem_append_right _ h)))) hE hP 0 rfl rfl 2 (by decide) (List.mem_of_getElem? (i := 1) rfl) rfl dX3_sendPacket_1 ?_
  refine lv_istore_n (lv' := [(1, .int (iI (sA))), (0, .ref w)]) hx hb dX3_sendPacket_4 rfl hl (by decide) rfl (fun ls hl => ?_)
  refine lv_iload_n hx hb dX3_sendPacket_5 rfl (lv_at hl 0 rfl) ?_
  refine lv_aload_n hx hb dX3_sendPacket_6 rfl (lv_at hl 1 rfl) ?_
  refine w_get (C := RX3) (T := TX3) (Nf := 8) (ci := 3) (v := .int (iI (kA))) S (fun _ h => List.mem_cons_of_mem _ (List.mem_append_left _ (List.mem_append_left _ (List.mem_append_right _ h)))) hE hP 0 rfl rfl 3 (by decide) (List.mem_of_getElem? (i := 2) rfl) rfl dX3_sendPacket_7 ?_
  refine kN_R (n := 2) S (c_quotient lc D cI cZ N sA kA (by omega) (by omega)) gX3_sendPacket_X4_quotient_n80 hE.2.2.1.2.1 (List.mem_of_getElem? (i := 9) rfl) (List.mem_of_getElem? (i := 8) rfl) rfl (by decide +kernel) rfl rfl ⟨Nat.le_trans (Nat.le_of_ble_eq_true rfl) hfr, Nat.le_trans (Nat.le_of_ble_eq_true rfl) hlo⟩ hE hAN hP hD hS [] rfl (by decide) rfl hl.1 [] rfl (Nat.le_of_ble_eq_true rfl) dX3_sendPacket_10 ⟨Nat.zero_le _, Nat.zero_le _⟩ ?_
  refine W.eq (g2 := F0 m 13 ls [.int (iI (sA.tdiv kA))]) rfl ?_
  refine w_tz (z := ((bb : Nat) : Int)) hbb ?_
  refine lv_istore_n (lv' := [(2, .int (iI (((bb : Nat) : Int)))), (1, .int (iI (sA))), (0, .ref w)]) hx hb dX3_sendPacket_13 rfl hl (by decide) rfl (fun ls hl => ?_)
  refine lv_aload_n hx hb dX3_sendPacket_14 rfl (lv_at hl 2 rfl) ?_
  refine w_get (C := RX3) (T := TX3) (Nf := 8) (ci := 3) (v := .int (iI (tA))) S (fun _ h => List.mem_cons_of_mem _ (List.mem_append_left _ (List.mem_append_left _ (List.mem_append_right _ h)))) hE hP 0 rfl rfl 1 (by decide) (List.mem_of_getElem? (i := 3) rfl) rfl dX3_sendPacket_15 ?_
  refine lv_istore_n (lv' := [(3, .int (iI (tA))), (2, .int (iI (((bb : Nat) : Int)))), (1, .int (iI (sA))), (0, .ref w)]) hx hb dX3_sendPacket_18 rfl hl (by decide) rfl (fun ls hl => ?_)
  refine lv_aload_n hx hb dX3_sendPacket_19 rfl (lv_at hl 3 rfl) ?_
  refine lv_dup hx hb dX3_sendPacket_20 rfl ?_
  refine w_get (C := RX3) (T := TX3) (Nf := 8) (ci := 3) (v := .int (iI (sA))) S (fun _ h => List.mem_cons_of_mem _ (List.mem_append_left _ (List.mem_append_left _ (List.mem_append_right _ h)))) hE hP 0 rfl rfl 2 (by decide) (List.mem_of_getElem? (i := 1) rfl) rfl dX3_sendPacket_21 ?_
  refine lv_iconst (v := iI (1)) hx hb dX3_sendPacket_24 rfl ?_
  refine w_iadd S dX3_sendPacket_25 ?_
  refine w_put (C := RX3) (T := TX3) (Nf := 8) (ci := 3) S (fun _ h => List.mem_cons_of_mem _ (List.mem_append_left _ (List.mem_append_left _ (List.mem_append_right _ h)))) tyX3 tyX3_ok nmX3 hE hP hD hS 0 rfl rfl 2 (by decide) (List.mem_of_getElem? (i := 1) rfl) rfl rfl (Nat.le_of_ble_eq_true rfl) dX3_sendPacket_26 (fun H locs hP hD hS => ?_)
  have hP : va_P D vwCl [(w, .inr (3, [.int (iI (((mn : Nat) : Int))), .int (iI (tA)), .int (iI (sA + 1)), .int (iI (kA)), .ref wc, .ref k, .ref t, .ref b])), (wc, .inl (cI, 5, .inl (vI ck))), (k, .inr (1, [.ref kn])), (kn, .inl (cI, 24, .inl (vI nb))), (t, .inr (2, [.ref tc, .ref ts])), (tc, .inl (cI, 1000, .inl (vI cn))), (ts, .inl (cI, 1000, .inl (vI sm))), (b, .inr (0, [.ref bm, .ref br])), (bm, .inl (cI, 25, .inl (vI mo))), (br, .inl (cI, 5, .inl (vI re)))] H := hP
  have hD : va_D A [(w, .inr (3, [.int (iI (((mn : Nat) : Int))), .int (iI (tA)), .int (iI (sA + 1)), .int (iI (kA)), .ref wc, .ref k, .ref t, .ref b])), (wc, .inl (cI, 5, .inl (vI ck))), (k, .inr (1, [.ref kn])), (kn, .inl (cI, 24, .inl (vI nb))), (t, .inr (2, [.ref tc, .ref ts])), (tc, .inl (cI, 1000, .inl (vI cn))), (ts, .inl (cI, 1000, .inl (vI sm))), (b, .inr (0, [.ref bm, .ref br])), (bm, .inl (cI, 25, .inl (vI mo))), (br, .inl (cI, 5, .inl (vI re)))] := hD
  refine lv_aload_n hx hb dX3_sendPacket_29 rfl (lv_at hl 3 rfl) ?_
  refine lv_dup hx hb dX3_sendPacket_30 rfl ?_
  refine w_get (C := RX3) (T := TX3) (Nf := 8) (ci := 3) (v := .int (iI (tA))) S (fun _ h => List.mem_cons_of_mem _ (List.mem_append_left _ (List.mem_append_left _ (List.mem_append_right _ h)))) hE hP 0 rfl rfl 1 (by decide) (List.mem_of_getElem? (i := 3) rfl) rfl dX3_sendPacket_31 ?_
  refine lv_iconst (v := iI (1)) hx hb dX3_sendPacket_34 rfl ?_
  refine w_iadd S dX3_sendPacket_35 ?_
  refine w_put (C := RX3) (T := TX3) (Nf := 8) (ci := 3) S (fun _ h => List.mem_cons_of_mem _ (List.mem_append_left _ (List.mem_append_left _ (List.mem_append_right _ h)))) tyX3 tyX3_ok nmX3 hE hP hD hS 0 rfl rfl 1 (by decide) (List.mem_of_getElem? (i := 3) rfl) rfl rfl (Nat.le_of_ble_eq_true rfl) dX3_sendPacket_36 (fun H locs hP hD hS => ?_)
  have hP : va_P D vwCl [(w, .inr (3, [.int (iI (((mn : Nat) : Int))), .int (iI (tA + 1)), .int (iI (sA + 1)), .int (iI (kA)), .ref wc, .ref k, .ref t, .ref b])), (wc, .inl (cI, 5, .inl (vI ck))), (k, .inr (1, [.ref kn])), (kn, .inl (cI, 24, .inl (vI nb))), (t, .inr (2, [.ref tc, .ref ts])), (tc, .inl (cI, 1000, .inl (vI cn))), (ts, .inl (cI, 1000, .inl (vI sm))), (b, .inr (0, [.ref bm, .ref br])), (bm, .inl (cI, 25, .inl (vI mo))), (br, .inl (cI, 5, .inl (vI re)))] H := hP
  have hD : va_D A [(w, .inr (3, [.int (iI (((mn : Nat) : Int))), .int (iI (tA + 1)), .int (iI (sA + 1)), .int (iI (kA)), .ref wc, .ref k, .ref t, .ref b])), (wc, .inl (cI, 5, .inl (vI ck))), (k, .inr (1, [.ref kn])), (kn, .inl (cI, 24, .inl (vI nb))), (t, .inr (2, [.ref tc, .ref ts])), (tc, .inl (cI, 1000, .inl (vI cn))), (ts, .inl (cI, 1000, .inl (vI sm))), (b, .inr (0, [.ref bm, .ref br])), (bm, .inl (cI, 25, .inl (vI mo))), (br, .inl (cI, 5, .inl (vI re)))] := hD
  refine lv_aload_n hx hb dX3_sendPacket_39 rfl (lv_at hl 3 rfl) ?_
  refine w_get (C := RX3) (T := TX3) (Nf := 8) (ci := 3) (v := .ref t) S (fun _ h => List.mem_cons_of_mem _ (List.mem_append_left _ (List.mem_append_left _ (List.mem_append_right _ h)))) hE hP 0 rfl rfl 6 (by decide) (List.mem_of_getElem? (i := 4) rfl) rfl dX3_sendPacket_40 ?_
  refine lv_iconst (v := iI (0)) hx hb dX3_sendPacket_43 rfl ?_
  refine lv_iload_n hx hb dX3_sendPacket_44 rfl (lv_at hl 1 rfl) ?_
  refine lv_iload_n hx hb dX3_sendPacket_45 rfl (lv_at hl 0 rfl) ?_
  refine lv_aload_n hx hb dX3_sendPacket_46 rfl (lv_at hl 3 rfl) ?_
  refine w_get (C := RX3) (T := TX3) (Nf := 8) (ci := 3) (v := .ref wc) S (fun _ h => List.mem_cons_of_mem _ (List.mem_append_left _ (List.mem_append_left _ (List.mem_append_right _ h)))) hE hP 0 rfl rfl 4 (by decide) (List.mem_of_getElem? (i := 5) rfl) rfl dX3_sendPacket_47 ?_
  refine lv_iconst (v := iI (0)) hx hb dX3_sendPacket_50 rfl ?_
  refine w_iald S hE hP 1 rfl (0) (by omega) (by omega) (by omega) dX3_sendPacket_51 ?_
  refine w_iadd S dX3_sendPacket_52 ?_
  refine kV_M (n := 3) (ci := 2) (q := (RX2, TX2, 2)) S (c_add lc D cI cZ N t tc ts cn sm 0 bb (tA + (ck 0)) (by omega) (by omega)) gX3_sendPacket_X2_add rfl rfl (by decide +kernel) rfl rfl ⟨Nat.le_trans (Nat.le_of_ble_eq_true rfl) hfr, Nat.le_trans (Nat.le_of_ble_eq_true rfl) hlo⟩ hE hAN hP hD hS [4, 5, 6] rfl (by decide) rfl rfl rfl rfl rfl hl.1 [] rfl (Nat.le_of_ble_eq_true rfl) dX3_sendPacket_53 ⟨Nat.zero_le _, Nat.zero_le _⟩ (fun H locs hP hD hS => ?_)
  have hP : va_P D vwCl [(w, .inr (3, [.int (iI (((mn : Nat) : Int))), .int (iI (tA + 1)), .int (iI (sA + 1)), .int (iI (kA)), .ref wc, .ref k, .ref t, .ref b])), (wc, .inl (cI, 5, .inl (vI ck))), (k, .inr (1, [.ref kn])), (kn, .inl (cI, 24, .inl (vI nb))), (t, .inr (2, [.ref tc, .ref ts])), (tc, .inl (cI, 1000, .inl (vI (updI cn (0 * 200 + bb) (cn (0 * 200 + bb) + 1))))), (ts, .inl (cI, 1000, .inl (vI (updI sm (0 * 200 + bb) (sm (0 * 200 + bb) + (tA + (ck 0))))))), (b, .inr (0, [.ref bm, .ref br])), (bm, .inl (cI, 25, .inl (vI mo))), (br, .inl (cI, 5, .inl (vI re)))] H := hP
  have hD : va_D A [(w, .inr (3, [.int (iI (((mn : Nat) : Int))), .int (iI (tA + 1)), .int (iI (sA + 1)), .int (iI (kA)), .ref wc, .ref k, .ref t, .ref b])), (wc, .inl (cI, 5, .inl (vI ck))), (k, .inr (1, [.ref kn])), (kn, .inl (cI, 24, .inl (vI nb))), (t, .inr (2, [.ref tc, .ref ts])), (tc, .inl (cI, 1000, .inl (vI (updI cn (0 * 200 + bb) (cn (0 * 200 + bb) + 1))))), (ts, .inl (cI, 1000, .inl (vI (updI sm (0 * 200 + bb) (sm (0 * 200 + bb) + (tA + (ck 0))))))), (b, .inr (0, [.ref bm, .ref br])), (bm, .inl (cI, 25, .inl (vI mo))), (br, .inl (cI, 5, .inl (vI re)))] := hD
  refine W.eq (g2 := F0 m 56 ls []) rfl ?_
  refine lv_iconst (v := iI (0)) hx hb dX3_sendPacket_56 rfl ?_
  refine lv_istore (lv' := [(4, .int (iI (0))), (3, .int (iI (tA))), (2, .int (iI (((bb : Nat) : Int)))), (1, .int (iI (sA))), (0, .ref w)]) hx hb dX3_sendPacket_57 hl (by decide) rfl (fun ls hl => ?_)
  have loop1 : ∀ (q i : Nat) , i + q = (mn - 1) → ∀ (H : Heap) (locs : List Loc) (ls : Array Slot), va_P D vwCl [(w, .inr (3, [.int (iI (((mn : Nat) : Int))), .int (iI (tA + 1)), .int (iI (sA + 1)), .int (iI (kA)), .ref wc, .ref k, .ref t, .ref b])), (wc, .inl (cI, 5, .inl (vI ck))), (k, .inr (1, [.ref kn])), (kn, .inl (cI, 24, .inl (vI nb))), (t, .inr (2, [.ref tc, .ref ts])), (tc, .inl (cI, 1000, .inl (vI (cnA cn bb i)))), (ts, .inl (cI, 1000, .inl (vI (smA sm ck nb tA bb i)))), (b, .inr (0, [.ref bm, .ref br])), (bm, .inl (cI, 25, .inl (vI mo))), (br, .inl (cI, 5, .inl (vI re)))] H → va_D A [(w, .inr (3, [.int (iI (((mn : Nat) : Int))), .int (iI (tA + 1)), .int (iI (sA + 1)), .int (iI (kA)), .ref wc, .ref k, .ref t, .ref b])), (wc, .inl (cI, 5, .inl (vI ck))), (k, .inr (1, [.ref kn])), (kn, .inl (cI, 24, .inl (vI nb))), (t, .inr (2, [.ref tc, .ref ts])), (tc, .inl (cI, 1000, .inl (vI (cnA cn bb i)))), (ts, .inl (cI, 1000, .inl (vI (smA sm ck nb tA bb i)))), (b, .inr (0, [.ref bm, .ref br])), (bm, .inl (cI, 25, .inl (vI mo))), (br, .inl (cI, 5, .inl (vI re)))] → va_S A s.heap H locs → lv_has ls 5 [(4, .int (iI (((i : Nat) : Int)))), (3, .int (iI (atN nb tA i))), (2, .int (iI (((bb : Nat) : Int)))), (1, .int (iI (sA))), (0, .ref w)] → W p lc e R s m args below meth c H locs 0 0 Q (F0 m 59 ls []) := by
    intro q
    induction q with
    | zero =>
      intro i  hm  H locs ls hP hD hS hl
      have hi : i = mn - 1 := by omega
      refine lv_iload hx hb dX3_sendPacket_59 (lv_at hl 0 rfl) ?_
      refine lv_aload_n hx hb dX3_sendPacket_61 rfl (lv_at hl 4 rfl) ?_
      refine w_get (C := RX3) (T := TX3) (Nf := 8) (ci := 3) (v := .int (iI (((mn : Nat) : Int)))) S (fun _ h => List.mem_cons_of_mem _ (List.mem_append_left _ (List.mem_append_left _ (List.mem_append_right _ h)))) hE hP 0 rfl rfl 0 (by decide) (List.mem_of_getElem? (i := 6) rfl) rfl dX3_sendPacket_62 ?_
      refine lv_iconst (v := iI (1)) hx hb dX3_sendPacket_65 rfl ?_
      refine w_isub S dX3_sendPacket_66 ?_
      refine c_geT (tgt := 127) S dX3_sendPacket_67 (by decide) (by omega) (by omega) (by omega) ?_
      rw [hi] at hP
      refine lv_iconst (v := iI (1)) hx hb dX3_sendPacket_127 rfl ?_
      exact hret _ _ _ _ _ dX3_sendPacket_128 rfl (Or.inr rfl) hP hS
    | succ q ih1 =>
      intro i  hm  H locs ls hP hD hS hl
      refine lv_iload hx hb dX3_sendPacket_59 (lv_at hl 0 rfl) ?_
      refine lv_aload_n hx hb dX3_sendPacket_61 rfl (lv_at hl 4 rfl) ?_
      refine w_get (C := RX3) (T := TX3) (Nf := 8) (ci := 3) (v := .int (iI (((mn : Nat) : Int)))) S (fun _ h => List.mem_cons_of_mem _ (List.mem_append_left _ (List.mem_append_left _ (List.mem_append_right _ h)))) hE hP 0 rfl rfl 0 (by decide) (List.mem_of_getElem? (i := 6) rfl) rfl dX3_sendPacket_62 ?_
      refine lv_iconst (v := iI (1)) hx hb dX3_sendPacket_65 rfl ?_
      refine w_isub S dX3_sendPacket_66 ?_
      refine c_geF (tgt := 127) S dX3_sendPacket_67 (by decide) (by omega) (by omega) (by omega) ?_
      have g1 := atN_rng hta.1 hnb i (by omega)
      have g2 := tkT_rng (l := i) (by omega) g1.1 hnb
      refine lv_aload_n hx hb dX3_sendPacket_70 rfl (lv_at hl 4 rfl) ?_
      refine w_get (C := RX3) (T := TX3) (Nf := 8) (ci := 3) (v := .ref k) S (fun _ h => List.mem_cons_of_mem _ (List.mem_append_left _ (List.mem_append_left _ (List.mem_append_right _ h)))) hE hP 0 rfl rfl 5 (by decide) (List.mem_of_getElem? (i := 7) rfl) rfl dX3_sendPacket_71 ?_
      refine lv_iload hx hb dX3_sendPacket_74 (lv_at hl 0 rfl) ?_
      refine lv_iload_n hx hb dX3_sendPacket_76 rfl (lv_at hl 3 rfl) ?_
      refine kV_R (n := 2) (ci := 1) (q := (RX1, TX1, 1)) S (c_drops_F lc D cI cZ N k kn nb i sA (by omega) (by omega) (by omega) (hd i (by omega))) gX3_sendPacket_X1_drops rfl rfl (by decide +kernel) rfl rfl ⟨Nat.le_trans (Nat.le_of_ble_eq_true rfl) hfr, Nat.le_trans (Nat.le_of_ble_eq_true rfl) hlo⟩ hE hAN hP hD hS [2, 3] rfl (by decide) rfl rfl rfl rfl hl.1 [] rfl (Nat.le_of_ble_eq_true rfl) dX3_sendPacket_77 ⟨Nat.zero_le _, Nat.zero_le _⟩ ?_
      refine W.eq (g2 := F0 m 80 ls [.int (iI (0))]) rfl ?_
      refine b_eqT (tgt := 85) S dX3_sendPacket_80 (by decide) (by decide) ?_
      refine lv_iload_n hx hb dX3_sendPacket_85 rfl (lv_at hl 1 rfl) ?_
      refine lv_aload_n hx hb dX3_sendPacket_86 rfl (lv_at hl 4 rfl) ?_
      refine w_get (C := RX3) (T := TX3) (Nf := 8) (ci := 3) (v := .ref k) S (fun _ h => List.mem_cons_of_mem _ (List.mem_append_left _ (List.mem_append_left _ (List.mem_append_right _ h)))) hE hP 0 rfl rfl 5 (by decide) (List.mem_of_getElem? (i := 7) rfl) rfl dX3_sendPacket_87 ?_
      refine lv_iload hx hb dX3_sendPacket_90 (lv_at hl 0 rfl) ?_
      refine lv_iload_n hx hb dX3_sendPacket_92 rfl (lv_at hl 1 rfl) ?_
      refine kV_R (n := 2) (ci := 1) (q := (RX1, TX1, 1)) S (c_ticksThere lc D cI cZ N k kn nb i (atN nb tA i) (by omega) (by omega) (by omega)) gX3_sendPacket_X1_ticksThere rfl rfl (by decide +kernel) rfl rfl ⟨Nat.le_trans (Nat.le_of_ble_eq_true rfl) hfr, Nat.le_trans (Nat.le_of_ble_eq_true rfl) hlo⟩ hE hAN hP hD hS [2, 3] rfl (by decide) rfl rfl rfl rfl hl.1 [.int (iI (atN nb tA i))] rfl (Nat.le_of_ble_eq_true rfl) dX3_sendPacket_93 ⟨Nat.zero_le _, Nat.zero_le _⟩ ?_
      refine W.eq (g2 := F0 m 96 ls [.int (iI (tkT nb i (atN nb tA i))), .int (iI (atN nb tA i))]) rfl ?_
      refine w_iadd S dX3_sendPacket_96 ?_
      refine lv_istore_n (lv' := [(3, .int (iI ((atN nb tA i) + (tkT nb i (atN nb tA i))))), (4, .int (iI (((i : Nat) : Int)))), (2, .int (iI (((bb : Nat) : Int)))), (1, .int (iI (sA))), (0, .ref w)]) hx hb dX3_sendPacket_97 rfl hl (by decide) rfl (fun ls hl => ?_)
      refine lv_aload_n hx hb dX3_sendPacket_98 rfl (lv_at hl 4 rfl) ?_
      refine w_get (C := RX3) (T := TX3) (Nf := 8) (ci := 3) (v := .ref t) S (fun _ h => List.mem_cons_of_mem _ (List.mem_append_left _ (List.mem_append_left _ (List.mem_append_right _ h)))) hE hP 0 rfl rfl 6 (by decide) (List.mem_of_getElem? (i := 4) rfl) rfl dX3_sendPacket_99 ?_
      refine lv_iload hx hb dX3_sendPacket_102 (lv_at hl 1 rfl) ?_
      refine lv_iconst (v := iI (1)) hx hb dX3_sendPacket_104 rfl ?_
      refine w_iadd S dX3_sendPacket_105 ?_
      refine lv_iload_n hx hb dX3_sendPacket_106 rfl (lv_at hl 2 rfl) ?_
      refine lv_iload_n hx hb dX3_sendPacket_107 rfl (lv_at hl 0 rfl) ?_
      refine lv_aload_n hx hb dX3_sendPacket_108 rfl (lv_at hl 4 rfl) ?_
      refine w_get (C := RX3) (T := TX3) (Nf := 8) (ci := 3) (v := .ref wc) S (fun _ h => List.mem_cons_of_mem _ (List.mem_append_left _ (List.mem_append_left _ (List.mem_append_right _ h)))) hE hP 0 rfl rfl 4 (by decide) (List.mem_of_getElem? (i := 5) rfl) rfl dX3_sendPacket_109 ?_
      refine lv_iload hx hb dX3_sendPacket_112 (lv_at hl 1 rfl) ?_
      refine lv_iconst (v := iI (1)) hx hb dX3_sendPacket_114 rfl ?_
      refine w_iadd S dX3_sendPacket_115 ?_
      refine w_iald S hE hP 1 rfl (i + 1) (by omega) (by omega) (by omega) dX3_sendPacket_116 ?_
      refine w_iadd S dX3_sendPacket_117 ?_
      refine kV_M (n := 3) (ci := 2) (q := (RX2, TX2, 2)) S (c_add lc D cI cZ N t tc ts (cnA cn bb i) (smA sm ck nb tA bb i) (i + 1) bb (((atN nb tA i) + (tkT nb i (atN nb tA i))) + (ck (i + 1))) (by omega) (by omega)) gX3_sendPacket_X2_add rfl rfl (by decide +kernel) rfl rfl ⟨Nat.le_trans (Nat.le_of_ble_eq_true rfl) hfr, Nat.le_trans (Nat.le_of_ble_eq_true rfl) hlo⟩ hE hAN hP hD hS [4, 5, 6] rfl (by decide) rfl rfl rfl rfl rfl hl.1 [] rfl (Nat.le_of_ble_eq_true rfl) dX3_sendPacket_118 ⟨Nat.zero_le _, Nat.zero_le _⟩ (fun H locs hP hD hS => ?_)
      have hP : va_P D vwCl [(w, .inr (3, [.int (iI (((mn : Nat) : Int))), .int (iI (tA + 1)), .int (iI (sA + 1)), .int (iI (kA)), .ref wc, .ref k, .ref t, .ref b])), (wc, .inl (cI, 5, .inl (vI ck))), (k, .inr (1, [.ref kn])), (kn, .inl (cI, 24, .inl (vI nb))), (t, .inr (2, [.ref tc, .ref ts])), (tc, .inl (cI, 1000, .inl (vI (updI (cnA cn bb i) ((i + 1) * 200 + bb) ((cnA cn bb i) ((i + 1) * 200 + bb) + 1))))), (ts, .inl (cI, 1000, .inl (vI (updI (smA sm ck nb tA bb i) ((i + 1) * 200 + bb) ((smA sm ck nb tA bb i) ((i + 1) * 200 + bb) + (((atN nb tA i) + (tkT nb i (atN nb tA i))) + (ck (i + 1)))))))), (b, .inr (0, [.ref bm, .ref br])), (bm, .inl (cI, 25, .inl (vI mo))), (br, .inl (cI, 5, .inl (vI re)))] H := hP
      have hD : va_D A [(w, .inr (3, [.int (iI (((mn : Nat) : Int))), .int (iI (tA + 1)), .int (iI (sA + 1)), .int (iI (kA)), .ref wc, .ref k, .ref t, .ref b])), (wc, .inl (cI, 5, .inl (vI ck))), (k, .inr (1, [.ref kn])), (kn, .inl (cI, 24, .inl (vI nb))), (t, .inr (2, [.ref tc, .ref ts])), (tc, .inl (cI, 1000, .inl (vI (updI (cnA cn bb i) ((i + 1) * 200 + bb) ((cnA cn bb i) ((i + 1) * 200 + bb) + 1))))), (ts, .inl (cI, 1000, .inl (vI (updI (smA sm ck nb tA bb i) ((i + 1) * 200 + bb) ((smA sm ck nb tA bb i) ((i + 1) * 200 + bb) + (((atN nb tA i) + (tkT nb i (atN nb tA i))) + (ck (i + 1)))))))), (b, .inr (0, [.ref bm, .ref br])), (bm, .inl (cI, 25, .inl (vI mo))), (br, .inl (cI, 5, .inl (vI re)))] := hD
      refine W.eq (g2 := F0 m 121 ls []) rfl ?_
      refine w_iinc (v := ((i + 1 : Nat) : Int)) (lv' := [(4, .int (iI (((i + 1 : Nat) : Int)))), (3, .int (iI ((atN nb tA i) + (tkT nb i (atN nb tA i))))), (2, .int (iI (((bb : Nat) : Int)))), (1, .int (iI (sA))), (0, .ref w)]) S dX3_sendPacket_121 hl (k := 1) rfl (by omega) (by decide) rfl (fun ls hl => ?_)
      refine lv_goto (tgt := 59) hx hb dX3_sendPacket_124 (by decide) ?_
      have hcell : (updI (cnA cn bb i) ((i + 1) * 200 + bb) ((cnA cn bb i) ((i + 1) * 200 + bb) + 1)) = cnA cn bb (i + 1) := rfl
      rw [hcell] at hP hD
      have hcell : (updI (smA sm ck nb tA bb i) ((i + 1) * 200 + bb) ((smA sm ck nb tA bb i) ((i + 1) * 200 + bb) + (((atN nb tA i) + (tkT nb i (atN nb tA i))) + (ck (i + 1))))) = smA sm ck nb tA bb (i + 1) := rfl
      rw [hcell] at hP hD
      have hloc : ((atN nb tA i) + (tkT nb i (atN nb tA i)) : Int) = atN nb tA (i + 1) := rfl
      rw [hloc] at hl
      exact ih1 (i + 1)  (by omega)  _ _ _ hP hD hS (lv_sub hl [0, 1, 2, 3, 4] rfl)
  have hcell : (updI cn (0 * 200 + bb) (cn (0 * 200 + bb) + 1)) = cnA cn bb 0 := rfl
  rw [hcell] at hP hD
  have hcell : (updI sm (0 * 200 + bb) (sm (0 * 200 + bb) + (tA + (ck 0)))) = smA sm ck nb tA bb 0 := rfl
  rw [hcell] at hP hD
  have hloc : (tA : Int) = atN nb tA 0 := rfl
  rw [hloc] at hl
  exact loop1 (mn - 1) 0  (by omega)  _ _ _ hP hD hS (lv_sub hl [0, 1, 2, 3, 4] rfl)
set_option maxHeartbeats 4000000 in
set_option maxRecDepth 100000 in
theorem c_sendPacket_F (lc : Launch) (D : va_G) (cI cZ : ClassId) (N : Nat) (w : Nat) (wc : Nat) (k : Nat) (kn : Nat) (t : Nat) (tc : Nat) (ts : Nat) (b : Nat) (bm : Nat) (br : Nat) (mn : Nat) (tA : Int) (sA : Int) (kA : Int) (ck : Nat → Int) (nb : Nat → Int) (cn : Nat → Int) (sm : Nat → Int) (mo : Nat → Int) (re : Nat → Int) (bb : Nat) (J : Nat) (hmn : 2 ≤ mn ∧ mn ≤ 5) (hnb : ∀ k, k < 24 → 0 ≤ nb k ∧ nb k ≤ 20) (hta : 0 ≤ tA ∧ tA ≤ 10000) (hsA : 0 ≤ sA ∧ sA ≤ 200) (hkA : 1 ≤ kA ∧ kA ≤ 20) (hbb : sA.tdiv kA = ((bb : Nat) : Int)) (hbb2 : bb < 200) (hJ : J < mn - 1) (hd : ∀ i, i < J → ¬ drp nb i sA) (hdJ : drp nb J sA) : CM lc D cI cZ N yX3_sendPacket wsX3_sendPacket (rmK 2 45) [.ref w] [(w, .inr (3, [.int (iI (((mn : Nat) : Int))), .int (iI (tA)), .int (iI (sA)), .int (iI (kA)), .ref wc, .ref k, .ref t, .ref b])), (wc, .inl (cI, 5, .inl (vI ck))), (k, .inr (1, [.ref kn])), (kn, .inl (cI, 24, .inl (vI nb))), (t, .inr (2, [.ref tc, .ref ts])), (tc, .inl (cI, 1000, .inl (vI cn))), (ts, .inl (cI, 1000, .inl (vI sm))), (b, .inr (0, [.ref bm, .ref br])), (bm, .inl (cI, 25, .inl (vI mo))), (br, .inl (cI, 5, .inl (vI re)))] (some (.int (iI (0)))) [(w, .inr (3, [.int (iI (((mn : Nat) : Int))), .int (iI ((tA + 1))), .int (iI ((sA + 1))), .int (iI (kA)), .ref wc, .ref k, .ref t, .ref b])), (wc, .inl (cI, 5, .inl (vI ck))), (k, .inr (1, [.ref kn])), (kn, .inl (cI, 24, .inl (vI nb))), (t, .inr (2, [.ref tc, .ref ts])), (tc, .inl (cI, 1000, .inl (vI (cnA cn bb J)))), (ts, .inl (cI, 1000, .inl (vI (smA sm ck nb tA bb J)))), (b, .inr (0, [.ref bm, .ref br])), (bm, .inl (cI, 25, .inl (vI mo))), (br, .inl (cI, 5, .inl (vI re)))] := by
  refine CM.Z (cc := cX3_sendPacket) (maxL := 5) (by decide) rfl (Nat.le_of_ble_eq_true rfl) ?_
  intro p e s m args below meth c R Q S hE A hAN hfr hlo hP hD hS hret ls hl
  have S : CallFix p m c cX3_sendPacket 5 s args wsX3_sendPacket RX3 := S
  have hx := S.1
  have hb := S.2.1
  have hl : lv_has ls 5 [(0, .ref w)] := hl
  refine lv_aload_n hx hb dX3_sendPacket_0 rfl (lv_at hl 0 rfl) ?_
  refine w_get (C := RX3) (T := TX3) (Nf := 8) (ci := 3) (v := .int (iI (sA))) S (fun _ h => List.mem_cons_of_mem _ (List.mem_append_left _ (List.mem_append_left _ (List.mem_append_right _ h)))) hE hP 0 rfl rfl 2 (by decide) (List.mem_of_getElem? (i := 1) rfl) rfl dX3_sendPacket_1 ?_
  refine lv_istore_n (lv' := [(1, .int (iI (sA))), (0, .ref w)]) hx hb dX3_sendPacket_4 rfl hl (by decide) rfl (fun ls hl => ?_)
  refine lv_iload_n hx hb dX3_sendPacket_5 rfl (lv_at hl 0 rfl) ?_
  refine lv_aload_n hx hb dX3_sendPacket_6 rfl (lv_at hl 1 rfl) ?_
  refine w_get (C := RX3) (T := TX3) (Nf := 8) (ci := 3) (v := .int (iI (kA))) S (fun _ h => List.mem_cons_of_mem _ (List.mem_append_left _ (List.mem_append_left _ (List.mem_append_right _ h)))) hE hP 0 rfl rfl 3 (by decide) (List.mem_of_getElem? (i := 2) rfl) rfl dX3_sendPacket_7 ?_
  refine kN_R (n := 2) S (c_quotient lc D cI cZ N sA kA (by omega) (by omega)) gX3_sendPacket_X4_quotient_n80 hE.2.2.1.2.1 (List.mem_of_getElem? (i := 9) rfl) (List.mem_of_getElem? (i := 8) rfl) rfl (by decide +kernel) rfl rfl ⟨Nat.le_trans (Nat.le_of_ble_eq_true rfl) hfr, Nat.le_trans (Nat.le_of_ble_eq_true rfl) hlo⟩ hE hAN hP hD hS [] rfl (by decide) rfl hl.1 [] rfl (Nat.le_of_ble_eq_true rfl) dX3_sendPacket_10 ⟨Nat.zero_le _, Nat.zero_le _⟩ ?_
  refine W.eq (g2 := F0 m 13 ls [.int (iI (sA.tdiv kA))]) rfl ?_
  refine w_tz (z := ((bb : Nat) : Int)) hbb ?_
  refine lv_istore_n (lv' := [(2, .int (iI (((bb : Nat) : Int)))), (1, .int (iI (sA))), (0, .ref w)]) hx hb dX3_sendPacket_13 rfl hl (by decide) rfl (fun ls hl => ?_)
  refine lv_aload_n hx hb dX3_sendPacket_14 rfl (lv_at hl 2 rfl) ?_
  refine w_get (C := RX3) (T := TX3) (Nf := 8) (ci := 3) (v := .int (iI (tA))) S (fun _ h => List.mem_cons_of_mem _ (List.mem_append_left _ (List.mem_append_left _ (List.mem_append_right _ h)))) hE hP 0 rfl rfl 1 (by decide) (List.mem_of_getElem? (i := 3) rfl) rfl dX3_sendPacket_15 ?_
  refine lv_istore_n (lv' := [(3, .int (iI (tA))), (2, .int (iI (((bb : Nat) : Int)))), (1, .int (iI (sA))), (0, .ref w)]) hx hb dX3_sendPacket_18 rfl hl (by decide) rfl (fun ls hl => ?_)
  refine lv_aload_n hx hb dX3_sendPacket_19 rfl (lv_at hl 3 rfl) ?_
  refine lv_dup hx hb dX3_sendPacket_20 rfl ?_
  refine w_get (C := RX3) (T := TX3) (Nf := 8) (ci := 3) (v := .int (iI (sA))) S (fun _ h => List.mem_cons_of_mem _ (List.mem_append_left _ (List.mem_append_left _ (List.mem_append_right _ h)))) hE hP 0 rfl rfl 2 (by decide) (List.mem_of_getElem? (i := 1) rfl) rfl dX3_sendPacket_21 ?_
  refine lv_iconst (v := iI (1)) hx hb dX3_sendPacket_24 rfl ?_
  refine w_iadd S dX3_sendPacket_25 ?_
  refine w_put (C := RX3) (T := TX3) (Nf := 8) (ci := 3) S (fun _ h => List.mem_cons_of_mem _ (List.mem_append_left _ (List.mem_append_left _ (List.mem_append_right _ h)))) tyX3 tyX3_ok nmX3 hE hP hD hS 0 rfl rfl 2 (by decide) (List.mem_of_getElem? (i := 1) rfl) rfl rfl (Nat.le_of_ble_eq_true rfl) dX3_sendPacket_26 (fun H locs hP hD hS => ?_)
  have hP : va_P D vwCl [(w, .inr (3, [.int (iI (((mn : Nat) : Int))), .int (iI (tA)), .int (iI (sA + 1)), .int (iI (kA)), .ref wc, .ref k, .ref t, .ref b])), (wc, .inl (cI, 5, .inl (vI ck))), (k, .inr (1, [.ref kn])), (kn, .inl (cI, 24, .inl (vI nb))), (t, .inr (2, [.ref tc, .ref ts])), (tc, .inl (cI, 1000, .inl (vI cn))), (ts, .inl (cI, 1000, .inl (vI sm))), (b, .inr (0, [.ref bm, .ref br])), (bm, .inl (cI, 25, .inl (vI mo))), (br, .inl (cI, 5, .inl (vI re)))] H := hP
  have hD : va_D A [(w, .inr (3, [.int (iI (((mn : Nat) : Int))), .int (iI (tA)), .int (iI (sA + 1)), .int (iI (kA)), .ref wc, .ref k, .ref t, .ref b])), (wc, .inl (cI, 5, .inl (vI ck))), (k, .inr (1, [.ref kn])), (kn, .inl (cI, 24, .inl (vI nb))), (t, .inr (2, [.ref tc, .ref ts])), (tc, .inl (cI, 1000, .inl (vI cn))), (ts, .inl (cI, 1000, .inl (vI sm))), (b, .inr (0, [.ref bm, .ref br])), (bm, .inl (cI, 25, .inl (vI mo))), (br, .inl (cI, 5, .inl (vI re)))] := hD
  refine lv_aload_n hx hb dX3_sendPacket_29 rfl (lv_at hl 3 rfl) ?_
  refine lv_dup hx hb dX3_sendPacket_30 rfl ?_
  refine w_get (C := RX3) (T := TX3) (Nf := 8) (ci := 3) (v := .int (iI (tA))) S (fun _ h => List.mem_cons_of_mem _ (List.mem_append_left _ (List.mem_append_left _ (List.mem_append_right _ h)))) hE hP 0 rfl rfl 1 (by decide) (List.mem_of_getElem? (i := 3) rfl) rfl dX3_sendPacket_31 ?_
  refine lv_iconst (v := iI (1)) hx hb dX3_sendPacket_34 rfl ?_
  refine w_iadd S dX3_sendPacket_35 ?_
  refine w_put (C := RX3) (T := TX3) (Nf := 8) (ci := 3) S (fun _ h => List.mem_cons_of_mem _ (List.mem_append_left _ (List.mem_append_left _ (List.mem_append_right _ h)))) tyX3 tyX3_ok nmX3 hE hP hD hS 0 rfl rfl 1 (by decide) (List.mem_of_getElem? (i := 3) rfl) rfl rfl (Nat.le_of_ble_eq_true rfl) dX3_sendPacket_36 (fun H locs hP hD hS => ?_)
  have hP : va_P D vwCl [(w, .inr (3, [.int (iI (((mn : Nat) : Int))), .int (iI (tA + 1)), .int (iI (sA + 1)), .int (iI (kA)), .ref wc, .ref k, .ref t, .ref b])), (wc, .inl (cI, 5, .inl (vI ck))), (k, .inr (1, [.ref kn])), (kn, .inl (cI, 24, .inl (vI nb))), (t, .inr (2, [.ref tc, .ref ts])), (tc, .inl (cI, 1000, .inl (vI cn))), (ts, .inl (cI, 1000, .inl (vI sm))), (b, .inr (0, [.ref bm, .ref br])), (bm, .inl (cI, 25, .inl (vI mo))), (br, .inl (cI, 5, .inl (vI re)))] H := hP
  have hD : va_D A [(w, .inr (3, [.int (iI (((mn : Nat) : Int))), .int (iI (tA + 1)), .int (iI (sA + 1)), .int (iI (kA)), .ref wc, .ref k, .ref t, .ref b])), (wc, .inl (cI, 5, .inl (vI ck))), (k, .inr (1, [.ref kn])), (kn, .inl (cI, 24, .inl (vI nb))), (t, .inr (2, [.ref tc, .ref ts])), (tc, .inl (cI, 1000, .inl (vI cn))), (ts, .inl (cI, 1000, .inl (vI sm))), (b, .inr (0, [.ref bm, .ref br])), (bm, .inl (cI, 25, .inl (vI mo))), (br, .inl (cI, 5, .inl (vI re)))] := hD
  refine lv_aload_n hx hb dX3_sendPacket_39 rfl (lv_at hl 3 rfl) ?_
  refine w_get (C := RX3) (T := TX3) (Nf := 8) (ci := 3) (v := .ref t) S (fun _ h => List.mem_cons_of_mem _ (List.mem_append_left _ (List.mem_append_left _ (List.mem_append_right _ h)))) hE hP 0 rfl rfl 6 (by decide) (List.mem_of_getElem? (i := 4) rfl) rfl dX3_sendPacket_40 ?_
  refine lv_iconst (v := iI (0)) hx hb dX3_sendPacket_43 rfl ?_
  refine lv_iload_n hx hb dX3_sendPacket_44 rfl (lv_at hl 1 rfl) ?_
  refine lv_iload_n hx hb dX3_sendPacket_45 rfl (lv_at hl 0 rfl) ?_
  refine lv_aload_n hx hb dX3_sendPacket_46 rfl (lv_at hl 3 rfl) ?_
  refine w_get (C := RX3) (T := TX3) (Nf := 8) (ci := 3) (v := .ref wc) S (fun _ h => List.mem_cons_of_mem _ (List.mem_append_left _ (List.mem_append_left _ (List.mem_append_right _ h)))) hE hP 0 rfl rfl 4 (by decide) (List.mem_of_getElem? (i := 5) rfl) rfl dX3_sendPacket_47 ?_
  refine lv_iconst (v := iI (0)) hx hb dX3_sendPacket_50 rfl ?_
  refine w_iald S hE hP 1 rfl (0) (by omega) (by omega) (by omega) dX3_sendPacket_51 ?_
  refine w_iadd S dX3_sendPacket_52 ?_
  refine kV_M (n := 3) (ci := 2) (q := (RX2, TX2, 2)) S (c_add lc D cI cZ N t tc ts cn sm 0 bb (tA + (ck 0)) (by omega) (by omega)) gX3_sendPacket_X2_add rfl rfl (by decide +kernel) rfl rfl ⟨Nat.le_trans (Nat.le_of_ble_eq_true rfl) hfr, Nat.le_trans (Nat.le_of_ble_eq_true rfl) hlo⟩ hE hAN hP hD hS [4, 5, 6] rfl (by decide) rfl rfl rfl rfl rfl hl.1 [] rfl (Nat.le_of_ble_eq_true rfl) dX3_sendPacket_53 ⟨Nat.zero_le _, Nat.zero_le _⟩ (fun H locs hP hD hS => ?_)
  have hP : va_P D vwCl [(w, .inr (3, [.int (iI (((mn : Nat) : Int))), .int (iI (tA + 1)), .int (iI (sA + 1)), .int (iI (kA)), .ref wc, .ref k, .ref t, .ref b])), (wc, .inl (cI, 5, .inl (vI ck))), (k, .inr (1, [.ref kn])), (kn, .inl (cI, 24, .inl (vI nb))), (t, .inr (2, [.ref tc, .ref ts])), (tc, .inl (cI, 1000, .inl (vI (updI cn (0 * 200 + bb) (cn (0 * 200 + bb) + 1))))), (ts, .inl (cI, 1000, .inl (vI (updI sm (0 * 200 + bb) (sm (0 * 200 + bb) + (tA + (ck 0))))))), (b, .inr (0, [.ref bm, .ref br])), (bm, .inl (cI, 25, .inl (vI mo))), (br, .inl (cI, 5, .inl (vI re)))] H := hP
  have hD : va_D A [(w, .inr (3, [.int (iI (((mn : Nat) : Int))), .int (iI (tA + 1)), .int (iI (sA + 1)), .int (iI (kA)), .ref wc, .ref k, .ref t, .ref b])), (wc, .inl (cI, 5, .inl (vI ck))), (k, .inr (1, [.ref kn])), (kn, .inl (cI, 24, .inl (vI nb))), (t, .inr (2, [.ref tc, .ref ts])), (tc, .inl (cI, 1000, .inl (vI (updI cn (0 * 200 + bb) (cn (0 * 200 + bb) + 1))))), (ts, .inl (cI, 1000, .inl (vI (updI sm (0 * 200 + bb) (sm (0 * 200 + bb) + (tA + (ck 0))))))), (b, .inr (0, [.ref bm, .ref br])), (bm, .inl (cI, 25, .inl (vI mo))), (br, .inl (cI, 5, .inl (vI re)))] := hD
  refine W.eq (g2 := F0 m 56 ls []) rfl ?_
  refine lv_iconst (v := iI (0)) hx hb dX3_sendPacket_56 rfl ?_
  refine lv_istore (lv' := [(4, .int (iI (0))), (3, .int (iI (tA))), (2, .int (iI (((bb : Nat) : Int)))), (1, .int (iI (sA))), (0, .ref w)]) hx hb dX3_sendPacket_57 hl (by decide) rfl (fun ls hl => ?_)
  have loop2 : ∀ (q i : Nat) , i + q = J → ∀ (H : Heap) (locs : List Loc) (ls : Array Slot), va_P D vwCl [(w, .inr (3, [.int (iI (((mn : Nat) : Int))), .int (iI (tA + 1)), .int (iI (sA + 1)), .int (iI (kA)), .ref wc, .ref k, .ref t, .ref b])), (wc, .inl (cI, 5, .inl (vI ck))), (k, .inr (1, [.ref kn])), (kn, .inl (cI, 24, .inl (vI nb))), (t, .inr (2, [.ref tc, .ref ts])), (tc, .inl (cI, 1000, .inl (vI (cnA cn bb i)))), (ts, .inl (cI, 1000, .inl (vI (smA sm ck nb tA bb i)))), (b, .inr (0, [.ref bm, .ref br])), (bm, .inl (cI, 25, .inl (vI mo))), (br, .inl (cI, 5, .inl (vI re)))] H → va_D A [(w, .inr (3, [.int (iI (((mn : Nat) : Int))), .int (iI (tA + 1)), .int (iI (sA + 1)), .int (iI (kA)), .ref wc, .ref k, .ref t, .ref b])), (wc, .inl (cI, 5, .inl (vI ck))), (k, .inr (1, [.ref kn])), (kn, .inl (cI, 24, .inl (vI nb))), (t, .inr (2, [.ref tc, .ref ts])), (tc, .inl (cI, 1000, .inl (vI (cnA cn bb i)))), (ts, .inl (cI, 1000, .inl (vI (smA sm ck nb tA bb i)))), (b, .inr (0, [.ref bm, .ref br])), (bm, .inl (cI, 25, .inl (vI mo))), (br, .inl (cI, 5, .inl (vI re)))] → va_S A s.heap H locs → lv_has ls 5 [(4, .int (iI (((i : Nat) : Int)))), (3, .int (iI (atN nb tA i))), (2, .int (iI (((bb : Nat) : Int)))), (1, .int (iI (sA))), (0, .ref w)] → W p lc e R s m args below meth c H locs 0 0 Q (F0 m 59 ls []) := by
    intro q
    induction q with
    | zero =>
      intro i  hm  H locs ls hP hD hS hl
      have hi : i = J := by omega
      subst hi
      refine lv_iload hx hb dX3_sendPacket_59 (lv_at hl 0 rfl) ?_
      refine lv_aload_n hx hb dX3_sendPacket_61 rfl (lv_at hl 4 rfl) ?_
      refine w_get (C := RX3) (T := TX3) (Nf := 8) (ci := 3) (v := .int (iI (((mn : Nat) : Int)))) S (fun _ h => List.mem_cons_of_mem _ (List.mem_append_left _ (List.mem_append_left _ (List.mem_append_right _ h)))) hE hP 0 rfl rfl 0 (by decide) (List.mem_of_getElem? (i := 6) rfl) rfl dX3_sendPacket_62 ?_
      refine lv_iconst (v := iI (1)) hx hb dX3_sendPacket_65 rfl ?_
      refine w_isub S dX3_sendPacket_66 ?_
      refine c_geF (tgt := 127) S dX3_sendPacket_67 (by decide) (by omega) (by omega) (by omega) ?_
      refine lv_aload_n hx hb dX3_sendPacket_70 rfl (lv_at hl 4 rfl) ?_
      refine w_get (C := RX3) (T := TX3) (Nf := 8) (ci := 3) (v := .ref k) S (fun _ h => List.mem_cons_of_mem _ (List.mem_append_left _ (List.mem_append_left _ (List.mem_append_right _ h)))) hE hP 0 rfl rfl 5 (by decide) (List.mem_of_getElem? (i := 7) rfl) rfl dX3_sendPacket_71 ?_
      refine lv_iload hx hb dX3_sendPacket_74 (lv_at hl 0 rfl) ?_
      refine lv_iload_n hx hb dX3_sendPacket_76 rfl (lv_at hl 3 rfl) ?_
      refine kV_R (n := 2) (ci := 1) (q := (RX1, TX1, 1)) S (c_drops_T lc D cI cZ N k kn nb i sA (by omega) (by omega) (by omega) hdJ) gX3_sendPacket_X1_drops rfl rfl (by decide +kernel) rfl rfl ⟨Nat.le_trans (Nat.le_of_ble_eq_true rfl) hfr, Nat.le_trans (Nat.le_of_ble_eq_true rfl) hlo⟩ hE hAN hP hD hS [2, 3] rfl (by decide) rfl rfl rfl rfl hl.1 [] rfl (Nat.le_of_ble_eq_true rfl) dX3_sendPacket_77 ⟨Nat.zero_le _, Nat.zero_le _⟩ ?_
      refine W.eq (g2 := F0 m 80 ls [.int (iI (1))]) rfl ?_
      refine b_eqF (tgt := 85) S dX3_sendPacket_80 (by decide) (by decide) (by decide) ?_
      refine lv_iconst (v := iI (0)) hx hb dX3_sendPacket_83 rfl ?_
      exact hret _ _ _ _ _ dX3_sendPacket_84 rfl (Or.inl rfl) hP hS
    | succ q ih2 =>
      intro i  hm  H locs ls hP hD hS hl
      refine lv_iload hx hb dX3_sendPacket_59 (lv_at hl 0 rfl) ?_
      refine lv_aload_n hx hb dX3_sendPacket_61 rfl (lv_at hl 4 rfl) ?_
      refine w_get (C := RX3) (T := TX3) (Nf := 8) (ci := 3) (v := .int (iI (((mn : Nat) : Int)))) S (fun _ h => List.mem_cons_of_mem _ (List.mem_append_left _ (List.mem_append_left _ (List.mem_append_right _ h)))) hE hP 0 rfl rfl 0 (by decide) (List.mem_of_getElem? (i := 6) rfl) rfl dX3_sendPacket_62 ?_
      refine lv_iconst (v := iI (1)) hx hb dX3_sendPacket_65 rfl ?_
      refine w_isub S dX3_sendPacket_66 ?_
      refine c_geF (tgt := 127) S dX3_sendPacket_67 (by decide) (by omega) (by omega) (by omega) ?_
      have g1 := atN_rng hta.1 hnb i (by omega)
      have g2 := tkT_rng (l := i) (by omega) g1.1 hnb
      refine lv_aload_n hx hb dX3_sendPacket_70 rfl (lv_at hl 4 rfl) ?_
      refine w_get (C := RX3) (T := TX3) (Nf := 8) (ci := 3) (v := .ref k) S (fun _ h => List.mem_cons_of_mem _ (List.mem_append_left _ (List.mem_append_left _ (List.mem_append_right _ h)))) hE hP 0 rfl rfl 5 (by decide) (List.mem_of_getElem? (i := 7) rfl) rfl dX3_sendPacket_71 ?_
      refine lv_iload hx hb dX3_sendPacket_74 (lv_at hl 0 rfl) ?_
      refine lv_iload_n hx hb dX3_sendPacket_76 rfl (lv_at hl 3 rfl) ?_
      refine kV_R (n := 2) (ci := 1) (q := (RX1, TX1, 1)) S (c_drops_F lc D cI cZ N k kn nb i sA (by omega) (by omega) (by omega) (hd i (by omega))) gX3_sendPacket_X1_drops rfl rfl (by decide +kernel) rfl rfl ⟨Nat.le_trans (Nat.le_of_ble_eq_true rfl) hfr, Nat.le_trans (Nat.le_of_ble_eq_true rfl) hlo⟩ hE hAN hP hD hS [2, 3] rfl (by decide) rfl rfl rfl rfl hl.1 [] rfl (Nat.le_of_ble_eq_true rfl) dX3_sendPacket_77 ⟨Nat.zero_le _, Nat.zero_le _⟩ ?_
      refine W.eq (g2 := F0 m 80 ls [.int (iI (0))]) rfl ?_
      refine b_eqT (tgt := 85) S dX3_sendPacket_80 (by decide) (by decide) ?_
      refine lv_iload_n hx hb dX3_sendPacket_85 rfl (lv_at hl 1 rfl) ?_
      refine lv_aload_n hx hb dX3_sendPacket_86 rfl (lv_at hl 4 rfl) ?_
      refine w_get (C := RX3) (T := TX3) (Nf := 8) (ci := 3) (v := .ref k) S (fun _ h => List.mem_cons_of_mem _ (List.mem_append_left _ (List.mem_append_left _ (List.mem_append_right _ h)))) hE hP 0 rfl rfl 5 (by decide) (List.mem_of_getElem? (i := 7) rfl) rfl dX3_sendPacket_87 ?_
      refine lv_iload hx hb dX3_sendPacket_90 (lv_at hl 0 rfl) ?_
      refine lv_iload_n hx hb dX3_sendPacket_92 rfl (lv_at hl 1 rfl) ?_
      refine kV_R (n := 2) (ci := 1) (q := (RX1, TX1, 1)) S (c_ticksThere lc D cI cZ N k kn nb i (atN nb tA i) (by omega) (by omega) (by omega)) gX3_sendPacket_X1_ticksThere rfl rfl (by decide +kernel) rfl rfl ⟨Nat.le_trans (Nat.le_of_ble_eq_true rfl) hfr, Nat.le_trans (Nat.le_of_ble_eq_true rfl) hlo⟩ hE hAN hP hD hS [2, 3] rfl (by decide) rfl rfl rfl rfl hl.1 [.int (iI (atN nb tA i))] rfl (Nat.le_of_ble_eq_true rfl) dX3_sendPacket_93 ⟨Nat.zero_le _, Nat.zero_le _⟩ ?_
      refine W.eq (g2 := F0 m 96 ls [.int (iI (tkT nb i (atN nb tA i))), .int (iI (atN nb tA i))]) rfl ?_
      refine w_iadd S dX3_sendPacket_96 ?_
      refine lv_istore_n (lv' := [(3, .int (iI ((atN nb tA i) + (tkT nb i (atN nb tA i))))), (4, .int (iI (((i : Nat) : Int)))), (2, .int (iI (((bb : Nat) : Int)))), (1, .int (iI (sA))), (0, .ref w)]) hx hb dX3_sendPacket_97 rfl hl (by decide) rfl (fun ls hl => ?_)
      refine lv_aload_n hx hb dX3_sendPacket_98 rfl (lv_at hl 4 rfl) ?_
      refine w_get (C := RX3) (T := TX3) (Nf := 8) (ci := 3) (v := .ref t) S (fun _ h => List.mem_cons_of_mem _ (List.mem_append_left _ (List.mem_append_left _ (List.mem_append_right _ h)))) hE hP 0 rfl rfl 6 (by decide) (List.mem_of_getElem? (i := 4) rfl) rfl dX3_sendPacket_99 ?_
      refine lv_iload hx hb dX3_sendPacket_102 (lv_at hl 1 rfl) ?_
      refine lv_iconst (v := iI (1)) hx hb dX3_sendPacket_104 rfl ?_
      refine w_iadd S dX3_sendPacket_105 ?_
      refine lv_iload_n hx hb dX3_sendPacket_106 rfl (lv_at hl 2 rfl) ?_
      refine lv_iload_n hx hb dX3_sendPacket_107 rfl (lv_at hl 0 rfl) ?_
      refine lv_aload_n hx hb dX3_sendPacket_108 rfl (lv_at hl 4 rfl) ?_
      refine w_get (C := RX3) (T := TX3) (Nf := 8) (ci := 3) (v := .ref wc) S (fun _ h => List.mem_cons_of_mem _ (List.mem_append_left _ (List.mem_append_left _ (List.mem_append_right _ h)))) hE hP 0 rfl rfl 4 (by decide) (List.mem_of_getElem? (i := 5) rfl) rfl dX3_sendPacket_109 ?_
      refine lv_iload hx hb dX3_sendPacket_112 (lv_at hl 1 rfl) ?_
      refine lv_iconst (v := iI (1)) hx hb dX3_sendPacket_114 rfl ?_
      refine w_iadd S dX3_sendPacket_115 ?_
      refine w_iald S hE hP 1 rfl (i + 1) (by omega) (by omega) (by omega) dX3_sendPacket_116 ?_
      refine w_iadd S dX3_sendPacket_117 ?_
      refine kV_M (n := 3) (ci := 2) (q := (RX2, TX2, 2)) S (c_add lc D cI cZ N t tc ts (cnA cn bb i) (smA sm ck nb tA bb i) (i + 1) bb (((atN nb tA i) + (tkT nb i (atN nb tA i))) + (ck (i + 1))) (by omega) (by omega)) gX3_sendPacket_X2_add rfl rfl (by decide +kernel) rfl rfl ⟨Nat.le_trans (Nat.le_of_ble_eq_true rfl) hfr, Nat.le_trans (Nat.le_of_ble_eq_true rfl) hlo⟩ hE hAN hP hD hS [4, 5, 6] rfl (by decide) rfl rfl rfl rfl rfl hl.1 [] rfl (Nat.le_of_ble_eq_true rfl) dX3_sendPacket_118 ⟨Nat.zero_le _, Nat.zero_le _⟩ (fun H locs hP hD hS => ?_)
      have hP : va_P D vwCl [(w, .inr (3, [.int (iI (((mn : Nat) : Int))), .int (iI (tA + 1)), .int (iI (sA + 1)), .int (iI (kA)), .ref wc, .ref k, .ref t, .ref b])), (wc, .inl (cI, 5, .inl (vI ck))), (k, .inr (1, [.ref kn])), (kn, .inl (cI, 24, .inl (vI nb))), (t, .inr (2, [.ref tc, .ref ts])), (tc, .inl (cI, 1000, .inl (vI (updI (cnA cn bb i) ((i + 1) * 200 + bb) ((cnA cn bb i) ((i + 1) * 200 + bb) + 1))))), (ts, .inl (cI, 1000, .inl (vI (updI (smA sm ck nb tA bb i) ((i + 1) * 200 + bb) ((smA sm ck nb tA bb i) ((i + 1) * 200 + bb) + (((atN nb tA i) + (tkT nb i (atN nb tA i))) + (ck (i + 1)))))))), (b, .inr (0, [.ref bm, .ref br])), (bm, .inl (cI, 25, .inl (vI mo))), (br, .inl (cI, 5, .inl (vI re)))] H := hP
      have hD : va_D A [(w, .inr (3, [.int (iI (((mn : Nat) : Int))), .int (iI (tA + 1)), .int (iI (sA + 1)), .int (iI (kA)), .ref wc, .ref k, .ref t, .ref b])), (wc, .inl (cI, 5, .inl (vI ck))), (k, .inr (1, [.ref kn])), (kn, .inl (cI, 24, .inl (vI nb))), (t, .inr (2, [.ref tc, .ref ts])), (tc, .inl (cI, 1000, .inl (vI (updI (cnA cn bb i) ((i + 1) * 200 + bb) ((cnA cn bb i) ((i + 1) * 200 + bb) + 1))))), (ts, .inl (cI, 1000, .inl (vI (updI (smA sm ck nb tA bb i) ((i + 1) * 200 + bb) ((smA sm ck nb tA bb i) ((i + 1) * 200 + bb) + (((atN nb tA i) + (tkT nb i (atN nb tA i))) + (ck (i + 1)))))))), (b, .inr (0, [.ref bm, .ref br])), (bm, .inl (cI, 25, .inl (vI mo))), (br, .inl (cI, 5, .inl (vI re)))] := hD
      refine W.eq (g2 := F0 m 121 ls []) rfl ?_
      refine w_iinc (v := ((i + 1 : Nat) : Int)) (lv' := [(4, .int (iI (((i + 1 : Nat) : Int)))), (3, .int (iI ((atN nb tA i) + (tkT nb i (atN nb tA i))))), (2, .int (iI (((bb : Nat) : Int)))), (1, .int (iI (sA))), (0, .ref w)]) S dX3_sendPacket_121 hl (k := 1) rfl (by omega) (by decide) rfl (fun ls hl => ?_)
      refine lv_goto (tgt := 59) hx hb dX3_sendPacket_124 (by decide) ?_
      have hcell : (updI (cnA cn bb i) ((i + 1) * 200 + bb) ((cnA cn bb i) ((i + 1) * 200 + bb) + 1)) = cnA cn bb (i + 1) := rfl
      rw [hcell] at hP hD
      have hcell : (updI (smA sm ck nb tA bb i) ((i + 1) * 200 + bb) ((smA sm ck nb tA bb i) ((i + 1) * 200 + bb) + (((atN nb tA i) + (tkT nb i (atN nb tA i))) + (ck (i + 1))))) = smA sm ck nb tA bb (i + 1) := rfl
      rw [hcell] at hP hD
      have hloc : ((atN nb tA i) + (tkT nb i (atN nb tA i)) : Int) = atN nb tA (i + 1) := rfl
      rw [hloc] at hl
      exact ih2 (i + 1)  (by omega)  _ _ _ hP hD hS (lv_sub hl [0, 1, 2, 3, 4] rfl)
  have hcell : (updI cn (0 * 200 + bb) (cn (0 * 200 + bb) + 1)) = cnA cn bb 0 := rfl
  rw [hcell] at hP hD
  have hcell : (updI sm (0 * 200 + bb) (sm (0 * 200 + bb) + (tA + (ck 0)))) = smA sm ck nb tA bb 0 := rfl
  rw [hcell] at hP hD
  have hloc : (tA : Int) = atN nb tA 0 := rfl
  rw [hloc] at hl
  exact loop2 J 0  (by omega)  _ _ _ hP hD hS (lv_sub hl [0, 1, 2, 3, 4] rfl)
end
section
set_option maxHeartbeats 4000000 in
set_option maxRecDepth 100000 in
theorem c_soundPath (lc : Launch) (D : va_G) (cI cZ : ClassId) (N : Nat) (w : Nat) (wc : Nat) (k : Nat) (kn : Nat) (t : Nat) (tc : Nat) (ts : Nat) (b : Nat) (bm : Nat) (br : Nat) (mn : Nat) (tA : Int) (sA : Int) (kA : Int) (ck : Nat → Int) (nb : Nat → Int) (cn : Nat → Int) (sm : Nat → Int) (mo : Nat → Int) (re : Nat → Int) (f : Nat) (g : Nat) (hmn : 2 ≤ mn ∧ mn ≤ 5) (hnb : ∀ k, k < 24 → 0 ≤ nb k ∧ nb k ≤ 20) (hta : 0 ≤ tA ∧ tA ≤ 10000) (hck : ∀ k, k < 5 → -99 ≤ ck k ∧ ck k ≤ 99) (hmo : ∀ k, k < 25 → -1000 ≤ mo k ∧ mo k ≤ 1000000000) (hfg : f < g) (hgm : g < mn) : CM lc D cI cZ N yX3_soundPath wsX3_soundPath (rmK 2 45) [.ref w, .int (iI (((f : Nat) : Int))), .int (iI (((g : Nat) : Int)))] [(w, .inr (3, [.int (iI (((mn : Nat) : Int))), .int (iI (tA)), .int (iI (sA)), .int (iI (kA)), .ref wc, .ref k, .ref t, .ref b])), (wc, .inl (cI, 5, .inl (vI ck))), (k, .inr (1, [.ref kn])), (kn, .inl (cI, 24, .inl (vI nb))), (t, .inr (2, [.ref tc, .ref ts])), (tc, .inl (cI, 1000, .inl (vI cn))), (ts, .inl (cI, 1000, .inl (vI sm))), (b, .inr (0, [.ref bm, .ref br])), (bm, .inl (cI, 25, .inl (vI mo))), (br, .inl (cI, 5, .inl (vI re)))] (some (.int (iI ((bkN nb (thN nb tA f (g - f)) g (g - f)) - tA)))) [(w, .inr (3, [.int (iI (((mn : Nat) : Int))), .int (iI ((tA + 1))), .int (iI (sA)), .int (iI (kA)), .ref wc, .ref k, .ref t, .ref b])), (wc, .inl (cI, 5, .inl (vI ck))), (k, .inr (1, [.ref kn])), (kn, .inl (cI, 24, .inl (vI nb))), (t, .inr (2, [.ref tc, .ref ts])), (tc, .inl (cI, 1000, .inl (vI cn))), (ts, .inl (cI, 1000, .inl (vI sm))), (b, .inr (0, [.ref bm, .ref br])), (bm, .inl (cI, 25, .inl (vI (nrw mo f g ((((thN nb tA f (g - f)) + ck g) - (tA + ck f)) - (((g : Nat) : Int) - ((f : Nat) : Int))) ((((thN nb tA f (g - f)) + ck g) - ((bkN nb (thN nb tA f (g - f)) g (g - f)) + ck f)) + (((g : Nat) : Int) - ((f : Nat) : Int))))))), (br, .inl (cI, 5, .inl (vI re)))] := by
  refine CM.I (cc := cX3_soundPath) (maxL := 10) (by decide) rfl (Nat.le_of_ble_eq_true rfl) ?_
  intro p e s m args below meth c R Q S hE A hAN hfr hlo hP hD hS hret ls hl
  have S : CallFix p m c cX3_soundPath 10 s args wsX3_soundPath RX3 := S
  have hx := S.1
  have hb := S.2.1
  have hl : lv_has ls 10 [(0, .ref w), (1, .int (iI (((f : Nat) : Int)))), (2, .int (iI (((g : Nat) : Int))))] := hl
  refine lv_aload_n hx hb dX3_soundPath_0 rfl (lv_at hl 0 rfl) ?_
  refine w_get (C := RX3) (T := TX3) (Nf := 8) (ci := 3) (v := .int (iI (tA))) S (fun _ h => List.mem_cons_of_mem _ (List.mem_append_left _ (List.mem_append_left _ (List.mem_append_right _ h)))) hE hP 0 rfl rfl 1 (by decide) (List.mem_of_getElem? (i := 1) rfl) rfl dX3_soundPath_1 ?_
  refine lv_istore_n (lv' := [(3, .int (iI (tA))), (0, .ref w), (1, .int (iI (((f : Nat) : Int)))), (2, .int (iI (((g : Nat) : Int))))]) hx hb dX3_soundPath_4 rfl hl (by decide) rfl (fun ls hl => ?_)
  refine lv_iload_n hx hb dX3_soundPath_5 rfl (lv_at hl 2 rfl) ?_
  refine lv_istore (lv' := [(4, .int (iI (((f : Nat) : Int)))), (3, .int (iI (tA))), (0, .ref w), (1, .int (iI (((f : Nat) : Int)))), (2, .int (iI (((g : Nat) : Int))))]) hx hb dX3_soundPath_6 hl (by decide) rfl (fun ls hl => ?_)
  have loop3 : ∀ (q j : Nat) , f + j + q = g → ∀ (H : Heap) (locs : List Loc) (ls : Array Slot), va_P D vwCl [(w, .inr (3, [.int (iI (((mn : Nat) : Int))), .int (iI (tA)), .int (iI (sA)), .int (iI (kA)), .ref wc, .ref k, .ref t, .ref b])), (wc, .inl (cI, 5, .inl (vI ck))), (k, .inr (1, [.ref kn])), (kn, .inl (cI, 24, .inl (vI nb))), (t, .inr (2, [.ref tc, .ref ts])), (tc, .inl (cI, 1000, .inl (vI cn))), (ts, .inl (cI, 1000, .inl (vI sm))), (b, .inr (0, [.ref bm, .ref br])), (bm, .inl (cI, 25, .inl (vI mo))), (br, .inl (cI, 5, .inl (vI re)))] H → va_D A [(w, .inr (3, [.int (iI (((mn : Nat) : Int))), .int (iI (tA)), .int (iI (sA)), .int (iI (kA)), .ref wc, .ref k, .ref t, .ref b])), (wc, .inl (cI, 5, .inl (vI ck))), (k, .inr (1, [.ref kn])), (kn, .inl (cI, 24, .inl (vI nb))), (t, .inr (2, [.ref tc, .ref ts])), (tc, .inl (cI, 1000, .inl (vI cn))), (ts, .inl (cI, 1000, .inl (vI sm))), (b, .inr (0, [.ref bm, .ref br])), (bm, .inl (cI, 25, .inl (vI mo))), (br, .inl (cI, 5, .inl (vI re)))] → va_S A s.heap H locs → lv_has ls 10 [(4, .int (iI (((f + j : Nat) : Int)))), (3, .int (iI (thN nb tA f j))), (0, .ref w), (1, .int (iI (((f : Nat) : Int)))), (2, .int (iI (((g : Nat) : Int))))] → W p lc e R s m args below meth c H locs 0 0 Q (F0 m 8 ls []) := by
    intro q
    induction q with
    | zero =>
      intro j  hm  H locs ls hP hD hS hl
      refine lv_iload hx hb dX3_soundPath_8 (lv_at hl 0 rfl) ?_
      refine lv_iload_n hx hb dX3_soundPath_10 rfl (lv_at hl 4 rfl) ?_
      refine c_geT (tgt := 33) S dX3_soundPath_11 (by decide) (by omega) (by omega) (by omega) ?_
      have hj : j = g - f := by omega
      subst hj
      refine lv_iload_n hx hb dX3_soundPath_33 rfl (lv_at hl 1 rfl) ?_
      refine lv_istore (lv' := [(4, .int (iI (thN nb tA f (g - f)))), (3, .int (iI (thN nb tA f (g - f)))), (0, .ref w), (1, .int (iI (((f : Nat) : Int)))), (2, .int (iI (((g : Nat) : Int))))]) hx hb dX3_soundPath_34 hl (by decide) rfl (fun ls hl => ?_)
      refine lv_iload_n hx hb dX3_soundPath_36 rfl (lv_at hl 4 rfl) ?_
      refine lv_iconst (v := iI (1)) hx hb dX3_soundPath_37 rfl ?_
      refine w_isub S dX3_soundPath_38 ?_
      refine lv_istore (lv' := [(5, .int (iI (((g : Nat) : Int) - 1))), (4, .int (iI (thN nb tA f (g - f)))), (3, .int (iI (thN nb tA f (g - f)))), (0, .ref w), (1, .int (iI (((f : Nat) : Int)))), (2, .int (iI (((g : Nat) : Int))))]) hx hb dX3_soundPath_39 hl (by decide) rfl (fun ls hl => ?_)
      have loop4 : ∀ (q j : Nat) , f + j + q = g → ∀ (H : Heap) (locs : List Loc) (ls : Array Slot), va_P D vwCl [(w, .inr (3, [.int (iI (((mn : Nat) : Int))), .int (iI (tA)), .int (iI (sA)), .int (iI (kA)), .ref wc, .ref k, .ref t, .ref b])), (wc, .inl (cI, 5, .inl (vI ck))), (k, .inr (1, [.ref kn])), (kn, .inl (cI, 24, .inl (vI nb))), (t, .inr (2, [.ref tc, .ref ts])), (tc, .inl (cI, 1000, .inl (vI cn))), (ts, .inl (cI, 1000, .inl (vI sm))), (b, .inr (0, [.ref bm, .ref br])), (bm, .inl (cI, 25, .inl (vI mo))), (br, .inl (cI, 5, .inl (vI re)))] H → va_D A [(w, .inr (3, [.int (iI (((mn : Nat) : Int))), .int (iI (tA)), .int (iI (sA)), .int (iI (kA)), .ref wc, .ref k, .ref t, .ref b])), (wc, .inl (cI, 5, .inl (vI ck))), (k, .inr (1, [.ref kn])), (kn, .inl (cI, 24, .inl (vI nb))), (t, .inr (2, [.ref tc, .ref ts])), (tc, .inl (cI, 1000, .inl (vI cn))), (ts, .inl (cI, 1000, .inl (vI sm))), (b, .inr (0, [.ref bm, .ref br])), (bm, .inl (cI, 25, .inl (vI mo))), (br, .inl (cI, 5, .inl (vI re)))] → va_S A s.heap H locs → lv_has ls 10 [(5, .int (iI (((g : Nat) : Int) - 1 - ((j : Nat) : Int)))), (4, .int (iI (bkN nb (thN nb tA f (g - f)) g j))), (3, .int (iI (thN nb tA f (g - f)))), (0, .ref w), (1, .int (iI (((f : Nat) : Int)))), (2, .int (iI (((g : Nat) : Int))))] → W p lc e R s m args below meth c H locs 0 0 Q (F0 m 41 ls []) := by
        intro q
        induction q with
        | zero =>
          intro j  hm  H locs ls hP hD hS hl
          refine lv_iload hx hb dX3_soundPath_41 (lv_at hl 0 rfl) ?_
          refine lv_iload_n hx hb dX3_soundPath_43 rfl (lv_at hl 4 rfl) ?_
          refine c_ltT (tgt := 69) S dX3_soundPath_44 (by decide) (by omega) (by omega) (by omega) ?_
          have hj : j = g - f := by omega
          subst hj
          have g3 := thN_rng (f := f) hta.1 hnb (g - f) (by omega)
          have g4 := bkN_rng (g := g) (by omega) g3.1 hnb (g - f) (by omega)
          have g5 := hck f (by omega)
          have g6 := hck g (by omega)
          refine lv_aload_n hx hb dX3_soundPath_69 rfl (lv_at hl 3 rfl) ?_
          refine w_get (C := RX3) (T := TX3) (Nf := 8) (ci := 3) (v := .int (iI (tA))) S (fun _ h => List.mem_cons_of_mem _ (List.mem_append_left _ (List.mem_append_left _ (List.mem_append_right _ h)))) hE hP 0 rfl rfl 1 (by decide) (List.mem_of_getElem? (i := 1) rfl) rfl dX3_soundPath_70 ?_
          refine lv_aload_n hx hb dX3_soundPath_73 rfl (lv_at hl 3 rfl) ?_
          refine w_get (C := RX3) (T := TX3) (Nf := 8) (ci := 3) (v := .ref wc) S (fun _ h => List.mem_cons_of_mem _ (List.mem_append_left _ (List.mem_append_left _ (List.mem_append_right _ h)))) hE hP 0 rfl rfl 4 (by decide) (List.mem_of_getElem? (i := 3) rfl) rfl dX3_soundPath_74 ?_
          refine lv_iload_n hx hb dX3_soundPath_77 rfl (lv_at hl 4 rfl) ?_
          refine w_iald S hE hP 1 rfl (f) (by omega) (by omega) (by omega) dX3_soundPath_78 ?_
          refine w_iadd S dX3_soundPath_79 ?_
          refine lv_istore (lv' := [(5, .int (iI (tA + (ck f)))), (4, .int (iI ((bkN nb (thN nb tA f (g - f)) g (g - f))))), (3, .int (iI (thN nb tA f (g - f)))), (0, .ref w), (1, .int (iI (((f : Nat) : Int)))), (2, .int (iI (((g : Nat) : Int))))]) hx hb dX3_soundPath_80 hl (by decide) rfl (fun ls hl => ?_)
          refine lv_iload_n hx hb dX3_soundPath_82 rfl (lv_at hl 2 rfl) ?_
          refine lv_aload_n hx hb dX3_soundPath_83 rfl (lv_at hl 3 rfl) ?_
          refine w_get (C := RX3) (T := TX3) (Nf := 8) (ci := 3) (v := .ref wc) S (fun _ h => List.mem_cons_of_mem _ (List.mem_append_left _ (List.mem_append_left _ (List.mem_append_right _ h)))) hE hP 0 rfl rfl 4 (by decide) (List.mem_of_getElem? (i := 3) rfl) rfl dX3_soundPath_84 ?_
          refine lv_iload_n hx hb dX3_soundPath_87 rfl (lv_at hl 5 rfl) ?_
          refine w_iald S hE hP 1 rfl (g) (by omega) (by omega) (by omega) dX3_soundPath_88 ?_
          refine w_iadd S dX3_soundPath_89 ?_
          refine lv_istore (lv' := [(6, .int (iI ((thN nb tA f (g - f)) + (ck g)))), (5, .int (iI (tA + (ck f)))), (4, .int (iI ((bkN nb (thN nb tA f (g - f)) g (g - f))))), (3, .int (iI (thN nb tA f (g - f)))), (0, .ref w), (1, .int (iI (((f : Nat) : Int)))), (2, .int (iI (((g : Nat) : Int))))]) hx hb dX3_soundPath_90 hl (by decide) rfl (fun ls hl => ?_)
          refine lv_iload hx hb dX3_soundPath_92 (lv_at hl 2 rfl) ?_
          refine lv_aload_n hx hb dX3_soundPath_94 rfl (lv_at hl 4 rfl) ?_
          refine w_get (C := RX3) (T := TX3) (Nf := 8) (ci := 3) (v := .ref wc) S (fun _ h => List.mem_cons_of_mem _ (List.mem_append_left _ (List.mem_append_left _ (List.mem_append_right _ h)))) hE hP 0 rfl rfl 4 (by decide) (List.mem_of_getElem? (i := 3) rfl) rfl dX3_soundPath_95 ?_
          refine lv_iload_n hx hb dX3_soundPath_98 rfl (lv_at hl 5 rfl) ?_
          refine w_iald S hE hP 1 rfl (f) (by omega) (by omega) (by omega) dX3_soundPath_99 ?_
          refine w_iadd S dX3_soundPath_100 ?_
          refine lv_istore (lv' := [(7, .int (iI ((bkN nb (thN nb tA f (g - f)) g (g - f)) + (ck f)))), (6, .int (iI ((thN nb tA f (g - f)) + (ck g)))), (5, .int (iI (tA + (ck f)))), (4, .int (iI ((bkN nb (thN nb tA f (g - f)) g (g - f))))), (3, .int (iI (thN nb tA f (g - f)))), (0, .ref w), (1, .int (iI (((f : Nat) : Int)))), (2, .int (iI (((g : Nat) : Int))))]) hx hb dX3_soundPath_101 hl (by decide) rfl (fun ls hl => ?_)
          refine lv_iload_n hx hb dX3_soundPath_103 rfl (lv_at hl 7 rfl) ?_
          refine lv_iload_n hx hb dX3_soundPath_104 rfl (lv_at hl 6 rfl) ?_
          refine w_isub S dX3_soundPath_105 ?_
          refine lv_istore (lv' := [(8, .int (iI (((g : Nat) : Int) - ((f : Nat) : Int)))), (7, .int (iI ((bkN nb (thN nb tA f (g - f)) g (g - f)) + (ck f)))), (6, .int (iI ((thN nb tA f (g - f)) + (ck g)))), (5, .int (iI (tA + (ck f)))), (4, .int (iI ((bkN nb (thN nb tA f (g - f)) g (g - f))))), (3, .int (iI (thN nb tA f (g - f)))), (0, .ref w), (1, .int (iI (((f : Nat) : Int)))), (2, .int (iI (((g : Nat) : Int))))]) hx hb dX3_soundPath_106 hl (by decide) rfl (fun ls hl => ?_)
          refine lv_aload_n hx hb dX3_soundPath_108 rfl (lv_at hl 6 rfl) ?_
          refine w_get (C := RX3) (T := TX3) (Nf := 8) (ci := 3) (v := .ref b) S (fun _ h => List.mem_cons_of_mem _ (List.mem_append_left _ (List.mem_append_left _ (List.mem_append_right _ h)))) hE hP 0 rfl rfl 7 (by decide) (List.mem_of_getElem? (i := 4) rfl) rfl dX3_soundPath_109 ?_
          refine lv_iload_n hx hb dX3_soundPath_112 rfl (lv_at hl 7 rfl) ?_
          refine lv_iload_n hx hb dX3_soundPath_113 rfl (lv_at hl 8 rfl) ?_
          refine lv_iload hx hb dX3_soundPath_114 (lv_at hl 2 rfl) ?_
          refine lv_iload hx hb dX3_soundPath_116 (lv_at hl 3 rfl) ?_
          refine w_isub S dX3_soundPath_118 ?_
          refine lv_iload hx hb dX3_soundPath_119 (lv_at hl 0 rfl) ?_
          refine w_isub S dX3_soundPath_121 ?_
          refine lv_iload hx hb dX3_soundPath_122 (lv_at hl 2 rfl) ?_
          refine lv_iload hx hb dX3_soundPath_124 (lv_at hl 1 rfl) ?_
          refine w_isub S dX3_soundPath_126 ?_
          refine lv_iload hx hb dX3_soundPath_127 (lv_at hl 0 rfl) ?_
          refine w_iadd S dX3_soundPath_129 ?_
          refine kV_M (n := 4) (ci := 0) (q := (RX0, TX0, 2)) S (c_narrow lc D cI cZ N b bm br mo re f g ((((thN nb tA f (g - f)) + (ck g)) - (tA + (ck f))) - (((g : Nat) : Int) - ((f : Nat) : Int))) ((((thN nb tA f (g - f)) + (ck g)) - ((bkN nb (thN nb tA f (g - f)) g (g - f)) + (ck f))) + (((g : Nat) : Int) - ((f : Nat) : Int))) (by omega) (by omega) (by omega) (by omega) (by omega)) gX3_soundPath_X0_narrow rfl rfl (by decide +kernel) rfl rfl ⟨Nat.le_trans (Nat.le_of_ble_eq_true rfl) hfr, Nat.le_trans (Nat.le_of_ble_eq_true rfl) hlo⟩ hE hAN hP hD hS [7, 8, 9] rfl (by decide) rfl rfl rfl rfl rfl hl.1 [] rfl (Nat.le_of_ble_eq_true rfl) dX3_soundPath_130 ⟨Nat.zero_le _, Nat.zero_le _⟩ (fun H locs hP hD hS => ?_)
          have hP : va_P D vwCl [(w, .inr (3, [.int (iI (((mn : Nat) : Int))), .int (iI (tA)), .int (iI (sA)), .int (iI (kA)), .ref wc, .ref k, .ref t, .ref b])), (wc, .inl (cI, 5, .inl (vI ck))), (k, .inr (1, [.ref kn])), (kn, .inl (cI, 24, .inl (vI nb))), (t, .inr (2, [.ref tc, .ref ts])), (tc, .inl (cI, 1000, .inl (vI cn))), (ts, .inl (cI, 1000, .inl (vI sm))), (b, .inr (0, [.ref bm, .ref br])), (bm, .inl (cI, 25, .inl (vI (nrw mo f g ((((thN nb tA f (g - f)) + (ck g)) - (tA + (ck f))) - (((g : Nat) : Int) - ((f : Nat) : Int))) ((((thN nb tA f (g - f)) + (ck g)) - ((bkN nb (thN nb tA f (g - f)) g (g - f)) + (ck f))) + (((g : Nat) : Int) - ((f : Nat) : Int))))))), (br, .inl (cI, 5, .inl (vI re)))] H := hP
          have hD : va_D A [(w, .inr (3, [.int (iI (((mn : Nat) : Int))), .int (iI (tA)), .int (iI (sA)), .int (iI (kA)), .ref wc, .ref k, .ref t, .ref b])), (wc, .inl (cI, 5, .inl (vI ck))), (k, .inr (1, [.ref kn])), (kn, .inl (cI, 24, .inl (vI nb))), (t, .inr (2, [.ref tc, .ref ts])), (tc, .inl (cI, 1000, .inl (vI cn))), (ts, .inl (cI, 1000, .inl (vI sm))), (b, .inr (0, [.ref bm, .ref br])), (bm, .inl (cI, 25, .inl (vI (nrw mo f g ((((thN nb tA f (g - f)) + (ck g)) - (tA + (ck f))) - (((g : Nat) : Int) - ((f : Nat) : Int))) ((((thN nb tA f (g - f)) + (ck g)) - ((bkN nb (thN nb tA f (g - f)) g (g - f)) + (ck f))) + (((g : Nat) : Int) - ((f : Nat) : Int))))))), (br, .inl (cI, 5, .inl (vI re)))] := hD
          refine W.eq (g2 := F0 m 133 ls []) rfl ?_
          refine lv_iload hx hb dX3_soundPath_133 (lv_at hl 4 rfl) ?_
          refine lv_aload_n hx hb dX3_soundPath_135 rfl (lv_at hl 6 rfl) ?_
          refine w_get (C := RX3) (T := TX3) (Nf := 8) (ci := 3) (v := .int (iI (tA))) S (fun _ h => List.mem_cons_of_mem _ (List.mem_append_left _ (List.mem_append_left _ (List.mem_append_right _ h)))) hE hP 0 rfl rfl 1 (by decide) (List.mem_of_getElem? (i := 1) rfl) rfl dX3_soundPath_136 ?_
          refine w_isub S dX3_soundPath_139 ?_
          refine lv_istore (lv' := [(9, .int (iI ((bkN nb (thN nb tA f (g - f)) g (g - f)) - tA))), (8, .int (iI (((g : Nat) : Int) - ((f : Nat) : Int)))), (7, .int (iI ((bkN nb (thN nb tA f (g - f)) g (g - f)) + (ck f)))), (6, .int (iI ((thN nb tA f (g - f)) + (ck g)))), (5, .int (iI (tA + (ck f)))), (4, .int (iI ((bkN nb (thN nb tA f (g - f)) g (g - f))))), (3, .int (iI (thN nb tA f (g - f)))), (0, .ref w), (1, .int (iI (((f : Nat) : Int)))), (2, .int (iI (((g : Nat) : Int))))]) hx hb dX3_soundPath_140 hl (by decide) rfl (fun ls hl => ?_)
          refine lv_aload_n hx hb dX3_soundPath_142 rfl (lv_at hl 7 rfl) ?_
          refine lv_dup hx hb dX3_soundPath_143 rfl ?_
          refine w_get (C := RX3) (T := TX3) (Nf := 8) (ci := 3) (v := .int (iI (tA))) S (fun _ h => List.mem_cons_of_mem _ (List.mem_append_left _ (List.mem_append_left _ (List.mem_append_right _ h)))) hE hP 0 rfl rfl 1 (by decide) (List.mem_of_getElem? (i := 1) rfl) rfl dX3_soundPath_144 ?_
          refine lv_iconst (v := iI (1)) hx hb dX3_soundPath_147 rfl ?_
          refine w_iadd S dX3_soundPath_148 ?_
          refine w_put (C := RX3) (T := TX3) (Nf := 8) (ci := 3) S (fun _ h => List.mem_cons_of_mem _ (List.mem_append_left _ (List.mem_append_left _ (List.mem_append_right _ h)))) tyX3 tyX3_ok nmX3 hE hP hD hS 0 rfl rfl 1 (by decide) (List.mem_of_getElem? (i := 1) rfl) rfl rfl (Nat.le_of_ble_eq_true rfl) dX3_soundPath_149 (fun H locs hP hD hS => ?_)
          have hP : va_P D vwCl [(w, .inr (3, [.int (iI (((mn : Nat) : Int))), .int (iI (tA + 1)), .int (iI (sA)), .int (iI (kA)), .ref wc, .ref k, .ref t, .ref b])), (wc, .inl (cI, 5, .inl (vI ck))), (k, .inr (1, [.ref kn])), (kn, .inl (cI, 24, .inl (vI nb))), (t, .inr (2, [.ref tc, .ref ts])), (tc, .inl (cI, 1000, .inl (vI cn))), (ts, .inl (cI, 1000, .inl (vI sm))), (b, .inr (0, [.ref bm, .ref br])), (bm, .inl (cI, 25, .inl (vI (nrw mo f g ((((thN nb tA f (g - f)) + (ck g)) - (tA + (ck f))) - (((g : Nat) : Int) - ((f : Nat) : Int))) ((((thN nb tA f (g - f)) + (ck g)) - ((bkN nb (thN nb tA f (g - f)) g (g - f)) + (ck f))) + (((g : Nat) : Int) - ((f : Nat) : Int))))))), (br, .inl (cI, 5, .inl (vI re)))] H := hP
          have hD : va_D A [(w, .inr (3, [.int (iI (((mn : Nat) : Int))), .int (iI (tA + 1)), .int (iI (sA)), .int (iI (kA)), .ref wc, .ref k, .ref t, .ref b])), (wc, .inl (cI, 5, .inl (vI ck))), (k, .inr (1, [.ref kn])), (kn, .inl (cI, 24, .inl (vI nb))), (t, .inr (2, [.ref tc, .ref ts])), (tc, .inl (cI, 1000, .inl (vI cn))), (ts, .inl (cI, 1000, .inl (vI sm))), (b, .inr (0, [.ref bm, .ref br])), (bm, .inl (cI, 25, .inl (vI (nrw mo f g ((((thN nb tA f (g - f)) + (ck g)) - (tA + (ck f))) - (((g : Nat) : Int) - ((f : Nat) : Int))) ((((thN nb tA f (g - f)) + (ck g)) - ((bkN nb (thN nb tA f (g - f)) g (g - f)) + (ck f))) + (((g : Nat) : Int) - ((f : Nat) : Int))))))), (br, .inl (cI, 5, .inl (vI re)))] := hD
          refine lv_iload hx hb dX3_soundPath_152 (lv_at hl 0 rfl) ?_
          exact hret _ _ _ _ _ dX3_soundPath_154 rfl hP hS
        | succ q ih4 =>
          intro j  hm  H locs ls hP hD hS hl
          refine lv_iload hx hb dX3_soundPath_41 (lv_at hl 0 rfl) ?_
          refine lv_iload_n hx hb dX3_soundPath_43 rfl (lv_at hl 4 rfl) ?_
          refine c_ltF (tgt := 69) S dX3_soundPath_44 (by decide) (by omega) (by omega) (by omega) ?_
          have h5 : ((g : Nat) : Int) - 1 - ((j : Nat) : Int) = ((g - 1 - j : Nat) : Int) := by omega
          rw [h5] at hl
          have g3 := thN_rng (f := f) hta.1 hnb (g - f) (by omega)
          have g1 := bkN_rng (g := g) (by omega) g3.1 hnb j (by omega)
          have g2 := tkB_rng (l := g - 1 - j) (by omega) g1.1 hnb
          refine lv_iload hx hb dX3_soundPath_47 (lv_at hl 1 rfl) ?_
          refine lv_aload_n hx hb dX3_soundPath_49 rfl (lv_at hl 3 rfl) ?_
          refine w_get (C := RX3) (T := TX3) (Nf := 8) (ci := 3) (v := .ref k) S (fun _ h => List.mem_cons_of_mem _ (List.mem_append_left _ (List.mem_append_left _ (List.mem_append_right _ h)))) hE hP 0 rfl rfl 5 (by decide) (List.mem_of_getElem? (i := 2) rfl) rfl dX3_soundPath_50 ?_
          refine lv_iload hx hb dX3_soundPath_53 (lv_at hl 0 rfl) ?_
          refine lv_iload hx hb dX3_soundPath_55 (lv_at hl 1 rfl) ?_
          refine kV_R (n := 2) (ci := 1) (q := (RX1, TX1, 1)) S (c_ticksBack lc D cI cZ N k kn nb (g - 1 - j) (bkN nb (thN nb tA f (g - f)) g j) (by omega) (by omega) (by omega)) gX3_soundPath_X1_ticksBack rfl rfl (by decide +kernel) rfl rfl ⟨Nat.le_trans (Nat.le_of_ble_eq_true rfl) hfr, Nat.le_trans (Nat.le_of_ble_eq_true rfl) hlo⟩ hE hAN hP hD hS [2, 3] rfl (by decide) rfl rfl rfl rfl hl.1 [.int (iI (bkN nb (thN nb tA f (g - f)) g j))] rfl (Nat.le_of_ble_eq_true rfl) dX3_soundPath_57 ⟨Nat.zero_le _, Nat.zero_le _⟩ ?_
          refine W.eq (g2 := F0 m 60 ls [.int (iI (tkB nb (g - 1 - j) (bkN nb (thN nb tA f (g - f)) g j))), .int (iI (bkN nb (thN nb tA f (g - f)) g j))]) rfl ?_
          refine w_iadd S dX3_soundPath_60 ?_
          refine lv_istore (lv' := [(4, .int (iI ((bkN nb (thN nb tA f (g - f)) g j) + (tkB nb (g - 1 - j) (bkN nb (thN nb tA f (g - f)) g j))))), (5, .int (iI (((g - 1 - j : Nat) : Int)))), (3, .int (iI (thN nb tA f (g - f)))), (0, .ref w), (1, .int (iI (((f : Nat) : Int)))), (2, .int (iI (((g : Nat) : Int))))]) hx hb dX3_soundPath_61 hl (by decide) rfl (fun ls hl => ?_)
          refine w_iinc (v := ((g - 1 - j : Nat) : Int) + (-1)) (lv' := [(5, .int (iI (((g - 1 - j : Nat) : Int) + (-1)))), (4, .int (iI ((bkN nb (thN nb tA f (g - f)) g j) + (tkB nb (g - 1 - j) (bkN nb (thN nb tA f (g - f)) g j))))), (3, .int (iI (thN nb tA f (g - f)))), (0, .ref w), (1, .int (iI (((f : Nat) : Int)))), (2, .int (iI (((g : Nat) : Int))))]) S dX3_soundPath_63 hl (k := 1) rfl (by omega) (by decide) rfl (fun ls hl => ?_)
          refine lv_goto (tgt := 41) hx hb dX3_soundPath_66 (by decide) ?_
          have hloc : (((g - 1 - j : Nat) : Int) + (-1) : Int) = ((g : Nat) : Int) - 1 - ((j + 1 : Nat) : Int) := (by omega)
          rw [hloc] at hl
          have hloc : ((bkN nb (thN nb tA f (g - f)) g j) + (tkB nb (g - 1 - j) (bkN nb (thN nb tA f (g - f)) g j)) : Int) = bkN nb (thN nb tA f (g - f)) g (j + 1) := rfl
          rw [hloc] at hl
          exact ih4 (j + 1)  (by omega)  _ _ _ hP hD hS (lv_sub hl [0, 1, 2, 3, 4, 5] rfl)
      have hloc : (((g : Nat) : Int) - 1 : Int) = ((g : Nat) : Int) - 1 - ((0 : Nat) : Int) := (by omega)
      rw [hloc] at hl
      have hloc : (thN nb tA f (g - f) : Int) = bkN nb (thN nb tA f (g - f)) g 0 := rfl
      rw [hloc] at hl
      exact loop4 (g - f) 0  (by omega)  _ _ _ hP hD hS (lv_sub hl [0, 1, 2, 3, 4, 5] rfl)
    | succ q ih3 =>
      intro j  hm  H locs ls hP hD hS hl
      refine lv_iload hx hb dX3_soundPath_8 (lv_at hl 0 rfl) ?_
      refine lv_iload_n hx hb dX3_soundPath_10 rfl (lv_at hl 4 rfl) ?_
      refine c_geF (tgt := 33) S dX3_soundPath_11 (by decide) (by omega) (by omega) (by omega) ?_
      have g1 := thN_rng (f := f) hta.1 hnb j (by omega)
      have g2 := tkT_rng (l := f + j) (by omega) g1.1 hnb
      refine lv_iload_n hx hb dX3_soundPath_14 rfl (lv_at hl 1 rfl) ?_
      refine lv_aload_n hx hb dX3_soundPath_15 rfl (lv_at hl 2 rfl) ?_
      refine w_get (C := RX3) (T := TX3) (Nf := 8) (ci := 3) (v := .ref k) S (fun _ h => List.mem_cons_of_mem _ (List.mem_append_left _ (List.mem_append_left _ (List.mem_append_right _ h)))) hE hP 0 rfl rfl 5 (by decide) (List.mem_of_getElem? (i := 2) rfl) rfl dX3_soundPath_16 ?_
      refine lv_iload hx hb dX3_soundPath_19 (lv_at hl 0 rfl) ?_
      refine lv_iload_n hx hb dX3_soundPath_21 rfl (lv_at hl 1 rfl) ?_
      refine kV_R (n := 2) (ci := 1) (q := (RX1, TX1, 1)) S (c_ticksThere lc D cI cZ N k kn nb (f + j) (thN nb tA f j) (by omega) (by omega) (by omega)) gX3_soundPath_X1_ticksThere rfl rfl (by decide +kernel) rfl rfl ⟨Nat.le_trans (Nat.le_of_ble_eq_true rfl) hfr, Nat.le_trans (Nat.le_of_ble_eq_true rfl) hlo⟩ hE hAN hP hD hS [2, 3] rfl (by decide) rfl rfl rfl rfl hl.1 [.int (iI (thN nb tA f j))] rfl (Nat.le_of_ble_eq_true rfl) dX3_soundPath_22 ⟨Nat.zero_le _, Nat.zero_le _⟩ ?_
      refine W.eq (g2 := F0 m 25 ls [.int (iI (tkT nb (f + j) (thN nb tA f j))), .int (iI (thN nb tA f j))]) rfl ?_
      refine w_iadd S dX3_soundPath_25 ?_
      refine lv_istore_n (lv' := [(3, .int (iI ((thN nb tA f j) + (tkT nb (f + j) (thN nb tA f j))))), (4, .int (iI (((f + j : Nat) : Int)))), (0, .ref w), (1, .int (iI (((f : Nat) : Int)))), (2, .int (iI (((g : Nat) : Int))))]) hx hb dX3_soundPath_26 rfl hl (by decide) rfl (fun ls hl => ?_)
      refine w_iinc (v := (((f + j) + 1 : Nat) : Int)) (lv' := [(4, .int (iI ((((f + j) + 1 : Nat) : Int)))), (3, .int (iI ((thN nb tA f j) + (tkT nb (f + j) (thN nb tA f j))))), (0, .ref w), (1, .int (iI (((f : Nat) : Int)))), (2, .int (iI (((g : Nat) : Int))))]) S dX3_soundPath_27 hl (k := 1) rfl (by omega) (by decide) rfl (fun ls hl => ?_)
      refine lv_goto (tgt := 8) hx hb dX3_soundPath_30 (by decide) ?_
      have hloc : ((((f + j) + 1 : Nat) : Int) : Int) = ((f + (j + 1) : Nat) : Int) := (by omega)
      rw [hloc] at hl
      have hloc : ((thN nb tA f j) + (tkT nb (f + j) (thN nb tA f j)) : Int) = thN nb tA f (j + 1) := rfl
      rw [hloc] at hl
      exact ih3 (j + 1)  (by omega)  _ _ _ hP hD hS (lv_sub hl [0, 1, 2, 3, 4] rfl)
  have hloc : (((f : Nat) : Int) : Int) = ((f + 0 : Nat) : Int) := (by omega)
  rw [hloc] at hl
  have hloc : (tA : Int) = thN nb tA f 0 := rfl
  rw [hloc] at hl
  exact loop3 (g - f) 0  (by omega)  _ _ _ hP hD hS (lv_sub hl [0, 1, 2, 3, 4] rfl)
set_option maxHeartbeats 4000000 in
set_option maxRecDepth 100000 in
theorem c_firstBlock_S (lc : Launch) (D : va_G) (cI cZ : ClassId) (N : Nat) (w : Nat) (wc : Nat) (k : Nat) (kn : Nat) (t : Nat) (tc : Nat) (ts : Nat) (b : Nat) (bm : Nat) (br : Nat) (mn : Nat) (tA : Int) (sA : Int) (kA : Int) (ck : Nat → Int) (nb : Nat → Int) (cn : Nat → Int) (sm : Nat → Int) (mo : Nat → Int) (re : Nat → Int) (lim : Int) (B : Nat) (hmn : 2 ≤ mn ∧ mn ≤ 5) (hcn : ∀ k, k < 1000 → 0 ≤ cn k ∧ cn k ≤ 200) (hlim : 0 ≤ lim ∧ lim ≤ 20) (hB : B < 200) (h1 : ∀ i, i < B → cn (0 * 200 + i) - cn ((mn - 1) * 200 + i) ≤ lim) (h2 : lim < cn (0 * 200 + B) - cn ((mn - 1) * 200 + B)) : CR lc D cI cZ N yX3_firstBlockAbove wsX3_firstBlockAbove (rmK 3 66) [.ref w, .int (iI (lim))] [(w, .inr (3, [.int (iI (((mn : Nat) : Int))), .int (iI (tA)), .int (iI (sA)), .int (iI (kA)), .ref wc, .ref k, .ref t, .ref b])), (wc, .inl (cI, 5, .inl (vI ck))), (k, .inr (1, [.ref kn])), (kn, .inl (cI, 24, .inl (vI nb))), (t, .inr (2, [.ref tc, .ref ts])), (tc, .inl (cI, 1000, .inl (vI cn))), (ts, .inl (cI, 1000, .inl (vI sm))), (b, .inr (0, [.ref bm, .ref br])), (bm, .inl (cI, 25, .inl (vI mo))), (br, .inl (cI, 5, .inl (vI re)))] (some (.int (iI (((B : Nat) : Int))))) := by
  refine CR.I (cc := cX3_firstBlockAbove) (maxL := 3) (by decide) rfl (Nat.le_of_ble_eq_true rfl) ?_
  intro p e s m args below meth c R Q S hE A hAN hfr hlo hP hD hS hret ls hl
  have S : CallFix p m c cX3_firstBlockAbove 3 s args wsX3_firstBlockAbove RX3 := S
  have hx := S.1
  have hb := S.2.1
  have hl : lv_has ls 3 [(0, .ref w), (1, .int (iI (lim)))] := hl
  refine lv_iconst (v := iI (0)) hx hb dX3_firstBlockAbove_0 rfl ?_
  refine lv_istore_n (lv' := [(2, .int (iI (0))), (0, .ref w), (1, .int (iI (lim)))]) hx hb dX3_firstBlockAbove_1 rfl hl (by decide) rfl (fun ls hl => ?_)
  have loop5 : ∀ (q i : Nat) , i + q = B → ∀ (ls : Array Slot), lv_has ls 3 [(2, .int (iI (((i : Nat) : Int)))), (0, .ref w), (1, .int (iI (lim)))] → W p lc e R s m args below meth c s.heap [] 0 0 Q (F0 m 2 ls []) := by
    intro q
    induction q with
    | zero =>
      intro i  hm  ls hl
      have hi : i = B := by omega
      subst hi
      have r1 := hcn (0 * 200 + i) (by omega)
      have r2 := hcn ((mn - 1) * 200 + i) (by omega)
      refine lv_iload_n hx hb dX3_firstBlockAbove_2 rfl (lv_at hl 0 rfl) ?_
      refine lv_sipush (v := iI (200)) hx hb dX3_firstBlockAbove_3 (by decide) ?_
      refine c_geF (tgt := 36) S dX3_firstBlockAbove_6 (by decide) (by omega) (by omega) (by omega) ?_
      refine lv_aload_n hx hb dX3_firstBlockAbove_9 rfl (lv_at hl 1 rfl) ?_
      refine w_get (C := RX3) (T := TX3) (Nf := 8) (ci := 3) (v := .ref t) S (fun _ h => List.mem_cons_of_mem _ (List.mem_append_left _ (List.mem_append_right _ h))) hE hP 0 rfl rfl 6 (by decide) (List.mem_of_getElem? (i := 1) rfl) rfl dX3_firstBlockAbove_10 ?_
      refine lv_iconst (v := iI (0)) hx hb dX3_firstBlockAbove_13 rfl ?_
      refine lv_aload_n hx hb dX3_firstBlockAbove_14 rfl (lv_at hl 1 rfl) ?_
      refine w_get (C := RX3) (T := TX3) (Nf := 8) (ci := 3) (v := .int (iI (((mn : Nat) : Int)))) S (fun _ h => List.mem_cons_of_mem _ (List.mem_append_left _ (List.mem_append_right _ h))) hE hP 0 rfl rfl 0 (by decide) (List.mem_of_getElem? (i := 2) rfl) rfl dX3_firstBlockAbove_15 ?_
      refine lv_iconst (v := iI (1)) hx hb dX3_firstBlockAbove_18 rfl ?_
      refine w_isub S dX3_firstBlockAbove_19 ?_
      refine w_tz (z := ((mn - 1 : Nat) : Int)) (by omega) ?_
      refine lv_iload_n hx hb dX3_firstBlockAbove_20 rfl (lv_at hl 0 rfl) ?_
      refine kV_R (n := 3) (ci := 2) (q := (RX2, TX2, 2)) S (c_lostBetween lc D cI cZ N t tc ts cn sm 0 (mn - 1) i (by omega) (by omega) (by omega)) gX3_firstBlockAbove_X2_lostBetween rfl rfl (by decide +kernel) rfl rfl ⟨Nat.le_trans (Nat.le_of_ble_eq_true rfl) hfr, Nat.le_trans (Nat.le_of_ble_eq_true rfl) hlo⟩ hE hAN hP hD hS [4, 5, 6] rfl (by decide) rfl rfl rfl rfl hl.1 [] rfl (Nat.le_of_ble_eq_true rfl) dX3_firstBlockAbove_21 ⟨Nat.zero_le _, Nat.zero_le _⟩ ?_
      refine W.eq (g2 := F0 m 24 ls [.int (iI (cn (0 * 200 + i) - cn ((mn - 1) * 200 + i)))]) rfl ?_
      refine lv_iload_n hx hb dX3_firstBlockAbove_24 rfl (lv_at hl 2 rfl) ?_
      refine c_leF (tgt := 30) S dX3_firstBlockAbove_25 (by decide) (by omega) (by omega) (by omega) ?_
      refine lv_iload_n hx hb dX3_firstBlockAbove_28 rfl (lv_at hl 0 rfl) ?_
      exact hret _ _ _ dX3_firstBlockAbove_29 (congrArg iI (by omega))
    | succ q ih5 =>
      intro i  hm  ls hl
      have r1 := hcn (0 * 200 + i) (by omega)
      have r2 := hcn ((mn - 1) * 200 + i) (by omega)
      have r3 := h1 i (by omega)
      refine lv_iload_n hx hb dX3_firstBlockAbove_2 rfl (lv_at hl 0 rfl) ?_
      refine lv_sipush (v := iI (200)) hx hb dX3_firstBlockAbove_3 (by decide) ?_
      refine c_geF (tgt := 36) S dX3_firstBlockAbove_6 (by decide) (by omega) (by omega) (by omega) ?_
      refine lv_aload_n hx hb dX3_firstBlockAbove_9 rfl (lv_at hl 1 rfl) ?_
      refine w_get (C := RX3) (T := TX3) (Nf := 8) (ci := 3) (v := .ref t) S (fun _ h => List.mem_cons_of_mem _ (List.mem_append_left _ (List.mem_append_right _ h))) hE hP 0 rfl rfl 6 (by decide) (List.mem_of_getElem? (i := 1) rfl) rfl dX3_firstBlockAbove_10 ?_
      refine lv_iconst (v := iI (0)) hx hb dX3_firstBlockAbove_13 rfl ?_
      refine lv_aload_n hx hb dX3_firstBlockAbove_14 rfl (lv_at hl 1 rfl) ?_
      refine w_get (C := RX3) (T := TX3) (Nf := 8) (ci := 3) (v := .int (iI (((mn : Nat) : Int)))) S (fun _ h => List.mem_cons_of_mem _ (List.mem_append_left _ (List.mem_append_right _ h))) hE hP 0 rfl rfl 0 (by decide) (List.mem_of_getElem? (i := 2) rfl) rfl dX3_firstBlockAbove_15 ?_
      refine lv_iconst (v := iI (1)) hx hb dX3_firstBlockAbove_18 rfl ?_
      refine w_isub S dX3_firstBlockAbove_19 ?_
      refine w_tz (z := ((mn - 1 : Nat) : Int)) (by omega) ?_
      refine lv_iload_n hx hb dX3_firstBlockAbove_20 rfl (lv_at hl 0 rfl) ?_
      refine kV_R (n := 3) (ci := 2) (q := (RX2, TX2, 2)) S (c_lostBetween lc D cI cZ N t tc ts cn sm 0 (mn - 1) i (by omega) (by omega) (by omega)) gX3_firstBlockAbove_X2_lostBetween rfl rfl (by decide +kernel) rfl rfl ⟨Nat.le_trans (Nat.le_of_ble_eq_true rfl) hfr, Nat.le_trans (Nat.le_of_ble_eq_true rfl) hlo⟩ hE hAN hP hD hS [4, 5, 6] rfl (by decide) rfl rfl rfl rfl hl.1 [] rfl (Nat.le_of_ble_eq_true rfl) dX3_firstBlockAbove_21 ⟨Nat.zero_le _, Nat.zero_le _⟩ ?_
      refine W.eq (g2 := F0 m 24 ls [.int (iI (cn (0 * 200 + i) - cn ((mn - 1) * 200 + i)))]) rfl ?_
      refine lv_iload_n hx hb dX3_firstBlockAbove_24 rfl (lv_at hl 2 rfl) ?_
      refine c_leT (tgt := 30) S dX3_firstBlockAbove_25 (by decide) (by omega) (by omega) (by omega) ?_
      refine w_iinc (v := ((i + 1 : Nat) : Int)) (lv' := [(2, .int (iI (((i + 1 : Nat) : Int)))), (0, .ref w), (1, .int (iI (lim)))]) S dX3_firstBlockAbove_30 hl (k := 0) rfl (by omega) (by decide) rfl (fun ls hl => ?_)
      refine lv_goto (tgt := 2) hx hb dX3_firstBlockAbove_33 (by decide) ?_
      exact ih5 (i + 1)  (by omega)  _ (lv_sub hl [0, 1, 2] rfl)
  exact loop5 B 0  (by omega)  _ (lv_sub hl [0, 1, 2] rfl)
set_option maxHeartbeats 4000000 in
set_option maxRecDepth 100000 in
theorem c_firstBlock_N (lc : Launch) (D : va_G) (cI cZ : ClassId) (N : Nat) (w : Nat) (wc : Nat) (k : Nat) (kn : Nat) (t : Nat) (tc : Nat) (ts : Nat) (b : Nat) (bm : Nat) (br : Nat) (mn : Nat) (tA : Int) (sA : Int) (kA : Int) (ck : Nat → Int) (nb : Nat → Int) (cn : Nat → Int) (sm : Nat → Int) (mo : Nat → Int) (re : Nat → Int) (lim : Int) (hmn : 2 ≤ mn ∧ mn ≤ 5) (hcn : ∀ k, k < 1000 → 0 ≤ cn k ∧ cn k ≤ 200) (hlim : 0 ≤ lim ∧ lim ≤ 20) (h1 : ∀ i, i < 200 → cn (0 * 200 + i) - cn ((mn - 1) * 200 + i) ≤ lim) : CR lc D cI cZ N yX3_firstBlockAbove wsX3_firstBlockAbove (rmK 3 66) [.ref w, .int (iI (lim))] [(w, .inr (3, [.int (iI (((mn : Nat) : Int))), .int (iI (tA)), .int (iI (sA)), .int (iI (kA)), .ref wc, .ref k, .ref t, .ref b])), (wc, .inl (cI, 5, .inl (vI ck))), (k, .inr (1, [.ref kn])), (kn, .inl (cI, 24, .inl (vI nb))), (t, .inr (2, [.ref tc, .ref ts])), (tc, .inl (cI, 1000, .inl (vI cn))), (ts, .inl (cI, 1000, .inl (vI sm))), (b, .inr (0, [.ref bm, .ref br])), (bm, .inl (cI, 25, .inl (vI mo))), (br, .inl (cI, 5, .inl (vI re)))] (some (.int (iI (200)))) := by
  refine CR.I (cc := cX3_firstBlockAbove) (maxL := 3) (by decide) rfl (Nat.le_of_ble_eq_true rfl) ?_
  intro p e s m args below meth c R Q S hE A hAN hfr hlo hP hD hS hret ls hl
  have S : CallFix p m c cX3_firstBlockAbove 3 s args wsX3_firstBlockAbove RX3 := S
  have hx := S.1
  have hb := S.2.1
  have hl : lv_has ls 3 [(0, .ref w), (1, .int (iI (lim)))] := hl
  refine lv_iconst (v := iI (0)) hx hb dX3_firstBlockAbove_0 rfl ?_
  refine lv_istore_n (lv' := [(2, .int (iI (0))), (0, .ref w), (1, .int (iI (lim)))]) hx hb dX3_firstBlockAbove_1 rfl hl (by decide) rfl (fun ls hl => ?_)
  have loop6 : ∀ (q i : Nat) , i + q = 200 → ∀ (ls : Array Slot), lv_has ls 3 [(2, .int (iI (((i : Nat) : Int)))), (0, .ref w), (1, .int (iI (lim)))] → W p lc e R s m args below meth c s.heap [] 0 0 Q (F0 m 2 ls []) := by
    intro q
    induction q with
    | zero =>
      intro i  hm  ls hl
      refine lv_iload_n hx hb dX3_firstBlockAbove_2 rfl (lv_at hl 0 rfl) ?_
      refine lv_sipush (v := iI (200)) hx hb dX3_firstBlockAbove_3 (by decide) ?_
      refine c_geT (tgt := 36) S dX3_firstBlockAbove_6 (by decide) (by omega) (by omega) (by omega) ?_
      refine lv_sipush (v := iI (200)) hx hb dX3_firstBlockAbove_36 (by decide) ?_
      exact hret _ _ _ dX3_firstBlockAbove_39 rfl
    | succ q ih6 =>
      intro i  hm  ls hl
      have r1 := hcn (0 * 200 + i) (by omega)
      have r2 := hcn ((mn - 1) * 200 + i) (by omega)
      have r3 := h1 i (by omega)
      refine lv_iload_n hx hb dX3_firstBlockAbove_2 rfl (lv_at hl 0 rfl) ?_
      refine lv_sipush (v := iI (200)) hx hb dX3_firstBlockAbove_3 (by decide) ?_
      refine c_geF (tgt := 36) S dX3_firstBlockAbove_6 (by decide) (by omega) (by omega) (by omega) ?_
      refine lv_aload_n hx hb dX3_firstBlockAbove_9 rfl (lv_at hl 1 rfl) ?_
      refine w_get (C := RX3) (T := TX3) (Nf := 8) (ci := 3) (v := .ref t) S (fun _ h => List.mem_cons_of_mem _ (List.mem_append_left _ (List.mem_append_right _ h))) hE hP 0 rfl rfl 6 (by decide) (List.mem_of_getElem? (i := 1) rfl) rfl dX3_firstBlockAbove_10 ?_
      refine lv_iconst (v := iI (0)) hx hb dX3_firstBlockAbove_13 rfl ?_
      refine lv_aload_n hx hb dX3_firstBlockAbove_14 rfl (lv_at hl 1 rfl) ?_
      refine w_get (C := RX3) (T := TX3) (Nf := 8) (ci := 3) (v := .int (iI (((mn : Nat) : Int)))) S (fun _ h => List.mem_cons_of_mem _ (List.mem_append_left _ (List.mem_append_right _ h))) hE hP 0 rfl rfl 0 (by decide) (List.mem_of_getElem? (i := 2) rfl) rfl dX3_firstBlockAbove_15 ?_
      refine lv_iconst (v := iI (1)) hx hb dX3_firstBlockAbove_18 rfl ?_
      refine w_isub S dX3_firstBlockAbove_19 ?_
      refine w_tz (z := ((mn - 1 : Nat) : Int)) (by omega) ?_
      refine lv_iload_n hx hb dX3_firstBlockAbove_20 rfl (lv_at hl 0 rfl) ?_
      refine kV_R (n := 3) (ci := 2) (q := (RX2, TX2, 2)) S (c_lostBetween lc D cI cZ N t tc ts cn sm 0 (mn - 1) i (by omega) (by omega) (by omega)) gX3_firstBlockAbove_X2_lostBetween rfl rfl (by decide +kernel) rfl rfl ⟨Nat.le_trans (Nat.le_of_ble_eq_true rfl) hfr, Nat.le_trans (Nat.le_of_ble_eq_true rfl) hlo⟩ hE hAN hP hD hS [4, 5, 6] rfl (by decide) rfl rfl rfl rfl hl.1 [] rfl (Nat.le_of_ble_eq_true rfl) dX3_firstBlockAbove_21 ⟨Nat.zero_le _, Nat.zero_le _⟩ ?_
      refine W.eq (g2 := F0 m 24 ls [.int (iI (cn (0 * 200 + i) - cn ((mn - 1) * 200 + i)))]) rfl ?_
      refine lv_iload_n hx hb dX3_firstBlockAbove_24 rfl (lv_at hl 2 rfl) ?_
      refine c_leT (tgt := 30) S dX3_firstBlockAbove_25 (by decide) (by omega) (by omega) (by omega) ?_
      refine w_iinc (v := ((i + 1 : Nat) : Int)) (lv' := [(2, .int (iI (((i + 1 : Nat) : Int)))), (0, .ref w), (1, .int (iI (lim)))]) S dX3_firstBlockAbove_30 hl (k := 0) rfl (by omega) (by decide) rfl (fun ls hl => ?_)
      refine lv_goto (tgt := 2) hx hb dX3_firstBlockAbove_33 (by decide) ?_
      exact ih6 (i + 1)  (by omega)  _ (lv_sub hl [0, 1, 2] rfl)
  exact loop6 200 0  (by omega)  _ (lv_sub hl [0, 1, 2] rfl)
set_option maxHeartbeats 4000000 in
set_option maxRecDepth 100000 in
theorem c_firstLink (lc : Launch) (D : va_G) (cI cZ : ClassId) (N : Nat) (w : Nat) (wc : Nat) (k : Nat) (kn : Nat) (t : Nat) (tc : Nat) (ts : Nat) (b : Nat) (bm : Nat) (br : Nat) (mn : Nat) (tA : Int) (sA : Int) (kA : Int) (ck : Nat → Int) (nb : Nat → Int) (cn : Nat → Int) (sm : Nat → Int) (mo : Nat → Int) (re : Nat → Int) (bb : Nat) (J : Nat) (hmn : 2 ≤ mn ∧ mn ≤ 5) (hcn : ∀ k, k < 1000 → 0 ≤ cn k ∧ cn k ≤ 200) (hbb : bb < 200) (hJ : J ≤ mn - 2) (h1 : ∀ i, i < J → cn (i * 200 + bb) - cn ((i + 1) * 200 + bb) ≤ 0) (h2 : J < mn - 2 → 0 < cn (J * 200 + bb) - cn ((J + 1) * 200 + bb)) : CR lc D cI cZ N yX3_firstLinkThatLost wsX3_firstLinkThatLost (rmK 3 66) [.ref w, .int (iI (((bb : Nat) : Int)))] [(w, .inr (3, [.int (iI (((mn : Nat) : Int))), .int (iI (tA)), .int (iI (sA)), .int (iI (kA)), .ref wc, .ref k, .ref t, .ref b])), (wc, .inl (cI, 5, .inl (vI ck))), (k, .inr (1, [.ref kn])), (kn, .inl (cI, 24, .inl (vI nb))), (t, .inr (2, [.ref tc, .ref ts])), (tc, .inl (cI, 1000, .inl (vI cn))), (ts, .inl (cI, 1000, .inl (vI sm))), (b, .inr (0, [.ref bm, .ref br])), (bm, .inl (cI, 25, .inl (vI mo))), (br, .inl (cI, 5, .inl (vI re)))] (some (.int (iI (((J : Nat) : Int))))) := by
  refine CR.I (cc := cX3_firstLinkThatLost) (maxL := 3) (by decide) rfl (Nat.le_of_ble_eq_true rfl) ?_
  intro p e s m args below meth c R Q S hE A hAN hfr hlo hP hD hS hret ls hl
  have S : CallFix p m c cX3_firstLinkThatLost 3 s args wsX3_firstLinkThatLost RX3 := S
  have hx := S.1
  have hb := S.2.1
  have hl : lv_has ls 3 [(0, .ref w), (1, .int (iI (((bb : Nat) : Int))))] := hl
  refine lv_iconst (v := iI (0)) hx hb dX3_firstLinkThatLost_0 rfl ?_
  refine lv_istore_n (lv' := [(2, .int (iI (0))), (0, .ref w), (1, .int (iI (((bb : Nat) : Int))))]) hx hb dX3_firstLinkThatLost_1 rfl hl (by decide) rfl (fun ls hl => ?_)
  have loop7 : ∀ (q i : Nat) , i + q = J → ∀ (ls : Array Slot), lv_has ls 3 [(2, .int (iI (((i : Nat) : Int)))), (0, .ref w), (1, .int (iI (((bb : Nat) : Int))))] → W p lc e R s m args below meth c s.heap [] 0 0 Q (F0 m 2 ls []) := by
    intro q
    induction q with
    | zero =>
      intro i  hm  ls hl
      have hi : i = J := by omega
      subst hi
      have r1 := hcn (i * 200 + bb) (by omega)
      have r2 := hcn ((i + 1) * 200 + bb) (by omega)
      by_cases h3 : i < mn - 2
      · refine lv_iload_n hx hb dX3_firstLinkThatLost_2 rfl (lv_at hl 0 rfl) ?_
        refine lv_aload_n hx hb dX3_firstLinkThatLost_3 rfl (lv_at hl 1 rfl) ?_
        refine w_get (C := RX3) (T := TX3) (Nf := 8) (ci := 3) (v := .int (iI (((mn : Nat) : Int)))) S (fun _ h => List.mem_cons_of_mem _ (List.mem_append_left _ (List.mem_append_right _ h))) hE hP 0 rfl rfl 0 (by decide) (List.mem_of_getElem? (i := 1) rfl) rfl dX3_firstLinkThatLost_4 ?_
        refine lv_iconst (v := iI (2)) hx hb dX3_firstLinkThatLost_7 rfl ?_
        refine w_isub S dX3_firstLinkThatLost_8 ?_
        refine c_geF (tgt := 35) S dX3_firstLinkThatLost_9 (by decide) (by omega) (by omega) (by omega) ?_
        have r3 := h2 h3
        refine lv_aload_n hx hb dX3_firstLinkThatLost_12 rfl (lv_at hl 1 rfl) ?_
        refine w_get (C := RX3) (T := TX3) (Nf := 8) (ci := 3) (v := .ref t) S (fun _ h => List.mem_cons_of_mem _ (List.mem_append_left _ (List.mem_append_right _ h))) hE hP 0 rfl rfl 6 (by decide) (List.mem_of_getElem? (i := 2) rfl) rfl dX3_firstLinkThatLost_13 ?_
        refine lv_iload_n hx hb dX3_firstLinkThatLost_16 rfl (lv_at hl 0 rfl) ?_
        refine lv_iload_n hx hb dX3_firstLinkThatLost_17 rfl (lv_at hl 0 rfl) ?_
        refine lv_iconst (v := iI (1)) hx hb dX3_firstLinkThatLost_18 rfl ?_
        refine w_iadd S dX3_firstLinkThatLost_19 ?_
        refine lv_iload_n hx hb dX3_firstLinkThatLost_20 rfl (lv_at hl 2 rfl) ?_
        refine kV_R (n := 3) (ci := 2) (q := (RX2, TX2, 2)) S (c_lostBetween lc D cI cZ N t tc ts cn sm i (i + 1) bb (by omega) (by omega) (by omega)) gX3_firstLinkThatLost_X2_lostBetween rfl rfl (by decide +kernel) rfl rfl ⟨Nat.le_trans (Nat.le_of_ble_eq_true rfl) hfr, Nat.le_trans (Nat.le_of_ble_eq_true rfl) hlo⟩ hE hAN hP hD hS [4, 5, 6] rfl (by decide) rfl rfl rfl rfl hl.1 [] rfl (Nat.le_of_ble_eq_true rfl) dX3_firstLinkThatLost_21 ⟨Nat.zero_le _, Nat.zero_le _⟩ ?_
        refine W.eq (g2 := F0 m 24 ls [.int (iI (cn (i * 200 + bb) - cn ((i + 1) * 200 + bb)))]) rfl ?_
        refine b_leF (tgt := 29) S dX3_firstLinkThatLost_24 (by decide) (by omega) (by omega) ?_
        refine lv_iload_n hx hb dX3_firstLinkThatLost_27 rfl (lv_at hl 0 rfl) ?_
        exact hret _ _ _ dX3_firstLinkThatLost_28 (congrArg iI (by omega))
      · refine lv_iload_n hx hb dX3_firstLinkThatLost_2 rfl (lv_at hl 0 rfl) ?_
        refine lv_aload_n hx hb dX3_firstLinkThatLost_3 rfl (lv_at hl 1 rfl) ?_
        refine w_get (C := RX3) (T := TX3) (Nf := 8) (ci := 3) (v := .int (iI (((mn : Nat) : Int)))) S (fun _ h => List.mem_cons_of_mem _ (List.mem_append_left _ (List.mem_append_right _ h))) hE hP 0 rfl rfl 0 (by decide) (List.mem_of_getElem? (i := 1) rfl) rfl dX3_firstLinkThatLost_4 ?_
        refine lv_iconst (v := iI (2)) hx hb dX3_firstLinkThatLost_7 rfl ?_
        refine w_isub S dX3_firstLinkThatLost_8 ?_
        refine c_geT (tgt := 35) S dX3_firstLinkThatLost_9 (by decide) (by omega) (by omega) (by omega) ?_
        refine lv_aload_n hx hb dX3_firstLinkThatLost_35 rfl (lv_at hl 1 rfl) ?_
        refine w_get (C := RX3) (T := TX3) (Nf := 8) (ci := 3) (v := .int (iI (((mn : Nat) : Int)))) S (fun _ h => List.mem_cons_of_mem _ (List.mem_append_left _ (List.mem_append_right _ h))) hE hP 0 rfl rfl 0 (by decide) (List.mem_of_getElem? (i := 1) rfl) rfl dX3_firstLinkThatLost_36 ?_
        refine lv_iconst (v := iI (2)) hx hb dX3_firstLinkThatLost_39 rfl ?_
        refine w_isub S dX3_firstLinkThatLost_40 ?_
        exact hret _ _ _ dX3_firstLinkThatLost_41 (congrArg iI (by omega))
    | succ q ih7 =>
      intro i  hm  ls hl
      have r1 := hcn (i * 200 + bb) (by omega)
      have r2 := hcn ((i + 1) * 200 + bb) (by omega)
      have r3 := h1 i (by omega)
      refine lv_iload_n hx hb dX3_firstLinkThatLost_2 rfl (lv_at hl 0 rfl) ?_
      refine lv_aload_n hx hb dX3_firstLinkThatLost_3 rfl (lv_at hl 1 rfl) ?_
      refine w_get (C := RX3) (T := TX3) (Nf := 8) (ci := 3) (v := .int (iI (((mn : Nat) : Int)))) S (fun _ h => List.mem_cons_of_mem _ (List.mem_append_left _ (List.mem_append_right _ h))) hE hP 0 rfl rfl 0 (by decide) (List.mem_of_getElem? (i := 1) rfl) rfl dX3_firstLinkThatLost_4 ?_
      refine lv_iconst (v := iI (2)) hx hb dX3_firstLinkThatLost_7 rfl ?_
      refine w_isub S dX3_firstLinkThatLost_8 ?_
      refine c_geF (tgt := 35) S dX3_firstLinkThatLost_9 (by decide) (by omega) (by omega) (by omega) ?_
      refine lv_aload_n hx hb dX3_firstLinkThatLost_12 rfl (lv_at hl 1 rfl) ?_
      refine w_get (C := RX3) (T := TX3) (Nf := 8) (ci := 3) (v := .ref t) S (fun _ h => List.mem_cons_of_mem _ (List.mem_append_left _ (List.mem_append_right _ h))) hE hP 0 rfl rfl 6 (by decide) (List.mem_of_getElem? (i := 2) rfl) rfl dX3_firstLinkThatLost_13 ?_
      refine lv_iload_n hx hb dX3_firstLinkThatLost_16 rfl (lv_at hl 0 rfl) ?_
      refine lv_iload_n hx hb dX3_firstLinkThatLost_17 rfl (lv_at hl 0 rfl) ?_
      refine lv_iconst (v := iI (1)) hx hb dX3_firstLinkThatLost_18 rfl ?_
      refine w_iadd S dX3_firstLinkThatLost_19 ?_
      refine lv_iload_n hx hb dX3_firstLinkThatLost_20 rfl (lv_at hl 2 rfl) ?_
      refine kV_R (n := 3) (ci := 2) (q := (RX2, TX2, 2)) S (c_lostBetween lc D cI cZ N t tc ts cn sm i (i + 1) bb (by omega) (by omega) (by omega)) gX3_firstLinkThatLost_X2_lostBetween rfl rfl (by decide +kernel) rfl rfl ⟨Nat.le_trans (Nat.le_of_ble_eq_true rfl) hfr, Nat.le_trans (Nat.le_of_ble_eq_true rfl) hlo⟩ hE hAN hP hD hS [4, 5, 6] rfl (by decide) rfl rfl rfl rfl hl.1 [] rfl (Nat.le_of_ble_eq_true rfl) dX3_firstLinkThatLost_21 ⟨Nat.zero_le _, Nat.zero_le _⟩ ?_
      refine W.eq (g2 := F0 m 24 ls [.int (iI (cn (i * 200 + bb) - cn ((i + 1) * 200 + bb)))]) rfl ?_
      refine b_leT (tgt := 29) S dX3_firstLinkThatLost_24 (by decide) (by omega) (by omega) ?_
      refine w_iinc (v := ((i + 1 : Nat) : Int)) (lv' := [(2, .int (iI (((i + 1 : Nat) : Int)))), (0, .ref w), (1, .int (iI (((bb : Nat) : Int))))]) S dX3_firstLinkThatLost_29 hl (k := 0) rfl (by omega) (by decide) rfl (fun ls hl => ?_)
      refine lv_goto (tgt := 2) hx hb dX3_firstLinkThatLost_32 (by decide) ?_
      exact ih7 (i + 1)  (by omega)  _ (lv_sub hl [0, 1, 2] rfl)
  exact loop7 J 0  (by omega)  _ (lv_sub hl [0, 1, 2] rfl)
end
