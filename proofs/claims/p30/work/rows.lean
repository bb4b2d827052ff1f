section
-- ===== PART A: goes FIRST, ahead of the names: the tables' words, and 'selects' of the private methods out of them =====
/-- a private method of a class that the tables say can be made, by its rows of tables_1 -/
def lw_okq (q : MethodName × Nat) : Prop := (q.1.cls ≠ "java/lang/invoke/MethodHandle" ∧ q.1.cls ≠ "java/lang/invoke/VarHandle") ∧ Cond.instantiable q.1.cls q.2 ∈ tables_1 ∧ Cond.privateMethod q.1 ∈ tables_1 ∧ Cond.instanceMethod q.1 ∈ tables_1
theorem lw_p0 : lw_okq (⟨"SetRepairs", "isSet", "(I)Z"⟩, 6) := ⟨⟨by decide +kernel, by decide +kernel⟩, List.mem_of_getElem? (i := 11) (by decide +kernel), List.mem_of_getElem? (i := 241) (by decide +kernel), List.mem_of_getElem? (i := 242) (by decide +kernel)⟩
theorem lw_p1 : lw_okq (⟨"SetRepairs$Desk", "takeOrders", "()V"⟩, 6) := ⟨⟨by decide +kernel, by decide +kernel⟩, List.mem_of_getElem? (i := 19) (by decide +kernel), List.mem_of_getElem? (i := 285) (by decide +kernel), List.mem_of_getElem? (i := 286) (by decide +kernel)⟩
theorem lw_p2 : lw_okq (⟨"SetRepairs$Desk", "reservePartsWhere", "(I)V"⟩, 6) := ⟨⟨by decide +kernel, by decide +kernel⟩, List.mem_of_getElem? (i := 19) (by decide +kernel), List.mem_of_getElem? (i := 293) (by decide +kernel), List.mem_of_getElem? (i := 294) (by decide +kernel)⟩
theorem lw_p3 : lw_okq (⟨"SetRepairs$Desk", "workWhere", "(II)I"⟩, 6) := ⟨⟨by decide +kernel, by decide +kernel⟩, List.mem_of_getElem? (i := 19) (by decide +kernel), List.mem_of_getElem? (i := 322) (by decide +kernel), List.mem_of_getElem? (i := 323) (by decide +kernel)⟩
theorem lw_p4 : lw_okq (⟨"SetRepairs$Desk", "finish", "(I)V"⟩, 6) := ⟨⟨by decide +kernel, by decide +kernel⟩, List.mem_of_getElem? (i := 19) (by decide +kernel), List.mem_of_getElem? (i := 331) (by decide +kernel), List.mem_of_getElem? (i := 332) (by decide +kernel)⟩
theorem lw_p5 : lw_okq (⟨"SetRepairs$Desk", "sellUnclaimed", "()V"⟩, 6) := ⟨⟨by decide +kernel, by decide +kernel⟩, List.mem_of_getElem? (i := 19) (by decide +kernel), List.mem_of_getElem? (i := 347) (by decide +kernel), List.mem_of_getElem? (i := 348) (by decide +kernel)⟩
theorem lw_p6 : lw_okq (⟨"SetRepairs$History", "dropOldest", "()V"⟩, 2) := ⟨⟨by decide +kernel, by decide +kernel⟩, List.mem_of_getElem? (i := 186) (by decide +kernel), List.mem_of_getElem? (i := 455) (by decide +kernel), List.mem_of_getElem? (i := 456) (by decide +kernel)⟩
def lw_privs_1 : List (MethodName × Nat) := [(⟨"SetRepairs", "isSet", "(I)Z"⟩, 6), (⟨"SetRepairs$Desk", "takeOrders", "()V"⟩, 6), (⟨"SetRepairs$Desk", "reservePartsWhere", "(I)V"⟩, 6), (⟨"SetRepairs$Desk", "workWhere", "(II)I"⟩, 6), (⟨"SetRepairs$Desk", "finish", "(I)V"⟩, 6), (⟨"SetRepairs$Desk", "sellUnclaimed", "()V"⟩, 6), (⟨"SetRepairs$History", "dropOldest", "()V"⟩, 2)]
theorem lw_r1 : ∀ q ∈ lw_privs_1, lw_okq q := List.forall_mem_cons.mpr ⟨lw_p0, List.forall_mem_cons.mpr ⟨lw_p1, List.forall_mem_cons.mpr ⟨lw_p2, List.forall_mem_cons.mpr ⟨lw_p3, List.forall_mem_cons.mpr ⟨lw_p4, List.forall_mem_cons.mpr ⟨lw_p5, List.forall_mem_cons.mpr ⟨lw_p6, fun _ h => absurd h List.not_mem_nil⟩⟩⟩⟩⟩⟩⟩
def lw_privs : List (MethodName × Nat) := lw_privs_1
def lw_tbl : List Cond := k2_sels lw_privs ++ tables_1
theorem lw_privs_ok : ∀ q ∈ lw_privs, lw_okq q := lw_r1
/-- the streams that the claim lets the run draw from -/
abbrev lw_cs : List Choice := [Jvm.Choice.named "NaN.bits"]
theorem lw_bits : nanBits ∈ lw_cs := by first | decide | exact List.mem_cons_self | simp [lw_cs, nanBits]

/-! ===== BEGIN words of one list among another's, by their places ===== -/
theorem goodIn_r {big : List Cond} (ws : List Cond) (ps : List Nat) (hp : ws = ps.filterMap (fun i => big[i]?)) (h : ws.all goodWord = true) : GoodIn big ws := by
  intro w hw
  have h1 := List.all_eq_true.mp h w hw
  rw [hp] at hw
  obtain ⟨i, -, hi⟩ := List.mem_filterMap.mp hw
  have hm : w ∈ big := by first | exact List.mem_of_getElem? hi | exact List.getElem?_mem hi
  exact ⟨hm, good_of_word h1⟩
theorem goodIn_app {big a b : List Cond} (ha : GoodIn big a) (hb : GoodIn big b) : GoodIn big (a ++ b) := fun w h => (List.mem_append.mp h).elim (ha w) (hb w)
theorem goodIn_ca {big a b : List Cond} {c : Cond} (ha : GoodIn big (c :: a)) (hb : GoodIn big b) : GoodIn big (c :: (a ++ b)) := fun w h => (List.mem_cons.mp h).elim (fun e => ha w (List.mem_cons.mpr (Or.inl e))) (fun h => (List.mem_append.mp h).elim (fun h => ha w (List.mem_cons.mpr (Or.inr h))) (hb w))
theorem goodIn_sub {big ws : List Cond} (hm : ∀ w ∈ ws, w ∈ big) (h : ws.all goodWord = true) : GoodIn big ws := fun w hw => ⟨hm w hw, good_of_word (List.all_eq_true.mp h w hw)⟩
/-! ===== END ===== -/

/-! ===== BEGIN printed: names, fields, word lists, decode rows ===== -/
def RX0 : String := "SetRepairs$AnswerText"
def TX0 : u_T := fun k => match k with
  | 0 => ("SetRepairs$AnswerText", "length", "I", false)
  | _ => ("SetRepairs$AnswerText", "characters", "[C", true)
def tyX0 : Nat → FieldType := fun k => match k with
  | 0 => .int
  | _ => .array .char
abbrev wsX00 : List Cond := u_ws RX0 TX0 2
theorem nmX0 : ∀ a, a < 2 → ∀ b, b < 2 → a ≠ b → (TX0 a).2.1 ≠ (TX0 b).2.1 := by decide +kernel
theorem tyX0_ok : ∀ k, k < 2 → parseFieldDescriptor (TX0 k).2.2.1 = some (tyX0 k) := by decide +kernel
abbrev cX0_init : ByteArray := prog_2_method_1_code
def yX0_init : MethodName := ⟨RX0, "<init>", "()V"⟩
def RX1 : String := "SetRepairs$Books"
def TX1 : u_T := fun k => match k with
  | 0 => ("SetRepairs$Books", "billsPaid", "I", false)
  | 1 => ("SetRepairs$Books", "feesPaid", "I", false)
  | 2 => ("SetRepairs$Books", "soldFor", "I", false)
  | 3 => ("SetRepairs$Books", "partsBuiltIn", "I", false)
  | 4 => ("SetRepairs$Books", "setsDone", "I", false)
  | _ => ("SetRepairs$Books", "daysToDone", "I", false)
def tyX1 : Nat → FieldType := fun k => match k with
  | 0 => .int
  | 1 => .int
  | 2 => .int
  | 3 => .int
  | 4 => .int
  | _ => .int
abbrev wsX10 : List Cond := u_ws RX1 TX1 6
theorem nmX1 : ∀ a, a < 6 → ∀ b, b < 6 → a ≠ b → (TX1 a).2.1 ≠ (TX1 b).2.1 := by decide +kernel
theorem tyX1_ok : ∀ k, k < 6 → parseFieldDescriptor (TX1 k).2.2.1 = some (tyX1 k) := by decide +kernel
abbrev cX1_init : ByteArray := prog_3_method_1_code
def yX1_init : MethodName := ⟨RX1, "<init>", "()V"⟩
abbrev cX1_copyFrom : ByteArray := prog_3_method_2_code
def yX1_copyFrom : MethodName := ⟨RX1, "copyFrom", "(LSetRepairs$Books;)V"⟩
def RX2 : String := "SetRepairs$Desk"
def TX2 : u_T := fun k => match k with
  | 0 => ("SetRepairs$Desk", "day", "I", false)
  | 1 => ("SetRepairs$Desk", "rates", "[F", true)
  | 2 => ("SetRepairs$Desk", "numbers", "[I", true)
  | 3 => ("SetRepairs$Desk", "store", "LSetRepairs$Store;", true)
  | 4 => ("SetRepairs$Desk", "sets", "LSetRepairs$Sets;", true)
  | _ => ("SetRepairs$Desk", "books", "LSetRepairs$Books;", true)
def tyX2 : Nat → FieldType := fun k => match k with
  | 0 => .int
  | 1 => .array .float
  | 2 => .array .int
  | 3 => .object "SetRepairs$Store"
  | 4 => .object "SetRepairs$Sets"
  | _ => .object "SetRepairs$Books"
abbrev wsX20 : List Cond := u_ws RX2 TX2 6
theorem nmX2 : ∀ a, a < 6 → ∀ b, b < 6 → a ≠ b → (TX2 a).2.1 ≠ (TX2 b).2.1 := by decide +kernel
theorem tyX2_ok : ∀ k, k < 6 → parseFieldDescriptor (TX2 k).2.2.1 = some (tyX2 k) := by decide +kernel
abbrev cX2_init : ByteArray := prog_4_method_1_code
def yX2_init : MethodName := ⟨RX2, "<init>", "()V"⟩
abbrev cX2_copyFrom : ByteArray := prog_4_method_2_code
def yX2_copyFrom : MethodName := ⟨RX2, "copyFrom", "(LSetRepairs$Desk;)V"⟩
abbrev cX2_costNow : ByteArray := prog_4_method_3_code
def yX2_costNow : MethodName := ⟨RX2, "costNow", "(I)I"⟩
abbrev cX2_loanersThere : ByteArray := prog_4_method_4_code
def yX2_loanersThere : MethodName := ⟨RX2, "loanersThere", "()I"⟩
abbrev cX2_storageFee : ByteArray := prog_4_method_5_code
def yX2_storageFee : MethodName := ⟨RX2, "storageFee", "(I)I"⟩
abbrev cX2_lackingOf : ByteArray := prog_4_method_6_code
def yX2_lackingOf : MethodName := ⟨RX2, "lackingOf", "(I)I"⟩
abbrev cX2_decide : ByteArray := prog_4_method_7_code
def yX2_decide : MethodName := ⟨RX2, "decide", "(IZ)V"⟩
abbrev cX2_reserveParts : ByteArray := prog_4_method_8_code
def yX2_reserveParts : MethodName := ⟨RX2, "reserveParts", "()V"⟩
abbrev cX2_reservePartsWhere : ByteArray := prog_4_method_9_code
def yX2_reservePartsWhere : MethodName := ⟨RX2, "reservePartsWhere", "(I)V"⟩
abbrev cX2_handOver : ByteArray := prog_4_method_10_code
def yX2_handOver : MethodName := ⟨RX2, "handOver", "(I)I"⟩
abbrev cX2_passDay : ByteArray := prog_4_method_11_code
def yX2_passDay : MethodName := ⟨RX2, "passDay", "()V"⟩
abbrev cX2_takeOrders : ByteArray := prog_4_method_12_code
def yX2_takeOrders : MethodName := ⟨RX2, "takeOrders", "()V"⟩
abbrev cX2_workWhere : ByteArray := prog_4_method_13_code
def yX2_workWhere : MethodName := ⟨RX2, "workWhere", "(II)I"⟩
abbrev cX2_finish : ByteArray := prog_4_method_14_code
def yX2_finish : MethodName := ⟨RX2, "finish", "(I)V"⟩
abbrev cX2_sellUnclaimed : ByteArray := prog_4_method_15_code
def yX2_sellUnclaimed : MethodName := ⟨RX2, "sellUnclaimed", "()V"⟩
def RX3 : String := "SetRepairs$History"
def TX3 : u_T := fun k => match k with
  | 0 => ("SetRepairs$History", "many", "I", false)
  | _ => ("SetRepairs$History", "states", "[LSetRepairs$Desk;", true)
def tyX3 : Nat → FieldType := fun k => match k with
  | 0 => .int
  | _ => .array (.object "SetRepairs$Desk")
abbrev wsX30 : List Cond := u_ws RX3 TX3 2
theorem nmX3 : ∀ a, a < 2 → ∀ b, b < 2 → a ≠ b → (TX3 a).2.1 ≠ (TX3 b).2.1 := by decide +kernel
theorem tyX3_ok : ∀ k, k < 2 → parseFieldDescriptor (TX3 k).2.2.1 = some (tyX3 k) := by decide +kernel
abbrev cX3_init : ByteArray := prog_5_method_1_code
def yX3_init : MethodName := ⟨RX3, "<init>", "()V"⟩
abbrev cX3_record : ByteArray := prog_5_method_2_code
def yX3_record : MethodName := ⟨RX3, "record", "(LSetRepairs$Desk;)V"⟩
abbrev cX3_dropOldest : ByteArray := prog_5_method_3_code
def yX3_dropOldest : MethodName := ⟨RX3, "dropOldest", "()V"⟩
abbrev cX3_giveBack : ByteArray := prog_5_method_4_code
def yX3_giveBack : MethodName := ⟨RX3, "giveBack", "(LSetRepairs$Desk;)V"⟩
def RX4 : String := "SetRepairs$Sets"
def TX4 : u_T := fun k => match k with
  | 0 => ("SetRepairs$Sets", "many", "I", false)
  | 1 => ("SetRepairs$Sets", "fault", "[I", true)
  | 2 => ("SetRepairs$Sets", "came", "[I", true)
  | 3 => ("SetRepairs$Sets", "estimate", "[I", true)
  | 4 => ("SetRepairs$Sets", "worked", "[I", true)
  | 5 => ("SetRepairs$Sets", "bill", "[I", true)
  | 6 => ("SetRepairs$Sets", "loaner", "[I", true)
  | 7 => ("SetRepairs$Sets", "state", "[I", true)
  | _ => ("SetRepairs$Sets", "ready", "[I", true)
def tyX4 : Nat → FieldType := fun k => match k with
  | 0 => .int
  | 1 => .array .int
  | 2 => .array .int
  | 3 => .array .int
  | 4 => .array .int
  | 5 => .array .int
  | 6 => .array .int
  | 7 => .array .int
  | _ => .array .int
abbrev wsX40 : List Cond := u_ws RX4 TX4 9
theorem nmX4 : ∀ a, a < 9 → ∀ b, b < 9 → a ≠ b → (TX4 a).2.1 ≠ (TX4 b).2.1 := by decide +kernel
theorem tyX4_ok : ∀ k, k < 9 → parseFieldDescriptor (TX4 k).2.2.1 = some (tyX4 k) := by decide +kernel
abbrev cX4_init : ByteArray := prog_6_method_1_code
def yX4_init : MethodName := ⟨RX4, "<init>", "()V"⟩
abbrev cX4_copyFrom : ByteArray := prog_6_method_2_code
def yX4_copyFrom : MethodName := ⟨RX4, "copyFrom", "(LSetRepairs$Sets;)V"⟩
abbrev cX4_add : ByteArray := prog_6_method_3_code
def yX4_add : MethodName := ⟨RX4, "add", "(II)I"⟩
abbrev cX4_isReady : ByteArray := prog_6_method_5_code
def yX4_isReady : MethodName := ⟨RX4, "isReady", "(I)Z"⟩
abbrev cX4_isTurnOf : ByteArray := prog_6_method_6_code
def yX4_isTurnOf : MethodName := ⟨RX4, "isTurnOf", "(III)Z"⟩
abbrev cX4_inState : ByteArray := prog_6_method_7_code
def yX4_inState : MethodName := ⟨RX4, "inState", "(I)I"⟩
abbrev cX4_withLoaner : ByteArray := prog_6_method_8_code
def yX4_withLoaner : MethodName := ⟨RX4, "withLoaner", "()I"⟩
def RX5 : String := "SetRepairs$Store"
def TX5 : u_T := fun k => match k with
  | 0 => ("SetRepairs$Store", "price", "[I", true)
  | 1 => ("SetRepairs$Store", "lead", "[I", true)
  | 2 => ("SetRepairs$Store", "stock", "[I", true)
  | 3 => ("SetRepairs$Store", "reserved", "[I", true)
  | 4 => ("SetRepairs$Store", "orders", "I", false)
  | 5 => ("SetRepairs$Store", "orderPart", "[I", true)
  | 6 => ("SetRepairs$Store", "orderMany", "[I", true)
  | _ => ("SetRepairs$Store", "orderDay", "[I", true)
def tyX5 : Nat → FieldType := fun k => match k with
  | 0 => .array .int
  | 1 => .array .int
  | 2 => .array .int
  | 3 => .array .int
  | 4 => .int
  | 5 => .array .int
  | 6 => .array .int
  | _ => .array .int
abbrev wsX50 : List Cond := u_ws RX5 TX5 8
theorem nmX5 : ∀ a, a < 8 → ∀ b, b < 8 → a ≠ b → (TX5 a).2.1 ≠ (TX5 b).2.1 := by decide +kernel
theorem tyX5_ok : ∀ k, k < 8 → parseFieldDescriptor (TX5 k).2.2.1 = some (tyX5 k) := by decide +kernel
abbrev cX5_init : ByteArray := prog_7_method_1_code
def yX5_init : MethodName := ⟨RX5, "<init>", "()V"⟩
abbrev cX5_copyFrom : ByteArray := prog_7_method_2_code
def yX5_copyFrom : MethodName := ⟨RX5, "copyFrom", "(LSetRepairs$Store;)V"⟩
abbrev cX5_needOf : ByteArray := prog_7_method_3_code
def yX5_needOf : MethodName := ⟨RX5, "needOf", "(II)I"⟩
abbrev cX5_priceOfParts : ByteArray := prog_7_method_4_code
def yX5_priceOfParts : MethodName := ⟨RX5, "priceOfParts", "(I)I"⟩
abbrev cX5_free : ByteArray := prog_7_method_5_code
def yX5_free : MethodName := ⟨RX5, "free", "(I)I"⟩
abbrev cX5_onOrder : ByteArray := prog_7_method_6_code
def yX5_onOrder : MethodName := ⟨RX5, "onOrder", "(I)I"⟩
abbrev cX5_lowestShort : ByteArray := prog_7_method_7_code
def yX5_lowestShort : MethodName := ⟨RX5, "lowestShort", "(I)I"⟩
abbrev cX5_isEnoughOrdered : ByteArray := prog_7_method_8_code
def yX5_isEnoughOrdered : MethodName := ⟨RX5, "isEnoughOrdered", "(I)Z"⟩
abbrev cX5_reserveFor : ByteArray := prog_7_method_9_code
def yX5_reserveFor : MethodName := ⟨RX5, "reserveFor", "(I)V"⟩
abbrev cX5_takeReservedFor : ByteArray := prog_7_method_10_code
def yX5_takeReservedFor : MethodName := ⟨RX5, "takeReservedFor", "(I)V"⟩
abbrev cX5_addOrder : ByteArray := prog_7_method_11_code
def yX5_addOrder : MethodName := ⟨RX5, "addOrder", "(III)V"⟩
abbrev cX5_dropOrdersOf : ByteArray := prog_7_method_12_code
def yX5_dropOrdersOf : MethodName := ⟨RX5, "dropOrdersOf", "(I)V"⟩
def RX6 : String := "SetRepairs"
def TX6 : u_T := fun k => match k with
  | 0 => ("SetRepairs", "desk", "LSetRepairs$Desk;", true)
  | 1 => ("SetRepairs", "trial", "LSetRepairs$Desk;", true)
  | 2 => ("SetRepairs", "snapshot", "LSetRepairs$Desk;", true)
  | 3 => ("SetRepairs", "hasSnapshot", "Z", false)
  | 4 => ("SetRepairs", "history", "LSetRepairs$History;", true)
  | _ => ("SetRepairs", "text", "LSetRepairs$AnswerText;", true)
def tyX6 : Nat → FieldType := fun k => match k with
  | 0 => .object "SetRepairs$Desk"
  | 1 => .object "SetRepairs$Desk"
  | 2 => .object "SetRepairs$Desk"
  | 3 => .boolean
  | 4 => .object "SetRepairs$History"
  | _ => .object "SetRepairs$AnswerText"
abbrev wsX60 : List Cond := u_ws RX6 TX6 6
theorem nmX6 : ∀ a, a < 6 → ∀ b, b < 6 → a ≠ b → (TX6 a).2.1 ≠ (TX6 b).2.1 := by decide +kernel
theorem tyX6_ok : ∀ k, k < 6 → parseFieldDescriptor (TX6 k).2.2.1 = some (tyX6 k) := by decide +kernel
abbrev cX6_init : ByteArray := prog_1_method_1_code
def yX6_init : MethodName := ⟨RX6, "<init>", "()V"⟩
abbrev cX6_setRate : ByteArray := prog_1_method_2_code
def yX6_setRate : MethodName := ⟨RX6, "setRate", "(II)I"⟩
abbrev cX6_setNumber : ByteArray := prog_1_method_3_code
def yX6_setNumber : MethodName := ⟨RX6, "setNumber", "(II)I"⟩
abbrev cX6_setPart : ByteArray := prog_1_method_4_code
def yX6_setPart : MethodName := ⟨RX6, "setPart", "(III)I"⟩
abbrev cX6_order : ByteArray := prog_1_method_5_code
def yX6_order : MethodName := ⟨RX6, "order", "(II)I"⟩
abbrev cX6_put : ByteArray := prog_1_method_6_code
def yX6_put : MethodName := ⟨RX6, "put", "(II)I"⟩
abbrev cX6_come : ByteArray := prog_1_method_7_code
def yX6_come : MethodName := ⟨RX6, "come", "(I)I"⟩
abbrev cX6_estimate : ByteArray := prog_1_method_8_code
def yX6_estimate : MethodName := ⟨RX6, "estimate", "(I)I"⟩
abbrev cX6_answer : ByteArray := prog_1_method_9_code
def yX6_answer : MethodName := ⟨RX6, "answer", "(IZ)I"⟩
abbrev cX6_lend : ByteArray := prog_1_method_11_code
def yX6_lend : MethodName := ⟨RX6, "lend", "(I)I"⟩
abbrev cX6_collect : ByteArray := prog_1_method_12_code
def yX6_collect : MethodName := ⟨RX6, "collect", "(I)I"⟩
abbrev cX6_pass : ByteArray := prog_1_method_13_code
def yX6_pass : MethodName := ⟨RX6, "pass", "(I)I"⟩
abbrev cX6_undo : ByteArray := prog_1_method_16_code
def yX6_undo : MethodName := ⟨RX6, "undo", "()I"⟩
abbrev cX6_keep : ByteArray := prog_1_method_17_code
def yX6_keep : MethodName := ⟨RX6, "keep", "()I"⟩
abbrev cX6_restore : ByteArray := prog_1_method_18_code
def yX6_restore : MethodName := ⟨RX6, "restore", "()I"⟩
abbrev cX6_rate : ByteArray := prog_1_method_19_code
def yX6_rate : MethodName := ⟨RX6, "rate", "(I)F"⟩
abbrev cX6_number : ByteArray := prog_1_method_20_code
def yX6_number : MethodName := ⟨RX6, "number", "(I)I"⟩
abbrev cX6_part : ByteArray := prog_1_method_21_code
def yX6_part : MethodName := ⟨RX6, "part", "(II)I"⟩
abbrev cX6_costOf : ByteArray := prog_1_method_22_code
def yX6_costOf : MethodName := ⟨RX6, "costOf", "(I)I"⟩
abbrev cX6_set : ByteArray := prog_1_method_23_code
def yX6_set : MethodName := ⟨RX6, "set", "(II)I"⟩
abbrev cX6_waitsFor : ByteArray := prog_1_method_24_code
def yX6_waitsFor : MethodName := ⟨RX6, "waitsFor", "(I)I"⟩
abbrev cX6_lacks : ByteArray := prog_1_method_25_code
def yX6_lacks : MethodName := ⟨RX6, "lacks", "(I)I"⟩
abbrev cX6_doneIn : ByteArray := prog_1_method_26_code
def yX6_doneIn : MethodName := ⟨RX6, "doneIn", "(I)I"⟩
abbrev cX6_meanDays : ByteArray := prog_1_method_27_code
def yX6_meanDays : MethodName := ⟨RX6, "meanDays", "()F"⟩
abbrev cX6_count : ByteArray := prog_1_method_28_code
def yX6_count : MethodName := ⟨RX6, "count", "(I)I"⟩
abbrev cX6_isIndex : ByteArray := prog_1_method_29_code
def yX6_isIndex : MethodName := ⟨RX6, "isIndex", "(II)Z"⟩
abbrev cX6_isWithin : ByteArray := prog_1_method_30_code
def yX6_isWithin : MethodName := ⟨RX6, "isWithin", "(III)Z"⟩
abbrev cX6_isSet : ByteArray := prog_1_method_31_code
def yX6_isSet : MethodName := ⟨RX6, "isSet", "(I)Z"⟩
abbrev cX6_floatOf : ByteArray := prog_1_method_32_code
def yX6_floatOf : MethodName := ⟨RX6, "floatOf", "(I)F"⟩
def RX7 : String := "SetRepairsModel"
def TX7 : u_T := fun k => match k with
  | _ => ("", "", "", false)
def tyX7 : Nat → FieldType := fun k => match k with
  | _ => .int
abbrev wsX70 : List Cond := u_ws RX7 TX7 0
theorem nmX7 : ∀ a, a < 0 → ∀ b, b < 0 → a ≠ b → (TX7 a).2.1 ≠ (TX7 b).2.1 := by decide +kernel
theorem tyX7_ok : ∀ k, k < 0 → parseFieldDescriptor (TX7 k).2.2.1 = some (tyX7 k) := by decide +kernel
def RJ9 : String := "java/lang/Math"
def TJ9 : u_T := fun k => match k with
  | _ => ("", "", "", false)
def tyJ9 : Nat → FieldType := fun k => match k with
  | _ => .int
abbrev wsJ90 : List Cond := u_ws RJ9 TJ9 0
theorem nmJ9 : ∀ a, a < 0 → ∀ b, b < 0 → a ≠ b → (TJ9 a).2.1 ≠ (TJ9 b).2.1 := by decide +kernel
theorem tyJ9_ok : ∀ k, k < 0 → parseFieldDescriptor (TJ9 k).2.2.1 = some (tyJ9 k) := by decide +kernel
abbrev cJ9_max_7cf53 : ByteArray := prog_10_method_65_code
def yJ9_max_7cf53 : MethodName := ⟨RJ9, "max", "(II)I"⟩
abbrev cJ9_min_7cf53 : ByteArray := prog_10_method_69_code
def yJ9_min_7cf53 : MethodName := ⟨RJ9, "min", "(II)I"⟩
def RJ10 : String := "java/lang/System"
def TJ10 : u_T := fun k => match k with
  | _ => ("", "", "", false)
def tyJ10 : Nat → FieldType := fun k => match k with
  | _ => .int
abbrev wsJ100 : List Cond := u_ws RJ10 TJ10 0
theorem nmJ10 : ∀ a, a < 0 → ∀ b, b < 0 → a ≠ b → (TJ10 a).2.1 ≠ (TJ10 b).2.1 := by decide +kernel
theorem tyJ10_ok : ∀ k, k < 0 → parseFieldDescriptor (TJ10 k).2.2.1 = some (tyJ10 k) := by decide +kernel
def RL : String := "SetRepairsLaw"
abbrev cL_low : ByteArray := method_2_code
def yL_low : MethodName := ⟨RL, "low", "(II)I"⟩
abbrev cL_cell : ByteArray := method_3_code
def yL_cell : MethodName := ⟨RL, "cell", "([II)I"⟩
abbrev cL_need : ByteArray := method_4_code
def yL_need : MethodName := ⟨RL, "need", "(II)I"⟩
abbrev cL_hours : ByteArray := method_5_code
def yL_hours : MethodName := ⟨RL, "hours", "(I)I"⟩
abbrev cL_prices : ByteArray := method_6_code
def yL_prices : MethodName := ⟨RL, "prices", "(LSetRepairs;I)I"⟩
abbrev cL_cost : ByteArray := method_7_code
def yL_cost : MethodName := ⟨RL, "cost", "(LSetRepairs;I)I"⟩
abbrev cL_desk : ByteArray := method_8_code
def yL_desk : MethodName := ⟨RL, "desk", "(LSetRepairs;)Z"⟩
abbrev cL_act : ByteArray := method_9_code
def yL_act : MethodName := ⟨RL, "act", "(LSetRepairs;[II)I"⟩
abbrev cL_law : ByteArray := code
def yL_law : MethodName := ⟨RL, "law", "([I)Z"⟩
def wsL_law_r1 : List Cond := [Cond.classLink RL 16 RX6, Cond.instantiable RX6 6, Cond.initialized RX6, Cond.methodLink RL 114 yX6_init, Cond.instanceMethod yX6_init, Cond.code yX6_init cX6_init 1 none, Cond.methodLink RX6 1 objectInit, Cond.instanceMethod objectInit, Cond.code objectInit ⟨#[0xb1]⟩ 1 none, Cond.classLink RX6 7 RX2, Cond.instantiable RX2 6, Cond.initialized RX2, Cond.fieldLink RX6 10 "SetRepairs" "desk" "LSetRepairs$Desk;", Cond.fieldLink RX6 16 "SetRepairs" "trial" "LSetRepairs$Desk;", Cond.fieldLink RX6 19 "SetRepairs" "snapshot" "LSetRepairs$Desk;", Cond.fieldLink RX6 22 "SetRepairs" "hasSnapshot" "Z", Cond.classLink RX6 26 RX3, Cond.instantiable RX3 2, Cond.initialized RX3, Cond.fieldLink RX6 29 "SetRepairs" "history" "LSetRepairs$History;", Cond.classLink RX6 33 RX0, Cond.instantiable RX0 2, Cond.initialized RX0, Cond.fieldLink RX6 36 "SetRepairs" "text" "LSetRepairs$AnswerText;"]
def wsL_law_r2 : List Cond := [Cond.methodLink RX6 9 yX2_init, Cond.instanceMethod yX2_init, Cond.code yX2_init cX2_init 1 none, Cond.methodLink RX2 3 objectInit, Cond.fieldLink RX2 9 "SetRepairs$Desk" "day" "I", Cond.arrayClass .float, Cond.constantFloat RX2 15 (1068708659), Cond.constantFloat RX2 16 (1066192077), Cond.constantFloat RX2 17 (1103888384), Cond.constantFloat RX2 18 (1058642330), Cond.fieldLink RX2 19 "SetRepairs$Desk" "rates" "[F", Cond.arrayClass .int, Cond.fieldLink RX2 23 "SetRepairs$Desk" "numbers" "[I", Cond.classLink RX2 27 RX5, Cond.instantiable RX5 8, Cond.initialized RX5, Cond.fieldLink RX2 30 "SetRepairs$Desk" "store" "LSetRepairs$Store;", Cond.classLink RX2 34 RX4, Cond.instantiable RX4 9, Cond.initialized RX4, Cond.fieldLink RX2 37 "SetRepairs$Desk" "sets" "LSetRepairs$Sets;", Cond.classLink RX2 41 RX1, Cond.instantiable RX1 6, Cond.initialized RX1]
def wsL_law_r3 : List Cond := [Cond.fieldLink RX2 44 "SetRepairs$Desk" "books" "LSetRepairs$Books;", Cond.methodLink RX2 29 yX5_init, Cond.instanceMethod yX5_init, Cond.code yX5_init cX5_init 1 none, Cond.methodLink RX5 3 objectInit, Cond.fieldLink RX5 9 "SetRepairs$Store" "price" "[I", Cond.fieldLink RX5 15 "SetRepairs$Store" "lead" "[I", Cond.fieldLink RX5 18 "SetRepairs$Store" "stock" "[I", Cond.fieldLink RX5 21 "SetRepairs$Store" "reserved" "[I", Cond.fieldLink RX5 24 "SetRepairs$Store" "orders" "I", Cond.fieldLink RX5 28 "SetRepairs$Store" "orderPart" "[I", Cond.fieldLink RX5 31 "SetRepairs$Store" "orderMany" "[I", Cond.fieldLink RX5 34 "SetRepairs$Store" "orderDay" "[I", Cond.methodLink RX2 36 yX4_init, Cond.instanceMethod yX4_init, Cond.code yX4_init cX4_init 1 none, Cond.methodLink RX4 3 objectInit, Cond.fieldLink RX4 9 "SetRepairs$Sets" "many" "I", Cond.fieldLink RX4 15 "SetRepairs$Sets" "fault" "[I", Cond.fieldLink RX4 19 "SetRepairs$Sets" "came" "[I", Cond.fieldLink RX4 22 "SetRepairs$Sets" "estimate" "[I", Cond.fieldLink RX4 25 "SetRepairs$Sets" "worked" "[I", Cond.fieldLink RX4 28 "SetRepairs$Sets" "bill" "[I", Cond.fieldLink RX4 31 "SetRepairs$Sets" "loaner" "[I"]
def wsL_law_r4 : List Cond := [Cond.fieldLink RX4 34 "SetRepairs$Sets" "state" "[I", Cond.fieldLink RX4 37 "SetRepairs$Sets" "ready" "[I", Cond.instanceMethod yX1_init, Cond.code yX1_init cX1_init 1 none, Cond.methodLink RX1 1 objectInit, Cond.methodLink RX6 28 yX3_init, Cond.instanceMethod yX3_init, Cond.code yX3_init cX3_init 2 none, Cond.methodLink RX3 3 objectInit, Cond.fieldLink RX3 9 "SetRepairs$History" "many" "I", Cond.classLink RX3 15 RX2, Cond.fieldLink RX3 17 "SetRepairs$History" "states" "[LSetRepairs$Desk;", Cond.methodLink RX3 21 yX2_init, Cond.methodLink RX6 35 yX0_init, Cond.instanceMethod yX0_init, Cond.code yX0_init cX0_init 1 none, Cond.methodLink RX0 3 objectInit, Cond.fieldLink RX0 9 "SetRepairs$AnswerText" "length" "I", Cond.arrayClass .char, Cond.fieldLink RX0 15 "SetRepairs$AnswerText" "characters" "[C", Cond.methodLink RL 35 yX6_count, Cond.instanceMethod yX6_count, Cond.selects RX6 yX6_count yX6_count, Cond.code yX6_count cX6_count 2 (some .int)]
def wsL_law_r5 : List Cond := [Cond.fieldLink RX6 73 "SetRepairs$Desk" "sets" "LSetRepairs$Sets;", Cond.fieldLink RX6 103 "SetRepairs$Desk" "day" "I", Cond.fieldLink RX6 116 "SetRepairs$Sets" "many" "I", Cond.fieldLink RX6 87 "SetRepairs$Desk" "store" "LSetRepairs$Store;", Cond.fieldLink RX6 99 "SetRepairs$Store" "orders" "I", Cond.fieldLink RX6 168 "SetRepairs$Desk" "books" "LSetRepairs$Books;", Cond.fieldLink RX6 225 "SetRepairs$Books" "billsPaid" "I", Cond.fieldLink RX6 228 "SetRepairs$Books" "feesPaid" "I", Cond.fieldLink RX6 231 "SetRepairs$Books" "soldFor" "I", Cond.fieldLink RX6 234 "SetRepairs$Books" "partsBuiltIn" "I", Cond.fieldLink RX6 187 "SetRepairs$History" "many" "I", Cond.fieldLink RX6 180 "SetRepairs$AnswerText" "length" "I", Cond.methodLink RX6 51 yX6_isWithin, Cond.static yX6_isWithin, Cond.code yX6_isWithin cX6_isWithin 3 (some .boolean), Cond.methodLink RX6 153 yX4_inState, Cond.instanceMethod yX4_inState, Cond.selects RX4 yX4_inState yX4_inState, Cond.code yX4_inState cX4_inState 4 (some .int), Cond.methodLink RX6 159 yX2_loanersThere, Cond.instanceMethod yX2_loanersThere, Cond.selects RX2 yX2_loanersThere yX2_loanersThere, Cond.code yX2_loanersThere cX2_loanersThere 1 (some .int), Cond.methodLink RX2 71 yX4_withLoaner]
def wsL_law_r6 : List Cond := [Cond.instanceMethod yX4_withLoaner, Cond.selects RX4 yX4_withLoaner yX4_withLoaner, Cond.code yX4_withLoaner cX4_withLoaner 3 (some .int), Cond.methodLink RL 60 yL_cell, Cond.static yL_cell, Cond.initialized RL, Cond.code yL_cell cL_cell 2 (some .int), Cond.constant RL 8 (40503), Cond.methodLink RL 64 yL_low, Cond.static yL_low, Cond.code yL_low cL_low 2 (some .int), Cond.constant RL 7 (2147483647), Cond.methodLink RL 44 yX6_doneIn, Cond.instanceMethod yX6_doneIn, Cond.selects RX6 yX6_doneIn yX6_doneIn, Cond.code yX6_doneIn cX6_doneIn 4 (some .int), Cond.fieldLink RX6 127 "SetRepairs$Sets" "state" "[I", Cond.methodLink RX6 123 yX6_isSet, Cond.instanceMethod yX6_isSet, Cond.selects RX6 yX6_isSet yX6_isSet, Cond.code yX6_isSet cX6_isSet 2 (some .boolean), Cond.methodLink RX6 40 yX6_isIndex, Cond.static yX6_isIndex, Cond.code yX6_isIndex cX6_isIndex 2 (some .boolean)]
def wsL_law_r7 : List Cond := [Cond.methodLink RX6 146 yX2_copyFrom, Cond.instanceMethod yX2_copyFrom, Cond.selects RX2 yX2_copyFrom yX2_copyFrom, Cond.code yX2_copyFrom cX2_copyFrom 2 none, Cond.methodLink RX2 48 arraycopyName, Cond.native arraycopyName, Cond.static arraycopyName, Cond.initialized "java/lang/System", Cond.methodLink RX2 54 yX5_copyFrom, Cond.instanceMethod yX5_copyFrom, Cond.selects RX5 yX5_copyFrom yX5_copyFrom, Cond.code yX5_copyFrom cX5_copyFrom 2 none, Cond.methodLink RX5 37 arraycopyName, Cond.methodLink RX2 58 yX4_copyFrom, Cond.instanceMethod yX4_copyFrom, Cond.selects RX4 yX4_copyFrom yX4_copyFrom, Cond.code yX4_copyFrom cX4_copyFrom 2 none, Cond.methodLink RX4 40 arraycopyName, Cond.methodLink RX2 61 yX1_copyFrom, Cond.instanceMethod yX1_copyFrom, Cond.selects RX1 yX1_copyFrom yX1_copyFrom, Cond.code yX1_copyFrom cX1_copyFrom 2 none, Cond.fieldLink RX1 7 "SetRepairs$Books" "billsPaid" "I", Cond.fieldLink RX1 13 "SetRepairs$Books" "feesPaid" "I"]
def wsL_law_r8 : List Cond := [Cond.fieldLink RX1 16 "SetRepairs$Books" "soldFor" "I", Cond.fieldLink RX1 19 "SetRepairs$Books" "partsBuiltIn" "I", Cond.fieldLink RX1 22 "SetRepairs$Books" "setsDone" "I", Cond.fieldLink RX1 25 "SetRepairs$Books" "daysToDone" "I", Cond.methodLink RX6 177 yX2_passDay, Cond.instanceMethod yX2_passDay, Cond.selects RX2 yX2_passDay yX2_passDay, Cond.code yX2_passDay cX2_passDay 2 none, Cond.methodLink RX2 134 yX2_takeOrders, Cond.instanceMethod yX2_takeOrders, Cond.selects RX2 yX2_takeOrders yX2_takeOrders, Cond.code yX2_takeOrders cX2_takeOrders 2 none, Cond.fieldLink RX2 143 "SetRepairs$Store" "orders" "I", Cond.fieldLink RX2 146 "SetRepairs$Store" "orderDay" "[I", Cond.fieldLink RX2 149 "SetRepairs$Store" "stock" "[I", Cond.fieldLink RX2 152 "SetRepairs$Store" "orderPart" "[I", Cond.fieldLink RX2 155 "SetRepairs$Store" "orderMany" "[I", Cond.methodLink RX2 102 yX2_reserveParts, Cond.instanceMethod yX2_reserveParts, Cond.selects RX2 yX2_reserveParts yX2_reserveParts, Cond.code yX2_reserveParts cX2_reserveParts 1 none, Cond.methodLink RX2 105 yX2_reservePartsWhere, Cond.instanceMethod yX2_reservePartsWhere, Cond.selects RX2 yX2_reservePartsWhere yX2_reservePartsWhere]
def wsL_law_r9 : List Cond := [Cond.code yX2_reservePartsWhere cX2_reservePartsWhere 4 none, Cond.fieldLink RX2 78 "SetRepairs$Sets" "many" "I", Cond.fieldLink RX2 84 "SetRepairs$Sets" "fault" "[I", Cond.fieldLink RX2 81 "SetRepairs$Sets" "state" "[I", Cond.methodLink RX2 109 yX4_isTurnOf, Cond.instanceMethod yX4_isTurnOf, Cond.selects RX4 yX4_isTurnOf yX4_isTurnOf, Cond.code yX4_isTurnOf cX4_isTurnOf 4 (some .boolean), Cond.methodLink RX2 113 yX5_lowestShort, Cond.instanceMethod yX5_lowestShort, Cond.selects RX5 yX5_lowestShort yX5_lowestShort, Cond.code yX5_lowestShort cX5_lowestShort 3 (some .int), Cond.methodLink RX5 50 yX5_free, Cond.instanceMethod yX5_free, Cond.selects RX5 yX5_free yX5_free, Cond.code yX5_free cX5_free 2 (some .int), Cond.methodLink RX5 46 yX5_needOf, Cond.static yX5_needOf, Cond.code yX5_needOf cX5_needOf 2 (some .int), Cond.methodLink RX2 116 yX5_reserveFor, Cond.instanceMethod yX5_reserveFor, Cond.selects RX5 yX5_reserveFor yX5_reserveFor, Cond.code yX5_reserveFor cX5_reserveFor 3 none, Cond.methodLink RX2 158 yX5_dropOrdersOf]
def wsL_law_r10 : List Cond := [Cond.instanceMethod yX5_dropOrdersOf, Cond.selects RX5 yX5_dropOrdersOf yX5_dropOrdersOf, Cond.code yX5_dropOrdersOf cX5_dropOrdersOf 4 none, Cond.methodLink RX2 137 yX2_workWhere, Cond.instanceMethod yX2_workWhere, Cond.selects RX2 yX2_workWhere yX2_workWhere, Cond.code yX2_workWhere cX2_workWhere 7 (some .int), Cond.fieldLink RX2 161 "SetRepairs$Sets" "worked" "[I", Cond.methodLink RX2 164 Lib.Math.min.name, Cond.static Lib.Math.min.name, Cond.initialized "java/lang/Math", Cond.code Lib.Math.min.name Lib.Math.min.code 2 (some .int), Cond.methodLink RX2 167 yX2_finish, Cond.instanceMethod yX2_finish, Cond.selects RX2 yX2_finish yX2_finish, Cond.code yX2_finish cX2_finish 4 none, Cond.fieldLink RX2 170 "SetRepairs$Sets" "estimate" "[I", Cond.fieldLink RX2 125 "SetRepairs$Sets" "bill" "[I", Cond.fieldLink RX2 75 "SetRepairs$Sets" "ready" "[I", Cond.fieldLink RX2 179 "SetRepairs$Books" "partsBuiltIn" "I", Cond.fieldLink RX2 182 "SetRepairs$Books" "daysToDone" "I", Cond.fieldLink RX2 185 "SetRepairs$Sets" "came" "[I", Cond.fieldLink RX2 188 "SetRepairs$Books" "setsDone" "I", Cond.methodLink RX2 173 yX5_takeReservedFor]
def wsL_law_r11 : List Cond := [Cond.instanceMethod yX5_takeReservedFor, Cond.selects RX5 yX5_takeReservedFor yX5_takeReservedFor, Cond.code yX5_takeReservedFor cX5_takeReservedFor 3 none, Cond.methodLink RX2 176 yX2_costNow, Cond.instanceMethod yX2_costNow, Cond.selects RX2 yX2_costNow yX2_costNow, Cond.code yX2_costNow cX2_costNow 4 (some .int), Cond.methodLink RX2 64 yX5_priceOfParts, Cond.instanceMethod yX5_priceOfParts, Cond.selects RX5 yX5_priceOfParts yX5_priceOfParts, Cond.code yX5_priceOfParts cX5_priceOfParts 4 (some .int), Cond.methodLink RX2 140 yX2_sellUnclaimed, Cond.instanceMethod yX2_sellUnclaimed, Cond.selects RX2 yX2_sellUnclaimed yX2_sellUnclaimed, Cond.code yX2_sellUnclaimed cX2_sellUnclaimed 2 none, Cond.fieldLink RX2 195 "SetRepairs$Books" "soldFor" "I", Cond.fieldLink RX2 131 "SetRepairs$Sets" "loaner" "[I", Cond.methodLink RX2 191 yX4_isReady, Cond.instanceMethod yX4_isReady, Cond.selects RX4 yX4_isReady yX4_isReady, Cond.code yX4_isReady cX4_isReady 2 (some .boolean), Cond.methodLink RL 115 yL_act, Cond.static yL_act, Cond.code yL_act cL_act 6 (some .int)]
def wsL_law_r12 : List Cond := [Cond.constant RL 89 (40000), Cond.constant RL 97 (1065353216), Cond.methodLink RL 67 yX6_come, Cond.instanceMethod yX6_come, Cond.selects RX6 yX6_come yX6_come, Cond.code yX6_come cX6_come 2 (some .int), Cond.methodLink RX6 63 yX3_record, Cond.instanceMethod yX3_record, Cond.selects RX3 yX3_record yX3_record, Cond.code yX3_record cX3_record 2 none, Cond.methodLink RX3 22 yX3_dropOldest, Cond.instanceMethod yX3_dropOldest, Cond.selects RX3 yX3_dropOldest yX3_dropOldest, Cond.code yX3_dropOldest cX3_dropOldest 3 none, Cond.methodLink RX3 25 yX2_copyFrom, Cond.methodLink RX6 119 yX4_add, Cond.instanceMethod yX4_add, Cond.selects RX4 yX4_add yX4_add, Cond.code yX4_add cX4_add 4 (some .int), Cond.methodLink RL 70 yX6_estimate, Cond.instanceMethod yX6_estimate, Cond.selects RX6 yX6_estimate yX6_estimate, Cond.code yX6_estimate cX6_estimate 3 (some .int), Cond.fieldLink RX6 130 "SetRepairs$Sets" "fault" "[I"]
def wsL_law_r13 : List Cond := [Cond.fieldLink RX6 137 "SetRepairs$Sets" "estimate" "[I", Cond.methodLink RX6 133 yX2_costNow, Cond.methodLink RL 73 yX6_answer, Cond.instanceMethod yX6_answer, Cond.selects RX6 yX6_answer yX6_answer, Cond.code yX6_answer cX6_answer 3 (some .int), Cond.methodLink RX6 140 yX2_decide, Cond.instanceMethod yX2_decide, Cond.selects RX2 yX2_decide yX2_decide, Cond.code yX2_decide cX2_decide 3 none, Cond.methodLink RL 77 yX6_put, Cond.instanceMethod yX6_put, Cond.selects RX6 yX6_put yX6_put, Cond.code yX6_put cX6_put 3 (some .int), Cond.fieldLink RX6 110 "SetRepairs$Store" "stock" "[I", Cond.methodLink RX6 113 yX2_reserveParts, Cond.methodLink RL 80 yX6_order, Cond.instanceMethod yX6_order, Cond.selects RX6 yX6_order yX6_order, Cond.code yX6_order cX6_order 4 (some .int), Cond.fieldLink RX6 96 "SetRepairs$Store" "lead" "[I", Cond.methodLink RX6 106 yX5_addOrder, Cond.instanceMethod yX5_addOrder, Cond.selects RX5 yX5_addOrder yX5_addOrder]
def wsL_law_r14 : List Cond := [Cond.code yX5_addOrder cX5_addOrder 4 none, Cond.methodLink RL 83 yX6_lend, Cond.instanceMethod yX6_lend, Cond.selects RX6 yX6_lend yX6_lend, Cond.code yX6_lend cX6_lend 2 (some .int), Cond.fieldLink RX6 156 "SetRepairs$Sets" "loaner" "[I", Cond.methodLink RL 86 yX6_collect, Cond.instanceMethod yX6_collect, Cond.selects RX6 yX6_collect yX6_collect, Cond.code yX6_collect cX6_collect 2 (some .int), Cond.methodLink RX6 162 yX4_isReady, Cond.methodLink RX6 165 yX2_handOver, Cond.instanceMethod yX2_handOver, Cond.selects RX2 yX2_handOver yX2_handOver, Cond.code yX2_handOver cX2_handOver 3 (some .int), Cond.fieldLink RX2 122 "SetRepairs$Books" "billsPaid" "I", Cond.fieldLink RX2 128 "SetRepairs$Books" "feesPaid" "I", Cond.methodLink RX2 119 yX2_storageFee, Cond.instanceMethod yX2_storageFee, Cond.selects RX2 yX2_storageFee yX2_storageFee, Cond.code yX2_storageFee cX2_storageFee 3 (some .int), Cond.methodLink RL 90 yX6_setPart, Cond.instanceMethod yX6_setPart, Cond.selects RX6 yX6_setPart yX6_setPart]
def wsL_law_r15 : List Cond := [Cond.code yX6_setPart cX6_setPart 5 (some .int), Cond.constant RX6 86 (50000), Cond.fieldLink RX6 91 "SetRepairs$Store" "price" "[I", Cond.methodLink RL 94 yX6_setNumber, Cond.instanceMethod yX6_setNumber, Cond.selects RX6 yX6_setNumber yX6_setNumber, Cond.code yX6_setNumber cX6_setNumber 4 (some .int), Cond.fieldLink RX6 67 "SetRepairs" "LOWEST_NUMBER" "[I", Cond.fieldLink RX6 70 "SetRepairs" "HIGHEST_NUMBER" "[I", Cond.fieldLink RX6 83 "SetRepairs$Desk" "numbers" "[I", Cond.methodLink RX6 77 yX4_withLoaner, Cond.methodLink RL 98 yX6_setRate, Cond.instanceMethod yX6_setRate, Cond.selects RX6 yX6_setRate yX6_setRate, Cond.code yX6_setRate cX6_setRate 4 (some .int), Cond.fieldLink RX6 44 "SetRepairs" "LOWEST_RATE_BITS" "[I", Cond.fieldLink RX6 48 "SetRepairs" "HIGHEST_RATE_BITS" "[I", Cond.fieldLink RX6 59 "SetRepairs$Desk" "rates" "[F", Cond.methodLink RX6 55 yX6_floatOf, Cond.static yX6_floatOf, Cond.code yX6_floatOf cX6_floatOf 5 (some .float), Cond.constant RX6 237 (8388607), Cond.constant RX6 238 (8388608), Cond.methodLink RL 101 yX6_undo]
def wsL_law_r16 : List Cond := [Cond.instanceMethod yX6_undo, Cond.selects RX6 yX6_undo yX6_undo, Cond.code yX6_undo cX6_undo 1 (some .int), Cond.methodLink RX6 188 yX3_giveBack, Cond.instanceMethod yX3_giveBack, Cond.selects RX3 yX3_giveBack yX3_giveBack, Cond.code yX3_giveBack cX3_giveBack 2 none, Cond.methodLink RL 105 yX6_keep, Cond.instanceMethod yX6_keep, Cond.selects RX6 yX6_keep yX6_keep, Cond.code yX6_keep cX6_keep 1 (some .int), Cond.methodLink RL 108 yX6_restore, Cond.instanceMethod yX6_restore, Cond.selects RX6 yX6_restore yX6_restore, Cond.code yX6_restore cX6_restore 1 (some .int), Cond.methodLink RL 111 yX6_pass, Cond.instanceMethod yX6_pass, Cond.selects RX6 yX6_pass yX6_pass, Cond.code yX6_pass cX6_pass 4 (some .int), Cond.fieldLink RX6 172 "SetRepairs$Books" "setsDone" "I", Cond.methodLink RL 38 yX6_set, Cond.instanceMethod yX6_set, Cond.selects RX6 yX6_set yX6_set, Cond.code yX6_set cX6_set 3 (some .int)]
def wsL_law_r17 : List Cond := [Cond.fieldLink RX6 201 "SetRepairs$Sets" "came" "[I", Cond.fieldLink RX6 204 "SetRepairs$Sets" "worked" "[I", Cond.fieldLink RX6 207 "SetRepairs$Sets" "bill" "[I", Cond.fieldLink RX6 210 "SetRepairs$Sets" "ready" "[I", Cond.methodLink RX6 213 yX2_storageFee, Cond.methodLink RL 119 yL_desk, Cond.static yL_desk, Cond.code yL_desk cL_desk 8 (some .boolean), Cond.methodLink RL 9 yL_need, Cond.static yL_need, Cond.code yL_need cL_need 2 (some .int), Cond.methodLink RL 15 yX6_part, Cond.instanceMethod yX6_part, Cond.selects RX6 yX6_part yX6_part, Cond.code yX6_part cX6_part 3 (some .int), Cond.fieldLink RX6 192 "SetRepairs$Store" "reserved" "[I", Cond.methodLink RX6 195 yX5_onOrder, Cond.instanceMethod yX5_onOrder, Cond.selects RX5 yX5_onOrder yX5_onOrder, Cond.code yX5_onOrder cX5_onOrder 4 (some .int), Cond.methodLink RX6 198 yX2_lackingOf, Cond.instanceMethod yX2_lackingOf, Cond.selects RX2 yX2_lackingOf yX2_lackingOf, Cond.code yX2_lackingOf cX2_lackingOf 4 (some .int)]
def wsL_law_r18 : List Cond := [Cond.methodLink RX2 97 Lib.Math.max.name, Cond.static Lib.Math.max.name, Cond.code Lib.Math.max.name Lib.Math.max.code 2 (some .int), Cond.methodLink RX2 87 yX5_needOf, Cond.methodLink RX2 91 yX5_free, Cond.methodLink RX2 94 yX5_onOrder, Cond.methodLink RL 28 yL_hours, Cond.static yL_hours, Cond.code yL_hours cL_hours 1 (some .int), Cond.methodLink RL 41 yX6_lacks, Cond.instanceMethod yX6_lacks, Cond.selects RX6 yX6_lacks yX6_lacks, Cond.code yX6_lacks cX6_lacks 2 (some .int), Cond.methodLink RX6 219 yX5_lowestShort, Cond.methodLink RL 47 yX6_waitsFor, Cond.instanceMethod yX6_waitsFor, Cond.selects RX6 yX6_waitsFor yX6_waitsFor, Cond.code yX6_waitsFor cX6_waitsFor 2 (some .int), Cond.methodLink RX6 216 yX5_isEnoughOrdered, Cond.instanceMethod yX5_isEnoughOrdered, Cond.selects RX5 yX5_isEnoughOrdered yX5_isEnoughOrdered, Cond.code yX5_isEnoughOrdered cX5_isEnoughOrdered 3 (some .boolean), Cond.methodLink RX5 54 yX5_onOrder, Cond.methodLink RL 32 yX6_number]
def wsL_law_r19 : List Cond := [Cond.instanceMethod yX6_number, Cond.selects RX6 yX6_number yX6_number, Cond.code yX6_number cX6_number 2 (some .int), Cond.methodLink RL 50 yX6_costOf, Cond.instanceMethod yX6_costOf, Cond.selects RX6 yX6_costOf yX6_costOf, Cond.code yX6_costOf cX6_costOf 2 (some .int), Cond.methodLink RL 53 yL_cost, Cond.static yL_cost, Cond.code yL_cost cL_cost 3 (some .int), Cond.methodLink RL 20 yL_prices, Cond.static yL_prices, Cond.code yL_prices cL_prices 4 (some .int), Cond.methodLink RL 24 yX6_rate, Cond.instanceMethod yX6_rate, Cond.selects RX6 yX6_rate yX6_rate, Cond.code yX6_rate cX6_rate 2 (some .float), Cond.constantFloat RX6 191 (2143289344), Cond.methodLink RL 56 yX6_meanDays, Cond.instanceMethod yX6_meanDays, Cond.selects RX6 yX6_meanDays yX6_meanDays, Cond.code yX6_meanDays cX6_meanDays 2 (some .float), Cond.fieldLink RX6 222 "SetRepairs$Books" "daysToDone" "I"]
def wsL_law : List Cond := (wsL_law_r1 ++ (wsL_law_r2 ++ (wsL_law_r3 ++ (wsL_law_r4 ++ (wsL_law_r5 ++ (wsL_law_r6 ++ (wsL_law_r7 ++ (wsL_law_r8 ++ (wsL_law_r9 ++ (wsL_law_r10 ++ (wsL_law_r11 ++ (wsL_law_r12 ++ (wsL_law_r13 ++ (wsL_law_r14 ++ (wsL_law_r15 ++ (wsL_law_r16 ++ (wsL_law_r17 ++ (wsL_law_r18 ++ wsL_law_r19)))))))))))))))))) ++ wsX60 ++ wsX20 ++ wsX30 ++ wsX00 ++ wsX50 ++ wsX40 ++ wsX10 ++ ([] : List Cond)
theorem inlX0 : ∀ w ∈ wsX00, w ∈ wsL_law := fun _ h => List.mem_append_left _ (List.mem_append_left _ (List.mem_append_left _ (List.mem_append_left _ (List.mem_append_right _ h))))
theorem inlX1 : ∀ w ∈ wsX10, w ∈ wsL_law := fun _ h => List.mem_append_left _ (List.mem_append_right _ h)
theorem inlX2 : ∀ w ∈ wsX20, w ∈ wsL_law := fun _ h => List.mem_append_left _ (List.mem_append_left _ (List.mem_append_left _ (List.mem_append_left _ (List.mem_append_left _ (List.mem_append_left _ (List.mem_append_right _ h))))))
theorem inlX3 : ∀ w ∈ wsX30, w ∈ wsL_law := fun _ h => List.mem_append_left _ (List.mem_append_left _ (List.mem_append_left _ (List.mem_append_left _ (List.mem_append_left _ (List.mem_append_right _ h)))))
theorem inlX4 : ∀ w ∈ wsX40, w ∈ wsL_law := fun _ h => List.mem_append_left _ (List.mem_append_left _ (List.mem_append_right _ h))
theorem inlX5 : ∀ w ∈ wsX50, w ∈ wsL_law := fun _ h => List.mem_append_left _ (List.mem_append_left _ (List.mem_append_left _ (List.mem_append_right _ h)))
theorem inlX6 : ∀ w ∈ wsX60, w ∈ wsL_law := fun _ h => List.mem_append_left _ (List.mem_append_left _ (List.mem_append_left _ (List.mem_append_left _ (List.mem_append_left _ (List.mem_append_left _ (List.mem_append_left _ (List.mem_append_right _ h)))))))
abbrev vwCl : List vw_C := [(RX0, TX0, 2), (RX1, TX1, 6), (RX2, TX2, 6), (RX3, TX3, 2), (RX4, TX4, 9), (RX5, TX5, 8), (RX6, TX6, 6)]
end
section
theorem dX0_init_0 : decode cX0_init 0 = .ok (.aload_n 0, 1) := by decide +kernel
theorem dX0_init_1 : decode cX0_init 1 = .ok (.invokespecial 3, 3) := by decide +kernel
theorem dX0_init_4 : decode cX0_init 4 = .ok (.aload_n 0, 1) := by decide +kernel
theorem dX0_init_5 : decode cX0_init 5 = .ok (.iconst 0, 1) := by decide +kernel
theorem dX0_init_6 : decode cX0_init 6 = .ok (.putfield 9, 3) := by decide +kernel
theorem dX0_init_9 : decode cX0_init 9 = .ok (.aload_n 0, 1) := by decide +kernel
theorem dX0_init_10 : decode cX0_init 10 = .ok (.bipush 60, 2) := by decide +kernel
theorem dX0_init_12 : decode cX0_init 12 = .ok (.newarray .char, 2) := by decide +kernel
theorem dX0_init_14 : decode cX0_init 14 = .ok (.putfield 15, 3) := by decide +kernel
theorem dX0_init_17 : decode cX0_init 17 = .ok (.return_, 1) := by decide +kernel
theorem dX1_init_0 : decode cX1_init 0 = .ok (.aload_n 0, 1) := by decide +kernel
theorem dX1_init_1 : decode cX1_init 1 = .ok (.invokespecial 1, 3) := by decide +kernel
theorem dX1_init_4 : decode cX1_init 4 = .ok (.return_, 1) := by decide +kernel
theorem dX1_copyFrom_0 : decode cX1_copyFrom 0 = .ok (.aload_n 0, 1) := by decide +kernel
theorem dX1_copyFrom_1 : decode cX1_copyFrom 1 = .ok (.aload_n 1, 1) := by decide +kernel
theorem dX1_copyFrom_2 : decode cX1_copyFrom 2 = .ok (.getfield 7, 3) := by decide +kernel
theorem dX1_copyFrom_5 : decode cX1_copyFrom 5 = .ok (.putfield 7, 3) := by decide +kernel
theorem dX1_copyFrom_8 : decode cX1_copyFrom 8 = .ok (.aload_n 0, 1) := by decide +kernel
theorem dX1_copyFrom_9 : decode cX1_copyFrom 9 = .ok (.aload_n 1, 1) := by decide +kernel
theorem dX1_copyFrom_10 : decode cX1_copyFrom 10 = .ok (.getfield 13, 3) := by decide +kernel
theorem dX1_copyFrom_13 : decode cX1_copyFrom 13 = .ok (.putfield 13, 3) := by decide +kernel
theorem dX1_copyFrom_16 : decode cX1_copyFrom 16 = .ok (.aload_n 0, 1) := by decide +kernel
theorem dX1_copyFrom_17 : decode cX1_copyFrom 17 = .ok (.aload_n 1, 1) := by decide +kernel
theorem dX1_copyFrom_18 : decode cX1_copyFrom 18 = .ok (.getfield 16, 3) := by decide +kernel
theorem dX1_copyFrom_21 : decode cX1_copyFrom 21 = .ok (.putfield 16, 3) := by decide +kernel
theorem dX1_copyFrom_24 : decode cX1_copyFrom 24 = .ok (.aload_n 0, 1) := by decide +kernel
theorem dX1_copyFrom_25 : decode cX1_copyFrom 25 = .ok (.aload_n 1, 1) := by decide +kernel
theorem dX1_copyFrom_26 : decode cX1_copyFrom 26 = .ok (.getfield 19, 3) := by decide +kernel
theorem dX1_copyFrom_29 : decode cX1_copyFrom 29 = .ok (.putfield 19, 3) := by decide +kernel
theorem dX1_copyFrom_32 : decode cX1_copyFrom 32 = .ok (.aload_n 0, 1) := by decide +kernel
theorem dX1_copyFrom_33 : decode cX1_copyFrom 33 = .ok (.aload_n 1, 1) := by decide +kernel
theorem dX1_copyFrom_34 : decode cX1_copyFrom 34 = .ok (.getfield 22, 3) := by decide +kernel
theorem dX1_copyFrom_37 : decode cX1_copyFrom 37 = .ok (.putfield 22, 3) := by decide +kernel
theorem dX1_copyFrom_40 : decode cX1_copyFrom 40 = .ok (.aload_n 0, 1) := by decide +kernel
theorem dX1_copyFrom_41 : decode cX1_copyFrom 41 = .ok (.aload_n 1, 1) := by decide +kernel
theorem dX1_copyFrom_42 : decode cX1_copyFrom 42 = .ok (.getfield 25, 3) := by decide +kernel
theorem dX1_copyFrom_45 : decode cX1_copyFrom 45 = .ok (.putfield 25, 3) := by decide +kernel
theorem dX1_copyFrom_48 : decode cX1_copyFrom 48 = .ok (.return_, 1) := by decide +kernel
theorem dX2_init_0 : decode cX2_init 0 = .ok (.aload_n 0, 1) := by decide +kernel
theorem dX2_init_1 : decode cX2_init 1 = .ok (.invokespecial 3, 3) := by decide +kernel
theorem dX2_init_4 : decode cX2_init 4 = .ok (.aload_n 0, 1) := by decide +kernel
theorem dX2_init_5 : decode cX2_init 5 = .ok (.iconst 0, 1) := by decide +kernel
theorem dX2_init_6 : decode cX2_init 6 = .ok (.putfield 9, 3) := by decide +kernel
theorem dX2_init_9 : decode cX2_init 9 = .ok (.aload_n 0, 1) := by decide +kernel
theorem dX2_init_10 : decode cX2_init 10 = .ok (.iconst 4, 1) := by decide +kernel
theorem dX2_init_11 : decode cX2_init 11 = .ok (.newarray .float, 2) := by decide +kernel
theorem dX2_init_13 : decode cX2_init 13 = .ok (.dup, 1) := by decide +kernel
theorem dX2_init_14 : decode cX2_init 14 = .ok (.iconst 0, 1) := by decide +kernel
theorem dX2_init_15 : decode cX2_init 15 = .ok (.ldc 15, 2) := by decide +kernel
theorem dX2_init_17 : decode cX2_init 17 = .ok (.fastore, 1) := by decide +kernel
theorem dX2_init_18 : decode cX2_init 18 = .ok (.dup, 1) := by decide +kernel
theorem dX2_init_19 : decode cX2_init 19 = .ok (.iconst 1, 1) := by decide +kernel
theorem dX2_init_20 : decode cX2_init 20 = .ok (.ldc 16, 2) := by decide +kernel
theorem dX2_init_22 : decode cX2_init 22 = .ok (.fastore, 1) := by decide +kernel
theorem dX2_init_23 : decode cX2_init 23 = .ok (.dup, 1) := by decide +kernel
theorem dX2_init_24 : decode cX2_init 24 = .ok (.iconst 2, 1) := by decide +kernel
theorem dX2_init_25 : decode cX2_init 25 = .ok (.ldc 17, 2) := by decide +kernel
theorem dX2_init_27 : decode cX2_init 27 = .ok (.fastore, 1) := by decide +kernel
theorem dX2_init_28 : decode cX2_init 28 = .ok (.dup, 1) := by decide +kernel
theorem dX2_init_29 : decode cX2_init 29 = .ok (.iconst 3, 1) := by decide +kernel
theorem dX2_init_30 : decode cX2_init 30 = .ok (.ldc 18, 2) := by decide +kernel
theorem dX2_init_32 : decode cX2_init 32 = .ok (.fastore, 1) := by decide +kernel
theorem dX2_init_33 : decode cX2_init 33 = .ok (.putfield 19, 3) := by decide +kernel
theorem dX2_init_36 : decode cX2_init 36 = .ok (.aload_n 0, 1) := by decide +kernel
theorem dX2_init_37 : decode cX2_init 37 = .ok (.iconst 5, 1) := by decide +kernel
theorem dX2_init_38 : decode cX2_init 38 = .ok (.newarray .int, 2) := by decide +kernel
theorem dX2_init_40 : decode cX2_init 40 = .ok (.dup, 1) := by decide +kernel
theorem dX2_init_41 : decode cX2_init 41 = .ok (.iconst 0, 1) := by decide +kernel
theorem dX2_init_42 : decode cX2_init 42 = .ok (.bipush 8, 2) := by decide +kernel
theorem dX2_init_44 : decode cX2_init 44 = .ok (.iastore, 1) := by decide +kernel
theorem dX2_init_45 : decode cX2_init 45 = .ok (.dup, 1) := by decide +kernel
theorem dX2_init_46 : decode cX2_init 46 = .ok (.iconst 1, 1) := by decide +kernel
theorem dX2_init_47 : decode cX2_init 47 = .ok (.sipush 4500, 3) := by decide +kernel
theorem dX2_init_50 : decode cX2_init 50 = .ok (.iastore, 1) := by decide +kernel
theorem dX2_init_51 : decode cX2_init 51 = .ok (.dup, 1) := by decide +kernel
theorem dX2_init_52 : decode cX2_init 52 = .ok (.iconst 2, 1) := by decide +kernel
theorem dX2_init_53 : decode cX2_init 53 = .ok (.bipush 7, 2) := by decide +kernel
theorem dX2_init_55 : decode cX2_init 55 = .ok (.iastore, 1) := by decide +kernel
theorem dX2_init_56 : decode cX2_init 56 = .ok (.dup, 1) := by decide +kernel
theorem dX2_init_57 : decode cX2_init 57 = .ok (.iconst 3, 1) := by decide +kernel
theorem dX2_init_58 : decode cX2_init 58 = .ok (.bipush 90, 2) := by decide +kernel
theorem dX2_init_60 : decode cX2_init 60 = .ok (.iastore, 1) := by decide +kernel
theorem dX2_init_61 : decode cX2_init 61 = .ok (.dup, 1) := by decide +kernel
theorem dX2_init_62 : decode cX2_init 62 = .ok (.iconst 4, 1) := by decide +kernel
theorem dX2_init_63 : decode cX2_init 63 = .ok (.iconst 2, 1) := by decide +kernel
theorem dX2_init_64 : decode cX2_init 64 = .ok (.iastore, 1) := by decide +kernel
theorem dX2_init_65 : decode cX2_init 65 = .ok (.putfield 23, 3) := by decide +kernel
theorem dX2_init_68 : decode cX2_init 68 = .ok (.aload_n 0, 1) := by decide +kernel
theorem dX2_init_69 : decode cX2_init 69 = .ok (.new 27, 3) := by decide +kernel
theorem dX2_init_72 : decode cX2_init 72 = .ok (.dup, 1) := by decide +kernel
theorem dX2_init_73 : decode cX2_init 73 = .ok (.invokespecial 29, 3) := by decide +kernel
theorem dX2_init_76 : decode cX2_init 76 = .ok (.putfield 30, 3) := by decide +kernel
theorem dX2_init_79 : decode cX2_init 79 = .ok (.aload_n 0, 1) := by decide +kernel
theorem dX2_init_80 : decode cX2_init 80 = .ok (.new 34, 3) := by decide +kernel
theorem dX2_init_83 : decode cX2_init 83 = .ok (.dup, 1) := by decide +kernel
theorem dX2_init_84 : decode cX2_init 84 = .ok (.invokespecial 36, 3) := by decide +kernel
theorem dX2_init_87 : decode cX2_init 87 = .ok (.putfield 37, 3) := by decide +kernel
theorem dX2_init_90 : decode cX2_init 90 = .ok (.aload_n 0, 1) := by decide +kernel
theorem dX2_init_91 : decode cX2_init 91 = .ok (.new 41, 3) := by decide +kernel
theorem dX2_init_94 : decode cX2_init 94 = .ok (.dup, 1) := by decide +kernel
theorem dX2_init_95 : decode cX2_init 95 = .ok (.invokespecial 43, 3) := by decide +kernel
theorem dX2_init_98 : decode cX2_init 98 = .ok (.putfield 44, 3) := by decide +kernel
theorem dX2_init_101 : decode cX2_init 101 = .ok (.return_, 1) := by decide +kernel
theorem dX2_copyFrom_0 : decode cX2_copyFrom 0 = .ok (.aload_n 0, 1) := by decide +kernel
theorem dX2_copyFrom_1 : decode cX2_copyFrom 1 = .ok (.aload_n 1, 1) := by decide +kernel
theorem dX2_copyFrom_2 : decode cX2_copyFrom 2 = .ok (.getfield 9, 3) := by decide +kernel
theorem dX2_copyFrom_5 : decode cX2_copyFrom 5 = .ok (.putfield 9, 3) := by decide +kernel
theorem dX2_copyFrom_8 : decode cX2_copyFrom 8 = .ok (.aload_n 1, 1) := by decide +kernel
theorem dX2_copyFrom_9 : decode cX2_copyFrom 9 = .ok (.getfield 19, 3) := by decide +kernel
theorem dX2_copyFrom_12 : decode cX2_copyFrom 12 = .ok (.iconst 0, 1) := by decide +kernel
theorem dX2_copyFrom_13 : decode cX2_copyFrom 13 = .ok (.aload_n 0, 1) := by decide +kernel
theorem dX2_copyFrom_14 : decode cX2_copyFrom 14 = .ok (.getfield 19, 3) := by decide +kernel
theorem dX2_copyFrom_17 : decode cX2_copyFrom 17 = .ok (.iconst 0, 1) := by decide +kernel
theorem dX2_copyFrom_18 : decode cX2_copyFrom 18 = .ok (.iconst 4, 1) := by decide +kernel
theorem dX2_copyFrom_19 : decode cX2_copyFrom 19 = .ok (.invokestatic 48, 3) := by decide +kernel
theorem dX2_copyFrom_22 : decode cX2_copyFrom 22 = .ok (.aload_n 1, 1) := by decide +kernel
theorem dX2_copyFrom_23 : decode cX2_copyFrom 23 = .ok (.getfield 23, 3) := by decide +kernel
theorem dX2_copyFrom_26 : decode cX2_copyFrom 26 = .ok (.iconst 0, 1) := by decide +kernel
theorem dX2_copyFrom_27 : decode cX2_copyFrom 27 = .ok (.aload_n 0, 1) := by decide +kernel
theorem dX2_copyFrom_28 : decode cX2_copyFrom 28 = .ok (.getfield 23, 3) := by decide +kernel
theorem dX2_copyFrom_31 : decode cX2_copyFrom 31 = .ok (.iconst 0, 1) := by decide +kernel
theorem dX2_copyFrom_32 : decode cX2_copyFrom 32 = .ok (.iconst 5, 1) := by decide +kernel
theorem dX2_copyFrom_33 : decode cX2_copyFrom 33 = .ok (.invokestatic 48, 3) := by decide +kernel
theorem dX2_copyFrom_36 : decode cX2_copyFrom 36 = .ok (.aload_n 0, 1) := by decide +kernel
theorem dX2_copyFrom_37 : decode cX2_copyFrom 37 = .ok (.getfield 30, 3) := by decide +kernel
theorem dX2_copyFrom_40 : decode cX2_copyFrom 40 = .ok (.aload_n 1, 1) := by decide +kernel
theorem dX2_copyFrom_41 : decode cX2_copyFrom 41 = .ok (.getfield 30, 3) := by decide +kernel
theorem dX2_copyFrom_44 : decode cX2_copyFrom 44 = .ok (.invokevirtual 54, 3) := by decide +kernel
theorem dX2_copyFrom_47 : decode cX2_copyFrom 47 = .ok (.aload_n 0, 1) := by decide +kernel
theorem dX2_copyFrom_48 : decode cX2_copyFrom 48 = .ok (.getfield 37, 3) := by decide +kernel
theorem dX2_copyFrom_51 : decode cX2_copyFrom 51 = .ok (.aload_n 1, 1) := by decide +kernel
theorem dX2_copyFrom_52 : decode cX2_copyFrom 52 = .ok (.getfield 37, 3) := by decide +kernel
theorem dX2_copyFrom_55 : decode cX2_copyFrom 55 = .ok (.invokevirtual 58, 3) := by decide +kernel
theorem dX2_copyFrom_58 : decode cX2_copyFrom 58 = .ok (.aload_n 0, 1) := by decide +kernel
theorem dX2_copyFrom_59 : decode cX2_copyFrom 59 = .ok (.getfield 44, 3) := by decide +kernel
theorem dX2_copyFrom_62 : decode cX2_copyFrom 62 = .ok (.aload_n 1, 1) := by decide +kernel
theorem dX2_copyFrom_63 : decode cX2_copyFrom 63 = .ok (.getfield 44, 3) := by decide +kernel
theorem dX2_copyFrom_66 : decode cX2_copyFrom 66 = .ok (.invokevirtual 61, 3) := by decide +kernel
theorem dX2_copyFrom_69 : decode cX2_copyFrom 69 = .ok (.return_, 1) := by decide +kernel
theorem dX2_costNow_0 : decode cX2_costNow 0 = .ok (.aload_n 0, 1) := by decide +kernel
theorem dX2_costNow_1 : decode cX2_costNow 1 = .ok (.getfield 30, 3) := by decide +kernel
theorem dX2_costNow_4 : decode cX2_costNow 4 = .ok (.iload_n 1, 1) := by decide +kernel
theorem dX2_costNow_5 : decode cX2_costNow 5 = .ok (.invokevirtual 64, 3) := by decide +kernel
theorem dX2_costNow_8 : decode cX2_costNow 8 = .ok (.i2f, 1) := by decide +kernel
theorem dX2_costNow_9 : decode cX2_costNow 9 = .ok (.aload_n 0, 1) := by decide +kernel
theorem dX2_costNow_10 : decode cX2_costNow 10 = .ok (.getfield 19, 3) := by decide +kernel
theorem dX2_costNow_13 : decode cX2_costNow 13 = .ok (.iconst 0, 1) := by decide +kernel
theorem dX2_costNow_14 : decode cX2_costNow 14 = .ok (.faload, 1) := by decide +kernel
theorem dX2_costNow_15 : decode cX2_costNow 15 = .ok (.fmul, 1) := by decide +kernel
theorem dX2_costNow_16 : decode cX2_costNow 16 = .ok (.fstore_n 2, 1) := by decide +kernel
theorem dX2_costNow_17 : decode cX2_costNow 17 = .ok (.getstatic 68, 3) := by decide +kernel
theorem dX2_costNow_20 : decode cX2_costNow 20 = .ok (.iload_n 1, 1) := by decide +kernel
theorem dX2_costNow_21 : decode cX2_costNow 21 = .ok (.iaload, 1) := by decide +kernel
theorem dX2_costNow_22 : decode cX2_costNow 22 = .ok (.aload_n 0, 1) := by decide +kernel
theorem dX2_costNow_23 : decode cX2_costNow 23 = .ok (.getfield 23, 3) := by decide +kernel
theorem dX2_costNow_26 : decode cX2_costNow 26 = .ok (.iconst 1, 1) := by decide +kernel
theorem dX2_costNow_27 : decode cX2_costNow 27 = .ok (.iaload, 1) := by decide +kernel
theorem dX2_costNow_28 : decode cX2_costNow 28 = .ok (.imul, 1) := by decide +kernel
theorem dX2_costNow_29 : decode cX2_costNow 29 = .ok (.i2f, 1) := by decide +kernel
theorem dX2_costNow_30 : decode cX2_costNow 30 = .ok (.fstore_n 3, 1) := by decide +kernel
theorem dX2_costNow_31 : decode cX2_costNow 31 = .ok (.fload_n 2, 1) := by decide +kernel
theorem dX2_costNow_32 : decode cX2_costNow 32 = .ok (.fload_n 3, 1) := by decide +kernel
theorem dX2_costNow_33 : decode cX2_costNow 33 = .ok (.fadd, 1) := by decide +kernel
theorem dX2_costNow_34 : decode cX2_costNow 34 = .ok (.f2i, 1) := by decide +kernel
theorem dX2_costNow_35 : decode cX2_costNow 35 = .ok (.ireturn, 1) := by decide +kernel
theorem dX2_loanersThere_0 : decode cX2_loanersThere 0 = .ok (.aload_n 0, 1) := by decide +kernel
theorem dX2_loanersThere_1 : decode cX2_loanersThere 1 = .ok (.getfield 23, 3) := by decide +kernel
theorem dX2_loanersThere_4 : decode cX2_loanersThere 4 = .ok (.iconst 4, 1) := by decide +kernel
theorem dX2_loanersThere_5 : decode cX2_loanersThere 5 = .ok (.iaload, 1) := by decide +kernel
theorem dX2_loanersThere_6 : decode cX2_loanersThere 6 = .ok (.aload_n 0, 1) := by decide +kernel
theorem dX2_loanersThere_7 : decode cX2_loanersThere 7 = .ok (.getfield 37, 3) := by decide +kernel
theorem dX2_loanersThere_10 : decode cX2_loanersThere 10 = .ok (.invokevirtual 71, 3) := by decide +kernel
theorem dX2_loanersThere_13 : decode cX2_loanersThere 13 = .ok (.isub, 1) := by decide +kernel
theorem dX2_loanersThere_14 : decode cX2_loanersThere 14 = .ok (.ireturn, 1) := by decide +kernel
theorem dX2_storageFee_0 : decode cX2_storageFee 0 = .ok (.aload_n 0, 1) := by decide +kernel
theorem dX2_storageFee_1 : decode cX2_storageFee 1 = .ok (.getfield 9, 3) := by decide +kernel
theorem dX2_storageFee_4 : decode cX2_storageFee 4 = .ok (.aload_n 0, 1) := by decide +kernel
theorem dX2_storageFee_5 : decode cX2_storageFee 5 = .ok (.getfield 37, 3) := by decide +kernel
theorem dX2_storageFee_8 : decode cX2_storageFee 8 = .ok (.getfield 75, 3) := by decide +kernel
theorem dX2_storageFee_11 : decode cX2_storageFee 11 = .ok (.iload_n 1, 1) := by decide +kernel
theorem dX2_storageFee_12 : decode cX2_storageFee 12 = .ok (.iaload, 1) := by decide +kernel
theorem dX2_storageFee_13 : decode cX2_storageFee 13 = .ok (.isub, 1) := by decide +kernel
theorem dX2_storageFee_14 : decode cX2_storageFee 14 = .ok (.aload_n 0, 1) := by decide +kernel
theorem dX2_storageFee_15 : decode cX2_storageFee 15 = .ok (.getfield 23, 3) := by decide +kernel
theorem dX2_storageFee_18 : decode cX2_storageFee 18 = .ok (.iconst 2, 1) := by decide +kernel
theorem dX2_storageFee_19 : decode cX2_storageFee 19 = .ok (.iaload, 1) := by decide +kernel
theorem dX2_storageFee_20 : decode cX2_storageFee 20 = .ok (.isub, 1) := by decide +kernel
theorem dX2_storageFee_21 : decode cX2_storageFee 21 = .ok (.istore_n 2, 1) := by decide +kernel
theorem dX2_storageFee_22 : decode cX2_storageFee 22 = .ok (.iload_n 2, 1) := by decide +kernel
theorem dX2_storageFee_23 : decode cX2_storageFee 23 = .ok (.ifCond .gt 7, 3) := by decide +kernel
theorem dX2_storageFee_26 : decode cX2_storageFee 26 = .ok (.iconst 0, 1) := by decide +kernel
theorem dX2_storageFee_27 : decode cX2_storageFee 27 = .ok (.goto 13, 3) := by decide +kernel
theorem dX2_storageFee_30 : decode cX2_storageFee 30 = .ok (.iload_n 2, 1) := by decide +kernel
theorem dX2_storageFee_31 : decode cX2_storageFee 31 = .ok (.i2f, 1) := by decide +kernel
theorem dX2_storageFee_32 : decode cX2_storageFee 32 = .ok (.aload_n 0, 1) := by decide +kernel
theorem dX2_storageFee_33 : decode cX2_storageFee 33 = .ok (.getfield 19, 3) := by decide +kernel
theorem dX2_storageFee_36 : decode cX2_storageFee 36 = .ok (.iconst 2, 1) := by decide +kernel
theorem dX2_storageFee_37 : decode cX2_storageFee 37 = .ok (.faload, 1) := by decide +kernel
theorem dX2_storageFee_38 : decode cX2_storageFee 38 = .ok (.fmul, 1) := by decide +kernel
theorem dX2_storageFee_39 : decode cX2_storageFee 39 = .ok (.f2i, 1) := by decide +kernel
theorem dX2_storageFee_40 : decode cX2_storageFee 40 = .ok (.ireturn, 1) := by decide +kernel
theorem dX2_lackingOf_0 : decode cX2_lackingOf 0 = .ok (.iconst 0, 1) := by decide +kernel
theorem dX2_lackingOf_1 : decode cX2_lackingOf 1 = .ok (.istore_n 2, 1) := by decide +kernel
theorem dX2_lackingOf_2 : decode cX2_lackingOf 2 = .ok (.iconst 0, 1) := by decide +kernel
theorem dX2_lackingOf_3 : decode cX2_lackingOf 3 = .ok (.istore_n 3, 1) := by decide +kernel
theorem dX2_lackingOf_4 : decode cX2_lackingOf 4 = .ok (.iload_n 3, 1) := by decide +kernel
theorem dX2_lackingOf_5 : decode cX2_lackingOf 5 = .ok (.aload_n 0, 1) := by decide +kernel
theorem dX2_lackingOf_6 : decode cX2_lackingOf 6 = .ok (.getfield 37, 3) := by decide +kernel
theorem dX2_lackingOf_9 : decode cX2_lackingOf 9 = .ok (.getfield 78, 3) := by decide +kernel
theorem dX2_lackingOf_12 : decode cX2_lackingOf 12 = .ok (.if_icmp .ge 38, 3) := by decide +kernel
theorem dX2_lackingOf_15 : decode cX2_lackingOf 15 = .ok (.aload_n 0, 1) := by decide +kernel
theorem dX2_lackingOf_16 : decode cX2_lackingOf 16 = .ok (.getfield 37, 3) := by decide +kernel
theorem dX2_lackingOf_19 : decode cX2_lackingOf 19 = .ok (.getfield 81, 3) := by decide +kernel
theorem dX2_lackingOf_22 : decode cX2_lackingOf 22 = .ok (.iload_n 3, 1) := by decide +kernel
theorem dX2_lackingOf_23 : decode cX2_lackingOf 23 = .ok (.iaload, 1) := by decide +kernel
theorem dX2_lackingOf_24 : decode cX2_lackingOf 24 = .ok (.iconst 2, 1) := by decide +kernel
theorem dX2_lackingOf_25 : decode cX2_lackingOf 25 = .ok (.if_icmp .ne 19, 3) := by decide +kernel
theorem dX2_lackingOf_28 : decode cX2_lackingOf 28 = .ok (.iload_n 2, 1) := by decide +kernel
theorem dX2_lackingOf_29 : decode cX2_lackingOf 29 = .ok (.aload_n 0, 1) := by decide +kernel
theorem dX2_lackingOf_30 : decode cX2_lackingOf 30 = .ok (.getfield 37, 3) := by decide +kernel
theorem dX2_lackingOf_33 : decode cX2_lackingOf 33 = .ok (.getfield 84, 3) := by decide +kernel
theorem dX2_lackingOf_36 : decode cX2_lackingOf 36 = .ok (.iload_n 3, 1) := by decide +kernel
theorem dX2_lackingOf_37 : decode cX2_lackingOf 37 = .ok (.iaload, 1) := by decide +kernel
theorem dX2_lackingOf_38 : decode cX2_lackingOf 38 = .ok (.iload_n 1, 1) := by decide +kernel
theorem dX2_lackingOf_39 : decode cX2_lackingOf 39 = .ok (.invokestatic 87, 3) := by decide +kernel
theorem dX2_lackingOf_42 : decode cX2_lackingOf 42 = .ok (.iadd, 1) := by decide +kernel
theorem dX2_lackingOf_43 : decode cX2_lackingOf 43 = .ok (.istore_n 2, 1) := by decide +kernel
theorem dX2_lackingOf_44 : decode cX2_lackingOf 44 = .ok (.iinc 3 1, 3) := by decide +kernel
theorem dX2_lackingOf_47 : decode cX2_lackingOf 47 = .ok (.goto (-43), 3) := by decide +kernel
theorem dX2_lackingOf_50 : decode cX2_lackingOf 50 = .ok (.iconst 0, 1) := by decide +kernel
theorem dX2_lackingOf_51 : decode cX2_lackingOf 51 = .ok (.iload_n 2, 1) := by decide +kernel
theorem dX2_lackingOf_52 : decode cX2_lackingOf 52 = .ok (.aload_n 0, 1) := by decide +kernel
theorem dX2_lackingOf_53 : decode cX2_lackingOf 53 = .ok (.getfield 30, 3) := by decide +kernel
theorem dX2_lackingOf_56 : decode cX2_lackingOf 56 = .ok (.iload_n 1, 1) := by decide +kernel
theorem dX2_lackingOf_57 : decode cX2_lackingOf 57 = .ok (.invokevirtual 91, 3) := by decide +kernel
theorem dX2_lackingOf_60 : decode cX2_lackingOf 60 = .ok (.isub, 1) := by decide +kernel
theorem dX2_lackingOf_61 : decode cX2_lackingOf 61 = .ok (.aload_n 0, 1) := by decide +kernel
theorem dX2_lackingOf_62 : decode cX2_lackingOf 62 = .ok (.getfield 30, 3) := by decide +kernel
theorem dX2_lackingOf_65 : decode cX2_lackingOf 65 = .ok (.iload_n 1, 1) := by decide +kernel
theorem dX2_lackingOf_66 : decode cX2_lackingOf 66 = .ok (.invokevirtual 94, 3) := by decide +kernel
theorem dX2_lackingOf_69 : decode cX2_lackingOf 69 = .ok (.isub, 1) := by decide +kernel
theorem dX2_lackingOf_70 : decode cX2_lackingOf 70 = .ok (.invokestatic 97, 3) := by decide +kernel
theorem dX2_lackingOf_73 : decode cX2_lackingOf 73 = .ok (.ireturn, 1) := by decide +kernel
theorem dX2_decide_0 : decode cX2_decide 0 = .ok (.iload_n 2, 1) := by decide +kernel
theorem dX2_decide_1 : decode cX2_decide 1 = .ok (.ifCond .eq 20, 3) := by decide +kernel
theorem dX2_decide_4 : decode cX2_decide 4 = .ok (.aload_n 0, 1) := by decide +kernel
theorem dX2_decide_5 : decode cX2_decide 5 = .ok (.getfield 37, 3) := by decide +kernel
theorem dX2_decide_8 : decode cX2_decide 8 = .ok (.getfield 81, 3) := by decide +kernel
theorem dX2_decide_11 : decode cX2_decide 11 = .ok (.iload_n 1, 1) := by decide +kernel
theorem dX2_decide_12 : decode cX2_decide 12 = .ok (.iconst 2, 1) := by decide +kernel
theorem dX2_decide_13 : decode cX2_decide 13 = .ok (.iastore, 1) := by decide +kernel
theorem dX2_decide_14 : decode cX2_decide 14 = .ok (.aload_n 0, 1) := by decide +kernel
theorem dX2_decide_15 : decode cX2_decide 15 = .ok (.invokevirtual 102, 3) := by decide +kernel
theorem dX2_decide_18 : decode cX2_decide 18 = .ok (.goto 26, 3) := by decide +kernel
theorem dX2_decide_21 : decode cX2_decide 21 = .ok (.aload_n 0, 1) := by decide +kernel
theorem dX2_decide_22 : decode cX2_decide 22 = .ok (.getfield 37, 3) := by decide +kernel
theorem dX2_decide_25 : decode cX2_decide 25 = .ok (.getfield 81, 3) := by decide +kernel
theorem dX2_decide_28 : decode cX2_decide 28 = .ok (.iload_n 1, 1) := by decide +kernel
theorem dX2_decide_29 : decode cX2_decide 29 = .ok (.iconst 5, 1) := by decide +kernel
theorem dX2_decide_30 : decode cX2_decide 30 = .ok (.iastore, 1) := by decide +kernel
theorem dX2_decide_31 : decode cX2_decide 31 = .ok (.aload_n 0, 1) := by decide +kernel
theorem dX2_decide_32 : decode cX2_decide 32 = .ok (.getfield 37, 3) := by decide +kernel
theorem dX2_decide_35 : decode cX2_decide 35 = .ok (.getfield 75, 3) := by decide +kernel
theorem dX2_decide_38 : decode cX2_decide 38 = .ok (.iload_n 1, 1) := by decide +kernel
theorem dX2_decide_39 : decode cX2_decide 39 = .ok (.aload_n 0, 1) := by decide +kernel
theorem dX2_decide_40 : decode cX2_decide 40 = .ok (.getfield 9, 3) := by decide +kernel
theorem dX2_decide_43 : decode cX2_decide 43 = .ok (.iastore, 1) := by decide +kernel
theorem dX2_decide_44 : decode cX2_decide 44 = .ok (.return_, 1) := by decide +kernel
theorem dX2_reserveParts_0 : decode cX2_reserveParts 0 = .ok (.aload_n 0, 1) := by decide +kernel
theorem dX2_reserveParts_1 : decode cX2_reserveParts 1 = .ok (.iconst 1, 1) := by decide +kernel
theorem dX2_reserveParts_2 : decode cX2_reserveParts 2 = .ok (.invokevirtual 105, 3) := by decide +kernel
theorem dX2_reserveParts_5 : decode cX2_reserveParts 5 = .ok (.aload_n 0, 1) := by decide +kernel
theorem dX2_reserveParts_6 : decode cX2_reserveParts 6 = .ok (.iconst 0, 1) := by decide +kernel
theorem dX2_reserveParts_7 : decode cX2_reserveParts 7 = .ok (.invokevirtual 105, 3) := by decide +kernel
theorem dX2_reserveParts_10 : decode cX2_reserveParts 10 = .ok (.return_, 1) := by decide +kernel
theorem dX2_reservePartsWhere_0 : decode cX2_reservePartsWhere 0 = .ok (.iconst 0, 1) := by decide +kernel
theorem dX2_reservePartsWhere_1 : decode cX2_reservePartsWhere 1 = .ok (.istore_n 2, 1) := by decide +kernel
theorem dX2_reservePartsWhere_2 : decode cX2_reservePartsWhere 2 = .ok (.iload_n 2, 1) := by decide +kernel
theorem dX2_reservePartsWhere_3 : decode cX2_reservePartsWhere 3 = .ok (.aload_n 0, 1) := by decide +kernel
theorem dX2_reservePartsWhere_4 : decode cX2_reservePartsWhere 4 = .ok (.getfield 37, 3) := by decide +kernel
theorem dX2_reservePartsWhere_7 : decode cX2_reservePartsWhere 7 = .ok (.getfield 78, 3) := by decide +kernel
theorem dX2_reservePartsWhere_10 : decode cX2_reservePartsWhere 10 = .ok (.if_icmp .ge 66, 3) := by decide +kernel
theorem dX2_reservePartsWhere_13 : decode cX2_reservePartsWhere 13 = .ok (.aload_n 0, 1) := by decide +kernel
theorem dX2_reservePartsWhere_14 : decode cX2_reservePartsWhere 14 = .ok (.getfield 37, 3) := by decide +kernel
theorem dX2_reservePartsWhere_17 : decode cX2_reservePartsWhere 17 = .ok (.iload_n 2, 1) := by decide +kernel
theorem dX2_reservePartsWhere_18 : decode cX2_reservePartsWhere 18 = .ok (.iconst 2, 1) := by decide +kernel
theorem dX2_reservePartsWhere_19 : decode cX2_reservePartsWhere 19 = .ok (.iload_n 1, 1) := by decide +kernel
theorem dX2_reservePartsWhere_20 : decode cX2_reservePartsWhere 20 = .ok (.invokevirtual 109, 3) := by decide +kernel
theorem dX2_reservePartsWhere_23 : decode cX2_reservePartsWhere 23 = .ok (.ifCond .ne 6, 3) := by decide +kernel
theorem dX2_reservePartsWhere_26 : decode cX2_reservePartsWhere 26 = .ok (.goto 44, 3) := by decide +kernel
theorem dX2_reservePartsWhere_29 : decode cX2_reservePartsWhere 29 = .ok (.aload_n 0, 1) := by decide +kernel
theorem dX2_reservePartsWhere_30 : decode cX2_reservePartsWhere 30 = .ok (.getfield 37, 3) := by decide +kernel
theorem dX2_reservePartsWhere_33 : decode cX2_reservePartsWhere 33 = .ok (.getfield 84, 3) := by decide +kernel
theorem dX2_reservePartsWhere_36 : decode cX2_reservePartsWhere 36 = .ok (.iload_n 2, 1) := by decide +kernel
theorem dX2_reservePartsWhere_37 : decode cX2_reservePartsWhere 37 = .ok (.iaload, 1) := by decide +kernel
theorem dX2_reservePartsWhere_38 : decode cX2_reservePartsWhere 38 = .ok (.istore_n 3, 1) := by decide +kernel
theorem dX2_reservePartsWhere_39 : decode cX2_reservePartsWhere 39 = .ok (.aload_n 0, 1) := by decide +kernel
theorem dX2_reservePartsWhere_40 : decode cX2_reservePartsWhere 40 = .ok (.getfield 30, 3) := by decide +kernel
theorem dX2_reservePartsWhere_43 : decode cX2_reservePartsWhere 43 = .ok (.iload_n 3, 1) := by decide +kernel
theorem dX2_reservePartsWhere_44 : decode cX2_reservePartsWhere 44 = .ok (.invokevirtual 113, 3) := by decide +kernel
theorem dX2_reservePartsWhere_47 : decode cX2_reservePartsWhere 47 = .ok (.bipush (-5), 2) := by decide +kernel
theorem dX2_reservePartsWhere_49 : decode cX2_reservePartsWhere 49 = .ok (.if_icmp .ne 21, 3) := by decide +kernel
theorem dX2_reservePartsWhere_52 : decode cX2_reservePartsWhere 52 = .ok (.aload_n 0, 1) := by decide +kernel
theorem dX2_reservePartsWhere_53 : decode cX2_reservePartsWhere 53 = .ok (.getfield 30, 3) := by decide +kernel
theorem dX2_reservePartsWhere_56 : decode cX2_reservePartsWhere 56 = .ok (.iload_n 3, 1) := by decide +kernel
theorem dX2_reservePartsWhere_57 : decode cX2_reservePartsWhere 57 = .ok (.invokevirtual 116, 3) := by decide +kernel
theorem dX2_reservePartsWhere_60 : decode cX2_reservePartsWhere 60 = .ok (.aload_n 0, 1) := by decide +kernel
theorem dX2_reservePartsWhere_61 : decode cX2_reservePartsWhere 61 = .ok (.getfield 37, 3) := by decide +kernel
theorem dX2_reservePartsWhere_64 : decode cX2_reservePartsWhere 64 = .ok (.getfield 81, 3) := by decide +kernel
theorem dX2_reservePartsWhere_67 : decode cX2_reservePartsWhere 67 = .ok (.iload_n 2, 1) := by decide +kernel
theorem dX2_reservePartsWhere_68 : decode cX2_reservePartsWhere 68 = .ok (.iconst 3, 1) := by decide +kernel
theorem dX2_reservePartsWhere_69 : decode cX2_reservePartsWhere 69 = .ok (.iastore, 1) := by decide +kernel
theorem dX2_reservePartsWhere_70 : decode cX2_reservePartsWhere 70 = .ok (.iinc 2 1, 3) := by decide +kernel
theorem dX2_reservePartsWhere_73 : decode cX2_reservePartsWhere 73 = .ok (.goto (-71), 3) := by decide +kernel
theorem dX2_reservePartsWhere_76 : decode cX2_reservePartsWhere 76 = .ok (.return_, 1) := by decide +kernel
theorem dX2_handOver_0 : decode cX2_handOver 0 = .ok (.aload_n 0, 1) := by decide +kernel
theorem dX2_handOver_1 : decode cX2_handOver 1 = .ok (.iload_n 1, 1) := by decide +kernel
theorem dX2_handOver_2 : decode cX2_handOver 2 = .ok (.invokevirtual 119, 3) := by decide +kernel
theorem dX2_handOver_5 : decode cX2_handOver 5 = .ok (.istore_n 2, 1) := by decide +kernel
theorem dX2_handOver_6 : decode cX2_handOver 6 = .ok (.aload_n 0, 1) := by decide +kernel
theorem dX2_handOver_7 : decode cX2_handOver 7 = .ok (.getfield 44, 3) := by decide +kernel
theorem dX2_handOver_10 : decode cX2_handOver 10 = .ok (.dup, 1) := by decide +kernel
theorem dX2_handOver_11 : decode cX2_handOver 11 = .ok (.getfield 122, 3) := by decide +kernel
theorem dX2_handOver_14 : decode cX2_handOver 14 = .ok (.aload_n 0, 1) := by decide +kernel
theorem dX2_handOver_15 : decode cX2_handOver 15 = .ok (.getfield 37, 3) := by decide +kernel
theorem dX2_handOver_18 : decode cX2_handOver 18 = .ok (.getfield 125, 3) := by decide +kernel
theorem dX2_handOver_21 : decode cX2_handOver 21 = .ok (.iload_n 1, 1) := by decide +kernel
theorem dX2_handOver_22 : decode cX2_handOver 22 = .ok (.iaload, 1) := by decide +kernel
theorem dX2_handOver_23 : decode cX2_handOver 23 = .ok (.iadd, 1) := by decide +kernel
theorem dX2_handOver_24 : decode cX2_handOver 24 = .ok (.putfield 122, 3) := by decide +kernel
theorem dX2_handOver_27 : decode cX2_handOver 27 = .ok (.aload_n 0, 1) := by decide +kernel
theorem dX2_handOver_28 : decode cX2_handOver 28 = .ok (.getfield 44, 3) := by decide +kernel
theorem dX2_handOver_31 : decode cX2_handOver 31 = .ok (.dup, 1) := by decide +kernel
theorem dX2_handOver_32 : decode cX2_handOver 32 = .ok (.getfield 128, 3) := by decide +kernel
theorem dX2_handOver_35 : decode cX2_handOver 35 = .ok (.iload_n 2, 1) := by decide +kernel
theorem dX2_handOver_36 : decode cX2_handOver 36 = .ok (.iadd, 1) := by decide +kernel
theorem dX2_handOver_37 : decode cX2_handOver 37 = .ok (.putfield 128, 3) := by decide +kernel
theorem dX2_handOver_40 : decode cX2_handOver 40 = .ok (.aload_n 0, 1) := by decide +kernel
theorem dX2_handOver_41 : decode cX2_handOver 41 = .ok (.getfield 37, 3) := by decide +kernel
theorem dX2_handOver_44 : decode cX2_handOver 44 = .ok (.getfield 81, 3) := by decide +kernel
theorem dX2_handOver_47 : decode cX2_handOver 47 = .ok (.iload_n 1, 1) := by decide +kernel
theorem dX2_handOver_48 : decode cX2_handOver 48 = .ok (.bipush 6, 2) := by decide +kernel
theorem dX2_handOver_50 : decode cX2_handOver 50 = .ok (.iastore, 1) := by decide +kernel
theorem dX2_handOver_51 : decode cX2_handOver 51 = .ok (.aload_n 0, 1) := by decide +kernel
theorem dX2_handOver_52 : decode cX2_handOver 52 = .ok (.getfield 37, 3) := by decide +kernel
theorem dX2_handOver_55 : decode cX2_handOver 55 = .ok (.getfield 131, 3) := by decide +kernel
theorem dX2_handOver_58 : decode cX2_handOver 58 = .ok (.iload_n 1, 1) := by decide +kernel
theorem dX2_handOver_59 : decode cX2_handOver 59 = .ok (.iconst 0, 1) := by decide +kernel
theorem dX2_handOver_60 : decode cX2_handOver 60 = .ok (.iastore, 1) := by decide +kernel
theorem dX2_handOver_61 : decode cX2_handOver 61 = .ok (.aload_n 0, 1) := by decide +kernel
theorem dX2_handOver_62 : decode cX2_handOver 62 = .ok (.getfield 37, 3) := by decide +kernel
theorem dX2_handOver_65 : decode cX2_handOver 65 = .ok (.getfield 125, 3) := by decide +kernel
theorem dX2_handOver_68 : decode cX2_handOver 68 = .ok (.iload_n 1, 1) := by decide +kernel
theorem dX2_handOver_69 : decode cX2_handOver 69 = .ok (.iaload, 1) := by decide +kernel
theorem dX2_handOver_70 : decode cX2_handOver 70 = .ok (.iload_n 2, 1) := by decide +kernel
theorem dX2_handOver_71 : decode cX2_handOver 71 = .ok (.iadd, 1) := by decide +kernel
theorem dX2_handOver_72 : decode cX2_handOver 72 = .ok (.ireturn, 1) := by decide +kernel
theorem dX2_passDay_0 : decode cX2_passDay 0 = .ok (.aload_n 0, 1) := by decide +kernel
theorem dX2_passDay_1 : decode cX2_passDay 1 = .ok (.dup, 1) := by decide +kernel
theorem dX2_passDay_2 : decode cX2_passDay 2 = .ok (.getfield 9, 3) := by decide +kernel
theorem dX2_passDay_5 : decode cX2_passDay 5 = .ok (.iconst 1, 1) := by decide +kernel
theorem dX2_passDay_6 : decode cX2_passDay 6 = .ok (.iadd, 1) := by decide +kernel
theorem dX2_passDay_7 : decode cX2_passDay 7 = .ok (.putfield 9, 3) := by decide +kernel
theorem dX2_passDay_10 : decode cX2_passDay 10 = .ok (.aload_n 0, 1) := by decide +kernel
theorem dX2_passDay_11 : decode cX2_passDay 11 = .ok (.invokevirtual 134, 3) := by decide +kernel
theorem dX2_passDay_14 : decode cX2_passDay 14 = .ok (.aload_n 0, 1) := by decide +kernel
theorem dX2_passDay_15 : decode cX2_passDay 15 = .ok (.iconst 1, 1) := by decide +kernel
theorem dX2_passDay_16 : decode cX2_passDay 16 = .ok (.aload_n 0, 1) := by decide +kernel
theorem dX2_passDay_17 : decode cX2_passDay 17 = .ok (.getfield 23, 3) := by decide +kernel
theorem dX2_passDay_20 : decode cX2_passDay 20 = .ok (.iconst 0, 1) := by decide +kernel
theorem dX2_passDay_21 : decode cX2_passDay 21 = .ok (.iaload, 1) := by decide +kernel
theorem dX2_passDay_22 : decode cX2_passDay 22 = .ok (.invokevirtual 137, 3) := by decide +kernel
theorem dX2_passDay_25 : decode cX2_passDay 25 = .ok (.istore_n 1, 1) := by decide +kernel
theorem dX2_passDay_26 : decode cX2_passDay 26 = .ok (.aload_n 0, 1) := by decide +kernel
theorem dX2_passDay_27 : decode cX2_passDay 27 = .ok (.iconst 0, 1) := by decide +kernel
theorem dX2_passDay_28 : decode cX2_passDay 28 = .ok (.iload_n 1, 1) := by decide +kernel
theorem dX2_passDay_29 : decode cX2_passDay 29 = .ok (.invokevirtual 137, 3) := by decide +kernel
theorem dX2_passDay_32 : decode cX2_passDay 32 = .ok (.pop, 1) := by decide +kernel
theorem dX2_passDay_33 : decode cX2_passDay 33 = .ok (.aload_n 0, 1) := by decide +kernel
theorem dX2_passDay_34 : decode cX2_passDay 34 = .ok (.invokevirtual 140, 3) := by decide +kernel
theorem dX2_passDay_37 : decode cX2_passDay 37 = .ok (.return_, 1) := by decide +kernel
theorem dX2_takeOrders_0 : decode cX2_takeOrders 0 = .ok (.iconst 0, 1) := by decide +kernel
theorem dX2_takeOrders_1 : decode cX2_takeOrders 1 = .ok (.istore_n 1, 1) := by decide +kernel
theorem dX2_takeOrders_2 : decode cX2_takeOrders 2 = .ok (.iload_n 1, 1) := by decide +kernel
theorem dX2_takeOrders_3 : decode cX2_takeOrders 3 = .ok (.aload_n 0, 1) := by decide +kernel
theorem dX2_takeOrders_4 : decode cX2_takeOrders 4 = .ok (.getfield 30, 3) := by decide +kernel
theorem dX2_takeOrders_7 : decode cX2_takeOrders 7 = .ok (.getfield 143, 3) := by decide +kernel
theorem dX2_takeOrders_10 : decode cX2_takeOrders 10 = .ok (.if_icmp .ge 58, 3) := by decide +kernel
theorem dX2_takeOrders_13 : decode cX2_takeOrders 13 = .ok (.aload_n 0, 1) := by decide +kernel
theorem dX2_takeOrders_14 : decode cX2_takeOrders 14 = .ok (.getfield 30, 3) := by decide +kernel
theorem dX2_takeOrders_17 : decode cX2_takeOrders 17 = .ok (.getfield 146, 3) := by decide +kernel
theorem dX2_takeOrders_20 : decode cX2_takeOrders 20 = .ok (.iload_n 1, 1) := by decide +kernel
theorem dX2_takeOrders_21 : decode cX2_takeOrders 21 = .ok (.iaload, 1) := by decide +kernel
theorem dX2_takeOrders_22 : decode cX2_takeOrders 22 = .ok (.aload_n 0, 1) := by decide +kernel
theorem dX2_takeOrders_23 : decode cX2_takeOrders 23 = .ok (.getfield 9, 3) := by decide +kernel
theorem dX2_takeOrders_26 : decode cX2_takeOrders 26 = .ok (.if_icmp .ne 36, 3) := by decide +kernel
theorem dX2_takeOrders_29 : decode cX2_takeOrders 29 = .ok (.aload_n 0, 1) := by decide +kernel
theorem dX2_takeOrders_30 : decode cX2_takeOrders 30 = .ok (.getfield 30, 3) := by decide +kernel
theorem dX2_takeOrders_33 : decode cX2_takeOrders 33 = .ok (.getfield 149, 3) := by decide +kernel
theorem dX2_takeOrders_36 : decode cX2_takeOrders 36 = .ok (.aload_n 0, 1) := by decide +kernel
theorem dX2_takeOrders_37 : decode cX2_takeOrders 37 = .ok (.getfield 30, 3) := by decide +kernel
theorem dX2_takeOrders_40 : decode cX2_takeOrders 40 = .ok (.getfield 152, 3) := by decide +kernel
theorem dX2_takeOrders_43 : decode cX2_takeOrders 43 = .ok (.iload_n 1, 1) := by decide +kernel
theorem dX2_takeOrders_44 : decode cX2_takeOrders 44 = .ok (.iaload, 1) := by decide +kernel
theorem dX2_takeOrders_45 : decode cX2_takeOrders 45 = .ok (.dup2, 1) := by decide +kernel
theorem dX2_takeOrders_46 : decode cX2_takeOrders 46 = .ok (.iaload, 1) := by decide +kernel
theorem dX2_takeOrders_47 : decode cX2_takeOrders 47 = .ok (.aload_n 0, 1) := by decide +kernel
theorem dX2_takeOrders_48 : decode cX2_takeOrders 48 = .ok (.getfield 30, 3) := by decide +kernel
theorem dX2_takeOrders_51 : decode cX2_takeOrders 51 = .ok (.getfield 155, 3) := by decide +kernel
theorem dX2_takeOrders_54 : decode cX2_takeOrders 54 = .ok (.iload_n 1, 1) := by decide +kernel
theorem dX2_takeOrders_55 : decode cX2_takeOrders 55 = .ok (.iaload, 1) := by decide +kernel
theorem dX2_takeOrders_56 : decode cX2_takeOrders 56 = .ok (.iadd, 1) := by decide +kernel
theorem dX2_takeOrders_57 : decode cX2_takeOrders 57 = .ok (.iastore, 1) := by decide +kernel
theorem dX2_takeOrders_58 : decode cX2_takeOrders 58 = .ok (.aload_n 0, 1) := by decide +kernel
theorem dX2_takeOrders_59 : decode cX2_takeOrders 59 = .ok (.invokevirtual 102, 3) := by decide +kernel
theorem dX2_takeOrders_62 : decode cX2_takeOrders 62 = .ok (.iinc 1 1, 3) := by decide +kernel
theorem dX2_takeOrders_65 : decode cX2_takeOrders 65 = .ok (.goto (-63), 3) := by decide +kernel
theorem dX2_takeOrders_68 : decode cX2_takeOrders 68 = .ok (.aload_n 0, 1) := by decide +kernel
theorem dX2_takeOrders_69 : decode cX2_takeOrders 69 = .ok (.getfield 30, 3) := by decide +kernel
theorem dX2_takeOrders_72 : decode cX2_takeOrders 72 = .ok (.aload_n 0, 1) := by decide +kernel
theorem dX2_takeOrders_73 : decode cX2_takeOrders 73 = .ok (.getfield 9, 3) := by decide +kernel
theorem dX2_takeOrders_76 : decode cX2_takeOrders 76 = .ok (.invokevirtual 158, 3) := by decide +kernel
theorem dX2_takeOrders_79 : decode cX2_takeOrders 79 = .ok (.return_, 1) := by decide +kernel
theorem dX2_workWhere_0 : decode cX2_workWhere 0 = .ok (.iload_n 2, 1) := by decide +kernel
theorem dX2_workWhere_1 : decode cX2_workWhere 1 = .ok (.istore_n 3, 1) := by decide +kernel
theorem dX2_workWhere_2 : decode cX2_workWhere 2 = .ok (.iconst 0, 1) := by decide +kernel
theorem dX2_workWhere_3 : decode cX2_workWhere 3 = .ok (.istore 4, 2) := by decide +kernel
theorem dX2_workWhere_5 : decode cX2_workWhere 5 = .ok (.iload 4, 2) := by decide +kernel
theorem dX2_workWhere_7 : decode cX2_workWhere 7 = .ok (.aload_n 0, 1) := by decide +kernel
theorem dX2_workWhere_8 : decode cX2_workWhere 8 = .ok (.getfield 37, 3) := by decide +kernel
theorem dX2_workWhere_11 : decode cX2_workWhere 11 = .ok (.getfield 78, 3) := by decide +kernel
theorem dX2_workWhere_14 : decode cX2_workWhere 14 = .ok (.if_icmp .ge 106, 3) := by decide +kernel
theorem dX2_workWhere_17 : decode cX2_workWhere 17 = .ok (.iload_n 3, 1) := by decide +kernel
theorem dX2_workWhere_18 : decode cX2_workWhere 18 = .ok (.ifCond .le 102, 3) := by decide +kernel
theorem dX2_workWhere_21 : decode cX2_workWhere 21 = .ok (.aload_n 0, 1) := by decide +kernel
theorem dX2_workWhere_22 : decode cX2_workWhere 22 = .ok (.getfield 37, 3) := by decide +kernel
theorem dX2_workWhere_25 : decode cX2_workWhere 25 = .ok (.iload 4, 2) := by decide +kernel
theorem dX2_workWhere_27 : decode cX2_workWhere 27 = .ok (.iconst 3, 1) := by decide +kernel
theorem dX2_workWhere_28 : decode cX2_workWhere 28 = .ok (.iload_n 1, 1) := by decide +kernel
theorem dX2_workWhere_29 : decode cX2_workWhere 29 = .ok (.invokevirtual 109, 3) := by decide +kernel
theorem dX2_workWhere_32 : decode cX2_workWhere 32 = .ok (.ifCond .ne 6, 3) := by decide +kernel
theorem dX2_workWhere_35 : decode cX2_workWhere 35 = .ok (.goto 79, 3) := by decide +kernel
theorem dX2_workWhere_38 : decode cX2_workWhere 38 = .ok (.getstatic 68, 3) := by decide +kernel
theorem dX2_workWhere_41 : decode cX2_workWhere 41 = .ok (.aload_n 0, 1) := by decide +kernel
theorem dX2_workWhere_42 : decode cX2_workWhere 42 = .ok (.getfield 37, 3) := by decide +kernel
theorem dX2_workWhere_45 : decode cX2_workWhere 45 = .ok (.getfield 84, 3) := by decide +kernel
theorem dX2_workWhere_48 : decode cX2_workWhere 48 = .ok (.iload 4, 2) := by decide +kernel
theorem dX2_workWhere_50 : decode cX2_workWhere 50 = .ok (.iaload, 1) := by decide +kernel
theorem dX2_workWhere_51 : decode cX2_workWhere 51 = .ok (.iaload, 1) := by decide +kernel
theorem dX2_workWhere_52 : decode cX2_workWhere 52 = .ok (.istore 5, 2) := by decide +kernel
theorem dX2_workWhere_54 : decode cX2_workWhere 54 = .ok (.iload_n 3, 1) := by decide +kernel
theorem dX2_workWhere_55 : decode cX2_workWhere 55 = .ok (.iload 5, 2) := by decide +kernel
theorem dX2_workWhere_57 : decode cX2_workWhere 57 = .ok (.aload_n 0, 1) := by decide +kernel
theorem dX2_workWhere_58 : decode cX2_workWhere 58 = .ok (.getfield 37, 3) := by decide +kernel
theorem dX2_workWhere_61 : decode cX2_workWhere 61 = .ok (.getfield 161, 3) := by decide +kernel
theorem dX2_workWhere_64 : decode cX2_workWhere 64 = .ok (.iload 4, 2) := by decide +kernel
theorem dX2_workWhere_66 : decode cX2_workWhere 66 = .ok (.iaload, 1) := by decide +kernel
theorem dX2_workWhere_67 : decode cX2_workWhere 67 = .ok (.isub, 1) := by decide +kernel
theorem dX2_workWhere_68 : decode cX2_workWhere 68 = .ok (.invokestatic 164, 3) := by decide +kernel
theorem dX2_workWhere_71 : decode cX2_workWhere 71 = .ok (.istore 6, 2) := by decide +kernel
theorem dX2_workWhere_73 : decode cX2_workWhere 73 = .ok (.aload_n 0, 1) := by decide +kernel
theorem dX2_workWhere_74 : decode cX2_workWhere 74 = .ok (.getfield 37, 3) := by decide +kernel
theorem dX2_workWhere_77 : decode cX2_workWhere 77 = .ok (.getfield 161, 3) := by decide +kernel
theorem dX2_workWhere_80 : decode cX2_workWhere 80 = .ok (.iload 4, 2) := by decide +kernel
theorem dX2_workWhere_82 : decode cX2_workWhere 82 = .ok (.dup2, 1) := by decide +kernel
theorem dX2_workWhere_83 : decode cX2_workWhere 83 = .ok (.iaload, 1) := by decide +kernel
theorem dX2_workWhere_84 : decode cX2_workWhere 84 = .ok (.iload 6, 2) := by decide +kernel
theorem dX2_workWhere_86 : decode cX2_workWhere 86 = .ok (.iadd, 1) := by decide +kernel
theorem dX2_workWhere_87 : decode cX2_workWhere 87 = .ok (.iastore, 1) := by decide +kernel
theorem dX2_workWhere_88 : decode cX2_workWhere 88 = .ok (.iload_n 3, 1) := by decide +kernel
theorem dX2_workWhere_89 : decode cX2_workWhere 89 = .ok (.iload 6, 2) := by decide +kernel
theorem dX2_workWhere_91 : decode cX2_workWhere 91 = .ok (.isub, 1) := by decide +kernel
theorem dX2_workWhere_92 : decode cX2_workWhere 92 = .ok (.istore_n 3, 1) := by decide +kernel
theorem dX2_workWhere_93 : decode cX2_workWhere 93 = .ok (.aload_n 0, 1) := by decide +kernel
theorem dX2_workWhere_94 : decode cX2_workWhere 94 = .ok (.getfield 37, 3) := by decide +kernel
theorem dX2_workWhere_97 : decode cX2_workWhere 97 = .ok (.getfield 161, 3) := by decide +kernel
theorem dX2_workWhere_100 : decode cX2_workWhere 100 = .ok (.iload 4, 2) := by decide +kernel
theorem dX2_workWhere_102 : decode cX2_workWhere 102 = .ok (.iaload, 1) := by decide +kernel
theorem dX2_workWhere_103 : decode cX2_workWhere 103 = .ok (.iload 5, 2) := by decide +kernel
theorem dX2_workWhere_105 : decode cX2_workWhere 105 = .ok (.if_icmp .ne 9, 3) := by decide +kernel
theorem dX2_workWhere_108 : decode cX2_workWhere 108 = .ok (.aload_n 0, 1) := by decide +kernel
theorem dX2_workWhere_109 : decode cX2_workWhere 109 = .ok (.iload 4, 2) := by decide +kernel
theorem dX2_workWhere_111 : decode cX2_workWhere 111 = .ok (.invokevirtual 167, 3) := by decide +kernel
theorem dX2_workWhere_114 : decode cX2_workWhere 114 = .ok (.iinc 4 1, 3) := by decide +kernel
theorem dX2_workWhere_117 : decode cX2_workWhere 117 = .ok (.goto (-112), 3) := by decide +kernel
theorem dX2_workWhere_120 : decode cX2_workWhere 120 = .ok (.iload_n 3, 1) := by decide +kernel
theorem dX2_workWhere_121 : decode cX2_workWhere 121 = .ok (.ireturn, 1) := by decide +kernel
theorem dX2_finish_0 : decode cX2_finish 0 = .ok (.aload_n 0, 1) := by decide +kernel
theorem dX2_finish_1 : decode cX2_finish 1 = .ok (.getfield 37, 3) := by decide +kernel
theorem dX2_finish_4 : decode cX2_finish 4 = .ok (.getfield 84, 3) := by decide +kernel
theorem dX2_finish_7 : decode cX2_finish 7 = .ok (.iload_n 1, 1) := by decide +kernel
theorem dX2_finish_8 : decode cX2_finish 8 = .ok (.iaload, 1) := by decide +kernel
theorem dX2_finish_9 : decode cX2_finish 9 = .ok (.istore_n 2, 1) := by decide +kernel
theorem dX2_finish_10 : decode cX2_finish 10 = .ok (.aload_n 0, 1) := by decide +kernel
theorem dX2_finish_11 : decode cX2_finish 11 = .ok (.getfield 37, 3) := by decide +kernel
theorem dX2_finish_14 : decode cX2_finish 14 = .ok (.getfield 170, 3) := by decide +kernel
theorem dX2_finish_17 : decode cX2_finish 17 = .ok (.iload_n 1, 1) := by decide +kernel
theorem dX2_finish_18 : decode cX2_finish 18 = .ok (.iaload, 1) := by decide +kernel
theorem dX2_finish_19 : decode cX2_finish 19 = .ok (.i2f, 1) := by decide +kernel
theorem dX2_finish_20 : decode cX2_finish 20 = .ok (.aload_n 0, 1) := by decide +kernel
theorem dX2_finish_21 : decode cX2_finish 21 = .ok (.getfield 19, 3) := by decide +kernel
theorem dX2_finish_24 : decode cX2_finish 24 = .ok (.iconst 1, 1) := by decide +kernel
theorem dX2_finish_25 : decode cX2_finish 25 = .ok (.faload, 1) := by decide +kernel
theorem dX2_finish_26 : decode cX2_finish 26 = .ok (.fmul, 1) := by decide +kernel
theorem dX2_finish_27 : decode cX2_finish 27 = .ok (.f2i, 1) := by decide +kernel
theorem dX2_finish_28 : decode cX2_finish 28 = .ok (.istore_n 3, 1) := by decide +kernel
theorem dX2_finish_29 : decode cX2_finish 29 = .ok (.aload_n 0, 1) := by decide +kernel
theorem dX2_finish_30 : decode cX2_finish 30 = .ok (.getfield 30, 3) := by decide +kernel
theorem dX2_finish_33 : decode cX2_finish 33 = .ok (.iload_n 2, 1) := by decide +kernel
theorem dX2_finish_34 : decode cX2_finish 34 = .ok (.invokevirtual 173, 3) := by decide +kernel
theorem dX2_finish_37 : decode cX2_finish 37 = .ok (.aload_n 0, 1) := by decide +kernel
theorem dX2_finish_38 : decode cX2_finish 38 = .ok (.getfield 37, 3) := by decide +kernel
theorem dX2_finish_41 : decode cX2_finish 41 = .ok (.getfield 125, 3) := by decide +kernel
theorem dX2_finish_44 : decode cX2_finish 44 = .ok (.iload_n 1, 1) := by decide +kernel
theorem dX2_finish_45 : decode cX2_finish 45 = .ok (.aload_n 0, 1) := by decide +kernel
theorem dX2_finish_46 : decode cX2_finish 46 = .ok (.iload_n 2, 1) := by decide +kernel
theorem dX2_finish_47 : decode cX2_finish 47 = .ok (.invokevirtual 176, 3) := by decide +kernel
theorem dX2_finish_50 : decode cX2_finish 50 = .ok (.iload_n 3, 1) := by decide +kernel
theorem dX2_finish_51 : decode cX2_finish 51 = .ok (.invokestatic 164, 3) := by decide +kernel
theorem dX2_finish_54 : decode cX2_finish 54 = .ok (.iastore, 1) := by decide +kernel
theorem dX2_finish_55 : decode cX2_finish 55 = .ok (.aload_n 0, 1) := by decide +kernel
theorem dX2_finish_56 : decode cX2_finish 56 = .ok (.getfield 37, 3) := by decide +kernel
theorem dX2_finish_59 : decode cX2_finish 59 = .ok (.getfield 81, 3) := by decide +kernel
theorem dX2_finish_62 : decode cX2_finish 62 = .ok (.iload_n 1, 1) := by decide +kernel
theorem dX2_finish_63 : decode cX2_finish 63 = .ok (.iconst 4, 1) := by decide +kernel
theorem dX2_finish_64 : decode cX2_finish 64 = .ok (.iastore, 1) := by decide +kernel
theorem dX2_finish_65 : decode cX2_finish 65 = .ok (.aload_n 0, 1) := by decide +kernel
theorem dX2_finish_66 : decode cX2_finish 66 = .ok (.getfield 37, 3) := by decide +kernel
theorem dX2_finish_69 : decode cX2_finish 69 = .ok (.getfield 75, 3) := by decide +kernel
theorem dX2_finish_72 : decode cX2_finish 72 = .ok (.iload_n 1, 1) := by decide +kernel
theorem dX2_finish_73 : decode cX2_finish 73 = .ok (.aload_n 0, 1) := by decide +kernel
theorem dX2_finish_74 : decode cX2_finish 74 = .ok (.getfield 9, 3) := by decide +kernel
theorem dX2_finish_77 : decode cX2_finish 77 = .ok (.iastore, 1) := by decide +kernel
theorem dX2_finish_78 : decode cX2_finish 78 = .ok (.aload_n 0, 1) := by decide +kernel
theorem dX2_finish_79 : decode cX2_finish 79 = .ok (.getfield 44, 3) := by decide +kernel
theorem dX2_finish_82 : decode cX2_finish 82 = .ok (.dup, 1) := by decide +kernel
theorem dX2_finish_83 : decode cX2_finish 83 = .ok (.getfield 179, 3) := by decide +kernel
theorem dX2_finish_86 : decode cX2_finish 86 = .ok (.aload_n 0, 1) := by decide +kernel
theorem dX2_finish_87 : decode cX2_finish 87 = .ok (.getfield 30, 3) := by decide +kernel
theorem dX2_finish_90 : decode cX2_finish 90 = .ok (.iload_n 2, 1) := by decide +kernel
theorem dX2_finish_91 : decode cX2_finish 91 = .ok (.invokevirtual 64, 3) := by decide +kernel
theorem dX2_finish_94 : decode cX2_finish 94 = .ok (.iadd, 1) := by decide +kernel
theorem dX2_finish_95 : decode cX2_finish 95 = .ok (.putfield 179, 3) := by decide +kernel
theorem dX2_finish_98 : decode cX2_finish 98 = .ok (.aload_n 0, 1) := by decide +kernel
theorem dX2_finish_99 : decode cX2_finish 99 = .ok (.getfield 44, 3) := by decide +kernel
theorem dX2_finish_102 : decode cX2_finish 102 = .ok (.dup, 1) := by decide +kernel
theorem dX2_finish_103 : decode cX2_finish 103 = .ok (.getfield 182, 3) := by decide +kernel
theorem dX2_finish_106 : decode cX2_finish 106 = .ok (.aload_n 0, 1) := by decide +kernel
theorem dX2_finish_107 : decode cX2_finish 107 = .ok (.getfield 9, 3) := by decide +kernel
theorem dX2_finish_110 : decode cX2_finish 110 = .ok (.aload_n 0, 1) := by decide +kernel
theorem dX2_finish_111 : decode cX2_finish 111 = .ok (.getfield 37, 3) := by decide +kernel
theorem dX2_finish_114 : decode cX2_finish 114 = .ok (.getfield 185, 3) := by decide +kernel
theorem dX2_finish_117 : decode cX2_finish 117 = .ok (.iload_n 1, 1) := by decide +kernel
theorem dX2_finish_118 : decode cX2_finish 118 = .ok (.iaload, 1) := by decide +kernel
theorem dX2_finish_119 : decode cX2_finish 119 = .ok (.isub, 1) := by decide +kernel
theorem dX2_finish_120 : decode cX2_finish 120 = .ok (.iadd, 1) := by decide +kernel
theorem dX2_finish_121 : decode cX2_finish 121 = .ok (.putfield 182, 3) := by decide +kernel
theorem dX2_finish_124 : decode cX2_finish 124 = .ok (.aload_n 0, 1) := by decide +kernel
theorem dX2_finish_125 : decode cX2_finish 125 = .ok (.getfield 44, 3) := by decide +kernel
theorem dX2_finish_128 : decode cX2_finish 128 = .ok (.dup, 1) := by decide +kernel
theorem dX2_finish_129 : decode cX2_finish 129 = .ok (.getfield 188, 3) := by decide +kernel
theorem dX2_finish_132 : decode cX2_finish 132 = .ok (.iconst 1, 1) := by decide +kernel
theorem dX2_finish_133 : decode cX2_finish 133 = .ok (.iadd, 1) := by decide +kernel
theorem dX2_finish_134 : decode cX2_finish 134 = .ok (.putfield 188, 3) := by decide +kernel
theorem dX2_finish_137 : decode cX2_finish 137 = .ok (.return_, 1) := by decide +kernel
theorem dX2_sellUnclaimed_0 : decode cX2_sellUnclaimed 0 = .ok (.iconst 0, 1) := by decide +kernel
theorem dX2_sellUnclaimed_1 : decode cX2_sellUnclaimed 1 = .ok (.istore_n 1, 1) := by decide +kernel
theorem dX2_sellUnclaimed_2 : decode cX2_sellUnclaimed 2 = .ok (.iload_n 1, 1) := by decide +kernel
theorem dX2_sellUnclaimed_3 : decode cX2_sellUnclaimed 3 = .ok (.aload_n 0, 1) := by decide +kernel
theorem dX2_sellUnclaimed_4 : decode cX2_sellUnclaimed 4 = .ok (.getfield 37, 3) := by decide +kernel
theorem dX2_sellUnclaimed_7 : decode cX2_sellUnclaimed 7 = .ok (.getfield 78, 3) := by decide +kernel
theorem dX2_sellUnclaimed_10 : decode cX2_sellUnclaimed 10 = .ok (.if_icmp .ge 94, 3) := by decide +kernel
theorem dX2_sellUnclaimed_13 : decode cX2_sellUnclaimed 13 = .ok (.aload_n 0, 1) := by decide +kernel
theorem dX2_sellUnclaimed_14 : decode cX2_sellUnclaimed 14 = .ok (.getfield 37, 3) := by decide +kernel
theorem dX2_sellUnclaimed_17 : decode cX2_sellUnclaimed 17 = .ok (.iload_n 1, 1) := by decide +kernel
theorem dX2_sellUnclaimed_18 : decode cX2_sellUnclaimed 18 = .ok (.invokevirtual 191, 3) := by decide +kernel
theorem dX2_sellUnclaimed_21 : decode cX2_sellUnclaimed 21 = .ok (.ifCond .eq 77, 3) := by decide +kernel
theorem dX2_sellUnclaimed_24 : decode cX2_sellUnclaimed 24 = .ok (.aload_n 0, 1) := by decide +kernel
theorem dX2_sellUnclaimed_25 : decode cX2_sellUnclaimed 25 = .ok (.getfield 9, 3) := by decide +kernel
theorem dX2_sellUnclaimed_28 : decode cX2_sellUnclaimed 28 = .ok (.aload_n 0, 1) := by decide +kernel
theorem dX2_sellUnclaimed_29 : decode cX2_sellUnclaimed 29 = .ok (.getfield 37, 3) := by decide +kernel
theorem dX2_sellUnclaimed_32 : decode cX2_sellUnclaimed 32 = .ok (.getfield 75, 3) := by decide +kernel
theorem dX2_sellUnclaimed_35 : decode cX2_sellUnclaimed 35 = .ok (.iload_n 1, 1) := by decide +kernel
theorem dX2_sellUnclaimed_36 : decode cX2_sellUnclaimed 36 = .ok (.iaload, 1) := by decide +kernel
theorem dX2_sellUnclaimed_37 : decode cX2_sellUnclaimed 37 = .ok (.isub, 1) := by decide +kernel
theorem dX2_sellUnclaimed_38 : decode cX2_sellUnclaimed 38 = .ok (.aload_n 0, 1) := by decide +kernel
theorem dX2_sellUnclaimed_39 : decode cX2_sellUnclaimed 39 = .ok (.getfield 23, 3) := by decide +kernel
theorem dX2_sellUnclaimed_42 : decode cX2_sellUnclaimed 42 = .ok (.iconst 3, 1) := by decide +kernel
theorem dX2_sellUnclaimed_43 : decode cX2_sellUnclaimed 43 = .ok (.iaload, 1) := by decide +kernel
theorem dX2_sellUnclaimed_44 : decode cX2_sellUnclaimed 44 = .ok (.if_icmp .lt 54, 3) := by decide +kernel
theorem dX2_sellUnclaimed_47 : decode cX2_sellUnclaimed 47 = .ok (.aload_n 0, 1) := by decide +kernel
theorem dX2_sellUnclaimed_48 : decode cX2_sellUnclaimed 48 = .ok (.getfield 44, 3) := by decide +kernel
theorem dX2_sellUnclaimed_51 : decode cX2_sellUnclaimed 51 = .ok (.dup, 1) := by decide +kernel
theorem dX2_sellUnclaimed_52 : decode cX2_sellUnclaimed 52 = .ok (.getfield 195, 3) := by decide +kernel
theorem dX2_sellUnclaimed_55 : decode cX2_sellUnclaimed 55 = .ok (.aload_n 0, 1) := by decide +kernel
theorem dX2_sellUnclaimed_56 : decode cX2_sellUnclaimed 56 = .ok (.getfield 37, 3) := by decide +kernel
theorem dX2_sellUnclaimed_59 : decode cX2_sellUnclaimed 59 = .ok (.getfield 125, 3) := by decide +kernel
theorem dX2_sellUnclaimed_62 : decode cX2_sellUnclaimed 62 = .ok (.iload_n 1, 1) := by decide +kernel
theorem dX2_sellUnclaimed_63 : decode cX2_sellUnclaimed 63 = .ok (.iaload, 1) := by decide +kernel
theorem dX2_sellUnclaimed_64 : decode cX2_sellUnclaimed 64 = .ok (.i2f, 1) := by decide +kernel
theorem dX2_sellUnclaimed_65 : decode cX2_sellUnclaimed 65 = .ok (.aload_n 0, 1) := by decide +kernel
theorem dX2_sellUnclaimed_66 : decode cX2_sellUnclaimed 66 = .ok (.getfield 19, 3) := by decide +kernel
theorem dX2_sellUnclaimed_69 : decode cX2_sellUnclaimed 69 = .ok (.iconst 3, 1) := by decide +kernel
theorem dX2_sellUnclaimed_70 : decode cX2_sellUnclaimed 70 = .ok (.faload, 1) := by decide +kernel
theorem dX2_sellUnclaimed_71 : decode cX2_sellUnclaimed 71 = .ok (.fmul, 1) := by decide +kernel
theorem dX2_sellUnclaimed_72 : decode cX2_sellUnclaimed 72 = .ok (.f2i, 1) := by decide +kernel
theorem dX2_sellUnclaimed_73 : decode cX2_sellUnclaimed 73 = .ok (.iadd, 1) := by decide +kernel
theorem dX2_sellUnclaimed_74 : decode cX2_sellUnclaimed 74 = .ok (.putfield 195, 3) := by decide +kernel
theorem dX2_sellUnclaimed_77 : decode cX2_sellUnclaimed 77 = .ok (.aload_n 0, 1) := by decide +kernel
theorem dX2_sellUnclaimed_78 : decode cX2_sellUnclaimed 78 = .ok (.getfield 37, 3) := by decide +kernel
theorem dX2_sellUnclaimed_81 : decode cX2_sellUnclaimed 81 = .ok (.getfield 81, 3) := by decide +kernel
theorem dX2_sellUnclaimed_84 : decode cX2_sellUnclaimed 84 = .ok (.iload_n 1, 1) := by decide +kernel
theorem dX2_sellUnclaimed_85 : decode cX2_sellUnclaimed 85 = .ok (.bipush 7, 2) := by decide +kernel
theorem dX2_sellUnclaimed_87 : decode cX2_sellUnclaimed 87 = .ok (.iastore, 1) := by decide +kernel
theorem dX2_sellUnclaimed_88 : decode cX2_sellUnclaimed 88 = .ok (.aload_n 0, 1) := by decide +kernel
theorem dX2_sellUnclaimed_89 : decode cX2_sellUnclaimed 89 = .ok (.getfield 37, 3) := by decide +kernel
theorem dX2_sellUnclaimed_92 : decode cX2_sellUnclaimed 92 = .ok (.getfield 131, 3) := by decide +kernel
theorem dX2_sellUnclaimed_95 : decode cX2_sellUnclaimed 95 = .ok (.iload_n 1, 1) := by decide +kernel
theorem dX2_sellUnclaimed_96 : decode cX2_sellUnclaimed 96 = .ok (.iconst 0, 1) := by decide +kernel
theorem dX2_sellUnclaimed_97 : decode cX2_sellUnclaimed 97 = .ok (.iastore, 1) := by decide +kernel
theorem dX2_sellUnclaimed_98 : decode cX2_sellUnclaimed 98 = .ok (.iinc 1 1, 3) := by decide +kernel
theorem dX2_sellUnclaimed_101 : decode cX2_sellUnclaimed 101 = .ok (.goto (-99), 3) := by decide +kernel
theorem dX2_sellUnclaimed_104 : decode cX2_sellUnclaimed 104 = .ok (.return_, 1) := by decide +kernel
theorem dX3_init_0 : decode cX3_init 0 = .ok (.aload_n 0, 1) := by decide +kernel
theorem dX3_init_1 : decode cX3_init 1 = .ok (.invokespecial 3, 3) := by decide +kernel
theorem dX3_init_4 : decode cX3_init 4 = .ok (.aload_n 0, 1) := by decide +kernel
theorem dX3_init_5 : decode cX3_init 5 = .ok (.iconst 0, 1) := by decide +kernel
theorem dX3_init_6 : decode cX3_init 6 = .ok (.putfield 9, 3) := by decide +kernel
theorem dX3_init_9 : decode cX3_init 9 = .ok (.aload_n 0, 1) := by decide +kernel
theorem dX3_init_10 : decode cX3_init 10 = .ok (.iconst 4, 1) := by decide +kernel
theorem dX3_init_11 : decode cX3_init 11 = .ok (.anewarray 15, 3) := by decide +kernel
theorem dX3_init_14 : decode cX3_init 14 = .ok (.putfield 17, 3) := by decide +kernel
theorem dX3_init_17 : decode cX3_init 17 = .ok (.iconst 0, 1) := by decide +kernel
theorem dX3_init_18 : decode cX3_init 18 = .ok (.istore_n 1, 1) := by decide +kernel
theorem dX3_init_19 : decode cX3_init 19 = .ok (.iload_n 1, 1) := by decide +kernel
theorem dX3_init_20 : decode cX3_init 20 = .ok (.iconst 4, 1) := by decide +kernel
theorem dX3_init_21 : decode cX3_init 21 = .ok (.if_icmp .ge 22, 3) := by decide +kernel
theorem dX3_init_24 : decode cX3_init 24 = .ok (.aload_n 0, 1) := by decide +kernel
theorem dX3_init_25 : decode cX3_init 25 = .ok (.getfield 17, 3) := by decide +kernel
theorem dX3_init_28 : decode cX3_init 28 = .ok (.iload_n 1, 1) := by decide +kernel
theorem dX3_init_29 : decode cX3_init 29 = .ok (.new 15, 3) := by decide +kernel
theorem dX3_init_32 : decode cX3_init 32 = .ok (.dup, 1) := by decide +kernel
theorem dX3_init_33 : decode cX3_init 33 = .ok (.invokespecial 21, 3) := by decide +kernel
theorem dX3_init_36 : decode cX3_init 36 = .ok (.aastore, 1) := by decide +kernel
theorem dX3_init_37 : decode cX3_init 37 = .ok (.iinc 1 1, 3) := by decide +kernel
theorem dX3_init_40 : decode cX3_init 40 = .ok (.goto (-21), 3) := by decide +kernel
theorem dX3_init_43 : decode cX3_init 43 = .ok (.return_, 1) := by decide +kernel
theorem dX3_record_0 : decode cX3_record 0 = .ok (.aload_n 0, 1) := by decide +kernel
theorem dX3_record_1 : decode cX3_record 1 = .ok (.getfield 9, 3) := by decide +kernel
theorem dX3_record_4 : decode cX3_record 4 = .ok (.iconst 4, 1) := by decide +kernel
theorem dX3_record_5 : decode cX3_record 5 = .ok (.if_icmp .lt 7, 3) := by decide +kernel
theorem dX3_record_8 : decode cX3_record 8 = .ok (.aload_n 0, 1) := by decide +kernel
theorem dX3_record_9 : decode cX3_record 9 = .ok (.invokevirtual 22, 3) := by decide +kernel
theorem dX3_record_12 : decode cX3_record 12 = .ok (.aload_n 0, 1) := by decide +kernel
theorem dX3_record_13 : decode cX3_record 13 = .ok (.getfield 17, 3) := by decide +kernel
theorem dX3_record_16 : decode cX3_record 16 = .ok (.aload_n 0, 1) := by decide +kernel
theorem dX3_record_17 : decode cX3_record 17 = .ok (.getfield 9, 3) := by decide +kernel
theorem dX3_record_20 : decode cX3_record 20 = .ok (.aaload, 1) := by decide +kernel
theorem dX3_record_21 : decode cX3_record 21 = .ok (.aload_n 1, 1) := by decide +kernel
theorem dX3_record_22 : decode cX3_record 22 = .ok (.invokevirtual 25, 3) := by decide +kernel
theorem dX3_record_25 : decode cX3_record 25 = .ok (.aload_n 0, 1) := by decide +kernel
theorem dX3_record_26 : decode cX3_record 26 = .ok (.dup, 1) := by decide +kernel
theorem dX3_record_27 : decode cX3_record 27 = .ok (.getfield 9, 3) := by decide +kernel
theorem dX3_record_30 : decode cX3_record 30 = .ok (.iconst 1, 1) := by decide +kernel
theorem dX3_record_31 : decode cX3_record 31 = .ok (.iadd, 1) := by decide +kernel
theorem dX3_record_32 : decode cX3_record 32 = .ok (.putfield 9, 3) := by decide +kernel
theorem dX3_record_35 : decode cX3_record 35 = .ok (.return_, 1) := by decide +kernel
theorem dX3_dropOldest_0 : decode cX3_dropOldest 0 = .ok (.aload_n 0, 1) := by decide +kernel
theorem dX3_dropOldest_1 : decode cX3_dropOldest 1 = .ok (.getfield 17, 3) := by decide +kernel
theorem dX3_dropOldest_4 : decode cX3_dropOldest 4 = .ok (.iconst 0, 1) := by decide +kernel
theorem dX3_dropOldest_5 : decode cX3_dropOldest 5 = .ok (.aaload, 1) := by decide +kernel
theorem dX3_dropOldest_6 : decode cX3_dropOldest 6 = .ok (.astore_n 1, 1) := by decide +kernel
theorem dX3_dropOldest_7 : decode cX3_dropOldest 7 = .ok (.iconst 1, 1) := by decide +kernel
theorem dX3_dropOldest_8 : decode cX3_dropOldest 8 = .ok (.istore_n 2, 1) := by decide +kernel
theorem dX3_dropOldest_9 : decode cX3_dropOldest 9 = .ok (.iload_n 2, 1) := by decide +kernel
theorem dX3_dropOldest_10 : decode cX3_dropOldest 10 = .ok (.iconst 4, 1) := by decide +kernel
theorem dX3_dropOldest_11 : decode cX3_dropOldest 11 = .ok (.if_icmp .ge 23, 3) := by decide +kernel
theorem dX3_dropOldest_14 : decode cX3_dropOldest 14 = .ok (.aload_n 0, 1) := by decide +kernel
theorem dX3_dropOldest_15 : decode cX3_dropOldest 15 = .ok (.getfield 17, 3) := by decide +kernel
theorem dX3_dropOldest_18 : decode cX3_dropOldest 18 = .ok (.iload_n 2, 1) := by decide +kernel
theorem dX3_dropOldest_19 : decode cX3_dropOldest 19 = .ok (.iconst 1, 1) := by decide +kernel
theorem dX3_dropOldest_20 : decode cX3_dropOldest 20 = .ok (.isub, 1) := by decide +kernel
theorem dX3_dropOldest_21 : decode cX3_dropOldest 21 = .ok (.aload_n 0, 1) := by decide +kernel
theorem dX3_dropOldest_22 : decode cX3_dropOldest 22 = .ok (.getfield 17, 3) := by decide +kernel
theorem dX3_dropOldest_25 : decode cX3_dropOldest 25 = .ok (.iload_n 2, 1) := by decide +kernel
theorem dX3_dropOldest_26 : decode cX3_dropOldest 26 = .ok (.aaload, 1) := by decide +kernel
theorem dX3_dropOldest_27 : decode cX3_dropOldest 27 = .ok (.aastore, 1) := by decide +kernel
theorem dX3_dropOldest_28 : decode cX3_dropOldest 28 = .ok (.iinc 2 1, 3) := by decide +kernel
theorem dX3_dropOldest_31 : decode cX3_dropOldest 31 = .ok (.goto (-22), 3) := by decide +kernel
theorem dX3_dropOldest_34 : decode cX3_dropOldest 34 = .ok (.aload_n 0, 1) := by decide +kernel
theorem dX3_dropOldest_35 : decode cX3_dropOldest 35 = .ok (.getfield 17, 3) := by decide +kernel
theorem dX3_dropOldest_38 : decode cX3_dropOldest 38 = .ok (.iconst 3, 1) := by decide +kernel
theorem dX3_dropOldest_39 : decode cX3_dropOldest 39 = .ok (.aload_n 1, 1) := by decide +kernel
theorem dX3_dropOldest_40 : decode cX3_dropOldest 40 = .ok (.aastore, 1) := by decide +kernel
theorem dX3_dropOldest_41 : decode cX3_dropOldest 41 = .ok (.aload_n 0, 1) := by decide +kernel
theorem dX3_dropOldest_42 : decode cX3_dropOldest 42 = .ok (.iconst 3, 1) := by decide +kernel
theorem dX3_dropOldest_43 : decode cX3_dropOldest 43 = .ok (.putfield 9, 3) := by decide +kernel
theorem dX3_dropOldest_46 : decode cX3_dropOldest 46 = .ok (.return_, 1) := by decide +kernel
theorem dX3_giveBack_0 : decode cX3_giveBack 0 = .ok (.aload_n 0, 1) := by decide +kernel
theorem dX3_giveBack_1 : decode cX3_giveBack 1 = .ok (.getfield 9, 3) := by decide +kernel
theorem dX3_giveBack_4 : decode cX3_giveBack 4 = .ok (.ifCond .gt 4, 3) := by decide +kernel
theorem dX3_giveBack_7 : decode cX3_giveBack 7 = .ok (.return_, 1) := by decide +kernel
theorem dX3_giveBack_8 : decode cX3_giveBack 8 = .ok (.aload_n 0, 1) := by decide +kernel
theorem dX3_giveBack_9 : decode cX3_giveBack 9 = .ok (.dup, 1) := by decide +kernel
theorem dX3_giveBack_10 : decode cX3_giveBack 10 = .ok (.getfield 9, 3) := by decide +kernel
theorem dX3_giveBack_13 : decode cX3_giveBack 13 = .ok (.iconst 1, 1) := by decide +kernel
theorem dX3_giveBack_14 : decode cX3_giveBack 14 = .ok (.isub, 1) := by decide +kernel
theorem dX3_giveBack_15 : decode cX3_giveBack 15 = .ok (.putfield 9, 3) := by decide +kernel
theorem dX3_giveBack_18 : decode cX3_giveBack 18 = .ok (.aload_n 1, 1) := by decide +kernel
theorem dX3_giveBack_19 : decode cX3_giveBack 19 = .ok (.aload_n 0, 1) := by decide +kernel
theorem dX3_giveBack_20 : decode cX3_giveBack 20 = .ok (.getfield 17, 3) := by decide +kernel
theorem dX3_giveBack_23 : decode cX3_giveBack 23 = .ok (.aload_n 0, 1) := by decide +kernel
theorem dX3_giveBack_24 : decode cX3_giveBack 24 = .ok (.getfield 9, 3) := by decide +kernel
theorem dX3_giveBack_27 : decode cX3_giveBack 27 = .ok (.aaload, 1) := by decide +kernel
theorem dX3_giveBack_28 : decode cX3_giveBack 28 = .ok (.invokevirtual 25, 3) := by decide +kernel
theorem dX3_giveBack_31 : decode cX3_giveBack 31 = .ok (.return_, 1) := by decide +kernel
theorem dX4_init_0 : decode cX4_init 0 = .ok (.aload_n 0, 1) := by decide +kernel
theorem dX4_init_1 : decode cX4_init 1 = .ok (.invokespecial 3, 3) := by decide +kernel
theorem dX4_init_4 : decode cX4_init 4 = .ok (.aload_n 0, 1) := by decide +kernel
theorem dX4_init_5 : decode cX4_init 5 = .ok (.iconst 0, 1) := by decide +kernel
theorem dX4_init_6 : decode cX4_init 6 = .ok (.putfield 9, 3) := by decide +kernel
theorem dX4_init_9 : decode cX4_init 9 = .ok (.aload_n 0, 1) := by decide +kernel
theorem dX4_init_10 : decode cX4_init 10 = .ok (.bipush 20, 2) := by decide +kernel
theorem dX4_init_12 : decode cX4_init 12 = .ok (.newarray .int, 2) := by decide +kernel
theorem dX4_init_14 : decode cX4_init 14 = .ok (.putfield 15, 3) := by decide +kernel
theorem dX4_init_17 : decode cX4_init 17 = .ok (.aload_n 0, 1) := by decide +kernel
theorem dX4_init_18 : decode cX4_init 18 = .ok (.bipush 20, 2) := by decide +kernel
theorem dX4_init_20 : decode cX4_init 20 = .ok (.newarray .int, 2) := by decide +kernel
theorem dX4_init_22 : decode cX4_init 22 = .ok (.putfield 19, 3) := by decide +kernel
theorem dX4_init_25 : decode cX4_init 25 = .ok (.aload_n 0, 1) := by decide +kernel
theorem dX4_init_26 : decode cX4_init 26 = .ok (.bipush 20, 2) := by decide +kernel
theorem dX4_init_28 : decode cX4_init 28 = .ok (.newarray .int, 2) := by decide +kernel
theorem dX4_init_30 : decode cX4_init 30 = .ok (.putfield 22, 3) := by decide +kernel
theorem dX4_init_33 : decode cX4_init 33 = .ok (.aload_n 0, 1) := by decide +kernel
theorem dX4_init_34 : decode cX4_init 34 = .ok (.bipush 20, 2) := by decide +kernel
theorem dX4_init_36 : decode cX4_init 36 = .ok (.newarray .int, 2) := by decide +kernel
theorem dX4_init_38 : decode cX4_init 38 = .ok (.putfield 25, 3) := by decide +kernel
theorem dX4_init_41 : decode cX4_init 41 = .ok (.aload_n 0, 1) := by decide +kernel
theorem dX4_init_42 : decode cX4_init 42 = .ok (.bipush 20, 2) := by decide +kernel
theorem dX4_init_44 : decode cX4_init 44 = .ok (.newarray .int, 2) := by decide +kernel
theorem dX4_init_46 : decode cX4_init 46 = .ok (.putfield 28, 3) := by decide +kernel
theorem dX4_init_49 : decode cX4_init 49 = .ok (.aload_n 0, 1) := by decide +kernel
theorem dX4_init_50 : decode cX4_init 50 = .ok (.bipush 20, 2) := by decide +kernel
theorem dX4_init_52 : decode cX4_init 52 = .ok (.newarray .int, 2) := by decide +kernel
theorem dX4_init_54 : decode cX4_init 54 = .ok (.putfield 31, 3) := by decide +kernel
theorem dX4_init_57 : decode cX4_init 57 = .ok (.aload_n 0, 1) := by decide +kernel
theorem dX4_init_58 : decode cX4_init 58 = .ok (.bipush 20, 2) := by decide +kernel
theorem dX4_init_60 : decode cX4_init 60 = .ok (.newarray .int, 2) := by decide +kernel
theorem dX4_init_62 : decode cX4_init 62 = .ok (.putfield 34, 3) := by decide +kernel
theorem dX4_init_65 : decode cX4_init 65 = .ok (.aload_n 0, 1) := by decide +kernel
theorem dX4_init_66 : decode cX4_init 66 = .ok (.bipush 20, 2) := by decide +kernel
theorem dX4_init_68 : decode cX4_init 68 = .ok (.newarray .int, 2) := by decide +kernel
theorem dX4_init_70 : decode cX4_init 70 = .ok (.putfield 37, 3) := by decide +kernel
theorem dX4_init_73 : decode cX4_init 73 = .ok (.return_, 1) := by decide +kernel
theorem dX4_copyFrom_0 : decode cX4_copyFrom 0 = .ok (.aload_n 0, 1) := by decide +kernel
theorem dX4_copyFrom_1 : decode cX4_copyFrom 1 = .ok (.aload_n 1, 1) := by decide +kernel
theorem dX4_copyFrom_2 : decode cX4_copyFrom 2 = .ok (.getfield 9, 3) := by decide +kernel
theorem dX4_copyFrom_5 : decode cX4_copyFrom 5 = .ok (.putfield 9, 3) := by decide +kernel
theorem dX4_copyFrom_8 : decode cX4_copyFrom 8 = .ok (.aload_n 1, 1) := by decide +kernel
theorem dX4_copyFrom_9 : decode cX4_copyFrom 9 = .ok (.getfield 15, 3) := by decide +kernel
theorem dX4_copyFrom_12 : decode cX4_copyFrom 12 = .ok (.iconst 0, 1) := by decide +kernel
theorem dX4_copyFrom_13 : decode cX4_copyFrom 13 = .ok (.aload_n 0, 1) := by decide +kernel
theorem dX4_copyFrom_14 : decode cX4_copyFrom 14 = .ok (.getfield 15, 3) := by decide +kernel
theorem dX4_copyFrom_17 : decode cX4_copyFrom 17 = .ok (.iconst 0, 1) := by decide +kernel
theorem dX4_copyFrom_18 : decode cX4_copyFrom 18 = .ok (.bipush 20, 2) := by decide +kernel
theorem dX4_copyFrom_20 : decode cX4_copyFrom 20 = .ok (.invokestatic 40, 3) := by decide +kernel
theorem dX4_copyFrom_23 : decode cX4_copyFrom 23 = .ok (.aload_n 1, 1) := by decide +kernel
theorem dX4_copyFrom_24 : decode cX4_copyFrom 24 = .ok (.getfield 19, 3) := by decide +kernel
theorem dX4_copyFrom_27 : decode cX4_copyFrom 27 = .ok (.iconst 0, 1) := by decide +kernel
theorem dX4_copyFrom_28 : decode cX4_copyFrom 28 = .ok (.aload_n 0, 1) := by decide +kernel
theorem dX4_copyFrom_29 : decode cX4_copyFrom 29 = .ok (.getfield 19, 3) := by decide +kernel
theorem dX4_copyFrom_32 : decode cX4_copyFrom 32 = .ok (.iconst 0, 1) := by decide +kernel
theorem dX4_copyFrom_33 : decode cX4_copyFrom 33 = .ok (.bipush 20, 2) := by decide +kernel
theorem dX4_copyFrom_35 : decode cX4_copyFrom 35 = .ok (.invokestatic 40, 3) := by decide +kernel
theorem dX4_copyFrom_38 : decode cX4_copyFrom 38 = .ok (.aload_n 1, 1) := by decide +kernel
theorem dX4_copyFrom_39 : decode cX4_copyFrom 39 = .ok (.getfield 22, 3) := by decide +kernel
theorem dX4_copyFrom_42 : decode cX4_copyFrom 42 = .ok (.iconst 0, 1) := by decide +kernel
theorem dX4_copyFrom_43 : decode cX4_copyFrom 43 = .ok (.aload_n 0, 1) := by decide +kernel
theorem dX4_copyFrom_44 : decode cX4_copyFrom 44 = .ok (.getfield 22, 3) := by decide +kernel
theorem dX4_copyFrom_47 : decode cX4_copyFrom 47 = .ok (.iconst 0, 1) := by decide +kernel
theorem dX4_copyFrom_48 : decode cX4_copyFrom 48 = .ok (.bipush 20, 2) := by decide +kernel
theorem dX4_copyFrom_50 : decode cX4_copyFrom 50 = .ok (.invokestatic 40, 3) := by decide +kernel
theorem dX4_copyFrom_53 : decode cX4_copyFrom 53 = .ok (.aload_n 1, 1) := by decide +kernel
theorem dX4_copyFrom_54 : decode cX4_copyFrom 54 = .ok (.getfield 25, 3) := by decide +kernel
theorem dX4_copyFrom_57 : decode cX4_copyFrom 57 = .ok (.iconst 0, 1) := by decide +kernel
theorem dX4_copyFrom_58 : decode cX4_copyFrom 58 = .ok (.aload_n 0, 1) := by decide +kernel
theorem dX4_copyFrom_59 : decode cX4_copyFrom 59 = .ok (.getfield 25, 3) := by decide +kernel
theorem dX4_copyFrom_62 : decode cX4_copyFrom 62 = .ok (.iconst 0, 1) := by decide +kernel
theorem dX4_copyFrom_63 : decode cX4_copyFrom 63 = .ok (.bipush 20, 2) := by decide +kernel
theorem dX4_copyFrom_65 : decode cX4_copyFrom 65 = .ok (.invokestatic 40, 3) := by decide +kernel
theorem dX4_copyFrom_68 : decode cX4_copyFrom 68 = .ok (.aload_n 1, 1) := by decide +kernel
theorem dX4_copyFrom_69 : decode cX4_copyFrom 69 = .ok (.getfield 28, 3) := by decide +kernel
theorem dX4_copyFrom_72 : decode cX4_copyFrom 72 = .ok (.iconst 0, 1) := by decide +kernel
theorem dX4_copyFrom_73 : decode cX4_copyFrom 73 = .ok (.aload_n 0, 1) := by decide +kernel
theorem dX4_copyFrom_74 : decode cX4_copyFrom 74 = .ok (.getfield 28, 3) := by decide +kernel
theorem dX4_copyFrom_77 : decode cX4_copyFrom 77 = .ok (.iconst 0, 1) := by decide +kernel
theorem dX4_copyFrom_78 : decode cX4_copyFrom 78 = .ok (.bipush 20, 2) := by decide +kernel
theorem dX4_copyFrom_80 : decode cX4_copyFrom 80 = .ok (.invokestatic 40, 3) := by decide +kernel
theorem dX4_copyFrom_83 : decode cX4_copyFrom 83 = .ok (.aload_n 1, 1) := by decide +kernel
theorem dX4_copyFrom_84 : decode cX4_copyFrom 84 = .ok (.getfield 31, 3) := by decide +kernel
theorem dX4_copyFrom_87 : decode cX4_copyFrom 87 = .ok (.iconst 0, 1) := by decide +kernel
theorem dX4_copyFrom_88 : decode cX4_copyFrom 88 = .ok (.aload_n 0, 1) := by decide +kernel
theorem dX4_copyFrom_89 : decode cX4_copyFrom 89 = .ok (.getfield 31, 3) := by decide +kernel
theorem dX4_copyFrom_92 : decode cX4_copyFrom 92 = .ok (.iconst 0, 1) := by decide +kernel
theorem dX4_copyFrom_93 : decode cX4_copyFrom 93 = .ok (.bipush 20, 2) := by decide +kernel
theorem dX4_copyFrom_95 : decode cX4_copyFrom 95 = .ok (.invokestatic 40, 3) := by decide +kernel
theorem dX4_copyFrom_98 : decode cX4_copyFrom 98 = .ok (.aload_n 1, 1) := by decide +kernel
theorem dX4_copyFrom_99 : decode cX4_copyFrom 99 = .ok (.getfield 34, 3) := by decide +kernel
theorem dX4_copyFrom_102 : decode cX4_copyFrom 102 = .ok (.iconst 0, 1) := by decide +kernel
theorem dX4_copyFrom_103 : decode cX4_copyFrom 103 = .ok (.aload_n 0, 1) := by decide +kernel
theorem dX4_copyFrom_104 : decode cX4_copyFrom 104 = .ok (.getfield 34, 3) := by decide +kernel
theorem dX4_copyFrom_107 : decode cX4_copyFrom 107 = .ok (.iconst 0, 1) := by decide +kernel
theorem dX4_copyFrom_108 : decode cX4_copyFrom 108 = .ok (.bipush 20, 2) := by decide +kernel
theorem dX4_copyFrom_110 : decode cX4_copyFrom 110 = .ok (.invokestatic 40, 3) := by decide +kernel
theorem dX4_copyFrom_113 : decode cX4_copyFrom 113 = .ok (.aload_n 1, 1) := by decide +kernel
theorem dX4_copyFrom_114 : decode cX4_copyFrom 114 = .ok (.getfield 37, 3) := by decide +kernel
theorem dX4_copyFrom_117 : decode cX4_copyFrom 117 = .ok (.iconst 0, 1) := by decide +kernel
theorem dX4_copyFrom_118 : decode cX4_copyFrom 118 = .ok (.aload_n 0, 1) := by decide +kernel
theorem dX4_copyFrom_119 : decode cX4_copyFrom 119 = .ok (.getfield 37, 3) := by decide +kernel
theorem dX4_copyFrom_122 : decode cX4_copyFrom 122 = .ok (.iconst 0, 1) := by decide +kernel
theorem dX4_copyFrom_123 : decode cX4_copyFrom 123 = .ok (.bipush 20, 2) := by decide +kernel
theorem dX4_copyFrom_125 : decode cX4_copyFrom 125 = .ok (.invokestatic 40, 3) := by decide +kernel
theorem dX4_copyFrom_128 : decode cX4_copyFrom 128 = .ok (.return_, 1) := by decide +kernel
theorem dX4_add_0 : decode cX4_add 0 = .ok (.aload_n 0, 1) := by decide +kernel
theorem dX4_add_1 : decode cX4_add 1 = .ok (.getfield 9, 3) := by decide +kernel
theorem dX4_add_4 : decode cX4_add 4 = .ok (.bipush 20, 2) := by decide +kernel
theorem dX4_add_6 : decode cX4_add 6 = .ok (.if_icmp .lt 6, 3) := by decide +kernel
theorem dX4_add_9 : decode cX4_add 9 = .ok (.bipush (-3), 2) := by decide +kernel
theorem dX4_add_11 : decode cX4_add 11 = .ok (.ireturn, 1) := by decide +kernel
theorem dX4_add_12 : decode cX4_add 12 = .ok (.aload_n 0, 1) := by decide +kernel
theorem dX4_add_13 : decode cX4_add 13 = .ok (.getfield 9, 3) := by decide +kernel
theorem dX4_add_16 : decode cX4_add 16 = .ok (.istore_n 3, 1) := by decide +kernel
theorem dX4_add_17 : decode cX4_add 17 = .ok (.aload_n 0, 1) := by decide +kernel
theorem dX4_add_18 : decode cX4_add 18 = .ok (.getfield 15, 3) := by decide +kernel
theorem dX4_add_21 : decode cX4_add 21 = .ok (.iload_n 3, 1) := by decide +kernel
theorem dX4_add_22 : decode cX4_add 22 = .ok (.iload_n 1, 1) := by decide +kernel
theorem dX4_add_23 : decode cX4_add 23 = .ok (.iastore, 1) := by decide +kernel
theorem dX4_add_24 : decode cX4_add 24 = .ok (.aload_n 0, 1) := by decide +kernel
theorem dX4_add_25 : decode cX4_add 25 = .ok (.getfield 19, 3) := by decide +kernel
theorem dX4_add_28 : decode cX4_add 28 = .ok (.iload_n 3, 1) := by decide +kernel
theorem dX4_add_29 : decode cX4_add 29 = .ok (.iload_n 2, 1) := by decide +kernel
theorem dX4_add_30 : decode cX4_add 30 = .ok (.iastore, 1) := by decide +kernel
theorem dX4_add_31 : decode cX4_add 31 = .ok (.aload_n 0, 1) := by decide +kernel
theorem dX4_add_32 : decode cX4_add 32 = .ok (.getfield 22, 3) := by decide +kernel
theorem dX4_add_35 : decode cX4_add 35 = .ok (.iload_n 3, 1) := by decide +kernel
theorem dX4_add_36 : decode cX4_add 36 = .ok (.iconst 0, 1) := by decide +kernel
theorem dX4_add_37 : decode cX4_add 37 = .ok (.iastore, 1) := by decide +kernel
theorem dX4_add_38 : decode cX4_add 38 = .ok (.aload_n 0, 1) := by decide +kernel
theorem dX4_add_39 : decode cX4_add 39 = .ok (.getfield 25, 3) := by decide +kernel
theorem dX4_add_42 : decode cX4_add 42 = .ok (.iload_n 3, 1) := by decide +kernel
theorem dX4_add_43 : decode cX4_add 43 = .ok (.iconst 0, 1) := by decide +kernel
theorem dX4_add_44 : decode cX4_add 44 = .ok (.iastore, 1) := by decide +kernel
theorem dX4_add_45 : decode cX4_add 45 = .ok (.aload_n 0, 1) := by decide +kernel
theorem dX4_add_46 : decode cX4_add 46 = .ok (.getfield 28, 3) := by decide +kernel
theorem dX4_add_49 : decode cX4_add 49 = .ok (.iload_n 3, 1) := by decide +kernel
theorem dX4_add_50 : decode cX4_add 50 = .ok (.iconst 0, 1) := by decide +kernel
theorem dX4_add_51 : decode cX4_add 51 = .ok (.iastore, 1) := by decide +kernel
theorem dX4_add_52 : decode cX4_add 52 = .ok (.aload_n 0, 1) := by decide +kernel
theorem dX4_add_53 : decode cX4_add 53 = .ok (.getfield 31, 3) := by decide +kernel
theorem dX4_add_56 : decode cX4_add 56 = .ok (.iload_n 3, 1) := by decide +kernel
theorem dX4_add_57 : decode cX4_add 57 = .ok (.iconst 0, 1) := by decide +kernel
theorem dX4_add_58 : decode cX4_add 58 = .ok (.iastore, 1) := by decide +kernel
theorem dX4_add_59 : decode cX4_add 59 = .ok (.aload_n 0, 1) := by decide +kernel
theorem dX4_add_60 : decode cX4_add 60 = .ok (.getfield 34, 3) := by decide +kernel
theorem dX4_add_63 : decode cX4_add 63 = .ok (.iload_n 3, 1) := by decide +kernel
theorem dX4_add_64 : decode cX4_add 64 = .ok (.iconst 0, 1) := by decide +kernel
theorem dX4_add_65 : decode cX4_add 65 = .ok (.iastore, 1) := by decide +kernel
theorem dX4_add_66 : decode cX4_add 66 = .ok (.aload_n 0, 1) := by decide +kernel
theorem dX4_add_67 : decode cX4_add 67 = .ok (.getfield 37, 3) := by decide +kernel
theorem dX4_add_70 : decode cX4_add 70 = .ok (.iload_n 3, 1) := by decide +kernel
theorem dX4_add_71 : decode cX4_add 71 = .ok (.bipush (-5), 2) := by decide +kernel
theorem dX4_add_73 : decode cX4_add 73 = .ok (.iastore, 1) := by decide +kernel
theorem dX4_add_74 : decode cX4_add 74 = .ok (.aload_n 0, 1) := by decide +kernel
theorem dX4_add_75 : decode cX4_add 75 = .ok (.dup, 1) := by decide +kernel
theorem dX4_add_76 : decode cX4_add 76 = .ok (.getfield 9, 3) := by decide +kernel
theorem dX4_add_79 : decode cX4_add 79 = .ok (.iconst 1, 1) := by decide +kernel
theorem dX4_add_80 : decode cX4_add 80 = .ok (.iadd, 1) := by decide +kernel
theorem dX4_add_81 : decode cX4_add 81 = .ok (.putfield 9, 3) := by decide +kernel
theorem dX4_add_84 : decode cX4_add 84 = .ok (.iload_n 3, 1) := by decide +kernel
theorem dX4_add_85 : decode cX4_add 85 = .ok (.ireturn, 1) := by decide +kernel
theorem dX4_isReady_0 : decode cX4_isReady 0 = .ok (.aload_n 0, 1) := by decide +kernel
theorem dX4_isReady_1 : decode cX4_isReady 1 = .ok (.getfield 34, 3) := by decide +kernel
theorem dX4_isReady_4 : decode cX4_isReady 4 = .ok (.iload_n 1, 1) := by decide +kernel
theorem dX4_isReady_5 : decode cX4_isReady 5 = .ok (.iaload, 1) := by decide +kernel
theorem dX4_isReady_6 : decode cX4_isReady 6 = .ok (.iconst 4, 1) := by decide +kernel
theorem dX4_isReady_7 : decode cX4_isReady 7 = .ok (.if_icmp .eq 13, 3) := by decide +kernel
theorem dX4_isReady_10 : decode cX4_isReady 10 = .ok (.aload_n 0, 1) := by decide +kernel
theorem dX4_isReady_11 : decode cX4_isReady 11 = .ok (.getfield 34, 3) := by decide +kernel
theorem dX4_isReady_14 : decode cX4_isReady 14 = .ok (.iload_n 1, 1) := by decide +kernel
theorem dX4_isReady_15 : decode cX4_isReady 15 = .ok (.iaload, 1) := by decide +kernel
theorem dX4_isReady_16 : decode cX4_isReady 16 = .ok (.iconst 5, 1) := by decide +kernel
theorem dX4_isReady_17 : decode cX4_isReady 17 = .ok (.if_icmp .ne 7, 3) := by decide +kernel
theorem dX4_isReady_20 : decode cX4_isReady 20 = .ok (.iconst 1, 1) := by decide +kernel
theorem dX4_isReady_21 : decode cX4_isReady 21 = .ok (.goto 4, 3) := by decide +kernel
theorem dX4_isReady_24 : decode cX4_isReady 24 = .ok (.iconst 0, 1) := by decide +kernel
theorem dX4_isReady_25 : decode cX4_isReady 25 = .ok (.ireturn, 1) := by decide +kernel
theorem dX4_isTurnOf_0 : decode cX4_isTurnOf 0 = .ok (.aload_n 0, 1) := by decide +kernel
theorem dX4_isTurnOf_1 : decode cX4_isTurnOf 1 = .ok (.getfield 34, 3) := by decide +kernel
theorem dX4_isTurnOf_4 : decode cX4_isTurnOf 4 = .ok (.iload_n 1, 1) := by decide +kernel
theorem dX4_isTurnOf_5 : decode cX4_isTurnOf 5 = .ok (.iaload, 1) := by decide +kernel
theorem dX4_isTurnOf_6 : decode cX4_isTurnOf 6 = .ok (.iload_n 2, 1) := by decide +kernel
theorem dX4_isTurnOf_7 : decode cX4_isTurnOf 7 = .ok (.if_icmp .ne 17, 3) := by decide +kernel
theorem dX4_isTurnOf_10 : decode cX4_isTurnOf 10 = .ok (.aload_n 0, 1) := by decide +kernel
theorem dX4_isTurnOf_11 : decode cX4_isTurnOf 11 = .ok (.getfield 31, 3) := by decide +kernel
theorem dX4_isTurnOf_14 : decode cX4_isTurnOf 14 = .ok (.iload_n 1, 1) := by decide +kernel
theorem dX4_isTurnOf_15 : decode cX4_isTurnOf 15 = .ok (.iaload, 1) := by decide +kernel
theorem dX4_isTurnOf_16 : decode cX4_isTurnOf 16 = .ok (.iload_n 3, 1) := by decide +kernel
theorem dX4_isTurnOf_17 : decode cX4_isTurnOf 17 = .ok (.if_icmp .ne 7, 3) := by decide +kernel
theorem dX4_isTurnOf_20 : decode cX4_isTurnOf 20 = .ok (.iconst 1, 1) := by decide +kernel
theorem dX4_isTurnOf_21 : decode cX4_isTurnOf 21 = .ok (.goto 4, 3) := by decide +kernel
theorem dX4_isTurnOf_24 : decode cX4_isTurnOf 24 = .ok (.iconst 0, 1) := by decide +kernel
theorem dX4_isTurnOf_25 : decode cX4_isTurnOf 25 = .ok (.ireturn, 1) := by decide +kernel
theorem dX4_inState_0 : decode cX4_inState 0 = .ok (.iconst 0, 1) := by decide +kernel
theorem dX4_inState_1 : decode cX4_inState 1 = .ok (.istore_n 2, 1) := by decide +kernel
theorem dX4_inState_2 : decode cX4_inState 2 = .ok (.iconst 0, 1) := by decide +kernel
theorem dX4_inState_3 : decode cX4_inState 3 = .ok (.istore_n 3, 1) := by decide +kernel
theorem dX4_inState_4 : decode cX4_inState 4 = .ok (.iload_n 3, 1) := by decide +kernel
theorem dX4_inState_5 : decode cX4_inState 5 = .ok (.aload_n 0, 1) := by decide +kernel
theorem dX4_inState_6 : decode cX4_inState 6 = .ok (.getfield 9, 3) := by decide +kernel
theorem dX4_inState_9 : decode cX4_inState 9 = .ok (.if_icmp .ge 22, 3) := by decide +kernel
theorem dX4_inState_12 : decode cX4_inState 12 = .ok (.aload_n 0, 1) := by decide +kernel
theorem dX4_inState_13 : decode cX4_inState 13 = .ok (.getfield 34, 3) := by decide +kernel
theorem dX4_inState_16 : decode cX4_inState 16 = .ok (.iload_n 3, 1) := by decide +kernel
theorem dX4_inState_17 : decode cX4_inState 17 = .ok (.iaload, 1) := by decide +kernel
theorem dX4_inState_18 : decode cX4_inState 18 = .ok (.iload_n 1, 1) := by decide +kernel
theorem dX4_inState_19 : decode cX4_inState 19 = .ok (.if_icmp .ne 6, 3) := by decide +kernel
theorem dX4_inState_22 : decode cX4_inState 22 = .ok (.iinc 2 1, 3) := by decide +kernel
theorem dX4_inState_25 : decode cX4_inState 25 = .ok (.iinc 3 1, 3) := by decide +kernel
theorem dX4_inState_28 : decode cX4_inState 28 = .ok (.goto (-24), 3) := by decide +kernel
theorem dX4_inState_31 : decode cX4_inState 31 = .ok (.iload_n 2, 1) := by decide +kernel
theorem dX4_inState_32 : decode cX4_inState 32 = .ok (.ireturn, 1) := by decide +kernel
theorem dX4_withLoaner_0 : decode cX4_withLoaner 0 = .ok (.iconst 0, 1) := by decide +kernel
theorem dX4_withLoaner_1 : decode cX4_withLoaner 1 = .ok (.istore_n 1, 1) := by decide +kernel
theorem dX4_withLoaner_2 : decode cX4_withLoaner 2 = .ok (.iconst 0, 1) := by decide +kernel
theorem dX4_withLoaner_3 : decode cX4_withLoaner 3 = .ok (.istore_n 2, 1) := by decide +kernel
theorem dX4_withLoaner_4 : decode cX4_withLoaner 4 = .ok (.iload_n 2, 1) := by decide +kernel
theorem dX4_withLoaner_5 : decode cX4_withLoaner 5 = .ok (.aload_n 0, 1) := by decide +kernel
theorem dX4_withLoaner_6 : decode cX4_withLoaner 6 = .ok (.getfield 9, 3) := by decide +kernel
theorem dX4_withLoaner_9 : decode cX4_withLoaner 9 = .ok (.if_icmp .ge 18, 3) := by decide +kernel
theorem dX4_withLoaner_12 : decode cX4_withLoaner 12 = .ok (.iload_n 1, 1) := by decide +kernel
theorem dX4_withLoaner_13 : decode cX4_withLoaner 13 = .ok (.aload_n 0, 1) := by decide +kernel
theorem dX4_withLoaner_14 : decode cX4_withLoaner 14 = .ok (.getfield 31, 3) := by decide +kernel
theorem dX4_withLoaner_17 : decode cX4_withLoaner 17 = .ok (.iload_n 2, 1) := by decide +kernel
theorem dX4_withLoaner_18 : decode cX4_withLoaner 18 = .ok (.iaload, 1) := by decide +kernel
theorem dX4_withLoaner_19 : decode cX4_withLoaner 19 = .ok (.iadd, 1) := by decide +kernel
theorem dX4_withLoaner_20 : decode cX4_withLoaner 20 = .ok (.istore_n 1, 1) := by decide +kernel
theorem dX4_withLoaner_21 : decode cX4_withLoaner 21 = .ok (.iinc 2 1, 3) := by decide +kernel
theorem dX4_withLoaner_24 : decode cX4_withLoaner 24 = .ok (.goto (-20), 3) := by decide +kernel
theorem dX4_withLoaner_27 : decode cX4_withLoaner 27 = .ok (.iload_n 1, 1) := by decide +kernel
theorem dX4_withLoaner_28 : decode cX4_withLoaner 28 = .ok (.ireturn, 1) := by decide +kernel
theorem dX5_init_0 : decode cX5_init 0 = .ok (.aload_n 0, 1) := by decide +kernel
theorem dX5_init_1 : decode cX5_init 1 = .ok (.invokespecial 3, 3) := by decide +kernel
theorem dX5_init_4 : decode cX5_init 4 = .ok (.aload_n 0, 1) := by decide +kernel
theorem dX5_init_5 : decode cX5_init 5 = .ok (.bipush 6, 2) := by decide +kernel
theorem dX5_init_7 : decode cX5_init 7 = .ok (.newarray .int, 2) := by decide +kernel
theorem dX5_init_9 : decode cX5_init 9 = .ok (.dup, 1) := by decide +kernel
theorem dX5_init_10 : decode cX5_init 10 = .ok (.iconst 0, 1) := by decide +kernel
theorem dX5_init_11 : decode cX5_init 11 = .ok (.bipush 100, 2) := by decide +kernel
theorem dX5_init_13 : decode cX5_init 13 = .ok (.iastore, 1) := by decide +kernel
theorem dX5_init_14 : decode cX5_init 14 = .ok (.dup, 1) := by decide +kernel
theorem dX5_init_15 : decode cX5_init 15 = .ok (.iconst 1, 1) := by decide +kernel
theorem dX5_init_16 : decode cX5_init 16 = .ok (.bipush 100, 2) := by decide +kernel
theorem dX5_init_18 : decode cX5_init 18 = .ok (.iastore, 1) := by decide +kernel
theorem dX5_init_19 : decode cX5_init 19 = .ok (.dup, 1) := by decide +kernel
theorem dX5_init_20 : decode cX5_init 20 = .ok (.iconst 2, 1) := by decide +kernel
theorem dX5_init_21 : decode cX5_init 21 = .ok (.bipush 100, 2) := by decide +kernel
theorem dX5_init_23 : decode cX5_init 23 = .ok (.iastore, 1) := by decide +kernel
theorem dX5_init_24 : decode cX5_init 24 = .ok (.dup, 1) := by decide +kernel
theorem dX5_init_25 : decode cX5_init 25 = .ok (.iconst 3, 1) := by decide +kernel
theorem dX5_init_26 : decode cX5_init 26 = .ok (.bipush 100, 2) := by decide +kernel
theorem dX5_init_28 : decode cX5_init 28 = .ok (.iastore, 1) := by decide +kernel
theorem dX5_init_29 : decode cX5_init 29 = .ok (.dup, 1) := by decide +kernel
theorem dX5_init_30 : decode cX5_init 30 = .ok (.iconst 4, 1) := by decide +kernel
theorem dX5_init_31 : decode cX5_init 31 = .ok (.bipush 100, 2) := by decide +kernel
theorem dX5_init_33 : decode cX5_init 33 = .ok (.iastore, 1) := by decide +kernel
theorem dX5_init_34 : decode cX5_init 34 = .ok (.dup, 1) := by decide +kernel
theorem dX5_init_35 : decode cX5_init 35 = .ok (.iconst 5, 1) := by decide +kernel
theorem dX5_init_36 : decode cX5_init 36 = .ok (.bipush 100, 2) := by decide +kernel
theorem dX5_init_38 : decode cX5_init 38 = .ok (.iastore, 1) := by decide +kernel
theorem dX5_init_39 : decode cX5_init 39 = .ok (.putfield 9, 3) := by decide +kernel
theorem dX5_init_42 : decode cX5_init 42 = .ok (.aload_n 0, 1) := by decide +kernel
theorem dX5_init_43 : decode cX5_init 43 = .ok (.bipush 6, 2) := by decide +kernel
theorem dX5_init_45 : decode cX5_init 45 = .ok (.newarray .int, 2) := by decide +kernel
theorem dX5_init_47 : decode cX5_init 47 = .ok (.dup, 1) := by decide +kernel
theorem dX5_init_48 : decode cX5_init 48 = .ok (.iconst 0, 1) := by decide +kernel
theorem dX5_init_49 : decode cX5_init 49 = .ok (.iconst 2, 1) := by decide +kernel
theorem dX5_init_50 : decode cX5_init 50 = .ok (.iastore, 1) := by decide +kernel
theorem dX5_init_51 : decode cX5_init 51 = .ok (.dup, 1) := by decide +kernel
theorem dX5_init_52 : decode cX5_init 52 = .ok (.iconst 1, 1) := by decide +kernel
theorem dX5_init_53 : decode cX5_init 53 = .ok (.iconst 2, 1) := by decide +kernel
theorem dX5_init_54 : decode cX5_init 54 = .ok (.iastore, 1) := by decide +kernel
theorem dX5_init_55 : decode cX5_init 55 = .ok (.dup, 1) := by decide +kernel
theorem dX5_init_56 : decode cX5_init 56 = .ok (.iconst 2, 1) := by decide +kernel
theorem dX5_init_57 : decode cX5_init 57 = .ok (.iconst 2, 1) := by decide +kernel
theorem dX5_init_58 : decode cX5_init 58 = .ok (.iastore, 1) := by decide +kernel
theorem dX5_init_59 : decode cX5_init 59 = .ok (.dup, 1) := by decide +kernel
theorem dX5_init_60 : decode cX5_init 60 = .ok (.iconst 3, 1) := by decide +kernel
theorem dX5_init_61 : decode cX5_init 61 = .ok (.iconst 2, 1) := by decide +kernel
theorem dX5_init_62 : decode cX5_init 62 = .ok (.iastore, 1) := by decide +kernel
theorem dX5_init_63 : decode cX5_init 63 = .ok (.dup, 1) := by decide +kernel
theorem dX5_init_64 : decode cX5_init 64 = .ok (.iconst 4, 1) := by decide +kernel
theorem dX5_init_65 : decode cX5_init 65 = .ok (.iconst 2, 1) := by decide +kernel
theorem dX5_init_66 : decode cX5_init 66 = .ok (.iastore, 1) := by decide +kernel
theorem dX5_init_67 : decode cX5_init 67 = .ok (.dup, 1) := by decide +kernel
theorem dX5_init_68 : decode cX5_init 68 = .ok (.iconst 5, 1) := by decide +kernel
theorem dX5_init_69 : decode cX5_init 69 = .ok (.iconst 2, 1) := by decide +kernel
theorem dX5_init_70 : decode cX5_init 70 = .ok (.iastore, 1) := by decide +kernel
theorem dX5_init_71 : decode cX5_init 71 = .ok (.putfield 15, 3) := by decide +kernel
theorem dX5_init_74 : decode cX5_init 74 = .ok (.aload_n 0, 1) := by decide +kernel
theorem dX5_init_75 : decode cX5_init 75 = .ok (.bipush 6, 2) := by decide +kernel
theorem dX5_init_77 : decode cX5_init 77 = .ok (.newarray .int, 2) := by decide +kernel
theorem dX5_init_79 : decode cX5_init 79 = .ok (.putfield 18, 3) := by decide +kernel
theorem dX5_init_82 : decode cX5_init 82 = .ok (.aload_n 0, 1) := by decide +kernel
theorem dX5_init_83 : decode cX5_init 83 = .ok (.bipush 6, 2) := by decide +kernel
theorem dX5_init_85 : decode cX5_init 85 = .ok (.newarray .int, 2) := by decide +kernel
theorem dX5_init_87 : decode cX5_init 87 = .ok (.putfield 21, 3) := by decide +kernel
theorem dX5_init_90 : decode cX5_init 90 = .ok (.aload_n 0, 1) := by decide +kernel
theorem dX5_init_91 : decode cX5_init 91 = .ok (.iconst 0, 1) := by decide +kernel
theorem dX5_init_92 : decode cX5_init 92 = .ok (.putfield 24, 3) := by decide +kernel
theorem dX5_init_95 : decode cX5_init 95 = .ok (.aload_n 0, 1) := by decide +kernel
theorem dX5_init_96 : decode cX5_init 96 = .ok (.bipush 12, 2) := by decide +kernel
theorem dX5_init_98 : decode cX5_init 98 = .ok (.newarray .int, 2) := by decide +kernel
theorem dX5_init_100 : decode cX5_init 100 = .ok (.putfield 28, 3) := by decide +kernel
theorem dX5_init_103 : decode cX5_init 103 = .ok (.aload_n 0, 1) := by decide +kernel
theorem dX5_init_104 : decode cX5_init 104 = .ok (.bipush 12, 2) := by decide +kernel
theorem dX5_init_106 : decode cX5_init 106 = .ok (.newarray .int, 2) := by decide +kernel
theorem dX5_init_108 : decode cX5_init 108 = .ok (.putfield 31, 3) := by decide +kernel
theorem dX5_init_111 : decode cX5_init 111 = .ok (.aload_n 0, 1) := by decide +kernel
theorem dX5_init_112 : decode cX5_init 112 = .ok (.bipush 12, 2) := by decide +kernel
theorem dX5_init_114 : decode cX5_init 114 = .ok (.newarray .int, 2) := by decide +kernel
theorem dX5_init_116 : decode cX5_init 116 = .ok (.putfield 34, 3) := by decide +kernel
theorem dX5_init_119 : decode cX5_init 119 = .ok (.return_, 1) := by decide +kernel
theorem dX5_copyFrom_0 : decode cX5_copyFrom 0 = .ok (.aload_n 1, 1) := by decide +kernel
theorem dX5_copyFrom_1 : decode cX5_copyFrom 1 = .ok (.getfield 9, 3) := by decide +kernel
theorem dX5_copyFrom_4 : decode cX5_copyFrom 4 = .ok (.iconst 0, 1) := by decide +kernel
theorem dX5_copyFrom_5 : decode cX5_copyFrom 5 = .ok (.aload_n 0, 1) := by decide +kernel
theorem dX5_copyFrom_6 : decode cX5_copyFrom 6 = .ok (.getfield 9, 3) := by decide +kernel
theorem dX5_copyFrom_9 : decode cX5_copyFrom 9 = .ok (.iconst 0, 1) := by decide +kernel
theorem dX5_copyFrom_10 : decode cX5_copyFrom 10 = .ok (.bipush 6, 2) := by decide +kernel
theorem dX5_copyFrom_12 : decode cX5_copyFrom 12 = .ok (.invokestatic 37, 3) := by decide +kernel
theorem dX5_copyFrom_15 : decode cX5_copyFrom 15 = .ok (.aload_n 1, 1) := by decide +kernel
theorem dX5_copyFrom_16 : decode cX5_copyFrom 16 = .ok (.getfield 15, 3) := by decide +kernel
theorem dX5_copyFrom_19 : decode cX5_copyFrom 19 = .ok (.iconst 0, 1) := by decide +kernel
theorem dX5_copyFrom_20 : decode cX5_copyFrom 20 = .ok (.aload_n 0, 1) := by decide +kernel
theorem dX5_copyFrom_21 : decode cX5_copyFrom 21 = .ok (.getfield 15, 3) := by decide +kernel
theorem dX5_copyFrom_24 : decode cX5_copyFrom 24 = .ok (.iconst 0, 1) := by decide +kernel
theorem dX5_copyFrom_25 : decode cX5_copyFrom 25 = .ok (.bipush 6, 2) := by decide +kernel
theorem dX5_copyFrom_27 : decode cX5_copyFrom 27 = .ok (.invokestatic 37, 3) := by decide +kernel
theorem dX5_copyFrom_30 : decode cX5_copyFrom 30 = .ok (.aload_n 1, 1) := by decide +kernel
theorem dX5_copyFrom_31 : decode cX5_copyFrom 31 = .ok (.getfield 18, 3) := by decide +kernel
theorem dX5_copyFrom_34 : decode cX5_copyFrom 34 = .ok (.iconst 0, 1) := by decide +kernel
theorem dX5_copyFrom_35 : decode cX5_copyFrom 35 = .ok (.aload_n 0, 1) := by decide +kernel
theorem dX5_copyFrom_36 : decode cX5_copyFrom 36 = .ok (.getfield 18, 3) := by decide +kernel
theorem dX5_copyFrom_39 : decode cX5_copyFrom 39 = .ok (.iconst 0, 1) := by decide +kernel
theorem dX5_copyFrom_40 : decode cX5_copyFrom 40 = .ok (.bipush 6, 2) := by decide +kernel
theorem dX5_copyFrom_42 : decode cX5_copyFrom 42 = .ok (.invokestatic 37, 3) := by decide +kernel
theorem dX5_copyFrom_45 : decode cX5_copyFrom 45 = .ok (.aload_n 1, 1) := by decide +kernel
theorem dX5_copyFrom_46 : decode cX5_copyFrom 46 = .ok (.getfield 21, 3) := by decide +kernel
theorem dX5_copyFrom_49 : decode cX5_copyFrom 49 = .ok (.iconst 0, 1) := by decide +kernel
theorem dX5_copyFrom_50 : decode cX5_copyFrom 50 = .ok (.aload_n 0, 1) := by decide +kernel
theorem dX5_copyFrom_51 : decode cX5_copyFrom 51 = .ok (.getfield 21, 3) := by decide +kernel
theorem dX5_copyFrom_54 : decode cX5_copyFrom 54 = .ok (.iconst 0, 1) := by decide +kernel
theorem dX5_copyFrom_55 : decode cX5_copyFrom 55 = .ok (.bipush 6, 2) := by decide +kernel
theorem dX5_copyFrom_57 : decode cX5_copyFrom 57 = .ok (.invokestatic 37, 3) := by decide +kernel
theorem dX5_copyFrom_60 : decode cX5_copyFrom 60 = .ok (.aload_n 0, 1) := by decide +kernel
theorem dX5_copyFrom_61 : decode cX5_copyFrom 61 = .ok (.aload_n 1, 1) := by decide +kernel
theorem dX5_copyFrom_62 : decode cX5_copyFrom 62 = .ok (.getfield 24, 3) := by decide +kernel
theorem dX5_copyFrom_65 : decode cX5_copyFrom 65 = .ok (.putfield 24, 3) := by decide +kernel
theorem dX5_copyFrom_68 : decode cX5_copyFrom 68 = .ok (.aload_n 1, 1) := by decide +kernel
theorem dX5_copyFrom_69 : decode cX5_copyFrom 69 = .ok (.getfield 28, 3) := by decide +kernel
theorem dX5_copyFrom_72 : decode cX5_copyFrom 72 = .ok (.iconst 0, 1) := by decide +kernel
theorem dX5_copyFrom_73 : decode cX5_copyFrom 73 = .ok (.aload_n 0, 1) := by decide +kernel
theorem dX5_copyFrom_74 : decode cX5_copyFrom 74 = .ok (.getfield 28, 3) := by decide +kernel
theorem dX5_copyFrom_77 : decode cX5_copyFrom 77 = .ok (.iconst 0, 1) := by decide +kernel
theorem dX5_copyFrom_78 : decode cX5_copyFrom 78 = .ok (.bipush 12, 2) := by decide +kernel
theorem dX5_copyFrom_80 : decode cX5_copyFrom 80 = .ok (.invokestatic 37, 3) := by decide +kernel
theorem dX5_copyFrom_83 : decode cX5_copyFrom 83 = .ok (.aload_n 1, 1) := by decide +kernel
theorem dX5_copyFrom_84 : decode cX5_copyFrom 84 = .ok (.getfield 31, 3) := by decide +kernel
theorem dX5_copyFrom_87 : decode cX5_copyFrom 87 = .ok (.iconst 0, 1) := by decide +kernel
theorem dX5_copyFrom_88 : decode cX5_copyFrom 88 = .ok (.aload_n 0, 1) := by decide +kernel
theorem dX5_copyFrom_89 : decode cX5_copyFrom 89 = .ok (.getfield 31, 3) := by decide +kernel
theorem dX5_copyFrom_92 : decode cX5_copyFrom 92 = .ok (.iconst 0, 1) := by decide +kernel
theorem dX5_copyFrom_93 : decode cX5_copyFrom 93 = .ok (.bipush 12, 2) := by decide +kernel
theorem dX5_copyFrom_95 : decode cX5_copyFrom 95 = .ok (.invokestatic 37, 3) := by decide +kernel
theorem dX5_copyFrom_98 : decode cX5_copyFrom 98 = .ok (.aload_n 1, 1) := by decide +kernel
theorem dX5_copyFrom_99 : decode cX5_copyFrom 99 = .ok (.getfield 34, 3) := by decide +kernel
theorem dX5_copyFrom_102 : decode cX5_copyFrom 102 = .ok (.iconst 0, 1) := by decide +kernel
theorem dX5_copyFrom_103 : decode cX5_copyFrom 103 = .ok (.aload_n 0, 1) := by decide +kernel
theorem dX5_copyFrom_104 : decode cX5_copyFrom 104 = .ok (.getfield 34, 3) := by decide +kernel
theorem dX5_copyFrom_107 : decode cX5_copyFrom 107 = .ok (.iconst 0, 1) := by decide +kernel
theorem dX5_copyFrom_108 : decode cX5_copyFrom 108 = .ok (.bipush 12, 2) := by decide +kernel
theorem dX5_copyFrom_110 : decode cX5_copyFrom 110 = .ok (.invokestatic 37, 3) := by decide +kernel
theorem dX5_copyFrom_113 : decode cX5_copyFrom 113 = .ok (.return_, 1) := by decide +kernel
theorem dX5_needOf_0 : decode cX5_needOf 0 = .ok (.getstatic 43, 3) := by decide +kernel
theorem dX5_needOf_3 : decode cX5_needOf 3 = .ok (.iload_n 0, 1) := by decide +kernel
theorem dX5_needOf_4 : decode cX5_needOf 4 = .ok (.bipush 6, 2) := by decide +kernel
theorem dX5_needOf_6 : decode cX5_needOf 6 = .ok (.imul, 1) := by decide +kernel
theorem dX5_needOf_7 : decode cX5_needOf 7 = .ok (.iload_n 1, 1) := by decide +kernel
theorem dX5_needOf_8 : decode cX5_needOf 8 = .ok (.iadd, 1) := by decide +kernel
theorem dX5_needOf_9 : decode cX5_needOf 9 = .ok (.iaload, 1) := by decide +kernel
theorem dX5_needOf_10 : decode cX5_needOf 10 = .ok (.ireturn, 1) := by decide +kernel
theorem dX5_priceOfParts_0 : decode cX5_priceOfParts 0 = .ok (.iconst 0, 1) := by decide +kernel
theorem dX5_priceOfParts_1 : decode cX5_priceOfParts 1 = .ok (.istore_n 2, 1) := by decide +kernel
theorem dX5_priceOfParts_2 : decode cX5_priceOfParts 2 = .ok (.iconst 0, 1) := by decide +kernel
theorem dX5_priceOfParts_3 : decode cX5_priceOfParts 3 = .ok (.istore_n 3, 1) := by decide +kernel
theorem dX5_priceOfParts_4 : decode cX5_priceOfParts 4 = .ok (.iload_n 3, 1) := by decide +kernel
theorem dX5_priceOfParts_5 : decode cX5_priceOfParts 5 = .ok (.bipush 6, 2) := by decide +kernel
theorem dX5_priceOfParts_7 : decode cX5_priceOfParts 7 = .ok (.if_icmp .ge 24, 3) := by decide +kernel
theorem dX5_priceOfParts_10 : decode cX5_priceOfParts 10 = .ok (.iload_n 2, 1) := by decide +kernel
theorem dX5_priceOfParts_11 : decode cX5_priceOfParts 11 = .ok (.iload_n 1, 1) := by decide +kernel
theorem dX5_priceOfParts_12 : decode cX5_priceOfParts 12 = .ok (.iload_n 3, 1) := by decide +kernel
theorem dX5_priceOfParts_13 : decode cX5_priceOfParts 13 = .ok (.invokestatic 46, 3) := by decide +kernel
theorem dX5_priceOfParts_16 : decode cX5_priceOfParts 16 = .ok (.aload_n 0, 1) := by decide +kernel
theorem dX5_priceOfParts_17 : decode cX5_priceOfParts 17 = .ok (.getfield 9, 3) := by decide +kernel
theorem dX5_priceOfParts_20 : decode cX5_priceOfParts 20 = .ok (.iload_n 3, 1) := by decide +kernel
theorem dX5_priceOfParts_21 : decode cX5_priceOfParts 21 = .ok (.iaload, 1) := by decide +kernel
theorem dX5_priceOfParts_22 : decode cX5_priceOfParts 22 = .ok (.imul, 1) := by decide +kernel
theorem dX5_priceOfParts_23 : decode cX5_priceOfParts 23 = .ok (.iadd, 1) := by decide +kernel
theorem dX5_priceOfParts_24 : decode cX5_priceOfParts 24 = .ok (.istore_n 2, 1) := by decide +kernel
theorem dX5_priceOfParts_25 : decode cX5_priceOfParts 25 = .ok (.iinc 3 1, 3) := by decide +kernel
theorem dX5_priceOfParts_28 : decode cX5_priceOfParts 28 = .ok (.goto (-24), 3) := by decide +kernel
theorem dX5_priceOfParts_31 : decode cX5_priceOfParts 31 = .ok (.iload_n 2, 1) := by decide +kernel
theorem dX5_priceOfParts_32 : decode cX5_priceOfParts 32 = .ok (.ireturn, 1) := by decide +kernel
theorem dX5_free_0 : decode cX5_free 0 = .ok (.aload_n 0, 1) := by decide +kernel
theorem dX5_free_1 : decode cX5_free 1 = .ok (.getfield 18, 3) := by decide +kernel
theorem dX5_free_4 : decode cX5_free 4 = .ok (.iload_n 1, 1) := by decide +kernel
theorem dX5_free_5 : decode cX5_free 5 = .ok (.iaload, 1) := by decide +kernel
theorem dX5_free_6 : decode cX5_free 6 = .ok (.aload_n 0, 1) := by decide +kernel
theorem dX5_free_7 : decode cX5_free 7 = .ok (.getfield 21, 3) := by decide +kernel
theorem dX5_free_10 : decode cX5_free 10 = .ok (.iload_n 1, 1) := by decide +kernel
theorem dX5_free_11 : decode cX5_free 11 = .ok (.iaload, 1) := by decide +kernel
theorem dX5_free_12 : decode cX5_free 12 = .ok (.isub, 1) := by decide +kernel
theorem dX5_free_13 : decode cX5_free 13 = .ok (.ireturn, 1) := by decide +kernel
theorem dX5_onOrder_0 : decode cX5_onOrder 0 = .ok (.iconst 0, 1) := by decide +kernel
theorem dX5_onOrder_1 : decode cX5_onOrder 1 = .ok (.istore_n 2, 1) := by decide +kernel
theorem dX5_onOrder_2 : decode cX5_onOrder 2 = .ok (.iconst 0, 1) := by decide +kernel
theorem dX5_onOrder_3 : decode cX5_onOrder 3 = .ok (.istore_n 3, 1) := by decide +kernel
theorem dX5_onOrder_4 : decode cX5_onOrder 4 = .ok (.iload_n 3, 1) := by decide +kernel
theorem dX5_onOrder_5 : decode cX5_onOrder 5 = .ok (.aload_n 0, 1) := by decide +kernel
theorem dX5_onOrder_6 : decode cX5_onOrder 6 = .ok (.getfield 24, 3) := by decide +kernel
theorem dX5_onOrder_9 : decode cX5_onOrder 9 = .ok (.if_icmp .ge 28, 3) := by decide +kernel
theorem dX5_onOrder_12 : decode cX5_onOrder 12 = .ok (.aload_n 0, 1) := by decide +kernel
theorem dX5_onOrder_13 : decode cX5_onOrder 13 = .ok (.getfield 28, 3) := by decide +kernel
theorem dX5_onOrder_16 : decode cX5_onOrder 16 = .ok (.iload_n 3, 1) := by decide +kernel
theorem dX5_onOrder_17 : decode cX5_onOrder 17 = .ok (.iaload, 1) := by decide +kernel
theorem dX5_onOrder_18 : decode cX5_onOrder 18 = .ok (.iload_n 1, 1) := by decide +kernel
theorem dX5_onOrder_19 : decode cX5_onOrder 19 = .ok (.if_icmp .ne 12, 3) := by decide +kernel
theorem dX5_onOrder_22 : decode cX5_onOrder 22 = .ok (.iload_n 2, 1) := by decide +kernel
theorem dX5_onOrder_23 : decode cX5_onOrder 23 = .ok (.aload_n 0, 1) := by decide +kernel
theorem dX5_onOrder_24 : decode cX5_onOrder 24 = .ok (.getfield 31, 3) := by decide +kernel
theorem dX5_onOrder_27 : decode cX5_onOrder 27 = .ok (.iload_n 3, 1) := by decide +kernel
theorem dX5_onOrder_28 : decode cX5_onOrder 28 = .ok (.iaload, 1) := by decide +kernel
theorem dX5_onOrder_29 : decode cX5_onOrder 29 = .ok (.iadd, 1) := by decide +kernel
theorem dX5_onOrder_30 : decode cX5_onOrder 30 = .ok (.istore_n 2, 1) := by decide +kernel
theorem dX5_onOrder_31 : decode cX5_onOrder 31 = .ok (.iinc 3 1, 3) := by decide +kernel
theorem dX5_onOrder_34 : decode cX5_onOrder 34 = .ok (.goto (-30), 3) := by decide +kernel
theorem dX5_onOrder_37 : decode cX5_onOrder 37 = .ok (.iload_n 2, 1) := by decide +kernel
theorem dX5_onOrder_38 : decode cX5_onOrder 38 = .ok (.ireturn, 1) := by decide +kernel
theorem dX5_lowestShort_0 : decode cX5_lowestShort 0 = .ok (.iconst 0, 1) := by decide +kernel
theorem dX5_lowestShort_1 : decode cX5_lowestShort 1 = .ok (.istore_n 2, 1) := by decide +kernel
theorem dX5_lowestShort_2 : decode cX5_lowestShort 2 = .ok (.iload_n 2, 1) := by decide +kernel
theorem dX5_lowestShort_3 : decode cX5_lowestShort 3 = .ok (.bipush 6, 2) := by decide +kernel
theorem dX5_lowestShort_5 : decode cX5_lowestShort 5 = .ok (.if_icmp .ge 24, 3) := by decide +kernel
theorem dX5_lowestShort_8 : decode cX5_lowestShort 8 = .ok (.aload_n 0, 1) := by decide +kernel
theorem dX5_lowestShort_9 : decode cX5_lowestShort 9 = .ok (.iload_n 2, 1) := by decide +kernel
theorem dX5_lowestShort_10 : decode cX5_lowestShort 10 = .ok (.invokevirtual 50, 3) := by decide +kernel
theorem dX5_lowestShort_13 : decode cX5_lowestShort 13 = .ok (.iload_n 1, 1) := by decide +kernel
theorem dX5_lowestShort_14 : decode cX5_lowestShort 14 = .ok (.iload_n 2, 1) := by decide +kernel
theorem dX5_lowestShort_15 : decode cX5_lowestShort 15 = .ok (.invokestatic 46, 3) := by decide +kernel
theorem dX5_lowestShort_18 : decode cX5_lowestShort 18 = .ok (.if_icmp .ge 5, 3) := by decide +kernel
theorem dX5_lowestShort_21 : decode cX5_lowestShort 21 = .ok (.iload_n 2, 1) := by decide +kernel
theorem dX5_lowestShort_22 : decode cX5_lowestShort 22 = .ok (.ireturn, 1) := by decide +kernel
theorem dX5_lowestShort_23 : decode cX5_lowestShort 23 = .ok (.iinc 2 1, 3) := by decide +kernel
theorem dX5_lowestShort_26 : decode cX5_lowestShort 26 = .ok (.goto (-24), 3) := by decide +kernel
theorem dX5_lowestShort_29 : decode cX5_lowestShort 29 = .ok (.bipush (-5), 2) := by decide +kernel
theorem dX5_lowestShort_31 : decode cX5_lowestShort 31 = .ok (.ireturn, 1) := by decide +kernel
theorem dX5_isEnoughOrdered_0 : decode cX5_isEnoughOrdered 0 = .ok (.iconst 0, 1) := by decide +kernel
theorem dX5_isEnoughOrdered_1 : decode cX5_isEnoughOrdered 1 = .ok (.istore_n 2, 1) := by decide +kernel
theorem dX5_isEnoughOrdered_2 : decode cX5_isEnoughOrdered 2 = .ok (.iload_n 2, 1) := by decide +kernel
theorem dX5_isEnoughOrdered_3 : decode cX5_isEnoughOrdered 3 = .ok (.bipush 6, 2) := by decide +kernel
theorem dX5_isEnoughOrdered_5 : decode cX5_isEnoughOrdered 5 = .ok (.if_icmp .ge 30, 3) := by decide +kernel
theorem dX5_isEnoughOrdered_8 : decode cX5_isEnoughOrdered 8 = .ok (.aload_n 0, 1) := by decide +kernel
theorem dX5_isEnoughOrdered_9 : decode cX5_isEnoughOrdered 9 = .ok (.iload_n 2, 1) := by decide +kernel
theorem dX5_isEnoughOrdered_10 : decode cX5_isEnoughOrdered 10 = .ok (.invokevirtual 50, 3) := by decide +kernel
theorem dX5_isEnoughOrdered_13 : decode cX5_isEnoughOrdered 13 = .ok (.aload_n 0, 1) := by decide +kernel
theorem dX5_isEnoughOrdered_14 : decode cX5_isEnoughOrdered 14 = .ok (.iload_n 2, 1) := by decide +kernel
theorem dX5_isEnoughOrdered_15 : decode cX5_isEnoughOrdered 15 = .ok (.invokevirtual 54, 3) := by decide +kernel
theorem dX5_isEnoughOrdered_18 : decode cX5_isEnoughOrdered 18 = .ok (.iadd, 1) := by decide +kernel
theorem dX5_isEnoughOrdered_19 : decode cX5_isEnoughOrdered 19 = .ok (.iload_n 1, 1) := by decide +kernel
theorem dX5_isEnoughOrdered_20 : decode cX5_isEnoughOrdered 20 = .ok (.iload_n 2, 1) := by decide +kernel
theorem dX5_isEnoughOrdered_21 : decode cX5_isEnoughOrdered 21 = .ok (.invokestatic 46, 3) := by decide +kernel
theorem dX5_isEnoughOrdered_24 : decode cX5_isEnoughOrdered 24 = .ok (.if_icmp .ge 5, 3) := by decide +kernel
theorem dX5_isEnoughOrdered_27 : decode cX5_isEnoughOrdered 27 = .ok (.iconst 0, 1) := by decide +kernel
theorem dX5_isEnoughOrdered_28 : decode cX5_isEnoughOrdered 28 = .ok (.ireturn, 1) := by decide +kernel
theorem dX5_isEnoughOrdered_29 : decode cX5_isEnoughOrdered 29 = .ok (.iinc 2 1, 3) := by decide +kernel
theorem dX5_isEnoughOrdered_32 : decode cX5_isEnoughOrdered 32 = .ok (.goto (-30), 3) := by decide +kernel
theorem dX5_isEnoughOrdered_35 : decode cX5_isEnoughOrdered 35 = .ok (.iconst 1, 1) := by decide +kernel
theorem dX5_isEnoughOrdered_36 : decode cX5_isEnoughOrdered 36 = .ok (.ireturn, 1) := by decide +kernel
theorem dX5_reserveFor_0 : decode cX5_reserveFor 0 = .ok (.iconst 0, 1) := by decide +kernel
theorem dX5_reserveFor_1 : decode cX5_reserveFor 1 = .ok (.istore_n 2, 1) := by decide +kernel
theorem dX5_reserveFor_2 : decode cX5_reserveFor 2 = .ok (.iload_n 2, 1) := by decide +kernel
theorem dX5_reserveFor_3 : decode cX5_reserveFor 3 = .ok (.bipush 6, 2) := by decide +kernel
theorem dX5_reserveFor_5 : decode cX5_reserveFor 5 = .ok (.if_icmp .ge 23, 3) := by decide +kernel
theorem dX5_reserveFor_8 : decode cX5_reserveFor 8 = .ok (.aload_n 0, 1) := by decide +kernel
theorem dX5_reserveFor_9 : decode cX5_reserveFor 9 = .ok (.getfield 21, 3) := by decide +kernel
theorem dX5_reserveFor_12 : decode cX5_reserveFor 12 = .ok (.iload_n 2, 1) := by decide +kernel
theorem dX5_reserveFor_13 : decode cX5_reserveFor 13 = .ok (.dup2, 1) := by decide +kernel
theorem dX5_reserveFor_14 : decode cX5_reserveFor 14 = .ok (.iaload, 1) := by decide +kernel
theorem dX5_reserveFor_15 : decode cX5_reserveFor 15 = .ok (.iload_n 1, 1) := by decide +kernel
theorem dX5_reserveFor_16 : decode cX5_reserveFor 16 = .ok (.iload_n 2, 1) := by decide +kernel
theorem dX5_reserveFor_17 : decode cX5_reserveFor 17 = .ok (.invokestatic 46, 3) := by decide +kernel
theorem dX5_reserveFor_20 : decode cX5_reserveFor 20 = .ok (.iadd, 1) := by decide +kernel
theorem dX5_reserveFor_21 : decode cX5_reserveFor 21 = .ok (.iastore, 1) := by decide +kernel
theorem dX5_reserveFor_22 : decode cX5_reserveFor 22 = .ok (.iinc 2 1, 3) := by decide +kernel
theorem dX5_reserveFor_25 : decode cX5_reserveFor 25 = .ok (.goto (-23), 3) := by decide +kernel
theorem dX5_reserveFor_28 : decode cX5_reserveFor 28 = .ok (.return_, 1) := by decide +kernel
theorem dX5_takeReservedFor_0 : decode cX5_takeReservedFor 0 = .ok (.iconst 0, 1) := by decide +kernel
theorem dX5_takeReservedFor_1 : decode cX5_takeReservedFor 1 = .ok (.istore_n 2, 1) := by decide +kernel
theorem dX5_takeReservedFor_2 : decode cX5_takeReservedFor 2 = .ok (.iload_n 2, 1) := by decide +kernel
theorem dX5_takeReservedFor_3 : decode cX5_takeReservedFor 3 = .ok (.bipush 6, 2) := by decide +kernel
theorem dX5_takeReservedFor_5 : decode cX5_takeReservedFor 5 = .ok (.if_icmp .ge 37, 3) := by decide +kernel
theorem dX5_takeReservedFor_8 : decode cX5_takeReservedFor 8 = .ok (.aload_n 0, 1) := by decide +kernel
theorem dX5_takeReservedFor_9 : decode cX5_takeReservedFor 9 = .ok (.getfield 18, 3) := by decide +kernel
theorem dX5_takeReservedFor_12 : decode cX5_takeReservedFor 12 = .ok (.iload_n 2, 1) := by decide +kernel
theorem dX5_takeReservedFor_13 : decode cX5_takeReservedFor 13 = .ok (.dup2, 1) := by decide +kernel
theorem dX5_takeReservedFor_14 : decode cX5_takeReservedFor 14 = .ok (.iaload, 1) := by decide +kernel
theorem dX5_takeReservedFor_15 : decode cX5_takeReservedFor 15 = .ok (.iload_n 1, 1) := by decide +kernel
theorem dX5_takeReservedFor_16 : decode cX5_takeReservedFor 16 = .ok (.iload_n 2, 1) := by decide +kernel
theorem dX5_takeReservedFor_17 : decode cX5_takeReservedFor 17 = .ok (.invokestatic 46, 3) := by decide +kernel
theorem dX5_takeReservedFor_20 : decode cX5_takeReservedFor 20 = .ok (.isub, 1) := by decide +kernel
theorem dX5_takeReservedFor_21 : decode cX5_takeReservedFor 21 = .ok (.iastore, 1) := by decide +kernel
theorem dX5_takeReservedFor_22 : decode cX5_takeReservedFor 22 = .ok (.aload_n 0, 1) := by decide +kernel
theorem dX5_takeReservedFor_23 : decode cX5_takeReservedFor 23 = .ok (.getfield 21, 3) := by decide +kernel
theorem dX5_takeReservedFor_26 : decode cX5_takeReservedFor 26 = .ok (.iload_n 2, 1) := by decide +kernel
theorem dX5_takeReservedFor_27 : decode cX5_takeReservedFor 27 = .ok (.dup2, 1) := by decide +kernel
theorem dX5_takeReservedFor_28 : decode cX5_takeReservedFor 28 = .ok (.iaload, 1) := by decide +kernel
theorem dX5_takeReservedFor_29 : decode cX5_takeReservedFor 29 = .ok (.iload_n 1, 1) := by decide +kernel
theorem dX5_takeReservedFor_30 : decode cX5_takeReservedFor 30 = .ok (.iload_n 2, 1) := by decide +kernel
theorem dX5_takeReservedFor_31 : decode cX5_takeReservedFor 31 = .ok (.invokestatic 46, 3) := by decide +kernel
theorem dX5_takeReservedFor_34 : decode cX5_takeReservedFor 34 = .ok (.isub, 1) := by decide +kernel
theorem dX5_takeReservedFor_35 : decode cX5_takeReservedFor 35 = .ok (.iastore, 1) := by decide +kernel
theorem dX5_takeReservedFor_36 : decode cX5_takeReservedFor 36 = .ok (.iinc 2 1, 3) := by decide +kernel
theorem dX5_takeReservedFor_39 : decode cX5_takeReservedFor 39 = .ok (.goto (-37), 3) := by decide +kernel
theorem dX5_takeReservedFor_42 : decode cX5_takeReservedFor 42 = .ok (.return_, 1) := by decide +kernel
theorem dX5_addOrder_0 : decode cX5_addOrder 0 = .ok (.aload_n 0, 1) := by decide +kernel
theorem dX5_addOrder_1 : decode cX5_addOrder 1 = .ok (.getfield 24, 3) := by decide +kernel
theorem dX5_addOrder_4 : decode cX5_addOrder 4 = .ok (.bipush 12, 2) := by decide +kernel
theorem dX5_addOrder_6 : decode cX5_addOrder 6 = .ok (.if_icmp .lt 4, 3) := by decide +kernel
theorem dX5_addOrder_9 : decode cX5_addOrder 9 = .ok (.return_, 1) := by decide +kernel
theorem dX5_addOrder_10 : decode cX5_addOrder 10 = .ok (.aload_n 0, 1) := by decide +kernel
theorem dX5_addOrder_11 : decode cX5_addOrder 11 = .ok (.getfield 28, 3) := by decide +kernel
theorem dX5_addOrder_14 : decode cX5_addOrder 14 = .ok (.aload_n 0, 1) := by decide +kernel
theorem dX5_addOrder_15 : decode cX5_addOrder 15 = .ok (.getfield 24, 3) := by decide +kernel
theorem dX5_addOrder_18 : decode cX5_addOrder 18 = .ok (.iload_n 1, 1) := by decide +kernel
theorem dX5_addOrder_19 : decode cX5_addOrder 19 = .ok (.iastore, 1) := by decide +kernel
theorem dX5_addOrder_20 : decode cX5_addOrder 20 = .ok (.aload_n 0, 1) := by decide +kernel
theorem dX5_addOrder_21 : decode cX5_addOrder 21 = .ok (.getfield 31, 3) := by decide +kernel
theorem dX5_addOrder_24 : decode cX5_addOrder 24 = .ok (.aload_n 0, 1) := by decide +kernel
theorem dX5_addOrder_25 : decode cX5_addOrder 25 = .ok (.getfield 24, 3) := by decide +kernel
theorem dX5_addOrder_28 : decode cX5_addOrder 28 = .ok (.iload_n 2, 1) := by decide +kernel
theorem dX5_addOrder_29 : decode cX5_addOrder 29 = .ok (.iastore, 1) := by decide +kernel
theorem dX5_addOrder_30 : decode cX5_addOrder 30 = .ok (.aload_n 0, 1) := by decide +kernel
theorem dX5_addOrder_31 : decode cX5_addOrder 31 = .ok (.getfield 34, 3) := by decide +kernel
theorem dX5_addOrder_34 : decode cX5_addOrder 34 = .ok (.aload_n 0, 1) := by decide +kernel
theorem dX5_addOrder_35 : decode cX5_addOrder 35 = .ok (.getfield 24, 3) := by decide +kernel
theorem dX5_addOrder_38 : decode cX5_addOrder 38 = .ok (.iload_n 3, 1) := by decide +kernel
theorem dX5_addOrder_39 : decode cX5_addOrder 39 = .ok (.iastore, 1) := by decide +kernel
theorem dX5_addOrder_40 : decode cX5_addOrder 40 = .ok (.aload_n 0, 1) := by decide +kernel
theorem dX5_addOrder_41 : decode cX5_addOrder 41 = .ok (.dup, 1) := by decide +kernel
theorem dX5_addOrder_42 : decode cX5_addOrder 42 = .ok (.getfield 24, 3) := by decide +kernel
theorem dX5_addOrder_45 : decode cX5_addOrder 45 = .ok (.iconst 1, 1) := by decide +kernel
theorem dX5_addOrder_46 : decode cX5_addOrder 46 = .ok (.iadd, 1) := by decide +kernel
theorem dX5_addOrder_47 : decode cX5_addOrder 47 = .ok (.putfield 24, 3) := by decide +kernel
theorem dX5_addOrder_50 : decode cX5_addOrder 50 = .ok (.return_, 1) := by decide +kernel
theorem dX5_dropOrdersOf_0 : decode cX5_dropOrdersOf 0 = .ok (.iconst 0, 1) := by decide +kernel
theorem dX5_dropOrdersOf_1 : decode cX5_dropOrdersOf 1 = .ok (.istore_n 2, 1) := by decide +kernel
theorem dX5_dropOrdersOf_2 : decode cX5_dropOrdersOf 2 = .ok (.iconst 0, 1) := by decide +kernel
theorem dX5_dropOrdersOf_3 : decode cX5_dropOrdersOf 3 = .ok (.istore_n 3, 1) := by decide +kernel
theorem dX5_dropOrdersOf_4 : decode cX5_dropOrdersOf 4 = .ok (.iload_n 3, 1) := by decide +kernel
theorem dX5_dropOrdersOf_5 : decode cX5_dropOrdersOf 5 = .ok (.aload_n 0, 1) := by decide +kernel
theorem dX5_dropOrdersOf_6 : decode cX5_dropOrdersOf 6 = .ok (.getfield 24, 3) := by decide +kernel
theorem dX5_dropOrdersOf_9 : decode cX5_dropOrdersOf 9 = .ok (.if_icmp .ge 58, 3) := by decide +kernel
theorem dX5_dropOrdersOf_12 : decode cX5_dropOrdersOf 12 = .ok (.aload_n 0, 1) := by decide +kernel
theorem dX5_dropOrdersOf_13 : decode cX5_dropOrdersOf 13 = .ok (.getfield 34, 3) := by decide +kernel
theorem dX5_dropOrdersOf_16 : decode cX5_dropOrdersOf 16 = .ok (.iload_n 3, 1) := by decide +kernel
theorem dX5_dropOrdersOf_17 : decode cX5_dropOrdersOf 17 = .ok (.iaload, 1) := by decide +kernel
theorem dX5_dropOrdersOf_18 : decode cX5_dropOrdersOf 18 = .ok (.iload_n 1, 1) := by decide +kernel
theorem dX5_dropOrdersOf_19 : decode cX5_dropOrdersOf 19 = .ok (.if_icmp .eq 42, 3) := by decide +kernel
theorem dX5_dropOrdersOf_22 : decode cX5_dropOrdersOf 22 = .ok (.aload_n 0, 1) := by decide +kernel
theorem dX5_dropOrdersOf_23 : decode cX5_dropOrdersOf 23 = .ok (.getfield 28, 3) := by decide +kernel
theorem dX5_dropOrdersOf_26 : decode cX5_dropOrdersOf 26 = .ok (.iload_n 2, 1) := by decide +kernel
theorem dX5_dropOrdersOf_27 : decode cX5_dropOrdersOf 27 = .ok (.aload_n 0, 1) := by decide +kernel
theorem dX5_dropOrdersOf_28 : decode cX5_dropOrdersOf 28 = .ok (.getfield 28, 3) := by decide +kernel
theorem dX5_dropOrdersOf_31 : decode cX5_dropOrdersOf 31 = .ok (.iload_n 3, 1) := by decide +kernel
theorem dX5_dropOrdersOf_32 : decode cX5_dropOrdersOf 32 = .ok (.iaload, 1) := by decide +kernel
theorem dX5_dropOrdersOf_33 : decode cX5_dropOrdersOf 33 = .ok (.iastore, 1) := by decide +kernel
theorem dX5_dropOrdersOf_34 : decode cX5_dropOrdersOf 34 = .ok (.aload_n 0, 1) := by decide +kernel
theorem dX5_dropOrdersOf_35 : decode cX5_dropOrdersOf 35 = .ok (.getfield 31, 3) := by decide +kernel
theorem dX5_dropOrdersOf_38 : decode cX5_dropOrdersOf 38 = .ok (.iload_n 2, 1) := by decide +kernel
theorem dX5_dropOrdersOf_39 : decode cX5_dropOrdersOf 39 = .ok (.aload_n 0, 1) := by decide +kernel
theorem dX5_dropOrdersOf_40 : decode cX5_dropOrdersOf 40 = .ok (.getfield 31, 3) := by decide +kernel
theorem dX5_dropOrdersOf_43 : decode cX5_dropOrdersOf 43 = .ok (.iload_n 3, 1) := by decide +kernel
theorem dX5_dropOrdersOf_44 : decode cX5_dropOrdersOf 44 = .ok (.iaload, 1) := by decide +kernel
theorem dX5_dropOrdersOf_45 : decode cX5_dropOrdersOf 45 = .ok (.iastore, 1) := by decide +kernel
theorem dX5_dropOrdersOf_46 : decode cX5_dropOrdersOf 46 = .ok (.aload_n 0, 1) := by decide +kernel
theorem dX5_dropOrdersOf_47 : decode cX5_dropOrdersOf 47 = .ok (.getfield 34, 3) := by decide +kernel
theorem dX5_dropOrdersOf_50 : decode cX5_dropOrdersOf 50 = .ok (.iload_n 2, 1) := by decide +kernel
theorem dX5_dropOrdersOf_51 : decode cX5_dropOrdersOf 51 = .ok (.aload_n 0, 1) := by decide +kernel
theorem dX5_dropOrdersOf_52 : decode cX5_dropOrdersOf 52 = .ok (.getfield 34, 3) := by decide +kernel
theorem dX5_dropOrdersOf_55 : decode cX5_dropOrdersOf 55 = .ok (.iload_n 3, 1) := by decide +kernel
theorem dX5_dropOrdersOf_56 : decode cX5_dropOrdersOf 56 = .ok (.iaload, 1) := by decide +kernel
theorem dX5_dropOrdersOf_57 : decode cX5_dropOrdersOf 57 = .ok (.iastore, 1) := by decide +kernel
theorem dX5_dropOrdersOf_58 : decode cX5_dropOrdersOf 58 = .ok (.iinc 2 1, 3) := by decide +kernel
theorem dX5_dropOrdersOf_61 : decode cX5_dropOrdersOf 61 = .ok (.iinc 3 1, 3) := by decide +kernel
theorem dX5_dropOrdersOf_64 : decode cX5_dropOrdersOf 64 = .ok (.goto (-60), 3) := by decide +kernel
theorem dX5_dropOrdersOf_67 : decode cX5_dropOrdersOf 67 = .ok (.aload_n 0, 1) := by decide +kernel
theorem dX5_dropOrdersOf_68 : decode cX5_dropOrdersOf 68 = .ok (.iload_n 2, 1) := by decide +kernel
theorem dX5_dropOrdersOf_69 : decode cX5_dropOrdersOf 69 = .ok (.putfield 24, 3) := by decide +kernel
theorem dX5_dropOrdersOf_72 : decode cX5_dropOrdersOf 72 = .ok (.return_, 1) := by decide +kernel
theorem dX6_init_0 : decode cX6_init 0 = .ok (.aload_n 0, 1) := by decide +kernel
theorem dX6_init_1 : decode cX6_init 1 = .ok (.invokespecial 1, 3) := by decide +kernel
theorem dX6_init_4 : decode cX6_init 4 = .ok (.aload_n 0, 1) := by decide +kernel
theorem dX6_init_5 : decode cX6_init 5 = .ok (.new 7, 3) := by decide +kernel
theorem dX6_init_8 : decode cX6_init 8 = .ok (.dup, 1) := by decide +kernel
theorem dX6_init_9 : decode cX6_init 9 = .ok (.invokespecial 9, 3) := by decide +kernel
theorem dX6_init_12 : decode cX6_init 12 = .ok (.putfield 10, 3) := by decide +kernel
theorem dX6_init_15 : decode cX6_init 15 = .ok (.aload_n 0, 1) := by decide +kernel
theorem dX6_init_16 : decode cX6_init 16 = .ok (.new 7, 3) := by decide +kernel
theorem dX6_init_19 : decode cX6_init 19 = .ok (.dup, 1) := by decide +kernel
theorem dX6_init_20 : decode cX6_init 20 = .ok (.invokespecial 9, 3) := by decide +kernel
theorem dX6_init_23 : decode cX6_init 23 = .ok (.putfield 16, 3) := by decide +kernel
theorem dX6_init_26 : decode cX6_init 26 = .ok (.aload_n 0, 1) := by decide +kernel
theorem dX6_init_27 : decode cX6_init 27 = .ok (.new 7, 3) := by decide +kernel
theorem dX6_init_30 : decode cX6_init 30 = .ok (.dup, 1) := by decide +kernel
theorem dX6_init_31 : decode cX6_init 31 = .ok (.invokespecial 9, 3) := by decide +kernel
theorem dX6_init_34 : decode cX6_init 34 = .ok (.putfield 19, 3) := by decide +kernel
theorem dX6_init_37 : decode cX6_init 37 = .ok (.aload_n 0, 1) := by decide +kernel
theorem dX6_init_38 : decode cX6_init 38 = .ok (.iconst 0, 1) := by decide +kernel
theorem dX6_init_39 : decode cX6_init 39 = .ok (.putfield 22, 3) := by decide +kernel
theorem dX6_init_42 : decode cX6_init 42 = .ok (.aload_n 0, 1) := by decide +kernel
theorem dX6_init_43 : decode cX6_init 43 = .ok (.new 26, 3) := by decide +kernel
theorem dX6_init_46 : decode cX6_init 46 = .ok (.dup, 1) := by decide +kernel
theorem dX6_init_47 : decode cX6_init 47 = .ok (.invokespecial 28, 3) := by decide +kernel
theorem dX6_init_50 : decode cX6_init 50 = .ok (.putfield 29, 3) := by decide +kernel
theorem dX6_init_53 : decode cX6_init 53 = .ok (.aload_n 0, 1) := by decide +kernel
theorem dX6_init_54 : decode cX6_init 54 = .ok (.new 33, 3) := by decide +kernel
theorem dX6_init_57 : decode cX6_init 57 = .ok (.dup, 1) := by decide +kernel
theorem dX6_init_58 : decode cX6_init 58 = .ok (.invokespecial 35, 3) := by decide +kernel
theorem dX6_init_61 : decode cX6_init 61 = .ok (.putfield 36, 3) := by decide +kernel
theorem dX6_init_64 : decode cX6_init 64 = .ok (.return_, 1) := by decide +kernel
theorem dX6_setRate_0 : decode cX6_setRate 0 = .ok (.iload_n 1, 1) := by decide +kernel
theorem dX6_setRate_1 : decode cX6_setRate 1 = .ok (.iconst 4, 1) := by decide +kernel
theorem dX6_setRate_2 : decode cX6_setRate 2 = .ok (.invokestatic 40, 3) := by decide +kernel
theorem dX6_setRate_5 : decode cX6_setRate 5 = .ok (.ifCond .ne 5, 3) := by decide +kernel
theorem dX6_setRate_8 : decode cX6_setRate 8 = .ok (.iconst (-1), 1) := by decide +kernel
theorem dX6_setRate_9 : decode cX6_setRate 9 = .ok (.ireturn, 1) := by decide +kernel
theorem dX6_setRate_10 : decode cX6_setRate 10 = .ok (.iload_n 2, 1) := by decide +kernel
theorem dX6_setRate_11 : decode cX6_setRate 11 = .ok (.getstatic 44, 3) := by decide +kernel
theorem dX6_setRate_14 : decode cX6_setRate 14 = .ok (.iload_n 1, 1) := by decide +kernel
theorem dX6_setRate_15 : decode cX6_setRate 15 = .ok (.iaload, 1) := by decide +kernel
theorem dX6_setRate_16 : decode cX6_setRate 16 = .ok (.getstatic 48, 3) := by decide +kernel
theorem dX6_setRate_19 : decode cX6_setRate 19 = .ok (.iload_n 1, 1) := by decide +kernel
theorem dX6_setRate_20 : decode cX6_setRate 20 = .ok (.iaload, 1) := by decide +kernel
theorem dX6_setRate_21 : decode cX6_setRate 21 = .ok (.invokestatic 51, 3) := by decide +kernel
theorem dX6_setRate_24 : decode cX6_setRate 24 = .ok (.ifCond .ne 6, 3) := by decide +kernel
theorem dX6_setRate_27 : decode cX6_setRate 27 = .ok (.bipush (-2), 2) := by decide +kernel
theorem dX6_setRate_29 : decode cX6_setRate 29 = .ok (.ireturn, 1) := by decide +kernel
theorem dX6_setRate_30 : decode cX6_setRate 30 = .ok (.iload_n 2, 1) := by decide +kernel
theorem dX6_setRate_31 : decode cX6_setRate 31 = .ok (.invokestatic 55, 3) := by decide +kernel
theorem dX6_setRate_34 : decode cX6_setRate 34 = .ok (.fstore_n 3, 1) := by decide +kernel
theorem dX6_setRate_35 : decode cX6_setRate 35 = .ok (.aload_n 0, 1) := by decide +kernel
theorem dX6_setRate_36 : decode cX6_setRate 36 = .ok (.getfield 10, 3) := by decide +kernel
theorem dX6_setRate_39 : decode cX6_setRate 39 = .ok (.getfield 59, 3) := by decide +kernel
theorem dX6_setRate_42 : decode cX6_setRate 42 = .ok (.iload_n 1, 1) := by decide +kernel
theorem dX6_setRate_43 : decode cX6_setRate 43 = .ok (.faload, 1) := by decide +kernel
theorem dX6_setRate_44 : decode cX6_setRate 44 = .ok (.fload_n 3, 1) := by decide +kernel
theorem dX6_setRate_45 : decode cX6_setRate 45 = .ok (.fcmp .l, 1) := by decide +kernel
theorem dX6_setRate_46 : decode cX6_setRate 46 = .ok (.ifCond .ne 6, 3) := by decide +kernel
theorem dX6_setRate_49 : decode cX6_setRate 49 = .ok (.bipush (-5), 2) := by decide +kernel
theorem dX6_setRate_51 : decode cX6_setRate 51 = .ok (.ireturn, 1) := by decide +kernel
theorem dX6_setRate_52 : decode cX6_setRate 52 = .ok (.aload_n 0, 1) := by decide +kernel
theorem dX6_setRate_53 : decode cX6_setRate 53 = .ok (.getfield 29, 3) := by decide +kernel
theorem dX6_setRate_56 : decode cX6_setRate 56 = .ok (.aload_n 0, 1) := by decide +kernel
theorem dX6_setRate_57 : decode cX6_setRate 57 = .ok (.getfield 10, 3) := by decide +kernel
theorem dX6_setRate_60 : decode cX6_setRate 60 = .ok (.invokevirtual 63, 3) := by decide +kernel
theorem dX6_setRate_63 : decode cX6_setRate 63 = .ok (.aload_n 0, 1) := by decide +kernel
theorem dX6_setRate_64 : decode cX6_setRate 64 = .ok (.getfield 10, 3) := by decide +kernel
theorem dX6_setRate_67 : decode cX6_setRate 67 = .ok (.getfield 59, 3) := by decide +kernel
theorem dX6_setRate_70 : decode cX6_setRate 70 = .ok (.iload_n 1, 1) := by decide +kernel
theorem dX6_setRate_71 : decode cX6_setRate 71 = .ok (.fload_n 3, 1) := by decide +kernel
theorem dX6_setRate_72 : decode cX6_setRate 72 = .ok (.fastore, 1) := by decide +kernel
theorem dX6_setRate_73 : decode cX6_setRate 73 = .ok (.iconst 1, 1) := by decide +kernel
theorem dX6_setRate_74 : decode cX6_setRate 74 = .ok (.ireturn, 1) := by decide +kernel
theorem dX6_setNumber_0 : decode cX6_setNumber 0 = .ok (.iload_n 1, 1) := by decide +kernel
theorem dX6_setNumber_1 : decode cX6_setNumber 1 = .ok (.iconst 5, 1) := by decide +kernel
theorem dX6_setNumber_2 : decode cX6_setNumber 2 = .ok (.invokestatic 40, 3) := by decide +kernel
theorem dX6_setNumber_5 : decode cX6_setNumber 5 = .ok (.ifCond .ne 5, 3) := by decide +kernel
theorem dX6_setNumber_8 : decode cX6_setNumber 8 = .ok (.iconst (-1), 1) := by decide +kernel
theorem dX6_setNumber_9 : decode cX6_setNumber 9 = .ok (.ireturn, 1) := by decide +kernel
theorem dX6_setNumber_10 : decode cX6_setNumber 10 = .ok (.iload_n 2, 1) := by decide +kernel
theorem dX6_setNumber_11 : decode cX6_setNumber 11 = .ok (.getstatic 67, 3) := by decide +kernel
theorem dX6_setNumber_14 : decode cX6_setNumber 14 = .ok (.iload_n 1, 1) := by decide +kernel
theorem dX6_setNumber_15 : decode cX6_setNumber 15 = .ok (.iaload, 1) := by decide +kernel
theorem dX6_setNumber_16 : decode cX6_setNumber 16 = .ok (.getstatic 70, 3) := by decide +kernel
theorem dX6_setNumber_19 : decode cX6_setNumber 19 = .ok (.iload_n 1, 1) := by decide +kernel
theorem dX6_setNumber_20 : decode cX6_setNumber 20 = .ok (.iaload, 1) := by decide +kernel
theorem dX6_setNumber_21 : decode cX6_setNumber 21 = .ok (.invokestatic 51, 3) := by decide +kernel
theorem dX6_setNumber_24 : decode cX6_setNumber 24 = .ok (.ifCond .ne 6, 3) := by decide +kernel
theorem dX6_setNumber_27 : decode cX6_setNumber 27 = .ok (.bipush (-2), 2) := by decide +kernel
theorem dX6_setNumber_29 : decode cX6_setNumber 29 = .ok (.ireturn, 1) := by decide +kernel
theorem dX6_setNumber_30 : decode cX6_setNumber 30 = .ok (.iload_n 1, 1) := by decide +kernel
theorem dX6_setNumber_31 : decode cX6_setNumber 31 = .ok (.iconst 4, 1) := by decide +kernel
theorem dX6_setNumber_32 : decode cX6_setNumber 32 = .ok (.if_icmp .ne 20, 3) := by decide +kernel
theorem dX6_setNumber_35 : decode cX6_setNumber 35 = .ok (.aload_n 0, 1) := by decide +kernel
theorem dX6_setNumber_36 : decode cX6_setNumber 36 = .ok (.getfield 10, 3) := by decide +kernel
theorem dX6_setNumber_39 : decode cX6_setNumber 39 = .ok (.getfield 73, 3) := by decide +kernel
theorem dX6_setNumber_42 : decode cX6_setNumber 42 = .ok (.invokevirtual 77, 3) := by decide +kernel
theorem dX6_setNumber_45 : decode cX6_setNumber 45 = .ok (.iload_n 2, 1) := by decide +kernel
theorem dX6_setNumber_46 : decode cX6_setNumber 46 = .ok (.if_icmp .le 6, 3) := by decide +kernel
theorem dX6_setNumber_49 : decode cX6_setNumber 49 = .ok (.bipush (-4), 2) := by decide +kernel
theorem dX6_setNumber_51 : decode cX6_setNumber 51 = .ok (.ireturn, 1) := by decide +kernel
theorem dX6_setNumber_52 : decode cX6_setNumber 52 = .ok (.aload_n 0, 1) := by decide +kernel
theorem dX6_setNumber_53 : decode cX6_setNumber 53 = .ok (.getfield 10, 3) := by decide +kernel
theorem dX6_setNumber_56 : decode cX6_setNumber 56 = .ok (.getfield 83, 3) := by decide +kernel
theorem dX6_setNumber_59 : decode cX6_setNumber 59 = .ok (.iload_n 1, 1) := by decide +kernel
theorem dX6_setNumber_60 : decode cX6_setNumber 60 = .ok (.iaload, 1) := by decide +kernel
theorem dX6_setNumber_61 : decode cX6_setNumber 61 = .ok (.istore_n 3, 1) := by decide +kernel
theorem dX6_setNumber_62 : decode cX6_setNumber 62 = .ok (.iload_n 3, 1) := by decide +kernel
theorem dX6_setNumber_63 : decode cX6_setNumber 63 = .ok (.iload_n 2, 1) := by decide +kernel
theorem dX6_setNumber_64 : decode cX6_setNumber 64 = .ok (.if_icmp .ne 6, 3) := by decide +kernel
theorem dX6_setNumber_67 : decode cX6_setNumber 67 = .ok (.bipush (-5), 2) := by decide +kernel
theorem dX6_setNumber_69 : decode cX6_setNumber 69 = .ok (.ireturn, 1) := by decide +kernel
theorem dX6_setNumber_70 : decode cX6_setNumber 70 = .ok (.aload_n 0, 1) := by decide +kernel
theorem dX6_setNumber_71 : decode cX6_setNumber 71 = .ok (.getfield 29, 3) := by decide +kernel
theorem dX6_setNumber_74 : decode cX6_setNumber 74 = .ok (.aload_n 0, 1) := by decide +kernel
theorem dX6_setNumber_75 : decode cX6_setNumber 75 = .ok (.getfield 10, 3) := by decide +kernel
theorem dX6_setNumber_78 : decode cX6_setNumber 78 = .ok (.invokevirtual 63, 3) := by decide +kernel
theorem dX6_setNumber_81 : decode cX6_setNumber 81 = .ok (.aload_n 0, 1) := by decide +kernel
theorem dX6_setNumber_82 : decode cX6_setNumber 82 = .ok (.getfield 10, 3) := by decide +kernel
theorem dX6_setNumber_85 : decode cX6_setNumber 85 = .ok (.getfield 83, 3) := by decide +kernel
theorem dX6_setNumber_88 : decode cX6_setNumber 88 = .ok (.iload_n 1, 1) := by decide +kernel
theorem dX6_setNumber_89 : decode cX6_setNumber 89 = .ok (.iload_n 2, 1) := by decide +kernel
theorem dX6_setNumber_90 : decode cX6_setNumber 90 = .ok (.iastore, 1) := by decide +kernel
theorem dX6_setNumber_91 : decode cX6_setNumber 91 = .ok (.iload_n 3, 1) := by decide +kernel
theorem dX6_setNumber_92 : decode cX6_setNumber 92 = .ok (.ireturn, 1) := by decide +kernel
theorem dX6_setPart_0 : decode cX6_setPart 0 = .ok (.iload_n 1, 1) := by decide +kernel
theorem dX6_setPart_1 : decode cX6_setPart 1 = .ok (.bipush 6, 2) := by decide +kernel
theorem dX6_setPart_3 : decode cX6_setPart 3 = .ok (.invokestatic 40, 3) := by decide +kernel
theorem dX6_setPart_6 : decode cX6_setPart 6 = .ok (.ifCond .ne 5, 3) := by decide +kernel
theorem dX6_setPart_9 : decode cX6_setPart 9 = .ok (.iconst (-1), 1) := by decide +kernel
theorem dX6_setPart_10 : decode cX6_setPart 10 = .ok (.ireturn, 1) := by decide +kernel
theorem dX6_setPart_11 : decode cX6_setPart 11 = .ok (.iload_n 2, 1) := by decide +kernel
theorem dX6_setPart_12 : decode cX6_setPart 12 = .ok (.iconst 1, 1) := by decide +kernel
theorem dX6_setPart_13 : decode cX6_setPart 13 = .ok (.ldc 86, 2) := by decide +kernel
theorem dX6_setPart_15 : decode cX6_setPart 15 = .ok (.invokestatic 51, 3) := by decide +kernel
theorem dX6_setPart_18 : decode cX6_setPart 18 = .ok (.ifCond .eq 13, 3) := by decide +kernel
theorem dX6_setPart_21 : decode cX6_setPart 21 = .ok (.iload_n 3, 1) := by decide +kernel
theorem dX6_setPart_22 : decode cX6_setPart 22 = .ok (.iconst 1, 1) := by decide +kernel
theorem dX6_setPart_23 : decode cX6_setPart 23 = .ok (.bipush 30, 2) := by decide +kernel
theorem dX6_setPart_25 : decode cX6_setPart 25 = .ok (.invokestatic 51, 3) := by decide +kernel
theorem dX6_setPart_28 : decode cX6_setPart 28 = .ok (.ifCond .ne 6, 3) := by decide +kernel
theorem dX6_setPart_31 : decode cX6_setPart 31 = .ok (.bipush (-2), 2) := by decide +kernel
theorem dX6_setPart_33 : decode cX6_setPart 33 = .ok (.ireturn, 1) := by decide +kernel
theorem dX6_setPart_34 : decode cX6_setPart 34 = .ok (.aload_n 0, 1) := by decide +kernel
theorem dX6_setPart_35 : decode cX6_setPart 35 = .ok (.getfield 10, 3) := by decide +kernel
theorem dX6_setPart_38 : decode cX6_setPart 38 = .ok (.getfield 87, 3) := by decide +kernel
theorem dX6_setPart_41 : decode cX6_setPart 41 = .ok (.getfield 91, 3) := by decide +kernel
theorem dX6_setPart_44 : decode cX6_setPart 44 = .ok (.iload_n 1, 1) := by decide +kernel
theorem dX6_setPart_45 : decode cX6_setPart 45 = .ok (.iaload, 1) := by decide +kernel
theorem dX6_setPart_46 : decode cX6_setPart 46 = .ok (.istore 4, 2) := by decide +kernel
theorem dX6_setPart_48 : decode cX6_setPart 48 = .ok (.iload 4, 2) := by decide +kernel
theorem dX6_setPart_50 : decode cX6_setPart 50 = .ok (.iload_n 2, 1) := by decide +kernel
theorem dX6_setPart_51 : decode cX6_setPart 51 = .ok (.if_icmp .ne 22, 3) := by decide +kernel
theorem dX6_setPart_54 : decode cX6_setPart 54 = .ok (.aload_n 0, 1) := by decide +kernel
theorem dX6_setPart_55 : decode cX6_setPart 55 = .ok (.getfield 10, 3) := by decide +kernel
theorem dX6_setPart_58 : decode cX6_setPart 58 = .ok (.getfield 87, 3) := by decide +kernel
theorem dX6_setPart_61 : decode cX6_setPart 61 = .ok (.getfield 96, 3) := by decide +kernel
theorem dX6_setPart_64 : decode cX6_setPart 64 = .ok (.iload_n 1, 1) := by decide +kernel
theorem dX6_setPart_65 : decode cX6_setPart 65 = .ok (.iaload, 1) := by decide +kernel
theorem dX6_setPart_66 : decode cX6_setPart 66 = .ok (.iload_n 3, 1) := by decide +kernel
theorem dX6_setPart_67 : decode cX6_setPart 67 = .ok (.if_icmp .ne 6, 3) := by decide +kernel
theorem dX6_setPart_70 : decode cX6_setPart 70 = .ok (.bipush (-5), 2) := by decide +kernel
theorem dX6_setPart_72 : decode cX6_setPart 72 = .ok (.ireturn, 1) := by decide +kernel
theorem dX6_setPart_73 : decode cX6_setPart 73 = .ok (.aload_n 0, 1) := by decide +kernel
theorem dX6_setPart_74 : decode cX6_setPart 74 = .ok (.getfield 29, 3) := by decide +kernel
theorem dX6_setPart_77 : decode cX6_setPart 77 = .ok (.aload_n 0, 1) := by decide +kernel
theorem dX6_setPart_78 : decode cX6_setPart 78 = .ok (.getfield 10, 3) := by decide +kernel
theorem dX6_setPart_81 : decode cX6_setPart 81 = .ok (.invokevirtual 63, 3) := by decide +kernel
theorem dX6_setPart_84 : decode cX6_setPart 84 = .ok (.aload_n 0, 1) := by decide +kernel
theorem dX6_setPart_85 : decode cX6_setPart 85 = .ok (.getfield 10, 3) := by decide +kernel
theorem dX6_setPart_88 : decode cX6_setPart 88 = .ok (.getfield 87, 3) := by decide +kernel
theorem dX6_setPart_91 : decode cX6_setPart 91 = .ok (.getfield 91, 3) := by decide +kernel
theorem dX6_setPart_94 : decode cX6_setPart 94 = .ok (.iload_n 1, 1) := by decide +kernel
theorem dX6_setPart_95 : decode cX6_setPart 95 = .ok (.iload_n 2, 1) := by decide +kernel
theorem dX6_setPart_96 : decode cX6_setPart 96 = .ok (.iastore, 1) := by decide +kernel
theorem dX6_setPart_97 : decode cX6_setPart 97 = .ok (.aload_n 0, 1) := by decide +kernel
theorem dX6_setPart_98 : decode cX6_setPart 98 = .ok (.getfield 10, 3) := by decide +kernel
theorem dX6_setPart_101 : decode cX6_setPart 101 = .ok (.getfield 87, 3) := by decide +kernel
theorem dX6_setPart_104 : decode cX6_setPart 104 = .ok (.getfield 96, 3) := by decide +kernel
theorem dX6_setPart_107 : decode cX6_setPart 107 = .ok (.iload_n 1, 1) := by decide +kernel
theorem dX6_setPart_108 : decode cX6_setPart 108 = .ok (.iload_n 3, 1) := by decide +kernel
theorem dX6_setPart_109 : decode cX6_setPart 109 = .ok (.iastore, 1) := by decide +kernel
theorem dX6_setPart_110 : decode cX6_setPart 110 = .ok (.iload 4, 2) := by decide +kernel
theorem dX6_setPart_112 : decode cX6_setPart 112 = .ok (.ireturn, 1) := by decide +kernel
theorem dX6_order_0 : decode cX6_order 0 = .ok (.iload_n 1, 1) := by decide +kernel
theorem dX6_order_1 : decode cX6_order 1 = .ok (.bipush 6, 2) := by decide +kernel
theorem dX6_order_3 : decode cX6_order 3 = .ok (.invokestatic 40, 3) := by decide +kernel
theorem dX6_order_6 : decode cX6_order 6 = .ok (.ifCond .ne 5, 3) := by decide +kernel
theorem dX6_order_9 : decode cX6_order 9 = .ok (.iconst (-1), 1) := by decide +kernel
theorem dX6_order_10 : decode cX6_order 10 = .ok (.ireturn, 1) := by decide +kernel
theorem dX6_order_11 : decode cX6_order 11 = .ok (.iload_n 2, 1) := by decide +kernel
theorem dX6_order_12 : decode cX6_order 12 = .ok (.iconst 1, 1) := by decide +kernel
theorem dX6_order_13 : decode cX6_order 13 = .ok (.bipush 9, 2) := by decide +kernel
theorem dX6_order_15 : decode cX6_order 15 = .ok (.invokestatic 51, 3) := by decide +kernel
theorem dX6_order_18 : decode cX6_order 18 = .ok (.ifCond .ne 6, 3) := by decide +kernel
theorem dX6_order_21 : decode cX6_order 21 = .ok (.bipush (-2), 2) := by decide +kernel
theorem dX6_order_23 : decode cX6_order 23 = .ok (.ireturn, 1) := by decide +kernel
theorem dX6_order_24 : decode cX6_order 24 = .ok (.aload_n 0, 1) := by decide +kernel
theorem dX6_order_25 : decode cX6_order 25 = .ok (.getfield 10, 3) := by decide +kernel
theorem dX6_order_28 : decode cX6_order 28 = .ok (.getfield 87, 3) := by decide +kernel
theorem dX6_order_31 : decode cX6_order 31 = .ok (.getfield 99, 3) := by decide +kernel
theorem dX6_order_34 : decode cX6_order 34 = .ok (.bipush 12, 2) := by decide +kernel
theorem dX6_order_36 : decode cX6_order 36 = .ok (.if_icmp .lt 6, 3) := by decide +kernel
theorem dX6_order_39 : decode cX6_order 39 = .ok (.bipush (-3), 2) := by decide +kernel
theorem dX6_order_41 : decode cX6_order 41 = .ok (.ireturn, 1) := by decide +kernel
theorem dX6_order_42 : decode cX6_order 42 = .ok (.aload_n 0, 1) := by decide +kernel
theorem dX6_order_43 : decode cX6_order 43 = .ok (.getfield 29, 3) := by decide +kernel
theorem dX6_order_46 : decode cX6_order 46 = .ok (.aload_n 0, 1) := by decide +kernel
theorem dX6_order_47 : decode cX6_order 47 = .ok (.getfield 10, 3) := by decide +kernel
theorem dX6_order_50 : decode cX6_order 50 = .ok (.invokevirtual 63, 3) := by decide +kernel
theorem dX6_order_53 : decode cX6_order 53 = .ok (.aload_n 0, 1) := by decide +kernel
theorem dX6_order_54 : decode cX6_order 54 = .ok (.getfield 10, 3) := by decide +kernel
theorem dX6_order_57 : decode cX6_order 57 = .ok (.getfield 103, 3) := by decide +kernel
theorem dX6_order_60 : decode cX6_order 60 = .ok (.aload_n 0, 1) := by decide +kernel
theorem dX6_order_61 : decode cX6_order 61 = .ok (.getfield 10, 3) := by decide +kernel
theorem dX6_order_64 : decode cX6_order 64 = .ok (.getfield 87, 3) := by decide +kernel
theorem dX6_order_67 : decode cX6_order 67 = .ok (.getfield 96, 3) := by decide +kernel
theorem dX6_order_70 : decode cX6_order 70 = .ok (.iload_n 1, 1) := by decide +kernel
theorem dX6_order_71 : decode cX6_order 71 = .ok (.iaload, 1) := by decide +kernel
theorem dX6_order_72 : decode cX6_order 72 = .ok (.iadd, 1) := by decide +kernel
theorem dX6_order_73 : decode cX6_order 73 = .ok (.istore_n 3, 1) := by decide +kernel
theorem dX6_order_74 : decode cX6_order 74 = .ok (.aload_n 0, 1) := by decide +kernel
theorem dX6_order_75 : decode cX6_order 75 = .ok (.getfield 10, 3) := by decide +kernel
theorem dX6_order_78 : decode cX6_order 78 = .ok (.getfield 87, 3) := by decide +kernel
theorem dX6_order_81 : decode cX6_order 81 = .ok (.iload_n 1, 1) := by decide +kernel
theorem dX6_order_82 : decode cX6_order 82 = .ok (.iload_n 2, 1) := by decide +kernel
theorem dX6_order_83 : decode cX6_order 83 = .ok (.iload_n 3, 1) := by decide +kernel
theorem dX6_order_84 : decode cX6_order 84 = .ok (.invokevirtual 106, 3) := by decide +kernel
theorem dX6_order_87 : decode cX6_order 87 = .ok (.iload_n 3, 1) := by decide +kernel
theorem dX6_order_88 : decode cX6_order 88 = .ok (.ireturn, 1) := by decide +kernel
theorem dX6_put_0 : decode cX6_put 0 = .ok (.iload_n 1, 1) := by decide +kernel
theorem dX6_put_1 : decode cX6_put 1 = .ok (.bipush 6, 2) := by decide +kernel
theorem dX6_put_3 : decode cX6_put 3 = .ok (.invokestatic 40, 3) := by decide +kernel
theorem dX6_put_6 : decode cX6_put 6 = .ok (.ifCond .ne 5, 3) := by decide +kernel
theorem dX6_put_9 : decode cX6_put 9 = .ok (.iconst (-1), 1) := by decide +kernel
theorem dX6_put_10 : decode cX6_put 10 = .ok (.ireturn, 1) := by decide +kernel
theorem dX6_put_11 : decode cX6_put 11 = .ok (.iload_n 2, 1) := by decide +kernel
end
section
theorem dX6_put_12 : decode cX6_put 12 = .ok (.iconst 1, 1) := by decide +kernel
theorem dX6_put_13 : decode cX6_put 13 = .ok (.bipush 9, 2) := by decide +kernel
theorem dX6_put_15 : decode cX6_put 15 = .ok (.invokestatic 51, 3) := by decide +kernel
theorem dX6_put_18 : decode cX6_put 18 = .ok (.ifCond .ne 6, 3) := by decide +kernel
theorem dX6_put_21 : decode cX6_put 21 = .ok (.bipush (-2), 2) := by decide +kernel
theorem dX6_put_23 : decode cX6_put 23 = .ok (.ireturn, 1) := by decide +kernel
theorem dX6_put_24 : decode cX6_put 24 = .ok (.aload_n 0, 1) := by decide +kernel
theorem dX6_put_25 : decode cX6_put 25 = .ok (.getfield 10, 3) := by decide +kernel
theorem dX6_put_28 : decode cX6_put 28 = .ok (.getfield 87, 3) := by decide +kernel
theorem dX6_put_31 : decode cX6_put 31 = .ok (.getfield 110, 3) := by decide +kernel
theorem dX6_put_34 : decode cX6_put 34 = .ok (.iload_n 1, 1) := by decide +kernel
theorem dX6_put_35 : decode cX6_put 35 = .ok (.iaload, 1) := by decide +kernel
theorem dX6_put_36 : decode cX6_put 36 = .ok (.iload_n 2, 1) := by decide +kernel
theorem dX6_put_37 : decode cX6_put 37 = .ok (.iadd, 1) := by decide +kernel
theorem dX6_put_38 : decode cX6_put 38 = .ok (.bipush 99, 2) := by decide +kernel
theorem dX6_put_40 : decode cX6_put 40 = .ok (.if_icmp .le 6, 3) := by decide +kernel
theorem dX6_put_43 : decode cX6_put 43 = .ok (.bipush (-3), 2) := by decide +kernel
theorem dX6_put_45 : decode cX6_put 45 = .ok (.ireturn, 1) := by decide +kernel
theorem dX6_put_46 : decode cX6_put 46 = .ok (.aload_n 0, 1) := by decide +kernel
theorem dX6_put_47 : decode cX6_put 47 = .ok (.getfield 29, 3) := by decide +kernel
theorem dX6_put_50 : decode cX6_put 50 = .ok (.aload_n 0, 1) := by decide +kernel
theorem dX6_put_51 : decode cX6_put 51 = .ok (.getfield 10, 3) := by decide +kernel
theorem dX6_put_54 : decode cX6_put 54 = .ok (.invokevirtual 63, 3) := by decide +kernel
theorem dX6_put_57 : decode cX6_put 57 = .ok (.aload_n 0, 1) := by decide +kernel
theorem dX6_put_58 : decode cX6_put 58 = .ok (.getfield 10, 3) := by decide +kernel
theorem dX6_put_61 : decode cX6_put 61 = .ok (.getfield 87, 3) := by decide +kernel
theorem dX6_put_64 : decode cX6_put 64 = .ok (.getfield 110, 3) := by decide +kernel
theorem dX6_put_67 : decode cX6_put 67 = .ok (.iload_n 1, 1) := by decide +kernel
theorem dX6_put_68 : decode cX6_put 68 = .ok (.dup2, 1) := by decide +kernel
theorem dX6_put_69 : decode cX6_put 69 = .ok (.iaload, 1) := by decide +kernel
theorem dX6_put_70 : decode cX6_put 70 = .ok (.iload_n 2, 1) := by decide +kernel
theorem dX6_put_71 : decode cX6_put 71 = .ok (.iadd, 1) := by decide +kernel
theorem dX6_put_72 : decode cX6_put 72 = .ok (.iastore, 1) := by decide +kernel
theorem dX6_put_73 : decode cX6_put 73 = .ok (.aload_n 0, 1) := by decide +kernel
theorem dX6_put_74 : decode cX6_put 74 = .ok (.getfield 10, 3) := by decide +kernel
theorem dX6_put_77 : decode cX6_put 77 = .ok (.invokevirtual 113, 3) := by decide +kernel
theorem dX6_put_80 : decode cX6_put 80 = .ok (.aload_n 0, 1) := by decide +kernel
theorem dX6_put_81 : decode cX6_put 81 = .ok (.getfield 10, 3) := by decide +kernel
theorem dX6_put_84 : decode cX6_put 84 = .ok (.getfield 87, 3) := by decide +kernel
theorem dX6_put_87 : decode cX6_put 87 = .ok (.getfield 110, 3) := by decide +kernel
theorem dX6_put_90 : decode cX6_put 90 = .ok (.iload_n 1, 1) := by decide +kernel
theorem dX6_put_91 : decode cX6_put 91 = .ok (.iaload, 1) := by decide +kernel
theorem dX6_put_92 : decode cX6_put 92 = .ok (.ireturn, 1) := by decide +kernel
theorem dX6_come_0 : decode cX6_come 0 = .ok (.iload_n 1, 1) := by decide +kernel
theorem dX6_come_1 : decode cX6_come 1 = .ok (.iconst 5, 1) := by decide +kernel
theorem dX6_come_2 : decode cX6_come 2 = .ok (.invokestatic 40, 3) := by decide +kernel
theorem dX6_come_5 : decode cX6_come 5 = .ok (.ifCond .ne 5, 3) := by decide +kernel
theorem dX6_come_8 : decode cX6_come 8 = .ok (.iconst (-1), 1) := by decide +kernel
theorem dX6_come_9 : decode cX6_come 9 = .ok (.ireturn, 1) := by decide +kernel
theorem dX6_come_10 : decode cX6_come 10 = .ok (.aload_n 0, 1) := by decide +kernel
theorem dX6_come_11 : decode cX6_come 11 = .ok (.getfield 10, 3) := by decide +kernel
theorem dX6_come_14 : decode cX6_come 14 = .ok (.getfield 73, 3) := by decide +kernel
theorem dX6_come_17 : decode cX6_come 17 = .ok (.getfield 116, 3) := by decide +kernel
theorem dX6_come_20 : decode cX6_come 20 = .ok (.bipush 20, 2) := by decide +kernel
theorem dX6_come_22 : decode cX6_come 22 = .ok (.if_icmp .lt 6, 3) := by decide +kernel
theorem dX6_come_25 : decode cX6_come 25 = .ok (.bipush (-3), 2) := by decide +kernel
theorem dX6_come_27 : decode cX6_come 27 = .ok (.ireturn, 1) := by decide +kernel
theorem dX6_come_28 : decode cX6_come 28 = .ok (.aload_n 0, 1) := by decide +kernel
theorem dX6_come_29 : decode cX6_come 29 = .ok (.getfield 29, 3) := by decide +kernel
theorem dX6_come_32 : decode cX6_come 32 = .ok (.aload_n 0, 1) := by decide +kernel
theorem dX6_come_33 : decode cX6_come 33 = .ok (.getfield 10, 3) := by decide +kernel
theorem dX6_come_36 : decode cX6_come 36 = .ok (.invokevirtual 63, 3) := by decide +kernel
theorem dX6_come_39 : decode cX6_come 39 = .ok (.aload_n 0, 1) := by decide +kernel
theorem dX6_come_40 : decode cX6_come 40 = .ok (.getfield 10, 3) := by decide +kernel
theorem dX6_come_43 : decode cX6_come 43 = .ok (.getfield 73, 3) := by decide +kernel
theorem dX6_come_46 : decode cX6_come 46 = .ok (.iload_n 1, 1) := by decide +kernel
theorem dX6_come_47 : decode cX6_come 47 = .ok (.aload_n 0, 1) := by decide +kernel
theorem dX6_come_48 : decode cX6_come 48 = .ok (.getfield 10, 3) := by decide +kernel
theorem dX6_come_51 : decode cX6_come 51 = .ok (.getfield 103, 3) := by decide +kernel
theorem dX6_come_54 : decode cX6_come 54 = .ok (.invokevirtual 119, 3) := by decide +kernel
theorem dX6_come_57 : decode cX6_come 57 = .ok (.ireturn, 1) := by decide +kernel
theorem dX6_estimate_0 : decode cX6_estimate 0 = .ok (.aload_n 0, 1) := by decide +kernel
theorem dX6_estimate_1 : decode cX6_estimate 1 = .ok (.iload_n 1, 1) := by decide +kernel
theorem dX6_estimate_2 : decode cX6_estimate 2 = .ok (.invokevirtual 123, 3) := by decide +kernel
theorem dX6_estimate_5 : decode cX6_estimate 5 = .ok (.ifCond .ne 5, 3) := by decide +kernel
theorem dX6_estimate_8 : decode cX6_estimate 8 = .ok (.iconst (-1), 1) := by decide +kernel
theorem dX6_estimate_9 : decode cX6_estimate 9 = .ok (.ireturn, 1) := by decide +kernel
theorem dX6_estimate_10 : decode cX6_estimate 10 = .ok (.aload_n 0, 1) := by decide +kernel
theorem dX6_estimate_11 : decode cX6_estimate 11 = .ok (.getfield 10, 3) := by decide +kernel
theorem dX6_estimate_14 : decode cX6_estimate 14 = .ok (.getfield 73, 3) := by decide +kernel
theorem dX6_estimate_17 : decode cX6_estimate 17 = .ok (.getfield 127, 3) := by decide +kernel
theorem dX6_estimate_20 : decode cX6_estimate 20 = .ok (.iload_n 1, 1) := by decide +kernel
theorem dX6_estimate_21 : decode cX6_estimate 21 = .ok (.iaload, 1) := by decide +kernel
theorem dX6_estimate_22 : decode cX6_estimate 22 = .ok (.ifCond .eq 6, 3) := by decide +kernel
theorem dX6_estimate_25 : decode cX6_estimate 25 = .ok (.bipush (-4), 2) := by decide +kernel
theorem dX6_estimate_27 : decode cX6_estimate 27 = .ok (.ireturn, 1) := by decide +kernel
theorem dX6_estimate_28 : decode cX6_estimate 28 = .ok (.aload_n 0, 1) := by decide +kernel
theorem dX6_estimate_29 : decode cX6_estimate 29 = .ok (.getfield 29, 3) := by decide +kernel
theorem dX6_estimate_32 : decode cX6_estimate 32 = .ok (.aload_n 0, 1) := by decide +kernel
theorem dX6_estimate_33 : decode cX6_estimate 33 = .ok (.getfield 10, 3) := by decide +kernel
theorem dX6_estimate_36 : decode cX6_estimate 36 = .ok (.invokevirtual 63, 3) := by decide +kernel
theorem dX6_estimate_39 : decode cX6_estimate 39 = .ok (.aload_n 0, 1) := by decide +kernel
theorem dX6_estimate_40 : decode cX6_estimate 40 = .ok (.getfield 10, 3) := by decide +kernel
theorem dX6_estimate_43 : decode cX6_estimate 43 = .ok (.aload_n 0, 1) := by decide +kernel
theorem dX6_estimate_44 : decode cX6_estimate 44 = .ok (.getfield 10, 3) := by decide +kernel
theorem dX6_estimate_47 : decode cX6_estimate 47 = .ok (.getfield 73, 3) := by decide +kernel
theorem dX6_estimate_50 : decode cX6_estimate 50 = .ok (.getfield 130, 3) := by decide +kernel
theorem dX6_estimate_53 : decode cX6_estimate 53 = .ok (.iload_n 1, 1) := by decide +kernel
theorem dX6_estimate_54 : decode cX6_estimate 54 = .ok (.iaload, 1) := by decide +kernel
theorem dX6_estimate_55 : decode cX6_estimate 55 = .ok (.invokevirtual 133, 3) := by decide +kernel
theorem dX6_estimate_58 : decode cX6_estimate 58 = .ok (.istore_n 2, 1) := by decide +kernel
theorem dX6_estimate_59 : decode cX6_estimate 59 = .ok (.aload_n 0, 1) := by decide +kernel
theorem dX6_estimate_60 : decode cX6_estimate 60 = .ok (.getfield 10, 3) := by decide +kernel
theorem dX6_estimate_63 : decode cX6_estimate 63 = .ok (.getfield 73, 3) := by decide +kernel
theorem dX6_estimate_66 : decode cX6_estimate 66 = .ok (.getfield 137, 3) := by decide +kernel
theorem dX6_estimate_69 : decode cX6_estimate 69 = .ok (.iload_n 1, 1) := by decide +kernel
theorem dX6_estimate_70 : decode cX6_estimate 70 = .ok (.iload_n 2, 1) := by decide +kernel
theorem dX6_estimate_71 : decode cX6_estimate 71 = .ok (.iastore, 1) := by decide +kernel
theorem dX6_estimate_72 : decode cX6_estimate 72 = .ok (.aload_n 0, 1) := by decide +kernel
theorem dX6_estimate_73 : decode cX6_estimate 73 = .ok (.getfield 10, 3) := by decide +kernel
theorem dX6_estimate_76 : decode cX6_estimate 76 = .ok (.getfield 73, 3) := by decide +kernel
theorem dX6_estimate_79 : decode cX6_estimate 79 = .ok (.getfield 127, 3) := by decide +kernel
theorem dX6_estimate_82 : decode cX6_estimate 82 = .ok (.iload_n 1, 1) := by decide +kernel
theorem dX6_estimate_83 : decode cX6_estimate 83 = .ok (.iconst 1, 1) := by decide +kernel
theorem dX6_estimate_84 : decode cX6_estimate 84 = .ok (.iastore, 1) := by decide +kernel
theorem dX6_estimate_85 : decode cX6_estimate 85 = .ok (.iload_n 2, 1) := by decide +kernel
theorem dX6_estimate_86 : decode cX6_estimate 86 = .ok (.ireturn, 1) := by decide +kernel
theorem dX6_answer_0 : decode cX6_answer 0 = .ok (.aload_n 0, 1) := by decide +kernel
theorem dX6_answer_1 : decode cX6_answer 1 = .ok (.iload_n 1, 1) := by decide +kernel
theorem dX6_answer_2 : decode cX6_answer 2 = .ok (.invokevirtual 123, 3) := by decide +kernel
theorem dX6_answer_5 : decode cX6_answer 5 = .ok (.ifCond .ne 5, 3) := by decide +kernel
theorem dX6_answer_8 : decode cX6_answer 8 = .ok (.iconst (-1), 1) := by decide +kernel
theorem dX6_answer_9 : decode cX6_answer 9 = .ok (.ireturn, 1) := by decide +kernel
theorem dX6_answer_10 : decode cX6_answer 10 = .ok (.aload_n 0, 1) := by decide +kernel
theorem dX6_answer_11 : decode cX6_answer 11 = .ok (.getfield 10, 3) := by decide +kernel
theorem dX6_answer_14 : decode cX6_answer 14 = .ok (.getfield 73, 3) := by decide +kernel
theorem dX6_answer_17 : decode cX6_answer 17 = .ok (.getfield 127, 3) := by decide +kernel
theorem dX6_answer_20 : decode cX6_answer 20 = .ok (.iload_n 1, 1) := by decide +kernel
theorem dX6_answer_21 : decode cX6_answer 21 = .ok (.iaload, 1) := by decide +kernel
theorem dX6_answer_22 : decode cX6_answer 22 = .ok (.iconst 1, 1) := by decide +kernel
theorem dX6_answer_23 : decode cX6_answer 23 = .ok (.if_icmp .eq 6, 3) := by decide +kernel
theorem dX6_answer_26 : decode cX6_answer 26 = .ok (.bipush (-4), 2) := by decide +kernel
theorem dX6_answer_28 : decode cX6_answer 28 = .ok (.ireturn, 1) := by decide +kernel
theorem dX6_answer_29 : decode cX6_answer 29 = .ok (.aload_n 0, 1) := by decide +kernel
theorem dX6_answer_30 : decode cX6_answer 30 = .ok (.getfield 29, 3) := by decide +kernel
theorem dX6_answer_33 : decode cX6_answer 33 = .ok (.aload_n 0, 1) := by decide +kernel
theorem dX6_answer_34 : decode cX6_answer 34 = .ok (.getfield 10, 3) := by decide +kernel
theorem dX6_answer_37 : decode cX6_answer 37 = .ok (.invokevirtual 63, 3) := by decide +kernel
theorem dX6_answer_40 : decode cX6_answer 40 = .ok (.aload_n 0, 1) := by decide +kernel
theorem dX6_answer_41 : decode cX6_answer 41 = .ok (.getfield 10, 3) := by decide +kernel
theorem dX6_answer_44 : decode cX6_answer 44 = .ok (.iload_n 1, 1) := by decide +kernel
theorem dX6_answer_45 : decode cX6_answer 45 = .ok (.iload_n 2, 1) := by decide +kernel
theorem dX6_answer_46 : decode cX6_answer 46 = .ok (.invokevirtual 140, 3) := by decide +kernel
theorem dX6_answer_49 : decode cX6_answer 49 = .ok (.aload_n 0, 1) := by decide +kernel
theorem dX6_answer_50 : decode cX6_answer 50 = .ok (.getfield 10, 3) := by decide +kernel
theorem dX6_answer_53 : decode cX6_answer 53 = .ok (.getfield 73, 3) := by decide +kernel
theorem dX6_answer_56 : decode cX6_answer 56 = .ok (.getfield 127, 3) := by decide +kernel
theorem dX6_answer_59 : decode cX6_answer 59 = .ok (.iload_n 1, 1) := by decide +kernel
theorem dX6_answer_60 : decode cX6_answer 60 = .ok (.iaload, 1) := by decide +kernel
theorem dX6_answer_61 : decode cX6_answer 61 = .ok (.ireturn, 1) := by decide +kernel
theorem dX6_lend_0 : decode cX6_lend 0 = .ok (.aload_n 0, 1) := by decide +kernel
theorem dX6_lend_1 : decode cX6_lend 1 = .ok (.iload_n 1, 1) := by decide +kernel
theorem dX6_lend_2 : decode cX6_lend 2 = .ok (.invokevirtual 123, 3) := by decide +kernel
theorem dX6_lend_5 : decode cX6_lend 5 = .ok (.ifCond .ne 5, 3) := by decide +kernel
theorem dX6_lend_8 : decode cX6_lend 8 = .ok (.iconst (-1), 1) := by decide +kernel
theorem dX6_lend_9 : decode cX6_lend 9 = .ok (.ireturn, 1) := by decide +kernel
theorem dX6_lend_10 : decode cX6_lend 10 = .ok (.aload_n 0, 1) := by decide +kernel
theorem dX6_lend_11 : decode cX6_lend 11 = .ok (.getfield 10, 3) := by decide +kernel
theorem dX6_lend_14 : decode cX6_lend 14 = .ok (.getfield 73, 3) := by decide +kernel
theorem dX6_lend_17 : decode cX6_lend 17 = .ok (.getfield 127, 3) := by decide +kernel
theorem dX6_lend_20 : decode cX6_lend 20 = .ok (.iload_n 1, 1) := by decide +kernel
theorem dX6_lend_21 : decode cX6_lend 21 = .ok (.iaload, 1) := by decide +kernel
theorem dX6_lend_22 : decode cX6_lend 22 = .ok (.iconst 4, 1) := by decide +kernel
theorem dX6_lend_23 : decode cX6_lend 23 = .ok (.if_icmp .ge 19, 3) := by decide +kernel
theorem dX6_lend_26 : decode cX6_lend 26 = .ok (.aload_n 0, 1) := by decide +kernel
theorem dX6_lend_27 : decode cX6_lend 27 = .ok (.getfield 10, 3) := by decide +kernel
theorem dX6_lend_30 : decode cX6_lend 30 = .ok (.getfield 73, 3) := by decide +kernel
theorem dX6_lend_33 : decode cX6_lend 33 = .ok (.getfield 156, 3) := by decide +kernel
theorem dX6_lend_36 : decode cX6_lend 36 = .ok (.iload_n 1, 1) := by decide +kernel
theorem dX6_lend_37 : decode cX6_lend 37 = .ok (.iaload, 1) := by decide +kernel
theorem dX6_lend_38 : decode cX6_lend 38 = .ok (.iconst 1, 1) := by decide +kernel
theorem dX6_lend_39 : decode cX6_lend 39 = .ok (.if_icmp .ne 6, 3) := by decide +kernel
theorem dX6_lend_42 : decode cX6_lend 42 = .ok (.bipush (-4), 2) := by decide +kernel
theorem dX6_lend_44 : decode cX6_lend 44 = .ok (.ireturn, 1) := by decide +kernel
theorem dX6_lend_45 : decode cX6_lend 45 = .ok (.aload_n 0, 1) := by decide +kernel
theorem dX6_lend_46 : decode cX6_lend 46 = .ok (.getfield 10, 3) := by decide +kernel
theorem dX6_lend_49 : decode cX6_lend 49 = .ok (.invokevirtual 159, 3) := by decide +kernel
theorem dX6_lend_52 : decode cX6_lend 52 = .ok (.ifCond .gt 6, 3) := by decide +kernel
theorem dX6_lend_55 : decode cX6_lend 55 = .ok (.bipush (-3), 2) := by decide +kernel
theorem dX6_lend_57 : decode cX6_lend 57 = .ok (.ireturn, 1) := by decide +kernel
theorem dX6_lend_58 : decode cX6_lend 58 = .ok (.aload_n 0, 1) := by decide +kernel
theorem dX6_lend_59 : decode cX6_lend 59 = .ok (.getfield 29, 3) := by decide +kernel
theorem dX6_lend_62 : decode cX6_lend 62 = .ok (.aload_n 0, 1) := by decide +kernel
theorem dX6_lend_63 : decode cX6_lend 63 = .ok (.getfield 10, 3) := by decide +kernel
theorem dX6_lend_66 : decode cX6_lend 66 = .ok (.invokevirtual 63, 3) := by decide +kernel
theorem dX6_lend_69 : decode cX6_lend 69 = .ok (.aload_n 0, 1) := by decide +kernel
theorem dX6_lend_70 : decode cX6_lend 70 = .ok (.getfield 10, 3) := by decide +kernel
theorem dX6_lend_73 : decode cX6_lend 73 = .ok (.getfield 73, 3) := by decide +kernel
theorem dX6_lend_76 : decode cX6_lend 76 = .ok (.getfield 156, 3) := by decide +kernel
theorem dX6_lend_79 : decode cX6_lend 79 = .ok (.iload_n 1, 1) := by decide +kernel
theorem dX6_lend_80 : decode cX6_lend 80 = .ok (.iconst 1, 1) := by decide +kernel
theorem dX6_lend_81 : decode cX6_lend 81 = .ok (.iastore, 1) := by decide +kernel
theorem dX6_lend_82 : decode cX6_lend 82 = .ok (.aload_n 0, 1) := by decide +kernel
theorem dX6_lend_83 : decode cX6_lend 83 = .ok (.getfield 10, 3) := by decide +kernel
theorem dX6_lend_86 : decode cX6_lend 86 = .ok (.invokevirtual 159, 3) := by decide +kernel
theorem dX6_lend_89 : decode cX6_lend 89 = .ok (.ireturn, 1) := by decide +kernel
theorem dX6_collect_0 : decode cX6_collect 0 = .ok (.aload_n 0, 1) := by decide +kernel
theorem dX6_collect_1 : decode cX6_collect 1 = .ok (.iload_n 1, 1) := by decide +kernel
theorem dX6_collect_2 : decode cX6_collect 2 = .ok (.invokevirtual 123, 3) := by decide +kernel
theorem dX6_collect_5 : decode cX6_collect 5 = .ok (.ifCond .ne 5, 3) := by decide +kernel
theorem dX6_collect_8 : decode cX6_collect 8 = .ok (.iconst (-1), 1) := by decide +kernel
theorem dX6_collect_9 : decode cX6_collect 9 = .ok (.ireturn, 1) := by decide +kernel
theorem dX6_collect_10 : decode cX6_collect 10 = .ok (.aload_n 0, 1) := by decide +kernel
theorem dX6_collect_11 : decode cX6_collect 11 = .ok (.getfield 10, 3) := by decide +kernel
theorem dX6_collect_14 : decode cX6_collect 14 = .ok (.getfield 73, 3) := by decide +kernel
theorem dX6_collect_17 : decode cX6_collect 17 = .ok (.iload_n 1, 1) := by decide +kernel
theorem dX6_collect_18 : decode cX6_collect 18 = .ok (.invokevirtual 162, 3) := by decide +kernel
theorem dX6_collect_21 : decode cX6_collect 21 = .ok (.ifCond .ne 6, 3) := by decide +kernel
theorem dX6_collect_24 : decode cX6_collect 24 = .ok (.bipush (-4), 2) := by decide +kernel
theorem dX6_collect_26 : decode cX6_collect 26 = .ok (.ireturn, 1) := by decide +kernel
theorem dX6_collect_27 : decode cX6_collect 27 = .ok (.aload_n 0, 1) := by decide +kernel
theorem dX6_collect_28 : decode cX6_collect 28 = .ok (.getfield 29, 3) := by decide +kernel
theorem dX6_collect_31 : decode cX6_collect 31 = .ok (.aload_n 0, 1) := by decide +kernel
theorem dX6_collect_32 : decode cX6_collect 32 = .ok (.getfield 10, 3) := by decide +kernel
theorem dX6_collect_35 : decode cX6_collect 35 = .ok (.invokevirtual 63, 3) := by decide +kernel
theorem dX6_collect_38 : decode cX6_collect 38 = .ok (.aload_n 0, 1) := by decide +kernel
theorem dX6_collect_39 : decode cX6_collect 39 = .ok (.getfield 10, 3) := by decide +kernel
theorem dX6_collect_42 : decode cX6_collect 42 = .ok (.iload_n 1, 1) := by decide +kernel
theorem dX6_collect_43 : decode cX6_collect 43 = .ok (.invokevirtual 165, 3) := by decide +kernel
theorem dX6_collect_46 : decode cX6_collect 46 = .ok (.ireturn, 1) := by decide +kernel
theorem dX6_pass_0 : decode cX6_pass 0 = .ok (.iload_n 1, 1) := by decide +kernel
theorem dX6_pass_1 : decode cX6_pass 1 = .ok (.iconst 1, 1) := by decide +kernel
theorem dX6_pass_2 : decode cX6_pass 2 = .ok (.bipush 60, 2) := by decide +kernel
theorem dX6_pass_4 : decode cX6_pass 4 = .ok (.invokestatic 51, 3) := by decide +kernel
theorem dX6_pass_7 : decode cX6_pass 7 = .ok (.ifCond .ne 6, 3) := by decide +kernel
theorem dX6_pass_10 : decode cX6_pass 10 = .ok (.bipush (-2), 2) := by decide +kernel
theorem dX6_pass_12 : decode cX6_pass 12 = .ok (.ireturn, 1) := by decide +kernel
theorem dX6_pass_13 : decode cX6_pass 13 = .ok (.aload_n 0, 1) := by decide +kernel
theorem dX6_pass_14 : decode cX6_pass 14 = .ok (.getfield 10, 3) := by decide +kernel
theorem dX6_pass_17 : decode cX6_pass 17 = .ok (.getfield 103, 3) := by decide +kernel
theorem dX6_pass_20 : decode cX6_pass 20 = .ok (.iload_n 1, 1) := by decide +kernel
theorem dX6_pass_21 : decode cX6_pass 21 = .ok (.iadd, 1) := by decide +kernel
theorem dX6_pass_22 : decode cX6_pass 22 = .ok (.sipush 9999, 3) := by decide +kernel
theorem dX6_pass_25 : decode cX6_pass 25 = .ok (.if_icmp .le 6, 3) := by decide +kernel
theorem dX6_pass_28 : decode cX6_pass 28 = .ok (.bipush (-4), 2) := by decide +kernel
theorem dX6_pass_30 : decode cX6_pass 30 = .ok (.ireturn, 1) := by decide +kernel
theorem dX6_pass_31 : decode cX6_pass 31 = .ok (.aload_n 0, 1) := by decide +kernel
theorem dX6_pass_32 : decode cX6_pass 32 = .ok (.getfield 29, 3) := by decide +kernel
theorem dX6_pass_35 : decode cX6_pass 35 = .ok (.aload_n 0, 1) := by decide +kernel
theorem dX6_pass_36 : decode cX6_pass 36 = .ok (.getfield 10, 3) := by decide +kernel
theorem dX6_pass_39 : decode cX6_pass 39 = .ok (.invokevirtual 63, 3) := by decide +kernel
theorem dX6_pass_42 : decode cX6_pass 42 = .ok (.aload_n 0, 1) := by decide +kernel
theorem dX6_pass_43 : decode cX6_pass 43 = .ok (.getfield 10, 3) := by decide +kernel
theorem dX6_pass_46 : decode cX6_pass 46 = .ok (.getfield 168, 3) := by decide +kernel
theorem dX6_pass_49 : decode cX6_pass 49 = .ok (.getfield 172, 3) := by decide +kernel
theorem dX6_pass_52 : decode cX6_pass 52 = .ok (.istore_n 2, 1) := by decide +kernel
theorem dX6_pass_53 : decode cX6_pass 53 = .ok (.iconst 0, 1) := by decide +kernel
theorem dX6_pass_54 : decode cX6_pass 54 = .ok (.istore_n 3, 1) := by decide +kernel
theorem dX6_pass_55 : decode cX6_pass 55 = .ok (.iload_n 3, 1) := by decide +kernel
theorem dX6_pass_56 : decode cX6_pass 56 = .ok (.iload_n 1, 1) := by decide +kernel
theorem dX6_pass_57 : decode cX6_pass 57 = .ok (.if_icmp .ge 16, 3) := by decide +kernel
theorem dX6_pass_60 : decode cX6_pass 60 = .ok (.aload_n 0, 1) := by decide +kernel
theorem dX6_pass_61 : decode cX6_pass 61 = .ok (.getfield 10, 3) := by decide +kernel
theorem dX6_pass_64 : decode cX6_pass 64 = .ok (.invokevirtual 177, 3) := by decide +kernel
theorem dX6_pass_67 : decode cX6_pass 67 = .ok (.iinc 3 1, 3) := by decide +kernel
theorem dX6_pass_70 : decode cX6_pass 70 = .ok (.goto (-15), 3) := by decide +kernel
theorem dX6_pass_73 : decode cX6_pass 73 = .ok (.aload_n 0, 1) := by decide +kernel
theorem dX6_pass_74 : decode cX6_pass 74 = .ok (.getfield 10, 3) := by decide +kernel
theorem dX6_pass_77 : decode cX6_pass 77 = .ok (.getfield 168, 3) := by decide +kernel
theorem dX6_pass_80 : decode cX6_pass 80 = .ok (.getfield 172, 3) := by decide +kernel
theorem dX6_pass_83 : decode cX6_pass 83 = .ok (.iload_n 2, 1) := by decide +kernel
theorem dX6_pass_84 : decode cX6_pass 84 = .ok (.isub, 1) := by decide +kernel
theorem dX6_pass_85 : decode cX6_pass 85 = .ok (.ireturn, 1) := by decide +kernel
theorem dX6_undo_0 : decode cX6_undo 0 = .ok (.aload_n 0, 1) := by decide +kernel
theorem dX6_undo_1 : decode cX6_undo 1 = .ok (.getfield 29, 3) := by decide +kernel
theorem dX6_undo_4 : decode cX6_undo 4 = .ok (.getfield 187, 3) := by decide +kernel
theorem dX6_undo_7 : decode cX6_undo 7 = .ok (.ifCond .gt 6, 3) := by decide +kernel
theorem dX6_undo_10 : decode cX6_undo 10 = .ok (.bipush (-5), 2) := by decide +kernel
theorem dX6_undo_12 : decode cX6_undo 12 = .ok (.ireturn, 1) := by decide +kernel
theorem dX6_undo_13 : decode cX6_undo 13 = .ok (.aload_n 0, 1) := by decide +kernel
theorem dX6_undo_14 : decode cX6_undo 14 = .ok (.getfield 29, 3) := by decide +kernel
theorem dX6_undo_17 : decode cX6_undo 17 = .ok (.aload_n 0, 1) := by decide +kernel
theorem dX6_undo_18 : decode cX6_undo 18 = .ok (.getfield 10, 3) := by decide +kernel
theorem dX6_undo_21 : decode cX6_undo 21 = .ok (.invokevirtual 188, 3) := by decide +kernel
theorem dX6_undo_24 : decode cX6_undo 24 = .ok (.aload_n 0, 1) := by decide +kernel
theorem dX6_undo_25 : decode cX6_undo 25 = .ok (.getfield 29, 3) := by decide +kernel
theorem dX6_undo_28 : decode cX6_undo 28 = .ok (.getfield 187, 3) := by decide +kernel
theorem dX6_undo_31 : decode cX6_undo 31 = .ok (.ireturn, 1) := by decide +kernel
theorem dX6_keep_0 : decode cX6_keep 0 = .ok (.aload_n 0, 1) := by decide +kernel
theorem dX6_keep_1 : decode cX6_keep 1 = .ok (.getfield 19, 3) := by decide +kernel
theorem dX6_keep_4 : decode cX6_keep 4 = .ok (.aload_n 0, 1) := by decide +kernel
theorem dX6_keep_5 : decode cX6_keep 5 = .ok (.getfield 10, 3) := by decide +kernel
theorem dX6_keep_8 : decode cX6_keep 8 = .ok (.invokevirtual 146, 3) := by decide +kernel
theorem dX6_keep_11 : decode cX6_keep 11 = .ok (.aload_n 0, 1) := by decide +kernel
theorem dX6_keep_12 : decode cX6_keep 12 = .ok (.iconst 1, 1) := by decide +kernel
theorem dX6_keep_13 : decode cX6_keep 13 = .ok (.putfield 22, 3) := by decide +kernel
theorem dX6_keep_16 : decode cX6_keep 16 = .ok (.aload_n 0, 1) := by decide +kernel
theorem dX6_keep_17 : decode cX6_keep 17 = .ok (.getfield 10, 3) := by decide +kernel
theorem dX6_keep_20 : decode cX6_keep 20 = .ok (.getfield 103, 3) := by decide +kernel
theorem dX6_keep_23 : decode cX6_keep 23 = .ok (.ireturn, 1) := by decide +kernel
theorem dX6_restore_0 : decode cX6_restore 0 = .ok (.aload_n 0, 1) := by decide +kernel
theorem dX6_restore_1 : decode cX6_restore 1 = .ok (.getfield 22, 3) := by decide +kernel
theorem dX6_restore_4 : decode cX6_restore 4 = .ok (.ifCond .ne 6, 3) := by decide +kernel
theorem dX6_restore_7 : decode cX6_restore 7 = .ok (.bipush (-5), 2) := by decide +kernel
theorem dX6_restore_9 : decode cX6_restore 9 = .ok (.ireturn, 1) := by decide +kernel
theorem dX6_restore_10 : decode cX6_restore 10 = .ok (.aload_n 0, 1) := by decide +kernel
theorem dX6_restore_11 : decode cX6_restore 11 = .ok (.getfield 29, 3) := by decide +kernel
theorem dX6_restore_14 : decode cX6_restore 14 = .ok (.aload_n 0, 1) := by decide +kernel
theorem dX6_restore_15 : decode cX6_restore 15 = .ok (.getfield 10, 3) := by decide +kernel
theorem dX6_restore_18 : decode cX6_restore 18 = .ok (.invokevirtual 63, 3) := by decide +kernel
theorem dX6_restore_21 : decode cX6_restore 21 = .ok (.aload_n 0, 1) := by decide +kernel
theorem dX6_restore_22 : decode cX6_restore 22 = .ok (.getfield 10, 3) := by decide +kernel
theorem dX6_restore_25 : decode cX6_restore 25 = .ok (.aload_n 0, 1) := by decide +kernel
theorem dX6_restore_26 : decode cX6_restore 26 = .ok (.getfield 19, 3) := by decide +kernel
theorem dX6_restore_29 : decode cX6_restore 29 = .ok (.invokevirtual 146, 3) := by decide +kernel
theorem dX6_restore_32 : decode cX6_restore 32 = .ok (.aload_n 0, 1) := by decide +kernel
theorem dX6_restore_33 : decode cX6_restore 33 = .ok (.getfield 10, 3) := by decide +kernel
theorem dX6_restore_36 : decode cX6_restore 36 = .ok (.getfield 103, 3) := by decide +kernel
theorem dX6_restore_39 : decode cX6_restore 39 = .ok (.ireturn, 1) := by decide +kernel
theorem dX6_rate_0 : decode cX6_rate 0 = .ok (.iload_n 1, 1) := by decide +kernel
theorem dX6_rate_1 : decode cX6_rate 1 = .ok (.iconst 4, 1) := by decide +kernel
theorem dX6_rate_2 : decode cX6_rate 2 = .ok (.invokestatic 40, 3) := by decide +kernel
theorem dX6_rate_5 : decode cX6_rate 5 = .ok (.ifCond .eq 15, 3) := by decide +kernel
theorem dX6_rate_8 : decode cX6_rate 8 = .ok (.aload_n 0, 1) := by decide +kernel
theorem dX6_rate_9 : decode cX6_rate 9 = .ok (.getfield 10, 3) := by decide +kernel
theorem dX6_rate_12 : decode cX6_rate 12 = .ok (.getfield 59, 3) := by decide +kernel
theorem dX6_rate_15 : decode cX6_rate 15 = .ok (.iload_n 1, 1) := by decide +kernel
theorem dX6_rate_16 : decode cX6_rate 16 = .ok (.faload, 1) := by decide +kernel
theorem dX6_rate_17 : decode cX6_rate 17 = .ok (.goto 5, 3) := by decide +kernel
theorem dX6_rate_20 : decode cX6_rate 20 = .ok (.ldc 191, 2) := by decide +kernel
theorem dX6_rate_22 : decode cX6_rate 22 = .ok (.freturn, 1) := by decide +kernel
theorem dX6_number_0 : decode cX6_number 0 = .ok (.iload_n 1, 1) := by decide +kernel
theorem dX6_number_1 : decode cX6_number 1 = .ok (.iconst 5, 1) := by decide +kernel
theorem dX6_number_2 : decode cX6_number 2 = .ok (.invokestatic 40, 3) := by decide +kernel
theorem dX6_number_5 : decode cX6_number 5 = .ok (.ifCond .eq 15, 3) := by decide +kernel
theorem dX6_number_8 : decode cX6_number 8 = .ok (.aload_n 0, 1) := by decide +kernel
theorem dX6_number_9 : decode cX6_number 9 = .ok (.getfield 10, 3) := by decide +kernel
theorem dX6_number_12 : decode cX6_number 12 = .ok (.getfield 83, 3) := by decide +kernel
theorem dX6_number_15 : decode cX6_number 15 = .ok (.iload_n 1, 1) := by decide +kernel
theorem dX6_number_16 : decode cX6_number 16 = .ok (.iaload, 1) := by decide +kernel
theorem dX6_number_17 : decode cX6_number 17 = .ok (.goto 4, 3) := by decide +kernel
theorem dX6_number_20 : decode cX6_number 20 = .ok (.iconst (-1), 1) := by decide +kernel
theorem dX6_number_21 : decode cX6_number 21 = .ok (.ireturn, 1) := by decide +kernel
theorem dX6_part_0 : decode cX6_part 0 = .ok (.iload_n 1, 1) := by decide +kernel
theorem dX6_part_1 : decode cX6_part 1 = .ok (.bipush 6, 2) := by decide +kernel
theorem dX6_part_3 : decode cX6_part 3 = .ok (.invokestatic 40, 3) := by decide +kernel
theorem dX6_part_6 : decode cX6_part 6 = .ok (.ifCond .ne 5, 3) := by decide +kernel
theorem dX6_part_9 : decode cX6_part 9 = .ok (.iconst (-1), 1) := by decide +kernel
theorem dX6_part_10 : decode cX6_part 10 = .ok (.ireturn, 1) := by decide +kernel
theorem dX6_part_11 : decode cX6_part 11 = .ok (.iload_n 2, 1) := by decide +kernel
theorem dX6_part_12 : decode cX6_part 12 = .ok (.tableswitch 113 0 5 #[40, 53, 66, 79, 92, 104], 40) := by decide +kernel
theorem dX6_part_52 : decode cX6_part 52 = .ok (.aload_n 0, 1) := by decide +kernel
theorem dX6_part_53 : decode cX6_part 53 = .ok (.getfield 10, 3) := by decide +kernel
theorem dX6_part_56 : decode cX6_part 56 = .ok (.getfield 87, 3) := by decide +kernel
theorem dX6_part_59 : decode cX6_part 59 = .ok (.getfield 91, 3) := by decide +kernel
theorem dX6_part_62 : decode cX6_part 62 = .ok (.iload_n 1, 1) := by decide +kernel
theorem dX6_part_63 : decode cX6_part 63 = .ok (.iaload, 1) := by decide +kernel
theorem dX6_part_64 : decode cX6_part 64 = .ok (.ireturn, 1) := by decide +kernel
theorem dX6_part_65 : decode cX6_part 65 = .ok (.aload_n 0, 1) := by decide +kernel
theorem dX6_part_66 : decode cX6_part 66 = .ok (.getfield 10, 3) := by decide +kernel
theorem dX6_part_69 : decode cX6_part 69 = .ok (.getfield 87, 3) := by decide +kernel
theorem dX6_part_72 : decode cX6_part 72 = .ok (.getfield 96, 3) := by decide +kernel
theorem dX6_part_75 : decode cX6_part 75 = .ok (.iload_n 1, 1) := by decide +kernel
theorem dX6_part_76 : decode cX6_part 76 = .ok (.iaload, 1) := by decide +kernel
theorem dX6_part_77 : decode cX6_part 77 = .ok (.ireturn, 1) := by decide +kernel
theorem dX6_part_78 : decode cX6_part 78 = .ok (.aload_n 0, 1) := by decide +kernel
theorem dX6_part_79 : decode cX6_part 79 = .ok (.getfield 10, 3) := by decide +kernel
theorem dX6_part_82 : decode cX6_part 82 = .ok (.getfield 87, 3) := by decide +kernel
theorem dX6_part_85 : decode cX6_part 85 = .ok (.getfield 110, 3) := by decide +kernel
theorem dX6_part_88 : decode cX6_part 88 = .ok (.iload_n 1, 1) := by decide +kernel
theorem dX6_part_89 : decode cX6_part 89 = .ok (.iaload, 1) := by decide +kernel
theorem dX6_part_90 : decode cX6_part 90 = .ok (.ireturn, 1) := by decide +kernel
theorem dX6_part_91 : decode cX6_part 91 = .ok (.aload_n 0, 1) := by decide +kernel
theorem dX6_part_92 : decode cX6_part 92 = .ok (.getfield 10, 3) := by decide +kernel
theorem dX6_part_95 : decode cX6_part 95 = .ok (.getfield 87, 3) := by decide +kernel
theorem dX6_part_98 : decode cX6_part 98 = .ok (.getfield 192, 3) := by decide +kernel
theorem dX6_part_101 : decode cX6_part 101 = .ok (.iload_n 1, 1) := by decide +kernel
theorem dX6_part_102 : decode cX6_part 102 = .ok (.iaload, 1) := by decide +kernel
theorem dX6_part_103 : decode cX6_part 103 = .ok (.ireturn, 1) := by decide +kernel
theorem dX6_part_104 : decode cX6_part 104 = .ok (.aload_n 0, 1) := by decide +kernel
theorem dX6_part_105 : decode cX6_part 105 = .ok (.getfield 10, 3) := by decide +kernel
theorem dX6_part_108 : decode cX6_part 108 = .ok (.getfield 87, 3) := by decide +kernel
theorem dX6_part_111 : decode cX6_part 111 = .ok (.iload_n 1, 1) := by decide +kernel
theorem dX6_part_112 : decode cX6_part 112 = .ok (.invokevirtual 195, 3) := by decide +kernel
theorem dX6_part_115 : decode cX6_part 115 = .ok (.ireturn, 1) := by decide +kernel
theorem dX6_part_116 : decode cX6_part 116 = .ok (.aload_n 0, 1) := by decide +kernel
theorem dX6_part_117 : decode cX6_part 117 = .ok (.getfield 10, 3) := by decide +kernel
theorem dX6_part_120 : decode cX6_part 120 = .ok (.iload_n 1, 1) := by decide +kernel
theorem dX6_part_121 : decode cX6_part 121 = .ok (.invokevirtual 198, 3) := by decide +kernel
theorem dX6_part_124 : decode cX6_part 124 = .ok (.ireturn, 1) := by decide +kernel
theorem dX6_part_125 : decode cX6_part 125 = .ok (.bipush (-2), 2) := by decide +kernel
theorem dX6_part_127 : decode cX6_part 127 = .ok (.ireturn, 1) := by decide +kernel
theorem dX6_costOf_0 : decode cX6_costOf 0 = .ok (.iload_n 1, 1) := by decide +kernel
theorem dX6_costOf_1 : decode cX6_costOf 1 = .ok (.iconst 5, 1) := by decide +kernel
theorem dX6_costOf_2 : decode cX6_costOf 2 = .ok (.invokestatic 40, 3) := by decide +kernel
theorem dX6_costOf_5 : decode cX6_costOf 5 = .ok (.ifCond .eq 14, 3) := by decide +kernel
theorem dX6_costOf_8 : decode cX6_costOf 8 = .ok (.aload_n 0, 1) := by decide +kernel
theorem dX6_costOf_9 : decode cX6_costOf 9 = .ok (.getfield 10, 3) := by decide +kernel
theorem dX6_costOf_12 : decode cX6_costOf 12 = .ok (.iload_n 1, 1) := by decide +kernel
theorem dX6_costOf_13 : decode cX6_costOf 13 = .ok (.invokevirtual 133, 3) := by decide +kernel
theorem dX6_costOf_16 : decode cX6_costOf 16 = .ok (.goto 4, 3) := by decide +kernel
theorem dX6_costOf_19 : decode cX6_costOf 19 = .ok (.iconst (-1), 1) := by decide +kernel
theorem dX6_costOf_20 : decode cX6_costOf 20 = .ok (.ireturn, 1) := by decide +kernel
theorem dX6_set_0 : decode cX6_set 0 = .ok (.aload_n 0, 1) := by decide +kernel
theorem dX6_set_1 : decode cX6_set 1 = .ok (.iload_n 1, 1) := by decide +kernel
theorem dX6_set_2 : decode cX6_set 2 = .ok (.invokevirtual 123, 3) := by decide +kernel
theorem dX6_set_5 : decode cX6_set 5 = .ok (.ifCond .ne 5, 3) := by decide +kernel
theorem dX6_set_8 : decode cX6_set 8 = .ok (.iconst (-1), 1) := by decide +kernel
theorem dX6_set_9 : decode cX6_set 9 = .ok (.ireturn, 1) := by decide +kernel
theorem dX6_set_10 : decode cX6_set 10 = .ok (.iload_n 2, 1) := by decide +kernel
theorem dX6_set_11 : decode cX6_set 11 = .ok (.tableswitch 181 0 8 #[49, 62, 75, 88, 101, 114, 127, 140, 153], 49) := by decide +kernel
theorem dX6_set_60 : decode cX6_set 60 = .ok (.aload_n 0, 1) := by decide +kernel
theorem dX6_set_61 : decode cX6_set 61 = .ok (.getfield 10, 3) := by decide +kernel
theorem dX6_set_64 : decode cX6_set 64 = .ok (.getfield 73, 3) := by decide +kernel
theorem dX6_set_67 : decode cX6_set 67 = .ok (.getfield 130, 3) := by decide +kernel
theorem dX6_set_70 : decode cX6_set 70 = .ok (.iload_n 1, 1) := by decide +kernel
theorem dX6_set_71 : decode cX6_set 71 = .ok (.iaload, 1) := by decide +kernel
theorem dX6_set_72 : decode cX6_set 72 = .ok (.ireturn, 1) := by decide +kernel
theorem dX6_set_73 : decode cX6_set 73 = .ok (.aload_n 0, 1) := by decide +kernel
theorem dX6_set_74 : decode cX6_set 74 = .ok (.getfield 10, 3) := by decide +kernel
theorem dX6_set_77 : decode cX6_set 77 = .ok (.getfield 73, 3) := by decide +kernel
theorem dX6_set_80 : decode cX6_set 80 = .ok (.getfield 201, 3) := by decide +kernel
theorem dX6_set_83 : decode cX6_set 83 = .ok (.iload_n 1, 1) := by decide +kernel
theorem dX6_set_84 : decode cX6_set 84 = .ok (.iaload, 1) := by decide +kernel
theorem dX6_set_85 : decode cX6_set 85 = .ok (.ireturn, 1) := by decide +kernel
theorem dX6_set_86 : decode cX6_set 86 = .ok (.aload_n 0, 1) := by decide +kernel
theorem dX6_set_87 : decode cX6_set 87 = .ok (.getfield 10, 3) := by decide +kernel
theorem dX6_set_90 : decode cX6_set 90 = .ok (.getfield 73, 3) := by decide +kernel
theorem dX6_set_93 : decode cX6_set 93 = .ok (.getfield 137, 3) := by decide +kernel
theorem dX6_set_96 : decode cX6_set 96 = .ok (.iload_n 1, 1) := by decide +kernel
theorem dX6_set_97 : decode cX6_set 97 = .ok (.iaload, 1) := by decide +kernel
theorem dX6_set_98 : decode cX6_set 98 = .ok (.ireturn, 1) := by decide +kernel
theorem dX6_set_99 : decode cX6_set 99 = .ok (.aload_n 0, 1) := by decide +kernel
theorem dX6_set_100 : decode cX6_set 100 = .ok (.getfield 10, 3) := by decide +kernel
theorem dX6_set_103 : decode cX6_set 103 = .ok (.getfield 73, 3) := by decide +kernel
theorem dX6_set_106 : decode cX6_set 106 = .ok (.getfield 204, 3) := by decide +kernel
theorem dX6_set_109 : decode cX6_set 109 = .ok (.iload_n 1, 1) := by decide +kernel
theorem dX6_set_110 : decode cX6_set 110 = .ok (.iaload, 1) := by decide +kernel
theorem dX6_set_111 : decode cX6_set 111 = .ok (.ireturn, 1) := by decide +kernel
theorem dX6_set_112 : decode cX6_set 112 = .ok (.aload_n 0, 1) := by decide +kernel
theorem dX6_set_113 : decode cX6_set 113 = .ok (.getfield 10, 3) := by decide +kernel
theorem dX6_set_116 : decode cX6_set 116 = .ok (.getfield 73, 3) := by decide +kernel
theorem dX6_set_119 : decode cX6_set 119 = .ok (.getfield 207, 3) := by decide +kernel
theorem dX6_set_122 : decode cX6_set 122 = .ok (.iload_n 1, 1) := by decide +kernel
theorem dX6_set_123 : decode cX6_set 123 = .ok (.iaload, 1) := by decide +kernel
theorem dX6_set_124 : decode cX6_set 124 = .ok (.ireturn, 1) := by decide +kernel
theorem dX6_set_125 : decode cX6_set 125 = .ok (.aload_n 0, 1) := by decide +kernel
theorem dX6_set_126 : decode cX6_set 126 = .ok (.getfield 10, 3) := by decide +kernel
theorem dX6_set_129 : decode cX6_set 129 = .ok (.getfield 73, 3) := by decide +kernel
theorem dX6_set_132 : decode cX6_set 132 = .ok (.getfield 156, 3) := by decide +kernel
theorem dX6_set_135 : decode cX6_set 135 = .ok (.iload_n 1, 1) := by decide +kernel
theorem dX6_set_136 : decode cX6_set 136 = .ok (.iaload, 1) := by decide +kernel
theorem dX6_set_137 : decode cX6_set 137 = .ok (.ireturn, 1) := by decide +kernel
theorem dX6_set_138 : decode cX6_set 138 = .ok (.aload_n 0, 1) := by decide +kernel
theorem dX6_set_139 : decode cX6_set 139 = .ok (.getfield 10, 3) := by decide +kernel
theorem dX6_set_142 : decode cX6_set 142 = .ok (.getfield 73, 3) := by decide +kernel
theorem dX6_set_145 : decode cX6_set 145 = .ok (.getfield 127, 3) := by decide +kernel
theorem dX6_set_148 : decode cX6_set 148 = .ok (.iload_n 1, 1) := by decide +kernel
theorem dX6_set_149 : decode cX6_set 149 = .ok (.iaload, 1) := by decide +kernel
theorem dX6_set_150 : decode cX6_set 150 = .ok (.ireturn, 1) := by decide +kernel
theorem dX6_set_151 : decode cX6_set 151 = .ok (.aload_n 0, 1) := by decide +kernel
theorem dX6_set_152 : decode cX6_set 152 = .ok (.getfield 10, 3) := by decide +kernel
theorem dX6_set_155 : decode cX6_set 155 = .ok (.getfield 73, 3) := by decide +kernel
theorem dX6_set_158 : decode cX6_set 158 = .ok (.getfield 210, 3) := by decide +kernel
theorem dX6_set_161 : decode cX6_set 161 = .ok (.iload_n 1, 1) := by decide +kernel
theorem dX6_set_162 : decode cX6_set 162 = .ok (.iaload, 1) := by decide +kernel
theorem dX6_set_163 : decode cX6_set 163 = .ok (.ireturn, 1) := by decide +kernel
theorem dX6_set_164 : decode cX6_set 164 = .ok (.aload_n 0, 1) := by decide +kernel
theorem dX6_set_165 : decode cX6_set 165 = .ok (.getfield 10, 3) := by decide +kernel
theorem dX6_set_168 : decode cX6_set 168 = .ok (.getfield 73, 3) := by decide +kernel
theorem dX6_set_171 : decode cX6_set 171 = .ok (.iload_n 1, 1) := by decide +kernel
theorem dX6_set_172 : decode cX6_set 172 = .ok (.invokevirtual 162, 3) := by decide +kernel
theorem dX6_set_175 : decode cX6_set 175 = .ok (.ifCond .eq 14, 3) := by decide +kernel
theorem dX6_set_178 : decode cX6_set 178 = .ok (.aload_n 0, 1) := by decide +kernel
theorem dX6_set_179 : decode cX6_set 179 = .ok (.getfield 10, 3) := by decide +kernel
theorem dX6_set_182 : decode cX6_set 182 = .ok (.iload_n 1, 1) := by decide +kernel
theorem dX6_set_183 : decode cX6_set 183 = .ok (.invokevirtual 213, 3) := by decide +kernel
theorem dX6_set_186 : decode cX6_set 186 = .ok (.goto 5, 3) := by decide +kernel
theorem dX6_set_189 : decode cX6_set 189 = .ok (.bipush (-5), 2) := by decide +kernel
theorem dX6_set_191 : decode cX6_set 191 = .ok (.ireturn, 1) := by decide +kernel
theorem dX6_set_192 : decode cX6_set 192 = .ok (.bipush (-2), 2) := by decide +kernel
theorem dX6_set_194 : decode cX6_set 194 = .ok (.ireturn, 1) := by decide +kernel
theorem dX6_waitsFor_0 : decode cX6_waitsFor 0 = .ok (.aload_n 0, 1) := by decide +kernel
theorem dX6_waitsFor_1 : decode cX6_waitsFor 1 = .ok (.iload_n 1, 1) := by decide +kernel
theorem dX6_waitsFor_2 : decode cX6_waitsFor 2 = .ok (.invokevirtual 123, 3) := by decide +kernel
theorem dX6_waitsFor_5 : decode cX6_waitsFor 5 = .ok (.ifCond .ne 5, 3) := by decide +kernel
theorem dX6_waitsFor_8 : decode cX6_waitsFor 8 = .ok (.iconst (-1), 1) := by decide +kernel
theorem dX6_waitsFor_9 : decode cX6_waitsFor 9 = .ok (.ireturn, 1) := by decide +kernel
theorem dX6_waitsFor_10 : decode cX6_waitsFor 10 = .ok (.aload_n 0, 1) := by decide +kernel
theorem dX6_waitsFor_11 : decode cX6_waitsFor 11 = .ok (.getfield 10, 3) := by decide +kernel
theorem dX6_waitsFor_14 : decode cX6_waitsFor 14 = .ok (.getfield 73, 3) := by decide +kernel
theorem dX6_waitsFor_17 : decode cX6_waitsFor 17 = .ok (.getfield 127, 3) := by decide +kernel
theorem dX6_waitsFor_20 : decode cX6_waitsFor 20 = .ok (.iload_n 1, 1) := by decide +kernel
theorem dX6_waitsFor_21 : decode cX6_waitsFor 21 = .ok (.iaload, 1) := by decide +kernel
theorem dX6_waitsFor_22 : decode cX6_waitsFor 22 = .ok (.tableswitch 79 0 5 #[38, 40, 42, 73, 75, 77], 38) := by decide +kernel
theorem dX6_waitsFor_60 : decode cX6_waitsFor 60 = .ok (.iconst 0, 1) := by decide +kernel
theorem dX6_waitsFor_61 : decode cX6_waitsFor 61 = .ok (.ireturn, 1) := by decide +kernel
theorem dX6_waitsFor_62 : decode cX6_waitsFor 62 = .ok (.iconst 1, 1) := by decide +kernel
theorem dX6_waitsFor_63 : decode cX6_waitsFor 63 = .ok (.ireturn, 1) := by decide +kernel
theorem dX6_waitsFor_64 : decode cX6_waitsFor 64 = .ok (.aload_n 0, 1) := by decide +kernel
theorem dX6_waitsFor_65 : decode cX6_waitsFor 65 = .ok (.getfield 10, 3) := by decide +kernel
theorem dX6_waitsFor_68 : decode cX6_waitsFor 68 = .ok (.getfield 87, 3) := by decide +kernel
theorem dX6_waitsFor_71 : decode cX6_waitsFor 71 = .ok (.aload_n 0, 1) := by decide +kernel
theorem dX6_waitsFor_72 : decode cX6_waitsFor 72 = .ok (.getfield 10, 3) := by decide +kernel
theorem dX6_waitsFor_75 : decode cX6_waitsFor 75 = .ok (.getfield 73, 3) := by decide +kernel
theorem dX6_waitsFor_78 : decode cX6_waitsFor 78 = .ok (.getfield 130, 3) := by decide +kernel
theorem dX6_waitsFor_81 : decode cX6_waitsFor 81 = .ok (.iload_n 1, 1) := by decide +kernel
theorem dX6_waitsFor_82 : decode cX6_waitsFor 82 = .ok (.iaload, 1) := by decide +kernel
theorem dX6_waitsFor_83 : decode cX6_waitsFor 83 = .ok (.invokevirtual 216, 3) := by decide +kernel
theorem dX6_waitsFor_86 : decode cX6_waitsFor 86 = .ok (.ifCond .eq 7, 3) := by decide +kernel
theorem dX6_waitsFor_89 : decode cX6_waitsFor 89 = .ok (.iconst 2, 1) := by decide +kernel
theorem dX6_waitsFor_90 : decode cX6_waitsFor 90 = .ok (.goto 4, 3) := by decide +kernel
theorem dX6_waitsFor_93 : decode cX6_waitsFor 93 = .ok (.iconst 3, 1) := by decide +kernel
theorem dX6_waitsFor_94 : decode cX6_waitsFor 94 = .ok (.ireturn, 1) := by decide +kernel
theorem dX6_waitsFor_95 : decode cX6_waitsFor 95 = .ok (.iconst 4, 1) := by decide +kernel
theorem dX6_waitsFor_96 : decode cX6_waitsFor 96 = .ok (.ireturn, 1) := by decide +kernel
theorem dX6_waitsFor_97 : decode cX6_waitsFor 97 = .ok (.iconst 5, 1) := by decide +kernel
theorem dX6_waitsFor_98 : decode cX6_waitsFor 98 = .ok (.ireturn, 1) := by decide +kernel
theorem dX6_waitsFor_99 : decode cX6_waitsFor 99 = .ok (.iconst 5, 1) := by decide +kernel
theorem dX6_waitsFor_100 : decode cX6_waitsFor 100 = .ok (.ireturn, 1) := by decide +kernel
theorem dX6_waitsFor_101 : decode cX6_waitsFor 101 = .ok (.bipush (-5), 2) := by decide +kernel
theorem dX6_waitsFor_103 : decode cX6_waitsFor 103 = .ok (.ireturn, 1) := by decide +kernel
theorem dX6_lacks_0 : decode cX6_lacks 0 = .ok (.aload_n 0, 1) := by decide +kernel
theorem dX6_lacks_1 : decode cX6_lacks 1 = .ok (.iload_n 1, 1) := by decide +kernel
theorem dX6_lacks_2 : decode cX6_lacks 2 = .ok (.invokevirtual 123, 3) := by decide +kernel
theorem dX6_lacks_5 : decode cX6_lacks 5 = .ok (.ifCond .ne 5, 3) := by decide +kernel
theorem dX6_lacks_8 : decode cX6_lacks 8 = .ok (.iconst (-1), 1) := by decide +kernel
theorem dX6_lacks_9 : decode cX6_lacks 9 = .ok (.ireturn, 1) := by decide +kernel
theorem dX6_lacks_10 : decode cX6_lacks 10 = .ok (.aload_n 0, 1) := by decide +kernel
theorem dX6_lacks_11 : decode cX6_lacks 11 = .ok (.getfield 10, 3) := by decide +kernel
theorem dX6_lacks_14 : decode cX6_lacks 14 = .ok (.getfield 73, 3) := by decide +kernel
theorem dX6_lacks_17 : decode cX6_lacks 17 = .ok (.getfield 127, 3) := by decide +kernel
theorem dX6_lacks_20 : decode cX6_lacks 20 = .ok (.iload_n 1, 1) := by decide +kernel
theorem dX6_lacks_21 : decode cX6_lacks 21 = .ok (.iaload, 1) := by decide +kernel
theorem dX6_lacks_22 : decode cX6_lacks 22 = .ok (.iconst 2, 1) := by decide +kernel
theorem dX6_lacks_23 : decode cX6_lacks 23 = .ok (.if_icmp .eq 6, 3) := by decide +kernel
theorem dX6_lacks_26 : decode cX6_lacks 26 = .ok (.bipush (-5), 2) := by decide +kernel
theorem dX6_lacks_28 : decode cX6_lacks 28 = .ok (.ireturn, 1) := by decide +kernel
theorem dX6_lacks_29 : decode cX6_lacks 29 = .ok (.aload_n 0, 1) := by decide +kernel
theorem dX6_lacks_30 : decode cX6_lacks 30 = .ok (.getfield 10, 3) := by decide +kernel
theorem dX6_lacks_33 : decode cX6_lacks 33 = .ok (.getfield 87, 3) := by decide +kernel
theorem dX6_lacks_36 : decode cX6_lacks 36 = .ok (.aload_n 0, 1) := by decide +kernel
theorem dX6_lacks_37 : decode cX6_lacks 37 = .ok (.getfield 10, 3) := by decide +kernel
theorem dX6_lacks_40 : decode cX6_lacks 40 = .ok (.getfield 73, 3) := by decide +kernel
theorem dX6_lacks_43 : decode cX6_lacks 43 = .ok (.getfield 130, 3) := by decide +kernel
theorem dX6_lacks_46 : decode cX6_lacks 46 = .ok (.iload_n 1, 1) := by decide +kernel
theorem dX6_lacks_47 : decode cX6_lacks 47 = .ok (.iaload, 1) := by decide +kernel
theorem dX6_lacks_48 : decode cX6_lacks 48 = .ok (.invokevirtual 219, 3) := by decide +kernel
theorem dX6_lacks_51 : decode cX6_lacks 51 = .ok (.ireturn, 1) := by decide +kernel
theorem dX6_doneIn_0 : decode cX6_doneIn 0 = .ok (.aload_n 0, 1) := by decide +kernel
theorem dX6_doneIn_1 : decode cX6_doneIn 1 = .ok (.iload_n 1, 1) := by decide +kernel
theorem dX6_doneIn_2 : decode cX6_doneIn 2 = .ok (.invokevirtual 123, 3) := by decide +kernel
theorem dX6_doneIn_5 : decode cX6_doneIn 5 = .ok (.ifCond .ne 5, 3) := by decide +kernel
theorem dX6_doneIn_8 : decode cX6_doneIn 8 = .ok (.iconst (-1), 1) := by decide +kernel
theorem dX6_doneIn_9 : decode cX6_doneIn 9 = .ok (.ireturn, 1) := by decide +kernel
theorem dX6_doneIn_10 : decode cX6_doneIn 10 = .ok (.aload_n 0, 1) := by decide +kernel
theorem dX6_doneIn_11 : decode cX6_doneIn 11 = .ok (.getfield 10, 3) := by decide +kernel
theorem dX6_doneIn_14 : decode cX6_doneIn 14 = .ok (.getfield 73, 3) := by decide +kernel
theorem dX6_doneIn_17 : decode cX6_doneIn 17 = .ok (.getfield 127, 3) := by decide +kernel
theorem dX6_doneIn_20 : decode cX6_doneIn 20 = .ok (.iload_n 1, 1) := by decide +kernel
theorem dX6_doneIn_21 : decode cX6_doneIn 21 = .ok (.iaload, 1) := by decide +kernel
theorem dX6_doneIn_22 : decode cX6_doneIn 22 = .ok (.istore_n 2, 1) := by decide +kernel
theorem dX6_doneIn_23 : decode cX6_doneIn 23 = .ok (.iload_n 2, 1) := by decide +kernel
theorem dX6_doneIn_24 : decode cX6_doneIn 24 = .ok (.iconst 2, 1) := by decide +kernel
theorem dX6_doneIn_25 : decode cX6_doneIn 25 = .ok (.if_icmp .eq 11, 3) := by decide +kernel
theorem dX6_doneIn_28 : decode cX6_doneIn 28 = .ok (.iload_n 2, 1) := by decide +kernel
theorem dX6_doneIn_29 : decode cX6_doneIn 29 = .ok (.iconst 3, 1) := by decide +kernel
theorem dX6_doneIn_30 : decode cX6_doneIn 30 = .ok (.if_icmp .eq 6, 3) := by decide +kernel
theorem dX6_doneIn_33 : decode cX6_doneIn 33 = .ok (.bipush (-5), 2) := by decide +kernel
theorem dX6_doneIn_35 : decode cX6_doneIn 35 = .ok (.ireturn, 1) := by decide +kernel
theorem dX6_doneIn_36 : decode cX6_doneIn 36 = .ok (.aload_n 0, 1) := by decide +kernel
theorem dX6_doneIn_37 : decode cX6_doneIn 37 = .ok (.getfield 16, 3) := by decide +kernel
theorem dX6_doneIn_40 : decode cX6_doneIn 40 = .ok (.aload_n 0, 1) := by decide +kernel
theorem dX6_doneIn_41 : decode cX6_doneIn 41 = .ok (.getfield 10, 3) := by decide +kernel
theorem dX6_doneIn_44 : decode cX6_doneIn 44 = .ok (.invokevirtual 146, 3) := by decide +kernel
theorem dX6_doneIn_47 : decode cX6_doneIn 47 = .ok (.iconst 1, 1) := by decide +kernel
theorem dX6_doneIn_48 : decode cX6_doneIn 48 = .ok (.istore_n 3, 1) := by decide +kernel
theorem dX6_doneIn_49 : decode cX6_doneIn 49 = .ok (.iload_n 3, 1) := by decide +kernel
theorem dX6_doneIn_50 : decode cX6_doneIn 50 = .ok (.sipush 200, 3) := by decide +kernel
theorem dX6_doneIn_53 : decode cX6_doneIn 53 = .ok (.if_icmp .gt 66, 3) := by decide +kernel
theorem dX6_doneIn_56 : decode cX6_doneIn 56 = .ok (.aload_n 0, 1) := by decide +kernel
theorem dX6_doneIn_57 : decode cX6_doneIn 57 = .ok (.getfield 16, 3) := by decide +kernel
theorem dX6_doneIn_60 : decode cX6_doneIn 60 = .ok (.getfield 73, 3) := by decide +kernel
theorem dX6_doneIn_63 : decode cX6_doneIn 63 = .ok (.getfield 127, 3) := by decide +kernel
theorem dX6_doneIn_66 : decode cX6_doneIn 66 = .ok (.iload_n 1, 1) := by decide +kernel
theorem dX6_doneIn_67 : decode cX6_doneIn 67 = .ok (.iaload, 1) := by decide +kernel
theorem dX6_doneIn_68 : decode cX6_doneIn 68 = .ok (.iconst 2, 1) := by decide +kernel
theorem dX6_doneIn_69 : decode cX6_doneIn 69 = .ok (.if_icmp .ne 19, 3) := by decide +kernel
theorem dX6_doneIn_72 : decode cX6_doneIn 72 = .ok (.aload_n 0, 1) := by decide +kernel
theorem dX6_doneIn_73 : decode cX6_doneIn 73 = .ok (.getfield 16, 3) := by decide +kernel
theorem dX6_doneIn_76 : decode cX6_doneIn 76 = .ok (.getfield 87, 3) := by decide +kernel
theorem dX6_doneIn_79 : decode cX6_doneIn 79 = .ok (.getfield 99, 3) := by decide +kernel
theorem dX6_doneIn_82 : decode cX6_doneIn 82 = .ok (.ifCond .ne 6, 3) := by decide +kernel
theorem dX6_doneIn_85 : decode cX6_doneIn 85 = .ok (.bipush (-5), 2) := by decide +kernel
theorem dX6_doneIn_87 : decode cX6_doneIn 87 = .ok (.ireturn, 1) := by decide +kernel
theorem dX6_doneIn_88 : decode cX6_doneIn 88 = .ok (.aload_n 0, 1) := by decide +kernel
theorem dX6_doneIn_89 : decode cX6_doneIn 89 = .ok (.getfield 16, 3) := by decide +kernel
theorem dX6_doneIn_92 : decode cX6_doneIn 92 = .ok (.invokevirtual 177, 3) := by decide +kernel
theorem dX6_doneIn_95 : decode cX6_doneIn 95 = .ok (.aload_n 0, 1) := by decide +kernel
theorem dX6_doneIn_96 : decode cX6_doneIn 96 = .ok (.getfield 16, 3) := by decide +kernel
theorem dX6_doneIn_99 : decode cX6_doneIn 99 = .ok (.getfield 73, 3) := by decide +kernel
theorem dX6_doneIn_102 : decode cX6_doneIn 102 = .ok (.getfield 127, 3) := by decide +kernel
theorem dX6_doneIn_105 : decode cX6_doneIn 105 = .ok (.iload_n 1, 1) := by decide +kernel
theorem dX6_doneIn_106 : decode cX6_doneIn 106 = .ok (.iaload, 1) := by decide +kernel
theorem dX6_doneIn_107 : decode cX6_doneIn 107 = .ok (.iconst 4, 1) := by decide +kernel
theorem dX6_doneIn_108 : decode cX6_doneIn 108 = .ok (.if_icmp .ne 5, 3) := by decide +kernel
theorem dX6_doneIn_111 : decode cX6_doneIn 111 = .ok (.iload_n 3, 1) := by decide +kernel
theorem dX6_doneIn_112 : decode cX6_doneIn 112 = .ok (.ireturn, 1) := by decide +kernel
theorem dX6_doneIn_113 : decode cX6_doneIn 113 = .ok (.iinc 3 1, 3) := by decide +kernel
theorem dX6_doneIn_116 : decode cX6_doneIn 116 = .ok (.goto (-67), 3) := by decide +kernel
theorem dX6_doneIn_119 : decode cX6_doneIn 119 = .ok (.bipush (-5), 2) := by decide +kernel
theorem dX6_doneIn_121 : decode cX6_doneIn 121 = .ok (.ireturn, 1) := by decide +kernel
theorem dX6_meanDays_0 : decode cX6_meanDays 0 = .ok (.aload_n 0, 1) := by decide +kernel
theorem dX6_meanDays_1 : decode cX6_meanDays 1 = .ok (.getfield 10, 3) := by decide +kernel
theorem dX6_meanDays_4 : decode cX6_meanDays 4 = .ok (.getfield 168, 3) := by decide +kernel
theorem dX6_meanDays_7 : decode cX6_meanDays 7 = .ok (.getfield 172, 3) := by decide +kernel
theorem dX6_meanDays_10 : decode cX6_meanDays 10 = .ok (.istore_n 1, 1) := by decide +kernel
theorem dX6_meanDays_11 : decode cX6_meanDays 11 = .ok (.iload_n 1, 1) := by decide +kernel
theorem dX6_meanDays_12 : decode cX6_meanDays 12 = .ok (.ifCond .gt 6, 3) := by decide +kernel
theorem dX6_meanDays_15 : decode cX6_meanDays 15 = .ok (.ldc 191, 2) := by decide +kernel
theorem dX6_meanDays_17 : decode cX6_meanDays 17 = .ok (.freturn, 1) := by decide +kernel
theorem dX6_meanDays_18 : decode cX6_meanDays 18 = .ok (.aload_n 0, 1) := by decide +kernel
theorem dX6_meanDays_19 : decode cX6_meanDays 19 = .ok (.getfield 10, 3) := by decide +kernel
theorem dX6_meanDays_22 : decode cX6_meanDays 22 = .ok (.getfield 168, 3) := by decide +kernel
theorem dX6_meanDays_25 : decode cX6_meanDays 25 = .ok (.getfield 222, 3) := by decide +kernel
theorem dX6_meanDays_28 : decode cX6_meanDays 28 = .ok (.i2f, 1) := by decide +kernel
theorem dX6_meanDays_29 : decode cX6_meanDays 29 = .ok (.iload_n 1, 1) := by decide +kernel
theorem dX6_meanDays_30 : decode cX6_meanDays 30 = .ok (.i2f, 1) := by decide +kernel
theorem dX6_meanDays_31 : decode cX6_meanDays 31 = .ok (.fdiv, 1) := by decide +kernel
theorem dX6_meanDays_32 : decode cX6_meanDays 32 = .ok (.freturn, 1) := by decide +kernel
theorem dX6_count_0 : decode cX6_count 0 = .ok (.iload_n 1, 1) := by decide +kernel
theorem dX6_count_1 : decode cX6_count 1 = .ok (.iconst 2, 1) := by decide +kernel
theorem dX6_count_2 : decode cX6_count 2 = .ok (.bipush 9, 2) := by decide +kernel
theorem dX6_count_4 : decode cX6_count 4 = .ok (.invokestatic 51, 3) := by decide +kernel
theorem dX6_count_7 : decode cX6_count 7 = .ok (.ifCond .eq 17, 3) := by decide +kernel
theorem dX6_count_10 : decode cX6_count 10 = .ok (.aload_n 0, 1) := by decide +kernel
theorem dX6_count_11 : decode cX6_count 11 = .ok (.getfield 10, 3) := by decide +kernel
theorem dX6_count_14 : decode cX6_count 14 = .ok (.getfield 73, 3) := by decide +kernel
theorem dX6_count_17 : decode cX6_count 17 = .ok (.iload_n 1, 1) := by decide +kernel
theorem dX6_count_18 : decode cX6_count 18 = .ok (.iconst 2, 1) := by decide +kernel
theorem dX6_count_19 : decode cX6_count 19 = .ok (.isub, 1) := by decide +kernel
theorem dX6_count_20 : decode cX6_count 20 = .ok (.invokevirtual 153, 3) := by decide +kernel
theorem dX6_count_23 : decode cX6_count 23 = .ok (.ireturn, 1) := by decide +kernel
theorem dX6_count_24 : decode cX6_count 24 = .ok (.iload_n 1, 1) := by decide +kernel
theorem dX6_count_25 : decode cX6_count 25 = .ok (.tableswitch 185 0 17 #[87, 95, 185, 185, 185, 185, 185, 185, 185, 185, 106, 117, 125, 136, 147, 158, 169, 177], 87) := by decide +kernel
theorem dX6_count_112 : decode cX6_count 112 = .ok (.aload_n 0, 1) := by decide +kernel
theorem dX6_count_113 : decode cX6_count 113 = .ok (.getfield 10, 3) := by decide +kernel
theorem dX6_count_116 : decode cX6_count 116 = .ok (.getfield 103, 3) := by decide +kernel
theorem dX6_count_119 : decode cX6_count 119 = .ok (.ireturn, 1) := by decide +kernel
theorem dX6_count_120 : decode cX6_count 120 = .ok (.aload_n 0, 1) := by decide +kernel
theorem dX6_count_121 : decode cX6_count 121 = .ok (.getfield 10, 3) := by decide +kernel
theorem dX6_count_124 : decode cX6_count 124 = .ok (.getfield 73, 3) := by decide +kernel
theorem dX6_count_127 : decode cX6_count 127 = .ok (.getfield 116, 3) := by decide +kernel
theorem dX6_count_130 : decode cX6_count 130 = .ok (.ireturn, 1) := by decide +kernel
theorem dX6_count_131 : decode cX6_count 131 = .ok (.aload_n 0, 1) := by decide +kernel
theorem dX6_count_132 : decode cX6_count 132 = .ok (.getfield 10, 3) := by decide +kernel
theorem dX6_count_135 : decode cX6_count 135 = .ok (.getfield 87, 3) := by decide +kernel
theorem dX6_count_138 : decode cX6_count 138 = .ok (.getfield 99, 3) := by decide +kernel
theorem dX6_count_141 : decode cX6_count 141 = .ok (.ireturn, 1) := by decide +kernel
theorem dX6_count_142 : decode cX6_count 142 = .ok (.aload_n 0, 1) := by decide +kernel
theorem dX6_count_143 : decode cX6_count 143 = .ok (.getfield 10, 3) := by decide +kernel
theorem dX6_count_146 : decode cX6_count 146 = .ok (.invokevirtual 159, 3) := by decide +kernel
theorem dX6_count_149 : decode cX6_count 149 = .ok (.ireturn, 1) := by decide +kernel
theorem dX6_count_150 : decode cX6_count 150 = .ok (.aload_n 0, 1) := by decide +kernel
theorem dX6_count_151 : decode cX6_count 151 = .ok (.getfield 10, 3) := by decide +kernel
theorem dX6_count_154 : decode cX6_count 154 = .ok (.getfield 168, 3) := by decide +kernel
theorem dX6_count_157 : decode cX6_count 157 = .ok (.getfield 225, 3) := by decide +kernel
theorem dX6_count_160 : decode cX6_count 160 = .ok (.ireturn, 1) := by decide +kernel
theorem dX6_count_161 : decode cX6_count 161 = .ok (.aload_n 0, 1) := by decide +kernel
theorem dX6_count_162 : decode cX6_count 162 = .ok (.getfield 10, 3) := by decide +kernel
theorem dX6_count_165 : decode cX6_count 165 = .ok (.getfield 168, 3) := by decide +kernel
theorem dX6_count_168 : decode cX6_count 168 = .ok (.getfield 228, 3) := by decide +kernel
theorem dX6_count_171 : decode cX6_count 171 = .ok (.ireturn, 1) := by decide +kernel
theorem dX6_count_172 : decode cX6_count 172 = .ok (.aload_n 0, 1) := by decide +kernel
theorem dX6_count_173 : decode cX6_count 173 = .ok (.getfield 10, 3) := by decide +kernel
theorem dX6_count_176 : decode cX6_count 176 = .ok (.getfield 168, 3) := by decide +kernel
theorem dX6_count_179 : decode cX6_count 179 = .ok (.getfield 231, 3) := by decide +kernel
theorem dX6_count_182 : decode cX6_count 182 = .ok (.ireturn, 1) := by decide +kernel
theorem dX6_count_183 : decode cX6_count 183 = .ok (.aload_n 0, 1) := by decide +kernel
theorem dX6_count_184 : decode cX6_count 184 = .ok (.getfield 10, 3) := by decide +kernel
theorem dX6_count_187 : decode cX6_count 187 = .ok (.getfield 168, 3) := by decide +kernel
theorem dX6_count_190 : decode cX6_count 190 = .ok (.getfield 234, 3) := by decide +kernel
theorem dX6_count_193 : decode cX6_count 193 = .ok (.ireturn, 1) := by decide +kernel
theorem dX6_count_194 : decode cX6_count 194 = .ok (.aload_n 0, 1) := by decide +kernel
theorem dX6_count_195 : decode cX6_count 195 = .ok (.getfield 29, 3) := by decide +kernel
theorem dX6_count_198 : decode cX6_count 198 = .ok (.getfield 187, 3) := by decide +kernel
theorem dX6_count_201 : decode cX6_count 201 = .ok (.ireturn, 1) := by decide +kernel
theorem dX6_count_202 : decode cX6_count 202 = .ok (.aload_n 0, 1) := by decide +kernel
theorem dX6_count_203 : decode cX6_count 203 = .ok (.getfield 36, 3) := by decide +kernel
theorem dX6_count_206 : decode cX6_count 206 = .ok (.getfield 180, 3) := by decide +kernel
theorem dX6_count_209 : decode cX6_count 209 = .ok (.ireturn, 1) := by decide +kernel
theorem dX6_count_210 : decode cX6_count 210 = .ok (.bipush (-2), 2) := by decide +kernel
theorem dX6_count_212 : decode cX6_count 212 = .ok (.ireturn, 1) := by decide +kernel
theorem dX6_isIndex_0 : decode cX6_isIndex 0 = .ok (.iload_n 0, 1) := by decide +kernel
theorem dX6_isIndex_1 : decode cX6_isIndex 1 = .ok (.ifCond .lt 12, 3) := by decide +kernel
theorem dX6_isIndex_4 : decode cX6_isIndex 4 = .ok (.iload_n 0, 1) := by decide +kernel
theorem dX6_isIndex_5 : decode cX6_isIndex 5 = .ok (.iload_n 1, 1) := by decide +kernel
theorem dX6_isIndex_6 : decode cX6_isIndex 6 = .ok (.if_icmp .ge 7, 3) := by decide +kernel
theorem dX6_isIndex_9 : decode cX6_isIndex 9 = .ok (.iconst 1, 1) := by decide +kernel
theorem dX6_isIndex_10 : decode cX6_isIndex 10 = .ok (.goto 4, 3) := by decide +kernel
theorem dX6_isIndex_13 : decode cX6_isIndex 13 = .ok (.iconst 0, 1) := by decide +kernel
theorem dX6_isIndex_14 : decode cX6_isIndex 14 = .ok (.ireturn, 1) := by decide +kernel
theorem dX6_isWithin_0 : decode cX6_isWithin 0 = .ok (.iload_n 0, 1) := by decide +kernel
theorem dX6_isWithin_1 : decode cX6_isWithin 1 = .ok (.iload_n 1, 1) := by decide +kernel
theorem dX6_isWithin_2 : decode cX6_isWithin 2 = .ok (.if_icmp .lt 12, 3) := by decide +kernel
theorem dX6_isWithin_5 : decode cX6_isWithin 5 = .ok (.iload_n 0, 1) := by decide +kernel
theorem dX6_isWithin_6 : decode cX6_isWithin 6 = .ok (.iload_n 2, 1) := by decide +kernel
theorem dX6_isWithin_7 : decode cX6_isWithin 7 = .ok (.if_icmp .gt 7, 3) := by decide +kernel
theorem dX6_isWithin_10 : decode cX6_isWithin 10 = .ok (.iconst 1, 1) := by decide +kernel
theorem dX6_isWithin_11 : decode cX6_isWithin 11 = .ok (.goto 4, 3) := by decide +kernel
theorem dX6_isWithin_14 : decode cX6_isWithin 14 = .ok (.iconst 0, 1) := by decide +kernel
theorem dX6_isWithin_15 : decode cX6_isWithin 15 = .ok (.ireturn, 1) := by decide +kernel
theorem dX6_isSet_0 : decode cX6_isSet 0 = .ok (.iload_n 1, 1) := by decide +kernel
theorem dX6_isSet_1 : decode cX6_isSet 1 = .ok (.aload_n 0, 1) := by decide +kernel
theorem dX6_isSet_2 : decode cX6_isSet 2 = .ok (.getfield 10, 3) := by decide +kernel
theorem dX6_isSet_5 : decode cX6_isSet 5 = .ok (.getfield 73, 3) := by decide +kernel
theorem dX6_isSet_8 : decode cX6_isSet 8 = .ok (.getfield 116, 3) := by decide +kernel
theorem dX6_isSet_11 : decode cX6_isSet 11 = .ok (.invokestatic 40, 3) := by decide +kernel
theorem dX6_isSet_14 : decode cX6_isSet 14 = .ok (.ireturn, 1) := by decide +kernel
theorem dX6_floatOf_0 : decode cX6_floatOf 0 = .ok (.iload_n 0, 1) := by decide +kernel
theorem dX6_floatOf_1 : decode cX6_floatOf 1 = .ok (.bipush 23, 2) := by decide +kernel
theorem dX6_floatOf_3 : decode cX6_floatOf 3 = .ok (.iushr, 1) := by decide +kernel
theorem dX6_floatOf_4 : decode cX6_floatOf 4 = .ok (.istore_n 1, 1) := by decide +kernel
theorem dX6_floatOf_5 : decode cX6_floatOf 5 = .ok (.iload_n 0, 1) := by decide +kernel
theorem dX6_floatOf_6 : decode cX6_floatOf 6 = .ok (.ldc 237, 2) := by decide +kernel
theorem dX6_floatOf_8 : decode cX6_floatOf 8 = .ok (.iand, 1) := by decide +kernel
theorem dX6_floatOf_9 : decode cX6_floatOf 9 = .ok (.istore_n 2, 1) := by decide +kernel
theorem dX6_floatOf_10 : decode cX6_floatOf 10 = .ok (.iload_n 1, 1) := by decide +kernel
theorem dX6_floatOf_11 : decode cX6_floatOf 11 = .ok (.ifCond .ne 8, 3) := by decide +kernel
theorem dX6_floatOf_14 : decode cX6_floatOf 14 = .ok (.iconst 1, 1) := by decide +kernel
theorem dX6_floatOf_15 : decode cX6_floatOf 15 = .ok (.istore_n 1, 1) := by decide +kernel
theorem dX6_floatOf_16 : decode cX6_floatOf 16 = .ok (.goto 8, 3) := by decide +kernel
theorem dX6_floatOf_19 : decode cX6_floatOf 19 = .ok (.iload_n 2, 1) := by decide +kernel
theorem dX6_floatOf_20 : decode cX6_floatOf 20 = .ok (.ldc 238, 2) := by decide +kernel
theorem dX6_floatOf_22 : decode cX6_floatOf 22 = .ok (.ior, 1) := by decide +kernel
theorem dX6_floatOf_23 : decode cX6_floatOf 23 = .ok (.istore_n 2, 1) := by decide +kernel
theorem dX6_floatOf_24 : decode cX6_floatOf 24 = .ok (.iload_n 2, 1) := by decide +kernel
theorem dX6_floatOf_25 : decode cX6_floatOf 25 = .ok (.i2f, 1) := by decide +kernel
theorem dX6_floatOf_26 : decode cX6_floatOf 26 = .ok (.fstore_n 3, 1) := by decide +kernel
theorem dX6_floatOf_27 : decode cX6_floatOf 27 = .ok (.iload_n 1, 1) := by decide +kernel
theorem dX6_floatOf_28 : decode cX6_floatOf 28 = .ok (.istore 4, 2) := by decide +kernel
theorem dX6_floatOf_30 : decode cX6_floatOf 30 = .ok (.iload 4, 2) := by decide +kernel
theorem dX6_floatOf_32 : decode cX6_floatOf 32 = .ok (.sipush 150, 3) := by decide +kernel
theorem dX6_floatOf_35 : decode cX6_floatOf 35 = .ok (.if_icmp .ge 13, 3) := by decide +kernel
theorem dX6_floatOf_38 : decode cX6_floatOf 38 = .ok (.fload_n 3, 1) := by decide +kernel
theorem dX6_floatOf_39 : decode cX6_floatOf 39 = .ok (.fconst 2, 1) := by decide +kernel
theorem dX6_floatOf_40 : decode cX6_floatOf 40 = .ok (.fdiv, 1) := by decide +kernel
theorem dX6_floatOf_41 : decode cX6_floatOf 41 = .ok (.fstore_n 3, 1) := by decide +kernel
theorem dX6_floatOf_42 : decode cX6_floatOf 42 = .ok (.iinc 4 1, 3) := by decide +kernel
theorem dX6_floatOf_45 : decode cX6_floatOf 45 = .ok (.goto (-15), 3) := by decide +kernel
theorem dX6_floatOf_48 : decode cX6_floatOf 48 = .ok (.fload_n 3, 1) := by decide +kernel
theorem dX6_floatOf_49 : decode cX6_floatOf 49 = .ok (.freturn, 1) := by decide +kernel
theorem dJ9_max_7cf53_0 : decode cJ9_max_7cf53 0 = .ok (.iload_n 0, 1) := by decide +kernel
theorem dJ9_max_7cf53_1 : decode cJ9_max_7cf53 1 = .ok (.iload_n 1, 1) := by decide +kernel
theorem dJ9_max_7cf53_2 : decode cJ9_max_7cf53 2 = .ok (.if_icmp .lt 7, 3) := by decide +kernel
theorem dJ9_max_7cf53_5 : decode cJ9_max_7cf53 5 = .ok (.iload_n 0, 1) := by decide +kernel
theorem dJ9_max_7cf53_6 : decode cJ9_max_7cf53 6 = .ok (.goto 4, 3) := by decide +kernel
theorem dJ9_max_7cf53_9 : decode cJ9_max_7cf53 9 = .ok (.iload_n 1, 1) := by decide +kernel
theorem dJ9_max_7cf53_10 : decode cJ9_max_7cf53 10 = .ok (.ireturn, 1) := by decide +kernel
theorem dJ9_min_7cf53_0 : decode cJ9_min_7cf53 0 = .ok (.iload_n 0, 1) := by decide +kernel
theorem dJ9_min_7cf53_1 : decode cJ9_min_7cf53 1 = .ok (.iload_n 1, 1) := by decide +kernel
theorem dJ9_min_7cf53_2 : decode cJ9_min_7cf53 2 = .ok (.if_icmp .gt 7, 3) := by decide +kernel
theorem dJ9_min_7cf53_5 : decode cJ9_min_7cf53 5 = .ok (.iload_n 0, 1) := by decide +kernel
theorem dJ9_min_7cf53_6 : decode cJ9_min_7cf53 6 = .ok (.goto 4, 3) := by decide +kernel
theorem dJ9_min_7cf53_9 : decode cJ9_min_7cf53 9 = .ok (.iload_n 1, 1) := by decide +kernel
theorem dJ9_min_7cf53_10 : decode cJ9_min_7cf53 10 = .ok (.ireturn, 1) := by decide +kernel
theorem dL_low_0 : decode cL_low 0 = .ok (.iload_n 0, 1) := by decide +kernel
theorem dL_low_1 : decode cL_low 1 = .ok (.ldc 7, 2) := by decide +kernel
theorem dL_low_3 : decode cL_low 3 = .ok (.iand, 1) := by decide +kernel
theorem dL_low_4 : decode cL_low 4 = .ok (.iload_n 1, 1) := by decide +kernel
theorem dL_low_5 : decode cL_low 5 = .ok (.irem, 1) := by decide +kernel
theorem dL_low_6 : decode cL_low 6 = .ok (.ireturn, 1) := by decide +kernel
theorem dL_cell_0 : decode cL_cell 0 = .ok (.iload_n 1, 1) := by decide +kernel
theorem dL_cell_1 : decode cL_cell 1 = .ok (.aload_n 0, 1) := by decide +kernel
theorem dL_cell_2 : decode cL_cell 2 = .ok (.arraylength, 1) := by decide +kernel
theorem dL_cell_3 : decode cL_cell 3 = .ok (.if_icmp .ge 9, 3) := by decide +kernel
theorem dL_cell_6 : decode cL_cell 6 = .ok (.aload_n 0, 1) := by decide +kernel
theorem dL_cell_7 : decode cL_cell 7 = .ok (.iload_n 1, 1) := by decide +kernel
theorem dL_cell_8 : decode cL_cell 8 = .ok (.iaload, 1) := by decide +kernel
theorem dL_cell_9 : decode cL_cell 9 = .ok (.goto 11, 3) := by decide +kernel
theorem dL_cell_12 : decode cL_cell 12 = .ok (.ldc 8, 2) := by decide +kernel
theorem dL_cell_14 : decode cL_cell 14 = .ok (.iload_n 1, 1) := by decide +kernel
theorem dL_cell_15 : decode cL_cell 15 = .ok (.imul, 1) := by decide +kernel
theorem dL_cell_16 : decode cL_cell 16 = .ok (.sipush 977, 3) := by decide +kernel
theorem dL_cell_19 : decode cL_cell 19 = .ok (.iadd, 1) := by decide +kernel
theorem dL_cell_20 : decode cL_cell 20 = .ok (.ireturn, 1) := by decide +kernel
theorem dL_need_0 : decode cL_need 0 = .ok (.iload_n 0, 1) := by decide +kernel
theorem dL_need_1 : decode cL_need 1 = .ok (.ifCond .ne 7, 3) := by decide +kernel
theorem dL_need_4 : decode cL_need 4 = .ok (.iload_n 1, 1) := by decide +kernel
theorem dL_need_5 : decode cL_need 5 = .ok (.ifCond .eq 38, 3) := by decide +kernel
theorem dL_need_8 : decode cL_need 8 = .ok (.iload_n 0, 1) := by decide +kernel
theorem dL_need_9 : decode cL_need 9 = .ok (.iconst 1, 1) := by decide +kernel
theorem dL_need_10 : decode cL_need 10 = .ok (.if_icmp .ne 8, 3) := by decide +kernel
theorem dL_need_13 : decode cL_need 13 = .ok (.iload_n 1, 1) := by decide +kernel
theorem dL_need_14 : decode cL_need 14 = .ok (.iconst 1, 1) := by decide +kernel
theorem dL_need_15 : decode cL_need 15 = .ok (.if_icmp .eq 28, 3) := by decide +kernel
theorem dL_need_18 : decode cL_need 18 = .ok (.iload_n 0, 1) := by decide +kernel
theorem dL_need_19 : decode cL_need 19 = .ok (.iconst 3, 1) := by decide +kernel
theorem dL_need_20 : decode cL_need 20 = .ok (.if_icmp .ne 13, 3) := by decide +kernel
theorem dL_need_23 : decode cL_need 23 = .ok (.iload_n 1, 1) := by decide +kernel
theorem dL_need_24 : decode cL_need 24 = .ok (.iconst 3, 1) := by decide +kernel
theorem dL_need_25 : decode cL_need 25 = .ok (.if_icmp .eq 18, 3) := by decide +kernel
theorem dL_need_28 : decode cL_need 28 = .ok (.iload_n 1, 1) := by decide +kernel
theorem dL_need_29 : decode cL_need 29 = .ok (.iconst 4, 1) := by decide +kernel
theorem dL_need_30 : decode cL_need 30 = .ok (.if_icmp .eq 13, 3) := by decide +kernel
theorem dL_need_33 : decode cL_need 33 = .ok (.iload_n 0, 1) := by decide +kernel
theorem dL_need_34 : decode cL_need 34 = .ok (.iconst 4, 1) := by decide +kernel
theorem dL_need_35 : decode cL_need 35 = .ok (.if_icmp .ne 12, 3) := by decide +kernel
theorem dL_need_38 : decode cL_need 38 = .ok (.iload_n 1, 1) := by decide +kernel
theorem dL_need_39 : decode cL_need 39 = .ok (.iconst 5, 1) := by decide +kernel
theorem dL_need_40 : decode cL_need 40 = .ok (.if_icmp .ne 7, 3) := by decide +kernel
theorem dL_need_43 : decode cL_need 43 = .ok (.iconst 1, 1) := by decide +kernel
theorem dL_need_44 : decode cL_need 44 = .ok (.goto 18, 3) := by decide +kernel
theorem dL_need_47 : decode cL_need 47 = .ok (.iload_n 0, 1) := by decide +kernel
theorem dL_need_48 : decode cL_need 48 = .ok (.iconst 2, 1) := by decide +kernel
theorem dL_need_49 : decode cL_need 49 = .ok (.if_icmp .ne 12, 3) := by decide +kernel
theorem dL_need_52 : decode cL_need 52 = .ok (.iload_n 1, 1) := by decide +kernel
theorem dL_need_53 : decode cL_need 53 = .ok (.iconst 2, 1) := by decide +kernel
theorem dL_need_54 : decode cL_need 54 = .ok (.if_icmp .ne 7, 3) := by decide +kernel
theorem dL_need_57 : decode cL_need 57 = .ok (.iconst 2, 1) := by decide +kernel
theorem dL_need_58 : decode cL_need 58 = .ok (.goto 4, 3) := by decide +kernel
theorem dL_need_61 : decode cL_need 61 = .ok (.iconst 0, 1) := by decide +kernel
theorem dL_need_62 : decode cL_need 62 = .ok (.ireturn, 1) := by decide +kernel
theorem dL_hours_0 : decode cL_hours 0 = .ok (.iload_n 0, 1) := by decide +kernel
theorem dL_hours_1 : decode cL_hours 1 = .ok (.ifCond .ne 7, 3) := by decide +kernel
theorem dL_hours_4 : decode cL_hours 4 = .ok (.iconst 2, 1) := by decide +kernel
theorem dL_hours_5 : decode cL_hours 5 = .ok (.goto 31, 3) := by decide +kernel
theorem dL_hours_8 : decode cL_hours 8 = .ok (.iload_n 0, 1) := by decide +kernel
theorem dL_hours_9 : decode cL_hours 9 = .ok (.iconst 1, 1) := by decide +kernel
theorem dL_hours_10 : decode cL_hours 10 = .ok (.if_icmp .ne 7, 3) := by decide +kernel
theorem dL_hours_13 : decode cL_hours 13 = .ok (.iconst 3, 1) := by decide +kernel
theorem dL_hours_14 : decode cL_hours 14 = .ok (.goto 22, 3) := by decide +kernel
theorem dL_hours_17 : decode cL_hours 17 = .ok (.iload_n 0, 1) := by decide +kernel
theorem dL_hours_18 : decode cL_hours 18 = .ok (.iconst 2, 1) := by decide +kernel
theorem dL_hours_19 : decode cL_hours 19 = .ok (.if_icmp .ne 7, 3) := by decide +kernel
theorem dL_hours_22 : decode cL_hours 22 = .ok (.iconst 1, 1) := by decide +kernel
theorem dL_hours_23 : decode cL_hours 23 = .ok (.goto 13, 3) := by decide +kernel
theorem dL_hours_26 : decode cL_hours 26 = .ok (.iload_n 0, 1) := by decide +kernel
theorem dL_hours_27 : decode cL_hours 27 = .ok (.iconst 3, 1) := by decide +kernel
theorem dL_hours_28 : decode cL_hours 28 = .ok (.if_icmp .ne 7, 3) := by decide +kernel
theorem dL_hours_31 : decode cL_hours 31 = .ok (.iconst 5, 1) := by decide +kernel
theorem dL_hours_32 : decode cL_hours 32 = .ok (.goto 4, 3) := by decide +kernel
theorem dL_hours_35 : decode cL_hours 35 = .ok (.iconst 4, 1) := by decide +kernel
theorem dL_hours_36 : decode cL_hours 36 = .ok (.ireturn, 1) := by decide +kernel
theorem dL_prices_0 : decode cL_prices 0 = .ok (.iconst 0, 1) := by decide +kernel
theorem dL_prices_1 : decode cL_prices 1 = .ok (.istore_n 2, 1) := by decide +kernel
theorem dL_prices_2 : decode cL_prices 2 = .ok (.iconst 0, 1) := by decide +kernel
theorem dL_prices_3 : decode cL_prices 3 = .ok (.istore_n 3, 1) := by decide +kernel
theorem dL_prices_4 : decode cL_prices 4 = .ok (.iload_n 3, 1) := by decide +kernel
theorem dL_prices_5 : decode cL_prices 5 = .ok (.bipush 6, 2) := by decide +kernel
theorem dL_prices_7 : decode cL_prices 7 = .ok (.if_icmp .ge 24, 3) := by decide +kernel
theorem dL_prices_10 : decode cL_prices 10 = .ok (.iload_n 2, 1) := by decide +kernel
theorem dL_prices_11 : decode cL_prices 11 = .ok (.iload_n 1, 1) := by decide +kernel
theorem dL_prices_12 : decode cL_prices 12 = .ok (.iload_n 3, 1) := by decide +kernel
theorem dL_prices_13 : decode cL_prices 13 = .ok (.invokestatic 9, 3) := by decide +kernel
theorem dL_prices_16 : decode cL_prices 16 = .ok (.aload_n 0, 1) := by decide +kernel
theorem dL_prices_17 : decode cL_prices 17 = .ok (.iload_n 3, 1) := by decide +kernel
theorem dL_prices_18 : decode cL_prices 18 = .ok (.iconst 0, 1) := by decide +kernel
theorem dL_prices_19 : decode cL_prices 19 = .ok (.invokevirtual 15, 3) := by decide +kernel
theorem dL_prices_22 : decode cL_prices 22 = .ok (.imul, 1) := by decide +kernel
theorem dL_prices_23 : decode cL_prices 23 = .ok (.iadd, 1) := by decide +kernel
theorem dL_prices_24 : decode cL_prices 24 = .ok (.istore_n 2, 1) := by decide +kernel
theorem dL_prices_25 : decode cL_prices 25 = .ok (.iinc 3 1, 3) := by decide +kernel
theorem dL_prices_28 : decode cL_prices 28 = .ok (.goto (-24), 3) := by decide +kernel
theorem dL_prices_31 : decode cL_prices 31 = .ok (.iload_n 2, 1) := by decide +kernel
theorem dL_prices_32 : decode cL_prices 32 = .ok (.ireturn, 1) := by decide +kernel
theorem dL_cost_0 : decode cL_cost 0 = .ok (.aload_n 0, 1) := by decide +kernel
theorem dL_cost_1 : decode cL_cost 1 = .ok (.iload_n 1, 1) := by decide +kernel
theorem dL_cost_2 : decode cL_cost 2 = .ok (.invokestatic 20, 3) := by decide +kernel
theorem dL_cost_5 : decode cL_cost 5 = .ok (.i2f, 1) := by decide +kernel
theorem dL_cost_6 : decode cL_cost 6 = .ok (.aload_n 0, 1) := by decide +kernel
theorem dL_cost_7 : decode cL_cost 7 = .ok (.iconst 0, 1) := by decide +kernel
theorem dL_cost_8 : decode cL_cost 8 = .ok (.invokevirtual 24, 3) := by decide +kernel
theorem dL_cost_11 : decode cL_cost 11 = .ok (.fmul, 1) := by decide +kernel
theorem dL_cost_12 : decode cL_cost 12 = .ok (.fstore_n 2, 1) := by decide +kernel
theorem dL_cost_13 : decode cL_cost 13 = .ok (.fload_n 2, 1) := by decide +kernel
theorem dL_cost_14 : decode cL_cost 14 = .ok (.iload_n 1, 1) := by decide +kernel
theorem dL_cost_15 : decode cL_cost 15 = .ok (.invokestatic 28, 3) := by decide +kernel
theorem dL_cost_18 : decode cL_cost 18 = .ok (.aload_n 0, 1) := by decide +kernel
theorem dL_cost_19 : decode cL_cost 19 = .ok (.iconst 1, 1) := by decide +kernel
theorem dL_cost_20 : decode cL_cost 20 = .ok (.invokevirtual 32, 3) := by decide +kernel
theorem dL_cost_23 : decode cL_cost 23 = .ok (.imul, 1) := by decide +kernel
theorem dL_cost_24 : decode cL_cost 24 = .ok (.i2f, 1) := by decide +kernel
theorem dL_cost_25 : decode cL_cost 25 = .ok (.fadd, 1) := by decide +kernel
theorem dL_cost_26 : decode cL_cost 26 = .ok (.f2i, 1) := by decide +kernel
theorem dL_cost_27 : decode cL_cost 27 = .ok (.ireturn, 1) := by decide +kernel
theorem dL_desk_0 : decode cL_desk 0 = .ok (.iconst 0, 1) := by decide +kernel
theorem dL_desk_1 : decode cL_desk 1 = .ok (.istore_n 1, 1) := by decide +kernel
theorem dL_desk_2 : decode cL_desk 2 = .ok (.iconst 0, 1) := by decide +kernel
theorem dL_desk_3 : decode cL_desk 3 = .ok (.istore_n 2, 1) := by decide +kernel
theorem dL_desk_4 : decode cL_desk 4 = .ok (.iconst 1, 1) := by decide +kernel
theorem dL_desk_5 : decode cL_desk 5 = .ok (.istore_n 3, 1) := by decide +kernel
theorem dL_desk_6 : decode cL_desk 6 = .ok (.iconst 0, 1) := by decide +kernel
theorem dL_desk_7 : decode cL_desk 7 = .ok (.istore 4, 2) := by decide +kernel
theorem dL_desk_9 : decode cL_desk 9 = .ok (.iload 4, 2) := by decide +kernel
theorem dL_desk_11 : decode cL_desk 11 = .ok (.bipush 6, 2) := by decide +kernel
theorem dL_desk_13 : decode cL_desk 13 = .ok (.if_icmp .ge 178, 3) := by decide +kernel
theorem dL_desk_16 : decode cL_desk 16 = .ok (.iload_n 3, 1) := by decide +kernel
theorem dL_desk_17 : decode cL_desk 17 = .ok (.ifCond .eq 174, 3) := by decide +kernel
theorem dL_desk_20 : decode cL_desk 20 = .ok (.iconst 0, 1) := by decide +kernel
theorem dL_desk_21 : decode cL_desk 21 = .ok (.istore 5, 2) := by decide +kernel
theorem dL_desk_23 : decode cL_desk 23 = .ok (.iconst 0, 1) := by decide +kernel
theorem dL_desk_24 : decode cL_desk 24 = .ok (.istore 6, 2) := by decide +kernel
theorem dL_desk_26 : decode cL_desk 26 = .ok (.iconst 0, 1) := by decide +kernel
theorem dL_desk_27 : decode cL_desk 27 = .ok (.istore 7, 2) := by decide +kernel
theorem dL_desk_29 : decode cL_desk 29 = .ok (.iload 7, 2) := by decide +kernel
theorem dL_desk_31 : decode cL_desk 31 = .ok (.aload_n 0, 1) := by decide +kernel
theorem dL_desk_32 : decode cL_desk 32 = .ok (.iconst 1, 1) := by decide +kernel
theorem dL_desk_33 : decode cL_desk 33 = .ok (.invokevirtual 35, 3) := by decide +kernel
theorem dL_desk_36 : decode cL_desk 36 = .ok (.if_icmp .ge 75, 3) := by decide +kernel
theorem dL_desk_39 : decode cL_desk 39 = .ok (.iload 5, 2) := by decide +kernel
theorem dL_desk_41 : decode cL_desk 41 = .ok (.aload_n 0, 1) := by decide +kernel
theorem dL_desk_42 : decode cL_desk 42 = .ok (.iload 7, 2) := by decide +kernel
theorem dL_desk_44 : decode cL_desk 44 = .ok (.bipush 6, 2) := by decide +kernel
theorem dL_desk_46 : decode cL_desk 46 = .ok (.invokevirtual 38, 3) := by decide +kernel
theorem dL_desk_49 : decode cL_desk 49 = .ok (.iconst 3, 1) := by decide +kernel
theorem dL_desk_50 : decode cL_desk 50 = .ok (.if_icmp .ne 18, 3) := by decide +kernel
theorem dL_desk_53 : decode cL_desk 53 = .ok (.aload_n 0, 1) := by decide +kernel
theorem dL_desk_54 : decode cL_desk 54 = .ok (.iload 7, 2) := by decide +kernel
theorem dL_desk_56 : decode cL_desk 56 = .ok (.iconst 0, 1) := by decide +kernel
theorem dL_desk_57 : decode cL_desk 57 = .ok (.invokevirtual 38, 3) := by decide +kernel
theorem dL_desk_60 : decode cL_desk 60 = .ok (.iload 4, 2) := by decide +kernel
theorem dL_desk_62 : decode cL_desk 62 = .ok (.invokestatic 9, 3) := by decide +kernel
theorem dL_desk_65 : decode cL_desk 65 = .ok (.goto 4, 3) := by decide +kernel
theorem dL_desk_68 : decode cL_desk 68 = .ok (.iconst 0, 1) := by decide +kernel
theorem dL_desk_69 : decode cL_desk 69 = .ok (.iadd, 1) := by decide +kernel
theorem dL_desk_70 : decode cL_desk 70 = .ok (.istore 5, 2) := by decide +kernel
theorem dL_desk_72 : decode cL_desk 72 = .ok (.iload 6, 2) := by decide +kernel
theorem dL_desk_74 : decode cL_desk 74 = .ok (.aload_n 0, 1) := by decide +kernel
theorem dL_desk_75 : decode cL_desk 75 = .ok (.iload 7, 2) := by decide +kernel
theorem dL_desk_77 : decode cL_desk 77 = .ok (.bipush 6, 2) := by decide +kernel
theorem dL_desk_79 : decode cL_desk 79 = .ok (.invokevirtual 38, 3) := by decide +kernel
theorem dL_desk_82 : decode cL_desk 82 = .ok (.iconst 2, 1) := by decide +kernel
theorem dL_desk_83 : decode cL_desk 83 = .ok (.if_icmp .ne 18, 3) := by decide +kernel
theorem dL_desk_86 : decode cL_desk 86 = .ok (.aload_n 0, 1) := by decide +kernel
theorem dL_desk_87 : decode cL_desk 87 = .ok (.iload 7, 2) := by decide +kernel
theorem dL_desk_89 : decode cL_desk 89 = .ok (.iconst 0, 1) := by decide +kernel
theorem dL_desk_90 : decode cL_desk 90 = .ok (.invokevirtual 38, 3) := by decide +kernel
theorem dL_desk_93 : decode cL_desk 93 = .ok (.iload 4, 2) := by decide +kernel
theorem dL_desk_95 : decode cL_desk 95 = .ok (.invokestatic 9, 3) := by decide +kernel
theorem dL_desk_98 : decode cL_desk 98 = .ok (.goto 4, 3) := by decide +kernel
theorem dL_desk_101 : decode cL_desk 101 = .ok (.iconst 0, 1) := by decide +kernel
theorem dL_desk_102 : decode cL_desk 102 = .ok (.iadd, 1) := by decide +kernel
theorem dL_desk_103 : decode cL_desk 103 = .ok (.istore 6, 2) := by decide +kernel
theorem dL_desk_105 : decode cL_desk 105 = .ok (.iinc 7 1, 3) := by decide +kernel
theorem dL_desk_108 : decode cL_desk 108 = .ok (.goto (-79), 3) := by decide +kernel
theorem dL_desk_111 : decode cL_desk 111 = .ok (.iload 6, 2) := by decide +kernel
theorem dL_desk_113 : decode cL_desk 113 = .ok (.aload_n 0, 1) := by decide +kernel
theorem dL_desk_114 : decode cL_desk 114 = .ok (.iload 4, 2) := by decide +kernel
theorem dL_desk_116 : decode cL_desk 116 = .ok (.iconst 2, 1) := by decide +kernel
theorem dL_desk_117 : decode cL_desk 117 = .ok (.invokevirtual 15, 3) := by decide +kernel
theorem dL_desk_120 : decode cL_desk 120 = .ok (.iload 5, 2) := by decide +kernel
theorem dL_desk_122 : decode cL_desk 122 = .ok (.isub, 1) := by decide +kernel
theorem dL_desk_123 : decode cL_desk 123 = .ok (.isub, 1) := by decide +kernel
theorem dL_desk_124 : decode cL_desk 124 = .ok (.aload_n 0, 1) := by decide +kernel
theorem dL_desk_125 : decode cL_desk 125 = .ok (.iload 4, 2) := by decide +kernel
theorem dL_desk_127 : decode cL_desk 127 = .ok (.iconst 4, 1) := by decide +kernel
theorem dL_desk_128 : decode cL_desk 128 = .ok (.invokevirtual 15, 3) := by decide +kernel
theorem dL_desk_131 : decode cL_desk 131 = .ok (.isub, 1) := by decide +kernel
theorem dL_desk_132 : decode cL_desk 132 = .ok (.istore 7, 2) := by decide +kernel
theorem dL_desk_134 : decode cL_desk 134 = .ok (.aload_n 0, 1) := by decide +kernel
theorem dL_desk_135 : decode cL_desk 135 = .ok (.iload 4, 2) := by decide +kernel
theorem dL_desk_137 : decode cL_desk 137 = .ok (.iconst 3, 1) := by decide +kernel
theorem dL_desk_138 : decode cL_desk 138 = .ok (.invokevirtual 15, 3) := by decide +kernel
theorem dL_desk_141 : decode cL_desk 141 = .ok (.iload 5, 2) := by decide +kernel
theorem dL_desk_143 : decode cL_desk 143 = .ok (.if_icmp .ne 40, 3) := by decide +kernel
theorem dL_desk_146 : decode cL_desk 146 = .ok (.iload 5, 2) := by decide +kernel
theorem dL_desk_148 : decode cL_desk 148 = .ok (.aload_n 0, 1) := by decide +kernel
theorem dL_desk_149 : decode cL_desk 149 = .ok (.iload 4, 2) := by decide +kernel
theorem dL_desk_151 : decode cL_desk 151 = .ok (.iconst 2, 1) := by decide +kernel
theorem dL_desk_152 : decode cL_desk 152 = .ok (.invokevirtual 15, 3) := by decide +kernel
theorem dL_desk_155 : decode cL_desk 155 = .ok (.if_icmp .gt 28, 3) := by decide +kernel
theorem dL_desk_158 : decode cL_desk 158 = .ok (.aload_n 0, 1) := by decide +kernel
theorem dL_desk_159 : decode cL_desk 159 = .ok (.iload 4, 2) := by decide +kernel
theorem dL_desk_161 : decode cL_desk 161 = .ok (.iconst 5, 1) := by decide +kernel
theorem dL_desk_162 : decode cL_desk 162 = .ok (.invokevirtual 15, 3) := by decide +kernel
theorem dL_desk_165 : decode cL_desk 165 = .ok (.iload 7, 2) := by decide +kernel
theorem dL_desk_167 : decode cL_desk 167 = .ok (.ifCond .le 8, 3) := by decide +kernel
theorem dL_desk_170 : decode cL_desk 170 = .ok (.iload 7, 2) := by decide +kernel
theorem dL_desk_172 : decode cL_desk 172 = .ok (.goto 4, 3) := by decide +kernel
theorem dL_desk_175 : decode cL_desk 175 = .ok (.iconst 0, 1) := by decide +kernel
theorem dL_desk_176 : decode cL_desk 176 = .ok (.if_icmp .ne 7, 3) := by decide +kernel
theorem dL_desk_179 : decode cL_desk 179 = .ok (.iconst 1, 1) := by decide +kernel
theorem dL_desk_180 : decode cL_desk 180 = .ok (.goto 4, 3) := by decide +kernel
theorem dL_desk_183 : decode cL_desk 183 = .ok (.iconst 0, 1) := by decide +kernel
theorem dL_desk_184 : decode cL_desk 184 = .ok (.istore_n 3, 1) := by decide +kernel
theorem dL_desk_185 : decode cL_desk 185 = .ok (.iinc 4 1, 3) := by decide +kernel
theorem dL_desk_188 : decode cL_desk 188 = .ok (.goto (-179), 3) := by decide +kernel
theorem dL_desk_191 : decode cL_desk 191 = .ok (.iconst 0, 1) := by decide +kernel
theorem dL_desk_192 : decode cL_desk 192 = .ok (.istore 4, 2) := by decide +kernel
theorem dL_desk_194 : decode cL_desk 194 = .ok (.iload 4, 2) := by decide +kernel
theorem dL_desk_196 : decode cL_desk 196 = .ok (.aload_n 0, 1) := by decide +kernel
theorem dL_desk_197 : decode cL_desk 197 = .ok (.iconst 1, 1) := by decide +kernel
theorem dL_desk_198 : decode cL_desk 198 = .ok (.invokevirtual 35, 3) := by decide +kernel
theorem dL_desk_201 : decode cL_desk 201 = .ok (.if_icmp .ge 399, 3) := by decide +kernel
theorem dL_desk_204 : decode cL_desk 204 = .ok (.iload_n 3, 1) := by decide +kernel
theorem dL_desk_205 : decode cL_desk 205 = .ok (.ifCond .eq 395, 3) := by decide +kernel
theorem dL_desk_208 : decode cL_desk 208 = .ok (.aload_n 0, 1) := by decide +kernel
theorem dL_desk_209 : decode cL_desk 209 = .ok (.iload 4, 2) := by decide +kernel
theorem dL_desk_211 : decode cL_desk 211 = .ok (.bipush 6, 2) := by decide +kernel
theorem dL_desk_213 : decode cL_desk 213 = .ok (.invokevirtual 38, 3) := by decide +kernel
theorem dL_desk_216 : decode cL_desk 216 = .ok (.istore 5, 2) := by decide +kernel
theorem dL_desk_218 : decode cL_desk 218 = .ok (.aload_n 0, 1) := by decide +kernel
theorem dL_desk_219 : decode cL_desk 219 = .ok (.iload 4, 2) := by decide +kernel
theorem dL_desk_221 : decode cL_desk 221 = .ok (.iconst 0, 1) := by decide +kernel
theorem dL_desk_222 : decode cL_desk 222 = .ok (.invokevirtual 38, 3) := by decide +kernel
theorem dL_desk_225 : decode cL_desk 225 = .ok (.invokestatic 28, 3) := by decide +kernel
theorem dL_desk_228 : decode cL_desk 228 = .ok (.istore 6, 2) := by decide +kernel
theorem dL_desk_230 : decode cL_desk 230 = .ok (.iload 5, 2) := by decide +kernel
theorem dL_desk_232 : decode cL_desk 232 = .ok (.iconst 4, 1) := by decide +kernel
theorem dL_desk_233 : decode cL_desk 233 = .ok (.if_icmp .eq 9, 3) := by decide +kernel
theorem dL_desk_236 : decode cL_desk 236 = .ok (.iload 5, 2) := by decide +kernel
theorem dL_desk_238 : decode cL_desk 238 = .ok (.iconst 5, 1) := by decide +kernel
theorem dL_desk_239 : decode cL_desk 239 = .ok (.if_icmp .ne 7, 3) := by decide +kernel
theorem dL_desk_242 : decode cL_desk 242 = .ok (.iconst 1, 1) := by decide +kernel
theorem dL_desk_243 : decode cL_desk 243 = .ok (.goto 4, 3) := by decide +kernel
theorem dL_desk_246 : decode cL_desk 246 = .ok (.iconst 0, 1) := by decide +kernel
theorem dL_desk_247 : decode cL_desk 247 = .ok (.istore 7, 2) := by decide +kernel
theorem dL_desk_249 : decode cL_desk 249 = .ok (.iload_n 1, 1) := by decide +kernel
theorem dL_desk_250 : decode cL_desk 250 = .ok (.aload_n 0, 1) := by decide +kernel
theorem dL_desk_251 : decode cL_desk 251 = .ok (.iload 4, 2) := by decide +kernel
theorem dL_desk_253 : decode cL_desk 253 = .ok (.iconst 5, 1) := by decide +kernel
theorem dL_desk_254 : decode cL_desk 254 = .ok (.invokevirtual 38, 3) := by decide +kernel
theorem dL_desk_257 : decode cL_desk 257 = .ok (.iadd, 1) := by decide +kernel
theorem dL_desk_258 : decode cL_desk 258 = .ok (.istore_n 1, 1) := by decide +kernel
theorem dL_desk_259 : decode cL_desk 259 = .ok (.iload_n 2, 1) := by decide +kernel
theorem dL_desk_260 : decode cL_desk 260 = .ok (.aload_n 0, 1) := by decide +kernel
theorem dL_desk_261 : decode cL_desk 261 = .ok (.iload 4, 2) := by decide +kernel
theorem dL_desk_263 : decode cL_desk 263 = .ok (.iconst 3, 1) := by decide +kernel
theorem dL_desk_264 : decode cL_desk 264 = .ok (.invokevirtual 38, 3) := by decide +kernel
theorem dL_desk_267 : decode cL_desk 267 = .ok (.iload 6, 2) := by decide +kernel
theorem dL_desk_269 : decode cL_desk 269 = .ok (.if_icmp .ne 7, 3) := by decide +kernel
theorem dL_desk_272 : decode cL_desk 272 = .ok (.iconst 1, 1) := by decide +kernel
theorem dL_desk_273 : decode cL_desk 273 = .ok (.goto 4, 3) := by decide +kernel
theorem dL_desk_276 : decode cL_desk 276 = .ok (.iconst 0, 1) := by decide +kernel
theorem dL_desk_277 : decode cL_desk 277 = .ok (.iadd, 1) := by decide +kernel
theorem dL_desk_278 : decode cL_desk 278 = .ok (.istore_n 2, 1) := by decide +kernel
theorem dL_desk_279 : decode cL_desk 279 = .ok (.iload 5, 2) := by decide +kernel
theorem dL_desk_281 : decode cL_desk 281 = .ok (.ifCond .lt 93, 3) := by decide +kernel
theorem dL_desk_284 : decode cL_desk 284 = .ok (.iload 5, 2) := by decide +kernel
theorem dL_desk_286 : decode cL_desk 286 = .ok (.bipush 8, 2) := by decide +kernel
theorem dL_desk_288 : decode cL_desk 288 = .ok (.if_icmp .ge 86, 3) := by decide +kernel
theorem dL_desk_291 : decode cL_desk 291 = .ok (.aload_n 0, 1) := by decide +kernel
theorem dL_desk_292 : decode cL_desk 292 = .ok (.iload 4, 2) := by decide +kernel
theorem dL_desk_294 : decode cL_desk 294 = .ok (.iconst 3, 1) := by decide +kernel
theorem dL_desk_295 : decode cL_desk 295 = .ok (.invokevirtual 38, 3) := by decide +kernel
theorem dL_desk_298 : decode cL_desk 298 = .ok (.iload 6, 2) := by decide +kernel
theorem dL_desk_300 : decode cL_desk 300 = .ok (.if_icmp .gt 74, 3) := by decide +kernel
theorem dL_desk_303 : decode cL_desk 303 = .ok (.iload 5, 2) := by decide +kernel
theorem dL_desk_305 : decode cL_desk 305 = .ok (.iconst 2, 1) := by decide +kernel
theorem dL_desk_306 : decode cL_desk 306 = .ok (.if_icmp .gt 13, 3) := by decide +kernel
theorem dL_desk_309 : decode cL_desk 309 = .ok (.aload_n 0, 1) := by decide +kernel
theorem dL_desk_310 : decode cL_desk 310 = .ok (.iload 4, 2) := by decide +kernel
theorem dL_desk_312 : decode cL_desk 312 = .ok (.iconst 3, 1) := by decide +kernel
theorem dL_desk_313 : decode cL_desk 313 = .ok (.invokevirtual 38, 3) := by decide +kernel
theorem dL_desk_316 : decode cL_desk 316 = .ok (.ifCond .ne 58, 3) := by decide +kernel
theorem dL_desk_319 : decode cL_desk 319 = .ok (.iload 5, 2) := by decide +kernel
theorem dL_desk_321 : decode cL_desk 321 = .ok (.iconst 3, 1) := by decide +kernel
theorem dL_desk_322 : decode cL_desk 322 = .ok (.if_icmp .ne 15, 3) := by decide +kernel
theorem dL_desk_325 : decode cL_desk 325 = .ok (.aload_n 0, 1) := by decide +kernel
theorem dL_desk_326 : decode cL_desk 326 = .ok (.iload 4, 2) := by decide +kernel
theorem dL_desk_328 : decode cL_desk 328 = .ok (.iconst 3, 1) := by decide +kernel
theorem dL_desk_329 : decode cL_desk 329 = .ok (.invokevirtual 38, 3) := by decide +kernel
theorem dL_desk_332 : decode cL_desk 332 = .ok (.iload 6, 2) := by decide +kernel
theorem dL_desk_334 : decode cL_desk 334 = .ok (.if_icmp .ge 40, 3) := by decide +kernel
theorem dL_desk_337 : decode cL_desk 337 = .ok (.iload 5, 2) := by decide +kernel
theorem dL_desk_339 : decode cL_desk 339 = .ok (.iconst 4, 1) := by decide +kernel
theorem dL_desk_340 : decode cL_desk 340 = .ok (.if_icmp .ne 15, 3) := by decide +kernel
theorem dL_desk_343 : decode cL_desk 343 = .ok (.aload_n 0, 1) := by decide +kernel
theorem dL_desk_344 : decode cL_desk 344 = .ok (.iload 4, 2) := by decide +kernel
theorem dL_desk_346 : decode cL_desk 346 = .ok (.iconst 3, 1) := by decide +kernel
theorem dL_desk_347 : decode cL_desk 347 = .ok (.invokevirtual 38, 3) := by decide +kernel
theorem dL_desk_350 : decode cL_desk 350 = .ok (.iload 6, 2) := by decide +kernel
theorem dL_desk_352 : decode cL_desk 352 = .ok (.if_icmp .ne 22, 3) := by decide +kernel
theorem dL_desk_355 : decode cL_desk 355 = .ok (.aload_n 0, 1) := by decide +kernel
theorem dL_desk_356 : decode cL_desk 356 = .ok (.iload 4, 2) := by decide +kernel
theorem dL_desk_358 : decode cL_desk 358 = .ok (.iconst 1, 1) := by decide +kernel
theorem dL_desk_359 : decode cL_desk 359 = .ok (.invokevirtual 38, 3) := by decide +kernel
theorem dL_desk_362 : decode cL_desk 362 = .ok (.aload_n 0, 1) := by decide +kernel
theorem dL_desk_363 : decode cL_desk 363 = .ok (.iconst 0, 1) := by decide +kernel
theorem dL_desk_364 : decode cL_desk 364 = .ok (.invokevirtual 35, 3) := by decide +kernel
theorem dL_desk_367 : decode cL_desk 367 = .ok (.if_icmp .gt 7, 3) := by decide +kernel
theorem dL_desk_370 : decode cL_desk 370 = .ok (.iconst 1, 1) := by decide +kernel
theorem dL_desk_371 : decode cL_desk 371 = .ok (.goto 4, 3) := by decide +kernel
theorem dL_desk_374 : decode cL_desk 374 = .ok (.iconst 0, 1) := by decide +kernel
theorem dL_desk_375 : decode cL_desk 375 = .ok (.istore_n 3, 1) := by decide +kernel
theorem dL_desk_376 : decode cL_desk 376 = .ok (.iload_n 3, 1) := by decide +kernel
theorem dL_desk_377 : decode cL_desk 377 = .ok (.ifCond .eq 135, 3) := by decide +kernel
theorem dL_desk_380 : decode cL_desk 380 = .ok (.aload_n 0, 1) := by decide +kernel
theorem dL_desk_381 : decode cL_desk 381 = .ok (.iload 4, 2) := by decide +kernel
theorem dL_desk_383 : decode cL_desk 383 = .ok (.bipush 7, 2) := by decide +kernel
theorem dL_desk_385 : decode cL_desk 385 = .ok (.invokevirtual 38, 3) := by decide +kernel
theorem dL_desk_388 : decode cL_desk 388 = .ok (.ifCond .lt 7, 3) := by decide +kernel
theorem dL_desk_391 : decode cL_desk 391 = .ok (.iconst 1, 1) := by decide +kernel
theorem dL_desk_392 : decode cL_desk 392 = .ok (.goto 4, 3) := by decide +kernel
theorem dL_desk_395 : decode cL_desk 395 = .ok (.iconst 0, 1) := by decide +kernel
theorem dL_desk_396 : decode cL_desk 396 = .ok (.iload 5, 2) := by decide +kernel
theorem dL_desk_398 : decode cL_desk 398 = .ok (.iconst 3, 1) := by decide +kernel
theorem dL_desk_399 : decode cL_desk 399 = .ok (.if_icmp .le 7, 3) := by decide +kernel
theorem dL_desk_402 : decode cL_desk 402 = .ok (.iconst 1, 1) := by decide +kernel
theorem dL_desk_403 : decode cL_desk 403 = .ok (.goto 4, 3) := by decide +kernel
theorem dL_desk_406 : decode cL_desk 406 = .ok (.iconst 0, 1) := by decide +kernel
theorem dL_desk_407 : decode cL_desk 407 = .ok (.if_icmp .ne 105, 3) := by decide +kernel
theorem dL_desk_410 : decode cL_desk 410 = .ok (.aload_n 0, 1) := by decide +kernel
theorem dL_desk_411 : decode cL_desk 411 = .ok (.iload 4, 2) := by decide +kernel
theorem dL_desk_413 : decode cL_desk 413 = .ok (.bipush 8, 2) := by decide +kernel
theorem dL_desk_415 : decode cL_desk 415 = .ok (.invokevirtual 38, 3) := by decide +kernel
theorem dL_desk_418 : decode cL_desk 418 = .ok (.ifCond .lt 7, 3) := by decide +kernel
theorem dL_desk_421 : decode cL_desk 421 = .ok (.iconst 1, 1) := by decide +kernel
theorem dL_desk_422 : decode cL_desk 422 = .ok (.goto 4, 3) := by decide +kernel
theorem dL_desk_425 : decode cL_desk 425 = .ok (.iconst 0, 1) := by decide +kernel
theorem dL_desk_426 : decode cL_desk 426 = .ok (.iload 7, 2) := by decide +kernel
theorem dL_desk_428 : decode cL_desk 428 = .ok (.if_icmp .ne 84, 3) := by decide +kernel
theorem dL_desk_431 : decode cL_desk 431 = .ok (.aload_n 0, 1) := by decide +kernel
theorem dL_desk_432 : decode cL_desk 432 = .ok (.iload 4, 2) := by decide +kernel
theorem dL_desk_434 : decode cL_desk 434 = .ok (.iconst 5, 1) := by decide +kernel
theorem dL_desk_435 : decode cL_desk 435 = .ok (.invokevirtual 38, 3) := by decide +kernel
theorem dL_desk_438 : decode cL_desk 438 = .ok (.ifCond .eq 10, 3) := by decide +kernel
theorem dL_desk_441 : decode cL_desk 441 = .ok (.iload 5, 2) := by decide +kernel
theorem dL_desk_443 : decode cL_desk 443 = .ok (.bipush 6, 2) := by decide +kernel
theorem dL_desk_445 : decode cL_desk 445 = .ok (.if_icmp .ge 67, 3) := by decide +kernel
theorem dL_desk_448 : decode cL_desk 448 = .ok (.aload_n 0, 1) := by decide +kernel
theorem dL_desk_449 : decode cL_desk 449 = .ok (.iload 4, 2) := by decide +kernel
theorem dL_desk_451 : decode cL_desk 451 = .ok (.iconst 4, 1) := by decide +kernel
theorem dL_desk_452 : decode cL_desk 452 = .ok (.invokevirtual 38, 3) := by decide +kernel
theorem dL_desk_455 : decode cL_desk 455 = .ok (.ifCond .lt 57, 3) := by decide +kernel
theorem dL_desk_458 : decode cL_desk 458 = .ok (.aload_n 0, 1) := by decide +kernel
theorem dL_desk_459 : decode cL_desk 459 = .ok (.iload 4, 2) := by decide +kernel
theorem dL_desk_461 : decode cL_desk 461 = .ok (.iconst 4, 1) := by decide +kernel
theorem dL_desk_462 : decode cL_desk 462 = .ok (.invokevirtual 38, 3) := by decide +kernel
theorem dL_desk_465 : decode cL_desk 465 = .ok (.ifCond .eq 15, 3) := by decide +kernel
theorem dL_desk_468 : decode cL_desk 468 = .ok (.aload_n 0, 1) := by decide +kernel
theorem dL_desk_469 : decode cL_desk 469 = .ok (.iload 4, 2) := by decide +kernel
theorem dL_desk_471 : decode cL_desk 471 = .ok (.iconst 3, 1) := by decide +kernel
theorem dL_desk_472 : decode cL_desk 472 = .ok (.invokevirtual 38, 3) := by decide +kernel
theorem dL_desk_475 : decode cL_desk 475 = .ok (.iload 6, 2) := by decide +kernel
theorem dL_desk_477 : decode cL_desk 477 = .ok (.if_icmp .ne 35, 3) := by decide +kernel
theorem dL_desk_480 : decode cL_desk 480 = .ok (.iload 5, 2) := by decide +kernel
theorem dL_desk_482 : decode cL_desk 482 = .ok (.ifCond .ne 7, 3) := by decide +kernel
theorem dL_desk_485 : decode cL_desk 485 = .ok (.iconst 1, 1) := by decide +kernel
theorem dL_desk_486 : decode cL_desk 486 = .ok (.goto 4, 3) := by decide +kernel
theorem dL_desk_489 : decode cL_desk 489 = .ok (.iconst 0, 1) := by decide +kernel
theorem dL_desk_490 : decode cL_desk 490 = .ok (.aload_n 0, 1) := by decide +kernel
theorem dL_desk_491 : decode cL_desk 491 = .ok (.iload 4, 2) := by decide +kernel
theorem dL_desk_493 : decode cL_desk 493 = .ok (.iconst 2, 1) := by decide +kernel
theorem dL_desk_494 : decode cL_desk 494 = .ok (.invokevirtual 38, 3) := by decide +kernel
theorem dL_desk_497 : decode cL_desk 497 = .ok (.ifCond .ne 7, 3) := by decide +kernel
theorem dL_desk_500 : decode cL_desk 500 = .ok (.iconst 1, 1) := by decide +kernel
theorem dL_desk_501 : decode cL_desk 501 = .ok (.goto 4, 3) := by decide +kernel
theorem dL_desk_504 : decode cL_desk 504 = .ok (.iconst 0, 1) := by decide +kernel
theorem dL_desk_505 : decode cL_desk 505 = .ok (.if_icmp .ne 7, 3) := by decide +kernel
theorem dL_desk_508 : decode cL_desk 508 = .ok (.iconst 1, 1) := by decide +kernel
theorem dL_desk_509 : decode cL_desk 509 = .ok (.goto 4, 3) := by decide +kernel
theorem dL_desk_512 : decode cL_desk 512 = .ok (.iconst 0, 1) := by decide +kernel
theorem dL_desk_513 : decode cL_desk 513 = .ok (.istore_n 3, 1) := by decide +kernel
theorem dL_desk_514 : decode cL_desk 514 = .ok (.iload_n 3, 1) := by decide +kernel
theorem dL_desk_515 : decode cL_desk 515 = .ok (.ifCond .eq 77, 3) := by decide +kernel
theorem dL_desk_518 : decode cL_desk 518 = .ok (.iload 5, 2) := by decide +kernel
theorem dL_desk_520 : decode cL_desk 520 = .ok (.iconst 2, 1) := by decide +kernel
theorem dL_desk_521 : decode cL_desk 521 = .ok (.if_icmp .eq 14, 3) := by decide +kernel
theorem dL_desk_524 : decode cL_desk 524 = .ok (.aload_n 0, 1) := by decide +kernel
theorem dL_desk_525 : decode cL_desk 525 = .ok (.iload 4, 2) := by decide +kernel
theorem dL_desk_527 : decode cL_desk 527 = .ok (.invokevirtual 41, 3) := by decide +kernel
theorem dL_desk_530 : decode cL_desk 530 = .ok (.bipush (-5), 2) := by decide +kernel
theorem dL_desk_532 : decode cL_desk 532 = .ok (.if_icmp .ne 60, 3) := by decide +kernel
theorem dL_desk_535 : decode cL_desk 535 = .ok (.iload 5, 2) := by decide +kernel
theorem dL_desk_537 : decode cL_desk 537 = .ok (.iconst 2, 1) := by decide +kernel
theorem dL_desk_538 : decode cL_desk 538 = .ok (.if_icmp .eq 20, 3) := by decide +kernel
theorem dL_desk_541 : decode cL_desk 541 = .ok (.iload 5, 2) := by decide +kernel
theorem dL_desk_543 : decode cL_desk 543 = .ok (.iconst 3, 1) := by decide +kernel
theorem dL_desk_544 : decode cL_desk 544 = .ok (.if_icmp .eq 14, 3) := by decide +kernel
theorem dL_desk_547 : decode cL_desk 547 = .ok (.aload_n 0, 1) := by decide +kernel
theorem dL_desk_548 : decode cL_desk 548 = .ok (.iload 4, 2) := by decide +kernel
theorem dL_desk_550 : decode cL_desk 550 = .ok (.invokevirtual 44, 3) := by decide +kernel
theorem dL_desk_553 : decode cL_desk 553 = .ok (.bipush (-5), 2) := by decide +kernel
theorem dL_desk_555 : decode cL_desk 555 = .ok (.if_icmp .ne 37, 3) := by decide +kernel
theorem dL_desk_558 : decode cL_desk 558 = .ok (.aload_n 0, 1) := by decide +kernel
theorem dL_desk_559 : decode cL_desk 559 = .ok (.iload 4, 2) := by decide +kernel
theorem dL_desk_561 : decode cL_desk 561 = .ok (.invokevirtual 47, 3) := by decide +kernel
theorem dL_desk_564 : decode cL_desk 564 = .ok (.bipush (-5), 2) := by decide +kernel
theorem dL_desk_566 : decode cL_desk 566 = .ok (.if_icmp .ne 7, 3) := by decide +kernel
theorem dL_desk_569 : decode cL_desk 569 = .ok (.iconst 1, 1) := by decide +kernel
theorem dL_desk_570 : decode cL_desk 570 = .ok (.goto 4, 3) := by decide +kernel
theorem dL_desk_573 : decode cL_desk 573 = .ok (.iconst 0, 1) := by decide +kernel
theorem dL_desk_574 : decode cL_desk 574 = .ok (.iload 5, 2) := by decide +kernel
theorem dL_desk_576 : decode cL_desk 576 = .ok (.iconst 5, 1) := by decide +kernel
theorem dL_desk_577 : decode cL_desk 577 = .ok (.if_icmp .le 7, 3) := by decide +kernel
theorem dL_desk_580 : decode cL_desk 580 = .ok (.iconst 1, 1) := by decide +kernel
theorem dL_desk_581 : decode cL_desk 581 = .ok (.goto 4, 3) := by decide +kernel
theorem dL_desk_584 : decode cL_desk 584 = .ok (.iconst 0, 1) := by decide +kernel
theorem dL_desk_585 : decode cL_desk 585 = .ok (.if_icmp .ne 7, 3) := by decide +kernel
theorem dL_desk_588 : decode cL_desk 588 = .ok (.iconst 1, 1) := by decide +kernel
theorem dL_desk_589 : decode cL_desk 589 = .ok (.goto 4, 3) := by decide +kernel
theorem dL_desk_592 : decode cL_desk 592 = .ok (.iconst 0, 1) := by decide +kernel
theorem dL_desk_593 : decode cL_desk 593 = .ok (.istore_n 3, 1) := by decide +kernel
theorem dL_desk_594 : decode cL_desk 594 = .ok (.iinc 4 1, 3) := by decide +kernel
theorem dL_desk_597 : decode cL_desk 597 = .ok (.goto (-403), 3) := by decide +kernel
theorem dL_desk_600 : decode cL_desk 600 = .ok (.iconst 0, 1) := by decide +kernel
theorem dL_desk_601 : decode cL_desk 601 = .ok (.istore 4, 2) := by decide +kernel
theorem dL_desk_603 : decode cL_desk 603 = .ok (.iconst 0, 1) := by decide +kernel
theorem dL_desk_604 : decode cL_desk 604 = .ok (.istore 5, 2) := by decide +kernel
theorem dL_desk_606 : decode cL_desk 606 = .ok (.iload 5, 2) := by decide +kernel
theorem dL_desk_608 : decode cL_desk 608 = .ok (.bipush 8, 2) := by decide +kernel
theorem dL_desk_610 : decode cL_desk 610 = .ok (.if_icmp .ge 22, 3) := by decide +kernel
theorem dL_desk_613 : decode cL_desk 613 = .ok (.iload 4, 2) := by decide +kernel
theorem dL_desk_615 : decode cL_desk 615 = .ok (.aload_n 0, 1) := by decide +kernel
theorem dL_desk_616 : decode cL_desk 616 = .ok (.iconst 2, 1) := by decide +kernel
theorem dL_desk_617 : decode cL_desk 617 = .ok (.iload 5, 2) := by decide +kernel
theorem dL_desk_619 : decode cL_desk 619 = .ok (.iadd, 1) := by decide +kernel
theorem dL_desk_620 : decode cL_desk 620 = .ok (.invokevirtual 35, 3) := by decide +kernel
theorem dL_desk_623 : decode cL_desk 623 = .ok (.iadd, 1) := by decide +kernel
theorem dL_desk_624 : decode cL_desk 624 = .ok (.istore 4, 2) := by decide +kernel
theorem dL_desk_626 : decode cL_desk 626 = .ok (.iinc 5 1, 3) := by decide +kernel
theorem dL_desk_629 : decode cL_desk 629 = .ok (.goto (-23), 3) := by decide +kernel
theorem dL_desk_632 : decode cL_desk 632 = .ok (.iload_n 3, 1) := by decide +kernel
theorem dL_desk_633 : decode cL_desk 633 = .ok (.ifCond .eq 53, 3) := by decide +kernel
theorem dL_desk_636 : decode cL_desk 636 = .ok (.iload 4, 2) := by decide +kernel
theorem dL_desk_638 : decode cL_desk 638 = .ok (.aload_n 0, 1) := by decide +kernel
theorem dL_desk_639 : decode cL_desk 639 = .ok (.iconst 1, 1) := by decide +kernel
theorem dL_desk_640 : decode cL_desk 640 = .ok (.invokevirtual 35, 3) := by decide +kernel
theorem dL_desk_643 : decode cL_desk 643 = .ok (.if_icmp .ne 43, 3) := by decide +kernel
theorem dL_desk_646 : decode cL_desk 646 = .ok (.aload_n 0, 1) := by decide +kernel
theorem dL_desk_647 : decode cL_desk 647 = .ok (.bipush 11, 2) := by decide +kernel
theorem dL_desk_649 : decode cL_desk 649 = .ok (.invokevirtual 35, 3) := by decide +kernel
theorem dL_desk_652 : decode cL_desk 652 = .ok (.aload_n 0, 1) := by decide +kernel
theorem dL_desk_653 : decode cL_desk 653 = .ok (.iconst 4, 1) := by decide +kernel
theorem dL_desk_654 : decode cL_desk 654 = .ok (.invokevirtual 32, 3) := by decide +kernel
theorem dL_desk_657 : decode cL_desk 657 = .ok (.iload_n 1, 1) := by decide +kernel
theorem dL_desk_658 : decode cL_desk 658 = .ok (.isub, 1) := by decide +kernel
theorem dL_desk_659 : decode cL_desk 659 = .ok (.if_icmp .ne 27, 3) := by decide +kernel
theorem dL_desk_662 : decode cL_desk 662 = .ok (.aload_n 0, 1) := by decide +kernel
theorem dL_desk_663 : decode cL_desk 663 = .ok (.bipush 11, 2) := by decide +kernel
theorem dL_desk_665 : decode cL_desk 665 = .ok (.invokevirtual 35, 3) := by decide +kernel
theorem dL_desk_668 : decode cL_desk 668 = .ok (.ifCond .lt 18, 3) := by decide +kernel
theorem dL_desk_671 : decode cL_desk 671 = .ok (.aload_n 0, 1) := by decide +kernel
theorem dL_desk_672 : decode cL_desk 672 = .ok (.bipush 10, 2) := by decide +kernel
theorem dL_desk_674 : decode cL_desk 674 = .ok (.invokevirtual 35, 3) := by decide +kernel
theorem dL_desk_677 : decode cL_desk 677 = .ok (.bipush 12, 2) := by decide +kernel
theorem dL_desk_679 : decode cL_desk 679 = .ok (.if_icmp .gt 7, 3) := by decide +kernel
theorem dL_desk_682 : decode cL_desk 682 = .ok (.iconst 1, 1) := by decide +kernel
theorem dL_desk_683 : decode cL_desk 683 = .ok (.goto 4, 3) := by decide +kernel
theorem dL_desk_686 : decode cL_desk 686 = .ok (.iconst 0, 1) := by decide +kernel
theorem dL_desk_687 : decode cL_desk 687 = .ok (.istore_n 3, 1) := by decide +kernel
theorem dL_desk_688 : decode cL_desk 688 = .ok (.iconst 0, 1) := by decide +kernel
theorem dL_desk_689 : decode cL_desk 689 = .ok (.istore 5, 2) := by decide +kernel
theorem dL_desk_691 : decode cL_desk 691 = .ok (.iload 5, 2) := by decide +kernel
theorem dL_desk_693 : decode cL_desk 693 = .ok (.iconst 5, 1) := by decide +kernel
theorem dL_desk_694 : decode cL_desk 694 = .ok (.if_icmp .ge 34, 3) := by decide +kernel
theorem dL_desk_697 : decode cL_desk 697 = .ok (.iload_n 3, 1) := by decide +kernel
theorem dL_desk_698 : decode cL_desk 698 = .ok (.ifCond .eq 30, 3) := by decide +kernel
theorem dL_desk_701 : decode cL_desk 701 = .ok (.aload_n 0, 1) := by decide +kernel
theorem dL_desk_702 : decode cL_desk 702 = .ok (.iload 5, 2) := by decide +kernel
theorem dL_desk_704 : decode cL_desk 704 = .ok (.invokevirtual 50, 3) := by decide +kernel
theorem dL_desk_707 : decode cL_desk 707 = .ok (.aload_n 0, 1) := by decide +kernel
theorem dL_desk_708 : decode cL_desk 708 = .ok (.iload 5, 2) := by decide +kernel
theorem dL_desk_710 : decode cL_desk 710 = .ok (.invokestatic 53, 3) := by decide +kernel
theorem dL_desk_713 : decode cL_desk 713 = .ok (.if_icmp .ne 7, 3) := by decide +kernel
theorem dL_desk_716 : decode cL_desk 716 = .ok (.iconst 1, 1) := by decide +kernel
theorem dL_desk_717 : decode cL_desk 717 = .ok (.goto 4, 3) := by decide +kernel
theorem dL_desk_720 : decode cL_desk 720 = .ok (.iconst 0, 1) := by decide +kernel
theorem dL_desk_721 : decode cL_desk 721 = .ok (.istore_n 3, 1) := by decide +kernel
theorem dL_desk_722 : decode cL_desk 722 = .ok (.iinc 5 1, 3) := by decide +kernel
theorem dL_desk_725 : decode cL_desk 725 = .ok (.goto (-34), 3) := by decide +kernel
theorem dL_desk_728 : decode cL_desk 728 = .ok (.aload_n 0, 1) := by decide +kernel
theorem dL_desk_729 : decode cL_desk 729 = .ok (.invokevirtual 56, 3) := by decide +kernel
theorem dL_desk_732 : decode cL_desk 732 = .ok (.fstore 5, 2) := by decide +kernel
theorem dL_desk_734 : decode cL_desk 734 = .ok (.iload_n 3, 1) := by decide +kernel
theorem dL_desk_735 : decode cL_desk 735 = .ok (.ifCond .eq 29, 3) := by decide +kernel
theorem dL_desk_738 : decode cL_desk 738 = .ok (.iload_n 2, 1) := by decide +kernel
theorem dL_desk_739 : decode cL_desk 739 = .ok (.ifCond .ne 14, 3) := by decide +kernel
theorem dL_desk_742 : decode cL_desk 742 = .ok (.fload 5, 2) := by decide +kernel
theorem dL_desk_744 : decode cL_desk 744 = .ok (.fload 5, 2) := by decide +kernel
theorem dL_desk_746 : decode cL_desk 746 = .ok (.fcmp .l, 1) := by decide +kernel
theorem dL_desk_747 : decode cL_desk 747 = .ok (.ifCond .eq 17, 3) := by decide +kernel
theorem dL_desk_750 : decode cL_desk 750 = .ok (.goto 10, 3) := by decide +kernel
theorem dL_desk_753 : decode cL_desk 753 = .ok (.fload 5, 2) := by decide +kernel
theorem dL_desk_755 : decode cL_desk 755 = .ok (.fconst 0, 1) := by decide +kernel
theorem dL_desk_756 : decode cL_desk 756 = .ok (.fcmp .l, 1) := by decide +kernel
theorem dL_desk_757 : decode cL_desk 757 = .ok (.ifCond .lt 7, 3) := by decide +kernel
theorem dL_desk_760 : decode cL_desk 760 = .ok (.iconst 1, 1) := by decide +kernel
theorem dL_desk_761 : decode cL_desk 761 = .ok (.goto 4, 3) := by decide +kernel
theorem dL_desk_764 : decode cL_desk 764 = .ok (.iconst 0, 1) := by decide +kernel
theorem dL_desk_765 : decode cL_desk 765 = .ok (.ireturn, 1) := by decide +kernel
theorem dL_act_0 : decode cL_act 0 = .ok (.aload_n 1, 1) := by decide +kernel
theorem dL_act_1 : decode cL_act 1 = .ok (.iload_n 2, 1) := by decide +kernel
theorem dL_act_2 : decode cL_act 2 = .ok (.iconst 1, 1) := by decide +kernel
theorem dL_act_3 : decode cL_act 3 = .ok (.iadd, 1) := by decide +kernel
theorem dL_act_4 : decode cL_act 4 = .ok (.invokestatic 60, 3) := by decide +kernel
theorem dL_act_7 : decode cL_act 7 = .ok (.istore_n 3, 1) := by decide +kernel
theorem dL_act_8 : decode cL_act 8 = .ok (.aload_n 1, 1) := by decide +kernel
theorem dL_act_9 : decode cL_act 9 = .ok (.iload_n 2, 1) := by decide +kernel
theorem dL_act_10 : decode cL_act 10 = .ok (.iconst 2, 1) := by decide +kernel
theorem dL_act_11 : decode cL_act 11 = .ok (.iadd, 1) := by decide +kernel
theorem dL_act_12 : decode cL_act 12 = .ok (.invokestatic 60, 3) := by decide +kernel
theorem dL_act_15 : decode cL_act 15 = .ok (.istore 4, 2) := by decide +kernel
theorem dL_act_17 : decode cL_act 17 = .ok (.iload_n 3, 1) := by decide +kernel
theorem dL_act_18 : decode cL_act 18 = .ok (.bipush 10, 2) := by decide +kernel
theorem dL_act_20 : decode cL_act 20 = .ok (.invokestatic 64, 3) := by decide +kernel
theorem dL_act_23 : decode cL_act 23 = .ok (.istore 5, 2) := by decide +kernel
theorem dL_act_25 : decode cL_act 25 = .ok (.aload_n 1, 1) := by decide +kernel
theorem dL_act_26 : decode cL_act 26 = .ok (.iload_n 2, 1) := by decide +kernel
theorem dL_act_27 : decode cL_act 27 = .ok (.invokestatic 60, 3) := by decide +kernel
theorem dL_act_30 : decode cL_act 30 = .ok (.bipush 22, 2) := by decide +kernel
theorem dL_act_32 : decode cL_act 32 = .ok (.invokestatic 64, 3) := by decide +kernel
theorem dL_act_35 : decode cL_act 35 = .ok (.tableswitch 288 0 18 #[89, 89, 89, 99, 99, 99, 106, 106, 106, 128, 128, 128, 147, 166, 173, 180, 209, 262, 267], 89) := by decide +kernel
theorem dL_act_124 : decode cL_act 124 = .ok (.aload_n 0, 1) := by decide +kernel
theorem dL_act_125 : decode cL_act 125 = .ok (.iload_n 3, 1) := by decide +kernel
theorem dL_act_126 : decode cL_act 126 = .ok (.iconst 5, 1) := by decide +kernel
theorem dL_act_127 : decode cL_act 127 = .ok (.invokestatic 64, 3) := by decide +kernel
theorem dL_act_130 : decode cL_act 130 = .ok (.invokevirtual 67, 3) := by decide +kernel
theorem dL_act_133 : decode cL_act 133 = .ok (.ireturn, 1) := by decide +kernel
theorem dL_act_134 : decode cL_act 134 = .ok (.aload_n 0, 1) := by decide +kernel
theorem dL_act_135 : decode cL_act 135 = .ok (.iload 5, 2) := by decide +kernel
theorem dL_act_137 : decode cL_act 137 = .ok (.invokevirtual 70, 3) := by decide +kernel
theorem dL_act_140 : decode cL_act 140 = .ok (.ireturn, 1) := by decide +kernel
theorem dL_act_141 : decode cL_act 141 = .ok (.aload_n 0, 1) := by decide +kernel
theorem dL_act_142 : decode cL_act 142 = .ok (.iload 5, 2) := by decide +kernel
theorem dL_act_144 : decode cL_act 144 = .ok (.iload 4, 2) := by decide +kernel
theorem dL_act_146 : decode cL_act 146 = .ok (.bipush 6, 2) := by decide +kernel
theorem dL_act_148 : decode cL_act 148 = .ok (.invokestatic 64, 3) := by decide +kernel
theorem dL_act_151 : decode cL_act 151 = .ok (.ifCond .le 7, 3) := by decide +kernel
theorem dL_act_154 : decode cL_act 154 = .ok (.iconst 1, 1) := by decide +kernel
theorem dL_act_155 : decode cL_act 155 = .ok (.goto 4, 3) := by decide +kernel
theorem dL_act_158 : decode cL_act 158 = .ok (.iconst 0, 1) := by decide +kernel
theorem dL_act_159 : decode cL_act 159 = .ok (.invokevirtual 73, 3) := by decide +kernel
theorem dL_act_162 : decode cL_act 162 = .ok (.ireturn, 1) := by decide +kernel
theorem dL_act_163 : decode cL_act 163 = .ok (.aload_n 0, 1) := by decide +kernel
theorem dL_act_164 : decode cL_act 164 = .ok (.iload_n 3, 1) := by decide +kernel
theorem dL_act_165 : decode cL_act 165 = .ok (.bipush 6, 2) := by decide +kernel
theorem dL_act_167 : decode cL_act 167 = .ok (.invokestatic 64, 3) := by decide +kernel
theorem dL_act_170 : decode cL_act 170 = .ok (.iconst 1, 1) := by decide +kernel
theorem dL_act_171 : decode cL_act 171 = .ok (.iload 4, 2) := by decide +kernel
theorem dL_act_173 : decode cL_act 173 = .ok (.iconst 4, 1) := by decide +kernel
theorem dL_act_174 : decode cL_act 174 = .ok (.invokestatic 64, 3) := by decide +kernel
theorem dL_act_177 : decode cL_act 177 = .ok (.iadd, 1) := by decide +kernel
theorem dL_act_178 : decode cL_act 178 = .ok (.invokevirtual 77, 3) := by decide +kernel
theorem dL_act_181 : decode cL_act 181 = .ok (.ireturn, 1) := by decide +kernel
theorem dL_act_182 : decode cL_act 182 = .ok (.aload_n 0, 1) := by decide +kernel
theorem dL_act_183 : decode cL_act 183 = .ok (.iload_n 3, 1) := by decide +kernel
theorem dL_act_184 : decode cL_act 184 = .ok (.bipush 6, 2) := by decide +kernel
theorem dL_act_186 : decode cL_act 186 = .ok (.invokestatic 64, 3) := by decide +kernel
theorem dL_act_189 : decode cL_act 189 = .ok (.iconst 1, 1) := by decide +kernel
theorem dL_act_190 : decode cL_act 190 = .ok (.iload 4, 2) := by decide +kernel
theorem dL_act_192 : decode cL_act 192 = .ok (.iconst 4, 1) := by decide +kernel
theorem dL_act_193 : decode cL_act 193 = .ok (.invokestatic 64, 3) := by decide +kernel
theorem dL_act_196 : decode cL_act 196 = .ok (.iadd, 1) := by decide +kernel
theorem dL_act_197 : decode cL_act 197 = .ok (.invokevirtual 80, 3) := by decide +kernel
theorem dL_act_200 : decode cL_act 200 = .ok (.ireturn, 1) := by decide +kernel
theorem dL_act_201 : decode cL_act 201 = .ok (.aload_n 0, 1) := by decide +kernel
theorem dL_act_202 : decode cL_act 202 = .ok (.iload 5, 2) := by decide +kernel
theorem dL_act_204 : decode cL_act 204 = .ok (.invokevirtual 83, 3) := by decide +kernel
theorem dL_act_207 : decode cL_act 207 = .ok (.ireturn, 1) := by decide +kernel
theorem dL_act_208 : decode cL_act 208 = .ok (.aload_n 0, 1) := by decide +kernel
theorem dL_act_209 : decode cL_act 209 = .ok (.iload 5, 2) := by decide +kernel
theorem dL_act_211 : decode cL_act 211 = .ok (.invokevirtual 86, 3) := by decide +kernel
theorem dL_act_214 : decode cL_act 214 = .ok (.ireturn, 1) := by decide +kernel
theorem dL_act_215 : decode cL_act 215 = .ok (.aload_n 0, 1) := by decide +kernel
theorem dL_act_216 : decode cL_act 216 = .ok (.iload_n 3, 1) := by decide +kernel
theorem dL_act_217 : decode cL_act 217 = .ok (.bipush 6, 2) := by decide +kernel
theorem dL_act_219 : decode cL_act 219 = .ok (.invokestatic 64, 3) := by decide +kernel
theorem dL_act_222 : decode cL_act 222 = .ok (.iconst 1, 1) := by decide +kernel
theorem dL_act_223 : decode cL_act 223 = .ok (.iload 4, 2) := by decide +kernel
theorem dL_act_225 : decode cL_act 225 = .ok (.ldc 89, 2) := by decide +kernel
theorem dL_act_227 : decode cL_act 227 = .ok (.invokestatic 64, 3) := by decide +kernel
theorem dL_act_230 : decode cL_act 230 = .ok (.iadd, 1) := by decide +kernel
theorem dL_act_231 : decode cL_act 231 = .ok (.iconst 1, 1) := by decide +kernel
theorem dL_act_232 : decode cL_act 232 = .ok (.iload 4, 2) := by decide +kernel
theorem dL_act_234 : decode cL_act 234 = .ok (.bipush 6, 2) := by decide +kernel
theorem dL_act_236 : decode cL_act 236 = .ok (.invokestatic 64, 3) := by decide +kernel
theorem dL_act_239 : decode cL_act 239 = .ok (.iadd, 1) := by decide +kernel
theorem dL_act_240 : decode cL_act 240 = .ok (.invokevirtual 90, 3) := by decide +kernel
theorem dL_act_243 : decode cL_act 243 = .ok (.ireturn, 1) := by decide +kernel
theorem dL_act_244 : decode cL_act 244 = .ok (.iload_n 3, 1) := by decide +kernel
theorem dL_act_245 : decode cL_act 245 = .ok (.iconst 2, 1) := by decide +kernel
theorem dL_act_246 : decode cL_act 246 = .ok (.invokestatic 64, 3) := by decide +kernel
theorem dL_act_249 : decode cL_act 249 = .ok (.ifCond .ne 24, 3) := by decide +kernel
theorem dL_act_252 : decode cL_act 252 = .ok (.aload_n 0, 1) := by decide +kernel
theorem dL_act_253 : decode cL_act 253 = .ok (.iload_n 3, 1) := by decide +kernel
theorem dL_act_254 : decode cL_act 254 = .ok (.iconst 5, 1) := by decide +kernel
theorem dL_act_255 : decode cL_act 255 = .ok (.invokestatic 64, 3) := by decide +kernel
theorem dL_act_258 : decode cL_act 258 = .ok (.iconst 1, 1) := by decide +kernel
theorem dL_act_259 : decode cL_act 259 = .ok (.iload 4, 2) := by decide +kernel
theorem dL_act_261 : decode cL_act 261 = .ok (.bipush 24, 2) := by decide +kernel
theorem dL_act_263 : decode cL_act 263 = .ok (.invokestatic 64, 3) := by decide +kernel
theorem dL_act_266 : decode cL_act 266 = .ok (.iadd, 1) := by decide +kernel
theorem dL_act_267 : decode cL_act 267 = .ok (.invokevirtual 94, 3) := by decide +kernel
theorem dL_act_270 : decode cL_act 270 = .ok (.goto 26, 3) := by decide +kernel
theorem dL_act_273 : decode cL_act 273 = .ok (.aload_n 0, 1) := by decide +kernel
theorem dL_act_274 : decode cL_act 274 = .ok (.iload_n 3, 1) := by decide +kernel
theorem dL_act_275 : decode cL_act 275 = .ok (.iconst 2, 1) := by decide +kernel
theorem dL_act_276 : decode cL_act 276 = .ok (.invokestatic 64, 3) := by decide +kernel
theorem dL_act_279 : decode cL_act 279 = .ok (.ldc 97, 2) := by decide +kernel
theorem dL_act_281 : decode cL_act 281 = .ok (.iload 4, 2) := by decide +kernel
theorem dL_act_283 : decode cL_act 283 = .ok (.sipush 180, 3) := by decide +kernel
theorem dL_act_286 : decode cL_act 286 = .ok (.invokestatic 64, 3) := by decide +kernel
theorem dL_act_289 : decode cL_act 289 = .ok (.bipush 16, 2) := by decide +kernel
theorem dL_act_291 : decode cL_act 291 = .ok (.ishl, 1) := by decide +kernel
theorem dL_act_292 : decode cL_act 292 = .ok (.iadd, 1) := by decide +kernel
theorem dL_act_293 : decode cL_act 293 = .ok (.invokevirtual 98, 3) := by decide +kernel
theorem dL_act_296 : decode cL_act 296 = .ok (.ireturn, 1) := by decide +kernel
theorem dL_act_297 : decode cL_act 297 = .ok (.aload_n 0, 1) := by decide +kernel
theorem dL_act_298 : decode cL_act 298 = .ok (.invokevirtual 101, 3) := by decide +kernel
theorem dL_act_301 : decode cL_act 301 = .ok (.ireturn, 1) := by decide +kernel
theorem dL_act_302 : decode cL_act 302 = .ok (.iload 4, 2) := by decide +kernel
theorem dL_act_304 : decode cL_act 304 = .ok (.iconst 2, 1) := by decide +kernel
theorem dL_act_305 : decode cL_act 305 = .ok (.invokestatic 64, 3) := by decide +kernel
theorem dL_act_308 : decode cL_act 308 = .ok (.ifCond .ne 10, 3) := by decide +kernel
theorem dL_act_311 : decode cL_act 311 = .ok (.aload_n 0, 1) := by decide +kernel
theorem dL_act_312 : decode cL_act 312 = .ok (.invokevirtual 105, 3) := by decide +kernel
theorem dL_act_315 : decode cL_act 315 = .ok (.goto 7, 3) := by decide +kernel
theorem dL_act_318 : decode cL_act 318 = .ok (.aload_n 0, 1) := by decide +kernel
theorem dL_act_319 : decode cL_act 319 = .ok (.invokevirtual 108, 3) := by decide +kernel
theorem dL_act_322 : decode cL_act 322 = .ok (.ireturn, 1) := by decide +kernel
theorem dL_act_323 : decode cL_act 323 = .ok (.aload_n 0, 1) := by decide +kernel
theorem dL_act_324 : decode cL_act 324 = .ok (.iconst 1, 1) := by decide +kernel
theorem dL_act_325 : decode cL_act 325 = .ok (.iload 4, 2) := by decide +kernel
theorem dL_act_327 : decode cL_act 327 = .ok (.iconst 5, 1) := by decide +kernel
theorem dL_act_328 : decode cL_act 328 = .ok (.invokestatic 64, 3) := by decide +kernel
theorem dL_act_331 : decode cL_act 331 = .ok (.iadd, 1) := by decide +kernel
theorem dL_act_332 : decode cL_act 332 = .ok (.invokevirtual 111, 3) := by decide +kernel
theorem dL_act_335 : decode cL_act 335 = .ok (.ireturn, 1) := by decide +kernel
theorem dL_law_0 : decode cL_law 0 = .ok (.new 16, 3) := by decide +kernel
theorem dL_law_3 : decode cL_law 3 = .ok (.dup, 1) := by decide +kernel
theorem dL_law_4 : decode cL_law 4 = .ok (.invokespecial 114, 3) := by decide +kernel
theorem dL_law_7 : decode cL_law 7 = .ok (.astore_n 1, 1) := by decide +kernel
theorem dL_law_8 : decode cL_law 8 = .ok (.iconst 1, 1) := by decide +kernel
theorem dL_law_9 : decode cL_law 9 = .ok (.istore_n 2, 1) := by decide +kernel
theorem dL_law_10 : decode cL_law 10 = .ok (.aload_n 0, 1) := by decide +kernel
theorem dL_law_11 : decode cL_law 11 = .ok (.arraylength, 1) := by decide +kernel
theorem dL_law_12 : decode cL_law 12 = .ok (.iconst 3, 1) := by decide +kernel
theorem dL_law_13 : decode cL_law 13 = .ok (.idiv, 1) := by decide +kernel
theorem dL_law_14 : decode cL_law 14 = .ok (.bipush 40, 2) := by decide +kernel
theorem dL_law_16 : decode cL_law 16 = .ok (.if_icmp .le 8, 3) := by decide +kernel
theorem dL_law_19 : decode cL_law 19 = .ok (.bipush 40, 2) := by decide +kernel
theorem dL_law_21 : decode cL_law 21 = .ok (.goto 7, 3) := by decide +kernel
theorem dL_law_24 : decode cL_law 24 = .ok (.aload_n 0, 1) := by decide +kernel
theorem dL_law_25 : decode cL_law 25 = .ok (.arraylength, 1) := by decide +kernel
theorem dL_law_26 : decode cL_law 26 = .ok (.iconst 3, 1) := by decide +kernel
theorem dL_law_27 : decode cL_law 27 = .ok (.idiv, 1) := by decide +kernel
theorem dL_law_28 : decode cL_law 28 = .ok (.istore_n 3, 1) := by decide +kernel
theorem dL_law_29 : decode cL_law 29 = .ok (.iconst 0, 1) := by decide +kernel
theorem dL_law_30 : decode cL_law 30 = .ok (.istore 4, 2) := by decide +kernel
theorem dL_law_32 : decode cL_law 32 = .ok (.iload 4, 2) := by decide +kernel
theorem dL_law_34 : decode cL_law 34 = .ok (.iload_n 3, 1) := by decide +kernel
theorem dL_law_35 : decode cL_law 35 = .ok (.if_icmp .ge 231, 3) := by decide +kernel
theorem dL_law_38 : decode cL_law 38 = .ok (.iload_n 2, 1) := by decide +kernel
theorem dL_law_39 : decode cL_law 39 = .ok (.ifCond .eq 227, 3) := by decide +kernel
theorem dL_law_42 : decode cL_law 42 = .ok (.aload_n 1, 1) := by decide +kernel
theorem dL_law_43 : decode cL_law 43 = .ok (.bipush 16, 2) := by decide +kernel
theorem dL_law_45 : decode cL_law 45 = .ok (.invokevirtual 35, 3) := by decide +kernel
theorem dL_law_48 : decode cL_law 48 = .ok (.istore 5, 2) := by decide +kernel
theorem dL_law_50 : decode cL_law 50 = .ok (.aload_n 1, 1) := by decide +kernel
theorem dL_law_51 : decode cL_law 51 = .ok (.iconst 0, 1) := by decide +kernel
theorem dL_law_52 : decode cL_law 52 = .ok (.invokevirtual 35, 3) := by decide +kernel
theorem dL_law_55 : decode cL_law 55 = .ok (.istore 6, 2) := by decide +kernel
theorem dL_law_57 : decode cL_law 57 = .ok (.aload_n 1, 1) := by decide +kernel
theorem dL_law_58 : decode cL_law 58 = .ok (.iconst 1, 1) := by decide +kernel
theorem dL_law_59 : decode cL_law 59 = .ok (.invokevirtual 35, 3) := by decide +kernel
theorem dL_law_62 : decode cL_law 62 = .ok (.istore 7, 2) := by decide +kernel
theorem dL_law_64 : decode cL_law 64 = .ok (.aload_n 0, 1) := by decide +kernel
theorem dL_law_65 : decode cL_law 65 = .ok (.iconst 3, 1) := by decide +kernel
theorem dL_law_66 : decode cL_law 66 = .ok (.iload 4, 2) := by decide +kernel
theorem dL_law_68 : decode cL_law 68 = .ok (.imul, 1) := by decide +kernel
theorem dL_law_69 : decode cL_law 69 = .ok (.iconst 1, 1) := by decide +kernel
theorem dL_law_70 : decode cL_law 70 = .ok (.iadd, 1) := by decide +kernel
theorem dL_law_71 : decode cL_law 71 = .ok (.invokestatic 60, 3) := by decide +kernel
theorem dL_law_74 : decode cL_law 74 = .ok (.bipush 10, 2) := by decide +kernel
theorem dL_law_76 : decode cL_law 76 = .ok (.invokestatic 64, 3) := by decide +kernel
theorem dL_law_79 : decode cL_law 79 = .ok (.istore 8, 2) := by decide +kernel
theorem dL_law_81 : decode cL_law 81 = .ok (.aload_n 1, 1) := by decide +kernel
theorem dL_law_82 : decode cL_law 82 = .ok (.iload 8, 2) := by decide +kernel
theorem dL_law_84 : decode cL_law 84 = .ok (.invokevirtual 44, 3) := by decide +kernel
theorem dL_law_87 : decode cL_law 87 = .ok (.istore 9, 2) := by decide +kernel
theorem dL_law_89 : decode cL_law 89 = .ok (.aload_n 1, 1) := by decide +kernel
theorem dL_law_90 : decode cL_law 90 = .ok (.aload_n 0, 1) := by decide +kernel
theorem dL_law_91 : decode cL_law 91 = .ok (.iconst 3, 1) := by decide +kernel
theorem dL_law_92 : decode cL_law 92 = .ok (.iload 4, 2) := by decide +kernel
theorem dL_law_94 : decode cL_law 94 = .ok (.imul, 1) := by decide +kernel
theorem dL_law_95 : decode cL_law 95 = .ok (.invokestatic 115, 3) := by decide +kernel
theorem dL_law_98 : decode cL_law 98 = .ok (.istore 10, 2) := by decide +kernel
theorem dL_law_100 : decode cL_law 100 = .ok (.iload 10, 2) := by decide +kernel
theorem dL_law_102 : decode cL_law 102 = .ok (.ifCond .ge 34, 3) := by decide +kernel
theorem dL_law_105 : decode cL_law 105 = .ok (.aload_n 1, 1) := by decide +kernel
theorem dL_law_106 : decode cL_law 106 = .ok (.bipush 16, 2) := by decide +kernel
theorem dL_law_108 : decode cL_law 108 = .ok (.invokevirtual 35, 3) := by decide +kernel
theorem dL_law_111 : decode cL_law 111 = .ok (.iload 5, 2) := by decide +kernel
theorem dL_law_113 : decode cL_law 113 = .ok (.if_icmp .ne 27, 3) := by decide +kernel
theorem dL_law_116 : decode cL_law 116 = .ok (.aload_n 1, 1) := by decide +kernel
theorem dL_law_117 : decode cL_law 117 = .ok (.iconst 0, 1) := by decide +kernel
theorem dL_law_118 : decode cL_law 118 = .ok (.invokevirtual 35, 3) := by decide +kernel
theorem dL_law_121 : decode cL_law 121 = .ok (.iload 6, 2) := by decide +kernel
theorem dL_law_123 : decode cL_law 123 = .ok (.if_icmp .ne 17, 3) := by decide +kernel
theorem dL_law_126 : decode cL_law 126 = .ok (.aload_n 1, 1) := by decide +kernel
theorem dL_law_127 : decode cL_law 127 = .ok (.iconst 1, 1) := by decide +kernel
theorem dL_law_128 : decode cL_law 128 = .ok (.invokevirtual 35, 3) := by decide +kernel
theorem dL_law_131 : decode cL_law 131 = .ok (.iload 7, 2) := by decide +kernel
theorem dL_law_133 : decode cL_law 133 = .ok (.if_icmp .ne 7, 3) := by decide +kernel
theorem dL_law_136 : decode cL_law 136 = .ok (.iconst 1, 1) := by decide +kernel
theorem dL_law_137 : decode cL_law 137 = .ok (.goto 4, 3) := by decide +kernel
theorem dL_law_140 : decode cL_law 140 = .ok (.iconst 0, 1) := by decide +kernel
theorem dL_law_141 : decode cL_law 141 = .ok (.istore_n 2, 1) := by decide +kernel
theorem dL_law_142 : decode cL_law 142 = .ok (.aload_n 0, 1) := by decide +kernel
theorem dL_law_143 : decode cL_law 143 = .ok (.iconst 3, 1) := by decide +kernel
theorem dL_law_144 : decode cL_law 144 = .ok (.iload 4, 2) := by decide +kernel
theorem dL_law_146 : decode cL_law 146 = .ok (.imul, 1) := by decide +kernel
theorem dL_law_147 : decode cL_law 147 = .ok (.invokestatic 60, 3) := by decide +kernel
theorem dL_law_150 : decode cL_law 150 = .ok (.bipush 22, 2) := by decide +kernel
theorem dL_law_152 : decode cL_law 152 = .ok (.invokestatic 64, 3) := by decide +kernel
theorem dL_law_155 : decode cL_law 155 = .ok (.bipush 18, 2) := by decide +kernel
theorem dL_law_157 : decode cL_law 157 = .ok (.if_icmp .le 86, 3) := by decide +kernel
theorem dL_law_160 : decode cL_law 160 = .ok (.iconst 1, 1) := by decide +kernel
theorem dL_law_161 : decode cL_law 161 = .ok (.aload_n 0, 1) := by decide +kernel
theorem dL_law_162 : decode cL_law 162 = .ok (.iconst 3, 1) := by decide +kernel
theorem dL_law_163 : decode cL_law 163 = .ok (.iload 4, 2) := by decide +kernel
theorem dL_law_165 : decode cL_law 165 = .ok (.imul, 1) := by decide +kernel
theorem dL_law_166 : decode cL_law 166 = .ok (.iconst 2, 1) := by decide +kernel
theorem dL_law_167 : decode cL_law 167 = .ok (.iadd, 1) := by decide +kernel
theorem dL_law_168 : decode cL_law 168 = .ok (.invokestatic 60, 3) := by decide +kernel
theorem dL_law_171 : decode cL_law 171 = .ok (.iconst 5, 1) := by decide +kernel
theorem dL_law_172 : decode cL_law 172 = .ok (.invokestatic 64, 3) := by decide +kernel
theorem dL_law_175 : decode cL_law 175 = .ok (.iadd, 1) := by decide +kernel
theorem dL_law_176 : decode cL_law 176 = .ok (.istore 11, 2) := by decide +kernel
theorem dL_law_178 : decode cL_law 178 = .ok (.iload_n 2, 1) := by decide +kernel
theorem dL_law_179 : decode cL_law 179 = .ok (.ifCond .eq 62, 3) := by decide +kernel
theorem dL_law_182 : decode cL_law 182 = .ok (.iload 10, 2) := by decide +kernel
theorem dL_law_184 : decode cL_law 184 = .ok (.ifCond .lt 57, 3) := by decide +kernel
theorem dL_law_187 : decode cL_law 187 = .ok (.aload_n 1, 1) := by decide +kernel
theorem dL_law_188 : decode cL_law 188 = .ok (.iconst 0, 1) := by decide +kernel
theorem dL_law_189 : decode cL_law 189 = .ok (.invokevirtual 35, 3) := by decide +kernel
theorem dL_law_192 : decode cL_law 192 = .ok (.iload 6, 2) := by decide +kernel
theorem dL_law_194 : decode cL_law 194 = .ok (.iload 11, 2) := by decide +kernel
theorem dL_law_196 : decode cL_law 196 = .ok (.iadd, 1) := by decide +kernel
theorem dL_law_197 : decode cL_law 197 = .ok (.if_icmp .ne 44, 3) := by decide +kernel
theorem dL_law_200 : decode cL_law 200 = .ok (.iload 9, 2) := by decide +kernel
theorem dL_law_202 : decode cL_law 202 = .ok (.ifCond .lt 35, 3) := by decide +kernel
theorem dL_law_205 : decode cL_law 205 = .ok (.aload_n 1, 1) := by decide +kernel
theorem dL_law_206 : decode cL_law 206 = .ok (.iload 8, 2) := by decide +kernel
theorem dL_law_208 : decode cL_law 208 = .ok (.bipush 6, 2) := by decide +kernel
theorem dL_law_210 : decode cL_law 210 = .ok (.invokevirtual 38, 3) := by decide +kernel
theorem dL_law_213 : decode cL_law 213 = .ok (.iconst 3, 1) := by decide +kernel
theorem dL_law_214 : decode cL_law 214 = .ok (.if_icmp .le 7, 3) := by decide +kernel
theorem dL_law_217 : decode cL_law 217 = .ok (.iconst 1, 1) := by decide +kernel
theorem dL_law_218 : decode cL_law 218 = .ok (.goto 4, 3) := by decide +kernel
theorem dL_law_221 : decode cL_law 221 = .ok (.iconst 0, 1) := by decide +kernel
theorem dL_law_222 : decode cL_law 222 = .ok (.iload 9, 2) := by decide +kernel
theorem dL_law_224 : decode cL_law 224 = .ok (.iload 11, 2) := by decide +kernel
theorem dL_law_226 : decode cL_law 226 = .ok (.if_icmp .gt 7, 3) := by decide +kernel
theorem dL_law_229 : decode cL_law 229 = .ok (.iconst 1, 1) := by decide +kernel
theorem dL_law_230 : decode cL_law 230 = .ok (.goto 4, 3) := by decide +kernel
theorem dL_law_233 : decode cL_law 233 = .ok (.iconst 0, 1) := by decide +kernel
theorem dL_law_234 : decode cL_law 234 = .ok (.if_icmp .ne 7, 3) := by decide +kernel
theorem dL_law_237 : decode cL_law 237 = .ok (.iconst 1, 1) := by decide +kernel
theorem dL_law_238 : decode cL_law 238 = .ok (.goto 4, 3) := by decide +kernel
theorem dL_law_241 : decode cL_law 241 = .ok (.iconst 0, 1) := by decide +kernel
theorem dL_law_242 : decode cL_law 242 = .ok (.istore_n 2, 1) := by decide +kernel
theorem dL_law_243 : decode cL_law 243 = .ok (.iload_n 2, 1) := by decide +kernel
theorem dL_law_244 : decode cL_law 244 = .ok (.ifCond .eq 14, 3) := by decide +kernel
theorem dL_law_247 : decode cL_law 247 = .ok (.aload_n 1, 1) := by decide +kernel
theorem dL_law_248 : decode cL_law 248 = .ok (.invokestatic 119, 3) := by decide +kernel
theorem dL_law_251 : decode cL_law 251 = .ok (.ifCond .eq 7, 3) := by decide +kernel
theorem dL_law_254 : decode cL_law 254 = .ok (.iconst 1, 1) := by decide +kernel
theorem dL_law_255 : decode cL_law 255 = .ok (.goto 4, 3) := by decide +kernel
theorem dL_law_258 : decode cL_law 258 = .ok (.iconst 0, 1) := by decide +kernel
theorem dL_law_259 : decode cL_law 259 = .ok (.istore_n 2, 1) := by decide +kernel
theorem dL_law_260 : decode cL_law 260 = .ok (.iinc 4 1, 3) := by decide +kernel
theorem dL_law_263 : decode cL_law 263 = .ok (.goto (-231), 3) := by decide +kernel
theorem dL_law_266 : decode cL_law 266 = .ok (.iload_n 2, 1) := by decide +kernel
theorem dL_law_267 : decode cL_law 267 = .ok (.ireturn, 1) := by decide +kernel
end
section
/-! the words one by one: q<i> is the i-th of wsL_law -/
theorem qc0 : ∀ w ∈ wsL_law_r1, w ∈ wsL_law := fun _ h => List.mem_append_left _ (List.mem_append_left _ (List.mem_append_left _ (List.mem_append_left _ (List.mem_append_left _ (List.mem_append_left _ (List.mem_append_left _ (List.mem_append_left _ (List.mem_append_left _ h))))))))
theorem qc1 : ∀ w ∈ wsL_law_r2, w ∈ wsL_law := fun _ h => List.mem_append_left _ (List.mem_append_left _ (List.mem_append_left _ (List.mem_append_left _ (List.mem_append_left _ (List.mem_append_left _ (List.mem_append_left _ (List.mem_append_left _ (List.mem_append_right _ (List.mem_append_left _ h)))))))))
theorem qc2 : ∀ w ∈ wsL_law_r3, w ∈ wsL_law := fun _ h => List.mem_append_left _ (List.mem_append_left _ (List.mem_append_left _ (List.mem_append_left _ (List.mem_append_left _ (List.mem_append_left _ (List.mem_append_left _ (List.mem_append_left _ (List.mem_append_right _ (List.mem_append_right _ (List.mem_append_left _ h))))))))))
theorem qc3 : ∀ w ∈ wsL_law_r4, w ∈ wsL_law := fun _ h => List.mem_append_left _ (List.mem_append_left _ (List.mem_append_left _ (List.mem_append_left _ (List.mem_append_left _ (List.mem_append_left _ (List.mem_append_left _ (List.mem_append_left _ (List.mem_append_right _ (List.mem_append_right _ (List.mem_append_right _ (List.mem_append_left _ h)))))))))))
theorem qc4 : ∀ w ∈ wsL_law_r5, w ∈ wsL_law := fun _ h => List.mem_append_left _ (List.mem_append_left _ (List.mem_append_left _ (List.mem_append_left _ (List.mem_append_left _ (List.mem_append_left _ (List.mem_append_left _ (List.mem_append_left _ (List.mem_append_right _ (List.mem_append_right _ (List.mem_append_right _ (List.mem_append_right _ (List.mem_append_left _ h))))))))))))
theorem qc5 : ∀ w ∈ wsL_law_r6, w ∈ wsL_law := fun _ h => List.mem_append_left _ (List.mem_append_left _ (List.mem_append_left _ (List.mem_append_left _ (List.mem_append_left _ (List.mem_append_left _ (List.mem_append_left _ (List.mem_append_left _ (List.mem_append_right _ (List.mem_append_right _ (List.mem_append_right _ (List.mem_append_right _ (List.mem_append_right _ (List.mem_append_left _ h)))))))))))))
theorem qc6 : ∀ w ∈ wsL_law_r7, w ∈ wsL_law := fun _ h => List.mem_append_left _ (List.mem_append_left _ (List.mem_append_left _ (List.mem_append_left _ (List.mem_append_left _ (List.mem_append_left _ (List.mem_append_left _ (List.mem_append_left _ (List.mem_append_right _ (List.mem_append_right _ (List.mem_append_right _ (List.mem_append_right _ (List.mem_append_right _ (List.mem_append_right _ (List.mem_append_left _ h))))))))))))))
theorem qc7 : ∀ w ∈ wsL_law_r8, w ∈ wsL_law := fun _ h => List.mem_append_left _ (List.mem_append_left _ (List.mem_append_left _ (List.mem_append_left _ (List.mem_append_left _ (List.mem_append_left _ (List.mem_append_left _ (List.mem_append_left _ (List.mem_append_right _ (List.mem_append_right _ (List.mem_append_right _ (List.mem_append_right _ (List.mem_append_right _ (List.mem_append_right _ (List.mem_append_right _ (List.mem_append_left _ h)))))))))))))))
theorem qc8 : ∀ w ∈ wsL_law_r9, w ∈ wsL_law := fun _ h => List.mem_append_left _ (List.mem_append_left _ (List.mem_append_left _ (List.mem_append_left _ (List.mem_append_left _ (List.mem_append_left _ (List.mem_append_left _ (List.mem_append_left _ (List.mem_append_right _ (List.mem_append_right _ (List.mem_append_right _ (List.mem_append_right _ (List.mem_append_right _ (List.mem_append_right _ (List.mem_append_right _ (List.mem_append_right _ (List.mem_append_left _ h))))))))))))))))
theorem qc9 : ∀ w ∈ wsL_law_r10, w ∈ wsL_law := fun _ h => List.mem_append_left _ (List.mem_append_left _ (List.mem_append_left _ (List.mem_append_left _ (List.mem_append_left _ (List.mem_append_left _ (List.mem_append_left _ (List.mem_append_left _ (List.mem_append_right _ (List.mem_append_right _ (List.mem_append_right _ (List.mem_append_right _ (List.mem_append_right _ (List.mem_append_right _ (List.mem_append_right _ (List.mem_append_right _ (List.mem_append_right _ (List.mem_append_left _ h)))))))))))))))))
theorem qc10 : ∀ w ∈ wsL_law_r11, w ∈ wsL_law := fun _ h => List.mem_append_left _ (List.mem_append_left _ (List.mem_append_left _ (List.mem_append_left _ (List.mem_append_left _ (List.mem_append_left _ (List.mem_append_left _ (List.mem_append_left _ (List.mem_append_right _ (List.mem_append_right _ (List.mem_append_right _ (List.mem_append_right _ (List.mem_append_right _ (List.mem_append_right _ (List.mem_append_right _ (List.mem_append_right _ (List.mem_append_right _ (List.mem_append_right _ (List.mem_append_left _ h))))))))))))))))))
theorem qc11 : ∀ w ∈ wsL_law_r12, w ∈ wsL_law := fun _ h => List.mem_append_left _ (List.mem_append_left _ (List.mem_append_left _ (List.mem_append_left _ (List.mem_append_left _ (List.mem_append_left _ (List.mem_append_left _ (List.mem_append_left _ (List.mem_append_right _ (List.mem_append_right _ (List.mem_append_right _ (List.mem_append_right _ (List.mem_append_right _ (List.mem_append_right _ (List.mem_append_right _ (List.mem_append_right _ (List.mem_append_right _ (List.mem_append_right _ (List.mem_append_right _ (List.mem_append_left _ h)))))))))))))))))))
theorem qc12 : ∀ w ∈ wsL_law_r13, w ∈ wsL_law := fun _ h => List.mem_append_left _ (List.mem_append_left _ (List.mem_append_left _ (List.mem_append_left _ (List.mem_append_left _ (List.mem_append_left _ (List.mem_append_left _ (List.mem_append_left _ (List.mem_append_right _ (List.mem_append_right _ (List.mem_append_right _ (List.mem_append_right _ (List.mem_append_right _ (List.mem_append_right _ (List.mem_append_right _ (List.mem_append_right _ (List.mem_append_right _ (List.mem_append_right _ (List.mem_append_right _ (List.mem_append_right _ (List.mem_append_left _ h))))))))))))))))))))
theorem qc13 : ∀ w ∈ wsL_law_r14, w ∈ wsL_law := fun _ h => List.mem_append_left _ (List.mem_append_left _ (List.mem_append_left _ (List.mem_append_left _ (List.mem_append_left _ (List.mem_append_left _ (List.mem_append_left _ (List.mem_append_left _ (List.mem_append_right _ (List.mem_append_right _ (List.mem_append_right _ (List.mem_append_right _ (List.mem_append_right _ (List.mem_append_right _ (List.mem_append_right _ (List.mem_append_right _ (List.mem_append_right _ (List.mem_append_right _ (List.mem_append_right _ (List.mem_append_right _ (List.mem_append_right _ (List.mem_append_left _ h)))))))))))))))))))))
theorem qc14 : ∀ w ∈ wsL_law_r15, w ∈ wsL_law := fun _ h => List.mem_append_left _ (List.mem_append_left _ (List.mem_append_left _ (List.mem_append_left _ (List.mem_append_left _ (List.mem_append_left _ (List.mem_append_left _ (List.mem_append_left _ (List.mem_append_right _ (List.mem_append_right _ (List.mem_append_right _ (List.mem_append_right _ (List.mem_append_right _ (List.mem_append_right _ (List.mem_append_right _ (List.mem_append_right _ (List.mem_append_right _ (List.mem_append_right _ (List.mem_append_right _ (List.mem_append_right _ (List.mem_append_right _ (List.mem_append_right _ (List.mem_append_left _ h))))))))))))))))))))))
theorem qc15 : ∀ w ∈ wsL_law_r16, w ∈ wsL_law := fun _ h => List.mem_append_left _ (List.mem_append_left _ (List.mem_append_left _ (List.mem_append_left _ (List.mem_append_left _ (List.mem_append_left _ (List.mem_append_left _ (List.mem_append_left _ (List.mem_append_right _ (List.mem_append_right _ (List.mem_append_right _ (List.mem_append_right _ (List.mem_append_right _ (List.mem_append_right _ (List.mem_append_right _ (List.mem_append_right _ (List.mem_append_right _ (List.mem_append_right _ (List.mem_append_right _ (List.mem_append_right _ (List.mem_append_right _ (List.mem_append_right _ (List.mem_append_right _ (List.mem_append_left _ h)))))))))))))))))))))))
theorem qc16 : ∀ w ∈ wsL_law_r17, w ∈ wsL_law := fun _ h => List.mem_append_left _ (List.mem_append_left _ (List.mem_append_left _ (List.mem_append_left _ (List.mem_append_left _ (List.mem_append_left _ (List.mem_append_left _ (List.mem_append_left _ (List.mem_append_right _ (List.mem_append_right _ (List.mem_append_right _ (List.mem_append_right _ (List.mem_append_right _ (List.mem_append_right _ (List.mem_append_right _ (List.mem_append_right _ (List.mem_append_right _ (List.mem_append_right _ (List.mem_append_right _ (List.mem_append_right _ (List.mem_append_right _ (List.mem_append_right _ (List.mem_append_right _ (List.mem_append_right _ (List.mem_append_left _ h))))))))))))))))))))))))
theorem qc17 : ∀ w ∈ wsL_law_r18, w ∈ wsL_law := fun _ h => List.mem_append_left _ (List.mem_append_left _ (List.mem_append_left _ (List.mem_append_left _ (List.mem_append_left _ (List.mem_append_left _ (List.mem_append_left _ (List.mem_append_left _ (List.mem_append_right _ (List.mem_append_right _ (List.mem_append_right _ (List.mem_append_right _ (List.mem_append_right _ (List.mem_append_right _ (List.mem_append_right _ (List.mem_append_right _ (List.mem_append_right _ (List.mem_append_right _ (List.mem_append_right _ (List.mem_append_right _ (List.mem_append_right _ (List.mem_append_right _ (List.mem_append_right _ (List.mem_append_right _ (List.mem_append_right _ (List.mem_append_left _ h)))))))))))))))))))))))))
theorem qc18 : ∀ w ∈ wsL_law_r19, w ∈ wsL_law := fun _ h => List.mem_append_left _ (List.mem_append_left _ (List.mem_append_left _ (List.mem_append_left _ (List.mem_append_left _ (List.mem_append_left _ (List.mem_append_left _ (List.mem_append_left _ (List.mem_append_right _ (List.mem_append_right _ (List.mem_append_right _ (List.mem_append_right _ (List.mem_append_right _ (List.mem_append_right _ (List.mem_append_right _ (List.mem_append_right _ (List.mem_append_right _ (List.mem_append_right _ (List.mem_append_right _ (List.mem_append_right _ (List.mem_append_right _ (List.mem_append_right _ (List.mem_append_right _ (List.mem_append_right _ (List.mem_append_right _ (List.mem_append_right _ (h))))))))))))))))))))))))))
theorem q0 : (Cond.classLink RL 16 RX6 : Cond) ∈ wsL_law := qc0 _ (List.mem_of_getElem? (i := 0) rfl)
theorem q1 : (Cond.instantiable RX6 6 : Cond) ∈ wsL_law := qc0 _ (List.mem_of_getElem? (i := 1) rfl)
theorem q2 : (Cond.initialized RX6 : Cond) ∈ wsL_law := qc0 _ (List.mem_of_getElem? (i := 2) rfl)
theorem q3 : (Cond.methodLink RL 114 yX6_init : Cond) ∈ wsL_law := qc0 _ (List.mem_of_getElem? (i := 3) rfl)
theorem q4 : (Cond.instanceMethod yX6_init : Cond) ∈ wsL_law := qc0 _ (List.mem_of_getElem? (i := 4) rfl)
theorem q5 : (Cond.code yX6_init cX6_init 1 none : Cond) ∈ wsL_law := qc0 _ (List.mem_of_getElem? (i := 5) rfl)
theorem q6 : (Cond.methodLink RX6 1 objectInit : Cond) ∈ wsL_law := qc0 _ (List.mem_of_getElem? (i := 6) rfl)
theorem q7 : (Cond.instanceMethod objectInit : Cond) ∈ wsL_law := qc0 _ (List.mem_of_getElem? (i := 7) rfl)
theorem q8 : (Cond.code objectInit ⟨#[0xb1]⟩ 1 none : Cond) ∈ wsL_law := qc0 _ (List.mem_of_getElem? (i := 8) rfl)
theorem q9 : (Cond.classLink RX6 7 RX2 : Cond) ∈ wsL_law := qc0 _ (List.mem_of_getElem? (i := 9) rfl)
theorem q10 : (Cond.instantiable RX2 6 : Cond) ∈ wsL_law := qc0 _ (List.mem_of_getElem? (i := 10) rfl)
theorem q11 : (Cond.initialized RX2 : Cond) ∈ wsL_law := qc0 _ (List.mem_of_getElem? (i := 11) rfl)
theorem q12 : (Cond.fieldLink RX6 10 "SetRepairs" "desk" "LSetRepairs$Desk;" : Cond) ∈ wsL_law := qc0 _ (List.mem_of_getElem? (i := 12) rfl)
theorem q13 : (Cond.fieldLink RX6 16 "SetRepairs" "trial" "LSetRepairs$Desk;" : Cond) ∈ wsL_law := qc0 _ (List.mem_of_getElem? (i := 13) rfl)
theorem q14 : (Cond.fieldLink RX6 19 "SetRepairs" "snapshot" "LSetRepairs$Desk;" : Cond) ∈ wsL_law := qc0 _ (List.mem_of_getElem? (i := 14) rfl)
theorem q15 : (Cond.fieldLink RX6 22 "SetRepairs" "hasSnapshot" "Z" : Cond) ∈ wsL_law := qc0 _ (List.mem_of_getElem? (i := 15) rfl)
theorem q16 : (Cond.classLink RX6 26 RX3 : Cond) ∈ wsL_law := qc0 _ (List.mem_of_getElem? (i := 16) rfl)
theorem q17 : (Cond.instantiable RX3 2 : Cond) ∈ wsL_law := qc0 _ (List.mem_of_getElem? (i := 17) rfl)
theorem q18 : (Cond.initialized RX3 : Cond) ∈ wsL_law := qc0 _ (List.mem_of_getElem? (i := 18) rfl)
theorem q19 : (Cond.fieldLink RX6 29 "SetRepairs" "history" "LSetRepairs$History;" : Cond) ∈ wsL_law := qc0 _ (List.mem_of_getElem? (i := 19) rfl)
theorem q20 : (Cond.classLink RX6 33 RX0 : Cond) ∈ wsL_law := qc0 _ (List.mem_of_getElem? (i := 20) rfl)
theorem q21 : (Cond.instantiable RX0 2 : Cond) ∈ wsL_law := qc0 _ (List.mem_of_getElem? (i := 21) rfl)
theorem q22 : (Cond.initialized RX0 : Cond) ∈ wsL_law := qc0 _ (List.mem_of_getElem? (i := 22) rfl)
theorem q23 : (Cond.fieldLink RX6 36 "SetRepairs" "text" "LSetRepairs$AnswerText;" : Cond) ∈ wsL_law := qc0 _ (List.mem_of_getElem? (i := 23) rfl)
theorem q24 : (Cond.methodLink RX6 9 yX2_init : Cond) ∈ wsL_law := qc1 _ (List.mem_of_getElem? (i := 0) rfl)
theorem q25 : (Cond.instanceMethod yX2_init : Cond) ∈ wsL_law := qc1 _ (List.mem_of_getElem? (i := 1) rfl)
theorem q26 : (Cond.code yX2_init cX2_init 1 none : Cond) ∈ wsL_law := qc1 _ (List.mem_of_getElem? (i := 2) rfl)
theorem q27 : (Cond.methodLink RX2 3 objectInit : Cond) ∈ wsL_law := qc1 _ (List.mem_of_getElem? (i := 3) rfl)
theorem q28 : (Cond.fieldLink RX2 9 "SetRepairs$Desk" "day" "I" : Cond) ∈ wsL_law := qc1 _ (List.mem_of_getElem? (i := 4) rfl)
theorem q29 : (Cond.arrayClass .float : Cond) ∈ wsL_law := qc1 _ (List.mem_of_getElem? (i := 5) rfl)
theorem q30 : (Cond.constantFloat RX2 15 (1068708659) : Cond) ∈ wsL_law := qc1 _ (List.mem_of_getElem? (i := 6) rfl)
theorem q31 : (Cond.constantFloat RX2 16 (1066192077) : Cond) ∈ wsL_law := qc1 _ (List.mem_of_getElem? (i := 7) rfl)
theorem q32 : (Cond.constantFloat RX2 17 (1103888384) : Cond) ∈ wsL_law := qc1 _ (List.mem_of_getElem? (i := 8) rfl)
theorem q33 : (Cond.constantFloat RX2 18 (1058642330) : Cond) ∈ wsL_law := qc1 _ (List.mem_of_getElem? (i := 9) rfl)
theorem q34 : (Cond.fieldLink RX2 19 "SetRepairs$Desk" "rates" "[F" : Cond) ∈ wsL_law := qc1 _ (List.mem_of_getElem? (i := 10) rfl)
theorem q35 : (Cond.arrayClass .int : Cond) ∈ wsL_law := qc1 _ (List.mem_of_getElem? (i := 11) rfl)
theorem q36 : (Cond.fieldLink RX2 23 "SetRepairs$Desk" "numbers" "[I" : Cond) ∈ wsL_law := qc1 _ (List.mem_of_getElem? (i := 12) rfl)
theorem q37 : (Cond.classLink RX2 27 RX5 : Cond) ∈ wsL_law := qc1 _ (List.mem_of_getElem? (i := 13) rfl)
theorem q38 : (Cond.instantiable RX5 8 : Cond) ∈ wsL_law := qc1 _ (List.mem_of_getElem? (i := 14) rfl)
theorem q39 : (Cond.initialized RX5 : Cond) ∈ wsL_law := qc1 _ (List.mem_of_getElem? (i := 15) rfl)
theorem q40 : (Cond.fieldLink RX2 30 "SetRepairs$Desk" "store" "LSetRepairs$Store;" : Cond) ∈ wsL_law := qc1 _ (List.mem_of_getElem? (i := 16) rfl)
theorem q41 : (Cond.classLink RX2 34 RX4 : Cond) ∈ wsL_law := qc1 _ (List.mem_of_getElem? (i := 17) rfl)
theorem q42 : (Cond.instantiable RX4 9 : Cond) ∈ wsL_law := qc1 _ (List.mem_of_getElem? (i := 18) rfl)
theorem q43 : (Cond.initialized RX4 : Cond) ∈ wsL_law := qc1 _ (List.mem_of_getElem? (i := 19) rfl)
theorem q44 : (Cond.fieldLink RX2 37 "SetRepairs$Desk" "sets" "LSetRepairs$Sets;" : Cond) ∈ wsL_law := qc1 _ (List.mem_of_getElem? (i := 20) rfl)
theorem q45 : (Cond.classLink RX2 41 RX1 : Cond) ∈ wsL_law := qc1 _ (List.mem_of_getElem? (i := 21) rfl)
theorem q46 : (Cond.instantiable RX1 6 : Cond) ∈ wsL_law := qc1 _ (List.mem_of_getElem? (i := 22) rfl)
theorem q47 : (Cond.initialized RX1 : Cond) ∈ wsL_law := qc1 _ (List.mem_of_getElem? (i := 23) rfl)
theorem q48 : (Cond.fieldLink RX2 44 "SetRepairs$Desk" "books" "LSetRepairs$Books;" : Cond) ∈ wsL_law := qc2 _ (List.mem_of_getElem? (i := 0) rfl)
theorem q49 : (Cond.methodLink RX2 29 yX5_init : Cond) ∈ wsL_law := qc2 _ (List.mem_of_getElem? (i := 1) rfl)
theorem q50 : (Cond.instanceMethod yX5_init : Cond) ∈ wsL_law := qc2 _ (List.mem_of_getElem? (i := 2) rfl)
theorem q51 : (Cond.code yX5_init cX5_init 1 none : Cond) ∈ wsL_law := qc2 _ (List.mem_of_getElem? (i := 3) rfl)
theorem q52 : (Cond.methodLink RX5 3 objectInit : Cond) ∈ wsL_law := qc2 _ (List.mem_of_getElem? (i := 4) rfl)
theorem q53 : (Cond.fieldLink RX5 9 "SetRepairs$Store" "price" "[I" : Cond) ∈ wsL_law := qc2 _ (List.mem_of_getElem? (i := 5) rfl)
theorem q54 : (Cond.fieldLink RX5 15 "SetRepairs$Store" "lead" "[I" : Cond) ∈ wsL_law := qc2 _ (List.mem_of_getElem? (i := 6) rfl)
theorem q55 : (Cond.fieldLink RX5 18 "SetRepairs$Store" "stock" "[I" : Cond) ∈ wsL_law := qc2 _ (List.mem_of_getElem? (i := 7) rfl)
theorem q56 : (Cond.fieldLink RX5 21 "SetRepairs$Store" "reserved" "[I" : Cond) ∈ wsL_law := qc2 _ (List.mem_of_getElem? (i := 8) rfl)
theorem q57 : (Cond.fieldLink RX5 24 "SetRepairs$Store" "orders" "I" : Cond) ∈ wsL_law := qc2 _ (List.mem_of_getElem? (i := 9) rfl)
theorem q58 : (Cond.fieldLink RX5 28 "SetRepairs$Store" "orderPart" "[I" : Cond) ∈ wsL_law := qc2 _ (List.mem_of_getElem? (i := 10) rfl)
theorem q59 : (Cond.fieldLink RX5 31 "SetRepairs$Store" "orderMany" "[I" : Cond) ∈ wsL_law := qc2 _ (List.mem_of_getElem? (i := 11) rfl)
theorem q60 : (Cond.fieldLink RX5 34 "SetRepairs$Store" "orderDay" "[I" : Cond) ∈ wsL_law := qc2 _ (List.mem_of_getElem? (i := 12) rfl)
theorem q61 : (Cond.methodLink RX2 36 yX4_init : Cond) ∈ wsL_law := qc2 _ (List.mem_of_getElem? (i := 13) rfl)
theorem q62 : (Cond.instanceMethod yX4_init : Cond) ∈ wsL_law := qc2 _ (List.mem_of_getElem? (i := 14) rfl)
theorem q63 : (Cond.code yX4_init cX4_init 1 none : Cond) ∈ wsL_law := qc2 _ (List.mem_of_getElem? (i := 15) rfl)
theorem q64 : (Cond.methodLink RX4 3 objectInit : Cond) ∈ wsL_law := qc2 _ (List.mem_of_getElem? (i := 16) rfl)
theorem q65 : (Cond.fieldLink RX4 9 "SetRepairs$Sets" "many" "I" : Cond) ∈ wsL_law := qc2 _ (List.mem_of_getElem? (i := 17) rfl)
theorem q66 : (Cond.fieldLink RX4 15 "SetRepairs$Sets" "fault" "[I" : Cond) ∈ wsL_law := qc2 _ (List.mem_of_getElem? (i := 18) rfl)
theorem q67 : (Cond.fieldLink RX4 19 "SetRepairs$Sets" "came" "[I" : Cond) ∈ wsL_law := qc2 _ (List.mem_of_getElem? (i := 19) rfl)
theorem q68 : (Cond.fieldLink RX4 22 "SetRepairs$Sets" "estimate" "[I" : Cond) ∈ wsL_law := qc2 _ (List.mem_of_getElem? (i := 20) rfl)
theorem q69 : (Cond.fieldLink RX4 25 "SetRepairs$Sets" "worked" "[I" : Cond) ∈ wsL_law := qc2 _ (List.mem_of_getElem? (i := 21) rfl)
theorem q70 : (Cond.fieldLink RX4 28 "SetRepairs$Sets" "bill" "[I" : Cond) ∈ wsL_law := qc2 _ (List.mem_of_getElem? (i := 22) rfl)
theorem q71 : (Cond.fieldLink RX4 31 "SetRepairs$Sets" "loaner" "[I" : Cond) ∈ wsL_law := qc2 _ (List.mem_of_getElem? (i := 23) rfl)
theorem q72 : (Cond.fieldLink RX4 34 "SetRepairs$Sets" "state" "[I" : Cond) ∈ wsL_law := qc3 _ (List.mem_of_getElem? (i := 0) rfl)
theorem q73 : (Cond.fieldLink RX4 37 "SetRepairs$Sets" "ready" "[I" : Cond) ∈ wsL_law := qc3 _ (List.mem_of_getElem? (i := 1) rfl)
theorem q74 : (Cond.instanceMethod yX1_init : Cond) ∈ wsL_law := qc3 _ (List.mem_of_getElem? (i := 2) rfl)
theorem q75 : (Cond.code yX1_init cX1_init 1 none : Cond) ∈ wsL_law := qc3 _ (List.mem_of_getElem? (i := 3) rfl)
theorem q76 : (Cond.methodLink RX1 1 objectInit : Cond) ∈ wsL_law := qc3 _ (List.mem_of_getElem? (i := 4) rfl)
theorem q77 : (Cond.methodLink RX6 28 yX3_init : Cond) ∈ wsL_law := qc3 _ (List.mem_of_getElem? (i := 5) rfl)
theorem q78 : (Cond.instanceMethod yX3_init : Cond) ∈ wsL_law := qc3 _ (List.mem_of_getElem? (i := 6) rfl)
theorem q79 : (Cond.code yX3_init cX3_init 2 none : Cond) ∈ wsL_law := qc3 _ (List.mem_of_getElem? (i := 7) rfl)
theorem q80 : (Cond.methodLink RX3 3 objectInit : Cond) ∈ wsL_law := qc3 _ (List.mem_of_getElem? (i := 8) rfl)
theorem q81 : (Cond.fieldLink RX3 9 "SetRepairs$History" "many" "I" : Cond) ∈ wsL_law := qc3 _ (List.mem_of_getElem? (i := 9) rfl)
theorem q82 : (Cond.classLink RX3 15 RX2 : Cond) ∈ wsL_law := qc3 _ (List.mem_of_getElem? (i := 10) rfl)
theorem q83 : (Cond.fieldLink RX3 17 "SetRepairs$History" "states" "[LSetRepairs$Desk;" : Cond) ∈ wsL_law := qc3 _ (List.mem_of_getElem? (i := 11) rfl)
theorem q84 : (Cond.methodLink RX3 21 yX2_init : Cond) ∈ wsL_law := qc3 _ (List.mem_of_getElem? (i := 12) rfl)
theorem q85 : (Cond.methodLink RX6 35 yX0_init : Cond) ∈ wsL_law := qc3 _ (List.mem_of_getElem? (i := 13) rfl)
theorem q86 : (Cond.instanceMethod yX0_init : Cond) ∈ wsL_law := qc3 _ (List.mem_of_getElem? (i := 14) rfl)
theorem q87 : (Cond.code yX0_init cX0_init 1 none : Cond) ∈ wsL_law := qc3 _ (List.mem_of_getElem? (i := 15) rfl)
theorem q88 : (Cond.methodLink RX0 3 objectInit : Cond) ∈ wsL_law := qc3 _ (List.mem_of_getElem? (i := 16) rfl)
theorem q89 : (Cond.fieldLink RX0 9 "SetRepairs$AnswerText" "length" "I" : Cond) ∈ wsL_law := qc3 _ (List.mem_of_getElem? (i := 17) rfl)
theorem q90 : (Cond.arrayClass .char : Cond) ∈ wsL_law := qc3 _ (List.mem_of_getElem? (i := 18) rfl)
theorem q91 : (Cond.fieldLink RX0 15 "SetRepairs$AnswerText" "characters" "[C" : Cond) ∈ wsL_law := qc3 _ (List.mem_of_getElem? (i := 19) rfl)
theorem q92 : (Cond.methodLink RL 35 yX6_count : Cond) ∈ wsL_law := qc3 _ (List.mem_of_getElem? (i := 20) rfl)
theorem q93 : (Cond.instanceMethod yX6_count : Cond) ∈ wsL_law := qc3 _ (List.mem_of_getElem? (i := 21) rfl)
theorem q94 : (Cond.selects RX6 yX6_count yX6_count : Cond) ∈ wsL_law := qc3 _ (List.mem_of_getElem? (i := 22) rfl)
theorem q95 : (Cond.code yX6_count cX6_count 2 (some .int) : Cond) ∈ wsL_law := qc3 _ (List.mem_of_getElem? (i := 23) rfl)
theorem q96 : (Cond.fieldLink RX6 73 "SetRepairs$Desk" "sets" "LSetRepairs$Sets;" : Cond) ∈ wsL_law := qc4 _ (List.mem_of_getElem? (i := 0) rfl)
theorem q97 : (Cond.fieldLink RX6 103 "SetRepairs$Desk" "day" "I" : Cond) ∈ wsL_law := qc4 _ (List.mem_of_getElem? (i := 1) rfl)
theorem q98 : (Cond.fieldLink RX6 116 "SetRepairs$Sets" "many" "I" : Cond) ∈ wsL_law := qc4 _ (List.mem_of_getElem? (i := 2) rfl)
theorem q99 : (Cond.fieldLink RX6 87 "SetRepairs$Desk" "store" "LSetRepairs$Store;" : Cond) ∈ wsL_law := qc4 _ (List.mem_of_getElem? (i := 3) rfl)
theorem q100 : (Cond.fieldLink RX6 99 "SetRepairs$Store" "orders" "I" : Cond) ∈ wsL_law := qc4 _ (List.mem_of_getElem? (i := 4) rfl)
theorem q101 : (Cond.fieldLink RX6 168 "SetRepairs$Desk" "books" "LSetRepairs$Books;" : Cond) ∈ wsL_law := qc4 _ (List.mem_of_getElem? (i := 5) rfl)
theorem q102 : (Cond.fieldLink RX6 225 "SetRepairs$Books" "billsPaid" "I" : Cond) ∈ wsL_law := qc4 _ (List.mem_of_getElem? (i := 6) rfl)
theorem q103 : (Cond.fieldLink RX6 228 "SetRepairs$Books" "feesPaid" "I" : Cond) ∈ wsL_law := qc4 _ (List.mem_of_getElem? (i := 7) rfl)
theorem q104 : (Cond.fieldLink RX6 231 "SetRepairs$Books" "soldFor" "I" : Cond) ∈ wsL_law := qc4 _ (List.mem_of_getElem? (i := 8) rfl)
theorem q105 : (Cond.fieldLink RX6 234 "SetRepairs$Books" "partsBuiltIn" "I" : Cond) ∈ wsL_law := qc4 _ (List.mem_of_getElem? (i := 9) rfl)
theorem q106 : (Cond.fieldLink RX6 187 "SetRepairs$History" "many" "I" : Cond) ∈ wsL_law := qc4 _ (List.mem_of_getElem? (i := 10) rfl)
theorem q107 : (Cond.fieldLink RX6 180 "SetRepairs$AnswerText" "length" "I" : Cond) ∈ wsL_law := qc4 _ (List.mem_of_getElem? (i := 11) rfl)
theorem q108 : (Cond.methodLink RX6 51 yX6_isWithin : Cond) ∈ wsL_law := qc4 _ (List.mem_of_getElem? (i := 12) rfl)
theorem q109 : (Cond.static yX6_isWithin : Cond) ∈ wsL_law := qc4 _ (List.mem_of_getElem? (i := 13) rfl)
theorem q110 : (Cond.code yX6_isWithin cX6_isWithin 3 (some .boolean) : Cond) ∈ wsL_law := qc4 _ (List.mem_of_getElem? (i := 14) rfl)
theorem q111 : (Cond.methodLink RX6 153 yX4_inState : Cond) ∈ wsL_law := qc4 _ (List.mem_of_getElem? (i := 15) rfl)
theorem q112 : (Cond.instanceMethod yX4_inState : Cond) ∈ wsL_law := qc4 _ (List.mem_of_getElem? (i := 16) rfl)
theorem q113 : (Cond.selects RX4 yX4_inState yX4_inState : Cond) ∈ wsL_law := qc4 _ (List.mem_of_getElem? (i := 17) rfl)
theorem q114 : (Cond.code yX4_inState cX4_inState 4 (some .int) : Cond) ∈ wsL_law := qc4 _ (List.mem_of_getElem? (i := 18) rfl)
theorem q115 : (Cond.methodLink RX6 159 yX2_loanersThere : Cond) ∈ wsL_law := qc4 _ (List.mem_of_getElem? (i := 19) rfl)
theorem q116 : (Cond.instanceMethod yX2_loanersThere : Cond) ∈ wsL_law := qc4 _ (List.mem_of_getElem? (i := 20) rfl)
theorem q117 : (Cond.selects RX2 yX2_loanersThere yX2_loanersThere : Cond) ∈ wsL_law := qc4 _ (List.mem_of_getElem? (i := 21) rfl)
theorem q118 : (Cond.code yX2_loanersThere cX2_loanersThere 1 (some .int) : Cond) ∈ wsL_law := qc4 _ (List.mem_of_getElem? (i := 22) rfl)
theorem q119 : (Cond.methodLink RX2 71 yX4_withLoaner : Cond) ∈ wsL_law := qc4 _ (List.mem_of_getElem? (i := 23) rfl)
theorem q120 : (Cond.instanceMethod yX4_withLoaner : Cond) ∈ wsL_law := qc5 _ (List.mem_of_getElem? (i := 0) rfl)
theorem q121 : (Cond.selects RX4 yX4_withLoaner yX4_withLoaner : Cond) ∈ wsL_law := qc5 _ (List.mem_of_getElem? (i := 1) rfl)
theorem q122 : (Cond.code yX4_withLoaner cX4_withLoaner 3 (some .int) : Cond) ∈ wsL_law := qc5 _ (List.mem_of_getElem? (i := 2) rfl)
theorem q123 : (Cond.methodLink RL 60 yL_cell : Cond) ∈ wsL_law := qc5 _ (List.mem_of_getElem? (i := 3) rfl)
theorem q124 : (Cond.static yL_cell : Cond) ∈ wsL_law := qc5 _ (List.mem_of_getElem? (i := 4) rfl)
theorem q125 : (Cond.initialized RL : Cond) ∈ wsL_law := qc5 _ (List.mem_of_getElem? (i := 5) rfl)
theorem q126 : (Cond.code yL_cell cL_cell 2 (some .int) : Cond) ∈ wsL_law := qc5 _ (List.mem_of_getElem? (i := 6) rfl)
theorem q127 : (Cond.constant RL 8 (40503) : Cond) ∈ wsL_law := qc5 _ (List.mem_of_getElem? (i := 7) rfl)
theorem q128 : (Cond.methodLink RL 64 yL_low : Cond) ∈ wsL_law := qc5 _ (List.mem_of_getElem? (i := 8) rfl)
theorem q129 : (Cond.static yL_low : Cond) ∈ wsL_law := qc5 _ (List.mem_of_getElem? (i := 9) rfl)
theorem q130 : (Cond.code yL_low cL_low 2 (some .int) : Cond) ∈ wsL_law := qc5 _ (List.mem_of_getElem? (i := 10) rfl)
theorem q131 : (Cond.constant RL 7 (2147483647) : Cond) ∈ wsL_law := qc5 _ (List.mem_of_getElem? (i := 11) rfl)
theorem q132 : (Cond.methodLink RL 44 yX6_doneIn : Cond) ∈ wsL_law := qc5 _ (List.mem_of_getElem? (i := 12) rfl)
theorem q133 : (Cond.instanceMethod yX6_doneIn : Cond) ∈ wsL_law := qc5 _ (List.mem_of_getElem? (i := 13) rfl)
theorem q134 : (Cond.selects RX6 yX6_doneIn yX6_doneIn : Cond) ∈ wsL_law := qc5 _ (List.mem_of_getElem? (i := 14) rfl)
theorem q135 : (Cond.code yX6_doneIn cX6_doneIn 4 (some .int) : Cond) ∈ wsL_law := qc5 _ (List.mem_of_getElem? (i := 15) rfl)
theorem q136 : (Cond.fieldLink RX6 127 "SetRepairs$Sets" "state" "[I" : Cond) ∈ wsL_law := qc5 _ (List.mem_of_getElem? (i := 16) rfl)
theorem q137 : (Cond.methodLink RX6 123 yX6_isSet : Cond) ∈ wsL_law := qc5 _ (List.mem_of_getElem? (i := 17) rfl)
theorem q138 : (Cond.instanceMethod yX6_isSet : Cond) ∈ wsL_law := qc5 _ (List.mem_of_getElem? (i := 18) rfl)
theorem q139 : (Cond.selects RX6 yX6_isSet yX6_isSet : Cond) ∈ wsL_law := qc5 _ (List.mem_of_getElem? (i := 19) rfl)
theorem q140 : (Cond.code yX6_isSet cX6_isSet 2 (some .boolean) : Cond) ∈ wsL_law := qc5 _ (List.mem_of_getElem? (i := 20) rfl)
theorem q141 : (Cond.methodLink RX6 40 yX6_isIndex : Cond) ∈ wsL_law := qc5 _ (List.mem_of_getElem? (i := 21) rfl)
theorem q142 : (Cond.static yX6_isIndex : Cond) ∈ wsL_law := qc5 _ (List.mem_of_getElem? (i := 22) rfl)
theorem q143 : (Cond.code yX6_isIndex cX6_isIndex 2 (some .boolean) : Cond) ∈ wsL_law := qc5 _ (List.mem_of_getElem? (i := 23) rfl)
theorem q144 : (Cond.methodLink RX6 146 yX2_copyFrom : Cond) ∈ wsL_law := qc6 _ (List.mem_of_getElem? (i := 0) rfl)
theorem q145 : (Cond.instanceMethod yX2_copyFrom : Cond) ∈ wsL_law := qc6 _ (List.mem_of_getElem? (i := 1) rfl)
theorem q146 : (Cond.selects RX2 yX2_copyFrom yX2_copyFrom : Cond) ∈ wsL_law := qc6 _ (List.mem_of_getElem? (i := 2) rfl)
theorem q147 : (Cond.code yX2_copyFrom cX2_copyFrom 2 none : Cond) ∈ wsL_law := qc6 _ (List.mem_of_getElem? (i := 3) rfl)
theorem q148 : (Cond.methodLink RX2 48 arraycopyName : Cond) ∈ wsL_law := qc6 _ (List.mem_of_getElem? (i := 4) rfl)
theorem q149 : (Cond.native arraycopyName : Cond) ∈ wsL_law := qc6 _ (List.mem_of_getElem? (i := 5) rfl)
theorem q150 : (Cond.static arraycopyName : Cond) ∈ wsL_law := qc6 _ (List.mem_of_getElem? (i := 6) rfl)
theorem q151 : (Cond.initialized "java/lang/System" : Cond) ∈ wsL_law := qc6 _ (List.mem_of_getElem? (i := 7) rfl)
theorem q152 : (Cond.methodLink RX2 54 yX5_copyFrom : Cond) ∈ wsL_law := qc6 _ (List.mem_of_getElem? (i := 8) rfl)
theorem q153 : (Cond.instanceMethod yX5_copyFrom : Cond) ∈ wsL_law := qc6 _ (List.mem_of_getElem? (i := 9) rfl)
theorem q154 : (Cond.selects RX5 yX5_copyFrom yX5_copyFrom : Cond) ∈ wsL_law := qc6 _ (List.mem_of_getElem? (i := 10) rfl)
theorem q155 : (Cond.code yX5_copyFrom cX5_copyFrom 2 none : Cond) ∈ wsL_law := qc6 _ (List.mem_of_getElem? (i := 11) rfl)
theorem q156 : (Cond.methodLink RX5 37 arraycopyName : Cond) ∈ wsL_law := qc6 _ (List.mem_of_getElem? (i := 12) rfl)
theorem q157 : (Cond.methodLink RX2 58 yX4_copyFrom : Cond) ∈ wsL_law := qc6 _ (List.mem_of_getElem? (i := 13) rfl)
theorem q158 : (Cond.instanceMethod yX4_copyFrom : Cond) ∈ wsL_law := qc6 _ (List.mem_of_getElem? (i := 14) rfl)
theorem q159 : (Cond.selects RX4 yX4_copyFrom yX4_copyFrom : Cond) ∈ wsL_law := qc6 _ (List.mem_of_getElem? (i := 15) rfl)
theorem q160 : (Cond.code yX4_copyFrom cX4_copyFrom 2 none : Cond) ∈ wsL_law := qc6 _ (List.mem_of_getElem? (i := 16) rfl)
theorem q161 : (Cond.methodLink RX4 40 arraycopyName : Cond) ∈ wsL_law := qc6 _ (List.mem_of_getElem? (i := 17) rfl)
theorem q162 : (Cond.methodLink RX2 61 yX1_copyFrom : Cond) ∈ wsL_law := qc6 _ (List.mem_of_getElem? (i := 18) rfl)
theorem q163 : (Cond.instanceMethod yX1_copyFrom : Cond) ∈ wsL_law := qc6 _ (List.mem_of_getElem? (i := 19) rfl)
theorem q164 : (Cond.selects RX1 yX1_copyFrom yX1_copyFrom : Cond) ∈ wsL_law := qc6 _ (List.mem_of_getElem? (i := 20) rfl)
theorem q165 : (Cond.code yX1_copyFrom cX1_copyFrom 2 none : Cond) ∈ wsL_law := qc6 _ (List.mem_of_getElem? (i := 21) rfl)
theorem q166 : (Cond.fieldLink RX1 7 "SetRepairs$Books" "billsPaid" "I" : Cond) ∈ wsL_law := qc6 _ (List.mem_of_getElem? (i := 22) rfl)
theorem q167 : (Cond.fieldLink RX1 13 "SetRepairs$Books" "feesPaid" "I" : Cond) ∈ wsL_law := qc6 _ (List.mem_of_getElem? (i := 23) rfl)
theorem q168 : (Cond.fieldLink RX1 16 "SetRepairs$Books" "soldFor" "I" : Cond) ∈ wsL_law := qc7 _ (List.mem_of_getElem? (i := 0) rfl)
theorem q169 : (Cond.fieldLink RX1 19 "SetRepairs$Books" "partsBuiltIn" "I" : Cond) ∈ wsL_law := qc7 _ (List.mem_of_getElem? (i := 1) rfl)
theorem q170 : (Cond.fieldLink RX1 22 "SetRepairs$Books" "setsDone" "I" : Cond) ∈ wsL_law := qc7 _ (List.mem_of_getElem? (i := 2) rfl)
theorem q171 : (Cond.fieldLink RX1 25 "SetRepairs$Books" "daysToDone" "I" : Cond) ∈ wsL_law := qc7 _ (List.mem_of_getElem? (i := 3) rfl)
theorem q172 : (Cond.methodLink RX6 177 yX2_passDay : Cond) ∈ wsL_law := qc7 _ (List.mem_of_getElem? (i := 4) rfl)
theorem q173 : (Cond.instanceMethod yX2_passDay : Cond) ∈ wsL_law := qc7 _ (List.mem_of_getElem? (i := 5) rfl)
theorem q174 : (Cond.selects RX2 yX2_passDay yX2_passDay : Cond) ∈ wsL_law := qc7 _ (List.mem_of_getElem? (i := 6) rfl)
theorem q175 : (Cond.code yX2_passDay cX2_passDay 2 none : Cond) ∈ wsL_law := qc7 _ (List.mem_of_getElem? (i := 7) rfl)
theorem q176 : (Cond.methodLink RX2 134 yX2_takeOrders : Cond) ∈ wsL_law := qc7 _ (List.mem_of_getElem? (i := 8) rfl)
theorem q177 : (Cond.instanceMethod yX2_takeOrders : Cond) ∈ wsL_law := qc7 _ (List.mem_of_getElem? (i := 9) rfl)
theorem q178 : (Cond.selects RX2 yX2_takeOrders yX2_takeOrders : Cond) ∈ wsL_law := qc7 _ (List.mem_of_getElem? (i := 10) rfl)
theorem q179 : (Cond.code yX2_takeOrders cX2_takeOrders 2 none : Cond) ∈ wsL_law := qc7 _ (List.mem_of_getElem? (i := 11) rfl)
theorem q180 : (Cond.fieldLink RX2 143 "SetRepairs$Store" "orders" "I" : Cond) ∈ wsL_law := qc7 _ (List.mem_of_getElem? (i := 12) rfl)
theorem q181 : (Cond.fieldLink RX2 146 "SetRepairs$Store" "orderDay" "[I" : Cond) ∈ wsL_law := qc7 _ (List.mem_of_getElem? (i := 13) rfl)
theorem q182 : (Cond.fieldLink RX2 149 "SetRepairs$Store" "stock" "[I" : Cond) ∈ wsL_law := qc7 _ (List.mem_of_getElem? (i := 14) rfl)
theorem q183 : (Cond.fieldLink RX2 152 "SetRepairs$Store" "orderPart" "[I" : Cond) ∈ wsL_law := qc7 _ (List.mem_of_getElem? (i := 15) rfl)
theorem q184 : (Cond.fieldLink RX2 155 "SetRepairs$Store" "orderMany" "[I" : Cond) ∈ wsL_law := qc7 _ (List.mem_of_getElem? (i := 16) rfl)
theorem q185 : (Cond.methodLink RX2 102 yX2_reserveParts : Cond) ∈ wsL_law := qc7 _ (List.mem_of_getElem? (i := 17) rfl)
theorem q186 : (Cond.instanceMethod yX2_reserveParts : Cond) ∈ wsL_law := qc7 _ (List.mem_of_getElem? (i := 18) rfl)
theorem q187 : (Cond.selects RX2 yX2_reserveParts yX2_reserveParts : Cond) ∈ wsL_law := qc7 _ (List.mem_of_getElem? (i := 19) rfl)
theorem q188 : (Cond.code yX2_reserveParts cX2_reserveParts 1 none : Cond) ∈ wsL_law := qc7 _ (List.mem_of_getElem? (i := 20) rfl)
theorem q189 : (Cond.methodLink RX2 105 yX2_reservePartsWhere : Cond) ∈ wsL_law := qc7 _ (List.mem_of_getElem? (i := 21) rfl)
theorem q190 : (Cond.instanceMethod yX2_reservePartsWhere : Cond) ∈ wsL_law := qc7 _ (List.mem_of_getElem? (i := 22) rfl)
theorem q191 : (Cond.selects RX2 yX2_reservePartsWhere yX2_reservePartsWhere : Cond) ∈ wsL_law := qc7 _ (List.mem_of_getElem? (i := 23) rfl)
theorem q192 : (Cond.code yX2_reservePartsWhere cX2_reservePartsWhere 4 none : Cond) ∈ wsL_law := qc8 _ (List.mem_of_getElem? (i := 0) rfl)
theorem q193 : (Cond.fieldLink RX2 78 "SetRepairs$Sets" "many" "I" : Cond) ∈ wsL_law := qc8 _ (List.mem_of_getElem? (i := 1) rfl)
theorem q194 : (Cond.fieldLink RX2 84 "SetRepairs$Sets" "fault" "[I" : Cond) ∈ wsL_law := qc8 _ (List.mem_of_getElem? (i := 2) rfl)
theorem q195 : (Cond.fieldLink RX2 81 "SetRepairs$Sets" "state" "[I" : Cond) ∈ wsL_law := qc8 _ (List.mem_of_getElem? (i := 3) rfl)
theorem q196 : (Cond.methodLink RX2 109 yX4_isTurnOf : Cond) ∈ wsL_law := qc8 _ (List.mem_of_getElem? (i := 4) rfl)
theorem q197 : (Cond.instanceMethod yX4_isTurnOf : Cond) ∈ wsL_law := qc8 _ (List.mem_of_getElem? (i := 5) rfl)
theorem q198 : (Cond.selects RX4 yX4_isTurnOf yX4_isTurnOf : Cond) ∈ wsL_law := qc8 _ (List.mem_of_getElem? (i := 6) rfl)
theorem q199 : (Cond.code yX4_isTurnOf cX4_isTurnOf 4 (some .boolean) : Cond) ∈ wsL_law := qc8 _ (List.mem_of_getElem? (i := 7) rfl)
theorem q200 : (Cond.methodLink RX2 113 yX5_lowestShort : Cond) ∈ wsL_law := qc8 _ (List.mem_of_getElem? (i := 8) rfl)
theorem q201 : (Cond.instanceMethod yX5_lowestShort : Cond) ∈ wsL_law := qc8 _ (List.mem_of_getElem? (i := 9) rfl)
theorem q202 : (Cond.selects RX5 yX5_lowestShort yX5_lowestShort : Cond) ∈ wsL_law := qc8 _ (List.mem_of_getElem? (i := 10) rfl)
theorem q203 : (Cond.code yX5_lowestShort cX5_lowestShort 3 (some .int) : Cond) ∈ wsL_law := qc8 _ (List.mem_of_getElem? (i := 11) rfl)
theorem q204 : (Cond.methodLink RX5 50 yX5_free : Cond) ∈ wsL_law := qc8 _ (List.mem_of_getElem? (i := 12) rfl)
theorem q205 : (Cond.instanceMethod yX5_free : Cond) ∈ wsL_law := qc8 _ (List.mem_of_getElem? (i := 13) rfl)
theorem q206 : (Cond.selects RX5 yX5_free yX5_free : Cond) ∈ wsL_law := qc8 _ (List.mem_of_getElem? (i := 14) rfl)
theorem q207 : (Cond.code yX5_free cX5_free 2 (some .int) : Cond) ∈ wsL_law := qc8 _ (List.mem_of_getElem? (i := 15) rfl)
theorem q208 : (Cond.methodLink RX5 46 yX5_needOf : Cond) ∈ wsL_law := qc8 _ (List.mem_of_getElem? (i := 16) rfl)
theorem q209 : (Cond.static yX5_needOf : Cond) ∈ wsL_law := qc8 _ (List.mem_of_getElem? (i := 17) rfl)
theorem q210 : (Cond.code yX5_needOf cX5_needOf 2 (some .int) : Cond) ∈ wsL_law := qc8 _ (List.mem_of_getElem? (i := 18) rfl)
theorem q211 : (Cond.methodLink RX2 116 yX5_reserveFor : Cond) ∈ wsL_law := qc8 _ (List.mem_of_getElem? (i := 19) rfl)
theorem q212 : (Cond.instanceMethod yX5_reserveFor : Cond) ∈ wsL_law := qc8 _ (List.mem_of_getElem? (i := 20) rfl)
theorem q213 : (Cond.selects RX5 yX5_reserveFor yX5_reserveFor : Cond) ∈ wsL_law := qc8 _ (List.mem_of_getElem? (i := 21) rfl)
theorem q214 : (Cond.code yX5_reserveFor cX5_reserveFor 3 none : Cond) ∈ wsL_law := qc8 _ (List.mem_of_getElem? (i := 22) rfl)
theorem q215 : (Cond.methodLink RX2 158 yX5_dropOrdersOf : Cond) ∈ wsL_law := qc8 _ (List.mem_of_getElem? (i := 23) rfl)
theorem q216 : (Cond.instanceMethod yX5_dropOrdersOf : Cond) ∈ wsL_law := qc9 _ (List.mem_of_getElem? (i := 0) rfl)
theorem q217 : (Cond.selects RX5 yX5_dropOrdersOf yX5_dropOrdersOf : Cond) ∈ wsL_law := qc9 _ (List.mem_of_getElem? (i := 1) rfl)
theorem q218 : (Cond.code yX5_dropOrdersOf cX5_dropOrdersOf 4 none : Cond) ∈ wsL_law := qc9 _ (List.mem_of_getElem? (i := 2) rfl)
theorem q219 : (Cond.methodLink RX2 137 yX2_workWhere : Cond) ∈ wsL_law := qc9 _ (List.mem_of_getElem? (i := 3) rfl)
theorem q220 : (Cond.instanceMethod yX2_workWhere : Cond) ∈ wsL_law := qc9 _ (List.mem_of_getElem? (i := 4) rfl)
theorem q221 : (Cond.selects RX2 yX2_workWhere yX2_workWhere : Cond) ∈ wsL_law := qc9 _ (List.mem_of_getElem? (i := 5) rfl)
theorem q222 : (Cond.code yX2_workWhere cX2_workWhere 7 (some .int) : Cond) ∈ wsL_law := qc9 _ (List.mem_of_getElem? (i := 6) rfl)
theorem q223 : (Cond.fieldLink RX2 161 "SetRepairs$Sets" "worked" "[I" : Cond) ∈ wsL_law := qc9 _ (List.mem_of_getElem? (i := 7) rfl)
theorem q224 : (Cond.methodLink RX2 164 Lib.Math.min.name : Cond) ∈ wsL_law := qc9 _ (List.mem_of_getElem? (i := 8) rfl)
theorem q225 : (Cond.static Lib.Math.min.name : Cond) ∈ wsL_law := qc9 _ (List.mem_of_getElem? (i := 9) rfl)
theorem q226 : (Cond.initialized "java/lang/Math" : Cond) ∈ wsL_law := qc9 _ (List.mem_of_getElem? (i := 10) rfl)
theorem q227 : (Cond.code Lib.Math.min.name Lib.Math.min.code 2 (some .int) : Cond) ∈ wsL_law := qc9 _ (List.mem_of_getElem? (i := 11) rfl)
theorem q228 : (Cond.methodLink RX2 167 yX2_finish : Cond) ∈ wsL_law := qc9 _ (List.mem_of_getElem? (i := 12) rfl)
theorem q229 : (Cond.instanceMethod yX2_finish : Cond) ∈ wsL_law := qc9 _ (List.mem_of_getElem? (i := 13) rfl)
theorem q230 : (Cond.selects RX2 yX2_finish yX2_finish : Cond) ∈ wsL_law := qc9 _ (List.mem_of_getElem? (i := 14) rfl)
theorem q231 : (Cond.code yX2_finish cX2_finish 4 none : Cond) ∈ wsL_law := qc9 _ (List.mem_of_getElem? (i := 15) rfl)
theorem q232 : (Cond.fieldLink RX2 170 "SetRepairs$Sets" "estimate" "[I" : Cond) ∈ wsL_law := qc9 _ (List.mem_of_getElem? (i := 16) rfl)
theorem q233 : (Cond.fieldLink RX2 125 "SetRepairs$Sets" "bill" "[I" : Cond) ∈ wsL_law := qc9 _ (List.mem_of_getElem? (i := 17) rfl)
theorem q234 : (Cond.fieldLink RX2 75 "SetRepairs$Sets" "ready" "[I" : Cond) ∈ wsL_law := qc9 _ (List.mem_of_getElem? (i := 18) rfl)
theorem q235 : (Cond.fieldLink RX2 179 "SetRepairs$Books" "partsBuiltIn" "I" : Cond) ∈ wsL_law := qc9 _ (List.mem_of_getElem? (i := 19) rfl)
theorem q236 : (Cond.fieldLink RX2 182 "SetRepairs$Books" "daysToDone" "I" : Cond) ∈ wsL_law := qc9 _ (List.mem_of_getElem? (i := 20) rfl)
theorem q237 : (Cond.fieldLink RX2 185 "SetRepairs$Sets" "came" "[I" : Cond) ∈ wsL_law := qc9 _ (List.mem_of_getElem? (i := 21) rfl)
theorem q238 : (Cond.fieldLink RX2 188 "SetRepairs$Books" "setsDone" "I" : Cond) ∈ wsL_law := qc9 _ (List.mem_of_getElem? (i := 22) rfl)
theorem q239 : (Cond.methodLink RX2 173 yX5_takeReservedFor : Cond) ∈ wsL_law := qc9 _ (List.mem_of_getElem? (i := 23) rfl)
theorem q240 : (Cond.instanceMethod yX5_takeReservedFor : Cond) ∈ wsL_law := qc10 _ (List.mem_of_getElem? (i := 0) rfl)
theorem q241 : (Cond.selects RX5 yX5_takeReservedFor yX5_takeReservedFor : Cond) ∈ wsL_law := qc10 _ (List.mem_of_getElem? (i := 1) rfl)
theorem q242 : (Cond.code yX5_takeReservedFor cX5_takeReservedFor 3 none : Cond) ∈ wsL_law := qc10 _ (List.mem_of_getElem? (i := 2) rfl)
theorem q243 : (Cond.methodLink RX2 176 yX2_costNow : Cond) ∈ wsL_law := qc10 _ (List.mem_of_getElem? (i := 3) rfl)
theorem q244 : (Cond.instanceMethod yX2_costNow : Cond) ∈ wsL_law := qc10 _ (List.mem_of_getElem? (i := 4) rfl)
theorem q245 : (Cond.selects RX2 yX2_costNow yX2_costNow : Cond) ∈ wsL_law := qc10 _ (List.mem_of_getElem? (i := 5) rfl)
theorem q246 : (Cond.code yX2_costNow cX2_costNow 4 (some .int) : Cond) ∈ wsL_law := qc10 _ (List.mem_of_getElem? (i := 6) rfl)
theorem q247 : (Cond.methodLink RX2 64 yX5_priceOfParts : Cond) ∈ wsL_law := qc10 _ (List.mem_of_getElem? (i := 7) rfl)
theorem q248 : (Cond.instanceMethod yX5_priceOfParts : Cond) ∈ wsL_law := qc10 _ (List.mem_of_getElem? (i := 8) rfl)
theorem q249 : (Cond.selects RX5 yX5_priceOfParts yX5_priceOfParts : Cond) ∈ wsL_law := qc10 _ (List.mem_of_getElem? (i := 9) rfl)
theorem q250 : (Cond.code yX5_priceOfParts cX5_priceOfParts 4 (some .int) : Cond) ∈ wsL_law := qc10 _ (List.mem_of_getElem? (i := 10) rfl)
theorem q251 : (Cond.methodLink RX2 140 yX2_sellUnclaimed : Cond) ∈ wsL_law := qc10 _ (List.mem_of_getElem? (i := 11) rfl)
theorem q252 : (Cond.instanceMethod yX2_sellUnclaimed : Cond) ∈ wsL_law := qc10 _ (List.mem_of_getElem? (i := 12) rfl)
theorem q253 : (Cond.selects RX2 yX2_sellUnclaimed yX2_sellUnclaimed : Cond) ∈ wsL_law := qc10 _ (List.mem_of_getElem? (i := 13) rfl)
theorem q254 : (Cond.code yX2_sellUnclaimed cX2_sellUnclaimed 2 none : Cond) ∈ wsL_law := qc10 _ (List.mem_of_getElem? (i := 14) rfl)
theorem q255 : (Cond.fieldLink RX2 195 "SetRepairs$Books" "soldFor" "I" : Cond) ∈ wsL_law := qc10 _ (List.mem_of_getElem? (i := 15) rfl)
theorem q256 : (Cond.fieldLink RX2 131 "SetRepairs$Sets" "loaner" "[I" : Cond) ∈ wsL_law := qc10 _ (List.mem_of_getElem? (i := 16) rfl)
theorem q257 : (Cond.methodLink RX2 191 yX4_isReady : Cond) ∈ wsL_law := qc10 _ (List.mem_of_getElem? (i := 17) rfl)
theorem q258 : (Cond.instanceMethod yX4_isReady : Cond) ∈ wsL_law := qc10 _ (List.mem_of_getElem? (i := 18) rfl)
theorem q259 : (Cond.selects RX4 yX4_isReady yX4_isReady : Cond) ∈ wsL_law := qc10 _ (List.mem_of_getElem? (i := 19) rfl)
theorem q260 : (Cond.code yX4_isReady cX4_isReady 2 (some .boolean) : Cond) ∈ wsL_law := qc10 _ (List.mem_of_getElem? (i := 20) rfl)
theorem q261 : (Cond.methodLink RL 115 yL_act : Cond) ∈ wsL_law := qc10 _ (List.mem_of_getElem? (i := 21) rfl)
theorem q262 : (Cond.static yL_act : Cond) ∈ wsL_law := qc10 _ (List.mem_of_getElem? (i := 22) rfl)
theorem q263 : (Cond.code yL_act cL_act 6 (some .int) : Cond) ∈ wsL_law := qc10 _ (List.mem_of_getElem? (i := 23) rfl)
theorem q264 : (Cond.constant RL 89 (40000) : Cond) ∈ wsL_law := qc11 _ (List.mem_of_getElem? (i := 0) rfl)
theorem q265 : (Cond.constant RL 97 (1065353216) : Cond) ∈ wsL_law := qc11 _ (List.mem_of_getElem? (i := 1) rfl)
theorem q266 : (Cond.methodLink RL 67 yX6_come : Cond) ∈ wsL_law := qc11 _ (List.mem_of_getElem? (i := 2) rfl)
theorem q267 : (Cond.instanceMethod yX6_come : Cond) ∈ wsL_law := qc11 _ (List.mem_of_getElem? (i := 3) rfl)
theorem q268 : (Cond.selects RX6 yX6_come yX6_come : Cond) ∈ wsL_law := qc11 _ (List.mem_of_getElem? (i := 4) rfl)
theorem q269 : (Cond.code yX6_come cX6_come 2 (some .int) : Cond) ∈ wsL_law := qc11 _ (List.mem_of_getElem? (i := 5) rfl)
theorem q270 : (Cond.methodLink RX6 63 yX3_record : Cond) ∈ wsL_law := qc11 _ (List.mem_of_getElem? (i := 6) rfl)
theorem q271 : (Cond.instanceMethod yX3_record : Cond) ∈ wsL_law := qc11 _ (List.mem_of_getElem? (i := 7) rfl)
theorem q272 : (Cond.selects RX3 yX3_record yX3_record : Cond) ∈ wsL_law := qc11 _ (List.mem_of_getElem? (i := 8) rfl)
theorem q273 : (Cond.code yX3_record cX3_record 2 none : Cond) ∈ wsL_law := qc11 _ (List.mem_of_getElem? (i := 9) rfl)
theorem q274 : (Cond.methodLink RX3 22 yX3_dropOldest : Cond) ∈ wsL_law := qc11 _ (List.mem_of_getElem? (i := 10) rfl)
theorem q275 : (Cond.instanceMethod yX3_dropOldest : Cond) ∈ wsL_law := qc11 _ (List.mem_of_getElem? (i := 11) rfl)
theorem q276 : (Cond.selects RX3 yX3_dropOldest yX3_dropOldest : Cond) ∈ wsL_law := qc11 _ (List.mem_of_getElem? (i := 12) rfl)
theorem q277 : (Cond.code yX3_dropOldest cX3_dropOldest 3 none : Cond) ∈ wsL_law := qc11 _ (List.mem_of_getElem? (i := 13) rfl)
theorem q278 : (Cond.methodLink RX3 25 yX2_copyFrom : Cond) ∈ wsL_law := qc11 _ (List.mem_of_getElem? (i := 14) rfl)
theorem q279 : (Cond.methodLink RX6 119 yX4_add : Cond) ∈ wsL_law := qc11 _ (List.mem_of_getElem? (i := 15) rfl)
theorem q280 : (Cond.instanceMethod yX4_add : Cond) ∈ wsL_law := qc11 _ (List.mem_of_getElem? (i := 16) rfl)
theorem q281 : (Cond.selects RX4 yX4_add yX4_add : Cond) ∈ wsL_law := qc11 _ (List.mem_of_getElem? (i := 17) rfl)
theorem q282 : (Cond.code yX4_add cX4_add 4 (some .int) : Cond) ∈ wsL_law := qc11 _ (List.mem_of_getElem? (i := 18) rfl)
theorem q283 : (Cond.methodLink RL 70 yX6_estimate : Cond) ∈ wsL_law := qc11 _ (List.mem_of_getElem? (i := 19) rfl)
theorem q284 : (Cond.instanceMethod yX6_estimate : Cond) ∈ wsL_law := qc11 _ (List.mem_of_getElem? (i := 20) rfl)
theorem q285 : (Cond.selects RX6 yX6_estimate yX6_estimate : Cond) ∈ wsL_law := qc11 _ (List.mem_of_getElem? (i := 21) rfl)
theorem q286 : (Cond.code yX6_estimate cX6_estimate 3 (some .int) : Cond) ∈ wsL_law := qc11 _ (List.mem_of_getElem? (i := 22) rfl)
theorem q287 : (Cond.fieldLink RX6 130 "SetRepairs$Sets" "fault" "[I" : Cond) ∈ wsL_law := qc11 _ (List.mem_of_getElem? (i := 23) rfl)
theorem q288 : (Cond.fieldLink RX6 137 "SetRepairs$Sets" "estimate" "[I" : Cond) ∈ wsL_law := qc12 _ (List.mem_of_getElem? (i := 0) rfl)
theorem q289 : (Cond.methodLink RX6 133 yX2_costNow : Cond) ∈ wsL_law := qc12 _ (List.mem_of_getElem? (i := 1) rfl)
theorem q290 : (Cond.methodLink RL 73 yX6_answer : Cond) ∈ wsL_law := qc12 _ (List.mem_of_getElem? (i := 2) rfl)
theorem q291 : (Cond.instanceMethod yX6_answer : Cond) ∈ wsL_law := qc12 _ (List.mem_of_getElem? (i := 3) rfl)
theorem q292 : (Cond.selects RX6 yX6_answer yX6_answer : Cond) ∈ wsL_law := qc12 _ (List.mem_of_getElem? (i := 4) rfl)
theorem q293 : (Cond.code yX6_answer cX6_answer 3 (some .int) : Cond) ∈ wsL_law := qc12 _ (List.mem_of_getElem? (i := 5) rfl)
theorem q294 : (Cond.methodLink RX6 140 yX2_decide : Cond) ∈ wsL_law := qc12 _ (List.mem_of_getElem? (i := 6) rfl)
theorem q295 : (Cond.instanceMethod yX2_decide : Cond) ∈ wsL_law := qc12 _ (List.mem_of_getElem? (i := 7) rfl)
theorem q296 : (Cond.selects RX2 yX2_decide yX2_decide : Cond) ∈ wsL_law := qc12 _ (List.mem_of_getElem? (i := 8) rfl)
theorem q297 : (Cond.code yX2_decide cX2_decide 3 none : Cond) ∈ wsL_law := qc12 _ (List.mem_of_getElem? (i := 9) rfl)
theorem q298 : (Cond.methodLink RL 77 yX6_put : Cond) ∈ wsL_law := qc12 _ (List.mem_of_getElem? (i := 10) rfl)
theorem q299 : (Cond.instanceMethod yX6_put : Cond) ∈ wsL_law := qc12 _ (List.mem_of_getElem? (i := 11) rfl)
theorem q300 : (Cond.selects RX6 yX6_put yX6_put : Cond) ∈ wsL_law := qc12 _ (List.mem_of_getElem? (i := 12) rfl)
theorem q301 : (Cond.code yX6_put cX6_put 3 (some .int) : Cond) ∈ wsL_law := qc12 _ (List.mem_of_getElem? (i := 13) rfl)
theorem q302 : (Cond.fieldLink RX6 110 "SetRepairs$Store" "stock" "[I" : Cond) ∈ wsL_law := qc12 _ (List.mem_of_getElem? (i := 14) rfl)
theorem q303 : (Cond.methodLink RX6 113 yX2_reserveParts : Cond) ∈ wsL_law := qc12 _ (List.mem_of_getElem? (i := 15) rfl)
theorem q304 : (Cond.methodLink RL 80 yX6_order : Cond) ∈ wsL_law := qc12 _ (List.mem_of_getElem? (i := 16) rfl)
theorem q305 : (Cond.instanceMethod yX6_order : Cond) ∈ wsL_law := qc12 _ (List.mem_of_getElem? (i := 17) rfl)
theorem q306 : (Cond.selects RX6 yX6_order yX6_order : Cond) ∈ wsL_law := qc12 _ (List.mem_of_getElem? (i := 18) rfl)
theorem q307 : (Cond.code yX6_order cX6_order 4 (some .int) : Cond) ∈ wsL_law := qc12 _ (List.mem_of_getElem? (i := 19) rfl)
theorem q308 : (Cond.fieldLink RX6 96 "SetRepairs$Store" "lead" "[I" : Cond) ∈ wsL_law := qc12 _ (List.mem_of_getElem? (i := 20) rfl)
theorem q309 : (Cond.methodLink RX6 106 yX5_addOrder : Cond) ∈ wsL_law := qc12 _ (List.mem_of_getElem? (i := 21) rfl)
theorem q310 : (Cond.instanceMethod yX5_addOrder : Cond) ∈ wsL_law := qc12 _ (List.mem_of_getElem? (i := 22) rfl)
theorem q311 : (Cond.selects RX5 yX5_addOrder yX5_addOrder : Cond) ∈ wsL_law := qc12 _ (List.mem_of_getElem? (i := 23) rfl)
theorem q312 : (Cond.code yX5_addOrder cX5_addOrder 4 none : Cond) ∈ wsL_law := qc13 _ (List.mem_of_getElem? (i := 0) rfl)
theorem q313 : (Cond.methodLink RL 83 yX6_lend : Cond) ∈ wsL_law := qc13 _ (List.mem_of_getElem? (i := 1) rfl)
theorem q314 : (Cond.instanceMethod yX6_lend : Cond) ∈ wsL_law := qc13 _ (List.mem_of_getElem? (i := 2) rfl)
theorem q315 : (Cond.selects RX6 yX6_lend yX6_lend : Cond) ∈ wsL_law := qc13 _ (List.mem_of_getElem? (i := 3) rfl)
theorem q316 : (Cond.code yX6_lend cX6_lend 2 (some .int) : Cond) ∈ wsL_law := qc13 _ (List.mem_of_getElem? (i := 4) rfl)
theorem q317 : (Cond.fieldLink RX6 156 "SetRepairs$Sets" "loaner" "[I" : Cond) ∈ wsL_law := qc13 _ (List.mem_of_getElem? (i := 5) rfl)
theorem q318 : (Cond.methodLink RL 86 yX6_collect : Cond) ∈ wsL_law := qc13 _ (List.mem_of_getElem? (i := 6) rfl)
theorem q319 : (Cond.instanceMethod yX6_collect : Cond) ∈ wsL_law := qc13 _ (List.mem_of_getElem? (i := 7) rfl)
theorem q320 : (Cond.selects RX6 yX6_collect yX6_collect : Cond) ∈ wsL_law := qc13 _ (List.mem_of_getElem? (i := 8) rfl)
theorem q321 : (Cond.code yX6_collect cX6_collect 2 (some .int) : Cond) ∈ wsL_law := qc13 _ (List.mem_of_getElem? (i := 9) rfl)
theorem q322 : (Cond.methodLink RX6 162 yX4_isReady : Cond) ∈ wsL_law := qc13 _ (List.mem_of_getElem? (i := 10) rfl)
theorem q323 : (Cond.methodLink RX6 165 yX2_handOver : Cond) ∈ wsL_law := qc13 _ (List.mem_of_getElem? (i := 11) rfl)
theorem q324 : (Cond.instanceMethod yX2_handOver : Cond) ∈ wsL_law := qc13 _ (List.mem_of_getElem? (i := 12) rfl)
theorem q325 : (Cond.selects RX2 yX2_handOver yX2_handOver : Cond) ∈ wsL_law := qc13 _ (List.mem_of_getElem? (i := 13) rfl)
theorem q326 : (Cond.code yX2_handOver cX2_handOver 3 (some .int) : Cond) ∈ wsL_law := qc13 _ (List.mem_of_getElem? (i := 14) rfl)
theorem q327 : (Cond.fieldLink RX2 122 "SetRepairs$Books" "billsPaid" "I" : Cond) ∈ wsL_law := qc13 _ (List.mem_of_getElem? (i := 15) rfl)
theorem q328 : (Cond.fieldLink RX2 128 "SetRepairs$Books" "feesPaid" "I" : Cond) ∈ wsL_law := qc13 _ (List.mem_of_getElem? (i := 16) rfl)
theorem q329 : (Cond.methodLink RX2 119 yX2_storageFee : Cond) ∈ wsL_law := qc13 _ (List.mem_of_getElem? (i := 17) rfl)
theorem q330 : (Cond.instanceMethod yX2_storageFee : Cond) ∈ wsL_law := qc13 _ (List.mem_of_getElem? (i := 18) rfl)
theorem q331 : (Cond.selects RX2 yX2_storageFee yX2_storageFee : Cond) ∈ wsL_law := qc13 _ (List.mem_of_getElem? (i := 19) rfl)
theorem q332 : (Cond.code yX2_storageFee cX2_storageFee 3 (some .int) : Cond) ∈ wsL_law := qc13 _ (List.mem_of_getElem? (i := 20) rfl)
theorem q333 : (Cond.methodLink RL 90 yX6_setPart : Cond) ∈ wsL_law := qc13 _ (List.mem_of_getElem? (i := 21) rfl)
theorem q334 : (Cond.instanceMethod yX6_setPart : Cond) ∈ wsL_law := qc13 _ (List.mem_of_getElem? (i := 22) rfl)
theorem q335 : (Cond.selects RX6 yX6_setPart yX6_setPart : Cond) ∈ wsL_law := qc13 _ (List.mem_of_getElem? (i := 23) rfl)
theorem q336 : (Cond.code yX6_setPart cX6_setPart 5 (some .int) : Cond) ∈ wsL_law := qc14 _ (List.mem_of_getElem? (i := 0) rfl)
theorem q337 : (Cond.constant RX6 86 (50000) : Cond) ∈ wsL_law := qc14 _ (List.mem_of_getElem? (i := 1) rfl)
theorem q338 : (Cond.fieldLink RX6 91 "SetRepairs$Store" "price" "[I" : Cond) ∈ wsL_law := qc14 _ (List.mem_of_getElem? (i := 2) rfl)
theorem q339 : (Cond.methodLink RL 94 yX6_setNumber : Cond) ∈ wsL_law := qc14 _ (List.mem_of_getElem? (i := 3) rfl)
theorem q340 : (Cond.instanceMethod yX6_setNumber : Cond) ∈ wsL_law := qc14 _ (List.mem_of_getElem? (i := 4) rfl)
theorem q341 : (Cond.selects RX6 yX6_setNumber yX6_setNumber : Cond) ∈ wsL_law := qc14 _ (List.mem_of_getElem? (i := 5) rfl)
theorem q342 : (Cond.code yX6_setNumber cX6_setNumber 4 (some .int) : Cond) ∈ wsL_law := qc14 _ (List.mem_of_getElem? (i := 6) rfl)
theorem q343 : (Cond.fieldLink RX6 67 "SetRepairs" "LOWEST_NUMBER" "[I" : Cond) ∈ wsL_law := qc14 _ (List.mem_of_getElem? (i := 7) rfl)
theorem q344 : (Cond.fieldLink RX6 70 "SetRepairs" "HIGHEST_NUMBER" "[I" : Cond) ∈ wsL_law := qc14 _ (List.mem_of_getElem? (i := 8) rfl)
theorem q345 : (Cond.fieldLink RX6 83 "SetRepairs$Desk" "numbers" "[I" : Cond) ∈ wsL_law := qc14 _ (List.mem_of_getElem? (i := 9) rfl)
theorem q346 : (Cond.methodLink RX6 77 yX4_withLoaner : Cond) ∈ wsL_law := qc14 _ (List.mem_of_getElem? (i := 10) rfl)
theorem q347 : (Cond.methodLink RL 98 yX6_setRate : Cond) ∈ wsL_law := qc14 _ (List.mem_of_getElem? (i := 11) rfl)
theorem q348 : (Cond.instanceMethod yX6_setRate : Cond) ∈ wsL_law := qc14 _ (List.mem_of_getElem? (i := 12) rfl)
theorem q349 : (Cond.selects RX6 yX6_setRate yX6_setRate : Cond) ∈ wsL_law := qc14 _ (List.mem_of_getElem? (i := 13) rfl)
theorem q350 : (Cond.code yX6_setRate cX6_setRate 4 (some .int) : Cond) ∈ wsL_law := qc14 _ (List.mem_of_getElem? (i := 14) rfl)
theorem q351 : (Cond.fieldLink RX6 44 "SetRepairs" "LOWEST_RATE_BITS" "[I" : Cond) ∈ wsL_law := qc14 _ (List.mem_of_getElem? (i := 15) rfl)
theorem q352 : (Cond.fieldLink RX6 48 "SetRepairs" "HIGHEST_RATE_BITS" "[I" : Cond) ∈ wsL_law := qc14 _ (List.mem_of_getElem? (i := 16) rfl)
theorem q353 : (Cond.fieldLink RX6 59 "SetRepairs$Desk" "rates" "[F" : Cond) ∈ wsL_law := qc14 _ (List.mem_of_getElem? (i := 17) rfl)
theorem q354 : (Cond.methodLink RX6 55 yX6_floatOf : Cond) ∈ wsL_law := qc14 _ (List.mem_of_getElem? (i := 18) rfl)
theorem q355 : (Cond.static yX6_floatOf : Cond) ∈ wsL_law := qc14 _ (List.mem_of_getElem? (i := 19) rfl)
theorem q356 : (Cond.code yX6_floatOf cX6_floatOf 5 (some .float) : Cond) ∈ wsL_law := qc14 _ (List.mem_of_getElem? (i := 20) rfl)
theorem q357 : (Cond.constant RX6 237 (8388607) : Cond) ∈ wsL_law := qc14 _ (List.mem_of_getElem? (i := 21) rfl)
theorem q358 : (Cond.constant RX6 238 (8388608) : Cond) ∈ wsL_law := qc14 _ (List.mem_of_getElem? (i := 22) rfl)
theorem q359 : (Cond.methodLink RL 101 yX6_undo : Cond) ∈ wsL_law := qc14 _ (List.mem_of_getElem? (i := 23) rfl)
theorem q360 : (Cond.instanceMethod yX6_undo : Cond) ∈ wsL_law := qc15 _ (List.mem_of_getElem? (i := 0) rfl)
theorem q361 : (Cond.selects RX6 yX6_undo yX6_undo : Cond) ∈ wsL_law := qc15 _ (List.mem_of_getElem? (i := 1) rfl)
theorem q362 : (Cond.code yX6_undo cX6_undo 1 (some .int) : Cond) ∈ wsL_law := qc15 _ (List.mem_of_getElem? (i := 2) rfl)
theorem q363 : (Cond.methodLink RX6 188 yX3_giveBack : Cond) ∈ wsL_law := qc15 _ (List.mem_of_getElem? (i := 3) rfl)
theorem q364 : (Cond.instanceMethod yX3_giveBack : Cond) ∈ wsL_law := qc15 _ (List.mem_of_getElem? (i := 4) rfl)
theorem q365 : (Cond.selects RX3 yX3_giveBack yX3_giveBack : Cond) ∈ wsL_law := qc15 _ (List.mem_of_getElem? (i := 5) rfl)
theorem q366 : (Cond.code yX3_giveBack cX3_giveBack 2 none : Cond) ∈ wsL_law := qc15 _ (List.mem_of_getElem? (i := 6) rfl)
theorem q367 : (Cond.methodLink RL 105 yX6_keep : Cond) ∈ wsL_law := qc15 _ (List.mem_of_getElem? (i := 7) rfl)
theorem q368 : (Cond.instanceMethod yX6_keep : Cond) ∈ wsL_law := qc15 _ (List.mem_of_getElem? (i := 8) rfl)
theorem q369 : (Cond.selects RX6 yX6_keep yX6_keep : Cond) ∈ wsL_law := qc15 _ (List.mem_of_getElem? (i := 9) rfl)
theorem q370 : (Cond.code yX6_keep cX6_keep 1 (some .int) : Cond) ∈ wsL_law := qc15 _ (List.mem_of_getElem? (i := 10) rfl)
theorem q371 : (Cond.methodLink RL 108 yX6_restore : Cond) ∈ wsL_law := qc15 _ (List.mem_of_getElem? (i := 11) rfl)
theorem q372 : (Cond.instanceMethod yX6_restore : Cond) ∈ wsL_law := qc15 _ (List.mem_of_getElem? (i := 12) rfl)
theorem q373 : (Cond.selects RX6 yX6_restore yX6_restore : Cond) ∈ wsL_law := qc15 _ (List.mem_of_getElem? (i := 13) rfl)
theorem q374 : (Cond.code yX6_restore cX6_restore 1 (some .int) : Cond) ∈ wsL_law := qc15 _ (List.mem_of_getElem? (i := 14) rfl)
theorem q375 : (Cond.methodLink RL 111 yX6_pass : Cond) ∈ wsL_law := qc15 _ (List.mem_of_getElem? (i := 15) rfl)
theorem q376 : (Cond.instanceMethod yX6_pass : Cond) ∈ wsL_law := qc15 _ (List.mem_of_getElem? (i := 16) rfl)
theorem q377 : (Cond.selects RX6 yX6_pass yX6_pass : Cond) ∈ wsL_law := qc15 _ (List.mem_of_getElem? (i := 17) rfl)
theorem q378 : (Cond.code yX6_pass cX6_pass 4 (some .int) : Cond) ∈ wsL_law := qc15 _ (List.mem_of_getElem? (i := 18) rfl)
theorem q379 : (Cond.fieldLink RX6 172 "SetRepairs$Books" "setsDone" "I" : Cond) ∈ wsL_law := qc15 _ (List.mem_of_getElem? (i := 19) rfl)
theorem q380 : (Cond.methodLink RL 38 yX6_set : Cond) ∈ wsL_law := qc15 _ (List.mem_of_getElem? (i := 20) rfl)
theorem q381 : (Cond.instanceMethod yX6_set : Cond) ∈ wsL_law := qc15 _ (List.mem_of_getElem? (i := 21) rfl)
theorem q382 : (Cond.selects RX6 yX6_set yX6_set : Cond) ∈ wsL_law := qc15 _ (List.mem_of_getElem? (i := 22) rfl)
theorem q383 : (Cond.code yX6_set cX6_set 3 (some .int) : Cond) ∈ wsL_law := qc15 _ (List.mem_of_getElem? (i := 23) rfl)
theorem q384 : (Cond.fieldLink RX6 201 "SetRepairs$Sets" "came" "[I" : Cond) ∈ wsL_law := qc16 _ (List.mem_of_getElem? (i := 0) rfl)
theorem q385 : (Cond.fieldLink RX6 204 "SetRepairs$Sets" "worked" "[I" : Cond) ∈ wsL_law := qc16 _ (List.mem_of_getElem? (i := 1) rfl)
theorem q386 : (Cond.fieldLink RX6 207 "SetRepairs$Sets" "bill" "[I" : Cond) ∈ wsL_law := qc16 _ (List.mem_of_getElem? (i := 2) rfl)
theorem q387 : (Cond.fieldLink RX6 210 "SetRepairs$Sets" "ready" "[I" : Cond) ∈ wsL_law := qc16 _ (List.mem_of_getElem? (i := 3) rfl)
theorem q388 : (Cond.methodLink RX6 213 yX2_storageFee : Cond) ∈ wsL_law := qc16 _ (List.mem_of_getElem? (i := 4) rfl)
theorem q389 : (Cond.methodLink RL 119 yL_desk : Cond) ∈ wsL_law := qc16 _ (List.mem_of_getElem? (i := 5) rfl)
theorem q390 : (Cond.static yL_desk : Cond) ∈ wsL_law := qc16 _ (List.mem_of_getElem? (i := 6) rfl)
theorem q391 : (Cond.code yL_desk cL_desk 8 (some .boolean) : Cond) ∈ wsL_law := qc16 _ (List.mem_of_getElem? (i := 7) rfl)
theorem q392 : (Cond.methodLink RL 9 yL_need : Cond) ∈ wsL_law := qc16 _ (List.mem_of_getElem? (i := 8) rfl)
theorem q393 : (Cond.static yL_need : Cond) ∈ wsL_law := qc16 _ (List.mem_of_getElem? (i := 9) rfl)
theorem q394 : (Cond.code yL_need cL_need 2 (some .int) : Cond) ∈ wsL_law := qc16 _ (List.mem_of_getElem? (i := 10) rfl)
theorem q395 : (Cond.methodLink RL 15 yX6_part : Cond) ∈ wsL_law := qc16 _ (List.mem_of_getElem? (i := 11) rfl)
theorem q396 : (Cond.instanceMethod yX6_part : Cond) ∈ wsL_law := qc16 _ (List.mem_of_getElem? (i := 12) rfl)
theorem q397 : (Cond.selects RX6 yX6_part yX6_part : Cond) ∈ wsL_law := qc16 _ (List.mem_of_getElem? (i := 13) rfl)
theorem q398 : (Cond.code yX6_part cX6_part 3 (some .int) : Cond) ∈ wsL_law := qc16 _ (List.mem_of_getElem? (i := 14) rfl)
theorem q399 : (Cond.fieldLink RX6 192 "SetRepairs$Store" "reserved" "[I" : Cond) ∈ wsL_law := qc16 _ (List.mem_of_getElem? (i := 15) rfl)
theorem q400 : (Cond.methodLink RX6 195 yX5_onOrder : Cond) ∈ wsL_law := qc16 _ (List.mem_of_getElem? (i := 16) rfl)
theorem q401 : (Cond.instanceMethod yX5_onOrder : Cond) ∈ wsL_law := qc16 _ (List.mem_of_getElem? (i := 17) rfl)
theorem q402 : (Cond.selects RX5 yX5_onOrder yX5_onOrder : Cond) ∈ wsL_law := qc16 _ (List.mem_of_getElem? (i := 18) rfl)
theorem q403 : (Cond.code yX5_onOrder cX5_onOrder 4 (some .int) : Cond) ∈ wsL_law := qc16 _ (List.mem_of_getElem? (i := 19) rfl)
theorem q404 : (Cond.methodLink RX6 198 yX2_lackingOf : Cond) ∈ wsL_law := qc16 _ (List.mem_of_getElem? (i := 20) rfl)
theorem q405 : (Cond.instanceMethod yX2_lackingOf : Cond) ∈ wsL_law := qc16 _ (List.mem_of_getElem? (i := 21) rfl)
theorem q406 : (Cond.selects RX2 yX2_lackingOf yX2_lackingOf : Cond) ∈ wsL_law := qc16 _ (List.mem_of_getElem? (i := 22) rfl)
theorem q407 : (Cond.code yX2_lackingOf cX2_lackingOf 4 (some .int) : Cond) ∈ wsL_law := qc16 _ (List.mem_of_getElem? (i := 23) rfl)
theorem q408 : (Cond.methodLink RX2 97 Lib.Math.max.name : Cond) ∈ wsL_law := qc17 _ (List.mem_of_getElem? (i := 0) rfl)
theorem q409 : (Cond.static Lib.Math.max.name : Cond) ∈ wsL_law := qc17 _ (List.mem_of_getElem? (i := 1) rfl)
theorem q410 : (Cond.code Lib.Math.max.name Lib.Math.max.code 2 (some .int) : Cond) ∈ wsL_law := qc17 _ (List.mem_of_getElem? (i := 2) rfl)
theorem q411 : (Cond.methodLink RX2 87 yX5_needOf : Cond) ∈ wsL_law := qc17 _ (List.mem_of_getElem? (i := 3) rfl)
theorem q412 : (Cond.methodLink RX2 91 yX5_free : Cond) ∈ wsL_law := qc17 _ (List.mem_of_getElem? (i := 4) rfl)
theorem q413 : (Cond.methodLink RX2 94 yX5_onOrder : Cond) ∈ wsL_law := qc17 _ (List.mem_of_getElem? (i := 5) rfl)
theorem q414 : (Cond.methodLink RL 28 yL_hours : Cond) ∈ wsL_law := qc17 _ (List.mem_of_getElem? (i := 6) rfl)
theorem q415 : (Cond.static yL_hours : Cond) ∈ wsL_law := qc17 _ (List.mem_of_getElem? (i := 7) rfl)
theorem q416 : (Cond.code yL_hours cL_hours 1 (some .int) : Cond) ∈ wsL_law := qc17 _ (List.mem_of_getElem? (i := 8) rfl)
theorem q417 : (Cond.methodLink RL 41 yX6_lacks : Cond) ∈ wsL_law := qc17 _ (List.mem_of_getElem? (i := 9) rfl)
theorem q418 : (Cond.instanceMethod yX6_lacks : Cond) ∈ wsL_law := qc17 _ (List.mem_of_getElem? (i := 10) rfl)
theorem q419 : (Cond.selects RX6 yX6_lacks yX6_lacks : Cond) ∈ wsL_law := qc17 _ (List.mem_of_getElem? (i := 11) rfl)
theorem q420 : (Cond.code yX6_lacks cX6_lacks 2 (some .int) : Cond) ∈ wsL_law := qc17 _ (List.mem_of_getElem? (i := 12) rfl)
theorem q421 : (Cond.methodLink RX6 219 yX5_lowestShort : Cond) ∈ wsL_law := qc17 _ (List.mem_of_getElem? (i := 13) rfl)
theorem q422 : (Cond.methodLink RL 47 yX6_waitsFor : Cond) ∈ wsL_law := qc17 _ (List.mem_of_getElem? (i := 14) rfl)
theorem q423 : (Cond.instanceMethod yX6_waitsFor : Cond) ∈ wsL_law := qc17 _ (List.mem_of_getElem? (i := 15) rfl)
theorem q424 : (Cond.selects RX6 yX6_waitsFor yX6_waitsFor : Cond) ∈ wsL_law := qc17 _ (List.mem_of_getElem? (i := 16) rfl)
theorem q425 : (Cond.code yX6_waitsFor cX6_waitsFor 2 (some .int) : Cond) ∈ wsL_law := qc17 _ (List.mem_of_getElem? (i := 17) rfl)
theorem q426 : (Cond.methodLink RX6 216 yX5_isEnoughOrdered : Cond) ∈ wsL_law := qc17 _ (List.mem_of_getElem? (i := 18) rfl)
theorem q427 : (Cond.instanceMethod yX5_isEnoughOrdered : Cond) ∈ wsL_law := qc17 _ (List.mem_of_getElem? (i := 19) rfl)
theorem q428 : (Cond.selects RX5 yX5_isEnoughOrdered yX5_isEnoughOrdered : Cond) ∈ wsL_law := qc17 _ (List.mem_of_getElem? (i := 20) rfl)
theorem q429 : (Cond.code yX5_isEnoughOrdered cX5_isEnoughOrdered 3 (some .boolean) : Cond) ∈ wsL_law := qc17 _ (List.mem_of_getElem? (i := 21) rfl)
theorem q430 : (Cond.methodLink RX5 54 yX5_onOrder : Cond) ∈ wsL_law := qc17 _ (List.mem_of_getElem? (i := 22) rfl)
theorem q431 : (Cond.methodLink RL 32 yX6_number : Cond) ∈ wsL_law := qc17 _ (List.mem_of_getElem? (i := 23) rfl)
theorem q432 : (Cond.instanceMethod yX6_number : Cond) ∈ wsL_law := qc18 _ (List.mem_of_getElem? (i := 0) rfl)
theorem q433 : (Cond.selects RX6 yX6_number yX6_number : Cond) ∈ wsL_law := qc18 _ (List.mem_of_getElem? (i := 1) rfl)
theorem q434 : (Cond.code yX6_number cX6_number 2 (some .int) : Cond) ∈ wsL_law := qc18 _ (List.mem_of_getElem? (i := 2) rfl)
theorem q435 : (Cond.methodLink RL 50 yX6_costOf : Cond) ∈ wsL_law := qc18 _ (List.mem_of_getElem? (i := 3) rfl)
theorem q436 : (Cond.instanceMethod yX6_costOf : Cond) ∈ wsL_law := qc18 _ (List.mem_of_getElem? (i := 4) rfl)
theorem q437 : (Cond.selects RX6 yX6_costOf yX6_costOf : Cond) ∈ wsL_law := qc18 _ (List.mem_of_getElem? (i := 5) rfl)
theorem q438 : (Cond.code yX6_costOf cX6_costOf 2 (some .int) : Cond) ∈ wsL_law := qc18 _ (List.mem_of_getElem? (i := 6) rfl)
theorem q439 : (Cond.methodLink RL 53 yL_cost : Cond) ∈ wsL_law := qc18 _ (List.mem_of_getElem? (i := 7) rfl)
theorem q440 : (Cond.static yL_cost : Cond) ∈ wsL_law := qc18 _ (List.mem_of_getElem? (i := 8) rfl)
theorem q441 : (Cond.code yL_cost cL_cost 3 (some .int) : Cond) ∈ wsL_law := qc18 _ (List.mem_of_getElem? (i := 9) rfl)
theorem q442 : (Cond.methodLink RL 20 yL_prices : Cond) ∈ wsL_law := qc18 _ (List.mem_of_getElem? (i := 10) rfl)
theorem q443 : (Cond.static yL_prices : Cond) ∈ wsL_law := qc18 _ (List.mem_of_getElem? (i := 11) rfl)
theorem q444 : (Cond.code yL_prices cL_prices 4 (some .int) : Cond) ∈ wsL_law := qc18 _ (List.mem_of_getElem? (i := 12) rfl)
theorem q445 : (Cond.methodLink RL 24 yX6_rate : Cond) ∈ wsL_law := qc18 _ (List.mem_of_getElem? (i := 13) rfl)
theorem q446 : (Cond.instanceMethod yX6_rate : Cond) ∈ wsL_law := qc18 _ (List.mem_of_getElem? (i := 14) rfl)
theorem q447 : (Cond.selects RX6 yX6_rate yX6_rate : Cond) ∈ wsL_law := qc18 _ (List.mem_of_getElem? (i := 15) rfl)
theorem q448 : (Cond.code yX6_rate cX6_rate 2 (some .float) : Cond) ∈ wsL_law := qc18 _ (List.mem_of_getElem? (i := 16) rfl)
theorem q449 : (Cond.constantFloat RX6 191 (2143289344) : Cond) ∈ wsL_law := qc18 _ (List.mem_of_getElem? (i := 17) rfl)
theorem q450 : (Cond.methodLink RL 56 yX6_meanDays : Cond) ∈ wsL_law := qc18 _ (List.mem_of_getElem? (i := 18) rfl)
theorem q451 : (Cond.instanceMethod yX6_meanDays : Cond) ∈ wsL_law := qc18 _ (List.mem_of_getElem? (i := 19) rfl)
theorem q452 : (Cond.selects RX6 yX6_meanDays yX6_meanDays : Cond) ∈ wsL_law := qc18 _ (List.mem_of_getElem? (i := 20) rfl)
theorem q453 : (Cond.code yX6_meanDays cX6_meanDays 2 (some .float) : Cond) ∈ wsL_law := qc18 _ (List.mem_of_getElem? (i := 21) rfl)
theorem q454 : (Cond.fieldLink RX6 222 "SetRepairs$Books" "daysToDone" "I" : Cond) ∈ wsL_law := qc18 _ (List.mem_of_getElem? (i := 22) rfl)
set_option maxRecDepth 100000 in
theorem qt0 : (Cond.classLink RL 16 RX6 : Cond) ∈ lw_tbl := List.mem_of_getElem? (i := 17) rfl
set_option maxRecDepth 100000 in
theorem qt1 : (Cond.instantiable RX6 6 : Cond) ∈ lw_tbl := List.mem_of_getElem? (i := 18) rfl
set_option maxRecDepth 100000 in
theorem qt2 : (Cond.initialized RX6 : Cond) ∈ lw_tbl := List.mem_of_getElem? (i := 8) rfl
set_option maxRecDepth 100000 in
theorem qt3 : (Cond.methodLink RL 114 yX6_init : Cond) ∈ lw_tbl := List.mem_of_getElem? (i := 19) rfl
set_option maxRecDepth 100000 in
theorem qt4 : (Cond.instanceMethod yX6_init : Cond) ∈ lw_tbl := List.mem_of_getElem? (i := 20) rfl
set_option maxRecDepth 100000 in
theorem qt5 : (Cond.code yX6_init cX6_init 1 none : Cond) ∈ lw_tbl := List.mem_of_getElem? (i := 21) rfl
set_option maxRecDepth 100000 in
theorem qt6 : (Cond.methodLink RX6 1 objectInit : Cond) ∈ lw_tbl := List.mem_of_getElem? (i := 22) rfl
set_option maxRecDepth 100000 in
theorem qt7 : (Cond.instanceMethod objectInit : Cond) ∈ lw_tbl := List.mem_of_getElem? (i := 23) rfl
set_option maxRecDepth 100000 in
theorem qt8 : (Cond.code objectInit ⟨#[0xb1]⟩ 1 none : Cond) ∈ lw_tbl := List.mem_of_getElem? (i := 24) rfl
set_option maxRecDepth 100000 in
theorem qt9 : (Cond.classLink RX6 7 RX2 : Cond) ∈ lw_tbl := List.mem_of_getElem? (i := 25) rfl
set_option maxRecDepth 100000 in
theorem qt10 : (Cond.instantiable RX2 6 : Cond) ∈ lw_tbl := List.mem_of_getElem? (i := 26) rfl
set_option maxRecDepth 100000 in
theorem qt11 : (Cond.initialized RX2 : Cond) ∈ lw_tbl := List.mem_of_getElem? (i := 9) rfl
set_option maxRecDepth 100000 in
theorem qt12 : (Cond.fieldLink RX6 10 "SetRepairs" "desk" "LSetRepairs$Desk;" : Cond) ∈ lw_tbl := List.mem_of_getElem? (i := 224) rfl
set_option maxRecDepth 100000 in
theorem qt13 : (Cond.fieldLink RX6 16 "SetRepairs" "trial" "LSetRepairs$Desk;" : Cond) ∈ lw_tbl := List.mem_of_getElem? (i := 225) rfl
set_option maxRecDepth 100000 in
theorem qt14 : (Cond.fieldLink RX6 19 "SetRepairs" "snapshot" "LSetRepairs$Desk;" : Cond) ∈ lw_tbl := List.mem_of_getElem? (i := 226) rfl
set_option maxRecDepth 100000 in
theorem qt15 : (Cond.fieldLink RX6 22 "SetRepairs" "hasSnapshot" "Z" : Cond) ∈ lw_tbl := List.mem_of_getElem? (i := 227) rfl
set_option maxRecDepth 100000 in
theorem qt16 : (Cond.classLink RX6 26 RX3 : Cond) ∈ lw_tbl := List.mem_of_getElem? (i := 192) rfl
set_option maxRecDepth 100000 in
theorem qt17 : (Cond.instantiable RX3 2 : Cond) ∈ lw_tbl := List.mem_of_getElem? (i := 193) rfl
set_option maxRecDepth 100000 in
theorem qt18 : (Cond.initialized RX3 : Cond) ∈ lw_tbl := List.mem_of_getElem? (i := 13) rfl
set_option maxRecDepth 100000 in
theorem qt19 : (Cond.fieldLink RX6 29 "SetRepairs" "history" "LSetRepairs$History;" : Cond) ∈ lw_tbl := List.mem_of_getElem? (i := 228) rfl
set_option maxRecDepth 100000 in
theorem qt20 : (Cond.classLink RX6 33 RX0 : Cond) ∈ lw_tbl := List.mem_of_getElem? (i := 209) rfl
set_option maxRecDepth 100000 in
theorem qt21 : (Cond.instantiable RX0 2 : Cond) ∈ lw_tbl := List.mem_of_getElem? (i := 210) rfl
set_option maxRecDepth 100000 in
theorem qt22 : (Cond.initialized RX0 : Cond) ∈ lw_tbl := List.mem_of_getElem? (i := 14) rfl
set_option maxRecDepth 100000 in
theorem qt23 : (Cond.fieldLink RX6 36 "SetRepairs" "text" "LSetRepairs$AnswerText;" : Cond) ∈ lw_tbl := List.mem_of_getElem? (i := 229) rfl
set_option maxRecDepth 100000 in
theorem qt24 : (Cond.methodLink RX6 9 yX2_init : Cond) ∈ lw_tbl := List.mem_of_getElem? (i := 27) rfl
set_option maxRecDepth 100000 in
theorem qt25 : (Cond.instanceMethod yX2_init : Cond) ∈ lw_tbl := List.mem_of_getElem? (i := 28) rfl
set_option maxRecDepth 100000 in
theorem qt26 : (Cond.code yX2_init cX2_init 1 none : Cond) ∈ lw_tbl := List.mem_of_getElem? (i := 29) rfl
set_option maxRecDepth 100000 in
theorem qt27 : (Cond.methodLink RX2 3 objectInit : Cond) ∈ lw_tbl := List.mem_of_getElem? (i := 30) rfl
set_option maxRecDepth 100000 in
theorem qt28 : (Cond.fieldLink RX2 9 "SetRepairs$Desk" "day" "I" : Cond) ∈ lw_tbl := List.mem_of_getElem? (i := 167) rfl
set_option maxRecDepth 100000 in
theorem qt29 : (Cond.arrayClass .float : Cond) ∈ lw_tbl := List.mem_of_getElem? (i := 76) rfl
set_option maxRecDepth 100000 in
theorem qt30 : (Cond.constantFloat RX2 15 (1068708659) : Cond) ∈ lw_tbl := List.mem_of_getElem? (i := 31) rfl
set_option maxRecDepth 100000 in
theorem qt31 : (Cond.constantFloat RX2 16 (1066192077) : Cond) ∈ lw_tbl := List.mem_of_getElem? (i := 32) rfl
set_option maxRecDepth 100000 in
theorem qt32 : (Cond.constantFloat RX2 17 (1103888384) : Cond) ∈ lw_tbl := List.mem_of_getElem? (i := 33) rfl
set_option maxRecDepth 100000 in
theorem qt33 : (Cond.constantFloat RX2 18 (1058642330) : Cond) ∈ lw_tbl := List.mem_of_getElem? (i := 34) rfl
set_option maxRecDepth 100000 in
theorem qt34 : (Cond.fieldLink RX2 19 "SetRepairs$Desk" "rates" "[F" : Cond) ∈ lw_tbl := List.mem_of_getElem? (i := 169) rfl
set_option maxRecDepth 100000 in
theorem qt35 : (Cond.arrayClass .int : Cond) ∈ lw_tbl := List.mem_of_getElem? (i := 77) rfl
set_option maxRecDepth 100000 in
theorem qt36 : (Cond.fieldLink RX2 23 "SetRepairs$Desk" "numbers" "[I" : Cond) ∈ lw_tbl := List.mem_of_getElem? (i := 171) rfl
set_option maxRecDepth 100000 in
theorem qt37 : (Cond.classLink RX2 27 RX5 : Cond) ∈ lw_tbl := List.mem_of_getElem? (i := 35) rfl
set_option maxRecDepth 100000 in
theorem qt38 : (Cond.instantiable RX5 8 : Cond) ∈ lw_tbl := List.mem_of_getElem? (i := 36) rfl
set_option maxRecDepth 100000 in
theorem qt39 : (Cond.initialized RX5 : Cond) ∈ lw_tbl := List.mem_of_getElem? (i := 10) rfl
set_option maxRecDepth 100000 in
theorem qt40 : (Cond.fieldLink RX2 30 "SetRepairs$Desk" "store" "LSetRepairs$Store;" : Cond) ∈ lw_tbl := List.mem_of_getElem? (i := 173) rfl
set_option maxRecDepth 100000 in
theorem qt41 : (Cond.classLink RX2 34 RX4 : Cond) ∈ lw_tbl := List.mem_of_getElem? (i := 78) rfl
set_option maxRecDepth 100000 in
theorem qt42 : (Cond.instantiable RX4 9 : Cond) ∈ lw_tbl := List.mem_of_getElem? (i := 79) rfl
set_option maxRecDepth 100000 in
theorem qt43 : (Cond.initialized RX4 : Cond) ∈ lw_tbl := List.mem_of_getElem? (i := 11) rfl
set_option maxRecDepth 100000 in
theorem qt44 : (Cond.fieldLink RX2 37 "SetRepairs$Desk" "sets" "LSetRepairs$Sets;" : Cond) ∈ lw_tbl := List.mem_of_getElem? (i := 175) rfl
set_option maxRecDepth 100000 in
theorem qt45 : (Cond.classLink RX2 41 RX1 : Cond) ∈ lw_tbl := List.mem_of_getElem? (i := 130) rfl
set_option maxRecDepth 100000 in
theorem qt46 : (Cond.instantiable RX1 6 : Cond) ∈ lw_tbl := List.mem_of_getElem? (i := 131) rfl
set_option maxRecDepth 100000 in
theorem qt47 : (Cond.initialized RX1 : Cond) ∈ lw_tbl := List.mem_of_getElem? (i := 12) rfl
set_option maxRecDepth 100000 in
theorem qt48 : (Cond.fieldLink RX2 44 "SetRepairs$Desk" "books" "LSetRepairs$Books;" : Cond) ∈ lw_tbl := List.mem_of_getElem? (i := 177) rfl
set_option maxRecDepth 100000 in
theorem qt49 : (Cond.methodLink RX2 29 yX5_init : Cond) ∈ lw_tbl := List.mem_of_getElem? (i := 37) rfl
set_option maxRecDepth 100000 in
theorem qt50 : (Cond.instanceMethod yX5_init : Cond) ∈ lw_tbl := List.mem_of_getElem? (i := 38) rfl
set_option maxRecDepth 100000 in
theorem qt51 : (Cond.code yX5_init cX5_init 1 none : Cond) ∈ lw_tbl := List.mem_of_getElem? (i := 39) rfl
set_option maxRecDepth 100000 in
theorem qt52 : (Cond.methodLink RX5 3 objectInit : Cond) ∈ lw_tbl := List.mem_of_getElem? (i := 40) rfl
set_option maxRecDepth 100000 in
theorem qt53 : (Cond.fieldLink RX5 9 "SetRepairs$Store" "price" "[I" : Cond) ∈ lw_tbl := List.mem_of_getElem? (i := 41) rfl
set_option maxRecDepth 100000 in
theorem qt54 : (Cond.fieldLink RX5 15 "SetRepairs$Store" "lead" "[I" : Cond) ∈ lw_tbl := List.mem_of_getElem? (i := 43) rfl
set_option maxRecDepth 100000 in
theorem qt55 : (Cond.fieldLink RX5 18 "SetRepairs$Store" "stock" "[I" : Cond) ∈ lw_tbl := List.mem_of_getElem? (i := 45) rfl
set_option maxRecDepth 100000 in
theorem qt56 : (Cond.fieldLink RX5 21 "SetRepairs$Store" "reserved" "[I" : Cond) ∈ lw_tbl := List.mem_of_getElem? (i := 48) rfl
set_option maxRecDepth 100000 in
theorem qt57 : (Cond.fieldLink RX5 24 "SetRepairs$Store" "orders" "I" : Cond) ∈ lw_tbl := List.mem_of_getElem? (i := 50) rfl
set_option maxRecDepth 100000 in
theorem qt58 : (Cond.fieldLink RX5 28 "SetRepairs$Store" "orderPart" "[I" : Cond) ∈ lw_tbl := List.mem_of_getElem? (i := 53) rfl
set_option maxRecDepth 100000 in
theorem qt59 : (Cond.fieldLink RX5 31 "SetRepairs$Store" "orderMany" "[I" : Cond) ∈ lw_tbl := List.mem_of_getElem? (i := 55) rfl
set_option maxRecDepth 100000 in
theorem qt60 : (Cond.fieldLink RX5 34 "SetRepairs$Store" "orderDay" "[I" : Cond) ∈ lw_tbl := List.mem_of_getElem? (i := 57) rfl
set_option maxRecDepth 100000 in
theorem qt61 : (Cond.methodLink RX2 36 yX4_init : Cond) ∈ lw_tbl := List.mem_of_getElem? (i := 80) rfl
set_option maxRecDepth 100000 in
theorem qt62 : (Cond.instanceMethod yX4_init : Cond) ∈ lw_tbl := List.mem_of_getElem? (i := 81) rfl
set_option maxRecDepth 100000 in
theorem qt63 : (Cond.code yX4_init cX4_init 1 none : Cond) ∈ lw_tbl := List.mem_of_getElem? (i := 82) rfl
set_option maxRecDepth 100000 in
theorem qt64 : (Cond.methodLink RX4 3 objectInit : Cond) ∈ lw_tbl := List.mem_of_getElem? (i := 83) rfl
set_option maxRecDepth 100000 in
theorem qt65 : (Cond.fieldLink RX4 9 "SetRepairs$Sets" "many" "I" : Cond) ∈ lw_tbl := List.mem_of_getElem? (i := 84) rfl
set_option maxRecDepth 100000 in
theorem qt66 : (Cond.fieldLink RX4 15 "SetRepairs$Sets" "fault" "[I" : Cond) ∈ lw_tbl := List.mem_of_getElem? (i := 87) rfl
set_option maxRecDepth 100000 in
theorem qt67 : (Cond.fieldLink RX4 19 "SetRepairs$Sets" "came" "[I" : Cond) ∈ lw_tbl := List.mem_of_getElem? (i := 90) rfl
set_option maxRecDepth 100000 in
theorem qt68 : (Cond.fieldLink RX4 22 "SetRepairs$Sets" "estimate" "[I" : Cond) ∈ lw_tbl := List.mem_of_getElem? (i := 93) rfl
set_option maxRecDepth 100000 in
theorem qt69 : (Cond.fieldLink RX4 25 "SetRepairs$Sets" "worked" "[I" : Cond) ∈ lw_tbl := List.mem_of_getElem? (i := 96) rfl
set_option maxRecDepth 100000 in
theorem qt70 : (Cond.fieldLink RX4 28 "SetRepairs$Sets" "bill" "[I" : Cond) ∈ lw_tbl := List.mem_of_getElem? (i := 99) rfl
set_option maxRecDepth 100000 in
theorem qt71 : (Cond.fieldLink RX4 31 "SetRepairs$Sets" "loaner" "[I" : Cond) ∈ lw_tbl := List.mem_of_getElem? (i := 102) rfl
set_option maxRecDepth 100000 in
theorem qt72 : (Cond.fieldLink RX4 34 "SetRepairs$Sets" "state" "[I" : Cond) ∈ lw_tbl := List.mem_of_getElem? (i := 105) rfl
set_option maxRecDepth 100000 in
theorem qt73 : (Cond.fieldLink RX4 37 "SetRepairs$Sets" "ready" "[I" : Cond) ∈ lw_tbl := List.mem_of_getElem? (i := 108) rfl
set_option maxRecDepth 100000 in
theorem qt74 : (Cond.instanceMethod yX1_init : Cond) ∈ lw_tbl := List.mem_of_getElem? (i := 133) rfl
set_option maxRecDepth 100000 in
theorem qt75 : (Cond.code yX1_init cX1_init 1 none : Cond) ∈ lw_tbl := List.mem_of_getElem? (i := 134) rfl
set_option maxRecDepth 100000 in
theorem qt76 : (Cond.methodLink RX1 1 objectInit : Cond) ∈ lw_tbl := List.mem_of_getElem? (i := 135) rfl
set_option maxRecDepth 100000 in
theorem qt77 : (Cond.methodLink RX6 28 yX3_init : Cond) ∈ lw_tbl := List.mem_of_getElem? (i := 194) rfl
set_option maxRecDepth 100000 in
theorem qt78 : (Cond.instanceMethod yX3_init : Cond) ∈ lw_tbl := List.mem_of_getElem? (i := 195) rfl
set_option maxRecDepth 100000 in
theorem qt79 : (Cond.code yX3_init cX3_init 2 none : Cond) ∈ lw_tbl := List.mem_of_getElem? (i := 196) rfl
set_option maxRecDepth 100000 in
theorem qt80 : (Cond.methodLink RX3 3 objectInit : Cond) ∈ lw_tbl := List.mem_of_getElem? (i := 197) rfl
set_option maxRecDepth 100000 in
theorem qt81 : (Cond.fieldLink RX3 9 "SetRepairs$History" "many" "I" : Cond) ∈ lw_tbl := List.mem_of_getElem? (i := 201) rfl
set_option maxRecDepth 100000 in
theorem qt82 : (Cond.classLink RX3 15 RX2 : Cond) ∈ lw_tbl := List.mem_of_getElem? (i := 198) rfl
set_option maxRecDepth 100000 in
theorem qt83 : (Cond.fieldLink RX3 17 "SetRepairs$History" "states" "[LSetRepairs$Desk;" : Cond) ∈ lw_tbl := List.mem_of_getElem? (i := 203) rfl
set_option maxRecDepth 100000 in
theorem qt84 : (Cond.methodLink RX3 21 yX2_init : Cond) ∈ lw_tbl := List.mem_of_getElem? (i := 200) rfl
set_option maxRecDepth 100000 in
theorem qt85 : (Cond.methodLink RX6 35 yX0_init : Cond) ∈ lw_tbl := List.mem_of_getElem? (i := 211) rfl
set_option maxRecDepth 100000 in
theorem qt86 : (Cond.instanceMethod yX0_init : Cond) ∈ lw_tbl := List.mem_of_getElem? (i := 212) rfl
set_option maxRecDepth 100000 in
theorem qt87 : (Cond.code yX0_init cX0_init 1 none : Cond) ∈ lw_tbl := List.mem_of_getElem? (i := 213) rfl
set_option maxRecDepth 100000 in
theorem qt88 : (Cond.methodLink RX0 3 objectInit : Cond) ∈ lw_tbl := List.mem_of_getElem? (i := 214) rfl
set_option maxRecDepth 100000 in
theorem qt89 : (Cond.fieldLink RX0 9 "SetRepairs$AnswerText" "length" "I" : Cond) ∈ lw_tbl := List.mem_of_getElem? (i := 215) rfl
set_option maxRecDepth 100000 in
theorem qt90 : (Cond.arrayClass .char : Cond) ∈ lw_tbl := List.mem_of_getElem? (i := 223) rfl
set_option maxRecDepth 100000 in
theorem qt91 : (Cond.fieldLink RX0 15 "SetRepairs$AnswerText" "characters" "[C" : Cond) ∈ lw_tbl := List.mem_of_getElem? (i := 217) rfl
set_option maxRecDepth 100000 in
theorem qt92 : (Cond.methodLink RL 35 yX6_count : Cond) ∈ lw_tbl := List.mem_of_getElem? (i := 358) rfl
set_option maxRecDepth 100000 in
theorem qt93 : (Cond.instanceMethod yX6_count : Cond) ∈ lw_tbl := List.mem_of_getElem? (i := 359) rfl
set_option maxRecDepth 100000 in
theorem qt94 : (Cond.selects RX6 yX6_count yX6_count : Cond) ∈ lw_tbl := List.mem_of_getElem? (i := 360) rfl
set_option maxRecDepth 100000 in
theorem qt95 : (Cond.code yX6_count cX6_count 2 (some .int) : Cond) ∈ lw_tbl := List.mem_of_getElem? (i := 361) rfl
set_option maxRecDepth 100000 in
theorem qt96 : (Cond.fieldLink RX6 73 "SetRepairs$Desk" "sets" "LSetRepairs$Sets;" : Cond) ∈ lw_tbl := List.mem_of_getElem? (i := 176) rfl
set_option maxRecDepth 100000 in
theorem qt97 : (Cond.fieldLink RX6 103 "SetRepairs$Desk" "day" "I" : Cond) ∈ lw_tbl := List.mem_of_getElem? (i := 168) rfl
set_option maxRecDepth 100000 in
theorem qt98 : (Cond.fieldLink RX6 116 "SetRepairs$Sets" "many" "I" : Cond) ∈ lw_tbl := List.mem_of_getElem? (i := 86) rfl
set_option maxRecDepth 100000 in
theorem qt99 : (Cond.fieldLink RX6 87 "SetRepairs$Desk" "store" "LSetRepairs$Store;" : Cond) ∈ lw_tbl := List.mem_of_getElem? (i := 174) rfl
set_option maxRecDepth 100000 in
theorem qt100 : (Cond.fieldLink RX6 99 "SetRepairs$Store" "orders" "I" : Cond) ∈ lw_tbl := List.mem_of_getElem? (i := 51) rfl
set_option maxRecDepth 100000 in
theorem qt101 : (Cond.fieldLink RX6 168 "SetRepairs$Desk" "books" "LSetRepairs$Books;" : Cond) ∈ lw_tbl := List.mem_of_getElem? (i := 178) rfl
set_option maxRecDepth 100000 in
theorem qt102 : (Cond.fieldLink RX6 225 "SetRepairs$Books" "billsPaid" "I" : Cond) ∈ lw_tbl := List.mem_of_getElem? (i := 138) rfl
set_option maxRecDepth 100000 in
theorem qt103 : (Cond.fieldLink RX6 228 "SetRepairs$Books" "feesPaid" "I" : Cond) ∈ lw_tbl := List.mem_of_getElem? (i := 141) rfl
set_option maxRecDepth 100000 in
theorem qt104 : (Cond.fieldLink RX6 231 "SetRepairs$Books" "soldFor" "I" : Cond) ∈ lw_tbl := List.mem_of_getElem? (i := 144) rfl
set_option maxRecDepth 100000 in
theorem qt105 : (Cond.fieldLink RX6 234 "SetRepairs$Books" "partsBuiltIn" "I" : Cond) ∈ lw_tbl := List.mem_of_getElem? (i := 147) rfl
set_option maxRecDepth 100000 in
theorem qt106 : (Cond.fieldLink RX6 187 "SetRepairs$History" "many" "I" : Cond) ∈ lw_tbl := List.mem_of_getElem? (i := 202) rfl
set_option maxRecDepth 100000 in
theorem qt107 : (Cond.fieldLink RX6 180 "SetRepairs$AnswerText" "length" "I" : Cond) ∈ lw_tbl := List.mem_of_getElem? (i := 216) rfl
set_option maxRecDepth 100000 in
theorem qt108 : (Cond.methodLink RX6 51 yX6_isWithin : Cond) ∈ lw_tbl := List.mem_of_getElem? (i := 362) rfl
set_option maxRecDepth 100000 in
theorem qt109 : (Cond.static yX6_isWithin : Cond) ∈ lw_tbl := List.mem_of_getElem? (i := 363) rfl
set_option maxRecDepth 100000 in
theorem qt110 : (Cond.code yX6_isWithin cX6_isWithin 3 (some .boolean) : Cond) ∈ lw_tbl := List.mem_of_getElem? (i := 364) rfl
set_option maxRecDepth 100000 in
theorem qt111 : (Cond.methodLink RX6 153 yX4_inState : Cond) ∈ lw_tbl := List.mem_of_getElem? (i := 365) rfl
set_option maxRecDepth 100000 in
theorem qt112 : (Cond.instanceMethod yX4_inState : Cond) ∈ lw_tbl := List.mem_of_getElem? (i := 366) rfl
set_option maxRecDepth 100000 in
theorem qt113 : (Cond.selects RX4 yX4_inState yX4_inState : Cond) ∈ lw_tbl := List.mem_of_getElem? (i := 367) rfl
set_option maxRecDepth 100000 in
theorem qt114 : (Cond.code yX4_inState cX4_inState 4 (some .int) : Cond) ∈ lw_tbl := List.mem_of_getElem? (i := 368) rfl
set_option maxRecDepth 100000 in
theorem qt115 : (Cond.methodLink RX6 159 yX2_loanersThere : Cond) ∈ lw_tbl := List.mem_of_getElem? (i := 369) rfl
set_option maxRecDepth 100000 in
theorem qt116 : (Cond.instanceMethod yX2_loanersThere : Cond) ∈ lw_tbl := List.mem_of_getElem? (i := 370) rfl
set_option maxRecDepth 100000 in
theorem qt117 : (Cond.selects RX2 yX2_loanersThere yX2_loanersThere : Cond) ∈ lw_tbl := List.mem_of_getElem? (i := 371) rfl
set_option maxRecDepth 100000 in
theorem qt118 : (Cond.code yX2_loanersThere cX2_loanersThere 1 (some .int) : Cond) ∈ lw_tbl := List.mem_of_getElem? (i := 372) rfl
set_option maxRecDepth 100000 in
theorem qt119 : (Cond.methodLink RX2 71 yX4_withLoaner : Cond) ∈ lw_tbl := List.mem_of_getElem? (i := 373) rfl
set_option maxRecDepth 100000 in
theorem qt120 : (Cond.instanceMethod yX4_withLoaner : Cond) ∈ lw_tbl := List.mem_of_getElem? (i := 374) rfl
set_option maxRecDepth 100000 in
theorem qt121 : (Cond.selects RX4 yX4_withLoaner yX4_withLoaner : Cond) ∈ lw_tbl := List.mem_of_getElem? (i := 375) rfl
set_option maxRecDepth 100000 in
theorem qt122 : (Cond.code yX4_withLoaner cX4_withLoaner 3 (some .int) : Cond) ∈ lw_tbl := List.mem_of_getElem? (i := 376) rfl
set_option maxRecDepth 100000 in
theorem qt123 : (Cond.methodLink RL 60 yL_cell : Cond) ∈ lw_tbl := List.mem_of_getElem? (i := 381) rfl
set_option maxRecDepth 100000 in
theorem qt124 : (Cond.static yL_cell : Cond) ∈ lw_tbl := List.mem_of_getElem? (i := 382) rfl
set_option maxRecDepth 100000 in
theorem qt125 : (Cond.initialized RL : Cond) ∈ lw_tbl := List.mem_of_getElem? (i := 7) rfl
set_option maxRecDepth 100000 in
theorem qt126 : (Cond.code yL_cell cL_cell 2 (some .int) : Cond) ∈ lw_tbl := List.mem_of_getElem? (i := 383) rfl
set_option maxRecDepth 100000 in
theorem qt127 : (Cond.constant RL 8 (40503) : Cond) ∈ lw_tbl := List.mem_of_getElem? (i := 384) rfl
set_option maxRecDepth 100000 in
theorem qt128 : (Cond.methodLink RL 64 yL_low : Cond) ∈ lw_tbl := List.mem_of_getElem? (i := 377) rfl
set_option maxRecDepth 100000 in
theorem qt129 : (Cond.static yL_low : Cond) ∈ lw_tbl := List.mem_of_getElem? (i := 378) rfl
set_option maxRecDepth 100000 in
theorem qt130 : (Cond.code yL_low cL_low 2 (some .int) : Cond) ∈ lw_tbl := List.mem_of_getElem? (i := 379) rfl
set_option maxRecDepth 100000 in
theorem qt131 : (Cond.constant RL 7 (2147483647) : Cond) ∈ lw_tbl := List.mem_of_getElem? (i := 380) rfl
set_option maxRecDepth 100000 in
theorem qt132 : (Cond.methodLink RL 44 yX6_doneIn : Cond) ∈ lw_tbl := List.mem_of_getElem? (i := 262) rfl
set_option maxRecDepth 100000 in
theorem qt133 : (Cond.instanceMethod yX6_doneIn : Cond) ∈ lw_tbl := List.mem_of_getElem? (i := 263) rfl
set_option maxRecDepth 100000 in
theorem qt134 : (Cond.selects RX6 yX6_doneIn yX6_doneIn : Cond) ∈ lw_tbl := List.mem_of_getElem? (i := 264) rfl
set_option maxRecDepth 100000 in
theorem qt135 : (Cond.code yX6_doneIn cX6_doneIn 4 (some .int) : Cond) ∈ lw_tbl := List.mem_of_getElem? (i := 265) rfl
set_option maxRecDepth 100000 in
theorem qt136 : (Cond.fieldLink RX6 127 "SetRepairs$Sets" "state" "[I" : Cond) ∈ lw_tbl := List.mem_of_getElem? (i := 107) rfl
set_option maxRecDepth 100000 in
theorem qt137 : (Cond.methodLink RX6 123 yX6_isSet : Cond) ∈ lw_tbl := List.mem_of_getElem? (i := 247) rfl
set_option maxRecDepth 100000 in
theorem qt138 : (Cond.instanceMethod yX6_isSet : Cond) ∈ lw_tbl := List.mem_of_getElem? (i := 249) rfl
set_option maxRecDepth 100000 in
theorem qt139 : (Cond.selects RX6 yX6_isSet yX6_isSet : Cond) ∈ lw_tbl := List.mem_of_getElem? (i := 0) rfl
set_option maxRecDepth 100000 in
theorem qt140 : (Cond.code yX6_isSet cX6_isSet 2 (some .boolean) : Cond) ∈ lw_tbl := List.mem_of_getElem? (i := 250) rfl
set_option maxRecDepth 100000 in
theorem qt141 : (Cond.methodLink RX6 40 yX6_isIndex : Cond) ∈ lw_tbl := List.mem_of_getElem? (i := 251) rfl
set_option maxRecDepth 100000 in
theorem qt142 : (Cond.static yX6_isIndex : Cond) ∈ lw_tbl := List.mem_of_getElem? (i := 252) rfl
set_option maxRecDepth 100000 in
theorem qt143 : (Cond.code yX6_isIndex cX6_isIndex 2 (some .boolean) : Cond) ∈ lw_tbl := List.mem_of_getElem? (i := 253) rfl
set_option maxRecDepth 100000 in
theorem qt144 : (Cond.methodLink RX6 146 yX2_copyFrom : Cond) ∈ lw_tbl := List.mem_of_getElem? (i := 266) rfl
set_option maxRecDepth 100000 in
theorem qt145 : (Cond.instanceMethod yX2_copyFrom : Cond) ∈ lw_tbl := List.mem_of_getElem? (i := 267) rfl
set_option maxRecDepth 100000 in
theorem qt146 : (Cond.selects RX2 yX2_copyFrom yX2_copyFrom : Cond) ∈ lw_tbl := List.mem_of_getElem? (i := 268) rfl
set_option maxRecDepth 100000 in
theorem qt147 : (Cond.code yX2_copyFrom cX2_copyFrom 2 none : Cond) ∈ lw_tbl := List.mem_of_getElem? (i := 269) rfl
set_option maxRecDepth 100000 in
theorem qt148 : (Cond.methodLink RX2 48 arraycopyName : Cond) ∈ lw_tbl := List.mem_of_getElem? (i := 270) rfl
set_option maxRecDepth 100000 in
theorem qt149 : (Cond.native arraycopyName : Cond) ∈ lw_tbl := List.mem_of_getElem? (i := 272) rfl
set_option maxRecDepth 100000 in
theorem qt150 : (Cond.static arraycopyName : Cond) ∈ lw_tbl := List.mem_of_getElem? (i := 271) rfl
set_option maxRecDepth 100000 in
theorem qt151 : (Cond.initialized "java/lang/System" : Cond) ∈ lw_tbl := List.mem_of_getElem? (i := 15) rfl
set_option maxRecDepth 100000 in
theorem qt152 : (Cond.methodLink RX2 54 yX5_copyFrom : Cond) ∈ lw_tbl := List.mem_of_getElem? (i := 273) rfl
set_option maxRecDepth 100000 in
theorem qt153 : (Cond.instanceMethod yX5_copyFrom : Cond) ∈ lw_tbl := List.mem_of_getElem? (i := 274) rfl
set_option maxRecDepth 100000 in
theorem qt154 : (Cond.selects RX5 yX5_copyFrom yX5_copyFrom : Cond) ∈ lw_tbl := List.mem_of_getElem? (i := 275) rfl
set_option maxRecDepth 100000 in
theorem qt155 : (Cond.code yX5_copyFrom cX5_copyFrom 2 none : Cond) ∈ lw_tbl := List.mem_of_getElem? (i := 276) rfl
set_option maxRecDepth 100000 in
theorem qt156 : (Cond.methodLink RX5 37 arraycopyName : Cond) ∈ lw_tbl := List.mem_of_getElem? (i := 277) rfl
set_option maxRecDepth 100000 in
theorem qt157 : (Cond.methodLink RX2 58 yX4_copyFrom : Cond) ∈ lw_tbl := List.mem_of_getElem? (i := 278) rfl
set_option maxRecDepth 100000 in
theorem qt158 : (Cond.instanceMethod yX4_copyFrom : Cond) ∈ lw_tbl := List.mem_of_getElem? (i := 279) rfl
set_option maxRecDepth 100000 in
theorem qt159 : (Cond.selects RX4 yX4_copyFrom yX4_copyFrom : Cond) ∈ lw_tbl := List.mem_of_getElem? (i := 280) rfl
set_option maxRecDepth 100000 in
theorem qt160 : (Cond.code yX4_copyFrom cX4_copyFrom 2 none : Cond) ∈ lw_tbl := List.mem_of_getElem? (i := 281) rfl
set_option maxRecDepth 100000 in
theorem qt161 : (Cond.methodLink RX4 40 arraycopyName : Cond) ∈ lw_tbl := List.mem_of_getElem? (i := 282) rfl
set_option maxRecDepth 100000 in
theorem qt162 : (Cond.methodLink RX2 61 yX1_copyFrom : Cond) ∈ lw_tbl := List.mem_of_getElem? (i := 283) rfl
set_option maxRecDepth 100000 in
theorem qt163 : (Cond.instanceMethod yX1_copyFrom : Cond) ∈ lw_tbl := List.mem_of_getElem? (i := 284) rfl
set_option maxRecDepth 100000 in
theorem qt164 : (Cond.selects RX1 yX1_copyFrom yX1_copyFrom : Cond) ∈ lw_tbl := List.mem_of_getElem? (i := 285) rfl
set_option maxRecDepth 100000 in
theorem qt165 : (Cond.code yX1_copyFrom cX1_copyFrom 2 none : Cond) ∈ lw_tbl := List.mem_of_getElem? (i := 286) rfl
set_option maxRecDepth 100000 in
theorem qt166 : (Cond.fieldLink RX1 7 "SetRepairs$Books" "billsPaid" "I" : Cond) ∈ lw_tbl := List.mem_of_getElem? (i := 136) rfl
set_option maxRecDepth 100000 in
theorem qt167 : (Cond.fieldLink RX1 13 "SetRepairs$Books" "feesPaid" "I" : Cond) ∈ lw_tbl := List.mem_of_getElem? (i := 139) rfl
set_option maxRecDepth 100000 in
theorem qt168 : (Cond.fieldLink RX1 16 "SetRepairs$Books" "soldFor" "I" : Cond) ∈ lw_tbl := List.mem_of_getElem? (i := 142) rfl
set_option maxRecDepth 100000 in
theorem qt169 : (Cond.fieldLink RX1 19 "SetRepairs$Books" "partsBuiltIn" "I" : Cond) ∈ lw_tbl := List.mem_of_getElem? (i := 145) rfl
set_option maxRecDepth 100000 in
theorem qt170 : (Cond.fieldLink RX1 22 "SetRepairs$Books" "setsDone" "I" : Cond) ∈ lw_tbl := List.mem_of_getElem? (i := 148) rfl
set_option maxRecDepth 100000 in
theorem qt171 : (Cond.fieldLink RX1 25 "SetRepairs$Books" "daysToDone" "I" : Cond) ∈ lw_tbl := List.mem_of_getElem? (i := 151) rfl
set_option maxRecDepth 100000 in
theorem qt172 : (Cond.methodLink RX6 177 yX2_passDay : Cond) ∈ lw_tbl := List.mem_of_getElem? (i := 287) rfl
set_option maxRecDepth 100000 in
theorem qt173 : (Cond.instanceMethod yX2_passDay : Cond) ∈ lw_tbl := List.mem_of_getElem? (i := 288) rfl
set_option maxRecDepth 100000 in
theorem qt174 : (Cond.selects RX2 yX2_passDay yX2_passDay : Cond) ∈ lw_tbl := List.mem_of_getElem? (i := 289) rfl
set_option maxRecDepth 100000 in
theorem qt175 : (Cond.code yX2_passDay cX2_passDay 2 none : Cond) ∈ lw_tbl := List.mem_of_getElem? (i := 290) rfl
set_option maxRecDepth 100000 in
theorem qt176 : (Cond.methodLink RX2 134 yX2_takeOrders : Cond) ∈ lw_tbl := List.mem_of_getElem? (i := 291) rfl
set_option maxRecDepth 100000 in
theorem qt177 : (Cond.instanceMethod yX2_takeOrders : Cond) ∈ lw_tbl := List.mem_of_getElem? (i := 293) rfl
set_option maxRecDepth 100000 in
theorem qt178 : (Cond.selects RX2 yX2_takeOrders yX2_takeOrders : Cond) ∈ lw_tbl := List.mem_of_getElem? (i := 1) rfl
set_option maxRecDepth 100000 in
theorem qt179 : (Cond.code yX2_takeOrders cX2_takeOrders 2 none : Cond) ∈ lw_tbl := List.mem_of_getElem? (i := 294) rfl
set_option maxRecDepth 100000 in
theorem qt180 : (Cond.fieldLink RX2 143 "SetRepairs$Store" "orders" "I" : Cond) ∈ lw_tbl := List.mem_of_getElem? (i := 52) rfl
set_option maxRecDepth 100000 in
theorem qt181 : (Cond.fieldLink RX2 146 "SetRepairs$Store" "orderDay" "[I" : Cond) ∈ lw_tbl := List.mem_of_getElem? (i := 58) rfl
set_option maxRecDepth 100000 in
theorem qt182 : (Cond.fieldLink RX2 149 "SetRepairs$Store" "stock" "[I" : Cond) ∈ lw_tbl := List.mem_of_getElem? (i := 47) rfl
set_option maxRecDepth 100000 in
theorem qt183 : (Cond.fieldLink RX2 152 "SetRepairs$Store" "orderPart" "[I" : Cond) ∈ lw_tbl := List.mem_of_getElem? (i := 54) rfl
set_option maxRecDepth 100000 in
theorem qt184 : (Cond.fieldLink RX2 155 "SetRepairs$Store" "orderMany" "[I" : Cond) ∈ lw_tbl := List.mem_of_getElem? (i := 56) rfl
set_option maxRecDepth 100000 in
theorem qt185 : (Cond.methodLink RX2 102 yX2_reserveParts : Cond) ∈ lw_tbl := List.mem_of_getElem? (i := 295) rfl
set_option maxRecDepth 100000 in
theorem qt186 : (Cond.instanceMethod yX2_reserveParts : Cond) ∈ lw_tbl := List.mem_of_getElem? (i := 296) rfl
set_option maxRecDepth 100000 in
theorem qt187 : (Cond.selects RX2 yX2_reserveParts yX2_reserveParts : Cond) ∈ lw_tbl := List.mem_of_getElem? (i := 297) rfl
set_option maxRecDepth 100000 in
theorem qt188 : (Cond.code yX2_reserveParts cX2_reserveParts 1 none : Cond) ∈ lw_tbl := List.mem_of_getElem? (i := 298) rfl
set_option maxRecDepth 100000 in
theorem qt189 : (Cond.methodLink RX2 105 yX2_reservePartsWhere : Cond) ∈ lw_tbl := List.mem_of_getElem? (i := 299) rfl
set_option maxRecDepth 100000 in
theorem qt190 : (Cond.instanceMethod yX2_reservePartsWhere : Cond) ∈ lw_tbl := List.mem_of_getElem? (i := 301) rfl
set_option maxRecDepth 100000 in
theorem qt191 : (Cond.selects RX2 yX2_reservePartsWhere yX2_reservePartsWhere : Cond) ∈ lw_tbl := List.mem_of_getElem? (i := 2) rfl
set_option maxRecDepth 100000 in
theorem qt192 : (Cond.code yX2_reservePartsWhere cX2_reservePartsWhere 4 none : Cond) ∈ lw_tbl := List.mem_of_getElem? (i := 302) rfl
set_option maxRecDepth 100000 in
theorem qt193 : (Cond.fieldLink RX2 78 "SetRepairs$Sets" "many" "I" : Cond) ∈ lw_tbl := List.mem_of_getElem? (i := 85) rfl
set_option maxRecDepth 100000 in
theorem qt194 : (Cond.fieldLink RX2 84 "SetRepairs$Sets" "fault" "[I" : Cond) ∈ lw_tbl := List.mem_of_getElem? (i := 88) rfl
set_option maxRecDepth 100000 in
theorem qt195 : (Cond.fieldLink RX2 81 "SetRepairs$Sets" "state" "[I" : Cond) ∈ lw_tbl := List.mem_of_getElem? (i := 106) rfl
set_option maxRecDepth 100000 in
theorem qt196 : (Cond.methodLink RX2 109 yX4_isTurnOf : Cond) ∈ lw_tbl := List.mem_of_getElem? (i := 303) rfl
set_option maxRecDepth 100000 in
theorem qt197 : (Cond.instanceMethod yX4_isTurnOf : Cond) ∈ lw_tbl := List.mem_of_getElem? (i := 304) rfl
set_option maxRecDepth 100000 in
theorem qt198 : (Cond.selects RX4 yX4_isTurnOf yX4_isTurnOf : Cond) ∈ lw_tbl := List.mem_of_getElem? (i := 305) rfl
set_option maxRecDepth 100000 in
theorem qt199 : (Cond.code yX4_isTurnOf cX4_isTurnOf 4 (some .boolean) : Cond) ∈ lw_tbl := List.mem_of_getElem? (i := 306) rfl
set_option maxRecDepth 100000 in
theorem qt200 : (Cond.methodLink RX2 113 yX5_lowestShort : Cond) ∈ lw_tbl := List.mem_of_getElem? (i := 307) rfl
set_option maxRecDepth 100000 in
theorem qt201 : (Cond.instanceMethod yX5_lowestShort : Cond) ∈ lw_tbl := List.mem_of_getElem? (i := 308) rfl
set_option maxRecDepth 100000 in
theorem qt202 : (Cond.selects RX5 yX5_lowestShort yX5_lowestShort : Cond) ∈ lw_tbl := List.mem_of_getElem? (i := 309) rfl
set_option maxRecDepth 100000 in
theorem qt203 : (Cond.code yX5_lowestShort cX5_lowestShort 3 (some .int) : Cond) ∈ lw_tbl := List.mem_of_getElem? (i := 310) rfl
set_option maxRecDepth 100000 in
theorem qt204 : (Cond.methodLink RX5 50 yX5_free : Cond) ∈ lw_tbl := List.mem_of_getElem? (i := 311) rfl
set_option maxRecDepth 100000 in
theorem qt205 : (Cond.instanceMethod yX5_free : Cond) ∈ lw_tbl := List.mem_of_getElem? (i := 312) rfl
set_option maxRecDepth 100000 in
theorem qt206 : (Cond.selects RX5 yX5_free yX5_free : Cond) ∈ lw_tbl := List.mem_of_getElem? (i := 313) rfl
set_option maxRecDepth 100000 in
theorem qt207 : (Cond.code yX5_free cX5_free 2 (some .int) : Cond) ∈ lw_tbl := List.mem_of_getElem? (i := 314) rfl
set_option maxRecDepth 100000 in
theorem qt208 : (Cond.methodLink RX5 46 yX5_needOf : Cond) ∈ lw_tbl := List.mem_of_getElem? (i := 315) rfl
set_option maxRecDepth 100000 in
theorem qt209 : (Cond.static yX5_needOf : Cond) ∈ lw_tbl := List.mem_of_getElem? (i := 316) rfl
set_option maxRecDepth 100000 in
theorem qt210 : (Cond.code yX5_needOf cX5_needOf 2 (some .int) : Cond) ∈ lw_tbl := List.mem_of_getElem? (i := 317) rfl
set_option maxRecDepth 100000 in
theorem qt211 : (Cond.methodLink RX2 116 yX5_reserveFor : Cond) ∈ lw_tbl := List.mem_of_getElem? (i := 320) rfl
set_option maxRecDepth 100000 in
theorem qt212 : (Cond.instanceMethod yX5_reserveFor : Cond) ∈ lw_tbl := List.mem_of_getElem? (i := 321) rfl
set_option maxRecDepth 100000 in
theorem qt213 : (Cond.selects RX5 yX5_reserveFor yX5_reserveFor : Cond) ∈ lw_tbl := List.mem_of_getElem? (i := 322) rfl
set_option maxRecDepth 100000 in
theorem qt214 : (Cond.code yX5_reserveFor cX5_reserveFor 3 none : Cond) ∈ lw_tbl := List.mem_of_getElem? (i := 323) rfl
set_option maxRecDepth 100000 in
theorem qt215 : (Cond.methodLink RX2 158 yX5_dropOrdersOf : Cond) ∈ lw_tbl := List.mem_of_getElem? (i := 324) rfl
set_option maxRecDepth 100000 in
theorem qt216 : (Cond.instanceMethod yX5_dropOrdersOf : Cond) ∈ lw_tbl := List.mem_of_getElem? (i := 325) rfl
set_option maxRecDepth 100000 in
theorem qt217 : (Cond.selects RX5 yX5_dropOrdersOf yX5_dropOrdersOf : Cond) ∈ lw_tbl := List.mem_of_getElem? (i := 326) rfl
set_option maxRecDepth 100000 in
theorem qt218 : (Cond.code yX5_dropOrdersOf cX5_dropOrdersOf 4 none : Cond) ∈ lw_tbl := List.mem_of_getElem? (i := 327) rfl
set_option maxRecDepth 100000 in
theorem qt219 : (Cond.methodLink RX2 137 yX2_workWhere : Cond) ∈ lw_tbl := List.mem_of_getElem? (i := 328) rfl
set_option maxRecDepth 100000 in
theorem qt220 : (Cond.instanceMethod yX2_workWhere : Cond) ∈ lw_tbl := List.mem_of_getElem? (i := 330) rfl
set_option maxRecDepth 100000 in
theorem qt221 : (Cond.selects RX2 yX2_workWhere yX2_workWhere : Cond) ∈ lw_tbl := List.mem_of_getElem? (i := 3) rfl
set_option maxRecDepth 100000 in
theorem qt222 : (Cond.code yX2_workWhere cX2_workWhere 7 (some .int) : Cond) ∈ lw_tbl := List.mem_of_getElem? (i := 331) rfl
set_option maxRecDepth 100000 in
theorem qt223 : (Cond.fieldLink RX2 161 "SetRepairs$Sets" "worked" "[I" : Cond) ∈ lw_tbl := List.mem_of_getElem? (i := 97) rfl
set_option maxRecDepth 100000 in
theorem qt224 : (Cond.methodLink RX2 164 Lib.Math.min.name : Cond) ∈ lw_tbl := List.mem_of_getElem? (i := 334) rfl
set_option maxRecDepth 100000 in
theorem qt225 : (Cond.static Lib.Math.min.name : Cond) ∈ lw_tbl := List.mem_of_getElem? (i := 335) rfl
set_option maxRecDepth 100000 in
theorem qt226 : (Cond.initialized "java/lang/Math" : Cond) ∈ lw_tbl := List.mem_of_getElem? (i := 16) rfl
set_option maxRecDepth 100000 in
theorem qt227 : (Cond.code Lib.Math.min.name Lib.Math.min.code 2 (some .int) : Cond) ∈ lw_tbl := List.mem_of_getElem? (i := 336) rfl
set_option maxRecDepth 100000 in
theorem qt228 : (Cond.methodLink RX2 167 yX2_finish : Cond) ∈ lw_tbl := List.mem_of_getElem? (i := 337) rfl
set_option maxRecDepth 100000 in
theorem qt229 : (Cond.instanceMethod yX2_finish : Cond) ∈ lw_tbl := List.mem_of_getElem? (i := 339) rfl
set_option maxRecDepth 100000 in
theorem qt230 : (Cond.selects RX2 yX2_finish yX2_finish : Cond) ∈ lw_tbl := List.mem_of_getElem? (i := 4) rfl
set_option maxRecDepth 100000 in
theorem qt231 : (Cond.code yX2_finish cX2_finish 4 none : Cond) ∈ lw_tbl := List.mem_of_getElem? (i := 340) rfl
set_option maxRecDepth 100000 in
theorem qt232 : (Cond.fieldLink RX2 170 "SetRepairs$Sets" "estimate" "[I" : Cond) ∈ lw_tbl := List.mem_of_getElem? (i := 95) rfl
set_option maxRecDepth 100000 in
theorem qt233 : (Cond.fieldLink RX2 125 "SetRepairs$Sets" "bill" "[I" : Cond) ∈ lw_tbl := List.mem_of_getElem? (i := 100) rfl
set_option maxRecDepth 100000 in
theorem qt234 : (Cond.fieldLink RX2 75 "SetRepairs$Sets" "ready" "[I" : Cond) ∈ lw_tbl := List.mem_of_getElem? (i := 109) rfl
set_option maxRecDepth 100000 in
theorem qt235 : (Cond.fieldLink RX2 179 "SetRepairs$Books" "partsBuiltIn" "I" : Cond) ∈ lw_tbl := List.mem_of_getElem? (i := 146) rfl
set_option maxRecDepth 100000 in
theorem qt236 : (Cond.fieldLink RX2 182 "SetRepairs$Books" "daysToDone" "I" : Cond) ∈ lw_tbl := List.mem_of_getElem? (i := 152) rfl
set_option maxRecDepth 100000 in
theorem qt237 : (Cond.fieldLink RX2 185 "SetRepairs$Sets" "came" "[I" : Cond) ∈ lw_tbl := List.mem_of_getElem? (i := 91) rfl
set_option maxRecDepth 100000 in
theorem qt238 : (Cond.fieldLink RX2 188 "SetRepairs$Books" "setsDone" "I" : Cond) ∈ lw_tbl := List.mem_of_getElem? (i := 150) rfl
set_option maxRecDepth 100000 in
theorem qt239 : (Cond.methodLink RX2 173 yX5_takeReservedFor : Cond) ∈ lw_tbl := List.mem_of_getElem? (i := 341) rfl
set_option maxRecDepth 100000 in
theorem qt240 : (Cond.instanceMethod yX5_takeReservedFor : Cond) ∈ lw_tbl := List.mem_of_getElem? (i := 342) rfl
set_option maxRecDepth 100000 in
theorem qt241 : (Cond.selects RX5 yX5_takeReservedFor yX5_takeReservedFor : Cond) ∈ lw_tbl := List.mem_of_getElem? (i := 343) rfl
set_option maxRecDepth 100000 in
theorem qt242 : (Cond.code yX5_takeReservedFor cX5_takeReservedFor 3 none : Cond) ∈ lw_tbl := List.mem_of_getElem? (i := 344) rfl
set_option maxRecDepth 100000 in
theorem qt243 : (Cond.methodLink RX2 176 yX2_costNow : Cond) ∈ lw_tbl := List.mem_of_getElem? (i := 345) rfl
set_option maxRecDepth 100000 in
theorem qt244 : (Cond.instanceMethod yX2_costNow : Cond) ∈ lw_tbl := List.mem_of_getElem? (i := 346) rfl
set_option maxRecDepth 100000 in
theorem qt245 : (Cond.selects RX2 yX2_costNow yX2_costNow : Cond) ∈ lw_tbl := List.mem_of_getElem? (i := 347) rfl
set_option maxRecDepth 100000 in
theorem qt246 : (Cond.code yX2_costNow cX2_costNow 4 (some .int) : Cond) ∈ lw_tbl := List.mem_of_getElem? (i := 348) rfl
set_option maxRecDepth 100000 in
theorem qt247 : (Cond.methodLink RX2 64 yX5_priceOfParts : Cond) ∈ lw_tbl := List.mem_of_getElem? (i := 349) rfl
set_option maxRecDepth 100000 in
theorem qt248 : (Cond.instanceMethod yX5_priceOfParts : Cond) ∈ lw_tbl := List.mem_of_getElem? (i := 350) rfl
set_option maxRecDepth 100000 in
theorem qt249 : (Cond.selects RX5 yX5_priceOfParts yX5_priceOfParts : Cond) ∈ lw_tbl := List.mem_of_getElem? (i := 351) rfl
set_option maxRecDepth 100000 in
theorem qt250 : (Cond.code yX5_priceOfParts cX5_priceOfParts 4 (some .int) : Cond) ∈ lw_tbl := List.mem_of_getElem? (i := 352) rfl
set_option maxRecDepth 100000 in
theorem qt251 : (Cond.methodLink RX2 140 yX2_sellUnclaimed : Cond) ∈ lw_tbl := List.mem_of_getElem? (i := 353) rfl
set_option maxRecDepth 100000 in
theorem qt252 : (Cond.instanceMethod yX2_sellUnclaimed : Cond) ∈ lw_tbl := List.mem_of_getElem? (i := 355) rfl
set_option maxRecDepth 100000 in
theorem qt253 : (Cond.selects RX2 yX2_sellUnclaimed yX2_sellUnclaimed : Cond) ∈ lw_tbl := List.mem_of_getElem? (i := 5) rfl
set_option maxRecDepth 100000 in
theorem qt254 : (Cond.code yX2_sellUnclaimed cX2_sellUnclaimed 2 none : Cond) ∈ lw_tbl := List.mem_of_getElem? (i := 356) rfl
set_option maxRecDepth 100000 in
theorem qt255 : (Cond.fieldLink RX2 195 "SetRepairs$Books" "soldFor" "I" : Cond) ∈ lw_tbl := List.mem_of_getElem? (i := 143) rfl
set_option maxRecDepth 100000 in
theorem qt256 : (Cond.fieldLink RX2 131 "SetRepairs$Sets" "loaner" "[I" : Cond) ∈ lw_tbl := List.mem_of_getElem? (i := 103) rfl
set_option maxRecDepth 100000 in
theorem qt257 : (Cond.methodLink RX2 191 yX4_isReady : Cond) ∈ lw_tbl := List.mem_of_getElem? (i := 357) rfl
set_option maxRecDepth 100000 in
theorem qt258 : (Cond.instanceMethod yX4_isReady : Cond) ∈ lw_tbl := List.mem_of_getElem? (i := 255) rfl
set_option maxRecDepth 100000 in
theorem qt259 : (Cond.selects RX4 yX4_isReady yX4_isReady : Cond) ∈ lw_tbl := List.mem_of_getElem? (i := 256) rfl
set_option maxRecDepth 100000 in
theorem qt260 : (Cond.code yX4_isReady cX4_isReady 2 (some .boolean) : Cond) ∈ lw_tbl := List.mem_of_getElem? (i := 257) rfl
set_option maxRecDepth 100000 in
theorem qt261 : (Cond.methodLink RL 115 yL_act : Cond) ∈ lw_tbl := List.mem_of_getElem? (i := 450) rfl
set_option maxRecDepth 100000 in
theorem qt262 : (Cond.static yL_act : Cond) ∈ lw_tbl := List.mem_of_getElem? (i := 451) rfl
set_option maxRecDepth 100000 in
theorem qt263 : (Cond.code yL_act cL_act 6 (some .int) : Cond) ∈ lw_tbl := List.mem_of_getElem? (i := 452) rfl
set_option maxRecDepth 100000 in
theorem qt264 : (Cond.constant RL 89 (40000) : Cond) ∈ lw_tbl := List.mem_of_getElem? (i := 508) rfl
set_option maxRecDepth 100000 in
theorem qt265 : (Cond.constant RL 97 (1065353216) : Cond) ∈ lw_tbl := List.mem_of_getElem? (i := 523) rfl
set_option maxRecDepth 100000 in
theorem qt266 : (Cond.methodLink RL 67 yX6_come : Cond) ∈ lw_tbl := List.mem_of_getElem? (i := 453) rfl
set_option maxRecDepth 100000 in
theorem qt267 : (Cond.instanceMethod yX6_come : Cond) ∈ lw_tbl := List.mem_of_getElem? (i := 454) rfl
set_option maxRecDepth 100000 in
theorem qt268 : (Cond.selects RX6 yX6_come yX6_come : Cond) ∈ lw_tbl := List.mem_of_getElem? (i := 455) rfl
set_option maxRecDepth 100000 in
theorem qt269 : (Cond.code yX6_come cX6_come 2 (some .int) : Cond) ∈ lw_tbl := List.mem_of_getElem? (i := 456) rfl
set_option maxRecDepth 100000 in
theorem qt270 : (Cond.methodLink RX6 63 yX3_record : Cond) ∈ lw_tbl := List.mem_of_getElem? (i := 457) rfl
set_option maxRecDepth 100000 in
theorem qt271 : (Cond.instanceMethod yX3_record : Cond) ∈ lw_tbl := List.mem_of_getElem? (i := 458) rfl
set_option maxRecDepth 100000 in
theorem qt272 : (Cond.selects RX3 yX3_record yX3_record : Cond) ∈ lw_tbl := List.mem_of_getElem? (i := 459) rfl
set_option maxRecDepth 100000 in
theorem qt273 : (Cond.code yX3_record cX3_record 2 none : Cond) ∈ lw_tbl := List.mem_of_getElem? (i := 460) rfl
set_option maxRecDepth 100000 in
theorem qt274 : (Cond.methodLink RX3 22 yX3_dropOldest : Cond) ∈ lw_tbl := List.mem_of_getElem? (i := 461) rfl
set_option maxRecDepth 100000 in
theorem qt275 : (Cond.instanceMethod yX3_dropOldest : Cond) ∈ lw_tbl := List.mem_of_getElem? (i := 463) rfl
set_option maxRecDepth 100000 in
theorem qt276 : (Cond.selects RX3 yX3_dropOldest yX3_dropOldest : Cond) ∈ lw_tbl := List.mem_of_getElem? (i := 6) rfl
set_option maxRecDepth 100000 in
theorem qt277 : (Cond.code yX3_dropOldest cX3_dropOldest 3 none : Cond) ∈ lw_tbl := List.mem_of_getElem? (i := 464) rfl
set_option maxRecDepth 100000 in
theorem qt278 : (Cond.methodLink RX3 25 yX2_copyFrom : Cond) ∈ lw_tbl := List.mem_of_getElem? (i := 465) rfl
set_option maxRecDepth 100000 in
theorem qt279 : (Cond.methodLink RX6 119 yX4_add : Cond) ∈ lw_tbl := List.mem_of_getElem? (i := 466) rfl
set_option maxRecDepth 100000 in
theorem qt280 : (Cond.instanceMethod yX4_add : Cond) ∈ lw_tbl := List.mem_of_getElem? (i := 467) rfl
set_option maxRecDepth 100000 in
theorem qt281 : (Cond.selects RX4 yX4_add yX4_add : Cond) ∈ lw_tbl := List.mem_of_getElem? (i := 468) rfl
set_option maxRecDepth 100000 in
theorem qt282 : (Cond.code yX4_add cX4_add 4 (some .int) : Cond) ∈ lw_tbl := List.mem_of_getElem? (i := 469) rfl
set_option maxRecDepth 100000 in
theorem qt283 : (Cond.methodLink RL 70 yX6_estimate : Cond) ∈ lw_tbl := List.mem_of_getElem? (i := 470) rfl
set_option maxRecDepth 100000 in
theorem qt284 : (Cond.instanceMethod yX6_estimate : Cond) ∈ lw_tbl := List.mem_of_getElem? (i := 471) rfl
set_option maxRecDepth 100000 in
theorem qt285 : (Cond.selects RX6 yX6_estimate yX6_estimate : Cond) ∈ lw_tbl := List.mem_of_getElem? (i := 472) rfl
set_option maxRecDepth 100000 in
theorem qt286 : (Cond.code yX6_estimate cX6_estimate 3 (some .int) : Cond) ∈ lw_tbl := List.mem_of_getElem? (i := 473) rfl
set_option maxRecDepth 100000 in
theorem qt287 : (Cond.fieldLink RX6 130 "SetRepairs$Sets" "fault" "[I" : Cond) ∈ lw_tbl := List.mem_of_getElem? (i := 89) rfl
set_option maxRecDepth 100000 in
theorem qt288 : (Cond.fieldLink RX6 137 "SetRepairs$Sets" "estimate" "[I" : Cond) ∈ lw_tbl := List.mem_of_getElem? (i := 94) rfl
set_option maxRecDepth 100000 in
theorem qt289 : (Cond.methodLink RX6 133 yX2_costNow : Cond) ∈ lw_tbl := List.mem_of_getElem? (i := 434) rfl
set_option maxRecDepth 100000 in
theorem qt290 : (Cond.methodLink RL 73 yX6_answer : Cond) ∈ lw_tbl := List.mem_of_getElem? (i := 474) rfl
set_option maxRecDepth 100000 in
theorem qt291 : (Cond.instanceMethod yX6_answer : Cond) ∈ lw_tbl := List.mem_of_getElem? (i := 475) rfl
set_option maxRecDepth 100000 in
theorem qt292 : (Cond.selects RX6 yX6_answer yX6_answer : Cond) ∈ lw_tbl := List.mem_of_getElem? (i := 476) rfl
set_option maxRecDepth 100000 in
theorem qt293 : (Cond.code yX6_answer cX6_answer 3 (some .int) : Cond) ∈ lw_tbl := List.mem_of_getElem? (i := 477) rfl
set_option maxRecDepth 100000 in
theorem qt294 : (Cond.methodLink RX6 140 yX2_decide : Cond) ∈ lw_tbl := List.mem_of_getElem? (i := 478) rfl
set_option maxRecDepth 100000 in
theorem qt295 : (Cond.instanceMethod yX2_decide : Cond) ∈ lw_tbl := List.mem_of_getElem? (i := 479) rfl
set_option maxRecDepth 100000 in
theorem qt296 : (Cond.selects RX2 yX2_decide yX2_decide : Cond) ∈ lw_tbl := List.mem_of_getElem? (i := 480) rfl
set_option maxRecDepth 100000 in
theorem qt297 : (Cond.code yX2_decide cX2_decide 3 none : Cond) ∈ lw_tbl := List.mem_of_getElem? (i := 481) rfl
set_option maxRecDepth 100000 in
theorem qt298 : (Cond.methodLink RL 77 yX6_put : Cond) ∈ lw_tbl := List.mem_of_getElem? (i := 482) rfl
set_option maxRecDepth 100000 in
theorem qt299 : (Cond.instanceMethod yX6_put : Cond) ∈ lw_tbl := List.mem_of_getElem? (i := 483) rfl
set_option maxRecDepth 100000 in
theorem qt300 : (Cond.selects RX6 yX6_put yX6_put : Cond) ∈ lw_tbl := List.mem_of_getElem? (i := 484) rfl
set_option maxRecDepth 100000 in
theorem qt301 : (Cond.code yX6_put cX6_put 3 (some .int) : Cond) ∈ lw_tbl := List.mem_of_getElem? (i := 485) rfl
set_option maxRecDepth 100000 in
theorem qt302 : (Cond.fieldLink RX6 110 "SetRepairs$Store" "stock" "[I" : Cond) ∈ lw_tbl := List.mem_of_getElem? (i := 46) rfl
set_option maxRecDepth 100000 in
theorem qt303 : (Cond.methodLink RX6 113 yX2_reserveParts : Cond) ∈ lw_tbl := List.mem_of_getElem? (i := 486) rfl
set_option maxRecDepth 100000 in
theorem qt304 : (Cond.methodLink RL 80 yX6_order : Cond) ∈ lw_tbl := List.mem_of_getElem? (i := 487) rfl
set_option maxRecDepth 100000 in
theorem qt305 : (Cond.instanceMethod yX6_order : Cond) ∈ lw_tbl := List.mem_of_getElem? (i := 488) rfl
set_option maxRecDepth 100000 in
theorem qt306 : (Cond.selects RX6 yX6_order yX6_order : Cond) ∈ lw_tbl := List.mem_of_getElem? (i := 489) rfl
set_option maxRecDepth 100000 in
theorem qt307 : (Cond.code yX6_order cX6_order 4 (some .int) : Cond) ∈ lw_tbl := List.mem_of_getElem? (i := 490) rfl
set_option maxRecDepth 100000 in
theorem qt308 : (Cond.fieldLink RX6 96 "SetRepairs$Store" "lead" "[I" : Cond) ∈ lw_tbl := List.mem_of_getElem? (i := 44) rfl
set_option maxRecDepth 100000 in
theorem qt309 : (Cond.methodLink RX6 106 yX5_addOrder : Cond) ∈ lw_tbl := List.mem_of_getElem? (i := 491) rfl
set_option maxRecDepth 100000 in
theorem qt310 : (Cond.instanceMethod yX5_addOrder : Cond) ∈ lw_tbl := List.mem_of_getElem? (i := 492) rfl
set_option maxRecDepth 100000 in
theorem qt311 : (Cond.selects RX5 yX5_addOrder yX5_addOrder : Cond) ∈ lw_tbl := List.mem_of_getElem? (i := 493) rfl
set_option maxRecDepth 100000 in
theorem qt312 : (Cond.code yX5_addOrder cX5_addOrder 4 none : Cond) ∈ lw_tbl := List.mem_of_getElem? (i := 494) rfl
set_option maxRecDepth 100000 in
theorem qt313 : (Cond.methodLink RL 83 yX6_lend : Cond) ∈ lw_tbl := List.mem_of_getElem? (i := 495) rfl
set_option maxRecDepth 100000 in
theorem qt314 : (Cond.instanceMethod yX6_lend : Cond) ∈ lw_tbl := List.mem_of_getElem? (i := 496) rfl
set_option maxRecDepth 100000 in
theorem qt315 : (Cond.selects RX6 yX6_lend yX6_lend : Cond) ∈ lw_tbl := List.mem_of_getElem? (i := 497) rfl
set_option maxRecDepth 100000 in
theorem qt316 : (Cond.code yX6_lend cX6_lend 2 (some .int) : Cond) ∈ lw_tbl := List.mem_of_getElem? (i := 498) rfl
set_option maxRecDepth 100000 in
theorem qt317 : (Cond.fieldLink RX6 156 "SetRepairs$Sets" "loaner" "[I" : Cond) ∈ lw_tbl := List.mem_of_getElem? (i := 104) rfl
set_option maxRecDepth 100000 in
theorem qt318 : (Cond.methodLink RL 86 yX6_collect : Cond) ∈ lw_tbl := List.mem_of_getElem? (i := 499) rfl
set_option maxRecDepth 100000 in
theorem qt319 : (Cond.instanceMethod yX6_collect : Cond) ∈ lw_tbl := List.mem_of_getElem? (i := 500) rfl
set_option maxRecDepth 100000 in
theorem qt320 : (Cond.selects RX6 yX6_collect yX6_collect : Cond) ∈ lw_tbl := List.mem_of_getElem? (i := 501) rfl
set_option maxRecDepth 100000 in
theorem qt321 : (Cond.code yX6_collect cX6_collect 2 (some .int) : Cond) ∈ lw_tbl := List.mem_of_getElem? (i := 502) rfl
set_option maxRecDepth 100000 in
theorem qt322 : (Cond.methodLink RX6 162 yX4_isReady : Cond) ∈ lw_tbl := List.mem_of_getElem? (i := 254) rfl
set_option maxRecDepth 100000 in
theorem qt323 : (Cond.methodLink RX6 165 yX2_handOver : Cond) ∈ lw_tbl := List.mem_of_getElem? (i := 503) rfl
set_option maxRecDepth 100000 in
theorem qt324 : (Cond.instanceMethod yX2_handOver : Cond) ∈ lw_tbl := List.mem_of_getElem? (i := 504) rfl
set_option maxRecDepth 100000 in
theorem qt325 : (Cond.selects RX2 yX2_handOver yX2_handOver : Cond) ∈ lw_tbl := List.mem_of_getElem? (i := 505) rfl
set_option maxRecDepth 100000 in
theorem qt326 : (Cond.code yX2_handOver cX2_handOver 3 (some .int) : Cond) ∈ lw_tbl := List.mem_of_getElem? (i := 506) rfl
set_option maxRecDepth 100000 in
theorem qt327 : (Cond.fieldLink RX2 122 "SetRepairs$Books" "billsPaid" "I" : Cond) ∈ lw_tbl := List.mem_of_getElem? (i := 137) rfl
set_option maxRecDepth 100000 in
theorem qt328 : (Cond.fieldLink RX2 128 "SetRepairs$Books" "feesPaid" "I" : Cond) ∈ lw_tbl := List.mem_of_getElem? (i := 140) rfl
set_option maxRecDepth 100000 in
theorem qt329 : (Cond.methodLink RX2 119 yX2_storageFee : Cond) ∈ lw_tbl := List.mem_of_getElem? (i := 507) rfl
set_option maxRecDepth 100000 in
theorem qt330 : (Cond.instanceMethod yX2_storageFee : Cond) ∈ lw_tbl := List.mem_of_getElem? (i := 259) rfl
set_option maxRecDepth 100000 in
theorem qt331 : (Cond.selects RX2 yX2_storageFee yX2_storageFee : Cond) ∈ lw_tbl := List.mem_of_getElem? (i := 260) rfl
set_option maxRecDepth 100000 in
theorem qt332 : (Cond.code yX2_storageFee cX2_storageFee 3 (some .int) : Cond) ∈ lw_tbl := List.mem_of_getElem? (i := 261) rfl
set_option maxRecDepth 100000 in
theorem qt333 : (Cond.methodLink RL 90 yX6_setPart : Cond) ∈ lw_tbl := List.mem_of_getElem? (i := 509) rfl
set_option maxRecDepth 100000 in
theorem qt334 : (Cond.instanceMethod yX6_setPart : Cond) ∈ lw_tbl := List.mem_of_getElem? (i := 510) rfl
set_option maxRecDepth 100000 in
theorem qt335 : (Cond.selects RX6 yX6_setPart yX6_setPart : Cond) ∈ lw_tbl := List.mem_of_getElem? (i := 511) rfl
set_option maxRecDepth 100000 in
theorem qt336 : (Cond.code yX6_setPart cX6_setPart 5 (some .int) : Cond) ∈ lw_tbl := List.mem_of_getElem? (i := 512) rfl
set_option maxRecDepth 100000 in
theorem qt337 : (Cond.constant RX6 86 (50000) : Cond) ∈ lw_tbl := List.mem_of_getElem? (i := 513) rfl
set_option maxRecDepth 100000 in
theorem qt338 : (Cond.fieldLink RX6 91 "SetRepairs$Store" "price" "[I" : Cond) ∈ lw_tbl := List.mem_of_getElem? (i := 42) rfl
set_option maxRecDepth 100000 in
theorem qt339 : (Cond.methodLink RL 94 yX6_setNumber : Cond) ∈ lw_tbl := List.mem_of_getElem? (i := 514) rfl
set_option maxRecDepth 100000 in
theorem qt340 : (Cond.instanceMethod yX6_setNumber : Cond) ∈ lw_tbl := List.mem_of_getElem? (i := 515) rfl
set_option maxRecDepth 100000 in
theorem qt341 : (Cond.selects RX6 yX6_setNumber yX6_setNumber : Cond) ∈ lw_tbl := List.mem_of_getElem? (i := 516) rfl
set_option maxRecDepth 100000 in
theorem qt342 : (Cond.code yX6_setNumber cX6_setNumber 4 (some .int) : Cond) ∈ lw_tbl := List.mem_of_getElem? (i := 517) rfl
set_option maxRecDepth 100000 in
theorem qt343 : (Cond.fieldLink RX6 67 "SetRepairs" "LOWEST_NUMBER" "[I" : Cond) ∈ lw_tbl := List.mem_of_getElem? (i := 518) rfl
set_option maxRecDepth 100000 in
theorem qt344 : (Cond.fieldLink RX6 70 "SetRepairs" "HIGHEST_NUMBER" "[I" : Cond) ∈ lw_tbl := List.mem_of_getElem? (i := 520) rfl
set_option maxRecDepth 100000 in
theorem qt345 : (Cond.fieldLink RX6 83 "SetRepairs$Desk" "numbers" "[I" : Cond) ∈ lw_tbl := List.mem_of_getElem? (i := 172) rfl
set_option maxRecDepth 100000 in
theorem qt346 : (Cond.methodLink RX6 77 yX4_withLoaner : Cond) ∈ lw_tbl := List.mem_of_getElem? (i := 522) rfl
set_option maxRecDepth 100000 in
theorem qt347 : (Cond.methodLink RL 98 yX6_setRate : Cond) ∈ lw_tbl := List.mem_of_getElem? (i := 524) rfl
set_option maxRecDepth 100000 in
theorem qt348 : (Cond.instanceMethod yX6_setRate : Cond) ∈ lw_tbl := List.mem_of_getElem? (i := 525) rfl
set_option maxRecDepth 100000 in
theorem qt349 : (Cond.selects RX6 yX6_setRate yX6_setRate : Cond) ∈ lw_tbl := List.mem_of_getElem? (i := 526) rfl
set_option maxRecDepth 100000 in
theorem qt350 : (Cond.code yX6_setRate cX6_setRate 4 (some .int) : Cond) ∈ lw_tbl := List.mem_of_getElem? (i := 527) rfl
set_option maxRecDepth 100000 in
theorem qt351 : (Cond.fieldLink RX6 44 "SetRepairs" "LOWEST_RATE_BITS" "[I" : Cond) ∈ lw_tbl := List.mem_of_getElem? (i := 528) rfl
set_option maxRecDepth 100000 in
theorem qt352 : (Cond.fieldLink RX6 48 "SetRepairs" "HIGHEST_RATE_BITS" "[I" : Cond) ∈ lw_tbl := List.mem_of_getElem? (i := 530) rfl
set_option maxRecDepth 100000 in
theorem qt353 : (Cond.fieldLink RX6 59 "SetRepairs$Desk" "rates" "[F" : Cond) ∈ lw_tbl := List.mem_of_getElem? (i := 170) rfl
set_option maxRecDepth 100000 in
theorem qt354 : (Cond.methodLink RX6 55 yX6_floatOf : Cond) ∈ lw_tbl := List.mem_of_getElem? (i := 532) rfl
set_option maxRecDepth 100000 in
theorem qt355 : (Cond.static yX6_floatOf : Cond) ∈ lw_tbl := List.mem_of_getElem? (i := 533) rfl
set_option maxRecDepth 100000 in
theorem qt356 : (Cond.code yX6_floatOf cX6_floatOf 5 (some .float) : Cond) ∈ lw_tbl := List.mem_of_getElem? (i := 534) rfl
set_option maxRecDepth 100000 in
theorem qt357 : (Cond.constant RX6 237 (8388607) : Cond) ∈ lw_tbl := List.mem_of_getElem? (i := 535) rfl
set_option maxRecDepth 100000 in
theorem qt358 : (Cond.constant RX6 238 (8388608) : Cond) ∈ lw_tbl := List.mem_of_getElem? (i := 536) rfl
set_option maxRecDepth 100000 in
theorem qt359 : (Cond.methodLink RL 101 yX6_undo : Cond) ∈ lw_tbl := List.mem_of_getElem? (i := 537) rfl
set_option maxRecDepth 100000 in
theorem qt360 : (Cond.instanceMethod yX6_undo : Cond) ∈ lw_tbl := List.mem_of_getElem? (i := 538) rfl
set_option maxRecDepth 100000 in
theorem qt361 : (Cond.selects RX6 yX6_undo yX6_undo : Cond) ∈ lw_tbl := List.mem_of_getElem? (i := 539) rfl
set_option maxRecDepth 100000 in
theorem qt362 : (Cond.code yX6_undo cX6_undo 1 (some .int) : Cond) ∈ lw_tbl := List.mem_of_getElem? (i := 540) rfl
set_option maxRecDepth 100000 in
theorem qt363 : (Cond.methodLink RX6 188 yX3_giveBack : Cond) ∈ lw_tbl := List.mem_of_getElem? (i := 541) rfl
set_option maxRecDepth 100000 in
theorem qt364 : (Cond.instanceMethod yX3_giveBack : Cond) ∈ lw_tbl := List.mem_of_getElem? (i := 542) rfl
set_option maxRecDepth 100000 in
theorem qt365 : (Cond.selects RX3 yX3_giveBack yX3_giveBack : Cond) ∈ lw_tbl := List.mem_of_getElem? (i := 543) rfl
set_option maxRecDepth 100000 in
theorem qt366 : (Cond.code yX3_giveBack cX3_giveBack 2 none : Cond) ∈ lw_tbl := List.mem_of_getElem? (i := 544) rfl
set_option maxRecDepth 100000 in
theorem qt367 : (Cond.methodLink RL 105 yX6_keep : Cond) ∈ lw_tbl := List.mem_of_getElem? (i := 545) rfl
set_option maxRecDepth 100000 in
theorem qt368 : (Cond.instanceMethod yX6_keep : Cond) ∈ lw_tbl := List.mem_of_getElem? (i := 546) rfl
set_option maxRecDepth 100000 in
theorem qt369 : (Cond.selects RX6 yX6_keep yX6_keep : Cond) ∈ lw_tbl := List.mem_of_getElem? (i := 547) rfl
set_option maxRecDepth 100000 in
theorem qt370 : (Cond.code yX6_keep cX6_keep 1 (some .int) : Cond) ∈ lw_tbl := List.mem_of_getElem? (i := 548) rfl
set_option maxRecDepth 100000 in
theorem qt371 : (Cond.methodLink RL 108 yX6_restore : Cond) ∈ lw_tbl := List.mem_of_getElem? (i := 549) rfl
set_option maxRecDepth 100000 in
theorem qt372 : (Cond.instanceMethod yX6_restore : Cond) ∈ lw_tbl := List.mem_of_getElem? (i := 550) rfl
set_option maxRecDepth 100000 in
theorem qt373 : (Cond.selects RX6 yX6_restore yX6_restore : Cond) ∈ lw_tbl := List.mem_of_getElem? (i := 551) rfl
set_option maxRecDepth 100000 in
theorem qt374 : (Cond.code yX6_restore cX6_restore 1 (some .int) : Cond) ∈ lw_tbl := List.mem_of_getElem? (i := 552) rfl
set_option maxRecDepth 100000 in
theorem qt375 : (Cond.methodLink RL 111 yX6_pass : Cond) ∈ lw_tbl := List.mem_of_getElem? (i := 553) rfl
set_option maxRecDepth 100000 in
theorem qt376 : (Cond.instanceMethod yX6_pass : Cond) ∈ lw_tbl := List.mem_of_getElem? (i := 554) rfl
set_option maxRecDepth 100000 in
theorem qt377 : (Cond.selects RX6 yX6_pass yX6_pass : Cond) ∈ lw_tbl := List.mem_of_getElem? (i := 555) rfl
set_option maxRecDepth 100000 in
theorem qt378 : (Cond.code yX6_pass cX6_pass 4 (some .int) : Cond) ∈ lw_tbl := List.mem_of_getElem? (i := 556) rfl
set_option maxRecDepth 100000 in
theorem qt379 : (Cond.fieldLink RX6 172 "SetRepairs$Books" "setsDone" "I" : Cond) ∈ lw_tbl := List.mem_of_getElem? (i := 149) rfl
set_option maxRecDepth 100000 in
theorem qt380 : (Cond.methodLink RL 38 yX6_set : Cond) ∈ lw_tbl := List.mem_of_getElem? (i := 243) rfl
set_option maxRecDepth 100000 in
theorem qt381 : (Cond.instanceMethod yX6_set : Cond) ∈ lw_tbl := List.mem_of_getElem? (i := 244) rfl
set_option maxRecDepth 100000 in
theorem qt382 : (Cond.selects RX6 yX6_set yX6_set : Cond) ∈ lw_tbl := List.mem_of_getElem? (i := 245) rfl
set_option maxRecDepth 100000 in
theorem qt383 : (Cond.code yX6_set cX6_set 3 (some .int) : Cond) ∈ lw_tbl := List.mem_of_getElem? (i := 246) rfl
set_option maxRecDepth 100000 in
theorem qt384 : (Cond.fieldLink RX6 201 "SetRepairs$Sets" "came" "[I" : Cond) ∈ lw_tbl := List.mem_of_getElem? (i := 92) rfl
set_option maxRecDepth 100000 in
theorem qt385 : (Cond.fieldLink RX6 204 "SetRepairs$Sets" "worked" "[I" : Cond) ∈ lw_tbl := List.mem_of_getElem? (i := 98) rfl
set_option maxRecDepth 100000 in
theorem qt386 : (Cond.fieldLink RX6 207 "SetRepairs$Sets" "bill" "[I" : Cond) ∈ lw_tbl := List.mem_of_getElem? (i := 101) rfl
set_option maxRecDepth 100000 in
theorem qt387 : (Cond.fieldLink RX6 210 "SetRepairs$Sets" "ready" "[I" : Cond) ∈ lw_tbl := List.mem_of_getElem? (i := 110) rfl
set_option maxRecDepth 100000 in
theorem qt388 : (Cond.methodLink RX6 213 yX2_storageFee : Cond) ∈ lw_tbl := List.mem_of_getElem? (i := 258) rfl
set_option maxRecDepth 100000 in
theorem qt389 : (Cond.methodLink RL 119 yL_desk : Cond) ∈ lw_tbl := List.mem_of_getElem? (i := 385) rfl
set_option maxRecDepth 100000 in
theorem qt390 : (Cond.static yL_desk : Cond) ∈ lw_tbl := List.mem_of_getElem? (i := 386) rfl
set_option maxRecDepth 100000 in
theorem qt391 : (Cond.code yL_desk cL_desk 8 (some .boolean) : Cond) ∈ lw_tbl := List.mem_of_getElem? (i := 387) rfl
set_option maxRecDepth 100000 in
theorem qt392 : (Cond.methodLink RL 9 yL_need : Cond) ∈ lw_tbl := List.mem_of_getElem? (i := 388) rfl
set_option maxRecDepth 100000 in
theorem qt393 : (Cond.static yL_need : Cond) ∈ lw_tbl := List.mem_of_getElem? (i := 389) rfl
set_option maxRecDepth 100000 in
theorem qt394 : (Cond.code yL_need cL_need 2 (some .int) : Cond) ∈ lw_tbl := List.mem_of_getElem? (i := 390) rfl
set_option maxRecDepth 100000 in
theorem qt395 : (Cond.methodLink RL 15 yX6_part : Cond) ∈ lw_tbl := List.mem_of_getElem? (i := 391) rfl
set_option maxRecDepth 100000 in
theorem qt396 : (Cond.instanceMethod yX6_part : Cond) ∈ lw_tbl := List.mem_of_getElem? (i := 392) rfl
set_option maxRecDepth 100000 in
theorem qt397 : (Cond.selects RX6 yX6_part yX6_part : Cond) ∈ lw_tbl := List.mem_of_getElem? (i := 393) rfl
set_option maxRecDepth 100000 in
theorem qt398 : (Cond.code yX6_part cX6_part 3 (some .int) : Cond) ∈ lw_tbl := List.mem_of_getElem? (i := 394) rfl
set_option maxRecDepth 100000 in
theorem qt399 : (Cond.fieldLink RX6 192 "SetRepairs$Store" "reserved" "[I" : Cond) ∈ lw_tbl := List.mem_of_getElem? (i := 49) rfl
set_option maxRecDepth 100000 in
theorem qt400 : (Cond.methodLink RX6 195 yX5_onOrder : Cond) ∈ lw_tbl := List.mem_of_getElem? (i := 395) rfl
set_option maxRecDepth 100000 in
theorem qt401 : (Cond.instanceMethod yX5_onOrder : Cond) ∈ lw_tbl := List.mem_of_getElem? (i := 396) rfl
set_option maxRecDepth 100000 in
theorem qt402 : (Cond.selects RX5 yX5_onOrder yX5_onOrder : Cond) ∈ lw_tbl := List.mem_of_getElem? (i := 397) rfl
set_option maxRecDepth 100000 in
theorem qt403 : (Cond.code yX5_onOrder cX5_onOrder 4 (some .int) : Cond) ∈ lw_tbl := List.mem_of_getElem? (i := 398) rfl
set_option maxRecDepth 100000 in
theorem qt404 : (Cond.methodLink RX6 198 yX2_lackingOf : Cond) ∈ lw_tbl := List.mem_of_getElem? (i := 399) rfl
set_option maxRecDepth 100000 in
theorem qt405 : (Cond.instanceMethod yX2_lackingOf : Cond) ∈ lw_tbl := List.mem_of_getElem? (i := 400) rfl
set_option maxRecDepth 100000 in
theorem qt406 : (Cond.selects RX2 yX2_lackingOf yX2_lackingOf : Cond) ∈ lw_tbl := List.mem_of_getElem? (i := 401) rfl
set_option maxRecDepth 100000 in
theorem qt407 : (Cond.code yX2_lackingOf cX2_lackingOf 4 (some .int) : Cond) ∈ lw_tbl := List.mem_of_getElem? (i := 402) rfl
set_option maxRecDepth 100000 in
theorem qt408 : (Cond.methodLink RX2 97 Lib.Math.max.name : Cond) ∈ lw_tbl := List.mem_of_getElem? (i := 406) rfl
set_option maxRecDepth 100000 in
theorem qt409 : (Cond.static Lib.Math.max.name : Cond) ∈ lw_tbl := List.mem_of_getElem? (i := 407) rfl
set_option maxRecDepth 100000 in
theorem qt410 : (Cond.code Lib.Math.max.name Lib.Math.max.code 2 (some .int) : Cond) ∈ lw_tbl := List.mem_of_getElem? (i := 408) rfl
set_option maxRecDepth 100000 in
theorem qt411 : (Cond.methodLink RX2 87 yX5_needOf : Cond) ∈ lw_tbl := List.mem_of_getElem? (i := 403) rfl
set_option maxRecDepth 100000 in
theorem qt412 : (Cond.methodLink RX2 91 yX5_free : Cond) ∈ lw_tbl := List.mem_of_getElem? (i := 404) rfl
set_option maxRecDepth 100000 in
theorem qt413 : (Cond.methodLink RX2 94 yX5_onOrder : Cond) ∈ lw_tbl := List.mem_of_getElem? (i := 405) rfl
set_option maxRecDepth 100000 in
theorem qt414 : (Cond.methodLink RL 28 yL_hours : Cond) ∈ lw_tbl := List.mem_of_getElem? (i := 409) rfl
set_option maxRecDepth 100000 in
theorem qt415 : (Cond.static yL_hours : Cond) ∈ lw_tbl := List.mem_of_getElem? (i := 410) rfl
set_option maxRecDepth 100000 in
theorem qt416 : (Cond.code yL_hours cL_hours 1 (some .int) : Cond) ∈ lw_tbl := List.mem_of_getElem? (i := 411) rfl
set_option maxRecDepth 100000 in
theorem qt417 : (Cond.methodLink RL 41 yX6_lacks : Cond) ∈ lw_tbl := List.mem_of_getElem? (i := 412) rfl
set_option maxRecDepth 100000 in
theorem qt418 : (Cond.instanceMethod yX6_lacks : Cond) ∈ lw_tbl := List.mem_of_getElem? (i := 413) rfl
set_option maxRecDepth 100000 in
theorem qt419 : (Cond.selects RX6 yX6_lacks yX6_lacks : Cond) ∈ lw_tbl := List.mem_of_getElem? (i := 414) rfl
set_option maxRecDepth 100000 in
theorem qt420 : (Cond.code yX6_lacks cX6_lacks 2 (some .int) : Cond) ∈ lw_tbl := List.mem_of_getElem? (i := 415) rfl
set_option maxRecDepth 100000 in
theorem qt421 : (Cond.methodLink RX6 219 yX5_lowestShort : Cond) ∈ lw_tbl := List.mem_of_getElem? (i := 416) rfl
set_option maxRecDepth 100000 in
theorem qt422 : (Cond.methodLink RL 47 yX6_waitsFor : Cond) ∈ lw_tbl := List.mem_of_getElem? (i := 417) rfl
set_option maxRecDepth 100000 in
theorem qt423 : (Cond.instanceMethod yX6_waitsFor : Cond) ∈ lw_tbl := List.mem_of_getElem? (i := 418) rfl
set_option maxRecDepth 100000 in
theorem qt424 : (Cond.selects RX6 yX6_waitsFor yX6_waitsFor : Cond) ∈ lw_tbl := List.mem_of_getElem? (i := 419) rfl
set_option maxRecDepth 100000 in
theorem qt425 : (Cond.code yX6_waitsFor cX6_waitsFor 2 (some .int) : Cond) ∈ lw_tbl := List.mem_of_getElem? (i := 420) rfl
set_option maxRecDepth 100000 in
theorem qt426 : (Cond.methodLink RX6 216 yX5_isEnoughOrdered : Cond) ∈ lw_tbl := List.mem_of_getElem? (i := 421) rfl
set_option maxRecDepth 100000 in
theorem qt427 : (Cond.instanceMethod yX5_isEnoughOrdered : Cond) ∈ lw_tbl := List.mem_of_getElem? (i := 422) rfl
set_option maxRecDepth 100000 in
theorem qt428 : (Cond.selects RX5 yX5_isEnoughOrdered yX5_isEnoughOrdered : Cond) ∈ lw_tbl := List.mem_of_getElem? (i := 423) rfl
set_option maxRecDepth 100000 in
theorem qt429 : (Cond.code yX5_isEnoughOrdered cX5_isEnoughOrdered 3 (some .boolean) : Cond) ∈ lw_tbl := List.mem_of_getElem? (i := 424) rfl
set_option maxRecDepth 100000 in
theorem qt430 : (Cond.methodLink RX5 54 yX5_onOrder : Cond) ∈ lw_tbl := List.mem_of_getElem? (i := 425) rfl
set_option maxRecDepth 100000 in
theorem qt431 : (Cond.methodLink RL 32 yX6_number : Cond) ∈ lw_tbl := List.mem_of_getElem? (i := 426) rfl
set_option maxRecDepth 100000 in
theorem qt432 : (Cond.instanceMethod yX6_number : Cond) ∈ lw_tbl := List.mem_of_getElem? (i := 427) rfl
set_option maxRecDepth 100000 in
theorem qt433 : (Cond.selects RX6 yX6_number yX6_number : Cond) ∈ lw_tbl := List.mem_of_getElem? (i := 428) rfl
set_option maxRecDepth 100000 in
theorem qt434 : (Cond.code yX6_number cX6_number 2 (some .int) : Cond) ∈ lw_tbl := List.mem_of_getElem? (i := 429) rfl
set_option maxRecDepth 100000 in
theorem qt435 : (Cond.methodLink RL 50 yX6_costOf : Cond) ∈ lw_tbl := List.mem_of_getElem? (i := 430) rfl
set_option maxRecDepth 100000 in
theorem qt436 : (Cond.instanceMethod yX6_costOf : Cond) ∈ lw_tbl := List.mem_of_getElem? (i := 431) rfl
set_option maxRecDepth 100000 in
theorem qt437 : (Cond.selects RX6 yX6_costOf yX6_costOf : Cond) ∈ lw_tbl := List.mem_of_getElem? (i := 432) rfl
set_option maxRecDepth 100000 in
theorem qt438 : (Cond.code yX6_costOf cX6_costOf 2 (some .int) : Cond) ∈ lw_tbl := List.mem_of_getElem? (i := 433) rfl
set_option maxRecDepth 100000 in
theorem qt439 : (Cond.methodLink RL 53 yL_cost : Cond) ∈ lw_tbl := List.mem_of_getElem? (i := 435) rfl
set_option maxRecDepth 100000 in
theorem qt440 : (Cond.static yL_cost : Cond) ∈ lw_tbl := List.mem_of_getElem? (i := 436) rfl
set_option maxRecDepth 100000 in
theorem qt441 : (Cond.code yL_cost cL_cost 3 (some .int) : Cond) ∈ lw_tbl := List.mem_of_getElem? (i := 437) rfl
set_option maxRecDepth 100000 in
theorem qt442 : (Cond.methodLink RL 20 yL_prices : Cond) ∈ lw_tbl := List.mem_of_getElem? (i := 438) rfl
set_option maxRecDepth 100000 in
theorem qt443 : (Cond.static yL_prices : Cond) ∈ lw_tbl := List.mem_of_getElem? (i := 439) rfl
set_option maxRecDepth 100000 in
theorem qt444 : (Cond.code yL_prices cL_prices 4 (some .int) : Cond) ∈ lw_tbl := List.mem_of_getElem? (i := 440) rfl
set_option maxRecDepth 100000 in
theorem qt445 : (Cond.methodLink RL 24 yX6_rate : Cond) ∈ lw_tbl := List.mem_of_getElem? (i := 441) rfl
set_option maxRecDepth 100000 in
theorem qt446 : (Cond.instanceMethod yX6_rate : Cond) ∈ lw_tbl := List.mem_of_getElem? (i := 442) rfl
set_option maxRecDepth 100000 in
theorem qt447 : (Cond.selects RX6 yX6_rate yX6_rate : Cond) ∈ lw_tbl := List.mem_of_getElem? (i := 443) rfl
set_option maxRecDepth 100000 in
theorem qt448 : (Cond.code yX6_rate cX6_rate 2 (some .float) : Cond) ∈ lw_tbl := List.mem_of_getElem? (i := 444) rfl
set_option maxRecDepth 100000 in
theorem qt449 : (Cond.constantFloat RX6 191 (2143289344) : Cond) ∈ lw_tbl := List.mem_of_getElem? (i := 445) rfl
set_option maxRecDepth 100000 in
theorem qt450 : (Cond.methodLink RL 56 yX6_meanDays : Cond) ∈ lw_tbl := List.mem_of_getElem? (i := 446) rfl
set_option maxRecDepth 100000 in
theorem qt451 : (Cond.instanceMethod yX6_meanDays : Cond) ∈ lw_tbl := List.mem_of_getElem? (i := 447) rfl
set_option maxRecDepth 100000 in
theorem qt452 : (Cond.selects RX6 yX6_meanDays yX6_meanDays : Cond) ∈ lw_tbl := List.mem_of_getElem? (i := 448) rfl
set_option maxRecDepth 100000 in
theorem qt453 : (Cond.code yX6_meanDays cX6_meanDays 2 (some .float) : Cond) ∈ lw_tbl := List.mem_of_getElem? (i := 449) rfl
set_option maxRecDepth 100000 in
theorem qt454 : (Cond.fieldLink RX6 222 "SetRepairs$Books" "daysToDone" "I" : Cond) ∈ lw_tbl := List.mem_of_getElem? (i := 153) rfl
theorem qct0 : ∀ w ∈ wsL_law_r1, w ∈ lw_tbl := List.forall_mem_cons.mpr ⟨qt0, List.forall_mem_cons.mpr ⟨qt1, List.forall_mem_cons.mpr ⟨qt2, List.forall_mem_cons.mpr ⟨qt3, List.forall_mem_cons.mpr ⟨qt4, List.forall_mem_cons.mpr ⟨qt5, List.forall_mem_cons.mpr ⟨qt6, List.forall_mem_cons.mpr ⟨qt7, List.forall_mem_cons.mpr ⟨qt8, List.forall_mem_cons.mpr ⟨qt9, List.forall_mem_cons.mpr ⟨qt10, List.forall_mem_cons.mpr ⟨qt11, List.forall_mem_cons.mpr ⟨qt12, List.forall_mem_cons.mpr ⟨qt13, List.forall_mem_cons.mpr ⟨qt14, List.forall_mem_cons.mpr ⟨qt15, List.forall_mem_cons.mpr ⟨qt16, List.forall_mem_cons.mpr ⟨qt17, List.forall_mem_cons.mpr ⟨qt18, List.forall_mem_cons.mpr ⟨qt19, List.forall_mem_cons.mpr ⟨qt20, List.forall_mem_cons.mpr ⟨qt21, List.forall_mem_cons.mpr ⟨qt22, List.forall_mem_cons.mpr ⟨qt23, fun _ h => absurd h List.not_mem_nil⟩⟩⟩⟩⟩⟩⟩⟩⟩⟩⟩⟩⟩⟩⟩⟩⟩⟩⟩⟩⟩⟩⟩⟩
theorem qct1 : ∀ w ∈ wsL_law_r2, w ∈ lw_tbl := List.forall_mem_cons.mpr ⟨qt24, List.forall_mem_cons.mpr ⟨qt25, List.forall_mem_cons.mpr ⟨qt26, List.forall_mem_cons.mpr ⟨qt27, List.forall_mem_cons.mpr ⟨qt28, List.forall_mem_cons.mpr ⟨qt29, List.forall_mem_cons.mpr ⟨qt30, List.forall_mem_cons.mpr ⟨qt31, List.forall_mem_cons.mpr ⟨qt32, List.forall_mem_cons.mpr ⟨qt33, List.forall_mem_cons.mpr ⟨qt34, List.forall_mem_cons.mpr ⟨qt35, List.forall_mem_cons.mpr ⟨qt36, List.forall_mem_cons.mpr ⟨qt37, List.forall_mem_cons.mpr ⟨qt38, List.forall_mem_cons.mpr ⟨qt39, List.forall_mem_cons.mpr ⟨qt40, List.forall_mem_cons.mpr ⟨qt41, List.forall_mem_cons.mpr ⟨qt42, List.forall_mem_cons.mpr ⟨qt43, List.forall_mem_cons.mpr ⟨qt44, List.forall_mem_cons.mpr ⟨qt45, List.forall_mem_cons.mpr ⟨qt46, List.forall_mem_cons.mpr ⟨qt47, fun _ h => absurd h List.not_mem_nil⟩⟩⟩⟩⟩⟩⟩⟩⟩⟩⟩⟩⟩⟩⟩⟩⟩⟩⟩⟩⟩⟩⟩⟩
theorem qct2 : ∀ w ∈ wsL_law_r3, w ∈ lw_tbl := List.forall_mem_cons.mpr ⟨qt48, List.forall_mem_cons.mpr ⟨qt49, List.forall_mem_cons.mpr ⟨qt50, List.forall_mem_cons.mpr ⟨qt51, List.forall_mem_cons.mpr ⟨qt52, List.forall_mem_cons.mpr ⟨qt53, List.forall_mem_cons.mpr ⟨qt54, List.forall_mem_cons.mpr ⟨qt55, List.forall_mem_cons.mpr ⟨qt56, List.forall_mem_cons.mpr ⟨qt57, List.forall_mem_cons.mpr ⟨qt58, List.forall_mem_cons.mpr ⟨qt59, List.forall_mem_cons.mpr ⟨qt60, List.forall_mem_cons.mpr ⟨qt61, List.forall_mem_cons.mpr ⟨qt62, List.forall_mem_cons.mpr ⟨qt63, List.forall_mem_cons.mpr ⟨qt64, List.forall_mem_cons.mpr ⟨qt65, List.forall_mem_cons.mpr ⟨qt66, List.forall_mem_cons.mpr ⟨qt67, List.forall_mem_cons.mpr ⟨qt68, List.forall_mem_cons.mpr ⟨qt69, List.forall_mem_cons.mpr ⟨qt70, List.forall_mem_cons.mpr ⟨qt71, fun _ h => absurd h List.not_mem_nil⟩⟩⟩⟩⟩⟩⟩⟩⟩⟩⟩⟩⟩⟩⟩⟩⟩⟩⟩⟩⟩⟩⟩⟩
theorem qct3 : ∀ w ∈ wsL_law_r4, w ∈ lw_tbl := List.forall_mem_cons.mpr ⟨qt72, List.forall_mem_cons.mpr ⟨qt73, List.forall_mem_cons.mpr ⟨qt74, List.forall_mem_cons.mpr ⟨qt75, List.forall_mem_cons.mpr ⟨qt76, List.forall_mem_cons.mpr ⟨qt77, List.forall_mem_cons.mpr ⟨qt78, List.forall_mem_cons.mpr ⟨qt79, List.forall_mem_cons.mpr ⟨qt80, List.forall_mem_cons.mpr ⟨qt81, List.forall_mem_cons.mpr ⟨qt82, List.forall_mem_cons.mpr ⟨qt83, List.forall_mem_cons.mpr ⟨qt84, List.forall_mem_cons.mpr ⟨qt85, List.forall_mem_cons.mpr ⟨qt86, List.forall_mem_cons.mpr ⟨qt87, List.forall_mem_cons.mpr ⟨qt88, List.forall_mem_cons.mpr ⟨qt89, List.forall_mem_cons.mpr ⟨qt90, List.forall_mem_cons.mpr ⟨qt91, List.forall_mem_cons.mpr ⟨qt92, List.forall_mem_cons.mpr ⟨qt93, List.forall_mem_cons.mpr ⟨qt94, List.forall_mem_cons.mpr ⟨qt95, fun _ h => absurd h List.not_mem_nil⟩⟩⟩⟩⟩⟩⟩⟩⟩⟩⟩⟩⟩⟩⟩⟩⟩⟩⟩⟩⟩⟩⟩⟩
theorem qct4 : ∀ w ∈ wsL_law_r5, w ∈ lw_tbl := List.forall_mem_cons.mpr ⟨qt96, List.forall_mem_cons.mpr ⟨qt97, List.forall_mem_cons.mpr ⟨qt98, List.forall_mem_cons.mpr ⟨qt99, List.forall_mem_cons.mpr ⟨qt100, List.forall_mem_cons.mpr ⟨qt101, List.forall_mem_cons.mpr ⟨qt102, List.forall_mem_cons.mpr ⟨qt103, List.forall_mem_cons.mpr ⟨qt104, List.forall_mem_cons.mpr ⟨qt105, List.forall_mem_cons.mpr ⟨qt106, List.forall_mem_cons.mpr ⟨qt107, List.forall_mem_cons.mpr ⟨qt108, List.forall_mem_cons.mpr ⟨qt109, List.forall_mem_cons.mpr ⟨qt110, List.forall_mem_cons.mpr ⟨qt111, List.forall_mem_cons.mpr ⟨qt112, List.forall_mem_cons.mpr ⟨qt113, List.forall_mem_cons.mpr ⟨qt114, List.forall_mem_cons.mpr ⟨qt115, List.forall_mem_cons.mpr ⟨qt116, List.forall_mem_cons.mpr ⟨qt117, List.forall_mem_cons.mpr ⟨qt118, List.forall_mem_cons.mpr ⟨qt119, fun _ h => absurd h List.not_mem_nil⟩⟩⟩⟩⟩⟩⟩⟩⟩⟩⟩⟩⟩⟩⟩⟩⟩⟩⟩⟩⟩⟩⟩⟩
theorem qct5 : ∀ w ∈ wsL_law_r6, w ∈ lw_tbl := List.forall_mem_cons.mpr ⟨qt120, List.forall_mem_cons.mpr ⟨qt121, List.forall_mem_cons.mpr ⟨qt122, List.forall_mem_cons.mpr ⟨qt123, List.forall_mem_cons.mpr ⟨qt124, List.forall_mem_cons.mpr ⟨qt125, List.forall_mem_cons.mpr ⟨qt126, List.forall_mem_cons.mpr ⟨qt127, List.forall_mem_cons.mpr ⟨qt128, List.forall_mem_cons.mpr ⟨qt129, List.forall_mem_cons.mpr ⟨qt130, List.forall_mem_cons.mpr ⟨qt131, List.forall_mem_cons.mpr ⟨qt132, List.forall_mem_cons.mpr ⟨qt133, List.forall_mem_cons.mpr ⟨qt134, List.forall_mem_cons.mpr ⟨qt135, List.forall_mem_cons.mpr ⟨qt136, List.forall_mem_cons.mpr ⟨qt137, List.forall_mem_cons.mpr ⟨qt138, List.forall_mem_cons.mpr ⟨qt139, List.forall_mem_cons.mpr ⟨qt140, List.forall_mem_cons.mpr ⟨qt141, List.forall_mem_cons.mpr ⟨qt142, List.forall_mem_cons.mpr ⟨qt143, fun _ h => absurd h List.not_mem_nil⟩⟩⟩⟩⟩⟩⟩⟩⟩⟩⟩⟩⟩⟩⟩⟩⟩⟩⟩⟩⟩⟩⟩⟩
theorem qct6 : ∀ w ∈ wsL_law_r7, w ∈ lw_tbl := List.forall_mem_cons.mpr ⟨qt144, List.forall_mem_cons.mpr ⟨qt145, List.forall_mem_cons.mpr ⟨qt146, List.forall_mem_cons.mpr ⟨qt147, List.forall_mem_cons.mpr ⟨qt148, List.forall_mem_cons.mpr ⟨qt149, List.forall_mem_cons.mpr ⟨qt150, List.forall_mem_cons.mpr ⟨qt151, List.forall_mem_cons.mpr ⟨qt152, List.forall_mem_cons.mpr ⟨qt153, List.forall_mem_cons.mpr ⟨qt154, List.forall_mem_cons.mpr ⟨qt155, List.forall_mem_cons.mpr ⟨qt156, List.forall_mem_cons.mpr ⟨qt157, List.forall_mem_cons.mpr ⟨qt158, List.forall_mem_cons.mpr ⟨qt159, List.forall_mem_cons.mpr ⟨qt160, List.forall_mem_cons.mpr ⟨qt161, List.forall_mem_cons.mpr ⟨qt162, List.forall_mem_cons.mpr ⟨qt163, List.forall_mem_cons.mpr ⟨qt164, List.forall_mem_cons.mpr ⟨qt165, List.forall_mem_cons.mpr ⟨qt166, List.forall_mem_cons.mpr ⟨qt167, fun _ h => absurd h List.not_mem_nil⟩⟩⟩⟩⟩⟩⟩⟩⟩⟩⟩⟩⟩⟩⟩⟩⟩⟩⟩⟩⟩⟩⟩⟩
theorem qct7 : ∀ w ∈ wsL_law_r8, w ∈ lw_tbl := List.forall_mem_cons.mpr ⟨qt168, List.forall_mem_cons.mpr ⟨qt169, List.forall_mem_cons.mpr ⟨qt170, List.forall_mem_cons.mpr ⟨qt171, List.forall_mem_cons.mpr ⟨qt172, List.forall_mem_cons.mpr ⟨qt173, List.forall_mem_cons.mpr ⟨qt174, List.forall_mem_cons.mpr ⟨qt175, List.forall_mem_cons.mpr ⟨qt176, List.forall_mem_cons.mpr ⟨qt177, List.forall_mem_cons.mpr ⟨qt178, List.forall_mem_cons.mpr ⟨qt179, List.forall_mem_cons.mpr ⟨qt180, List.forall_mem_cons.mpr ⟨qt181, List.forall_mem_cons.mpr ⟨qt182, List.forall_mem_cons.mpr ⟨qt183, List.forall_mem_cons.mpr ⟨qt184, List.forall_mem_cons.mpr ⟨qt185, List.forall_mem_cons.mpr ⟨qt186, List.forall_mem_cons.mpr ⟨qt187, List.forall_mem_cons.mpr ⟨qt188, List.forall_mem_cons.mpr ⟨qt189, List.forall_mem_cons.mpr ⟨qt190, List.forall_mem_cons.mpr ⟨qt191, fun _ h => absurd h List.not_mem_nil⟩⟩⟩⟩⟩⟩⟩⟩⟩⟩⟩⟩⟩⟩⟩⟩⟩⟩⟩⟩⟩⟩⟩⟩
theorem qct8 : ∀ w ∈ wsL_law_r9, w ∈ lw_tbl := List.forall_mem_cons.mpr ⟨qt192, List.forall_mem_cons.mpr ⟨qt193, List.forall_mem_cons.mpr ⟨qt194, List.forall_mem_cons.mpr ⟨qt195, List.forall_mem_cons.mpr ⟨qt196, List.forall_mem_cons.mpr ⟨qt197, List.forall_mem_cons.mpr ⟨qt198, List.forall_mem_cons.mpr ⟨qt199, List.forall_mem_cons.mpr ⟨qt200, List.forall_mem_cons.mpr ⟨qt201, List.forall_mem_cons.mpr ⟨qt202, List.forall_mem_cons.mpr ⟨qt203, List.forall_mem_cons.mpr ⟨qt204, List.forall_mem_cons.mpr ⟨qt205, List.forall_mem_cons.mpr ⟨qt206, List.forall_mem_cons.mpr ⟨qt207, List.forall_mem_cons.mpr ⟨qt208, List.forall_mem_cons.mpr ⟨qt209, List.forall_mem_cons.mpr ⟨qt210, List.forall_mem_cons.mpr ⟨qt211, List.forall_mem_cons.mpr ⟨qt212, List.forall_mem_cons.mpr ⟨qt213, List.forall_mem_cons.mpr ⟨qt214, List.forall_mem_cons.mpr ⟨qt215, fun _ h => absurd h List.not_mem_nil⟩⟩⟩⟩⟩⟩⟩⟩⟩⟩⟩⟩⟩⟩⟩⟩⟩⟩⟩⟩⟩⟩⟩⟩
theorem qct9 : ∀ w ∈ wsL_law_r10, w ∈ lw_tbl := List.forall_mem_cons.mpr ⟨qt216, List.forall_mem_cons.mpr ⟨qt217, List.forall_mem_cons.mpr ⟨qt218, List.forall_mem_cons.mpr ⟨qt219, List.forall_mem_cons.mpr ⟨qt220, List.forall_mem_cons.mpr ⟨qt221, List.forall_mem_cons.mpr ⟨qt222, List.forall_mem_cons.mpr ⟨qt223, List.forall_mem_cons.mpr ⟨qt224, List.forall_mem_cons.mpr ⟨qt225, List.forall_mem_cons.mpr ⟨qt226, List.forall_mem_cons.mpr ⟨qt227, List.forall_mem_cons.mpr ⟨qt228, List.forall_mem_cons.mpr ⟨qt229, List.forall_mem_cons.mpr ⟨qt230, List.forall_mem_cons.mpr ⟨qt231, List.forall_mem_cons.mpr ⟨qt232, List.forall_mem_cons.mpr ⟨qt233, List.forall_mem_cons.mpr ⟨qt234, List.forall_mem_cons.mpr ⟨qt235, List.forall_mem_cons.mpr ⟨qt236, List.forall_mem_cons.mpr ⟨qt237, List.forall_mem_cons.mpr ⟨qt238, List.forall_mem_cons.mpr ⟨qt239, fun _ h => absurd h List.not_mem_nil⟩⟩⟩⟩⟩⟩⟩⟩⟩⟩⟩⟩⟩⟩⟩⟩⟩⟩⟩⟩⟩⟩⟩⟩
theorem qct10 : ∀ w ∈ wsL_law_r11, w ∈ lw_tbl := List.forall_mem_cons.mpr ⟨qt240, List.forall_mem_cons.mpr ⟨qt241, List.forall_mem_cons.mpr ⟨qt242, List.forall_mem_cons.mpr ⟨qt243, List.forall_mem_cons.mpr ⟨qt244, List.forall_mem_cons.mpr ⟨qt245, List.forall_mem_cons.mpr ⟨qt246, List.forall_mem_cons.mpr ⟨qt247, List.forall_mem_cons.mpr ⟨qt248, List.forall_mem_cons.mpr ⟨qt249, List.forall_mem_cons.mpr ⟨qt250, List.forall_mem_cons.mpr ⟨qt251, List.forall_mem_cons.mpr ⟨qt252, List.forall_mem_cons.mpr ⟨qt253, List.forall_mem_cons.mpr ⟨qt254, List.forall_mem_cons.mpr ⟨qt255, List.forall_mem_cons.mpr ⟨qt256, List.forall_mem_cons.mpr ⟨qt257, List.forall_mem_cons.mpr ⟨qt258, List.forall_mem_cons.mpr ⟨qt259, List.forall_mem_cons.mpr ⟨qt260, List.forall_mem_cons.mpr ⟨qt261, List.forall_mem_cons.mpr ⟨qt262, List.forall_mem_cons.mpr ⟨qt263, fun _ h => absurd h List.not_mem_nil⟩⟩⟩⟩⟩⟩⟩⟩⟩⟩⟩⟩⟩⟩⟩⟩⟩⟩⟩⟩⟩⟩⟩⟩
theorem qct11 : ∀ w ∈ wsL_law_r12, w ∈ lw_tbl := List.forall_mem_cons.mpr ⟨qt264, List.forall_mem_cons.mpr ⟨qt265, List.forall_mem_cons.mpr ⟨qt266, List.forall_mem_cons.mpr ⟨qt267, List.forall_mem_cons.mpr ⟨qt268, List.forall_mem_cons.mpr ⟨qt269, List.forall_mem_cons.mpr ⟨qt270, List.forall_mem_cons.mpr ⟨qt271, List.forall_mem_cons.mpr ⟨qt272, List.forall_mem_cons.mpr ⟨qt273, List.forall_mem_cons.mpr ⟨qt274, List.forall_mem_cons.mpr ⟨qt275, List.forall_mem_cons.mpr ⟨qt276, List.forall_mem_cons.mpr ⟨qt277, List.forall_mem_cons.mpr ⟨qt278, List.forall_mem_cons.mpr ⟨qt279, List.forall_mem_cons.mpr ⟨qt280, List.forall_mem_cons.mpr ⟨qt281, List.forall_mem_cons.mpr ⟨qt282, List.forall_mem_cons.mpr ⟨qt283, List.forall_mem_cons.mpr ⟨qt284, List.forall_mem_cons.mpr ⟨qt285, List.forall_mem_cons.mpr ⟨qt286, List.forall_mem_cons.mpr ⟨qt287, fun _ h => absurd h List.not_mem_nil⟩⟩⟩⟩⟩⟩⟩⟩⟩⟩⟩⟩⟩⟩⟩⟩⟩⟩⟩⟩⟩⟩⟩⟩
theorem qct12 : ∀ w ∈ wsL_law_r13, w ∈ lw_tbl := List.forall_mem_cons.mpr ⟨qt288, List.forall_mem_cons.mpr ⟨qt289, List.forall_mem_cons.mpr ⟨qt290, List.forall_mem_cons.mpr ⟨qt291, List.forall_mem_cons.mpr ⟨qt292, List.forall_mem_cons.mpr ⟨qt293, List.forall_mem_cons.mpr ⟨qt294, List.forall_mem_cons.mpr ⟨qt295, List.forall_mem_cons.mpr ⟨qt296, List.forall_mem_cons.mpr ⟨qt297, List.forall_mem_cons.mpr ⟨qt298, List.forall_mem_cons.mpr ⟨qt299, List.forall_mem_cons.mpr ⟨qt300, List.forall_mem_cons.mpr ⟨qt301, List.forall_mem_cons.mpr ⟨qt302, List.forall_mem_cons.mpr ⟨qt303, List.forall_mem_cons.mpr ⟨qt304, List.forall_mem_cons.mpr ⟨qt305, List.forall_mem_cons.mpr ⟨qt306, List.forall_mem_cons.mpr ⟨qt307, List.forall_mem_cons.mpr ⟨qt308, List.forall_mem_cons.mpr ⟨qt309, List.forall_mem_cons.mpr ⟨qt310, List.forall_mem_cons.mpr ⟨qt311, fun _ h => absurd h List.not_mem_nil⟩⟩⟩⟩⟩⟩⟩⟩⟩⟩⟩⟩⟩⟩⟩⟩⟩⟩⟩⟩⟩⟩⟩⟩
theorem qct13 : ∀ w ∈ wsL_law_r14, w ∈ lw_tbl := List.forall_mem_cons.mpr ⟨qt312, List.forall_mem_cons.mpr ⟨qt313, List.forall_mem_cons.mpr ⟨qt314, List.forall_mem_cons.mpr ⟨qt315, List.forall_mem_cons.mpr ⟨qt316, List.forall_mem_cons.mpr ⟨qt317, List.forall_mem_cons.mpr ⟨qt318, List.forall_mem_cons.mpr ⟨qt319, List.forall_mem_cons.mpr ⟨qt320, List.forall_mem_cons.mpr ⟨qt321, List.forall_mem_cons.mpr ⟨qt322, List.forall_mem_cons.mpr ⟨qt323, List.forall_mem_cons.mpr ⟨qt324, List.forall_mem_cons.mpr ⟨qt325, List.forall_mem_cons.mpr ⟨qt326, List.forall_mem_cons.mpr ⟨qt327, List.forall_mem_cons.mpr ⟨qt328, List.forall_mem_cons.mpr ⟨qt329, List.forall_mem_cons.mpr ⟨qt330, List.forall_mem_cons.mpr ⟨qt331, List.forall_mem_cons.mpr ⟨qt332, List.forall_mem_cons.mpr ⟨qt333, List.forall_mem_cons.mpr ⟨qt334, List.forall_mem_cons.mpr ⟨qt335, fun _ h => absurd h List.not_mem_nil⟩⟩⟩⟩⟩⟩⟩⟩⟩⟩⟩⟩⟩⟩⟩⟩⟩⟩⟩⟩⟩⟩⟩⟩
theorem qct14 : ∀ w ∈ wsL_law_r15, w ∈ lw_tbl := List.forall_mem_cons.mpr ⟨qt336, List.forall_mem_cons.mpr ⟨qt337, List.forall_mem_cons.mpr ⟨qt338, List.forall_mem_cons.mpr ⟨qt339, List.forall_mem_cons.mpr ⟨qt340, List.forall_mem_cons.mpr ⟨qt341, List.forall_mem_cons.mpr ⟨qt342, List.forall_mem_cons.mpr ⟨qt343, List.forall_mem_cons.mpr ⟨qt344, List.forall_mem_cons.mpr ⟨qt345, List.forall_mem_cons.mpr ⟨qt346, List.forall_mem_cons.mpr ⟨qt347, List.forall_mem_cons.mpr ⟨qt348, List.forall_mem_cons.mpr ⟨qt349, List.forall_mem_cons.mpr ⟨qt350, List.forall_mem_cons.mpr ⟨qt351, List.forall_mem_cons.mpr ⟨qt352, List.forall_mem_cons.mpr ⟨qt353, List.forall_mem_cons.mpr ⟨qt354, List.forall_mem_cons.mpr ⟨qt355, List.forall_mem_cons.mpr ⟨qt356, List.forall_mem_cons.mpr ⟨qt357, List.forall_mem_cons.mpr ⟨qt358, List.forall_mem_cons.mpr ⟨qt359, fun _ h => absurd h List.not_mem_nil⟩⟩⟩⟩⟩⟩⟩⟩⟩⟩⟩⟩⟩⟩⟩⟩⟩⟩⟩⟩⟩⟩⟩⟩
theorem qct15 : ∀ w ∈ wsL_law_r16, w ∈ lw_tbl := List.forall_mem_cons.mpr ⟨qt360, List.forall_mem_cons.mpr ⟨qt361, List.forall_mem_cons.mpr ⟨qt362, List.forall_mem_cons.mpr ⟨qt363, List.forall_mem_cons.mpr ⟨qt364, List.forall_mem_cons.mpr ⟨qt365, List.forall_mem_cons.mpr ⟨qt366, List.forall_mem_cons.mpr ⟨qt367, List.forall_mem_cons.mpr ⟨qt368, List.forall_mem_cons.mpr ⟨qt369, List.forall_mem_cons.mpr ⟨qt370, List.forall_mem_cons.mpr ⟨qt371, List.forall_mem_cons.mpr ⟨qt372, List.forall_mem_cons.mpr ⟨qt373, List.forall_mem_cons.mpr ⟨qt374, List.forall_mem_cons.mpr ⟨qt375, List.forall_mem_cons.mpr ⟨qt376, List.forall_mem_cons.mpr ⟨qt377, List.forall_mem_cons.mpr ⟨qt378, List.forall_mem_cons.mpr ⟨qt379, List.forall_mem_cons.mpr ⟨qt380, List.forall_mem_cons.mpr ⟨qt381, List.forall_mem_cons.mpr ⟨qt382, List.forall_mem_cons.mpr ⟨qt383, fun _ h => absurd h List.not_mem_nil⟩⟩⟩⟩⟩⟩⟩⟩⟩⟩⟩⟩⟩⟩⟩⟩⟩⟩⟩⟩⟩⟩⟩⟩
theorem qct16 : ∀ w ∈ wsL_law_r17, w ∈ lw_tbl := List.forall_mem_cons.mpr ⟨qt384, List.forall_mem_cons.mpr ⟨qt385, List.forall_mem_cons.mpr ⟨qt386, List.forall_mem_cons.mpr ⟨qt387, List.forall_mem_cons.mpr ⟨qt388, List.forall_mem_cons.mpr ⟨qt389, List.forall_mem_cons.mpr ⟨qt390, List.forall_mem_cons.mpr ⟨qt391, List.forall_mem_cons.mpr ⟨qt392, List.forall_mem_cons.mpr ⟨qt393, List.forall_mem_cons.mpr ⟨qt394, List.forall_mem_cons.mpr ⟨qt395, List.forall_mem_cons.mpr ⟨qt396, List.forall_mem_cons.mpr ⟨qt397, List.forall_mem_cons.mpr ⟨qt398, List.forall_mem_cons.mpr ⟨qt399, List.forall_mem_cons.mpr ⟨qt400, List.forall_mem_cons.mpr ⟨qt401, List.forall_mem_cons.mpr ⟨qt402, List.forall_mem_cons.mpr ⟨qt403, List.forall_mem_cons.mpr ⟨qt404, List.forall_mem_cons.mpr ⟨qt405, List.forall_mem_cons.mpr ⟨qt406, List.forall_mem_cons.mpr ⟨qt407, fun _ h => absurd h List.not_mem_nil⟩⟩⟩⟩⟩⟩⟩⟩⟩⟩⟩⟩⟩⟩⟩⟩⟩⟩⟩⟩⟩⟩⟩⟩
theorem qct17 : ∀ w ∈ wsL_law_r18, w ∈ lw_tbl := List.forall_mem_cons.mpr ⟨qt408, List.forall_mem_cons.mpr ⟨qt409, List.forall_mem_cons.mpr ⟨qt410, List.forall_mem_cons.mpr ⟨qt411, List.forall_mem_cons.mpr ⟨qt412, List.forall_mem_cons.mpr ⟨qt413, List.forall_mem_cons.mpr ⟨qt414, List.forall_mem_cons.mpr ⟨qt415, List.forall_mem_cons.mpr ⟨qt416, List.forall_mem_cons.mpr ⟨qt417, List.forall_mem_cons.mpr ⟨qt418, List.forall_mem_cons.mpr ⟨qt419, List.forall_mem_cons.mpr ⟨qt420, List.forall_mem_cons.mpr ⟨qt421, List.forall_mem_cons.mpr ⟨qt422, List.forall_mem_cons.mpr ⟨qt423, List.forall_mem_cons.mpr ⟨qt424, List.forall_mem_cons.mpr ⟨qt425, List.forall_mem_cons.mpr ⟨qt426, List.forall_mem_cons.mpr ⟨qt427, List.forall_mem_cons.mpr ⟨qt428, List.forall_mem_cons.mpr ⟨qt429, List.forall_mem_cons.mpr ⟨qt430, List.forall_mem_cons.mpr ⟨qt431, fun _ h => absurd h List.not_mem_nil⟩⟩⟩⟩⟩⟩⟩⟩⟩⟩⟩⟩⟩⟩⟩⟩⟩⟩⟩⟩⟩⟩⟩⟩
theorem qct18 : ∀ w ∈ wsL_law_r19, w ∈ lw_tbl := List.forall_mem_cons.mpr ⟨qt432, List.forall_mem_cons.mpr ⟨qt433, List.forall_mem_cons.mpr ⟨qt434, List.forall_mem_cons.mpr ⟨qt435, List.forall_mem_cons.mpr ⟨qt436, List.forall_mem_cons.mpr ⟨qt437, List.forall_mem_cons.mpr ⟨qt438, List.forall_mem_cons.mpr ⟨qt439, List.forall_mem_cons.mpr ⟨qt440, List.forall_mem_cons.mpr ⟨qt441, List.forall_mem_cons.mpr ⟨qt442, List.forall_mem_cons.mpr ⟨qt443, List.forall_mem_cons.mpr ⟨qt444, List.forall_mem_cons.mpr ⟨qt445, List.forall_mem_cons.mpr ⟨qt446, List.forall_mem_cons.mpr ⟨qt447, List.forall_mem_cons.mpr ⟨qt448, List.forall_mem_cons.mpr ⟨qt449, List.forall_mem_cons.mpr ⟨qt450, List.forall_mem_cons.mpr ⟨qt451, List.forall_mem_cons.mpr ⟨qt452, List.forall_mem_cons.mpr ⟨qt453, List.forall_mem_cons.mpr ⟨qt454, fun _ h => absurd h List.not_mem_nil⟩⟩⟩⟩⟩⟩⟩⟩⟩⟩⟩⟩⟩⟩⟩⟩⟩⟩⟩⟩⟩⟩⟩
set_option maxRecDepth 100000 in
theorem qt455 : (u_lay RX6 TX6 0 : Cond) ∈ lw_tbl := List.mem_of_getElem? (i := 230) rfl
set_option maxRecDepth 100000 in
theorem qt456 : (u_lay RX6 TX6 1 : Cond) ∈ lw_tbl := List.mem_of_getElem? (i := 232) rfl
set_option maxRecDepth 100000 in
theorem qt457 : (u_lay RX6 TX6 2 : Cond) ∈ lw_tbl := List.mem_of_getElem? (i := 234) rfl
set_option maxRecDepth 100000 in
theorem qt458 : (u_lay RX6 TX6 3 : Cond) ∈ lw_tbl := List.mem_of_getElem? (i := 236) rfl
set_option maxRecDepth 100000 in
theorem qt459 : (u_lay RX6 TX6 4 : Cond) ∈ lw_tbl := List.mem_of_getElem? (i := 238) rfl
set_option maxRecDepth 100000 in
theorem qt460 : (u_lay RX6 TX6 5 : Cond) ∈ lw_tbl := List.mem_of_getElem? (i := 240) rfl
set_option maxRecDepth 100000 in
theorem qt461 : (u_lay RX2 TX2 0 : Cond) ∈ lw_tbl := List.mem_of_getElem? (i := 179) rfl
set_option maxRecDepth 100000 in
theorem qt462 : (u_lay RX2 TX2 1 : Cond) ∈ lw_tbl := List.mem_of_getElem? (i := 181) rfl
set_option maxRecDepth 100000 in
theorem qt463 : (u_lay RX2 TX2 2 : Cond) ∈ lw_tbl := List.mem_of_getElem? (i := 183) rfl
set_option maxRecDepth 100000 in
theorem qt464 : (u_lay RX2 TX2 3 : Cond) ∈ lw_tbl := List.mem_of_getElem? (i := 185) rfl
set_option maxRecDepth 100000 in
theorem qt465 : (u_lay RX2 TX2 4 : Cond) ∈ lw_tbl := List.mem_of_getElem? (i := 187) rfl
set_option maxRecDepth 100000 in
theorem qt466 : (u_lay RX2 TX2 5 : Cond) ∈ lw_tbl := List.mem_of_getElem? (i := 189) rfl
set_option maxRecDepth 100000 in
theorem qt467 : (u_lay RX3 TX3 0 : Cond) ∈ lw_tbl := List.mem_of_getElem? (i := 204) rfl
set_option maxRecDepth 100000 in
theorem qt468 : (u_lay RX3 TX3 1 : Cond) ∈ lw_tbl := List.mem_of_getElem? (i := 206) rfl
set_option maxRecDepth 100000 in
theorem qt469 : (u_lay RX0 TX0 0 : Cond) ∈ lw_tbl := List.mem_of_getElem? (i := 218) rfl
set_option maxRecDepth 100000 in
theorem qt470 : (u_lay RX0 TX0 1 : Cond) ∈ lw_tbl := List.mem_of_getElem? (i := 220) rfl
set_option maxRecDepth 100000 in
theorem qt471 : (u_lay RX5 TX5 0 : Cond) ∈ lw_tbl := List.mem_of_getElem? (i := 59) rfl
set_option maxRecDepth 100000 in
theorem qt472 : (u_lay RX5 TX5 1 : Cond) ∈ lw_tbl := List.mem_of_getElem? (i := 61) rfl
set_option maxRecDepth 100000 in
theorem qt473 : (u_lay RX5 TX5 2 : Cond) ∈ lw_tbl := List.mem_of_getElem? (i := 63) rfl
set_option maxRecDepth 100000 in
theorem qt474 : (u_lay RX5 TX5 3 : Cond) ∈ lw_tbl := List.mem_of_getElem? (i := 65) rfl
set_option maxRecDepth 100000 in
theorem qt475 : (u_lay RX5 TX5 4 : Cond) ∈ lw_tbl := List.mem_of_getElem? (i := 67) rfl
set_option maxRecDepth 100000 in
theorem qt476 : (u_lay RX5 TX5 5 : Cond) ∈ lw_tbl := List.mem_of_getElem? (i := 69) rfl
set_option maxRecDepth 100000 in
theorem qt477 : (u_lay RX5 TX5 6 : Cond) ∈ lw_tbl := List.mem_of_getElem? (i := 71) rfl
set_option maxRecDepth 100000 in
theorem qt478 : (u_lay RX5 TX5 7 : Cond) ∈ lw_tbl := List.mem_of_getElem? (i := 73) rfl
set_option maxRecDepth 100000 in
theorem qt479 : (u_lay RX4 TX4 0 : Cond) ∈ lw_tbl := List.mem_of_getElem? (i := 111) rfl
set_option maxRecDepth 100000 in
theorem qt480 : (u_lay RX4 TX4 1 : Cond) ∈ lw_tbl := List.mem_of_getElem? (i := 113) rfl
set_option maxRecDepth 100000 in
theorem qt481 : (u_lay RX4 TX4 2 : Cond) ∈ lw_tbl := List.mem_of_getElem? (i := 115) rfl
set_option maxRecDepth 100000 in
theorem qt482 : (u_lay RX4 TX4 3 : Cond) ∈ lw_tbl := List.mem_of_getElem? (i := 117) rfl
set_option maxRecDepth 100000 in
theorem qt483 : (u_lay RX4 TX4 4 : Cond) ∈ lw_tbl := List.mem_of_getElem? (i := 119) rfl
set_option maxRecDepth 100000 in
theorem qt484 : (u_lay RX4 TX4 5 : Cond) ∈ lw_tbl := List.mem_of_getElem? (i := 121) rfl
set_option maxRecDepth 100000 in
theorem qt485 : (u_lay RX4 TX4 6 : Cond) ∈ lw_tbl := List.mem_of_getElem? (i := 123) rfl
set_option maxRecDepth 100000 in
theorem qt486 : (u_lay RX4 TX4 7 : Cond) ∈ lw_tbl := List.mem_of_getElem? (i := 125) rfl
set_option maxRecDepth 100000 in
theorem qt487 : (u_lay RX4 TX4 8 : Cond) ∈ lw_tbl := List.mem_of_getElem? (i := 127) rfl
set_option maxRecDepth 100000 in
theorem qt488 : (u_lay RX1 TX1 0 : Cond) ∈ lw_tbl := List.mem_of_getElem? (i := 154) rfl
set_option maxRecDepth 100000 in
theorem qt489 : (u_lay RX1 TX1 1 : Cond) ∈ lw_tbl := List.mem_of_getElem? (i := 156) rfl
set_option maxRecDepth 100000 in
theorem qt490 : (u_lay RX1 TX1 2 : Cond) ∈ lw_tbl := List.mem_of_getElem? (i := 158) rfl
set_option maxRecDepth 100000 in
theorem qt491 : (u_lay RX1 TX1 3 : Cond) ∈ lw_tbl := List.mem_of_getElem? (i := 160) rfl
set_option maxRecDepth 100000 in
theorem qt492 : (u_lay RX1 TX1 4 : Cond) ∈ lw_tbl := List.mem_of_getElem? (i := 162) rfl
set_option maxRecDepth 100000 in
theorem qt493 : (u_lay RX1 TX1 5 : Cond) ∈ lw_tbl := List.mem_of_getElem? (i := 164) rfl
theorem qt_wsX60 : ∀ w ∈ wsX60, w ∈ lw_tbl := List.forall_mem_cons.mpr ⟨qt455, List.forall_mem_cons.mpr ⟨qt456, List.forall_mem_cons.mpr ⟨qt457, List.forall_mem_cons.mpr ⟨qt458, List.forall_mem_cons.mpr ⟨qt459, List.forall_mem_cons.mpr ⟨qt460, fun _ h => absurd h List.not_mem_nil⟩⟩⟩⟩⟩⟩
theorem qt_wsX20 : ∀ w ∈ wsX20, w ∈ lw_tbl := List.forall_mem_cons.mpr ⟨qt461, List.forall_mem_cons.mpr ⟨qt462, List.forall_mem_cons.mpr ⟨qt463, List.forall_mem_cons.mpr ⟨qt464, List.forall_mem_cons.mpr ⟨qt465, List.forall_mem_cons.mpr ⟨qt466, fun _ h => absurd h List.not_mem_nil⟩⟩⟩⟩⟩⟩
theorem qt_wsX30 : ∀ w ∈ wsX30, w ∈ lw_tbl := List.forall_mem_cons.mpr ⟨qt467, List.forall_mem_cons.mpr ⟨qt468, fun _ h => absurd h List.not_mem_nil⟩⟩
theorem qt_wsX00 : ∀ w ∈ wsX00, w ∈ lw_tbl := List.forall_mem_cons.mpr ⟨qt469, List.forall_mem_cons.mpr ⟨qt470, fun _ h => absurd h List.not_mem_nil⟩⟩
theorem qt_wsX50 : ∀ w ∈ wsX50, w ∈ lw_tbl := List.forall_mem_cons.mpr ⟨qt471, List.forall_mem_cons.mpr ⟨qt472, List.forall_mem_cons.mpr ⟨qt473, List.forall_mem_cons.mpr ⟨qt474, List.forall_mem_cons.mpr ⟨qt475, List.forall_mem_cons.mpr ⟨qt476, List.forall_mem_cons.mpr ⟨qt477, List.forall_mem_cons.mpr ⟨qt478, fun _ h => absurd h List.not_mem_nil⟩⟩⟩⟩⟩⟩⟩⟩
theorem qt_wsX40 : ∀ w ∈ wsX40, w ∈ lw_tbl := List.forall_mem_cons.mpr ⟨qt479, List.forall_mem_cons.mpr ⟨qt480, List.forall_mem_cons.mpr ⟨qt481, List.forall_mem_cons.mpr ⟨qt482, List.forall_mem_cons.mpr ⟨qt483, List.forall_mem_cons.mpr ⟨qt484, List.forall_mem_cons.mpr ⟨qt485, List.forall_mem_cons.mpr ⟨qt486, List.forall_mem_cons.mpr ⟨qt487, fun _ h => absurd h List.not_mem_nil⟩⟩⟩⟩⟩⟩⟩⟩⟩
theorem qt_wsX10 : ∀ w ∈ wsX10, w ∈ lw_tbl := List.forall_mem_cons.mpr ⟨qt488, List.forall_mem_cons.mpr ⟨qt489, List.forall_mem_cons.mpr ⟨qt490, List.forall_mem_cons.mpr ⟨qt491, List.forall_mem_cons.mpr ⟨qt492, List.forall_mem_cons.mpr ⟨qt493, fun _ h => absurd h List.not_mem_nil⟩⟩⟩⟩⟩⟩
theorem wsL_law_in : ∀ w ∈ wsL_law, w ∈ lw_tbl := List.forall_mem_append.mpr ⟨List.forall_mem_append.mpr ⟨List.forall_mem_append.mpr ⟨List.forall_mem_append.mpr ⟨List.forall_mem_append.mpr ⟨List.forall_mem_append.mpr ⟨List.forall_mem_append.mpr ⟨List.forall_mem_append.mpr ⟨List.forall_mem_append.mpr ⟨qct0, List.forall_mem_append.mpr ⟨qct1, List.forall_mem_append.mpr ⟨qct2, List.forall_mem_append.mpr ⟨qct3, List.forall_mem_append.mpr ⟨qct4, List.forall_mem_append.mpr ⟨qct5, List.forall_mem_append.mpr ⟨qct6, List.forall_mem_append.mpr ⟨qct7, List.forall_mem_append.mpr ⟨qct8, List.forall_mem_append.mpr ⟨qct9, List.forall_mem_append.mpr ⟨qct10, List.forall_mem_append.mpr ⟨qct11, List.forall_mem_append.mpr ⟨qct12, List.forall_mem_append.mpr ⟨qct13, List.forall_mem_append.mpr ⟨qct14, List.forall_mem_append.mpr ⟨qct15, List.forall_mem_append.mpr ⟨qct16, List.forall_mem_append.mpr ⟨qct17, qct18⟩⟩⟩⟩⟩⟩⟩⟩⟩⟩⟩⟩⟩⟩⟩⟩⟩⟩, qt_wsX60⟩, qt_wsX20⟩, qt_wsX30⟩, qt_wsX00⟩, qt_wsX50⟩, qt_wsX40⟩, qt_wsX10⟩, fun _ h => absurd h List.not_mem_nil⟩
theorem qg0 : wsL_law_r1.all goodWord = true := by decide +kernel
theorem qg1 : wsL_law_r2.all goodWord = true := by decide +kernel
theorem qg2 : wsL_law_r3.all goodWord = true := by decide +kernel
theorem qg3 : wsL_law_r4.all goodWord = true := by decide +kernel
theorem qg4 : wsL_law_r5.all goodWord = true := by decide +kernel
theorem qg5 : wsL_law_r6.all goodWord = true := by decide +kernel
theorem qg6 : wsL_law_r7.all goodWord = true := by decide +kernel
theorem qg7 : wsL_law_r8.all goodWord = true := by decide +kernel
theorem qg8 : wsL_law_r9.all goodWord = true := by decide +kernel
theorem qg9 : wsL_law_r10.all goodWord = true := by decide +kernel
theorem qg10 : wsL_law_r11.all goodWord = true := by decide +kernel
theorem qg11 : wsL_law_r12.all goodWord = true := by decide +kernel
theorem qg12 : wsL_law_r13.all goodWord = true := by decide +kernel
theorem qg13 : wsL_law_r14.all goodWord = true := by decide +kernel
theorem qg14 : wsL_law_r15.all goodWord = true := by decide +kernel
theorem qg15 : wsL_law_r16.all goodWord = true := by decide +kernel
theorem qg16 : wsL_law_r17.all goodWord = true := by decide +kernel
theorem qg17 : wsL_law_r18.all goodWord = true := by decide +kernel
theorem qg18 : wsL_law_r19.all goodWord = true := by decide +kernel
theorem qg_wsX60 : wsX60.all goodWord = true := by decide +kernel
theorem qg_wsX20 : wsX20.all goodWord = true := by decide +kernel
theorem qg_wsX30 : wsX30.all goodWord = true := by decide +kernel
theorem qg_wsX00 : wsX00.all goodWord = true := by decide +kernel
theorem qg_wsX50 : wsX50.all goodWord = true := by decide +kernel
theorem qg_wsX40 : wsX40.all goodWord = true := by decide +kernel
theorem qg_wsX10 : wsX10.all goodWord = true := by decide +kernel
theorem wsL_good : ∀ w ∈ wsL_law, goodWord w = true := List.forall_mem_append.mpr ⟨List.forall_mem_append.mpr ⟨List.forall_mem_append.mpr ⟨List.forall_mem_append.mpr ⟨List.forall_mem_append.mpr ⟨List.forall_mem_append.mpr ⟨List.forall_mem_append.mpr ⟨List.forall_mem_append.mpr ⟨List.forall_mem_append.mpr ⟨fun w h => List.all_eq_true.mp qg0 w h, List.forall_mem_append.mpr ⟨fun w h => List.all_eq_true.mp qg1 w h, List.forall_mem_append.mpr ⟨fun w h => List.all_eq_true.mp qg2 w h, List.forall_mem_append.mpr ⟨fun w h => List.all_eq_true.mp qg3 w h, List.forall_mem_append.mpr ⟨fun w h => List.all_eq_true.mp qg4 w h, List.forall_mem_append.mpr ⟨fun w h => List.all_eq_true.mp qg5 w h, List.forall_mem_append.mpr ⟨fun w h => List.all_eq_true.mp qg6 w h, List.forall_mem_append.mpr ⟨fun w h => List.all_eq_true.mp qg7 w h, List.forall_mem_append.mpr ⟨fun w h => List.all_eq_true.mp qg8 w h, List.forall_mem_append.mpr ⟨fun w h => List.all_eq_true.mp qg9 w h, List.forall_mem_append.mpr ⟨fun w h => List.all_eq_true.mp qg10 w h, List.forall_mem_append.mpr ⟨fun w h => List.all_eq_true.mp qg11 w h, List.forall_mem_append.mpr ⟨fun w h => List.all_eq_true.mp qg12 w h, List.forall_mem_append.mpr ⟨fun w h => List.all_eq_true.mp qg13 w h, List.forall_mem_append.mpr ⟨fun w h => List.all_eq_true.mp qg14 w h, List.forall_mem_append.mpr ⟨fun w h => List.all_eq_true.mp qg15 w h, List.forall_mem_append.mpr ⟨fun w h => List.all_eq_true.mp qg16 w h, List.forall_mem_append.mpr ⟨fun w h => List.all_eq_true.mp qg17 w h, fun w h => List.all_eq_true.mp qg18 w h⟩⟩⟩⟩⟩⟩⟩⟩⟩⟩⟩⟩⟩⟩⟩⟩⟩⟩, fun w h => List.all_eq_true.mp qg_wsX60 w h⟩, fun w h => List.all_eq_true.mp qg_wsX20 w h⟩, fun w h => List.all_eq_true.mp qg_wsX30 w h⟩, fun w h => List.all_eq_true.mp qg_wsX00 w h⟩, fun w h => List.all_eq_true.mp qg_wsX50 w h⟩, fun w h => List.all_eq_true.mp qg_wsX40 w h⟩, fun w h => List.all_eq_true.mp qg_wsX10 w h⟩, fun _ h => absurd h List.not_mem_nil⟩
end
section
/-! ROWS OVER A SMALLER JUDGEMENT. Yx: the machine at pc with the locals lv and the stack st over the heap H comes to Q; the locals' array, the written places and the tables' facts are bundled (Cx). -/
/-- which classes: the numbers of the classes and their slots, and the classes of the arrays (0 int, 1 float, 2 char, 3 Desk[]) -/
abbrev KG : Type := va_G × (Nat → ClassId)
abbrev tysG (g : KG) : List (ClassId × FieldType) := [(g.2 0, .int), (g.2 1, .float), (g.2 2, .char), (g.2 3, .object "SetRepairs$Desk")]
/-- a static array of ints that holds f -/
def stA (B0 : Nat) (nm : String) (N : Nat) (f : Nat → Int32) (U : State) (H : Heap) : Prop := ∃ t : Nat, va_Z "SetRepairs" nm "[I" (.ref t) (fun q => B0 ≤ q) U H ∧ va_T .int t N (fun j => .int (f j)) (fun q => B0 ≤ q) U H
def tabL (l : List Int32) : Nat → Int32 := fun j => l.getD j 0
def tPF : Nat → Int32 := tabL [1,0,0,0,0,0, 0,1,0,0,0,0, 0,0,2,0,0,0, 0,0,0,1,1,0, 0,0,0,0,0,1]
def tHF : Nat → Int32 := tabL [2,3,1,5,4]
def tLN : Nat → Int32 := tabL [1,100,0,1,0]
def tHN : Nat → Int32 := tabL [24,20000,60,400,6]
def tLR : Nat → Int32 := tabL [1065353216,1065353216,0,0]
def tHR : Nat → Int32 := tabL [1077936128,1073741824,1148846080,1065353216]
/-- what a method finds in the tables and the statics -/
def env (g : KG) (B0 : Nat) (U : State) (H : Heap) : Prop :=
  va_K g.1 vwCl (tysG g) U ∧ va_Nw (.fieldLinkNest "SetRepairs$Store" 43 "SetRepairs" "PARTS_OF_FAULT" "[I" "SetRepairs") U ∧ va_Nw (.fieldLinkNest "SetRepairs$Desk" 68 "SetRepairs" "HOURS_OF_FAULT" "[I" "SetRepairs") U ∧ va_Nw (.methodLinkNest "SetRepairs$Desk" 43 yX1_init "SetRepairs") U ∧ va_AO "SetRepairs$Desk" U ∧
  stA B0 "PARTS_OF_FAULT" 30 tPF U H ∧ stA B0 "HOURS_OF_FAULT" 5 tHF U H ∧ stA B0 "LOWEST_NUMBER" 5 tLN U H ∧ stA B0 "HIGHEST_NUMBER" 5 tHN U H ∧ stA B0 "LOWEST_RATE_BITS" 4 tLR U H ∧ stA B0 "HIGHEST_RATE_BITS" 4 tHR U H
theorem stA.warm {B0 N : Nat} {nm : String} {f : Nat → Int32} {u U : State} {H : Heap} (hvm : u.vm.Alike U.vm) (h : stA B0 nm N f u H) : stA B0 nm N f U H := by
  obtain ⟨t, h1, h2⟩ := h
  exact ⟨t, h1.moved hvm, h2.moved hvm⟩
theorem stA.kept {B0 N : Nat} {nm : String} {f : Nat → Int32} {U : State} {H H1 : Heap} (h : stA B0 nm N f U H) (hq : ∀ q : Nat, q < H.size → q < B0 → H1[q]? = H[q]?) : stA B0 nm N f U H1 := by
  obtain ⟨t, h1, h2⟩ := h
  exact ⟨t, h1.kept (fun a k1 k2 => hq a k1 (Nat.lt_of_not_le k2)), h2.kept (fun a k1 k2 => hq a k1 (Nat.lt_of_not_le k2))⟩
theorem env.warm {g : KG} {B0 : Nat} {u U : State} {H : Heap} (hW : u.WarmedH U.vm) (h : env g B0 u H) : env g B0 U H := by
  obtain ⟨h1, h2, h3, h4, h5, h6, h7, h8, h9, h10, h11⟩ := h
  have a := hW.alike
  exact ⟨va_K.moved a h1, va_Nw.warmF hW h2, va_Nw.warmF hW h3, va_Nw.warmM hW h4, va_AO.moved a h5, h6.warm a, h7.warm a, h8.warm a, h9.warm a, h10.warm a, h11.warm a⟩
theorem env.same {g : KG} {B0 : Nat} {u U : State} {H : Heap} (hv : u.vm = U.vm) (h : env g B0 u H) : env g B0 U H := by
  obtain ⟨h1, h2, h3, h4, h5, h6, h7, h8, h9, h10, h11⟩ := h
  have a : u.vm.Alike U.vm := by rw [hv]; exact Vm.Alike.refl U.vm
  exact ⟨va_K.moved a h1, va_Nw.same rfl hv h2, va_Nw.same rfl hv h3, va_Nw.same rfl hv h4, va_AO.moved a h5, h6.warm a, h7.warm a, h8.warm a, h9.warm a, h10.warm a, h11.warm a⟩
theorem env.kept {g : KG} {B0 : Nat} {U : State} {H H1 : Heap} (h : env g B0 U H) (hq : ∀ q : Nat, q < H.size → q < B0 → H1[q]? = H[q]?) : env g B0 U H1 := by
  obtain ⟨h1, h2, h3, h4, h5, h6, h7, h8, h9, h10, h11⟩ := h
  exact ⟨h1, h2, h3, h4, h5, h6.kept hq, h7.kept hq, h8.kept hq, h9.kept hq, h10.kept hq, h11.kept hq⟩
/-- the bundle of a method's fixed facts -/
def Cx (g : KG) (B0 : Nat) (A : Nat → Prop) (p : Program) (s : State) (m : MethodId) (args : Array Value) (meth : Method) (c : Code) (cc : ByteArray) (nL : Nat) (own : String) : Prop :=
  p.tables.exec = Jvm.exec ∧ c.code = cc ∧ c.maxLocals = nL ∧ s.vm.findClass own = some m.cls ∧ (∀ w ∈ wsL_law, w.before args s = true) ∧ env g B0 s s.heap ∧ (∀ q, A q → B0 ≤ q) ∧ meth.locks = false
def Yx (A : Nat → Prop) (p : Program) (l : Launch) (e : Env) (R : Room) (s : State) (m : MethodId) (args : Array Value) (below : List Frame) (meth : Method) (c : Code) (nL cells slots : Nat) (Q : State → Prop) (lv : List (Nat × Value)) (H : Heap) (pc : Nat) (st : List Value) : Prop :=
  ∀ (ls : Array Slot) (locs : List Loc), lv_has ls nL lv → va_S A s.heap H locs → W p l e R s m args below meth c H locs cells slots Q (F0 m pc ls st)
/-- a method's end: its value, and what the heap holds then -/
def Qx (rv : Option Value) (P : Heap → Prop) (A : Nat → Prop) : Array Value → State → Outcome → State → Prop := fun _ st oc t => (oc = .returned rv ∧ P t.heap) ∧ va_F A st t
/-- a method's contract: from P it answers rv, and then P1 holds; no cell outside of A is changed -/
def Mt (g : KG) (B0 : Nat) (l : Launch) (y : MethodName) (cc : ByteArray) (nL : Nat) (ret : Option FieldType) (rm : Room) (av : List Value) (A : Nat → Prop) (P : Heap → Prop) (rv : Option Value) (P1 : Heap → Prop) (mc ms : Nat) : Prop :=
  Met l y (.code y cc nL ret :: wsL_law) rm (va_Pc av (fun U => (∀ q, A q → B0 ≤ q) ∧ env g B0 U U.heap ∧ P U.heap)) (Qx rv P1 A) mc ms A
theorem lwG {ws : List Cond} (h : ∀ w ∈ ws, w ∈ wsL_law) : GoodIn wsL_law ws := fun w hw => ⟨h w hw, good_of_word (wsL_good w (h w hw))⟩
section ROWS
variable {g : KG} {B0 : Nat} {A : Nat → Prop} {p : Program} {l : Launch} {e : Env} {R : Room} {s : State} {m : MethodId} {args : Array Value} {below : List Frame} {meth : Method} {c : Code} {cc : ByteArray} {nL : Nat} {own : String} {cells slots : Nat} {Q : State → Prop} {lv lv' : List (Nat × Value)} {H : Heap} {pc : Nat} {rest : List Value}
theorem y_iconst (C : Cx g B0 A p s m args meth c cc nL own) {n : Int} (v : Int32) (hdg : decode cc pc = .ok (.iconst n, 1)) (hv : Int32.ofInt n = v) (k : Yx A p l e R s m args below meth c nL cells slots Q lv H (pc + 1) (.int v :: rest)) : Yx A p l e R s m args below meth c nL cells slots Q lv H pc rest :=
  fun ls locs hl hS => lv_iconst C.1 C.2.1 hdg hv (k ls locs hl hS)
theorem y_bipush (C : Cx g B0 A p s m args meth c cc nL own) {n : Int} (v : Int32) (hdg : decode cc pc = .ok (.bipush n, 2)) (hv : (Int8.ofInt n).toInt32 = v) (k : Yx A p l e R s m args below meth c nL cells slots Q lv H (pc + 2) (.int v :: rest)) : Yx A p l e R s m args below meth c nL cells slots Q lv H pc rest :=
  fun ls locs hl hS => lv_bipush C.1 C.2.1 hdg hv (k ls locs hl hS)
theorem y_sipush (C : Cx g B0 A p s m args meth c cc nL own) {n : Int} (v : Int32) (hdg : decode cc pc = .ok (.sipush n, 3)) (hv : (Int16.ofInt n).toInt32 = v) (k : Yx A p l e R s m args below meth c nL cells slots Q lv H (pc + 3) (.int v :: rest)) : Yx A p l e R s m args below meth c nL cells slots Q lv H pc rest :=
  fun ls locs hl hS => lv_sipush C.1 C.2.1 hdg hv (k ls locs hl hS)
theorem y_ldc (C : Cx g B0 A p s m args meth c cc nL own) {index : Nat} {v : Int32} (hw : Cond.constant own index v ∈ wsL_law) (hdg : decode cc pc = .ok (.ldc index, 2)) (k : Yx A p l e R s m args below meth c nL cells slots Q lv H (pc + 2) (.int v :: rest)) : Yx A p l e R s m args below meth c nL cells slots Q lv H pc rest :=
  fun ls locs hl hS => lv_ldc C.1 C.2.1 C.2.2.2.1 (C.2.2.2.2.1 _ hw) hdg (k ls locs hl hS)
theorem y_ldcf (C : Cx g B0 A p s m args meth c cc nL own) {index : Nat} {v : UInt32} (hw : Cond.constantFloat own index v ∈ wsL_law) (hdg : decode cc pc = .ok (.ldc index, 2)) (k : Yx A p l e R s m args below meth c nL cells slots Q lv H (pc + 2) (.float v :: rest)) : Yx A p l e R s m args below meth c nL cells slots Q lv H pc rest :=
  fun ls locs hl hS => lv_ldcf C.1 C.2.1 C.2.2.2.1 (C.2.2.2.2.1 _ hw) hdg (k ls locs hl hS)
theorem y_fconst0 (C : Cx g B0 A p s m args meth c cc nL own) (hdg : decode cc pc = .ok (.fconst 0, 1)) (k : Yx A p l e R s m args below meth c nL cells slots Q lv H (pc + 1) (.float FP.fconst0 :: rest)) : Yx A p l e R s m args below meth c nL cells slots Q lv H pc rest :=
  fun ls locs hl hS => lv_fconst0 C.1 C.2.1 hdg (k ls locs hl hS)
theorem y_fconst2 (C : Cx g B0 A p s m args meth c cc nL own) (hdg : decode cc pc = .ok (.fconst 2, 1)) (k : Yx A p l e R s m args below meth c nL cells slots Q lv H (pc + 1) (.float FP.fconst2 :: rest)) : Yx A p l e R s m args below meth c nL cells slots Q lv H pc rest :=
  fun ls locs hl hS => lv_fconst2 C.1 C.2.1 hdg (k ls locs hl hS)
theorem y_iload_n (C : Cx g B0 A p s m args meth c cc nL own) {j : Fin 4} {i : Nat} {x : Int32} (q : Nat) (hdg : decode cc pc = .ok (.iload_n j, 1)) (hi : (j : Nat) = i) (hq : lv[q]? = some (i, .int x)) (k : Yx A p l e R s m args below meth c nL cells slots Q lv H (pc + 1) (.int x :: rest)) : Yx A p l e R s m args below meth c nL cells slots Q lv H pc rest :=
  fun ls locs hl hS => lv_iload_n C.1 C.2.1 hdg hi (lv_at hl q hq) (k ls locs hl hS)
theorem y_iload (C : Cx g B0 A p s m args meth c cc nL own) {i : Nat} {x : Int32} (q : Nat) (hdg : decode cc pc = .ok (.iload i, 2)) (hq : lv[q]? = some (i, .int x)) (k : Yx A p l e R s m args below meth c nL cells slots Q lv H (pc + 2) (.int x :: rest)) : Yx A p l e R s m args below meth c nL cells slots Q lv H pc rest :=
  fun ls locs hl hS => lv_iload C.1 C.2.1 hdg (lv_at hl q hq) (k ls locs hl hS)
theorem y_aload_n (C : Cx g B0 A p s m args meth c cc nL own) {j : Fin 4} {i : Nat} {x : Nat} (q : Nat) (hdg : decode cc pc = .ok (.aload_n j, 1)) (hi : (j : Nat) = i) (hq : lv[q]? = some (i, .ref x)) (k : Yx A p l e R s m args below meth c nL cells slots Q lv H (pc + 1) (.ref x :: rest)) : Yx A p l e R s m args below meth c nL cells slots Q lv H pc rest :=
  fun ls locs hl hS => lv_aload_n C.1 C.2.1 hdg hi (lv_at hl q hq) (k ls locs hl hS)
theorem y_fload_n (C : Cx g B0 A p s m args meth c cc nL own) {j : Fin 4} {i : Nat} {x : UInt32} (q : Nat) (hdg : decode cc pc = .ok (.fload_n j, 1)) (hi : (j : Nat) = i) (hq : lv[q]? = some (i, .float x)) (k : Yx A p l e R s m args below meth c nL cells slots Q lv H (pc + 1) (.float x :: rest)) : Yx A p l e R s m args below meth c nL cells slots Q lv H pc rest :=
  fun ls locs hl hS => lv_fload_n C.1 C.2.1 hdg hi (lv_at hl q hq) (k ls locs hl hS)
theorem y_istore_n (C : Cx g B0 A p s m args meth c cc nL own) {j : Fin 4} {i : Nat} {x : Int32} (hdg : decode cc pc = .ok (.istore_n j, 1)) (hi : (j : Nat) = i) (hn : i < nL) (hl' : (i, Value.int x) :: lv.filter (fun q => !(q.1 == i) && !(q.1 + 1 == i && q.2.category == 2)) = lv') (k : Yx A p l e R s m args below meth c nL cells slots Q lv' H (pc + 1) rest) : Yx A p l e R s m args below meth c nL cells slots Q lv H pc (.int x :: rest) :=
  fun ls locs hl hS => lv_istore_n C.1 C.2.1 hdg hi hl hn hl' (fun ls' h' => k ls' locs h' hS)
theorem y_istore (C : Cx g B0 A p s m args meth c cc nL own) {i : Nat} {x : Int32} (hdg : decode cc pc = .ok (.istore i, 2)) (hn : i < nL) (hl' : (i, Value.int x) :: lv.filter (fun q => !(q.1 == i) && !(q.1 + 1 == i && q.2.category == 2)) = lv') (k : Yx A p l e R s m args below meth c nL cells slots Q lv' H (pc + 2) rest) : Yx A p l e R s m args below meth c nL cells slots Q lv H pc (.int x :: rest) :=
  fun ls locs hl hS => lv_istore C.1 C.2.1 hdg hl hn hl' (fun ls' h' => k ls' locs h' hS)
theorem y_astore_n (C : Cx g B0 A p s m args meth c cc nL own) {j : Fin 4} {i : Nat} {x : Nat} (hdg : decode cc pc = .ok (.astore_n j, 1)) (hi : (j : Nat) = i) (hn : i < nL) (hl' : (i, Value.ref x) :: lv.filter (fun q => !(q.1 == i) && !(q.1 + 1 == i && q.2.category == 2)) = lv') (k : Yx A p l e R s m args below meth c nL cells slots Q lv' H (pc + 1) rest) : Yx A p l e R s m args below meth c nL cells slots Q lv H pc (.ref x :: rest) :=
  fun ls locs hl hS => lv_astore_n C.1 C.2.1 hdg hi hl hn hl' (fun ls' h' => k ls' locs h' hS)
theorem y_fstore_n (C : Cx g B0 A p s m args meth c cc nL own) {j : Fin 4} {i : Nat} {x : UInt32} (hdg : decode cc pc = .ok (.fstore_n j, 1)) (hi : (j : Nat) = i) (hn : i < nL) (hl' : (i, Value.float x) :: lv.filter (fun q => !(q.1 == i) && !(q.1 + 1 == i && q.2.category == 2)) = lv') (k : Yx A p l e R s m args below meth c nL cells slots Q lv' H (pc + 1) rest) : Yx A p l e R s m args below meth c nL cells slots Q lv H pc (.float x :: rest) :=
  fun ls locs hl hS => lv_fstore_n C.1 C.2.1 hdg hi hl hn hl' (fun ls' h' => k ls' locs h' hS)
theorem y_iinc (C : Cx g B0 A p s m args meth c cc nL own) {i : Nat} {n : Int} {x : Int32} (q : Nat) (v : Int32) (hdg : decode cc pc = .ok (.iinc i n, 3)) (hq : lv[q]? = some (i, .int x)) (hv : x + Int32.ofInt n = v) (hn : i < nL) (hl' : (i, Value.int v) :: lv.filter (fun q => !(q.1 == i) && !(q.1 + 1 == i && q.2.category == 2)) = lv') (k : Yx A p l e R s m args below meth c nL cells slots Q lv' H (pc + 3) rest) : Yx A p l e R s m args below meth c nL cells slots Q lv H pc rest :=
  fun ls locs hl hS => lv_iinc C.1 C.2.1 hdg hl hq hv hn hl' (fun ls' h' => k ls' locs h' hS)
theorem y_iadd (C : Cx g B0 A p s m args meth c cc nL own) {x y : Int32} (hdg : decode cc pc = .ok (.iadd, 1)) (k : Yx A p l e R s m args below meth c nL cells slots Q lv H (pc + 1) (.int (x + y) :: rest)) : Yx A p l e R s m args below meth c nL cells slots Q lv H pc (.int y :: .int x :: rest) :=
  fun ls locs hl hS => lv_iadd C.1 C.2.1 hdg (k ls locs hl hS)
theorem y_isub (C : Cx g B0 A p s m args meth c cc nL own) {x y : Int32} (hdg : decode cc pc = .ok (.isub, 1)) (k : Yx A p l e R s m args below meth c nL cells slots Q lv H (pc + 1) (.int (x - y) :: rest)) : Yx A p l e R s m args below meth c nL cells slots Q lv H pc (.int y :: .int x :: rest) :=
  fun ls locs hl hS => lv_isub C.1 C.2.1 hdg (k ls locs hl hS)
theorem y_imul (C : Cx g B0 A p s m args meth c cc nL own) {x y : Int32} (hdg : decode cc pc = .ok (.imul, 1)) (k : Yx A p l e R s m args below meth c nL cells slots Q lv H (pc + 1) (.int (x * y) :: rest)) : Yx A p l e R s m args below meth c nL cells slots Q lv H pc (.int y :: .int x :: rest) :=
  fun ls locs hl hS => lv_imul C.1 C.2.1 hdg (k ls locs hl hS)
theorem y_iand (C : Cx g B0 A p s m args meth c cc nL own) {x y : Int32} (hdg : decode cc pc = .ok (.iand, 1)) (k : Yx A p l e R s m args below meth c nL cells slots Q lv H (pc + 1) (.int (x &&& y) :: rest)) : Yx A p l e R s m args below meth c nL cells slots Q lv H pc (.int y :: .int x :: rest) :=
  fun ls locs hl hS => lv_iand C.1 C.2.1 hdg (k ls locs hl hS)
theorem y_ior (C : Cx g B0 A p s m args meth c cc nL own) {x y : Int32} (hdg : decode cc pc = .ok (.ior, 1)) (k : Yx A p l e R s m args below meth c nL cells slots Q lv H (pc + 1) (.int (x ||| y) :: rest)) : Yx A p l e R s m args below meth c nL cells slots Q lv H pc (.int y :: .int x :: rest) :=
  fun ls locs hl hS => lv_ior C.1 C.2.1 hdg (k ls locs hl hS)
theorem y_ishl (C : Cx g B0 A p s m args meth c cc nL own) {x y v : Int32} (hdg : decode cc pc = .ok (.ishl, 1)) (hv : ∀ z, Yx A p l e R s m args below meth c nL cells slots Q lv H (pc + 1) (.int z :: rest)) : Yx A p l e R s m args below meth c nL cells slots Q lv H pc (.int y :: .int x :: rest) :=
  fun ls locs hl hS => lv_ishl C.1 C.2.1 hdg (hv _ ls locs hl hS)
theorem y_iushr (C : Cx g B0 A p s m args meth c cc nL own) {x y : Int32} (v : Int32) (hdg : decode cc pc = .ok (.iushr, 1)) (hv : (x.toUInt32 >>> (y.toUInt32 &&& Int32.toUInt32 31)).toInt32 = v) (k : Yx A p l e R s m args below meth c nL cells slots Q lv H (pc + 1) (.int v :: rest)) : Yx A p l e R s m args below meth c nL cells slots Q lv H pc (.int y :: .int x :: rest) :=
  fun ls locs hl hS => lv_iushr C.1 C.2.1 hdg hv (k ls locs hl hS)
theorem y_idiv (C : Cx g B0 A p s m args meth c cc nL own) {x y : Int32} (hdg : decode cc pc = .ok (.idiv, 1)) (hne : ¬ y = 0) (k : Yx A p l e R s m args below meth c nL cells slots Q lv H (pc + 1) (.int (x / y) :: rest)) : Yx A p l e R s m args below meth c nL cells slots Q lv H pc (.int y :: .int x :: rest) :=
  fun ls locs hl hS => lv_idiv C.1 C.2.1 hdg hne (k ls locs hl hS)
theorem y_irem (C : Cx g B0 A p s m args meth c cc nL own) {x y : Int32} (hdg : decode cc pc = .ok (.irem, 1)) (hne : ¬ y = 0) (k : ∀ z, z = x - x / y * y → Yx A p l e R s m args below meth c nL cells slots Q lv H (pc + 1) (.int z :: rest)) : Yx A p l e R s m args below meth c nL cells slots Q lv H pc (.int y :: .int x :: rest) :=
  fun ls locs hl hS => lv_irem C.1 C.2.1 hdg hne (k _ rfl ls locs hl hS)
end ROWS
end
section
/-! rows over Yx, second part: branches, floats, cells, calls, ends -/
section ROWS2
variable {g : KG} {B0 : Nat} {A : Nat → Prop} {p : Program} {l : Launch} {e : Env} {R : Room} {s : State} {m : MethodId} {args : Array Value} {below : List Frame} {meth : Method} {c : Code} {cc : ByteArray} {nL : Nat} {own : String} {cells slots : Nat} {Q : State → Prop} {lv lv' : List (Nat × Value)} {H : Heap} {pc : Nat} {rest : List Value}
theorem y_if_eq (C : Cx g B0 A p s m args meth c cc nL own) {x : Int32} {off : Int} (tgt : Nat) (hdg : decode cc pc = .ok (.ifCond .eq off, 3)) (ht : (pc : Int) + off = (tgt : Int)) (kt : x = 0 → Yx A p l e R s m args below meth c nL cells slots Q lv H tgt rest) (kf : ¬ x = 0 → Yx A p l e R s m args below meth c nL cells slots Q lv H (pc + 3) rest) : Yx A p l e R s m args below meth c nL cells slots Q lv H pc (.int x :: rest) :=
  fun ls locs hl hS => lv_if_eq C.1 C.2.1 hdg ht (fun h => kt h ls locs hl hS) (fun h => kf h ls locs hl hS)
theorem y_icmp_eq (C : Cx g B0 A p s m args meth c cc nL own) {x y : Int32} {off : Int} (tgt : Nat) (hdg : decode cc pc = .ok (.if_icmp .eq off, 3)) (ht : (pc : Int) + off = (tgt : Int)) (kt : x = y → Yx A p l e R s m args below meth c nL cells slots Q lv H tgt rest) (kf : ¬ x = y → Yx A p l e R s m args below meth c nL cells slots Q lv H (pc + 3) rest) : Yx A p l e R s m args below meth c nL cells slots Q lv H pc (.int y :: .int x :: rest) :=
  fun ls locs hl hS => lv_icmp_eq C.1 C.2.1 hdg ht (fun h => kt h ls locs hl hS) (fun h => kf h ls locs hl hS)
theorem y_if_ne (C : Cx g B0 A p s m args meth c cc nL own) {x : Int32} {off : Int} (tgt : Nat) (hdg : decode cc pc = .ok (.ifCond .ne off, 3)) (ht : (pc : Int) + off = (tgt : Int)) (kt : ¬ x = 0 → Yx A p l e R s m args below meth c nL cells slots Q lv H tgt rest) (kf : x = 0 → Yx A p l e R s m args below meth c nL cells slots Q lv H (pc + 3) rest) : Yx A p l e R s m args below meth c nL cells slots Q lv H pc (.int x :: rest) :=
  fun ls locs hl hS => lv_if_ne C.1 C.2.1 hdg ht (fun h => kt h ls locs hl hS) (fun h => kf h ls locs hl hS)
theorem y_icmp_ne (C : Cx g B0 A p s m args meth c cc nL own) {x y : Int32} {off : Int} (tgt : Nat) (hdg : decode cc pc = .ok (.if_icmp .ne off, 3)) (ht : (pc : Int) + off = (tgt : Int)) (kt : ¬ x = y → Yx A p l e R s m args below meth c nL cells slots Q lv H tgt rest) (kf : x = y → Yx A p l e R s m args below meth c nL cells slots Q lv H (pc + 3) rest) : Yx A p l e R s m args below meth c nL cells slots Q lv H pc (.int y :: .int x :: rest) :=
  fun ls locs hl hS => lv_icmp_ne C.1 C.2.1 hdg ht (fun h => kt h ls locs hl hS) (fun h => kf h ls locs hl hS)
theorem y_if_lt (C : Cx g B0 A p s m args meth c cc nL own) {x : Int32} {off : Int} (tgt : Nat) (hdg : decode cc pc = .ok (.ifCond .lt off, 3)) (ht : (pc : Int) + off = (tgt : Int)) (kt : x < 0 → Yx A p l e R s m args below meth c nL cells slots Q lv H tgt rest) (kf : ¬ x < 0 → Yx A p l e R s m args below meth c nL cells slots Q lv H (pc + 3) rest) : Yx A p l e R s m args below meth c nL cells slots Q lv H pc (.int x :: rest) :=
  fun ls locs hl hS => lv_if_lt C.1 C.2.1 hdg ht (fun h => kt h ls locs hl hS) (fun h => kf h ls locs hl hS)
theorem y_icmp_lt (C : Cx g B0 A p s m args meth c cc nL own) {x y : Int32} {off : Int} (tgt : Nat) (hdg : decode cc pc = .ok (.if_icmp .lt off, 3)) (ht : (pc : Int) + off = (tgt : Int)) (kt : x < y → Yx A p l e R s m args below meth c nL cells slots Q lv H tgt rest) (kf : ¬ x < y → Yx A p l e R s m args below meth c nL cells slots Q lv H (pc + 3) rest) : Yx A p l e R s m args below meth c nL cells slots Q lv H pc (.int y :: .int x :: rest) :=
  fun ls locs hl hS => lv_icmp_lt C.1 C.2.1 hdg ht (fun h => kt h ls locs hl hS) (fun h => kf h ls locs hl hS)
theorem y_if_ge (C : Cx g B0 A p s m args meth c cc nL own) {x : Int32} {off : Int} (tgt : Nat) (hdg : decode cc pc = .ok (.ifCond .ge off, 3)) (ht : (pc : Int) + off = (tgt : Int)) (kt : 0 ≤ x → Yx A p l e R s m args below meth c nL cells slots Q lv H tgt rest) (kf : ¬ 0 ≤ x → Yx A p l e R s m args below meth c nL cells slots Q lv H (pc + 3) rest) : Yx A p l e R s m args below meth c nL cells slots Q lv H pc (.int x :: rest) :=
  fun ls locs hl hS => lv_if_ge C.1 C.2.1 hdg ht (fun h => kt h ls locs hl hS) (fun h => kf h ls locs hl hS)
theorem y_icmp_ge (C : Cx g B0 A p s m args meth c cc nL own) {x y : Int32} {off : Int} (tgt : Nat) (hdg : decode cc pc = .ok (.if_icmp .ge off, 3)) (ht : (pc : Int) + off = (tgt : Int)) (kt : y ≤ x → Yx A p l e R s m args below meth c nL cells slots Q lv H tgt rest) (kf : ¬ y ≤ x → Yx A p l e R s m args below meth c nL cells slots Q lv H (pc + 3) rest) : Yx A p l e R s m args below meth c nL cells slots Q lv H pc (.int y :: .int x :: rest) :=
  fun ls locs hl hS => lv_icmp_ge C.1 C.2.1 hdg ht (fun h => kt h ls locs hl hS) (fun h => kf h ls locs hl hS)
theorem y_if_gt (C : Cx g B0 A p s m args meth c cc nL own) {x : Int32} {off : Int} (tgt : Nat) (hdg : decode cc pc = .ok (.ifCond .gt off, 3)) (ht : (pc : Int) + off = (tgt : Int)) (kt : 0 < x → Yx A p l e R s m args below meth c nL cells slots Q lv H tgt rest) (kf : ¬ 0 < x → Yx A p l e R s m args below meth c nL cells slots Q lv H (pc + 3) rest) : Yx A p l e R s m args below meth c nL cells slots Q lv H pc (.int x :: rest) :=
  fun ls locs hl hS => lv_if_gt C.1 C.2.1 hdg ht (fun h => kt h ls locs hl hS) (fun h => kf h ls locs hl hS)
theorem y_icmp_gt (C : Cx g B0 A p s m args meth c cc nL own) {x y : Int32} {off : Int} (tgt : Nat) (hdg : decode cc pc = .ok (.if_icmp .gt off, 3)) (ht : (pc : Int) + off = (tgt : Int)) (kt : y < x → Yx A p l e R s m args below meth c nL cells slots Q lv H tgt rest) (kf : ¬ y < x → Yx A p l e R s m args below meth c nL cells slots Q lv H (pc + 3) rest) : Yx A p l e R s m args below meth c nL cells slots Q lv H pc (.int y :: .int x :: rest) :=
  fun ls locs hl hS => lv_icmp_gt C.1 C.2.1 hdg ht (fun h => kt h ls locs hl hS) (fun h => kf h ls locs hl hS)
theorem y_if_le (C : Cx g B0 A p s m args meth c cc nL own) {x : Int32} {off : Int} (tgt : Nat) (hdg : decode cc pc = .ok (.ifCond .le off, 3)) (ht : (pc : Int) + off = (tgt : Int)) (kt : x ≤ 0 → Yx A p l e R s m args below meth c nL cells slots Q lv H tgt rest) (kf : ¬ x ≤ 0 → Yx A p l e R s m args below meth c nL cells slots Q lv H (pc + 3) rest) : Yx A p l e R s m args below meth c nL cells slots Q lv H pc (.int x :: rest) :=
  fun ls locs hl hS => lv_if_le C.1 C.2.1 hdg ht (fun h => kt h ls locs hl hS) (fun h => kf h ls locs hl hS)
theorem y_icmp_le (C : Cx g B0 A p s m args meth c cc nL own) {x y : Int32} {off : Int} (tgt : Nat) (hdg : decode cc pc = .ok (.if_icmp .le off, 3)) (ht : (pc : Int) + off = (tgt : Int)) (kt : x ≤ y → Yx A p l e R s m args below meth c nL cells slots Q lv H tgt rest) (kf : ¬ x ≤ y → Yx A p l e R s m args below meth c nL cells slots Q lv H (pc + 3) rest) : Yx A p l e R s m args below meth c nL cells slots Q lv H pc (.int y :: .int x :: rest) :=
  fun ls locs hl hS => lv_icmp_le C.1 C.2.1 hdg ht (fun h => kt h ls locs hl hS) (fun h => kf h ls locs hl hS)
theorem y_goto (C : Cx g B0 A p s m args meth c cc nL own) {off : Int} (tgt : Nat) (hdg : decode cc pc = .ok (.goto off, 3)) (ht : (pc : Int) + off = (tgt : Int)) (k : Yx A p l e R s m args below meth c nL cells slots Q lv H tgt rest) : Yx A p l e R s m args below meth c nL cells slots Q lv H pc rest :=
  fun ls locs hl hS => lv_goto C.1 C.2.1 hdg ht (k ls locs hl hS)
theorem y_tableOut (C : Cx g B0 A p s m args meth c cc nL own) {dflt lo hi : Int} {offs : Array Int} {len : Nat} {x : Int32} (tgt : Nat) (hdg : decode cc pc = .ok (.tableswitch dflt lo hi offs, len)) (h : x.toInt < lo ∨ hi < x.toInt) (ht : (pc : Int) + dflt = (tgt : Int)) (k : Yx A p l e R s m args below meth c nL cells slots Q lv H tgt rest) : Yx A p l e R s m args below meth c nL cells slots Q lv H pc (.int x :: rest) :=
  fun ls locs hl hS => lv_tableOut C.1 C.2.1 hdg h ht (k ls locs hl hS)
theorem y_tableIn (C : Cx g B0 A p s m args meth c cc nL own) {dflt lo hi : Int} {offs : Array Int} {len : Nat} {x : Int32} {off : Int} (tgt : Nat) (hdg : decode cc pc = .ok (.tableswitch dflt lo hi offs, len)) (h1 : ¬ x.toInt < lo) (h2 : ¬ hi < x.toInt) (ho : offs[(x.toInt - lo).toNat]? = some off) (ht : (pc : Int) + off = (tgt : Int)) (k : Yx A p l e R s m args below meth c nL cells slots Q lv H tgt rest) : Yx A p l e R s m args below meth c nL cells slots Q lv H pc (.int x :: rest) :=
  fun ls locs hl hS => lv_tableIn C.1 C.2.1 hdg h1 h2 ho ht (k ls locs hl hS)
theorem y_dup (C : Cx g B0 A p s m args meth c cc nL own) {va : Value} (hdg : decode cc pc = .ok (.dup, 1)) (hva : va.category = 1) (k : Yx A p l e R s m args below meth c nL cells slots Q lv H (pc + 1) (va :: va :: rest)) : Yx A p l e R s m args below meth c nL cells slots Q lv H pc (va :: rest) :=
  fun ls locs hl hS => lv_dup C.1 C.2.1 hdg hva (k ls locs hl hS)
theorem y_pop (C : Cx g B0 A p s m args meth c cc nL own) {va : Value} (hdg : decode cc pc = .ok (.pop, 1)) (hva : va.category = 1) (k : Yx A p l e R s m args below meth c nL cells slots Q lv H (pc + 1) rest) : Yx A p l e R s m args below meth c nL cells slots Q lv H pc (va :: rest) :=
  fun ls locs hl hS => lv_pop C.1 C.2.1 hdg hva (k ls locs hl hS)
theorem y_dup2 (C : Cx g B0 A p s m args meth c cc nL own) {va vb : Value} (hdg : decode cc pc = .ok (.dup2, 1)) (hva : va.category = 1) (hvb : vb.category = 1) (k : Yx A p l e R s m args below meth c nL cells slots Q lv H (pc + 1) (va :: vb :: va :: vb :: rest)) : Yx A p l e R s m args below meth c nL cells slots Q lv H pc (va :: vb :: rest) :=
  fun ls locs hl hS => lv_dup2_11 C.1 C.2.1 hdg hva hvb (k ls locs hl hS)
theorem y_dup_x1 (C : Cx g B0 A p s m args meth c cc nL own) {va vb : Value} (hdg : decode cc pc = .ok (.dup_x1, 1)) (hva : va.category = 1) (hvb : vb.category = 1) (k : Yx A p l e R s m args below meth c nL cells slots Q lv H (pc + 1) (va :: vb :: va :: rest)) : Yx A p l e R s m args below meth c nL cells slots Q lv H pc (va :: vb :: rest) :=
  fun ls locs hl hS => lv_dup_x1 C.1 C.2.1 hdg hva hvb (k ls locs hl hS)
theorem y_fadd (C : Cx g B0 A p s m args meth c cc nL own) {x y : UInt32} (hdg : decode cc pc = .ok (.fadd, 1)) (hne : vf_n32 (FP.fadd x y)) (k : Yx A p l e R s m args below meth c nL cells slots Q lv H (pc + 1) (.float (FP.fadd x y) :: rest)) : Yx A p l e R s m args below meth c nL cells slots Q lv H pc (.float y :: .float x :: rest) :=
  fun ls locs hl hS => lv_fadd C.1 C.2.1 hdg hne (k ls locs hl hS)
theorem y_fmul (C : Cx g B0 A p s m args meth c cc nL own) {x y : UInt32} (hdg : decode cc pc = .ok (.fmul, 1)) (hne : vf_n32 (FP.fmul x y)) (k : Yx A p l e R s m args below meth c nL cells slots Q lv H (pc + 1) (.float (FP.fmul x y) :: rest)) : Yx A p l e R s m args below meth c nL cells slots Q lv H pc (.float y :: .float x :: rest) :=
  fun ls locs hl hS => lv_fmul C.1 C.2.1 hdg hne (k ls locs hl hS)
theorem y_fdiv (C : Cx g B0 A p s m args meth c cc nL own) {x y : UInt32} (hdg : decode cc pc = .ok (.fdiv, 1)) (hne : vf_n32 (FP.fdiv x y)) (k : Yx A p l e R s m args below meth c nL cells slots Q lv H (pc + 1) (.float (FP.fdiv x y) :: rest)) : Yx A p l e R s m args below meth c nL cells slots Q lv H pc (.float y :: .float x :: rest) :=
  fun ls locs hl hS => lv_fdiv C.1 C.2.1 hdg hne (k ls locs hl hS)
theorem y_fcmp (C : Cx g B0 A p s m args meth c cc nL own) {x y : UInt32} {op : CmpOp} (hdg : decode cc pc = .ok (.fcmp op, 1)) (k : Yx A p l e R s m args below meth c nL cells slots Q lv H (pc + 1) (.int (Op.cmpValue (FP.fcmp x y) op) :: rest)) : Yx A p l e R s m args below meth c nL cells slots Q lv H pc (.float y :: .float x :: rest) :=
  fun ls locs hl hS => lv_fcmp C.1 C.2.1 hdg (k ls locs hl hS)
theorem y_i2f (C : Cx g B0 A p s m args meth c cc nL own) {x : Int32} (hdg : decode cc pc = .ok (.i2f, 1)) (k : Yx A p l e R s m args below meth c nL cells slots Q lv H (pc + 1) (.float (FP.i2f x) :: rest)) : Yx A p l e R s m args below meth c nL cells slots Q lv H pc (.int x :: rest) :=
  fun ls locs hl hS => lv_i2f C.1 C.2.1 hdg (k ls locs hl hS)
theorem y_f2i (C : Cx g B0 A p s m args meth c cc nL own) {x : UInt32} (hdg : decode cc pc = .ok (.f2i, 1)) (k : Yx A p l e R s m args below meth c nL cells slots Q lv H (pc + 1) (.int (FP.f2i x) :: rest)) : Yx A p l e R s m args below meth c nL cells slots Q lv H pc (.float x :: rest) :=
  fun ls locs hl hS => lv_f2i C.1 C.2.1 hdg (k ls locs hl hS)
theorem y_mmax (C : Cx g B0 A p s m args meth c cc nL own) {index : Nat} {x y : Int32} (h1 : Cond.methodLink own index Lib.Math.max.name ∈ wsL_law) (h2 : Cond.static Lib.Math.max.name ∈ wsL_law) (h3 : Cond.initialized "java/lang/Math" ∈ wsL_law) (h4 : Cond.code Lib.Math.max.name Lib.Math.max.code 2 (some .int) ∈ wsL_law) (hf : 1 ≤ R.frames) (hlo : (rest.map fun v => v.category).sum + 13 ≤ R.locals) (hc : cells ≤ R.cells) (hs : slots ≤ R.slots) (hdg : decode cc pc = .ok (.invokestatic index, 3)) (k : Yx A p l e R s m args below meth c nL cells slots Q lv H (pc + 3) (.int (if x < y then y else x) :: rest)) : Yx A p l e R s m args below meth c nL cells slots Q lv H pc (.int y :: .int x :: rest) :=
  fun ls locs hl hS => va_mmax C.1 C.2.1 (C.2.2.1.trans hl.1.symm) C.2.2.2.1 (C.2.2.2.2.1 _ h1) (C.2.2.2.2.1 _ h2) (C.2.2.2.2.1 _ h3) (C.2.2.2.2.1 _ h4) hf hlo hc hs hdg (k ls locs hl hS)
theorem y_mmin (C : Cx g B0 A p s m args meth c cc nL own) {index : Nat} {x y : Int32} (h1 : Cond.methodLink own index Lib.Math.min.name ∈ wsL_law) (h2 : Cond.static Lib.Math.min.name ∈ wsL_law) (h3 : Cond.initialized "java/lang/Math" ∈ wsL_law) (h4 : Cond.code Lib.Math.min.name Lib.Math.min.code 2 (some .int) ∈ wsL_law) (hf : 1 ≤ R.frames) (hlo : (rest.map fun v => v.category).sum + 13 ≤ R.locals) (hc : cells ≤ R.cells) (hs : slots ≤ R.slots) (hdg : decode cc pc = .ok (.invokestatic index, 3)) (k : Yx A p l e R s m args below meth c nL cells slots Q lv H (pc + 3) (.int (if y < x then y else x) :: rest)) : Yx A p l e R s m args below meth c nL cells slots Q lv H pc (.int y :: .int x :: rest) :=
  fun ls locs hl hS => va_mmin C.1 C.2.1 (C.2.2.1.trans hl.1.symm) C.2.2.2.1 (C.2.2.2.2.1 _ h1) (C.2.2.2.2.1 _ h2) (C.2.2.2.2.1 _ h3) (C.2.2.2.2.1 _ h4) hf hlo hc hs hdg (k ls locs hl hS)
/-- one cell of the heap, at q -/
abbrev cA1 (g : KG) (q : Nat) (e : va_E) (H : Heap) : Prop := va_at g.1 vwCl (q, e) H
theorem cA1P {g : KG} {q : Nat} {e : va_E} {H : Heap} (h : cA1 g q e H) : va_P g.1 vwCl [(q, e)] H := fun k x hx => by cases k with | zero => (cases hx; exact h) | succ k => (cases hx)
theorem y_get0 (C : Cx g B0 A p s m args meth c cc nL own) {index a : Nat} {fs : List Value} (hat : cA1 g a (.inr (0, fs)) H) (k : Nat) (hk : k < 2) (hlink : Cond.fieldLink own index RX0 (TX0 k).2.1 (TX0 k).2.2.1 ∈ wsL_law) (hs1 : (TX0 k).1 = RX0) {v : Value} (hv : fs[k]? = some v) (hdg : decode cc pc = .ok (.getfield index, 3)) (kk : Yx A p l e R s m args below meth c nL cells slots Q lv H (pc + 3) (v :: rest)) : Yx A p l e R s m args below meth c nL cells slots Q lv H pc (.ref a :: rest) :=
  fun ls locs hl hS => va_get (ref := RX0) (C := RX0) (T := TX0) (N := 2) (ci := 0) C.1 C.2.1 C.2.2.2.2.1 inlX0 C.2.2.2.1 C.2.2.2.2.2.1.1 (cA1P hat) 0 rfl rfl k hk (C.2.2.2.2.1 _ hlink) (fun x hx => by rw [hs1] at hx; exact hx) hv hdg (kk ls locs hl hS)
theorem y_put0 (C : Cx g B0 A p s m args meth c cc nL own) {index a : Nat} {fs : List Value} (hat : cA1 g a (.inr (0, fs)) H) (hAa : A a) (k : Nat) (hk : k < 2) (hlink : Cond.fieldLink own index RX0 (TX0 k).2.1 (TX0 k).2.2.1 ∈ wsL_law) (hs1 : (TX0 k).1 = RX0) (hfin : (TX0 k).2.2.2 = false) {ty : FieldType} {v : Value} (hd : parseFieldDescriptor (TX0 k).2.2.1 = some ty) (hn : narrow ty v = v) (hfit : fits ty v = true) (hlen : k < fs.length) (hdg : decode cc pc = .ok (.putfield index, 3)) (kk : ∀ H1 : Heap, cA1 g a (.inr (0, fs.set k v)) H1 → (∀ q : Nat, q ≠ a → H1[q]? = H[q]?) → H1.size = H.size → Yx A p l e R s m args below meth c nL cells slots Q lv H1 (pc + 3) rest) : Yx A p l e R s m args below meth c nL cells slots Q lv H pc (v :: .ref a :: rest) := by
  intro ls locs hl hS
  obtain ⟨hexec, hb, -, hown, hts, hE, -⟩ := C
  have hK := hE.1
  have hc : vwCl[0]? = some (RX0, TX0, 2) := rfl
  have hap := va_apart (own := own) hts inlX0 tyX0 tyX0_ok nmX0 hK hc
  obtain ⟨r, h1, cell, q1, q2, q3, q4⟩ := hat
  have hr : r = (RX0, TX0, 2) := Option.some.inj (h1.symm.trans hc)
  subst hr
  obtain ⟨hSl, hfc, kC, hkC, hkind⟩ := hK.1 0 _ hc
  obtain ⟨cf, kf, fi, f, hi, hsl⟩ := hSl k hk
  have hlay := hts _ (inlX0 _ (u_in_lay hk))
  unfold u_lay at hlay
  rw [if_neg (by rw [hfin]; decide)] at hlay
  have hst := (u_facts hfc hkC (u_lays hts inlX0 hk) hi).1
  have hsame : s.fieldFound? RX0 (TX0 k).2.1 (TX0 k).2.2.1 = some (cf, kf, fi, f) := by rw [← hs1]; exact hi
  have h6 := u_store hfc hkC hkind hlay hi hd hn hfit
  refine W.putK hexec hb (f := f) ⟨hown, hts _ hlink, ⟨_, _, _, hsame⟩, hst⟩ (by rw [q2]; exact h6) q1 q3 (by rw [hsl]; exact k2_hasslot (q4 k hk)) rfl rfl hdg fun H' e1 e2 e3 => ?_
  rw [hsl] at e1 ⊢
  exact kk H' ⟨_, hc, t_OB.to (V := updV (vp_V fs) k v) ⟨_, e1, q2, q3, t_set q4 hap hk v⟩ (fun j _ => vp_updV_set hlen v j)⟩ e3 e2 ls _ hl (hS.put e2 e3 hAa)
theorem y_put0F (C : Cx g B0 A p s m args meth c cc nL own) {index a : Nat} {fs : List Value} (hat : cA1 g a (.inr (0, fs)) H) (hAa : A a) (k : Nat) (hk : k < 2) (hlink : Cond.fieldLink own index RX0 (TX0 k).2.1 (TX0 k).2.2.1 ∈ wsL_law) (hs1 : (TX0 k).1 = RX0) (hfin : (TX0 k).2.2.2 = true) (hin : meth.name = "<init>") (hdecl : (TX0 k).1 = own) {ty : FieldType} {v : Value} (hd : parseFieldDescriptor (TX0 k).2.2.1 = some ty) (hn : narrow ty v = v) (hfit : fits ty v = true) (hlen : k < fs.length) (hdg : decode cc pc = .ok (.putfield index, 3)) (kk : ∀ H1 : Heap, cA1 g a (.inr (0, fs.set k v)) H1 → (∀ q : Nat, q ≠ a → H1[q]? = H[q]?) → H1.size = H.size → Yx A p l e R s m args below meth c nL cells slots Q lv H1 (pc + 3) rest) : Yx A p l e R s m args below meth c nL cells slots Q lv H pc (v :: .ref a :: rest) := by
  intro ls locs hl hS
  obtain ⟨hexec, hb, -, hown, hts, hE, -⟩ := C
  have hK := hE.1
  have hc : vwCl[0]? = some (RX0, TX0, 2) := rfl
  have hap := va_apart (own := own) hts inlX0 tyX0 tyX0_ok nmX0 hK hc
  obtain ⟨r, h1, cell, q1, q2, q3, q4⟩ := hat
  have hr : r = (RX0, TX0, 2) := Option.some.inj (h1.symm.trans hc)
  subst hr
  obtain ⟨hSl, hfc, kC, hkC, hkind⟩ := hK.1 0 _ hc
  obtain ⟨cf, kf, fi, f, hi, hsl⟩ := hSl k hk
  have hlay := hts _ (inlX0 _ (u_in_lay hk))
  unfold u_lay at hlay
  rw [if_pos hfin] at hlay
  have hst := (u_facts hfc hkC (u_lays hts inlX0 hk) hi).1
  have hsame : s.fieldFound? RX0 (TX0 k).2.1 (TX0 k).2.2.1 = some (cf, kf, fi, f) := by rw [← hs1]; exact hi
  have hcf : m.cls = cf := by
    obtain ⟨_, _, c', _, _, _, -, -, hf', -, -, -, hown2, -⟩ := Cond.laysFinal_spec hlay
    have e1 : c' = cf := by have := hi.symm.trans hf'; simp at this; exact this.1.symm
    rw [hdecl] at hown2
    rw [← e1]; exact Option.some.inj (hown.symm.trans hown2)
  have h6 := u_fits hfc hkC hkind (Or.inr hlay) hi hd hn hfit
  refine W.putFinK hexec hb hown (hts _ hlink) hsame hst hcf hin (by rw [q2]; exact h6) q1 q3 (by rw [hsl]; exact k2_hasslot (q4 k hk)) rfl rfl hdg fun H' e1 e2 e3 => ?_
  rw [hsl] at e1 ⊢
  exact kk H' ⟨_, hc, t_OB.to (V := updV (vp_V fs) k v) ⟨_, e1, q2, q3, t_set q4 hap hk v⟩ (fun j _ => vp_updV_set hlen v j)⟩ e3 e2 ls _ hl (hS.put e2 e3 hAa)
theorem y_get1 (C : Cx g B0 A p s m args meth c cc nL own) {index a : Nat} {fs : List Value} (hat : cA1 g a (.inr (1, fs)) H) (k : Nat) (hk : k < 6) (hlink : Cond.fieldLink own index RX1 (TX1 k).2.1 (TX1 k).2.2.1 ∈ wsL_law) (hs1 : (TX1 k).1 = RX1) {v : Value} (hv : fs[k]? = some v) (hdg : decode cc pc = .ok (.getfield index, 3)) (kk : Yx A p l e R s m args below meth c nL cells slots Q lv H (pc + 3) (v :: rest)) : Yx A p l e R s m args below meth c nL cells slots Q lv H pc (.ref a :: rest) :=
  fun ls locs hl hS => va_get (ref := RX1) (C := RX1) (T := TX1) (N := 6) (ci := 1) C.1 C.2.1 C.2.2.2.2.1 inlX1 C.2.2.2.1 C.2.2.2.2.2.1.1 (cA1P hat) 0 rfl rfl k hk (C.2.2.2.2.1 _ hlink) (fun x hx => by rw [hs1] at hx; exact hx) hv hdg (kk ls locs hl hS)
theorem y_put1 (C : Cx g B0 A p s m args meth c cc nL own) {index a : Nat} {fs : List Value} (hat : cA1 g a (.inr (1, fs)) H) (hAa : A a) (k : Nat) (hk : k < 6) (hlink : Cond.fieldLink own index RX1 (TX1 k).2.1 (TX1 k).2.2.1 ∈ wsL_law) (hs1 : (TX1 k).1 = RX1) (hfin : (TX1 k).2.2.2 = false) {ty : FieldType} {v : Value} (hd : parseFieldDescriptor (TX1 k).2.2.1 = some ty) (hn : narrow ty v = v) (hfit : fits ty v = true) (hlen : k < fs.length) (hdg : decode cc pc = .ok (.putfield index, 3)) (kk : ∀ H1 : Heap, cA1 g a (.inr (1, fs.set k v)) H1 → (∀ q : Nat, q ≠ a → H1[q]? = H[q]?) → H1.size = H.size → Yx A p l e R s m args below meth c nL cells slots Q lv H1 (pc + 3) rest) : Yx A p l e R s m args below meth c nL cells slots Q lv H pc (v :: .ref a :: rest) := by
  intro ls locs hl hS
  obtain ⟨hexec, hb, -, hown, hts, hE, -⟩ := C
  have hK := hE.1
  have hc : vwCl[1]? = some (RX1, TX1, 6) := rfl
  have hap := va_apart (own := own) hts inlX1 tyX1 tyX1_ok nmX1 hK hc
  obtain ⟨r, h1, cell, q1, q2, q3, q4⟩ := hat
  have hr : r = (RX1, TX1, 6) := Option.some.inj (h1.symm.trans hc)
  subst hr
  obtain ⟨hSl, hfc, kC, hkC, hkind⟩ := hK.1 1 _ hc
  obtain ⟨cf, kf, fi, f, hi, hsl⟩ := hSl k hk
  have hlay := hts _ (inlX1 _ (u_in_lay hk))
  unfold u_lay at hlay
  rw [if_neg (by rw [hfin]; decide)] at hlay
  have hst := (u_facts hfc hkC (u_lays hts inlX1 hk) hi).1
  have hsame : s.fieldFound? RX1 (TX1 k).2.1 (TX1 k).2.2.1 = some (cf, kf, fi, f) := by rw [← hs1]; exact hi
  have h6 := u_store hfc hkC hkind hlay hi hd hn hfit
  refine W.putK hexec hb (f := f) ⟨hown, hts _ hlink, ⟨_, _, _, hsame⟩, hst⟩ (by rw [q2]; exact h6) q1 q3 (by rw [hsl]; exact k2_hasslot (q4 k hk)) rfl rfl hdg fun H' e1 e2 e3 => ?_
  rw [hsl] at e1 ⊢
  exact kk H' ⟨_, hc, t_OB.to (V := updV (vp_V fs) k v) ⟨_, e1, q2, q3, t_set q4 hap hk v⟩ (fun j _ => vp_updV_set hlen v j)⟩ e3 e2 ls _ hl (hS.put e2 e3 hAa)
theorem y_put1F (C : Cx g B0 A p s m args meth c cc nL own) {index a : Nat} {fs : List Value} (hat : cA1 g a (.inr (1, fs)) H) (hAa : A a) (k : Nat) (hk : k < 6) (hlink : Cond.fieldLink own index RX1 (TX1 k).2.1 (TX1 k).2.2.1 ∈ wsL_law) (hs1 : (TX1 k).1 = RX1) (hfin : (TX1 k).2.2.2 = true) (hin : meth.name = "<init>") (hdecl : (TX1 k).1 = own) {ty : FieldType} {v : Value} (hd : parseFieldDescriptor (TX1 k).2.2.1 = some ty) (hn : narrow ty v = v) (hfit : fits ty v = true) (hlen : k < fs.length) (hdg : decode cc pc = .ok (.putfield index, 3)) (kk : ∀ H1 : Heap, cA1 g a (.inr (1, fs.set k v)) H1 → (∀ q : Nat, q ≠ a → H1[q]? = H[q]?) → H1.size = H.size → Yx A p l e R s m args below meth c nL cells slots Q lv H1 (pc + 3) rest) : Yx A p l e R s m args below meth c nL cells slots Q lv H pc (v :: .ref a :: rest) := by
  intro ls locs hl hS
  obtain ⟨hexec, hb, -, hown, hts, hE, -⟩ := C
  have hK := hE.1
  have hc : vwCl[1]? = some (RX1, TX1, 6) := rfl
  have hap := va_apart (own := own) hts inlX1 tyX1 tyX1_ok nmX1 hK hc
  obtain ⟨r, h1, cell, q1, q2, q3, q4⟩ := hat
  have hr : r = (RX1, TX1, 6) := Option.some.inj (h1.symm.trans hc)
  subst hr
  obtain ⟨hSl, hfc, kC, hkC, hkind⟩ := hK.1 1 _ hc
  obtain ⟨cf, kf, fi, f, hi, hsl⟩ := hSl k hk
  have hlay := hts _ (inlX1 _ (u_in_lay hk))
  unfold u_lay at hlay
  rw [if_pos hfin] at hlay
  have hst := (u_facts hfc hkC (u_lays hts inlX1 hk) hi).1
  have hsame : s.fieldFound? RX1 (TX1 k).2.1 (TX1 k).2.2.1 = some (cf, kf, fi, f) := by rw [← hs1]; exact hi
  have hcf : m.cls = cf := by
    obtain ⟨_, _, c', _, _, _, -, -, hf', -, -, -, hown2, -⟩ := Cond.laysFinal_spec hlay
    have e1 : c' = cf := by have := hi.symm.trans hf'; simp at this; exact this.1.symm
    rw [hdecl] at hown2
    rw [← e1]; exact Option.some.inj (hown.symm.trans hown2)
  have h6 := u_fits hfc hkC hkind (Or.inr hlay) hi hd hn hfit
  refine W.putFinK hexec hb hown (hts _ hlink) hsame hst hcf hin (by rw [q2]; exact h6) q1 q3 (by rw [hsl]; exact k2_hasslot (q4 k hk)) rfl rfl hdg fun H' e1 e2 e3 => ?_
  rw [hsl] at e1 ⊢
  exact kk H' ⟨_, hc, t_OB.to (V := updV (vp_V fs) k v) ⟨_, e1, q2, q3, t_set q4 hap hk v⟩ (fun j _ => vp_updV_set hlen v j)⟩ e3 e2 ls _ hl (hS.put e2 e3 hAa)
theorem y_get2 (C : Cx g B0 A p s m args meth c cc nL own) {index a : Nat} {fs : List Value} (hat : cA1 g a (.inr (2, fs)) H) (k : Nat) (hk : k < 6) (hlink : Cond.fieldLink own index RX2 (TX2 k).2.1 (TX2 k).2.2.1 ∈ wsL_law) (hs1 : (TX2 k).1 = RX2) {v : Value} (hv : fs[k]? = some v) (hdg : decode cc pc = .ok (.getfield index, 3)) (kk : Yx A p l e R s m args below meth c nL cells slots Q lv H (pc + 3) (v :: rest)) : Yx A p l e R s m args below meth c nL cells slots Q lv H pc (.ref a :: rest) :=
  fun ls locs hl hS => va_get (ref := RX2) (C := RX2) (T := TX2) (N := 6) (ci := 2) C.1 C.2.1 C.2.2.2.2.1 inlX2 C.2.2.2.1 C.2.2.2.2.2.1.1 (cA1P hat) 0 rfl rfl k hk (C.2.2.2.2.1 _ hlink) (fun x hx => by rw [hs1] at hx; exact hx) hv hdg (kk ls locs hl hS)
theorem y_put2 (C : Cx g B0 A p s m args meth c cc nL own) {index a : Nat} {fs : List Value} (hat : cA1 g a (.inr (2, fs)) H) (hAa : A a) (k : Nat) (hk : k < 6) (hlink : Cond.fieldLink own index RX2 (TX2 k).2.1 (TX2 k).2.2.1 ∈ wsL_law) (hs1 : (TX2 k).1 = RX2) (hfin : (TX2 k).2.2.2 = false) {ty : FieldType} {v : Value} (hd : parseFieldDescriptor (TX2 k).2.2.1 = some ty) (hn : narrow ty v = v) (hfit : fits ty v = true) (hlen : k < fs.length) (hdg : decode cc pc = .ok (.putfield index, 3)) (kk : ∀ H1 : Heap, cA1 g a (.inr (2, fs.set k v)) H1 → (∀ q : Nat, q ≠ a → H1[q]? = H[q]?) → H1.size = H.size → Yx A p l e R s m args below meth c nL cells slots Q lv H1 (pc + 3) rest) : Yx A p l e R s m args below meth c nL cells slots Q lv H pc (v :: .ref a :: rest) := by
  intro ls locs hl hS
  obtain ⟨hexec, hb, -, hown, hts, hE, -⟩ := C
  have hK := hE.1
  have hc : vwCl[2]? = some (RX2, TX2, 6) := rfl
  have hap := va_apart (own := own) hts inlX2 tyX2 tyX2_ok nmX2 hK hc
  obtain ⟨r, h1, cell, q1, q2, q3, q4⟩ := hat
  have hr : r = (RX2, TX2, 6) := Option.some.inj (h1.symm.trans hc)
  subst hr
  obtain ⟨hSl, hfc, kC, hkC, hkind⟩ := hK.1 2 _ hc
  obtain ⟨cf, kf, fi, f, hi, hsl⟩ := hSl k hk
  have hlay := hts _ (inlX2 _ (u_in_lay hk))
  unfold u_lay at hlay
  rw [if_neg (by rw [hfin]; decide)] at hlay
  have hst := (u_facts hfc hkC (u_lays hts inlX2 hk) hi).1
  have hsame : s.fieldFound? RX2 (TX2 k).2.1 (TX2 k).2.2.1 = some (cf, kf, fi, f) := by rw [← hs1]; exact hi
  have h6 := u_store hfc hkC hkind hlay hi hd hn hfit
  refine W.putK hexec hb (f := f) ⟨hown, hts _ hlink, ⟨_, _, _, hsame⟩, hst⟩ (by rw [q2]; exact h6) q1 q3 (by rw [hsl]; exact k2_hasslot (q4 k hk)) rfl rfl hdg fun H' e1 e2 e3 => ?_
  rw [hsl] at e1 ⊢
  exact kk H' ⟨_, hc, t_OB.to (V := updV (vp_V fs) k v) ⟨_, e1, q2, q3, t_set q4 hap hk v⟩ (fun j _ => vp_updV_set hlen v j)⟩ e3 e2 ls _ hl (hS.put e2 e3 hAa)
theorem y_put2F (C : Cx g B0 A p s m args meth c cc nL own) {index a : Nat} {fs : List Value} (hat : cA1 g a (.inr (2, fs)) H) (hAa : A a) (k : Nat) (hk : k < 6) (hlink : Cond.fieldLink own index RX2 (TX2 k).2.1 (TX2 k).2.2.1 ∈ wsL_law) (hs1 : (TX2 k).1 = RX2) (hfin : (TX2 k).2.2.2 = true) (hin : meth.name = "<init>") (hdecl : (TX2 k).1 = own) {ty : FieldType} {v : Value} (hd : parseFieldDescriptor (TX2 k).2.2.1 = some ty) (hn : narrow ty v = v) (hfit : fits ty v = true) (hlen : k < fs.length) (hdg : decode cc pc = .ok (.putfield index, 3)) (kk : ∀ H1 : Heap, cA1 g a (.inr (2, fs.set k v)) H1 → (∀ q : Nat, q ≠ a → H1[q]? = H[q]?) → H1.size = H.size → Yx A p l e R s m args below meth c nL cells slots Q lv H1 (pc + 3) rest) : Yx A p l e R s m args below meth c nL cells slots Q lv H pc (v :: .ref a :: rest) := by
  intro ls locs hl hS
  obtain ⟨hexec, hb, -, hown, hts, hE, -⟩ := C
  have hK := hE.1
  have hc : vwCl[2]? = some (RX2, TX2, 6) := rfl
  have hap := va_apart (own := own) hts inlX2 tyX2 tyX2_ok nmX2 hK hc
  obtain ⟨r, h1, cell, q1, q2, q3, q4⟩ := hat
  have hr : r = (RX2, TX2, 6) := Option.some.inj (h1.symm.trans hc)
  subst hr
  obtain ⟨hSl, hfc, kC, hkC, hkind⟩ := hK.1 2 _ hc
  obtain ⟨cf, kf, fi, f, hi, hsl⟩ := hSl k hk
  have hlay := hts _ (inlX2 _ (u_in_lay hk))
  unfold u_lay at hlay
  rw [if_pos hfin] at hlay
  have hst := (u_facts hfc hkC (u_lays hts inlX2 hk) hi).1
  have hsame : s.fieldFound? RX2 (TX2 k).2.1 (TX2 k).2.2.1 = some (cf, kf, fi, f) := by rw [← hs1]; exact hi
  have hcf : m.cls = cf := by
    obtain ⟨_, _, c', _, _, _, -, -, hf', -, -, -, hown2, -⟩ := Cond.laysFinal_spec hlay
    have e1 : c' = cf := by have := hi.symm.trans hf'; simp at this; exact this.1.symm
    rw [hdecl] at hown2
    rw [← e1]; exact Option.some.inj (hown.symm.trans hown2)
  have h6 := u_fits hfc hkC hkind (Or.inr hlay) hi hd hn hfit
  refine W.putFinK hexec hb hown (hts _ hlink) hsame hst hcf hin (by rw [q2]; exact h6) q1 q3 (by rw [hsl]; exact k2_hasslot (q4 k hk)) rfl rfl hdg fun H' e1 e2 e3 => ?_
  rw [hsl] at e1 ⊢
  exact kk H' ⟨_, hc, t_OB.to (V := updV (vp_V fs) k v) ⟨_, e1, q2, q3, t_set q4 hap hk v⟩ (fun j _ => vp_updV_set hlen v j)⟩ e3 e2 ls _ hl (hS.put e2 e3 hAa)
theorem y_get3 (C : Cx g B0 A p s m args meth c cc nL own) {index a : Nat} {fs : List Value} (hat : cA1 g a (.inr (3, fs)) H) (k : Nat) (hk : k < 2) (hlink : Cond.fieldLink own index RX3 (TX3 k).2.1 (TX3 k).2.2.1 ∈ wsL_law) (hs1 : (TX3 k).1 = RX3) {v : Value} (hv : fs[k]? = some v) (hdg : decode cc pc = .ok (.getfield index, 3)) (kk : Yx A p l e R s m args below meth c nL cells slots Q lv H (pc + 3) (v :: rest)) : Yx A p l e R s m args below meth c nL cells slots Q lv H pc (.ref a :: rest) :=
  fun ls locs hl hS => va_get (ref := RX3) (C := RX3) (T := TX3) (N := 2) (ci := 3) C.1 C.2.1 C.2.2.2.2.1 inlX3 C.2.2.2.1 C.2.2.2.2.2.1.1 (cA1P hat) 0 rfl rfl k hk (C.2.2.2.2.1 _ hlink) (fun x hx => by rw [hs1] at hx; exact hx) hv hdg (kk ls locs hl hS)
theorem y_put3 (C : Cx g B0 A p s m args meth c cc nL own) {index a : Nat} {fs : List Value} (hat : cA1 g a (.inr (3, fs)) H) (hAa : A a) (k : Nat) (hk : k < 2) (hlink : Cond.fieldLink own index RX3 (TX3 k).2.1 (TX3 k).2.2.1 ∈ wsL_law) (hs1 : (TX3 k).1 = RX3) (hfin : (TX3 k).2.2.2 = false) {ty : FieldType} {v : Value} (hd : parseFieldDescriptor (TX3 k).2.2.1 = some ty) (hn : narrow ty v = v) (hfit : fits ty v = true) (hlen : k < fs.length) (hdg : decode cc pc = .ok (.putfield index, 3)) (kk : ∀ H1 : Heap, cA1 g a (.inr (3, fs.set k v)) H1 → (∀ q : Nat, q ≠ a → H1[q]? = H[q]?) → H1.size = H.size → Yx A p l e R s m args below meth c nL cells slots Q lv H1 (pc + 3) rest) : Yx A p l e R s m args below meth c nL cells slots Q lv H pc (v :: .ref a :: rest) := by
  intro ls locs hl hS
  obtain ⟨hexec, hb, -, hown, hts, hE, -⟩ := C
  have hK := hE.1
  have hc : vwCl[3]? = some (RX3, TX3, 2) := rfl
  have hap := va_apart (own := own) hts inlX3 tyX3 tyX3_ok nmX3 hK hc
  obtain ⟨r, h1, cell, q1, q2, q3, q4⟩ := hat
  have hr : r = (RX3, TX3, 2) := Option.some.inj (h1.symm.trans hc)
  subst hr
  obtain ⟨hSl, hfc, kC, hkC, hkind⟩ := hK.1 3 _ hc
  obtain ⟨cf, kf, fi, f, hi, hsl⟩ := hSl k hk
  have hlay := hts _ (inlX3 _ (u_in_lay hk))
  unfold u_lay at hlay
  rw [if_neg (by rw [hfin]; decide)] at hlay
  have hst := (u_facts hfc hkC (u_lays hts inlX3 hk) hi).1
  have hsame : s.fieldFound? RX3 (TX3 k).2.1 (TX3 k).2.2.1 = some (cf, kf, fi, f) := by rw [← hs1]; exact hi
  have h6 := u_store hfc hkC hkind hlay hi hd hn hfit
  refine W.putK hexec hb (f := f) ⟨hown, hts _ hlink, ⟨_, _, _, hsame⟩, hst⟩ (by rw [q2]; exact h6) q1 q3 (by rw [hsl]; exact k2_hasslot (q4 k hk)) rfl rfl hdg fun H' e1 e2 e3 => ?_
  rw [hsl] at e1 ⊢
  exact kk H' ⟨_, hc, t_OB.to (V := updV (vp_V fs) k v) ⟨_, e1, q2, q3, t_set q4 hap hk v⟩ (fun j _ => vp_updV_set hlen v j)⟩ e3 e2 ls _ hl (hS.put e2 e3 hAa)
theorem y_put3F (C : Cx g B0 A p s m args meth c cc nL own) {index a : Nat} {fs : List Value} (hat : cA1 g a (.inr (3, fs)) H) (hAa : A a) (k : Nat) (hk : k < 2) (hlink : Cond.fieldLink own index RX3 (TX3 k).2.1 (TX3 k).2.2.1 ∈ wsL_law) (hs1 : (TX3 k).1 = RX3) (hfin : (TX3 k).2.2.2 = true) (hin : meth.name = "<init>") (hdecl : (TX3 k).1 = own) {ty : FieldType} {v : Value} (hd : parseFieldDescriptor (TX3 k).2.2.1 = some ty) (hn : narrow ty v = v) (hfit : fits ty v = true) (hlen : k < fs.length) (hdg : decode cc pc = .ok (.putfield index, 3)) (kk : ∀ H1 : Heap, cA1 g a (.inr (3, fs.set k v)) H1 → (∀ q : Nat, q ≠ a → H1[q]? = H[q]?) → H1.size = H.size → Yx A p l e R s m args below meth c nL cells slots Q lv H1 (pc + 3) rest) : Yx A p l e R s m args below meth c nL cells slots Q lv H pc (v :: .ref a :: rest) := by
  intro ls locs hl hS
  obtain ⟨hexec, hb, -, hown, hts, hE, -⟩ := C
  have hK := hE.1
  have hc : vwCl[3]? = some (RX3, TX3, 2) := rfl
  have hap := va_apart (own := own) hts inlX3 tyX3 tyX3_ok nmX3 hK hc
  obtain ⟨r, h1, cell, q1, q2, q3, q4⟩ := hat
  have hr : r = (RX3, TX3, 2) := Option.some.inj (h1.symm.trans hc)
  subst hr
  obtain ⟨hSl, hfc, kC, hkC, hkind⟩ := hK.1 3 _ hc
  obtain ⟨cf, kf, fi, f, hi, hsl⟩ := hSl k hk
  have hlay := hts _ (inlX3 _ (u_in_lay hk))
  unfold u_lay at hlay
  rw [if_pos hfin] at hlay
  have hst := (u_facts hfc hkC (u_lays hts inlX3 hk) hi).1
  have hsame : s.fieldFound? RX3 (TX3 k).2.1 (TX3 k).2.2.1 = some (cf, kf, fi, f) := by rw [← hs1]; exact hi
  have hcf : m.cls = cf := by
    obtain ⟨_, _, c', _, _, _, -, -, hf', -, -, -, hown2, -⟩ := Cond.laysFinal_spec hlay
    have e1 : c' = cf := by have := hi.symm.trans hf'; simp at this; exact this.1.symm
    rw [hdecl] at hown2
    rw [← e1]; exact Option.some.inj (hown.symm.trans hown2)
  have h6 := u_fits hfc hkC hkind (Or.inr hlay) hi hd hn hfit
  refine W.putFinK hexec hb hown (hts _ hlink) hsame hst hcf hin (by rw [q2]; exact h6) q1 q3 (by rw [hsl]; exact k2_hasslot (q4 k hk)) rfl rfl hdg fun H' e1 e2 e3 => ?_
  rw [hsl] at e1 ⊢
  exact kk H' ⟨_, hc, t_OB.to (V := updV (vp_V fs) k v) ⟨_, e1, q2, q3, t_set q4 hap hk v⟩ (fun j _ => vp_updV_set hlen v j)⟩ e3 e2 ls _ hl (hS.put e2 e3 hAa)
theorem y_get4 (C : Cx g B0 A p s m args meth c cc nL own) {index a : Nat} {fs : List Value} (hat : cA1 g a (.inr (4, fs)) H) (k : Nat) (hk : k < 9) (hlink : Cond.fieldLink own index RX4 (TX4 k).2.1 (TX4 k).2.2.1 ∈ wsL_law) (hs1 : (TX4 k).1 = RX4) {v : Value} (hv : fs[k]? = some v) (hdg : decode cc pc = .ok (.getfield index, 3)) (kk : Yx A p l e R s m args below meth c nL cells slots Q lv H (pc + 3) (v :: rest)) : Yx A p l e R s m args below meth c nL cells slots Q lv H pc (.ref a :: rest) :=
  fun ls locs hl hS => va_get (ref := RX4) (C := RX4) (T := TX4) (N := 9) (ci := 4) C.1 C.2.1 C.2.2.2.2.1 inlX4 C.2.2.2.1 C.2.2.2.2.2.1.1 (cA1P hat) 0 rfl rfl k hk (C.2.2.2.2.1 _ hlink) (fun x hx => by rw [hs1] at hx; exact hx) hv hdg (kk ls locs hl hS)
theorem y_put4 (C : Cx g B0 A p s m args meth c cc nL own) {index a : Nat} {fs : List Value} (hat : cA1 g a (.inr (4, fs)) H) (hAa : A a) (k : Nat) (hk : k < 9) (hlink : Cond.fieldLink own index RX4 (TX4 k).2.1 (TX4 k).2.2.1 ∈ wsL_law) (hs1 : (TX4 k).1 = RX4) (hfin : (TX4 k).2.2.2 = false) {ty : FieldType} {v : Value} (hd : parseFieldDescriptor (TX4 k).2.2.1 = some ty) (hn : narrow ty v = v) (hfit : fits ty v = true) (hlen : k < fs.length) (hdg : decode cc pc = .ok (.putfield index, 3)) (kk : ∀ H1 : Heap, cA1 g a (.inr (4, fs.set k v)) H1 → (∀ q : Nat, q ≠ a → H1[q]? = H[q]?) → H1.size = H.size → Yx A p l e R s m args below meth c nL cells slots Q lv H1 (pc + 3) rest) : Yx A p l e R s m args below meth c nL cells slots Q lv H pc (v :: .ref a :: rest) := by
  intro ls locs hl hS
  obtain ⟨hexec, hb, -, hown, hts, hE, -⟩ := C
  have hK := hE.1
  have hc : vwCl[4]? = some (RX4, TX4, 9) := rfl
  have hap := va_apart (own := own) hts inlX4 tyX4 tyX4_ok nmX4 hK hc
  obtain ⟨r, h1, cell, q1, q2, q3, q4⟩ := hat
  have hr : r = (RX4, TX4, 9) := Option.some.inj (h1.symm.trans hc)
  subst hr
  obtain ⟨hSl, hfc, kC, hkC, hkind⟩ := hK.1 4 _ hc
  obtain ⟨cf, kf, fi, f, hi, hsl⟩ := hSl k hk
  have hlay := hts _ (inlX4 _ (u_in_lay hk))
  unfold u_lay at hlay
  rw [if_neg (by rw [hfin]; decide)] at hlay
  have hst := (u_facts hfc hkC (u_lays hts inlX4 hk) hi).1
  have hsame : s.fieldFound? RX4 (TX4 k).2.1 (TX4 k).2.2.1 = some (cf, kf, fi, f) := by rw [← hs1]; exact hi
  have h6 := u_store hfc hkC hkind hlay hi hd hn hfit
  refine W.putK hexec hb (f := f) ⟨hown, hts _ hlink, ⟨_, _, _, hsame⟩, hst⟩ (by rw [q2]; exact h6) q1 q3 (by rw [hsl]; exact k2_hasslot (q4 k hk)) rfl rfl hdg fun H' e1 e2 e3 => ?_
  rw [hsl] at e1 ⊢
  exact kk H' ⟨_, hc, t_OB.to (V := updV (vp_V fs) k v) ⟨_, e1, q2, q3, t_set q4 hap hk v⟩ (fun j _ => vp_updV_set hlen v j)⟩ e3 e2 ls _ hl (hS.put e2 e3 hAa)
theorem y_put4F (C : Cx g B0 A p s m args meth c cc nL own) {index a : Nat} {fs : List Value} (hat : cA1 g a (.inr (4, fs)) H) (hAa : A a) (k : Nat) (hk : k < 9) (hlink : Cond.fieldLink own index RX4 (TX4 k).2.1 (TX4 k).2.2.1 ∈ wsL_law) (hs1 : (TX4 k).1 = RX4) (hfin : (TX4 k).2.2.2 = true) (hin : meth.name = "<init>") (hdecl : (TX4 k).1 = own) {ty : FieldType} {v : Value} (hd : parseFieldDescriptor (TX4 k).2.2.1 = some ty) (hn : narrow ty v = v) (hfit : fits ty v = true) (hlen : k < fs.length) (hdg : decode cc pc = .ok (.putfield index, 3)) (kk : ∀ H1 : Heap, cA1 g a (.inr (4, fs.set k v)) H1 → (∀ q : Nat, q ≠ a → H1[q]? = H[q]?) → H1.size = H.size → Yx A p l e R s m args below meth c nL cells slots Q lv H1 (pc + 3) rest) : Yx A p l e R s m args below meth c nL cells slots Q lv H pc (v :: .ref a :: rest) := by
  intro ls locs hl hS
  obtain ⟨hexec, hb, -, hown, hts, hE, -⟩ := C
  have hK := hE.1
  have hc : vwCl[4]? = some (RX4, TX4, 9) := rfl
  have hap := va_apart (own := own) hts inlX4 tyX4 tyX4_ok nmX4 hK hc
  obtain ⟨r, h1, cell, q1, q2, q3, q4⟩ := hat
  have hr : r = (RX4, TX4, 9) := Option.some.inj (h1.symm.trans hc)
  subst hr
  obtain ⟨hSl, hfc, kC, hkC, hkind⟩ := hK.1 4 _ hc
  obtain ⟨cf, kf, fi, f, hi, hsl⟩ := hSl k hk
  have hlay := hts _ (inlX4 _ (u_in_lay hk))
  unfold u_lay at hlay
  rw [if_pos hfin] at hlay
  have hst := (u_facts hfc hkC (u_lays hts inlX4 hk) hi).1
  have hsame : s.fieldFound? RX4 (TX4 k).2.1 (TX4 k).2.2.1 = some (cf, kf, fi, f) := by rw [← hs1]; exact hi
  have hcf : m.cls = cf := by
    obtain ⟨_, _, c', _, _, _, -, -, hf', -, -, -, hown2, -⟩ := Cond.laysFinal_spec hlay
    have e1 : c' = cf := by have := hi.symm.trans hf'; simp at this; exact this.1.symm
    rw [hdecl] at hown2
    rw [← e1]; exact Option.some.inj (hown.symm.trans hown2)
  have h6 := u_fits hfc hkC hkind (Or.inr hlay) hi hd hn hfit
  refine W.putFinK hexec hb hown (hts _ hlink) hsame hst hcf hin (by rw [q2]; exact h6) q1 q3 (by rw [hsl]; exact k2_hasslot (q4 k hk)) rfl rfl hdg fun H' e1 e2 e3 => ?_
  rw [hsl] at e1 ⊢
  exact kk H' ⟨_, hc, t_OB.to (V := updV (vp_V fs) k v) ⟨_, e1, q2, q3, t_set q4 hap hk v⟩ (fun j _ => vp_updV_set hlen v j)⟩ e3 e2 ls _ hl (hS.put e2 e3 hAa)
theorem y_get5 (C : Cx g B0 A p s m args meth c cc nL own) {index a : Nat} {fs : List Value} (hat : cA1 g a (.inr (5, fs)) H) (k : Nat) (hk : k < 8) (hlink : Cond.fieldLink own index RX5 (TX5 k).2.1 (TX5 k).2.2.1 ∈ wsL_law) (hs1 : (TX5 k).1 = RX5) {v : Value} (hv : fs[k]? = some v) (hdg : decode cc pc = .ok (.getfield index, 3)) (kk : Yx A p l e R s m args below meth c nL cells slots Q lv H (pc + 3) (v :: rest)) : Yx A p l e R s m args below meth c nL cells slots Q lv H pc (.ref a :: rest) :=
  fun ls locs hl hS => va_get (ref := RX5) (C := RX5) (T := TX5) (N := 8) (ci := 5) C.1 C.2.1 C.2.2.2.2.1 inlX5 C.2.2.2.1 C.2.2.2.2.2.1.1 (cA1P hat) 0 rfl rfl k hk (C.2.2.2.2.1 _ hlink) (fun x hx => by rw [hs1] at hx; exact hx) hv hdg (kk ls locs hl hS)
theorem y_put5 (C : Cx g B0 A p s m args meth c cc nL own) {index a : Nat} {fs : List Value} (hat : cA1 g a (.inr (5, fs)) H) (hAa : A a) (k : Nat) (hk : k < 8) (hlink : Cond.fieldLink own index RX5 (TX5 k).2.1 (TX5 k).2.2.1 ∈ wsL_law) (hs1 : (TX5 k).1 = RX5) (hfin : (TX5 k).2.2.2 = false) {ty : FieldType} {v : Value} (hd : parseFieldDescriptor (TX5 k).2.2.1 = some ty) (hn : narrow ty v = v) (hfit : fits ty v = true) (hlen : k < fs.length) (hdg : decode cc pc = .ok (.putfield index, 3)) (kk : ∀ H1 : Heap, cA1 g a (.inr (5, fs.set k v)) H1 → (∀ q : Nat, q ≠ a → H1[q]? = H[q]?) → H1.size = H.size → Yx A p l e R s m args below meth c nL cells slots Q lv H1 (pc + 3) rest) : Yx A p l e R s m args below meth c nL cells slots Q lv H pc (v :: .ref a :: rest) := by
  intro ls locs hl hS
  obtain ⟨hexec, hb, -, hown, hts, hE, -⟩ := C
  have hK := hE.1
  have hc : vwCl[5]? = some (RX5, TX5, 8) := rfl
  have hap := va_apart (own := own) hts inlX5 tyX5 tyX5_ok nmX5 hK hc
  obtain ⟨r, h1, cell, q1, q2, q3, q4⟩ := hat
  have hr : r = (RX5, TX5, 8) := Option.some.inj (h1.symm.trans hc)
  subst hr
  obtain ⟨hSl, hfc, kC, hkC, hkind⟩ := hK.1 5 _ hc
  obtain ⟨cf, kf, fi, f, hi, hsl⟩ := hSl k hk
  have hlay := hts _ (inlX5 _ (u_in_lay hk))
  unfold u_lay at hlay
  rw [if_neg (by rw [hfin]; decide)] at hlay
  have hst := (u_facts hfc hkC (u_lays hts inlX5 hk) hi).1
  have hsame : s.fieldFound? RX5 (TX5 k).2.1 (TX5 k).2.2.1 = some (cf, kf, fi, f) := by rw [← hs1]; exact hi
  have h6 := u_store hfc hkC hkind hlay hi hd hn hfit
  refine W.putK hexec hb (f := f) ⟨hown, hts _ hlink, ⟨_, _, _, hsame⟩, hst⟩ (by rw [q2]; exact h6) q1 q3 (by rw [hsl]; exact k2_hasslot (q4 k hk)) rfl rfl hdg fun H' e1 e2 e3 => ?_
  rw [hsl] at e1 ⊢
  exact kk H' ⟨_, hc, t_OB.to (V := updV (vp_V fs) k v) ⟨_, e1, q2, q3, t_set q4 hap hk v⟩ (fun j _ => vp_updV_set hlen v j)⟩ e3 e2 ls _ hl (hS.put e2 e3 hAa)
theorem y_put5F (C : Cx g B0 A p s m args meth c cc nL own) {index a : Nat} {fs : List Value} (hat : cA1 g a (.inr (5, fs)) H) (hAa : A a) (k : Nat) (hk : k < 8) (hlink : Cond.fieldLink own index RX5 (TX5 k).2.1 (TX5 k).2.2.1 ∈ wsL_law) (hs1 : (TX5 k).1 = RX5) (hfin : (TX5 k).2.2.2 = true) (hin : meth.name = "<init>") (hdecl : (TX5 k).1 = own) {ty : FieldType} {v : Value} (hd : parseFieldDescriptor (TX5 k).2.2.1 = some ty) (hn : narrow ty v = v) (hfit : fits ty v = true) (hlen : k < fs.length) (hdg : decode cc pc = .ok (.putfield index, 3)) (kk : ∀ H1 : Heap, cA1 g a (.inr (5, fs.set k v)) H1 → (∀ q : Nat, q ≠ a → H1[q]? = H[q]?) → H1.size = H.size → Yx A p l e R s m args below meth c nL cells slots Q lv H1 (pc + 3) rest) : Yx A p l e R s m args below meth c nL cells slots Q lv H pc (v :: .ref a :: rest) := by
  intro ls locs hl hS
  obtain ⟨hexec, hb, -, hown, hts, hE, -⟩ := C
  have hK := hE.1
  have hc : vwCl[5]? = some (RX5, TX5, 8) := rfl
  have hap := va_apart (own := own) hts inlX5 tyX5 tyX5_ok nmX5 hK hc
  obtain ⟨r, h1, cell, q1, q2, q3, q4⟩ := hat
  have hr : r = (RX5, TX5, 8) := Option.some.inj (h1.symm.trans hc)
  subst hr
  obtain ⟨hSl, hfc, kC, hkC, hkind⟩ := hK.1 5 _ hc
  obtain ⟨cf, kf, fi, f, hi, hsl⟩ := hSl k hk
  have hlay := hts _ (inlX5 _ (u_in_lay hk))
  unfold u_lay at hlay
  rw [if_pos hfin] at hlay
  have hst := (u_facts hfc hkC (u_lays hts inlX5 hk) hi).1
  have hsame : s.fieldFound? RX5 (TX5 k).2.1 (TX5 k).2.2.1 = some (cf, kf, fi, f) := by rw [← hs1]; exact hi
  have hcf : m.cls = cf := by
    obtain ⟨_, _, c', _, _, _, -, -, hf', -, -, -, hown2, -⟩ := Cond.laysFinal_spec hlay
    have e1 : c' = cf := by have := hi.symm.trans hf'; simp at this; exact this.1.symm
    rw [hdecl] at hown2
    rw [← e1]; exact Option.some.inj (hown.symm.trans hown2)
  have h6 := u_fits hfc hkC hkind (Or.inr hlay) hi hd hn hfit
  refine W.putFinK hexec hb hown (hts _ hlink) hsame hst hcf hin (by rw [q2]; exact h6) q1 q3 (by rw [hsl]; exact k2_hasslot (q4 k hk)) rfl rfl hdg fun H' e1 e2 e3 => ?_
  rw [hsl] at e1 ⊢
  exact kk H' ⟨_, hc, t_OB.to (V := updV (vp_V fs) k v) ⟨_, e1, q2, q3, t_set q4 hap hk v⟩ (fun j _ => vp_updV_set hlen v j)⟩ e3 e2 ls _ hl (hS.put e2 e3 hAa)
theorem y_get6 (C : Cx g B0 A p s m args meth c cc nL own) {index a : Nat} {fs : List Value} (hat : cA1 g a (.inr (6, fs)) H) (k : Nat) (hk : k < 6) (hlink : Cond.fieldLink own index RX6 (TX6 k).2.1 (TX6 k).2.2.1 ∈ wsL_law) (hs1 : (TX6 k).1 = RX6) {v : Value} (hv : fs[k]? = some v) (hdg : decode cc pc = .ok (.getfield index, 3)) (kk : Yx A p l e R s m args below meth c nL cells slots Q lv H (pc + 3) (v :: rest)) : Yx A p l e R s m args below meth c nL cells slots Q lv H pc (.ref a :: rest) :=
  fun ls locs hl hS => va_get (ref := RX6) (C := RX6) (T := TX6) (N := 6) (ci := 6) C.1 C.2.1 C.2.2.2.2.1 inlX6 C.2.2.2.1 C.2.2.2.2.2.1.1 (cA1P hat) 0 rfl rfl k hk (C.2.2.2.2.1 _ hlink) (fun x hx => by rw [hs1] at hx; exact hx) hv hdg (kk ls locs hl hS)
theorem y_put6 (C : Cx g B0 A p s m args meth c cc nL own) {index a : Nat} {fs : List Value} (hat : cA1 g a (.inr (6, fs)) H) (hAa : A a) (k : Nat) (hk : k < 6) (hlink : Cond.fieldLink own index RX6 (TX6 k).2.1 (TX6 k).2.2.1 ∈ wsL_law) (hs1 : (TX6 k).1 = RX6) (hfin : (TX6 k).2.2.2 = false) {ty : FieldType} {v : Value} (hd : parseFieldDescriptor (TX6 k).2.2.1 = some ty) (hn : narrow ty v = v) (hfit : fits ty v = true) (hlen : k < fs.length) (hdg : decode cc pc = .ok (.putfield index, 3)) (kk : ∀ H1 : Heap, cA1 g a (.inr (6, fs.set k v)) H1 → (∀ q : Nat, q ≠ a → H1[q]? = H[q]?) → H1.size = H.size → Yx A p l e R s m args below meth c nL cells slots Q lv H1 (pc + 3) rest) : Yx A p l e R s m args below meth c nL cells slots Q lv H pc (v :: .ref a :: rest) := by
  intro ls locs hl hS
  obtain ⟨hexec, hb, -, hown, hts, hE, -⟩ := C
  have hK := hE.1
  have hc : vwCl[6]? = some (RX6, TX6, 6) := rfl
  have hap := va_apart (own := own) hts inlX6 tyX6 tyX6_ok nmX6 hK hc
  obtain ⟨r, h1, cell, q1, q2, q3, q4⟩ := hat
  have hr : r = (RX6, TX6, 6) := Option.some.inj (h1.symm.trans hc)
  subst hr
  obtain ⟨hSl, hfc, kC, hkC, hkind⟩ := hK.1 6 _ hc
  obtain ⟨cf, kf, fi, f, hi, hsl⟩ := hSl k hk
  have hlay := hts _ (inlX6 _ (u_in_lay hk))
  unfold u_lay at hlay
  rw [if_neg (by rw [hfin]; decide)] at hlay
  have hst := (u_facts hfc hkC (u_lays hts inlX6 hk) hi).1
  have hsame : s.fieldFound? RX6 (TX6 k).2.1 (TX6 k).2.2.1 = some (cf, kf, fi, f) := by rw [← hs1]; exact hi
  have h6 := u_store hfc hkC hkind hlay hi hd hn hfit
  refine W.putK hexec hb (f := f) ⟨hown, hts _ hlink, ⟨_, _, _, hsame⟩, hst⟩ (by rw [q2]; exact h6) q1 q3 (by rw [hsl]; exact k2_hasslot (q4 k hk)) rfl rfl hdg fun H' e1 e2 e3 => ?_
  rw [hsl] at e1 ⊢
  exact kk H' ⟨_, hc, t_OB.to (V := updV (vp_V fs) k v) ⟨_, e1, q2, q3, t_set q4 hap hk v⟩ (fun j _ => vp_updV_set hlen v j)⟩ e3 e2 ls _ hl (hS.put e2 e3 hAa)
theorem y_put6F (C : Cx g B0 A p s m args meth c cc nL own) {index a : Nat} {fs : List Value} (hat : cA1 g a (.inr (6, fs)) H) (hAa : A a) (k : Nat) (hk : k < 6) (hlink : Cond.fieldLink own index RX6 (TX6 k).2.1 (TX6 k).2.2.1 ∈ wsL_law) (hs1 : (TX6 k).1 = RX6) (hfin : (TX6 k).2.2.2 = true) (hin : meth.name = "<init>") (hdecl : (TX6 k).1 = own) {ty : FieldType} {v : Value} (hd : parseFieldDescriptor (TX6 k).2.2.1 = some ty) (hn : narrow ty v = v) (hfit : fits ty v = true) (hlen : k < fs.length) (hdg : decode cc pc = .ok (.putfield index, 3)) (kk : ∀ H1 : Heap, cA1 g a (.inr (6, fs.set k v)) H1 → (∀ q : Nat, q ≠ a → H1[q]? = H[q]?) → H1.size = H.size → Yx A p l e R s m args below meth c nL cells slots Q lv H1 (pc + 3) rest) : Yx A p l e R s m args below meth c nL cells slots Q lv H pc (v :: .ref a :: rest) := by
  intro ls locs hl hS
  obtain ⟨hexec, hb, -, hown, hts, hE, -⟩ := C
  have hK := hE.1
  have hc : vwCl[6]? = some (RX6, TX6, 6) := rfl
  have hap := va_apart (own := own) hts inlX6 tyX6 tyX6_ok nmX6 hK hc
  obtain ⟨r, h1, cell, q1, q2, q3, q4⟩ := hat
  have hr : r = (RX6, TX6, 6) := Option.some.inj (h1.symm.trans hc)
  subst hr
  obtain ⟨hSl, hfc, kC, hkC, hkind⟩ := hK.1 6 _ hc
  obtain ⟨cf, kf, fi, f, hi, hsl⟩ := hSl k hk
  have hlay := hts _ (inlX6 _ (u_in_lay hk))
  unfold u_lay at hlay
  rw [if_pos hfin] at hlay
  have hst := (u_facts hfc hkC (u_lays hts inlX6 hk) hi).1
  have hsame : s.fieldFound? RX6 (TX6 k).2.1 (TX6 k).2.2.1 = some (cf, kf, fi, f) := by rw [← hs1]; exact hi
  have hcf : m.cls = cf := by
    obtain ⟨_, _, c', _, _, _, -, -, hf', -, -, -, hown2, -⟩ := Cond.laysFinal_spec hlay
    have e1 : c' = cf := by have := hi.symm.trans hf'; simp at this; exact this.1.symm
    rw [hdecl] at hown2
    rw [← e1]; exact Option.some.inj (hown.symm.trans hown2)
  have h6 := u_fits hfc hkC hkind (Or.inr hlay) hi hd hn hfit
  refine W.putFinK hexec hb hown (hts _ hlink) hsame hst hcf hin (by rw [q2]; exact h6) q1 q3 (by rw [hsl]; exact k2_hasslot (q4 k hk)) rfl rfl hdg fun H' e1 e2 e3 => ?_
  rw [hsl] at e1 ⊢
  exact kk H' ⟨_, hc, t_OB.to (V := updV (vp_V fs) k v) ⟨_, e1, q2, q3, t_set q4 hap hk v⟩ (fun j _ => vp_updV_set hlen v j)⟩ e3 e2 ls _ hl (hS.put e2 e3 hAa)
theorem cA1i {g : KG} {cA : ClassId} {q n : Nat} {f : Nat → Int32} {H : Heap} (h : cA1 g q (.inl (cA, n, .inl f)) H) : H[q]? = some (vp_cell cA (n, .inl f)) := h
theorem y_iald (C : Cx g B0 A p s m args meth c cc nL own) {a n : Nat} {f : Nat → Int32} (hat : cA1 g a (.inl (g.2 0, n, .inl f)) H) {i : Int32} (k : Nat) (hi : i = nI k) (hk : k < n) (hn : n < 2 ^ 31) (hdg : decode cc pc = .ok (.iaload, 1)) (kk : Yx A p l e R s m args below meth c nL cells slots Q lv H (pc + 1) (.int (f k) :: rest)) : Yx A p l e R s m args below meth c nL cells slots Q lv H pc (.int i :: .ref a :: rest) := by
  subst hi
  have hz : (nI k).toNatClampNeg = k := nI_clamp (Nat.lt_trans hk hn)
  exact fun ls locs hl hS => va_iald C.1 C.2.1 C.2.2.2.2.2.1.1 (cA1P hat) 0 0 rfl rfl (vp_in_nI hk hn) hdg (by rw [hz]; exact kk ls locs hl hS)
theorem y_fald (C : Cx g B0 A p s m args meth c cc nL own) {a n : Nat} {f : Nat → UInt32} (hat : cA1 g a (.inl (g.2 1, n, .inr (.inr (.inl f)))) H) {i : Int32} (k : Nat) (hi : i = nI k) (hk : k < n) (hn : n < 2 ^ 31) (hdg : decode cc pc = .ok (.faload, 1)) (kk : Yx A p l e R s m args below meth c nL cells slots Q lv H (pc + 1) (.float (f k) :: rest)) : Yx A p l e R s m args below meth c nL cells slots Q lv H pc (.int i :: .ref a :: rest) := by
  subst hi
  have hz : (nI k).toNatClampNeg = k := nI_clamp (Nat.lt_trans hk hn)
  exact fun ls locs hl hS => va_fald C.1 C.2.1 C.2.2.2.2.2.1.1 (cA1P hat) 0 1 rfl rfl (vp_in_nI hk hn) hdg (by rw [hz]; exact kk ls locs hl hS)
theorem y_aald (C : Cx g B0 A p s m args meth c cc nL own) {a n : Nat} {f : Nat → Option Nat} (hat : cA1 g a (.inl (g.2 3, n, .inr (.inr (.inr (.inr f))))) H) {i : Int32} (k : Nat) (hi : i = nI k) (hk : k < n) (hn : n < 2 ^ 31) {v : Value} (hv : va_rf (f k) = v) (hdg : decode cc pc = .ok (.aaload, 1)) (kk : Yx A p l e R s m args below meth c nL cells slots Q lv H (pc + 1) (v :: rest)) : Yx A p l e R s m args below meth c nL cells slots Q lv H pc (.int i :: .ref a :: rest) := by
  subst hi; subst hv
  have hz : (nI k).toNatClampNeg = k := nI_clamp (Nat.lt_trans hk hn)
  exact fun ls locs hl hS => va_aldq C.1 C.2.1 C.2.2.2.2.2.1.1 (cA1P hat) 0 3 rfl rfl (vp_in_nI hk hn) hdg (by rw [hz]; exact kk ls locs hl hS)
theorem y_iast (C : Cx g B0 A p s m args meth c cc nL own) {a n : Nat} {f : Nat → Int32} (hat : cA1 g a (.inl (g.2 0, n, .inl f)) H) (hAa : A a) {i x : Int32} (k : Nat) (hi : i = nI k) (hk : k < n) (hn : n < 2 ^ 31) (hdg : decode cc pc = .ok (.iastore, 1)) (kk : ∀ H1 : Heap, cA1 g a (.inl (g.2 0, n, .inl (upd f k x))) H1 → (∀ q : Nat, q ≠ a → H1[q]? = H[q]?) → H1.size = H.size → Yx A p l e R s m args below meth c nL cells slots Q lv H1 (pc + 1) rest) : Yx A p l e R s m args below meth c nL cells slots Q lv H pc (.int x :: .int i :: .ref a :: rest) := by
  subst hi
  have hz : (nI k).toNatClampNeg = k := nI_clamp (Nat.lt_trans hk hn)
  intro ls locs hl hS
  refine W.iast C.1 C.2.1 (cA1i hat) ((C.2.2.2.2.2.1.1.2 0 _ rfl).1 n (fun j => .int (f j))) (fun q => by cases q) (by show ¬ (nI k < 0 ∨ (arrV _ _ _).slots.size ≤ _); rw [arrV_size]; exact vp_in_nI hk hn) rfl rfl hdg fun H1 e z oq => ?_
  refine kk H1 ?_ oq z ls _ hl (hS.put z oq hAa)
  show H1[a]? = some (vp_cell _ _)
  rw [e, vp_cell_i, vp_cell_i, arrV_store, hz]
  congr 2
  funext q
  by_cases hq : q = k
  · subst hq; simp [updV, upd]
  · simp [updV, upd, hq]
theorem y_fast (C : Cx g B0 A p s m args meth c cc nL own) {a n : Nat} {f : Nat → UInt32} (hat : cA1 g a (.inl (g.2 1, n, .inr (.inr (.inl f)))) H) (hAa : A a) {i : Int32} {x : UInt32} (k : Nat) (hi : i = nI k) (hk : k < n) (hn : n < 2 ^ 31) (hdg : decode cc pc = .ok (.fastore, 1)) (kk : ∀ H1 : Heap, cA1 g a (.inl (g.2 1, n, .inr (.inr (.inl (vf_upd f k x))))) H1 → (∀ q : Nat, q ≠ a → H1[q]? = H[q]?) → H1.size = H.size → Yx A p l e R s m args below meth c nL cells slots Q lv H1 (pc + 1) rest) : Yx A p l e R s m args below meth c nL cells slots Q lv H pc (.float x :: .int i :: .ref a :: rest) := by
  subst hi
  have hz : (nI k).toNatClampNeg = k := nI_clamp (Nat.lt_trans hk hn)
  intro ls locs hl hS
  have hc : H[a]? = some (vp_cell (g.2 1) (n, .inr (.inr (.inl f)))) := hat
  refine W.fast C.1 C.2.1 hc ((C.2.2.2.2.2.1.1.2 1 _ rfl).1 n (fun j => .float (f j))) (fun q => by cases q) (by show ¬ (nI k < 0 ∨ (arrV _ _ _).slots.size ≤ _); rw [arrV_size]; exact vp_in_nI hk hn) rfl rfl hdg fun H1 e z oq => ?_
  refine kk H1 ?_ oq z ls _ hl (hS.put z oq hAa)
  show H1[a]? = some (vp_cell _ _)
  rw [e, vp_cell_f, vp_cell_f, arrV_store, hz]
  congr 2
  funext q
  by_cases hq : q = k
  · subst hq; simp [updV, vf_upd]
  · simp [updV, vf_upd, hq]
theorem stA.get {B0 N : Nat} {nm : String} {f : Nat → Int32} {U : State} {H : Heap} (h : stA B0 nm N f U H) (hAB : ∀ q, A q → B0 ≤ q) : ∃ t : Nat, va_Z "SetRepairs" nm "[I" (.ref t) A U H ∧ va_T .int t N (fun j => .int (f j)) A U H := by
  obtain ⟨t, h1, h2⟩ := h
  exact ⟨t, h1.narrow hAB, h2.narrow hAB⟩
theorem y_sld (C : Cx g B0 A p s m args meth c cc nL own) {t N : Nat} {f : Nat → Int32} (hT : va_T .int t N (fun j => .int (f j)) A s s.heap) {i : Int32} (k : Nat) (hi : i = nI k) (hk : k < N) (hn : N < 2 ^ 31) (hdg : decode cc pc = .ok (.iaload, 1)) (kk : Yx A p l e R s m args below meth c nL cells slots Q lv H (pc + 1) (.int (f k) :: rest)) : Yx A p l e R s m args below meth c nL cells slots Q lv H pc (.int i :: .ref t :: rest) := by
  subst hi
  have hz : (nI k).toNatClampNeg = k := nI_clamp (Nat.lt_trans hk hn)
  exact fun ls locs hl hS => va_ti C.1 C.2.1 hT hS (vp_in_nI hk hn) (by show Value.int (f (nI k).toNatClampNeg) = .int (f k); rw [hz]) hdg (kk ls locs hl hS)
theorem y_gets (C : Cx g B0 A p s m args meth c cc nL own) {nm : String} {t index : Nat} (hZ : va_Z "SetRepairs" nm "[I" (.ref t) A s s.heap) (hlink : Cond.fieldLink own index "SetRepairs" nm "[I" ∈ wsL_law) (hdg : decode cc pc = .ok (.getstatic index, 3)) (kk : Yx A p l e R s m args below meth c nL cells slots Q lv H (pc + 3) (.ref t :: rest)) : Yx A p l e R s m args below meth c nL cells slots Q lv H pc rest :=
  fun ls locs hl hS => va_gets C.1 C.2.1 hZ hS C.2.2.2.1 (C.2.2.2.2.1 _ hlink) (fun _ h => h) hdg (kk ls locs hl hS)
theorem y_getsN (C : Cx g B0 A p s m args meth c cc nL own) {nm : String} {t index : Nat} (hZ : va_Z "SetRepairs" nm "[I" (.ref t) A s s.heap) (hlink : va_Nw (.fieldLinkNest own index "SetRepairs" nm "[I" "SetRepairs") s) (hdg : decode cc pc = .ok (.getstatic index, 3)) (kk : Yx A p l e R s m args below meth c nL cells slots Q lv H (pc + 3) (.ref t :: rest)) : Yx A p l e R s m args below meth c nL cells slots Q lv H pc rest :=
  fun ls locs hl hS => va_getsN C.1 C.2.1 hZ hS C.2.2.2.1 (va_Nw.use rfl hlink) (fun _ h => h) hdg (kk ls locs hl hS)
theorem y_iret (C : Cx g B0 A p s m args meth c cc nL own) {rv : Option Value} {P1 : Heap → Prop} {v : Int32} (hr : meth.sig.returnType = some .int) (hrv : rv = some (.int v)) (hP : P1 H) (hdg : decode cc pc = .ok (.ireturn, 1)) : Yx A p l e R s m args below meth c nL cells slots (MQ below (Qx rv P1 A) args s cells slots A) lv H pc [.int v] := by
  subst hrv
  exact fun ls locs hl hS => W.iret C.1 C.2.1 hr (fun t ht hW => ⟨⟨rfl, by rw [ht]; exact hP⟩, hS.F ht⟩) hS.2.2 hdg C.2.2.2.2.2.2.2
theorem y_zret (C : Cx g B0 A p s m args meth c cc nL own) {rv : Option Value} {P1 : Heap → Prop} {v : Int32} (hr : meth.sig.returnType = some .boolean) (hn : v = 0 ∨ v = 1) (hrv : rv = some (.int v)) (hP : P1 H) (hdg : decode cc pc = .ok (.ireturn, 1)) : Yx A p l e R s m args below meth c nL cells slots (MQ below (Qx rv P1 A) args s cells slots A) lv H pc [.int v] := by
  subst hrv
  exact fun ls locs hl hS => W.zret C.1 C.2.1 hr (by rcases hn with rfl | rfl <;> rfl) (fun t ht hW => ⟨⟨rfl, by rw [ht]; exact hP⟩, hS.F ht⟩) hS.2.2 hdg C.2.2.2.2.2.2.2
theorem y_fret (C : Cx g B0 A p s m args meth c cc nL own) {rv : Option Value} {P1 : Heap → Prop} {v : UInt32} (hr : meth.sig.returnType = some .float) (hrv : rv = some (.float v)) (hP : P1 H) (hdg : decode cc pc = .ok (.freturn, 1)) : Yx A p l e R s m args below meth c nL cells slots (MQ below (Qx rv P1 A) args s cells slots A) lv H pc [.float v] := by
  subst hrv
  exact fun ls locs hl hS => W.fret C.1 C.2.1 hr (fun t ht hW => ⟨⟨rfl, by rw [ht]; exact hP⟩, hS.F ht⟩) hS.2.2 hdg C.2.2.2.2.2.2.2
theorem y_vret (C : Cx g B0 A p s m args meth c cc nL own) {P1 : Heap → Prop} (hr : meth.sig.returnType = none) (hP : P1 H) (hdg : decode cc pc = .ok (.return_, 1)) : Yx A p l e R s m args below meth c nL cells slots (MQ below (Qx none P1 A) args s cells slots A) lv H pc [] := by
  exact fun ls locs hl hS => W.vret C.1 C.2.1 hr (fun t ht hW => ⟨⟨rfl, by rw [ht]; exact hP⟩, hS.F ht⟩) hS.2.2 hdg C.2.2.2.2.2.2.2
theorem preB {A1 : Nat → Prop} {av : List Value} {P : Heap → Prop} : FrameBlind (va_Pc av (fun U => (∀ q, A1 q → B0 ≤ q) ∧ env g B0 U U.heap ∧ P U.heap)) := fun a U f mk q => ⟨q.1, q.2.1, env.same (u := U) (U := U.calling f mk a) rfl q.2.2.1, q.2.2.2⟩
theorem preU {A1 : Nat → Prop} {av : List Value} {P : Heap → Prop} {locs : List Loc} (hE : env g B0 s s.heap) (hAB : ∀ q, A q → B0 ≤ q) (hS : va_S A s.heap H locs) (hA1 : ∀ q, A1 q → A q) (hP : P H) : ∀ U : State, U.heap = H → s.WarmedH U.vm → va_Pc av (fun U => (∀ q, A1 q → B0 ≤ q) ∧ env g B0 U U.heap ∧ P U.heap) av.toArray U := by
  intro U hU hW
  refine ⟨rfl, fun q hq => hAB q (hA1 q hq), ?_, by rw [hU]; exact hP⟩
  rw [hU]
  exact (hE.warm hW).kept (fun q h1 h2 => hS.2.1 q h1 (fun z => Nat.lt_irrefl _ (Nat.lt_of_lt_of_le h2 (hAB q z))))
/-- how a run of a call goes on -/
theorem y_goes {A1 : Nat → Prop} {P1 : Heap → Prop} {rv : Option Value} {mc ms : Nat} {st0 st1 : List Value} {a : Array Value} {ls : Array Slot} {locs : List Loc} (hl : lv_has ls nL lv) (hr : va_Run p l e R s m args below meth c H locs cells slots mc ms (F0 m pc ls st0) rest (Qx rv P1 A1 a) A1) (hS : va_S A s.heap H locs) (hA : ∀ q, A1 q → A q) (hst : rv.toList ++ rest = st1) (kk : ∀ H1 : Heap, P1 H1 → H.size ≤ H1.size → (∀ q : Nat, q < H.size → ¬ A1 q → H1[q]? = H[q]?) → Yx A p l e R s m args below meth c nL (cells + mc) (slots + ms) Q lv H1 (pc + 3) st1) : W p l e R s m args below meth c H locs cells slots Q (F0 m pc ls st0) := by
  subst hst
  intro T hT X
  obtain ⟨v, st₀, t, T', L, h0, X', hL, e1, e2, ⟨⟨hv, hp⟩, hz, hk⟩, st⟩ := hr T hT X
  cases hv
  rw [h0] at hz hk
  obtain ⟨t2, a1, b1⟩ := kk T'.heap (by rw [e1]; exact hp) (by rw [e1]; exact hz) (fun q h1 h2 => by rw [e1]; exact hk q h1 h2) ls (locs ++ L) hl
    ⟨Nat.le_trans hS.1 (by rw [e1]; exact hz), fun q h1 h2 => by rw [e1, hk q (Nat.lt_of_lt_of_le h1 hS.1) (fun z => h2 (hA q z))]; exact hS.2.1 q h1 h2, fun q hq => by
      rcases List.mem_append.mp hq with h | h
      · exact hS.2.2 q h
      · exact hA _ (hL q h)⟩ T' rfl X'
  exact ⟨t2, st t2 a1, b1⟩
theorem y_callV (C : Cx g B0 A p s m args meth c cc nL own) {y : MethodName} {cy : ByteArray} {nY : Nat} {ret : Option FieldType} {rm : Room} {A1 : Nat → Prop} {P P1 : Heap → Prop} {rv : Option Value} {mc ms index : Nat} {st1 : List Value} {b : Nat} (As : List Value) (hM : Mt g B0 l y cy nY ret rm (.ref b :: As) A1 P rv P1 mc ms) (Cn : String) (n : Nat) (hw : ∀ w ∈ wsV own index Cn y (.code y cy nY ret :: wsL_law), w ∈ wsL_law) (hd : y.cls = Cn ∧ y.cls ≠ "java/lang/invoke/MethodHandle" ∧ y.cls ≠ "java/lang/invoke/VarHandle" ∧ (parseMethodDescriptor y.desc).map (fun d => d.parameters.length) = some n) (hR : rm.frames + 1 ≤ R.frames ∧ 8 + (nY + 11) + rm.locals ≤ R.locals) (hrm : rm.cells = mc ∧ rm.slots = ms) (hrc : ∃ cell : Cell, H[b]? = some cell ∧ cell.vm.isStatics = false ∧ s.vm.findClass Cn = some cell.cls) (hP : P H) (hA1 : ∀ q, A1 q → A q) (hn : As.length = n) {st0 : List Value} (hst0 : st0 = As.reverse ++ .ref b :: rest) (hcat : (rest.map fun v => v.category).sum ≤ 8) (hdg : decode cc pc = .ok (.invokevirtual index, 3)) (hroom : cells + mc ≤ R.cells ∧ slots + ms ≤ R.slots) (hst : rv.toList ++ rest = st1) (kk : ∀ H1 : Heap, P1 H1 → H.size ≤ H1.size → (∀ q : Nat, q < H.size → ¬ A1 q → H1[q]? = H[q]?) → Yx A p l e R s m args below meth c nL (cells + mc) (slots + ms) Q lv H1 (pc + 3) st1) : Yx A p l e R s m args below meth c nL cells slots Q lv H pc st0 := by
  subst hst0
  intro ls locs hl hS
  exact y_goes hl (va_runV (C := Cn) (As := As) (rest := rest) ⟨C.1, C.2.1, C.2.2.1, C.2.2.2.1, C.2.2.2.2.1⟩ hM (cwV n C.2.2.2.2.1 (lwG hw) rfl hrm.1 hrm.2 hd hR) ⟨preB, hrc, preU C.2.2.2.2.2.1 C.2.2.2.2.2.2.1 hS hA1 hP⟩ rfl hn hl.1 rfl (lv_room hcat) hdg hroom) hS hA1 hst kk
theorem y_callS (C : Cx g B0 A p s m args meth c cc nL own) {y : MethodName} {cy : ByteArray} {nY : Nat} {ret : Option FieldType} {rm : Room} {A1 : Nat → Prop} {P P1 : Heap → Prop} {rv : Option Value} {mc ms index : Nat} {st1 : List Value} (As : List Value) (hM : Mt g B0 l y cy nY ret rm As A1 P rv P1 mc ms) (n : Nat) (hw : ∀ w ∈ va_wsS own index y (.code y cy nY ret :: wsL_law), w ∈ wsL_law) (hd : y.cls ≠ "java/lang/invoke/MethodHandle" ∧ y.cls ≠ "java/lang/invoke/VarHandle" ∧ (parseMethodDescriptor y.desc).map (fun d => d.parameters.length) = some n) (hR : rm.frames + 1 ≤ R.frames ∧ 8 + (nY + 11) + rm.locals ≤ R.locals) (hrm : rm.cells = mc ∧ rm.slots = ms) (hP : P H) (hA1 : ∀ q, A1 q → A q) (hn : As.length = n) {st0 : List Value} (hst0 : st0 = As.reverse ++ rest) (hcat : (rest.map fun v => v.category).sum ≤ 8) (hdg : decode cc pc = .ok (.invokestatic index, 3)) (hroom : cells + mc ≤ R.cells ∧ slots + ms ≤ R.slots) (hst : rv.toList ++ rest = st1) (kk : ∀ H1 : Heap, P1 H1 → H.size ≤ H1.size → (∀ q : Nat, q < H.size → ¬ A1 q → H1[q]? = H[q]?) → Yx A p l e R s m args below meth c nL (cells + mc) (slots + ms) Q lv H1 (pc + 3) st1) : Yx A p l e R s m args below meth c nL cells slots Q lv H pc st0 := by
  subst hst0
  intro ls locs hl hS
  exact y_goes hl (va_runS (As := As) (rest := rest) ⟨C.1, C.2.1, C.2.2.1, C.2.2.2.1, C.2.2.2.2.1⟩ hM (va_cwS n C.2.2.2.2.1 (lwG hw) rfl hrm.1 hrm.2 hd hR) ⟨preB, preU C.2.2.2.2.2.1 C.2.2.2.2.2.2.1 hS hA1 hP⟩ rfl hn hl.1 rfl (lv_room hcat) hdg hroom) hS hA1 hst kk
theorem y_callI (C : Cx g B0 A p s m args meth c cc nL own) {y : MethodName} {cy : ByteArray} {nY : Nat} {rm : Room} {A1 : Nat → Prop} {P P1 : Heap → Prop} {mc ms index : Nat} {b : Nat} (hM : Mt g B0 l y cy nY none rm [.ref b] A1 P none P1 mc ms) (hw1 : Cond.methodLink own index y ∈ wsL_law) (hw2 : Cond.instanceMethod y ∈ wsL_law) (hw3 : Cond.initialized y.cls ∈ wsL_law) (hw4 : Cond.code y cy nY none ∈ wsL_law) (hy : y.name = "<init>") (hd : y.cls ≠ "java/lang/invoke/MethodHandle" ∧ y.cls ≠ "java/lang/invoke/VarHandle" ∧ (parseMethodDescriptor y.desc).map (fun d => d.parameters.length) = some 0) (hR : rm.frames + 1 ≤ R.frames ∧ 8 + (nY + 11) + rm.locals ≤ R.locals) (hrm : rm.cells = mc ∧ rm.slots = ms) (hP : P H) (hA1 : ∀ q, A1 q → A q) (hcat : (rest.map fun v => v.category).sum ≤ 8) (hdg : decode cc pc = .ok (.invokespecial index, 3)) (hroom : cells + mc ≤ R.cells ∧ slots + ms ≤ R.slots) (kk : ∀ H1 : Heap, P1 H1 → H.size ≤ H1.size → (∀ q : Nat, q < H.size → ¬ A1 q → H1[q]? = H[q]?) → Yx A p l e R s m args below meth c nL (cells + mc) (slots + ms) Q lv H1 (pc + 3) rest) : Yx A p l e R s m args below meth c nL cells slots Q lv H pc (.ref b :: rest) := by
  intro ls locs hl hS
  have hG : ∀ w ∈ (.code y cy nY none :: wsL_law : List Cond), w ∈ wsL_law := fun w h => (List.mem_cons.mp h).elim (fun e => e ▸ hw4) id
  exact y_goes (rest := rest) hl (va_runI (As := []) (rest := rest) ⟨C.1, C.2.1, C.2.2.1, C.2.2.2.1, C.2.2.2.2.1⟩ hM (cwI 0 C.2.2.2.2.1 (lwG hG) rfl hrm.1 hrm.2 (C.2.2.2.2.1 _ hw3) (C.2.2.2.2.1 _ hw1) (C.2.2.2.2.1 _ hw2) hy hd hR) ⟨preB, preU C.2.2.2.2.2.1 C.2.2.2.2.2.2.1 hS hA1 hP⟩ rfl rfl hl.1 rfl (lv_room hcat) hdg hroom) hS hA1 rfl kk
theorem wVin {own Cn : String} {index : Nat} {y : MethodName} {cy : ByteArray} {nY : Nat} {ret : Option FieldType} (h1 : Cond.methodLink own index y ∈ wsL_law) (h2 : Cond.instanceMethod y ∈ wsL_law) (h3 : Cond.selects Cn y y ∈ wsL_law) (h4 : Cond.initialized Cn ∈ wsL_law) (h5 : Cond.code y cy nY ret ∈ wsL_law) : ∀ w ∈ wsV own index Cn y (.code y cy nY ret :: wsL_law), w ∈ wsL_law := by
  intro w hw
  unfold wsV at hw
  simp only [List.cons_append, List.nil_append, List.mem_cons] at hw
  rcases hw with rfl | rfl | rfl | rfl | rfl | hw
  · exact h1
  · exact h2
  · exact h3
  · exact h4
  · exact h5
  · exact hw
theorem wSin {own : String} {index : Nat} {y : MethodName} {cy : ByteArray} {nY : Nat} {ret : Option FieldType} (h1 : Cond.methodLink own index y ∈ wsL_law) (h2 : Cond.static y ∈ wsL_law) (h4 : Cond.initialized y.cls ∈ wsL_law) (h5 : Cond.code y cy nY ret ∈ wsL_law) : ∀ w ∈ va_wsS own index y (.code y cy nY ret :: wsL_law), w ∈ wsL_law := by
  intro w hw
  unfold va_wsS at hw
  simp only [List.cons_append, List.nil_append, List.mem_cons] at hw
  rcases hw with rfl | rfl | rfl | rfl | hw
  · exact h1
  · exact h2
  · exact h4
  · exact h5
  · exact hw
end ROWS2
/-- the receiver of a call -/
theorem rcv {g : KG} {B0 : Nat} {s : State} {H H' : Heap} {a ci : Nat} {r : vw_C} {fs : List Value} (hE : env g B0 s H') (h : cA1 g a (.inr (ci, fs)) H) (hc : vwCl[ci]? = some r) : ∃ cell : Cell, H[a]? = some cell ∧ cell.vm.isStatics = false ∧ s.vm.findClass r.1 = some cell.cls := va_recv hE.1 (cA1P h) hc (q0 := 0) (ci := ci) rfl
/-- the entry of a method -/
theorem Mt_of {g : KG} {B0 : Nat} {l : Launch} {y : MethodName} {cy : ByteArray} {nY : Nat} {ret : Option FieldType} {rm : Room} {av : List Value} {A : Nat → Prop} {P : Heap → Prop} {rv : Option Value} {P1 : Heap → Prop} {mc ms : Nat} (own : String) (hy : plainName y.cls = true) (hown : y.cls = own) (lv0 : List (Nat × Value)) (hlv : lv_args 0 av = lv0) (hlen : (lg_sl av).length ≤ nY)
  (body : ∀ p e s m args below meth c, Cx g B0 A p s m args meth c cy nY own → meth.sig.returnType = ret → (y.name = "<init>" → meth.name = "<init>") → P s.heap → Yx A p l e rm s m args below meth c nY 0 0 (MQ below (Qx rv P1 A) args s mc ms A) lv0 s.heap 0 []) : Mt g B0 l y cy nY ret rm av A P rv P1 mc ms := by
  refine Met.ofW (cc := cy) (maxL := nY) (ret := ret) hy rfl ?_
  intro p e s m args below meth c s₁ B hml hv
  obtain ⟨rfl, hAB, hE, hP⟩ := hv
  have hts := atoms_spec (ws := .code y cy nY ret :: wsL_law) B.pre
  have hown' : s.vm.findClass own = some m.cls := by rw [← hown]; exact findClass_of_methodNamed B.named
  have hn : y.name = "<init>" → meth.name = "<init>" := fun h => by rw [(name_of_methodNamed B.named B.method).1]; exact h
  have hl := lv_entry av (n := nY) hlen
  rw [hlv] at hl
  rw [lg_entry_eq]
  exact body p e s m av.toArray below meth c ⟨B.exec, B.bytes, hml, hown', fun w h => hts w (List.mem_cons_of_mem _ h), hE, hAB, B.notSynchronized⟩ B.returns hn hP _ [] hl va_S.rf
end
section
/-! A DESK: 21 cells from the address a on. 0 Desk, 1 rates, 2 numbers, 3 Store, 4 price, 5 lead, 6 stock, 7 reserved, 8 orderPart, 9 orderMany, 10 orderDay, 11 Sets, 12 fault, 13 came, 14 estimate, 15 worked, 16 bill, 17 loaner, 18 state, 19 ready, 20 Books. d.1 i k: cell i, place k (0 0 day, 3 0 orders, 11 0 many, 20 0 .. 5 the books); d.2: the rates -/
abbrev DV : Type := (Nat → Nat → Int32) × (Nat → UInt32)
def dset (d : DV) (i k : Nat) (x : Int32) : DV := (fun j => if j = i then upd (d.1 i) k x else d.1 j, d.2)
def rset (d : DV) (k : Nat) (x : UInt32) : DV := (d.1, vf_upd d.2 k x)
def dkc (g : KG) (a : Nat) (d : DV) (i : Nat) : va_E := match i with
  | 0 => .inr (2, [.int (d.1 0 0), .ref (a + 1), .ref (a + 2), .ref (a + 3), .ref (a + 11), .ref (a + 20)])
  | 1 => .inl (g.2 1, 4, .inr (.inr (.inl d.2)))
  | 2 => .inl (g.2 0, 5, .inl (d.1 2))
  | 3 => .inr (5, [.ref (a + 4), .ref (a + 5), .ref (a + 6), .ref (a + 7), .int (d.1 3 0), .ref (a + 8), .ref (a + 9), .ref (a + 10)])
  | 4 => .inl (g.2 0, 6, .inl (d.1 4))
  | 5 => .inl (g.2 0, 6, .inl (d.1 5))
  | 6 => .inl (g.2 0, 6, .inl (d.1 6))
  | 7 => .inl (g.2 0, 6, .inl (d.1 7))
  | 8 => .inl (g.2 0, 12, .inl (d.1 8))
  | 9 => .inl (g.2 0, 12, .inl (d.1 9))
  | 10 => .inl (g.2 0, 12, .inl (d.1 10))
  | 11 => .inr (4, [.int (d.1 11 0), .ref (a + 12), .ref (a + 13), .ref (a + 14), .ref (a + 15), .ref (a + 16), .ref (a + 17), .ref (a + 18), .ref (a + 19)])
  | 12 => .inl (g.2 0, 20, .inl (d.1 12))
  | 13 => .inl (g.2 0, 20, .inl (d.1 13))
  | 14 => .inl (g.2 0, 20, .inl (d.1 14))
  | 15 => .inl (g.2 0, 20, .inl (d.1 15))
  | 16 => .inl (g.2 0, 20, .inl (d.1 16))
  | 17 => .inl (g.2 0, 20, .inl (d.1 17))
  | 18 => .inl (g.2 0, 20, .inl (d.1 18))
  | 19 => .inl (g.2 0, 20, .inl (d.1 19))
  | _ => .inr (1, [.int (d.1 20 0), .int (d.1 20 1), .int (d.1 20 2), .int (d.1 20 3), .int (d.1 20 4), .int (d.1 20 5)])
/-- the heap holds the desk d at the address a -/
def dk (g : KG) (a : Nat) (d : DV) (H : Heap) : Prop := ∀ i, i < 21 → cA1 g (a + i) (dkc g a d i) H
def iv (a n : Nat) : Nat → Prop := fun q => a ≤ q ∧ q < a + n
theorem ivm {a n : Nat} (i : Nat) (h : i < n) : iv a n (a + i) := ⟨Nat.le_add_right _ _, Nat.add_lt_add_left h _⟩
theorem dk.kept {g : KG} {a : Nat} {d : DV} {H H1 : Heap} (h : dk g a d H) (hq : ∀ q, iv a 21 q → H1[q]? = H[q]?) : dk g a d H1 := fun i hi => (h i hi).kept (hq _ (ivm i hi))
theorem dk.lt {g : KG} {a : Nat} {d : DV} {H : Heap} (h : dk g a d H) : a + 20 < H.size := (h 20 (by decide)).lt
theorem dk_0 {g : KG} {a : Nat} {d : DV} {H : Heap} (h : dk g a d H) : cA1 g a (.inr (2, [.int (d.1 0 0), .ref (a + 1), .ref (a + 2), .ref (a + 3), .ref (a + 11), .ref (a + 20)])) H := h 0 (by decide)
theorem dk_1 {g : KG} {a : Nat} {d : DV} {H : Heap} (h : dk g a d H) : cA1 g (a + 1) (.inl (g.2 1, 4, .inr (.inr (.inl d.2)))) H := h 1 (by decide)
theorem dk_2 {g : KG} {a : Nat} {d : DV} {H : Heap} (h : dk g a d H) : cA1 g (a + 2) (.inl (g.2 0, 5, .inl (d.1 2))) H := h 2 (by decide)
theorem dk_3 {g : KG} {a : Nat} {d : DV} {H : Heap} (h : dk g a d H) : cA1 g (a + 3) (.inr (5, [.ref (a + 4), .ref (a + 5), .ref (a + 6), .ref (a + 7), .int (d.1 3 0), .ref (a + 8), .ref (a + 9), .ref (a + 10)])) H := h 3 (by decide)
theorem dk_4 {g : KG} {a : Nat} {d : DV} {H : Heap} (h : dk g a d H) : cA1 g (a + 4) (.inl (g.2 0, 6, .inl (d.1 4))) H := h 4 (by decide)
theorem dk_5 {g : KG} {a : Nat} {d : DV} {H : Heap} (h : dk g a d H) : cA1 g (a + 5) (.inl (g.2 0, 6, .inl (d.1 5))) H := h 5 (by decide)
theorem dk_6 {g : KG} {a : Nat} {d : DV} {H : Heap} (h : dk g a d H) : cA1 g (a + 6) (.inl (g.2 0, 6, .inl (d.1 6))) H := h 6 (by decide)
theorem dk_7 {g : KG} {a : Nat} {d : DV} {H : Heap} (h : dk g a d H) : cA1 g (a + 7) (.inl (g.2 0, 6, .inl (d.1 7))) H := h 7 (by decide)
theorem dk_8 {g : KG} {a : Nat} {d : DV} {H : Heap} (h : dk g a d H) : cA1 g (a + 8) (.inl (g.2 0, 12, .inl (d.1 8))) H := h 8 (by decide)
theorem dk_9 {g : KG} {a : Nat} {d : DV} {H : Heap} (h : dk g a d H) : cA1 g (a + 9) (.inl (g.2 0, 12, .inl (d.1 9))) H := h 9 (by decide)
theorem dk_10 {g : KG} {a : Nat} {d : DV} {H : Heap} (h : dk g a d H) : cA1 g (a + 10) (.inl (g.2 0, 12, .inl (d.1 10))) H := h 10 (by decide)
theorem dk_11 {g : KG} {a : Nat} {d : DV} {H : Heap} (h : dk g a d H) : cA1 g (a + 11) (.inr (4, [.int (d.1 11 0), .ref (a + 12), .ref (a + 13), .ref (a + 14), .ref (a + 15), .ref (a + 16), .ref (a + 17), .ref (a + 18), .ref (a + 19)])) H := h 11 (by decide)
theorem dk_12 {g : KG} {a : Nat} {d : DV} {H : Heap} (h : dk g a d H) : cA1 g (a + 12) (.inl (g.2 0, 20, .inl (d.1 12))) H := h 12 (by decide)
theorem dk_13 {g : KG} {a : Nat} {d : DV} {H : Heap} (h : dk g a d H) : cA1 g (a + 13) (.inl (g.2 0, 20, .inl (d.1 13))) H := h 13 (by decide)
theorem dk_14 {g : KG} {a : Nat} {d : DV} {H : Heap} (h : dk g a d H) : cA1 g (a + 14) (.inl (g.2 0, 20, .inl (d.1 14))) H := h 14 (by decide)
theorem dk_15 {g : KG} {a : Nat} {d : DV} {H : Heap} (h : dk g a d H) : cA1 g (a + 15) (.inl (g.2 0, 20, .inl (d.1 15))) H := h 15 (by decide)
theorem dk_16 {g : KG} {a : Nat} {d : DV} {H : Heap} (h : dk g a d H) : cA1 g (a + 16) (.inl (g.2 0, 20, .inl (d.1 16))) H := h 16 (by decide)
theorem dk_17 {g : KG} {a : Nat} {d : DV} {H : Heap} (h : dk g a d H) : cA1 g (a + 17) (.inl (g.2 0, 20, .inl (d.1 17))) H := h 17 (by decide)
theorem dk_18 {g : KG} {a : Nat} {d : DV} {H : Heap} (h : dk g a d H) : cA1 g (a + 18) (.inl (g.2 0, 20, .inl (d.1 18))) H := h 18 (by decide)
theorem dk_19 {g : KG} {a : Nat} {d : DV} {H : Heap} (h : dk g a d H) : cA1 g (a + 19) (.inl (g.2 0, 20, .inl (d.1 19))) H := h 19 (by decide)
theorem dk_20 {g : KG} {a : Nat} {d : DV} {H : Heap} (h : dk g a d H) : cA1 g (a + 20) (.inr (1, [.int (d.1 20 0), .int (d.1 20 1), .int (d.1 20 2), .int (d.1 20 3), .int (d.1 20 4), .int (d.1 20 5)])) H := h 20 (by decide)
theorem dk_set1 {g : KG} {a : Nat} {d : DV} {H H1 : Heap} {k : Nat} {x : UInt32} (h : dk g a d H) (h1 : cA1 g (a + 1) (.inl (g.2 1, 4, .inr (.inr (.inl (vf_upd d.2 k x))))) H1) (o1 : ∀ q : Nat, q ≠ (a + 1) → H1[q]? = H[q]?) : dk g a (rset d k x) H1 := by
  intro i hi
  by_cases hx : i = 1
  · subst hx; exact h1
  · refine va_at.kept (H := H) ?_ (o1 (a + i) (by omega))
    have e : dkc g a (rset d k x) i = dkc g a d i := by
      match i, hi, hx with
      | 0, _, _ => rfl
      | 1, _, hx => exact absurd rfl hx
      | 2, _, _ => rfl
      | 3, _, _ => rfl
      | 4, _, _ => rfl
      | 5, _, _ => rfl
      | 6, _, _ => rfl
      | 7, _, _ => rfl
      | 8, _, _ => rfl
      | 9, _, _ => rfl
      | 10, _, _ => rfl
      | 11, _, _ => rfl
      | 12, _, _ => rfl
      | 13, _, _ => rfl
      | 14, _, _ => rfl
      | 15, _, _ => rfl
      | 16, _, _ => rfl
      | 17, _, _ => rfl
      | 18, _, _ => rfl
      | 19, _, _ => rfl
      | 20, _, _ => rfl
      | n + 21, hi, _ => exact absurd hi (by omega)
    show cA1 g (a + i) _ H
    rw [e]
    exact h i hi
theorem dk_set2 {g : KG} {a : Nat} {d : DV} {H H1 : Heap} {k : Nat} {x : Int32} (h : dk g a d H) (h1 : cA1 g (a + 2) (.inl (g.2 0, 5, .inl (upd (d.1 2) k x))) H1) (o1 : ∀ q : Nat, q ≠ (a + 2) → H1[q]? = H[q]?) : dk g a (dset d 2 k x) H1 := by
  intro i hi
  by_cases hx : i = 2
  · subst hx; exact h1
  · refine va_at.kept (H := H) ?_ (o1 (a + i) (by omega))
    have e : dkc g a (dset d 2 k x) i = dkc g a d i := by
      match i, hi, hx with
      | 0, _, _ => rfl
      | 1, _, _ => rfl
      | 2, _, hx => exact absurd rfl hx
      | 3, _, _ => rfl
      | 4, _, _ => rfl
      | 5, _, _ => rfl
      | 6, _, _ => rfl
      | 7, _, _ => rfl
      | 8, _, _ => rfl
      | 9, _, _ => rfl
      | 10, _, _ => rfl
      | 11, _, _ => rfl
      | 12, _, _ => rfl
      | 13, _, _ => rfl
      | 14, _, _ => rfl
      | 15, _, _ => rfl
      | 16, _, _ => rfl
      | 17, _, _ => rfl
      | 18, _, _ => rfl
      | 19, _, _ => rfl
      | 20, _, _ => rfl
      | n + 21, hi, _ => exact absurd hi (by omega)
    show cA1 g (a + i) _ H
    rw [e]
    exact h i hi
theorem dk_set4 {g : KG} {a : Nat} {d : DV} {H H1 : Heap} {k : Nat} {x : Int32} (h : dk g a d H) (h1 : cA1 g (a + 4) (.inl (g.2 0, 6, .inl (upd (d.1 4) k x))) H1) (o1 : ∀ q : Nat, q ≠ (a + 4) → H1[q]? = H[q]?) : dk g a (dset d 4 k x) H1 := by
  intro i hi
  by_cases hx : i = 4
  · subst hx; exact h1
  · refine va_at.kept (H := H) ?_ (o1 (a + i) (by omega))
    have e : dkc g a (dset d 4 k x) i = dkc g a d i := by
      match i, hi, hx with
      | 0, _, _ => rfl
      | 1, _, _ => rfl
      | 2, _, _ => rfl
      | 3, _, _ => rfl
      | 4, _, hx => exact absurd rfl hx
      | 5, _, _ => rfl
      | 6, _, _ => rfl
      | 7, _, _ => rfl
      | 8, _, _ => rfl
      | 9, _, _ => rfl
      | 10, _, _ => rfl
      | 11, _, _ => rfl
      | 12, _, _ => rfl
      | 13, _, _ => rfl
      | 14, _, _ => rfl
      | 15, _, _ => rfl
      | 16, _, _ => rfl
      | 17, _, _ => rfl
      | 18, _, _ => rfl
      | 19, _, _ => rfl
      | 20, _, _ => rfl
      | n + 21, hi, _ => exact absurd hi (by omega)
    show cA1 g (a + i) _ H
    rw [e]
    exact h i hi
theorem dk_set5 {g : KG} {a : Nat} {d : DV} {H H1 : Heap} {k : Nat} {x : Int32} (h : dk g a d H) (h1 : cA1 g (a + 5) (.inl (g.2 0, 6, .inl (upd (d.1 5) k x))) H1) (o1 : ∀ q : Nat, q ≠ (a + 5) → H1[q]? = H[q]?) : dk g a (dset d 5 k x) H1 := by
  intro i hi
  by_cases hx : i = 5
  · subst hx; exact h1
  · refine va_at.kept (H := H) ?_ (o1 (a + i) (by omega))
    have e : dkc g a (dset d 5 k x) i = dkc g a d i := by
      match i, hi, hx with
      | 0, _, _ => rfl
      | 1, _, _ => rfl
      | 2, _, _ => rfl
      | 3, _, _ => rfl
      | 4, _, _ => rfl
      | 5, _, hx => exact absurd rfl hx
      | 6, _, _ => rfl
      | 7, _, _ => rfl
      | 8, _, _ => rfl
      | 9, _, _ => rfl
      | 10, _, _ => rfl
      | 11, _, _ => rfl
      | 12, _, _ => rfl
      | 13, _, _ => rfl
      | 14, _, _ => rfl
      | 15, _, _ => rfl
      | 16, _, _ => rfl
      | 17, _, _ => rfl
      | 18, _, _ => rfl
      | 19, _, _ => rfl
      | 20, _, _ => rfl
      | n + 21, hi, _ => exact absurd hi (by omega)
    show cA1 g (a + i) _ H
    rw [e]
    exact h i hi
theorem dk_set6 {g : KG} {a : Nat} {d : DV} {H H1 : Heap} {k : Nat} {x : Int32} (h : dk g a d H) (h1 : cA1 g (a + 6) (.inl (g.2 0, 6, .inl (upd (d.1 6) k x))) H1) (o1 : ∀ q : Nat, q ≠ (a + 6) → H1[q]? = H[q]?) : dk g a (dset d 6 k x) H1 := by
  intro i hi
  by_cases hx : i = 6
  · subst hx; exact h1
  · refine va_at.kept (H := H) ?_ (o1 (a + i) (by omega))
    have e : dkc g a (dset d 6 k x) i = dkc g a d i := by
      match i, hi, hx with
      | 0, _, _ => rfl
      | 1, _, _ => rfl
      | 2, _, _ => rfl
      | 3, _, _ => rfl
      | 4, _, _ => rfl
      | 5, _, _ => rfl
      | 6, _, hx => exact absurd rfl hx
      | 7, _, _ => rfl
      | 8, _, _ => rfl
      | 9, _, _ => rfl
      | 10, _, _ => rfl
      | 11, _, _ => rfl
      | 12, _, _ => rfl
      | 13, _, _ => rfl
      | 14, _, _ => rfl
      | 15, _, _ => rfl
      | 16, _, _ => rfl
      | 17, _, _ => rfl
      | 18, _, _ => rfl
      | 19, _, _ => rfl
      | 20, _, _ => rfl
      | n + 21, hi, _ => exact absurd hi (by omega)
    show cA1 g (a + i) _ H
    rw [e]
    exact h i hi
theorem dk_set7 {g : KG} {a : Nat} {d : DV} {H H1 : Heap} {k : Nat} {x : Int32} (h : dk g a d H) (h1 : cA1 g (a + 7) (.inl (g.2 0, 6, .inl (upd (d.1 7) k x))) H1) (o1 : ∀ q : Nat, q ≠ (a + 7) → H1[q]? = H[q]?) : dk g a (dset d 7 k x) H1 := by
  intro i hi
  by_cases hx : i = 7
  · subst hx; exact h1
  · refine va_at.kept (H := H) ?_ (o1 (a + i) (by omega))
    have e : dkc g a (dset d 7 k x) i = dkc g a d i := by
      match i, hi, hx with
      | 0, _, _ => rfl
      | 1, _, _ => rfl
      | 2, _, _ => rfl
      | 3, _, _ => rfl
      | 4, _, _ => rfl
      | 5, _, _ => rfl
      | 6, _, _ => rfl
      | 7, _, hx => exact absurd rfl hx
      | 8, _, _ => rfl
      | 9, _, _ => rfl
      | 10, _, _ => rfl
      | 11, _, _ => rfl
      | 12, _, _ => rfl
      | 13, _, _ => rfl
      | 14, _, _ => rfl
      | 15, _, _ => rfl
      | 16, _, _ => rfl
      | 17, _, _ => rfl
      | 18, _, _ => rfl
      | 19, _, _ => rfl
      | 20, _, _ => rfl
      | n + 21, hi, _ => exact absurd hi (by omega)
    show cA1 g (a + i) _ H
    rw [e]
    exact h i hi
theorem dk_set8 {g : KG} {a : Nat} {d : DV} {H H1 : Heap} {k : Nat} {x : Int32} (h : dk g a d H) (h1 : cA1 g (a + 8) (.inl (g.2 0, 12, .inl (upd (d.1 8) k x))) H1) (o1 : ∀ q : Nat, q ≠ (a + 8) → H1[q]? = H[q]?) : dk g a (dset d 8 k x) H1 := by
  intro i hi
  by_cases hx : i = 8
  · subst hx; exact h1
  · refine va_at.kept (H := H) ?_ (o1 (a + i) (by omega))
    have e : dkc g a (dset d 8 k x) i = dkc g a d i := by
      match i, hi, hx with
      | 0, _, _ => rfl
      | 1, _, _ => rfl
      | 2, _, _ => rfl
      | 3, _, _ => rfl
      | 4, _, _ => rfl
      | 5, _, _ => rfl
      | 6, _, _ => rfl
      | 7, _, _ => rfl
      | 8, _, hx => exact absurd rfl hx
      | 9, _, _ => rfl
      | 10, _, _ => rfl
      | 11, _, _ => rfl
      | 12, _, _ => rfl
      | 13, _, _ => rfl
      | 14, _, _ => rfl
      | 15, _, _ => rfl
      | 16, _, _ => rfl
      | 17, _, _ => rfl
      | 18, _, _ => rfl
      | 19, _, _ => rfl
      | 20, _, _ => rfl
      | n + 21, hi, _ => exact absurd hi (by omega)
    show cA1 g (a + i) _ H
    rw [e]
    exact h i hi
theorem dk_set9 {g : KG} {a : Nat} {d : DV} {H H1 : Heap} {k : Nat} {x : Int32} (h : dk g a d H) (h1 : cA1 g (a + 9) (.inl (g.2 0, 12, .inl (upd (d.1 9) k x))) H1) (o1 : ∀ q : Nat, q ≠ (a + 9) → H1[q]? = H[q]?) : dk g a (dset d 9 k x) H1 := by
  intro i hi
  by_cases hx : i = 9
  · subst hx; exact h1
  · refine va_at.kept (H := H) ?_ (o1 (a + i) (by omega))
    have e : dkc g a (dset d 9 k x) i = dkc g a d i := by
      match i, hi, hx with
      | 0, _, _ => rfl
      | 1, _, _ => rfl
      | 2, _, _ => rfl
      | 3, _, _ => rfl
      | 4, _, _ => rfl
      | 5, _, _ => rfl
      | 6, _, _ => rfl
      | 7, _, _ => rfl
      | 8, _, _ => rfl
      | 9, _, hx => exact absurd rfl hx
      | 10, _, _ => rfl
      | 11, _, _ => rfl
      | 12, _, _ => rfl
      | 13, _, _ => rfl
      | 14, _, _ => rfl
      | 15, _, _ => rfl
      | 16, _, _ => rfl
      | 17, _, _ => rfl
      | 18, _, _ => rfl
      | 19, _, _ => rfl
      | 20, _, _ => rfl
      | n + 21, hi, _ => exact absurd hi (by omega)
    show cA1 g (a + i) _ H
    rw [e]
    exact h i hi
theorem dk_set10 {g : KG} {a : Nat} {d : DV} {H H1 : Heap} {k : Nat} {x : Int32} (h : dk g a d H) (h1 : cA1 g (a + 10) (.inl (g.2 0, 12, .inl (upd (d.1 10) k x))) H1) (o1 : ∀ q : Nat, q ≠ (a + 10) → H1[q]? = H[q]?) : dk g a (dset d 10 k x) H1 := by
  intro i hi
  by_cases hx : i = 10
  · subst hx; exact h1
  · refine va_at.kept (H := H) ?_ (o1 (a + i) (by omega))
    have e : dkc g a (dset d 10 k x) i = dkc g a d i := by
      match i, hi, hx with
      | 0, _, _ => rfl
      | 1, _, _ => rfl
      | 2, _, _ => rfl
      | 3, _, _ => rfl
      | 4, _, _ => rfl
      | 5, _, _ => rfl
      | 6, _, _ => rfl
      | 7, _, _ => rfl
      | 8, _, _ => rfl
      | 9, _, _ => rfl
      | 10, _, hx => exact absurd rfl hx
      | 11, _, _ => rfl
      | 12, _, _ => rfl
      | 13, _, _ => rfl
      | 14, _, _ => rfl
      | 15, _, _ => rfl
      | 16, _, _ => rfl
      | 17, _, _ => rfl
      | 18, _, _ => rfl
      | 19, _, _ => rfl
      | 20, _, _ => rfl
      | n + 21, hi, _ => exact absurd hi (by omega)
    show cA1 g (a + i) _ H
    rw [e]
    exact h i hi
theorem dk_set12 {g : KG} {a : Nat} {d : DV} {H H1 : Heap} {k : Nat} {x : Int32} (h : dk g a d H) (h1 : cA1 g (a + 12) (.inl (g.2 0, 20, .inl (upd (d.1 12) k x))) H1) (o1 : ∀ q : Nat, q ≠ (a + 12) → H1[q]? = H[q]?) : dk g a (dset d 12 k x) H1 := by
  intro i hi
  by_cases hx : i = 12
  · subst hx; exact h1
  · refine va_at.kept (H := H) ?_ (o1 (a + i) (by omega))
    have e : dkc g a (dset d 12 k x) i = dkc g a d i := by
      match i, hi, hx with
      | 0, _, _ => rfl
      | 1, _, _ => rfl
      | 2, _, _ => rfl
      | 3, _, _ => rfl
      | 4, _, _ => rfl
      | 5, _, _ => rfl
      | 6, _, _ => rfl
      | 7, _, _ => rfl
      | 8, _, _ => rfl
      | 9, _, _ => rfl
      | 10, _, _ => rfl
      | 11, _, _ => rfl
      | 12, _, hx => exact absurd rfl hx
      | 13, _, _ => rfl
      | 14, _, _ => rfl
      | 15, _, _ => rfl
      | 16, _, _ => rfl
      | 17, _, _ => rfl
      | 18, _, _ => rfl
      | 19, _, _ => rfl
      | 20, _, _ => rfl
      | n + 21, hi, _ => exact absurd hi (by omega)
    show cA1 g (a + i) _ H
    rw [e]
    exact h i hi
theorem dk_set13 {g : KG} {a : Nat} {d : DV} {H H1 : Heap} {k : Nat} {x : Int32} (h : dk g a d H) (h1 : cA1 g (a + 13) (.inl (g.2 0, 20, .inl (upd (d.1 13) k x))) H1) (o1 : ∀ q : Nat, q ≠ (a + 13) → H1[q]? = H[q]?) : dk g a (dset d 13 k x) H1 := by
  intro i hi
  by_cases hx : i = 13
  · subst hx; exact h1
  · refine va_at.kept (H := H) ?_ (o1 (a + i) (by omega))
    have e : dkc g a (dset d 13 k x) i = dkc g a d i := by
      match i, hi, hx with
      | 0, _, _ => rfl
      | 1, _, _ => rfl
      | 2, _, _ => rfl
      | 3, _, _ => rfl
      | 4, _, _ => rfl
      | 5, _, _ => rfl
      | 6, _, _ => rfl
      | 7, _, _ => rfl
      | 8, _, _ => rfl
      | 9, _, _ => rfl
      | 10, _, _ => rfl
      | 11, _, _ => rfl
      | 12, _, _ => rfl
      | 13, _, hx => exact absurd rfl hx
      | 14, _, _ => rfl
      | 15, _, _ => rfl
      | 16, _, _ => rfl
      | 17, _, _ => rfl
      | 18, _, _ => rfl
      | 19, _, _ => rfl
      | 20, _, _ => rfl
      | n + 21, hi, _ => exact absurd hi (by omega)
    show cA1 g (a + i) _ H
    rw [e]
    exact h i hi
theorem dk_set14 {g : KG} {a : Nat} {d : DV} {H H1 : Heap} {k : Nat} {x : Int32} (h : dk g a d H) (h1 : cA1 g (a + 14) (.inl (g.2 0, 20, .inl (upd (d.1 14) k x))) H1) (o1 : ∀ q : Nat, q ≠ (a + 14) → H1[q]? = H[q]?) : dk g a (dset d 14 k x) H1 := by
  intro i hi
  by_cases hx : i = 14
  · subst hx; exact h1
  · refine va_at.kept (H := H) ?_ (o1 (a + i) (by omega))
    have e : dkc g a (dset d 14 k x) i = dkc g a d i := by
      match i, hi, hx with
      | 0, _, _ => rfl
      | 1, _, _ => rfl
      | 2, _, _ => rfl
      | 3, _, _ => rfl
      | 4, _, _ => rfl
      | 5, _, _ => rfl
      | 6, _, _ => rfl
      | 7, _, _ => rfl
      | 8, _, _ => rfl
      | 9, _, _ => rfl
      | 10, _, _ => rfl
      | 11, _, _ => rfl
      | 12, _, _ => rfl
      | 13, _, _ => rfl
      | 14, _, hx => exact absurd rfl hx
      | 15, _, _ => rfl
      | 16, _, _ => rfl
      | 17, _, _ => rfl
      | 18, _, _ => rfl
      | 19, _, _ => rfl
      | 20, _, _ => rfl
      | n + 21, hi, _ => exact absurd hi (by omega)
    show cA1 g (a + i) _ H
    rw [e]
    exact h i hi
theorem dk_set15 {g : KG} {a : Nat} {d : DV} {H H1 : Heap} {k : Nat} {x : Int32} (h : dk g a d H) (h1 : cA1 g (a + 15) (.inl (g.2 0, 20, .inl (upd (d.1 15) k x))) H1) (o1 : ∀ q : Nat, q ≠ (a + 15) → H1[q]? = H[q]?) : dk g a (dset d 15 k x) H1 := by
  intro i hi
  by_cases hx : i = 15
  · subst hx; exact h1
  · refine va_at.kept (H := H) ?_ (o1 (a + i) (by omega))
    have e : dkc g a (dset d 15 k x) i = dkc g a d i := by
      match i, hi, hx with
      | 0, _, _ => rfl
      | 1, _, _ => rfl
      | 2, _, _ => rfl
      | 3, _, _ => rfl
      | 4, _, _ => rfl
      | 5, _, _ => rfl
      | 6, _, _ => rfl
      | 7, _, _ => rfl
      | 8, _, _ => rfl
      | 9, _, _ => rfl
      | 10, _, _ => rfl
      | 11, _, _ => rfl
      | 12, _, _ => rfl
      | 13, _, _ => rfl
      | 14, _, _ => rfl
      | 15, _, hx => exact absurd rfl hx
      | 16, _, _ => rfl
      | 17, _, _ => rfl
      | 18, _, _ => rfl
      | 19, _, _ => rfl
      | 20, _, _ => rfl
      | n + 21, hi, _ => exact absurd hi (by omega)
    show cA1 g (a + i) _ H
    rw [e]
    exact h i hi
theorem dk_set16 {g : KG} {a : Nat} {d : DV} {H H1 : Heap} {k : Nat} {x : Int32} (h : dk g a d H) (h1 : cA1 g (a + 16) (.inl (g.2 0, 20, .inl (upd (d.1 16) k x))) H1) (o1 : ∀ q : Nat, q ≠ (a + 16) → H1[q]? = H[q]?) : dk g a (dset d 16 k x) H1 := by
  intro i hi
  by_cases hx : i = 16
  · subst hx; exact h1
  · refine va_at.kept (H := H) ?_ (o1 (a + i) (by omega))
    have e : dkc g a (dset d 16 k x) i = dkc g a d i := by
      match i, hi, hx with
      | 0, _, _ => rfl
      | 1, _, _ => rfl
      | 2, _, _ => rfl
      | 3, _, _ => rfl
      | 4, _, _ => rfl
      | 5, _, _ => rfl
      | 6, _, _ => rfl
      | 7, _, _ => rfl
      | 8, _, _ => rfl
      | 9, _, _ => rfl
      | 10, _, _ => rfl
      | 11, _, _ => rfl
      | 12, _, _ => rfl
      | 13, _, _ => rfl
      | 14, _, _ => rfl
      | 15, _, _ => rfl
      | 16, _, hx => exact absurd rfl hx
      | 17, _, _ => rfl
      | 18, _, _ => rfl
      | 19, _, _ => rfl
      | 20, _, _ => rfl
      | n + 21, hi, _ => exact absurd hi (by omega)
    show cA1 g (a + i) _ H
    rw [e]
    exact h i hi
theorem dk_set17 {g : KG} {a : Nat} {d : DV} {H H1 : Heap} {k : Nat} {x : Int32} (h : dk g a d H) (h1 : cA1 g (a + 17) (.inl (g.2 0, 20, .inl (upd (d.1 17) k x))) H1) (o1 : ∀ q : Nat, q ≠ (a + 17) → H1[q]? = H[q]?) : dk g a (dset d 17 k x) H1 := by
  intro i hi
  by_cases hx : i = 17
  · subst hx; exact h1
  · refine va_at.kept (H := H) ?_ (o1 (a + i) (by omega))
    have e : dkc g a (dset d 17 k x) i = dkc g a d i := by
      match i, hi, hx with
      | 0, _, _ => rfl
      | 1, _, _ => rfl
      | 2, _, _ => rfl
      | 3, _, _ => rfl
      | 4, _, _ => rfl
      | 5, _, _ => rfl
      | 6, _, _ => rfl
      | 7, _, _ => rfl
      | 8, _, _ => rfl
      | 9, _, _ => rfl
      | 10, _, _ => rfl
      | 11, _, _ => rfl
      | 12, _, _ => rfl
      | 13, _, _ => rfl
      | 14, _, _ => rfl
      | 15, _, _ => rfl
      | 16, _, _ => rfl
      | 17, _, hx => exact absurd rfl hx
      | 18, _, _ => rfl
      | 19, _, _ => rfl
      | 20, _, _ => rfl
      | n + 21, hi, _ => exact absurd hi (by omega)
    show cA1 g (a + i) _ H
    rw [e]
    exact h i hi
theorem dk_set18 {g : KG} {a : Nat} {d : DV} {H H1 : Heap} {k : Nat} {x : Int32} (h : dk g a d H) (h1 : cA1 g (a + 18) (.inl (g.2 0, 20, .inl (upd (d.1 18) k x))) H1) (o1 : ∀ q : Nat, q ≠ (a + 18) → H1[q]? = H[q]?) : dk g a (dset d 18 k x) H1 := by
  intro i hi
  by_cases hx : i = 18
  · subst hx; exact h1
  · refine va_at.kept (H := H) ?_ (o1 (a + i) (by omega))
    have e : dkc g a (dset d 18 k x) i = dkc g a d i := by
      match i, hi, hx with
      | 0, _, _ => rfl
      | 1, _, _ => rfl
      | 2, _, _ => rfl
      | 3, _, _ => rfl
      | 4, _, _ => rfl
      | 5, _, _ => rfl
      | 6, _, _ => rfl
      | 7, _, _ => rfl
      | 8, _, _ => rfl
      | 9, _, _ => rfl
      | 10, _, _ => rfl
      | 11, _, _ => rfl
      | 12, _, _ => rfl
      | 13, _, _ => rfl
      | 14, _, _ => rfl
      | 15, _, _ => rfl
      | 16, _, _ => rfl
      | 17, _, _ => rfl
      | 18, _, hx => exact absurd rfl hx
      | 19, _, _ => rfl
      | 20, _, _ => rfl
      | n + 21, hi, _ => exact absurd hi (by omega)
    show cA1 g (a + i) _ H
    rw [e]
    exact h i hi
theorem dk_set19 {g : KG} {a : Nat} {d : DV} {H H1 : Heap} {k : Nat} {x : Int32} (h : dk g a d H) (h1 : cA1 g (a + 19) (.inl (g.2 0, 20, .inl (upd (d.1 19) k x))) H1) (o1 : ∀ q : Nat, q ≠ (a + 19) → H1[q]? = H[q]?) : dk g a (dset d 19 k x) H1 := by
  intro i hi
  by_cases hx : i = 19
  · subst hx; exact h1
  · refine va_at.kept (H := H) ?_ (o1 (a + i) (by omega))
    have e : dkc g a (dset d 19 k x) i = dkc g a d i := by
      match i, hi, hx with
      | 0, _, _ => rfl
      | 1, _, _ => rfl
      | 2, _, _ => rfl
      | 3, _, _ => rfl
      | 4, _, _ => rfl
      | 5, _, _ => rfl
      | 6, _, _ => rfl
      | 7, _, _ => rfl
      | 8, _, _ => rfl
      | 9, _, _ => rfl
      | 10, _, _ => rfl
      | 11, _, _ => rfl
      | 12, _, _ => rfl
      | 13, _, _ => rfl
      | 14, _, _ => rfl
      | 15, _, _ => rfl
      | 16, _, _ => rfl
      | 17, _, _ => rfl
      | 18, _, _ => rfl
      | 19, _, hx => exact absurd rfl hx
      | 20, _, _ => rfl
      | n + 21, hi, _ => exact absurd hi (by omega)
    show cA1 g (a + i) _ H
    rw [e]
    exact h i hi
theorem dk_put0_0 {g : KG} {a : Nat} {d : DV} {H H1 : Heap} {x : Int32} (h : dk g a d H) (h1 : cA1 g a (.inr (2, [.int x, .ref (a + 1), .ref (a + 2), .ref (a + 3), .ref (a + 11), .ref (a + 20)])) H1) (o1 : ∀ q : Nat, q ≠ a → H1[q]? = H[q]?) : dk g a (dset d 0 0 x) H1 := by
  intro i hi
  by_cases hx : i = 0
  · subst hx; exact h1
  · refine va_at.kept (H := H) ?_ (o1 (a + i) (by omega))
    have e : dkc g a (dset d 0 0 x) i = dkc g a d i := by
      match i, hi, hx with
      | 0, _, hx => exact absurd rfl hx
      | 1, _, _ => rfl
      | 2, _, _ => rfl
      | 3, _, _ => rfl
      | 4, _, _ => rfl
      | 5, _, _ => rfl
      | 6, _, _ => rfl
      | 7, _, _ => rfl
      | 8, _, _ => rfl
      | 9, _, _ => rfl
      | 10, _, _ => rfl
      | 11, _, _ => rfl
      | 12, _, _ => rfl
      | 13, _, _ => rfl
      | 14, _, _ => rfl
      | 15, _, _ => rfl
      | 16, _, _ => rfl
      | 17, _, _ => rfl
      | 18, _, _ => rfl
      | 19, _, _ => rfl
      | 20, _, _ => rfl
      | n + 21, hi, _ => exact absurd hi (by omega)
    show cA1 g (a + i) _ H
    rw [e]
    exact h i hi
theorem dk_put3_4 {g : KG} {a : Nat} {d : DV} {H H1 : Heap} {x : Int32} (h : dk g a d H) (h1 : cA1 g (a + 3) (.inr (5, [.ref (a + 4), .ref (a + 5), .ref (a + 6), .ref (a + 7), .int x, .ref (a + 8), .ref (a + 9), .ref (a + 10)])) H1) (o1 : ∀ q : Nat, q ≠ (a + 3) → H1[q]? = H[q]?) : dk g a (dset d 3 0 x) H1 := by
  intro i hi
  by_cases hx : i = 3
  · subst hx; exact h1
  · refine va_at.kept (H := H) ?_ (o1 (a + i) (by omega))
    have e : dkc g a (dset d 3 0 x) i = dkc g a d i := by
      match i, hi, hx with
      | 0, _, _ => rfl
      | 1, _, _ => rfl
      | 2, _, _ => rfl
      | 3, _, hx => exact absurd rfl hx
      | 4, _, _ => rfl
      | 5, _, _ => rfl
      | 6, _, _ => rfl
      | 7, _, _ => rfl
      | 8, _, _ => rfl
      | 9, _, _ => rfl
      | 10, _, _ => rfl
      | 11, _, _ => rfl
      | 12, _, _ => rfl
      | 13, _, _ => rfl
      | 14, _, _ => rfl
      | 15, _, _ => rfl
      | 16, _, _ => rfl
      | 17, _, _ => rfl
      | 18, _, _ => rfl
      | 19, _, _ => rfl
      | 20, _, _ => rfl
      | n + 21, hi, _ => exact absurd hi (by omega)
    show cA1 g (a + i) _ H
    rw [e]
    exact h i hi
theorem dk_put11_0 {g : KG} {a : Nat} {d : DV} {H H1 : Heap} {x : Int32} (h : dk g a d H) (h1 : cA1 g (a + 11) (.inr (4, [.int x, .ref (a + 12), .ref (a + 13), .ref (a + 14), .ref (a + 15), .ref (a + 16), .ref (a + 17), .ref (a + 18), .ref (a + 19)])) H1) (o1 : ∀ q : Nat, q ≠ (a + 11) → H1[q]? = H[q]?) : dk g a (dset d 11 0 x) H1 := by
  intro i hi
  by_cases hx : i = 11
  · subst hx; exact h1
  · refine va_at.kept (H := H) ?_ (o1 (a + i) (by omega))
    have e : dkc g a (dset d 11 0 x) i = dkc g a d i := by
      match i, hi, hx with
      | 0, _, _ => rfl
      | 1, _, _ => rfl
      | 2, _, _ => rfl
      | 3, _, _ => rfl
      | 4, _, _ => rfl
      | 5, _, _ => rfl
      | 6, _, _ => rfl
      | 7, _, _ => rfl
      | 8, _, _ => rfl
      | 9, _, _ => rfl
      | 10, _, _ => rfl
      | 11, _, hx => exact absurd rfl hx
      | 12, _, _ => rfl
      | 13, _, _ => rfl
      | 14, _, _ => rfl
      | 15, _, _ => rfl
      | 16, _, _ => rfl
      | 17, _, _ => rfl
      | 18, _, _ => rfl
      | 19, _, _ => rfl
      | 20, _, _ => rfl
      | n + 21, hi, _ => exact absurd hi (by omega)
    show cA1 g (a + i) _ H
    rw [e]
    exact h i hi
theorem dk_put20_0 {g : KG} {a : Nat} {d : DV} {H H1 : Heap} {x : Int32} (h : dk g a d H) (h1 : cA1 g (a + 20) (.inr (1, [.int x, .int (d.1 20 1), .int (d.1 20 2), .int (d.1 20 3), .int (d.1 20 4), .int (d.1 20 5)])) H1) (o1 : ∀ q : Nat, q ≠ (a + 20) → H1[q]? = H[q]?) : dk g a (dset d 20 0 x) H1 := by
  intro i hi
  by_cases hx : i = 20
  · subst hx; exact h1
  · refine va_at.kept (H := H) ?_ (o1 (a + i) (by omega))
    have e : dkc g a (dset d 20 0 x) i = dkc g a d i := by
      match i, hi, hx with
      | 0, _, _ => rfl
      | 1, _, _ => rfl
      | 2, _, _ => rfl
      | 3, _, _ => rfl
      | 4, _, _ => rfl
      | 5, _, _ => rfl
      | 6, _, _ => rfl
      | 7, _, _ => rfl
      | 8, _, _ => rfl
      | 9, _, _ => rfl
      | 10, _, _ => rfl
      | 11, _, _ => rfl
      | 12, _, _ => rfl
      | 13, _, _ => rfl
      | 14, _, _ => rfl
      | 15, _, _ => rfl
      | 16, _, _ => rfl
      | 17, _, _ => rfl
      | 18, _, _ => rfl
      | 19, _, _ => rfl
      | 20, _, hx => exact absurd rfl hx
      | n + 21, hi, _ => exact absurd hi (by omega)
    show cA1 g (a + i) _ H
    rw [e]
    exact h i hi
theorem dk_put20_1 {g : KG} {a : Nat} {d : DV} {H H1 : Heap} {x : Int32} (h : dk g a d H) (h1 : cA1 g (a + 20) (.inr (1, [.int (d.1 20 0), .int x, .int (d.1 20 2), .int (d.1 20 3), .int (d.1 20 4), .int (d.1 20 5)])) H1) (o1 : ∀ q : Nat, q ≠ (a + 20) → H1[q]? = H[q]?) : dk g a (dset d 20 1 x) H1 := by
  intro i hi
  by_cases hx : i = 20
  · subst hx; exact h1
  · refine va_at.kept (H := H) ?_ (o1 (a + i) (by omega))
    have e : dkc g a (dset d 20 1 x) i = dkc g a d i := by
      match i, hi, hx with
      | 0, _, _ => rfl
      | 1, _, _ => rfl
      | 2, _, _ => rfl
      | 3, _, _ => rfl
      | 4, _, _ => rfl
      | 5, _, _ => rfl
      | 6, _, _ => rfl
      | 7, _, _ => rfl
      | 8, _, _ => rfl
      | 9, _, _ => rfl
      | 10, _, _ => rfl
      | 11, _, _ => rfl
      | 12, _, _ => rfl
      | 13, _, _ => rfl
      | 14, _, _ => rfl
      | 15, _, _ => rfl
      | 16, _, _ => rfl
      | 17, _, _ => rfl
      | 18, _, _ => rfl
      | 19, _, _ => rfl
      | 20, _, hx => exact absurd rfl hx
      | n + 21, hi, _ => exact absurd hi (by omega)
    show cA1 g (a + i) _ H
    rw [e]
    exact h i hi
theorem dk_put20_2 {g : KG} {a : Nat} {d : DV} {H H1 : Heap} {x : Int32} (h : dk g a d H) (h1 : cA1 g (a + 20) (.inr (1, [.int (d.1 20 0), .int (d.1 20 1), .int x, .int (d.1 20 3), .int (d.1 20 4), .int (d.1 20 5)])) H1) (o1 : ∀ q : Nat, q ≠ (a + 20) → H1[q]? = H[q]?) : dk g a (dset d 20 2 x) H1 := by
  intro i hi
  by_cases hx : i = 20
  · subst hx; exact h1
  · refine va_at.kept (H := H) ?_ (o1 (a + i) (by omega))
    have e : dkc g a (dset d 20 2 x) i = dkc g a d i := by
      match i, hi, hx with
      | 0, _, _ => rfl
      | 1, _, _ => rfl
      | 2, _, _ => rfl
      | 3, _, _ => rfl
      | 4, _, _ => rfl
      | 5, _, _ => rfl
      | 6, _, _ => rfl
      | 7, _, _ => rfl
      | 8, _, _ => rfl
      | 9, _, _ => rfl
      | 10, _, _ => rfl
      | 11, _, _ => rfl
      | 12, _, _ => rfl
      | 13, _, _ => rfl
      | 14, _, _ => rfl
      | 15, _, _ => rfl
      | 16, _, _ => rfl
      | 17, _, _ => rfl
      | 18, _, _ => rfl
      | 19, _, _ => rfl
      | 20, _, hx => exact absurd rfl hx
      | n + 21, hi, _ => exact absurd hi (by omega)
    show cA1 g (a + i) _ H
    rw [e]
    exact h i hi
theorem dk_put20_3 {g : KG} {a : Nat} {d : DV} {H H1 : Heap} {x : Int32} (h : dk g a d H) (h1 : cA1 g (a + 20) (.inr (1, [.int (d.1 20 0), .int (d.1 20 1), .int (d.1 20 2), .int x, .int (d.1 20 4), .int (d.1 20 5)])) H1) (o1 : ∀ q : Nat, q ≠ (a + 20) → H1[q]? = H[q]?) : dk g a (dset d 20 3 x) H1 := by
  intro i hi
  by_cases hx : i = 20
  · subst hx; exact h1
  · refine va_at.kept (H := H) ?_ (o1 (a + i) (by omega))
    have e : dkc g a (dset d 20 3 x) i = dkc g a d i := by
      match i, hi, hx with
      | 0, _, _ => rfl
      | 1, _, _ => rfl
      | 2, _, _ => rfl
      | 3, _, _ => rfl
      | 4, _, _ => rfl
      | 5, _, _ => rfl
      | 6, _, _ => rfl
      | 7, _, _ => rfl
      | 8, _, _ => rfl
      | 9, _, _ => rfl
      | 10, _, _ => rfl
      | 11, _, _ => rfl
      | 12, _, _ => rfl
      | 13, _, _ => rfl
      | 14, _, _ => rfl
      | 15, _, _ => rfl
      | 16, _, _ => rfl
      | 17, _, _ => rfl
      | 18, _, _ => rfl
      | 19, _, _ => rfl
      | 20, _, hx => exact absurd rfl hx
      | n + 21, hi, _ => exact absurd hi (by omega)
    show cA1 g (a + i) _ H
    rw [e]
    exact h i hi
theorem dk_put20_4 {g : KG} {a : Nat} {d : DV} {H H1 : Heap} {x : Int32} (h : dk g a d H) (h1 : cA1 g (a + 20) (.inr (1, [.int (d.1 20 0), .int (d.1 20 1), .int (d.1 20 2), .int (d.1 20 3), .int x, .int (d.1 20 5)])) H1) (o1 : ∀ q : Nat, q ≠ (a + 20) → H1[q]? = H[q]?) : dk g a (dset d 20 4 x) H1 := by
  intro i hi
  by_cases hx : i = 20
  · subst hx; exact h1
  · refine va_at.kept (H := H) ?_ (o1 (a + i) (by omega))
    have e : dkc g a (dset d 20 4 x) i = dkc g a d i := by
      match i, hi, hx with
      | 0, _, _ => rfl
      | 1, _, _ => rfl
      | 2, _, _ => rfl
      | 3, _, _ => rfl
      | 4, _, _ => rfl
      | 5, _, _ => rfl
      | 6, _, _ => rfl
      | 7, _, _ => rfl
      | 8, _, _ => rfl
      | 9, _, _ => rfl
      | 10, _, _ => rfl
      | 11, _, _ => rfl
      | 12, _, _ => rfl
      | 13, _, _ => rfl
      | 14, _, _ => rfl
      | 15, _, _ => rfl
      | 16, _, _ => rfl
      | 17, _, _ => rfl
      | 18, _, _ => rfl
      | 19, _, _ => rfl
      | 20, _, hx => exact absurd rfl hx
      | n + 21, hi, _ => exact absurd hi (by omega)
    show cA1 g (a + i) _ H
    rw [e]
    exact h i hi
theorem dk_put20_5 {g : KG} {a : Nat} {d : DV} {H H1 : Heap} {x : Int32} (h : dk g a d H) (h1 : cA1 g (a + 20) (.inr (1, [.int (d.1 20 0), .int (d.1 20 1), .int (d.1 20 2), .int (d.1 20 3), .int (d.1 20 4), .int x])) H1) (o1 : ∀ q : Nat, q ≠ (a + 20) → H1[q]? = H[q]?) : dk g a (dset d 20 5 x) H1 := by
  intro i hi
  by_cases hx : i = 20
  · subst hx; exact h1
  · refine va_at.kept (H := H) ?_ (o1 (a + i) (by omega))
    have e : dkc g a (dset d 20 5 x) i = dkc g a d i := by
      match i, hi, hx with
      | 0, _, _ => rfl
      | 1, _, _ => rfl
      | 2, _, _ => rfl
      | 3, _, _ => rfl
      | 4, _, _ => rfl
      | 5, _, _ => rfl
      | 6, _, _ => rfl
      | 7, _, _ => rfl
      | 8, _, _ => rfl
      | 9, _, _ => rfl
      | 10, _, _ => rfl
      | 11, _, _ => rfl
      | 12, _, _ => rfl
      | 13, _, _ => rfl
      | 14, _, _ => rfl
      | 15, _, _ => rfl
      | 16, _, _ => rfl
      | 17, _, _ => rfl
      | 18, _, _ => rfl
      | 19, _, _ => rfl
      | 20, _, hx => exact absurd rfl hx
      | n + 21, hi, _ => exact absurd hi (by omega)
    show cA1 g (a + i) _ H
    rw [e]
    exact h i hi
/-- a desk whose lists can be read: how many orders, how many sets, the faults and the parts of the orders -/
def no (d : DV) : Nat := (d.1 3 0).toNatClampNeg
def nm (d : DV) : Nat := (d.1 11 0).toNatClampNeg
def fl (d : DV) (k : Nat) : Nat := (d.1 12 k).toNatClampNeg
def opa (d : DV) (i : Nat) : Nat := (d.1 8 i).toNatClampNeg
def sf (d : DV) : Prop := (d.1 3 0 = nI (no d) ∧ no d ≤ 12) ∧ (d.1 11 0 = nI (nm d) ∧ nm d ≤ 20) ∧ (∀ k, k < nm d → d.1 12 k = nI (fl d k) ∧ fl d k < 5) ∧ (∀ i, i < no d → d.1 8 i = nI (opa d i) ∧ opa d i < 6)
theorem sf.to {d d' : DV} (h : sf d) (h3 : d'.1 3 = d.1 3) (h11 : d'.1 11 = d.1 11) (h12 : d'.1 12 = d.1 12) (h8 : d'.1 8 = d.1 8) : sf d' := by
  unfold sf no nm fl opa at *
  rw [h3, h11, h12, h8]
  exact h
end
section
/-! what a call asks of a name -/
theorem hy_X1_copyFrom : yX1_copyFrom.cls = RX1 ∧ yX1_copyFrom.cls ≠ "java/lang/invoke/MethodHandle" ∧ yX1_copyFrom.cls ≠ "java/lang/invoke/VarHandle" ∧ (parseMethodDescriptor yX1_copyFrom.desc).map (fun d => d.parameters.length) = some 1 := by decide +kernel
theorem hy_X2_copyFrom : yX2_copyFrom.cls = RX2 ∧ yX2_copyFrom.cls ≠ "java/lang/invoke/MethodHandle" ∧ yX2_copyFrom.cls ≠ "java/lang/invoke/VarHandle" ∧ (parseMethodDescriptor yX2_copyFrom.desc).map (fun d => d.parameters.length) = some 1 := by decide +kernel
theorem hy_X2_costNow : yX2_costNow.cls = RX2 ∧ yX2_costNow.cls ≠ "java/lang/invoke/MethodHandle" ∧ yX2_costNow.cls ≠ "java/lang/invoke/VarHandle" ∧ (parseMethodDescriptor yX2_costNow.desc).map (fun d => d.parameters.length) = some 1 := by decide +kernel
theorem hy_X2_loanersThere : yX2_loanersThere.cls = RX2 ∧ yX2_loanersThere.cls ≠ "java/lang/invoke/MethodHandle" ∧ yX2_loanersThere.cls ≠ "java/lang/invoke/VarHandle" ∧ (parseMethodDescriptor yX2_loanersThere.desc).map (fun d => d.parameters.length) = some 0 := by decide +kernel
theorem hy_X2_storageFee : yX2_storageFee.cls = RX2 ∧ yX2_storageFee.cls ≠ "java/lang/invoke/MethodHandle" ∧ yX2_storageFee.cls ≠ "java/lang/invoke/VarHandle" ∧ (parseMethodDescriptor yX2_storageFee.desc).map (fun d => d.parameters.length) = some 1 := by decide +kernel
theorem hy_X2_lackingOf : yX2_lackingOf.cls = RX2 ∧ yX2_lackingOf.cls ≠ "java/lang/invoke/MethodHandle" ∧ yX2_lackingOf.cls ≠ "java/lang/invoke/VarHandle" ∧ (parseMethodDescriptor yX2_lackingOf.desc).map (fun d => d.parameters.length) = some 1 := by decide +kernel
theorem hy_X2_decide : yX2_decide.cls = RX2 ∧ yX2_decide.cls ≠ "java/lang/invoke/MethodHandle" ∧ yX2_decide.cls ≠ "java/lang/invoke/VarHandle" ∧ (parseMethodDescriptor yX2_decide.desc).map (fun d => d.parameters.length) = some 2 := by decide +kernel
theorem hy_X2_reserveParts : yX2_reserveParts.cls = RX2 ∧ yX2_reserveParts.cls ≠ "java/lang/invoke/MethodHandle" ∧ yX2_reserveParts.cls ≠ "java/lang/invoke/VarHandle" ∧ (parseMethodDescriptor yX2_reserveParts.desc).map (fun d => d.parameters.length) = some 0 := by decide +kernel
theorem hy_X2_reservePartsWhere : yX2_reservePartsWhere.cls = RX2 ∧ yX2_reservePartsWhere.cls ≠ "java/lang/invoke/MethodHandle" ∧ yX2_reservePartsWhere.cls ≠ "java/lang/invoke/VarHandle" ∧ (parseMethodDescriptor yX2_reservePartsWhere.desc).map (fun d => d.parameters.length) = some 1 := by decide +kernel
theorem hy_X2_handOver : yX2_handOver.cls = RX2 ∧ yX2_handOver.cls ≠ "java/lang/invoke/MethodHandle" ∧ yX2_handOver.cls ≠ "java/lang/invoke/VarHandle" ∧ (parseMethodDescriptor yX2_handOver.desc).map (fun d => d.parameters.length) = some 1 := by decide +kernel
theorem hy_X2_passDay : yX2_passDay.cls = RX2 ∧ yX2_passDay.cls ≠ "java/lang/invoke/MethodHandle" ∧ yX2_passDay.cls ≠ "java/lang/invoke/VarHandle" ∧ (parseMethodDescriptor yX2_passDay.desc).map (fun d => d.parameters.length) = some 0 := by decide +kernel
theorem hy_X2_takeOrders : yX2_takeOrders.cls = RX2 ∧ yX2_takeOrders.cls ≠ "java/lang/invoke/MethodHandle" ∧ yX2_takeOrders.cls ≠ "java/lang/invoke/VarHandle" ∧ (parseMethodDescriptor yX2_takeOrders.desc).map (fun d => d.parameters.length) = some 0 := by decide +kernel
theorem hy_X2_workWhere : yX2_workWhere.cls = RX2 ∧ yX2_workWhere.cls ≠ "java/lang/invoke/MethodHandle" ∧ yX2_workWhere.cls ≠ "java/lang/invoke/VarHandle" ∧ (parseMethodDescriptor yX2_workWhere.desc).map (fun d => d.parameters.length) = some 2 := by decide +kernel
theorem hy_X2_finish : yX2_finish.cls = RX2 ∧ yX2_finish.cls ≠ "java/lang/invoke/MethodHandle" ∧ yX2_finish.cls ≠ "java/lang/invoke/VarHandle" ∧ (parseMethodDescriptor yX2_finish.desc).map (fun d => d.parameters.length) = some 1 := by decide +kernel
theorem hy_X2_sellUnclaimed : yX2_sellUnclaimed.cls = RX2 ∧ yX2_sellUnclaimed.cls ≠ "java/lang/invoke/MethodHandle" ∧ yX2_sellUnclaimed.cls ≠ "java/lang/invoke/VarHandle" ∧ (parseMethodDescriptor yX2_sellUnclaimed.desc).map (fun d => d.parameters.length) = some 0 := by decide +kernel
theorem hy_X3_record : yX3_record.cls = RX3 ∧ yX3_record.cls ≠ "java/lang/invoke/MethodHandle" ∧ yX3_record.cls ≠ "java/lang/invoke/VarHandle" ∧ (parseMethodDescriptor yX3_record.desc).map (fun d => d.parameters.length) = some 1 := by decide +kernel
theorem hy_X3_dropOldest : yX3_dropOldest.cls = RX3 ∧ yX3_dropOldest.cls ≠ "java/lang/invoke/MethodHandle" ∧ yX3_dropOldest.cls ≠ "java/lang/invoke/VarHandle" ∧ (parseMethodDescriptor yX3_dropOldest.desc).map (fun d => d.parameters.length) = some 0 := by decide +kernel
theorem hy_X3_giveBack : yX3_giveBack.cls = RX3 ∧ yX3_giveBack.cls ≠ "java/lang/invoke/MethodHandle" ∧ yX3_giveBack.cls ≠ "java/lang/invoke/VarHandle" ∧ (parseMethodDescriptor yX3_giveBack.desc).map (fun d => d.parameters.length) = some 1 := by decide +kernel
theorem hy_X4_copyFrom : yX4_copyFrom.cls = RX4 ∧ yX4_copyFrom.cls ≠ "java/lang/invoke/MethodHandle" ∧ yX4_copyFrom.cls ≠ "java/lang/invoke/VarHandle" ∧ (parseMethodDescriptor yX4_copyFrom.desc).map (fun d => d.parameters.length) = some 1 := by decide +kernel
theorem hy_X4_add : yX4_add.cls = RX4 ∧ yX4_add.cls ≠ "java/lang/invoke/MethodHandle" ∧ yX4_add.cls ≠ "java/lang/invoke/VarHandle" ∧ (parseMethodDescriptor yX4_add.desc).map (fun d => d.parameters.length) = some 2 := by decide +kernel
theorem hy_X4_isReady : yX4_isReady.cls = RX4 ∧ yX4_isReady.cls ≠ "java/lang/invoke/MethodHandle" ∧ yX4_isReady.cls ≠ "java/lang/invoke/VarHandle" ∧ (parseMethodDescriptor yX4_isReady.desc).map (fun d => d.parameters.length) = some 1 := by decide +kernel
theorem hy_X4_isTurnOf : yX4_isTurnOf.cls = RX4 ∧ yX4_isTurnOf.cls ≠ "java/lang/invoke/MethodHandle" ∧ yX4_isTurnOf.cls ≠ "java/lang/invoke/VarHandle" ∧ (parseMethodDescriptor yX4_isTurnOf.desc).map (fun d => d.parameters.length) = some 3 := by decide +kernel
theorem hy_X4_inState : yX4_inState.cls = RX4 ∧ yX4_inState.cls ≠ "java/lang/invoke/MethodHandle" ∧ yX4_inState.cls ≠ "java/lang/invoke/VarHandle" ∧ (parseMethodDescriptor yX4_inState.desc).map (fun d => d.parameters.length) = some 1 := by decide +kernel
theorem hy_X4_withLoaner : yX4_withLoaner.cls = RX4 ∧ yX4_withLoaner.cls ≠ "java/lang/invoke/MethodHandle" ∧ yX4_withLoaner.cls ≠ "java/lang/invoke/VarHandle" ∧ (parseMethodDescriptor yX4_withLoaner.desc).map (fun d => d.parameters.length) = some 0 := by decide +kernel
theorem hy_X5_copyFrom : yX5_copyFrom.cls = RX5 ∧ yX5_copyFrom.cls ≠ "java/lang/invoke/MethodHandle" ∧ yX5_copyFrom.cls ≠ "java/lang/invoke/VarHandle" ∧ (parseMethodDescriptor yX5_copyFrom.desc).map (fun d => d.parameters.length) = some 1 := by decide +kernel
theorem hs_X5_needOf : yX5_needOf.cls ≠ "java/lang/invoke/MethodHandle" ∧ yX5_needOf.cls ≠ "java/lang/invoke/VarHandle" ∧ (parseMethodDescriptor yX5_needOf.desc).map (fun d => d.parameters.length) = some 2 := by decide +kernel
theorem hy_X5_priceOfParts : yX5_priceOfParts.cls = RX5 ∧ yX5_priceOfParts.cls ≠ "java/lang/invoke/MethodHandle" ∧ yX5_priceOfParts.cls ≠ "java/lang/invoke/VarHandle" ∧ (parseMethodDescriptor yX5_priceOfParts.desc).map (fun d => d.parameters.length) = some 1 := by decide +kernel
theorem hy_X5_free : yX5_free.cls = RX5 ∧ yX5_free.cls ≠ "java/lang/invoke/MethodHandle" ∧ yX5_free.cls ≠ "java/lang/invoke/VarHandle" ∧ (parseMethodDescriptor yX5_free.desc).map (fun d => d.parameters.length) = some 1 := by decide +kernel
theorem hy_X5_onOrder : yX5_onOrder.cls = RX5 ∧ yX5_onOrder.cls ≠ "java/lang/invoke/MethodHandle" ∧ yX5_onOrder.cls ≠ "java/lang/invoke/VarHandle" ∧ (parseMethodDescriptor yX5_onOrder.desc).map (fun d => d.parameters.length) = some 1 := by decide +kernel
theorem hy_X5_lowestShort : yX5_lowestShort.cls = RX5 ∧ yX5_lowestShort.cls ≠ "java/lang/invoke/MethodHandle" ∧ yX5_lowestShort.cls ≠ "java/lang/invoke/VarHandle" ∧ (parseMethodDescriptor yX5_lowestShort.desc).map (fun d => d.parameters.length) = some 1 := by decide +kernel
theorem hy_X5_isEnoughOrdered : yX5_isEnoughOrdered.cls = RX5 ∧ yX5_isEnoughOrdered.cls ≠ "java/lang/invoke/MethodHandle" ∧ yX5_isEnoughOrdered.cls ≠ "java/lang/invoke/VarHandle" ∧ (parseMethodDescriptor yX5_isEnoughOrdered.desc).map (fun d => d.parameters.length) = some 1 := by decide +kernel
theorem hy_X5_reserveFor : yX5_reserveFor.cls = RX5 ∧ yX5_reserveFor.cls ≠ "java/lang/invoke/MethodHandle" ∧ yX5_reserveFor.cls ≠ "java/lang/invoke/VarHandle" ∧ (parseMethodDescriptor yX5_reserveFor.desc).map (fun d => d.parameters.length) = some 1 := by decide +kernel
theorem hy_X5_takeReservedFor : yX5_takeReservedFor.cls = RX5 ∧ yX5_takeReservedFor.cls ≠ "java/lang/invoke/MethodHandle" ∧ yX5_takeReservedFor.cls ≠ "java/lang/invoke/VarHandle" ∧ (parseMethodDescriptor yX5_takeReservedFor.desc).map (fun d => d.parameters.length) = some 1 := by decide +kernel
theorem hy_X5_addOrder : yX5_addOrder.cls = RX5 ∧ yX5_addOrder.cls ≠ "java/lang/invoke/MethodHandle" ∧ yX5_addOrder.cls ≠ "java/lang/invoke/VarHandle" ∧ (parseMethodDescriptor yX5_addOrder.desc).map (fun d => d.parameters.length) = some 3 := by decide +kernel
theorem hy_X5_dropOrdersOf : yX5_dropOrdersOf.cls = RX5 ∧ yX5_dropOrdersOf.cls ≠ "java/lang/invoke/MethodHandle" ∧ yX5_dropOrdersOf.cls ≠ "java/lang/invoke/VarHandle" ∧ (parseMethodDescriptor yX5_dropOrdersOf.desc).map (fun d => d.parameters.length) = some 1 := by decide +kernel
theorem hy_X6_setRate : yX6_setRate.cls = RX6 ∧ yX6_setRate.cls ≠ "java/lang/invoke/MethodHandle" ∧ yX6_setRate.cls ≠ "java/lang/invoke/VarHandle" ∧ (parseMethodDescriptor yX6_setRate.desc).map (fun d => d.parameters.length) = some 2 := by decide +kernel
theorem hy_X6_setNumber : yX6_setNumber.cls = RX6 ∧ yX6_setNumber.cls ≠ "java/lang/invoke/MethodHandle" ∧ yX6_setNumber.cls ≠ "java/lang/invoke/VarHandle" ∧ (parseMethodDescriptor yX6_setNumber.desc).map (fun d => d.parameters.length) = some 2 := by decide +kernel
theorem hy_X6_setPart : yX6_setPart.cls = RX6 ∧ yX6_setPart.cls ≠ "java/lang/invoke/MethodHandle" ∧ yX6_setPart.cls ≠ "java/lang/invoke/VarHandle" ∧ (parseMethodDescriptor yX6_setPart.desc).map (fun d => d.parameters.length) = some 3 := by decide +kernel
theorem hy_X6_order : yX6_order.cls = RX6 ∧ yX6_order.cls ≠ "java/lang/invoke/MethodHandle" ∧ yX6_order.cls ≠ "java/lang/invoke/VarHandle" ∧ (parseMethodDescriptor yX6_order.desc).map (fun d => d.parameters.length) = some 2 := by decide +kernel
theorem hy_X6_put : yX6_put.cls = RX6 ∧ yX6_put.cls ≠ "java/lang/invoke/MethodHandle" ∧ yX6_put.cls ≠ "java/lang/invoke/VarHandle" ∧ (parseMethodDescriptor yX6_put.desc).map (fun d => d.parameters.length) = some 2 := by decide +kernel
theorem hy_X6_come : yX6_come.cls = RX6 ∧ yX6_come.cls ≠ "java/lang/invoke/MethodHandle" ∧ yX6_come.cls ≠ "java/lang/invoke/VarHandle" ∧ (parseMethodDescriptor yX6_come.desc).map (fun d => d.parameters.length) = some 1 := by decide +kernel
theorem hy_X6_estimate : yX6_estimate.cls = RX6 ∧ yX6_estimate.cls ≠ "java/lang/invoke/MethodHandle" ∧ yX6_estimate.cls ≠ "java/lang/invoke/VarHandle" ∧ (parseMethodDescriptor yX6_estimate.desc).map (fun d => d.parameters.length) = some 1 := by decide +kernel
theorem hy_X6_answer : yX6_answer.cls = RX6 ∧ yX6_answer.cls ≠ "java/lang/invoke/MethodHandle" ∧ yX6_answer.cls ≠ "java/lang/invoke/VarHandle" ∧ (parseMethodDescriptor yX6_answer.desc).map (fun d => d.parameters.length) = some 2 := by decide +kernel
theorem hy_X6_lend : yX6_lend.cls = RX6 ∧ yX6_lend.cls ≠ "java/lang/invoke/MethodHandle" ∧ yX6_lend.cls ≠ "java/lang/invoke/VarHandle" ∧ (parseMethodDescriptor yX6_lend.desc).map (fun d => d.parameters.length) = some 1 := by decide +kernel
theorem hy_X6_collect : yX6_collect.cls = RX6 ∧ yX6_collect.cls ≠ "java/lang/invoke/MethodHandle" ∧ yX6_collect.cls ≠ "java/lang/invoke/VarHandle" ∧ (parseMethodDescriptor yX6_collect.desc).map (fun d => d.parameters.length) = some 1 := by decide +kernel
theorem hy_X6_pass : yX6_pass.cls = RX6 ∧ yX6_pass.cls ≠ "java/lang/invoke/MethodHandle" ∧ yX6_pass.cls ≠ "java/lang/invoke/VarHandle" ∧ (parseMethodDescriptor yX6_pass.desc).map (fun d => d.parameters.length) = some 1 := by decide +kernel
theorem hy_X6_undo : yX6_undo.cls = RX6 ∧ yX6_undo.cls ≠ "java/lang/invoke/MethodHandle" ∧ yX6_undo.cls ≠ "java/lang/invoke/VarHandle" ∧ (parseMethodDescriptor yX6_undo.desc).map (fun d => d.parameters.length) = some 0 := by decide +kernel
theorem hy_X6_keep : yX6_keep.cls = RX6 ∧ yX6_keep.cls ≠ "java/lang/invoke/MethodHandle" ∧ yX6_keep.cls ≠ "java/lang/invoke/VarHandle" ∧ (parseMethodDescriptor yX6_keep.desc).map (fun d => d.parameters.length) = some 0 := by decide +kernel
theorem hy_X6_restore : yX6_restore.cls = RX6 ∧ yX6_restore.cls ≠ "java/lang/invoke/MethodHandle" ∧ yX6_restore.cls ≠ "java/lang/invoke/VarHandle" ∧ (parseMethodDescriptor yX6_restore.desc).map (fun d => d.parameters.length) = some 0 := by decide +kernel
theorem hy_X6_rate : yX6_rate.cls = RX6 ∧ yX6_rate.cls ≠ "java/lang/invoke/MethodHandle" ∧ yX6_rate.cls ≠ "java/lang/invoke/VarHandle" ∧ (parseMethodDescriptor yX6_rate.desc).map (fun d => d.parameters.length) = some 1 := by decide +kernel
theorem hy_X6_number : yX6_number.cls = RX6 ∧ yX6_number.cls ≠ "java/lang/invoke/MethodHandle" ∧ yX6_number.cls ≠ "java/lang/invoke/VarHandle" ∧ (parseMethodDescriptor yX6_number.desc).map (fun d => d.parameters.length) = some 1 := by decide +kernel
theorem hy_X6_part : yX6_part.cls = RX6 ∧ yX6_part.cls ≠ "java/lang/invoke/MethodHandle" ∧ yX6_part.cls ≠ "java/lang/invoke/VarHandle" ∧ (parseMethodDescriptor yX6_part.desc).map (fun d => d.parameters.length) = some 2 := by decide +kernel
theorem hy_X6_costOf : yX6_costOf.cls = RX6 ∧ yX6_costOf.cls ≠ "java/lang/invoke/MethodHandle" ∧ yX6_costOf.cls ≠ "java/lang/invoke/VarHandle" ∧ (parseMethodDescriptor yX6_costOf.desc).map (fun d => d.parameters.length) = some 1 := by decide +kernel
theorem hy_X6_set : yX6_set.cls = RX6 ∧ yX6_set.cls ≠ "java/lang/invoke/MethodHandle" ∧ yX6_set.cls ≠ "java/lang/invoke/VarHandle" ∧ (parseMethodDescriptor yX6_set.desc).map (fun d => d.parameters.length) = some 2 := by decide +kernel
theorem hy_X6_waitsFor : yX6_waitsFor.cls = RX6 ∧ yX6_waitsFor.cls ≠ "java/lang/invoke/MethodHandle" ∧ yX6_waitsFor.cls ≠ "java/lang/invoke/VarHandle" ∧ (parseMethodDescriptor yX6_waitsFor.desc).map (fun d => d.parameters.length) = some 1 := by decide +kernel
theorem hy_X6_lacks : yX6_lacks.cls = RX6 ∧ yX6_lacks.cls ≠ "java/lang/invoke/MethodHandle" ∧ yX6_lacks.cls ≠ "java/lang/invoke/VarHandle" ∧ (parseMethodDescriptor yX6_lacks.desc).map (fun d => d.parameters.length) = some 1 := by decide +kernel
theorem hy_X6_doneIn : yX6_doneIn.cls = RX6 ∧ yX6_doneIn.cls ≠ "java/lang/invoke/MethodHandle" ∧ yX6_doneIn.cls ≠ "java/lang/invoke/VarHandle" ∧ (parseMethodDescriptor yX6_doneIn.desc).map (fun d => d.parameters.length) = some 1 := by decide +kernel
theorem hy_X6_meanDays : yX6_meanDays.cls = RX6 ∧ yX6_meanDays.cls ≠ "java/lang/invoke/MethodHandle" ∧ yX6_meanDays.cls ≠ "java/lang/invoke/VarHandle" ∧ (parseMethodDescriptor yX6_meanDays.desc).map (fun d => d.parameters.length) = some 0 := by decide +kernel
theorem hy_X6_count : yX6_count.cls = RX6 ∧ yX6_count.cls ≠ "java/lang/invoke/MethodHandle" ∧ yX6_count.cls ≠ "java/lang/invoke/VarHandle" ∧ (parseMethodDescriptor yX6_count.desc).map (fun d => d.parameters.length) = some 1 := by decide +kernel
theorem hs_X6_isIndex : yX6_isIndex.cls ≠ "java/lang/invoke/MethodHandle" ∧ yX6_isIndex.cls ≠ "java/lang/invoke/VarHandle" ∧ (parseMethodDescriptor yX6_isIndex.desc).map (fun d => d.parameters.length) = some 2 := by decide +kernel
theorem hs_X6_isWithin : yX6_isWithin.cls ≠ "java/lang/invoke/MethodHandle" ∧ yX6_isWithin.cls ≠ "java/lang/invoke/VarHandle" ∧ (parseMethodDescriptor yX6_isWithin.desc).map (fun d => d.parameters.length) = some 3 := by decide +kernel
theorem hy_X6_isSet : yX6_isSet.cls = RX6 ∧ yX6_isSet.cls ≠ "java/lang/invoke/MethodHandle" ∧ yX6_isSet.cls ≠ "java/lang/invoke/VarHandle" ∧ (parseMethodDescriptor yX6_isSet.desc).map (fun d => d.parameters.length) = some 1 := by decide +kernel
theorem hs_X6_floatOf : yX6_floatOf.cls ≠ "java/lang/invoke/MethodHandle" ∧ yX6_floatOf.cls ≠ "java/lang/invoke/VarHandle" ∧ (parseMethodDescriptor yX6_floatOf.desc).map (fun d => d.parameters.length) = some 1 := by decide +kernel
theorem hs_L_low : yL_low.cls ≠ "java/lang/invoke/MethodHandle" ∧ yL_low.cls ≠ "java/lang/invoke/VarHandle" ∧ (parseMethodDescriptor yL_low.desc).map (fun d => d.parameters.length) = some 2 := by decide +kernel
theorem hs_L_cell : yL_cell.cls ≠ "java/lang/invoke/MethodHandle" ∧ yL_cell.cls ≠ "java/lang/invoke/VarHandle" ∧ (parseMethodDescriptor yL_cell.desc).map (fun d => d.parameters.length) = some 2 := by decide +kernel
theorem hs_L_need : yL_need.cls ≠ "java/lang/invoke/MethodHandle" ∧ yL_need.cls ≠ "java/lang/invoke/VarHandle" ∧ (parseMethodDescriptor yL_need.desc).map (fun d => d.parameters.length) = some 2 := by decide +kernel
theorem hs_L_hours : yL_hours.cls ≠ "java/lang/invoke/MethodHandle" ∧ yL_hours.cls ≠ "java/lang/invoke/VarHandle" ∧ (parseMethodDescriptor yL_hours.desc).map (fun d => d.parameters.length) = some 1 := by decide +kernel
theorem hs_L_prices : yL_prices.cls ≠ "java/lang/invoke/MethodHandle" ∧ yL_prices.cls ≠ "java/lang/invoke/VarHandle" ∧ (parseMethodDescriptor yL_prices.desc).map (fun d => d.parameters.length) = some 2 := by decide +kernel
theorem hs_L_cost : yL_cost.cls ≠ "java/lang/invoke/MethodHandle" ∧ yL_cost.cls ≠ "java/lang/invoke/VarHandle" ∧ (parseMethodDescriptor yL_cost.desc).map (fun d => d.parameters.length) = some 2 := by decide +kernel
theorem hs_L_desk : yL_desk.cls ≠ "java/lang/invoke/MethodHandle" ∧ yL_desk.cls ≠ "java/lang/invoke/VarHandle" ∧ (parseMethodDescriptor yL_desk.desc).map (fun d => d.parameters.length) = some 1 := by decide +kernel
theorem hs_L_act : yL_act.cls ≠ "java/lang/invoke/MethodHandle" ∧ yL_act.cls ≠ "java/lang/invoke/VarHandle" ∧ (parseMethodDescriptor yL_act.desc).map (fun d => d.parameters.length) = some 3 := by decide +kernel
theorem ge_t {x y : Int32} {n N : Nat} (hx : x = nI n) (hy : y = nI N) (h : N ≤ n) (hb : n < 2 ^ 31) : y ≤ x := by subst hx hy; exact nI_le h hb
theorem ge_f {x y : Int32} {n N : Nat} (hx : x = nI n) (hy : y = nI N) (h : n < N) (hb : N < 2 ^ 31) : ¬ y ≤ x := by subst hx hy; exact nI_ge h hb
theorem lt_t {x y : Int32} {n N : Nat} (hx : x = nI n) (hy : y = nI N) (h : n < N) (hb : N < 2 ^ 31) : x < y := by subst hx hy; exact nI_lt h hb
theorem lt_f {x y : Int32} {n N : Nat} (hx : x = nI n) (hy : y = nI N) (h : N ≤ n) (hb : n < 2 ^ 31) : ¬ x < y := by subst hx hy; exact nI_nlt h hb
/-- a call that changes nothing of the desk -/
theorem dk.fr {g : KG} {a : Nat} {d : DV} {H H1 : Heap} {A1 : Nat → Prop} (h : dk g a d H) (hf : ∀ q : Nat, q < H.size → ¬ A1 q → H1[q]? = H[q]?) (hA : ∀ q, iv a 21 q → ¬ A1 q) : dk g a d H1 := h.kept (fun q hq => hf q (by have := h.lt; have := hq.2; omega) (hA q hq))
def nF : Nat → Prop := fun _ => False
theorem nF.no {A : Nat → Prop} : ∀ q, nF q → A q := fun _ h => h.elim
/-! THE STORE, as numbers: need, price of a fault's parts, free parts, on order, the lowest short part, enough on order, reserved, taken, an order added, the orders of a day dropped -/
def need (f p : Nat) : Int32 := tPF (f * 6 + p)
def pop (d : DV) (f : Nat) : Nat → Int32
  | 0 => 0
  | n + 1 => pop d f n + need f n * d.1 4 n
def fre (d : DV) (p : Nat) : Int32 := d.1 6 p - d.1 7 p
def oo (d : DV) (p : Nat) : Nat → Int32
  | 0 => 0
  | n + 1 => if d.1 8 n = nI p then oo d p n + d.1 9 n else oo d p n
def lsf (d : DV) (f : Nat) : Nat → Nat → Int32
  | 0, _ => -5
  | r + 1, p => if need f p ≤ fre d p then lsf d f r (p + 1) else nI p
def ieo (d : DV) (f : Nat) : Nat → Nat → Int32
  | 0, _ => 1
  | r + 1, p => if need f p ≤ fre d p + oo d p (no d) then ieo d f r (p + 1) else 0
def rsv (d : DV) (f : Nat) : Nat → DV
  | 0 => d
  | n + 1 => dset (rsv d f n) 7 n ((rsv d f n).1 7 n + need f n)
def trv (d : DV) (f : Nat) : Nat → DV
  | 0 => d
  | n + 1 => dset (dset (trv d f n) 6 n ((trv d f n).1 6 n - need f n)) 7 n ((trv d f n).1 7 n - need f n)
def ado (d : DV) (p many comes : Int32) : DV := dset (dset (dset (dset d 8 (no d) p) 9 (no d) many) 10 (no d) comes) 3 0 (d.1 3 0 + 1)
def dof (d : DV) (day : Int32) : Nat → DV × Nat
  | 0 => (d, 0)
  | n + 1 => if (dof d day n).1.1 10 n = day then dof d day n else
    (dset (dset (dset (dof d day n).1 8 (dof d day n).2 ((dof d day n).1.1 8 n)) 9 (dof d day n).2 ((dof d day n).1.1 9 n)) 10 (dof d day n).2 ((dof d day n).1.1 10 n), (dof d day n).2 + 1)
def dofd (d : DV) (day : Int32) : DV := dset (dof d day (no d)).1 3 0 (nI (dof d day (no d)).2)
def rm_X5_needOf : Room := { frames := 0, cells := 0, slots := 0, locals := 0 }
set_option maxRecDepth 100000 in
set_option maxHeartbeats 4000000 in
theorem c_X5_needOf (g : KG) (B0 : Nat) (l : Launch) (f p : Nat) (hf : f < 5) (hp : p < 6) : Mt g B0 l yX5_needOf cX5_needOf 2 (some .int) rm_X5_needOf [.int (nI f), .int (nI p)] nF (fun _ => True) (some (.int (need f p))) (fun _ => True) 0 0 := by
  refine Mt_of RX5 (by decide) rfl [(0, .int (nI f)), (1, .int (nI p))] rfl (Nat.le_of_ble_eq_true rfl) ?_
  intro pr e s m args below meth c C hr hin hd
  obtain ⟨t, hZ, hT⟩ := stA.get C.2.2.2.2.2.1.2.2.2.2.2.1 C.2.2.2.2.2.2.1
  refine y_getsN C hZ C.2.2.2.2.2.1.2.1 dX5_needOf_0 ?_
  refine y_iload_n C 0 dX5_needOf_3 rfl rfl ?_
  refine y_bipush C (6) dX5_needOf_4 (by decide) ?_
  refine y_imul C dX5_needOf_6 ?_
  refine y_iload_n C 1 dX5_needOf_7 rfl rfl ?_
  refine y_iadd C dX5_needOf_8 ?_
  refine y_sld C hT (f * 6 + p) (by rw [show (6 : Int32) = nI 6 from rfl, pk_mul, nI_add]) (by omega) (by decide) dX5_needOf_9 ?_
  exact y_iret C hr rfl trivial dX5_needOf_10
def rm_X5_free : Room := { frames := 0, cells := 0, slots := 0, locals := 0 }
set_option maxRecDepth 100000 in
set_option maxHeartbeats 4000000 in
theorem c_X5_free (g : KG) (B0 : Nat) (l : Launch) (a : Nat) (d : DV) (p : Nat) (hp : p < 6) : Mt g B0 l yX5_free cX5_free 2 (some .int) rm_X5_free [.ref (a + 3), .int (nI p)] (iv a 21) (dk g a d) (some (.int (fre d p))) (dk g a d) 0 0 := by
  refine Mt_of RX5 (by decide) rfl [(0, .ref (a + 3)), (1, .int (nI p))] rfl (Nat.le_of_ble_eq_true rfl) ?_
  intro pr e s m args below meth c C hr hin hd
  refine y_aload_n C 0 dX5_free_0 rfl rfl ?_
  refine y_get5 C (dk_3 hd) 2 (by decide) q55 rfl rfl dX5_free_1 ?_
  refine y_iload_n C 1 dX5_free_4 rfl rfl ?_
  refine y_iald C (dk_6 hd) p rfl hp (by decide) dX5_free_5 ?_
  refine y_aload_n C 0 dX5_free_6 rfl rfl ?_
  refine y_get5 C (dk_3 hd) 3 (by decide) q56 rfl rfl dX5_free_7 ?_
  refine y_iload_n C 1 dX5_free_10 rfl rfl ?_
  refine y_iald C (dk_7 hd) p rfl hp (by decide) dX5_free_11 ?_
  refine y_isub C dX5_free_12 ?_
  exact y_iret C hr rfl hd dX5_free_13
def rm_X5_priceOfParts : Room := { frames := 1, cells := 0, slots := 0, locals := 21 }
set_option maxRecDepth 100000 in
set_option maxHeartbeats 4000000 in
theorem c_X5_priceOfParts (g : KG) (B0 : Nat) (l : Launch) (a : Nat) (d : DV) (f : Nat) (hf0 : f < 5) : Mt g B0 l yX5_priceOfParts cX5_priceOfParts 4 (some .int) rm_X5_priceOfParts [.ref (a + 3), .int (nI f)] (iv a 21) (dk g a d) (some (.int (pop d f 6))) (dk g a d) 0 0 := by
  refine Mt_of RX5 (by decide) rfl [(0, .ref (a + 3)), (1, .int (nI f))] rfl (Nat.le_of_ble_eq_true rfl) ?_
  intro pr e s m args below meth c C hr hin hd
  refine y_iconst C (0) dX5_priceOfParts_0 (by decide) ?_
  refine y_istore_n C dX5_priceOfParts_1 rfl (by decide) rfl ?_
  refine y_iconst C (0) dX5_priceOfParts_2 (by decide) ?_
  refine y_istore_n C dX5_priceOfParts_3 rfl (by decide) rfl ?_
  suffices K : ∀ rem n : Nat, n + rem = 6 → ∀ sum : Int32, sum = pop d f n → ∀ H : Heap, dk g a d H → Yx (iv a 21) pr l e rm_X5_priceOfParts s m args below meth c 4 0 0 (MQ below (Qx (some (.int (pop d f 6))) (dk g a d) (iv a 21)) args s 0 0 (iv a 21)) [(3, .int (nI n)), (2, .int sum), (0, .ref (a + 3)), (1, .int (nI f))] H 4 [] from K (6) 0 (Nat.zero_add _) _ rfl _ hd
  intro rem
  induction rem with
  | zero =>
    intro n hn sum hs H hd
    obtain rfl : n = 6 := by omega
    refine y_iload_n C 0 dX5_priceOfParts_4 rfl rfl ?_
    refine y_bipush C (6) dX5_priceOfParts_5 (by decide) ?_
    refine y_icmp_ge C 31 dX5_priceOfParts_7 (by decide) (fun _ => ?_) (fun h => absurd (ge_t rfl rfl (Nat.le_refl 6) (by decide)) h)
    refine y_iload_n C 1 dX5_priceOfParts_31 rfl rfl ?_
    exact y_iret C hr (by rw [hs]) hd dX5_priceOfParts_32
  | succ rem ih =>
    intro n hn sum hs H hd
    have hlt : n < 6 := by omega
    refine y_iload_n C 0 dX5_priceOfParts_4 rfl rfl ?_
    refine y_bipush C (6) dX5_priceOfParts_5 (by decide) ?_
    refine y_icmp_ge C 31 dX5_priceOfParts_7 (by decide) (fun h => absurd h (ge_f rfl rfl hlt (by decide))) (fun _ => ?_)
    refine y_iload_n C 1 dX5_priceOfParts_10 rfl rfl ?_
    refine y_iload_n C 3 dX5_priceOfParts_11 rfl rfl ?_
    refine y_iload_n C 0 dX5_priceOfParts_12 rfl rfl ?_
    refine y_callS C [.int (nI f), .int (nI n)] (c_X5_needOf g B0 l f n hf0 hlt) 2 (wSin q208 q209 q39 q210) hs_X5_needOf ⟨(Nat.le_of_ble_eq_true rfl), (Nat.le_of_ble_eq_true rfl)⟩ ⟨rfl, rfl⟩ trivial nF.no rfl rfl (Nat.le_of_ble_eq_true rfl) dX5_priceOfParts_13 ⟨(Nat.le_of_ble_eq_true rfl), (Nat.le_of_ble_eq_true rfl)⟩ rfl (fun H hp hz hf => ?_)
    have hd := hd.fr hf (fun _ _ z => z)
    refine y_aload_n C 2 dX5_priceOfParts_16 rfl rfl ?_
    refine y_get5 C (dk_3 hd) 0 (by decide) q53 rfl rfl dX5_priceOfParts_17 ?_
    refine y_iload_n C 0 dX5_priceOfParts_20 rfl rfl ?_
    refine y_iald C (dk_4 hd) n rfl hlt (by decide) dX5_priceOfParts_21 ?_
    refine y_imul C dX5_priceOfParts_22 ?_
    refine y_iadd C dX5_priceOfParts_23 ?_
    refine y_istore_n C dX5_priceOfParts_24 rfl (by decide) rfl ?_
    refine y_iinc C 1 (nI (n + 1)) dX5_priceOfParts_25 rfl (nI_succ _).symm (by decide) rfl ?_
    refine y_goto C 4 dX5_priceOfParts_28 (by decide) ?_
    exact ih (n + 1) (by omega) _ (by rw [pop, hs]) H hd
def rm_X5_onOrder : Room := { frames := 0, cells := 0, slots := 0, locals := 0 }
set_option maxRecDepth 100000 in
set_option maxHeartbeats 4000000 in
theorem c_X5_onOrder (g : KG) (B0 : Nat) (l : Launch) (a : Nat) (d : DV) (p : Nat) (hsf : sf d) : Mt g B0 l yX5_onOrder cX5_onOrder 4 (some .int) rm_X5_onOrder [.ref (a + 3), .int (nI p)] (iv a 21) (dk g a d) (some (.int (oo d p (no d)))) (dk g a d) 0 0 := by
  refine Mt_of RX5 (by decide) rfl [(0, .ref (a + 3)), (1, .int (nI p))] rfl (Nat.le_of_ble_eq_true rfl) ?_
  intro pr e s m args below meth c C hr hin hd
  refine y_iconst C (0) dX5_onOrder_0 (by decide) ?_
  refine y_istore_n C dX5_onOrder_1 rfl (by decide) rfl ?_
  refine y_iconst C (0) dX5_onOrder_2 (by decide) ?_
  refine y_istore_n C dX5_onOrder_3 rfl (by decide) rfl ?_
  suffices K : ∀ rem n : Nat, n + rem = no d → ∀ sum : Int32, sum = oo d p n → ∀ H : Heap, dk g a d H → Yx (iv a 21) pr l e rm_X5_onOrder s m args below meth c 4 0 0 (MQ below (Qx (some (.int (oo d p (no d)))) (dk g a d) (iv a 21)) args s 0 0 (iv a 21)) [(3, .int (nI n)), (2, .int sum), (0, .ref (a + 3)), (1, .int (nI p))] H 4 [] from K (no d) 0 (Nat.zero_add _) _ rfl _ hd
  intro rem
  induction rem with
  | zero =>
    intro n hn sum hs H hd
    obtain rfl : n = no d := by omega
    refine y_iload_n C 0 dX5_onOrder_4 rfl rfl ?_
    refine y_aload_n C 2 dX5_onOrder_5 rfl rfl ?_
    refine y_get5 C (dk_3 hd) 4 (by decide) q57 rfl rfl dX5_onOrder_6 ?_
    refine y_icmp_ge C 37 dX5_onOrder_9 (by decide) (fun _ => ?_) (fun h => absurd (ge_t rfl hsf.1.1 (Nat.le_refl _) (by have := hsf.1.2; omega)) h)
    refine y_iload_n C 1 dX5_onOrder_37 rfl rfl ?_
    exact y_iret C hr (by rw [hs]) hd dX5_onOrder_38
  | succ rem ih =>
    intro n hn sum hs H hd
    have hlt : n < no d := by omega
    refine y_iload_n C 0 dX5_onOrder_4 rfl rfl ?_
    refine y_aload_n C 2 dX5_onOrder_5 rfl rfl ?_
    refine y_get5 C (dk_3 hd) 4 (by decide) q57 rfl rfl dX5_onOrder_6 ?_
    refine y_icmp_ge C 37 dX5_onOrder_9 (by decide) (fun h => absurd h (ge_f rfl hsf.1.1 hlt (by have := hsf.1.2; omega))) (fun _ => ?_)
    refine y_aload_n C 2 dX5_onOrder_12 rfl rfl ?_
    refine y_get5 C (dk_3 hd) 5 (by decide) q58 rfl rfl dX5_onOrder_13 ?_
    refine y_iload_n C 0 dX5_onOrder_16 rfl rfl ?_
    refine y_iald C (dk_8 hd) n rfl (by have := hsf.1.2; omega) (by decide) dX5_onOrder_17 ?_
    refine y_iload_n C 3 dX5_onOrder_18 rfl rfl ?_
    refine y_icmp_ne C 31 dX5_onOrder_19 (by decide) (fun h1 => ?_) (fun h1 => ?_)
    · refine y_iinc C 0 (nI (n + 1)) dX5_onOrder_31 rfl (nI_succ _).symm (by decide) rfl ?_
      refine y_goto C 4 dX5_onOrder_34 (by decide) ?_
      exact ih (n + 1) (by omega) _ (by rw [oo, if_neg h1, hs]) H hd
    · refine y_iload_n C 1 dX5_onOrder_22 rfl rfl ?_
      refine y_aload_n C 2 dX5_onOrder_23 rfl rfl ?_
      refine y_get5 C (dk_3 hd) 6 (by decide) q59 rfl rfl dX5_onOrder_24 ?_
      refine y_iload_n C 0 dX5_onOrder_27 rfl rfl ?_
      refine y_iald C (dk_9 hd) n rfl (by have := hsf.1.2; omega) (by decide) dX5_onOrder_28 ?_
      refine y_iadd C dX5_onOrder_29 ?_
      refine y_istore_n C dX5_onOrder_30 rfl (by decide) rfl ?_
      refine y_iinc C 1 (nI (n + 1)) dX5_onOrder_31 rfl (nI_succ _).symm (by decide) rfl ?_
      refine y_goto C 4 dX5_onOrder_34 (by decide) ?_
      exact ih (n + 1) (by omega) _ (by rw [oo, if_pos h1, hs]) H hd
def rm_X5_lowestShort : Room := { frames := 1, cells := 0, slots := 0, locals := 21 }
set_option maxRecDepth 100000 in
set_option maxHeartbeats 4000000 in
theorem c_X5_lowestShort (g : KG) (B0 : Nat) (l : Launch) (a : Nat) (d : DV) (f : Nat) (hf0 : f < 5) : Mt g B0 l yX5_lowestShort cX5_lowestShort 3 (some .int) rm_X5_lowestShort [.ref (a + 3), .int (nI f)] (iv a 21) (dk g a d) (some (.int (lsf d f 6 0))) (dk g a d) 0 0 := by
  refine Mt_of RX5 (by decide) rfl [(0, .ref (a + 3)), (1, .int (nI f))] rfl (Nat.le_of_ble_eq_true rfl) ?_
  intro pr e s m args below meth c C hr hin hd
  refine y_iconst C (0) dX5_lowestShort_0 (by decide) ?_
  refine y_istore_n C dX5_lowestShort_1 rfl (by decide) rfl ?_
  suffices K : ∀ rem n : Nat, n + rem = 6 → lsf d f rem n = lsf d f 6 0 → ∀ H : Heap, dk g a d H → Yx (iv a 21) pr l e rm_X5_lowestShort s m args below meth c 3 0 0 (MQ below (Qx (some (.int (lsf d f 6 0))) (dk g a d) (iv a 21)) args s 0 0 (iv a 21)) [(2, .int (nI n)), (0, .ref (a + 3)), (1, .int (nI f))] H 2 [] from K (6) 0 (Nat.zero_add _) rfl _ hd
  intro rem
  induction rem with
  | zero =>
    intro n hn hs H hd
    obtain rfl : n = 6 := by omega
    refine y_iload_n C 0 dX5_lowestShort_2 rfl rfl ?_
    refine y_bipush C (6) dX5_lowestShort_3 (by decide) ?_
    refine y_icmp_ge C 29 dX5_lowestShort_5 (by decide) (fun _ => ?_) (fun h => absurd (ge_t rfl rfl (Nat.le_refl 6) (by decide)) h)
    refine y_bipush C (-5) dX5_lowestShort_29 (by decide) ?_
    exact y_iret C hr (by rw [← hs]; rfl) hd dX5_lowestShort_31
  | succ rem ih =>
    intro n hn hs H hd
    have hlt : n < 6 := by omega
    refine y_iload_n C 0 dX5_lowestShort_2 rfl rfl ?_
    refine y_bipush C (6) dX5_lowestShort_3 (by decide) ?_
    refine y_icmp_ge C 29 dX5_lowestShort_5 (by decide) (fun h => absurd h (ge_f rfl rfl hlt (by decide))) (fun _ => ?_)
    refine y_aload_n C 1 dX5_lowestShort_8 rfl rfl ?_
    refine y_iload_n C 0 dX5_lowestShort_9 rfl rfl ?_
    refine y_callV C [.int (nI n)] (c_X5_free g B0 l a d n hlt) RX5 1 (wVin q204 q205 q206 q39 q207) hy_X5_free ⟨(Nat.le_of_ble_eq_true rfl), (Nat.le_of_ble_eq_true rfl)⟩ ⟨rfl, rfl⟩ (rcv C.2.2.2.2.2.1 (dk_3 hd) rfl) hd (fun _ h => h) rfl rfl (Nat.le_of_ble_eq_true rfl) dX5_lowestShort_10 ⟨(Nat.le_of_ble_eq_true rfl), (Nat.le_of_ble_eq_true rfl)⟩ rfl (fun H hp hz hf => ?_)
    have hd := hp
    refine y_iload_n C 2 dX5_lowestShort_13 rfl rfl ?_
    refine y_iload_n C 0 dX5_lowestShort_14 rfl rfl ?_
    refine y_callS C [.int (nI f), .int (nI n)] (c_X5_needOf g B0 l f n hf0 hlt) 2 (wSin q208 q209 q39 q210) hs_X5_needOf ⟨(Nat.le_of_ble_eq_true rfl), (Nat.le_of_ble_eq_true rfl)⟩ ⟨rfl, rfl⟩ trivial nF.no rfl rfl (Nat.le_of_ble_eq_true rfl) dX5_lowestShort_15 ⟨(Nat.le_of_ble_eq_true rfl), (Nat.le_of_ble_eq_true rfl)⟩ rfl (fun H hp hz hf => ?_)
    have hd := hd.fr hf (fun _ _ z => z)
    refine y_icmp_ge C 23 dX5_lowestShort_18 (by decide) (fun h1 => ?_) (fun h1 => ?_)
    · refine y_iinc C 0 (nI (n + 1)) dX5_lowestShort_23 rfl (nI_succ _).symm (by decide) rfl ?_
      refine y_goto C 2 dX5_lowestShort_26 (by decide) ?_
      exact ih (n + 1) (by omega) (by rw [← hs, lsf, if_pos h1]) H hd
    · refine y_iload_n C 0 dX5_lowestShort_21 rfl rfl ?_
      exact y_iret C hr (by rw [← hs, lsf, if_neg h1]) hd dX5_lowestShort_22
def rm_X5_isEnoughOrdered : Room := { frames := 1, cells := 0, slots := 0, locals := 23 }
set_option maxRecDepth 100000 in
set_option maxHeartbeats 4000000 in
theorem c_X5_isEnoughOrdered (g : KG) (B0 : Nat) (l : Launch) (a : Nat) (d : DV) (f : Nat) (hf0 : f < 5) (hsf : sf d) : Mt g B0 l yX5_isEnoughOrdered cX5_isEnoughOrdered 3 (some .boolean) rm_X5_isEnoughOrdered [.ref (a + 3), .int (nI f)] (iv a 21) (dk g a d) (some (.int (ieo d f 6 0))) (dk g a d) 0 0 := by
  refine Mt_of RX5 (by decide) rfl [(0, .ref (a + 3)), (1, .int (nI f))] rfl (Nat.le_of_ble_eq_true rfl) ?_
  intro pr e s m args below meth c C hr hin hd
  refine y_iconst C (0) dX5_isEnoughOrdered_0 (by decide) ?_
  refine y_istore_n C dX5_isEnoughOrdered_1 rfl (by decide) rfl ?_
  suffices K : ∀ rem n : Nat, n + rem = 6 → ieo d f rem n = ieo d f 6 0 → ∀ H : Heap, dk g a d H → Yx (iv a 21) pr l e rm_X5_isEnoughOrdered s m args below meth c 3 0 0 (MQ below (Qx (some (.int (ieo d f 6 0))) (dk g a d) (iv a 21)) args s 0 0 (iv a 21)) [(2, .int (nI n)), (0, .ref (a + 3)), (1, .int (nI f))] H 2 [] from K (6) 0 (Nat.zero_add _) rfl _ hd
  intro rem
  induction rem with
  | zero =>
    intro n hn hs H hd
    obtain rfl : n = 6 := by omega
    refine y_iload_n C 0 dX5_isEnoughOrdered_2 rfl rfl ?_
    refine y_bipush C (6) dX5_isEnoughOrdered_3 (by decide) ?_
    refine y_icmp_ge C 35 dX5_isEnoughOrdered_5 (by decide) (fun _ => ?_) (fun h => absurd (ge_t rfl rfl (Nat.le_refl 6) (by decide)) h)
    refine y_iconst C (1) dX5_isEnoughOrdered_35 (by decide) ?_
    exact y_zret C hr (by first | exact Or.inl rfl | exact Or.inr rfl) (by rw [← hs]; rfl) hd dX5_isEnoughOrdered_36
  | succ rem ih =>
    intro n hn hs H hd
    have hlt : n < 6 := by omega
    refine y_iload_n C 0 dX5_isEnoughOrdered_2 rfl rfl ?_
    refine y_bipush C (6) dX5_isEnoughOrdered_3 (by decide) ?_
    refine y_icmp_ge C 35 dX5_isEnoughOrdered_5 (by decide) (fun h => absurd h (ge_f rfl rfl hlt (by decide))) (fun _ => ?_)
    refine y_aload_n C 1 dX5_isEnoughOrdered_8 rfl rfl ?_
    refine y_iload_n C 0 dX5_isEnoughOrdered_9 rfl rfl ?_
    refine y_callV C [.int (nI n)] (c_X5_free g B0 l a d n hlt) RX5 1 (wVin q204 q205 q206 q39 q207) hy_X5_free ⟨(Nat.le_of_ble_eq_true rfl), (Nat.le_of_ble_eq_true rfl)⟩ ⟨rfl, rfl⟩ (rcv C.2.2.2.2.2.1 (dk_3 hd) rfl) hd (fun _ h => h) rfl rfl (Nat.le_of_ble_eq_true rfl) dX5_isEnoughOrdered_10 ⟨(Nat.le_of_ble_eq_true rfl), (Nat.le_of_ble_eq_true rfl)⟩ rfl (fun H hp hz hf => ?_)
    have hd := hp
    refine y_aload_n C 1 dX5_isEnoughOrdered_13 rfl rfl ?_
    refine y_iload_n C 0 dX5_isEnoughOrdered_14 rfl rfl ?_
    refine y_callV C [.int (nI n)] (c_X5_onOrder g B0 l a d n hsf) RX5 1 (wVin q430 q401 q402 q39 q403) hy_X5_onOrder ⟨(Nat.le_of_ble_eq_true rfl), (Nat.le_of_ble_eq_true rfl)⟩ ⟨rfl, rfl⟩ (rcv C.2.2.2.2.2.1 (dk_3 hd) rfl) hd (fun _ h => h) rfl rfl (Nat.le_of_ble_eq_true rfl) dX5_isEnoughOrdered_15 ⟨(Nat.le_of_ble_eq_true rfl), (Nat.le_of_ble_eq_true rfl)⟩ rfl (fun H hp hz hf => ?_)
    have hd := hp
    refine y_iadd C dX5_isEnoughOrdered_18 ?_
    refine y_iload_n C 2 dX5_isEnoughOrdered_19 rfl rfl ?_
    refine y_iload_n C 0 dX5_isEnoughOrdered_20 rfl rfl ?_
    refine y_callS C [.int (nI f), .int (nI n)] (c_X5_needOf g B0 l f n hf0 hlt) 2 (wSin q208 q209 q39 q210) hs_X5_needOf ⟨(Nat.le_of_ble_eq_true rfl), (Nat.le_of_ble_eq_true rfl)⟩ ⟨rfl, rfl⟩ trivial nF.no rfl rfl (Nat.le_of_ble_eq_true rfl) dX5_isEnoughOrdered_21 ⟨(Nat.le_of_ble_eq_true rfl), (Nat.le_of_ble_eq_true rfl)⟩ rfl (fun H hp hz hf => ?_)
    have hd := hd.fr hf (fun _ _ z => z)
    refine y_icmp_ge C 29 dX5_isEnoughOrdered_24 (by decide) (fun h1 => ?_) (fun h1 => ?_)
    · refine y_iinc C 0 (nI (n + 1)) dX5_isEnoughOrdered_29 rfl (nI_succ _).symm (by decide) rfl ?_
      refine y_goto C 2 dX5_isEnoughOrdered_32 (by decide) ?_
      exact ih (n + 1) (by omega) (by rw [← hs, ieo, if_pos h1]) H hd
    · refine y_iconst C (0) dX5_isEnoughOrdered_27 (by decide) ?_
      exact y_zret C hr (by first | exact Or.inl rfl | exact Or.inr rfl) (by rw [← hs, ieo, if_neg h1]) hd dX5_isEnoughOrdered_28
def rm_X5_reserveFor : Room := { frames := 1, cells := 0, slots := 0, locals := 21 }
set_option maxRecDepth 100000 in
set_option maxHeartbeats 4000000 in
theorem c_X5_reserveFor (g : KG) (B0 : Nat) (l : Launch) (a : Nat) (d : DV) (f : Nat) (hf0 : f < 5) : Mt g B0 l yX5_reserveFor cX5_reserveFor 3 none rm_X5_reserveFor [.ref (a + 3), .int (nI f)] (iv a 21) (dk g a d) none (dk g a (rsv d f 6)) 0 0 := by
  refine Mt_of RX5 (by decide) rfl [(0, .ref (a + 3)), (1, .int (nI f))] rfl (Nat.le_of_ble_eq_true rfl) ?_
  intro pr e s m args below meth c C hr hin hd
  refine y_iconst C (0) dX5_reserveFor_0 (by decide) ?_
  refine y_istore_n C dX5_reserveFor_1 rfl (by decide) rfl ?_
  suffices K : ∀ rem n : Nat, n + rem = 6 → ∀ D : DV, D = rsv d f n → ∀ H : Heap, dk g a D H → Yx (iv a 21) pr l e rm_X5_reserveFor s m args below meth c 3 0 0 (MQ below (Qx none (dk g a (rsv d f 6)) (iv a 21)) args s 0 0 (iv a 21)) [(2, .int (nI n)), (0, .ref (a + 3)), (1, .int (nI f))] H 2 [] from K (6) 0 (Nat.zero_add _) d rfl _ hd
  intro rem
  induction rem with
  | zero =>
    intro n hn D hs H hd
    obtain rfl : n = 6 := by omega
    refine y_iload_n C 0 dX5_reserveFor_2 rfl rfl ?_
    refine y_bipush C (6) dX5_reserveFor_3 (by decide) ?_
    refine y_icmp_ge C 28 dX5_reserveFor_5 (by decide) (fun _ => ?_) (fun h => absurd (ge_t rfl rfl (Nat.le_refl 6) (by decide)) h)
    exact y_vret C hr (hs ▸ hd) dX5_reserveFor_28
  | succ rem ih =>
    intro n hn D hs H hd
    have hlt : n < 6 := by omega
    refine y_iload_n C 0 dX5_reserveFor_2 rfl rfl ?_
    refine y_bipush C (6) dX5_reserveFor_3 (by decide) ?_
    refine y_icmp_ge C 28 dX5_reserveFor_5 (by decide) (fun h => absurd h (ge_f rfl rfl hlt (by decide))) (fun _ => ?_)
    refine y_aload_n C 1 dX5_reserveFor_8 rfl rfl ?_
    refine y_get5 C (dk_3 hd) 3 (by decide) q56 rfl rfl dX5_reserveFor_9 ?_
    refine y_iload_n C 0 dX5_reserveFor_12 rfl rfl ?_
    refine y_dup2 C dX5_reserveFor_13 rfl rfl ?_
    refine y_iald C (dk_7 hd) n rfl hlt (by decide) dX5_reserveFor_14 ?_
    refine y_iload_n C 2 dX5_reserveFor_15 rfl rfl ?_
    refine y_iload_n C 0 dX5_reserveFor_16 rfl rfl ?_
    refine y_callS C [.int (nI f), .int (nI n)] (c_X5_needOf g B0 l f n hf0 hlt) 2 (wSin q208 q209 q39 q210) hs_X5_needOf ⟨(Nat.le_of_ble_eq_true rfl), (Nat.le_of_ble_eq_true rfl)⟩ ⟨rfl, rfl⟩ trivial nF.no rfl rfl (Nat.le_of_ble_eq_true rfl) dX5_reserveFor_17 ⟨(Nat.le_of_ble_eq_true rfl), (Nat.le_of_ble_eq_true rfl)⟩ rfl (fun H hp hz hf => ?_)
    have hd := hd.fr hf (fun _ _ z => z)
    refine y_iadd C dX5_reserveFor_20 ?_
    refine y_iast C (dk_7 hd) (ivm 7 (by decide)) n rfl hlt (by decide) dX5_reserveFor_21 (fun H hw1 ow1 zw1 => ?_)
    have hd := dk_set7 hd hw1 ow1
    refine y_iinc C 0 (nI (n + 1)) dX5_reserveFor_22 rfl (nI_succ _).symm (by decide) rfl ?_
    refine y_goto C 2 dX5_reserveFor_25 (by decide) ?_
    exact ih (n + 1) (by omega) _ (by rw [rsv, ← hs] <;> rfl) H hd
def rm_X5_takeReservedFor : Room := { frames := 1, cells := 0, slots := 0, locals := 21 }
set_option maxRecDepth 100000 in
set_option maxHeartbeats 4000000 in
theorem c_X5_takeReservedFor (g : KG) (B0 : Nat) (l : Launch) (a : Nat) (d : DV) (f : Nat) (hf0 : f < 5) : Mt g B0 l yX5_takeReservedFor cX5_takeReservedFor 3 none rm_X5_takeReservedFor [.ref (a + 3), .int (nI f)] (iv a 21) (dk g a d) none (dk g a (trv d f 6)) 0 0 := by
  refine Mt_of RX5 (by decide) rfl [(0, .ref (a + 3)), (1, .int (nI f))] rfl (Nat.le_of_ble_eq_true rfl) ?_
  intro pr e s m args below meth c C hr hin hd
  refine y_iconst C (0) dX5_takeReservedFor_0 (by decide) ?_
  refine y_istore_n C dX5_takeReservedFor_1 rfl (by decide) rfl ?_
  suffices K : ∀ rem n : Nat, n + rem = 6 → ∀ D : DV, D = trv d f n → ∀ H : Heap, dk g a D H → Yx (iv a 21) pr l e rm_X5_takeReservedFor s m args below meth c 3 0 0 (MQ below (Qx none (dk g a (trv d f 6)) (iv a 21)) args s 0 0 (iv a 21)) [(2, .int (nI n)), (0, .ref (a + 3)), (1, .int (nI f))] H 2 [] from K (6) 0 (Nat.zero_add _) d rfl _ hd
  intro rem
  induction rem with
  | zero =>
    intro n hn D hs H hd
    obtain rfl : n = 6 := by omega
    refine y_iload_n C 0 dX5_takeReservedFor_2 rfl rfl ?_
    refine y_bipush C (6) dX5_takeReservedFor_3 (by decide) ?_
    refine y_icmp_ge C 42 dX5_takeReservedFor_5 (by decide) (fun _ => ?_) (fun h => absurd (ge_t rfl rfl (Nat.le_refl 6) (by decide)) h)
    exact y_vret C hr (hs ▸ hd) dX5_takeReservedFor_42
  | succ rem ih =>
    intro n hn D hs H hd
    have hlt : n < 6 := by omega
    refine y_iload_n C 0 dX5_takeReservedFor_2 rfl rfl ?_
    refine y_bipush C (6) dX5_takeReservedFor_3 (by decide) ?_
    refine y_icmp_ge C 42 dX5_takeReservedFor_5 (by decide) (fun h => absurd h (ge_f rfl rfl hlt (by decide))) (fun _ => ?_)
    refine y_aload_n C 1 dX5_takeReservedFor_8 rfl rfl ?_
    refine y_get5 C (dk_3 hd) 2 (by decide) q55 rfl rfl dX5_takeReservedFor_9 ?_
    refine y_iload_n C 0 dX5_takeReservedFor_12 rfl rfl ?_
    refine y_dup2 C dX5_takeReservedFor_13 rfl rfl ?_
    refine y_iald C (dk_6 hd) n rfl hlt (by decide) dX5_takeReservedFor_14 ?_
    refine y_iload_n C 2 dX5_takeReservedFor_15 rfl rfl ?_
    refine y_iload_n C 0 dX5_takeReservedFor_16 rfl rfl ?_
    refine y_callS C [.int (nI f), .int (nI n)] (c_X5_needOf g B0 l f n hf0 hlt) 2 (wSin q208 q209 q39 q210) hs_X5_needOf ⟨(Nat.le_of_ble_eq_true rfl), (Nat.le_of_ble_eq_true rfl)⟩ ⟨rfl, rfl⟩ trivial nF.no rfl rfl (Nat.le_of_ble_eq_true rfl) dX5_takeReservedFor_17 ⟨(Nat.le_of_ble_eq_true rfl), (Nat.le_of_ble_eq_true rfl)⟩ rfl (fun H hp hz hf => ?_)
    have hd := hd.fr hf (fun _ _ z => z)
    refine y_isub C dX5_takeReservedFor_20 ?_
    refine y_iast C (dk_6 hd) (ivm 6 (by decide)) n rfl hlt (by decide) dX5_takeReservedFor_21 (fun H hw1 ow1 zw1 => ?_)
    have hd := dk_set6 hd hw1 ow1
    refine y_aload_n C 1 dX5_takeReservedFor_22 rfl rfl ?_
    refine y_get5 C (dk_3 hd) 3 (by decide) q56 rfl rfl dX5_takeReservedFor_23 ?_
    refine y_iload_n C 0 dX5_takeReservedFor_26 rfl rfl ?_
    refine y_dup2 C dX5_takeReservedFor_27 rfl rfl ?_
    refine y_iald C (dk_7 hd) n rfl hlt (by decide) dX5_takeReservedFor_28 ?_
    refine y_iload_n C 2 dX5_takeReservedFor_29 rfl rfl ?_
    refine y_iload_n C 0 dX5_takeReservedFor_30 rfl rfl ?_
    refine y_callS C [.int (nI f), .int (nI n)] (c_X5_needOf g B0 l f n hf0 hlt) 2 (wSin q208 q209 q39 q210) hs_X5_needOf ⟨(Nat.le_of_ble_eq_true rfl), (Nat.le_of_ble_eq_true rfl)⟩ ⟨rfl, rfl⟩ trivial nF.no rfl rfl (Nat.le_of_ble_eq_true rfl) dX5_takeReservedFor_31 ⟨(Nat.le_of_ble_eq_true rfl), (Nat.le_of_ble_eq_true rfl)⟩ rfl (fun H hp hz hf => ?_)
    have hd := hd.fr hf (fun _ _ z => z)
    refine y_isub C dX5_takeReservedFor_34 ?_
    refine y_iast C (dk_7 hd) (ivm 7 (by decide)) n rfl hlt (by decide) dX5_takeReservedFor_35 (fun H hw1 ow1 zw1 => ?_)
    have hd := dk_set7 hd hw1 ow1
    refine y_iinc C 0 (nI (n + 1)) dX5_takeReservedFor_36 rfl (nI_succ _).symm (by decide) rfl ?_
    refine y_goto C 2 dX5_takeReservedFor_39 (by decide) ?_
    exact ih (n + 1) (by omega) _ (by rw [trv, ← hs] <;> rfl) H hd
def rm_X5_addOrder : Room := { frames := 0, cells := 0, slots := 0, locals := 0 }
set_option maxRecDepth 100000 in
set_option maxHeartbeats 4000000 in
theorem c_X5_addOrder (g : KG) (B0 : Nat) (l : Launch) (a : Nat) (d : DV) (p many comes : Int32) (hsf : sf d) (hno : no d < 12) : Mt g B0 l yX5_addOrder cX5_addOrder 4 none rm_X5_addOrder [.ref (a + 3), .int p, .int many, .int comes] (iv a 21) (dk g a d) none (dk g a (ado d p many comes)) 0 0 := by
  refine Mt_of RX5 (by decide) rfl [(0, .ref (a + 3)), (1, .int p), (2, .int many), (3, .int comes)] rfl (Nat.le_of_ble_eq_true rfl) ?_
  intro pr e s m args below meth c C hr hin hd
  refine y_aload_n C 0 dX5_addOrder_0 rfl rfl ?_
  refine y_get5 C (dk_3 hd) 4 (by decide) q57 rfl rfl dX5_addOrder_1 ?_
  refine y_bipush C (12) dX5_addOrder_4 (by decide) ?_
  refine y_icmp_lt C 10 dX5_addOrder_6 (by decide) (fun _ => ?_) (fun h => absurd (lt_t hsf.1.1 rfl hno (by decide)) h)
  refine y_aload_n C 0 dX5_addOrder_10 rfl rfl ?_
  refine y_get5 C (dk_3 hd) 5 (by decide) q58 rfl rfl dX5_addOrder_11 ?_
  refine y_aload_n C 0 dX5_addOrder_14 rfl rfl ?_
  refine y_get5 C (dk_3 hd) 4 (by decide) q57 rfl rfl dX5_addOrder_15 ?_
  refine y_iload_n C 1 dX5_addOrder_18 rfl rfl ?_
  refine y_iast C (dk_8 hd) (ivm 8 (by decide)) (no d) hsf.1.1 hno (by decide) dX5_addOrder_19 (fun H hw1 ow1 zw1 => ?_)
  have hd := dk_set8 hd hw1 ow1
  refine y_aload_n C 0 dX5_addOrder_20 rfl rfl ?_
  refine y_get5 C (dk_3 hd) 6 (by decide) q59 rfl rfl dX5_addOrder_21 ?_
  refine y_aload_n C 0 dX5_addOrder_24 rfl rfl ?_
  refine y_get5 C (dk_3 hd) 4 (by decide) q57 rfl rfl dX5_addOrder_25 ?_
  refine y_iload_n C 2 dX5_addOrder_28 rfl rfl ?_
  refine y_iast C (dk_9 hd) (ivm 9 (by decide)) (no d) hsf.1.1 hno (by decide) dX5_addOrder_29 (fun H hw1 ow1 zw1 => ?_)
  have hd := dk_set9 hd hw1 ow1
  refine y_aload_n C 0 dX5_addOrder_30 rfl rfl ?_
  refine y_get5 C (dk_3 hd) 7 (by decide) q60 rfl rfl dX5_addOrder_31 ?_
  refine y_aload_n C 0 dX5_addOrder_34 rfl rfl ?_
  refine y_get5 C (dk_3 hd) 4 (by decide) q57 rfl rfl dX5_addOrder_35 ?_
  refine y_iload_n C 3 dX5_addOrder_38 rfl rfl ?_
  refine y_iast C (dk_10 hd) (ivm 10 (by decide)) (no d) hsf.1.1 hno (by decide) dX5_addOrder_39 (fun H hw1 ow1 zw1 => ?_)
  have hd := dk_set10 hd hw1 ow1
  refine y_aload_n C 0 dX5_addOrder_40 rfl rfl ?_
  refine y_dup C dX5_addOrder_41 rfl ?_
  refine y_get5 C (dk_3 hd) 4 (by decide) q57 rfl rfl dX5_addOrder_42 ?_
  refine y_iconst C (1) dX5_addOrder_45 (by decide) ?_
  refine y_iadd C dX5_addOrder_46 ?_
  refine y_put5 C (dk_3 hd) (ivm 3 (by decide)) 4 (by decide) q57 rfl rfl (ty := .int) (by decide +kernel) rfl rfl (Nat.le_of_ble_eq_true rfl) dX5_addOrder_47 (fun H hw1 ow1 zw1 => ?_)
  have hd := dk_put3_4 hd hw1 ow1
  exact y_vret C hr hd dX5_addOrder_50
theorem dof_le (d : DV) (day : Int32) (n : Nat) : (dof d day n).2 ≤ n := by
  induction n with
  | zero => exact Nat.le_refl 0
  | succ n ih => rw [dof]; split <;> first | omega | (dsimp only; omega)
theorem dof_ne (d : DV) (day : Int32) (i : Nat) (h8 : i ≠ 8) (h9 : i ≠ 9) (h10 : i ≠ 10) (n : Nat) : (dof d day n).1.1 i = d.1 i := by
  induction n with
  | zero => rfl
  | succ n ih =>
    rw [dof]
    split
    · exact ih
    · simp only [dset, h8, h9, h10, if_false]; exact ih
def rm_X5_dropOrdersOf : Room := { frames := 0, cells := 0, slots := 0, locals := 0 }
set_option maxRecDepth 100000 in
set_option maxHeartbeats 4000000 in
theorem c_X5_dropOrdersOf (g : KG) (B0 : Nat) (l : Launch) (a : Nat) (d : DV) (day : Int32) (hsf : sf d) : Mt g B0 l yX5_dropOrdersOf cX5_dropOrdersOf 4 none rm_X5_dropOrdersOf [.ref (a + 3), .int day] (iv a 21) (dk g a d) none (dk g a (dofd d day)) 0 0 := by
  refine Mt_of RX5 (by decide) rfl [(0, .ref (a + 3)), (1, .int day)] rfl (Nat.le_of_ble_eq_true rfl) ?_
  intro pr e s m args below meth c C hr hin hd
  refine y_iconst C (0) dX5_dropOrdersOf_0 (by decide) ?_
  refine y_istore_n C dX5_dropOrdersOf_1 rfl (by decide) rfl ?_
  refine y_iconst C (0) dX5_dropOrdersOf_2 (by decide) ?_
  refine y_istore_n C dX5_dropOrdersOf_3 rfl (by decide) rfl ?_
  suffices K : ∀ rem n : Nat, n + rem = no d → ∀ (D : DV) (L : Nat), (D, L) = dof d day n → ∀ H : Heap, dk g a D H → Yx (iv a 21) pr l e rm_X5_dropOrdersOf s m args below meth c 4 0 0 (MQ below (Qx none (dk g a (dofd d day)) (iv a 21)) args s 0 0 (iv a 21)) [(3, .int (nI n)), (2, .int (nI L)), (0, .ref (a + 3)), (1, .int day)] H 4 [] from K (no d) 0 (Nat.zero_add _) d 0 rfl _ hd
  intro rem
  induction rem with
  | zero =>
    intro n hn D L hs H hd
    have h3 : D.1 3 0 = nI (no d) := by have h := dof_ne d day 3 (by decide) (by decide) (by decide) n; rw [← hs] at h; rw [← hsf.1.1]; exact congrFun h 0
    obtain rfl : n = no d := by omega
    refine y_iload_n C 0 dX5_dropOrdersOf_4 rfl rfl ?_
    refine y_aload_n C 2 dX5_dropOrdersOf_5 rfl rfl ?_
    refine y_get5 C (dk_3 hd) 4 (by decide) q57 rfl rfl dX5_dropOrdersOf_6 ?_
    refine y_icmp_ge C 67 dX5_dropOrdersOf_9 (by decide) (fun _ => ?_) (fun h => absurd (ge_t rfl h3 (Nat.le_refl _) (by have := hsf.1.2; omega)) h)
    refine y_aload_n C 2 dX5_dropOrdersOf_67 rfl rfl ?_
    refine y_iload_n C 1 dX5_dropOrdersOf_68 rfl rfl ?_
    refine y_put5 C (dk_3 hd) (ivm 3 (by decide)) 4 (by decide) q57 rfl rfl (ty := .int) (by decide +kernel) rfl rfl (Nat.le_of_ble_eq_true rfl) dX5_dropOrdersOf_69 (fun H hw1 ow1 zw1 => ?_)
    have hd := dk_put3_4 hd hw1 ow1
    exact y_vret C hr (by rw [dofd, ← hs]; exact hd) dX5_dropOrdersOf_72
  | succ rem ih =>
    intro n hn D L hs H hd
    have hlt : n < no d := by omega
    have h3 : D.1 3 0 = nI (no d) := by have h := dof_ne d day 3 (by decide) (by decide) (by decide) n; rw [← hs] at h; rw [← hsf.1.1]; exact congrFun h 0
    have hL : L ≤ n := by have h := dof_le d day n; rw [← hs] at h; exact h
    refine y_iload_n C 0 dX5_dropOrdersOf_4 rfl rfl ?_
    refine y_aload_n C 2 dX5_dropOrdersOf_5 rfl rfl ?_
    refine y_get5 C (dk_3 hd) 4 (by decide) q57 rfl rfl dX5_dropOrdersOf_6 ?_
    refine y_icmp_ge C 67 dX5_dropOrdersOf_9 (by decide) (fun h => absurd h (ge_f rfl h3 hlt (by have := hsf.1.2; omega))) (fun _ => ?_)
    refine y_aload_n C 2 dX5_dropOrdersOf_12 rfl rfl ?_
    refine y_get5 C (dk_3 hd) 7 (by decide) q60 rfl rfl dX5_dropOrdersOf_13 ?_
    refine y_iload_n C 0 dX5_dropOrdersOf_16 rfl rfl ?_
    refine y_iald C (dk_10 hd) n rfl (by have := hsf.1.2; omega) (by decide) dX5_dropOrdersOf_17 ?_
    refine y_iload_n C 3 dX5_dropOrdersOf_18 rfl rfl ?_
    refine y_icmp_eq C 61 dX5_dropOrdersOf_19 (by decide) (fun h1 => ?_) (fun h1 => ?_)
    · refine y_iinc C 0 (nI (n + 1)) dX5_dropOrdersOf_61 rfl (nI_succ _).symm (by decide) rfl ?_
      refine y_goto C 4 dX5_dropOrdersOf_64 (by decide) ?_
      exact ih (n + 1) (by omega) _ _ (by rw [dof, ← hs]; dsimp only; rw [if_pos h1]) H hd
    · refine y_aload_n C 2 dX5_dropOrdersOf_22 rfl rfl ?_
      refine y_get5 C (dk_3 hd) 5 (by decide) q58 rfl rfl dX5_dropOrdersOf_23 ?_
      refine y_iload_n C 1 dX5_dropOrdersOf_26 rfl rfl ?_
      refine y_aload_n C 2 dX5_dropOrdersOf_27 rfl rfl ?_
      refine y_get5 C (dk_3 hd) 5 (by decide) q58 rfl rfl dX5_dropOrdersOf_28 ?_
      refine y_iload_n C 0 dX5_dropOrdersOf_31 rfl rfl ?_
      refine y_iald C (dk_8 hd) n rfl (by have := hsf.1.2; omega) (by decide) dX5_dropOrdersOf_32 ?_
      refine y_iast C (dk_8 hd) (ivm 8 (by decide)) L rfl (by have := hsf.1.2; omega) (by decide) dX5_dropOrdersOf_33 (fun H hw1 ow1 zw1 => ?_)
      have hd := dk_set8 hd hw1 ow1
      refine y_aload_n C 2 dX5_dropOrdersOf_34 rfl rfl ?_
      refine y_get5 C (dk_3 hd) 6 (by decide) q59 rfl rfl dX5_dropOrdersOf_35 ?_
      refine y_iload_n C 1 dX5_dropOrdersOf_38 rfl rfl ?_
      refine y_aload_n C 2 dX5_dropOrdersOf_39 rfl rfl ?_
      refine y_get5 C (dk_3 hd) 6 (by decide) q59 rfl rfl dX5_dropOrdersOf_40 ?_
      refine y_iload_n C 0 dX5_dropOrdersOf_43 rfl rfl ?_
      refine y_iald C (dk_9 hd) n rfl (by have := hsf.1.2; omega) (by decide) dX5_dropOrdersOf_44 ?_
      refine y_iast C (dk_9 hd) (ivm 9 (by decide)) L rfl (by have := hsf.1.2; omega) (by decide) dX5_dropOrdersOf_45 (fun H hw1 ow1 zw1 => ?_)
      have hd := dk_set9 hd hw1 ow1
      refine y_aload_n C 2 dX5_dropOrdersOf_46 rfl rfl ?_
      refine y_get5 C (dk_3 hd) 7 (by decide) q60 rfl rfl dX5_dropOrdersOf_47 ?_
      refine y_iload_n C 1 dX5_dropOrdersOf_50 rfl rfl ?_
      refine y_aload_n C 2 dX5_dropOrdersOf_51 rfl rfl ?_
      refine y_get5 C (dk_3 hd) 7 (by decide) q60 rfl rfl dX5_dropOrdersOf_52 ?_
      refine y_iload_n C 0 dX5_dropOrdersOf_55 rfl rfl ?_
      refine y_iald C (dk_10 hd) n rfl (by have := hsf.1.2; omega) (by decide) dX5_dropOrdersOf_56 ?_
      refine y_iast C (dk_10 hd) (ivm 10 (by decide)) L rfl (by have := hsf.1.2; omega) (by decide) dX5_dropOrdersOf_57 (fun H hw1 ow1 zw1 => ?_)
      have hd := dk_set10 hd hw1 ow1
      refine y_iinc C 1 (nI (L + 1)) dX5_dropOrdersOf_58 rfl (nI_succ _).symm (by decide) rfl ?_
      refine y_iinc C 1 (nI (n + 1)) dX5_dropOrdersOf_61 rfl (nI_succ _).symm (by decide) rfl ?_
      refine y_goto C 4 dX5_dropOrdersOf_64 (by decide) ?_
      exact ih (n + 1) (by omega) _ _ (by rw [dof, ← hs]; dsimp only; rw [if_neg h1] <;> rfl) H hd
end
section
/-! THE SETS, as numbers -/
theorem dset_ne (d : DV) (i k j : Nat) (x : Int32) (h : j ≠ i) : (dset d i k x).1 j = d.1 j := if_neg h
theorem dset_at (d : DV) (i k : Nat) (x : Int32) : (dset d i k x).1 i = upd (d.1 i) k x := if_pos rfl
def isR (d : DV) (k : Nat) : Int32 := if d.1 18 k = 4 then 1 else if d.1 18 k = 5 then 1 else 0
def itf (d : DV) (k : Nat) (st lo : Int32) : Int32 := if d.1 18 k = st then (if d.1 17 k = lo then 1 else 0) else 0
def ins (d : DV) (st : Int32) : Nat → Int32
  | 0 => 0
  | n + 1 => if d.1 18 n = st then ins d st n + 1 else ins d st n
def wlo (d : DV) : Nat → Int32
  | 0 => 0
  | n + 1 => wlo d n + d.1 17 n
def adS (d : DV) (f day : Int32) : DV := dset (dset (dset (dset (dset (dset (dset (dset (dset d 12 (nm d) f) 13 (nm d) day) 14 (nm d) 0) 15 (nm d) 0) 16 (nm d) 0) 17 (nm d) 0) 18 (nm d) 0) 19 (nm d) (-5)) 11 0 (d.1 11 0 + 1)
def rm_X4_isReady : Room := { frames := 0, cells := 0, slots := 0, locals := 0 }
set_option maxRecDepth 100000 in
set_option maxHeartbeats 4000000 in
theorem c_X4_isReady (g : KG) (B0 : Nat) (l : Launch) (a : Nat) (d : DV) (k : Nat) (hk : k < 20) : Mt g B0 l yX4_isReady cX4_isReady 2 (some .boolean) rm_X4_isReady [.ref (a + 11), .int (nI k)] (iv a 21) (dk g a d) (some (.int (isR d k))) (dk g a d) 0 0 := by
  refine Mt_of RX4 (by decide) rfl [(0, .ref (a + 11)), (1, .int (nI k))] rfl (Nat.le_of_ble_eq_true rfl) ?_
  intro pr e s m args below meth c C hr hin hd
  refine y_aload_n C 0 dX4_isReady_0 rfl rfl ?_
  refine y_get4 C (dk_11 hd) 7 (by decide) q72 rfl rfl dX4_isReady_1 ?_
  refine y_iload_n C 1 dX4_isReady_4 rfl rfl ?_
  refine y_iald C (dk_18 hd) k rfl hk (by decide) dX4_isReady_5 ?_
  refine y_iconst C (4) dX4_isReady_6 (by decide) ?_
  refine y_icmp_eq C 20 dX4_isReady_7 (by decide) (fun h1 => ?_) (fun h1 => ?_)
  · refine y_iconst C (1) dX4_isReady_20 (by decide) ?_
    refine y_goto C 25 dX4_isReady_21 (by decide) ?_
    exact y_zret C hr (by first | exact Or.inl rfl | exact Or.inr rfl) (by first | (rw [isR, if_neg h1]; done) | (rw [isR, if_pos h1]; done) | (rw [isR]; done)) hd dX4_isReady_25
  · refine y_aload_n C 0 dX4_isReady_10 rfl rfl ?_
    refine y_get4 C (dk_11 hd) 7 (by decide) q72 rfl rfl dX4_isReady_11 ?_
    refine y_iload_n C 1 dX4_isReady_14 rfl rfl ?_
    refine y_iald C (dk_18 hd) k rfl hk (by decide) dX4_isReady_15 ?_
    refine y_iconst C (5) dX4_isReady_16 (by decide) ?_
    refine y_icmp_ne C 24 dX4_isReady_17 (by decide) (fun h2 => ?_) (fun h2 => ?_)
    · refine y_iconst C (0) dX4_isReady_24 (by decide) ?_
      exact y_zret C hr (by first | exact Or.inl rfl | exact Or.inr rfl) (by first | (rw [isR, if_neg h1, if_neg h2]; done) | (rw [isR, if_neg h1, if_pos h2]; done) | (rw [isR, if_pos h1, if_neg h2]; done) | (rw [isR, if_pos h1, if_pos h2]; done) | (rw [isR, if_neg h1]; done) | (rw [isR, if_pos h1]; done) | (rw [isR]; done)) hd dX4_isReady_25
    · refine y_iconst C (1) dX4_isReady_20 (by decide) ?_
      refine y_goto C 25 dX4_isReady_21 (by decide) ?_
      exact y_zret C hr (by first | exact Or.inl rfl | exact Or.inr rfl) (by first | (rw [isR, if_neg h1, if_neg h2]; done) | (rw [isR, if_neg h1, if_pos h2]; done) | (rw [isR, if_pos h1, if_neg h2]; done) | (rw [isR, if_pos h1, if_pos h2]; done) | (rw [isR, if_neg h1]; done) | (rw [isR, if_pos h1]; done) | (rw [isR]; done)) hd dX4_isReady_25
def rm_X4_isTurnOf : Room := { frames := 0, cells := 0, slots := 0, locals := 0 }
set_option maxRecDepth 100000 in
set_option maxHeartbeats 4000000 in
theorem c_X4_isTurnOf (g : KG) (B0 : Nat) (l : Launch) (a : Nat) (d : DV) (k : Nat) (wst wlo : Int32) (hk : k < 20) : Mt g B0 l yX4_isTurnOf cX4_isTurnOf 4 (some .boolean) rm_X4_isTurnOf [.ref (a + 11), .int (nI k), .int wst, .int wlo] (iv a 21) (dk g a d) (some (.int (itf d k wst wlo))) (dk g a d) 0 0 := by
  refine Mt_of RX4 (by decide) rfl [(0, .ref (a + 11)), (1, .int (nI k)), (2, .int wst), (3, .int wlo)] rfl (Nat.le_of_ble_eq_true rfl) ?_
  intro pr e s m args below meth c C hr hin hd
  refine y_aload_n C 0 dX4_isTurnOf_0 rfl rfl ?_
  refine y_get4 C (dk_11 hd) 7 (by decide) q72 rfl rfl dX4_isTurnOf_1 ?_
  refine y_iload_n C 1 dX4_isTurnOf_4 rfl rfl ?_
  refine y_iald C (dk_18 hd) k rfl hk (by decide) dX4_isTurnOf_5 ?_
  refine y_iload_n C 2 dX4_isTurnOf_6 rfl rfl ?_
  refine y_icmp_ne C 24 dX4_isTurnOf_7 (by decide) (fun h1 => ?_) (fun h1 => ?_)
  · refine y_iconst C (0) dX4_isTurnOf_24 (by decide) ?_
    exact y_zret C hr (by first | exact Or.inl rfl | exact Or.inr rfl) (by first | (rw [itf, if_neg h1]; done) | (rw [itf, if_pos h1]; done) | (rw [itf]; done)) hd dX4_isTurnOf_25
  · refine y_aload_n C 0 dX4_isTurnOf_10 rfl rfl ?_
    refine y_get4 C (dk_11 hd) 6 (by decide) q71 rfl rfl dX4_isTurnOf_11 ?_
    refine y_iload_n C 1 dX4_isTurnOf_14 rfl rfl ?_
    refine y_iald C (dk_17 hd) k rfl hk (by decide) dX4_isTurnOf_15 ?_
    refine y_iload_n C 3 dX4_isTurnOf_16 rfl rfl ?_
    refine y_icmp_ne C 24 dX4_isTurnOf_17 (by decide) (fun h2 => ?_) (fun h2 => ?_)
    · refine y_iconst C (0) dX4_isTurnOf_24 (by decide) ?_
      exact y_zret C hr (by first | exact Or.inl rfl | exact Or.inr rfl) (by first | (rw [itf, if_neg h1, if_neg h2]; done) | (rw [itf, if_neg h1, if_pos h2]; done) | (rw [itf, if_pos h1, if_neg h2]; done) | (rw [itf, if_pos h1, if_pos h2]; done) | (rw [itf, if_neg h1]; done) | (rw [itf, if_pos h1]; done) | (rw [itf]; done)) hd dX4_isTurnOf_25
    · refine y_iconst C (1) dX4_isTurnOf_20 (by decide) ?_
      refine y_goto C 25 dX4_isTurnOf_21 (by decide) ?_
      exact y_zret C hr (by first | exact Or.inl rfl | exact Or.inr rfl) (by first | (rw [itf, if_neg h1, if_neg h2]; done) | (rw [itf, if_neg h1, if_pos h2]; done) | (rw [itf, if_pos h1, if_neg h2]; done) | (rw [itf, if_pos h1, if_pos h2]; done) | (rw [itf, if_neg h1]; done) | (rw [itf, if_pos h1]; done) | (rw [itf]; done)) hd dX4_isTurnOf_25
def rm_X4_inState : Room := { frames := 0, cells := 0, slots := 0, locals := 0 }
set_option maxRecDepth 100000 in
set_option maxHeartbeats 4000000 in
theorem c_X4_inState (g : KG) (B0 : Nat) (l : Launch) (a : Nat) (d : DV) (wst : Int32) (hsf : sf d) : Mt g B0 l yX4_inState cX4_inState 4 (some .int) rm_X4_inState [.ref (a + 11), .int wst] (iv a 21) (dk g a d) (some (.int (ins d wst (nm d)))) (dk g a d) 0 0 := by
  refine Mt_of RX4 (by decide) rfl [(0, .ref (a + 11)), (1, .int wst)] rfl (Nat.le_of_ble_eq_true rfl) ?_
  intro pr e s m args below meth c C hr hin hd
  refine y_iconst C (0) dX4_inState_0 (by decide) ?_
  refine y_istore_n C dX4_inState_1 rfl (by decide) rfl ?_
  refine y_iconst C (0) dX4_inState_2 (by decide) ?_
  refine y_istore_n C dX4_inState_3 rfl (by decide) rfl ?_
  suffices K : ∀ rem n : Nat, n + rem = nm d → ∀ sum : Int32, sum = ins d wst n → ∀ H : Heap, dk g a d H → Yx (iv a 21) pr l e rm_X4_inState s m args below meth c 4 0 0 (MQ below (Qx (some (.int (ins d wst (nm d)))) (dk g a d) (iv a 21)) args s 0 0 (iv a 21)) [(3, .int (nI n)), (2, .int sum), (0, .ref (a + 11)), (1, .int wst)] H 4 [] from K (nm d) 0 (Nat.zero_add _) _ rfl _ hd
  intro rem
  induction rem with
  | zero =>
    intro n hn sum hs H hd
    obtain rfl : n = nm d := by omega
    refine y_iload_n C 0 dX4_inState_4 rfl rfl ?_
    refine y_aload_n C 2 dX4_inState_5 rfl rfl ?_
    refine y_get4 C (dk_11 hd) 0 (by decide) q65 rfl rfl dX4_inState_6 ?_
    refine y_icmp_ge C 31 dX4_inState_9 (by decide) (fun _ => ?_) (fun h => absurd (ge_t rfl hsf.2.1.1 (Nat.le_refl _) (by have := hsf.2.1.2; omega)) h)
    refine y_iload_n C 1 dX4_inState_31 rfl rfl ?_
    exact y_iret C hr (by rw [hs]) hd dX4_inState_32
  | succ rem ih =>
    intro n hn sum hs H hd
    have hlt : n < nm d := by omega
    refine y_iload_n C 0 dX4_inState_4 rfl rfl ?_
    refine y_aload_n C 2 dX4_inState_5 rfl rfl ?_
    refine y_get4 C (dk_11 hd) 0 (by decide) q65 rfl rfl dX4_inState_6 ?_
    refine y_icmp_ge C 31 dX4_inState_9 (by decide) (fun h => absurd h (ge_f rfl hsf.2.1.1 hlt (by have := hsf.2.1.2; omega))) (fun _ => ?_)
    refine y_aload_n C 2 dX4_inState_12 rfl rfl ?_
    refine y_get4 C (dk_11 hd) 7 (by decide) q72 rfl rfl dX4_inState_13 ?_
    refine y_iload_n C 0 dX4_inState_16 rfl rfl ?_
    refine y_iald C (dk_18 hd) n rfl (by have := hsf.2.1.2; omega) (by decide) dX4_inState_17 ?_
    refine y_iload_n C 3 dX4_inState_18 rfl rfl ?_
    refine y_icmp_ne C 25 dX4_inState_19 (by decide) (fun h1 => ?_) (fun h1 => ?_)
    · refine y_iinc C 0 (nI (n + 1)) dX4_inState_25 rfl (nI_succ _).symm (by decide) rfl ?_
      refine y_goto C 4 dX4_inState_28 (by decide) ?_
      exact ih (n + 1) (by omega) _ (by rw [ins, if_neg h1, hs]) H hd
    · refine y_iinc C 1 _ dX4_inState_22 rfl rfl (by decide) rfl ?_
      refine y_iinc C 1 (nI (n + 1)) dX4_inState_25 rfl (nI_succ _).symm (by decide) rfl ?_
      refine y_goto C 4 dX4_inState_28 (by decide) ?_
      exact ih (n + 1) (by omega) _ (by rw [ins, if_pos h1, hs] <;> rfl) H hd
def rm_X4_withLoaner : Room := { frames := 0, cells := 0, slots := 0, locals := 0 }
set_option maxRecDepth 100000 in
set_option maxHeartbeats 4000000 in
theorem c_X4_withLoaner (g : KG) (B0 : Nat) (l : Launch) (a : Nat) (d : DV) (hsf : sf d) : Mt g B0 l yX4_withLoaner cX4_withLoaner 3 (some .int) rm_X4_withLoaner [.ref (a + 11)] (iv a 21) (dk g a d) (some (.int (wlo d (nm d)))) (dk g a d) 0 0 := by
  refine Mt_of RX4 (by decide) rfl [(0, .ref (a + 11))] rfl (Nat.le_of_ble_eq_true rfl) ?_
  intro pr e s m args below meth c C hr hin hd
  refine y_iconst C (0) dX4_withLoaner_0 (by decide) ?_
  refine y_istore_n C dX4_withLoaner_1 rfl (by decide) rfl ?_
  refine y_iconst C (0) dX4_withLoaner_2 (by decide) ?_
  refine y_istore_n C dX4_withLoaner_3 rfl (by decide) rfl ?_
  suffices K : ∀ rem n : Nat, n + rem = nm d → ∀ sum : Int32, sum = wlo d n → ∀ H : Heap, dk g a d H → Yx (iv a 21) pr l e rm_X4_withLoaner s m args below meth c 3 0 0 (MQ below (Qx (some (.int (wlo d (nm d)))) (dk g a d) (iv a 21)) args s 0 0 (iv a 21)) [(2, .int (nI n)), (1, .int sum), (0, .ref (a + 11))] H 4 [] from K (nm d) 0 (Nat.zero_add _) _ rfl _ hd
  intro rem
  induction rem with
  | zero =>
    intro n hn sum hs H hd
    obtain rfl : n = nm d := by omega
    refine y_iload_n C 0 dX4_withLoaner_4 rfl rfl ?_
    refine y_aload_n C 2 dX4_withLoaner_5 rfl rfl ?_
    refine y_get4 C (dk_11 hd) 0 (by decide) q65 rfl rfl dX4_withLoaner_6 ?_
    refine y_icmp_ge C 27 dX4_withLoaner_9 (by decide) (fun _ => ?_) (fun h => absurd (ge_t rfl hsf.2.1.1 (Nat.le_refl _) (by have := hsf.2.1.2; omega)) h)
    refine y_iload_n C 1 dX4_withLoaner_27 rfl rfl ?_
    exact y_iret C hr (by rw [hs]) hd dX4_withLoaner_28
  | succ rem ih =>
    intro n hn sum hs H hd
    have hlt : n < nm d := by omega
    refine y_iload_n C 0 dX4_withLoaner_4 rfl rfl ?_
    refine y_aload_n C 2 dX4_withLoaner_5 rfl rfl ?_
    refine y_get4 C (dk_11 hd) 0 (by decide) q65 rfl rfl dX4_withLoaner_6 ?_
    refine y_icmp_ge C 27 dX4_withLoaner_9 (by decide) (fun h => absurd h (ge_f rfl hsf.2.1.1 hlt (by have := hsf.2.1.2; omega))) (fun _ => ?_)
    refine y_iload_n C 1 dX4_withLoaner_12 rfl rfl ?_
    refine y_aload_n C 2 dX4_withLoaner_13 rfl rfl ?_
    refine y_get4 C (dk_11 hd) 6 (by decide) q71 rfl rfl dX4_withLoaner_14 ?_
    refine y_iload_n C 0 dX4_withLoaner_17 rfl rfl ?_
    refine y_iald C (dk_17 hd) n rfl (by have := hsf.2.1.2; omega) (by decide) dX4_withLoaner_18 ?_
    refine y_iadd C dX4_withLoaner_19 ?_
    refine y_istore_n C dX4_withLoaner_20 rfl (by decide) rfl ?_
    refine y_iinc C 1 (nI (n + 1)) dX4_withLoaner_21 rfl (nI_succ _).symm (by decide) rfl ?_
    refine y_goto C 4 dX4_withLoaner_24 (by decide) ?_
    exact ih (n + 1) (by omega) _ (by rw [wlo, hs]) H hd
def rm_X4_add : Room := { frames := 0, cells := 0, slots := 0, locals := 0 }
set_option maxRecDepth 100000 in
set_option maxHeartbeats 4000000 in
theorem c_X4_add (g : KG) (B0 : Nat) (l : Launch) (a : Nat) (d : DV) (f day : Int32) (hsf : sf d) (hnm : nm d < 20) : Mt g B0 l yX4_add cX4_add 4 (some .int) rm_X4_add [.ref (a + 11), .int f, .int day] (iv a 21) (dk g a d) (some (.int (nI (nm d)))) (dk g a (adS d f day)) 0 0 := by
  refine Mt_of RX4 (by decide) rfl [(0, .ref (a + 11)), (1, .int f), (2, .int day)] rfl (Nat.le_of_ble_eq_true rfl) ?_
  intro pr e s m args below meth c C hr hin hd
  refine y_aload_n C 0 dX4_add_0 rfl rfl ?_
  refine y_get4 C (dk_11 hd) 0 (by decide) q65 rfl rfl dX4_add_1 ?_
  refine y_bipush C (20) dX4_add_4 (by decide) ?_
  refine y_icmp_lt C 12 dX4_add_6 (by decide) (fun _ => ?_) (fun h => absurd (lt_t hsf.2.1.1 rfl hnm (by decide)) h)
  refine y_aload_n C 0 dX4_add_12 rfl rfl ?_
  refine y_get4 C (dk_11 hd) 0 (by decide) q65 rfl rfl dX4_add_13 ?_
  refine y_istore_n C dX4_add_16 rfl (by decide) rfl ?_
  refine y_aload_n C 1 dX4_add_17 rfl rfl ?_
  refine y_get4 C (dk_11 hd) 1 (by decide) q66 rfl rfl dX4_add_18 ?_
  refine y_iload_n C 0 dX4_add_21 rfl rfl ?_
  refine y_iload_n C 2 dX4_add_22 rfl rfl ?_
  refine y_iast C (dk_12 hd) (ivm 12 (by decide)) (nm d) hsf.2.1.1 hnm (by decide) dX4_add_23 (fun H hw1 ow1 zw1 => ?_)
  have hd := dk_set12 hd hw1 ow1
  refine y_aload_n C 1 dX4_add_24 rfl rfl ?_
  refine y_get4 C (dk_11 hd) 2 (by decide) q67 rfl rfl dX4_add_25 ?_
  refine y_iload_n C 0 dX4_add_28 rfl rfl ?_
  refine y_iload_n C 3 dX4_add_29 rfl rfl ?_
  refine y_iast C (dk_13 hd) (ivm 13 (by decide)) (nm d) hsf.2.1.1 hnm (by decide) dX4_add_30 (fun H hw1 ow1 zw1 => ?_)
  have hd := dk_set13 hd hw1 ow1
  refine y_aload_n C 1 dX4_add_31 rfl rfl ?_
  refine y_get4 C (dk_11 hd) 3 (by decide) q68 rfl rfl dX4_add_32 ?_
  refine y_iload_n C 0 dX4_add_35 rfl rfl ?_
  refine y_iconst C (0) dX4_add_36 (by decide) ?_
  refine y_iast C (dk_14 hd) (ivm 14 (by decide)) (nm d) hsf.2.1.1 hnm (by decide) dX4_add_37 (fun H hw1 ow1 zw1 => ?_)
  have hd := dk_set14 hd hw1 ow1
  refine y_aload_n C 1 dX4_add_38 rfl rfl ?_
  refine y_get4 C (dk_11 hd) 4 (by decide) q69 rfl rfl dX4_add_39 ?_
  refine y_iload_n C 0 dX4_add_42 rfl rfl ?_
  refine y_iconst C (0) dX4_add_43 (by decide) ?_
  refine y_iast C (dk_15 hd) (ivm 15 (by decide)) (nm d) hsf.2.1.1 hnm (by decide) dX4_add_44 (fun H hw1 ow1 zw1 => ?_)
  have hd := dk_set15 hd hw1 ow1
  refine y_aload_n C 1 dX4_add_45 rfl rfl ?_
  refine y_get4 C (dk_11 hd) 5 (by decide) q70 rfl rfl dX4_add_46 ?_
  refine y_iload_n C 0 dX4_add_49 rfl rfl ?_
  refine y_iconst C (0) dX4_add_50 (by decide) ?_
  refine y_iast C (dk_16 hd) (ivm 16 (by decide)) (nm d) hsf.2.1.1 hnm (by decide) dX4_add_51 (fun H hw1 ow1 zw1 => ?_)
  have hd := dk_set16 hd hw1 ow1
  refine y_aload_n C 1 dX4_add_52 rfl rfl ?_
  refine y_get4 C (dk_11 hd) 6 (by decide) q71 rfl rfl dX4_add_53 ?_
  refine y_iload_n C 0 dX4_add_56 rfl rfl ?_
  refine y_iconst C (0) dX4_add_57 (by decide) ?_
  refine y_iast C (dk_17 hd) (ivm 17 (by decide)) (nm d) hsf.2.1.1 hnm (by decide) dX4_add_58 (fun H hw1 ow1 zw1 => ?_)
  have hd := dk_set17 hd hw1 ow1
  refine y_aload_n C 1 dX4_add_59 rfl rfl ?_
  refine y_get4 C (dk_11 hd) 7 (by decide) q72 rfl rfl dX4_add_60 ?_
  refine y_iload_n C 0 dX4_add_63 rfl rfl ?_
  refine y_iconst C (0) dX4_add_64 (by decide) ?_
  refine y_iast C (dk_18 hd) (ivm 18 (by decide)) (nm d) hsf.2.1.1 hnm (by decide) dX4_add_65 (fun H hw1 ow1 zw1 => ?_)
  have hd := dk_set18 hd hw1 ow1
  refine y_aload_n C 1 dX4_add_66 rfl rfl ?_
  refine y_get4 C (dk_11 hd) 8 (by decide) q73 rfl rfl dX4_add_67 ?_
  refine y_iload_n C 0 dX4_add_70 rfl rfl ?_
  refine y_bipush C (-5) dX4_add_71 (by decide) ?_
  refine y_iast C (dk_19 hd) (ivm 19 (by decide)) (nm d) hsf.2.1.1 hnm (by decide) dX4_add_73 (fun H hw1 ow1 zw1 => ?_)
  have hd := dk_set19 hd hw1 ow1
  refine y_aload_n C 1 dX4_add_74 rfl rfl ?_
  refine y_dup C dX4_add_75 rfl ?_
  refine y_get4 C (dk_11 hd) 0 (by decide) q65 rfl rfl dX4_add_76 ?_
  refine y_iconst C (1) dX4_add_79 (by decide) ?_
  refine y_iadd C dX4_add_80 ?_
  refine y_put4 C (dk_11 hd) (ivm 11 (by decide)) 0 (by decide) q65 rfl rfl (ty := .int) (by decide +kernel) rfl rfl (Nat.le_of_ble_eq_true rfl) dX4_add_81 (fun H hw1 ow1 zw1 => ?_)
  have hd := dk_put11_0 hd hw1 ow1
  refine y_iload_n C 0 dX4_add_84 rfl rfl ?_
  exact y_iret C hr (by rw [hsf.2.1.1]) hd dX4_add_85
end
section
/-! THE DESK, as numbers -/
theorem y_top {A : Nat → Prop} {p : Program} {l : Launch} {e : Env} {R : Room} {s : State} {m : MethodId} {args : Array Value} {below : List Frame} {meth : Method} {c : Code} {nL cells slots : Nat} {Q : State → Prop} {lv : List (Nat × Value)} {H : Heap} {pc : Nat} {rest : List Value} {x y : Int32} (h : x = y) (k : Yx A p l e R s m args below meth c nL cells slots Q lv H pc (.int y :: rest)) : Yx A p l e R s m args below meth c nL cells slots Q lv H pc (.int x :: rest) := h ▸ k
theorem n32 {r : UInt32} (h : FP.Core.fIsNaN r = false) : vf_n32 r := by
  unfold vf_n32
  rw [UInt32.le_iff_toNat_le, FP.Core.mask_toNat32]
  have h1 : ¬ 2139095040 < r.toNat % 2 ^ 31 := fun q => by rw [(FP.Core.isNaN_bits32 r).mpr q] at h; cases h
  exact Nat.le_of_not_lt h1
theorem fp_mul {a b : UInt32} (ha : FP.Core.FFin a) (hb : FP.Core.FFin b) : vf_n32 (FP.fmul a b) := n32 (FP.Core.fmul_out ha hb)
theorem fp_addm {a b c : UInt32} (ha : FP.Core.FFin a) (hb : FP.Core.FFin b) (hc : FP.Core.FFin c) : vf_n32 (FP.fadd (FP.fmul a b) c) := n32 (FP.Core.fadd_out (FP.Core.fmul_out ha hb) hc)
def fr (d : DV) : Prop := ∀ j, j < 4 → FP.Core.FFin (d.2 j)
theorem fr.to {d d' : DV} (h : fr d) (h2 : d'.2 = d.2) : fr d' := by unfold fr; rw [h2]; exact h
theorem nm_of {d d' : DV} (h : d'.1 11 = d.1 11) : nm d' = nm d := by unfold nm; rw [h]
theorem no_of {d d' : DV} (h : d'.1 3 = d.1 3) : no d' = no d := by unfold no; rw [h]
theorem fl_of {d d' : DV} (h : d'.1 12 = d.1 12) (k : Nat) : fl d' k = fl d k := by unfold fl; rw [h]
def cost (d : DV) (f : Nat) : Int32 := FP.f2i (FP.fadd (FP.fmul (FP.i2f (pop d f 6)) (d.2 0)) (FP.i2f (tHF f * d.1 2 1)))
def lth (d : DV) : Int32 := d.1 2 4 - wlo d (nm d)
def sfee (d : DV) (k : Nat) : Int32 := if 0 < d.1 0 0 - d.1 19 k - d.1 2 2 then FP.f2i (FP.fmul (FP.i2f (d.1 0 0 - d.1 19 k - d.1 2 2)) (d.2 2)) else 0
def lkn (d : DV) (p : Nat) : Nat → Int32
  | 0 => 0
  | n + 1 => if d.1 18 n = 2 then lkn d p n + need (fl d n) p else lkn d p n
def lko (d : DV) (p : Nat) : Int32 := if 0 < lkn d p (nm d) - fre d p - oo d p (no d) then lkn d p (nm d) - fre d p - oo d p (no d) else 0
def rpw (d : DV) (lo : Int32) : Nat → DV
  | 0 => d
  | n + 1 => if itf (rpw d lo n) n 2 lo = 0 then rpw d lo n else
      if lsf (rpw d lo n) (fl (rpw d lo n) n) 6 0 = -5 then dset (rsv (rpw d lo n) (fl (rpw d lo n) n) 6) 18 n 3 else rpw d lo n
def rpa (d : DV) : DV := rpw (rpw d 1 (nm d)) 0 (nm (rpw d 1 (nm d)))
def dcd (d : DV) (k : Nat) (b : Int32) : DV := if b = 0 then dset (dset d 18 k 5) 19 k (d.1 0 0) else rpa (dset d 18 k 2)
def hov (d : DV) (k : Nat) : DV := dset (dset (dset (dset d 20 0 (d.1 20 0 + d.1 16 k)) 20 1 (d.1 20 1 + sfee d k)) 18 k 6) 17 k 0
def tko (d : DV) : Nat → DV
  | 0 => d
  | n + 1 => if (tko d n).1 10 n = (tko d n).1 0 0 then rpa (dset (tko d n) 6 (opa (tko d n) n) ((tko d n).1 6 (opa (tko d n) n) + (tko d n).1 9 n)) else tko d n
def tkd (d : DV) : DV := dofd (tko d (no d)) ((tko d (no d)).1 0 0)
def bil (d : DV) (k : Nat) : Int32 := if FP.f2i (FP.fmul (FP.i2f (d.1 14 k)) (d.2 1)) < cost (trv d (fl d k) 6) (fl d k) then FP.f2i (FP.fmul (FP.i2f (d.1 14 k)) (d.2 1)) else cost (trv d (fl d k) 6) (fl d k)
def fi4 (d : DV) (k : Nat) : DV := dset (dset (dset (trv d (fl d k) 6) 16 k (bil d k)) 18 k 4) 19 k ((dset (dset (trv d (fl d k) 6) 16 k (bil d k)) 18 k 4).1 0 0)
def fi5 (d : DV) (k : Nat) : DV := dset (fi4 d k) 20 3 ((fi4 d k).1 20 3 + pop (fi4 d k) (fl d k) 6)
def fi6 (d : DV) (k : Nat) : DV := dset (fi5 d k) 20 5 ((fi5 d k).1 20 5 + ((fi5 d k).1 0 0 - (fi5 d k).1 13 k))
def fin (d : DV) (k : Nat) : DV := dset (fi6 d k) 20 4 ((fi6 d k).1 20 4 + 1)
def spn (d : DV) (n : Nat) (left : Int32) : Int32 := if tHF (fl d n) - d.1 15 n < left then tHF (fl d n) - d.1 15 n else left
def wrk (lo : Int32) : Nat → Nat → DV → Int32 → DV × Int32
  | 0, _, d, left => (d, left)
  | r + 1, n, d, left => if left ≤ 0 then (d, left) else if itf d n 3 lo = 0 then wrk lo r (n + 1) d left else
      if (dset d 15 n (d.1 15 n + spn d n left)).1 15 n = tHF (fl d n) then wrk lo r (n + 1) (fin (dset d 15 n (d.1 15 n + spn d n left)) n) (left - spn d n left)
      else wrk lo r (n + 1) (dset d 15 n (d.1 15 n + spn d n left)) (left - spn d n left)
def sl1 (d : DV) (k : Nat) : DV := dset (dset (dset d 20 2 (d.1 20 2 + FP.f2i (FP.fmul (FP.i2f (d.1 16 k)) (d.2 3)))) 18 k 7) 17 k 0
def sel (d : DV) : Nat → DV
  | 0 => d
  | n + 1 => if isR (sel d n) n = 0 then sel d n else if (sel d n).1 0 0 - (sel d n).1 19 n < (sel d n).1 2 3 then sel d n else sl1 (sel d n) n
def ps1 (d : DV) : DV := tkd (dset d 0 0 (d.1 0 0 + 1))
def ps2 (d : DV) : DV × Int32 := wrk 1 (nm (ps1 d)) 0 (ps1 d) ((ps1 d).1 2 0)
def ps3 (d : DV) : DV := (wrk 0 (nm (ps2 d).1) 0 (ps2 d).1 (ps2 d).2).1
def psd (d : DV) : DV := sel (ps3 d) (nm (ps3 d))
/-! which cells each of them leaves as they are -/
theorem rsv_ne (d : DV) (f i : Nat) (h7 : i ≠ 7) (n : Nat) : (rsv d f n).1 i = d.1 i := by
  induction n with
  | zero => rfl
  | succ n ih => rw [rsv, dset_ne _ _ _ _ _ h7]; exact ih
theorem rsv_2 (d : DV) (f n : Nat) : (rsv d f n).2 = d.2 := by
  induction n with
  | zero => rfl
  | succ n ih => exact ih
theorem trv_ne (d : DV) (f i : Nat) (h6 : i ≠ 6) (h7 : i ≠ 7) (n : Nat) : (trv d f n).1 i = d.1 i := by
  induction n with
  | zero => rfl
  | succ n ih => rw [trv, dset_ne _ _ _ _ _ h7, dset_ne _ _ _ _ _ h6]; exact ih
theorem trv_2 (d : DV) (f n : Nat) : (trv d f n).2 = d.2 := by
  induction n with
  | zero => rfl
  | succ n ih => exact ih
theorem rpw_ne (d : DV) (lo : Int32) (i : Nat) (h7 : i ≠ 7) (h18 : i ≠ 18) (n : Nat) : (rpw d lo n).1 i = d.1 i := by
  induction n with
  | zero => rfl
  | succ n ih =>
    rw [rpw]
    split
    · exact ih
    · split
      · rw [dset_ne _ _ _ _ _ h18, rsv_ne _ _ _ h7]; exact ih
      · exact ih
theorem rpw_2 (d : DV) (lo : Int32) (n : Nat) : (rpw d lo n).2 = d.2 := by
  induction n with
  | zero => rfl
  | succ n ih =>
    rw [rpw]
    split
    · exact ih
    · split
      · exact (rsv_2 _ _ _).trans ih
      · exact ih
theorem rpa_ne (d : DV) (i : Nat) (h7 : i ≠ 7) (h18 : i ≠ 18) : (rpa d).1 i = d.1 i := (rpw_ne _ _ _ h7 h18 _).trans (rpw_ne _ _ _ h7 h18 _)
theorem rpa_2 (d : DV) : (rpa d).2 = d.2 := (rpw_2 _ _ _).trans (rpw_2 _ _ _)
theorem tko_ne (d : DV) (i : Nat) (h6 : i ≠ 6) (h7 : i ≠ 7) (h18 : i ≠ 18) (n : Nat) : (tko d n).1 i = d.1 i := by
  induction n with
  | zero => rfl
  | succ n ih =>
    rw [tko]
    split
    · rw [rpa_ne _ _ h7 h18, dset_ne _ _ _ _ _ h6]; exact ih
    · exact ih
theorem tko_2 (d : DV) (n : Nat) : (tko d n).2 = d.2 := by
  induction n with
  | zero => rfl
  | succ n ih =>
    rw [tko]
    split
    · exact (rpa_2 _).trans ih
    · exact ih
theorem dof_2 (d : DV) (day : Int32) (n : Nat) : (dof d day n).1.2 = d.2 := by
  induction n with
  | zero => rfl
  | succ n ih =>
    rw [dof]
    split
    · exact ih
    · exact ih
theorem tkd_ne (d : DV) (i : Nat) (h3 : i ≠ 3) (h6 : i ≠ 6) (h7 : i ≠ 7) (h8 : i ≠ 8) (h9 : i ≠ 9) (h10 : i ≠ 10) (h18 : i ≠ 18) : (tkd d).1 i = d.1 i := by
  rw [tkd, dofd, dset_ne _ _ _ _ _ h3, dof_ne _ _ _ h8 h9 h10, tko_ne _ _ h6 h7 h18]
theorem tkd_2 (d : DV) : (tkd d).2 = d.2 := (dof_2 _ _ _).trans (tko_2 _ _)
theorem fin_ne (d : DV) (k i : Nat) (h6 : i ≠ 6) (h7 : i ≠ 7) (h16 : i ≠ 16) (h18 : i ≠ 18) (h19 : i ≠ 19) (h20 : i ≠ 20) : (fin d k).1 i = d.1 i := by
  rw [fin, dset_ne _ _ _ _ _ h20, fi6, dset_ne _ _ _ _ _ h20, fi5, dset_ne _ _ _ _ _ h20, fi4, dset_ne _ _ _ _ _ h19, dset_ne _ _ _ _ _ h18, dset_ne _ _ _ _ _ h16, trv_ne _ _ _ h6 h7]
theorem fin_2 (d : DV) (k : Nat) : (fin d k).2 = d.2 := trv_2 _ _ _
theorem wrk_ne (lo : Int32) (i : Nat) (h6 : i ≠ 6) (h7 : i ≠ 7) (h15 : i ≠ 15) (h16 : i ≠ 16) (h18 : i ≠ 18) (h19 : i ≠ 19) (h20 : i ≠ 20) : ∀ (r n : Nat) (d : DV) (left : Int32), (wrk lo r n d left).1.1 i = d.1 i := by
  intro r
  induction r with
  | zero => intro n d left; rfl
  | succ r ih =>
    intro n d left
    rw [wrk]
    split
    · rfl
    · split
      · exact ih _ _ _
      · split
        · rw [ih, fin_ne _ _ _ h6 h7 h16 h18 h19 h20, dset_ne _ _ _ _ _ h15]
        · rw [ih, dset_ne _ _ _ _ _ h15]
theorem wrk_2 (lo : Int32) : ∀ (r n : Nat) (d : DV) (left : Int32), (wrk lo r n d left).1.2 = d.2 := by
  intro r
  induction r with
  | zero => intro n d left; rfl
  | succ r ih =>
    intro n d left
    rw [wrk]
    split
    · rfl
    · split
      · exact ih _ _ _
      · split
        · exact (ih _ _ _).trans (fin_2 _ _)
        · exact ih _ _ _
theorem sel_ne (d : DV) (i : Nat) (h17 : i ≠ 17) (h18 : i ≠ 18) (h20 : i ≠ 20) (n : Nat) : (sel d n).1 i = d.1 i := by
  induction n with
  | zero => rfl
  | succ n ih =>
    rw [sel]
    split
    · exact ih
    · split
      · exact ih
      · rw [sl1, dset_ne _ _ _ _ _ h17, dset_ne _ _ _ _ _ h18, dset_ne _ _ _ _ _ h20]; exact ih
theorem sel_2 (d : DV) (n : Nat) : (sel d n).2 = d.2 := by
  induction n with
  | zero => rfl
  | succ n ih =>
    rw [sel]
    split
    · exact ih
    · split
      · exact ih
      · exact ih
theorem sf_rpa {d : DV} (h : sf d) : sf (rpa d) := h.to (rpa_ne _ _ (by decide) (by decide)) (rpa_ne _ _ (by decide) (by decide)) (rpa_ne _ _ (by decide) (by decide)) (rpa_ne _ _ (by decide) (by decide))
theorem sf_rpw {d : DV} (h : sf d) (lo : Int32) (n : Nat) : sf (rpw d lo n) := h.to (rpw_ne _ _ _ (by decide) (by decide) _) (rpw_ne _ _ _ (by decide) (by decide) _) (rpw_ne _ _ _ (by decide) (by decide) _) (rpw_ne _ _ _ (by decide) (by decide) _)
theorem sf_fin {d : DV} (h : sf d) (k : Nat) : sf (fin d k) := h.to (fin_ne _ _ _ (by decide) (by decide) (by decide) (by decide) (by decide) (by decide)) (fin_ne _ _ _ (by decide) (by decide) (by decide) (by decide) (by decide) (by decide)) (fin_ne _ _ _ (by decide) (by decide) (by decide) (by decide) (by decide) (by decide)) (fin_ne _ _ _ (by decide) (by decide) (by decide) (by decide) (by decide) (by decide))
theorem sf_wrk {d : DV} (h : sf d) (lo : Int32) (r n : Nat) (left : Int32) : sf (wrk lo r n d left).1 := h.to (wrk_ne _ _ (by decide) (by decide) (by decide) (by decide) (by decide) (by decide) (by decide) _ _ _ _) (wrk_ne _ _ (by decide) (by decide) (by decide) (by decide) (by decide) (by decide) (by decide) _ _ _ _) (wrk_ne _ _ (by decide) (by decide) (by decide) (by decide) (by decide) (by decide) (by decide) _ _ _ _) (wrk_ne _ _ (by decide) (by decide) (by decide) (by decide) (by decide) (by decide) (by decide) _ _ _ _)
theorem sf_sel {d : DV} (h : sf d) (n : Nat) : sf (sel d n) := h.to (sel_ne _ _ (by decide) (by decide) (by decide) _) (sel_ne _ _ (by decide) (by decide) (by decide) _) (sel_ne _ _ (by decide) (by decide) (by decide) _) (sel_ne _ _ (by decide) (by decide) (by decide) _)
theorem sf_tko {d : DV} (h : sf d) (n : Nat) : sf (tko d n) := h.to (tko_ne _ _ (by decide) (by decide) (by decide) _) (tko_ne _ _ (by decide) (by decide) (by decide) _) (tko_ne _ _ (by decide) (by decide) (by decide) _) (tko_ne _ _ (by decide) (by decide) (by decide) _)
/-- dropped orders leave orders that can be read -/
theorem dof_op (d : DV) (day : Int32) (h : sf d) : ∀ n, n ≤ no d → ∀ i, i < (dof d day n).2 → ∃ j, j < 6 ∧ (dof d day n).1.1 8 i = nI j := by
  intro n
  induction n with
  | zero => intro _ i hi; exact absurd hi (Nat.not_lt_zero _)
  | succ n ih =>
    intro hn i hi
    have hold : ∀ j, (dof d day n).2 ≤ j → (dof d day n).1.1 8 j = d.1 8 j := by
      clear hi ih hn
      induction n with
      | zero => intro j _; rfl
      | succ n ih2 =>
        intro j hj
        rw [dof] at hj ⊢
        split
        · next hc => rw [if_pos hc] at hj; exact ih2 j hj
        · next hc =>
          rw [if_neg hc] at hj
          dsimp only at hj ⊢
          have e : j ≠ (dof d day n).2 := by omega
          show upd _ _ _ j = _
          rw [upd, if_neg e]
          exact ih2 j (by omega)
    rw [dof] at hi ⊢
    split
    · next hc => rw [if_pos hc] at hi; exact ih (by omega) i hi
    · next hc =>
      rw [if_neg hc] at hi
      dsimp only at hi ⊢
      show ∃ j, j < 6 ∧ upd _ _ _ i = nI j
      rw [upd]
      split
      · have h8 := h.2.2.2 n (by omega)
        have hle := dof_le d day n
        exact ⟨_, h8.2, by rw [hold n hle]; exact h8.1⟩
      · exact ih (by omega) i (by omega)
theorem sf_dofd {d : DV} (h : sf d) (day : Int32) : sf (dofd d day) := by
  have hle := dof_le d day (no d)
  have h12 := h.1.2
  have hn : no (dofd d day) = (dof d day (no d)).2 := by
    show (nI (dof d day (no d)).2).toNatClampNeg = _
    exact nI_clamp (by omega)
  have hm : nm (dofd d day) = nm d := nm_of (by rw [dofd, dset_ne _ _ _ _ _ (by decide), dof_ne _ _ _ (by decide) (by decide) (by decide)])
  have hf : (dofd d day).1 12 = d.1 12 := by rw [dofd, dset_ne _ _ _ _ _ (by decide), dof_ne _ _ _ (by decide) (by decide) (by decide)]
  refine ⟨⟨by rw [hn]; rfl, by rw [hn]; omega⟩, ⟨?_, by rw [hm]; exact h.2.1.2⟩, ?_, ?_⟩
  · rw [hm]
    have e : (dofd d day).1 11 = d.1 11 := by rw [dofd, dset_ne _ _ _ _ _ (by decide), dof_ne _ _ _ (by decide) (by decide) (by decide)]
    rw [e]
    exact h.2.1.1
  · intro k hk
    rw [hm] at hk
    rw [fl_of hf, hf]
    exact h.2.2.1 k hk
  · intro i hi
    rw [hn] at hi
    obtain ⟨j, hj, e⟩ := dof_op d day h (no d) (Nat.le_refl _) i hi
    have e2 : (dofd d day).1 8 i = nI j := e
    have e3 : opa (dofd d day) i = j := by unfold opa; rw [e2]; exact nI_clamp (by omega)
    rw [e3]
    exact ⟨e2, hj⟩
theorem sf_tkd {d : DV} (h : sf d) : sf (tkd d) := sf_dofd (sf_tko h _) _
theorem sf_ps1 {d : DV} (h : sf d) : sf (ps1 d) := by
  have h0 : sf (dset d 0 0 (d.1 0 0 + 1)) := h.to rfl rfl rfl rfl
  unfold ps1
  exact sf_tkd h0
theorem sf_ps2 {d : DV} (h : sf d) : sf (ps2 d).1 := by
  have h0 := sf_ps1 h
  unfold ps2
  exact sf_wrk h0 _ _ _ _
theorem sf_ps3 {d : DV} (h : sf d) : sf (ps3 d) := by
  have h0 := sf_ps2 h
  unfold ps3
  exact sf_wrk h0 _ _ _ _
theorem sf_psd {d : DV} (h : sf d) : sf (psd d) := by
  have h0 := sf_ps3 h
  unfold psd
  exact sf_sel h0 _
theorem ps1_2 (d : DV) : (ps1 d).2 = d.2 := by unfold ps1; exact tkd_2 _
theorem ps2_2 (d : DV) : (ps2 d).1.2 = d.2 := by unfold ps2; rw [wrk_2]; exact ps1_2 d
theorem ps3_2 (d : DV) : (ps3 d).2 = d.2 := by unfold ps3; rw [wrk_2]; exact ps2_2 d
theorem psd_2 (d : DV) : (psd d).2 = d.2 := by unfold psd; rw [sel_2]; exact ps3_2 d
end
section
/-! THE DESK: its contracts -/
theorem y_sub {A : Nat → Prop} {p : Program} {l : Launch} {e : Env} {R : Room} {s : State} {m : MethodId} {args : Array Value} {below : List Frame} {meth : Method} {c : Code} {nL cells slots : Nat} {Q : State → Prop} {lv lv' : List (Nat × Value)} {H : Heap} {pc : Nat} {st : List Value} (ks : List Nat) (k : Yx A p l e R s m args below meth c nL cells slots Q lv' H pc st) (h : lv_pick lv ks = lv') : Yx A p l e R s m args below meth c nL cells slots Q lv H pc st := fun ls locs hl hS => k ls locs (lv_sub hl ks h) hS
def rm_X2_costNow : Room := { frames := 2, cells := 0, slots := 0, locals := 44 }
set_option maxRecDepth 100000 in
set_option maxHeartbeats 4000000 in
theorem c_X2_costNow (g : KG) (B0 : Nat) (l : Launch) (a : Nat) (d : DV) (f : Nat) (hf0 : f < 5) (hfr : fr d) : Mt g B0 l yX2_costNow cX2_costNow 4 (some .int) rm_X2_costNow [.ref a, .int (nI f)] (iv a 21) (dk g a d) (some (.int (cost d f))) (dk g a d) 0 0 := by
  refine Mt_of RX2 (by decide) rfl [(0, .ref a), (1, .int (nI f))] rfl (Nat.le_of_ble_eq_true rfl) ?_
  intro pr e s m args below meth c C hr hin hd
  obtain ⟨tH, hZ, hT⟩ := stA.get C.2.2.2.2.2.1.2.2.2.2.2.2.1 C.2.2.2.2.2.2.1
  refine y_aload_n C 0 dX2_costNow_0 rfl rfl ?_
  refine y_get2 C (dk_0 hd) 3 (by decide) q40 rfl rfl dX2_costNow_1 ?_
  refine y_iload_n C 1 dX2_costNow_4 rfl rfl ?_
  refine y_callV C [.int (nI f)] (c_X5_priceOfParts g B0 l a d f hf0) RX5 1 (wVin q247 q248 q249 q39 q250) hy_X5_priceOfParts ⟨(Nat.le_of_ble_eq_true rfl), (Nat.le_of_ble_eq_true rfl)⟩ ⟨rfl, rfl⟩ (rcv C.2.2.2.2.2.1 (dk_3 hd) rfl) hd (fun _ h => h) rfl rfl (Nat.le_of_ble_eq_true rfl) dX2_costNow_5 ⟨(Nat.le_of_ble_eq_true rfl), (Nat.le_of_ble_eq_true rfl)⟩ rfl (fun H hp hz hf => ?_)
  have hd := hp
  refine y_i2f C dX2_costNow_8 ?_
  refine y_aload_n C 0 dX2_costNow_9 rfl rfl ?_
  refine y_get2 C (dk_0 hd) 1 (by decide) q34 rfl rfl dX2_costNow_10 ?_
  refine y_iconst C (0) dX2_costNow_13 (by decide) ?_
  refine y_fald C (dk_1 hd) 0 rfl (by decide) (by decide) dX2_costNow_14 ?_
  refine y_fmul C dX2_costNow_15 (fp_mul (FP.Core.i2f_fin _) (hfr 0 (by decide))) ?_
  refine y_fstore_n C dX2_costNow_16 rfl (by decide) rfl ?_
  refine y_getsN C hZ C.2.2.2.2.2.1.2.2.1 dX2_costNow_17 ?_
  refine y_iload_n C 2 dX2_costNow_20 rfl rfl ?_
  refine y_sld C hT f rfl hf0 (by decide) dX2_costNow_21 ?_
  refine y_aload_n C 1 dX2_costNow_22 rfl rfl ?_
  refine y_get2 C (dk_0 hd) 2 (by decide) q36 rfl rfl dX2_costNow_23 ?_
  refine y_iconst C (1) dX2_costNow_26 (by decide) ?_
  refine y_iald C (dk_2 hd) 1 rfl (by decide) (by decide) dX2_costNow_27 ?_
  refine y_imul C dX2_costNow_28 ?_
  refine y_i2f C dX2_costNow_29 ?_
  refine y_fstore_n C dX2_costNow_30 rfl (by decide) rfl ?_
  refine y_fload_n C 1 dX2_costNow_31 rfl rfl ?_
  refine y_fload_n C 0 dX2_costNow_32 rfl rfl ?_
  refine y_fadd C dX2_costNow_33 (fp_addm (FP.Core.i2f_fin _) (hfr 0 (by decide)) (FP.Core.i2f_fin _)) ?_
  refine y_f2i C dX2_costNow_34 ?_
  exact y_iret C hr rfl hd dX2_costNow_35
def rm_X2_loanersThere : Room := { frames := 1, cells := 0, slots := 0, locals := 22 }
set_option maxRecDepth 100000 in
set_option maxHeartbeats 4000000 in
theorem c_X2_loanersThere (g : KG) (B0 : Nat) (l : Launch) (a : Nat) (d : DV) (hsf : sf d) : Mt g B0 l yX2_loanersThere cX2_loanersThere 1 (some .int) rm_X2_loanersThere [.ref a] (iv a 21) (dk g a d) (some (.int (lth d))) (dk g a d) 0 0 := by
  refine Mt_of RX2 (by decide) rfl [(0, .ref a)] rfl (Nat.le_of_ble_eq_true rfl) ?_
  intro pr e s m args below meth c C hr hin hd
  refine y_aload_n C 0 dX2_loanersThere_0 rfl rfl ?_
  refine y_get2 C (dk_0 hd) 2 (by decide) q36 rfl rfl dX2_loanersThere_1 ?_
  refine y_iconst C (4) dX2_loanersThere_4 (by decide) ?_
  refine y_iald C (dk_2 hd) 4 rfl (by decide) (by decide) dX2_loanersThere_5 ?_
  refine y_aload_n C 0 dX2_loanersThere_6 rfl rfl ?_
  refine y_get2 C (dk_0 hd) 4 (by decide) q44 rfl rfl dX2_loanersThere_7 ?_
  refine y_callV C [] (c_X4_withLoaner g B0 l a d hsf) RX4 0 (wVin q119 q120 q121 q43 q122) hy_X4_withLoaner ⟨(Nat.le_of_ble_eq_true rfl), (Nat.le_of_ble_eq_true rfl)⟩ ⟨rfl, rfl⟩ (rcv C.2.2.2.2.2.1 (dk_11 hd) rfl) hd (fun _ h => h) rfl rfl (Nat.le_of_ble_eq_true rfl) dX2_loanersThere_10 ⟨(Nat.le_of_ble_eq_true rfl), (Nat.le_of_ble_eq_true rfl)⟩ rfl (fun H hp hz hf => ?_)
  have hd := hp
  refine y_isub C dX2_loanersThere_13 ?_
  exact y_iret C hr rfl hd dX2_loanersThere_14
def rm_X2_storageFee : Room := { frames := 0, cells := 0, slots := 0, locals := 0 }
set_option maxRecDepth 100000 in
set_option maxHeartbeats 4000000 in
theorem c_X2_storageFee (g : KG) (B0 : Nat) (l : Launch) (a : Nat) (d : DV) (k : Nat) (hk : k < 20) (hfr : fr d) : Mt g B0 l yX2_storageFee cX2_storageFee 3 (some .int) rm_X2_storageFee [.ref a, .int (nI k)] (iv a 21) (dk g a d) (some (.int (sfee d k))) (dk g a d) 0 0 := by
  refine Mt_of RX2 (by decide) rfl [(0, .ref a), (1, .int (nI k))] rfl (Nat.le_of_ble_eq_true rfl) ?_
  intro pr e s m args below meth c C hr hin hd
  refine y_aload_n C 0 dX2_storageFee_0 rfl rfl ?_
  refine y_get2 C (dk_0 hd) 0 (by decide) q28 rfl rfl dX2_storageFee_1 ?_
  refine y_aload_n C 0 dX2_storageFee_4 rfl rfl ?_
  refine y_get2 C (dk_0 hd) 4 (by decide) q44 rfl rfl dX2_storageFee_5 ?_
  refine y_get4 C (dk_11 hd) 8 (by decide) q234 rfl rfl dX2_storageFee_8 ?_
  refine y_iload_n C 1 dX2_storageFee_11 rfl rfl ?_
  refine y_iald C (dk_19 hd) k rfl hk (by decide) dX2_storageFee_12 ?_
  refine y_isub C dX2_storageFee_13 ?_
  refine y_aload_n C 0 dX2_storageFee_14 rfl rfl ?_
  refine y_get2 C (dk_0 hd) 2 (by decide) q36 rfl rfl dX2_storageFee_15 ?_
  refine y_iconst C (2) dX2_storageFee_18 (by decide) ?_
  refine y_iald C (dk_2 hd) 2 rfl (by decide) (by decide) dX2_storageFee_19 ?_
  refine y_isub C dX2_storageFee_20 ?_
  refine y_istore_n C dX2_storageFee_21 rfl (by decide) rfl ?_
  refine y_iload_n C 0 dX2_storageFee_22 rfl rfl ?_
  refine y_if_gt C 30 dX2_storageFee_23 (by decide) (fun h1 => ?_) (fun h1 => ?_)
  · refine y_iload_n C 0 dX2_storageFee_30 rfl rfl ?_
    refine y_i2f C dX2_storageFee_31 ?_
    refine y_aload_n C 1 dX2_storageFee_32 rfl rfl ?_
    refine y_get2 C (dk_0 hd) 1 (by decide) q34 rfl rfl dX2_storageFee_33 ?_
    refine y_iconst C (2) dX2_storageFee_36 (by decide) ?_
    refine y_fald C (dk_1 hd) 2 rfl (by decide) (by decide) dX2_storageFee_37 ?_
    refine y_fmul C dX2_storageFee_38 (fp_mul (FP.Core.i2f_fin _) (hfr 2 (by decide))) ?_
    refine y_f2i C dX2_storageFee_39 ?_
    exact y_iret C hr (by first | (rw [sfee, if_neg h1]; done) | (rw [sfee, if_pos h1]; done) | (rw [sfee]; done)) hd dX2_storageFee_40
  · refine y_iconst C (0) dX2_storageFee_26 (by decide) ?_
    refine y_goto C 40 dX2_storageFee_27 (by decide) ?_
    exact y_iret C hr (by first | (rw [sfee, if_neg h1]; done) | (rw [sfee, if_pos h1]; done) | (rw [sfee]; done)) hd dX2_storageFee_40
def rm_X2_lackingOf : Room := { frames := 1, cells := 0, slots := 0, locals := 23 }
set_option maxRecDepth 100000 in
set_option maxHeartbeats 4000000 in
theorem c_X2_lackingOf (g : KG) (B0 : Nat) (l : Launch) (a : Nat) (d : DV) (p : Nat) (hp6 : p < 6) (hsf : sf d) : Mt g B0 l yX2_lackingOf cX2_lackingOf 4 (some .int) rm_X2_lackingOf [.ref a, .int (nI p)] (iv a 21) (dk g a d) (some (.int (lko d p))) (dk g a d) 0 0 := by
  refine Mt_of RX2 (by decide) rfl [(0, .ref a), (1, .int (nI p))] rfl (Nat.le_of_ble_eq_true rfl) ?_
  intro pr e s m args below meth c C hr hin hd
  refine y_iconst C (0) dX2_lackingOf_0 (by decide) ?_
  refine y_istore_n C dX2_lackingOf_1 rfl (by decide) rfl ?_
  refine y_iconst C (0) dX2_lackingOf_2 (by decide) ?_
  refine y_istore_n C dX2_lackingOf_3 rfl (by decide) rfl ?_
  suffices K : ∀ rem n : Nat, n + rem = nm d → ∀ sum : Int32, sum = lkn d p n → ∀ H : Heap, dk g a d H → Yx (iv a 21) pr l e rm_X2_lackingOf s m args below meth c 4 0 0 (MQ below (Qx (some (.int (lko d p))) (dk g a d) (iv a 21)) args s 0 0 (iv a 21)) [(3, .int (nI n)), (2, .int sum), (0, .ref a), (1, .int (nI p))] H 4 [] from K (nm d) 0 (Nat.zero_add _) _ rfl _ hd
  intro rem
  induction rem with
  | zero =>
    intro n hn sum hs H hd
    obtain rfl : n = nm d := by omega
    refine y_iload_n C 0 dX2_lackingOf_4 rfl rfl ?_
    refine y_aload_n C 2 dX2_lackingOf_5 rfl rfl ?_
    refine y_get2 C (dk_0 hd) 4 (by decide) q44 rfl rfl dX2_lackingOf_6 ?_
    refine y_get4 C (dk_11 hd) 0 (by decide) q193 rfl rfl dX2_lackingOf_9 ?_
    refine y_icmp_ge C 50 dX2_lackingOf_12 (by decide) (fun _ => ?_) (fun h => absurd (ge_t rfl hsf.2.1.1 (Nat.le_refl _) (by have := hsf.2.1.2; omega)) h)
    refine y_iconst C (0) dX2_lackingOf_50 (by decide) ?_
    refine y_iload_n C 1 dX2_lackingOf_51 rfl rfl ?_
    refine y_aload_n C 2 dX2_lackingOf_52 rfl rfl ?_
    refine y_get2 C (dk_0 hd) 3 (by decide) q40 rfl rfl dX2_lackingOf_53 ?_
    refine y_iload_n C 3 dX2_lackingOf_56 rfl rfl ?_
    refine y_callV C [.int (nI p)] (c_X5_free g B0 l a d p hp6) RX5 1 (wVin q412 q205 q206 q39 q207) hy_X5_free ⟨(Nat.le_of_ble_eq_true rfl), (Nat.le_of_ble_eq_true rfl)⟩ ⟨rfl, rfl⟩ (rcv C.2.2.2.2.2.1 (dk_3 hd) rfl) hd (fun _ h => h) rfl rfl (Nat.le_of_ble_eq_true rfl) dX2_lackingOf_57 ⟨(Nat.le_of_ble_eq_true rfl), (Nat.le_of_ble_eq_true rfl)⟩ rfl (fun H hp hz hf => ?_)
    have hd := hp
    refine y_isub C dX2_lackingOf_60 ?_
    refine y_aload_n C 2 dX2_lackingOf_61 rfl rfl ?_
    refine y_get2 C (dk_0 hd) 3 (by decide) q40 rfl rfl dX2_lackingOf_62 ?_
    refine y_iload_n C 3 dX2_lackingOf_65 rfl rfl ?_
    refine y_callV C [.int (nI p)] (c_X5_onOrder g B0 l a d p hsf) RX5 1 (wVin q413 q401 q402 q39 q403) hy_X5_onOrder ⟨(Nat.le_of_ble_eq_true rfl), (Nat.le_of_ble_eq_true rfl)⟩ ⟨rfl, rfl⟩ (rcv C.2.2.2.2.2.1 (dk_3 hd) rfl) hd (fun _ h => h) rfl rfl (Nat.le_of_ble_eq_true rfl) dX2_lackingOf_66 ⟨(Nat.le_of_ble_eq_true rfl), (Nat.le_of_ble_eq_true rfl)⟩ rfl (fun H hp hz hf => ?_)
    have hd := hp
    refine y_isub C dX2_lackingOf_69 ?_
    refine y_mmax C q408 q409 q226 q410 (Nat.le_of_ble_eq_true rfl) (Nat.le_of_ble_eq_true rfl) (Nat.le_of_ble_eq_true rfl) (Nat.le_of_ble_eq_true rfl) dX2_lackingOf_70 ?_
    exact y_iret C hr (by rw [lko, ← hs]) hd dX2_lackingOf_73
  | succ rem ih =>
    intro n hn sum hs H hd
    have hlt : n < nm d := by omega
    refine y_iload_n C 0 dX2_lackingOf_4 rfl rfl ?_
    refine y_aload_n C 2 dX2_lackingOf_5 rfl rfl ?_
    refine y_get2 C (dk_0 hd) 4 (by decide) q44 rfl rfl dX2_lackingOf_6 ?_
    refine y_get4 C (dk_11 hd) 0 (by decide) q193 rfl rfl dX2_lackingOf_9 ?_
    refine y_icmp_ge C 50 dX2_lackingOf_12 (by decide) (fun h => absurd h (ge_f rfl hsf.2.1.1 hlt (by have := hsf.2.1.2; omega))) (fun _ => ?_)
    refine y_aload_n C 2 dX2_lackingOf_15 rfl rfl ?_
    refine y_get2 C (dk_0 hd) 4 (by decide) q44 rfl rfl dX2_lackingOf_16 ?_
    refine y_get4 C (dk_11 hd) 7 (by decide) q195 rfl rfl dX2_lackingOf_19 ?_
    refine y_iload_n C 0 dX2_lackingOf_22 rfl rfl ?_
    refine y_iald C (dk_18 hd) n rfl (by have := hsf.2.1.2; omega) (by decide) dX2_lackingOf_23 ?_
    refine y_iconst C (2) dX2_lackingOf_24 (by decide) ?_
    refine y_icmp_ne C 44 dX2_lackingOf_25 (by decide) (fun h1 => ?_) (fun h1 => ?_)
    · refine y_iinc C 0 (nI (n + 1)) dX2_lackingOf_44 rfl (nI_succ _).symm (by decide) rfl ?_
      refine y_goto C 4 dX2_lackingOf_47 (by decide) ?_
      exact ih (n + 1) (by omega) _ (by rw [lkn, if_neg h1, hs]) H hd
    · refine y_iload_n C 1 dX2_lackingOf_28 rfl rfl ?_
      refine y_aload_n C 2 dX2_lackingOf_29 rfl rfl ?_
      refine y_get2 C (dk_0 hd) 4 (by decide) q44 rfl rfl dX2_lackingOf_30 ?_
      refine y_get4 C (dk_11 hd) 1 (by decide) q194 rfl rfl dX2_lackingOf_33 ?_
      refine y_iload_n C 0 dX2_lackingOf_36 rfl rfl ?_
      refine y_iald C (dk_12 hd) n rfl (by have := hsf.2.1.2; omega) (by decide) dX2_lackingOf_37 ?_
      refine y_top (hsf.2.2.1 _ hlt).1 ?_
      refine y_iload_n C 3 dX2_lackingOf_38 rfl rfl ?_
      refine y_callS C [.int (nI (fl d n)), .int (nI p)] (c_X5_needOf g B0 l (fl d n) p (hsf.2.2.1 _ hlt).2 hp6) 2 (wSin q411 q209 q39 q210) hs_X5_needOf ⟨(Nat.le_of_ble_eq_true rfl), (Nat.le_of_ble_eq_true rfl)⟩ ⟨rfl, rfl⟩ trivial nF.no rfl rfl (Nat.le_of_ble_eq_true rfl) dX2_lackingOf_39 ⟨(Nat.le_of_ble_eq_true rfl), (Nat.le_of_ble_eq_true rfl)⟩ rfl (fun H hp hz hf => ?_)
      have hd := hd.fr hf (fun _ _ z => z)
      refine y_iadd C dX2_lackingOf_42 ?_
      refine y_istore_n C dX2_lackingOf_43 rfl (by decide) rfl ?_
      refine y_iinc C 1 (nI (n + 1)) dX2_lackingOf_44 rfl (nI_succ _).symm (by decide) rfl ?_
      refine y_goto C 4 dX2_lackingOf_47 (by decide) ?_
      exact ih (n + 1) (by omega) _ (by rw [lkn, if_pos h1, hs]) H hd
def rm_X2_reservePartsWhere : Room := { frames := 2, cells := 0, slots := 0, locals := 43 }
set_option maxRecDepth 100000 in
set_option maxHeartbeats 4000000 in
theorem c_X2_reservePartsWhere (g : KG) (B0 : Nat) (l : Launch) (a : Nat) (d : DV) (lo : Int32) (hsf : sf d) : Mt g B0 l yX2_reservePartsWhere cX2_reservePartsWhere 4 none rm_X2_reservePartsWhere [.ref a, .int lo] (iv a 21) (dk g a d) none (dk g a (rpw d lo (nm d))) 0 0 := by
  refine Mt_of RX2 (by decide) rfl [(0, .ref a), (1, .int lo)] rfl (Nat.le_of_ble_eq_true rfl) ?_
  intro pr e s m args below meth c C hr hin hd
  refine y_iconst C (0) dX2_reservePartsWhere_0 (by decide) ?_
  refine y_istore_n C dX2_reservePartsWhere_1 rfl (by decide) rfl ?_
  suffices K : ∀ rem n : Nat, n + rem = nm d → ∀ D : DV, D = rpw d lo n → ∀ H : Heap, dk g a D H → Yx (iv a 21) pr l e rm_X2_reservePartsWhere s m args below meth c 4 0 0 (MQ below (Qx none (dk g a (rpw d lo (nm d))) (iv a 21)) args s 0 0 (iv a 21)) [(2, .int (nI n)), (0, .ref a), (1, .int lo)] H 2 [] from K (nm d) 0 (Nat.zero_add _) d rfl _ hd
  intro rem
  induction rem with
  | zero =>
    intro n hn D hs H hd
    have hsD : sf D := by rw [hs]; exact sf_rpw hsf lo n
    have hnm : nm D = nm d := by rw [hs]; exact nm_of (rpw_ne d lo 11 (by decide) (by decide) n)
    have h11 : D.1 11 0 = nI (nm d) := by rw [← hnm]; exact hsD.2.1.1
    obtain rfl : n = nm d := by omega
    refine y_iload_n C 0 dX2_reservePartsWhere_2 rfl rfl ?_
    refine y_aload_n C 1 dX2_reservePartsWhere_3 rfl rfl ?_
    refine y_get2 C (dk_0 hd) 4 (by decide) q44 rfl rfl dX2_reservePartsWhere_4 ?_
    refine y_get4 C (dk_11 hd) 0 (by decide) q193 rfl rfl dX2_reservePartsWhere_7 ?_
    refine y_icmp_ge C 76 dX2_reservePartsWhere_10 (by decide) (fun _ => ?_) (fun h => absurd (ge_t rfl h11 (Nat.le_refl _) (by have := hsf.2.1.2; omega)) h)
    exact y_vret C hr (hs ▸ hd) dX2_reservePartsWhere_76
  | succ rem ih =>
    intro n hn D hs H hd
    have hlt : n < nm d := by omega
    have hsD : sf D := by rw [hs]; exact sf_rpw hsf lo n
    have hnm : nm D = nm d := by rw [hs]; exact nm_of (rpw_ne d lo 11 (by decide) (by decide) n)
    have h11 : D.1 11 0 = nI (nm d) := by rw [← hnm]; exact hsD.2.1.1
    have hkD : n < nm D := by omega
    refine y_iload_n C 0 dX2_reservePartsWhere_2 rfl rfl ?_
    refine y_aload_n C 1 dX2_reservePartsWhere_3 rfl rfl ?_
    refine y_get2 C (dk_0 hd) 4 (by decide) q44 rfl rfl dX2_reservePartsWhere_4 ?_
    refine y_get4 C (dk_11 hd) 0 (by decide) q193 rfl rfl dX2_reservePartsWhere_7 ?_
    refine y_icmp_ge C 76 dX2_reservePartsWhere_10 (by decide) (fun h => absurd h (ge_f rfl h11 hlt (by have := hsf.2.1.2; omega))) (fun _ => ?_)
    refine y_aload_n C 1 dX2_reservePartsWhere_13 rfl rfl ?_
    refine y_get2 C (dk_0 hd) 4 (by decide) q44 rfl rfl dX2_reservePartsWhere_14 ?_
    refine y_iload_n C 0 dX2_reservePartsWhere_17 rfl rfl ?_
    refine y_iconst C (2) dX2_reservePartsWhere_18 (by decide) ?_
    refine y_iload_n C 2 dX2_reservePartsWhere_19 rfl rfl ?_
    refine y_callV C [.int (nI n), .int (2 : Int32), .int lo] (c_X4_isTurnOf g B0 l a D n (2 : Int32) lo (by have := hsf.2.1.2; omega)) RX4 3 (wVin q196 q197 q198 q43 q199) hy_X4_isTurnOf ⟨(Nat.le_of_ble_eq_true rfl), (Nat.le_of_ble_eq_true rfl)⟩ ⟨rfl, rfl⟩ (rcv C.2.2.2.2.2.1 (dk_11 hd) rfl) hd (fun _ h => h) rfl rfl (Nat.le_of_ble_eq_true rfl) dX2_reservePartsWhere_20 ⟨(Nat.le_of_ble_eq_true rfl), (Nat.le_of_ble_eq_true rfl)⟩ rfl (fun H hp hz hf => ?_)
    have hd := hp
    refine y_if_ne C 29 dX2_reservePartsWhere_23 (by decide) (fun h1 => ?_) (fun h1 => ?_)
    · refine y_aload_n C 1 dX2_reservePartsWhere_29 rfl rfl ?_
      refine y_get2 C (dk_0 hd) 4 (by decide) q44 rfl rfl dX2_reservePartsWhere_30 ?_
      refine y_get4 C (dk_11 hd) 1 (by decide) q194 rfl rfl dX2_reservePartsWhere_33 ?_
      refine y_iload_n C 0 dX2_reservePartsWhere_36 rfl rfl ?_
      refine y_iald C (dk_12 hd) n rfl (by have := hsf.2.1.2; omega) (by decide) dX2_reservePartsWhere_37 ?_
      refine y_top (hsD.2.2.1 _ hkD).1 ?_
      refine y_istore_n C dX2_reservePartsWhere_38 rfl (by decide) rfl ?_
      refine y_aload_n C 2 dX2_reservePartsWhere_39 rfl rfl ?_
      refine y_get2 C (dk_0 hd) 3 (by decide) q40 rfl rfl dX2_reservePartsWhere_40 ?_
      refine y_iload_n C 0 dX2_reservePartsWhere_43 rfl rfl ?_
      refine y_callV C [.int (nI (fl D n))] (c_X5_lowestShort g B0 l a D (fl D n) (hsD.2.2.1 _ hkD).2) RX5 1 (wVin q200 q201 q202 q39 q203) hy_X5_lowestShort ⟨(Nat.le_of_ble_eq_true rfl), (Nat.le_of_ble_eq_true rfl)⟩ ⟨rfl, rfl⟩ (rcv C.2.2.2.2.2.1 (dk_3 hd) rfl) hd (fun _ h => h) rfl rfl (Nat.le_of_ble_eq_true rfl) dX2_reservePartsWhere_44 ⟨(Nat.le_of_ble_eq_true rfl), (Nat.le_of_ble_eq_true rfl)⟩ rfl (fun H hp hz hf => ?_)
      have hd := hp
      refine y_bipush C (-5) dX2_reservePartsWhere_47 (by decide) ?_
      refine y_icmp_ne C 70 dX2_reservePartsWhere_49 (by decide) (fun h2 => ?_) (fun h2 => ?_)
      · refine y_iinc C 1 (nI (n + 1)) dX2_reservePartsWhere_70 rfl (nI_succ _).symm (by decide) rfl ?_
        refine y_goto C 2 dX2_reservePartsWhere_73 (by decide) ?_
        exact y_sub [0, 2, 3] (ih (n + 1) (by omega) _ (by rw [rpw, ← hs, if_neg h1, if_neg h2]) H hd) rfl
      · refine y_aload_n C 2 dX2_reservePartsWhere_52 rfl rfl ?_
        refine y_get2 C (dk_0 hd) 3 (by decide) q40 rfl rfl dX2_reservePartsWhere_53 ?_
        refine y_iload_n C 0 dX2_reservePartsWhere_56 rfl rfl ?_
        refine y_callV C [.int (nI (fl D n))] (c_X5_reserveFor g B0 l a D (fl D n) (hsD.2.2.1 _ hkD).2) RX5 1 (wVin q211 q212 q213 q39 q214) hy_X5_reserveFor ⟨(Nat.le_of_ble_eq_true rfl), (Nat.le_of_ble_eq_true rfl)⟩ ⟨rfl, rfl⟩ (rcv C.2.2.2.2.2.1 (dk_3 hd) rfl) hd (fun _ h => h) rfl rfl (Nat.le_of_ble_eq_true rfl) dX2_reservePartsWhere_57 ⟨(Nat.le_of_ble_eq_true rfl), (Nat.le_of_ble_eq_true rfl)⟩ rfl (fun H hp hz hf => ?_)
        have hd := hp
        refine y_aload_n C 2 dX2_reservePartsWhere_60 rfl rfl ?_
        refine y_get2 C (dk_0 hd) 4 (by decide) q44 rfl rfl dX2_reservePartsWhere_61 ?_
        refine y_get4 C (dk_11 hd) 7 (by decide) q195 rfl rfl dX2_reservePartsWhere_64 ?_
        refine y_iload_n C 1 dX2_reservePartsWhere_67 rfl rfl ?_
        refine y_iconst C (3) dX2_reservePartsWhere_68 (by decide) ?_
        refine y_iast C (dk_18 hd) (ivm 18 (by decide)) n rfl (by have := hsf.2.1.2; omega) (by decide) dX2_reservePartsWhere_69 (fun H hw1 ow1 zw1 => ?_)
        have hd := dk_set18 hd hw1 ow1
        refine y_iinc C 1 (nI (n + 1)) dX2_reservePartsWhere_70 rfl (nI_succ _).symm (by decide) rfl ?_
        refine y_goto C 2 dX2_reservePartsWhere_73 (by decide) ?_
        exact y_sub [0, 2, 3] (ih (n + 1) (by omega) _ (by rw [rpw, ← hs, if_neg h1, if_pos h2]) H hd) rfl
    · refine y_goto C 70 dX2_reservePartsWhere_26 (by decide) ?_
      refine y_iinc C 0 (nI (n + 1)) dX2_reservePartsWhere_70 rfl (nI_succ _).symm (by decide) rfl ?_
      refine y_goto C 2 dX2_reservePartsWhere_73 (by decide) ?_
      exact y_sub [0, 1, 2] (ih (n + 1) (by omega) _ (by rw [rpw, ← hs, if_pos h1]) H hd) rfl
def rm_X2_reserveParts : Room := { frames := 3, cells := 0, slots := 0, locals := 66 }
set_option maxRecDepth 100000 in
set_option maxHeartbeats 4000000 in
theorem c_X2_reserveParts (g : KG) (B0 : Nat) (l : Launch) (a : Nat) (d : DV) (hsf : sf d) : Mt g B0 l yX2_reserveParts cX2_reserveParts 1 none rm_X2_reserveParts [.ref a] (iv a 21) (dk g a d) none (dk g a (rpa d)) 0 0 := by
  refine Mt_of RX2 (by decide) rfl [(0, .ref a)] rfl (Nat.le_of_ble_eq_true rfl) ?_
  intro pr e s m args below meth c C hr hin hd
  refine y_aload_n C 0 dX2_reserveParts_0 rfl rfl ?_
  refine y_iconst C (1) dX2_reserveParts_1 (by decide) ?_
  refine y_callV C [.int (1 : Int32)] (c_X2_reservePartsWhere g B0 l a d (1 : Int32) hsf) RX2 1 (wVin q189 q190 q191 q11 q192) hy_X2_reservePartsWhere ⟨(Nat.le_of_ble_eq_true rfl), (Nat.le_of_ble_eq_true rfl)⟩ ⟨rfl, rfl⟩ (rcv C.2.2.2.2.2.1 (dk_0 hd) rfl) hd (fun _ h => h) rfl rfl (Nat.le_of_ble_eq_true rfl) dX2_reserveParts_2 ⟨(Nat.le_of_ble_eq_true rfl), (Nat.le_of_ble_eq_true rfl)⟩ rfl (fun H hp hz hf => ?_)
  have hd := hp
  refine y_aload_n C 0 dX2_reserveParts_5 rfl rfl ?_
  refine y_iconst C (0) dX2_reserveParts_6 (by decide) ?_
  refine y_callV C [.int (0 : Int32)] (c_X2_reservePartsWhere g B0 l a (rpw d (1 : Int32) (nm d)) (0 : Int32) (sf_rpw hsf 1 (nm d))) RX2 1 (wVin q189 q190 q191 q11 q192) hy_X2_reservePartsWhere ⟨(Nat.le_of_ble_eq_true rfl), (Nat.le_of_ble_eq_true rfl)⟩ ⟨rfl, rfl⟩ (rcv C.2.2.2.2.2.1 (dk_0 hd) rfl) hd (fun _ h => h) rfl rfl (Nat.le_of_ble_eq_true rfl) dX2_reserveParts_7 ⟨(Nat.le_of_ble_eq_true rfl), (Nat.le_of_ble_eq_true rfl)⟩ rfl (fun H hp hz hf => ?_)
  have hd := hp
  exact y_vret C hr hd dX2_reserveParts_10
def rm_X2_decide : Room := { frames := 4, cells := 0, slots := 0, locals := 86 }
set_option maxRecDepth 100000 in
set_option maxHeartbeats 4000000 in
theorem c_X2_decide (g : KG) (B0 : Nat) (l : Launch) (a : Nat) (d : DV) (k : Nat) (b : Int32) (hk : k < 20) (hsf : sf d) : Mt g B0 l yX2_decide cX2_decide 3 none rm_X2_decide [.ref a, .int (nI k), .int b] (iv a 21) (dk g a d) none (dk g a (dcd d k b)) 0 0 := by
  refine Mt_of RX2 (by decide) rfl [(0, .ref a), (1, .int (nI k)), (2, .int b)] rfl (Nat.le_of_ble_eq_true rfl) ?_
  intro pr e s m args below meth c C hr hin hd
  refine y_iload_n C 2 dX2_decide_0 rfl rfl ?_
  refine y_if_eq C 21 dX2_decide_1 (by decide) (fun h1 => ?_) (fun h1 => ?_)
  · refine y_aload_n C 0 dX2_decide_21 rfl rfl ?_
    refine y_get2 C (dk_0 hd) 4 (by decide) q44 rfl rfl dX2_decide_22 ?_
    refine y_get4 C (dk_11 hd) 7 (by decide) q195 rfl rfl dX2_decide_25 ?_
    refine y_iload_n C 1 dX2_decide_28 rfl rfl ?_
    refine y_iconst C (5) dX2_decide_29 (by decide) ?_
    refine y_iast C (dk_18 hd) (ivm 18 (by decide)) k rfl hk (by decide) dX2_decide_30 (fun H hw1 ow1 zw1 => ?_)
    have hd := dk_set18 hd hw1 ow1
    refine y_aload_n C 0 dX2_decide_31 rfl rfl ?_
    refine y_get2 C (dk_0 hd) 4 (by decide) q44 rfl rfl dX2_decide_32 ?_
    refine y_get4 C (dk_11 hd) 8 (by decide) q234 rfl rfl dX2_decide_35 ?_
    refine y_iload_n C 1 dX2_decide_38 rfl rfl ?_
    refine y_aload_n C 0 dX2_decide_39 rfl rfl ?_
    refine y_get2 C (dk_0 hd) 0 (by decide) q28 rfl rfl dX2_decide_40 ?_
    refine y_iast C (dk_19 hd) (ivm 19 (by decide)) k rfl hk (by decide) dX2_decide_43 (fun H hw1 ow1 zw1 => ?_)
    have hd := dk_set19 hd hw1 ow1
    exact y_vret C hr (by first | (rw [dcd, if_pos h1]; exact hd) | (rw [dcd, if_neg h1]; exact hd)) dX2_decide_44
  · refine y_aload_n C 0 dX2_decide_4 rfl rfl ?_
    refine y_get2 C (dk_0 hd) 4 (by decide) q44 rfl rfl dX2_decide_5 ?_
    refine y_get4 C (dk_11 hd) 7 (by decide) q195 rfl rfl dX2_decide_8 ?_
    refine y_iload_n C 1 dX2_decide_11 rfl rfl ?_
    refine y_iconst C (2) dX2_decide_12 (by decide) ?_
    refine y_iast C (dk_18 hd) (ivm 18 (by decide)) k rfl hk (by decide) dX2_decide_13 (fun H hw1 ow1 zw1 => ?_)
    have hd := dk_set18 hd hw1 ow1
    refine y_aload_n C 0 dX2_decide_14 rfl rfl ?_
    refine y_callV C [] (c_X2_reserveParts g B0 l a (dset d 18 k (2 : Int32)) (hsf.to rfl rfl rfl rfl)) RX2 0 (wVin q185 q186 q187 q11 q188) hy_X2_reserveParts ⟨(Nat.le_of_ble_eq_true rfl), (Nat.le_of_ble_eq_true rfl)⟩ ⟨rfl, rfl⟩ (rcv C.2.2.2.2.2.1 (dk_0 hd) rfl) hd (fun _ h => h) rfl rfl (Nat.le_of_ble_eq_true rfl) dX2_decide_15 ⟨(Nat.le_of_ble_eq_true rfl), (Nat.le_of_ble_eq_true rfl)⟩ rfl (fun H hp hz hf => ?_)
    have hd := hp
    refine y_goto C 44 dX2_decide_18 (by decide) ?_
    exact y_vret C hr (by first | (rw [dcd, if_pos h1]; exact hd) | (rw [dcd, if_neg h1]; exact hd)) dX2_decide_44
def rm_X2_handOver : Room := { frames := 1, cells := 0, slots := 0, locals := 22 }
set_option maxRecDepth 100000 in
set_option maxHeartbeats 4000000 in
theorem c_X2_handOver (g : KG) (B0 : Nat) (l : Launch) (a : Nat) (d : DV) (k : Nat) (hk : k < 20) (hfr : fr d) : Mt g B0 l yX2_handOver cX2_handOver 3 (some .int) rm_X2_handOver [.ref a, .int (nI k)] (iv a 21) (dk g a d) (some (.int (d.1 16 k + sfee d k))) (dk g a (hov d k)) 0 0 := by
  refine Mt_of RX2 (by decide) rfl [(0, .ref a), (1, .int (nI k))] rfl (Nat.le_of_ble_eq_true rfl) ?_
  intro pr e s m args below meth c C hr hin hd
  refine y_aload_n C 0 dX2_handOver_0 rfl rfl ?_
  refine y_iload_n C 1 dX2_handOver_1 rfl rfl ?_
  refine y_callV C [.int (nI k)] (c_X2_storageFee g B0 l a d k hk hfr) RX2 1 (wVin q329 q330 q331 q11 q332) hy_X2_storageFee ⟨(Nat.le_of_ble_eq_true rfl), (Nat.le_of_ble_eq_true rfl)⟩ ⟨rfl, rfl⟩ (rcv C.2.2.2.2.2.1 (dk_0 hd) rfl) hd (fun _ h => h) rfl rfl (Nat.le_of_ble_eq_true rfl) dX2_handOver_2 ⟨(Nat.le_of_ble_eq_true rfl), (Nat.le_of_ble_eq_true rfl)⟩ rfl (fun H hp hz hf => ?_)
  have hd := hp
  refine y_istore_n C dX2_handOver_5 rfl (by decide) rfl ?_
  refine y_aload_n C 1 dX2_handOver_6 rfl rfl ?_
  refine y_get2 C (dk_0 hd) 5 (by decide) q48 rfl rfl dX2_handOver_7 ?_
  refine y_dup C dX2_handOver_10 rfl ?_
  refine y_get1 C (dk_20 hd) 0 (by decide) q327 rfl rfl dX2_handOver_11 ?_
  refine y_aload_n C 1 dX2_handOver_14 rfl rfl ?_
  refine y_get2 C (dk_0 hd) 4 (by decide) q44 rfl rfl dX2_handOver_15 ?_
  refine y_get4 C (dk_11 hd) 5 (by decide) q233 rfl rfl dX2_handOver_18 ?_
  refine y_iload_n C 2 dX2_handOver_21 rfl rfl ?_
  refine y_iald C (dk_16 hd) k rfl hk (by decide) dX2_handOver_22 ?_
  refine y_iadd C dX2_handOver_23 ?_
  refine y_put1 C (dk_20 hd) (ivm 20 (by decide)) 0 (by decide) q327 rfl rfl (ty := .int) (by decide +kernel) rfl rfl (Nat.le_of_ble_eq_true rfl) dX2_handOver_24 (fun H hw1 ow1 zw1 => ?_)
  have hd := dk_put20_0 hd hw1 ow1
  refine y_aload_n C 1 dX2_handOver_27 rfl rfl ?_
  refine y_get2 C (dk_0 hd) 5 (by decide) q48 rfl rfl dX2_handOver_28 ?_
  refine y_dup C dX2_handOver_31 rfl ?_
  refine y_get1 C (dk_20 hd) 1 (by decide) q328 rfl rfl dX2_handOver_32 ?_
  refine y_iload_n C 0 dX2_handOver_35 rfl rfl ?_
  refine y_iadd C dX2_handOver_36 ?_
  refine y_put1 C (dk_20 hd) (ivm 20 (by decide)) 1 (by decide) q328 rfl rfl (ty := .int) (by decide +kernel) rfl rfl (Nat.le_of_ble_eq_true rfl) dX2_handOver_37 (fun H hw1 ow1 zw1 => ?_)
  have hd := dk_put20_1 hd hw1 ow1
  refine y_aload_n C 1 dX2_handOver_40 rfl rfl ?_
  refine y_get2 C (dk_0 hd) 4 (by decide) q44 rfl rfl dX2_handOver_41 ?_
  refine y_get4 C (dk_11 hd) 7 (by decide) q195 rfl rfl dX2_handOver_44 ?_
  refine y_iload_n C 2 dX2_handOver_47 rfl rfl ?_
  refine y_bipush C (6) dX2_handOver_48 (by decide) ?_
  refine y_iast C (dk_18 hd) (ivm 18 (by decide)) k rfl hk (by decide) dX2_handOver_50 (fun H hw1 ow1 zw1 => ?_)
  have hd := dk_set18 hd hw1 ow1
  refine y_aload_n C 1 dX2_handOver_51 rfl rfl ?_
  refine y_get2 C (dk_0 hd) 4 (by decide) q44 rfl rfl dX2_handOver_52 ?_
  refine y_get4 C (dk_11 hd) 6 (by decide) q256 rfl rfl dX2_handOver_55 ?_
  refine y_iload_n C 2 dX2_handOver_58 rfl rfl ?_
  refine y_iconst C (0) dX2_handOver_59 (by decide) ?_
  refine y_iast C (dk_17 hd) (ivm 17 (by decide)) k rfl hk (by decide) dX2_handOver_60 (fun H hw1 ow1 zw1 => ?_)
  have hd := dk_set17 hd hw1 ow1
  refine y_aload_n C 1 dX2_handOver_61 rfl rfl ?_
  refine y_get2 C (dk_0 hd) 4 (by decide) q44 rfl rfl dX2_handOver_62 ?_
  refine y_get4 C (dk_11 hd) 5 (by decide) q233 rfl rfl dX2_handOver_65 ?_
  refine y_iload_n C 2 dX2_handOver_68 rfl rfl ?_
  refine y_iald C (dk_16 hd) k rfl hk (by decide) dX2_handOver_69 ?_
  refine y_iload_n C 0 dX2_handOver_70 rfl rfl ?_
  refine y_iadd C dX2_handOver_71 ?_
  exact y_iret C hr rfl hd dX2_handOver_72
def rm_X2_takeOrders : Room := { frames := 4, cells := 0, slots := 0, locals := 86 }
set_option maxRecDepth 100000 in
set_option maxHeartbeats 4000000 in
theorem c_X2_takeOrders (g : KG) (B0 : Nat) (l : Launch) (a : Nat) (d : DV) (hsf : sf d) : Mt g B0 l yX2_takeOrders cX2_takeOrders 2 none rm_X2_takeOrders [.ref a] (iv a 21) (dk g a d) none (dk g a (tkd d)) 0 0 := by
  refine Mt_of RX2 (by decide) rfl [(0, .ref a)] rfl (Nat.le_of_ble_eq_true rfl) ?_
  intro pr e s m args below meth c C hr hin hd
  refine y_iconst C (0) dX2_takeOrders_0 (by decide) ?_
  refine y_istore_n C dX2_takeOrders_1 rfl (by decide) rfl ?_
  suffices K : ∀ rem n : Nat, n + rem = no d → ∀ D : DV, D = tko d n → ∀ H : Heap, dk g a D H → Yx (iv a 21) pr l e rm_X2_takeOrders s m args below meth c 2 0 0 (MQ below (Qx none (dk g a (tkd d)) (iv a 21)) args s 0 0 (iv a 21)) [(1, .int (nI n)), (0, .ref a)] H 2 [] from K (no d) 0 (Nat.zero_add _) d rfl _ hd
  intro rem
  induction rem with
  | zero =>
    intro n hn D hs H hd
    have hsD : sf D := by rw [hs]; exact sf_tko hsf n
    have hno : no D = no d := by rw [hs]; exact no_of (tko_ne d 3 (by decide) (by decide) (by decide) n)
    have h3 : D.1 3 0 = nI (no d) := by rw [← hno]; exact hsD.1.1
    obtain rfl : n = no d := by omega
    refine y_iload_n C 0 dX2_takeOrders_2 rfl rfl ?_
    refine y_aload_n C 1 dX2_takeOrders_3 rfl rfl ?_
    refine y_get2 C (dk_0 hd) 3 (by decide) q40 rfl rfl dX2_takeOrders_4 ?_
    refine y_get5 C (dk_3 hd) 4 (by decide) q180 rfl rfl dX2_takeOrders_7 ?_
    refine y_icmp_ge C 68 dX2_takeOrders_10 (by decide) (fun _ => ?_) (fun h => absurd (ge_t rfl h3 (Nat.le_refl _) (by have := hsf.1.2; omega)) h)
    refine y_aload_n C 1 dX2_takeOrders_68 rfl rfl ?_
    refine y_get2 C (dk_0 hd) 3 (by decide) q40 rfl rfl dX2_takeOrders_69 ?_
    refine y_aload_n C 1 dX2_takeOrders_72 rfl rfl ?_
    refine y_get2 C (dk_0 hd) 0 (by decide) q28 rfl rfl dX2_takeOrders_73 ?_
    refine y_callV C [.int (D.1 0 0)] (c_X5_dropOrdersOf g B0 l a D (D.1 0 0) hsD) RX5 1 (wVin q215 q216 q217 q39 q218) hy_X5_dropOrdersOf ⟨(Nat.le_of_ble_eq_true rfl), (Nat.le_of_ble_eq_true rfl)⟩ ⟨rfl, rfl⟩ (rcv C.2.2.2.2.2.1 (dk_3 hd) rfl) hd (fun _ h => h) rfl rfl (Nat.le_of_ble_eq_true rfl) dX2_takeOrders_76 ⟨(Nat.le_of_ble_eq_true rfl), (Nat.le_of_ble_eq_true rfl)⟩ rfl (fun H hp hz hf => ?_)
    have hd := hp
    exact y_vret C hr (by rw [tkd, ← hs]; exact hd) dX2_takeOrders_79
  | succ rem ih =>
    intro n hn D hs H hd
    have hlt : n < no d := by omega
    have hsD : sf D := by rw [hs]; exact sf_tko hsf n
    have hno : no D = no d := by rw [hs]; exact no_of (tko_ne d 3 (by decide) (by decide) (by decide) n)
    have h3 : D.1 3 0 = nI (no d) := by rw [← hno]; exact hsD.1.1
    have hkO : n < no D := by omega
    refine y_iload_n C 0 dX2_takeOrders_2 rfl rfl ?_
    refine y_aload_n C 1 dX2_takeOrders_3 rfl rfl ?_
    refine y_get2 C (dk_0 hd) 3 (by decide) q40 rfl rfl dX2_takeOrders_4 ?_
    refine y_get5 C (dk_3 hd) 4 (by decide) q180 rfl rfl dX2_takeOrders_7 ?_
    refine y_icmp_ge C 68 dX2_takeOrders_10 (by decide) (fun h => absurd h (ge_f rfl h3 hlt (by have := hsf.1.2; omega))) (fun _ => ?_)
    refine y_aload_n C 1 dX2_takeOrders_13 rfl rfl ?_
    refine y_get2 C (dk_0 hd) 3 (by decide) q40 rfl rfl dX2_takeOrders_14 ?_
    refine y_get5 C (dk_3 hd) 7 (by decide) q181 rfl rfl dX2_takeOrders_17 ?_
    refine y_iload_n C 0 dX2_takeOrders_20 rfl rfl ?_
    refine y_iald C (dk_10 hd) n rfl (by have := hsf.1.2; omega) (by decide) dX2_takeOrders_21 ?_
    refine y_aload_n C 1 dX2_takeOrders_22 rfl rfl ?_
    refine y_get2 C (dk_0 hd) 0 (by decide) q28 rfl rfl dX2_takeOrders_23 ?_
    refine y_icmp_ne C 62 dX2_takeOrders_26 (by decide) (fun h1 => ?_) (fun h1 => ?_)
    · refine y_iinc C 0 (nI (n + 1)) dX2_takeOrders_62 rfl (nI_succ _).symm (by decide) rfl ?_
      refine y_goto C 2 dX2_takeOrders_65 (by decide) ?_
      exact ih (n + 1) (by omega) _ (by rw [tko, ← hs, if_neg h1]) H hd
    · refine y_aload_n C 1 dX2_takeOrders_29 rfl rfl ?_
      refine y_get2 C (dk_0 hd) 3 (by decide) q40 rfl rfl dX2_takeOrders_30 ?_
      refine y_get5 C (dk_3 hd) 2 (by decide) q182 rfl rfl dX2_takeOrders_33 ?_
      refine y_aload_n C 1 dX2_takeOrders_36 rfl rfl ?_
      refine y_get2 C (dk_0 hd) 3 (by decide) q40 rfl rfl dX2_takeOrders_37 ?_
      refine y_get5 C (dk_3 hd) 5 (by decide) q183 rfl rfl dX2_takeOrders_40 ?_
      refine y_iload_n C 0 dX2_takeOrders_43 rfl rfl ?_
      refine y_iald C (dk_8 hd) n rfl (by have := hsf.1.2; omega) (by decide) dX2_takeOrders_44 ?_
      refine y_top (hsD.2.2.2 _ hkO).1 ?_
      refine y_dup2 C dX2_takeOrders_45 rfl rfl ?_
      refine y_iald C (dk_6 hd) (opa D n) rfl (hsD.2.2.2 _ hkO).2 (by decide) dX2_takeOrders_46 ?_
      refine y_aload_n C 1 dX2_takeOrders_47 rfl rfl ?_
      refine y_get2 C (dk_0 hd) 3 (by decide) q40 rfl rfl dX2_takeOrders_48 ?_
      refine y_get5 C (dk_3 hd) 6 (by decide) q184 rfl rfl dX2_takeOrders_51 ?_
      refine y_iload_n C 0 dX2_takeOrders_54 rfl rfl ?_
      refine y_iald C (dk_9 hd) n rfl (by have := hsf.1.2; omega) (by decide) dX2_takeOrders_55 ?_
      refine y_iadd C dX2_takeOrders_56 ?_
      refine y_iast C (dk_6 hd) (ivm 6 (by decide)) (opa D n) rfl (hsD.2.2.2 _ hkO).2 (by decide) dX2_takeOrders_57 (fun H hw1 ow1 zw1 => ?_)
      have hd := dk_set6 hd hw1 ow1
      refine y_aload_n C 1 dX2_takeOrders_58 rfl rfl ?_
      refine y_callV C [] (c_X2_reserveParts g B0 l a (dset D 6 (opa D n) ((D.1 6 (opa D n)) + (D.1 9 n))) (hsD.to rfl rfl rfl rfl)) RX2 0 (wVin q185 q186 q187 q11 q188) hy_X2_reserveParts ⟨(Nat.le_of_ble_eq_true rfl), (Nat.le_of_ble_eq_true rfl)⟩ ⟨rfl, rfl⟩ (rcv C.2.2.2.2.2.1 (dk_0 hd) rfl) hd (fun _ h => h) rfl rfl (Nat.le_of_ble_eq_true rfl) dX2_takeOrders_59 ⟨(Nat.le_of_ble_eq_true rfl), (Nat.le_of_ble_eq_true rfl)⟩ rfl (fun H hp hz hf => ?_)
      have hd := hp
      refine y_iinc C 0 (nI (n + 1)) dX2_takeOrders_62 rfl (nI_succ _).symm (by decide) rfl ?_
      refine y_goto C 2 dX2_takeOrders_65 (by decide) ?_
      exact ih (n + 1) (by omega) _ (by rw [tko, ← hs, if_pos h1]) H hd
def rm_X2_finish : Room := { frames := 3, cells := 0, slots := 0, locals := 67 }
set_option maxRecDepth 100000 in
set_option maxHeartbeats 4000000 in
theorem c_X2_finish (g : KG) (B0 : Nat) (l : Launch) (a : Nat) (d : DV) (k : Nat) (hsf : sf d) (hk : k < nm d) (hfr : fr d) : Mt g B0 l yX2_finish cX2_finish 4 none rm_X2_finish [.ref a, .int (nI k)] (iv a 21) (dk g a d) none (dk g a (fin d k)) 0 0 := by
  refine Mt_of RX2 (by decide) rfl [(0, .ref a), (1, .int (nI k))] rfl (Nat.le_of_ble_eq_true rfl) ?_
  intro pr e s m args below meth c C hr hin hd
  refine y_aload_n C 0 dX2_finish_0 rfl rfl ?_
  refine y_get2 C (dk_0 hd) 4 (by decide) q44 rfl rfl dX2_finish_1 ?_
  refine y_get4 C (dk_11 hd) 1 (by decide) q194 rfl rfl dX2_finish_4 ?_
  refine y_iload_n C 1 dX2_finish_7 rfl rfl ?_
  refine y_iald C (dk_12 hd) k rfl (Nat.lt_of_lt_of_le hk hsf.2.1.2) (by decide) dX2_finish_8 ?_
  refine y_top (hsf.2.2.1 _ hk).1 ?_
  refine y_istore_n C dX2_finish_9 rfl (by decide) rfl ?_
  refine y_aload_n C 1 dX2_finish_10 rfl rfl ?_
  refine y_get2 C (dk_0 hd) 4 (by decide) q44 rfl rfl dX2_finish_11 ?_
  refine y_get4 C (dk_11 hd) 3 (by decide) q232 rfl rfl dX2_finish_14 ?_
  refine y_iload_n C 2 dX2_finish_17 rfl rfl ?_
  refine y_iald C (dk_14 hd) k rfl (Nat.lt_of_lt_of_le hk hsf.2.1.2) (by decide) dX2_finish_18 ?_
  refine y_i2f C dX2_finish_19 ?_
  refine y_aload_n C 1 dX2_finish_20 rfl rfl ?_
  refine y_get2 C (dk_0 hd) 1 (by decide) q34 rfl rfl dX2_finish_21 ?_
  refine y_iconst C (1) dX2_finish_24 (by decide) ?_
  refine y_fald C (dk_1 hd) 1 rfl (by decide) (by decide) dX2_finish_25 ?_
  refine y_fmul C dX2_finish_26 (fp_mul (FP.Core.i2f_fin _) (hfr 1 (by decide))) ?_
  refine y_f2i C dX2_finish_27 ?_
  refine y_istore_n C dX2_finish_28 rfl (by decide) rfl ?_
  refine y_aload_n C 2 dX2_finish_29 rfl rfl ?_
  refine y_get2 C (dk_0 hd) 3 (by decide) q40 rfl rfl dX2_finish_30 ?_
  refine y_iload_n C 1 dX2_finish_33 rfl rfl ?_
  refine y_callV C [.int (nI (fl d k))] (c_X5_takeReservedFor g B0 l a d (fl d k) (hsf.2.2.1 _ hk).2) RX5 1 (wVin q239 q240 q241 q39 q242) hy_X5_takeReservedFor ⟨(Nat.le_of_ble_eq_true rfl), (Nat.le_of_ble_eq_true rfl)⟩ ⟨rfl, rfl⟩ (rcv C.2.2.2.2.2.1 (dk_3 hd) rfl) hd (fun _ h => h) rfl rfl (Nat.le_of_ble_eq_true rfl) dX2_finish_34 ⟨(Nat.le_of_ble_eq_true rfl), (Nat.le_of_ble_eq_true rfl)⟩ rfl (fun H hp hz hf => ?_)
  have hd := hp
  refine y_aload_n C 2 dX2_finish_37 rfl rfl ?_
  refine y_get2 C (dk_0 hd) 4 (by decide) q44 rfl rfl dX2_finish_38 ?_
  refine y_get4 C (dk_11 hd) 5 (by decide) q233 rfl rfl dX2_finish_41 ?_
  refine y_iload_n C 3 dX2_finish_44 rfl rfl ?_
  refine y_aload_n C 2 dX2_finish_45 rfl rfl ?_
  refine y_iload_n C 1 dX2_finish_46 rfl rfl ?_
  refine y_callV C [.int (nI (fl d k))] (c_X2_costNow g B0 l a (trv d (fl d k) 6) (fl d k) (hsf.2.2.1 _ hk).2 (hfr.to (trv_2 _ _ _))) RX2 1 (wVin q243 q244 q245 q11 q246) hy_X2_costNow ⟨(Nat.le_of_ble_eq_true rfl), (Nat.le_of_ble_eq_true rfl)⟩ ⟨rfl, rfl⟩ (rcv C.2.2.2.2.2.1 (dk_0 hd) rfl) hd (fun _ h => h) rfl rfl (Nat.le_of_ble_eq_true rfl) dX2_finish_47 ⟨(Nat.le_of_ble_eq_true rfl), (Nat.le_of_ble_eq_true rfl)⟩ rfl (fun H hp hz hf => ?_)
  have hd := hp
  refine y_iload_n C 0 dX2_finish_50 rfl rfl ?_
  refine y_mmin C q224 q225 q226 q227 (Nat.le_of_ble_eq_true rfl) (Nat.le_of_ble_eq_true rfl) (Nat.le_of_ble_eq_true rfl) (Nat.le_of_ble_eq_true rfl) dX2_finish_51 ?_
  refine y_iast C (dk_16 hd) (ivm 16 (by decide)) k rfl (Nat.lt_of_lt_of_le hk hsf.2.1.2) (by decide) dX2_finish_54 (fun H hw1 ow1 zw1 => ?_)
  have hd := dk_set16 hd hw1 ow1
  refine y_aload_n C 2 dX2_finish_55 rfl rfl ?_
  refine y_get2 C (dk_0 hd) 4 (by decide) q44 rfl rfl dX2_finish_56 ?_
  refine y_get4 C (dk_11 hd) 7 (by decide) q195 rfl rfl dX2_finish_59 ?_
  refine y_iload_n C 3 dX2_finish_62 rfl rfl ?_
  refine y_iconst C (4) dX2_finish_63 (by decide) ?_
  refine y_iast C (dk_18 hd) (ivm 18 (by decide)) k rfl (Nat.lt_of_lt_of_le hk hsf.2.1.2) (by decide) dX2_finish_64 (fun H hw1 ow1 zw1 => ?_)
  have hd := dk_set18 hd hw1 ow1
  refine y_aload_n C 2 dX2_finish_65 rfl rfl ?_
  refine y_get2 C (dk_0 hd) 4 (by decide) q44 rfl rfl dX2_finish_66 ?_
  refine y_get4 C (dk_11 hd) 8 (by decide) q234 rfl rfl dX2_finish_69 ?_
  refine y_iload_n C 3 dX2_finish_72 rfl rfl ?_
  refine y_aload_n C 2 dX2_finish_73 rfl rfl ?_
  refine y_get2 C (dk_0 hd) 0 (by decide) q28 rfl rfl dX2_finish_74 ?_
  refine y_iast C (dk_19 hd) (ivm 19 (by decide)) k rfl (Nat.lt_of_lt_of_le hk hsf.2.1.2) (by decide) dX2_finish_77 (fun H hw1 ow1 zw1 => ?_)
  have hd := dk_set19 hd hw1 ow1
  refine y_aload_n C 2 dX2_finish_78 rfl rfl ?_
  refine y_get2 C (dk_0 hd) 5 (by decide) q48 rfl rfl dX2_finish_79 ?_
  refine y_dup C dX2_finish_82 rfl ?_
  refine y_get1 C (dk_20 hd) 3 (by decide) q235 rfl rfl dX2_finish_83 ?_
  refine y_aload_n C 2 dX2_finish_86 rfl rfl ?_
  refine y_get2 C (dk_0 hd) 3 (by decide) q40 rfl rfl dX2_finish_87 ?_
  refine y_iload_n C 1 dX2_finish_90 rfl rfl ?_
  refine y_callV C [.int (nI (fl d k))] (c_X5_priceOfParts g B0 l a (dset (dset (dset (trv d (fl d k) 6) 16 k (if (FP.f2i (FP.fmul (FP.i2f (d.1 14 k)) (d.2 1))) < (cost (trv d (fl d k) 6) (fl d k)) then (FP.f2i (FP.fmul (FP.i2f (d.1 14 k)) (d.2 1))) else (cost (trv d (fl d k) 6) (fl d k)))) 18 k (4 : Int32)) 19 k ((dset (dset (trv d (fl d k) 6) 16 k (if (FP.f2i (FP.fmul (FP.i2f (d.1 14 k)) (d.2 1))) < (cost (trv d (fl d k) 6) (fl d k)) then (FP.f2i (FP.fmul (FP.i2f (d.1 14 k)) (d.2 1))) else (cost (trv d (fl d k) 6) (fl d k)))) 18 k (4 : Int32)).1 0 0)) (fl d k) (hsf.2.2.1 _ hk).2) RX5 1 (wVin q247 q248 q249 q39 q250) hy_X5_priceOfParts ⟨(Nat.le_of_ble_eq_true rfl), (Nat.le_of_ble_eq_true rfl)⟩ ⟨rfl, rfl⟩ (rcv C.2.2.2.2.2.1 (dk_3 hd) rfl) hd (fun _ h => h) rfl rfl (Nat.le_of_ble_eq_true rfl) dX2_finish_91 ⟨(Nat.le_of_ble_eq_true rfl), (Nat.le_of_ble_eq_true rfl)⟩ rfl (fun H hp hz hf => ?_)
  have hd := hp
  refine y_iadd C dX2_finish_94 ?_
  refine y_put1 C (dk_20 hd) (ivm 20 (by decide)) 3 (by decide) q235 rfl rfl (ty := .int) (by decide +kernel) rfl rfl (Nat.le_of_ble_eq_true rfl) dX2_finish_95 (fun H hw1 ow1 zw1 => ?_)
  have hd := dk_put20_3 hd hw1 ow1
  refine y_aload_n C 2 dX2_finish_98 rfl rfl ?_
  refine y_get2 C (dk_0 hd) 5 (by decide) q48 rfl rfl dX2_finish_99 ?_
  refine y_dup C dX2_finish_102 rfl ?_
  refine y_get1 C (dk_20 hd) 5 (by decide) q236 rfl rfl dX2_finish_103 ?_
  refine y_aload_n C 2 dX2_finish_106 rfl rfl ?_
  refine y_get2 C (dk_0 hd) 0 (by decide) q28 rfl rfl dX2_finish_107 ?_
  refine y_aload_n C 2 dX2_finish_110 rfl rfl ?_
  refine y_get2 C (dk_0 hd) 4 (by decide) q44 rfl rfl dX2_finish_111 ?_
  refine y_get4 C (dk_11 hd) 2 (by decide) q237 rfl rfl dX2_finish_114 ?_
  refine y_iload_n C 3 dX2_finish_117 rfl rfl ?_
  refine y_iald C (dk_13 hd) k rfl (Nat.lt_of_lt_of_le hk hsf.2.1.2) (by decide) dX2_finish_118 ?_
  refine y_isub C dX2_finish_119 ?_
  refine y_iadd C dX2_finish_120 ?_
  refine y_put1 C (dk_20 hd) (ivm 20 (by decide)) 5 (by decide) q236 rfl rfl (ty := .int) (by decide +kernel) rfl rfl (Nat.le_of_ble_eq_true rfl) dX2_finish_121 (fun H hw1 ow1 zw1 => ?_)
  have hd := dk_put20_5 hd hw1 ow1
  refine y_aload_n C 2 dX2_finish_124 rfl rfl ?_
  refine y_get2 C (dk_0 hd) 5 (by decide) q48 rfl rfl dX2_finish_125 ?_
  refine y_dup C dX2_finish_128 rfl ?_
  refine y_get1 C (dk_20 hd) 4 (by decide) q238 rfl rfl dX2_finish_129 ?_
  refine y_iconst C (1) dX2_finish_132 (by decide) ?_
  refine y_iadd C dX2_finish_133 ?_
  refine y_put1 C (dk_20 hd) (ivm 20 (by decide)) 4 (by decide) q238 rfl rfl (ty := .int) (by decide +kernel) rfl rfl (Nat.le_of_ble_eq_true rfl) dX2_finish_134 (fun H hw1 ow1 zw1 => ?_)
  have hd := dk_put20_4 hd hw1 ow1
  exact y_vret C hr hd dX2_finish_137
def rm_X2_sellUnclaimed : Room := { frames := 1, cells := 0, slots := 0, locals := 21 }
set_option maxRecDepth 100000 in
set_option maxHeartbeats 4000000 in
theorem c_X2_sellUnclaimed (g : KG) (B0 : Nat) (l : Launch) (a : Nat) (d : DV) (hsf : sf d) (hfr : fr d) : Mt g B0 l yX2_sellUnclaimed cX2_sellUnclaimed 2 none rm_X2_sellUnclaimed [.ref a] (iv a 21) (dk g a d) none (dk g a (sel d (nm d))) 0 0 := by
  refine Mt_of RX2 (by decide) rfl [(0, .ref a)] rfl (Nat.le_of_ble_eq_true rfl) ?_
  intro pr e s m args below meth c C hr hin hd
  refine y_iconst C (0) dX2_sellUnclaimed_0 (by decide) ?_
  refine y_istore_n C dX2_sellUnclaimed_1 rfl (by decide) rfl ?_
  suffices K : ∀ rem n : Nat, n + rem = nm d → ∀ D : DV, D = sel d n → ∀ H : Heap, dk g a D H → Yx (iv a 21) pr l e rm_X2_sellUnclaimed s m args below meth c 2 0 0 (MQ below (Qx none (dk g a (sel d (nm d))) (iv a 21)) args s 0 0 (iv a 21)) [(1, .int (nI n)), (0, .ref a)] H 2 [] from K (nm d) 0 (Nat.zero_add _) d rfl _ hd
  intro rem
  induction rem with
  | zero =>
    intro n hn D hs H hd
    have hsD : sf D := by rw [hs]; exact sf_sel hsf n
    have hfD : fr D := by rw [hs]; exact hfr.to (sel_2 d n)
    have hnm : nm D = nm d := by rw [hs]; exact nm_of (sel_ne d 11 (by decide) (by decide) (by decide) n)
    have h11 : D.1 11 0 = nI (nm d) := by rw [← hnm]; exact hsD.2.1.1
    obtain rfl : n = nm d := by omega
    refine y_iload_n C 0 dX2_sellUnclaimed_2 rfl rfl ?_
    refine y_aload_n C 1 dX2_sellUnclaimed_3 rfl rfl ?_
    refine y_get2 C (dk_0 hd) 4 (by decide) q44 rfl rfl dX2_sellUnclaimed_4 ?_
    refine y_get4 C (dk_11 hd) 0 (by decide) q193 rfl rfl dX2_sellUnclaimed_7 ?_
    refine y_icmp_ge C 104 dX2_sellUnclaimed_10 (by decide) (fun _ => ?_) (fun h => absurd (ge_t rfl h11 (Nat.le_refl _) (by have := hsf.2.1.2; omega)) h)
    exact y_vret C hr (hs ▸ hd) dX2_sellUnclaimed_104
  | succ rem ih =>
    intro n hn D hs H hd
    have hlt : n < nm d := by omega
    have hsD : sf D := by rw [hs]; exact sf_sel hsf n
    have hfD : fr D := by rw [hs]; exact hfr.to (sel_2 d n)
    have hnm : nm D = nm d := by rw [hs]; exact nm_of (sel_ne d 11 (by decide) (by decide) (by decide) n)
    have h11 : D.1 11 0 = nI (nm d) := by rw [← hnm]; exact hsD.2.1.1
    refine y_iload_n C 0 dX2_sellUnclaimed_2 rfl rfl ?_
    refine y_aload_n C 1 dX2_sellUnclaimed_3 rfl rfl ?_
    refine y_get2 C (dk_0 hd) 4 (by decide) q44 rfl rfl dX2_sellUnclaimed_4 ?_
    refine y_get4 C (dk_11 hd) 0 (by decide) q193 rfl rfl dX2_sellUnclaimed_7 ?_
    refine y_icmp_ge C 104 dX2_sellUnclaimed_10 (by decide) (fun h => absurd h (ge_f rfl h11 hlt (by have := hsf.2.1.2; omega))) (fun _ => ?_)
    refine y_aload_n C 1 dX2_sellUnclaimed_13 rfl rfl ?_
    refine y_get2 C (dk_0 hd) 4 (by decide) q44 rfl rfl dX2_sellUnclaimed_14 ?_
    refine y_iload_n C 0 dX2_sellUnclaimed_17 rfl rfl ?_
    refine y_callV C [.int (nI n)] (c_X4_isReady g B0 l a D n (by have := hsf.2.1.2; omega)) RX4 1 (wVin q257 q258 q259 q43 q260) hy_X4_isReady ⟨(Nat.le_of_ble_eq_true rfl), (Nat.le_of_ble_eq_true rfl)⟩ ⟨rfl, rfl⟩ (rcv C.2.2.2.2.2.1 (dk_11 hd) rfl) hd (fun _ h => h) rfl rfl (Nat.le_of_ble_eq_true rfl) dX2_sellUnclaimed_18 ⟨(Nat.le_of_ble_eq_true rfl), (Nat.le_of_ble_eq_true rfl)⟩ rfl (fun H hp hz hf => ?_)
    have hd := hp
    refine y_if_eq C 98 dX2_sellUnclaimed_21 (by decide) (fun h1 => ?_) (fun h1 => ?_)
    · refine y_iinc C 0 (nI (n + 1)) dX2_sellUnclaimed_98 rfl (nI_succ _).symm (by decide) rfl ?_
      refine y_goto C 2 dX2_sellUnclaimed_101 (by decide) ?_
      exact ih (n + 1) (by omega) _ (by rw [sel, ← hs, if_pos h1]) H hd
    · refine y_aload_n C 1 dX2_sellUnclaimed_24 rfl rfl ?_
      refine y_get2 C (dk_0 hd) 0 (by decide) q28 rfl rfl dX2_sellUnclaimed_25 ?_
      refine y_aload_n C 1 dX2_sellUnclaimed_28 rfl rfl ?_
      refine y_get2 C (dk_0 hd) 4 (by decide) q44 rfl rfl dX2_sellUnclaimed_29 ?_
      refine y_get4 C (dk_11 hd) 8 (by decide) q234 rfl rfl dX2_sellUnclaimed_32 ?_
      refine y_iload_n C 0 dX2_sellUnclaimed_35 rfl rfl ?_
      refine y_iald C (dk_19 hd) n rfl (by have := hsf.2.1.2; omega) (by decide) dX2_sellUnclaimed_36 ?_
      refine y_isub C dX2_sellUnclaimed_37 ?_
      refine y_aload_n C 1 dX2_sellUnclaimed_38 rfl rfl ?_
      refine y_get2 C (dk_0 hd) 2 (by decide) q36 rfl rfl dX2_sellUnclaimed_39 ?_
      refine y_iconst C (3) dX2_sellUnclaimed_42 (by decide) ?_
      refine y_iald C (dk_2 hd) 3 rfl (by decide) (by decide) dX2_sellUnclaimed_43 ?_
      refine y_icmp_lt C 98 dX2_sellUnclaimed_44 (by decide) (fun h2 => ?_) (fun h2 => ?_)
      · refine y_iinc C 0 (nI (n + 1)) dX2_sellUnclaimed_98 rfl (nI_succ _).symm (by decide) rfl ?_
        refine y_goto C 2 dX2_sellUnclaimed_101 (by decide) ?_
        exact ih (n + 1) (by omega) _ (by rw [sel, ← hs, if_neg h1, if_pos h2]) H hd
      · refine y_aload_n C 1 dX2_sellUnclaimed_47 rfl rfl ?_
        refine y_get2 C (dk_0 hd) 5 (by decide) q48 rfl rfl dX2_sellUnclaimed_48 ?_
        refine y_dup C dX2_sellUnclaimed_51 rfl ?_
        refine y_get1 C (dk_20 hd) 2 (by decide) q255 rfl rfl dX2_sellUnclaimed_52 ?_
        refine y_aload_n C 1 dX2_sellUnclaimed_55 rfl rfl ?_
        refine y_get2 C (dk_0 hd) 4 (by decide) q44 rfl rfl dX2_sellUnclaimed_56 ?_
        refine y_get4 C (dk_11 hd) 5 (by decide) q233 rfl rfl dX2_sellUnclaimed_59 ?_
        refine y_iload_n C 0 dX2_sellUnclaimed_62 rfl rfl ?_
        refine y_iald C (dk_16 hd) n rfl (by have := hsf.2.1.2; omega) (by decide) dX2_sellUnclaimed_63 ?_
        refine y_i2f C dX2_sellUnclaimed_64 ?_
        refine y_aload_n C 1 dX2_sellUnclaimed_65 rfl rfl ?_
        refine y_get2 C (dk_0 hd) 1 (by decide) q34 rfl rfl dX2_sellUnclaimed_66 ?_
        refine y_iconst C (3) dX2_sellUnclaimed_69 (by decide) ?_
        refine y_fald C (dk_1 hd) 3 rfl (by decide) (by decide) dX2_sellUnclaimed_70 ?_
        refine y_fmul C dX2_sellUnclaimed_71 (fp_mul (FP.Core.i2f_fin _) (hfD 3 (by decide))) ?_
        refine y_f2i C dX2_sellUnclaimed_72 ?_
        refine y_iadd C dX2_sellUnclaimed_73 ?_
        refine y_put1 C (dk_20 hd) (ivm 20 (by decide)) 2 (by decide) q255 rfl rfl (ty := .int) (by decide +kernel) rfl rfl (Nat.le_of_ble_eq_true rfl) dX2_sellUnclaimed_74 (fun H hw1 ow1 zw1 => ?_)
        have hd := dk_put20_2 hd hw1 ow1
        refine y_aload_n C 1 dX2_sellUnclaimed_77 rfl rfl ?_
        refine y_get2 C (dk_0 hd) 4 (by decide) q44 rfl rfl dX2_sellUnclaimed_78 ?_
        refine y_get4 C (dk_11 hd) 7 (by decide) q195 rfl rfl dX2_sellUnclaimed_81 ?_
        refine y_iload_n C 0 dX2_sellUnclaimed_84 rfl rfl ?_
        refine y_bipush C (7) dX2_sellUnclaimed_85 (by decide) ?_
        refine y_iast C (dk_18 hd) (ivm 18 (by decide)) n rfl (by have := hsf.2.1.2; omega) (by decide) dX2_sellUnclaimed_87 (fun H hw1 ow1 zw1 => ?_)
        have hd := dk_set18 hd hw1 ow1
        refine y_aload_n C 1 dX2_sellUnclaimed_88 rfl rfl ?_
        refine y_get2 C (dk_0 hd) 4 (by decide) q44 rfl rfl dX2_sellUnclaimed_89 ?_
        refine y_get4 C (dk_11 hd) 6 (by decide) q256 rfl rfl dX2_sellUnclaimed_92 ?_
        refine y_iload_n C 0 dX2_sellUnclaimed_95 rfl rfl ?_
        refine y_iconst C (0) dX2_sellUnclaimed_96 (by decide) ?_
        refine y_iast C (dk_17 hd) (ivm 17 (by decide)) n rfl (by have := hsf.2.1.2; omega) (by decide) dX2_sellUnclaimed_97 (fun H hw1 ow1 zw1 => ?_)
        have hd := dk_set17 hd hw1 ow1
        refine y_iinc C 0 (nI (n + 1)) dX2_sellUnclaimed_98 rfl (nI_succ _).symm (by decide) rfl ?_
        refine y_goto C 2 dX2_sellUnclaimed_101 (by decide) ?_
        exact ih (n + 1) (by omega) _ (by rw [sel, ← hs, if_neg h1, if_neg h2] <;> rfl) H hd
def rm_X2_workWhere : Room := { frames := 4, cells := 0, slots := 0, locals := 90 }
set_option maxRecDepth 100000 in
set_option maxHeartbeats 4000000 in
theorem c_X2_workWhere (g : KG) (B0 : Nat) (l : Launch) (a : Nat) (d : DV) (lo hours : Int32) (hsf : sf d) (hfr : fr d) : Mt g B0 l yX2_workWhere cX2_workWhere 7 (some .int) rm_X2_workWhere [.ref a, .int lo, .int hours] (iv a 21) (dk g a d) (some (.int (wrk lo (nm d) 0 d hours).2)) (dk g a (wrk lo (nm d) 0 d hours).1) 0 0 := by
  refine Mt_of RX2 (by decide) rfl [(0, .ref a), (1, .int lo), (2, .int hours)] rfl (Nat.le_of_ble_eq_true rfl) ?_
  intro pr e s m args below meth c C hr hin hd
  obtain ⟨tH, hZ, hT⟩ := stA.get C.2.2.2.2.2.1.2.2.2.2.2.2.1 C.2.2.2.2.2.2.1
  refine y_iload_n C 2 dX2_workWhere_0 rfl rfl ?_
  refine y_istore_n C dX2_workWhere_1 rfl (by decide) rfl ?_
  refine y_iconst C (0) dX2_workWhere_2 (by decide) ?_
  refine y_istore C dX2_workWhere_3 (by decide) rfl ?_
  suffices K : ∀ rem n : Nat, n + rem = nm d → ∀ (D : DV) (left : Int32), wrk lo rem n D left = wrk lo (nm d) 0 d hours → sf D → nm D = nm d → fr D → ∀ H : Heap, dk g a D H → Yx (iv a 21) pr l e rm_X2_workWhere s m args below meth c 7 0 0 (MQ below (Qx (some (.int (wrk lo (nm d) 0 d hours).2)) (dk g a (wrk lo (nm d) 0 d hours).1) (iv a 21)) args s 0 0 (iv a 21)) [(4, .int (nI n)), (3, .int left), (0, .ref a), (1, .int lo), (2, .int hours)] H 5 [] from K (nm d) 0 (Nat.zero_add _) d _ rfl hsf rfl hfr _ hd
  intro rem
  induction rem with
  | zero =>
    intro n hn D left hs hsD hnm hfD H hd
    have h11 : D.1 11 0 = nI (nm d) := by rw [← hnm]; exact hsD.2.1.1
    obtain rfl : n = nm d := by omega
    refine y_iload C 0 dX2_workWhere_5 rfl ?_
    refine y_aload_n C 2 dX2_workWhere_7 rfl rfl ?_
    refine y_get2 C (dk_0 hd) 4 (by decide) q44 rfl rfl dX2_workWhere_8 ?_
    refine y_get4 C (dk_11 hd) 0 (by decide) q193 rfl rfl dX2_workWhere_11 ?_
    refine y_icmp_ge C 120 dX2_workWhere_14 (by decide) (fun _ => ?_) (fun h => absurd (ge_t rfl h11 (Nat.le_refl _) (by have := hsf.2.1.2; omega)) h)
    refine y_iload_n C 1 dX2_workWhere_120 rfl rfl ?_
    exact y_iret C hr (by rw [← hs]; rfl) (by rw [← hs]; exact hd) dX2_workWhere_121
  | succ rem ih =>
    intro n hn D left hs hsD hnm hfD H hd
    have hlt : n < nm d := by omega
    have h11 : D.1 11 0 = nI (nm d) := by rw [← hnm]; exact hsD.2.1.1
    have hkD : n < nm D := by omega
    refine y_iload C 0 dX2_workWhere_5 rfl ?_
    refine y_aload_n C 2 dX2_workWhere_7 rfl rfl ?_
    refine y_get2 C (dk_0 hd) 4 (by decide) q44 rfl rfl dX2_workWhere_8 ?_
    refine y_get4 C (dk_11 hd) 0 (by decide) q193 rfl rfl dX2_workWhere_11 ?_
    refine y_icmp_ge C 120 dX2_workWhere_14 (by decide) (fun h => absurd h (ge_f rfl h11 hlt (by have := hsf.2.1.2; omega))) (fun _ => ?_)
    refine y_iload_n C 1 dX2_workWhere_17 rfl rfl ?_
    refine y_if_le C 120 dX2_workWhere_18 (by decide) (fun h1 => ?_) (fun h1 => ?_)
    · refine y_iload_n C 1 dX2_workWhere_120 rfl rfl ?_
      exact y_iret C hr (by rw [← hs, wrk, if_pos h1]) (by rw [← hs, wrk, if_pos h1]; exact hd) dX2_workWhere_121
    · refine y_aload_n C 2 dX2_workWhere_21 rfl rfl ?_
      refine y_get2 C (dk_0 hd) 4 (by decide) q44 rfl rfl dX2_workWhere_22 ?_
      refine y_iload C 0 dX2_workWhere_25 rfl ?_
      refine y_iconst C (3) dX2_workWhere_27 (by decide) ?_
      refine y_iload_n C 3 dX2_workWhere_28 rfl rfl ?_
      refine y_callV C [.int (nI n), .int (3 : Int32), .int lo] (c_X4_isTurnOf g B0 l a D n (3 : Int32) lo (by have := hsf.2.1.2; omega)) RX4 3 (wVin q196 q197 q198 q43 q199) hy_X4_isTurnOf ⟨(Nat.le_of_ble_eq_true rfl), (Nat.le_of_ble_eq_true rfl)⟩ ⟨rfl, rfl⟩ (rcv C.2.2.2.2.2.1 (dk_11 hd) rfl) hd (fun _ h => h) rfl rfl (Nat.le_of_ble_eq_true rfl) dX2_workWhere_29 ⟨(Nat.le_of_ble_eq_true rfl), (Nat.le_of_ble_eq_true rfl)⟩ rfl (fun H hp hz hf => ?_)
      have hd := hp
      refine y_if_ne C 38 dX2_workWhere_32 (by decide) (fun h2 => ?_) (fun h2 => ?_)
      · refine y_getsN C hZ C.2.2.2.2.2.1.2.2.1 dX2_workWhere_38 ?_
        refine y_aload_n C 2 dX2_workWhere_41 rfl rfl ?_
        refine y_get2 C (dk_0 hd) 4 (by decide) q44 rfl rfl dX2_workWhere_42 ?_
        refine y_get4 C (dk_11 hd) 1 (by decide) q194 rfl rfl dX2_workWhere_45 ?_
        refine y_iload C 0 dX2_workWhere_48 rfl ?_
        refine y_iald C (dk_12 hd) n rfl (by have := hsf.2.1.2; omega) (by decide) dX2_workWhere_50 ?_
        refine y_top (hsD.2.2.1 _ hkD).1 ?_
        refine y_sld C hT (fl D n) rfl (hsD.2.2.1 _ hkD).2 (by decide) dX2_workWhere_51 ?_
        refine y_istore C dX2_workWhere_52 (by decide) rfl ?_
        refine y_iload_n C 2 dX2_workWhere_54 rfl rfl ?_
        refine y_iload C 0 dX2_workWhere_55 rfl ?_
        refine y_aload_n C 3 dX2_workWhere_57 rfl rfl ?_
        refine y_get2 C (dk_0 hd) 4 (by decide) q44 rfl rfl dX2_workWhere_58 ?_
        refine y_get4 C (dk_11 hd) 4 (by decide) q223 rfl rfl dX2_workWhere_61 ?_
        refine y_iload C 1 dX2_workWhere_64 rfl ?_
        refine y_iald C (dk_15 hd) n rfl (by have := hsf.2.1.2; omega) (by decide) dX2_workWhere_66 ?_
        refine y_isub C dX2_workWhere_67 ?_
        refine y_mmin C q224 q225 q226 q227 (Nat.le_of_ble_eq_true rfl) (Nat.le_of_ble_eq_true rfl) (Nat.le_of_ble_eq_true rfl) (Nat.le_of_ble_eq_true rfl) dX2_workWhere_68 ?_
        refine y_istore C dX2_workWhere_71 (by decide) rfl ?_
        refine y_aload_n C 4 dX2_workWhere_73 rfl rfl ?_
        refine y_get2 C (dk_0 hd) 4 (by decide) q44 rfl rfl dX2_workWhere_74 ?_
        refine y_get4 C (dk_11 hd) 4 (by decide) q223 rfl rfl dX2_workWhere_77 ?_
        refine y_iload C 2 dX2_workWhere_80 rfl ?_
        refine y_dup2 C dX2_workWhere_82 rfl rfl ?_
        refine y_iald C (dk_15 hd) n rfl (by have := hsf.2.1.2; omega) (by decide) dX2_workWhere_83 ?_
        refine y_iload C 0 dX2_workWhere_84 rfl ?_
        refine y_iadd C dX2_workWhere_86 ?_
        refine y_iast C (dk_15 hd) (ivm 15 (by decide)) n rfl (by have := hsf.2.1.2; omega) (by decide) dX2_workWhere_87 (fun H hw1 ow1 zw1 => ?_)
        have hd := dk_set15 hd hw1 ow1
        refine y_iload_n C 3 dX2_workWhere_88 rfl rfl ?_
        refine y_iload C 0 dX2_workWhere_89 rfl ?_
        refine y_isub C dX2_workWhere_91 ?_
        refine y_istore_n C dX2_workWhere_92 rfl (by decide) rfl ?_
        refine y_aload_n C 4 dX2_workWhere_93 rfl rfl ?_
        refine y_get2 C (dk_0 hd) 4 (by decide) q44 rfl rfl dX2_workWhere_94 ?_
        refine y_get4 C (dk_11 hd) 4 (by decide) q223 rfl rfl dX2_workWhere_97 ?_
        refine y_iload C 3 dX2_workWhere_100 rfl ?_
        refine y_iald C (dk_15 hd) n rfl (by have := hsf.2.1.2; omega) (by decide) dX2_workWhere_102 ?_
        refine y_iload C 2 dX2_workWhere_103 rfl ?_
        refine y_icmp_ne C 114 dX2_workWhere_105 (by decide) (fun h3 => ?_) (fun h3 => ?_)
        · refine y_iinc C 3 (nI (n + 1)) dX2_workWhere_114 rfl (nI_succ _).symm (by decide) rfl ?_
          refine y_goto C 5 dX2_workWhere_117 (by decide) ?_
          exact y_sub [0, 1, 4, 5, 6] (ih (n + 1) (by omega) (dset D 15 n ((D.1 15 n) + (if ((tHF (fl D n)) - (D.1 15 n)) < left then ((tHF (fl D n)) - (D.1 15 n)) else left))) (left - (if ((tHF (fl D n)) - (D.1 15 n)) < left then ((tHF (fl D n)) - (D.1 15 n)) else left)) (by rw [← hs, wrk, if_neg h1, if_neg h2]; exact (if_neg h3).symm) (hsD.to rfl rfl rfl rfl) hnm (hfD.to rfl) H hd) rfl
        · refine y_aload_n C 4 dX2_workWhere_108 rfl rfl ?_
          refine y_iload C 3 dX2_workWhere_109 rfl ?_
          refine y_callV C [.int (nI n)] (c_X2_finish g B0 l a (dset D 15 n ((D.1 15 n) + (if ((tHF (fl D n)) - (D.1 15 n)) < left then ((tHF (fl D n)) - (D.1 15 n)) else left))) n (hsD.to rfl rfl rfl rfl) hkD (hfD.to rfl)) RX2 1 (wVin q228 q229 q230 q11 q231) hy_X2_finish ⟨(Nat.le_of_ble_eq_true rfl), (Nat.le_of_ble_eq_true rfl)⟩ ⟨rfl, rfl⟩ (rcv C.2.2.2.2.2.1 (dk_0 hd) rfl) hd (fun _ h => h) rfl rfl (Nat.le_of_ble_eq_true rfl) dX2_workWhere_111 ⟨(Nat.le_of_ble_eq_true rfl), (Nat.le_of_ble_eq_true rfl)⟩ rfl (fun H hp hz hf => ?_)
          have hd := hp
          refine y_iinc C 3 (nI (n + 1)) dX2_workWhere_114 rfl (nI_succ _).symm (by decide) rfl ?_
          refine y_goto C 5 dX2_workWhere_117 (by decide) ?_
          exact y_sub [0, 1, 4, 5, 6] (ih (n + 1) (by omega) (fin (dset D 15 n ((D.1 15 n) + (if ((tHF (fl D n)) - (D.1 15 n)) < left then ((tHF (fl D n)) - (D.1 15 n)) else left))) n) (left - (if ((tHF (fl D n)) - (D.1 15 n)) < left then ((tHF (fl D n)) - (D.1 15 n)) else left)) (by rw [← hs, wrk, if_neg h1, if_neg h2]; exact (if_pos h3).symm) (sf_fin (hsD.to rfl rfl rfl rfl) n) ((nm_of (fin_ne _ _ 11 (by decide) (by decide) (by decide) (by decide) (by decide) (by decide))).trans hnm) (hfD.to (fin_2 _ _)) H hd) rfl
      · refine y_goto C 114 dX2_workWhere_35 (by decide) ?_
        refine y_iinc C 0 (nI (n + 1)) dX2_workWhere_114 rfl (nI_succ _).symm (by decide) rfl ?_
        refine y_goto C 5 dX2_workWhere_117 (by decide) ?_
        exact y_sub [0, 1, 2, 3, 4] (ih (n + 1) (by omega) D left (by rw [← hs, wrk, if_neg h1, if_pos h2]) hsD hnm hfD H hd) rfl
def rm_X2_passDay : Room := { frames := 5, cells := 0, slots := 0, locals := 116 }
set_option maxRecDepth 100000 in
set_option maxHeartbeats 4000000 in
theorem c_X2_passDay (g : KG) (B0 : Nat) (l : Launch) (a : Nat) (d : DV) (hsf : sf d) (hfr : fr d) : Mt g B0 l yX2_passDay cX2_passDay 2 none rm_X2_passDay [.ref a] (iv a 21) (dk g a d) none (dk g a (psd d)) 0 0 := by
  refine Mt_of RX2 (by decide) rfl [(0, .ref a)] rfl (Nat.le_of_ble_eq_true rfl) ?_
  intro pr e s m args below meth c C hr hin hd
  refine y_aload_n C 0 dX2_passDay_0 rfl rfl ?_
  refine y_dup C dX2_passDay_1 rfl ?_
  refine y_get2 C (dk_0 hd) 0 (by decide) q28 rfl rfl dX2_passDay_2 ?_
  refine y_iconst C (1) dX2_passDay_5 (by decide) ?_
  refine y_iadd C dX2_passDay_6 ?_
  refine y_put2 C (dk_0 hd) (ivm 0 (by decide)) 0 (by decide) q28 rfl rfl (ty := .int) (by decide +kernel) rfl rfl (Nat.le_of_ble_eq_true rfl) dX2_passDay_7 (fun H hw1 ow1 zw1 => ?_)
  have hd := dk_put0_0 hd hw1 ow1
  refine y_aload_n C 0 dX2_passDay_10 rfl rfl ?_
  refine y_callV C [] (c_X2_takeOrders g B0 l a (dset d 0 0 ((d.1 0 0) + (1 : Int32))) (hsf.to rfl rfl rfl rfl)) RX2 0 (wVin q176 q177 q178 q11 q179) hy_X2_takeOrders ⟨(Nat.le_of_ble_eq_true rfl), (Nat.le_of_ble_eq_true rfl)⟩ ⟨rfl, rfl⟩ (rcv C.2.2.2.2.2.1 (dk_0 hd) rfl) hd (fun _ h => h) rfl rfl (Nat.le_of_ble_eq_true rfl) dX2_passDay_11 ⟨(Nat.le_of_ble_eq_true rfl), (Nat.le_of_ble_eq_true rfl)⟩ rfl (fun H hp hz hf => ?_)
  have hd := hp
  have hd : dk g a (ps1 d) H := hd
  refine y_aload_n C 0 dX2_passDay_14 rfl rfl ?_
  refine y_iconst C (1) dX2_passDay_15 (by decide) ?_
  refine y_aload_n C 0 dX2_passDay_16 rfl rfl ?_
  refine y_get2 C (dk_0 hd) 2 (by decide) q36 rfl rfl dX2_passDay_17 ?_
  refine y_iconst C (0) dX2_passDay_20 (by decide) ?_
  refine y_iald C (dk_2 hd) 0 rfl (by decide) (by decide) dX2_passDay_21 ?_
  refine y_callV C [.int (1 : Int32), .int ((ps1 d).1 2 0)] (c_X2_workWhere g B0 l a (ps1 d) (1 : Int32) ((ps1 d).1 2 0) (sf_ps1 hsf) (hfr.to (ps1_2 d))) RX2 2 (wVin q219 q220 q221 q11 q222) hy_X2_workWhere ⟨(Nat.le_of_ble_eq_true rfl), (Nat.le_of_ble_eq_true rfl)⟩ ⟨rfl, rfl⟩ (rcv C.2.2.2.2.2.1 (dk_0 hd) rfl) hd (fun _ h => h) rfl rfl (Nat.le_of_ble_eq_true rfl) dX2_passDay_22 ⟨(Nat.le_of_ble_eq_true rfl), (Nat.le_of_ble_eq_true rfl)⟩ rfl (fun H hp hz hf => ?_)
  have hd := hp
  have hd : dk g a (ps2 d).1 H := hd
  refine y_istore_n C dX2_passDay_25 rfl (by decide) rfl ?_
  refine y_aload_n C 1 dX2_passDay_26 rfl rfl ?_
  refine y_iconst C (0) dX2_passDay_27 (by decide) ?_
  refine y_iload_n C 0 dX2_passDay_28 rfl rfl ?_
  refine y_callV C [.int (0 : Int32), .int (ps2 d).2] (c_X2_workWhere g B0 l a ((ps2 d).1) (0 : Int32) ((ps2 d).2) (sf_ps2 hsf) (hfr.to (ps2_2 d))) RX2 2 (wVin q219 q220 q221 q11 q222) hy_X2_workWhere ⟨(Nat.le_of_ble_eq_true rfl), (Nat.le_of_ble_eq_true rfl)⟩ ⟨rfl, rfl⟩ (rcv C.2.2.2.2.2.1 (dk_0 hd) rfl) hd (fun _ h => h) rfl rfl (Nat.le_of_ble_eq_true rfl) dX2_passDay_29 ⟨(Nat.le_of_ble_eq_true rfl), (Nat.le_of_ble_eq_true rfl)⟩ rfl (fun H hp hz hf => ?_)
  have hd := hp
  have hd : dk g a (ps3 d) H := hd
  refine y_pop C dX2_passDay_32 rfl ?_
  refine y_aload_n C 1 dX2_passDay_33 rfl rfl ?_
  refine y_callV C [] (c_X2_sellUnclaimed g B0 l a (ps3 d) (sf_ps3 hsf) (hfr.to (ps3_2 d))) RX2 0 (wVin q251 q252 q253 q11 q254) hy_X2_sellUnclaimed ⟨(Nat.le_of_ble_eq_true rfl), (Nat.le_of_ble_eq_true rfl)⟩ ⟨rfl, rfl⟩ (rcv C.2.2.2.2.2.1 (dk_0 hd) rfl) hd (fun _ h => h) rfl rfl (Nat.le_of_ble_eq_true rfl) dX2_passDay_34 ⟨(Nat.le_of_ble_eq_true rfl), (Nat.le_of_ble_eq_true rfl)⟩ rfl (fun H hp hz hf => ?_)
  have hd := hp
  exact y_vret C hr hd dX2_passDay_37
end
section
/-! rows, third part: arraycopy of whole arrays, stores of references, two desks -/
section ROWS3
variable {g : KG} {B0 : Nat} {A : Nat → Prop} {p : Program} {l : Launch} {e : Env} {R : Room} {s : State} {m : MethodId} {args : Array Value} {below : List Frame} {meth : Method} {c : Code} {cc : ByteArray} {nL : Nat} {own : String} {cells slots : Nat} {Q : State → Prop} {lv lv' : List (Nat × Value)} {H : Heap} {pc : Nat} {rest : List Value}
theorem arrV_same (cA : ClassId) (n : Nat) {f f2 : Nat → Value} (h : ∀ j, j < n → f j = f2 j) : arrV cA n f = arrV cA n f2 := by
  unfold arrV
  have e : (Array.ofFn (n := n) fun j => f j.val) = Array.ofFn (n := n) fun j => f2 j.val := by
    congr 1
    funext j
    exact h j.val j.isLt
  rw [e]
theorem va_cpy_all {α : Type} (f f2 : Nat → α) (n : Nat) : ∀ j, j < n → va_cpy f f2 0 0 n j = f j := by
  intro j hj
  unfold va_cpy
  rw [if_pos ⟨Nat.zero_le _, by omega⟩]
  congr 1
  omega
theorem y_copyi (C : Cx g B0 A p s m args meth c cc nL own) {index a0 a n : Nat} {f f2 : Nat → Int32} (hsrc : cA1 g a0 (.inl (g.2 0, n, .inl f)) H) (hdst : cA1 g a (.inl (g.2 0, n, .inl f2)) H) (hAa : A a) {N : Int32} (hN : N.toNatClampNeg = n) (hN0 : ¬ N < 0) (w1 : Cond.methodLink own index arraycopyName ∈ wsL_law) (w2 : Cond.native arraycopyName ∈ wsL_law) (w3 : Cond.static arraycopyName ∈ wsL_law) (w4 : Cond.initialized "java/lang/System" ∈ wsL_law) (hfr : 1 ≤ R.frames) (hlo : (rest.map fun v => v.category).sum + (nativeFrameWords "java/lang/System" "arraycopy" 5 + 11) ≤ R.locals) (hdg : decode cc pc = .ok (.invokestatic index, 3))
    (kk : ∀ H1 : Heap, cA1 g a (.inl (g.2 0, n, .inl f)) H1 → (∀ q : Nat, q ≠ a → H1[q]? = H[q]?) → H1.size = H.size → Yx A p l e R s m args below meth c nL cells slots Q lv H1 (pc + 3) rest) : Yx A p l e R s m args below meth c nL cells slots Q lv H pc (.int N :: .int 0 :: .ref a :: .int 0 :: .ref a0 :: rest) := by
  intro ls locs hl hS T hT X
  obtain ⟨hexec, hb, hml, hown, hts, hE, -⟩ := C
  have hc0 : H[a0]? = some (vp_cell (g.2 0) (n, .inl f)) := hsrc
  have hc1 : H[a]? = some (vp_cell (g.2 0) (n, .inl f2)) := hdst
  obtain ⟨-, k0, hk0, cm0, hkk0⟩ := (hE.1.2 0 _ rfl).1 n (fun j => .int (f j))
  obtain ⟨-, k1, hk1, cm1, hkk1⟩ := (hE.1.2 0 _ rfl).1 n (fun j => .int (f2 j))
  have z0 : (0 : Int32).toNatClampNeg = 0 := rfl
  have nn : N.toInt = (n : Int) := by
    have h0 : (0 : Int) ≤ N.toInt := by
      have := Int32.not_lt.mp hN0
      simpa using Int32.le_iff_toInt_le.mp this
    have h1 : N.toInt.toNat = n := hN
    omega
  have zz : (0 : Int32).toInt = 0 := rfl
  obtain ⟨vm', X', step⟩ := X.arraycopy hexec hown (hts _ w1) (hts _ w2) (hts _ w3) (hts _ w4) (src := a0) (dst := a) (cs := vp_cell (g.2 0) (n, .inl f)) (cd := vp_cell (g.2 0) (n, .inl f2)) (srcPos := 0) (destPos := 0) (n := N) (by rw [hT]; exact hc0) (by rw [hT]; exact hc1)
    (fun _ h => by cases h) (fun _ h => by cases h) (fun h => by cases h) (fun h => by cases h) hk0 hk1 hkk0 hkk1 (by simp [refKind]) (by decide) (by decide) hN0
    (by rw [zz, nn]; show ¬ _ > ((arrV (g.2 0) n (fun j => .int (f j))).slots.size : Int); rw [arrV_size]; omega)
    (by rw [zz, nn]; show ¬ _ > ((arrV (g.2 0) n (fun j => .int (f2 j))).slots.size : Int); rw [arrV_size]; omega)
    (fun vm₁ _ i hi => by
      have e : (vp_cell (g.2 0) (n, .inl f)).slots.getD ((0 : Int32).toNatClampNeg + i) .null = .int (f i) := by
        show (arrV (g.2 0) n (fun j => .int (f j))).slots.getD _ _ = _
        rw [z0, Nat.zero_add, Array.getD_eq_getD_getElem?, arrV_read _ _ (by omega)]
        rfl
      exact ⟨by rw [e]; rfl, by rw [e]; exact trivial⟩)
    (g := F0 m pc ls (.int N :: .int 0 :: .ref a :: .int 0 :: .ref a0 :: rest)) rfl (by rw [hml]; exact hl.1) (rest := rest) rfl (by rw [hb]; exact hdg) hfr (by show 2 * 0 + _ + _ ≤ _; omega)
  have e1 : copied (vp_cell (g.2 0) (n, .inl f)) (vp_cell (g.2 0) (n, .inl f2)) 0 0 N = vp_cell (g.2 0) (n, .inl f) := by
    refine (va_copied (fun z => .int z) (g.2 0) (g.2 0) f f2 (by rw [z0, hN]; omega)).trans ?_
    rw [z0, hN]
    exact arrV_same (f := fun j => .int (va_cpy f f2 0 0 n j)) (f2 := fun j => .int (f j)) (g.2 0) n (fun j hj => by show Value.int _ = Value.int _; rw [va_cpy_all f f2 n j hj])
  rw [e1] at X' step
  have hl2 : a < H.size := (Array.getElem?_eq_some_iff.mp hc1).1
  have hheap : ((T.setVm vm').setCell a (vp_cell (g.2 0) (n, .inl f))).heap = H.setIfInBounds a (vp_cell (g.2 0) (n, .inl f)) := by rw [← hT]; rfl
  have oq : ∀ q : Nat, q ≠ a → (H.setIfInBounds a (vp_cell (g.2 0) (n, .inl f)))[q]? = H[q]? := fun q hq => by simp [Array.getElem?_setIfInBounds, Ne.symm hq]
  obtain ⟨t, a1, b1⟩ := kk (H.setIfInBounds a (vp_cell (g.2 0) (n, .inl f))) (show (H.setIfInBounds a _)[a]? = some _ by simp [Array.getElem?_setIfInBounds, hl2]) oq (by simp) ls _ hl ⟨by simp; exact hS.1, fun q g1 g2 => by
      rw [oq q (fun e => g2 (by rw [e]; exact hAa))]
      exact hS.2.1 q g1 g2, fun q hq => by
      rcases List.mem_append.mp hq with h | h
      · exact hS.2.2 q h
      · obtain ⟨z, -, hz⟩ := List.mem_map.mp h
        rw [← hz]
        exact hAa⟩ _ hheap X'
  exact ⟨t, step t a1, b1⟩
theorem y_copyf (C : Cx g B0 A p s m args meth c cc nL own) {index a0 a n : Nat} {f f2 : Nat → UInt32} (hsrc : cA1 g a0 (.inl (g.2 1, n, .inr (.inr (.inl f)))) H) (hdst : cA1 g a (.inl (g.2 1, n, .inr (.inr (.inl f2)))) H) (hAa : A a) {N : Int32} (hN : N.toNatClampNeg = n) (hN0 : ¬ N < 0) (w1 : Cond.methodLink own index arraycopyName ∈ wsL_law) (w2 : Cond.native arraycopyName ∈ wsL_law) (w3 : Cond.static arraycopyName ∈ wsL_law) (w4 : Cond.initialized "java/lang/System" ∈ wsL_law) (hfr : 1 ≤ R.frames) (hlo : (rest.map fun v => v.category).sum + (nativeFrameWords "java/lang/System" "arraycopy" 5 + 11) ≤ R.locals) (hdg : decode cc pc = .ok (.invokestatic index, 3))
    (kk : ∀ H1 : Heap, cA1 g a (.inl (g.2 1, n, .inr (.inr (.inl f)))) H1 → (∀ q : Nat, q ≠ a → H1[q]? = H[q]?) → H1.size = H.size → Yx A p l e R s m args below meth c nL cells slots Q lv H1 (pc + 3) rest) : Yx A p l e R s m args below meth c nL cells slots Q lv H pc (.int N :: .int 0 :: .ref a :: .int 0 :: .ref a0 :: rest) := by
  intro ls locs hl hS T hT X
  obtain ⟨hexec, hb, hml, hown, hts, hE, -⟩ := C
  have hc0 : H[a0]? = some (vp_cell (g.2 1) (n, .inr (.inr (.inl f)))) := hsrc
  have hc1 : H[a]? = some (vp_cell (g.2 1) (n, .inr (.inr (.inl f2)))) := hdst
  obtain ⟨-, k0, hk0, cm0, hkk0⟩ := (hE.1.2 1 _ rfl).1 n (fun j => .float (f j))
  obtain ⟨-, k1, hk1, cm1, hkk1⟩ := (hE.1.2 1 _ rfl).1 n (fun j => .float (f2 j))
  have z0 : (0 : Int32).toNatClampNeg = 0 := rfl
  have nn : N.toInt = (n : Int) := by
    have h0 : (0 : Int) ≤ N.toInt := by
      have := Int32.not_lt.mp hN0
      simpa using Int32.le_iff_toInt_le.mp this
    have h1 : N.toInt.toNat = n := hN
    omega
  have zz : (0 : Int32).toInt = 0 := rfl
  obtain ⟨vm', X', step⟩ := X.arraycopy hexec hown (hts _ w1) (hts _ w2) (hts _ w3) (hts _ w4) (src := a0) (dst := a) (cs := vp_cell (g.2 1) (n, .inr (.inr (.inl f)))) (cd := vp_cell (g.2 1) (n, .inr (.inr (.inl f2)))) (srcPos := 0) (destPos := 0) (n := N) (by rw [hT]; exact hc0) (by rw [hT]; exact hc1)
    (fun _ h => by cases h) (fun _ h => by cases h) (fun h => by cases h) (fun h => by cases h) hk0 hk1 hkk0 hkk1 (by simp [refKind]) (by decide) (by decide) hN0
    (by rw [zz, nn]; show ¬ _ > ((arrV (g.2 1) n (fun j => .float (f j))).slots.size : Int); rw [arrV_size]; omega)
    (by rw [zz, nn]; show ¬ _ > ((arrV (g.2 1) n (fun j => .float (f2 j))).slots.size : Int); rw [arrV_size]; omega)
    (fun vm₁ _ i hi => by
      have e : (vp_cell (g.2 1) (n, .inr (.inr (.inl f)))).slots.getD ((0 : Int32).toNatClampNeg + i) .null = .float (f i) := by
        show (arrV (g.2 1) n (fun j => .float (f j))).slots.getD _ _ = _
        rw [z0, Nat.zero_add, Array.getD_eq_getD_getElem?, arrV_read _ _ (by omega)]
        rfl
      exact ⟨by rw [e]; rfl, by rw [e]; exact trivial⟩)
    (g := F0 m pc ls (.int N :: .int 0 :: .ref a :: .int 0 :: .ref a0 :: rest)) rfl (by rw [hml]; exact hl.1) (rest := rest) rfl (by rw [hb]; exact hdg) hfr (by show 2 * 0 + _ + _ ≤ _; omega)
  have e1 : copied (vp_cell (g.2 1) (n, .inr (.inr (.inl f)))) (vp_cell (g.2 1) (n, .inr (.inr (.inl f2)))) 0 0 N = vp_cell (g.2 1) (n, .inr (.inr (.inl f))) := by
    refine (va_copied (fun z => .float z) (g.2 1) (g.2 1) f f2 (by rw [z0, hN]; omega)).trans ?_
    rw [z0, hN]
    exact arrV_same (f := fun j => .float (va_cpy f f2 0 0 n j)) (f2 := fun j => .float (f j)) (g.2 1) n (fun j hj => by show Value.float _ = Value.float _; rw [va_cpy_all f f2 n j hj])
  rw [e1] at X' step
  have hl2 : a < H.size := (Array.getElem?_eq_some_iff.mp hc1).1
  have hheap : ((T.setVm vm').setCell a (vp_cell (g.2 1) (n, .inr (.inr (.inl f))))).heap = H.setIfInBounds a (vp_cell (g.2 1) (n, .inr (.inr (.inl f)))) := by rw [← hT]; rfl
  have oq : ∀ q : Nat, q ≠ a → (H.setIfInBounds a (vp_cell (g.2 1) (n, .inr (.inr (.inl f)))))[q]? = H[q]? := fun q hq => by simp [Array.getElem?_setIfInBounds, Ne.symm hq]
  obtain ⟨t, a1, b1⟩ := kk (H.setIfInBounds a (vp_cell (g.2 1) (n, .inr (.inr (.inl f))))) (show (H.setIfInBounds a _)[a]? = some _ by simp [Array.getElem?_setIfInBounds, hl2]) oq (by simp) ls _ hl ⟨by simp; exact hS.1, fun q g1 g2 => by
      rw [oq q (fun e => g2 (by rw [e]; exact hAa))]
      exact hS.2.1 q g1 g2, fun q hq => by
      rcases List.mem_append.mp hq with h | h
      · exact hS.2.2 q h
      · obtain ⟨z, -, hz⟩ := List.mem_map.mp h
        rw [← hz]
        exact hAa⟩ _ hheap X'
  exact ⟨t, step t a1, b1⟩
theorem y_aast (C : Cx g B0 A p s m args meth c cc nL own) {a v n : Nat} {f : Nat → Option Nat} {vs : List Value} (hat : cA1 g a (.inl (g.2 3, n, .inr (.inr (.inr (.inr f))))) H) (hv : cA1 g v (.inr (2, vs)) H) (hAa : A a) {i : Int32} (k : Nat) (hi : i = nI k) (hk : k < n) (hn : n < 2 ^ 31) (hdg : decode cc pc = .ok (.aastore, 1)) (kk : ∀ H1 : Heap, cA1 g a (.inl (g.2 3, n, .inr (.inr (.inr (.inr (va_up f k (some v))))))) H1 → (∀ q : Nat, q ≠ a → H1[q]? = H[q]?) → H1.size = H.size → Yx A p l e R s m args below meth c nL cells slots Q lv H1 (pc + 1) rest) : Yx A p l e R s m args below meth c nL cells slots Q lv H pc (.ref v :: .int i :: .ref a :: rest) := by
  subst hi
  have hz : (nI k).toNatClampNeg = k := nI_clamp (Nat.lt_trans hk hn)
  have hin := vp_in_nI hk hn
  intro ls locs hl hS
  obtain ⟨hexec, hb, -, -, -, hE, -⟩ := C
  have hK := hE.1
  have hc : H[a]? = some (vp_cell (g.2 3) (n, .inr (.inr (.inr (.inr f))))) := hat
  obtain ⟨r', hr', cellV, g1, g2, g3, -⟩ := hv
  have e0 : r' = (RX2, TX2, 6) := (Option.some.inj hr').symm
  subst e0
  have hcls := (hK.1 2 _ rfl).2
  obtain ⟨kA, comp, k1, k2, k3, -⟩ := (hK.2 3 _ rfl).2
  have hcomp : comp = g.1.1 2 := Option.some.inj (k3.symm.trans hcls.1)
  subst hcomp
  obtain ⟨kC, hkC, -⟩ := hcls.2
  refine W.aast hexec hb hc (fun q h => by cases h) (fun h => by cases h) k1 k2 rfl hkC ⟨fun q => hin (Or.inl q), by show _ < (arrV _ _ _).slots.size; rw [arrV_size, hz]; exact hk⟩ g1 (fun q h => by rw [g3] at h; cases h) (by rw [g2]; exact hkC) (by rw [g2]; exact va_assign hcls) rfl rfl hdg fun H1 e z oq => ?_
  refine kk H1 ?_ oq z ls _ hl (hS.put z oq hAa)
  show H1[a]? = some (vp_cell _ _)
  rw [e, vp_cell_q, vp_cell_q, arrV_store, hz]
  congr 2
  funext q
  by_cases hq : q = k
  · subst hq; simp [updV, va_up, va_rf]
  · simp [updV, va_up, hq]
end ROWS3
/-- a desk that a write elsewhere leaves as it is -/
theorem dk.off {g : KG} {a x : Nat} {d : DV} {H H1 : Heap} (h : dk g a d H) (o : ∀ q : Nat, q ≠ x → H1[q]? = H[q]?) (hx : ¬ iv a 21 x) : dk g a d H1 := h.kept (fun q hq => o q (fun e => hx (e ▸ hq)))
theorem dk.fr2 {g : KG} {a : Nat} {d : DV} {H H1 : Heap} {A1 : Nat → Prop} (h : dk g a d H) (hf : ∀ q : Nat, q < H.size → ¬ A1 q → H1[q]? = H[q]?) (hA : ∀ q, A1 q → ¬ iv a 21 q) : dk g a d H1 := h.fr hf (fun q hq hz => hA q hz hq)
/-- two desks whose cells are the same -/
def deq (d e : DV) : Prop := d.1 0 0 = e.1 0 0 ∧ d.1 3 0 = e.1 3 0 ∧ d.1 11 0 = e.1 11 0 ∧ (∀ j, j < 6 → d.1 20 j = e.1 20 j) ∧ (∀ i, i ≠ 0 → i ≠ 1 → i ≠ 3 → i ≠ 11 → i < 20 → d.1 i = e.1 i) ∧ d.2 = e.2
def dcp (d e : DV) (i : Nat) : DV := (fun j => if j = i then e.1 i else d.1 j, d.2)
def rcp (d e : DV) : DV := (d.1, e.2)

theorem dk_cp1 {g : KG} {a : Nat} {d e : DV} {H H1 : Heap} (h : dk g a d H) (h1 : cA1 g (a + 1) (.inl (g.2 1, 4, .inr (.inr (.inl e.2)))) H1) (o1 : ∀ q : Nat, q ≠ (a + 1) → H1[q]? = H[q]?) : dk g a (rcp d e) H1 := by
  intro i hi
  by_cases hx : i = 1
  · subst hx; exact h1
  · refine va_at.kept (H := H) ?_ (o1 (a + i) (by omega))
    have e : dkc g a (rcp d e) i = dkc g a d i := by
      match i, hi, hx with
      | 0, _, _ => rfl
      | 1, _, hx => exact absurd rfl hx
      | 2, _, _ => rfl
      | 3, _, _ => rfl
      | 4, _, _ => rfl
      | 5, _, _ => rfl
      | 6, _, _ => rfl
      | 7, _, _ => rfl
      | 8, _, _ => rfl
      | 9, _, _ => rfl
      | 10, _, _ => rfl
      | 11, _, _ => rfl
      | 12, _, _ => rfl
      | 13, _, _ => rfl
      | 14, _, _ => rfl
      | 15, _, _ => rfl
      | 16, _, _ => rfl
      | 17, _, _ => rfl
      | 18, _, _ => rfl
      | 19, _, _ => rfl
      | 20, _, _ => rfl
      | n + 21, hi, _ => exact absurd hi (by omega)
    show cA1 g (a + i) _ H
    rw [e]
    exact h i hi
theorem dk_cp2 {g : KG} {a : Nat} {d e : DV} {H H1 : Heap} (h : dk g a d H) (h1 : cA1 g (a + 2) (.inl (g.2 0, 5, .inl (e.1 2))) H1) (o1 : ∀ q : Nat, q ≠ (a + 2) → H1[q]? = H[q]?) : dk g a (dcp d e 2) H1 := by
  intro i hi
  by_cases hx : i = 2
  · subst hx; exact h1
  · refine va_at.kept (H := H) ?_ (o1 (a + i) (by omega))
    have e : dkc g a (dcp d e 2) i = dkc g a d i := by
      match i, hi, hx with
      | 0, _, _ => rfl
      | 1, _, _ => rfl
      | 2, _, hx => exact absurd rfl hx
      | 3, _, _ => rfl
      | 4, _, _ => rfl
      | 5, _, _ => rfl
      | 6, _, _ => rfl
      | 7, _, _ => rfl
      | 8, _, _ => rfl
      | 9, _, _ => rfl
      | 10, _, _ => rfl
      | 11, _, _ => rfl
      | 12, _, _ => rfl
      | 13, _, _ => rfl
      | 14, _, _ => rfl
      | 15, _, _ => rfl
      | 16, _, _ => rfl
      | 17, _, _ => rfl
      | 18, _, _ => rfl
      | 19, _, _ => rfl
      | 20, _, _ => rfl
      | n + 21, hi, _ => exact absurd hi (by omega)
    show cA1 g (a + i) _ H
    rw [e]
    exact h i hi
theorem dk_cp4 {g : KG} {a : Nat} {d e : DV} {H H1 : Heap} (h : dk g a d H) (h1 : cA1 g (a + 4) (.inl (g.2 0, 6, .inl (e.1 4))) H1) (o1 : ∀ q : Nat, q ≠ (a + 4) → H1[q]? = H[q]?) : dk g a (dcp d e 4) H1 := by
  intro i hi
  by_cases hx : i = 4
  · subst hx; exact h1
  · refine va_at.kept (H := H) ?_ (o1 (a + i) (by omega))
    have e : dkc g a (dcp d e 4) i = dkc g a d i := by
      match i, hi, hx with
      | 0, _, _ => rfl
      | 1, _, _ => rfl
      | 2, _, _ => rfl
      | 3, _, _ => rfl
      | 4, _, hx => exact absurd rfl hx
      | 5, _, _ => rfl
      | 6, _, _ => rfl
      | 7, _, _ => rfl
      | 8, _, _ => rfl
      | 9, _, _ => rfl
      | 10, _, _ => rfl
      | 11, _, _ => rfl
      | 12, _, _ => rfl
      | 13, _, _ => rfl
      | 14, _, _ => rfl
      | 15, _, _ => rfl
      | 16, _, _ => rfl
      | 17, _, _ => rfl
      | 18, _, _ => rfl
      | 19, _, _ => rfl
      | 20, _, _ => rfl
      | n + 21, hi, _ => exact absurd hi (by omega)
    show cA1 g (a + i) _ H
    rw [e]
    exact h i hi
theorem dk_cp5 {g : KG} {a : Nat} {d e : DV} {H H1 : Heap} (h : dk g a d H) (h1 : cA1 g (a + 5) (.inl (g.2 0, 6, .inl (e.1 5))) H1) (o1 : ∀ q : Nat, q ≠ (a + 5) → H1[q]? = H[q]?) : dk g a (dcp d e 5) H1 := by
  intro i hi
  by_cases hx : i = 5
  · subst hx; exact h1
  · refine va_at.kept (H := H) ?_ (o1 (a + i) (by omega))
    have e : dkc g a (dcp d e 5) i = dkc g a d i := by
      match i, hi, hx with
      | 0, _, _ => rfl
      | 1, _, _ => rfl
      | 2, _, _ => rfl
      | 3, _, _ => rfl
      | 4, _, _ => rfl
      | 5, _, hx => exact absurd rfl hx
      | 6, _, _ => rfl
      | 7, _, _ => rfl
      | 8, _, _ => rfl
      | 9, _, _ => rfl
      | 10, _, _ => rfl
      | 11, _, _ => rfl
      | 12, _, _ => rfl
      | 13, _, _ => rfl
      | 14, _, _ => rfl
      | 15, _, _ => rfl
      | 16, _, _ => rfl
      | 17, _, _ => rfl
      | 18, _, _ => rfl
      | 19, _, _ => rfl
      | 20, _, _ => rfl
      | n + 21, hi, _ => exact absurd hi (by omega)
    show cA1 g (a + i) _ H
    rw [e]
    exact h i hi
theorem dk_cp6 {g : KG} {a : Nat} {d e : DV} {H H1 : Heap} (h : dk g a d H) (h1 : cA1 g (a + 6) (.inl (g.2 0, 6, .inl (e.1 6))) H1) (o1 : ∀ q : Nat, q ≠ (a + 6) → H1[q]? = H[q]?) : dk g a (dcp d e 6) H1 := by
  intro i hi
  by_cases hx : i = 6
  · subst hx; exact h1
  · refine va_at.kept (H := H) ?_ (o1 (a + i) (by omega))
    have e : dkc g a (dcp d e 6) i = dkc g a d i := by
      match i, hi, hx with
      | 0, _, _ => rfl
      | 1, _, _ => rfl
      | 2, _, _ => rfl
      | 3, _, _ => rfl
      | 4, _, _ => rfl
      | 5, _, _ => rfl
      | 6, _, hx => exact absurd rfl hx
      | 7, _, _ => rfl
      | 8, _, _ => rfl
      | 9, _, _ => rfl
      | 10, _, _ => rfl
      | 11, _, _ => rfl
      | 12, _, _ => rfl
      | 13, _, _ => rfl
      | 14, _, _ => rfl
      | 15, _, _ => rfl
      | 16, _, _ => rfl
      | 17, _, _ => rfl
      | 18, _, _ => rfl
      | 19, _, _ => rfl
      | 20, _, _ => rfl
      | n + 21, hi, _ => exact absurd hi (by omega)
    show cA1 g (a + i) _ H
    rw [e]
    exact h i hi
theorem dk_cp7 {g : KG} {a : Nat} {d e : DV} {H H1 : Heap} (h : dk g a d H) (h1 : cA1 g (a + 7) (.inl (g.2 0, 6, .inl (e.1 7))) H1) (o1 : ∀ q : Nat, q ≠ (a + 7) → H1[q]? = H[q]?) : dk g a (dcp d e 7) H1 := by
  intro i hi
  by_cases hx : i = 7
  · subst hx; exact h1
  · refine va_at.kept (H := H) ?_ (o1 (a + i) (by omega))
    have e : dkc g a (dcp d e 7) i = dkc g a d i := by
      match i, hi, hx with
      | 0, _, _ => rfl
      | 1, _, _ => rfl
      | 2, _, _ => rfl
      | 3, _, _ => rfl
      | 4, _, _ => rfl
      | 5, _, _ => rfl
      | 6, _, _ => rfl
      | 7, _, hx => exact absurd rfl hx
      | 8, _, _ => rfl
      | 9, _, _ => rfl
      | 10, _, _ => rfl
      | 11, _, _ => rfl
      | 12, _, _ => rfl
      | 13, _, _ => rfl
      | 14, _, _ => rfl
      | 15, _, _ => rfl
      | 16, _, _ => rfl
      | 17, _, _ => rfl
      | 18, _, _ => rfl
      | 19, _, _ => rfl
      | 20, _, _ => rfl
      | n + 21, hi, _ => exact absurd hi (by omega)
    show cA1 g (a + i) _ H
    rw [e]
    exact h i hi
theorem dk_cp8 {g : KG} {a : Nat} {d e : DV} {H H1 : Heap} (h : dk g a d H) (h1 : cA1 g (a + 8) (.inl (g.2 0, 12, .inl (e.1 8))) H1) (o1 : ∀ q : Nat, q ≠ (a + 8) → H1[q]? = H[q]?) : dk g a (dcp d e 8) H1 := by
  intro i hi
  by_cases hx : i = 8
  · subst hx; exact h1
  · refine va_at.kept (H := H) ?_ (o1 (a + i) (by omega))
    have e : dkc g a (dcp d e 8) i = dkc g a d i := by
      match i, hi, hx with
      | 0, _, _ => rfl
      | 1, _, _ => rfl
      | 2, _, _ => rfl
      | 3, _, _ => rfl
      | 4, _, _ => rfl
      | 5, _, _ => rfl
      | 6, _, _ => rfl
      | 7, _, _ => rfl
      | 8, _, hx => exact absurd rfl hx
      | 9, _, _ => rfl
      | 10, _, _ => rfl
      | 11, _, _ => rfl
      | 12, _, _ => rfl
      | 13, _, _ => rfl
      | 14, _, _ => rfl
      | 15, _, _ => rfl
      | 16, _, _ => rfl
      | 17, _, _ => rfl
      | 18, _, _ => rfl
      | 19, _, _ => rfl
      | 20, _, _ => rfl
      | n + 21, hi, _ => exact absurd hi (by omega)
    show cA1 g (a + i) _ H
    rw [e]
    exact h i hi
theorem dk_cp9 {g : KG} {a : Nat} {d e : DV} {H H1 : Heap} (h : dk g a d H) (h1 : cA1 g (a + 9) (.inl (g.2 0, 12, .inl (e.1 9))) H1) (o1 : ∀ q : Nat, q ≠ (a + 9) → H1[q]? = H[q]?) : dk g a (dcp d e 9) H1 := by
  intro i hi
  by_cases hx : i = 9
  · subst hx; exact h1
  · refine va_at.kept (H := H) ?_ (o1 (a + i) (by omega))
    have e : dkc g a (dcp d e 9) i = dkc g a d i := by
      match i, hi, hx with
      | 0, _, _ => rfl
      | 1, _, _ => rfl
      | 2, _, _ => rfl
      | 3, _, _ => rfl
      | 4, _, _ => rfl
      | 5, _, _ => rfl
      | 6, _, _ => rfl
      | 7, _, _ => rfl
      | 8, _, _ => rfl
      | 9, _, hx => exact absurd rfl hx
      | 10, _, _ => rfl
      | 11, _, _ => rfl
      | 12, _, _ => rfl
      | 13, _, _ => rfl
      | 14, _, _ => rfl
      | 15, _, _ => rfl
      | 16, _, _ => rfl
      | 17, _, _ => rfl
      | 18, _, _ => rfl
      | 19, _, _ => rfl
      | 20, _, _ => rfl
      | n + 21, hi, _ => exact absurd hi (by omega)
    show cA1 g (a + i) _ H
    rw [e]
    exact h i hi
theorem dk_cp10 {g : KG} {a : Nat} {d e : DV} {H H1 : Heap} (h : dk g a d H) (h1 : cA1 g (a + 10) (.inl (g.2 0, 12, .inl (e.1 10))) H1) (o1 : ∀ q : Nat, q ≠ (a + 10) → H1[q]? = H[q]?) : dk g a (dcp d e 10) H1 := by
  intro i hi
  by_cases hx : i = 10
  · subst hx; exact h1
  · refine va_at.kept (H := H) ?_ (o1 (a + i) (by omega))
    have e : dkc g a (dcp d e 10) i = dkc g a d i := by
      match i, hi, hx with
      | 0, _, _ => rfl
      | 1, _, _ => rfl
      | 2, _, _ => rfl
      | 3, _, _ => rfl
      | 4, _, _ => rfl
      | 5, _, _ => rfl
      | 6, _, _ => rfl
      | 7, _, _ => rfl
      | 8, _, _ => rfl
      | 9, _, _ => rfl
      | 10, _, hx => exact absurd rfl hx
      | 11, _, _ => rfl
      | 12, _, _ => rfl
      | 13, _, _ => rfl
      | 14, _, _ => rfl
      | 15, _, _ => rfl
      | 16, _, _ => rfl
      | 17, _, _ => rfl
      | 18, _, _ => rfl
      | 19, _, _ => rfl
      | 20, _, _ => rfl
      | n + 21, hi, _ => exact absurd hi (by omega)
    show cA1 g (a + i) _ H
    rw [e]
    exact h i hi
theorem dk_cp12 {g : KG} {a : Nat} {d e : DV} {H H1 : Heap} (h : dk g a d H) (h1 : cA1 g (a + 12) (.inl (g.2 0, 20, .inl (e.1 12))) H1) (o1 : ∀ q : Nat, q ≠ (a + 12) → H1[q]? = H[q]?) : dk g a (dcp d e 12) H1 := by
  intro i hi
  by_cases hx : i = 12
  · subst hx; exact h1
  · refine va_at.kept (H := H) ?_ (o1 (a + i) (by omega))
    have e : dkc g a (dcp d e 12) i = dkc g a d i := by
      match i, hi, hx with
      | 0, _, _ => rfl
      | 1, _, _ => rfl
      | 2, _, _ => rfl
      | 3, _, _ => rfl
      | 4, _, _ => rfl
      | 5, _, _ => rfl
      | 6, _, _ => rfl
      | 7, _, _ => rfl
      | 8, _, _ => rfl
      | 9, _, _ => rfl
      | 10, _, _ => rfl
      | 11, _, _ => rfl
      | 12, _, hx => exact absurd rfl hx
      | 13, _, _ => rfl
      | 14, _, _ => rfl
      | 15, _, _ => rfl
      | 16, _, _ => rfl
      | 17, _, _ => rfl
      | 18, _, _ => rfl
      | 19, _, _ => rfl
      | 20, _, _ => rfl
      | n + 21, hi, _ => exact absurd hi (by omega)
    show cA1 g (a + i) _ H
    rw [e]
    exact h i hi
theorem dk_cp13 {g : KG} {a : Nat} {d e : DV} {H H1 : Heap} (h : dk g a d H) (h1 : cA1 g (a + 13) (.inl (g.2 0, 20, .inl (e.1 13))) H1) (o1 : ∀ q : Nat, q ≠ (a + 13) → H1[q]? = H[q]?) : dk g a (dcp d e 13) H1 := by
  intro i hi
  by_cases hx : i = 13
  · subst hx; exact h1
  · refine va_at.kept (H := H) ?_ (o1 (a + i) (by omega))
    have e : dkc g a (dcp d e 13) i = dkc g a d i := by
      match i, hi, hx with
      | 0, _, _ => rfl
      | 1, _, _ => rfl
      | 2, _, _ => rfl
      | 3, _, _ => rfl
      | 4, _, _ => rfl
      | 5, _, _ => rfl
      | 6, _, _ => rfl
      | 7, _, _ => rfl
      | 8, _, _ => rfl
      | 9, _, _ => rfl
      | 10, _, _ => rfl
      | 11, _, _ => rfl
      | 12, _, _ => rfl
      | 13, _, hx => exact absurd rfl hx
      | 14, _, _ => rfl
      | 15, _, _ => rfl
      | 16, _, _ => rfl
      | 17, _, _ => rfl
      | 18, _, _ => rfl
      | 19, _, _ => rfl
      | 20, _, _ => rfl
      | n + 21, hi, _ => exact absurd hi (by omega)
    show cA1 g (a + i) _ H
    rw [e]
    exact h i hi
theorem dk_cp14 {g : KG} {a : Nat} {d e : DV} {H H1 : Heap} (h : dk g a d H) (h1 : cA1 g (a + 14) (.inl (g.2 0, 20, .inl (e.1 14))) H1) (o1 : ∀ q : Nat, q ≠ (a + 14) → H1[q]? = H[q]?) : dk g a (dcp d e 14) H1 := by
  intro i hi
  by_cases hx : i = 14
  · subst hx; exact h1
  · refine va_at.kept (H := H) ?_ (o1 (a + i) (by omega))
    have e : dkc g a (dcp d e 14) i = dkc g a d i := by
      match i, hi, hx with
      | 0, _, _ => rfl
      | 1, _, _ => rfl
      | 2, _, _ => rfl
      | 3, _, _ => rfl
      | 4, _, _ => rfl
      | 5, _, _ => rfl
      | 6, _, _ => rfl
      | 7, _, _ => rfl
      | 8, _, _ => rfl
      | 9, _, _ => rfl
      | 10, _, _ => rfl
      | 11, _, _ => rfl
      | 12, _, _ => rfl
      | 13, _, _ => rfl
      | 14, _, hx => exact absurd rfl hx
      | 15, _, _ => rfl
      | 16, _, _ => rfl
      | 17, _, _ => rfl
      | 18, _, _ => rfl
      | 19, _, _ => rfl
      | 20, _, _ => rfl
      | n + 21, hi, _ => exact absurd hi (by omega)
    show cA1 g (a + i) _ H
    rw [e]
    exact h i hi
theorem dk_cp15 {g : KG} {a : Nat} {d e : DV} {H H1 : Heap} (h : dk g a d H) (h1 : cA1 g (a + 15) (.inl (g.2 0, 20, .inl (e.1 15))) H1) (o1 : ∀ q : Nat, q ≠ (a + 15) → H1[q]? = H[q]?) : dk g a (dcp d e 15) H1 := by
  intro i hi
  by_cases hx : i = 15
  · subst hx; exact h1
  · refine va_at.kept (H := H) ?_ (o1 (a + i) (by omega))
    have e : dkc g a (dcp d e 15) i = dkc g a d i := by
      match i, hi, hx with
      | 0, _, _ => rfl
      | 1, _, _ => rfl
      | 2, _, _ => rfl
      | 3, _, _ => rfl
      | 4, _, _ => rfl
      | 5, _, _ => rfl
      | 6, _, _ => rfl
      | 7, _, _ => rfl
      | 8, _, _ => rfl
      | 9, _, _ => rfl
      | 10, _, _ => rfl
      | 11, _, _ => rfl
      | 12, _, _ => rfl
      | 13, _, _ => rfl
      | 14, _, _ => rfl
      | 15, _, hx => exact absurd rfl hx
      | 16, _, _ => rfl
      | 17, _, _ => rfl
      | 18, _, _ => rfl
      | 19, _, _ => rfl
      | 20, _, _ => rfl
      | n + 21, hi, _ => exact absurd hi (by omega)
    show cA1 g (a + i) _ H
    rw [e]
    exact h i hi
theorem dk_cp16 {g : KG} {a : Nat} {d e : DV} {H H1 : Heap} (h : dk g a d H) (h1 : cA1 g (a + 16) (.inl (g.2 0, 20, .inl (e.1 16))) H1) (o1 : ∀ q : Nat, q ≠ (a + 16) → H1[q]? = H[q]?) : dk g a (dcp d e 16) H1 := by
  intro i hi
  by_cases hx : i = 16
  · subst hx; exact h1
  · refine va_at.kept (H := H) ?_ (o1 (a + i) (by omega))
    have e : dkc g a (dcp d e 16) i = dkc g a d i := by
      match i, hi, hx with
      | 0, _, _ => rfl
      | 1, _, _ => rfl
      | 2, _, _ => rfl
      | 3, _, _ => rfl
      | 4, _, _ => rfl
      | 5, _, _ => rfl
      | 6, _, _ => rfl
      | 7, _, _ => rfl
      | 8, _, _ => rfl
      | 9, _, _ => rfl
      | 10, _, _ => rfl
      | 11, _, _ => rfl
      | 12, _, _ => rfl
      | 13, _, _ => rfl
      | 14, _, _ => rfl
      | 15, _, _ => rfl
      | 16, _, hx => exact absurd rfl hx
      | 17, _, _ => rfl
      | 18, _, _ => rfl
      | 19, _, _ => rfl
      | 20, _, _ => rfl
      | n + 21, hi, _ => exact absurd hi (by omega)
    show cA1 g (a + i) _ H
    rw [e]
    exact h i hi
theorem dk_cp17 {g : KG} {a : Nat} {d e : DV} {H H1 : Heap} (h : dk g a d H) (h1 : cA1 g (a + 17) (.inl (g.2 0, 20, .inl (e.1 17))) H1) (o1 : ∀ q : Nat, q ≠ (a + 17) → H1[q]? = H[q]?) : dk g a (dcp d e 17) H1 := by
  intro i hi
  by_cases hx : i = 17
  · subst hx; exact h1
  · refine va_at.kept (H := H) ?_ (o1 (a + i) (by omega))
    have e : dkc g a (dcp d e 17) i = dkc g a d i := by
      match i, hi, hx with
      | 0, _, _ => rfl
      | 1, _, _ => rfl
      | 2, _, _ => rfl
      | 3, _, _ => rfl
      | 4, _, _ => rfl
      | 5, _, _ => rfl
      | 6, _, _ => rfl
      | 7, _, _ => rfl
      | 8, _, _ => rfl
      | 9, _, _ => rfl
      | 10, _, _ => rfl
      | 11, _, _ => rfl
      | 12, _, _ => rfl
      | 13, _, _ => rfl
      | 14, _, _ => rfl
      | 15, _, _ => rfl
      | 16, _, _ => rfl
      | 17, _, hx => exact absurd rfl hx
      | 18, _, _ => rfl
      | 19, _, _ => rfl
      | 20, _, _ => rfl
      | n + 21, hi, _ => exact absurd hi (by omega)
    show cA1 g (a + i) _ H
    rw [e]
    exact h i hi
theorem dk_cp18 {g : KG} {a : Nat} {d e : DV} {H H1 : Heap} (h : dk g a d H) (h1 : cA1 g (a + 18) (.inl (g.2 0, 20, .inl (e.1 18))) H1) (o1 : ∀ q : Nat, q ≠ (a + 18) → H1[q]? = H[q]?) : dk g a (dcp d e 18) H1 := by
  intro i hi
  by_cases hx : i = 18
  · subst hx; exact h1
  · refine va_at.kept (H := H) ?_ (o1 (a + i) (by omega))
    have e : dkc g a (dcp d e 18) i = dkc g a d i := by
      match i, hi, hx with
      | 0, _, _ => rfl
      | 1, _, _ => rfl
      | 2, _, _ => rfl
      | 3, _, _ => rfl
      | 4, _, _ => rfl
      | 5, _, _ => rfl
      | 6, _, _ => rfl
      | 7, _, _ => rfl
      | 8, _, _ => rfl
      | 9, _, _ => rfl
      | 10, _, _ => rfl
      | 11, _, _ => rfl
      | 12, _, _ => rfl
      | 13, _, _ => rfl
      | 14, _, _ => rfl
      | 15, _, _ => rfl
      | 16, _, _ => rfl
      | 17, _, _ => rfl
      | 18, _, hx => exact absurd rfl hx
      | 19, _, _ => rfl
      | 20, _, _ => rfl
      | n + 21, hi, _ => exact absurd hi (by omega)
    show cA1 g (a + i) _ H
    rw [e]
    exact h i hi
theorem dk_cp19 {g : KG} {a : Nat} {d e : DV} {H H1 : Heap} (h : dk g a d H) (h1 : cA1 g (a + 19) (.inl (g.2 0, 20, .inl (e.1 19))) H1) (o1 : ∀ q : Nat, q ≠ (a + 19) → H1[q]? = H[q]?) : dk g a (dcp d e 19) H1 := by
  intro i hi
  by_cases hx : i = 19
  · subst hx; exact h1
  · refine va_at.kept (H := H) ?_ (o1 (a + i) (by omega))
    have e : dkc g a (dcp d e 19) i = dkc g a d i := by
      match i, hi, hx with
      | 0, _, _ => rfl
      | 1, _, _ => rfl
      | 2, _, _ => rfl
      | 3, _, _ => rfl
      | 4, _, _ => rfl
      | 5, _, _ => rfl
      | 6, _, _ => rfl
      | 7, _, _ => rfl
      | 8, _, _ => rfl
      | 9, _, _ => rfl
      | 10, _, _ => rfl
      | 11, _, _ => rfl
      | 12, _, _ => rfl
      | 13, _, _ => rfl
      | 14, _, _ => rfl
      | 15, _, _ => rfl
      | 16, _, _ => rfl
      | 17, _, _ => rfl
      | 18, _, _ => rfl
      | 19, _, hx => exact absurd rfl hx
      | 20, _, _ => rfl
      | n + 21, hi, _ => exact absurd hi (by omega)
    show cA1 g (a + i) _ H
    rw [e]
    exact h i hi
theorem dk.same {g : KG} {a : Nat} {d e : DV} {H : Heap} (h : dk g a d H) (hq : deq d e) : dk g a e H := by
  obtain ⟨q0, q3, q11, q20, qi, q2⟩ := hq
  intro i hi
  have e1 : dkc g a e i = dkc g a d i := by
    match i, hi with
    | 0, _ => simp only [dkc, q0]
    | 1, _ => simp only [dkc, q2]
    | 2, _ => simp only [dkc, qi 2 (by decide) (by decide) (by decide) (by decide) (by decide)]
    | 3, _ => simp only [dkc, q3]
    | 4, _ => simp only [dkc, qi 4 (by decide) (by decide) (by decide) (by decide) (by decide)]
    | 5, _ => simp only [dkc, qi 5 (by decide) (by decide) (by decide) (by decide) (by decide)]
    | 6, _ => simp only [dkc, qi 6 (by decide) (by decide) (by decide) (by decide) (by decide)]
    | 7, _ => simp only [dkc, qi 7 (by decide) (by decide) (by decide) (by decide) (by decide)]
    | 8, _ => simp only [dkc, qi 8 (by decide) (by decide) (by decide) (by decide) (by decide)]
    | 9, _ => simp only [dkc, qi 9 (by decide) (by decide) (by decide) (by decide) (by decide)]
    | 10, _ => simp only [dkc, qi 10 (by decide) (by decide) (by decide) (by decide) (by decide)]
    | 11, _ => simp only [dkc, q11]
    | 12, _ => simp only [dkc, qi 12 (by decide) (by decide) (by decide) (by decide) (by decide)]
    | 13, _ => simp only [dkc, qi 13 (by decide) (by decide) (by decide) (by decide) (by decide)]
    | 14, _ => simp only [dkc, qi 14 (by decide) (by decide) (by decide) (by decide) (by decide)]
    | 15, _ => simp only [dkc, qi 15 (by decide) (by decide) (by decide) (by decide) (by decide)]
    | 16, _ => simp only [dkc, qi 16 (by decide) (by decide) (by decide) (by decide) (by decide)]
    | 17, _ => simp only [dkc, qi 17 (by decide) (by decide) (by decide) (by decide) (by decide)]
    | 18, _ => simp only [dkc, qi 18 (by decide) (by decide) (by decide) (by decide) (by decide)]
    | 19, _ => simp only [dkc, qi 19 (by decide) (by decide) (by decide) (by decide) (by decide)]
    | 20, _ => simp only [dkc, q20 0 (by decide), q20 1 (by decide), q20 2 (by decide), q20 3 (by decide), q20 4 (by decide), q20 5 (by decide)]
    | n + 21, hi => exact absurd hi (by omega)
  rw [e1]
  exact h i hi
end
section
/-! COPIES: a desk takes over what another holds -/
def cp1 (d e : DV) : DV := dset (dset (dset (dset (dset (dset d 20 0 (e.1 20 0)) 20 1 (e.1 20 1)) 20 2 (e.1 20 2)) 20 3 (e.1 20 3)) 20 4 (e.1 20 4)) 20 5 (e.1 20 5)
def cp5 (d e : DV) : DV := dcp (dcp (dcp (dset (dcp (dcp (dcp (dcp d e 4) e 5) e 6) e 7) 3 0 (e.1 3 0)) e 8) e 9) e 10
def cp4 (d e : DV) : DV := dcp (dcp (dcp (dcp (dcp (dcp (dcp (dcp (dset d 11 0 (e.1 11 0)) e 12) e 13) e 14) e 15) e 16) e 17) e 18) e 19
def cp2 (d e : DV) : DV := cp1 (cp4 (cp5 (dcp (rcp (dset d 0 0 (e.1 0 0)) e) e 2) e) e) e
def rm_X1_copyFrom : Room := { frames := 0, cells := 0, slots := 0, locals := 0 }
set_option maxRecDepth 100000 in
set_option maxHeartbeats 4000000 in
theorem c_X1_copyFrom (g : KG) (B0 : Nat) (l : Launch) (a b : Nat) (d v : DV) (hdis : ∀ q, iv a 21 q → ¬ iv b 21 q) : Mt g B0 l yX1_copyFrom cX1_copyFrom 2 none rm_X1_copyFrom [.ref (a + 20), .ref (b + 20)] (iv a 21) (fun H => dk g a d H ∧ dk g b v H) none (fun H => dk g a (cp1 d v) H ∧ dk g b v H) 0 0 := by
  refine Mt_of RX1 (by decide) rfl [(0, .ref (a + 20)), (1, .ref (b + 20))] rfl (Nat.le_of_ble_eq_true rfl) ?_
  intro pr e s m args below meth c C hr hin hd
  obtain ⟨hd, hb⟩ := hd
  refine y_aload_n C 0 dX1_copyFrom_0 rfl rfl ?_
  refine y_aload_n C 1 dX1_copyFrom_1 rfl rfl ?_
  refine y_get1 C (dk_20 hb) 0 (by decide) q166 rfl rfl dX1_copyFrom_2 ?_
  refine y_put1 C (dk_20 hd) (ivm 20 (by decide)) 0 (by decide) q166 rfl rfl (ty := .int) (by decide +kernel) rfl rfl (Nat.le_of_ble_eq_true rfl) dX1_copyFrom_5 (fun H hw1 ow1 zw1 => ?_)
  have hd := dk_put20_0 hd hw1 ow1
  have hb := hb.off ow1 (hdis _ (ivm 20 (by decide)))
  refine y_aload_n C 0 dX1_copyFrom_8 rfl rfl ?_
  refine y_aload_n C 1 dX1_copyFrom_9 rfl rfl ?_
  refine y_get1 C (dk_20 hb) 1 (by decide) q167 rfl rfl dX1_copyFrom_10 ?_
  refine y_put1 C (dk_20 hd) (ivm 20 (by decide)) 1 (by decide) q167 rfl rfl (ty := .int) (by decide +kernel) rfl rfl (Nat.le_of_ble_eq_true rfl) dX1_copyFrom_13 (fun H hw1 ow1 zw1 => ?_)
  have hd := dk_put20_1 hd hw1 ow1
  have hb := hb.off ow1 (hdis _ (ivm 20 (by decide)))
  refine y_aload_n C 0 dX1_copyFrom_16 rfl rfl ?_
  refine y_aload_n C 1 dX1_copyFrom_17 rfl rfl ?_
  refine y_get1 C (dk_20 hb) 2 (by decide) q168 rfl rfl dX1_copyFrom_18 ?_
  refine y_put1 C (dk_20 hd) (ivm 20 (by decide)) 2 (by decide) q168 rfl rfl (ty := .int) (by decide +kernel) rfl rfl (Nat.le_of_ble_eq_true rfl) dX1_copyFrom_21 (fun H hw1 ow1 zw1 => ?_)
  have hd := dk_put20_2 hd hw1 ow1
  have hb := hb.off ow1 (hdis _ (ivm 20 (by decide)))
  refine y_aload_n C 0 dX1_copyFrom_24 rfl rfl ?_
  refine y_aload_n C 1 dX1_copyFrom_25 rfl rfl ?_
  refine y_get1 C (dk_20 hb) 3 (by decide) q169 rfl rfl dX1_copyFrom_26 ?_
  refine y_put1 C (dk_20 hd) (ivm 20 (by decide)) 3 (by decide) q169 rfl rfl (ty := .int) (by decide +kernel) rfl rfl (Nat.le_of_ble_eq_true rfl) dX1_copyFrom_29 (fun H hw1 ow1 zw1 => ?_)
  have hd := dk_put20_3 hd hw1 ow1
  have hb := hb.off ow1 (hdis _ (ivm 20 (by decide)))
  refine y_aload_n C 0 dX1_copyFrom_32 rfl rfl ?_
  refine y_aload_n C 1 dX1_copyFrom_33 rfl rfl ?_
  refine y_get1 C (dk_20 hb) 4 (by decide) q170 rfl rfl dX1_copyFrom_34 ?_
  refine y_put1 C (dk_20 hd) (ivm 20 (by decide)) 4 (by decide) q170 rfl rfl (ty := .int) (by decide +kernel) rfl rfl (Nat.le_of_ble_eq_true rfl) dX1_copyFrom_37 (fun H hw1 ow1 zw1 => ?_)
  have hd := dk_put20_4 hd hw1 ow1
  have hb := hb.off ow1 (hdis _ (ivm 20 (by decide)))
  refine y_aload_n C 0 dX1_copyFrom_40 rfl rfl ?_
  refine y_aload_n C 1 dX1_copyFrom_41 rfl rfl ?_
  refine y_get1 C (dk_20 hb) 5 (by decide) q171 rfl rfl dX1_copyFrom_42 ?_
  refine y_put1 C (dk_20 hd) (ivm 20 (by decide)) 5 (by decide) q171 rfl rfl (ty := .int) (by decide +kernel) rfl rfl (Nat.le_of_ble_eq_true rfl) dX1_copyFrom_45 (fun H hw1 ow1 zw1 => ?_)
  have hd := dk_put20_5 hd hw1 ow1
  have hb := hb.off ow1 (hdis _ (ivm 20 (by decide)))
  exact y_vret C hr ⟨hd, hb⟩ dX1_copyFrom_48
def rm_X5_copyFrom : Room := { frames := 1, cells := 0, slots := 0, locals := 18 }
set_option maxRecDepth 100000 in
set_option maxHeartbeats 4000000 in
theorem c_X5_copyFrom (g : KG) (B0 : Nat) (l : Launch) (a b : Nat) (d v : DV) (hdis : ∀ q, iv a 21 q → ¬ iv b 21 q) : Mt g B0 l yX5_copyFrom cX5_copyFrom 2 none rm_X5_copyFrom [.ref (a + 3), .ref (b + 3)] (iv a 21) (fun H => dk g a d H ∧ dk g b v H) none (fun H => dk g a (cp5 d v) H ∧ dk g b v H) 0 0 := by
  refine Mt_of RX5 (by decide) rfl [(0, .ref (a + 3)), (1, .ref (b + 3))] rfl (Nat.le_of_ble_eq_true rfl) ?_
  intro pr e s m args below meth c C hr hin hd
  obtain ⟨hd, hb⟩ := hd
  refine y_aload_n C 1 dX5_copyFrom_0 rfl rfl ?_
  refine y_get5 C (dk_3 hb) 0 (by decide) q53 rfl rfl dX5_copyFrom_1 ?_
  refine y_iconst C (0) dX5_copyFrom_4 (by decide) ?_
  refine y_aload_n C 0 dX5_copyFrom_5 rfl rfl ?_
  refine y_get5 C (dk_3 hd) 0 (by decide) q53 rfl rfl dX5_copyFrom_6 ?_
  refine y_iconst C (0) dX5_copyFrom_9 (by decide) ?_
  refine y_bipush C (6) dX5_copyFrom_10 (by decide) ?_
  refine y_copyi C (dk_4 hb) (dk_4 hd) (ivm 4 (by decide)) rfl (by decide) q156 q149 q150 q151 (Nat.le_of_ble_eq_true rfl) (Nat.le_of_ble_eq_true rfl) dX5_copyFrom_12 (fun H hw1 ow1 zw1 => ?_)
  have hd := dk_cp4 hd hw1 ow1
  have hb := hb.off ow1 (hdis _ (ivm 4 (by decide)))
  refine y_aload_n C 1 dX5_copyFrom_15 rfl rfl ?_
  refine y_get5 C (dk_3 hb) 1 (by decide) q54 rfl rfl dX5_copyFrom_16 ?_
  refine y_iconst C (0) dX5_copyFrom_19 (by decide) ?_
  refine y_aload_n C 0 dX5_copyFrom_20 rfl rfl ?_
  refine y_get5 C (dk_3 hd) 1 (by decide) q54 rfl rfl dX5_copyFrom_21 ?_
  refine y_iconst C (0) dX5_copyFrom_24 (by decide) ?_
  refine y_bipush C (6) dX5_copyFrom_25 (by decide) ?_
  refine y_copyi C (dk_5 hb) (dk_5 hd) (ivm 5 (by decide)) rfl (by decide) q156 q149 q150 q151 (Nat.le_of_ble_eq_true rfl) (Nat.le_of_ble_eq_true rfl) dX5_copyFrom_27 (fun H hw1 ow1 zw1 => ?_)
  have hd := dk_cp5 hd hw1 ow1
  have hb := hb.off ow1 (hdis _ (ivm 5 (by decide)))
  refine y_aload_n C 1 dX5_copyFrom_30 rfl rfl ?_
  refine y_get5 C (dk_3 hb) 2 (by decide) q55 rfl rfl dX5_copyFrom_31 ?_
  refine y_iconst C (0) dX5_copyFrom_34 (by decide) ?_
  refine y_aload_n C 0 dX5_copyFrom_35 rfl rfl ?_
  refine y_get5 C (dk_3 hd) 2 (by decide) q55 rfl rfl dX5_copyFrom_36 ?_
  refine y_iconst C (0) dX5_copyFrom_39 (by decide) ?_
  refine y_bipush C (6) dX5_copyFrom_40 (by decide) ?_
  refine y_copyi C (dk_6 hb) (dk_6 hd) (ivm 6 (by decide)) rfl (by decide) q156 q149 q150 q151 (Nat.le_of_ble_eq_true rfl) (Nat.le_of_ble_eq_true rfl) dX5_copyFrom_42 (fun H hw1 ow1 zw1 => ?_)
  have hd := dk_cp6 hd hw1 ow1
  have hb := hb.off ow1 (hdis _ (ivm 6 (by decide)))
  refine y_aload_n C 1 dX5_copyFrom_45 rfl rfl ?_
  refine y_get5 C (dk_3 hb) 3 (by decide) q56 rfl rfl dX5_copyFrom_46 ?_
  refine y_iconst C (0) dX5_copyFrom_49 (by decide) ?_
  refine y_aload_n C 0 dX5_copyFrom_50 rfl rfl ?_
  refine y_get5 C (dk_3 hd) 3 (by decide) q56 rfl rfl dX5_copyFrom_51 ?_
  refine y_iconst C (0) dX5_copyFrom_54 (by decide) ?_
  refine y_bipush C (6) dX5_copyFrom_55 (by decide) ?_
  refine y_copyi C (dk_7 hb) (dk_7 hd) (ivm 7 (by decide)) rfl (by decide) q156 q149 q150 q151 (Nat.le_of_ble_eq_true rfl) (Nat.le_of_ble_eq_true rfl) dX5_copyFrom_57 (fun H hw1 ow1 zw1 => ?_)
  have hd := dk_cp7 hd hw1 ow1
  have hb := hb.off ow1 (hdis _ (ivm 7 (by decide)))
  refine y_aload_n C 0 dX5_copyFrom_60 rfl rfl ?_
  refine y_aload_n C 1 dX5_copyFrom_61 rfl rfl ?_
  refine y_get5 C (dk_3 hb) 4 (by decide) q57 rfl rfl dX5_copyFrom_62 ?_
  refine y_put5 C (dk_3 hd) (ivm 3 (by decide)) 4 (by decide) q57 rfl rfl (ty := .int) (by decide +kernel) rfl rfl (Nat.le_of_ble_eq_true rfl) dX5_copyFrom_65 (fun H hw1 ow1 zw1 => ?_)
  have hd := dk_put3_4 hd hw1 ow1
  have hb := hb.off ow1 (hdis _ (ivm 3 (by decide)))
  refine y_aload_n C 1 dX5_copyFrom_68 rfl rfl ?_
  refine y_get5 C (dk_3 hb) 5 (by decide) q58 rfl rfl dX5_copyFrom_69 ?_
  refine y_iconst C (0) dX5_copyFrom_72 (by decide) ?_
  refine y_aload_n C 0 dX5_copyFrom_73 rfl rfl ?_
  refine y_get5 C (dk_3 hd) 5 (by decide) q58 rfl rfl dX5_copyFrom_74 ?_
  refine y_iconst C (0) dX5_copyFrom_77 (by decide) ?_
  refine y_bipush C (12) dX5_copyFrom_78 (by decide) ?_
  refine y_copyi C (dk_8 hb) (dk_8 hd) (ivm 8 (by decide)) rfl (by decide) q156 q149 q150 q151 (Nat.le_of_ble_eq_true rfl) (Nat.le_of_ble_eq_true rfl) dX5_copyFrom_80 (fun H hw1 ow1 zw1 => ?_)
  have hd := dk_cp8 hd hw1 ow1
  have hb := hb.off ow1 (hdis _ (ivm 8 (by decide)))
  refine y_aload_n C 1 dX5_copyFrom_83 rfl rfl ?_
  refine y_get5 C (dk_3 hb) 6 (by decide) q59 rfl rfl dX5_copyFrom_84 ?_
  refine y_iconst C (0) dX5_copyFrom_87 (by decide) ?_
  refine y_aload_n C 0 dX5_copyFrom_88 rfl rfl ?_
  refine y_get5 C (dk_3 hd) 6 (by decide) q59 rfl rfl dX5_copyFrom_89 ?_
  refine y_iconst C (0) dX5_copyFrom_92 (by decide) ?_
  refine y_bipush C (12) dX5_copyFrom_93 (by decide) ?_
  refine y_copyi C (dk_9 hb) (dk_9 hd) (ivm 9 (by decide)) rfl (by decide) q156 q149 q150 q151 (Nat.le_of_ble_eq_true rfl) (Nat.le_of_ble_eq_true rfl) dX5_copyFrom_95 (fun H hw1 ow1 zw1 => ?_)
  have hd := dk_cp9 hd hw1 ow1
  have hb := hb.off ow1 (hdis _ (ivm 9 (by decide)))
  refine y_aload_n C 1 dX5_copyFrom_98 rfl rfl ?_
  refine y_get5 C (dk_3 hb) 7 (by decide) q60 rfl rfl dX5_copyFrom_99 ?_
  refine y_iconst C (0) dX5_copyFrom_102 (by decide) ?_
  refine y_aload_n C 0 dX5_copyFrom_103 rfl rfl ?_
  refine y_get5 C (dk_3 hd) 7 (by decide) q60 rfl rfl dX5_copyFrom_104 ?_
  refine y_iconst C (0) dX5_copyFrom_107 (by decide) ?_
  refine y_bipush C (12) dX5_copyFrom_108 (by decide) ?_
  refine y_copyi C (dk_10 hb) (dk_10 hd) (ivm 10 (by decide)) rfl (by decide) q156 q149 q150 q151 (Nat.le_of_ble_eq_true rfl) (Nat.le_of_ble_eq_true rfl) dX5_copyFrom_110 (fun H hw1 ow1 zw1 => ?_)
  have hd := dk_cp10 hd hw1 ow1
  have hb := hb.off ow1 (hdis _ (ivm 10 (by decide)))
  exact y_vret C hr ⟨hd, hb⟩ dX5_copyFrom_113
def rm_X4_copyFrom : Room := { frames := 1, cells := 0, slots := 0, locals := 18 }
set_option maxRecDepth 100000 in
set_option maxHeartbeats 4000000 in
theorem c_X4_copyFrom (g : KG) (B0 : Nat) (l : Launch) (a b : Nat) (d v : DV) (hdis : ∀ q, iv a 21 q → ¬ iv b 21 q) : Mt g B0 l yX4_copyFrom cX4_copyFrom 2 none rm_X4_copyFrom [.ref (a + 11), .ref (b + 11)] (iv a 21) (fun H => dk g a d H ∧ dk g b v H) none (fun H => dk g a (cp4 d v) H ∧ dk g b v H) 0 0 := by
  refine Mt_of RX4 (by decide) rfl [(0, .ref (a + 11)), (1, .ref (b + 11))] rfl (Nat.le_of_ble_eq_true rfl) ?_
  intro pr e s m args below meth c C hr hin hd
  obtain ⟨hd, hb⟩ := hd
  refine y_aload_n C 0 dX4_copyFrom_0 rfl rfl ?_
  refine y_aload_n C 1 dX4_copyFrom_1 rfl rfl ?_
  refine y_get4 C (dk_11 hb) 0 (by decide) q65 rfl rfl dX4_copyFrom_2 ?_
  refine y_put4 C (dk_11 hd) (ivm 11 (by decide)) 0 (by decide) q65 rfl rfl (ty := .int) (by decide +kernel) rfl rfl (Nat.le_of_ble_eq_true rfl) dX4_copyFrom_5 (fun H hw1 ow1 zw1 => ?_)
  have hd := dk_put11_0 hd hw1 ow1
  have hb := hb.off ow1 (hdis _ (ivm 11 (by decide)))
  refine y_aload_n C 1 dX4_copyFrom_8 rfl rfl ?_
  refine y_get4 C (dk_11 hb) 1 (by decide) q66 rfl rfl dX4_copyFrom_9 ?_
  refine y_iconst C (0) dX4_copyFrom_12 (by decide) ?_
  refine y_aload_n C 0 dX4_copyFrom_13 rfl rfl ?_
  refine y_get4 C (dk_11 hd) 1 (by decide) q66 rfl rfl dX4_copyFrom_14 ?_
  refine y_iconst C (0) dX4_copyFrom_17 (by decide) ?_
  refine y_bipush C (20) dX4_copyFrom_18 (by decide) ?_
  refine y_copyi C (dk_12 hb) (dk_12 hd) (ivm 12 (by decide)) rfl (by decide) q161 q149 q150 q151 (Nat.le_of_ble_eq_true rfl) (Nat.le_of_ble_eq_true rfl) dX4_copyFrom_20 (fun H hw1 ow1 zw1 => ?_)
  have hd := dk_cp12 hd hw1 ow1
  have hb := hb.off ow1 (hdis _ (ivm 12 (by decide)))
  refine y_aload_n C 1 dX4_copyFrom_23 rfl rfl ?_
  refine y_get4 C (dk_11 hb) 2 (by decide) q67 rfl rfl dX4_copyFrom_24 ?_
  refine y_iconst C (0) dX4_copyFrom_27 (by decide) ?_
  refine y_aload_n C 0 dX4_copyFrom_28 rfl rfl ?_
  refine y_get4 C (dk_11 hd) 2 (by decide) q67 rfl rfl dX4_copyFrom_29 ?_
  refine y_iconst C (0) dX4_copyFrom_32 (by decide) ?_
  refine y_bipush C (20) dX4_copyFrom_33 (by decide) ?_
  refine y_copyi C (dk_13 hb) (dk_13 hd) (ivm 13 (by decide)) rfl (by decide) q161 q149 q150 q151 (Nat.le_of_ble_eq_true rfl) (Nat.le_of_ble_eq_true rfl) dX4_copyFrom_35 (fun H hw1 ow1 zw1 => ?_)
  have hd := dk_cp13 hd hw1 ow1
  have hb := hb.off ow1 (hdis _ (ivm 13 (by decide)))
  refine y_aload_n C 1 dX4_copyFrom_38 rfl rfl ?_
  refine y_get4 C (dk_11 hb) 3 (by decide) q68 rfl rfl dX4_copyFrom_39 ?_
  refine y_iconst C (0) dX4_copyFrom_42 (by decide) ?_
  refine y_aload_n C 0 dX4_copyFrom_43 rfl rfl ?_
  refine y_get4 C (dk_11 hd) 3 (by decide) q68 rfl rfl dX4_copyFrom_44 ?_
  refine y_iconst C (0) dX4_copyFrom_47 (by decide) ?_
  refine y_bipush C (20) dX4_copyFrom_48 (by decide) ?_
  refine y_copyi C (dk_14 hb) (dk_14 hd) (ivm 14 (by decide)) rfl (by decide) q161 q149 q150 q151 (Nat.le_of_ble_eq_true rfl) (Nat.le_of_ble_eq_true rfl) dX4_copyFrom_50 (fun H hw1 ow1 zw1 => ?_)
  have hd := dk_cp14 hd hw1 ow1
  have hb := hb.off ow1 (hdis _ (ivm 14 (by decide)))
  refine y_aload_n C 1 dX4_copyFrom_53 rfl rfl ?_
  refine y_get4 C (dk_11 hb) 4 (by decide) q69 rfl rfl dX4_copyFrom_54 ?_
  refine y_iconst C (0) dX4_copyFrom_57 (by decide) ?_
  refine y_aload_n C 0 dX4_copyFrom_58 rfl rfl ?_
  refine y_get4 C (dk_11 hd) 4 (by decide) q69 rfl rfl dX4_copyFrom_59 ?_
  refine y_iconst C (0) dX4_copyFrom_62 (by decide) ?_
  refine y_bipush C (20) dX4_copyFrom_63 (by decide) ?_
  refine y_copyi C (dk_15 hb) (dk_15 hd) (ivm 15 (by decide)) rfl (by decide) q161 q149 q150 q151 (Nat.le_of_ble_eq_true rfl) (Nat.le_of_ble_eq_true rfl) dX4_copyFrom_65 (fun H hw1 ow1 zw1 => ?_)
  have hd := dk_cp15 hd hw1 ow1
  have hb := hb.off ow1 (hdis _ (ivm 15 (by decide)))
  refine y_aload_n C 1 dX4_copyFrom_68 rfl rfl ?_
  refine y_get4 C (dk_11 hb) 5 (by decide) q70 rfl rfl dX4_copyFrom_69 ?_
  refine y_iconst C (0) dX4_copyFrom_72 (by decide) ?_
  refine y_aload_n C 0 dX4_copyFrom_73 rfl rfl ?_
  refine y_get4 C (dk_11 hd) 5 (by decide) q70 rfl rfl dX4_copyFrom_74 ?_
  refine y_iconst C (0) dX4_copyFrom_77 (by decide) ?_
  refine y_bipush C (20) dX4_copyFrom_78 (by decide) ?_
  refine y_copyi C (dk_16 hb) (dk_16 hd) (ivm 16 (by decide)) rfl (by decide) q161 q149 q150 q151 (Nat.le_of_ble_eq_true rfl) (Nat.le_of_ble_eq_true rfl) dX4_copyFrom_80 (fun H hw1 ow1 zw1 => ?_)
  have hd := dk_cp16 hd hw1 ow1
  have hb := hb.off ow1 (hdis _ (ivm 16 (by decide)))
  refine y_aload_n C 1 dX4_copyFrom_83 rfl rfl ?_
  refine y_get4 C (dk_11 hb) 6 (by decide) q71 rfl rfl dX4_copyFrom_84 ?_
  refine y_iconst C (0) dX4_copyFrom_87 (by decide) ?_
  refine y_aload_n C 0 dX4_copyFrom_88 rfl rfl ?_
  refine y_get4 C (dk_11 hd) 6 (by decide) q71 rfl rfl dX4_copyFrom_89 ?_
  refine y_iconst C (0) dX4_copyFrom_92 (by decide) ?_
  refine y_bipush C (20) dX4_copyFrom_93 (by decide) ?_
  refine y_copyi C (dk_17 hb) (dk_17 hd) (ivm 17 (by decide)) rfl (by decide) q161 q149 q150 q151 (Nat.le_of_ble_eq_true rfl) (Nat.le_of_ble_eq_true rfl) dX4_copyFrom_95 (fun H hw1 ow1 zw1 => ?_)
  have hd := dk_cp17 hd hw1 ow1
  have hb := hb.off ow1 (hdis _ (ivm 17 (by decide)))
  refine y_aload_n C 1 dX4_copyFrom_98 rfl rfl ?_
  refine y_get4 C (dk_11 hb) 7 (by decide) q72 rfl rfl dX4_copyFrom_99 ?_
  refine y_iconst C (0) dX4_copyFrom_102 (by decide) ?_
  refine y_aload_n C 0 dX4_copyFrom_103 rfl rfl ?_
  refine y_get4 C (dk_11 hd) 7 (by decide) q72 rfl rfl dX4_copyFrom_104 ?_
  refine y_iconst C (0) dX4_copyFrom_107 (by decide) ?_
  refine y_bipush C (20) dX4_copyFrom_108 (by decide) ?_
  refine y_copyi C (dk_18 hb) (dk_18 hd) (ivm 18 (by decide)) rfl (by decide) q161 q149 q150 q151 (Nat.le_of_ble_eq_true rfl) (Nat.le_of_ble_eq_true rfl) dX4_copyFrom_110 (fun H hw1 ow1 zw1 => ?_)
  have hd := dk_cp18 hd hw1 ow1
  have hb := hb.off ow1 (hdis _ (ivm 18 (by decide)))
  refine y_aload_n C 1 dX4_copyFrom_113 rfl rfl ?_
  refine y_get4 C (dk_11 hb) 8 (by decide) q73 rfl rfl dX4_copyFrom_114 ?_
  refine y_iconst C (0) dX4_copyFrom_117 (by decide) ?_
  refine y_aload_n C 0 dX4_copyFrom_118 rfl rfl ?_
  refine y_get4 C (dk_11 hd) 8 (by decide) q73 rfl rfl dX4_copyFrom_119 ?_
  refine y_iconst C (0) dX4_copyFrom_122 (by decide) ?_
  refine y_bipush C (20) dX4_copyFrom_123 (by decide) ?_
  refine y_copyi C (dk_19 hb) (dk_19 hd) (ivm 19 (by decide)) rfl (by decide) q161 q149 q150 q151 (Nat.le_of_ble_eq_true rfl) (Nat.le_of_ble_eq_true rfl) dX4_copyFrom_125 (fun H hw1 ow1 zw1 => ?_)
  have hd := dk_cp19 hd hw1 ow1
  have hb := hb.off ow1 (hdis _ (ivm 19 (by decide)))
  exact y_vret C hr ⟨hd, hb⟩ dX4_copyFrom_128
theorem cp2_eq (d e : DV) : deq (cp2 d e) e := by
  refine ⟨rfl, rfl, rfl, ?_, ?_, rfl⟩
  · intro j hj
    match j, hj with
    | 0, _ => rfl
    | 1, _ => rfl
    | 2, _ => rfl
    | 3, _ => rfl
    | 4, _ => rfl
    | 5, _ => rfl
    | n + 6, hj => exact absurd hj (by omega)
  · intro i h0 h1 h3 h11 hi
    match i, hi, h0, h1, h3, h11 with
    | 0, _, hh, _, _, _ => exact absurd rfl hh
    | 1, _, _, hh, _, _ => exact absurd rfl hh
    | 2, _, _, _, _, _ => rfl
    | 3, _, _, _, hh, _ => exact absurd rfl hh
    | 4, _, _, _, _, _ => rfl
    | 5, _, _, _, _, _ => rfl
    | 6, _, _, _, _, _ => rfl
    | 7, _, _, _, _, _ => rfl
    | 8, _, _, _, _, _ => rfl
    | 9, _, _, _, _, _ => rfl
    | 10, _, _, _, _, _ => rfl
    | 11, _, _, _, _, hh => exact absurd rfl hh
    | 12, _, _, _, _, _ => rfl
    | 13, _, _, _, _, _ => rfl
    | 14, _, _, _, _, _ => rfl
    | 15, _, _, _, _, _ => rfl
    | 16, _, _, _, _, _ => rfl
    | 17, _, _, _, _, _ => rfl
    | 18, _, _, _, _, _ => rfl
    | 19, _, _, _, _, _ => rfl
    | n + 20, hi, _, _, _, _ => exact absurd hi (by omega)
def rm_X2_copyFrom : Room := { frames := 2, cells := 0, slots := 0, locals := 39 }
set_option maxRecDepth 100000 in
set_option maxHeartbeats 4000000 in
theorem c_X2_copyFrom (g : KG) (B0 : Nat) (l : Launch) (a b : Nat) (d v : DV) (hdis : ∀ q, iv a 21 q → ¬ iv b 21 q) : Mt g B0 l yX2_copyFrom cX2_copyFrom 2 none rm_X2_copyFrom [.ref a, .ref b] (iv a 21) (fun H => dk g a d H ∧ dk g b v H) none (fun H => dk g a v H ∧ dk g b v H) 0 0 := by
  refine Mt_of RX2 (by decide) rfl [(0, .ref a), (1, .ref b)] rfl (Nat.le_of_ble_eq_true rfl) ?_
  intro pr e s m args below meth c C hr hin hd
  obtain ⟨hd, hb⟩ := hd
  refine y_aload_n C 0 dX2_copyFrom_0 rfl rfl ?_
  refine y_aload_n C 1 dX2_copyFrom_1 rfl rfl ?_
  refine y_get2 C (dk_0 hb) 0 (by decide) q28 rfl rfl dX2_copyFrom_2 ?_
  refine y_put2 C (dk_0 hd) (ivm 0 (by decide)) 0 (by decide) q28 rfl rfl (ty := .int) (by decide +kernel) rfl rfl (Nat.le_of_ble_eq_true rfl) dX2_copyFrom_5 (fun H hw1 ow1 zw1 => ?_)
  have hd := dk_put0_0 hd hw1 ow1
  have hb := hb.off ow1 (hdis _ (ivm 0 (by decide)))
  refine y_aload_n C 1 dX2_copyFrom_8 rfl rfl ?_
  refine y_get2 C (dk_0 hb) 1 (by decide) q34 rfl rfl dX2_copyFrom_9 ?_
  refine y_iconst C (0) dX2_copyFrom_12 (by decide) ?_
  refine y_aload_n C 0 dX2_copyFrom_13 rfl rfl ?_
  refine y_get2 C (dk_0 hd) 1 (by decide) q34 rfl rfl dX2_copyFrom_14 ?_
  refine y_iconst C (0) dX2_copyFrom_17 (by decide) ?_
  refine y_iconst C (4) dX2_copyFrom_18 (by decide) ?_
  refine y_copyf C (dk_1 hb) (dk_1 hd) (ivm 1 (by decide)) rfl (by decide) q148 q149 q150 q151 (Nat.le_of_ble_eq_true rfl) (Nat.le_of_ble_eq_true rfl) dX2_copyFrom_19 (fun H hw1 ow1 zw1 => ?_)
  have hd := dk_cp1 hd hw1 ow1
  have hb := hb.off ow1 (hdis _ (ivm 1 (by decide)))
  refine y_aload_n C 1 dX2_copyFrom_22 rfl rfl ?_
  refine y_get2 C (dk_0 hb) 2 (by decide) q36 rfl rfl dX2_copyFrom_23 ?_
  refine y_iconst C (0) dX2_copyFrom_26 (by decide) ?_
  refine y_aload_n C 0 dX2_copyFrom_27 rfl rfl ?_
  refine y_get2 C (dk_0 hd) 2 (by decide) q36 rfl rfl dX2_copyFrom_28 ?_
  refine y_iconst C (0) dX2_copyFrom_31 (by decide) ?_
  refine y_iconst C (5) dX2_copyFrom_32 (by decide) ?_
  refine y_copyi C (dk_2 hb) (dk_2 hd) (ivm 2 (by decide)) rfl (by decide) q148 q149 q150 q151 (Nat.le_of_ble_eq_true rfl) (Nat.le_of_ble_eq_true rfl) dX2_copyFrom_33 (fun H hw1 ow1 zw1 => ?_)
  have hd := dk_cp2 hd hw1 ow1
  have hb := hb.off ow1 (hdis _ (ivm 2 (by decide)))
  refine y_aload_n C 0 dX2_copyFrom_36 rfl rfl ?_
  refine y_get2 C (dk_0 hd) 3 (by decide) q40 rfl rfl dX2_copyFrom_37 ?_
  refine y_aload_n C 1 dX2_copyFrom_40 rfl rfl ?_
  refine y_get2 C (dk_0 hb) 3 (by decide) q40 rfl rfl dX2_copyFrom_41 ?_
  refine y_callV C [.ref (b + 3)] (c_X5_copyFrom g B0 l a b (dcp (rcp (dset d 0 0 (v.1 0 0)) v) v 2) v hdis) RX5 1 (wVin q152 q153 q154 q39 q155) hy_X5_copyFrom ⟨(Nat.le_of_ble_eq_true rfl), (Nat.le_of_ble_eq_true rfl)⟩ ⟨rfl, rfl⟩ (rcv C.2.2.2.2.2.1 (dk_3 hd) rfl) ⟨hd, hb⟩ (fun _ h => h) rfl rfl (Nat.le_of_ble_eq_true rfl) dX2_copyFrom_44 ⟨(Nat.le_of_ble_eq_true rfl), (Nat.le_of_ble_eq_true rfl)⟩ rfl (fun H hp hz hf => ?_)
  obtain ⟨hd, hb⟩ := hp
  refine y_aload_n C 0 dX2_copyFrom_47 rfl rfl ?_
  refine y_get2 C (dk_0 hd) 4 (by decide) q44 rfl rfl dX2_copyFrom_48 ?_
  refine y_aload_n C 1 dX2_copyFrom_51 rfl rfl ?_
  refine y_get2 C (dk_0 hb) 4 (by decide) q44 rfl rfl dX2_copyFrom_52 ?_
  refine y_callV C [.ref (b + 11)] (c_X4_copyFrom g B0 l a b (cp5 (dcp (rcp (dset d 0 0 (v.1 0 0)) v) v 2) v) v hdis) RX4 1 (wVin q157 q158 q159 q43 q160) hy_X4_copyFrom ⟨(Nat.le_of_ble_eq_true rfl), (Nat.le_of_ble_eq_true rfl)⟩ ⟨rfl, rfl⟩ (rcv C.2.2.2.2.2.1 (dk_11 hd) rfl) ⟨hd, hb⟩ (fun _ h => h) rfl rfl (Nat.le_of_ble_eq_true rfl) dX2_copyFrom_55 ⟨(Nat.le_of_ble_eq_true rfl), (Nat.le_of_ble_eq_true rfl)⟩ rfl (fun H hp hz hf => ?_)
  obtain ⟨hd, hb⟩ := hp
  refine y_aload_n C 0 dX2_copyFrom_58 rfl rfl ?_
  refine y_get2 C (dk_0 hd) 5 (by decide) q48 rfl rfl dX2_copyFrom_59 ?_
  refine y_aload_n C 1 dX2_copyFrom_62 rfl rfl ?_
  refine y_get2 C (dk_0 hb) 5 (by decide) q48 rfl rfl dX2_copyFrom_63 ?_
  refine y_callV C [.ref (b + 20)] (c_X1_copyFrom g B0 l a b (cp4 (cp5 (dcp (rcp (dset d 0 0 (v.1 0 0)) v) v 2) v) v) v hdis) RX1 1 (wVin q162 q163 q164 q47 q165) hy_X1_copyFrom ⟨(Nat.le_of_ble_eq_true rfl), (Nat.le_of_ble_eq_true rfl)⟩ ⟨rfl, rfl⟩ (rcv C.2.2.2.2.2.1 (dk_20 hd) rfl) ⟨hd, hb⟩ (fun _ h => h) rfl rfl (Nat.le_of_ble_eq_true rfl) dX2_copyFrom_66 ⟨(Nat.le_of_ble_eq_true rfl), (Nat.le_of_ble_eq_true rfl)⟩ rfl (fun H hp hz hf => ?_)
  obtain ⟨hd, hb⟩ := hp
  exact y_vret C hr ⟨dk.same (d := cp2 d v) hd (cp2_eq d v), hb⟩ dX2_copyFrom_69
end
section
/-! THE WHOLE: 152 cells from b on: 0 SetRepairs, 1 the desk, 22 the trial, 43 the snapshot, 64 History, 65 its states, 66, 87, 108, 129 the desks of the history, 150 the text, 151 its characters. hsn: is there a snapshot; hm: how many states; r: which of the four is the oldest; dv: the seven desks -/
def adr : Nat → Nat
  | 0 => 1
  | 1 => 22
  | 2 => 43
  | n + 3 => 66 + 21 * n
def sta (b r : Nat) : Nat → Option Nat := fun j => some (b + adr (3 + (r + j) % 4))
def rooC (b : Nat) (hsn : Int32) : va_E := .inr (6, [.ref (b + 1), .ref (b + 22), .ref (b + 43), .int hsn, .ref (b + 64), .ref (b + 150)])
def hisC (b hm : Nat) : va_E := .inr (3, [.int (nI hm), .ref (b + 65)])
def staC (g : KG) (f : Nat → Option Nat) : va_E := .inl (g.2 3, 4, .inr (.inr (.inr (.inr f))))
def sys (g : KG) (b : Nat) (hsn : Int32) (hm r : Nat) (dv : Nat → DV) (H : Heap) : Prop :=
  cA1 g b (rooC b hsn) H ∧ cA1 g (b + 64) (hisC b hm) H ∧ cA1 g (b + 65) (staC g (sta b r)) H ∧ ∀ j, j < 7 → dk g (b + adr j) (dv j) H
theorem adr_dis : ∀ i, i < 7 → ∀ j, j < 7 → i ≠ j → (adr i + 21 ≤ adr j ∨ adr j + 21 ≤ adr i) := by decide
theorem adr_in : ∀ j, j < 7 → 1 ≤ adr j ∧ adr j + 21 ≤ 150 ∧ (adr j + 21 ≤ 64 ∨ 66 ≤ adr j) := by decide
theorem adr_no {b i j : Nat} (hi : i < 7) (hj : j < 7) (h : i ≠ j) : ∀ q, iv (b + adr i) 21 q → ¬ iv (b + adr j) 21 q := by
  intro q h1 h2
  have := adr_dis i hi j hj h
  unfold iv at h1 h2
  omega
theorem adr_iv {b j : Nat} (hj : j < 7) : ∀ q, iv (b + adr j) 21 q → iv b 152 q := by
  intro q h
  have := adr_in j hj
  unfold iv at *
  omega
theorem sys.kept {g : KG} {b : Nat} {hsn : Int32} {hm r : Nat} {dv : Nat → DV} {H H1 : Heap} (h : sys g b hsn hm r dv H) (hq : ∀ q, iv b 152 q → H1[q]? = H[q]?) : sys g b hsn hm r dv H1 :=
  ⟨h.1.kept (hq b ⟨Nat.le_refl _, by omega⟩), h.2.1.kept (hq (b + 64) (ivm 64 (by decide))), h.2.2.1.kept (hq (b + 65) (ivm 65 (by decide))), fun j hj => (h.2.2.2 j hj).kept (fun q hz => hq q (adr_iv hj q hz))⟩
theorem sys.fr {g : KG} {b : Nat} {hsn : Int32} {hm r : Nat} {dv : Nat → DV} {H H1 : Heap} (h : sys g b hsn hm r dv H) {A1 : Nat → Prop} (hf : ∀ q : Nat, q < H.size → ¬ A1 q → H1[q]? = H[q]?) (hA : ∀ q, iv b 150 q → ¬ A1 q) : sys g b hsn hm r dv H1 := by
  have l1 : b + 129 + 20 < H.size := (h.2.2.2 6 (by decide)).lt
  refine ⟨h.1.kept (hf b (by omega) (hA _ ⟨Nat.le_refl _, by omega⟩)), h.2.1.kept (hf (b + 64) (by omega) (hA _ (ivm 64 (by decide)))), h.2.2.1.kept (hf (b + 65) (by omega) (hA _ (ivm 65 (by decide)))), fun j hj => (h.2.2.2 j hj).kept (fun q hz => ?_)⟩
  have := adr_in j hj
  unfold iv at hz
  exact hf q (by omega) (hA q ⟨by omega, by omega⟩)
/-- one of the seven desks is another one now -/
theorem sys.put {g : KG} {b : Nat} {hsn : Int32} {hm r : Nat} {dv : Nat → DV} {H H1 : Heap} (j : Nat) (hj : j < 7) (h : sys g b hsn hm r dv H) {d : DV} (hd : dk g (b + adr j) d H1) (hf : ∀ q : Nat, q < H.size → ¬ iv (b + adr j) 21 q → H1[q]? = H[q]?) : sys g b hsn hm r (va_up dv j d) H1 := by
  have l1 : b + 129 + 20 < H.size := (h.2.2.2 6 (by decide)).lt
  have ha := adr_in j hj
  refine ⟨h.1.kept (hf b (by omega) (fun z => by unfold iv at z; omega)), h.2.1.kept (hf (b + 64) (by omega) (fun z => by unfold iv at z; omega)), h.2.2.1.kept (hf (b + 65) (by omega) (fun z => by unfold iv at z; omega)), fun i hi => ?_⟩
  unfold va_up
  by_cases hij : i = j
  · subst hij; rw [if_pos rfl]; exact hd
  · rw [if_neg hij]
    refine (h.2.2.2 i hi).kept (fun q hz => ?_)
    have := adr_in i hi
    exact hf q (by unfold iv at hz; omega) (adr_no hi hj hij q hz)
theorem sys.put1 {g : KG} {b : Nat} {hsn : Int32} {hm r : Nat} {dv : Nat → DV} {H H1 : Heap} (j : Nat) (hj : j < 7) (h : sys g b hsn hm r dv H) {d : DV} {x : Nat} (hd : dk g (b + adr j) d H1) (o : ∀ q : Nat, q ≠ x → H1[q]? = H[q]?) (hx : iv (b + adr j) 21 x) : sys g b hsn hm r (va_up dv j d) H1 := h.put j hj hd (fun q _ hz => o q (fun e => hz (e ▸ hx)))
theorem sys.many {g : KG} {b : Nat} {hsn : Int32} {hm hm1 r : Nat} {dv : Nat → DV} {H H1 : Heap} (h : sys g b hsn hm r dv H) (h1 : cA1 g (b + 64) (hisC b hm1) H1) (o : ∀ q : Nat, q ≠ b + 64 → H1[q]? = H[q]?) : sys g b hsn hm1 r dv H1 :=
  ⟨h.1.kept (o b (by omega)), h1, h.2.2.1.kept (o (b + 65) (by omega)), fun j hj => (h.2.2.2 j hj).off o (by have := adr_in j hj; unfold iv; omega)⟩
theorem sys.snap {g : KG} {b : Nat} {hsn hsn1 : Int32} {hm r : Nat} {dv : Nat → DV} {H H1 : Heap} (h : sys g b hsn hm r dv H) (h1 : cA1 g b (rooC b hsn1) H1) (o : ∀ q : Nat, q ≠ b → H1[q]? = H[q]?) : sys g b hsn1 hm r dv H1 :=
  ⟨h1, h.2.1.kept (o (b + 64) (by omega)), h.2.2.1.kept (o (b + 65) (by omega)), fun j hj => (h.2.2.2 j hj).off o (by have := adr_in j hj; unfold iv; omega)⟩
theorem staC_same {g : KG} {q : Nat} {f f2 : Nat → Option Nat} {H : Heap} (h : cA1 g q (staC g f) H) (e : ∀ j, j < 4 → f j = f2 j) : cA1 g q (staC g f2) H := by
  have h1 : H[q]? = some (vp_cell (g.2 3) (4, .inr (.inr (.inr (.inr f))))) := h
  show H[q]? = some (vp_cell (g.2 3) (4, .inr (.inr (.inr (.inr f2)))))
  rw [h1, vp_cell_q, vp_cell_q]
  exact congrArg some (arrV_same _ _ (fun j hj => by rw [e j hj]))
theorem sta_rot (b r : Nat) : ∀ j, j < 4 → va_up (va_up (va_up (va_up (sta b r) 0 (some (b + adr (3 + (r + 1) % 4)))) 1 (some (b + adr (3 + (r + 2) % 4)))) 2 (some (b + adr (3 + (r + 3) % 4)))) 3 (some (b + adr (3 + (r + 0) % 4))) j = sta b ((r + 1) % 4) j := by
  intro j hj
  match j, hj with
  | 0, _ => show some (b + adr (3 + (r + 1) % 4)) = some (b + adr (3 + ((r + 1) % 4 + 0) % 4)); rw [show ((r + 1) % 4 + 0) % 4 = (r + 1) % 4 by omega]
  | 1, _ => show some (b + adr (3 + (r + 2) % 4)) = some (b + adr (3 + ((r + 1) % 4 + 1) % 4)); rw [show ((r + 1) % 4 + 1) % 4 = (r + 2) % 4 by omega]
  | 2, _ => show some (b + adr (3 + (r + 3) % 4)) = some (b + adr (3 + ((r + 1) % 4 + 2) % 4)); rw [show ((r + 1) % 4 + 2) % 4 = (r + 3) % 4 by omega]
  | 3, _ => show some (b + adr (3 + (r + 0) % 4)) = some (b + adr (3 + ((r + 1) % 4 + 3) % 4)); rw [show ((r + 1) % 4 + 3) % 4 = (r + 0) % 4 by omega]
  | n + 4, hj => exact absurd hj (by omega)
def rcM (hm : Nat) : Nat := if hm < 4 then hm + 1 else 4
def rcR (hm r : Nat) : Nat := if hm < 4 then r else (r + 1) % 4
def rcD (hm r : Nat) (dv : Nat → DV) : Nat → DV := if hm < 4 then va_up dv (3 + (r + hm) % 4) (dv 0) else va_up dv (3 + ((r + 1) % 4 + 3) % 4) (dv 0)
def rm_X3_dropOldest : Room := { frames := 0, cells := 0, slots := 0, locals := 0 }
set_option maxRecDepth 100000 in
set_option maxHeartbeats 4000000 in
theorem c_X3_dropOldest (g : KG) (B0 : Nat) (l : Launch) (b : Nat) (hsn : Int32) (hm r : Nat) (dv : Nat → DV) : Mt g B0 l yX3_dropOldest cX3_dropOldest 3 none rm_X3_dropOldest [.ref (b + 64)] (iv b 152) (sys g b hsn hm r dv) none (sys g b hsn 3 ((r + 1) % 4) dv) 0 0 := by
  refine Mt_of RX3 (by decide) rfl [(0, .ref (b + 64))] rfl (Nat.le_of_ble_eq_true rfl) ?_
  intro pr e s m args below meth c C hr hin hd
  obtain ⟨hro, hhi, hst, hdk⟩ := hd
  refine y_aload_n C 0 dX3_dropOldest_0 rfl rfl ?_
  refine y_get3 C hhi 1 (by decide) q83 rfl rfl dX3_dropOldest_1 ?_
  refine y_iconst C (0) dX3_dropOldest_4 (by decide) ?_
  refine y_aald C hst 0 rfl (by decide) (by decide) (v := .ref (b + adr (3 + (r + 0) % 4))) rfl dX3_dropOldest_5 ?_
  refine y_astore_n C dX3_dropOldest_6 rfl (by decide) rfl ?_
  refine y_iconst C (1) dX3_dropOldest_7 (by decide) ?_
  refine y_istore_n C dX3_dropOldest_8 rfl (by decide) rfl ?_
  refine y_iload_n C 0 dX3_dropOldest_9 rfl rfl ?_
  refine y_iconst C (4) dX3_dropOldest_10 (by decide) ?_
  refine y_icmp_ge C 34 dX3_dropOldest_11 (by decide) (fun h => absurd h (by decide)) (fun _ => ?_)
  refine y_aload_n C 2 dX3_dropOldest_14 rfl rfl ?_
  refine y_get3 C hhi 1 (by decide) q83 rfl rfl dX3_dropOldest_15 ?_
  refine y_iload_n C 0 dX3_dropOldest_18 rfl rfl ?_
  refine y_iconst C (1) dX3_dropOldest_19 (by decide) ?_
  refine y_isub C dX3_dropOldest_20 ?_
  refine y_aload_n C 2 dX3_dropOldest_21 rfl rfl ?_
  refine y_get3 C hhi 1 (by decide) q83 rfl rfl dX3_dropOldest_22 ?_
  refine y_iload_n C 0 dX3_dropOldest_25 rfl rfl ?_
  refine y_aald C hst 1 (by decide) (by decide) (by decide) (v := .ref (b + adr (3 + (r + 1) % 4))) rfl dX3_dropOldest_26 ?_
  refine y_aast C hst (dk_0 (hdk (3 + (r + 1) % 4) (by omega))) (ivm 65 (by decide)) 0 (by decide) (by decide) (by decide) dX3_dropOldest_27 (fun H hst ow1 zw1 => ?_)
  have hro := va_at.kept hro (ow1 b (by omega))
  have hhi := va_at.kept hhi (ow1 (b + 64) (by omega))
  have hdk := fun j (hj : j < 7) => (hdk j hj).off ow1 (by have := adr_in j hj; unfold iv; omega)
  refine y_iinc C 0 (nI (1 + 1)) dX3_dropOldest_28 rfl (by decide) (by decide) rfl ?_
  refine y_goto C 9 dX3_dropOldest_31 (by decide) ?_
  refine y_iload_n C 0 dX3_dropOldest_9 rfl rfl ?_
  refine y_iconst C (4) dX3_dropOldest_10 (by decide) ?_
  refine y_icmp_ge C 34 dX3_dropOldest_11 (by decide) (fun h => absurd h (by decide)) (fun _ => ?_)
  refine y_aload_n C 2 dX3_dropOldest_14 rfl rfl ?_
  refine y_get3 C hhi 1 (by decide) q83 rfl rfl dX3_dropOldest_15 ?_
  refine y_iload_n C 0 dX3_dropOldest_18 rfl rfl ?_
  refine y_iconst C (1) dX3_dropOldest_19 (by decide) ?_
  refine y_isub C dX3_dropOldest_20 ?_
  refine y_aload_n C 2 dX3_dropOldest_21 rfl rfl ?_
  refine y_get3 C hhi 1 (by decide) q83 rfl rfl dX3_dropOldest_22 ?_
  refine y_iload_n C 0 dX3_dropOldest_25 rfl rfl ?_
  refine y_aald C hst 2 (by decide) (by decide) (by decide) (v := .ref (b + adr (3 + (r + 2) % 4))) rfl dX3_dropOldest_26 ?_
  refine y_aast C hst (dk_0 (hdk (3 + (r + 2) % 4) (by omega))) (ivm 65 (by decide)) 1 (by decide) (by decide) (by decide) dX3_dropOldest_27 (fun H hst ow1 zw1 => ?_)
  have hro := va_at.kept hro (ow1 b (by omega))
  have hhi := va_at.kept hhi (ow1 (b + 64) (by omega))
  have hdk := fun j (hj : j < 7) => (hdk j hj).off ow1 (by have := adr_in j hj; unfold iv; omega)
  refine y_iinc C 0 (nI (2 + 1)) dX3_dropOldest_28 rfl (by decide) (by decide) rfl ?_
  refine y_goto C 9 dX3_dropOldest_31 (by decide) ?_
  refine y_iload_n C 0 dX3_dropOldest_9 rfl rfl ?_
  refine y_iconst C (4) dX3_dropOldest_10 (by decide) ?_
  refine y_icmp_ge C 34 dX3_dropOldest_11 (by decide) (fun h => absurd h (by decide)) (fun _ => ?_)
  refine y_aload_n C 2 dX3_dropOldest_14 rfl rfl ?_
  refine y_get3 C hhi 1 (by decide) q83 rfl rfl dX3_dropOldest_15 ?_
  refine y_iload_n C 0 dX3_dropOldest_18 rfl rfl ?_
  refine y_iconst C (1) dX3_dropOldest_19 (by decide) ?_
  refine y_isub C dX3_dropOldest_20 ?_
  refine y_aload_n C 2 dX3_dropOldest_21 rfl rfl ?_
  refine y_get3 C hhi 1 (by decide) q83 rfl rfl dX3_dropOldest_22 ?_
  refine y_iload_n C 0 dX3_dropOldest_25 rfl rfl ?_
  refine y_aald C hst 3 (by decide) (by decide) (by decide) (v := .ref (b + adr (3 + (r + 3) % 4))) rfl dX3_dropOldest_26 ?_
  refine y_aast C hst (dk_0 (hdk (3 + (r + 3) % 4) (by omega))) (ivm 65 (by decide)) 2 (by decide) (by decide) (by decide) dX3_dropOldest_27 (fun H hst ow1 zw1 => ?_)
  have hro := va_at.kept hro (ow1 b (by omega))
  have hhi := va_at.kept hhi (ow1 (b + 64) (by omega))
  have hdk := fun j (hj : j < 7) => (hdk j hj).off ow1 (by have := adr_in j hj; unfold iv; omega)
  refine y_iinc C 0 (nI (3 + 1)) dX3_dropOldest_28 rfl (by decide) (by decide) rfl ?_
  refine y_goto C 9 dX3_dropOldest_31 (by decide) ?_
  refine y_iload_n C 0 dX3_dropOldest_9 rfl rfl ?_
  refine y_iconst C (4) dX3_dropOldest_10 (by decide) ?_
  refine y_icmp_ge C 34 dX3_dropOldest_11 (by decide) (fun _ => ?_) (fun h => absurd (by decide) h)
  refine y_aload_n C 2 dX3_dropOldest_34 rfl rfl ?_
  refine y_get3 C hhi 1 (by decide) q83 rfl rfl dX3_dropOldest_35 ?_
  refine y_iconst C (3) dX3_dropOldest_38 (by decide) ?_
  refine y_aload_n C 1 dX3_dropOldest_39 rfl rfl ?_
  refine y_aast C hst (dk_0 (hdk (3 + (r + 0) % 4) (by omega))) (ivm 65 (by decide)) 3 rfl (by decide) (by decide) dX3_dropOldest_40 (fun H hst ow1 zw1 => ?_)
  have hro := va_at.kept hro (ow1 b (by omega))
  have hhi := va_at.kept hhi (ow1 (b + 64) (by omega))
  have hdk := fun j (hj : j < 7) => (hdk j hj).off ow1 (by have := adr_in j hj; unfold iv; omega)
  refine y_aload_n C 2 dX3_dropOldest_41 rfl rfl ?_
  refine y_iconst C (3) dX3_dropOldest_42 (by decide) ?_
  refine y_put3 C hhi (ivm 64 (by decide)) 0 (by decide) q81 rfl rfl (ty := .int) (by decide +kernel) rfl rfl (Nat.le_of_ble_eq_true rfl) dX3_dropOldest_43 (fun H hw1 ow1 zw1 => ?_)
  have hro := va_at.kept hro (ow1 b (by omega))
  have hst := va_at.kept hst (ow1 (b + 65) (by omega))
  have hdk := fun j (hj : j < 7) => (hdk j hj).off ow1 (by have := adr_in j hj; unfold iv; omega)
  exact y_vret C hr ⟨hro, hw1, staC_same hst (sta_rot b r), hdk⟩ dX3_dropOldest_46
def rm_X3_record : Room := { frames := 3, cells := 0, slots := 0, locals := 60 }
set_option maxRecDepth 100000 in
set_option maxHeartbeats 4000000 in
theorem c_X3_record (g : KG) (B0 : Nat) (l : Launch) (b : Nat) (hsn : Int32) (hm r : Nat) (dv : Nat → DV) (hm4 : hm ≤ 4) : Mt g B0 l yX3_record cX3_record 2 none rm_X3_record [.ref (b + 64), .ref (b + 1)] (iv b 152) (sys g b hsn hm r dv) none (sys g b hsn (rcM hm) (rcR hm r) (rcD hm r dv)) 0 0 := by
  refine Mt_of RX3 (by decide) rfl [(0, .ref (b + 64)), (1, .ref (b + 1))] rfl (Nat.le_of_ble_eq_true rfl) ?_
  intro pr e s m args below meth c C hr hin hd
  have hs := hd
  rcases Nat.lt_or_ge hm 4 with hq | hq
  · refine y_aload_n C 0 dX3_record_0 rfl rfl ?_
    refine y_get3 C hs.2.1 0 (by decide) q81 rfl rfl dX3_record_1 ?_
    refine y_iconst C (4) dX3_record_4 (by decide) ?_
    refine y_icmp_lt C 12 dX3_record_5 (by decide) (fun _ => ?_) (fun h => absurd (lt_t rfl rfl hq (by decide)) h)
    refine y_aload_n C 0 dX3_record_12 rfl rfl ?_
    refine y_get3 C hs.2.1 1 (by decide) q83 rfl rfl dX3_record_13 ?_
    refine y_aload_n C 0 dX3_record_16 rfl rfl ?_
    refine y_get3 C hs.2.1 0 (by decide) q81 rfl rfl dX3_record_17 ?_
    refine y_aald C hs.2.2.1 hm rfl hq (by decide) (v := .ref (b + adr (3 + (r + hm) % 4))) rfl dX3_record_20 ?_
    refine y_aload_n C 1 dX3_record_21 rfl rfl ?_
    refine y_callV C [.ref (b + 1)] (c_X2_copyFrom g B0 l (b + adr (3 + (r + hm) % 4)) (b + adr 0) (dv (3 + (r + hm) % 4)) (dv 0) (adr_no (by first | decide | omega) (by first | decide | omega) (by omega))) RX2 1 (wVin q278 q145 q146 q11 q147) hy_X2_copyFrom ⟨(Nat.le_of_ble_eq_true rfl), (Nat.le_of_ble_eq_true rfl)⟩ ⟨rfl, rfl⟩ (rcv C.2.2.2.2.2.1 (dk_0 (hs.2.2.2 (3 + (r + hm) % 4) (by first | decide | omega))) rfl) ⟨hs.2.2.2 (3 + (r + hm) % 4) (by first | decide | omega), hs.2.2.2 0 (by first | decide | omega)⟩ (adr_iv (by first | decide | omega)) rfl rfl (Nat.le_of_ble_eq_true rfl) dX3_record_22 ⟨(Nat.le_of_ble_eq_true rfl), (Nat.le_of_ble_eq_true rfl)⟩ rfl (fun H hp hz hf => ?_)
    have hs := hs.put (3 + (r + hm) % 4) (by first | decide | omega) hp.1 hf
    refine y_aload_n C 0 dX3_record_25 rfl rfl ?_
    refine y_dup C dX3_record_26 rfl ?_
    refine y_get3 C hs.2.1 0 (by decide) q81 rfl rfl dX3_record_27 ?_
    refine y_iconst C (1) dX3_record_30 (by decide) ?_
    refine y_iadd C dX3_record_31 ?_
    refine y_top (nI_1 _) ?_
    refine y_put3 C hs.2.1 (ivm 64 (by decide)) 0 (by decide) q81 rfl rfl (ty := .int) (by decide +kernel) rfl rfl (Nat.le_of_ble_eq_true rfl) dX3_record_32 (fun H hw1 ow1 zw1 => ?_)
    have hs := hs.many (hm1 := (hm + 1)) hw1 ow1
    exact y_vret C hr (by rw [rcM, rcR, rcD, if_pos hq, if_pos hq, if_pos hq]; exact hs) dX3_record_35
  · refine y_aload_n C 0 dX3_record_0 rfl rfl ?_
    refine y_get3 C hs.2.1 0 (by decide) q81 rfl rfl dX3_record_1 ?_
    refine y_iconst C (4) dX3_record_4 (by decide) ?_
    refine y_icmp_lt C 12 dX3_record_5 (by decide) (fun h => absurd h (lt_f rfl rfl hq (by omega))) (fun _ => ?_)
    refine y_aload_n C 0 dX3_record_8 rfl rfl ?_
    refine y_callV C [] (c_X3_dropOldest g B0 l b hsn hm r dv) RX3 0 (wVin q274 q275 q276 q18 q277) hy_X3_dropOldest ⟨(Nat.le_of_ble_eq_true rfl), (Nat.le_of_ble_eq_true rfl)⟩ ⟨rfl, rfl⟩ (rcv C.2.2.2.2.2.1 hs.2.1 rfl) hs (fun _ h => h) rfl rfl (Nat.le_of_ble_eq_true rfl) dX3_record_9 ⟨(Nat.le_of_ble_eq_true rfl), (Nat.le_of_ble_eq_true rfl)⟩ rfl (fun H hp hz hf => ?_)
    have hs := hp
    refine y_aload_n C 0 dX3_record_12 rfl rfl ?_
    refine y_get3 C hs.2.1 1 (by decide) q83 rfl rfl dX3_record_13 ?_
    refine y_aload_n C 0 dX3_record_16 rfl rfl ?_
    refine y_get3 C hs.2.1 0 (by decide) q81 rfl rfl dX3_record_17 ?_
    refine y_aald C hs.2.2.1 3 rfl (by decide) (by decide) (v := .ref (b + adr (3 + (((r + 1) % 4) + 3) % 4))) rfl dX3_record_20 ?_
    refine y_aload_n C 1 dX3_record_21 rfl rfl ?_
    refine y_callV C [.ref (b + 1)] (c_X2_copyFrom g B0 l (b + adr (3 + (((r + 1) % 4) + 3) % 4)) (b + adr 0) (dv (3 + (((r + 1) % 4) + 3) % 4)) (dv 0) (adr_no (by first | decide | omega) (by first | decide | omega) (by omega))) RX2 1 (wVin q278 q145 q146 q11 q147) hy_X2_copyFrom ⟨(Nat.le_of_ble_eq_true rfl), (Nat.le_of_ble_eq_true rfl)⟩ ⟨rfl, rfl⟩ (rcv C.2.2.2.2.2.1 (dk_0 (hs.2.2.2 (3 + (((r + 1) % 4) + 3) % 4) (by first | decide | omega))) rfl) ⟨hs.2.2.2 (3 + (((r + 1) % 4) + 3) % 4) (by first | decide | omega), hs.2.2.2 0 (by first | decide | omega)⟩ (adr_iv (by first | decide | omega)) rfl rfl (Nat.le_of_ble_eq_true rfl) dX3_record_22 ⟨(Nat.le_of_ble_eq_true rfl), (Nat.le_of_ble_eq_true rfl)⟩ rfl (fun H hp hz hf => ?_)
    have hs := hs.put (3 + (((r + 1) % 4) + 3) % 4) (by first | decide | omega) hp.1 hf
    refine y_aload_n C 0 dX3_record_25 rfl rfl ?_
    refine y_dup C dX3_record_26 rfl ?_
    refine y_get3 C hs.2.1 0 (by decide) q81 rfl rfl dX3_record_27 ?_
    refine y_iconst C (1) dX3_record_30 (by decide) ?_
    refine y_iadd C dX3_record_31 ?_
    refine y_top (nI_1 _) ?_
    refine y_put3 C hs.2.1 (ivm 64 (by decide)) 0 (by decide) q81 rfl rfl (ty := .int) (by decide +kernel) rfl rfl (Nat.le_of_ble_eq_true rfl) dX3_record_32 (fun H hw1 ow1 zw1 => ?_)
    have hs := hs.many (hm1 := (3 + 1)) hw1 ow1
    exact y_vret C hr (by rw [rcM, rcR, rcD, if_neg (Nat.not_lt.mpr hq), if_neg (Nat.not_lt.mpr hq), if_neg (Nat.not_lt.mpr hq)]; exact hs) dX3_record_35
def rm_X3_giveBack : Room := { frames := 3, cells := 0, slots := 0, locals := 60 }
set_option maxRecDepth 100000 in
set_option maxHeartbeats 4000000 in
theorem c_X3_giveBack (g : KG) (B0 : Nat) (l : Launch) (b : Nat) (hsn : Int32) (hm r : Nat) (dv : Nat → DV) (hm4 : hm ≤ 4) (hm0 : 0 < hm) : Mt g B0 l yX3_giveBack cX3_giveBack 2 none rm_X3_giveBack [.ref (b + 64), .ref (b + 1)] (iv b 152) (sys g b hsn hm r dv) none (sys g b hsn (hm - 1) r (va_up dv 0 (dv (3 + (r + (hm - 1)) % 4)))) 0 0 := by
  refine Mt_of RX3 (by decide) rfl [(0, .ref (b + 64)), (1, .ref (b + 1))] rfl (Nat.le_of_ble_eq_true rfl) ?_
  intro pr e s m args below meth c C hr hin hd
  have hs := hd
  refine y_aload_n C 0 dX3_giveBack_0 rfl rfl ?_
  refine y_get3 C hs.2.1 0 (by decide) q81 rfl rfl dX3_giveBack_1 ?_
  refine y_if_gt C 8 dX3_giveBack_4 (by decide) (fun _ => ?_) (fun h => absurd (nI_lt hm0 (by omega)) h)
  refine y_aload_n C 0 dX3_giveBack_8 rfl rfl ?_
  refine y_dup C dX3_giveBack_9 rfl ?_
  refine y_get3 C hs.2.1 0 (by decide) q81 rfl rfl dX3_giveBack_10 ?_
  refine y_iconst C (1) dX3_giveBack_13 (by decide) ?_
  refine y_isub C dX3_giveBack_14 ?_
  refine y_top (show nI hm - 1 = nI (hm - 1) from pk_sub (b := 1) hm0) ?_
  refine y_put3 C hs.2.1 (ivm 64 (by decide)) 0 (by decide) q81 rfl rfl (ty := .int) (by decide +kernel) rfl rfl (Nat.le_of_ble_eq_true rfl) dX3_giveBack_15 (fun H hw1 ow1 zw1 => ?_)
  have hs := hs.many (hm1 := (hm - 1)) hw1 ow1
  refine y_aload_n C 1 dX3_giveBack_18 rfl rfl ?_
  refine y_aload_n C 0 dX3_giveBack_19 rfl rfl ?_
  refine y_get3 C hs.2.1 1 (by decide) q83 rfl rfl dX3_giveBack_20 ?_
  refine y_aload_n C 0 dX3_giveBack_23 rfl rfl ?_
  refine y_get3 C hs.2.1 0 (by decide) q81 rfl rfl dX3_giveBack_24 ?_
  refine y_aald C hs.2.2.1 (hm - 1) rfl (by omega) (by decide) (v := .ref (b + adr (3 + (r + (hm - 1)) % 4))) rfl dX3_giveBack_27 ?_
  refine y_callV C [.ref (b + adr (3 + (r + (hm - 1)) % 4))] (c_X2_copyFrom g B0 l (b + adr 0) (b + adr (3 + (r + (hm - 1)) % 4)) (dv 0) (dv (3 + (r + (hm - 1)) % 4)) (adr_no (by first | decide | omega) (by first | decide | omega) (by omega))) RX2 1 (wVin q278 q145 q146 q11 q147) hy_X2_copyFrom ⟨(Nat.le_of_ble_eq_true rfl), (Nat.le_of_ble_eq_true rfl)⟩ ⟨rfl, rfl⟩ (rcv C.2.2.2.2.2.1 (dk_0 (hs.2.2.2 0 (by first | decide | omega))) rfl) ⟨hs.2.2.2 0 (by first | decide | omega), hs.2.2.2 (3 + (r + (hm - 1)) % 4) (by first | decide | omega)⟩ (adr_iv (by first | decide | omega)) rfl rfl (Nat.le_of_ble_eq_true rfl) dX3_giveBack_28 ⟨(Nat.le_of_ble_eq_true rfl), (Nat.le_of_ble_eq_true rfl)⟩ rfl (fun H hp hz hf => ?_)
  have hs := hs.put 0 (by first | decide | omega) hp.1 hf
  exact y_vret C hr hs dX3_giveBack_31
end
section
/-! THE CLASS: its calls over the whole -/
abbrev SV : Type := Int32 × Nat × Nat × (Nat → DV)
def sX (g : KG) (b : Nat) (X : SV) (H : Heap) : Prop := sys g b X.1 X.2.1 X.2.2.1 X.2.2.2 H
def sv (X : SV) : Prop := X.2.1 ≤ 4 ∧ ∀ j, j < 7 → sf (X.2.2.2 j) ∧ fr (X.2.2.2 j)
/-- the whole without its j-th desk -/
def sysO (j : Nat) (g : KG) (b : Nat) (X : SV) (H : Heap) : Prop :=
  cA1 g b (rooC b X.1) H ∧ cA1 g (b + 64) (hisC b X.2.1) H ∧ cA1 g (b + 65) (staC g (sta b X.2.2.1)) H ∧ ∀ i, i < 7 → i ≠ j → dk g (b + adr i) (X.2.2.2 i) H
theorem sX.d {g : KG} {b : Nat} {X : SV} {H : Heap} (h : sX g b X H) (j : Nat) (hj : j < 7) : dk g (b + adr j) (X.2.2.2 j) H := h.2.2.2 j hj
theorem sX.d0 {g : KG} {b : Nat} {X : SV} {H : Heap} (h : sX g b X H) : dk g (b + 1) (X.2.2.2 0) H := h.2.2.2 0 (by decide)
theorem sX.d1 {g : KG} {b : Nat} {X : SV} {H : Heap} (h : sX g b X H) : dk g (b + 22) (X.2.2.2 1) H := h.2.2.2 1 (by decide)
theorem sX.d2 {g : KG} {b : Nat} {X : SV} {H : Heap} (h : sX g b X H) : dk g (b + 43) (X.2.2.2 2) H := h.2.2.2 2 (by decide)
theorem sX.ex {g : KG} {b : Nat} {X : SV} {H : Heap} (j : Nat) (h : sX g b X H) : sysO j g b X H := ⟨h.1, h.2.1, h.2.2.1, fun i hi _ => h.2.2.2 i hi⟩
theorem sysO.cl {g : KG} {b : Nat} {X : SV} {H : Heap} {j : Nat} (h : sysO j g b X H) (hd : dk g (b + adr j) (X.2.2.2 j) H) : sX g b X H := ⟨h.1, h.2.1, h.2.2.1, fun i hi => if e : i = j then e ▸ hd else h.2.2.2 i hi e⟩
theorem sysO.cl0 {g : KG} {b : Nat} {X : SV} {H : Heap} (h : sysO 0 g b X H) (hd : dk g (b + 1) (X.2.2.2 0) H) : sX g b X H := h.cl hd
def stJ (j : Nat) (X : SV) (d : DV) : SV := (X.1, X.2.1, X.2.2.1, va_up X.2.2.2 j d)
theorem sysO.clJ {g : KG} {b : Nat} {X : SV} {H : Heap} {j : Nat} {d : DV} (h : sysO j g b X H) (hd : dk g (b + adr j) d H) : sX g b (stJ j X d) H := ⟨h.1, h.2.1, h.2.2.1, fun i hi => by
  show dk g (b + adr i) (va_up X.2.2.2 j d i) H
  unfold va_up
  by_cases e : i = j
  · rw [if_pos e, e]; exact hd
  · rw [if_neg e]; exact h.2.2.2 i hi e⟩
theorem sysO.fr {g : KG} {b : Nat} {X : SV} {H H1 : Heap} {j : Nat} (hj : j < 7) (h : sysO j g b X H) {A1 : Nat → Prop} (hf : ∀ q : Nat, q < H.size → ¬ A1 q → H1[q]? = H[q]?) (hA : ∀ q, A1 q → iv (b + adr j) 21 q) : sysO j g b X H1 := by
  have ha := adr_in j hj
  refine ⟨h.1.kept (hf b h.1.lt (fun z => by have := hA _ z; unfold iv at this; omega)), h.2.1.kept (hf (b + 64) h.2.1.lt (fun z => by have := hA _ z; unfold iv at this; omega)), h.2.2.1.kept (hf (b + 65) h.2.2.1.lt (fun z => by have := hA _ z; unfold iv at this; omega)), fun i hi e => ?_⟩
  refine (h.2.2.2 i hi e).kept (fun q hz => hf q ?_ (fun z => adr_no hi hj e q hz (hA q z)))
  have l1 := (h.2.2.2 i hi e).lt
  unfold iv at hz
  omega
theorem sysO.off {g : KG} {b x : Nat} {X : SV} {H H1 : Heap} {j : Nat} (hj : j < 7) (h : sysO j g b X H) (o : ∀ q : Nat, q ≠ x → H1[q]? = H[q]?) (hx : iv (b + adr j) 21 x) : sysO j g b X H1 := h.fr hj (A1 := iv (b + adr j) 21) (fun q _ hz => o q (fun e => hz (e ▸ hx))) (fun _ z => z)
def dsk (X : SV) : DV := X.2.2.2 0
def rcX (X : SV) : SV := (X.1, rcM X.2.1, rcR X.2.1 X.2.2.1, rcD X.2.1 X.2.2.1 X.2.2.2)
def acX (X : SV) (d : DV) : SV := stJ 0 (rcX X) d
theorem rcD_0 (hm r : Nat) (dv : Nat → DV) (j : Nat) (hj : j < 3) : rcD hm r dv j = dv j := by
  unfold rcD va_up
  split
  · exact if_neg (by omega)
  · exact if_neg (by omega)
theorem rcX_0 {g : KG} {b : Nat} {X : SV} {H : Heap} (h : sX g b (rcX X) H) : dk g (b + 1) (X.2.2.2 0) H := by
  have h0 := h.d0
  rw [show (rcX X).2.2.2 0 = X.2.2.2 0 from rcD_0 _ _ _ 0 (by decide)] at h0
  exact h0
def ixf (v n : Int32) : Int32 := if v < 0 then 0 else if n ≤ v then 0 else 1
def wif (v lo hi : Int32) : Int32 := if v < lo then 0 else if hi < v then 0 else 1
theorem ixf_t {k n : Nat} (h : k < n) (hn : n < 2 ^ 31) : ¬ ixf (nI k) (nI n) = 0 := by
  unfold ixf
  rw [if_neg (nI_pos (Nat.lt_trans h hn)), if_neg (nI_ge h hn)]
  decide
theorem ixf_f {k n : Nat} (h : n ≤ k) (hk : k < 2 ^ 31) : ixf (nI k) (nI n) = 0 := by
  unfold ixf
  rw [if_neg (nI_pos hk), if_pos (nI_le h hk)]
theorem ixf_lt {k n : Nat} (hk : k < 2 ^ 31) (h : ¬ ixf (nI k) (nI n) = 0) : k < n := Nat.lt_of_not_le (fun z => h (ixf_f z hk))
theorem wif_t {k lo hi : Nat} (h1 : lo ≤ k) (h2 : k ≤ hi) (hh : hi < 2 ^ 31) : ¬ wif (nI k) (nI lo) (nI hi) = 0 := by
  unfold wif
  rw [if_neg (nI_nlt h1 (by omega)), if_neg (nI_nlt h2 hh)]
  decide
def isS (X : SV) (k : Nat) : Int32 := ixf (nI k) ((dsk X).1 11 0)
theorem isS_lt {X : SV} (hv : sv X) {k : Nat} (hk : k < 2 ^ 31) (h : ¬ isS X k = 0) : k < nm (dsk X) := by
  unfold isS at h
  have e : (dsk X).1 11 0 = nI (nm (dsk X)) := (hv.2 0 (by decide)).1.2.1.1
  rw [e] at h
  exact ixf_lt hk h
theorem isS_t {X : SV} (hv : sv X) {k : Nat} (h : k < nm (dsk X)) : ¬ isS X k = 0 := by
  unfold isS
  have e : (dsk X).1 11 0 = nI (nm (dsk X)) := (hv.2 0 (by decide)).1.2.1.1
  have e2 : nm (dsk X) ≤ 20 := (hv.2 0 (by decide)).1.2.1.2
  rw [e]
  exact ixf_t h (by omega)
def rm_X6_isIndex : Room := { frames := 0, cells := 0, slots := 0, locals := 0 }
set_option maxRecDepth 100000 in
set_option maxHeartbeats 4000000 in
theorem c_X6_isIndex (g : KG) (B0 : Nat) (l : Launch) (v n : Int32) : Mt g B0 l yX6_isIndex cX6_isIndex 2 (some .boolean) rm_X6_isIndex [.int v, .int n] nF (fun _ => True) (some (.int (ixf v n))) (fun _ => True) 0 0 := by
  refine Mt_of RX6 (by decide) rfl [(0, .int v), (1, .int n)] rfl (Nat.le_of_ble_eq_true rfl) ?_
  intro pr e s m args below meth c C hr hin hd
  refine y_iload_n C 0 dX6_isIndex_0 rfl rfl ?_
  refine y_if_lt C 13 dX6_isIndex_1 (by decide) (fun h1 => ?_) (fun h1 => ?_)
  · refine y_iconst C (0) dX6_isIndex_13 (by decide) ?_
    exact y_zret C hr (by first | exact Or.inl rfl | exact Or.inr rfl) (by first | (rw [ixf, if_neg h1]; done) | (rw [ixf, if_pos h1]; done) | (rw [ixf]; done)) trivial dX6_isIndex_14
  · refine y_iload_n C 0 dX6_isIndex_4 rfl rfl ?_
    refine y_iload_n C 1 dX6_isIndex_5 rfl rfl ?_
    refine y_icmp_ge C 13 dX6_isIndex_6 (by decide) (fun h2 => ?_) (fun h2 => ?_)
    · refine y_iconst C (0) dX6_isIndex_13 (by decide) ?_
      exact y_zret C hr (by first | exact Or.inl rfl | exact Or.inr rfl) (by first | (rw [ixf, if_neg h1, if_neg h2]; done) | (rw [ixf, if_neg h1, if_pos h2]; done) | (rw [ixf, if_pos h1, if_neg h2]; done) | (rw [ixf, if_pos h1, if_pos h2]; done) | (rw [ixf, if_neg h1]; done) | (rw [ixf, if_pos h1]; done) | (rw [ixf]; done)) trivial dX6_isIndex_14
    · refine y_iconst C (1) dX6_isIndex_9 (by decide) ?_
      refine y_goto C 14 dX6_isIndex_10 (by decide) ?_
      exact y_zret C hr (by first | exact Or.inl rfl | exact Or.inr rfl) (by first | (rw [ixf, if_neg h1, if_neg h2]; done) | (rw [ixf, if_neg h1, if_pos h2]; done) | (rw [ixf, if_pos h1, if_neg h2]; done) | (rw [ixf, if_pos h1, if_pos h2]; done) | (rw [ixf, if_neg h1]; done) | (rw [ixf, if_pos h1]; done) | (rw [ixf]; done)) trivial dX6_isIndex_14
def rm_X6_isWithin : Room := { frames := 0, cells := 0, slots := 0, locals := 0 }
set_option maxRecDepth 100000 in
set_option maxHeartbeats 4000000 in
theorem c_X6_isWithin (g : KG) (B0 : Nat) (l : Launch) (v lo hi : Int32) : Mt g B0 l yX6_isWithin cX6_isWithin 3 (some .boolean) rm_X6_isWithin [.int v, .int lo, .int hi] nF (fun _ => True) (some (.int (wif v lo hi))) (fun _ => True) 0 0 := by
  refine Mt_of RX6 (by decide) rfl [(0, .int v), (1, .int lo), (2, .int hi)] rfl (Nat.le_of_ble_eq_true rfl) ?_
  intro pr e s m args below meth c C hr hin hd
  refine y_iload_n C 0 dX6_isWithin_0 rfl rfl ?_
  refine y_iload_n C 1 dX6_isWithin_1 rfl rfl ?_
  refine y_icmp_lt C 14 dX6_isWithin_2 (by decide) (fun h1 => ?_) (fun h1 => ?_)
  · refine y_iconst C (0) dX6_isWithin_14 (by decide) ?_
    exact y_zret C hr (by first | exact Or.inl rfl | exact Or.inr rfl) (by first | (rw [wif, if_neg h1]; done) | (rw [wif, if_pos h1]; done) | (rw [wif]; done)) trivial dX6_isWithin_15
  · refine y_iload_n C 0 dX6_isWithin_5 rfl rfl ?_
    refine y_iload_n C 2 dX6_isWithin_6 rfl rfl ?_
    refine y_icmp_gt C 14 dX6_isWithin_7 (by decide) (fun h2 => ?_) (fun h2 => ?_)
    · refine y_iconst C (0) dX6_isWithin_14 (by decide) ?_
      exact y_zret C hr (by first | exact Or.inl rfl | exact Or.inr rfl) (by first | (rw [wif, if_neg h1, if_neg h2]; done) | (rw [wif, if_neg h1, if_pos h2]; done) | (rw [wif, if_pos h1, if_neg h2]; done) | (rw [wif, if_pos h1, if_pos h2]; done) | (rw [wif, if_neg h1]; done) | (rw [wif, if_pos h1]; done) | (rw [wif]; done)) trivial dX6_isWithin_15
    · refine y_iconst C (1) dX6_isWithin_10 (by decide) ?_
      refine y_goto C 15 dX6_isWithin_11 (by decide) ?_
      exact y_zret C hr (by first | exact Or.inl rfl | exact Or.inr rfl) (by first | (rw [wif, if_neg h1, if_neg h2]; done) | (rw [wif, if_neg h1, if_pos h2]; done) | (rw [wif, if_pos h1, if_neg h2]; done) | (rw [wif, if_pos h1, if_pos h2]; done) | (rw [wif, if_neg h1]; done) | (rw [wif, if_pos h1]; done) | (rw [wif]; done)) trivial dX6_isWithin_15
def rm_X6_isSet : Room := { frames := 1, cells := 0, slots := 0, locals := 21 }
set_option maxRecDepth 100000 in
set_option maxHeartbeats 4000000 in
theorem c_X6_isSet (g : KG) (B0 : Nat) (l : Launch) (b : Nat) (X : SV) (hv : sv X) (k : Nat) : Mt g B0 l yX6_isSet cX6_isSet 2 (some .boolean) rm_X6_isSet [.ref b, .int (nI k)] (iv b 152) (sX g b X) (some (.int (isS X k))) (sX g b X) 0 0 := by
  refine Mt_of RX6 (by decide) rfl [(0, .ref b), (1, .int (nI k))] rfl (Nat.le_of_ble_eq_true rfl) ?_
  intro pr e s m args below meth c C hr hin hd
  have hO := hd.ex 0
  have h0 := hd.d0
  refine y_iload_n C 1 dX6_isSet_0 rfl rfl ?_
  refine y_aload_n C 0 dX6_isSet_1 rfl rfl ?_
  refine y_get6 C hO.1 0 (by decide) q12 rfl rfl dX6_isSet_2 ?_
  refine y_get2 C (dk_0 h0) 4 (by decide) q96 rfl rfl dX6_isSet_5 ?_
  refine y_get4 C (dk_11 h0) 0 (by decide) q98 rfl rfl dX6_isSet_8 ?_
  refine y_callS C [.int (nI k), .int ((X.2.2.2 0).1 11 0)] (c_X6_isIndex g B0 l (nI k) ((X.2.2.2 0).1 11 0)) 2 (wSin q141 q142 q2 q143) hs_X6_isIndex ⟨(Nat.le_of_ble_eq_true rfl), (Nat.le_of_ble_eq_true rfl)⟩ ⟨rfl, rfl⟩ trivial nF.no rfl rfl (Nat.le_of_ble_eq_true rfl) dX6_isSet_11 ⟨(Nat.le_of_ble_eq_true rfl), (Nat.le_of_ble_eq_true rfl)⟩ rfl (fun H hp hz hf => ?_)
  have h0 := h0.fr hf (fun _ _ z => z)
  have hO := hO.fr (j := 0) (by decide) hf nF.no
  exact y_zret C hr (by unfold ixf; split; exact Or.inl rfl; split; exact Or.inl rfl; exact Or.inr rfl) rfl (hO.cl0 h0) dX6_isSet_14
end
section
/-! THE ACTS -/
theorem nm_lt {d : DV} (h : sf d) {N : Nat} (hN : N < 2 ^ 31) (h1 : d.1 11 0 < nI N) : nm d < N := by
  rw [h.2.1.1] at h1
  exact (nI_ltI (by have := h.2.1.2; omega) hN).mp h1
theorem no_lt {d : DV} (h : sf d) {N : Nat} (hN : N < 2 ^ 31) (h1 : d.1 3 0 < nI N) : no d < N := by
  rw [h.1.1] at h1
  exact (nI_ltI (by have := h.1.2; omega) hN).mp h1
def aCome (X : SV) (f : Nat) : Int32 × SV := if (X.2.2.2 0).1 11 0 < 20 then (nI (nm (X.2.2.2 0)), acX X (adS (X.2.2.2 0) (nI f) ((X.2.2.2 0).1 0 0))) else (-3, X)
def aEst (X : SV) (k : Nat) : Int32 × SV := if isS X k = 0 then (-1, X) else if (X.2.2.2 0).1 18 k = 0 then (cost (X.2.2.2 0) (fl (X.2.2.2 0) k), acX X (dset (dset (X.2.2.2 0) 14 k (cost (X.2.2.2 0) (fl (X.2.2.2 0) k))) 18 k 1)) else (-4, X)
def aAns (X : SV) (k : Nat) (bb : Int32) : Int32 × SV := if isS X k = 0 then (-1, X) else if (X.2.2.2 0).1 18 k = 1 then ((dcd (X.2.2.2 0) k bb).1 18 k, acX X (dcd (X.2.2.2 0) k bb)) else (-4, X)
def aLend (X : SV) (k : Nat) : Int32 × SV := if isS X k = 0 then (-1, X) else if 4 ≤ (X.2.2.2 0).1 18 k then (-4, X) else if (X.2.2.2 0).1 17 k = 1 then (-4, X) else
  if 0 < lth (X.2.2.2 0) then (lth (dset (X.2.2.2 0) 17 k 1), acX X (dset (X.2.2.2 0) 17 k 1)) else (-3, X)
def aCol (X : SV) (k : Nat) : Int32 × SV := if isS X k = 0 then (-1, X) else if isR (X.2.2.2 0) k = 0 then (-4, X) else ((X.2.2.2 0).1 16 k + sfee (X.2.2.2 0) k, acX X (hov (X.2.2.2 0) k))
def aSetP (X : SV) (p price lead : Nat) : Int32 × SV := if (X.2.2.2 0).1 4 p = nI price then (if (X.2.2.2 0).1 5 p = nI lead then (-5, X) else ((X.2.2.2 0).1 4 p, acX X (dset (dset (X.2.2.2 0) 4 p (nI price)) 5 p (nI lead)))) else ((X.2.2.2 0).1 4 p, acX X (dset (dset (X.2.2.2 0) 4 p (nI price)) 5 p (nI lead)))
def aSetN2 (X : SV) (w v : Nat) : Int32 × SV := if (X.2.2.2 0).1 2 w = nI v then (-5, X) else ((X.2.2.2 0).1 2 w, acX X (dset (X.2.2.2 0) 2 w (nI v)))
def aSetN (X : SV) (w v : Nat) : Int32 × SV := if wif (nI v) (tLN w) (tHN w) = 0 then (-2, X) else if nI w = 4 then (if wlo (X.2.2.2 0) (nm (X.2.2.2 0)) ≤ nI v then aSetN2 X w v else (-4, X)) else aSetN2 X w v
def aOrd (X : SV) (p mm : Nat) : Int32 × SV := if (X.2.2.2 0).1 3 0 < 12 then ((X.2.2.2 0).1 0 0 + (X.2.2.2 0).1 5 p, acX X (ado (X.2.2.2 0) (nI p) (nI mm) ((X.2.2.2 0).1 0 0 + (X.2.2.2 0).1 5 p))) else (-3, X)
def ptD (d : DV) (p mm : Nat) : DV := rpa (dset d 6 p (d.1 6 p + nI mm))
def aPut (X : SV) (p mm : Nat) : Int32 × SV := if (X.2.2.2 0).1 6 p + nI mm ≤ 99 then ((ptD (X.2.2.2 0) p mm).1 6 p, acX X (ptD (X.2.2.2 0) p mm)) else (-3, X)
def aUndo (X : SV) : Int32 × SV := if 0 < nI X.2.1 then (nI (X.2.1 - 1), (X.1, X.2.1 - 1, X.2.2.1, va_up X.2.2.2 0 (X.2.2.2 (3 + (X.2.2.1 + (X.2.1 - 1)) % 4)))) else (-5, X)
def aKeep (X : SV) : Int32 × SV := ((X.2.2.2 0).1 0 0, (1, X.2.1, X.2.2.1, va_up X.2.2.2 2 (X.2.2.2 0)))
def aRest (X : SV) : Int32 × SV := if X.1 = 0 then (-5, X) else (((rcX X).2.2.2 2).1 0 0, acX X ((rcX X).2.2.2 2))
def pN (d : DV) : Nat → DV
  | 0 => d
  | n + 1 => psd (pN d n)
def aPass (X : SV) (n : Nat) : Int32 × SV := if (X.2.2.2 0).1 0 0 + nI n ≤ 9999 then ((pN (X.2.2.2 0) n).1 20 4 - (X.2.2.2 0).1 20 4, acX X (pN (X.2.2.2 0) n)) else (-4, X)
theorem sf_pN {d : DV} (h : sf d) : ∀ n, sf (pN d n)
  | 0 => h
  | n + 1 => sf_psd (sf_pN h n)
theorem pN_2 (d : DV) : ∀ n, (pN d n).2 = d.2
  | 0 => rfl
  | n + 1 => (psd_2 _).trans (pN_2 d n)
def rm_X6_come : Room := { frames := 4, cells := 0, slots := 0, locals := 81 }
set_option maxRecDepth 100000 in
set_option maxHeartbeats 4000000 in
theorem c_X6_come (g : KG) (B0 : Nat) (l : Launch) (b : Nat) (X : SV) (hv : sv X) (f : Nat) (hf0 : f < 5) : Mt g B0 l yX6_come cX6_come 2 (some .int) rm_X6_come [.ref b, .int (nI f)] (iv b 152) (sX g b X) (some (.int (aCome X f).1)) (sX g b (aCome X f).2) 0 0 := by
  refine Mt_of RX6 (by decide) rfl [(0, .ref b), (1, .int (nI f))] rfl (Nat.le_of_ble_eq_true rfl) ?_
  intro pr e s m args below meth c C hr hin hd
  have hO := hd.ex 0
  have h0 := hd.d0
  refine y_iload_n C 1 dX6_come_0 rfl rfl ?_
  refine y_iconst C (5) dX6_come_1 (by decide) ?_
  refine y_callS C [.int (nI f), .int (5 : Int32)] (c_X6_isIndex g B0 l (nI f) (5 : Int32)) 2 (wSin q141 q142 q2 q143) hs_X6_isIndex ⟨(Nat.le_of_ble_eq_true rfl), (Nat.le_of_ble_eq_true rfl)⟩ ⟨rfl, rfl⟩ trivial nF.no rfl rfl (Nat.le_of_ble_eq_true rfl) dX6_come_2 ⟨(Nat.le_of_ble_eq_true rfl), (Nat.le_of_ble_eq_true rfl)⟩ rfl (fun H hp hz hf => ?_)
  have h0 := h0.fr hf (fun _ _ z => z)
  have hO := hO.fr (j := 0) (by decide) hf nF.no
  refine y_if_ne C 10 dX6_come_5 (by decide) (fun _ => ?_) (fun h => absurd h (ixf_t (n := 5) hf0 (by decide)))
  refine y_aload_n C 0 dX6_come_10 rfl rfl ?_
  refine y_get6 C hO.1 0 (by decide) q12 rfl rfl dX6_come_11 ?_
  refine y_get2 C (dk_0 h0) 4 (by decide) q96 rfl rfl dX6_come_14 ?_
  refine y_get4 C (dk_11 h0) 0 (by decide) q98 rfl rfl dX6_come_17 ?_
  refine y_bipush C (20) dX6_come_20 (by decide) ?_
  refine y_icmp_lt C 28 dX6_come_22 (by decide) (fun h1 => ?_) (fun h1 => ?_)
  · refine y_aload_n C 0 dX6_come_28 rfl rfl ?_
    refine y_get6 C hO.1 4 (by decide) q19 rfl rfl dX6_come_29 ?_
    refine y_aload_n C 0 dX6_come_32 rfl rfl ?_
    refine y_get6 C hO.1 0 (by decide) q12 rfl rfl dX6_come_33 ?_
    refine y_callV C [.ref (b + 1)] (c_X3_record g B0 l b X.1 X.2.1 X.2.2.1 X.2.2.2 hv.1) RX3 1 (wVin q270 q271 q272 q18 q273) hy_X3_record ⟨(Nat.le_of_ble_eq_true rfl), (Nat.le_of_ble_eq_true rfl)⟩ ⟨rfl, rfl⟩ (rcv C.2.2.2.2.2.1 hO.2.1 rfl) (hO.cl0 h0) (fun _ h => h) rfl rfl (Nat.le_of_ble_eq_true rfl) dX6_come_36 ⟨(Nat.le_of_ble_eq_true rfl), (Nat.le_of_ble_eq_true rfl)⟩ rfl (fun H hp hz hf => ?_)
    have hO : sysO 0 g b (rcX X) H := sX.ex (X := rcX X) 0 hp
    have h0 := rcX_0 (X := X) hp
    refine y_aload_n C 0 dX6_come_39 rfl rfl ?_
    refine y_get6 C hO.1 0 (by decide) q12 rfl rfl dX6_come_40 ?_
    refine y_get2 C (dk_0 h0) 4 (by decide) q96 rfl rfl dX6_come_43 ?_
    refine y_iload_n C 1 dX6_come_46 rfl rfl ?_
    refine y_aload_n C 0 dX6_come_47 rfl rfl ?_
    refine y_get6 C hO.1 0 (by decide) q12 rfl rfl dX6_come_48 ?_
    refine y_get2 C (dk_0 h0) 0 (by decide) q97 rfl rfl dX6_come_51 ?_
    refine y_callV C [.int (nI f), .int ((X.2.2.2 0).1 0 0)] (c_X4_add g B0 l (b + 1) (X.2.2.2 0) (nI f) ((X.2.2.2 0).1 0 0) (hv.2 0 (by decide)).1 (nm_lt (hv.2 0 (by decide)).1 (N := 20) (by decide) h1)) RX4 2 (wVin q279 q280 q281 q43 q282) hy_X4_add ⟨(Nat.le_of_ble_eq_true rfl), (Nat.le_of_ble_eq_true rfl)⟩ ⟨rfl, rfl⟩ (rcv C.2.2.2.2.2.1 (dk_11 h0) rfl) h0 (adr_iv (j := 0) (by decide)) rfl rfl (Nat.le_of_ble_eq_true rfl) dX6_come_54 ⟨(Nat.le_of_ble_eq_true rfl), (Nat.le_of_ble_eq_true rfl)⟩ rfl (fun H hp hz hf => ?_)
    have h0 := hp
    have hO := hO.fr (j := 0) (by decide) hf (fun _ z => z)
    exact y_iret C hr (by first | (rw [aCome, if_neg h1]; done) | (rw [aCome, if_pos h1]; done) | (rw [aCome]; done)) (by first | (rw [aCome, if_neg h1]; first | exact hO.cl0 h0 | exact hO.clJ (j := 0) h0) | (rw [aCome, if_pos h1]; first | exact hO.cl0 h0 | exact hO.clJ (j := 0) h0) | (rw [aCome]; first | exact hO.cl0 h0 | exact hO.clJ (j := 0) h0)) dX6_come_57
  · refine y_bipush C (-3) dX6_come_25 (by decide) ?_
    exact y_iret C hr (by first | (rw [aCome, if_neg h1]; done) | (rw [aCome, if_pos h1]; done) | (rw [aCome]; done)) (by first | (rw [aCome, if_neg h1]; first | exact hO.cl0 h0 | exact hO.clJ (j := 0) h0) | (rw [aCome, if_pos h1]; first | exact hO.cl0 h0 | exact hO.clJ (j := 0) h0) | (rw [aCome]; first | exact hO.cl0 h0 | exact hO.clJ (j := 0) h0)) dX6_come_27
def rm_X6_estimate : Room := { frames := 4, cells := 0, slots := 0, locals := 81 }
set_option maxRecDepth 100000 in
set_option maxHeartbeats 4000000 in
theorem c_X6_estimate (g : KG) (B0 : Nat) (l : Launch) (b : Nat) (X : SV) (hv : sv X) (k : Nat) (hk31 : k < 2 ^ 31) : Mt g B0 l yX6_estimate cX6_estimate 3 (some .int) rm_X6_estimate [.ref b, .int (nI k)] (iv b 152) (sX g b X) (some (.int (aEst X k).1)) (sX g b (aEst X k).2) 0 0 := by
  refine Mt_of RX6 (by decide) rfl [(0, .ref b), (1, .int (nI k))] rfl (Nat.le_of_ble_eq_true rfl) ?_
  intro pr e s m args below meth c C hr hin hd
  have hO := hd.ex 0
  have h0 := hd.d0
  refine y_aload_n C 0 dX6_estimate_0 rfl rfl ?_
  refine y_iload_n C 1 dX6_estimate_1 rfl rfl ?_
  refine y_callV C [.int (nI k)] (c_X6_isSet g B0 l b X hv k) RX6 1 (wVin q137 q138 q139 q2 q140) hy_X6_isSet ⟨(Nat.le_of_ble_eq_true rfl), (Nat.le_of_ble_eq_true rfl)⟩ ⟨rfl, rfl⟩ (rcv C.2.2.2.2.2.1 hO.1 rfl) (hO.cl0 h0) (fun _ h => h) rfl rfl (Nat.le_of_ble_eq_true rfl) dX6_estimate_2 ⟨(Nat.le_of_ble_eq_true rfl), (Nat.le_of_ble_eq_true rfl)⟩ rfl (fun H hp hz hf => ?_)
  have hO := hp.ex 0
  have h0 := hp.d0
  refine y_if_ne C 10 dX6_estimate_5 (by decide) (fun h1 => ?_) (fun h1 => ?_)
  · have hkn : k < nm (X.2.2.2 0) := isS_lt hv hk31 h1
    refine y_aload_n C 0 dX6_estimate_10 rfl rfl ?_
    refine y_get6 C hO.1 0 (by decide) q12 rfl rfl dX6_estimate_11 ?_
    refine y_get2 C (dk_0 h0) 4 (by decide) q96 rfl rfl dX6_estimate_14 ?_
    refine y_get4 C (dk_11 h0) 7 (by decide) q136 rfl rfl dX6_estimate_17 ?_
    refine y_iload_n C 1 dX6_estimate_20 rfl rfl ?_
    refine y_iald C (dk_18 h0) k rfl (Nat.lt_of_lt_of_le hkn (hv.2 0 (by decide)).1.2.1.2) (by decide) dX6_estimate_21 ?_
    refine y_if_eq C 28 dX6_estimate_22 (by decide) (fun h2 => ?_) (fun h2 => ?_)
    · refine y_aload_n C 0 dX6_estimate_28 rfl rfl ?_
      refine y_get6 C hO.1 4 (by decide) q19 rfl rfl dX6_estimate_29 ?_
      refine y_aload_n C 0 dX6_estimate_32 rfl rfl ?_
      refine y_get6 C hO.1 0 (by decide) q12 rfl rfl dX6_estimate_33 ?_
      refine y_callV C [.ref (b + 1)] (c_X3_record g B0 l b X.1 X.2.1 X.2.2.1 X.2.2.2 hv.1) RX3 1 (wVin q270 q271 q272 q18 q273) hy_X3_record ⟨(Nat.le_of_ble_eq_true rfl), (Nat.le_of_ble_eq_true rfl)⟩ ⟨rfl, rfl⟩ (rcv C.2.2.2.2.2.1 hO.2.1 rfl) (hO.cl0 h0) (fun _ h => h) rfl rfl (Nat.le_of_ble_eq_true rfl) dX6_estimate_36 ⟨(Nat.le_of_ble_eq_true rfl), (Nat.le_of_ble_eq_true rfl)⟩ rfl (fun H hp hz hf => ?_)
      have hO : sysO 0 g b (rcX X) H := sX.ex (X := rcX X) 0 hp
      have h0 := rcX_0 (X := X) hp
      refine y_aload_n C 0 dX6_estimate_39 rfl rfl ?_
      refine y_get6 C hO.1 0 (by decide) q12 rfl rfl dX6_estimate_40 ?_
      refine y_aload_n C 0 dX6_estimate_43 rfl rfl ?_
      refine y_get6 C hO.1 0 (by decide) q12 rfl rfl dX6_estimate_44 ?_
      refine y_get2 C (dk_0 h0) 4 (by decide) q96 rfl rfl dX6_estimate_47 ?_
      refine y_get4 C (dk_11 h0) 1 (by decide) q287 rfl rfl dX6_estimate_50 ?_
      refine y_iload_n C 1 dX6_estimate_53 rfl rfl ?_
      refine y_iald C (dk_12 h0) k rfl (Nat.lt_of_lt_of_le hkn (hv.2 0 (by decide)).1.2.1.2) (by decide) dX6_estimate_54 ?_
      refine y_top ((hv.2 0 (by decide)).1.2.2.1 _ hkn).1 ?_
      refine y_callV C [.int (nI (fl (X.2.2.2 0) k))] (c_X2_costNow g B0 l (b + 1) (X.2.2.2 0) (fl (X.2.2.2 0) k) ((hv.2 0 (by decide)).1.2.2.1 _ hkn).2 (hv.2 0 (by decide)).2) RX2 1 (wVin q289 q244 q245 q11 q246) hy_X2_costNow ⟨(Nat.le_of_ble_eq_true rfl), (Nat.le_of_ble_eq_true rfl)⟩ ⟨rfl, rfl⟩ (rcv C.2.2.2.2.2.1 (dk_0 h0) rfl) h0 (adr_iv (j := 0) (by decide)) rfl rfl (Nat.le_of_ble_eq_true rfl) dX6_estimate_55 ⟨(Nat.le_of_ble_eq_true rfl), (Nat.le_of_ble_eq_true rfl)⟩ rfl (fun H hp hz hf => ?_)
      have h0 := hp
      have hO := hO.fr (j := 0) (by decide) hf (fun _ z => z)
      refine y_istore_n C dX6_estimate_58 rfl (by decide) rfl ?_
      refine y_aload_n C 1 dX6_estimate_59 rfl rfl ?_
      refine y_get6 C hO.1 0 (by decide) q12 rfl rfl dX6_estimate_60 ?_
      refine y_get2 C (dk_0 h0) 4 (by decide) q96 rfl rfl dX6_estimate_63 ?_
      refine y_get4 C (dk_11 h0) 3 (by decide) q288 rfl rfl dX6_estimate_66 ?_
      refine y_iload_n C 2 dX6_estimate_69 rfl rfl ?_
      refine y_iload_n C 0 dX6_estimate_70 rfl rfl ?_
      refine y_iast C (dk_14 h0) (adr_iv (j := 0) (by decide) _ (ivm 14 (by decide))) k rfl (Nat.lt_of_lt_of_le hkn (hv.2 0 (by decide)).1.2.1.2) (by decide) dX6_estimate_71 (fun H hw1 ow1 zw1 => ?_)
      have h0 := dk_set14 h0 hw1 ow1
      have hO := hO.off (j := 0) (by decide) ow1 (ivm 14 (by decide))
      refine y_aload_n C 1 dX6_estimate_72 rfl rfl ?_
      refine y_get6 C hO.1 0 (by decide) q12 rfl rfl dX6_estimate_73 ?_
      refine y_get2 C (dk_0 h0) 4 (by decide) q96 rfl rfl dX6_estimate_76 ?_
      refine y_get4 C (dk_11 h0) 7 (by decide) q136 rfl rfl dX6_estimate_79 ?_
      refine y_iload_n C 2 dX6_estimate_82 rfl rfl ?_
      refine y_iconst C (1) dX6_estimate_83 (by decide) ?_
      refine y_iast C (dk_18 h0) (adr_iv (j := 0) (by decide) _ (ivm 18 (by decide))) k rfl (Nat.lt_of_lt_of_le hkn (hv.2 0 (by decide)).1.2.1.2) (by decide) dX6_estimate_84 (fun H hw1 ow1 zw1 => ?_)
      have h0 := dk_set18 h0 hw1 ow1
      have hO := hO.off (j := 0) (by decide) ow1 (ivm 18 (by decide))
      refine y_iload_n C 0 dX6_estimate_85 rfl rfl ?_
      exact y_iret C hr (by first | (rw [aEst, if_neg h1, if_neg h2]; done) | (rw [aEst, if_neg h1, if_pos h2]; done) | (rw [aEst, if_pos h1, if_neg h2]; done) | (rw [aEst, if_pos h1, if_pos h2]; done) | (rw [aEst, if_neg h1]; done) | (rw [aEst, if_pos h1]; done) | (rw [aEst]; done)) (by first | (rw [aEst, if_neg h1, if_neg h2]; first | exact hO.cl0 h0 | exact hO.clJ (j := 0) h0) | (rw [aEst, if_neg h1, if_pos h2]; first | exact hO.cl0 h0 | exact hO.clJ (j := 0) h0) | (rw [aEst, if_pos h1, if_neg h2]; first | exact hO.cl0 h0 | exact hO.clJ (j := 0) h0) | (rw [aEst, if_pos h1, if_pos h2]; first | exact hO.cl0 h0 | exact hO.clJ (j := 0) h0) | (rw [aEst, if_neg h1]; first | exact hO.cl0 h0 | exact hO.clJ (j := 0) h0) | (rw [aEst, if_pos h1]; first | exact hO.cl0 h0 | exact hO.clJ (j := 0) h0) | (rw [aEst]; first | exact hO.cl0 h0 | exact hO.clJ (j := 0) h0)) dX6_estimate_86
    · refine y_bipush C (-4) dX6_estimate_25 (by decide) ?_
      exact y_iret C hr (by first | (rw [aEst, if_neg h1, if_neg h2]; done) | (rw [aEst, if_neg h1, if_pos h2]; done) | (rw [aEst, if_pos h1, if_neg h2]; done) | (rw [aEst, if_pos h1, if_pos h2]; done) | (rw [aEst, if_neg h1]; done) | (rw [aEst, if_pos h1]; done) | (rw [aEst]; done)) (by first | (rw [aEst, if_neg h1, if_neg h2]; first | exact hO.cl0 h0 | exact hO.clJ (j := 0) h0) | (rw [aEst, if_neg h1, if_pos h2]; first | exact hO.cl0 h0 | exact hO.clJ (j := 0) h0) | (rw [aEst, if_pos h1, if_neg h2]; first | exact hO.cl0 h0 | exact hO.clJ (j := 0) h0) | (rw [aEst, if_pos h1, if_pos h2]; first | exact hO.cl0 h0 | exact hO.clJ (j := 0) h0) | (rw [aEst, if_neg h1]; first | exact hO.cl0 h0 | exact hO.clJ (j := 0) h0) | (rw [aEst, if_pos h1]; first | exact hO.cl0 h0 | exact hO.clJ (j := 0) h0) | (rw [aEst]; first | exact hO.cl0 h0 | exact hO.clJ (j := 0) h0)) dX6_estimate_27
  · refine y_iconst C (-1) dX6_estimate_8 (by decide) ?_
    exact y_iret C hr (by first | (rw [aEst, if_neg h1]; done) | (rw [aEst, if_pos h1]; done) | (rw [aEst]; done)) (by first | (rw [aEst, if_neg h1]; first | exact hO.cl0 h0 | exact hO.clJ (j := 0) h0) | (rw [aEst, if_pos h1]; first | exact hO.cl0 h0 | exact hO.clJ (j := 0) h0) | (rw [aEst]; first | exact hO.cl0 h0 | exact hO.clJ (j := 0) h0)) dX6_estimate_9
def rm_X6_answer : Room := { frames := 5, cells := 0, slots := 0, locals := 108 }
set_option maxRecDepth 100000 in
set_option maxHeartbeats 4000000 in
theorem c_X6_answer (g : KG) (B0 : Nat) (l : Launch) (b : Nat) (X : SV) (hv : sv X) (k : Nat) (hk31 : k < 2 ^ 31) (bb : Int32) : Mt g B0 l yX6_answer cX6_answer 3 (some .int) rm_X6_answer [.ref b, .int (nI k), .int bb] (iv b 152) (sX g b X) (some (.int (aAns X k bb).1)) (sX g b (aAns X k bb).2) 0 0 := by
  refine Mt_of RX6 (by decide) rfl [(0, .ref b), (1, .int (nI k)), (2, .int bb)] rfl (Nat.le_of_ble_eq_true rfl) ?_
  intro pr e s m args below meth c C hr hin hd
  have hO := hd.ex 0
  have h0 := hd.d0
  refine y_aload_n C 0 dX6_answer_0 rfl rfl ?_
  refine y_iload_n C 1 dX6_answer_1 rfl rfl ?_
  refine y_callV C [.int (nI k)] (c_X6_isSet g B0 l b X hv k) RX6 1 (wVin q137 q138 q139 q2 q140) hy_X6_isSet ⟨(Nat.le_of_ble_eq_true rfl), (Nat.le_of_ble_eq_true rfl)⟩ ⟨rfl, rfl⟩ (rcv C.2.2.2.2.2.1 hO.1 rfl) (hO.cl0 h0) (fun _ h => h) rfl rfl (Nat.le_of_ble_eq_true rfl) dX6_answer_2 ⟨(Nat.le_of_ble_eq_true rfl), (Nat.le_of_ble_eq_true rfl)⟩ rfl (fun H hp hz hf => ?_)
  have hO := hp.ex 0
  have h0 := hp.d0
  refine y_if_ne C 10 dX6_answer_5 (by decide) (fun h1 => ?_) (fun h1 => ?_)
  · have hkn : k < nm (X.2.2.2 0) := isS_lt hv hk31 h1
    refine y_aload_n C 0 dX6_answer_10 rfl rfl ?_
    refine y_get6 C hO.1 0 (by decide) q12 rfl rfl dX6_answer_11 ?_
    refine y_get2 C (dk_0 h0) 4 (by decide) q96 rfl rfl dX6_answer_14 ?_
    refine y_get4 C (dk_11 h0) 7 (by decide) q136 rfl rfl dX6_answer_17 ?_
    refine y_iload_n C 1 dX6_answer_20 rfl rfl ?_
    refine y_iald C (dk_18 h0) k rfl (Nat.lt_of_lt_of_le hkn (hv.2 0 (by decide)).1.2.1.2) (by decide) dX6_answer_21 ?_
    refine y_iconst C (1) dX6_answer_22 (by decide) ?_
    refine y_icmp_eq C 29 dX6_answer_23 (by decide) (fun h2 => ?_) (fun h2 => ?_)
    · refine y_aload_n C 0 dX6_answer_29 rfl rfl ?_
      refine y_get6 C hO.1 4 (by decide) q19 rfl rfl dX6_answer_30 ?_
      refine y_aload_n C 0 dX6_answer_33 rfl rfl ?_
      refine y_get6 C hO.1 0 (by decide) q12 rfl rfl dX6_answer_34 ?_
      refine y_callV C [.ref (b + 1)] (c_X3_record g B0 l b X.1 X.2.1 X.2.2.1 X.2.2.2 hv.1) RX3 1 (wVin q270 q271 q272 q18 q273) hy_X3_record ⟨(Nat.le_of_ble_eq_true rfl), (Nat.le_of_ble_eq_true rfl)⟩ ⟨rfl, rfl⟩ (rcv C.2.2.2.2.2.1 hO.2.1 rfl) (hO.cl0 h0) (fun _ h => h) rfl rfl (Nat.le_of_ble_eq_true rfl) dX6_answer_37 ⟨(Nat.le_of_ble_eq_true rfl), (Nat.le_of_ble_eq_true rfl)⟩ rfl (fun H hp hz hf => ?_)
      have hO : sysO 0 g b (rcX X) H := sX.ex (X := rcX X) 0 hp
      have h0 := rcX_0 (X := X) hp
      refine y_aload_n C 0 dX6_answer_40 rfl rfl ?_
      refine y_get6 C hO.1 0 (by decide) q12 rfl rfl dX6_answer_41 ?_
      refine y_iload_n C 1 dX6_answer_44 rfl rfl ?_
      refine y_iload_n C 2 dX6_answer_45 rfl rfl ?_
      refine y_callV C [.int (nI k), .int bb] (c_X2_decide g B0 l (b + 1) (X.2.2.2 0) k bb (Nat.lt_of_lt_of_le hkn (hv.2 0 (by decide)).1.2.1.2) (hv.2 0 (by decide)).1) RX2 2 (wVin q294 q295 q296 q11 q297) hy_X2_decide ⟨(Nat.le_of_ble_eq_true rfl), (Nat.le_of_ble_eq_true rfl)⟩ ⟨rfl, rfl⟩ (rcv C.2.2.2.2.2.1 (dk_0 h0) rfl) h0 (adr_iv (j := 0) (by decide)) rfl rfl (Nat.le_of_ble_eq_true rfl) dX6_answer_46 ⟨(Nat.le_of_ble_eq_true rfl), (Nat.le_of_ble_eq_true rfl)⟩ rfl (fun H hp hz hf => ?_)
      have h0 := hp
      have hO := hO.fr (j := 0) (by decide) hf (fun _ z => z)
      refine y_aload_n C 0 dX6_answer_49 rfl rfl ?_
      refine y_get6 C hO.1 0 (by decide) q12 rfl rfl dX6_answer_50 ?_
      refine y_get2 C (dk_0 h0) 4 (by decide) q96 rfl rfl dX6_answer_53 ?_
      refine y_get4 C (dk_11 h0) 7 (by decide) q136 rfl rfl dX6_answer_56 ?_
      refine y_iload_n C 1 dX6_answer_59 rfl rfl ?_
      refine y_iald C (dk_18 h0) k rfl (Nat.lt_of_lt_of_le hkn (hv.2 0 (by decide)).1.2.1.2) (by decide) dX6_answer_60 ?_
      exact y_iret C hr (by first | (rw [aAns, if_neg h1, if_neg h2]; done) | (rw [aAns, if_neg h1, if_pos h2]; done) | (rw [aAns, if_pos h1, if_neg h2]; done) | (rw [aAns, if_pos h1, if_pos h2]; done) | (rw [aAns, if_neg h1]; done) | (rw [aAns, if_pos h1]; done) | (rw [aAns]; done)) (by first | (rw [aAns, if_neg h1, if_neg h2]; first | exact hO.cl0 h0 | exact hO.clJ (j := 0) h0) | (rw [aAns, if_neg h1, if_pos h2]; first | exact hO.cl0 h0 | exact hO.clJ (j := 0) h0) | (rw [aAns, if_pos h1, if_neg h2]; first | exact hO.cl0 h0 | exact hO.clJ (j := 0) h0) | (rw [aAns, if_pos h1, if_pos h2]; first | exact hO.cl0 h0 | exact hO.clJ (j := 0) h0) | (rw [aAns, if_neg h1]; first | exact hO.cl0 h0 | exact hO.clJ (j := 0) h0) | (rw [aAns, if_pos h1]; first | exact hO.cl0 h0 | exact hO.clJ (j := 0) h0) | (rw [aAns]; first | exact hO.cl0 h0 | exact hO.clJ (j := 0) h0)) dX6_answer_61
    · refine y_bipush C (-4) dX6_answer_26 (by decide) ?_
      exact y_iret C hr (by first | (rw [aAns, if_neg h1, if_neg h2]; done) | (rw [aAns, if_neg h1, if_pos h2]; done) | (rw [aAns, if_pos h1, if_neg h2]; done) | (rw [aAns, if_pos h1, if_pos h2]; done) | (rw [aAns, if_neg h1]; done) | (rw [aAns, if_pos h1]; done) | (rw [aAns]; done)) (by first | (rw [aAns, if_neg h1, if_neg h2]; first | exact hO.cl0 h0 | exact hO.clJ (j := 0) h0) | (rw [aAns, if_neg h1, if_pos h2]; first | exact hO.cl0 h0 | exact hO.clJ (j := 0) h0) | (rw [aAns, if_pos h1, if_neg h2]; first | exact hO.cl0 h0 | exact hO.clJ (j := 0) h0) | (rw [aAns, if_pos h1, if_pos h2]; first | exact hO.cl0 h0 | exact hO.clJ (j := 0) h0) | (rw [aAns, if_neg h1]; first | exact hO.cl0 h0 | exact hO.clJ (j := 0) h0) | (rw [aAns, if_pos h1]; first | exact hO.cl0 h0 | exact hO.clJ (j := 0) h0) | (rw [aAns]; first | exact hO.cl0 h0 | exact hO.clJ (j := 0) h0)) dX6_answer_28
  · refine y_iconst C (-1) dX6_answer_8 (by decide) ?_
    exact y_iret C hr (by first | (rw [aAns, if_neg h1]; done) | (rw [aAns, if_pos h1]; done) | (rw [aAns]; done)) (by first | (rw [aAns, if_neg h1]; first | exact hO.cl0 h0 | exact hO.clJ (j := 0) h0) | (rw [aAns, if_pos h1]; first | exact hO.cl0 h0 | exact hO.clJ (j := 0) h0) | (rw [aAns]; first | exact hO.cl0 h0 | exact hO.clJ (j := 0) h0)) dX6_answer_9
def rm_X6_lend : Room := { frames := 4, cells := 0, slots := 0, locals := 81 }
set_option maxRecDepth 100000 in
set_option maxHeartbeats 4000000 in
theorem c_X6_lend (g : KG) (B0 : Nat) (l : Launch) (b : Nat) (X : SV) (hv : sv X) (k : Nat) (hk31 : k < 2 ^ 31) : Mt g B0 l yX6_lend cX6_lend 2 (some .int) rm_X6_lend [.ref b, .int (nI k)] (iv b 152) (sX g b X) (some (.int (aLend X k).1)) (sX g b (aLend X k).2) 0 0 := by
  refine Mt_of RX6 (by decide) rfl [(0, .ref b), (1, .int (nI k))] rfl (Nat.le_of_ble_eq_true rfl) ?_
  intro pr e s m args below meth c C hr hin hd
  have hO := hd.ex 0
  have h0 := hd.d0
  refine y_aload_n C 0 dX6_lend_0 rfl rfl ?_
  refine y_iload_n C 1 dX6_lend_1 rfl rfl ?_
  refine y_callV C [.int (nI k)] (c_X6_isSet g B0 l b X hv k) RX6 1 (wVin q137 q138 q139 q2 q140) hy_X6_isSet ⟨(Nat.le_of_ble_eq_true rfl), (Nat.le_of_ble_eq_true rfl)⟩ ⟨rfl, rfl⟩ (rcv C.2.2.2.2.2.1 hO.1 rfl) (hO.cl0 h0) (fun _ h => h) rfl rfl (Nat.le_of_ble_eq_true rfl) dX6_lend_2 ⟨(Nat.le_of_ble_eq_true rfl), (Nat.le_of_ble_eq_true rfl)⟩ rfl (fun H hp hz hf => ?_)
  have hO := hp.ex 0
  have h0 := hp.d0
  refine y_if_ne C 10 dX6_lend_5 (by decide) (fun h1 => ?_) (fun h1 => ?_)
  · have hkn : k < nm (X.2.2.2 0) := isS_lt hv hk31 h1
    refine y_aload_n C 0 dX6_lend_10 rfl rfl ?_
    refine y_get6 C hO.1 0 (by decide) q12 rfl rfl dX6_lend_11 ?_
    refine y_get2 C (dk_0 h0) 4 (by decide) q96 rfl rfl dX6_lend_14 ?_
    refine y_get4 C (dk_11 h0) 7 (by decide) q136 rfl rfl dX6_lend_17 ?_
    refine y_iload_n C 1 dX6_lend_20 rfl rfl ?_
    refine y_iald C (dk_18 h0) k rfl (Nat.lt_of_lt_of_le hkn (hv.2 0 (by decide)).1.2.1.2) (by decide) dX6_lend_21 ?_
    refine y_iconst C (4) dX6_lend_22 (by decide) ?_
    refine y_icmp_ge C 42 dX6_lend_23 (by decide) (fun h2 => ?_) (fun h2 => ?_)
    · refine y_bipush C (-4) dX6_lend_42 (by decide) ?_
      exact y_iret C hr (by first | (rw [aLend, if_neg h1, if_neg h2]; done) | (rw [aLend, if_neg h1, if_pos h2]; done) | (rw [aLend, if_pos h1, if_neg h2]; done) | (rw [aLend, if_pos h1, if_pos h2]; done) | (rw [aLend, if_neg h1]; done) | (rw [aLend, if_pos h1]; done) | (rw [aLend]; done)) (by first | (rw [aLend, if_neg h1, if_neg h2]; first | exact hO.cl0 h0 | exact hO.clJ (j := 0) h0) | (rw [aLend, if_neg h1, if_pos h2]; first | exact hO.cl0 h0 | exact hO.clJ (j := 0) h0) | (rw [aLend, if_pos h1, if_neg h2]; first | exact hO.cl0 h0 | exact hO.clJ (j := 0) h0) | (rw [aLend, if_pos h1, if_pos h2]; first | exact hO.cl0 h0 | exact hO.clJ (j := 0) h0) | (rw [aLend, if_neg h1]; first | exact hO.cl0 h0 | exact hO.clJ (j := 0) h0) | (rw [aLend, if_pos h1]; first | exact hO.cl0 h0 | exact hO.clJ (j := 0) h0) | (rw [aLend]; first | exact hO.cl0 h0 | exact hO.clJ (j := 0) h0)) dX6_lend_44
    · refine y_aload_n C 0 dX6_lend_26 rfl rfl ?_
      refine y_get6 C hO.1 0 (by decide) q12 rfl rfl dX6_lend_27 ?_
      refine y_get2 C (dk_0 h0) 4 (by decide) q96 rfl rfl dX6_lend_30 ?_
      refine y_get4 C (dk_11 h0) 6 (by decide) q317 rfl rfl dX6_lend_33 ?_
      refine y_iload_n C 1 dX6_lend_36 rfl rfl ?_
      refine y_iald C (dk_17 h0) k rfl (Nat.lt_of_lt_of_le hkn (hv.2 0 (by decide)).1.2.1.2) (by decide) dX6_lend_37 ?_
      refine y_iconst C (1) dX6_lend_38 (by decide) ?_
      refine y_icmp_ne C 45 dX6_lend_39 (by decide) (fun h3 => ?_) (fun h3 => ?_)
      · refine y_aload_n C 0 dX6_lend_45 rfl rfl ?_
        refine y_get6 C hO.1 0 (by decide) q12 rfl rfl dX6_lend_46 ?_
        refine y_callV C [] (c_X2_loanersThere g B0 l (b + 1) (X.2.2.2 0) (hv.2 0 (by decide)).1) RX2 0 (wVin q115 q116 q117 q11 q118) hy_X2_loanersThere ⟨(Nat.le_of_ble_eq_true rfl), (Nat.le_of_ble_eq_true rfl)⟩ ⟨rfl, rfl⟩ (rcv C.2.2.2.2.2.1 (dk_0 h0) rfl) h0 (adr_iv (j := 0) (by decide)) rfl rfl (Nat.le_of_ble_eq_true rfl) dX6_lend_49 ⟨(Nat.le_of_ble_eq_true rfl), (Nat.le_of_ble_eq_true rfl)⟩ rfl (fun H hp hz hf => ?_)
        have h0 := hp
        have hO := hO.fr (j := 0) (by decide) hf (fun _ z => z)
        refine y_if_gt C 58 dX6_lend_52 (by decide) (fun h4 => ?_) (fun h4 => ?_)
        · refine y_aload_n C 0 dX6_lend_58 rfl rfl ?_
          refine y_get6 C hO.1 4 (by decide) q19 rfl rfl dX6_lend_59 ?_
          refine y_aload_n C 0 dX6_lend_62 rfl rfl ?_
          refine y_get6 C hO.1 0 (by decide) q12 rfl rfl dX6_lend_63 ?_
          refine y_callV C [.ref (b + 1)] (c_X3_record g B0 l b X.1 X.2.1 X.2.2.1 X.2.2.2 hv.1) RX3 1 (wVin q270 q271 q272 q18 q273) hy_X3_record ⟨(Nat.le_of_ble_eq_true rfl), (Nat.le_of_ble_eq_true rfl)⟩ ⟨rfl, rfl⟩ (rcv C.2.2.2.2.2.1 hO.2.1 rfl) (hO.cl0 h0) (fun _ h => h) rfl rfl (Nat.le_of_ble_eq_true rfl) dX6_lend_66 ⟨(Nat.le_of_ble_eq_true rfl), (Nat.le_of_ble_eq_true rfl)⟩ rfl (fun H hp hz hf => ?_)
          have hO : sysO 0 g b (rcX X) H := sX.ex (X := rcX X) 0 hp
          have h0 := rcX_0 (X := X) hp
          refine y_aload_n C 0 dX6_lend_69 rfl rfl ?_
          refine y_get6 C hO.1 0 (by decide) q12 rfl rfl dX6_lend_70 ?_
          refine y_get2 C (dk_0 h0) 4 (by decide) q96 rfl rfl dX6_lend_73 ?_
          refine y_get4 C (dk_11 h0) 6 (by decide) q317 rfl rfl dX6_lend_76 ?_
          refine y_iload_n C 1 dX6_lend_79 rfl rfl ?_
          refine y_iconst C (1) dX6_lend_80 (by decide) ?_
          refine y_iast C (dk_17 h0) (adr_iv (j := 0) (by decide) _ (ivm 17 (by decide))) k rfl (Nat.lt_of_lt_of_le hkn (hv.2 0 (by decide)).1.2.1.2) (by decide) dX6_lend_81 (fun H hw1 ow1 zw1 => ?_)
          have h0 := dk_set17 h0 hw1 ow1
          have hO := hO.off (j := 0) (by decide) ow1 (ivm 17 (by decide))
          refine y_aload_n C 0 dX6_lend_82 rfl rfl ?_
          refine y_get6 C hO.1 0 (by decide) q12 rfl rfl dX6_lend_83 ?_
          refine y_callV C [] (c_X2_loanersThere g B0 l (b + 1) (dset (X.2.2.2 0) 17 k (1 : Int32)) ((hv.2 0 (by decide)).1.to rfl rfl rfl rfl)) RX2 0 (wVin q115 q116 q117 q11 q118) hy_X2_loanersThere ⟨(Nat.le_of_ble_eq_true rfl), (Nat.le_of_ble_eq_true rfl)⟩ ⟨rfl, rfl⟩ (rcv C.2.2.2.2.2.1 (dk_0 h0) rfl) h0 (adr_iv (j := 0) (by decide)) rfl rfl (Nat.le_of_ble_eq_true rfl) dX6_lend_86 ⟨(Nat.le_of_ble_eq_true rfl), (Nat.le_of_ble_eq_true rfl)⟩ rfl (fun H hp hz hf => ?_)
          have h0 := hp
          have hO := hO.fr (j := 0) (by decide) hf (fun _ z => z)
          exact y_iret C hr (by first | (rw [aLend, if_neg h1, if_neg h2, if_neg h3, if_neg h4]; done) | (rw [aLend, if_neg h1, if_neg h2, if_neg h3, if_pos h4]; done) | (rw [aLend, if_neg h1, if_neg h2, if_pos h3, if_neg h4]; done) | (rw [aLend, if_neg h1, if_neg h2, if_pos h3, if_pos h4]; done) | (rw [aLend, if_neg h1, if_pos h2, if_neg h3, if_neg h4]; done) | (rw [aLend, if_neg h1, if_pos h2, if_neg h3, if_pos h4]; done) | (rw [aLend, if_neg h1, if_pos h2, if_pos h3, if_neg h4]; done) | (rw [aLend, if_neg h1, if_pos h2, if_pos h3, if_pos h4]; done) | (rw [aLend, if_pos h1, if_neg h2, if_neg h3, if_neg h4]; done) | (rw [aLend, if_pos h1, if_neg h2, if_neg h3, if_pos h4]; done) | (rw [aLend, if_pos h1, if_neg h2, if_pos h3, if_neg h4]; done) | (rw [aLend, if_pos h1, if_neg h2, if_pos h3, if_pos h4]; done) | (rw [aLend, if_pos h1, if_pos h2, if_neg h3, if_neg h4]; done) | (rw [aLend, if_pos h1, if_pos h2, if_neg h3, if_pos h4]; done) | (rw [aLend, if_pos h1, if_pos h2, if_pos h3, if_neg h4]; done) | (rw [aLend, if_pos h1, if_pos h2, if_pos h3, if_pos h4]; done) | (rw [aLend, if_neg h1, if_neg h2, if_neg h3]; done) | (rw [aLend, if_neg h1, if_neg h2, if_pos h3]; done) | (rw [aLend, if_neg h1, if_pos h2, if_neg h3]; done) | (rw [aLend, if_neg h1, if_pos h2, if_pos h3]; done) | (rw [aLend, if_pos h1, if_neg h2, if_neg h3]; done) | (rw [aLend, if_pos h1, if_neg h2, if_pos h3]; done) | (rw [aLend, if_pos h1, if_pos h2, if_neg h3]; done) | (rw [aLend, if_pos h1, if_pos h2, if_pos h3]; done) | (rw [aLend, if_neg h1, if_neg h2]; done) | (rw [aLend, if_neg h1, if_pos h2]; done) | (rw [aLend, if_pos h1, if_neg h2]; done) | (rw [aLend, if_pos h1, if_pos h2]; done) | (rw [aLend, if_neg h1]; done) | (rw [aLend, if_pos h1]; done) | (rw [aLend]; done)) (by first | (rw [aLend, if_neg h1, if_neg h2, if_neg h3, if_neg h4]; first | exact hO.cl0 h0 | exact hO.clJ (j := 0) h0) | (rw [aLend, if_neg h1, if_neg h2, if_neg h3, if_pos h4]; first | exact hO.cl0 h0 | exact hO.clJ (j := 0) h0) | (rw [aLend, if_neg h1, if_neg h2, if_pos h3, if_neg h4]; first | exact hO.cl0 h0 | exact hO.clJ (j := 0) h0) | (rw [aLend, if_neg h1, if_neg h2, if_pos h3, if_pos h4]; first | exact hO.cl0 h0 | exact hO.clJ (j := 0) h0) | (rw [aLend, if_neg h1, if_pos h2, if_neg h3, if_neg h4]; first | exact hO.cl0 h0 | exact hO.clJ (j := 0) h0) | (rw [aLend, if_neg h1, if_pos h2, if_neg h3, if_pos h4]; first | exact hO.cl0 h0 | exact hO.clJ (j := 0) h0) | (rw [aLend, if_neg h1, if_pos h2, if_pos h3, if_neg h4]; first | exact hO.cl0 h0 | exact hO.clJ (j := 0) h0) | (rw [aLend, if_neg h1, if_pos h2, if_pos h3, if_pos h4]; first | exact hO.cl0 h0 | exact hO.clJ (j := 0) h0) | (rw [aLend, if_pos h1, if_neg h2, if_neg h3, if_neg h4]; first | exact hO.cl0 h0 | exact hO.clJ (j := 0) h0) | (rw [aLend, if_pos h1, if_neg h2, if_neg h3, if_pos h4]; first | exact hO.cl0 h0 | exact hO.clJ (j := 0) h0) | (rw [aLend, if_pos h1, if_neg h2, if_pos h3, if_neg h4]; first | exact hO.cl0 h0 | exact hO.clJ (j := 0) h0) | (rw [aLend, if_pos h1, if_neg h2, if_pos h3, if_pos h4]; first | exact hO.cl0 h0 | exact hO.clJ (j := 0) h0) | (rw [aLend, if_pos h1, if_pos h2, if_neg h3, if_neg h4]; first | exact hO.cl0 h0 | exact hO.clJ (j := 0) h0) | (rw [aLend, if_pos h1, if_pos h2, if_neg h3, if_pos h4]; first | exact hO.cl0 h0 | exact hO.clJ (j := 0) h0) | (rw [aLend, if_pos h1, if_pos h2, if_pos h3, if_neg h4]; first | exact hO.cl0 h0 | exact hO.clJ (j := 0) h0) | (rw [aLend, if_pos h1, if_pos h2, if_pos h3, if_pos h4]; first | exact hO.cl0 h0 | exact hO.clJ (j := 0) h0) | (rw [aLend, if_neg h1, if_neg h2, if_neg h3]; first | exact hO.cl0 h0 | exact hO.clJ (j := 0) h0) | (rw [aLend, if_neg h1, if_neg h2, if_pos h3]; first | exact hO.cl0 h0 | exact hO.clJ (j := 0) h0) | (rw [aLend, if_neg h1, if_pos h2, if_neg h3]; first | exact hO.cl0 h0 | exact hO.clJ (j := 0) h0) | (rw [aLend, if_neg h1, if_pos h2, if_pos h3]; first | exact hO.cl0 h0 | exact hO.clJ (j := 0) h0) | (rw [aLend, if_pos h1, if_neg h2, if_neg h3]; first | exact hO.cl0 h0 | exact hO.clJ (j := 0) h0) | (rw [aLend, if_pos h1, if_neg h2, if_pos h3]; first | exact hO.cl0 h0 | exact hO.clJ (j := 0) h0) | (rw [aLend, if_pos h1, if_pos h2, if_neg h3]; first | exact hO.cl0 h0 | exact hO.clJ (j := 0) h0) | (rw [aLend, if_pos h1, if_pos h2, if_pos h3]; first | exact hO.cl0 h0 | exact hO.clJ (j := 0) h0) | (rw [aLend, if_neg h1, if_neg h2]; first | exact hO.cl0 h0 | exact hO.clJ (j := 0) h0) | (rw [aLend, if_neg h1, if_pos h2]; first | exact hO.cl0 h0 | exact hO.clJ (j := 0) h0) | (rw [aLend, if_pos h1, if_neg h2]; first | exact hO.cl0 h0 | exact hO.clJ (j := 0) h0) | (rw [aLend, if_pos h1, if_pos h2]; first | exact hO.cl0 h0 | exact hO.clJ (j := 0) h0) | (rw [aLend, if_neg h1]; first | exact hO.cl0 h0 | exact hO.clJ (j := 0) h0) | (rw [aLend, if_pos h1]; first | exact hO.cl0 h0 | exact hO.clJ (j := 0) h0) | (rw [aLend]; first | exact hO.cl0 h0 | exact hO.clJ (j := 0) h0)) dX6_lend_89
        · refine y_bipush C (-3) dX6_lend_55 (by decide) ?_
          exact y_iret C hr (by first | (rw [aLend, if_neg h1, if_neg h2, if_neg h3, if_neg h4]; done) | (rw [aLend, if_neg h1, if_neg h2, if_neg h3, if_pos h4]; done) | (rw [aLend, if_neg h1, if_neg h2, if_pos h3, if_neg h4]; done) | (rw [aLend, if_neg h1, if_neg h2, if_pos h3, if_pos h4]; done) | (rw [aLend, if_neg h1, if_pos h2, if_neg h3, if_neg h4]; done) | (rw [aLend, if_neg h1, if_pos h2, if_neg h3, if_pos h4]; done) | (rw [aLend, if_neg h1, if_pos h2, if_pos h3, if_neg h4]; done) | (rw [aLend, if_neg h1, if_pos h2, if_pos h3, if_pos h4]; done) | (rw [aLend, if_pos h1, if_neg h2, if_neg h3, if_neg h4]; done) | (rw [aLend, if_pos h1, if_neg h2, if_neg h3, if_pos h4]; done) | (rw [aLend, if_pos h1, if_neg h2, if_pos h3, if_neg h4]; done) | (rw [aLend, if_pos h1, if_neg h2, if_pos h3, if_pos h4]; done) | (rw [aLend, if_pos h1, if_pos h2, if_neg h3, if_neg h4]; done) | (rw [aLend, if_pos h1, if_pos h2, if_neg h3, if_pos h4]; done) | (rw [aLend, if_pos h1, if_pos h2, if_pos h3, if_neg h4]; done) | (rw [aLend, if_pos h1, if_pos h2, if_pos h3, if_pos h4]; done) | (rw [aLend, if_neg h1, if_neg h2, if_neg h3]; done) | (rw [aLend, if_neg h1, if_neg h2, if_pos h3]; done) | (rw [aLend, if_neg h1, if_pos h2, if_neg h3]; done) | (rw [aLend, if_neg h1, if_pos h2, if_pos h3]; done) | (rw [aLend, if_pos h1, if_neg h2, if_neg h3]; done) | (rw [aLend, if_pos h1, if_neg h2, if_pos h3]; done) | (rw [aLend, if_pos h1, if_pos h2, if_neg h3]; done) | (rw [aLend, if_pos h1, if_pos h2, if_pos h3]; done) | (rw [aLend, if_neg h1, if_neg h2]; done) | (rw [aLend, if_neg h1, if_pos h2]; done) | (rw [aLend, if_pos h1, if_neg h2]; done) | (rw [aLend, if_pos h1, if_pos h2]; done) | (rw [aLend, if_neg h1]; done) | (rw [aLend, if_pos h1]; done) | (rw [aLend]; done)) (by first | (rw [aLend, if_neg h1, if_neg h2, if_neg h3, if_neg h4]; first | exact hO.cl0 h0 | exact hO.clJ (j := 0) h0) | (rw [aLend, if_neg h1, if_neg h2, if_neg h3, if_pos h4]; first | exact hO.cl0 h0 | exact hO.clJ (j := 0) h0) | (rw [aLend, if_neg h1, if_neg h2, if_pos h3, if_neg h4]; first | exact hO.cl0 h0 | exact hO.clJ (j := 0) h0) | (rw [aLend, if_neg h1, if_neg h2, if_pos h3, if_pos h4]; first | exact hO.cl0 h0 | exact hO.clJ (j := 0) h0) | (rw [aLend, if_neg h1, if_pos h2, if_neg h3, if_neg h4]; first | exact hO.cl0 h0 | exact hO.clJ (j := 0) h0) | (rw [aLend, if_neg h1, if_pos h2, if_neg h3, if_pos h4]; first | exact hO.cl0 h0 | exact hO.clJ (j := 0) h0) | (rw [aLend, if_neg h1, if_pos h2, if_pos h3, if_neg h4]; first | exact hO.cl0 h0 | exact hO.clJ (j := 0) h0) | (rw [aLend, if_neg h1, if_pos h2, if_pos h3, if_pos h4]; first | exact hO.cl0 h0 | exact hO.clJ (j := 0) h0) | (rw [aLend, if_pos h1, if_neg h2, if_neg h3, if_neg h4]; first | exact hO.cl0 h0 | exact hO.clJ (j := 0) h0) | (rw [aLend, if_pos h1, if_neg h2, if_neg h3, if_pos h4]; first | exact hO.cl0 h0 | exact hO.clJ (j := 0) h0) | (rw [aLend, if_pos h1, if_neg h2, if_pos h3, if_neg h4]; first | exact hO.cl0 h0 | exact hO.clJ (j := 0) h0) | (rw [aLend, if_pos h1, if_neg h2, if_pos h3, if_pos h4]; first | exact hO.cl0 h0 | exact hO.clJ (j := 0) h0) | (rw [aLend, if_pos h1, if_pos h2, if_neg h3, if_neg h4]; first | exact hO.cl0 h0 | exact hO.clJ (j := 0) h0) | (rw [aLend, if_pos h1, if_pos h2, if_neg h3, if_pos h4]; first | exact hO.cl0 h0 | exact hO.clJ (j := 0) h0) | (rw [aLend, if_pos h1, if_pos h2, if_pos h3, if_neg h4]; first | exact hO.cl0 h0 | exact hO.clJ (j := 0) h0) | (rw [aLend, if_pos h1, if_pos h2, if_pos h3, if_pos h4]; first | exact hO.cl0 h0 | exact hO.clJ (j := 0) h0) | (rw [aLend, if_neg h1, if_neg h2, if_neg h3]; first | exact hO.cl0 h0 | exact hO.clJ (j := 0) h0) | (rw [aLend, if_neg h1, if_neg h2, if_pos h3]; first | exact hO.cl0 h0 | exact hO.clJ (j := 0) h0) | (rw [aLend, if_neg h1, if_pos h2, if_neg h3]; first | exact hO.cl0 h0 | exact hO.clJ (j := 0) h0) | (rw [aLend, if_neg h1, if_pos h2, if_pos h3]; first | exact hO.cl0 h0 | exact hO.clJ (j := 0) h0) | (rw [aLend, if_pos h1, if_neg h2, if_neg h3]; first | exact hO.cl0 h0 | exact hO.clJ (j := 0) h0) | (rw [aLend, if_pos h1, if_neg h2, if_pos h3]; first | exact hO.cl0 h0 | exact hO.clJ (j := 0) h0) | (rw [aLend, if_pos h1, if_pos h2, if_neg h3]; first | exact hO.cl0 h0 | exact hO.clJ (j := 0) h0) | (rw [aLend, if_pos h1, if_pos h2, if_pos h3]; first | exact hO.cl0 h0 | exact hO.clJ (j := 0) h0) | (rw [aLend, if_neg h1, if_neg h2]; first | exact hO.cl0 h0 | exact hO.clJ (j := 0) h0) | (rw [aLend, if_neg h1, if_pos h2]; first | exact hO.cl0 h0 | exact hO.clJ (j := 0) h0) | (rw [aLend, if_pos h1, if_neg h2]; first | exact hO.cl0 h0 | exact hO.clJ (j := 0) h0) | (rw [aLend, if_pos h1, if_pos h2]; first | exact hO.cl0 h0 | exact hO.clJ (j := 0) h0) | (rw [aLend, if_neg h1]; first | exact hO.cl0 h0 | exact hO.clJ (j := 0) h0) | (rw [aLend, if_pos h1]; first | exact hO.cl0 h0 | exact hO.clJ (j := 0) h0) | (rw [aLend]; first | exact hO.cl0 h0 | exact hO.clJ (j := 0) h0)) dX6_lend_57
      · refine y_bipush C (-4) dX6_lend_42 (by decide) ?_
        exact y_iret C hr (by first | (rw [aLend, if_neg h1, if_neg h2, if_neg h3]; done) | (rw [aLend, if_neg h1, if_neg h2, if_pos h3]; done) | (rw [aLend, if_neg h1, if_pos h2, if_neg h3]; done) | (rw [aLend, if_neg h1, if_pos h2, if_pos h3]; done) | (rw [aLend, if_pos h1, if_neg h2, if_neg h3]; done) | (rw [aLend, if_pos h1, if_neg h2, if_pos h3]; done) | (rw [aLend, if_pos h1, if_pos h2, if_neg h3]; done) | (rw [aLend, if_pos h1, if_pos h2, if_pos h3]; done) | (rw [aLend, if_neg h1, if_neg h2]; done) | (rw [aLend, if_neg h1, if_pos h2]; done) | (rw [aLend, if_pos h1, if_neg h2]; done) | (rw [aLend, if_pos h1, if_pos h2]; done) | (rw [aLend, if_neg h1]; done) | (rw [aLend, if_pos h1]; done) | (rw [aLend]; done)) (by first | (rw [aLend, if_neg h1, if_neg h2, if_neg h3]; first | exact hO.cl0 h0 | exact hO.clJ (j := 0) h0) | (rw [aLend, if_neg h1, if_neg h2, if_pos h3]; first | exact hO.cl0 h0 | exact hO.clJ (j := 0) h0) | (rw [aLend, if_neg h1, if_pos h2, if_neg h3]; first | exact hO.cl0 h0 | exact hO.clJ (j := 0) h0) | (rw [aLend, if_neg h1, if_pos h2, if_pos h3]; first | exact hO.cl0 h0 | exact hO.clJ (j := 0) h0) | (rw [aLend, if_pos h1, if_neg h2, if_neg h3]; first | exact hO.cl0 h0 | exact hO.clJ (j := 0) h0) | (rw [aLend, if_pos h1, if_neg h2, if_pos h3]; first | exact hO.cl0 h0 | exact hO.clJ (j := 0) h0) | (rw [aLend, if_pos h1, if_pos h2, if_neg h3]; first | exact hO.cl0 h0 | exact hO.clJ (j := 0) h0) | (rw [aLend, if_pos h1, if_pos h2, if_pos h3]; first | exact hO.cl0 h0 | exact hO.clJ (j := 0) h0) | (rw [aLend, if_neg h1, if_neg h2]; first | exact hO.cl0 h0 | exact hO.clJ (j := 0) h0) | (rw [aLend, if_neg h1, if_pos h2]; first | exact hO.cl0 h0 | exact hO.clJ (j := 0) h0) | (rw [aLend, if_pos h1, if_neg h2]; first | exact hO.cl0 h0 | exact hO.clJ (j := 0) h0) | (rw [aLend, if_pos h1, if_pos h2]; first | exact hO.cl0 h0 | exact hO.clJ (j := 0) h0) | (rw [aLend, if_neg h1]; first | exact hO.cl0 h0 | exact hO.clJ (j := 0) h0) | (rw [aLend, if_pos h1]; first | exact hO.cl0 h0 | exact hO.clJ (j := 0) h0) | (rw [aLend]; first | exact hO.cl0 h0 | exact hO.clJ (j := 0) h0)) dX6_lend_44
  · refine y_iconst C (-1) dX6_lend_8 (by decide) ?_
    exact y_iret C hr (by first | (rw [aLend, if_neg h1]; done) | (rw [aLend, if_pos h1]; done) | (rw [aLend]; done)) (by first | (rw [aLend, if_neg h1]; first | exact hO.cl0 h0 | exact hO.clJ (j := 0) h0) | (rw [aLend, if_pos h1]; first | exact hO.cl0 h0 | exact hO.clJ (j := 0) h0) | (rw [aLend]; first | exact hO.cl0 h0 | exact hO.clJ (j := 0) h0)) dX6_lend_9
def rm_X6_collect : Room := { frames := 4, cells := 0, slots := 0, locals := 81 }
set_option maxRecDepth 100000 in
set_option maxHeartbeats 4000000 in
theorem c_X6_collect (g : KG) (B0 : Nat) (l : Launch) (b : Nat) (X : SV) (hv : sv X) (k : Nat) (hk31 : k < 2 ^ 31) : Mt g B0 l yX6_collect cX6_collect 2 (some .int) rm_X6_collect [.ref b, .int (nI k)] (iv b 152) (sX g b X) (some (.int (aCol X k).1)) (sX g b (aCol X k).2) 0 0 := by
  refine Mt_of RX6 (by decide) rfl [(0, .ref b), (1, .int (nI k))] rfl (Nat.le_of_ble_eq_true rfl) ?_
  intro pr e s m args below meth c C hr hin hd
  have hO := hd.ex 0
  have h0 := hd.d0
  refine y_aload_n C 0 dX6_collect_0 rfl rfl ?_
  refine y_iload_n C 1 dX6_collect_1 rfl rfl ?_
  refine y_callV C [.int (nI k)] (c_X6_isSet g B0 l b X hv k) RX6 1 (wVin q137 q138 q139 q2 q140) hy_X6_isSet ⟨(Nat.le_of_ble_eq_true rfl), (Nat.le_of_ble_eq_true rfl)⟩ ⟨rfl, rfl⟩ (rcv C.2.2.2.2.2.1 hO.1 rfl) (hO.cl0 h0) (fun _ h => h) rfl rfl (Nat.le_of_ble_eq_true rfl) dX6_collect_2 ⟨(Nat.le_of_ble_eq_true rfl), (Nat.le_of_ble_eq_true rfl)⟩ rfl (fun H hp hz hf => ?_)
  have hO := hp.ex 0
  have h0 := hp.d0
  refine y_if_ne C 10 dX6_collect_5 (by decide) (fun h1 => ?_) (fun h1 => ?_)
  · have hkn : k < nm (X.2.2.2 0) := isS_lt hv hk31 h1
    refine y_aload_n C 0 dX6_collect_10 rfl rfl ?_
    refine y_get6 C hO.1 0 (by decide) q12 rfl rfl dX6_collect_11 ?_
    refine y_get2 C (dk_0 h0) 4 (by decide) q96 rfl rfl dX6_collect_14 ?_
    refine y_iload_n C 1 dX6_collect_17 rfl rfl ?_
    refine y_callV C [.int (nI k)] (c_X4_isReady g B0 l (b + 1) (X.2.2.2 0) k (Nat.lt_of_lt_of_le hkn (hv.2 0 (by decide)).1.2.1.2)) RX4 1 (wVin q322 q258 q259 q43 q260) hy_X4_isReady ⟨(Nat.le_of_ble_eq_true rfl), (Nat.le_of_ble_eq_true rfl)⟩ ⟨rfl, rfl⟩ (rcv C.2.2.2.2.2.1 (dk_11 h0) rfl) h0 (adr_iv (j := 0) (by decide)) rfl rfl (Nat.le_of_ble_eq_true rfl) dX6_collect_18 ⟨(Nat.le_of_ble_eq_true rfl), (Nat.le_of_ble_eq_true rfl)⟩ rfl (fun H hp hz hf => ?_)
    have h0 := hp
    have hO := hO.fr (j := 0) (by decide) hf (fun _ z => z)
    refine y_if_ne C 27 dX6_collect_21 (by decide) (fun h2 => ?_) (fun h2 => ?_)
    · refine y_aload_n C 0 dX6_collect_27 rfl rfl ?_
      refine y_get6 C hO.1 4 (by decide) q19 rfl rfl dX6_collect_28 ?_
      refine y_aload_n C 0 dX6_collect_31 rfl rfl ?_
      refine y_get6 C hO.1 0 (by decide) q12 rfl rfl dX6_collect_32 ?_
      refine y_callV C [.ref (b + 1)] (c_X3_record g B0 l b X.1 X.2.1 X.2.2.1 X.2.2.2 hv.1) RX3 1 (wVin q270 q271 q272 q18 q273) hy_X3_record ⟨(Nat.le_of_ble_eq_true rfl), (Nat.le_of_ble_eq_true rfl)⟩ ⟨rfl, rfl⟩ (rcv C.2.2.2.2.2.1 hO.2.1 rfl) (hO.cl0 h0) (fun _ h => h) rfl rfl (Nat.le_of_ble_eq_true rfl) dX6_collect_35 ⟨(Nat.le_of_ble_eq_true rfl), (Nat.le_of_ble_eq_true rfl)⟩ rfl (fun H hp hz hf => ?_)
      have hO : sysO 0 g b (rcX X) H := sX.ex (X := rcX X) 0 hp
      have h0 := rcX_0 (X := X) hp
      refine y_aload_n C 0 dX6_collect_38 rfl rfl ?_
      refine y_get6 C hO.1 0 (by decide) q12 rfl rfl dX6_collect_39 ?_
      refine y_iload_n C 1 dX6_collect_42 rfl rfl ?_
      refine y_callV C [.int (nI k)] (c_X2_handOver g B0 l (b + 1) (X.2.2.2 0) k (Nat.lt_of_lt_of_le hkn (hv.2 0 (by decide)).1.2.1.2) (hv.2 0 (by decide)).2) RX2 1 (wVin q323 q324 q325 q11 q326) hy_X2_handOver ⟨(Nat.le_of_ble_eq_true rfl), (Nat.le_of_ble_eq_true rfl)⟩ ⟨rfl, rfl⟩ (rcv C.2.2.2.2.2.1 (dk_0 h0) rfl) h0 (adr_iv (j := 0) (by decide)) rfl rfl (Nat.le_of_ble_eq_true rfl) dX6_collect_43 ⟨(Nat.le_of_ble_eq_true rfl), (Nat.le_of_ble_eq_true rfl)⟩ rfl (fun H hp hz hf => ?_)
      have h0 := hp
      have hO := hO.fr (j := 0) (by decide) hf (fun _ z => z)
      exact y_iret C hr (by first | (rw [aCol, if_neg h1, if_neg h2]; done) | (rw [aCol, if_neg h1, if_pos h2]; done) | (rw [aCol, if_pos h1, if_neg h2]; done) | (rw [aCol, if_pos h1, if_pos h2]; done) | (rw [aCol, if_neg h1]; done) | (rw [aCol, if_pos h1]; done) | (rw [aCol]; done)) (by first | (rw [aCol, if_neg h1, if_neg h2]; first | exact hO.cl0 h0 | exact hO.clJ (j := 0) h0) | (rw [aCol, if_neg h1, if_pos h2]; first | exact hO.cl0 h0 | exact hO.clJ (j := 0) h0) | (rw [aCol, if_pos h1, if_neg h2]; first | exact hO.cl0 h0 | exact hO.clJ (j := 0) h0) | (rw [aCol, if_pos h1, if_pos h2]; first | exact hO.cl0 h0 | exact hO.clJ (j := 0) h0) | (rw [aCol, if_neg h1]; first | exact hO.cl0 h0 | exact hO.clJ (j := 0) h0) | (rw [aCol, if_pos h1]; first | exact hO.cl0 h0 | exact hO.clJ (j := 0) h0) | (rw [aCol]; first | exact hO.cl0 h0 | exact hO.clJ (j := 0) h0)) dX6_collect_46
    · refine y_bipush C (-4) dX6_collect_24 (by decide) ?_
      exact y_iret C hr (by first | (rw [aCol, if_neg h1, if_neg h2]; done) | (rw [aCol, if_neg h1, if_pos h2]; done) | (rw [aCol, if_pos h1, if_neg h2]; done) | (rw [aCol, if_pos h1, if_pos h2]; done) | (rw [aCol, if_neg h1]; done) | (rw [aCol, if_pos h1]; done) | (rw [aCol]; done)) (by first | (rw [aCol, if_neg h1, if_neg h2]; first | exact hO.cl0 h0 | exact hO.clJ (j := 0) h0) | (rw [aCol, if_neg h1, if_pos h2]; first | exact hO.cl0 h0 | exact hO.clJ (j := 0) h0) | (rw [aCol, if_pos h1, if_neg h2]; first | exact hO.cl0 h0 | exact hO.clJ (j := 0) h0) | (rw [aCol, if_pos h1, if_pos h2]; first | exact hO.cl0 h0 | exact hO.clJ (j := 0) h0) | (rw [aCol, if_neg h1]; first | exact hO.cl0 h0 | exact hO.clJ (j := 0) h0) | (rw [aCol, if_pos h1]; first | exact hO.cl0 h0 | exact hO.clJ (j := 0) h0) | (rw [aCol]; first | exact hO.cl0 h0 | exact hO.clJ (j := 0) h0)) dX6_collect_26
  · refine y_iconst C (-1) dX6_collect_8 (by decide) ?_
    exact y_iret C hr (by first | (rw [aCol, if_neg h1]; done) | (rw [aCol, if_pos h1]; done) | (rw [aCol]; done)) (by first | (rw [aCol, if_neg h1]; first | exact hO.cl0 h0 | exact hO.clJ (j := 0) h0) | (rw [aCol, if_pos h1]; first | exact hO.cl0 h0 | exact hO.clJ (j := 0) h0) | (rw [aCol]; first | exact hO.cl0 h0 | exact hO.clJ (j := 0) h0)) dX6_collect_9
def rm_X6_setPart : Room := { frames := 4, cells := 0, slots := 0, locals := 81 }
set_option maxRecDepth 100000 in
set_option maxHeartbeats 4000000 in
theorem c_X6_setPart (g : KG) (B0 : Nat) (l : Launch) (b : Nat) (X : SV) (hv : sv X) (p price lead : Nat) (hp6 : p < 6) (hp1 : 1 ≤ price) (hp2 : price ≤ 50000) (hl1 : 1 ≤ lead) (hl2 : lead ≤ 30) : Mt g B0 l yX6_setPart cX6_setPart 5 (some .int) rm_X6_setPart [.ref b, .int (nI p), .int (nI price), .int (nI lead)] (iv b 152) (sX g b X) (some (.int (aSetP X p price lead).1)) (sX g b (aSetP X p price lead).2) 0 0 := by
  refine Mt_of RX6 (by decide) rfl [(0, .ref b), (1, .int (nI p)), (2, .int (nI price)), (3, .int (nI lead))] rfl (Nat.le_of_ble_eq_true rfl) ?_
  intro pr e s m args below meth c C hr hin hd
  have hO := hd.ex 0
  have h0 := hd.d0
  refine y_iload_n C 1 dX6_setPart_0 rfl rfl ?_
  refine y_bipush C (6) dX6_setPart_1 (by decide) ?_
  refine y_callS C [.int (nI p), .int (6 : Int32)] (c_X6_isIndex g B0 l (nI p) (6 : Int32)) 2 (wSin q141 q142 q2 q143) hs_X6_isIndex ⟨(Nat.le_of_ble_eq_true rfl), (Nat.le_of_ble_eq_true rfl)⟩ ⟨rfl, rfl⟩ trivial nF.no rfl rfl (Nat.le_of_ble_eq_true rfl) dX6_setPart_3 ⟨(Nat.le_of_ble_eq_true rfl), (Nat.le_of_ble_eq_true rfl)⟩ rfl (fun H hp hz hf => ?_)
  have h0 := h0.fr hf (fun _ _ z => z)
  have hO := hO.fr (j := 0) (by decide) hf nF.no
  refine y_if_ne C 11 dX6_setPart_6 (by decide) (fun _ => ?_) (fun h => absurd h (ixf_t (n := 6) hp6 (by decide)))
  refine y_iload_n C 2 dX6_setPart_11 rfl rfl ?_
  refine y_iconst C (1) dX6_setPart_12 (by decide) ?_
  refine y_ldc C q337 dX6_setPart_13 ?_
  refine y_callS C [.int (nI price), .int (1 : Int32), .int (50000 : Int32)] (c_X6_isWithin g B0 l (nI price) (1 : Int32) (50000 : Int32)) 3 (wSin q108 q109 q2 q110) hs_X6_isWithin ⟨(Nat.le_of_ble_eq_true rfl), (Nat.le_of_ble_eq_true rfl)⟩ ⟨rfl, rfl⟩ trivial nF.no rfl rfl (Nat.le_of_ble_eq_true rfl) dX6_setPart_15 ⟨(Nat.le_of_ble_eq_true rfl), (Nat.le_of_ble_eq_true rfl)⟩ rfl (fun H hp hz hf => ?_)
  have h0 := h0.fr hf (fun _ _ z => z)
  have hO := hO.fr (j := 0) (by decide) hf nF.no
  refine y_if_eq C 31 dX6_setPart_18 (by decide) (fun h => absurd h (wif_t (lo := 1) (hi := 50000) hp1 hp2 (by decide))) (fun _ => ?_)
  refine y_iload_n C 3 dX6_setPart_21 rfl rfl ?_
  refine y_iconst C (1) dX6_setPart_22 (by decide) ?_
  refine y_bipush C (30) dX6_setPart_23 (by decide) ?_
  refine y_callS C [.int (nI lead), .int (1 : Int32), .int (30 : Int32)] (c_X6_isWithin g B0 l (nI lead) (1 : Int32) (30 : Int32)) 3 (wSin q108 q109 q2 q110) hs_X6_isWithin ⟨(Nat.le_of_ble_eq_true rfl), (Nat.le_of_ble_eq_true rfl)⟩ ⟨rfl, rfl⟩ trivial nF.no rfl rfl (Nat.le_of_ble_eq_true rfl) dX6_setPart_25 ⟨(Nat.le_of_ble_eq_true rfl), (Nat.le_of_ble_eq_true rfl)⟩ rfl (fun H hp hz hf => ?_)
  have h0 := h0.fr hf (fun _ _ z => z)
  have hO := hO.fr (j := 0) (by decide) hf nF.no
  refine y_if_ne C 34 dX6_setPart_28 (by decide) (fun _ => ?_) (fun h => absurd h (wif_t (lo := 1) (hi := 30) hl1 hl2 (by decide)))
  refine y_aload_n C 0 dX6_setPart_34 rfl rfl ?_
  refine y_get6 C hO.1 0 (by decide) q12 rfl rfl dX6_setPart_35 ?_
  refine y_get2 C (dk_0 h0) 3 (by decide) q99 rfl rfl dX6_setPart_38 ?_
  refine y_get5 C (dk_3 h0) 0 (by decide) q338 rfl rfl dX6_setPart_41 ?_
  refine y_iload_n C 1 dX6_setPart_44 rfl rfl ?_
  refine y_iald C (dk_4 h0) p rfl hp6 (by decide) dX6_setPart_45 ?_
  refine y_istore C dX6_setPart_46 (by decide) rfl ?_
  refine y_iload C 0 dX6_setPart_48 rfl ?_
  refine y_iload_n C 3 dX6_setPart_50 rfl rfl ?_
  refine y_icmp_ne C 73 dX6_setPart_51 (by decide) (fun h1 => ?_) (fun h1 => ?_)
  · refine y_aload_n C 1 dX6_setPart_73 rfl rfl ?_
    refine y_get6 C hO.1 4 (by decide) q19 rfl rfl dX6_setPart_74 ?_
    refine y_aload_n C 1 dX6_setPart_77 rfl rfl ?_
    refine y_get6 C hO.1 0 (by decide) q12 rfl rfl dX6_setPart_78 ?_
    refine y_callV C [.ref (b + 1)] (c_X3_record g B0 l b X.1 X.2.1 X.2.2.1 X.2.2.2 hv.1) RX3 1 (wVin q270 q271 q272 q18 q273) hy_X3_record ⟨(Nat.le_of_ble_eq_true rfl), (Nat.le_of_ble_eq_true rfl)⟩ ⟨rfl, rfl⟩ (rcv C.2.2.2.2.2.1 hO.2.1 rfl) (hO.cl0 h0) (fun _ h => h) rfl rfl (Nat.le_of_ble_eq_true rfl) dX6_setPart_81 ⟨(Nat.le_of_ble_eq_true rfl), (Nat.le_of_ble_eq_true rfl)⟩ rfl (fun H hp hz hf => ?_)
    have hO : sysO 0 g b (rcX X) H := sX.ex (X := rcX X) 0 hp
    have h0 := rcX_0 (X := X) hp
    refine y_aload_n C 1 dX6_setPart_84 rfl rfl ?_
    refine y_get6 C hO.1 0 (by decide) q12 rfl rfl dX6_setPart_85 ?_
    refine y_get2 C (dk_0 h0) 3 (by decide) q99 rfl rfl dX6_setPart_88 ?_
    refine y_get5 C (dk_3 h0) 0 (by decide) q338 rfl rfl dX6_setPart_91 ?_
    refine y_iload_n C 2 dX6_setPart_94 rfl rfl ?_
    refine y_iload_n C 3 dX6_setPart_95 rfl rfl ?_
    refine y_iast C (dk_4 h0) (adr_iv (j := 0) (by decide) _ (ivm 4 (by decide))) p rfl hp6 (by decide) dX6_setPart_96 (fun H hw1 ow1 zw1 => ?_)
    have h0 := dk_set4 h0 hw1 ow1
    have hO := hO.off (j := 0) (by decide) ow1 (ivm 4 (by decide))
    refine y_aload_n C 1 dX6_setPart_97 rfl rfl ?_
    refine y_get6 C hO.1 0 (by decide) q12 rfl rfl dX6_setPart_98 ?_
    refine y_get2 C (dk_0 h0) 3 (by decide) q99 rfl rfl dX6_setPart_101 ?_
    refine y_get5 C (dk_3 h0) 1 (by decide) q308 rfl rfl dX6_setPart_104 ?_
    refine y_iload_n C 2 dX6_setPart_107 rfl rfl ?_
    refine y_iload_n C 4 dX6_setPart_108 rfl rfl ?_
    refine y_iast C (dk_5 h0) (adr_iv (j := 0) (by decide) _ (ivm 5 (by decide))) p rfl hp6 (by decide) dX6_setPart_109 (fun H hw1 ow1 zw1 => ?_)
    have h0 := dk_set5 h0 hw1 ow1
    have hO := hO.off (j := 0) (by decide) ow1 (ivm 5 (by decide))
    refine y_iload C 0 dX6_setPart_110 rfl ?_
    exact y_iret C hr (by first | (rw [aSetP, if_neg h1]; done) | (rw [aSetP, if_pos h1]; done) | (rw [aSetP]; done)) (by first | (rw [aSetP, if_neg h1]; first | exact hO.cl0 h0 | exact hO.clJ (j := 0) h0) | (rw [aSetP, if_pos h1]; first | exact hO.cl0 h0 | exact hO.clJ (j := 0) h0) | (rw [aSetP]; first | exact hO.cl0 h0 | exact hO.clJ (j := 0) h0)) dX6_setPart_112
  · refine y_aload_n C 1 dX6_setPart_54 rfl rfl ?_
    refine y_get6 C hO.1 0 (by decide) q12 rfl rfl dX6_setPart_55 ?_
    refine y_get2 C (dk_0 h0) 3 (by decide) q99 rfl rfl dX6_setPart_58 ?_
    refine y_get5 C (dk_3 h0) 1 (by decide) q308 rfl rfl dX6_setPart_61 ?_
    refine y_iload_n C 2 dX6_setPart_64 rfl rfl ?_
    refine y_iald C (dk_5 h0) p rfl hp6 (by decide) dX6_setPart_65 ?_
    refine y_iload_n C 4 dX6_setPart_66 rfl rfl ?_
    refine y_icmp_ne C 73 dX6_setPart_67 (by decide) (fun h2 => ?_) (fun h2 => ?_)
    · refine y_aload_n C 1 dX6_setPart_73 rfl rfl ?_
      refine y_get6 C hO.1 4 (by decide) q19 rfl rfl dX6_setPart_74 ?_
      refine y_aload_n C 1 dX6_setPart_77 rfl rfl ?_
      refine y_get6 C hO.1 0 (by decide) q12 rfl rfl dX6_setPart_78 ?_
      refine y_callV C [.ref (b + 1)] (c_X3_record g B0 l b X.1 X.2.1 X.2.2.1 X.2.2.2 hv.1) RX3 1 (wVin q270 q271 q272 q18 q273) hy_X3_record ⟨(Nat.le_of_ble_eq_true rfl), (Nat.le_of_ble_eq_true rfl)⟩ ⟨rfl, rfl⟩ (rcv C.2.2.2.2.2.1 hO.2.1 rfl) (hO.cl0 h0) (fun _ h => h) rfl rfl (Nat.le_of_ble_eq_true rfl) dX6_setPart_81 ⟨(Nat.le_of_ble_eq_true rfl), (Nat.le_of_ble_eq_true rfl)⟩ rfl (fun H hp hz hf => ?_)
      have hO : sysO 0 g b (rcX X) H := sX.ex (X := rcX X) 0 hp
      have h0 := rcX_0 (X := X) hp
      refine y_aload_n C 1 dX6_setPart_84 rfl rfl ?_
      refine y_get6 C hO.1 0 (by decide) q12 rfl rfl dX6_setPart_85 ?_
      refine y_get2 C (dk_0 h0) 3 (by decide) q99 rfl rfl dX6_setPart_88 ?_
      refine y_get5 C (dk_3 h0) 0 (by decide) q338 rfl rfl dX6_setPart_91 ?_
      refine y_iload_n C 2 dX6_setPart_94 rfl rfl ?_
      refine y_iload_n C 3 dX6_setPart_95 rfl rfl ?_
      refine y_iast C (dk_4 h0) (adr_iv (j := 0) (by decide) _ (ivm 4 (by decide))) p rfl hp6 (by decide) dX6_setPart_96 (fun H hw1 ow1 zw1 => ?_)
      have h0 := dk_set4 h0 hw1 ow1
      have hO := hO.off (j := 0) (by decide) ow1 (ivm 4 (by decide))
      refine y_aload_n C 1 dX6_setPart_97 rfl rfl ?_
      refine y_get6 C hO.1 0 (by decide) q12 rfl rfl dX6_setPart_98 ?_
      refine y_get2 C (dk_0 h0) 3 (by decide) q99 rfl rfl dX6_setPart_101 ?_
      refine y_get5 C (dk_3 h0) 1 (by decide) q308 rfl rfl dX6_setPart_104 ?_
      refine y_iload_n C 2 dX6_setPart_107 rfl rfl ?_
      refine y_iload_n C 4 dX6_setPart_108 rfl rfl ?_
      refine y_iast C (dk_5 h0) (adr_iv (j := 0) (by decide) _ (ivm 5 (by decide))) p rfl hp6 (by decide) dX6_setPart_109 (fun H hw1 ow1 zw1 => ?_)
      have h0 := dk_set5 h0 hw1 ow1
      have hO := hO.off (j := 0) (by decide) ow1 (ivm 5 (by decide))
      refine y_iload C 0 dX6_setPart_110 rfl ?_
      exact y_iret C hr (by first | (rw [aSetP, if_neg h1, if_neg h2]; done) | (rw [aSetP, if_neg h1, if_pos h2]; done) | (rw [aSetP, if_pos h1, if_neg h2]; done) | (rw [aSetP, if_pos h1, if_pos h2]; done) | (rw [aSetP, if_neg h1]; done) | (rw [aSetP, if_pos h1]; done) | (rw [aSetP]; done)) (by first | (rw [aSetP, if_neg h1, if_neg h2]; first | exact hO.cl0 h0 | exact hO.clJ (j := 0) h0) | (rw [aSetP, if_neg h1, if_pos h2]; first | exact hO.cl0 h0 | exact hO.clJ (j := 0) h0) | (rw [aSetP, if_pos h1, if_neg h2]; first | exact hO.cl0 h0 | exact hO.clJ (j := 0) h0) | (rw [aSetP, if_pos h1, if_pos h2]; first | exact hO.cl0 h0 | exact hO.clJ (j := 0) h0) | (rw [aSetP, if_neg h1]; first | exact hO.cl0 h0 | exact hO.clJ (j := 0) h0) | (rw [aSetP, if_pos h1]; first | exact hO.cl0 h0 | exact hO.clJ (j := 0) h0) | (rw [aSetP]; first | exact hO.cl0 h0 | exact hO.clJ (j := 0) h0)) dX6_setPart_112
    · refine y_bipush C (-5) dX6_setPart_70 (by decide) ?_
      exact y_iret C hr (by first | (rw [aSetP, if_neg h1, if_neg h2]; done) | (rw [aSetP, if_neg h1, if_pos h2]; done) | (rw [aSetP, if_pos h1, if_neg h2]; done) | (rw [aSetP, if_pos h1, if_pos h2]; done) | (rw [aSetP, if_neg h1]; done) | (rw [aSetP, if_pos h1]; done) | (rw [aSetP]; done)) (by first | (rw [aSetP, if_neg h1, if_neg h2]; first | exact hO.cl0 h0 | exact hO.clJ (j := 0) h0) | (rw [aSetP, if_neg h1, if_pos h2]; first | exact hO.cl0 h0 | exact hO.clJ (j := 0) h0) | (rw [aSetP, if_pos h1, if_neg h2]; first | exact hO.cl0 h0 | exact hO.clJ (j := 0) h0) | (rw [aSetP, if_pos h1, if_pos h2]; first | exact hO.cl0 h0 | exact hO.clJ (j := 0) h0) | (rw [aSetP, if_neg h1]; first | exact hO.cl0 h0 | exact hO.clJ (j := 0) h0) | (rw [aSetP, if_pos h1]; first | exact hO.cl0 h0 | exact hO.clJ (j := 0) h0) | (rw [aSetP]; first | exact hO.cl0 h0 | exact hO.clJ (j := 0) h0)) dX6_setPart_72
def rm_X6_order : Room := { frames := 4, cells := 0, slots := 0, locals := 81 }
set_option maxRecDepth 100000 in
set_option maxHeartbeats 4000000 in
theorem c_X6_order (g : KG) (B0 : Nat) (l : Launch) (b : Nat) (X : SV) (hv : sv X) (p mm : Nat) (hp6 : p < 6) (hm1 : 1 ≤ mm) (hm9 : mm ≤ 9) : Mt g B0 l yX6_order cX6_order 4 (some .int) rm_X6_order [.ref b, .int (nI p), .int (nI mm)] (iv b 152) (sX g b X) (some (.int (aOrd X p mm).1)) (sX g b (aOrd X p mm).2) 0 0 := by
  refine Mt_of RX6 (by decide) rfl [(0, .ref b), (1, .int (nI p)), (2, .int (nI mm))] rfl (Nat.le_of_ble_eq_true rfl) ?_
  intro pr e s m args below meth c C hr hin hd
  have hO := hd.ex 0
  have h0 := hd.d0
  refine y_iload_n C 1 dX6_order_0 rfl rfl ?_
  refine y_bipush C (6) dX6_order_1 (by decide) ?_
  refine y_callS C [.int (nI p), .int (6 : Int32)] (c_X6_isIndex g B0 l (nI p) (6 : Int32)) 2 (wSin q141 q142 q2 q143) hs_X6_isIndex ⟨(Nat.le_of_ble_eq_true rfl), (Nat.le_of_ble_eq_true rfl)⟩ ⟨rfl, rfl⟩ trivial nF.no rfl rfl (Nat.le_of_ble_eq_true rfl) dX6_order_3 ⟨(Nat.le_of_ble_eq_true rfl), (Nat.le_of_ble_eq_true rfl)⟩ rfl (fun H hp hz hf => ?_)
  have h0 := h0.fr hf (fun _ _ z => z)
  have hO := hO.fr (j := 0) (by decide) hf nF.no
  refine y_if_ne C 11 dX6_order_6 (by decide) (fun _ => ?_) (fun h => absurd h (ixf_t (n := 6) hp6 (by decide)))
  refine y_iload_n C 2 dX6_order_11 rfl rfl ?_
  refine y_iconst C (1) dX6_order_12 (by decide) ?_
  refine y_bipush C (9) dX6_order_13 (by decide) ?_
  refine y_callS C [.int (nI mm), .int (1 : Int32), .int (9 : Int32)] (c_X6_isWithin g B0 l (nI mm) (1 : Int32) (9 : Int32)) 3 (wSin q108 q109 q2 q110) hs_X6_isWithin ⟨(Nat.le_of_ble_eq_true rfl), (Nat.le_of_ble_eq_true rfl)⟩ ⟨rfl, rfl⟩ trivial nF.no rfl rfl (Nat.le_of_ble_eq_true rfl) dX6_order_15 ⟨(Nat.le_of_ble_eq_true rfl), (Nat.le_of_ble_eq_true rfl)⟩ rfl (fun H hp hz hf => ?_)
  have h0 := h0.fr hf (fun _ _ z => z)
  have hO := hO.fr (j := 0) (by decide) hf nF.no
  refine y_if_ne C 24 dX6_order_18 (by decide) (fun _ => ?_) (fun h => absurd h (wif_t (lo := 1) (hi := 9) hm1 hm9 (by decide)))
  refine y_aload_n C 0 dX6_order_24 rfl rfl ?_
  refine y_get6 C hO.1 0 (by decide) q12 rfl rfl dX6_order_25 ?_
  refine y_get2 C (dk_0 h0) 3 (by decide) q99 rfl rfl dX6_order_28 ?_
  refine y_get5 C (dk_3 h0) 4 (by decide) q100 rfl rfl dX6_order_31 ?_
  refine y_bipush C (12) dX6_order_34 (by decide) ?_
  refine y_icmp_lt C 42 dX6_order_36 (by decide) (fun h1 => ?_) (fun h1 => ?_)
  · refine y_aload_n C 0 dX6_order_42 rfl rfl ?_
    refine y_get6 C hO.1 4 (by decide) q19 rfl rfl dX6_order_43 ?_
    refine y_aload_n C 0 dX6_order_46 rfl rfl ?_
    refine y_get6 C hO.1 0 (by decide) q12 rfl rfl dX6_order_47 ?_
    refine y_callV C [.ref (b + 1)] (c_X3_record g B0 l b X.1 X.2.1 X.2.2.1 X.2.2.2 hv.1) RX3 1 (wVin q270 q271 q272 q18 q273) hy_X3_record ⟨(Nat.le_of_ble_eq_true rfl), (Nat.le_of_ble_eq_true rfl)⟩ ⟨rfl, rfl⟩ (rcv C.2.2.2.2.2.1 hO.2.1 rfl) (hO.cl0 h0) (fun _ h => h) rfl rfl (Nat.le_of_ble_eq_true rfl) dX6_order_50 ⟨(Nat.le_of_ble_eq_true rfl), (Nat.le_of_ble_eq_true rfl)⟩ rfl (fun H hp hz hf => ?_)
    have hO : sysO 0 g b (rcX X) H := sX.ex (X := rcX X) 0 hp
    have h0 := rcX_0 (X := X) hp
    refine y_aload_n C 0 dX6_order_53 rfl rfl ?_
    refine y_get6 C hO.1 0 (by decide) q12 rfl rfl dX6_order_54 ?_
    refine y_get2 C (dk_0 h0) 0 (by decide) q97 rfl rfl dX6_order_57 ?_
    refine y_aload_n C 0 dX6_order_60 rfl rfl ?_
    refine y_get6 C hO.1 0 (by decide) q12 rfl rfl dX6_order_61 ?_
    refine y_get2 C (dk_0 h0) 3 (by decide) q99 rfl rfl dX6_order_64 ?_
    refine y_get5 C (dk_3 h0) 1 (by decide) q308 rfl rfl dX6_order_67 ?_
    refine y_iload_n C 1 dX6_order_70 rfl rfl ?_
    refine y_iald C (dk_5 h0) p rfl hp6 (by decide) dX6_order_71 ?_
    refine y_iadd C dX6_order_72 ?_
    refine y_istore_n C dX6_order_73 rfl (by decide) rfl ?_
    refine y_aload_n C 1 dX6_order_74 rfl rfl ?_
    refine y_get6 C hO.1 0 (by decide) q12 rfl rfl dX6_order_75 ?_
    refine y_get2 C (dk_0 h0) 3 (by decide) q99 rfl rfl dX6_order_78 ?_
    refine y_iload_n C 2 dX6_order_81 rfl rfl ?_
    refine y_iload_n C 3 dX6_order_82 rfl rfl ?_
    refine y_iload_n C 0 dX6_order_83 rfl rfl ?_
    refine y_callV C [.int (nI p), .int (nI mm), .int (((X.2.2.2 0).1 0 0) + ((X.2.2.2 0).1 5 p))] (c_X5_addOrder g B0 l (b + 1) (X.2.2.2 0) (nI p) (nI mm) (((X.2.2.2 0).1 0 0) + ((X.2.2.2 0).1 5 p)) (hv.2 0 (by decide)).1 (no_lt (hv.2 0 (by decide)).1 (N := 12) (by decide) h1)) RX5 3 (wVin q309 q310 q311 q39 q312) hy_X5_addOrder ⟨(Nat.le_of_ble_eq_true rfl), (Nat.le_of_ble_eq_true rfl)⟩ ⟨rfl, rfl⟩ (rcv C.2.2.2.2.2.1 (dk_3 h0) rfl) h0 (adr_iv (j := 0) (by decide)) rfl rfl (Nat.le_of_ble_eq_true rfl) dX6_order_84 ⟨(Nat.le_of_ble_eq_true rfl), (Nat.le_of_ble_eq_true rfl)⟩ rfl (fun H hp hz hf => ?_)
    have h0 := hp
    have hO := hO.fr (j := 0) (by decide) hf (fun _ z => z)
    refine y_iload_n C 0 dX6_order_87 rfl rfl ?_
    exact y_iret C hr (by first | (rw [aOrd, if_neg h1]; done) | (rw [aOrd, if_pos h1]; done) | (rw [aOrd]; done)) (by first | (rw [aOrd, if_neg h1]; first | exact hO.cl0 h0 | exact hO.clJ (j := 0) h0) | (rw [aOrd, if_pos h1]; first | exact hO.cl0 h0 | exact hO.clJ (j := 0) h0) | (rw [aOrd]; first | exact hO.cl0 h0 | exact hO.clJ (j := 0) h0)) dX6_order_88
  · refine y_bipush C (-3) dX6_order_39 (by decide) ?_
    exact y_iret C hr (by first | (rw [aOrd, if_neg h1]; done) | (rw [aOrd, if_pos h1]; done) | (rw [aOrd]; done)) (by first | (rw [aOrd, if_neg h1]; first | exact hO.cl0 h0 | exact hO.clJ (j := 0) h0) | (rw [aOrd, if_pos h1]; first | exact hO.cl0 h0 | exact hO.clJ (j := 0) h0) | (rw [aOrd]; first | exact hO.cl0 h0 | exact hO.clJ (j := 0) h0)) dX6_order_41
def rm_X6_put : Room := { frames := 4, cells := 0, slots := 0, locals := 86 }
set_option maxRecDepth 100000 in
set_option maxHeartbeats 4000000 in
theorem c_X6_put (g : KG) (B0 : Nat) (l : Launch) (b : Nat) (X : SV) (hv : sv X) (p mm : Nat) (hp6 : p < 6) (hm1 : 1 ≤ mm) (hm9 : mm ≤ 9) : Mt g B0 l yX6_put cX6_put 3 (some .int) rm_X6_put [.ref b, .int (nI p), .int (nI mm)] (iv b 152) (sX g b X) (some (.int (aPut X p mm).1)) (sX g b (aPut X p mm).2) 0 0 := by
  refine Mt_of RX6 (by decide) rfl [(0, .ref b), (1, .int (nI p)), (2, .int (nI mm))] rfl (Nat.le_of_ble_eq_true rfl) ?_
  intro pr e s m args below meth c C hr hin hd
  have hO := hd.ex 0
  have h0 := hd.d0
  refine y_iload_n C 1 dX6_put_0 rfl rfl ?_
  refine y_bipush C (6) dX6_put_1 (by decide) ?_
  refine y_callS C [.int (nI p), .int (6 : Int32)] (c_X6_isIndex g B0 l (nI p) (6 : Int32)) 2 (wSin q141 q142 q2 q143) hs_X6_isIndex ⟨(Nat.le_of_ble_eq_true rfl), (Nat.le_of_ble_eq_true rfl)⟩ ⟨rfl, rfl⟩ trivial nF.no rfl rfl (Nat.le_of_ble_eq_true rfl) dX6_put_3 ⟨(Nat.le_of_ble_eq_true rfl), (Nat.le_of_ble_eq_true rfl)⟩ rfl (fun H hp hz hf => ?_)
  have h0 := h0.fr hf (fun _ _ z => z)
  have hO := hO.fr (j := 0) (by decide) hf nF.no
  refine y_if_ne C 11 dX6_put_6 (by decide) (fun _ => ?_) (fun h => absurd h (ixf_t (n := 6) hp6 (by decide)))
  refine y_iload_n C 2 dX6_put_11 rfl rfl ?_
  refine y_iconst C (1) dX6_put_12 (by decide) ?_
  refine y_bipush C (9) dX6_put_13 (by decide) ?_
  refine y_callS C [.int (nI mm), .int (1 : Int32), .int (9 : Int32)] (c_X6_isWithin g B0 l (nI mm) (1 : Int32) (9 : Int32)) 3 (wSin q108 q109 q2 q110) hs_X6_isWithin ⟨(Nat.le_of_ble_eq_true rfl), (Nat.le_of_ble_eq_true rfl)⟩ ⟨rfl, rfl⟩ trivial nF.no rfl rfl (Nat.le_of_ble_eq_true rfl) dX6_put_15 ⟨(Nat.le_of_ble_eq_true rfl), (Nat.le_of_ble_eq_true rfl)⟩ rfl (fun H hp hz hf => ?_)
  have h0 := h0.fr hf (fun _ _ z => z)
  have hO := hO.fr (j := 0) (by decide) hf nF.no
  refine y_if_ne C 24 dX6_put_18 (by decide) (fun _ => ?_) (fun h => absurd h (wif_t (lo := 1) (hi := 9) hm1 hm9 (by decide)))
  refine y_aload_n C 0 dX6_put_24 rfl rfl ?_
  refine y_get6 C hO.1 0 (by decide) q12 rfl rfl dX6_put_25 ?_
  refine y_get2 C (dk_0 h0) 3 (by decide) q99 rfl rfl dX6_put_28 ?_
  refine y_get5 C (dk_3 h0) 2 (by decide) q302 rfl rfl dX6_put_31 ?_
  refine y_iload_n C 1 dX6_put_34 rfl rfl ?_
  refine y_iald C (dk_6 h0) p rfl hp6 (by decide) dX6_put_35 ?_
  refine y_iload_n C 2 dX6_put_36 rfl rfl ?_
  refine y_iadd C dX6_put_37 ?_
  refine y_bipush C (99) dX6_put_38 (by decide) ?_
  refine y_icmp_le C 46 dX6_put_40 (by decide) (fun h1 => ?_) (fun h1 => ?_)
  · refine y_aload_n C 0 dX6_put_46 rfl rfl ?_
    refine y_get6 C hO.1 4 (by decide) q19 rfl rfl dX6_put_47 ?_
    refine y_aload_n C 0 dX6_put_50 rfl rfl ?_
    refine y_get6 C hO.1 0 (by decide) q12 rfl rfl dX6_put_51 ?_
    refine y_callV C [.ref (b + 1)] (c_X3_record g B0 l b X.1 X.2.1 X.2.2.1 X.2.2.2 hv.1) RX3 1 (wVin q270 q271 q272 q18 q273) hy_X3_record ⟨(Nat.le_of_ble_eq_true rfl), (Nat.le_of_ble_eq_true rfl)⟩ ⟨rfl, rfl⟩ (rcv C.2.2.2.2.2.1 hO.2.1 rfl) (hO.cl0 h0) (fun _ h => h) rfl rfl (Nat.le_of_ble_eq_true rfl) dX6_put_54 ⟨(Nat.le_of_ble_eq_true rfl), (Nat.le_of_ble_eq_true rfl)⟩ rfl (fun H hp hz hf => ?_)
    have hO : sysO 0 g b (rcX X) H := sX.ex (X := rcX X) 0 hp
    have h0 := rcX_0 (X := X) hp
    refine y_aload_n C 0 dX6_put_57 rfl rfl ?_
    refine y_get6 C hO.1 0 (by decide) q12 rfl rfl dX6_put_58 ?_
    refine y_get2 C (dk_0 h0) 3 (by decide) q99 rfl rfl dX6_put_61 ?_
    refine y_get5 C (dk_3 h0) 2 (by decide) q302 rfl rfl dX6_put_64 ?_
    refine y_iload_n C 1 dX6_put_67 rfl rfl ?_
    refine y_dup2 C dX6_put_68 rfl rfl ?_
    refine y_iald C (dk_6 h0) p rfl hp6 (by decide) dX6_put_69 ?_
    refine y_iload_n C 2 dX6_put_70 rfl rfl ?_
    refine y_iadd C dX6_put_71 ?_
    refine y_iast C (dk_6 h0) (adr_iv (j := 0) (by decide) _ (ivm 6 (by decide))) p rfl hp6 (by decide) dX6_put_72 (fun H hw1 ow1 zw1 => ?_)
    have h0 := dk_set6 h0 hw1 ow1
    have hO := hO.off (j := 0) (by decide) ow1 (ivm 6 (by decide))
    refine y_aload_n C 0 dX6_put_73 rfl rfl ?_
    refine y_get6 C hO.1 0 (by decide) q12 rfl rfl dX6_put_74 ?_
    refine y_callV C [] (c_X2_reserveParts g B0 l (b + 1) (dset (X.2.2.2 0) 6 p (((X.2.2.2 0).1 6 p) + (nI mm))) ((hv.2 0 (by decide)).1.to rfl rfl rfl rfl)) RX2 0 (wVin q303 q186 q187 q11 q188) hy_X2_reserveParts ⟨(Nat.le_of_ble_eq_true rfl), (Nat.le_of_ble_eq_true rfl)⟩ ⟨rfl, rfl⟩ (rcv C.2.2.2.2.2.1 (dk_0 h0) rfl) h0 (adr_iv (j := 0) (by decide)) rfl rfl (Nat.le_of_ble_eq_true rfl) dX6_put_77 ⟨(Nat.le_of_ble_eq_true rfl), (Nat.le_of_ble_eq_true rfl)⟩ rfl (fun H hp hz hf => ?_)
    have h0 := hp
    have hO := hO.fr (j := 0) (by decide) hf (fun _ z => z)
    refine y_aload_n C 0 dX6_put_80 rfl rfl ?_
    refine y_get6 C hO.1 0 (by decide) q12 rfl rfl dX6_put_81 ?_
    refine y_get2 C (dk_0 h0) 3 (by decide) q99 rfl rfl dX6_put_84 ?_
    refine y_get5 C (dk_3 h0) 2 (by decide) q302 rfl rfl dX6_put_87 ?_
    refine y_iload_n C 1 dX6_put_90 rfl rfl ?_
    refine y_iald C (dk_6 h0) p rfl hp6 (by decide) dX6_put_91 ?_
    exact y_iret C hr (by first | (rw [aPut, if_neg h1]; done) | (rw [aPut, if_pos h1]; rfl)) (by first | (rw [aPut, if_neg h1]; first | exact hO.cl0 h0 | exact hO.clJ (j := 0) h0) | (rw [aPut, if_pos h1]; first | exact hO.cl0 h0 | exact hO.clJ (j := 0) h0) | (rw [aPut]; first | exact hO.cl0 h0 | exact hO.clJ (j := 0) h0)) dX6_put_92
  · refine y_bipush C (-3) dX6_put_43 (by decide) ?_
    exact y_iret C hr (by first | (rw [aPut, if_neg h1]; done) | (rw [aPut, if_pos h1]; rfl)) (by first | (rw [aPut, if_neg h1]; first | exact hO.cl0 h0 | exact hO.clJ (j := 0) h0) | (rw [aPut, if_pos h1]; first | exact hO.cl0 h0 | exact hO.clJ (j := 0) h0) | (rw [aPut]; first | exact hO.cl0 h0 | exact hO.clJ (j := 0) h0)) dX6_put_45
def rm_X6_setNumber : Room := { frames := 4, cells := 0, slots := 0, locals := 81 }
set_option maxRecDepth 100000 in
set_option maxHeartbeats 4000000 in
theorem c_X6_setNumber (g : KG) (B0 : Nat) (l : Launch) (b : Nat) (X : SV) (hv : sv X) (w v : Nat) (hw5 : w < 5) (hv31 : v < 2 ^ 31) : Mt g B0 l yX6_setNumber cX6_setNumber 4 (some .int) rm_X6_setNumber [.ref b, .int (nI w), .int (nI v)] (iv b 152) (sX g b X) (some (.int (aSetN X w v).1)) (sX g b (aSetN X w v).2) 0 0 := by
  refine Mt_of RX6 (by decide) rfl [(0, .ref b), (1, .int (nI w)), (2, .int (nI v))] rfl (Nat.le_of_ble_eq_true rfl) ?_
  intro pr e s m args below meth c C hr hin hd
  have hO := hd.ex 0
  have h0 := hd.d0
  obtain ⟨t1, hZ1, hT1⟩ := stA.get C.2.2.2.2.2.1.2.2.2.2.2.2.2.1 C.2.2.2.2.2.2.1
  obtain ⟨t2, hZ2, hT2⟩ := stA.get C.2.2.2.2.2.1.2.2.2.2.2.2.2.2.1 C.2.2.2.2.2.2.1
  refine y_iload_n C 1 dX6_setNumber_0 rfl rfl ?_
  refine y_iconst C (5) dX6_setNumber_1 (by decide) ?_
  refine y_callS C [.int (nI w), .int (5 : Int32)] (c_X6_isIndex g B0 l (nI w) (5 : Int32)) 2 (wSin q141 q142 q2 q143) hs_X6_isIndex ⟨(Nat.le_of_ble_eq_true rfl), (Nat.le_of_ble_eq_true rfl)⟩ ⟨rfl, rfl⟩ trivial nF.no rfl rfl (Nat.le_of_ble_eq_true rfl) dX6_setNumber_2 ⟨(Nat.le_of_ble_eq_true rfl), (Nat.le_of_ble_eq_true rfl)⟩ rfl (fun H hp hz hf => ?_)
  have h0 := h0.fr hf (fun _ _ z => z)
  have hO := hO.fr (j := 0) (by decide) hf nF.no
  refine y_if_ne C 10 dX6_setNumber_5 (by decide) (fun _ => ?_) (fun h => absurd h (ixf_t (n := 5) hw5 (by decide)))
  refine y_iload_n C 2 dX6_setNumber_10 rfl rfl ?_
  refine y_gets C hZ1 q343 dX6_setNumber_11 ?_
  refine y_iload_n C 1 dX6_setNumber_14 rfl rfl ?_
  refine y_sld C hT1 w rfl hw5 (by decide) dX6_setNumber_15 ?_
  refine y_gets C hZ2 q344 dX6_setNumber_16 ?_
  refine y_iload_n C 1 dX6_setNumber_19 rfl rfl ?_
  refine y_sld C hT2 w rfl hw5 (by decide) dX6_setNumber_20 ?_
  refine y_callS C [.int (nI v), .int (tLN w), .int (tHN w)] (c_X6_isWithin g B0 l (nI v) (tLN w) (tHN w)) 3 (wSin q108 q109 q2 q110) hs_X6_isWithin ⟨(Nat.le_of_ble_eq_true rfl), (Nat.le_of_ble_eq_true rfl)⟩ ⟨rfl, rfl⟩ trivial nF.no rfl rfl (Nat.le_of_ble_eq_true rfl) dX6_setNumber_21 ⟨(Nat.le_of_ble_eq_true rfl), (Nat.le_of_ble_eq_true rfl)⟩ rfl (fun H hp hz hf => ?_)
  have h0 := h0.fr hf (fun _ _ z => z)
  have hO := hO.fr (j := 0) (by decide) hf nF.no
  refine y_if_ne C 30 dX6_setNumber_24 (by decide) (fun h1 => ?_) (fun h1 => ?_)
  · refine y_iload_n C 1 dX6_setNumber_30 rfl rfl ?_
    refine y_iconst C (4) dX6_setNumber_31 (by decide) ?_
    refine y_icmp_ne C 52 dX6_setNumber_32 (by decide) (fun h2 => ?_) (fun h2 => ?_)
    · refine y_aload_n C 0 dX6_setNumber_52 rfl rfl ?_
      refine y_get6 C hO.1 0 (by decide) q12 rfl rfl dX6_setNumber_53 ?_
      refine y_get2 C (dk_0 h0) 2 (by decide) q345 rfl rfl dX6_setNumber_56 ?_
      refine y_iload_n C 1 dX6_setNumber_59 rfl rfl ?_
      refine y_iald C (dk_2 h0) w rfl hw5 (by decide) dX6_setNumber_60 ?_
      refine y_istore_n C dX6_setNumber_61 rfl (by decide) rfl ?_
      refine y_iload_n C 0 dX6_setNumber_62 rfl rfl ?_
      refine y_iload_n C 3 dX6_setNumber_63 rfl rfl ?_
      refine y_icmp_ne C 70 dX6_setNumber_64 (by decide) (fun h4 => ?_) (fun h4 => ?_)
      · refine y_aload_n C 1 dX6_setNumber_70 rfl rfl ?_
        refine y_get6 C hO.1 4 (by decide) q19 rfl rfl dX6_setNumber_71 ?_
        refine y_aload_n C 1 dX6_setNumber_74 rfl rfl ?_
        refine y_get6 C hO.1 0 (by decide) q12 rfl rfl dX6_setNumber_75 ?_
        refine y_callV C [.ref (b + 1)] (c_X3_record g B0 l b X.1 X.2.1 X.2.2.1 X.2.2.2 hv.1) RX3 1 (wVin q270 q271 q272 q18 q273) hy_X3_record ⟨(Nat.le_of_ble_eq_true rfl), (Nat.le_of_ble_eq_true rfl)⟩ ⟨rfl, rfl⟩ (rcv C.2.2.2.2.2.1 hO.2.1 rfl) (hO.cl0 h0) (fun _ h => h) rfl rfl (Nat.le_of_ble_eq_true rfl) dX6_setNumber_78 ⟨(Nat.le_of_ble_eq_true rfl), (Nat.le_of_ble_eq_true rfl)⟩ rfl (fun H hp hz hf => ?_)
        have hO : sysO 0 g b (rcX X) H := sX.ex (X := rcX X) 0 hp
        have h0 := rcX_0 (X := X) hp
        refine y_aload_n C 1 dX6_setNumber_81 rfl rfl ?_
        refine y_get6 C hO.1 0 (by decide) q12 rfl rfl dX6_setNumber_82 ?_
        refine y_get2 C (dk_0 h0) 2 (by decide) q345 rfl rfl dX6_setNumber_85 ?_
        refine y_iload_n C 2 dX6_setNumber_88 rfl rfl ?_
        refine y_iload_n C 3 dX6_setNumber_89 rfl rfl ?_
        refine y_iast C (dk_2 h0) (adr_iv (j := 0) (by decide) _ (ivm 2 (by decide))) w rfl hw5 (by decide) dX6_setNumber_90 (fun H hw1 ow1 zw1 => ?_)
        have h0 := dk_set2 h0 hw1 ow1
        have hO := hO.off (j := 0) (by decide) ow1 (ivm 2 (by decide))
        refine y_iload_n C 0 dX6_setNumber_91 rfl rfl ?_
        exact y_iret C hr (by first | (rw [aSetN, if_neg h1, if_neg h2]; rw [aSetN2]; first | rw [if_pos h4] | rw [if_neg h4]) | (rw [aSetN, if_neg h1, if_pos h2]; rw [aSetN2]; first | rw [if_pos h4] | rw [if_neg h4]) | (rw [aSetN, if_pos h1, if_neg h2]; rw [aSetN2]; first | rw [if_pos h4] | rw [if_neg h4]) | (rw [aSetN, if_pos h1, if_pos h2]; rw [aSetN2]; first | rw [if_pos h4] | rw [if_neg h4]) | (rw [aSetN, if_neg h1]; rw [aSetN2]; first | rw [if_pos h4] | rw [if_neg h4]) | (rw [aSetN, if_pos h1]; rw [aSetN2]; first | rw [if_pos h4] | rw [if_neg h4]) | (rw [aSetN]; rw [aSetN2]; first | rw [if_pos h4] | rw [if_neg h4])) (by first | (rw [aSetN, if_neg h1, if_neg h2]; rw [aSetN2]; first | (rw [if_pos h4]; exact hO.cl0 h0) | (rw [if_neg h4]; exact hO.clJ (j := 0) h0)) | (rw [aSetN, if_neg h1, if_pos h2]; rw [aSetN2]; first | (rw [if_pos h4]; exact hO.cl0 h0) | (rw [if_neg h4]; exact hO.clJ (j := 0) h0)) | (rw [aSetN, if_pos h1, if_neg h2]; rw [aSetN2]; first | (rw [if_pos h4]; exact hO.cl0 h0) | (rw [if_neg h4]; exact hO.clJ (j := 0) h0)) | (rw [aSetN, if_pos h1, if_pos h2]; rw [aSetN2]; first | (rw [if_pos h4]; exact hO.cl0 h0) | (rw [if_neg h4]; exact hO.clJ (j := 0) h0)) | (rw [aSetN, if_neg h1]; rw [aSetN2]; first | (rw [if_pos h4]; exact hO.cl0 h0) | (rw [if_neg h4]; exact hO.clJ (j := 0) h0)) | (rw [aSetN, if_pos h1]; rw [aSetN2]; first | (rw [if_pos h4]; exact hO.cl0 h0) | (rw [if_neg h4]; exact hO.clJ (j := 0) h0)) | (rw [aSetN]; rw [aSetN2]; first | (rw [if_pos h4]; exact hO.cl0 h0) | (rw [if_neg h4]; exact hO.clJ (j := 0) h0))) dX6_setNumber_92
      · refine y_bipush C (-5) dX6_setNumber_67 (by decide) ?_
        exact y_iret C hr (by first | (rw [aSetN, if_neg h1, if_neg h2]; rw [aSetN2]; first | rw [if_pos h4] | rw [if_neg h4]) | (rw [aSetN, if_neg h1, if_pos h2]; rw [aSetN2]; first | rw [if_pos h4] | rw [if_neg h4]) | (rw [aSetN, if_pos h1, if_neg h2]; rw [aSetN2]; first | rw [if_pos h4] | rw [if_neg h4]) | (rw [aSetN, if_pos h1, if_pos h2]; rw [aSetN2]; first | rw [if_pos h4] | rw [if_neg h4]) | (rw [aSetN, if_neg h1]; rw [aSetN2]; first | rw [if_pos h4] | rw [if_neg h4]) | (rw [aSetN, if_pos h1]; rw [aSetN2]; first | rw [if_pos h4] | rw [if_neg h4]) | (rw [aSetN]; rw [aSetN2]; first | rw [if_pos h4] | rw [if_neg h4])) (by first | (rw [aSetN, if_neg h1, if_neg h2]; rw [aSetN2]; first | (rw [if_pos h4]; exact hO.cl0 h0) | (rw [if_neg h4]; exact hO.clJ (j := 0) h0)) | (rw [aSetN, if_neg h1, if_pos h2]; rw [aSetN2]; first | (rw [if_pos h4]; exact hO.cl0 h0) | (rw [if_neg h4]; exact hO.clJ (j := 0) h0)) | (rw [aSetN, if_pos h1, if_neg h2]; rw [aSetN2]; first | (rw [if_pos h4]; exact hO.cl0 h0) | (rw [if_neg h4]; exact hO.clJ (j := 0) h0)) | (rw [aSetN, if_pos h1, if_pos h2]; rw [aSetN2]; first | (rw [if_pos h4]; exact hO.cl0 h0) | (rw [if_neg h4]; exact hO.clJ (j := 0) h0)) | (rw [aSetN, if_neg h1]; rw [aSetN2]; first | (rw [if_pos h4]; exact hO.cl0 h0) | (rw [if_neg h4]; exact hO.clJ (j := 0) h0)) | (rw [aSetN, if_pos h1]; rw [aSetN2]; first | (rw [if_pos h4]; exact hO.cl0 h0) | (rw [if_neg h4]; exact hO.clJ (j := 0) h0)) | (rw [aSetN]; rw [aSetN2]; first | (rw [if_pos h4]; exact hO.cl0 h0) | (rw [if_neg h4]; exact hO.clJ (j := 0) h0))) dX6_setNumber_69
    · refine y_aload_n C 0 dX6_setNumber_35 rfl rfl ?_
      refine y_get6 C hO.1 0 (by decide) q12 rfl rfl dX6_setNumber_36 ?_
      refine y_get2 C (dk_0 h0) 4 (by decide) q96 rfl rfl dX6_setNumber_39 ?_
      refine y_callV C [] (c_X4_withLoaner g B0 l (b + 1) (X.2.2.2 0) (hv.2 0 (by decide)).1) RX4 0 (wVin q346 q120 q121 q43 q122) hy_X4_withLoaner ⟨(Nat.le_of_ble_eq_true rfl), (Nat.le_of_ble_eq_true rfl)⟩ ⟨rfl, rfl⟩ (rcv C.2.2.2.2.2.1 (dk_11 h0) rfl) h0 (adr_iv (j := 0) (by decide)) rfl rfl (Nat.le_of_ble_eq_true rfl) dX6_setNumber_42 ⟨(Nat.le_of_ble_eq_true rfl), (Nat.le_of_ble_eq_true rfl)⟩ rfl (fun H hp hz hf => ?_)
      have h0 := hp
      have hO := hO.fr (j := 0) (by decide) hf (fun _ z => z)
      refine y_iload_n C 2 dX6_setNumber_45 rfl rfl ?_
      refine y_icmp_le C 52 dX6_setNumber_46 (by decide) (fun h3 => ?_) (fun h3 => ?_)
      · refine y_aload_n C 0 dX6_setNumber_52 rfl rfl ?_
        refine y_get6 C hO.1 0 (by decide) q12 rfl rfl dX6_setNumber_53 ?_
        refine y_get2 C (dk_0 h0) 2 (by decide) q345 rfl rfl dX6_setNumber_56 ?_
        refine y_iload_n C 1 dX6_setNumber_59 rfl rfl ?_
        refine y_iald C (dk_2 h0) w rfl hw5 (by decide) dX6_setNumber_60 ?_
        refine y_istore_n C dX6_setNumber_61 rfl (by decide) rfl ?_
        refine y_iload_n C 0 dX6_setNumber_62 rfl rfl ?_
        refine y_iload_n C 3 dX6_setNumber_63 rfl rfl ?_
        refine y_icmp_ne C 70 dX6_setNumber_64 (by decide) (fun h4 => ?_) (fun h4 => ?_)
        · refine y_aload_n C 1 dX6_setNumber_70 rfl rfl ?_
          refine y_get6 C hO.1 4 (by decide) q19 rfl rfl dX6_setNumber_71 ?_
          refine y_aload_n C 1 dX6_setNumber_74 rfl rfl ?_
          refine y_get6 C hO.1 0 (by decide) q12 rfl rfl dX6_setNumber_75 ?_
          refine y_callV C [.ref (b + 1)] (c_X3_record g B0 l b X.1 X.2.1 X.2.2.1 X.2.2.2 hv.1) RX3 1 (wVin q270 q271 q272 q18 q273) hy_X3_record ⟨(Nat.le_of_ble_eq_true rfl), (Nat.le_of_ble_eq_true rfl)⟩ ⟨rfl, rfl⟩ (rcv C.2.2.2.2.2.1 hO.2.1 rfl) (hO.cl0 h0) (fun _ h => h) rfl rfl (Nat.le_of_ble_eq_true rfl) dX6_setNumber_78 ⟨(Nat.le_of_ble_eq_true rfl), (Nat.le_of_ble_eq_true rfl)⟩ rfl (fun H hp hz hf => ?_)
          have hO : sysO 0 g b (rcX X) H := sX.ex (X := rcX X) 0 hp
          have h0 := rcX_0 (X := X) hp
          refine y_aload_n C 1 dX6_setNumber_81 rfl rfl ?_
          refine y_get6 C hO.1 0 (by decide) q12 rfl rfl dX6_setNumber_82 ?_
          refine y_get2 C (dk_0 h0) 2 (by decide) q345 rfl rfl dX6_setNumber_85 ?_
          refine y_iload_n C 2 dX6_setNumber_88 rfl rfl ?_
          refine y_iload_n C 3 dX6_setNumber_89 rfl rfl ?_
          refine y_iast C (dk_2 h0) (adr_iv (j := 0) (by decide) _ (ivm 2 (by decide))) w rfl hw5 (by decide) dX6_setNumber_90 (fun H hw1 ow1 zw1 => ?_)
          have h0 := dk_set2 h0 hw1 ow1
          have hO := hO.off (j := 0) (by decide) ow1 (ivm 2 (by decide))
          refine y_iload_n C 0 dX6_setNumber_91 rfl rfl ?_
          exact y_iret C hr (by first | (rw [aSetN, if_neg h1, if_neg h2, if_neg h3]; rw [aSetN2]; first | rw [if_pos h4] | rw [if_neg h4]) | (rw [aSetN, if_neg h1, if_neg h2, if_pos h3]; rw [aSetN2]; first | rw [if_pos h4] | rw [if_neg h4]) | (rw [aSetN, if_neg h1, if_pos h2, if_neg h3]; rw [aSetN2]; first | rw [if_pos h4] | rw [if_neg h4]) | (rw [aSetN, if_neg h1, if_pos h2, if_pos h3]; rw [aSetN2]; first | rw [if_pos h4] | rw [if_neg h4]) | (rw [aSetN, if_pos h1, if_neg h2, if_neg h3]; rw [aSetN2]; first | rw [if_pos h4] | rw [if_neg h4]) | (rw [aSetN, if_pos h1, if_neg h2, if_pos h3]; rw [aSetN2]; first | rw [if_pos h4] | rw [if_neg h4]) | (rw [aSetN, if_pos h1, if_pos h2, if_neg h3]; rw [aSetN2]; first | rw [if_pos h4] | rw [if_neg h4]) | (rw [aSetN, if_pos h1, if_pos h2, if_pos h3]; rw [aSetN2]; first | rw [if_pos h4] | rw [if_neg h4]) | (rw [aSetN, if_neg h1, if_neg h2]; rw [aSetN2]; first | rw [if_pos h4] | rw [if_neg h4]) | (rw [aSetN, if_neg h1, if_pos h2]; rw [aSetN2]; first | rw [if_pos h4] | rw [if_neg h4]) | (rw [aSetN, if_pos h1, if_neg h2]; rw [aSetN2]; first | rw [if_pos h4] | rw [if_neg h4]) | (rw [aSetN, if_pos h1, if_pos h2]; rw [aSetN2]; first | rw [if_pos h4] | rw [if_neg h4]) | (rw [aSetN, if_neg h1]; rw [aSetN2]; first | rw [if_pos h4] | rw [if_neg h4]) | (rw [aSetN, if_pos h1]; rw [aSetN2]; first | rw [if_pos h4] | rw [if_neg h4]) | (rw [aSetN]; rw [aSetN2]; first | rw [if_pos h4] | rw [if_neg h4])) (by first | (rw [aSetN, if_neg h1, if_neg h2, if_neg h3]; rw [aSetN2]; first | (rw [if_pos h4]; exact hO.cl0 h0) | (rw [if_neg h4]; exact hO.clJ (j := 0) h0)) | (rw [aSetN, if_neg h1, if_neg h2, if_pos h3]; rw [aSetN2]; first | (rw [if_pos h4]; exact hO.cl0 h0) | (rw [if_neg h4]; exact hO.clJ (j := 0) h0)) | (rw [aSetN, if_neg h1, if_pos h2, if_neg h3]; rw [aSetN2]; first | (rw [if_pos h4]; exact hO.cl0 h0) | (rw [if_neg h4]; exact hO.clJ (j := 0) h0)) | (rw [aSetN, if_neg h1, if_pos h2, if_pos h3]; rw [aSetN2]; first | (rw [if_pos h4]; exact hO.cl0 h0) | (rw [if_neg h4]; exact hO.clJ (j := 0) h0)) | (rw [aSetN, if_pos h1, if_neg h2, if_neg h3]; rw [aSetN2]; first | (rw [if_pos h4]; exact hO.cl0 h0) | (rw [if_neg h4]; exact hO.clJ (j := 0) h0)) | (rw [aSetN, if_pos h1, if_neg h2, if_pos h3]; rw [aSetN2]; first | (rw [if_pos h4]; exact hO.cl0 h0) | (rw [if_neg h4]; exact hO.clJ (j := 0) h0)) | (rw [aSetN, if_pos h1, if_pos h2, if_neg h3]; rw [aSetN2]; first | (rw [if_pos h4]; exact hO.cl0 h0) | (rw [if_neg h4]; exact hO.clJ (j := 0) h0)) | (rw [aSetN, if_pos h1, if_pos h2, if_pos h3]; rw [aSetN2]; first | (rw [if_pos h4]; exact hO.cl0 h0) | (rw [if_neg h4]; exact hO.clJ (j := 0) h0)) | (rw [aSetN, if_neg h1, if_neg h2]; rw [aSetN2]; first | (rw [if_pos h4]; exact hO.cl0 h0) | (rw [if_neg h4]; exact hO.clJ (j := 0) h0)) | (rw [aSetN, if_neg h1, if_pos h2]; rw [aSetN2]; first | (rw [if_pos h4]; exact hO.cl0 h0) | (rw [if_neg h4]; exact hO.clJ (j := 0) h0)) | (rw [aSetN, if_pos h1, if_neg h2]; rw [aSetN2]; first | (rw [if_pos h4]; exact hO.cl0 h0) | (rw [if_neg h4]; exact hO.clJ (j := 0) h0)) | (rw [aSetN, if_pos h1, if_pos h2]; rw [aSetN2]; first | (rw [if_pos h4]; exact hO.cl0 h0) | (rw [if_neg h4]; exact hO.clJ (j := 0) h0)) | (rw [aSetN, if_neg h1]; rw [aSetN2]; first | (rw [if_pos h4]; exact hO.cl0 h0) | (rw [if_neg h4]; exact hO.clJ (j := 0) h0)) | (rw [aSetN, if_pos h1]; rw [aSetN2]; first | (rw [if_pos h4]; exact hO.cl0 h0) | (rw [if_neg h4]; exact hO.clJ (j := 0) h0)) | (rw [aSetN]; rw [aSetN2]; first | (rw [if_pos h4]; exact hO.cl0 h0) | (rw [if_neg h4]; exact hO.clJ (j := 0) h0))) dX6_setNumber_92
        · refine y_bipush C (-5) dX6_setNumber_67 (by decide) ?_
          exact y_iret C hr (by first | (rw [aSetN, if_neg h1, if_neg h2, if_neg h3]; rw [aSetN2]; first | rw [if_pos h4] | rw [if_neg h4]) | (rw [aSetN, if_neg h1, if_neg h2, if_pos h3]; rw [aSetN2]; first | rw [if_pos h4] | rw [if_neg h4]) | (rw [aSetN, if_neg h1, if_pos h2, if_neg h3]; rw [aSetN2]; first | rw [if_pos h4] | rw [if_neg h4]) | (rw [aSetN, if_neg h1, if_pos h2, if_pos h3]; rw [aSetN2]; first | rw [if_pos h4] | rw [if_neg h4]) | (rw [aSetN, if_pos h1, if_neg h2, if_neg h3]; rw [aSetN2]; first | rw [if_pos h4] | rw [if_neg h4]) | (rw [aSetN, if_pos h1, if_neg h2, if_pos h3]; rw [aSetN2]; first | rw [if_pos h4] | rw [if_neg h4]) | (rw [aSetN, if_pos h1, if_pos h2, if_neg h3]; rw [aSetN2]; first | rw [if_pos h4] | rw [if_neg h4]) | (rw [aSetN, if_pos h1, if_pos h2, if_pos h3]; rw [aSetN2]; first | rw [if_pos h4] | rw [if_neg h4]) | (rw [aSetN, if_neg h1, if_neg h2]; rw [aSetN2]; first | rw [if_pos h4] | rw [if_neg h4]) | (rw [aSetN, if_neg h1, if_pos h2]; rw [aSetN2]; first | rw [if_pos h4] | rw [if_neg h4]) | (rw [aSetN, if_pos h1, if_neg h2]; rw [aSetN2]; first | rw [if_pos h4] | rw [if_neg h4]) | (rw [aSetN, if_pos h1, if_pos h2]; rw [aSetN2]; first | rw [if_pos h4] | rw [if_neg h4]) | (rw [aSetN, if_neg h1]; rw [aSetN2]; first | rw [if_pos h4] | rw [if_neg h4]) | (rw [aSetN, if_pos h1]; rw [aSetN2]; first | rw [if_pos h4] | rw [if_neg h4]) | (rw [aSetN]; rw [aSetN2]; first | rw [if_pos h4] | rw [if_neg h4])) (by first | (rw [aSetN, if_neg h1, if_neg h2, if_neg h3]; rw [aSetN2]; first | (rw [if_pos h4]; exact hO.cl0 h0) | (rw [if_neg h4]; exact hO.clJ (j := 0) h0)) | (rw [aSetN, if_neg h1, if_neg h2, if_pos h3]; rw [aSetN2]; first | (rw [if_pos h4]; exact hO.cl0 h0) | (rw [if_neg h4]; exact hO.clJ (j := 0) h0)) | (rw [aSetN, if_neg h1, if_pos h2, if_neg h3]; rw [aSetN2]; first | (rw [if_pos h4]; exact hO.cl0 h0) | (rw [if_neg h4]; exact hO.clJ (j := 0) h0)) | (rw [aSetN, if_neg h1, if_pos h2, if_pos h3]; rw [aSetN2]; first | (rw [if_pos h4]; exact hO.cl0 h0) | (rw [if_neg h4]; exact hO.clJ (j := 0) h0)) | (rw [aSetN, if_pos h1, if_neg h2, if_neg h3]; rw [aSetN2]; first | (rw [if_pos h4]; exact hO.cl0 h0) | (rw [if_neg h4]; exact hO.clJ (j := 0) h0)) | (rw [aSetN, if_pos h1, if_neg h2, if_pos h3]; rw [aSetN2]; first | (rw [if_pos h4]; exact hO.cl0 h0) | (rw [if_neg h4]; exact hO.clJ (j := 0) h0)) | (rw [aSetN, if_pos h1, if_pos h2, if_neg h3]; rw [aSetN2]; first | (rw [if_pos h4]; exact hO.cl0 h0) | (rw [if_neg h4]; exact hO.clJ (j := 0) h0)) | (rw [aSetN, if_pos h1, if_pos h2, if_pos h3]; rw [aSetN2]; first | (rw [if_pos h4]; exact hO.cl0 h0) | (rw [if_neg h4]; exact hO.clJ (j := 0) h0)) | (rw [aSetN, if_neg h1, if_neg h2]; rw [aSetN2]; first | (rw [if_pos h4]; exact hO.cl0 h0) | (rw [if_neg h4]; exact hO.clJ (j := 0) h0)) | (rw [aSetN, if_neg h1, if_pos h2]; rw [aSetN2]; first | (rw [if_pos h4]; exact hO.cl0 h0) | (rw [if_neg h4]; exact hO.clJ (j := 0) h0)) | (rw [aSetN, if_pos h1, if_neg h2]; rw [aSetN2]; first | (rw [if_pos h4]; exact hO.cl0 h0) | (rw [if_neg h4]; exact hO.clJ (j := 0) h0)) | (rw [aSetN, if_pos h1, if_pos h2]; rw [aSetN2]; first | (rw [if_pos h4]; exact hO.cl0 h0) | (rw [if_neg h4]; exact hO.clJ (j := 0) h0)) | (rw [aSetN, if_neg h1]; rw [aSetN2]; first | (rw [if_pos h4]; exact hO.cl0 h0) | (rw [if_neg h4]; exact hO.clJ (j := 0) h0)) | (rw [aSetN, if_pos h1]; rw [aSetN2]; first | (rw [if_pos h4]; exact hO.cl0 h0) | (rw [if_neg h4]; exact hO.clJ (j := 0) h0)) | (rw [aSetN]; rw [aSetN2]; first | (rw [if_pos h4]; exact hO.cl0 h0) | (rw [if_neg h4]; exact hO.clJ (j := 0) h0))) dX6_setNumber_69
      · refine y_bipush C (-4) dX6_setNumber_49 (by decide) ?_
        exact y_iret C hr (by first | (rw [aSetN, if_neg h1, if_neg h2, if_neg h3]; done) | (rw [aSetN, if_neg h1, if_neg h2, if_pos h3]; done) | (rw [aSetN, if_neg h1, if_pos h2, if_neg h3]; done) | (rw [aSetN, if_neg h1, if_pos h2, if_pos h3]; done) | (rw [aSetN, if_pos h1, if_neg h2, if_neg h3]; done) | (rw [aSetN, if_pos h1, if_neg h2, if_pos h3]; done) | (rw [aSetN, if_pos h1, if_pos h2, if_neg h3]; done) | (rw [aSetN, if_pos h1, if_pos h2, if_pos h3]; done) | (rw [aSetN, if_neg h1, if_neg h2]; done) | (rw [aSetN, if_neg h1, if_pos h2]; done) | (rw [aSetN, if_pos h1, if_neg h2]; done) | (rw [aSetN, if_pos h1, if_pos h2]; done) | (rw [aSetN, if_neg h1]; done) | (rw [aSetN, if_pos h1]; done) | (rw [aSetN]; done)) (by first | (rw [aSetN, if_neg h1, if_neg h2, if_neg h3]; first | exact hO.cl0 h0 | exact hO.clJ (j := 0) h0) | (rw [aSetN, if_neg h1, if_neg h2, if_pos h3]; first | exact hO.cl0 h0 | exact hO.clJ (j := 0) h0) | (rw [aSetN, if_neg h1, if_pos h2, if_neg h3]; first | exact hO.cl0 h0 | exact hO.clJ (j := 0) h0) | (rw [aSetN, if_neg h1, if_pos h2, if_pos h3]; first | exact hO.cl0 h0 | exact hO.clJ (j := 0) h0) | (rw [aSetN, if_pos h1, if_neg h2, if_neg h3]; first | exact hO.cl0 h0 | exact hO.clJ (j := 0) h0) | (rw [aSetN, if_pos h1, if_neg h2, if_pos h3]; first | exact hO.cl0 h0 | exact hO.clJ (j := 0) h0) | (rw [aSetN, if_pos h1, if_pos h2, if_neg h3]; first | exact hO.cl0 h0 | exact hO.clJ (j := 0) h0) | (rw [aSetN, if_pos h1, if_pos h2, if_pos h3]; first | exact hO.cl0 h0 | exact hO.clJ (j := 0) h0) | (rw [aSetN, if_neg h1, if_neg h2]; first | exact hO.cl0 h0 | exact hO.clJ (j := 0) h0) | (rw [aSetN, if_neg h1, if_pos h2]; first | exact hO.cl0 h0 | exact hO.clJ (j := 0) h0) | (rw [aSetN, if_pos h1, if_neg h2]; first | exact hO.cl0 h0 | exact hO.clJ (j := 0) h0) | (rw [aSetN, if_pos h1, if_pos h2]; first | exact hO.cl0 h0 | exact hO.clJ (j := 0) h0) | (rw [aSetN, if_neg h1]; first | exact hO.cl0 h0 | exact hO.clJ (j := 0) h0) | (rw [aSetN, if_pos h1]; first | exact hO.cl0 h0 | exact hO.clJ (j := 0) h0) | (rw [aSetN]; first | exact hO.cl0 h0 | exact hO.clJ (j := 0) h0)) dX6_setNumber_51
  · refine y_bipush C (-2) dX6_setNumber_27 (by decide) ?_
    exact y_iret C hr (by first | (rw [aSetN, if_neg h1]; done) | (rw [aSetN, if_pos h1]; done) | (rw [aSetN]; done)) (by first | (rw [aSetN, if_neg h1]; first | exact hO.cl0 h0 | exact hO.clJ (j := 0) h0) | (rw [aSetN, if_pos h1]; first | exact hO.cl0 h0 | exact hO.clJ (j := 0) h0) | (rw [aSetN]; first | exact hO.cl0 h0 | exact hO.clJ (j := 0) h0)) dX6_setNumber_29
def rm_X6_undo : Room := { frames := 4, cells := 0, slots := 0, locals := 81 }
set_option maxRecDepth 100000 in
set_option maxHeartbeats 4000000 in
theorem c_X6_undo (g : KG) (B0 : Nat) (l : Launch) (b : Nat) (X : SV) (hv : sv X)  : Mt g B0 l yX6_undo cX6_undo 1 (some .int) rm_X6_undo [.ref b] (iv b 152) (sX g b X) (some (.int (aUndo X).1)) (sX g b (aUndo X).2) 0 0 := by
  refine Mt_of RX6 (by decide) rfl [(0, .ref b)] rfl (Nat.le_of_ble_eq_true rfl) ?_
  intro pr e s m args below meth c C hr hin hd
  have hO := hd.ex 0
  have h0 := hd.d0
  refine y_aload_n C 0 dX6_undo_0 rfl rfl ?_
  refine y_get6 C hO.1 4 (by decide) q19 rfl rfl dX6_undo_1 ?_
  refine y_get3 C hO.2.1 0 (by decide) q106 rfl rfl dX6_undo_4 ?_
  refine y_if_gt C 13 dX6_undo_7 (by decide) (fun h1 => ?_) (fun h1 => ?_)
  · refine y_aload_n C 0 dX6_undo_13 rfl rfl ?_
    refine y_get6 C hO.1 4 (by decide) q19 rfl rfl dX6_undo_14 ?_
    refine y_aload_n C 0 dX6_undo_17 rfl rfl ?_
    refine y_get6 C hO.1 0 (by decide) q12 rfl rfl dX6_undo_18 ?_
    refine y_callV C [.ref (b + 1)] (c_X3_giveBack g B0 l b X.1 X.2.1 X.2.2.1 X.2.2.2 hv.1 (Nat.pos_of_ne_zero (fun z => by rw [z] at h1; exact absurd h1 (by decide)))) RX3 1 (wVin q363 q364 q365 q18 q366) hy_X3_giveBack ⟨(Nat.le_of_ble_eq_true rfl), (Nat.le_of_ble_eq_true rfl)⟩ ⟨rfl, rfl⟩ (rcv C.2.2.2.2.2.1 hO.2.1 rfl) (hO.cl0 h0) (fun _ h => h) rfl rfl (Nat.le_of_ble_eq_true rfl) dX6_undo_21 ⟨(Nat.le_of_ble_eq_true rfl), (Nat.le_of_ble_eq_true rfl)⟩ rfl (fun H hp hz hf => ?_)
    have hX : sX g b (X.1, X.2.1 - 1, X.2.2.1, va_up X.2.2.2 0 (X.2.2.2 (3 + (X.2.2.1 + (X.2.1 - 1)) % 4))) H := hp
    have hO := hX
    refine y_aload_n C 0 dX6_undo_24 rfl rfl ?_
    refine y_get6 C hO.1 4 (by decide) q19 rfl rfl dX6_undo_25 ?_
    refine y_get3 C hO.2.1 0 (by decide) q106 rfl rfl dX6_undo_28 ?_
    exact y_iret C hr (by first | (rw [aUndo, if_neg h1]; done) | (rw [aUndo, if_pos h1]; done) | (rw [aUndo]; done)) (by rw [aUndo, if_pos h1]; exact hX) dX6_undo_31
  · refine y_bipush C (-5) dX6_undo_10 (by decide) ?_
    exact y_iret C hr (by first | (rw [aUndo, if_neg h1]; done) | (rw [aUndo, if_pos h1]; done) | (rw [aUndo]; done)) (by rw [aUndo, if_neg h1]; exact hO.cl0 h0) dX6_undo_12
def rm_X6_keep : Room := { frames := 3, cells := 0, slots := 0, locals := 60 }
set_option maxRecDepth 100000 in
set_option maxHeartbeats 4000000 in
theorem c_X6_keep (g : KG) (B0 : Nat) (l : Launch) (b : Nat) (X : SV) (hv : sv X)  : Mt g B0 l yX6_keep cX6_keep 1 (some .int) rm_X6_keep [.ref b] (iv b 152) (sX g b X) (some (.int (aKeep X).1)) (sX g b (aKeep X).2) 0 0 := by
  refine Mt_of RX6 (by decide) rfl [(0, .ref b)] rfl (Nat.le_of_ble_eq_true rfl) ?_
  intro pr e s m args below meth c C hr hin hd
  have hO := hd.ex 0
  have h0 := hd.d0
  refine y_aload_n C 0 dX6_keep_0 rfl rfl ?_
  refine y_get6 C hO.1 2 (by decide) q14 rfl rfl dX6_keep_1 ?_
  refine y_aload_n C 0 dX6_keep_4 rfl rfl ?_
  refine y_get6 C hO.1 0 (by decide) q12 rfl rfl dX6_keep_5 ?_
  refine y_callV C [.ref (b + 1)] (c_X2_copyFrom g B0 l (b + 43) (b + 1) (X.2.2.2 2) (X.2.2.2 0) (adr_no (i := 2) (j := 0) (by decide) (by decide) (by decide))) RX2 1 (wVin q144 q145 q146 q11 q147) hy_X2_copyFrom ⟨(Nat.le_of_ble_eq_true rfl), (Nat.le_of_ble_eq_true rfl)⟩ ⟨rfl, rfl⟩ (rcv C.2.2.2.2.2.1 (dk_0 (hO.cl0 h0).d2) rfl) ⟨(hO.cl0 h0).d2, h0⟩ (adr_iv (j := 2) (by decide)) rfl rfl (Nat.le_of_ble_eq_true rfl) dX6_keep_8 ⟨(Nat.le_of_ble_eq_true rfl), (Nat.le_of_ble_eq_true rfl)⟩ rfl (fun H hp hz hf => ?_)
  have hX := ((sX.ex 2 (hO.cl0 h0)).fr (j := 2) (by decide) hf (fun _ z => z)).clJ (j := 2) hp.1
  have hO := hX
  have h0 := hp.2
  refine y_aload_n C 0 dX6_keep_11 rfl rfl ?_
  refine y_iconst C (1) dX6_keep_12 (by decide) ?_
  refine y_put6 C hO.1 ⟨Nat.le_refl _, by omega⟩ 3 (by decide) q15 rfl rfl (ty := .boolean) (by decide +kernel) rfl rfl (Nat.le_of_ble_eq_true rfl) dX6_keep_13 (fun H hw1 ow1 zw1 => ?_)
  have hO : sX g b (aKeep X).2 H := sys.snap (hsn1 := 1) hX hw1 ow1
  have h0 := h0.off ow1 (by unfold iv; omega)
  refine y_aload_n C 0 dX6_keep_16 rfl rfl ?_
  refine y_get6 C hO.1 0 (by decide) q12 rfl rfl dX6_keep_17 ?_
  refine y_get2 C (dk_0 h0) 0 (by decide) q97 rfl rfl dX6_keep_20 ?_
  exact y_iret C hr rfl hO dX6_keep_23
def rm_X6_restore : Room := { frames := 4, cells := 0, slots := 0, locals := 81 }
set_option maxRecDepth 100000 in
set_option maxHeartbeats 4000000 in
theorem c_X6_restore (g : KG) (B0 : Nat) (l : Launch) (b : Nat) (X : SV) (hv : sv X)  : Mt g B0 l yX6_restore cX6_restore 1 (some .int) rm_X6_restore [.ref b] (iv b 152) (sX g b X) (some (.int (aRest X).1)) (sX g b (aRest X).2) 0 0 := by
  refine Mt_of RX6 (by decide) rfl [(0, .ref b)] rfl (Nat.le_of_ble_eq_true rfl) ?_
  intro pr e s m args below meth c C hr hin hd
  have hO := hd.ex 0
  have h0 := hd.d0
  refine y_aload_n C 0 dX6_restore_0 rfl rfl ?_
  refine y_get6 C hO.1 3 (by decide) q15 rfl rfl dX6_restore_1 ?_
  refine y_if_ne C 10 dX6_restore_4 (by decide) (fun h1 => ?_) (fun h1 => ?_)
  · refine y_aload_n C 0 dX6_restore_10 rfl rfl ?_
    refine y_get6 C hO.1 4 (by decide) q19 rfl rfl dX6_restore_11 ?_
    refine y_aload_n C 0 dX6_restore_14 rfl rfl ?_
    refine y_get6 C hO.1 0 (by decide) q12 rfl rfl dX6_restore_15 ?_
    refine y_callV C [.ref (b + 1)] (c_X3_record g B0 l b X.1 X.2.1 X.2.2.1 X.2.2.2 hv.1) RX3 1 (wVin q270 q271 q272 q18 q273) hy_X3_record ⟨(Nat.le_of_ble_eq_true rfl), (Nat.le_of_ble_eq_true rfl)⟩ ⟨rfl, rfl⟩ (rcv C.2.2.2.2.2.1 hO.2.1 rfl) (hO.cl0 h0) (fun _ h => h) rfl rfl (Nat.le_of_ble_eq_true rfl) dX6_restore_18 ⟨(Nat.le_of_ble_eq_true rfl), (Nat.le_of_ble_eq_true rfl)⟩ rfl (fun H hp hz hf => ?_)
    have hO : sysO 0 g b (rcX X) H := sX.ex (X := rcX X) 0 hp
    have h0 := rcX_0 (X := X) hp
    refine y_aload_n C 0 dX6_restore_21 rfl rfl ?_
    refine y_get6 C hO.1 0 (by decide) q12 rfl rfl dX6_restore_22 ?_
    refine y_aload_n C 0 dX6_restore_25 rfl rfl ?_
    refine y_get6 C hO.1 2 (by decide) q14 rfl rfl dX6_restore_26 ?_
    refine y_callV C [.ref (b + 43)] (c_X2_copyFrom g B0 l (b + 1) (b + 43) (X.2.2.2 0) ((rcX X).2.2.2 2) (adr_no (i := 0) (j := 2) (by decide) (by decide) (by decide))) RX2 1 (wVin q144 q145 q146 q11 q147) hy_X2_copyFrom ⟨(Nat.le_of_ble_eq_true rfl), (Nat.le_of_ble_eq_true rfl)⟩ ⟨rfl, rfl⟩ (rcv C.2.2.2.2.2.1 (dk_0 h0) rfl) ⟨h0, hO.2.2.2 2 (by decide) (by decide)⟩ (adr_iv (j := 0) (by decide)) rfl rfl (Nat.le_of_ble_eq_true rfl) dX6_restore_29 ⟨(Nat.le_of_ble_eq_true rfl), (Nat.le_of_ble_eq_true rfl)⟩ rfl (fun H hp hz hf => ?_)
    have h0 := hp.1
    have hO := hO.fr (j := 0) (by decide) hf (fun _ z => z)
    refine y_aload_n C 0 dX6_restore_32 rfl rfl ?_
    refine y_get6 C hO.1 0 (by decide) q12 rfl rfl dX6_restore_33 ?_
    refine y_get2 C (dk_0 h0) 0 (by decide) q97 rfl rfl dX6_restore_36 ?_
    exact y_iret C hr (by first | (rw [aRest, if_neg h1]; done) | (rw [aRest, if_pos h1]; done) | (rw [aRest]; done)) (by first | (rw [aRest, if_neg h1]; first | exact hO.cl0 h0 | exact hO.clJ (j := 0) h0) | (rw [aRest, if_pos h1]; first | exact hO.cl0 h0 | exact hO.clJ (j := 0) h0) | (rw [aRest]; first | exact hO.cl0 h0 | exact hO.clJ (j := 0) h0)) dX6_restore_39
  · refine y_bipush C (-5) dX6_restore_7 (by decide) ?_
    exact y_iret C hr (by first | (rw [aRest, if_neg h1]; done) | (rw [aRest, if_pos h1]; done) | (rw [aRest]; done)) (by first | (rw [aRest, if_neg h1]; first | exact hO.cl0 h0 | exact hO.clJ (j := 0) h0) | (rw [aRest, if_pos h1]; first | exact hO.cl0 h0 | exact hO.clJ (j := 0) h0) | (rw [aRest]; first | exact hO.cl0 h0 | exact hO.clJ (j := 0) h0)) dX6_restore_9
end
