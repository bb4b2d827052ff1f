section
-- ===== PART A: goes FIRST, ahead of the names: the tables' words, and 'selects' of the private methods out of them =====
/-- a private method of a class that the tables say can be made, by its rows of tables_1 -/
def lw_okq (q : MethodName × Nat) : Prop := (q.1.cls ≠ "java/lang/invoke/MethodHandle" ∧ q.1.cls ≠ "java/lang/invoke/VarHandle") ∧ Cond.instantiable q.1.cls q.2 ∈ tables_1 ∧ Cond.privateMethod q.1 ∈ tables_1 ∧ Cond.instanceMethod q.1 ∈ tables_1
theorem lw_p0 : lw_okq (⟨"SetRepairs", "isSet", "(I)Z"⟩, 6) := ⟨⟨by decide +kernel, by decide +kernel⟩, List.mem_of_getElem? (i := 11) (by decide +kernel), List.mem_of_getElem? (i := 241) (by decide +kernel), List.mem_of_getElem? (i := 242) (by decide +kernel)⟩
theorem lw_p1 : lw_okq (⟨"SetRepairs$Desk", "takeOrders", "()V"⟩, 6) := ⟨⟨by decide +kernel, by decide +kernel⟩, List.mem_of_getElem? (i := 19) (by decide +kernel), List.mem_of_getElem? (i := 285) (by decide +kernel), List.mem_of_getElem? (i := 286) (by decide +kernel)⟩
theorem lw_p2 : lw_okq (⟨"SetRepairs$Desk", "reservePartsWhere", "(I)V"⟩, 6) := ⟨⟨by decide +kernel, by decide +kernel⟩, List.mem_of_getElem? (i := 19) (by decide +kernel), List.mem_of_getElem? (i := 293) (by decide +kernel), List.mem_of_getElem? (i := 294) (by decide +kernel)⟩
theorem lw_p3 : lw_okq (⟨"SetRepairs$Desk", "workWhere", "(II)I"⟩, 6) := ⟨⟨by decide +kernel, by decide +kernel⟩, List.mem_of_getElem? (i := 19) (by decide +kernel), List.mem_of_getElem? (i := 322) (by decide +kernel), List.mem_of_getElem? (i := 323) (by decide +kernel)⟩
theorem lw_p4 : lw_okq (⟨"SetRepairs$Desk", "finish", "(I)V"⟩, 6) := ⟨⟨by decide +kernel, by decide +kernel⟩, List.mem_of_getElem? (i := 19) (by decide +kernel), List.mem_of_getElem? (i := 331) (by decide +kernel), List.mem_of_getElem? (i := 332) (by decide +kernel)⟩
theorem lw_p5 : lw_okq (⟨"SetRepairs$Desk", "sellUnclaimed", "()V"⟩, 6) := ⟨⟨by decide +kernel, by decide +kernel⟩, List.mem_of_getElem? (i := 19) (by decide +kernel), List.mem_of_getElem? (i := 347) (by decide +kernel), List.mem_of_getElem? (i := 348) (by decide +kernel)⟩
theorem lw_p6 : lw_okq (⟨"SetRepairs$History", "dropOldest", "()V"⟩, 2) := ⟨⟨by decide +kernel, by decide +kernel⟩, List.mem_of_getElem? (i := 186) (by decide +kernel), List.mem_of_getElem? (i := 455) (by decide +kernel), List.mem_of_getElem? (i := 456) (by decide +kernel)⟩
def lw_privs_1 : List (MethodName × Nat) := [(⟨"SetRepairs", "isSet", "(I)Z"⟩, 6), (⟨"SetRepairs$Desk", "takeOrders", "()V"⟩, 6), (⟨"SetRepairs$Desk", "reservePartsWhere", "(I)V"⟩, 6), (⟨"SetRepairs$Desk", "workWhere", "(II)I"⟩, 6), (⟨"SetRepairs$Desk", "finish", "(I)V"⟩, 6), (⟨"SetRepairs$Desk", "sellUnclaimed", "()V"⟩, 6), (⟨"SetRepairs$History", "dropOldest", "()V"⟩, 2)]
theorem lw_r1 : ∀ q ∈ lw_privs_1, lw_okq q := List.forall_mem_cons.mpr ⟨lw_p0, List.forall_mem_cons.mpr ⟨lw_p1, List.forall_mem_cons.mpr ⟨lw_p2, List.forall_mem_cons.mpr ⟨lw_p3, List.forall_mem_cons.mpr ⟨lw_p4, List.forall_mem_cons.mpr ⟨lw_p5, List.forall_mem_cons.mpr ⟨lw_p6, fun _ h => absurd h List.not_mem_nil⟩⟩⟩⟩⟩⟩⟩
def lw_privs : List (MethodName × Nat) := lw_privs_1
def lw_tbl : List Cond := k2_sels lw_privs ++ tables_1
theorem lw_privs_ok : ∀ q ∈ lw_privs, lw_okq q := lw_r1
/-- the streams that the claim lets the run draw from -/
abbrev lw_cs : List Choice := [Jvm.Choice.named "NaN.bits"]
theorem lw_bits : nanBits ∈ lw_cs := by first | decide | exact List.mem_cons_self | simp [lw_cs, nanBits]

/-! ===== BEGIN words of one list among another's, by their places ===== -/
theorem goodIn_r {big : List Cond} (ws : List Cond) (ps : List Nat) (hp : ws = ps.filterMap (fun i => big[i]?)) (h : ws.all goodWord = true) : GoodIn big ws := by
  intro w hw
  have h1 := List.all_eq_true.mp h w hw
  rw [hp] at hw
  obtain ⟨i, -, hi⟩ := List.mem_filterMap.mp hw
  have hm : w ∈ big := by first | exact List.mem_of_getElem? hi | exact List.getElem?_mem hi
  exact ⟨hm, good_of_word h1⟩
theorem goodIn_app {big a b : List Cond} (ha : GoodIn big a) (hb : GoodIn big b) : GoodIn big (a ++ b) := fun w h => (List.mem_append.mp h).elim (ha w) (hb w)
theorem goodIn_ca {big a b : List Cond} {c : Cond} (ha : GoodIn big (c :: a)) (hb : GoodIn big b) : GoodIn big (c :: (a ++ b)) := fun w h => (List.mem_cons.mp h).elim (fun e => ha w (List.mem_cons.mpr (Or.inl e))) (fun h => (List.mem_append.mp h).elim (fun h => ha w (List.mem_cons.mpr (Or.inr h))) (hb w))
theorem goodIn_sub {big ws : List Cond} (hm : ∀ w ∈ ws, w ∈ big) (h : ws.all goodWord = true) : GoodIn big ws := fun w hw => ⟨hm w hw, good_of_word (List.all_eq_true.mp h w hw)⟩
/-! ===== END ===== -/

/-! ===== BEGIN printed: names, fields, word lists, decode rows ===== -/
def RX0 : String := "SetRepairs$AnswerText"
def TX0 : u_T := fun k => match k with
  | 0 => ("SetRepairs$AnswerText", "length", "I", false)
  | _ => ("SetRepairs$AnswerText", "characters", "[C", true)
def tyX0 : Nat → FieldType := fun k => match k with
  | 0 => .int
  | _ => .array .char
abbrev wsX00 : List Cond := u_ws RX0 TX0 2
theorem nmX0 : ∀ a, a < 2 → ∀ b, b < 2 → a ≠ b → (TX0 a).2.1 ≠ (TX0 b).2.1 := by decide +kernel
theorem tyX0_ok : ∀ k, k < 2 → parseFieldDescriptor (TX0 k).2.2.1 = some (tyX0 k) := by decide +kernel
abbrev cX0_init : ByteArray := prog_2_method_1_code
def yX0_init : MethodName := ⟨RX0, "<init>", "()V"⟩
def RX1 : String := "SetRepairs$Books"
def TX1 : u_T := fun k => match k with
  | 0 => ("SetRepairs$Books", "billsPaid", "I", false)
  | 1 => ("SetRepairs$Books", "feesPaid", "I", false)
  | 2 => ("SetRepairs$Books", "soldFor", "I", false)
  | 3 => ("SetRepairs$Books", "partsBuiltIn", "I", false)
  | 4 => ("SetRepairs$Books", "setsDone", "I", false)
  | _ => ("SetRepairs$Books", "daysToDone", "I", false)
def tyX1 : Nat → FieldType := fun k => match k with
  | 0 => .int
  | 1 => .int
  | 2 => .int
  | 3 => .int
  | 4 => .int
  | _ => .int
abbrev wsX10 : List Cond := u_ws RX1 TX1 6
theorem nmX1 : ∀ a, a < 6 → ∀ b, b < 6 → a ≠ b → (TX1 a).2.1 ≠ (TX1 b).2.1 := by decide +kernel
theorem tyX1_ok : ∀ k, k < 6 → parseFieldDescriptor (TX1 k).2.2.1 = some (tyX1 k) := by decide +kernel
abbrev cX1_init : ByteArray := prog_3_method_1_code
def yX1_init : MethodName := ⟨RX1, "<init>", "()V"⟩
abbrev cX1_copyFrom : ByteArray := prog_3_method_2_code
def yX1_copyFrom : MethodName := ⟨RX1, "copyFrom", "(LSetRepairs$Books;)V"⟩
def RX2 : String := "SetRepairs$Desk"
def TX2 : u_T := fun k => match k with
  | 0 => ("SetRepairs$Desk", "day", "I", false)
  | 1 => ("SetRepairs$Desk", "rates", "[F", true)
  | 2 => ("SetRepairs$Desk", "numbers", "[I", true)
  | 3 => ("SetRepairs$Desk", "store", "LSetRepairs$Store;", true)
  | 4 => ("SetRepairs$Desk", "sets", "LSetRepairs$Sets;", true)
  | _ => ("SetRepairs$Desk", "books", "LSetRepairs$Books;", true)
def tyX2 : Nat → FieldType := fun k => match k with
  | 0 => .int
  | 1 => .array .float
  | 2 => .array .int
  | 3 => .object "SetRepairs$Store"
  | 4 => .object "SetRepairs$Sets"
  | _ => .object "SetRepairs$Books"
abbrev wsX20 : List Cond := u_ws RX2 TX2 6
theorem nmX2 : ∀ a, a < 6 → ∀ b, b < 6 → a ≠ b → (TX2 a).2.1 ≠ (TX2 b).2.1 := by decide +kernel
theorem tyX2_ok : ∀ k, k < 6 → parseFieldDescriptor (TX2 k).2.2.1 = some (tyX2 k) := by decide +kernel
abbrev cX2_init : ByteArray := prog_4_method_1_code
def yX2_init : MethodName := ⟨RX2, "<init>", "()V"⟩
abbrev cX2_copyFrom : ByteArray := prog_4_method_2_code
def yX2_copyFrom : MethodName := ⟨RX2, "copyFrom", "(LSetRepairs$Desk;)V"⟩
abbrev cX2_costNow : ByteArray := prog_4_method_3_code
def yX2_costNow : MethodName := ⟨RX2, "costNow", "(I)I"⟩
abbrev cX2_loanersThere : ByteArray := prog_4_method_4_code
def yX2_loanersThere : MethodName := ⟨RX2, "loanersThere", "()I"⟩
abbrev cX2_storageFee : ByteArray := prog_4_method_5_code
def yX2_storageFee : MethodName := ⟨RX2, "storageFee", "(I)I"⟩
abbrev cX2_lackingOf : ByteArray := prog_4_method_6_code
def yX2_lackingOf : MethodName := ⟨RX2, "lackingOf", "(I)I"⟩
abbrev cX2_decide : ByteArray := prog_4_method_7_code
def yX2_decide : MethodName := ⟨RX2, "decide", "(IZ)V"⟩
abbrev cX2_reserveParts : ByteArray := prog_4_method_8_code
def yX2_reserveParts : MethodName := ⟨RX2, "reserveParts", "()V"⟩
abbrev cX2_reservePartsWhere : ByteArray := prog_4_method_9_code
def yX2_reservePartsWhere : MethodName := ⟨RX2, "reservePartsWhere", "(I)V"⟩
abbrev cX2_handOver : ByteArray := prog_4_method_10_code
def yX2_handOver : MethodName := ⟨RX2, "handOver", "(I)I"⟩
abbrev cX2_passDay : ByteArray := prog_4_method_11_code
def yX2_passDay : MethodName := ⟨RX2, "passDay", "()V"⟩
abbrev cX2_takeOrders : ByteArray := prog_4_method_12_code
def yX2_takeOrders : MethodName := ⟨RX2, "takeOrders", "()V"⟩
abbrev cX2_workWhere : ByteArray := prog_4_method_13_code
def yX2_workWhere : MethodName := ⟨RX2, "workWhere", "(II)I"⟩
abbrev cX2_finish : ByteArray := prog_4_method_14_code
def yX2_finish : MethodName := ⟨RX2, "finish", "(I)V"⟩
abbrev cX2_sellUnclaimed : ByteArray := prog_4_method_15_code
def yX2_sellUnclaimed : MethodName := ⟨RX2, "sellUnclaimed", "()V"⟩
def RX3 : String := "SetRepairs$History"
def TX3 : u_T := fun k => match k with
  | 0 => ("SetRepairs$History", "many", "I", false)
  | _ => ("SetRepairs$History", "states", "[LSetRepairs$Desk;", true)
def tyX3 : Nat → FieldType := fun k => match k with
  | 0 => .int
  | _ => .array (.object "SetRepairs$Desk")
abbrev wsX30 : List Cond := u_ws RX3 TX3 2
theorem nmX3 : ∀ a, a < 2 → ∀ b, b < 2 → a ≠ b → (TX3 a).2.1 ≠ (TX3 b).2.1 := by decide +kernel
theorem tyX3_ok : ∀ k, k < 2 → parseFieldDescriptor (TX3 k).2.2.1 = some (tyX3 k) := by decide +kernel
abbrev cX3_init : ByteArray := prog_5_method_1_code
def yX3_init : MethodName := ⟨RX3, "<init>", "()V"⟩
abbrev cX3_record : ByteArray := prog_5_method_2_code
def yX3_record : MethodName := ⟨RX3, "record", "(LSetRepairs$Desk;)V"⟩
abbrev cX3_dropOldest : ByteArray := prog_5_method_3_code
def yX3_dropOldest : MethodName := ⟨RX3, "dropOldest", "()V"⟩
abbrev cX3_giveBack : ByteArray := prog_5_method_4_code
def yX3_giveBack : MethodName := ⟨RX3, "giveBack", "(LSetRepairs$Desk;)V"⟩
def RX4 : String := "SetRepairs$Sets"
def TX4 : u_T := fun k => match k with
  | 0 => ("SetRepairs$Sets", "many", "I", false)
  | 1 => ("SetRepairs$Sets", "fault", "[I", true)
  | 2 => ("SetRepairs$Sets", "came", "[I", true)
  | 3 => ("SetRepairs$Sets", "estimate", "[I", true)
  | 4 => ("SetRepairs$Sets", "worked", "[I", true)
  | 5 => ("SetRepairs$Sets", "bill", "[I", true)
  | 6 => ("SetRepairs$Sets", "loaner", "[I", true)
  | 7 => ("SetRepairs$Sets", "state", "[I", true)
  | _ => ("SetRepairs$Sets", "ready", "[I", true)
def tyX4 : Nat → FieldType := fun k => match k with
  | 0 => .int
  | 1 => .array .int
  | 2 => .array .int
  | 3 => .array .int
  | 4 => .array .int
  | 5 => .array .int
  | 6 => .array .int
  | 7 => .array .int
  | _ => .array .int
abbrev wsX40 : List Cond := u_ws RX4 TX4 9
theorem nmX4 : ∀ a, a < 9 → ∀ b, b < 9 → a ≠ b → (TX4 a).2.1 ≠ (TX4 b).2.1 := by decide +kernel
theorem tyX4_ok : ∀ k, k < 9 → parseFieldDescriptor (TX4 k).2.2.1 = some (tyX4 k) := by decide +kernel
abbrev cX4_init : ByteArray := prog_6_method_1_code
def yX4_init : MethodName := ⟨RX4, "<init>", "()V"⟩
abbrev cX4_copyFrom : ByteArray := prog_6_method_2_code
def yX4_copyFrom : MethodName := ⟨RX4, "copyFrom", "(LSetRepairs$Sets;)V"⟩
abbrev cX4_add : ByteArray := prog_6_method_3_code
def yX4_add : MethodName := ⟨RX4, "add", "(II)I"⟩
abbrev cX4_isReady : ByteArray := prog_6_method_5_code
def yX4_isReady : MethodName := ⟨RX4, "isReady", "(I)Z"⟩
abbrev cX4_isTurnOf : ByteArray := prog_6_method_6_code
def yX4_isTurnOf : MethodName := ⟨RX4, "isTurnOf", "(III)Z"⟩
abbrev cX4_inState : ByteArray := prog_6_method_7_code
def yX4_inState : MethodName := ⟨RX4, "inState", "(I)I"⟩
abbrev cX4_withLoaner : ByteArray := prog_6_method_8_code
def yX4_withLoaner : MethodName := ⟨RX4, "withLoaner", "()I"⟩
def RX5 : String := "SetRepairs$Store"
def TX5 : u_T := fun k => match k with
  | 0 => ("SetRepairs$Store", "price", "[I", true)
  | 1 => ("SetRepairs$Store", "lead", "[I", true)
  | 2 => ("SetRepairs$Store", "stock", "[I", true)
  | 3 => ("SetRepairs$Store", "reserved", "[I", true)
  | 4 => ("SetRepairs$Store", "orders", "I", false)
  | 5 => ("SetRepairs$Store", "orderPart", "[I", true)
  | 6 => ("SetRepairs$Store", "orderMany", "[I", true)
  | _ => ("SetRepairs$Store", "orderDay", "[I", true)
def tyX5 : Nat → FieldType := fun k => match k with
  | 0 => .array .int
  | 1 => .array .int
  | 2 => .array .int
  | 3 => .array .int
  | 4 => .int
  | 5 => .array .int
  | 6 => .array .int
  | _ => .array .int
abbrev wsX50 : List Cond := u_ws RX5 TX5 8
theorem nmX5 : ∀ a, a < 8 → ∀ b, b < 8 → a ≠ b → (TX5 a).2.1 ≠ (TX5 b).2.1 := by decide +kernel
theorem tyX5_ok : ∀ k, k < 8 → parseFieldDescriptor (TX5 k).2.2.1 = some (tyX5 k) := by decide +kernel
abbrev cX5_init : ByteArray := prog_7_method_1_code
def yX5_init : MethodName := ⟨RX5, "<init>", "()V"⟩
abbrev cX5_copyFrom : ByteArray := prog_7_method_2_code
def yX5_copyFrom : MethodName := ⟨RX5, "copyFrom", "(LSetRepairs$Store;)V"⟩
abbrev cX5_needOf : ByteArray := prog_7_method_3_code
def yX5_needOf : MethodName := ⟨RX5, "needOf", "(II)I"⟩
abbrev cX5_priceOfParts : ByteArray := prog_7_method_4_code
def yX5_priceOfParts : MethodName := ⟨RX5, "priceOfParts", "(I)I"⟩
abbrev cX5_free : ByteArray := prog_7_method_5_code
def yX5_free : MethodName := ⟨RX5, "free", "(I)I"⟩
abbrev cX5_onOrder : ByteArray := prog_7_method_6_code
def yX5_onOrder : MethodName := ⟨RX5, "onOrder", "(I)I"⟩
abbrev cX5_lowestShort : ByteArray := prog_7_method_7_code
def yX5_lowestShort : MethodName := ⟨RX5, "lowestShort", "(I)I"⟩
abbrev cX5_isEnoughOrdered : ByteArray := prog_7_method_8_code
def yX5_isEnoughOrdered : MethodName := ⟨RX5, "isEnoughOrdered", "(I)Z"⟩
abbrev cX5_reserveFor : ByteArray := prog_7_method_9_code
def yX5_reserveFor : MethodName := ⟨RX5, "reserveFor", "(I)V"⟩
abbrev cX5_takeReservedFor : ByteArray := prog_7_method_10_code
def yX5_takeReservedFor : MethodName := ⟨RX5, "takeReservedFor", "(I)V"⟩
abbrev cX5_addOrder : ByteArray := prog_7_method_11_code
def yX5_addOrder : MethodName := ⟨RX5, "addOrder", "(III)V"⟩
abbrev cX5_dropOrdersOf : ByteArray := prog_7_method_12_code
def yX5_dropOrdersOf : MethodName := ⟨RX5, "dropOrdersOf", "(I)V"⟩
def RX6 : String := "SetRepairs"
def TX6 : u_T := fun k => match k with
  | 0 => ("SetRepairs", "desk", "LSetRepairs$Desk;", true)
  | 1 => ("SetRepairs", "trial", "LSetRepairs$Desk;", true)
  | 2 => ("SetRepairs", "snapshot", "LSetRepairs$Desk;", true)
  | 3 => ("SetRepairs", "hasSnapshot", "Z", false)
  | 4 => ("SetRepairs", "history", "LSetRepairs$History;", true)
  | _ => ("SetRepairs", "text", "LSetRepairs$AnswerText;", true)
def tyX6 : Nat → FieldType := fun k => match k with
  | 0 => .object "SetRepairs$Desk"
  | 1 => .object "SetRepairs$Desk"
  | 2 => .object "SetRepairs$Desk"
  | 3 => .boolean
  | 4 => .object "SetRepairs$History"
  | _ => .object "SetRepairs$AnswerText"
abbrev wsX60 : List Cond := u_ws RX6 TX6 6
theorem nmX6 : ∀ a, a < 6 → ∀ b, b < 6 → a ≠ b → (TX6 a).2.1 ≠ (TX6 b).2.1 := by decide +kernel
theorem tyX6_ok : ∀ k, k < 6 → parseFieldDescriptor (TX6 k).2.2.1 = some (tyX6 k) := by decide +kernel
abbrev cX6_init : ByteArray := prog_1_method_1_code
def yX6_init : MethodName := ⟨RX6, "<init>", "()V"⟩
abbrev cX6_setRate : ByteArray := prog_1_method_2_code
def yX6_setRate : MethodName := ⟨RX6, "setRate", "(II)I"⟩
abbrev cX6_setNumber : ByteArray := prog_1_method_3_code
def yX6_setNumber : MethodName := ⟨RX6, "setNumber", "(II)I"⟩
abbrev cX6_setPart : ByteArray := prog_1_method_4_code
def yX6_setPart : MethodName := ⟨RX6, "setPart", "(III)I"⟩
abbrev cX6_order : ByteArray := prog_1_method_5_code
def yX6_order : MethodName := ⟨RX6, "order", "(II)I"⟩
abbrev cX6_put : ByteArray := prog_1_method_6_code
def yX6_put : MethodName := ⟨RX6, "put", "(II)I"⟩
abbrev cX6_come : ByteArray := prog_1_method_7_code
def yX6_come : MethodName := ⟨RX6, "come", "(I)I"⟩
abbrev cX6_estimate : ByteArray := prog_1_method_8_code
def yX6_estimate : MethodName := ⟨RX6, "estimate", "(I)I"⟩
abbrev cX6_answer : ByteArray := prog_1_method_9_code
def yX6_answer : MethodName := ⟨RX6, "answer", "(IZ)I"⟩
abbrev cX6_lend : ByteArray := prog_1_method_11_code
def yX6_lend : MethodName := ⟨RX6, "lend", "(I)I"⟩
abbrev cX6_collect : ByteArray := prog_1_method_12_code
def yX6_collect : MethodName := ⟨RX6, "collect", "(I)I"⟩
abbrev cX6_pass : ByteArray := prog_1_method_13_code
def yX6_pass : MethodName := ⟨RX6, "pass", "(I)I"⟩
abbrev cX6_undo : ByteArray := prog_1_method_16_code
def yX6_undo : MethodName := ⟨RX6, "undo", "()I"⟩
abbrev cX6_keep : ByteArray := prog_1_method_17_code
def yX6_keep : MethodName := ⟨RX6, "keep", "()I"⟩
abbrev cX6_restore : ByteArray := prog_1_method_18_code
def yX6_restore : MethodName := ⟨RX6, "restore", "()I"⟩
abbrev cX6_rate : ByteArray := prog_1_method_19_code
def yX6_rate : MethodName := ⟨RX6, "rate", "(I)F"⟩
abbrev cX6_number : ByteArray := prog_1_method_20_code
def yX6_number : MethodName := ⟨RX6, "number", "(I)I"⟩
abbrev cX6_part : ByteArray := prog_1_method_21_code
def yX6_part : MethodName := ⟨RX6, "part", "(II)I"⟩
abbrev cX6_costOf : ByteArray := prog_1_method_22_code
def yX6_costOf : MethodName := ⟨RX6, "costOf", "(I)I"⟩
abbrev cX6_set : ByteArray := prog_1_method_23_code
def yX6_set : MethodName := ⟨RX6, "set", "(II)I"⟩
abbrev cX6_waitsFor : ByteArray := prog_1_method_24_code
def yX6_waitsFor : MethodName := ⟨RX6, "waitsFor", "(I)I"⟩
abbrev cX6_lacks : ByteArray := prog_1_method_25_code
def yX6_lacks : MethodName := ⟨RX6, "lacks", "(I)I"⟩
abbrev cX6_doneIn : ByteArray := prog_1_method_26_code
def yX6_doneIn : MethodName := ⟨RX6, "doneIn", "(I)I"⟩
abbrev cX6_meanDays : ByteArray := prog_1_method_27_code
def yX6_meanDays : MethodName := ⟨RX6, "meanDays", "()F"⟩
abbrev cX6_count : ByteArray := prog_1_method_28_code
def yX6_count : MethodName := ⟨RX6, "count", "(I)I"⟩
abbrev cX6_isIndex : ByteArray := prog_1_method_29_code
def yX6_isIndex : MethodName := ⟨RX6, "isIndex", "(II)Z"⟩
abbrev cX6_isWithin : ByteArray := prog_1_method_30_code
def yX6_isWithin : MethodName := ⟨RX6, "isWithin", "(III)Z"⟩
abbrev cX6_isSet : ByteArray := prog_1_method_31_code
def yX6_isSet : MethodName := ⟨RX6, "isSet", "(I)Z"⟩
abbrev cX6_floatOf : ByteArray := prog_1_method_32_code
def yX6_floatOf : MethodName := ⟨RX6, "floatOf", "(I)F"⟩
def RX7 : String := "SetRepairsModel"
def TX7 : u_T := fun k => match k with
  | _ => ("", "", "", false)
def tyX7 : Nat → FieldType := fun k => match k with
  | _ => .int
abbrev wsX70 : List Cond := u_ws RX7 TX7 0
theorem nmX7 : ∀ a, a < 0 → ∀ b, b < 0 → a ≠ b → (TX7 a).2.1 ≠ (TX7 b).2.1 := by decide +kernel
theorem tyX7_ok : ∀ k, k < 0 → parseFieldDescriptor (TX7 k).2.2.1 = some (tyX7 k) := by decide +kernel
def RJ9 : String := "java/lang/Math"
def TJ9 : u_T := fun k => match k with
  | _ => ("", "", "", false)
def tyJ9 : Nat → FieldType := fun k => match k with
  | _ => .int
abbrev wsJ90 : List Cond := u_ws RJ9 TJ9 0
theorem nmJ9 : ∀ a, a < 0 → ∀ b, b < 0 → a ≠ b → (TJ9 a).2.1 ≠ (TJ9 b).2.1 := by decide +kernel
theorem tyJ9_ok : ∀ k, k < 0 → parseFieldDescriptor (TJ9 k).2.2.1 = some (tyJ9 k) := by decide +kernel
abbrev cJ9_max_7cf53 : ByteArray := prog_10_method_65_code
def yJ9_max_7cf53 : MethodName := ⟨RJ9, "max", "(II)I"⟩
abbrev cJ9_min_7cf53 : ByteArray := prog_10_method_69_code
def yJ9_min_7cf53 : MethodName := ⟨RJ9, "min", "(II)I"⟩
def RJ10 : String := "java/lang/System"
def TJ10 : u_T := fun k => match k with
  | _ => ("", "", "", false)
def tyJ10 : Nat → FieldType := fun k => match k with
  | _ => .int
abbrev wsJ100 : List Cond := u_ws RJ10 TJ10 0
theorem nmJ10 : ∀ a, a < 0 → ∀ b, b < 0 → a ≠ b → (TJ10 a).2.1 ≠ (TJ10 b).2.1 := by decide +kernel
theorem tyJ10_ok : ∀ k, k < 0 → parseFieldDescriptor (TJ10 k).2.2.1 = some (tyJ10 k) := by decide +kernel
def RL : String := "SetRepairsLaw"
abbrev cL_low : ByteArray := method_2_code
def yL_low : MethodName := ⟨RL, "low", "(II)I"⟩
abbrev cL_cell : ByteArray := method_3_code
def yL_cell : MethodName := ⟨RL, "cell", "([II)I"⟩
abbrev cL_need : ByteArray := method_4_code
def yL_need : MethodName := ⟨RL, "need", "(II)I"⟩
abbrev cL_hours : ByteArray := method_5_code
def yL_hours : MethodName := ⟨RL, "hours", "(I)I"⟩
abbrev cL_prices : ByteArray := method_6_code
def yL_prices : MethodName := ⟨RL, "prices", "(LSetRepairs;I)I"⟩
abbrev cL_cost : ByteArray := method_7_code
def yL_cost : MethodName := ⟨RL, "cost", "(LSetRepairs;I)I"⟩
abbrev cL_desk : ByteArray := method_8_code
def yL_desk : MethodName := ⟨RL, "desk", "(LSetRepairs;)Z"⟩
abbrev cL_act : ByteArray := method_9_code
def yL_act : MethodName := ⟨RL, "act", "(LSetRepairs;[II)I"⟩
abbrev cL_law : ByteArray := code
def yL_law : MethodName := ⟨RL, "law", "([I)Z"⟩
def wsL_law_r1 : List Cond := [Cond.classLink RL 16 RX6, Cond.instantiable RX6 6, Cond.initialized RX6, Cond.methodLink RL 114 yX6_init, Cond.instanceMethod yX6_init, Cond.code yX6_init cX6_init 1 none, Cond.methodLink RX6 1 objectInit, Cond.instanceMethod objectInit, Cond.code objectInit ⟨#[0xb1]⟩ 1 none, Cond.classLink RX6 7 RX2, Cond.instantiable RX2 6, Cond.initialized RX2, Cond.fieldLink RX6 10 "SetRepairs" "desk" "LSetRepairs$Desk;", Cond.fieldLink RX6 16 "SetRepairs" "trial" "LSetRepairs$Desk;", Cond.fieldLink RX6 19 "SetRepairs" "snapshot" "LSetRepairs$Desk;", Cond.fieldLink RX6 22 "SetRepairs" "hasSnapshot" "Z", Cond.classLink RX6 26 RX3, Cond.instantiable RX3 2, Cond.initialized RX3, Cond.fieldLink RX6 29 "SetRepairs" "history" "LSetRepairs$History;", Cond.classLink RX6 33 RX0, Cond.instantiable RX0 2, Cond.initialized RX0, Cond.fieldLink RX6 36 "SetRepairs" "text" "LSetRepairs$AnswerText;"]
def wsL_law_r2 : List Cond := [Cond.methodLink RX6 9 yX2_init, Cond.instanceMethod yX2_init, Cond.code yX2_init cX2_init 1 none, Cond.methodLink RX2 3 objectInit, Cond.fieldLink RX2 9 "SetRepairs$Desk" "day" "I", Cond.arrayClass .float, Cond.constantFloat RX2 15 (1068708659), Cond.constantFloat RX2 16 (1066192077), Cond.constantFloat RX2 17 (1103888384), Cond.constantFloat RX2 18 (1058642330), Cond.fieldLink RX2 19 "SetRepairs$Desk" "rates" "[F", Cond.arrayClass .int, Cond.fieldLink RX2 23 "SetRepairs$Desk" "numbers" "[I", Cond.classLink RX2 27 RX5, Cond.instantiable RX5 8, Cond.initialized RX5, Cond.fieldLink RX2 30 "SetRepairs$Desk" "store" "LSetRepairs$Store;", Cond.classLink RX2 34 RX4, Cond.instantiable RX4 9, Cond.initialized RX4, Cond.fieldLink RX2 37 "SetRepairs$Desk" "sets" "LSetRepairs$Sets;", Cond.classLink RX2 41 RX1, Cond.instantiable RX1 6, Cond.initialized RX1]
def wsL_law_r3 : List Cond := [Cond.fieldLink RX2 44 "SetRepairs$Desk" "books" "LSetRepairs$Books;", Cond.methodLink RX2 29 yX5_init, Cond.instanceMethod yX5_init, Cond.code yX5_init cX5_init 1 none, Cond.methodLink RX5 3 objectInit, Cond.fieldLink RX5 9 "SetRepairs$Store" "price" "[I", Cond.fieldLink RX5 15 "SetRepairs$Store" "lead" "[I", Cond.fieldLink RX5 18 "SetRepairs$Store" "stock" "[I", Cond.fieldLink RX5 21 "SetRepairs$Store" "reserved" "[I", Cond.fieldLink RX5 24 "SetRepairs$Store" "orders" "I", Cond.fieldLink RX5 28 "SetRepairs$Store" "orderPart" "[I", Cond.fieldLink RX5 31 "SetRepairs$Store" "orderMany" "[I", Cond.fieldLink RX5 34 "SetRepairs$Store" "orderDay" "[I", Cond.methodLink RX2 36 yX4_init, Cond.instanceMethod yX4_init, Cond.code yX4_init cX4_init 1 none, Cond.methodLink RX4 3 objectInit, Cond.fieldLink RX4 9 "SetRepairs$Sets" "many" "I", Cond.fieldLink RX4 15 "SetRepairs$Sets" "fault" "[I", Cond.fieldLink RX4 19 "SetRepairs$Sets" "came" "[I", Cond.fieldLink RX4 22 "SetRepairs$Sets" "estimate" "[I", Cond.fieldLink RX4 25 "SetRepairs$Sets" "worked" "[I", Cond.fieldLink RX4 28 "SetRepairs$Sets" "bill" "[I", Cond.fieldLink RX4 31 "SetRepairs$Sets" "loaner" "[I"]
def wsL_law_r4 : List Cond := [Cond.fieldLink RX4 34 "SetRepairs$Sets" "state" "[I", Cond.fieldLink RX4 37 "SetRepairs$Sets" "ready" "[I", Cond.instanceMethod yX1_init, Cond.code yX1_init cX1_init 1 none, Cond.methodLink RX1 1 objectInit, Cond.methodLink RX6 28 yX3_init, Cond.instanceMethod yX3_init, Cond.code yX3_init cX3_init 2 none, Cond.methodLink RX3 3 objectInit, Cond.fieldLink RX3 9 "SetRepairs$History" "many" "I", Cond.classLink RX3 15 RX2, Cond.fieldLink RX3 17 "SetRepairs$History" "states" "[LSetRepairs$Desk;", Cond.methodLink RX3 21 yX2_init, Cond.methodLink RX6 35 yX0_init, Cond.instanceMethod yX0_init, Cond.code yX0_init cX0_init 1 none, Cond.methodLink RX0 3 objectInit, Cond.fieldLink RX0 9 "SetRepairs$AnswerText" "length" "I", Cond.arrayClass .char, Cond.fieldLink RX0 15 "SetRepairs$AnswerText" "characters" "[C", Cond.methodLink RL 35 yX6_count, Cond.instanceMethod yX6_count, Cond.selects RX6 yX6_count yX6_count, Cond.code yX6_count cX6_count 2 (some .int)]
def wsL_law_r5 : List Cond := [Cond.fieldLink RX6 73 "SetRepairs$Desk" "sets" "LSetRepairs$Sets;", Cond.fieldLink RX6 103 "SetRepairs$Desk" "day" "I", Cond.fieldLink RX6 116 "SetRepairs$Sets" "many" "I", Cond.fieldLink RX6 87 "SetRepairs$Desk" "store" "LSetRepairs$Store;", Cond.fieldLink RX6 99 "SetRepairs$Store" "orders" "I", Cond.fieldLink RX6 168 "SetRepairs$Desk" "books" "LSetRepairs$Books;", Cond.fieldLink RX6 225 "SetRepairs$Books" "billsPaid" "I", Cond.fieldLink RX6 228 "SetRepairs$Books" "feesPaid" "I", Cond.fieldLink RX6 231 "SetRepairs$Books" "soldFor" "I", Cond.fieldLink RX6 234 "SetRepairs$Books" "partsBuiltIn" "I", Cond.fieldLink RX6 187 "SetRepairs$History" "many" "I", Cond.fieldLink RX6 180 "SetRepairs$AnswerText" "length" "I", Cond.methodLink RX6 51 yX6_isWithin, Cond.static yX6_isWithin, Cond.code yX6_isWithin cX6_isWithin 3 (some .boolean), Cond.methodLink RX6 153 yX4_inState, Cond.instanceMethod yX4_inState, Cond.selects RX4 yX4_inState yX4_inState, Cond.code yX4_inState cX4_inState 4 (some .int), Cond.methodLink RX6 159 yX2_loanersThere, Cond.instanceMethod yX2_loanersThere, Cond.selects RX2 yX2_loanersThere yX2_loanersThere, Cond.code yX2_loanersThere cX2_loanersThere 1 (some .int), Cond.methodLink RX2 71 yX4_withLoaner]
def wsL_law_r6 : List Cond := [Cond.instanceMethod yX4_withLoaner, Cond.selects RX4 yX4_withLoaner yX4_withLoaner, Cond.code yX4_withLoaner cX4_withLoaner 3 (some .int), Cond.methodLink RL 60 yL_cell, Cond.static yL_cell, Cond.initialized RL, Cond.code yL_cell cL_cell 2 (some .int), Cond.constant RL 8 (40503), Cond.methodLink RL 64 yL_low, Cond.static yL_low, Cond.code yL_low cL_low 2 (some .int), Cond.constant RL 7 (2147483647), Cond.methodLink RL 44 yX6_doneIn, Cond.instanceMethod yX6_doneIn, Cond.selects RX6 yX6_doneIn yX6_doneIn, Cond.code yX6_doneIn cX6_doneIn 4 (some .int), Cond.fieldLink RX6 127 "SetRepairs$Sets" "state" "[I", Cond.methodLink RX6 123 yX6_isSet, Cond.instanceMethod yX6_isSet, Cond.selects RX6 yX6_isSet yX6_isSet, Cond.code yX6_isSet cX6_isSet 2 (some .boolean), Cond.methodLink RX6 40 yX6_isIndex, Cond.static yX6_isIndex, Cond.code yX6_isIndex cX6_isIndex 2 (some .boolean)]
def wsL_law_r7 : List Cond := [Cond.methodLink RX6 146 yX2_copyFrom, Cond.instanceMethod yX2_copyFrom, Cond.selects RX2 yX2_copyFrom yX2_copyFrom, Cond.code yX2_copyFrom cX2_copyFrom 2 none, Cond.methodLink RX2 48 arraycopyName, Cond.native arraycopyName, Cond.static arraycopyName, Cond.initialized "java/lang/System", Cond.methodLink RX2 54 yX5_copyFrom, Cond.instanceMethod yX5_copyFrom, Cond.selects RX5 yX5_copyFrom yX5_copyFrom, Cond.code yX5_copyFrom cX5_copyFrom 2 none, Cond.methodLink RX5 37 arraycopyName, Cond.methodLink RX2 58 yX4_copyFrom, Cond.instanceMethod yX4_copyFrom, Cond.selects RX4 yX4_copyFrom yX4_copyFrom, Cond.code yX4_copyFrom cX4_copyFrom 2 none, Cond.methodLink RX4 40 arraycopyName, Cond.methodLink RX2 61 yX1_copyFrom, Cond.instanceMethod yX1_copyFrom, Cond.selects RX1 yX1_copyFrom yX1_copyFrom, Cond.code yX1_copyFrom cX1_copyFrom 2 none, Cond.fieldLink RX1 7 "SetRepairs$Books" "billsPaid" "I", Cond.fieldLink RX1 13 "SetRepairs$Books" "feesPaid" "I"]
def wsL_law_r8 : List Cond := [Cond.fieldLink RX1 16 "SetRepairs$Books" "soldFor" "I", Cond.fieldLink RX1 19 "SetRepairs$Books" "partsBuiltIn" "I", Cond.fieldLink RX1 22 "SetRepairs$Books" "setsDone" "I", Cond.fieldLink RX1 25 "SetRepairs$Books" "daysToDone" "I", Cond.methodLink RX6 177 yX2_passDay, Cond.instanceMethod yX2_passDay, Cond.selects RX2 yX2_passDay yX2_passDay, Cond.code yX2_passDay cX2_passDay 2 none, Cond.methodLink RX2 134 yX2_takeOrders, Cond.instanceMethod yX2_takeOrders, Cond.selects RX2 yX2_takeOrders yX2_takeOrders, Cond.code yX2_takeOrders cX2_takeOrders 2 none, Cond.fieldLink RX2 143 "SetRepairs$Store" "orders" "I", Cond.fieldLink RX2 146 "SetRepairs$Store" "orderDay" "[I", Cond.fieldLink RX2 149 "SetRepairs$Store" "stock" "[I", Cond.fieldLink RX2 152 "SetRepairs$Store" "orderPart" "[I", Cond.fieldLink RX2 155 "SetRepairs$Store" "orderMany" "[I", Cond.methodLink RX2 102 yX2_reserveParts, Cond.instanceMethod yX2_reserveParts, Cond.selects RX2 yX2_reserveParts yX2_reserveParts, Cond.code yX2_reserveParts cX2_reserveParts 1 none, Cond.methodLink RX2 105 yX2_reservePartsWhere, Cond.instanceMethod yX2_reservePartsWhere, Cond.selects RX2 yX2_reservePartsWhere yX2_reservePartsWhere]
def wsL_law_r9 : List Cond := [Cond.code yX2_reservePartsWhere cX2_reservePartsWhere 4 none, Cond.fieldLink RX2 78 "SetRepairs$Sets" "many" "I", Cond.fieldLink RX2 84 "SetRepairs$Sets" "fault" "[I", Cond.fieldLink RX2 81 "SetRepairs$Sets" "state" "[I", Cond.methodLink RX2 109 yX4_isTurnOf, Cond.instanceMethod yX4_isTurnOf, Cond.selects RX4 yX4_isTurnOf yX4_isTurnOf, Cond.code yX4_isTurnOf cX4_isTurnOf 4 (some .boolean), Cond.methodLink RX2 113 yX5_lowestShort, Cond.instanceMethod yX5_lowestShort, Cond.selects RX5 yX5_lowestShort yX5_lowestShort, Cond.code yX5_lowestShort cX5_lowestShort 3 (some .int), Cond.methodLink RX5 50 yX5_free, Cond.instanceMethod yX5_free, Cond.selects RX5 yX5_free yX5_free, Cond.code yX5_free cX5_free 2 (some .int), Cond.methodLink RX5 46 yX5_needOf, Cond.static yX5_needOf, Cond.code yX5_needOf cX5_needOf 2 (some .int), Cond.methodLink RX2 116 yX5_reserveFor, Cond.instanceMethod yX5_reserveFor, Cond.selects RX5 yX5_reserveFor yX5_reserveFor, Cond.code yX5_reserveFor cX5_reserveFor 3 none, Cond.methodLink RX2 158 yX5_dropOrdersOf]
def wsL_law_r10 : List Cond := [Cond.instanceMethod yX5_dropOrdersOf, Cond.selects RX5 yX5_dropOrdersOf yX5_dropOrdersOf, Cond.code yX5_dropOrdersOf cX5_dropOrdersOf 4 none, Cond.methodLink RX2 137 yX2_workWhere, Cond.instanceMethod yX2_workWhere, Cond.selects RX2 yX2_workWhere yX2_workWhere, Cond.code yX2_workWhere cX2_workWhere 7 (some .int), Cond.fieldLink RX2 161 "SetRepairs$Sets" "worked" "[I", Cond.methodLink RX2 164 Lib.Math.min.name, Cond.static Lib.Math.min.name, Cond.initialized "java/lang/Math", Cond.code Lib.Math.min.name Lib.Math.min.code 2 (some .int), Cond.methodLink RX2 167 yX2_finish, Cond.instanceMethod yX2_finish, Cond.selects RX2 yX2_finish yX2_finish, Cond.code yX2_finish cX2_finish 4 none, Cond.fieldLink RX2 170 "SetRepairs$Sets" "estimate" "[I", Cond.fieldLink RX2 125 "SetRepairs$Sets" "bill" "[I", Cond.fieldLink RX2 75 "SetRepairs$Sets" "ready" "[I", Cond.fieldLink RX2 179 "SetRepairs$Books" "partsBuiltIn" "I", Cond.fieldLink RX2 182 "SetRepairs$Books" "daysToDone" "I", Cond.fieldLink RX2 185 "SetRepairs$Sets" "came" "[I", Cond.fieldLink RX2 188 "SetRepairs$Books" "setsDone" "I", Cond.methodLink RX2 173 yX5_takeReservedFor]
def wsL_law_r11 : List Cond := [Cond.instanceMethod yX5_takeReservedFor, Cond.selects RX5 yX5_takeReservedFor yX5_takeReservedFor, Cond.code yX5_takeReservedFor cX5_takeReservedFor 3 none, Cond.methodLink RX2 176 yX2_costNow, Cond.instanceMethod yX2_costNow, Cond.selects RX2 yX2_costNow yX2_costNow, Cond.code yX2_costNow cX2_costNow 4 (some .int), Cond.methodLink RX2 64 yX5_priceOfParts, Cond.instanceMethod yX5_priceOfParts, Cond.selects RX5 yX5_priceOfParts yX5_priceOfParts, Cond.code yX5_priceOfParts cX5_priceOfParts 4 (some .int), Cond.methodLink RX2 140 yX2_sellUnclaimed, Cond.instanceMethod yX2_sellUnclaimed, Cond.selects RX2 yX2_sellUnclaimed yX2_sellUnclaimed, Cond.code yX2_sellUnclaimed cX2_sellUnclaimed 2 none, Cond.fieldLink RX2 195 "SetRepairs$Books" "soldFor" "I", Cond.fieldLink RX2 131 "SetRepairs$Sets" "loaner" "[I", Cond.methodLink RX2 191 yX4_isReady, Cond.instanceMethod yX4_isReady, Cond.selects RX4 yX4_isReady yX4_isReady, Cond.code yX4_isReady cX4_isReady 2 (some .boolean), Cond.methodLink RL 115 yL_act, Cond.static yL_act, Cond.code yL_act cL_act 6 (some .int)]
def wsL_law_r12 : List Cond := [Cond.constant RL 89 (40000), Cond.constant RL 97 (1065353216), Cond.methodLink RL 67 yX6_come, Cond.instanceMethod yX6_come, Cond.selects RX6 yX6_come yX6_come, Cond.code yX6_come cX6_come 2 (some .int), Cond.methodLink RX6 63 yX3_record, Cond.instanceMethod yX3_record, Cond.selects RX3 yX3_record yX3_record, Cond.code yX3_record cX3_record 2 none, Cond.methodLink RX3 22 yX3_dropOldest, Cond.instanceMethod yX3_dropOldest, Cond.selects RX3 yX3_dropOldest yX3_dropOldest, Cond.code yX3_dropOldest cX3_dropOldest 3 none, Cond.methodLink RX3 25 yX2_copyFrom, Cond.methodLink RX6 119 yX4_add, Cond.instanceMethod yX4_add, Cond.selects RX4 yX4_add yX4_add, Cond.code yX4_add cX4_add 4 (some .int), Cond.methodLink RL 70 yX6_estimate, Cond.instanceMethod yX6_estimate, Cond.selects RX6 yX6_estimate yX6_estimate, Cond.code yX6_estimate cX6_estimate 3 (some .int), Cond.fieldLink RX6 130 "SetRepairs$Sets" "fault" "[I"]
def wsL_law_r13 : List Cond := [Cond.fieldLink RX6 137 "SetRepairs$Sets" "estimate" "[I", Cond.methodLink RX6 133 yX2_costNow, Cond.methodLink RL 73 yX6_answer, Cond.instanceMethod yX6_answer, Cond.selects RX6 yX6_answer yX6_answer, Cond.code yX6_answer cX6_answer 3 (some .int), Cond.methodLink RX6 140 yX2_decide, Cond.instanceMethod yX2_decide, Cond.selects RX2 yX2_decide yX2_decide, Cond.code yX2_decide cX2_decide 3 none, Cond.methodLink RL 77 yX6_put, Cond.instanceMethod yX6_put, Cond.selects RX6 yX6_put yX6_put, Cond.code yX6_put cX6_put 3 (some .int), Cond.fieldLink RX6 110 "SetRepairs$Store" "stock" "[I", Cond.methodLink RX6 113 yX2_reserveParts, Cond.methodLink RL 80 yX6_order, Cond.instanceMethod yX6_order, Cond.selects RX6 yX6_order yX6_order, Cond.code yX6_order cX6_order 4 (some .int), Cond.fieldLink RX6 96 "SetRepairs$Store" "lead" "[I", Cond.methodLink RX6 106 yX5_addOrder, Cond.instanceMethod yX5_addOrder, Cond.selects RX5 yX5_addOrder yX5_addOrder]
def wsL_law_r14 : List Cond := [Cond.code yX5_addOrder cX5_addOrder 4 none, Cond.methodLink RL 83 yX6_lend, Cond.instanceMethod yX6_lend, Cond.selects RX6 yX6_lend yX6_lend, Cond.code yX6_lend cX6_lend 2 (some .int), Cond.fieldLink RX6 156 "SetRepairs$Sets" "loaner" "[I", Cond.methodLink RL 86 yX6_collect, Cond.instanceMethod yX6_collect, Cond.selects RX6 yX6_collect yX6_collect, Cond.code yX6_collect cX6_collect 2 (some .int), Cond.methodLink RX6 162 yX4_isReady, Cond.methodLink RX6 165 yX2_handOver, Cond.instanceMethod yX2_handOver, Cond.selects RX2 yX2_handOver yX2_handOver, Cond.code yX2_handOver cX2_handOver 3 (some .int), Cond.fieldLink RX2 122 "SetRepairs$Books" "billsPaid" "I", Cond.fieldLink RX2 128 "SetRepairs$Books" "feesPaid" "I", Cond.methodLink RX2 119 yX2_storageFee, Cond.instanceMethod yX2_storageFee, Cond.selects RX2 yX2_storageFee yX2_storageFee, Cond.code yX2_storageFee cX2_storageFee 3 (some .int), Cond.methodLink RL 90 yX6_setPart, Cond.instanceMethod yX6_setPart, Cond.selects RX6 yX6_setPart yX6_setPart]
def wsL_law_r15 : List Cond := [Cond.code yX6_setPart cX6_setPart 5 (some .int), Cond.constant RX6 86 (50000), Cond.fieldLink RX6 91 "SetRepairs$Store" "price" "[I", Cond.methodLink RL 94 yX6_setNumber, Cond.instanceMethod yX6_setNumber, Cond.selects RX6 yX6_setNumber yX6_setNumber, Cond.code yX6_setNumber cX6_setNumber 4 (some .int), Cond.fieldLink RX6 67 "SetRepairs" "LOWEST_NUMBER" "[I", Cond.fieldLink RX6 70 "SetRepairs" "HIGHEST_NUMBER" "[I", Cond.fieldLink RX6 83 "SetRepairs$Desk" "numbers" "[I", Cond.methodLink RX6 77 yX4_withLoaner, Cond.methodLink RL 98 yX6_setRate, Cond.instanceMethod yX6_setRate, Cond.selects RX6 yX6_setRate yX6_setRate, Cond.code yX6_setRate cX6_setRate 4 (some .int), Cond.fieldLink RX6 44 "SetRepairs" "LOWEST_RATE_BITS" "[I", Cond.fieldLink RX6 48 "SetRepairs" "HIGHEST_RATE_BITS" "[I", Cond.fieldLink RX6 59 "SetRepairs$Desk" "rates" "[F", Cond.methodLink RX6 55 yX6_floatOf, Cond.static yX6_floatOf, Cond.code yX6_floatOf cX6_floatOf 5 (some .float), Cond.constant RX6 237 (8388607), Cond.constant RX6 238 (8388608), Cond.methodLink RL 101 yX6_undo]
def wsL_law_r16 : List Cond := [Cond.instanceMethod yX6_undo, Cond.selects RX6 yX6_undo yX6_undo, Cond.code yX6_undo cX6_undo 1 (some .int), Cond.methodLink RX6 188 yX3_giveBack, Cond.instanceMethod yX3_giveBack, Cond.selects RX3 yX3_giveBack yX3_giveBack, Cond.code yX3_giveBack cX3_giveBack 2 none, Cond.methodLink RL 105 yX6_keep, Cond.instanceMethod yX6_keep, Cond.selects RX6 yX6_keep yX6_keep, Cond.code yX6_keep cX6_keep 1 (some .int), Cond.methodLink RL 108 yX6_restore, Cond.instanceMethod yX6_restore, Cond.selects RX6 yX6_restore yX6_restore, Cond.code yX6_restore cX6_restore 1 (some .int), Cond.methodLink RL 111 yX6_pass, Cond.instanceMethod yX6_pass, Cond.selects RX6 yX6_pass yX6_pass, Cond.code yX6_pass cX6_pass 4 (some .int), Cond.fieldLink RX6 172 "SetRepairs$Books" "setsDone" "I", Cond.methodLink RL 38 yX6_set, Cond.instanceMethod yX6_set, Cond.selects RX6 yX6_set yX6_set, Cond.code yX6_set cX6_set 3 (some .int)]
def wsL_law_r17 : List Cond := [Cond.fieldLink RX6 201 "SetRepairs$Sets" "came" "[I", Cond.fieldLink RX6 204 "SetRepairs$Sets" "worked" "[I", Cond.fieldLink RX6 207 "SetRepairs$Sets" "bill" "[I", Cond.fieldLink RX6 210 "SetRepairs$Sets" "ready" "[I", Cond.methodLink RX6 213 yX2_storageFee, Cond.methodLink RL 119 yL_desk, Cond.static yL_desk, Cond.code yL_desk cL_desk 8 (some .boolean), Cond.methodLink RL 9 yL_need, Cond.static yL_need, Cond.code yL_need cL_need 2 (some .int), Cond.methodLink RL 15 yX6_part, Cond.instanceMethod yX6_part, Cond.selects RX6 yX6_part yX6_part, Cond.code yX6_part cX6_part 3 (some .int), Cond.fieldLink RX6 192 "SetRepairs$Store" "reserved" "[I", Cond.methodLink RX6 195 yX5_onOrder, Cond.instanceMethod yX5_onOrder, Cond.selects RX5 yX5_onOrder yX5_onOrder, Cond.code yX5_onOrder cX5_onOrder 4 (some .int), Cond.methodLink RX6 198 yX2_lackingOf, Cond.instanceMethod yX2_lackingOf, Cond.selects RX2 yX2_lackingOf yX2_lackingOf, Cond.code yX2_lackingOf cX2_lackingOf 4 (some .int)]
def wsL_law_r18 : List Cond := [Cond.methodLink RX2 97 Lib.Math.max.name, Cond.static Lib.Math.max.name, Cond.code Lib.Math.max.name Lib.Math.max.code 2 (some .int), Cond.methodLink RX2 87 yX5_needOf, Cond.methodLink RX2 91 yX5_free, Cond.methodLink RX2 94 yX5_onOrder, Cond.methodLink RL 28 yL_hours, Cond.static yL_hours, Cond.code yL_hours cL_hours 1 (some .int), Cond.methodLink RL 41 yX6_lacks, Cond.instanceMethod yX6_lacks, Cond.selects RX6 yX6_lacks yX6_lacks, Cond.code yX6_lacks cX6_lacks 2 (some .int), Cond.methodLink RX6 219 yX5_lowestShort, Cond.methodLink RL 47 yX6_waitsFor, Cond.instanceMethod yX6_waitsFor, Cond.selects RX6 yX6_waitsFor yX6_waitsFor, Cond.code yX6_waitsFor cX6_waitsFor 2 (some .int), Cond.methodLink RX6 216 yX5_isEnoughOrdered, Cond.instanceMethod yX5_isEnoughOrdered, Cond.selects RX5 yX5_isEnoughOrdered yX5_isEnoughOrdered, Cond.code yX5_isEnoughOrdered cX5_isEnoughOrdered 3 (some .boolean), Cond.methodLink RX5 54 yX5_onOrder, Cond.methodLink RL 32 yX6_number]
def wsL_law_r19 : List Cond := [Cond.instanceMethod yX6_number, Cond.selects RX6 yX6_number yX6_number, Cond.code yX6_number cX6_number 2 (some .int), Cond.methodLink RL 50 yX6_costOf, Cond.instanceMethod yX6_costOf, Cond.selects RX6 yX6_costOf yX6_costOf, Cond.code yX6_costOf cX6_costOf 2 (some .int), Cond.methodLink RL 53 yL_cost, Cond.static yL_cost, Cond.code yL_cost cL_cost 3 (some .int), Cond.methodLink RL 20 yL_prices, Cond.static yL_prices, Cond.code yL_prices cL_prices 4 (some .int), Cond.methodLink RL 24 yX6_rate, Cond.instanceMethod yX6_rate, Cond.selects RX6 yX6_rate yX6_rate, Cond.code yX6_rate cX6_rate 2 (some .float), Cond.constantFloat RX6 191 (2143289344), Cond.methodLink RL 56 yX6_meanDays, Cond.instanceMethod yX6_meanDays, Cond.selects RX6 yX6_meanDays yX6_meanDays, Cond.code yX6_meanDays cX6_meanDays 2 (some .float), Cond.fieldLink RX6 222 "SetRepairs$Books" "daysToDone" "I"]
def wsL_law : List Cond := (wsL_law_r1 ++ (wsL_law_r2 ++ (wsL_law_r3 ++ (wsL_law_r4 ++ (wsL_law_r5 ++ (wsL_law_r6 ++ (wsL_law_r7 ++ (wsL_law_r8 ++ (wsL_law_r9 ++ (wsL_law_r10 ++ (wsL_law_r11 ++ (wsL_law_r12 ++ (wsL_law_r13 ++ (wsL_law_r14 ++ (wsL_law_r15 ++ (wsL_law_r16 ++ (wsL_law_r17 ++ (wsL_law_r18 ++ wsL_law_r19)))))))))))))))))) ++ wsX60 ++ wsX20 ++ wsX30 ++ wsX00 ++ wsX50 ++ wsX40 ++ wsX10 ++ ([] : List Cond)
theorem inlX0 : ∀ w ∈ wsX00, w ∈ wsL_law := fun _ h => List.mem_append_left _ (List.mem_append_left _ (List.mem_append_left _ (List.mem_append_left _ (List.mem_append_right _ h))))
theorem inlX1 : ∀ w ∈ wsX10, w ∈ wsL_law := fun _ h => List.mem_append_left _ (List.mem_append_right _ h)
theorem inlX2 : ∀ w ∈ wsX20, w ∈ wsL_law := fun _ h => List.mem_append_left _ (List.mem_append_left _ (List.mem_append_left _ (List.mem_append_left _ (List.mem_append_left _ (List.mem_append_left _ (List.mem_append_right _ h))))))
theorem inlX3 : ∀ w ∈ wsX30, w ∈ wsL_law := fun _ h => List.mem_append_left _ (List.mem_append_left _ (List.mem_append_left _ (List.mem_append_left _ (List.mem_append_left _ (List.mem_append_right _ h)))))
theorem inlX4 : ∀ w ∈ wsX40, w ∈ wsL_law := fun _ h => List.mem_append_left _ (List.mem_append_left _ (List.mem_append_right _ h))
theorem inlX5 : ∀ w ∈ wsX50, w ∈ wsL_law := fun _ h => List.mem_append_left _ (List.mem_append_left _ (List.mem_append_left _ (List.mem_append_right _ h)))
theorem inlX6 : ∀ w ∈ wsX60, w ∈ wsL_law := fun _ h => List.mem_append_left _ (List.mem_append_left _ (List.mem_append_left _ (List.mem_append_left _ (List.mem_append_left _ (List.mem_append_left _ (List.mem_append_left _ (List.mem_append_right _ h)))))))
abbrev vwCl : List vw_C := [(RX0, TX0, 2), (RX1, TX1, 6), (RX2, TX2, 6), (RX3, TX3, 2), (RX4, TX4, 9), (RX5, TX5, 8), (RX6, TX6, 6)]
end
