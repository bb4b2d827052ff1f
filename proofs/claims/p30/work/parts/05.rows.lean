/-! ROWS OVER A SMALLER JUDGEMENT. Yx: the machine at pc with the locals lv and the stack st over the heap H comes to Q; the locals' array, the written places and the tables' facts are bundled (Cx). -/
/-- which classes: the numbers of the classes and their slots, and the classes of the arrays (0 int, 1 float, 2 char, 3 Desk[]) -/
abbrev KG : Type := va_G × (Nat → ClassId)
abbrev tysG (g : KG) : List (ClassId × FieldType) := [(g.2 0, .int), (g.2 1, .float), (g.2 2, .char), (g.2 3, .object "SetRepairs$Desk")]
/-- a static array of ints that holds f -/
def stA (B0 : Nat) (nm : String) (N : Nat) (f : Nat → Int32) (U : State) (H : Heap) : Prop := ∃ t : Nat, va_Z "SetRepairs" nm "[I" (.ref t) (fun q => B0 ≤ q) U H ∧ va_T .int t N (fun j => .int (f j)) (fun q => B0 ≤ q) U H
def tabL (l : List Int32) : Nat → Int32 := fun j => l.getD j 0
def tPF : Nat → Int32 := tabL [1,0,0,0,0,0, 0,1,0,0,0,0, 0,0,2,0,0,0, 0,0,0,1,1,0, 0,0,0,0,0,1]
def tHF : Nat → Int32 := tabL [2,3,1,5,4]
def tLN : Nat → Int32 := tabL [1,100,0,1,0]
def tHN : Nat → Int32 := tabL [24,20000,60,400,6]
def tLR : Nat → Int32 := tabL [1065353216,1065353216,0,0]
def tHR : Nat → Int32 := tabL [1077936128,1073741824,1148846080,1065353216]
/-- what a method finds in the tables and the statics -/
def env (g : KG) (B0 : Nat) (U : State) (H : Heap) : Prop :=
  va_K g.1 vwCl (tysG g) U ∧ va_Nw (.fieldLinkNest "SetRepairs$Store" 43 "SetRepairs" "PARTS_OF_FAULT" "[I" "SetRepairs") U ∧ va_Nw (.fieldLinkNest "SetRepairs$Desk" 68 "SetRepairs" "HOURS_OF_FAULT" "[I" "SetRepairs") U ∧ va_Nw (.methodLinkNest "SetRepairs$Desk" 43 yX1_init "SetRepairs") U ∧ va_AO "SetRepairs$Desk" U ∧
  stA B0 "PARTS_OF_FAULT" 30 tPF U H ∧ stA B0 "HOURS_OF_FAULT" 5 tHF U H ∧ stA B0 "LOWEST_NUMBER" 5 tLN U H ∧ stA B0 "HIGHEST_NUMBER" 5 tHN U H ∧ stA B0 "LOWEST_RATE_BITS" 4 tLR U H ∧ stA B0 "HIGHEST_RATE_BITS" 4 tHR U H
theorem stA.warm {B0 N : Nat} {nm : String} {f : Nat → Int32} {u U : State} {H : Heap} (hvm : u.vm.Alike U.vm) (h : stA B0 nm N f u H) : stA B0 nm N f U H := by
  obtain ⟨t, h1, h2⟩ := h
  exact ⟨t, h1.moved hvm, h2.moved hvm⟩
theorem stA.kept {B0 N : Nat} {nm : String} {f : Nat → Int32} {U : State} {H H1 : Heap} (h : stA B0 nm N f U H) (hq : ∀ q : Nat, q < H.size → q < B0 → H1[q]? = H[q]?) : stA B0 nm N f U H1 := by
  obtain ⟨t, h1, h2⟩ := h
  exact ⟨t, h1.kept (fun a k1 k2 => hq a k1 (Nat.lt_of_not_le k2)), h2.kept (fun a k1 k2 => hq a k1 (Nat.lt_of_not_le k2))⟩
theorem env.warm {g : KG} {B0 : Nat} {u U : State} {H : Heap} (hW : u.WarmedH U.vm) (h : env g B0 u H) : env g B0 U H := by
  obtain ⟨h1, h2, h3, h4, h5, h6, h7, h8, h9, h10, h11⟩ := h
  have a := hW.alike
  exact ⟨va_K.moved a h1, va_Nw.warmF hW h2, va_Nw.warmF hW h3, va_Nw.warmM hW h4, va_AO.moved a h5, h6.warm a, h7.warm a, h8.warm a, h9.warm a, h10.warm a, h11.warm a⟩
theorem env.same {g : KG} {B0 : Nat} {u U : State} {H : Heap} (hv : u.vm = U.vm) (h : env g B0 u H) : env g B0 U H := by
  obtain ⟨h1, h2, h3, h4, h5, h6, h7, h8, h9, h10, h11⟩ := h
  have a : u.vm.Alike U.vm := by rw [hv]; exact Vm.Alike.refl U.vm
  exact ⟨va_K.moved a h1, va_Nw.same rfl hv h2, va_Nw.same rfl hv h3, va_Nw.same rfl hv h4, va_AO.moved a h5, h6.warm a, h7.warm a, h8.warm a, h9.warm a, h10.warm a, h11.warm a⟩
theorem env.kept {g : KG} {B0 : Nat} {U : State} {H H1 : Heap} (h : env g B0 U H) (hq : ∀ q : Nat, q < H.size → q < B0 → H1[q]? = H[q]?) : env g B0 U H1 := by
  obtain ⟨h1, h2, h3, h4, h5, h6, h7, h8, h9, h10, h11⟩ := h
  exact ⟨h1, h2, h3, h4, h5, h6.kept hq, h7.kept hq, h8.kept hq, h9.kept hq, h10.kept hq, h11.kept hq⟩
/-- the bundle of a method's fixed facts -/
def Cx (g : KG) (B0 : Nat) (A : Nat → Prop) (p : Program) (s : State) (m : MethodId) (args : Array Value) (meth : Method) (c : Code) (cc : ByteArray) (nL : Nat) (own : String) : Prop :=
  p.tables.exec = Jvm.exec ∧ c.code = cc ∧ c.maxLocals = nL ∧ s.vm.findClass own = some m.cls ∧ (∀ w ∈ wsL_law, w.before args s = true) ∧ env g B0 s s.heap ∧ (∀ q, A q → B0 ≤ q) ∧ meth.locks = false
def Yx (A : Nat → Prop) (p : Program) (l : Launch) (e : Env) (R : Room) (s : State) (m : MethodId) (args : Array Value) (below : List Frame) (meth : Method) (c : Code) (nL cells slots : Nat) (Q : State → Prop) (lv : List (Nat × Value)) (H : Heap) (pc : Nat) (st : List Value) : Prop :=
  ∀ (ls : Array Slot) (locs : List Loc), lv_has ls nL lv → va_S A s.heap H locs → W p l e R s m args below meth c H locs cells slots Q (F0 m pc ls st)
/-- a method's end: its value, and what the heap holds then -/
def Qx (rv : Option Value) (P : Heap → Prop) (A : Nat → Prop) : Array Value → State → Outcome → State → Prop := fun _ st oc t => (oc = .returned rv ∧ P t.heap) ∧ va_F A st t
/-- a method's contract: from P it answers rv, and then P1 holds; no cell outside of A is changed -/
def Mt (g : KG) (B0 : Nat) (l : Launch) (y : MethodName) (cc : ByteArray) (nL : Nat) (ret : Option FieldType) (rm : Room) (av : List Value) (A : Nat → Prop) (P : Heap → Prop) (rv : Option Value) (P1 : Heap → Prop) (mc ms : Nat) : Prop :=
  Met l y (.code y cc nL ret :: wsL_law) rm (va_Pc av (fun U => (∀ q, A q → B0 ≤ q) ∧ env g B0 U U.heap ∧ P U.heap)) (Qx rv P1 A) mc ms A
theorem lwG {ws : List Cond} (h : ∀ w ∈ ws, w ∈ wsL_law) : GoodIn wsL_law ws := fun w hw => ⟨h w hw, good_of_word (wsL_good w (h w hw))⟩
section ROWS
variable {g : KG} {B0 : Nat} {A : Nat → Prop} {p : Program} {l : Launch} {e : Env} {R : Room} {s : State} {m : MethodId} {args : Array Value} {below : List Frame} {meth : Method} {c : Code} {cc : ByteArray} {nL : Nat} {own : String} {cells slots : Nat} {Q : State → Prop} {lv lv' : List (Nat × Value)} {H : Heap} {pc : Nat} {rest : List Value}
theorem y_iconst (C : Cx g B0 A p s m args meth c cc nL own) {n : Int} (v : Int32) (hdg : decode cc pc = .ok (.iconst n, 1)) (hv : Int32.ofInt n = v) (k : Yx A p l e R s m args below meth c nL cells slots Q lv H (pc + 1) (.int v :: rest)) : Yx A p l e R s m args below meth c nL cells slots Q lv H pc rest :=
  fun ls locs hl hS => lv_iconst C.1 C.2.1 hdg hv (k ls locs hl hS)
theorem y_bipush (C : Cx g B0 A p s m args meth c cc nL own) {n : Int} (v : Int32) (hdg : decode cc pc = .ok (.bipush n, 2)) (hv : (Int8.ofInt n).toInt32 = v) (k : Yx A p l e R s m args below meth c nL cells slots Q lv H (pc + 2) (.int v :: rest)) : Yx A p l e R s m args below meth c nL cells slots Q lv H pc rest :=
  fun ls locs hl hS => lv_bipush C.1 C.2.1 hdg hv (k ls locs hl hS)
theorem y_sipush (C : Cx g B0 A p s m args meth c cc nL own) {n : Int} (v : Int32) (hdg : decode cc pc = .ok (.sipush n, 3)) (hv : (Int16.ofInt n).toInt32 = v) (k : Yx A p l e R s m args below meth c nL cells slots Q lv H (pc + 3) (.int v :: rest)) : Yx A p l e R s m args below meth c nL cells slots Q lv H pc rest :=
  fun ls locs hl hS => lv_sipush C.1 C.2.1 hdg hv (k ls locs hl hS)
theorem y_ldc (C : Cx g B0 A p s m args meth c cc nL own) {index : Nat} {v : Int32} (hw : Cond.constant own index v ∈ wsL_law) (hdg : decode cc pc = .ok (.ldc index, 2)) (k : Yx A p l e R s m args below meth c nL cells slots Q lv H (pc + 2) (.int v :: rest)) : Yx A p l e R s m args below meth c nL cells slots Q lv H pc rest :=
  fun ls locs hl hS => lv_ldc C.1 C.2.1 C.2.2.2.1 (C.2.2.2.2.1 _ hw) hdg (k ls locs hl hS)
theorem y_ldcf (C : Cx g B0 A p s m args meth c cc nL own) {index : Nat} {v : UInt32} (hw : Cond.constantFloat own index v ∈ wsL_law) (hdg : decode cc pc = .ok (.ldc index, 2)) (k : Yx A p l e R s m args below meth c nL cells slots Q lv H (pc + 2) (.float v :: rest)) : Yx A p l e R s m args below meth c nL cells slots Q lv H pc rest :=
  fun ls locs hl hS => lv_ldcf C.1 C.2.1 C.2.2.2.1 (C.2.2.2.2.1 _ hw) hdg (k ls locs hl hS)
theorem y_fconst0 (C : Cx g B0 A p s m args meth c cc nL own) (hdg : decode cc pc = .ok (.fconst 0, 1)) (k : Yx A p l e R s m args below meth c nL cells slots Q lv H (pc + 1) (.float FP.fconst0 :: rest)) : Yx A p l e R s m args below meth c nL cells slots Q lv H pc rest :=
  fun ls locs hl hS => lv_fconst0 C.1 C.2.1 hdg (k ls locs hl hS)
theorem y_fconst2 (C : Cx g B0 A p s m args meth c cc nL own) (hdg : decode cc pc = .ok (.fconst 2, 1)) (k : Yx A p l e R s m args below meth c nL cells slots Q lv H (pc + 1) (.float FP.fconst2 :: rest)) : Yx A p l e R s m args below meth c nL cells slots Q lv H pc rest :=
  fun ls locs hl hS => lv_fconst2 C.1 C.2.1 hdg (k ls locs hl hS)
theorem y_iload_n (C : Cx g B0 A p s m args meth c cc nL own) {j : Fin 4} {i : Nat} {x : Int32} (q : Nat) (hdg : decode cc pc = .ok (.iload_n j, 1)) (hi : (j : Nat) = i) (hq : lv[q]? = some (i, .int x)) (k : Yx A p l e R s m args below meth c nL cells slots Q lv H (pc + 1) (.int x :: rest)) : Yx A p l e R s m args below meth c nL cells slots Q lv H pc rest :=
  fun ls locs hl hS => lv_iload_n C.1 C.2.1 hdg hi (lv_at hl q hq) (k ls locs hl hS)
theorem y_iload (C : Cx g B0 A p s m args meth c cc nL own) {i : Nat} {x : Int32} (q : Nat) (hdg : decode cc pc = .ok (.iload i, 2)) (hq : lv[q]? = some (i, .int x)) (k : Yx A p l e R s m args below meth c nL cells slots Q lv H (pc + 2) (.int x :: rest)) : Yx A p l e R s m args below meth c nL cells slots Q lv H pc rest :=
  fun ls locs hl hS => lv_iload C.1 C.2.1 hdg (lv_at hl q hq) (k ls locs hl hS)
theorem y_aload_n (C : Cx g B0 A p s m args meth c cc nL own) {j : Fin 4} {i : Nat} {x : Nat} (q : Nat) (hdg : decode cc pc = .ok (.aload_n j, 1)) (hi : (j : Nat) = i) (hq : lv[q]? = some (i, .ref x)) (k : Yx A p l e R s m args below meth c nL cells slots Q lv H (pc + 1) (.ref x :: rest)) : Yx A p l e R s m args below meth c nL cells slots Q lv H pc rest :=
  fun ls locs hl hS => lv_aload_n C.1 C.2.1 hdg hi (lv_at hl q hq) (k ls locs hl hS)
theorem y_fload_n (C : Cx g B0 A p s m args meth c cc nL own) {j : Fin 4} {i : Nat} {x : UInt32} (q : Nat) (hdg : decode cc pc = .ok (.fload_n j, 1)) (hi : (j : Nat) = i) (hq : lv[q]? = some (i, .float x)) (k : Yx A p l e R s m args below meth c nL cells slots Q lv H (pc + 1) (.float x :: rest)) : Yx A p l e R s m args below meth c nL cells slots Q lv H pc rest :=
  fun ls locs hl hS => lv_fload_n C.1 C.2.1 hdg hi (lv_at hl q hq) (k ls locs hl hS)
theorem y_istore_n (C : Cx g B0 A p s m args meth c cc nL own) {j : Fin 4} {i : Nat} {x : Int32} (hdg : decode cc pc = .ok (.istore_n j, 1)) (hi : (j : Nat) = i) (hn : i < nL) (hl' : (i, Value.int x) :: lv.filter (fun q => !(q.1 == i) && !(q.1 + 1 == i && q.2.category == 2)) = lv') (k : Yx A p l e R s m args below meth c nL cells slots Q lv' H (pc + 1) rest) : Yx A p l e R s m args below meth c nL cells slots Q lv H pc (.int x :: rest) :=
  fun ls locs hl hS => lv_istore_n C.1 C.2.1 hdg hi hl hn hl' (fun ls' h' => k ls' locs h' hS)
theorem y_istore (C : Cx g B0 A p s m args meth c cc nL own) {i : Nat} {x : Int32} (hdg : decode cc pc = .ok (.istore i, 2)) (hn : i < nL) (hl' : (i, Value.int x) :: lv.filter (fun q => !(q.1 == i) && !(q.1 + 1 == i && q.2.category == 2)) = lv') (k : Yx A p l e R s m args below meth c nL cells slots Q lv' H (pc + 2) rest) : Yx A p l e R s m args below meth c nL cells slots Q lv H pc (.int x :: rest) :=
  fun ls locs hl hS => lv_istore C.1 C.2.1 hdg hl hn hl' (fun ls' h' => k ls' locs h' hS)
theorem y_astore_n (C : Cx g B0 A p s m args meth c cc nL own) {j : Fin 4} {i : Nat} {x : Nat} (hdg : decode cc pc = .ok (.astore_n j, 1)) (hi : (j : Nat) = i) (hn : i < nL) (hl' : (i, Value.ref x) :: lv.filter (fun q => !(q.1 == i) && !(q.1 + 1 == i && q.2.category == 2)) = lv') (k : Yx A p l e R s m args below meth c nL cells slots Q lv' H (pc + 1) rest) : Yx A p l e R s m args below meth c nL cells slots Q lv H pc (.ref x :: rest) :=
  fun ls locs hl hS => lv_astore_n C.1 C.2.1 hdg hi hl hn hl' (fun ls' h' => k ls' locs h' hS)
theorem y_fstore_n (C : Cx g B0 A p s m args meth c cc nL own) {j : Fin 4} {i : Nat} {x : UInt32} (hdg : decode cc pc = .ok (.fstore_n j, 1)) (hi : (j : Nat) = i) (hn : i < nL) (hl' : (i, Value.float x) :: lv.filter (fun q => !(q.1 == i) && !(q.1 + 1 == i && q.2.category == 2)) = lv') (k : Yx A p l e R s m args below meth c nL cells slots Q lv' H (pc + 1) rest) : Yx A p l e R s m args below meth c nL cells slots Q lv H pc (.float x :: rest) :=
  fun ls locs hl hS => lv_fstore_n C.1 C.2.1 hdg hi hl hn hl' (fun ls' h' => k ls' locs h' hS)
theorem y_iinc (C : Cx g B0 A p s m args meth c cc nL own) {i : Nat} {n : Int} {x : Int32} (q : Nat) (v : Int32) (hdg : decode cc pc = .ok (.iinc i n, 3)) (hq : lv[q]? = some (i, .int x)) (hv : x + Int32.ofInt n = v) (hn : i < nL) (hl' : (i, Value.int v) :: lv.filter (fun q => !(q.1 == i) && !(q.1 + 1 == i && q.2.category == 2)) = lv') (k : Yx A p l e R s m args below meth c nL cells slots Q lv' H (pc + 3) rest) : Yx A p l e R s m args below meth c nL cells slots Q lv H pc rest :=
  fun ls locs hl hS => lv_iinc C.1 C.2.1 hdg hl hq hv hn hl' (fun ls' h' => k ls' locs h' hS)
theorem y_iadd (C : Cx g B0 A p s m args meth c cc nL own) {x y : Int32} (hdg : decode cc pc = .ok (.iadd, 1)) (k : Yx A p l e R s m args below meth c nL cells slots Q lv H (pc + 1) (.int (x + y) :: rest)) : Yx A p l e R s m args below meth c nL cells slots Q lv H pc (.int y :: .int x :: rest) :=
  fun ls locs hl hS => lv_iadd C.1 C.2.1 hdg (k ls locs hl hS)
theorem y_isub (C : Cx g B0 A p s m args meth c cc nL own) {x y : Int32} (hdg : decode cc pc = .ok (.isub, 1)) (k : Yx A p l e R s m args below meth c nL cells slots Q lv H (pc + 1) (.int (x - y) :: rest)) : Yx A p l e R s m args below meth c nL cells slots Q lv H pc (.int y :: .int x :: rest) :=
  fun ls locs hl hS => lv_isub C.1 C.2.1 hdg (k ls locs hl hS)
theorem y_imul (C : Cx g B0 A p s m args meth c cc nL own) {x y : Int32} (hdg : decode cc pc = .ok (.imul, 1)) (k : Yx A p l e R s m args below meth c nL cells slots Q lv H (pc + 1) (.int (x * y) :: rest)) : Yx A p l e R s m args below meth c nL cells slots Q lv H pc (.int y :: .int x :: rest) :=
  fun ls locs hl hS => lv_imul C.1 C.2.1 hdg (k ls locs hl hS)
theorem y_iand (C : Cx g B0 A p s m args meth c cc nL own) {x y : Int32} (hdg : decode cc pc = .ok (.iand, 1)) (k : Yx A p l e R s m args below meth c nL cells slots Q lv H (pc + 1) (.int (x &&& y) :: rest)) : Yx A p l e R s m args below meth c nL cells slots Q lv H pc (.int y :: .int x :: rest) :=
  fun ls locs hl hS => lv_iand C.1 C.2.1 hdg (k ls locs hl hS)
theorem y_ior (C : Cx g B0 A p s m args meth c cc nL own) {x y : Int32} (hdg : decode cc pc = .ok (.ior, 1)) (k : Yx A p l e R s m args below meth c nL cells slots Q lv H (pc + 1) (.int (x ||| y) :: rest)) : Yx A p l e R s m args below meth c nL cells slots Q lv H pc (.int y :: .int x :: rest) :=
  fun ls locs hl hS => lv_ior C.1 C.2.1 hdg (k ls locs hl hS)
theorem y_ishl (C : Cx g B0 A p s m args meth c cc nL own) {x y v : Int32} (hdg : decode cc pc = .ok (.ishl, 1)) (hv : ∀ z, Yx A p l e R s m args below meth c nL cells slots Q lv H (pc + 1) (.int z :: rest)) : Yx A p l e R s m args below meth c nL cells slots Q lv H pc (.int y :: .int x :: rest) :=
  fun ls locs hl hS => lv_ishl C.1 C.2.1 hdg (hv _ ls locs hl hS)
theorem y_iushr (C : Cx g B0 A p s m args meth c cc nL own) {x y : Int32} (v : Int32) (hdg : decode cc pc = .ok (.iushr, 1)) (hv : (x.toUInt32 >>> (y.toUInt32 &&& Int32.toUInt32 31)).toInt32 = v) (k : Yx A p l e R s m args below meth c nL cells slots Q lv H (pc + 1) (.int v :: rest)) : Yx A p l e R s m args below meth c nL cells slots Q lv H pc (.int y :: .int x :: rest) :=
  fun ls locs hl hS => lv_iushr C.1 C.2.1 hdg hv (k ls locs hl hS)
theorem y_idiv (C : Cx g B0 A p s m args meth c cc nL own) {x y : Int32} (hdg : decode cc pc = .ok (.idiv, 1)) (hne : ¬ y = 0) (k : Yx A p l e R s m args below meth c nL cells slots Q lv H (pc + 1) (.int (x / y) :: rest)) : Yx A p l e R s m args below meth c nL cells slots Q lv H pc (.int y :: .int x :: rest) :=
  fun ls locs hl hS => lv_idiv C.1 C.2.1 hdg hne (k ls locs hl hS)
theorem y_irem (C : Cx g B0 A p s m args meth c cc nL own) {x y : Int32} (hdg : decode cc pc = .ok (.irem, 1)) (hne : ¬ y = 0) (k : ∀ z, z = x - x / y * y → Yx A p l e R s m args below meth c nL cells slots Q lv H (pc + 1) (.int z :: rest)) : Yx A p l e R s m args below meth c nL cells slots Q lv H pc (.int y :: .int x :: rest) :=
  fun ls locs hl hS => lv_irem C.1 C.2.1 hdg hne (k _ rfl ls locs hl hS)
end ROWS
