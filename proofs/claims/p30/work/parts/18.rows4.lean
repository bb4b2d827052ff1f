/-! constructors: rows that make cells -/
section ROWS4
variable {g : KG} {B0 : Nat} {A : Nat → Prop} {p : Program} {l : Launch} {e : Env} {R : Room} {s : State} {m : MethodId} {args : Array Value} {below : List Frame} {meth : Method} {c : Code} {cc : ByteArray} {nL : Nat} {own : String} {cells slots : Nat} {Q : State → Prop} {lv lv' : List (Nat × Value)} {H : Heap} {pc : Nat} {rest : List Value}
theorem y_objInit (C : Cx g B0 A p s m args meth c cc nL own) {index a : Nat} (w1 : Cond.methodLink own index objectInit ∈ wsL_law) (w2 : Cond.instanceMethod objectInit ∈ wsL_law) (w3 : Cond.code objectInit ⟨#[0xb1]⟩ 1 none ∈ wsL_law) (hf : 1 ≤ R.frames) (hlo : 2 * 0 + (rest.map fun v => v.category).sum + 12 ≤ R.locals) (hdg : decode cc pc = .ok (.invokespecial index, 3)) (k : Yx A p l e R s m args below meth c nL cells slots Q lv H (pc + 3) rest) : Yx A p l e R s m args below meth c nL cells slots Q lv H pc (.ref a :: rest) := by
  intro ls locs hl hS
  refine W.objInit C.1 C.2.1 C.2.2.2.1 (C.2.2.2.2.1 _ w1) (C.2.2.2.2.1 _ w2) (C.2.2.2.2.1 _ w3) rfl (by rw [C.2.2.1]; exact hl.1) rfl hdg hf hlo ?_
  exact k ls locs hl hS
theorem grow {A : Nat → Prop} {H0 H H1 : Heap} {locs : List Loc} (hS : va_S A H0 H locs) (z : H1.size = H.size + 1) (o : ∀ q, q < H.size → H1[q]? = H[q]?) : va_S A H0 H1 locs := ⟨Nat.le_trans hS.1 (by omega), fun x h1 h2 => (o x (Nat.lt_of_lt_of_le h1 hS.1)).trans (hS.2.1 x h1 h2), hS.2.2⟩
theorem y_new0 (C : Cx g B0 A p s m args meth c cc nL own) {index : Nat} {fs : List Value} (w1 : Cond.classLink own index RX0 ∈ wsL_law) (w2 : Cond.instantiable RX0 2 ∈ wsL_law) (w3 : Cond.initialized RX0 ∈ wsL_law) (hfs : ∀ j, j < 2 → defaultValue (tyX0 j) = vp_V fs j) (hcells : cells + 1 ≤ R.cells) (hslots : slots + 2 ≤ R.slots) (hdg : decode cc pc = .ok (.new index, 3)) {z : Nat} (hz : H.size = z) (kk : ∀ H1 : Heap, cA1 g z (.inr (0, fs)) H1 → H1.size = z + 1 → (∀ q, q < z → H1[q]? = H[q]?) → Yx A p l e R s m args below meth c nL (cells + 1) (slots + 2) Q lv H1 (pc + 3) (.ref z :: rest)) : Yx A p l e R s m args below meth c nL cells slots Q lv H pc rest := by
  subst hz
  intro ls locs hl hS
  obtain ⟨hexec, hb, -, hown, hts, hE, -⟩ := C
  have hKn := hE.1.1 0 _ rfl
  refine W.newcK hexec hb hown (hts _ w1) (hts _ w2) (hts _ w3) rfl hdg hcells hslots hKn.2.1 rfl fun H1 kC hkC e1 z1 o1 => ?_
  exact kk H1 ⟨_, rfl, (u_born tyX0 hts inlX0 hKn hkC e1 tyX0_ok).to hfs⟩ z1 o1 ls locs hl (grow hS z1 o1)
theorem y_new1 (C : Cx g B0 A p s m args meth c cc nL own) {index : Nat} {fs : List Value} (w1 : Cond.classLink own index RX1 ∈ wsL_law) (w2 : Cond.instantiable RX1 6 ∈ wsL_law) (w3 : Cond.initialized RX1 ∈ wsL_law) (hfs : ∀ j, j < 6 → defaultValue (tyX1 j) = vp_V fs j) (hcells : cells + 1 ≤ R.cells) (hslots : slots + 6 ≤ R.slots) (hdg : decode cc pc = .ok (.new index, 3)) {z : Nat} (hz : H.size = z) (kk : ∀ H1 : Heap, cA1 g z (.inr (1, fs)) H1 → H1.size = z + 1 → (∀ q, q < z → H1[q]? = H[q]?) → Yx A p l e R s m args below meth c nL (cells + 1) (slots + 6) Q lv H1 (pc + 3) (.ref z :: rest)) : Yx A p l e R s m args below meth c nL cells slots Q lv H pc rest := by
  subst hz
  intro ls locs hl hS
  obtain ⟨hexec, hb, -, hown, hts, hE, -⟩ := C
  have hKn := hE.1.1 1 _ rfl
  refine W.newcK hexec hb hown (hts _ w1) (hts _ w2) (hts _ w3) rfl hdg hcells hslots hKn.2.1 rfl fun H1 kC hkC e1 z1 o1 => ?_
  exact kk H1 ⟨_, rfl, (u_born tyX1 hts inlX1 hKn hkC e1 tyX1_ok).to hfs⟩ z1 o1 ls locs hl (grow hS z1 o1)
theorem y_new2 (C : Cx g B0 A p s m args meth c cc nL own) {index : Nat} {fs : List Value} (w1 : Cond.classLink own index RX2 ∈ wsL_law) (w2 : Cond.instantiable RX2 6 ∈ wsL_law) (w3 : Cond.initialized RX2 ∈ wsL_law) (hfs : ∀ j, j < 6 → defaultValue (tyX2 j) = vp_V fs j) (hcells : cells + 1 ≤ R.cells) (hslots : slots + 6 ≤ R.slots) (hdg : decode cc pc = .ok (.new index, 3)) {z : Nat} (hz : H.size = z) (kk : ∀ H1 : Heap, cA1 g z (.inr (2, fs)) H1 → H1.size = z + 1 → (∀ q, q < z → H1[q]? = H[q]?) → Yx A p l e R s m args below meth c nL (cells + 1) (slots + 6) Q lv H1 (pc + 3) (.ref z :: rest)) : Yx A p l e R s m args below meth c nL cells slots Q lv H pc rest := by
  subst hz
  intro ls locs hl hS
  obtain ⟨hexec, hb, -, hown, hts, hE, -⟩ := C
  have hKn := hE.1.1 2 _ rfl
  refine W.newcK hexec hb hown (hts _ w1) (hts _ w2) (hts _ w3) rfl hdg hcells hslots hKn.2.1 rfl fun H1 kC hkC e1 z1 o1 => ?_
  exact kk H1 ⟨_, rfl, (u_born tyX2 hts inlX2 hKn hkC e1 tyX2_ok).to hfs⟩ z1 o1 ls locs hl (grow hS z1 o1)
theorem y_new3 (C : Cx g B0 A p s m args meth c cc nL own) {index : Nat} {fs : List Value} (w1 : Cond.classLink own index RX3 ∈ wsL_law) (w2 : Cond.instantiable RX3 2 ∈ wsL_law) (w3 : Cond.initialized RX3 ∈ wsL_law) (hfs : ∀ j, j < 2 → defaultValue (tyX3 j) = vp_V fs j) (hcells : cells + 1 ≤ R.cells) (hslots : slots + 2 ≤ R.slots) (hdg : decode cc pc = .ok (.new index, 3)) {z : Nat} (hz : H.size = z) (kk : ∀ H1 : Heap, cA1 g z (.inr (3, fs)) H1 → H1.size = z + 1 → (∀ q, q < z → H1[q]? = H[q]?) → Yx A p l e R s m args below meth c nL (cells + 1) (slots + 2) Q lv H1 (pc + 3) (.ref z :: rest)) : Yx A p l e R s m args below meth c nL cells slots Q lv H pc rest := by
  subst hz
  intro ls locs hl hS
  obtain ⟨hexec, hb, -, hown, hts, hE, -⟩ := C
  have hKn := hE.1.1 3 _ rfl
  refine W.newcK hexec hb hown (hts _ w1) (hts _ w2) (hts _ w3) rfl hdg hcells hslots hKn.2.1 rfl fun H1 kC hkC e1 z1 o1 => ?_
  exact kk H1 ⟨_, rfl, (u_born tyX3 hts inlX3 hKn hkC e1 tyX3_ok).to hfs⟩ z1 o1 ls locs hl (grow hS z1 o1)
theorem y_new4 (C : Cx g B0 A p s m args meth c cc nL own) {index : Nat} {fs : List Value} (w1 : Cond.classLink own index RX4 ∈ wsL_law) (w2 : Cond.instantiable RX4 9 ∈ wsL_law) (w3 : Cond.initialized RX4 ∈ wsL_law) (hfs : ∀ j, j < 9 → defaultValue (tyX4 j) = vp_V fs j) (hcells : cells + 1 ≤ R.cells) (hslots : slots + 9 ≤ R.slots) (hdg : decode cc pc = .ok (.new index, 3)) {z : Nat} (hz : H.size = z) (kk : ∀ H1 : Heap, cA1 g z (.inr (4, fs)) H1 → H1.size = z + 1 → (∀ q, q < z → H1[q]? = H[q]?) → Yx A p l e R s m args below meth c nL (cells + 1) (slots + 9) Q lv H1 (pc + 3) (.ref z :: rest)) : Yx A p l e R s m args below meth c nL cells slots Q lv H pc rest := by
  subst hz
  intro ls locs hl hS
  obtain ⟨hexec, hb, -, hown, hts, hE, -⟩ := C
  have hKn := hE.1.1 4 _ rfl
  refine W.newcK hexec hb hown (hts _ w1) (hts _ w2) (hts _ w3) rfl hdg hcells hslots hKn.2.1 rfl fun H1 kC hkC e1 z1 o1 => ?_
  exact kk H1 ⟨_, rfl, (u_born tyX4 hts inlX4 hKn hkC e1 tyX4_ok).to hfs⟩ z1 o1 ls locs hl (grow hS z1 o1)
theorem y_new5 (C : Cx g B0 A p s m args meth c cc nL own) {index : Nat} {fs : List Value} (w1 : Cond.classLink own index RX5 ∈ wsL_law) (w2 : Cond.instantiable RX5 8 ∈ wsL_law) (w3 : Cond.initialized RX5 ∈ wsL_law) (hfs : ∀ j, j < 8 → defaultValue (tyX5 j) = vp_V fs j) (hcells : cells + 1 ≤ R.cells) (hslots : slots + 8 ≤ R.slots) (hdg : decode cc pc = .ok (.new index, 3)) {z : Nat} (hz : H.size = z) (kk : ∀ H1 : Heap, cA1 g z (.inr (5, fs)) H1 → H1.size = z + 1 → (∀ q, q < z → H1[q]? = H[q]?) → Yx A p l e R s m args below meth c nL (cells + 1) (slots + 8) Q lv H1 (pc + 3) (.ref z :: rest)) : Yx A p l e R s m args below meth c nL cells slots Q lv H pc rest := by
  subst hz
  intro ls locs hl hS
  obtain ⟨hexec, hb, -, hown, hts, hE, -⟩ := C
  have hKn := hE.1.1 5 _ rfl
  refine W.newcK hexec hb hown (hts _ w1) (hts _ w2) (hts _ w3) rfl hdg hcells hslots hKn.2.1 rfl fun H1 kC hkC e1 z1 o1 => ?_
  exact kk H1 ⟨_, rfl, (u_born tyX5 hts inlX5 hKn hkC e1 tyX5_ok).to hfs⟩ z1 o1 ls locs hl (grow hS z1 o1)
theorem y_new6 (C : Cx g B0 A p s m args meth c cc nL own) {index : Nat} {fs : List Value} (w1 : Cond.classLink own index RX6 ∈ wsL_law) (w2 : Cond.instantiable RX6 6 ∈ wsL_law) (w3 : Cond.initialized RX6 ∈ wsL_law) (hfs : ∀ j, j < 6 → defaultValue (tyX6 j) = vp_V fs j) (hcells : cells + 1 ≤ R.cells) (hslots : slots + 6 ≤ R.slots) (hdg : decode cc pc = .ok (.new index, 3)) {z : Nat} (hz : H.size = z) (kk : ∀ H1 : Heap, cA1 g z (.inr (6, fs)) H1 → H1.size = z + 1 → (∀ q, q < z → H1[q]? = H[q]?) → Yx A p l e R s m args below meth c nL (cells + 1) (slots + 6) Q lv H1 (pc + 3) (.ref z :: rest)) : Yx A p l e R s m args below meth c nL cells slots Q lv H pc rest := by
  subst hz
  intro ls locs hl hS
  obtain ⟨hexec, hb, -, hown, hts, hE, -⟩ := C
  have hKn := hE.1.1 6 _ rfl
  refine W.newcK hexec hb hown (hts _ w1) (hts _ w2) (hts _ w3) rfl hdg hcells hslots hKn.2.1 rfl fun H1 kC hkC e1 z1 o1 => ?_
  exact kk H1 ⟨_, rfl, (u_born tyX6 hts inlX6 hKn hkC e1 tyX6_ok).to hfs⟩ z1 o1 ls locs hl (grow hS z1 o1)
theorem y_newai (C : Cx g B0 A p s m args meth c cc nL own) {n : Int32} {N' : Nat} (w1 : Cond.arrayClass .int ∈ wsL_law) (hn : ¬ n < 0) (hN : n.toNatClampNeg = N') (hbytes : N' * componentBytes .int ≤ 536870912) (hcells : cells + 1 ≤ R.cells) (hslots : slots + N' ≤ R.slots) (hdg : decode cc pc = .ok (.newarray .int, 2)) {z : Nat} (hz : H.size = z) (kk : ∀ H1 : Heap, cA1 g z (.inl (g.2 0, N', .inl (fun _ => 0))) H1 → H1.size = z + 1 → (∀ q, q < z → H1[q]? = H[q]?) → Yx A p l e R s m args below meth c nL (cells + 1) (slots + N') Q lv H1 (pc + 2) (.ref z :: rest)) : Yx A p l e R s m args below meth c nL cells slots Q lv H pc (.int n :: rest) := by
  subst hz
  intro ls locs hl hS
  refine va_newaK (atype := .int) C.1 C.2.1 (C.2.2.2.2.1 _ w1) rfl hdg rfl hn hN hbytes hcells hslots rfl fun H1 cA e1 z1 o1 _ hNm => ?_
  have hcA : cA = g.2 0 := by
    have h2 : s.vm.findClass ("[" ++ (FieldType.int).toString) = some (g.2 0) := (C.2.2.2.2.2.1.1.2 0 _ rfl).2
    exact Option.some.inj (hNm.symm.trans h2)
  subst hcA
  refine kk H1 ?_ z1 o1 ls locs hl (grow hS z1 o1)
  show H1[H.size]? = some (vp_cell _ _)
  rw [vp_cell_i]
  exact e1
theorem y_newaf (C : Cx g B0 A p s m args meth c cc nL own) {n : Int32} {N' : Nat} (w1 : Cond.arrayClass .float ∈ wsL_law) (hn : ¬ n < 0) (hN : n.toNatClampNeg = N') (hbytes : N' * componentBytes .float ≤ 536870912) (hcells : cells + 1 ≤ R.cells) (hslots : slots + N' ≤ R.slots) (hdg : decode cc pc = .ok (.newarray .float, 2)) {z : Nat} (hz : H.size = z) (kk : ∀ H1 : Heap, cA1 g z (.inl (g.2 1, N', .inr (.inr (.inl (fun _ => 0))))) H1 → H1.size = z + 1 → (∀ q, q < z → H1[q]? = H[q]?) → Yx A p l e R s m args below meth c nL (cells + 1) (slots + N') Q lv H1 (pc + 2) (.ref z :: rest)) : Yx A p l e R s m args below meth c nL cells slots Q lv H pc (.int n :: rest) := by
  subst hz
  intro ls locs hl hS
  refine va_newaK (atype := .float) C.1 C.2.1 (C.2.2.2.2.1 _ w1) rfl hdg rfl hn hN hbytes hcells hslots rfl fun H1 cA e1 z1 o1 _ hNm => ?_
  have hcA : cA = g.2 1 := by
    have h2 : s.vm.findClass ("[" ++ (FieldType.float).toString) = some (g.2 1) := (C.2.2.2.2.2.1.1.2 1 _ rfl).2
    exact Option.some.inj (hNm.symm.trans h2)
  subst hcA
  refine kk H1 ?_ z1 o1 ls locs hl (grow hS z1 o1)
  show H1[H.size]? = some (vp_cell _ _)
  rw [vp_cell_f]
  exact e1
theorem y_newac (C : Cx g B0 A p s m args meth c cc nL own) {n : Int32} {N' : Nat} (w1 : Cond.arrayClass .char ∈ wsL_law) (hn : ¬ n < 0) (hN : n.toNatClampNeg = N') (hbytes : N' * componentBytes .char ≤ 536870912) (hcells : cells + 1 ≤ R.cells) (hslots : slots + N' ≤ R.slots) (hdg : decode cc pc = .ok (.newarray .char, 2)) {z : Nat} (hz : H.size = z) (kk : ∀ H1 : Heap, cA1 g z (.inl (g.2 2, N', .inl (fun _ => 0))) H1 → H1.size = z + 1 → (∀ q, q < z → H1[q]? = H[q]?) → Yx A p l e R s m args below meth c nL (cells + 1) (slots + N') Q lv H1 (pc + 2) (.ref z :: rest)) : Yx A p l e R s m args below meth c nL cells slots Q lv H pc (.int n :: rest) := by
  subst hz
  intro ls locs hl hS
  refine va_newaK (atype := .char) C.1 C.2.1 (C.2.2.2.2.1 _ w1) rfl hdg rfl hn hN hbytes hcells hslots rfl fun H1 cA e1 z1 o1 _ hNm => ?_
  have hcA : cA = g.2 2 := by
    have h2 : s.vm.findClass ("[" ++ (FieldType.char).toString) = some (g.2 2) := (C.2.2.2.2.2.1.1.2 2 _ rfl).2
    exact Option.some.inj (hNm.symm.trans h2)
  subst hcA
  refine kk H1 ?_ z1 o1 ls locs hl (grow hS z1 o1)
  show H1[H.size]? = some (vp_cell _ _)
  rw [vp_cell_i]
  exact e1
theorem y_newq (C : Cx g B0 A p s m args meth c cc nL own) {index : Nat} {n : Int32} {N' : Nat} (w1 : Cond.classLink own index "SetRepairs$Desk" ∈ wsL_law) (hn : ¬ n < 0) (hN : n.toNatClampNeg = N') (hbytes : N' * 4 ≤ 536870912) (hcells : cells + 1 ≤ R.cells) (hslots : slots + N' ≤ R.slots) (hdg : decode cc pc = .ok (.anewarray index, 3)) {z : Nat} (hz : H.size = z) (kk : ∀ H1 : Heap, cA1 g z (.inl (g.2 3, N', .inr (.inr (.inr (.inr (fun _ => none)))))) H1 → H1.size = z + 1 → (∀ q, q < z → H1[q]? = H[q]?) → Yx A p l e R s m args below meth c nL (cells + 1) (slots + N') Q lv H1 (pc + 3) (.ref z :: rest)) : Yx A p l e R s m args below meth c nL cells slots Q lv H pc (.int n :: rest) := by
  subst hz
  subst hN
  intro ls locs hl hS
  refine W.anew C.1 C.2.1 C.2.2.2.1 (C.2.2.2.2.1 _ w1) (va_AO.use C.2.2.2.2.2.1.2.2.2.2.1) rfl hdg rfl hn hbytes hcells hslots fun cA kA comp f1 f2 f3 f4 => ?_
  generalize hH1 : H.push ({ cls := cA, slots := Array.replicate n.toNatClampNeg .null, vm := .none } : Cell) = H1
  have z1 : H1.size = H.size + 1 := by rw [← hH1, Array.size_push]
  have e1 : H1[H.size]? = some (arrV cA n.toNatClampNeg (fun _ => .null)) := by rw [← hH1, Array.getElem?_push_size, ← arrV_new]
  have o1 : ∀ q : Nat, q < H.size → H1[q]? = H[q]? := fun q hq => by rw [← hH1, Array.getElem?_push, if_neg (Nat.ne_of_lt hq)]
  have hcA : cA = g.2 3 := by
    obtain ⟨_, _, _, _, _, h2⟩ := (C.2.2.2.2.2.1.1.2 3 _ rfl).2
    exact Option.some.inj (f1.symm.trans h2)
  subst hcA
  refine kk H1 ?_ z1 o1 ls locs hl (grow hS z1 o1)
  show H1[H.size]? = some (vp_cell _ _)
  rw [vp_cell_q]
  exact e1
theorem y_callIN (C : Cx g B0 A p s m args meth c cc nL own) {y : MethodName} {cy : ByteArray} {nY : Nat} {rm : Room} {A1 : Nat → Prop} {P P1 : Heap → Prop} {mc ms index : Nat} {b : Nat} (hM : Mt g B0 l y cy nY none rm [.ref b] A1 P none P1 mc ms) (host : String) (hw1 : va_Nw (.methodLinkNest own index y host) s) (hw2 : Cond.instanceMethod y ∈ wsL_law) (hw3 : Cond.initialized y.cls ∈ wsL_law) (hw4 : Cond.code y cy nY none ∈ wsL_law) (hy : y.name = "<init>") (hd : y.cls ≠ "java/lang/invoke/MethodHandle" ∧ y.cls ≠ "java/lang/invoke/VarHandle" ∧ (parseMethodDescriptor y.desc).map (fun d => d.parameters.length) = some 0) (hR : rm.frames + 1 ≤ R.frames ∧ 8 + (nY + 11) + rm.locals ≤ R.locals) (hrm : rm.cells = mc ∧ rm.slots = ms) (hP : P H) (hA1 : ∀ q, A1 q → A q) (hcat : (rest.map fun v => v.category).sum ≤ 8) (hdg : decode cc pc = .ok (.invokespecial index, 3)) (hroom : cells + mc ≤ R.cells ∧ slots + ms ≤ R.slots) (kk : ∀ H1 : Heap, P1 H1 → H.size ≤ H1.size → (∀ q : Nat, q < H.size → ¬ A1 q → H1[q]? = H[q]?) → Yx A p l e R s m args below meth c nL (cells + mc) (slots + ms) Q lv H1 (pc + 3) rest) : Yx A p l e R s m args below meth c nL cells slots Q lv H pc (.ref b :: rest) := by
  intro ls locs hl hS
  have hG : ∀ w ∈ (.code y cy nY none :: wsL_law : List Cond), w ∈ wsL_law := fun w h => (List.mem_cons.mp h).elim (fun e => e ▸ hw4) id
  exact y_goes (rest := rest) hl (va_runIN (As := []) (rest := rest) ⟨C.1, C.2.1, C.2.2.1, C.2.2.2.1, C.2.2.2.2.1⟩ hM ⟨va_cnB 0 C.2.2.2.2.1 (lwG hG) rfl hrm.1 hrm.2 hw1 (C.2.2.2.2.1 _ hw3) hd hR, hy, C.2.2.2.2.1 _ hw2⟩ ⟨preB, preU C.2.2.2.2.2.1 C.2.2.2.2.2.2.1 hS hA1 hP⟩ rfl rfl hl.1 rfl (lv_room hcat) hdg hroom) hS hA1 rfl kk
end ROWS4
/-- a new desk -/
def tabF (l : List UInt32) : Nat → UInt32 := fun j => l.getD j 0
def dNew : DV := (fun i => match i with
  | 2 => tabL [8, 4500, 7, 90, 2]
  | 4 => fun _ => 100
  | 5 => fun _ => 2
  | _ => fun _ => 0, tabF [1068708659, 1066192077, 1103888384, 1058642330])
theorem cA1i_same {g : KG} {q n i : Nat} {f f2 : Nat → Int32} {H : Heap} (h : cA1 g q (.inl (g.2 i, n, .inl f)) H) (e : ∀ j, j < n → f j = f2 j) : cA1 g q (.inl (g.2 i, n, .inl f2)) H := by
  have h1 : H[q]? = some (vp_cell (g.2 i) (n, .inl f)) := h
  show H[q]? = some (vp_cell (g.2 i) (n, .inl f2))
  rw [h1, vp_cell_i, vp_cell_i]
  exact congrArg some (arrV_same _ _ (fun j hj => by rw [e j hj]))
theorem cA1f_same {g : KG} {q n i : Nat} {f f2 : Nat → UInt32} {H : Heap} (h : cA1 g q (.inl (g.2 i, n, .inr (.inr (.inl f)))) H) (e : ∀ j, j < n → f j = f2 j) : cA1 g q (.inl (g.2 i, n, .inr (.inr (.inl f2)))) H := by
  have h1 : H[q]? = some (vp_cell (g.2 i) (n, .inr (.inr (.inl f)))) := h
  show H[q]? = some (vp_cell (g.2 i) (n, .inr (.inr (.inl f2))))
  rw [h1, vp_cell_f, vp_cell_f]
  exact congrArg some (arrV_same _ _ (fun j hj => by rw [e j hj]))
/-- some cells of a desk -/
def dks (g : KG) (a : Nat) (d : DV) (lo hi : Nat) (H : Heap) : Prop := ∀ i, lo ≤ i → i < hi → cA1 g (a + i) (dkc g a d i) H
theorem dks.kept {g : KG} {a lo hi : Nat} {d : DV} {H H1 : Heap} (h : dks g a d lo hi H) (o : ∀ q, a + lo ≤ q → q < a + hi → H1[q]? = H[q]?) : dks g a d lo hi H1 := fun i h1 h2 => (h i h1 h2).kept (o _ (by omega) (by omega))
theorem lt6 {P : Nat → Prop} (h : P 0 ∧ P 1 ∧ P 2 ∧ P 3 ∧ P 4 ∧ P 5) : ∀ j, j < 6 → P j := by
  intro j hj
  match j, hj with
  | 0, _ => exact h.1
  | 1, _ => exact h.2.1
  | 2, _ => exact h.2.2.1
  | 3, _ => exact h.2.2.2.1
  | 4, _ => exact h.2.2.2.2.1
  | 5, _ => exact h.2.2.2.2.2
  | n + 6, hj => exact absurd hj (by omega)
