/-! THE LAW's own methods: small ones first -/
theorem y_irem2 {g : KG} {B0 : Nat} {A : Nat → Prop} {p : Program} {l : Launch} {e : Env} {R : Room} {s : State} {m : MethodId} {args : Array Value} {below : List Frame} {meth : Method} {c : Code} {cc : ByteArray} {nL : Nat} {own : String} {cells slots : Nat} {Q : State → Prop} {lv : List (Nat × Value)} {H : Heap} {pc : Nat} {rest : List Value} (C : Cx g B0 A p s m args meth c cc nL own) {x y : Int32} (z : Int32) (hdg : decode cc pc = .ok (.irem, 1)) (hne : ¬ y = 0) (hz : x - x / y * y = z) (k : Yx A p l e R s m args below meth c nL cells slots Q lv H (pc + 1) (.int z :: rest)) : Yx A p l e R s m args below meth c nL cells slots Q lv H pc (.int y :: .int x :: rest) :=
  y_irem C hdg hne (fun w hw => by rw [hw, hz]; exact k)
/-- the rest of a value's low 31 bits -/
def lw (v : Int32) (n : Nat) : Nat := v.toBitVec.toNat % 2 ^ 31 % n
theorem lw_lt {v : Int32} {n : Nat} (h : 0 < n) : lw v n < n := Nat.mod_lt _ h
def nedL (f p : Nat) : Int32 := if f = 0 ∧ p = 0 ∨ f = 1 ∧ p = 1 ∨ f = 3 ∧ (p = 3 ∨ p = 4) ∨ f = 4 ∧ p = 5 then 1 else if f = 2 ∧ p = 2 then 2 else 0
theorem need_all : ∀ f, f < 5 → ∀ p, p < 6 → (need f p = 0 ∨ need f p = 1 ∨ need f p = 2) := by decide +kernel
/-- the script -/
def scr (B0 sb L : Nat) (xs : Nat → Int32) (U : State) (H : Heap) : Prop := va_X sb L xs U H ∧ sb < B0
def MtS (g : KG) (B0 sb L : Nat) (xs : Nat → Int32) (l : Launch) (y : MethodName) (cc : ByteArray) (nL : Nat) (ret : Option FieldType) (rm : Room) (av : List Value) (A : Nat → Prop) (P : Heap → Prop) (rv : Option Value) (P1 : Heap → Prop) (mc ms : Nat) : Prop :=
  Met l y (.code y cc nL ret :: wsL_law) rm (va_Pc av (fun U => (∀ q, A q → B0 ≤ q) ∧ env g B0 U U.heap ∧ scr B0 sb L xs U U.heap ∧ P U.heap)) (Qx rv P1 A) mc ms A
theorem scr.kept {B0 sb L : Nat} {xs : Nat → Int32} {U : State} {H H1 : Heap} (h : scr B0 sb L xs U H) (hq : ∀ q : Nat, q < H.size → q < B0 → H1[q]? = H[q]?) : scr B0 sb L xs U H1 := by
  obtain ⟨hx, hb⟩ := h
  refine ⟨hx.kept (hq sb ?_ hb), hb⟩
  obtain ⟨c, h1, -⟩ := hx
  exact (Array.getElem?_eq_some_iff.mp h1).1
theorem preBS {g : KG} {B0 sb L : Nat} {xs : Nat → Int32} {A1 : Nat → Prop} {av : List Value} {P : Heap → Prop} : FrameBlind (va_Pc av (fun U => (∀ q, A1 q → B0 ≤ q) ∧ env g B0 U U.heap ∧ scr B0 sb L xs U U.heap ∧ P U.heap)) := fun a U f mk q => ⟨q.1, q.2.1, env.same (u := U) (U := U.calling f mk a) rfl q.2.2.1, ⟨va_X.moved (u := U) (U := U.calling f mk a) (Vm.Alike.refl U.vm) q.2.2.2.1.1, q.2.2.2.1.2⟩, q.2.2.2.2⟩
theorem preUS {g : KG} {B0 sb L : Nat} {xs : Nat → Int32} {A A1 : Nat → Prop} {s : State} {H : Heap} {av : List Value} {P : Heap → Prop} {locs : List Loc} (hE : env g B0 s s.heap) (hX : scr B0 sb L xs s s.heap) (hAB : ∀ q, A q → B0 ≤ q) (hS : va_S A s.heap H locs) (hA1 : ∀ q, A1 q → A q) (hP : P H) : ∀ U : State, U.heap = H → s.WarmedH U.vm → va_Pc av (fun U => (∀ q, A1 q → B0 ≤ q) ∧ env g B0 U U.heap ∧ scr B0 sb L xs U U.heap ∧ P U.heap) av.toArray U := by
  intro U hU hW
  have hk : ∀ q : Nat, q < s.heap.size → q < B0 → H[q]? = s.heap[q]? := fun q h1 h2 => hS.2.1 q h1 (fun z => Nat.lt_irrefl _ (Nat.lt_of_lt_of_le h2 (hAB q z)))
  refine ⟨rfl, fun q hq => hAB q (hA1 q hq), ?_, ?_, by rw [hU]; exact hP⟩
  · rw [hU]; exact (hE.warm hW).kept hk
  · rw [hU]; exact scr.kept (H := s.heap) ⟨hX.1.moved hW.alike, hX.2⟩ hk
theorem MtS_of {g : KG} {B0 sb L : Nat} {xs : Nat → Int32} {l : Launch} {y : MethodName} {cy : ByteArray} {nY : Nat} {ret : Option FieldType} {rm : Room} {av : List Value} {A : Nat → Prop} {P : Heap → Prop} {rv : Option Value} {P1 : Heap → Prop} {mc ms : Nat} (own : String) (hy : plainName y.cls = true) (hown : y.cls = own) (lv0 : List (Nat × Value)) (hlv : lv_args 0 av = lv0) (hlen : (lg_sl av).length ≤ nY)
  (body : ∀ p e s m args below meth c, Cx g B0 A p s m args meth c cy nY own → meth.sig.returnType = ret → scr B0 sb L xs s s.heap → P s.heap → Yx A p l e rm s m args below meth c nY 0 0 (MQ below (Qx rv P1 A) args s mc ms A) lv0 s.heap 0 []) : MtS g B0 sb L xs l y cy nY ret rm av A P rv P1 mc ms := by
  refine Met.ofW (cc := cy) (maxL := nY) (ret := ret) hy rfl ?_
  intro p e s m args below meth c s₁ B hml hv
  obtain ⟨rfl, hAB, hE, hX, hP⟩ := hv
  have hts := atoms_spec (ws := .code y cy nY ret :: wsL_law) B.pre
  have hown' : s.vm.findClass own = some m.cls := by rw [← hown]; exact findClass_of_methodNamed B.named
  have hl := lv_entry av (n := nY) hlen
  rw [hlv] at hl
  rw [lg_entry_eq]
  exact body p e s m av.toArray below meth c ⟨B.exec, B.bytes, hml, hown', fun w h => hts w (List.mem_cons_of_mem _ h), hE, hAB, B.notSynchronized⟩ B.returns hX hP _ [] hl va_S.rf
section ROWS5
variable {g : KG} {B0 sb L : Nat} {xs : Nat → Int32} {A : Nat → Prop} {p : Program} {l : Launch} {e : Env} {R : Room} {s : State} {m : MethodId} {args : Array Value} {below : List Frame} {meth : Method} {c : Code} {cc : ByteArray} {nL : Nat} {own : String} {cells slots : Nat} {Q : State → Prop} {lv lv' : List (Nat × Value)} {H : Heap} {pc : Nat} {rest : List Value}
theorem scr.lt {U : State} {H : Heap} (h : scr B0 sb L xs U H) : sb < H.size := by
  obtain ⟨⟨c, h1, -⟩, -⟩ := h
  exact (Array.getElem?_eq_some_iff.mp h1).1
theorem y_xlen (C : Cx g B0 A p s m args meth c cc nL own) (hX : scr B0 sb L xs s s.heap) (hdg : decode cc pc = .ok (.arraylength, 1)) (kk : Yx A p l e R s m args below meth c nL cells slots Q lv H (pc + 1) (.int (nI L) :: rest)) : Yx A p l e R s m args below meth c nL cells slots Q lv H pc (.ref sb :: rest) :=
  fun ls locs hl hS => va_slen C.1 C.2.1 hX.1 hX.lt (fun z => Nat.lt_irrefl _ (Nat.lt_of_lt_of_le hX.2 (C.2.2.2.2.2.2.1 _ z))) hS hdg (kk ls locs hl hS)
theorem y_xld (C : Cx g B0 A p s m args meth c cc nL own) (hX : scr B0 sb L xs s s.heap) {i : Int32} (k : Nat) (hi : i = nI k) (hk : k < L) (hL : L < 2 ^ 31) (hdg : decode cc pc = .ok (.iaload, 1)) (kk : Yx A p l e R s m args below meth c nL cells slots Q lv H (pc + 1) (.int (xs k) :: rest)) : Yx A p l e R s m args below meth c nL cells slots Q lv H pc (.int i :: .ref sb :: rest) := by
  subst hi
  have hz : (nI k).toNatClampNeg = k := nI_clamp (Nat.lt_trans hk hL)
  exact fun ls locs hl hS => va_sld C.1 C.2.1 hX.1 hX.lt (fun z => Nat.lt_irrefl _ (Nat.lt_of_lt_of_le hX.2 (C.2.2.2.2.2.2.1 _ z))) hS (vp_in_nI hk hL) hdg (by rw [hz]; exact kk ls locs hl hS)
theorem y_callSS (C : Cx g B0 A p s m args meth c cc nL own) (hX : scr B0 sb L xs s s.heap) {y : MethodName} {cy : ByteArray} {nY : Nat} {ret : Option FieldType} {rm : Room} {A1 : Nat → Prop} {P P1 : Heap → Prop} {rv : Option Value} {mc ms index : Nat} {st1 : List Value} (As : List Value) (hM : MtS g B0 sb L xs l y cy nY ret rm As A1 P rv P1 mc ms) (n : Nat) (hw : ∀ w ∈ va_wsS own index y (.code y cy nY ret :: wsL_law), w ∈ wsL_law) (hd : y.cls ≠ "java/lang/invoke/MethodHandle" ∧ y.cls ≠ "java/lang/invoke/VarHandle" ∧ (parseMethodDescriptor y.desc).map (fun d => d.parameters.length) = some n) (hR : rm.frames + 1 ≤ R.frames ∧ 8 + (nY + 11) + rm.locals ≤ R.locals) (hrm : rm.cells = mc ∧ rm.slots = ms) (hP : P H) (hA1 : ∀ q, A1 q → A q) (hn : As.length = n) {st0 : List Value} (hst0 : st0 = As.reverse ++ rest) (hcat : (rest.map fun v => v.category).sum ≤ 8) (hdg : decode cc pc = .ok (.invokestatic index, 3)) (hroom : cells + mc ≤ R.cells ∧ slots + ms ≤ R.slots) (hst : rv.toList ++ rest = st1) (kk : ∀ H1 : Heap, P1 H1 → H.size ≤ H1.size → (∀ q : Nat, q < H.size → ¬ A1 q → H1[q]? = H[q]?) → Yx A p l e R s m args below meth c nL (cells + mc) (slots + ms) Q lv H1 (pc + 3) st1) : Yx A p l e R s m args below meth c nL cells slots Q lv H pc st0 := by
  subst hst0
  intro ls locs hl hS
  exact y_goes hl (va_runS (As := As) (rest := rest) ⟨C.1, C.2.1, C.2.2.1, C.2.2.2.1, C.2.2.2.2.1⟩ hM (va_cwS n C.2.2.2.2.1 (lwG hw) rfl hrm.1 hrm.2 hd hR) ⟨preBS, preUS C.2.2.2.2.2.1 hX C.2.2.2.2.2.2.1 hS hA1 hP⟩ rfl hn hl.1 rfl (lv_room hcat) hdg hroom) hS hA1 hst kk
end ROWS5
def cel (L : Nat) (xs : Nat → Int32) (k : Nat) : Int32 := if L ≤ k then 40503 * nI k + 977 else xs k
def rm_L_low : Room := { frames := 0, cells := 0, slots := 0, locals := 0 }
set_option maxRecDepth 100000 in
set_option maxHeartbeats 4000000 in
theorem c_L_low (g : KG) (B0 : Nat) (l : Launch) (v : Int32) (n : Nat) (hn0 : 0 < n) (hn31 : n < 2 ^ 31) : Mt g B0 l yL_low cL_low 2 (some .int) rm_L_low [.int v, .int (nI n)] nF (fun _ => True) (some (.int (nI (lw v n)))) (fun _ => True) 0 0 := by
  refine Mt_of RL (by decide) rfl [(0, .int v), (1, .int (nI n))] rfl (Nat.le_of_ble_eq_true rfl) ?_
  intro pr e s m args below meth c C hr hin hd
  refine y_iload_n C 0 dL_low_0 rfl rfl ?_
  refine y_ldc C q131 dL_low_1 ?_
  refine y_iand C dL_low_3 ?_
  refine y_top (pk_and v 31 (by decide)) ?_
  refine y_iload_n C 1 dL_low_4 rfl rfl ?_
  refine y_irem2 C (nI (lw v n)) dL_low_5 (nI_ne0 hn0 hn31) (pk_rem (Nat.mod_lt _ (by decide)) hn0 hn31) ?_
  exact y_iret C hr rfl trivial dL_low_6
def rm_L_need : Room := { frames := 0, cells := 0, slots := 0, locals := 0 }
set_option maxRecDepth 100000 in
set_option maxHeartbeats 4000000 in
theorem c_L_need (g : KG) (B0 : Nat) (l : Launch) (f p : Nat) (hf : f < 5) (hp : p < 6) : Mt g B0 l yL_need cL_need 2 (some .int) rm_L_need [.int (nI f), .int (nI p)] nF (fun _ => True) (some (.int (need f p))) (fun _ => True) 0 0 := by
  refine Mt_of RL (by decide) rfl [(0, .int (nI f)), (1, .int (nI p))] rfl (Nat.le_of_ble_eq_true rfl) ?_
  intro pr e s m args below meth c C hr hin hd
  by_cases ef0 : f = 0
  · subst ef0
    by_cases ep0 : p = 0
    · subst ep0
      refine y_iload_n C 0 dL_need_0 rfl rfl ?_
      refine y_if_ne C 8 dL_need_1 (by decide) (fun h => absurd h (by decide)) (fun _ => ?_)
      refine y_iload_n C 1 dL_need_4 rfl rfl ?_
      refine y_if_eq C 43 dL_need_5 (by decide) (fun _ => ?_) (fun h => absurd h (by decide))
      refine y_iconst C (1) dL_need_43 (by decide) ?_
      refine y_goto C 62 dL_need_44 (by decide) ?_
      exact y_iret C hr rfl trivial dL_need_62
    by_cases ep1 : p = 1
    · subst ep1
      refine y_iload_n C 0 dL_need_0 rfl rfl ?_
      refine y_if_ne C 8 dL_need_1 (by decide) (fun h => absurd h (by decide)) (fun _ => ?_)
      refine y_iload_n C 1 dL_need_4 rfl rfl ?_
      refine y_if_eq C 43 dL_need_5 (by decide) (fun h => absurd h (by decide)) (fun _ => ?_)
      refine y_iload_n C 0 dL_need_8 rfl rfl ?_
      refine y_iconst C (1) dL_need_9 (by decide) ?_
      refine y_icmp_ne C 18 dL_need_10 (by decide) (fun _ => ?_) (fun h => absurd h (by decide))
      refine y_iload_n C 0 dL_need_18 rfl rfl ?_
      refine y_iconst C (3) dL_need_19 (by decide) ?_
      refine y_icmp_ne C 33 dL_need_20 (by decide) (fun _ => ?_) (fun h => absurd h (by decide))
      refine y_iload_n C 0 dL_need_33 rfl rfl ?_
      refine y_iconst C (4) dL_need_34 (by decide) ?_
      refine y_icmp_ne C 47 dL_need_35 (by decide) (fun _ => ?_) (fun h => absurd h (by decide))
      refine y_iload_n C 0 dL_need_47 rfl rfl ?_
      refine y_iconst C (2) dL_need_48 (by decide) ?_
      refine y_icmp_ne C 61 dL_need_49 (by decide) (fun _ => ?_) (fun h => absurd h (by decide))
      refine y_iconst C (0) dL_need_61 (by decide) ?_
      exact y_iret C hr rfl trivial dL_need_62
    by_cases ep2 : p = 2
    · subst ep2
      refine y_iload_n C 0 dL_need_0 rfl rfl ?_
      refine y_if_ne C 8 dL_need_1 (by decide) (fun h => absurd h (by decide)) (fun _ => ?_)
      refine y_iload_n C 1 dL_need_4 rfl rfl ?_
      refine y_if_eq C 43 dL_need_5 (by decide) (fun h => absurd h (by decide)) (fun _ => ?_)
      refine y_iload_n C 0 dL_need_8 rfl rfl ?_
      refine y_iconst C (1) dL_need_9 (by decide) ?_
      refine y_icmp_ne C 18 dL_need_10 (by decide) (fun _ => ?_) (fun h => absurd h (by decide))
      refine y_iload_n C 0 dL_need_18 rfl rfl ?_
      refine y_iconst C (3) dL_need_19 (by decide) ?_
      refine y_icmp_ne C 33 dL_need_20 (by decide) (fun _ => ?_) (fun h => absurd h (by decide))
      refine y_iload_n C 0 dL_need_33 rfl rfl ?_
      refine y_iconst C (4) dL_need_34 (by decide) ?_
      refine y_icmp_ne C 47 dL_need_35 (by decide) (fun _ => ?_) (fun h => absurd h (by decide))
      refine y_iload_n C 0 dL_need_47 rfl rfl ?_
      refine y_iconst C (2) dL_need_48 (by decide) ?_
      refine y_icmp_ne C 61 dL_need_49 (by decide) (fun _ => ?_) (fun h => absurd h (by decide))
      refine y_iconst C (0) dL_need_61 (by decide) ?_
      exact y_iret C hr rfl trivial dL_need_62
    by_cases ep3 : p = 3
    · subst ep3
      refine y_iload_n C 0 dL_need_0 rfl rfl ?_
      refine y_if_ne C 8 dL_need_1 (by decide) (fun h => absurd h (by decide)) (fun _ => ?_)
      refine y_iload_n C 1 dL_need_4 rfl rfl ?_
      refine y_if_eq C 43 dL_need_5 (by decide) (fun h => absurd h (by decide)) (fun _ => ?_)
      refine y_iload_n C 0 dL_need_8 rfl rfl ?_
      refine y_iconst C (1) dL_need_9 (by decide) ?_
      refine y_icmp_ne C 18 dL_need_10 (by decide) (fun _ => ?_) (fun h => absurd h (by decide))
      refine y_iload_n C 0 dL_need_18 rfl rfl ?_
      refine y_iconst C (3) dL_need_19 (by decide) ?_
      refine y_icmp_ne C 33 dL_need_20 (by decide) (fun _ => ?_) (fun h => absurd h (by decide))
      refine y_iload_n C 0 dL_need_33 rfl rfl ?_
      refine y_iconst C (4) dL_need_34 (by decide) ?_
      refine y_icmp_ne C 47 dL_need_35 (by decide) (fun _ => ?_) (fun h => absurd h (by decide))
      refine y_iload_n C 0 dL_need_47 rfl rfl ?_
      refine y_iconst C (2) dL_need_48 (by decide) ?_
      refine y_icmp_ne C 61 dL_need_49 (by decide) (fun _ => ?_) (fun h => absurd h (by decide))
      refine y_iconst C (0) dL_need_61 (by decide) ?_
      exact y_iret C hr rfl trivial dL_need_62
    by_cases ep4 : p = 4
    · subst ep4
      refine y_iload_n C 0 dL_need_0 rfl rfl ?_
      refine y_if_ne C 8 dL_need_1 (by decide) (fun h => absurd h (by decide)) (fun _ => ?_)
      refine y_iload_n C 1 dL_need_4 rfl rfl ?_
      refine y_if_eq C 43 dL_need_5 (by decide) (fun h => absurd h (by decide)) (fun _ => ?_)
      refine y_iload_n C 0 dL_need_8 rfl rfl ?_
      refine y_iconst C (1) dL_need_9 (by decide) ?_
      refine y_icmp_ne C 18 dL_need_10 (by decide) (fun _ => ?_) (fun h => absurd h (by decide))
      refine y_iload_n C 0 dL_need_18 rfl rfl ?_
      refine y_iconst C (3) dL_need_19 (by decide) ?_
      refine y_icmp_ne C 33 dL_need_20 (by decide) (fun _ => ?_) (fun h => absurd h (by decide))
      refine y_iload_n C 0 dL_need_33 rfl rfl ?_
      refine y_iconst C (4) dL_need_34 (by decide) ?_
      refine y_icmp_ne C 47 dL_need_35 (by decide) (fun _ => ?_) (fun h => absurd h (by decide))
      refine y_iload_n C 0 dL_need_47 rfl rfl ?_
      refine y_iconst C (2) dL_need_48 (by decide) ?_
      refine y_icmp_ne C 61 dL_need_49 (by decide) (fun _ => ?_) (fun h => absurd h (by decide))
      refine y_iconst C (0) dL_need_61 (by decide) ?_
      exact y_iret C hr rfl trivial dL_need_62
    by_cases ep5 : p = 5
    · subst ep5
      refine y_iload_n C 0 dL_need_0 rfl rfl ?_
      refine y_if_ne C 8 dL_need_1 (by decide) (fun h => absurd h (by decide)) (fun _ => ?_)
      refine y_iload_n C 1 dL_need_4 rfl rfl ?_
      refine y_if_eq C 43 dL_need_5 (by decide) (fun h => absurd h (by decide)) (fun _ => ?_)
      refine y_iload_n C 0 dL_need_8 rfl rfl ?_
      refine y_iconst C (1) dL_need_9 (by decide) ?_
      refine y_icmp_ne C 18 dL_need_10 (by decide) (fun _ => ?_) (fun h => absurd h (by decide))
      refine y_iload_n C 0 dL_need_18 rfl rfl ?_
      refine y_iconst C (3) dL_need_19 (by decide) ?_
      refine y_icmp_ne C 33 dL_need_20 (by decide) (fun _ => ?_) (fun h => absurd h (by decide))
      refine y_iload_n C 0 dL_need_33 rfl rfl ?_
      refine y_iconst C (4) dL_need_34 (by decide) ?_
      refine y_icmp_ne C 47 dL_need_35 (by decide) (fun _ => ?_) (fun h => absurd h (by decide))
      refine y_iload_n C 0 dL_need_47 rfl rfl ?_
      refine y_iconst C (2) dL_need_48 (by decide) ?_
      refine y_icmp_ne C 61 dL_need_49 (by decide) (fun _ => ?_) (fun h => absurd h (by decide))
      refine y_iconst C (0) dL_need_61 (by decide) ?_
      exact y_iret C hr rfl trivial dL_need_62
    exact absurd hp (by omega)
  by_cases ef1 : f = 1
  · subst ef1
    by_cases ep0 : p = 0
    · subst ep0
      refine y_iload_n C 0 dL_need_0 rfl rfl ?_
      refine y_if_ne C 8 dL_need_1 (by decide) (fun _ => ?_) (fun h => absurd h (by decide))
      refine y_iload_n C 0 dL_need_8 rfl rfl ?_
      refine y_iconst C (1) dL_need_9 (by decide) ?_
      refine y_icmp_ne C 18 dL_need_10 (by decide) (fun h => absurd h (by decide)) (fun _ => ?_)
      refine y_iload_n C 1 dL_need_13 rfl rfl ?_
      refine y_iconst C (1) dL_need_14 (by decide) ?_
      refine y_icmp_eq C 43 dL_need_15 (by decide) (fun h => absurd h (by decide)) (fun _ => ?_)
      refine y_iload_n C 0 dL_need_18 rfl rfl ?_
      refine y_iconst C (3) dL_need_19 (by decide) ?_
      refine y_icmp_ne C 33 dL_need_20 (by decide) (fun _ => ?_) (fun h => absurd h (by decide))
      refine y_iload_n C 0 dL_need_33 rfl rfl ?_
      refine y_iconst C (4) dL_need_34 (by decide) ?_
      refine y_icmp_ne C 47 dL_need_35 (by decide) (fun _ => ?_) (fun h => absurd h (by decide))
      refine y_iload_n C 0 dL_need_47 rfl rfl ?_
      refine y_iconst C (2) dL_need_48 (by decide) ?_
      refine y_icmp_ne C 61 dL_need_49 (by decide) (fun _ => ?_) (fun h => absurd h (by decide))
      refine y_iconst C (0) dL_need_61 (by decide) ?_
      exact y_iret C hr rfl trivial dL_need_62
    by_cases ep1 : p = 1
    · subst ep1
      refine y_iload_n C 0 dL_need_0 rfl rfl ?_
      refine y_if_ne C 8 dL_need_1 (by decide) (fun _ => ?_) (fun h => absurd h (by decide))
      refine y_iload_n C 0 dL_need_8 rfl rfl ?_
      refine y_iconst C (1) dL_need_9 (by decide) ?_
      refine y_icmp_ne C 18 dL_need_10 (by decide) (fun h => absurd h (by decide)) (fun _ => ?_)
      refine y_iload_n C 1 dL_need_13 rfl rfl ?_
      refine y_iconst C (1) dL_need_14 (by decide) ?_
      refine y_icmp_eq C 43 dL_need_15 (by decide) (fun _ => ?_) (fun h => absurd h (by decide))
      refine y_iconst C (1) dL_need_43 (by decide) ?_
      refine y_goto C 62 dL_need_44 (by decide) ?_
      exact y_iret C hr rfl trivial dL_need_62
    by_cases ep2 : p = 2
    · subst ep2
      refine y_iload_n C 0 dL_need_0 rfl rfl ?_
      refine y_if_ne C 8 dL_need_1 (by decide) (fun _ => ?_) (fun h => absurd h (by decide))
      refine y_iload_n C 0 dL_need_8 rfl rfl ?_
      refine y_iconst C (1) dL_need_9 (by decide) ?_
      refine y_icmp_ne C 18 dL_need_10 (by decide) (fun h => absurd h (by decide)) (fun _ => ?_)
      refine y_iload_n C 1 dL_need_13 rfl rfl ?_
      refine y_iconst C (1) dL_need_14 (by decide) ?_
      refine y_icmp_eq C 43 dL_need_15 (by decide) (fun h => absurd h (by decide)) (fun _ => ?_)
      refine y_iload_n C 0 dL_need_18 rfl rfl ?_
      refine y_iconst C (3) dL_need_19 (by decide) ?_
      refine y_icmp_ne C 33 dL_need_20 (by decide) (fun _ => ?_) (fun h => absurd h (by decide))
      refine y_iload_n C 0 dL_need_33 rfl rfl ?_
      refine y_iconst C (4) dL_need_34 (by decide) ?_
      refine y_icmp_ne C 47 dL_need_35 (by decide) (fun _ => ?_) (fun h => absurd h (by decide))
      refine y_iload_n C 0 dL_need_47 rfl rfl ?_
      refine y_iconst C (2) dL_need_48 (by decide) ?_
      refine y_icmp_ne C 61 dL_need_49 (by decide) (fun _ => ?_) (fun h => absurd h (by decide))
      refine y_iconst C (0) dL_need_61 (by decide) ?_
      exact y_iret C hr rfl trivial dL_need_62
    by_cases ep3 : p = 3
    · subst ep3
      refine y_iload_n C 0 dL_need_0 rfl rfl ?_
      refine y_if_ne C 8 dL_need_1 (by decide) (fun _ => ?_) (fun h => absurd h (by decide))
      refine y_iload_n C 0 dL_need_8 rfl rfl ?_
      refine y_iconst C (1) dL_need_9 (by decide) ?_
      refine y_icmp_ne C 18 dL_need_10 (by decide) (fun h => absurd h (by decide)) (fun _ => ?_)
      refine y_iload_n C 1 dL_need_13 rfl rfl ?_
      refine y_iconst C (1) dL_need_14 (by decide) ?_
      refine y_icmp_eq C 43 dL_need_15 (by decide) (fun h => absurd h (by decide)) (fun _ => ?_)
      refine y_iload_n C 0 dL_need_18 rfl rfl ?_
      refine y_iconst C (3) dL_need_19 (by decide) ?_
      refine y_icmp_ne C 33 dL_need_20 (by decide) (fun _ => ?_) (fun h => absurd h (by decide))
      refine y_iload_n C 0 dL_need_33 rfl rfl ?_
      refine y_iconst C (4) dL_need_34 (by decide) ?_
      refine y_icmp_ne C 47 dL_need_35 (by decide) (fun _ => ?_) (fun h => absurd h (by decide))
      refine y_iload_n C 0 dL_need_47 rfl rfl ?_
      refine y_iconst C (2) dL_need_48 (by decide) ?_
      refine y_icmp_ne C 61 dL_need_49 (by decide) (fun _ => ?_) (fun h => absurd h (by decide))
      refine y_iconst C (0) dL_need_61 (by decide) ?_
      exact y_iret C hr rfl trivial dL_need_62
    by_cases ep4 : p = 4
    · subst ep4
      refine y_iload_n C 0 dL_need_0 rfl rfl ?_
      refine y_if_ne C 8 dL_need_1 (by decide) (fun _ => ?_) (fun h => absurd h (by decide))
      refine y_iload_n C 0 dL_need_8 rfl rfl ?_
      refine y_iconst C (1) dL_need_9 (by decide) ?_
      refine y_icmp_ne C 18 dL_need_10 (by decide) (fun h => absurd h (by decide)) (fun _ => ?_)
      refine y_iload_n C 1 dL_need_13 rfl rfl ?_
      refine y_iconst C (1) dL_need_14 (by decide) ?_
      refine y_icmp_eq C 43 dL_need_15 (by decide) (fun h => absurd h (by decide)) (fun _ => ?_)
      refine y_iload_n C 0 dL_need_18 rfl rfl ?_
      refine y_iconst C (3) dL_need_19 (by decide) ?_
      refine y_icmp_ne C 33 dL_need_20 (by decide) (fun _ => ?_) (fun h => absurd h (by decide))
      refine y_iload_n C 0 dL_need_33 rfl rfl ?_
      refine y_iconst C (4) dL_need_34 (by decide) ?_
      refine y_icmp_ne C 47 dL_need_35 (by decide) (fun _ => ?_) (fun h => absurd h (by decide))
      refine y_iload_n C 0 dL_need_47 rfl rfl ?_
      refine y_iconst C (2) dL_need_48 (by decide) ?_
      refine y_icmp_ne C 61 dL_need_49 (by decide) (fun _ => ?_) (fun h => absurd h (by decide))
      refine y_iconst C (0) dL_need_61 (by decide) ?_
      exact y_iret C hr rfl trivial dL_need_62
    by_cases ep5 : p = 5
    · subst ep5
      refine y_iload_n C 0 dL_need_0 rfl rfl ?_
      refine y_if_ne C 8 dL_need_1 (by decide) (fun _ => ?_) (fun h => absurd h (by decide))
      refine y_iload_n C 0 dL_need_8 rfl rfl ?_
      refine y_iconst C (1) dL_need_9 (by decide) ?_
      refine y_icmp_ne C 18 dL_need_10 (by decide) (fun h => absurd h (by decide)) (fun _ => ?_)
      refine y_iload_n C 1 dL_need_13 rfl rfl ?_
      refine y_iconst C (1) dL_need_14 (by decide) ?_
      refine y_icmp_eq C 43 dL_need_15 (by decide) (fun h => absurd h (by decide)) (fun _ => ?_)
      refine y_iload_n C 0 dL_need_18 rfl rfl ?_
      refine y_iconst C (3) dL_need_19 (by decide) ?_
      refine y_icmp_ne C 33 dL_need_20 (by decide) (fun _ => ?_) (fun h => absurd h (by decide))
      refine y_iload_n C 0 dL_need_33 rfl rfl ?_
      refine y_iconst C (4) dL_need_34 (by decide) ?_
      refine y_icmp_ne C 47 dL_need_35 (by decide) (fun _ => ?_) (fun h => absurd h (by decide))
      refine y_iload_n C 0 dL_need_47 rfl rfl ?_
      refine y_iconst C (2) dL_need_48 (by decide) ?_
      refine y_icmp_ne C 61 dL_need_49 (by decide) (fun _ => ?_) (fun h => absurd h (by decide))
      refine y_iconst C (0) dL_need_61 (by decide) ?_
      exact y_iret C hr rfl trivial dL_need_62
    exact absurd hp (by omega)
  by_cases ef2 : f = 2
  · subst ef2
    by_cases ep0 : p = 0
    · subst ep0
      refine y_iload_n C 0 dL_need_0 rfl rfl ?_
      refine y_if_ne C 8 dL_need_1 (by decide) (fun _ => ?_) (fun h => absurd h (by decide))
      refine y_iload_n C 0 dL_need_8 rfl rfl ?_
      refine y_iconst C (1) dL_need_9 (by decide) ?_
      refine y_icmp_ne C 18 dL_need_10 (by decide) (fun _ => ?_) (fun h => absurd h (by decide))
      refine y_iload_n C 0 dL_need_18 rfl rfl ?_
      refine y_iconst C (3) dL_need_19 (by decide) ?_
      refine y_icmp_ne C 33 dL_need_20 (by decide) (fun _ => ?_) (fun h => absurd h (by decide))
      refine y_iload_n C 0 dL_need_33 rfl rfl ?_
      refine y_iconst C (4) dL_need_34 (by decide) ?_
      refine y_icmp_ne C 47 dL_need_35 (by decide) (fun _ => ?_) (fun h => absurd h (by decide))
      refine y_iload_n C 0 dL_need_47 rfl rfl ?_
      refine y_iconst C (2) dL_need_48 (by decide) ?_
      refine y_icmp_ne C 61 dL_need_49 (by decide) (fun h => absurd h (by decide)) (fun _ => ?_)
      refine y_iload_n C 1 dL_need_52 rfl rfl ?_
      refine y_iconst C (2) dL_need_53 (by decide) ?_
      refine y_icmp_ne C 61 dL_need_54 (by decide) (fun _ => ?_) (fun h => absurd h (by decide))
      refine y_iconst C (0) dL_need_61 (by decide) ?_
      exact y_iret C hr rfl trivial dL_need_62
    by_cases ep1 : p = 1
    · subst ep1
      refine y_iload_n C 0 dL_need_0 rfl rfl ?_
      refine y_if_ne C 8 dL_need_1 (by decide) (fun _ => ?_) (fun h => absurd h (by decide))
      refine y_iload_n C 0 dL_need_8 rfl rfl ?_
      refine y_iconst C (1) dL_need_9 (by decide) ?_
      refine y_icmp_ne C 18 dL_need_10 (by decide) (fun _ => ?_) (fun h => absurd h (by decide))
      refine y_iload_n C 0 dL_need_18 rfl rfl ?_
      refine y_iconst C (3) dL_need_19 (by decide) ?_
      refine y_icmp_ne C 33 dL_need_20 (by decide) (fun _ => ?_) (fun h => absurd h (by decide))
      refine y_iload_n C 0 dL_need_33 rfl rfl ?_
      refine y_iconst C (4) dL_need_34 (by decide) ?_
      refine y_icmp_ne C 47 dL_need_35 (by decide) (fun _ => ?_) (fun h => absurd h (by decide))
      refine y_iload_n C 0 dL_need_47 rfl rfl ?_
      refine y_iconst C (2) dL_need_48 (by decide) ?_
      refine y_icmp_ne C 61 dL_need_49 (by decide) (fun h => absurd h (by decide)) (fun _ => ?_)
      refine y_iload_n C 1 dL_need_52 rfl rfl ?_
      refine y_iconst C (2) dL_need_53 (by decide) ?_
      refine y_icmp_ne C 61 dL_need_54 (by decide) (fun _ => ?_) (fun h => absurd h (by decide))
      refine y_iconst C (0) dL_need_61 (by decide) ?_
      exact y_iret C hr rfl trivial dL_need_62
    by_cases ep2 : p = 2
    · subst ep2
      refine y_iload_n C 0 dL_need_0 rfl rfl ?_
      refine y_if_ne C 8 dL_need_1 (by decide) (fun _ => ?_) (fun h => absurd h (by decide))
      refine y_iload_n C 0 dL_need_8 rfl rfl ?_
      refine y_iconst C (1) dL_need_9 (by decide) ?_
      refine y_icmp_ne C 18 dL_need_10 (by decide) (fun _ => ?_) (fun h => absurd h (by decide))
      refine y_iload_n C 0 dL_need_18 rfl rfl ?_
      refine y_iconst C (3) dL_need_19 (by decide) ?_
      refine y_icmp_ne C 33 dL_need_20 (by decide) (fun _ => ?_) (fun h => absurd h (by decide))
      refine y_iload_n C 0 dL_need_33 rfl rfl ?_
      refine y_iconst C (4) dL_need_34 (by decide) ?_
      refine y_icmp_ne C 47 dL_need_35 (by decide) (fun _ => ?_) (fun h => absurd h (by decide))
      refine y_iload_n C 0 dL_need_47 rfl rfl ?_
      refine y_iconst C (2) dL_need_48 (by decide) ?_
      refine y_icmp_ne C 61 dL_need_49 (by decide) (fun h => absurd h (by decide)) (fun _ => ?_)
      refine y_iload_n C 1 dL_need_52 rfl rfl ?_
      refine y_iconst C (2) dL_need_53 (by decide) ?_
      refine y_icmp_ne C 61 dL_need_54 (by decide) (fun h => absurd h (by decide)) (fun _ => ?_)
      refine y_iconst C (2) dL_need_57 (by decide) ?_
      refine y_goto C 62 dL_need_58 (by decide) ?_
      exact y_iret C hr rfl trivial dL_need_62
    by_cases ep3 : p = 3
    · subst ep3
      refine y_iload_n C 0 dL_need_0 rfl rfl ?_
      refine y_if_ne C 8 dL_need_1 (by decide) (fun _ => ?_) (fun h => absurd h (by decide))
      refine y_iload_n C 0 dL_need_8 rfl rfl ?_
      refine y_iconst C (1) dL_need_9 (by decide) ?_
      refine y_icmp_ne C 18 dL_need_10 (by decide) (fun _ => ?_) (fun h => absurd h (by decide))
      refine y_iload_n C 0 dL_need_18 rfl rfl ?_
      refine y_iconst C (3) dL_need_19 (by decide) ?_
      refine y_icmp_ne C 33 dL_need_20 (by decide) (fun _ => ?_) (fun h => absurd h (by decide))
      refine y_iload_n C 0 dL_need_33 rfl rfl ?_
      refine y_iconst C (4) dL_need_34 (by decide) ?_
      refine y_icmp_ne C 47 dL_need_35 (by decide) (fun _ => ?_) (fun h => absurd h (by decide))
      refine y_iload_n C 0 dL_need_47 rfl rfl ?_
      refine y_iconst C (2) dL_need_48 (by decide) ?_
      refine y_icmp_ne C 61 dL_need_49 (by decide) (fun h => absurd h (by decide)) (fun _ => ?_)
      refine y_iload_n C 1 dL_need_52 rfl rfl ?_
      refine y_iconst C (2) dL_need_53 (by decide) ?_
      refine y_icmp_ne C 61 dL_need_54 (by decide) (fun _ => ?_) (fun h => absurd h (by decide))
      refine y_iconst C (0) dL_need_61 (by decide) ?_
      exact y_iret C hr rfl trivial dL_need_62
    by_cases ep4 : p = 4
    · subst ep4
      refine y_iload_n C 0 dL_need_0 rfl rfl ?_
      refine y_if_ne C 8 dL_need_1 (by decide) (fun _ => ?_) (fun h => absurd h (by decide))
      refine y_iload_n C 0 dL_need_8 rfl rfl ?_
      refine y_iconst C (1) dL_need_9 (by decide) ?_
      refine y_icmp_ne C 18 dL_need_10 (by decide) (fun _ => ?_) (fun h => absurd h (by decide))
      refine y_iload_n C 0 dL_need_18 rfl rfl ?_
      refine y_iconst C (3) dL_need_19 (by decide) ?_
      refine y_icmp_ne C 33 dL_need_20 (by decide) (fun _ => ?_) (fun h => absurd h (by decide))
      refine y_iload_n C 0 dL_need_33 rfl rfl ?_
      refine y_iconst C (4) dL_need_34 (by decide) ?_
      refine y_icmp_ne C 47 dL_need_35 (by decide) (fun _ => ?_) (fun h => absurd h (by decide))
      refine y_iload_n C 0 dL_need_47 rfl rfl ?_
      refine y_iconst C (2) dL_need_48 (by decide) ?_
      refine y_icmp_ne C 61 dL_need_49 (by decide) (fun h => absurd h (by decide)) (fun _ => ?_)
      refine y_iload_n C 1 dL_need_52 rfl rfl ?_
      refine y_iconst C (2) dL_need_53 (by decide) ?_
      refine y_icmp_ne C 61 dL_need_54 (by decide) (fun _ => ?_) (fun h => absurd h (by decide))
      refine y_iconst C (0) dL_need_61 (by decide) ?_
      exact y_iret C hr rfl trivial dL_need_62
    by_cases ep5 : p = 5
    · subst ep5
      refine y_iload_n C 0 dL_need_0 rfl rfl ?_
      refine y_if_ne C 8 dL_need_1 (by decide) (fun _ => ?_) (fun h => absurd h (by decide))
      refine y_iload_n C 0 dL_need_8 rfl rfl ?_
      refine y_iconst C (1) dL_need_9 (by decide) ?_
      refine y_icmp_ne C 18 dL_need_10 (by decide) (fun _ => ?_) (fun h => absurd h (by decide))
      refine y_iload_n C 0 dL_need_18 rfl rfl ?_
      refine y_iconst C (3) dL_need_19 (by decide) ?_
      refine y_icmp_ne C 33 dL_need_20 (by decide) (fun _ => ?_) (fun h => absurd h (by decide))
      refine y_iload_n C 0 dL_need_33 rfl rfl ?_
      refine y_iconst C (4) dL_need_34 (by decide) ?_
      refine y_icmp_ne C 47 dL_need_35 (by decide) (fun _ => ?_) (fun h => absurd h (by decide))
      refine y_iload_n C 0 dL_need_47 rfl rfl ?_
      refine y_iconst C (2) dL_need_48 (by decide) ?_
      refine y_icmp_ne C 61 dL_need_49 (by decide) (fun h => absurd h (by decide)) (fun _ => ?_)
      refine y_iload_n C 1 dL_need_52 rfl rfl ?_
      refine y_iconst C (2) dL_need_53 (by decide) ?_
      refine y_icmp_ne C 61 dL_need_54 (by decide) (fun _ => ?_) (fun h => absurd h (by decide))
      refine y_iconst C (0) dL_need_61 (by decide) ?_
      exact y_iret C hr rfl trivial dL_need_62
    exact absurd hp (by omega)
  by_cases ef3 : f = 3
  · subst ef3
    by_cases ep0 : p = 0
    · subst ep0
      refine y_iload_n C 0 dL_need_0 rfl rfl ?_
      refine y_if_ne C 8 dL_need_1 (by decide) (fun _ => ?_) (fun h => absurd h (by decide))
      refine y_iload_n C 0 dL_need_8 rfl rfl ?_
      refine y_iconst C (1) dL_need_9 (by decide) ?_
      refine y_icmp_ne C 18 dL_need_10 (by decide) (fun _ => ?_) (fun h => absurd h (by decide))
      refine y_iload_n C 0 dL_need_18 rfl rfl ?_
      refine y_iconst C (3) dL_need_19 (by decide) ?_
      refine y_icmp_ne C 33 dL_need_20 (by decide) (fun h => absurd h (by decide)) (fun _ => ?_)
      refine y_iload_n C 1 dL_need_23 rfl rfl ?_
      refine y_iconst C (3) dL_need_24 (by decide) ?_
      refine y_icmp_eq C 43 dL_need_25 (by decide) (fun h => absurd h (by decide)) (fun _ => ?_)
      refine y_iload_n C 1 dL_need_28 rfl rfl ?_
      refine y_iconst C (4) dL_need_29 (by decide) ?_
      refine y_icmp_eq C 43 dL_need_30 (by decide) (fun h => absurd h (by decide)) (fun _ => ?_)
      refine y_iload_n C 0 dL_need_33 rfl rfl ?_
      refine y_iconst C (4) dL_need_34 (by decide) ?_
      refine y_icmp_ne C 47 dL_need_35 (by decide) (fun _ => ?_) (fun h => absurd h (by decide))
      refine y_iload_n C 0 dL_need_47 rfl rfl ?_
      refine y_iconst C (2) dL_need_48 (by decide) ?_
      refine y_icmp_ne C 61 dL_need_49 (by decide) (fun _ => ?_) (fun h => absurd h (by decide))
      refine y_iconst C (0) dL_need_61 (by decide) ?_
      exact y_iret C hr rfl trivial dL_need_62
    by_cases ep1 : p = 1
    · subst ep1
      refine y_iload_n C 0 dL_need_0 rfl rfl ?_
      refine y_if_ne C 8 dL_need_1 (by decide) (fun _ => ?_) (fun h => absurd h (by decide))
      refine y_iload_n C 0 dL_need_8 rfl rfl ?_
      refine y_iconst C (1) dL_need_9 (by decide) ?_
      refine y_icmp_ne C 18 dL_need_10 (by decide) (fun _ => ?_) (fun h => absurd h (by decide))
      refine y_iload_n C 0 dL_need_18 rfl rfl ?_
      refine y_iconst C (3) dL_need_19 (by decide) ?_
      refine y_icmp_ne C 33 dL_need_20 (by decide) (fun h => absurd h (by decide)) (fun _ => ?_)
      refine y_iload_n C 1 dL_need_23 rfl rfl ?_
      refine y_iconst C (3) dL_need_24 (by decide) ?_
      refine y_icmp_eq C 43 dL_need_25 (by decide) (fun h => absurd h (by decide)) (fun _ => ?_)
      refine y_iload_n C 1 dL_need_28 rfl rfl ?_
      refine y_iconst C (4) dL_need_29 (by decide) ?_
      refine y_icmp_eq C 43 dL_need_30 (by decide) (fun h => absurd h (by decide)) (fun _ => ?_)
      refine y_iload_n C 0 dL_need_33 rfl rfl ?_
      refine y_iconst C (4) dL_need_34 (by decide) ?_
      refine y_icmp_ne C 47 dL_need_35 (by decide) (fun _ => ?_) (fun h => absurd h (by decide))
      refine y_iload_n C 0 dL_need_47 rfl rfl ?_
      refine y_iconst C (2) dL_need_48 (by decide) ?_
      refine y_icmp_ne C 61 dL_need_49 (by decide) (fun _ => ?_) (fun h => absurd h (by decide))
      refine y_iconst C (0) dL_need_61 (by decide) ?_
      exact y_iret C hr rfl trivial dL_need_62
    by_cases ep2 : p = 2
    · subst ep2
      refine y_iload_n C 0 dL_need_0 rfl rfl ?_
      refine y_if_ne C 8 dL_need_1 (by decide) (fun _ => ?_) (fun h => absurd h (by decide))
      refine y_iload_n C 0 dL_need_8 rfl rfl ?_
      refine y_iconst C (1) dL_need_9 (by decide) ?_
      refine y_icmp_ne C 18 dL_need_10 (by decide) (fun _ => ?_) (fun h => absurd h (by decide))
      refine y_iload_n C 0 dL_need_18 rfl rfl ?_
      refine y_iconst C (3) dL_need_19 (by decide) ?_
      refine y_icmp_ne C 33 dL_need_20 (by decide) (fun h => absurd h (by decide)) (fun _ => ?_)
      refine y_iload_n C 1 dL_need_23 rfl rfl ?_
      refine y_iconst C (3) dL_need_24 (by decide) ?_
      refine y_icmp_eq C 43 dL_need_25 (by decide) (fun h => absurd h (by decide)) (fun _ => ?_)
      refine y_iload_n C 1 dL_need_28 rfl rfl ?_
      refine y_iconst C (4) dL_need_29 (by decide) ?_
      refine y_icmp_eq C 43 dL_need_30 (by decide) (fun h => absurd h (by decide)) (fun _ => ?_)
      refine y_iload_n C 0 dL_need_33 rfl rfl ?_
      refine y_iconst C (4) dL_need_34 (by decide) ?_
      refine y_icmp_ne C 47 dL_need_35 (by decide) (fun _ => ?_) (fun h => absurd h (by decide))
      refine y_iload_n C 0 dL_need_47 rfl rfl ?_
      refine y_iconst C (2) dL_need_48 (by decide) ?_
      refine y_icmp_ne C 61 dL_need_49 (by decide) (fun _ => ?_) (fun h => absurd h (by decide))
      refine y_iconst C (0) dL_need_61 (by decide) ?_
      exact y_iret C hr rfl trivial dL_need_62
    by_cases ep3 : p = 3
    · subst ep3
      refine y_iload_n C 0 dL_need_0 rfl rfl ?_
      refine y_if_ne C 8 dL_need_1 (by decide) (fun _ => ?_) (fun h => absurd h (by decide))
      refine y_iload_n C 0 dL_need_8 rfl rfl ?_
      refine y_iconst C (1) dL_need_9 (by decide) ?_
      refine y_icmp_ne C 18 dL_need_10 (by decide) (fun _ => ?_) (fun h => absurd h (by decide))
      refine y_iload_n C 0 dL_need_18 rfl rfl ?_
      refine y_iconst C (3) dL_need_19 (by decide) ?_
      refine y_icmp_ne C 33 dL_need_20 (by decide) (fun h => absurd h (by decide)) (fun _ => ?_)
      refine y_iload_n C 1 dL_need_23 rfl rfl ?_
      refine y_iconst C (3) dL_need_24 (by decide) ?_
      refine y_icmp_eq C 43 dL_need_25 (by decide) (fun _ => ?_) (fun h => absurd h (by decide))
      refine y_iconst C (1) dL_need_43 (by decide) ?_
      refine y_goto C 62 dL_need_44 (by decide) ?_
      exact y_iret C hr rfl trivial dL_need_62
    by_cases ep4 : p = 4
    · subst ep4
      refine y_iload_n C 0 dL_need_0 rfl rfl ?_
      refine y_if_ne C 8 dL_need_1 (by decide) (fun _ => ?_) (fun h => absurd h (by decide))
      refine y_iload_n C 0 dL_need_8 rfl rfl ?_
      refine y_iconst C (1) dL_need_9 (by decide) ?_
      refine y_icmp_ne C 18 dL_need_10 (by decide) (fun _ => ?_) (fun h => absurd h (by decide))
      refine y_iload_n C 0 dL_need_18 rfl rfl ?_
      refine y_iconst C (3) dL_need_19 (by decide) ?_
      refine y_icmp_ne C 33 dL_need_20 (by decide) (fun h => absurd h (by decide)) (fun _ => ?_)
      refine y_iload_n C 1 dL_need_23 rfl rfl ?_
      refine y_iconst C (3) dL_need_24 (by decide) ?_
      refine y_icmp_eq C 43 dL_need_25 (by decide) (fun h => absurd h (by decide)) (fun _ => ?_)
      refine y_iload_n C 1 dL_need_28 rfl rfl ?_
      refine y_iconst C (4) dL_need_29 (by decide) ?_
      refine y_icmp_eq C 43 dL_need_30 (by decide) (fun _ => ?_) (fun h => absurd h (by decide))
      refine y_iconst C (1) dL_need_43 (by decide) ?_
      refine y_goto C 62 dL_need_44 (by decide) ?_
      exact y_iret C hr rfl trivial dL_need_62
    by_cases ep5 : p = 5
    · subst ep5
      refine y_iload_n C 0 dL_need_0 rfl rfl ?_
      refine y_if_ne C 8 dL_need_1 (by decide) (fun _ => ?_) (fun h => absurd h (by decide))
      refine y_iload_n C 0 dL_need_8 rfl rfl ?_
      refine y_iconst C (1) dL_need_9 (by decide) ?_
      refine y_icmp_ne C 18 dL_need_10 (by decide) (fun _ => ?_) (fun h => absurd h (by decide))
      refine y_iload_n C 0 dL_need_18 rfl rfl ?_
      refine y_iconst C (3) dL_need_19 (by decide) ?_
      refine y_icmp_ne C 33 dL_need_20 (by decide) (fun h => absurd h (by decide)) (fun _ => ?_)
      refine y_iload_n C 1 dL_need_23 rfl rfl ?_
      refine y_iconst C (3) dL_need_24 (by decide) ?_
      refine y_icmp_eq C 43 dL_need_25 (by decide) (fun h => absurd h (by decide)) (fun _ => ?_)
      refine y_iload_n C 1 dL_need_28 rfl rfl ?_
      refine y_iconst C (4) dL_need_29 (by decide) ?_
      refine y_icmp_eq C 43 dL_need_30 (by decide) (fun h => absurd h (by decide)) (fun _ => ?_)
      refine y_iload_n C 0 dL_need_33 rfl rfl ?_
      refine y_iconst C (4) dL_need_34 (by decide) ?_
      refine y_icmp_ne C 47 dL_need_35 (by decide) (fun _ => ?_) (fun h => absurd h (by decide))
      refine y_iload_n C 0 dL_need_47 rfl rfl ?_
      refine y_iconst C (2) dL_need_48 (by decide) ?_
      refine y_icmp_ne C 61 dL_need_49 (by decide) (fun _ => ?_) (fun h => absurd h (by decide))
      refine y_iconst C (0) dL_need_61 (by decide) ?_
      exact y_iret C hr rfl trivial dL_need_62
    exact absurd hp (by omega)
  by_cases ef4 : f = 4
  · subst ef4
    by_cases ep0 : p = 0
    · subst ep0
      refine y_iload_n C 0 dL_need_0 rfl rfl ?_
      refine y_if_ne C 8 dL_need_1 (by decide) (fun _ => ?_) (fun h => absurd h (by decide))
      refine y_iload_n C 0 dL_need_8 rfl rfl ?_
      refine y_iconst C (1) dL_need_9 (by decide) ?_
      refine y_icmp_ne C 18 dL_need_10 (by decide) (fun _ => ?_) (fun h => absurd h (by decide))
      refine y_iload_n C 0 dL_need_18 rfl rfl ?_
      refine y_iconst C (3) dL_need_19 (by decide) ?_
      refine y_icmp_ne C 33 dL_need_20 (by decide) (fun _ => ?_) (fun h => absurd h (by decide))
      refine y_iload_n C 0 dL_need_33 rfl rfl ?_
      refine y_iconst C (4) dL_need_34 (by decide) ?_
      refine y_icmp_ne C 47 dL_need_35 (by decide) (fun h => absurd h (by decide)) (fun _ => ?_)
      refine y_iload_n C 1 dL_need_38 rfl rfl ?_
      refine y_iconst C (5) dL_need_39 (by decide) ?_
      refine y_icmp_ne C 47 dL_need_40 (by decide) (fun _ => ?_) (fun h => absurd h (by decide))
      refine y_iload_n C 0 dL_need_47 rfl rfl ?_
      refine y_iconst C (2) dL_need_48 (by decide) ?_
      refine y_icmp_ne C 61 dL_need_49 (by decide) (fun _ => ?_) (fun h => absurd h (by decide))
      refine y_iconst C (0) dL_need_61 (by decide) ?_
      exact y_iret C hr rfl trivial dL_need_62
    by_cases ep1 : p = 1
    · subst ep1
      refine y_iload_n C 0 dL_need_0 rfl rfl ?_
      refine y_if_ne C 8 dL_need_1 (by decide) (fun _ => ?_) (fun h => absurd h (by decide))
      refine y_iload_n C 0 dL_need_8 rfl rfl ?_
      refine y_iconst C (1) dL_need_9 (by decide) ?_
      refine y_icmp_ne C 18 dL_need_10 (by decide) (fun _ => ?_) (fun h => absurd h (by decide))
      refine y_iload_n C 0 dL_need_18 rfl rfl ?_
      refine y_iconst C (3) dL_need_19 (by decide) ?_
      refine y_icmp_ne C 33 dL_need_20 (by decide) (fun _ => ?_) (fun h => absurd h (by decide))
      refine y_iload_n C 0 dL_need_33 rfl rfl ?_
      refine y_iconst C (4) dL_need_34 (by decide) ?_
      refine y_icmp_ne C 47 dL_need_35 (by decide) (fun h => absurd h (by decide)) (fun _ => ?_)
      refine y_iload_n C 1 dL_need_38 rfl rfl ?_
      refine y_iconst C (5) dL_need_39 (by decide) ?_
      refine y_icmp_ne C 47 dL_need_40 (by decide) (fun _ => ?_) (fun h => absurd h (by decide))
      refine y_iload_n C 0 dL_need_47 rfl rfl ?_
      refine y_iconst C (2) dL_need_48 (by decide) ?_
      refine y_icmp_ne C 61 dL_need_49 (by decide) (fun _ => ?_) (fun h => absurd h (by decide))
      refine y_iconst C (0) dL_need_61 (by decide) ?_
      exact y_iret C hr rfl trivial dL_need_62
    by_cases ep2 : p = 2
    · subst ep2
      refine y_iload_n C 0 dL_need_0 rfl rfl ?_
      refine y_if_ne C 8 dL_need_1 (by decide) (fun _ => ?_) (fun h => absurd h (by decide))
      refine y_iload_n C 0 dL_need_8 rfl rfl ?_
      refine y_iconst C (1) dL_need_9 (by decide) ?_
      refine y_icmp_ne C 18 dL_need_10 (by decide) (fun _ => ?_) (fun h => absurd h (by decide))
      refine y_iload_n C 0 dL_need_18 rfl rfl ?_
      refine y_iconst C (3) dL_need_19 (by decide) ?_
      refine y_icmp_ne C 33 dL_need_20 (by decide) (fun _ => ?_) (fun h => absurd h (by decide))
      refine y_iload_n C 0 dL_need_33 rfl rfl ?_
      refine y_iconst C (4) dL_need_34 (by decide) ?_
      refine y_icmp_ne C 47 dL_need_35 (by decide) (fun h => absurd h (by decide)) (fun _ => ?_)
      refine y_iload_n C 1 dL_need_38 rfl rfl ?_
      refine y_iconst C (5) dL_need_39 (by decide) ?_
      refine y_icmp_ne C 47 dL_need_40 (by decide) (fun _ => ?_) (fun h => absurd h (by decide))
      refine y_iload_n C 0 dL_need_47 rfl rfl ?_
      refine y_iconst C (2) dL_need_48 (by decide) ?_
      refine y_icmp_ne C 61 dL_need_49 (by decide) (fun _ => ?_) (fun h => absurd h (by decide))
      refine y_iconst C (0) dL_need_61 (by decide) ?_
      exact y_iret C hr rfl trivial dL_need_62
    by_cases ep3 : p = 3
    · subst ep3
      refine y_iload_n C 0 dL_need_0 rfl rfl ?_
      refine y_if_ne C 8 dL_need_1 (by decide) (fun _ => ?_) (fun h => absurd h (by decide))
      refine y_iload_n C 0 dL_need_8 rfl rfl ?_
      refine y_iconst C (1) dL_need_9 (by decide) ?_
      refine y_icmp_ne C 18 dL_need_10 (by decide) (fun _ => ?_) (fun h => absurd h (by decide))
      refine y_iload_n C 0 dL_need_18 rfl rfl ?_
      refine y_iconst C (3) dL_need_19 (by decide) ?_
      refine y_icmp_ne C 33 dL_need_20 (by decide) (fun _ => ?_) (fun h => absurd h (by decide))
      refine y_iload_n C 0 dL_need_33 rfl rfl ?_
      refine y_iconst C (4) dL_need_34 (by decide) ?_
      refine y_icmp_ne C 47 dL_need_35 (by decide) (fun h => absurd h (by decide)) (fun _ => ?_)
      refine y_iload_n C 1 dL_need_38 rfl rfl ?_
      refine y_iconst C (5) dL_need_39 (by decide) ?_
      refine y_icmp_ne C 47 dL_need_40 (by decide) (fun _ => ?_) (fun h => absurd h (by decide))
      refine y_iload_n C 0 dL_need_47 rfl rfl ?_
      refine y_iconst C (2) dL_need_48 (by decide) ?_
      refine y_icmp_ne C 61 dL_need_49 (by decide) (fun _ => ?_) (fun h => absurd h (by decide))
      refine y_iconst C (0) dL_need_61 (by decide) ?_
      exact y_iret C hr rfl trivial dL_need_62
    by_cases ep4 : p = 4
    · subst ep4
      refine y_iload_n C 0 dL_need_0 rfl rfl ?_
      refine y_if_ne C 8 dL_need_1 (by decide) (fun _ => ?_) (fun h => absurd h (by decide))
      refine y_iload_n C 0 dL_need_8 rfl rfl ?_
      refine y_iconst C (1) dL_need_9 (by decide) ?_
      refine y_icmp_ne C 18 dL_need_10 (by decide) (fun _ => ?_) (fun h => absurd h (by decide))
      refine y_iload_n C 0 dL_need_18 rfl rfl ?_
      refine y_iconst C (3) dL_need_19 (by decide) ?_
      refine y_icmp_ne C 33 dL_need_20 (by decide) (fun _ => ?_) (fun h => absurd h (by decide))
      refine y_iload_n C 0 dL_need_33 rfl rfl ?_
      refine y_iconst C (4) dL_need_34 (by decide) ?_
      refine y_icmp_ne C 47 dL_need_35 (by decide) (fun h => absurd h (by decide)) (fun _ => ?_)
      refine y_iload_n C 1 dL_need_38 rfl rfl ?_
      refine y_iconst C (5) dL_need_39 (by decide) ?_
      refine y_icmp_ne C 47 dL_need_40 (by decide) (fun _ => ?_) (fun h => absurd h (by decide))
      refine y_iload_n C 0 dL_need_47 rfl rfl ?_
      refine y_iconst C (2) dL_need_48 (by decide) ?_
      refine y_icmp_ne C 61 dL_need_49 (by decide) (fun _ => ?_) (fun h => absurd h (by decide))
      refine y_iconst C (0) dL_need_61 (by decide) ?_
      exact y_iret C hr rfl trivial dL_need_62
    by_cases ep5 : p = 5
    · subst ep5
      refine y_iload_n C 0 dL_need_0 rfl rfl ?_
      refine y_if_ne C 8 dL_need_1 (by decide) (fun _ => ?_) (fun h => absurd h (by decide))
      refine y_iload_n C 0 dL_need_8 rfl rfl ?_
      refine y_iconst C (1) dL_need_9 (by decide) ?_
      refine y_icmp_ne C 18 dL_need_10 (by decide) (fun _ => ?_) (fun h => absurd h (by decide))
      refine y_iload_n C 0 dL_need_18 rfl rfl ?_
      refine y_iconst C (3) dL_need_19 (by decide) ?_
      refine y_icmp_ne C 33 dL_need_20 (by decide) (fun _ => ?_) (fun h => absurd h (by decide))
      refine y_iload_n C 0 dL_need_33 rfl rfl ?_
      refine y_iconst C (4) dL_need_34 (by decide) ?_
      refine y_icmp_ne C 47 dL_need_35 (by decide) (fun h => absurd h (by decide)) (fun _ => ?_)
      refine y_iload_n C 1 dL_need_38 rfl rfl ?_
      refine y_iconst C (5) dL_need_39 (by decide) ?_
      refine y_icmp_ne C 47 dL_need_40 (by decide) (fun h => absurd h (by decide)) (fun _ => ?_)
      refine y_iconst C (1) dL_need_43 (by decide) ?_
      refine y_goto C 62 dL_need_44 (by decide) ?_
      exact y_iret C hr rfl trivial dL_need_62
    exact absurd hp (by omega)
  exact absurd hf (by omega)
def rm_L_hours : Room := { frames := 0, cells := 0, slots := 0, locals := 0 }
set_option maxRecDepth 100000 in
set_option maxHeartbeats 4000000 in
theorem c_L_hours (g : KG) (B0 : Nat) (l : Launch) (f : Nat) (hf : f < 5) : Mt g B0 l yL_hours cL_hours 1 (some .int) rm_L_hours [.int (nI f)] nF (fun _ => True) (some (.int (tHF f))) (fun _ => True) 0 0 := by
  refine Mt_of RL (by decide) rfl [(0, .int (nI f))] rfl (Nat.le_of_ble_eq_true rfl) ?_
  intro pr e s m args below meth c C hr hin hd
  by_cases ef0 : f = 0
  · subst ef0
    refine y_iload_n C 0 dL_hours_0 rfl rfl ?_
    refine y_if_ne C 8 dL_hours_1 (by decide) (fun h => absurd h (by decide)) (fun _ => ?_)
    refine y_iconst C (2) dL_hours_4 (by decide) ?_
    refine y_goto C 36 dL_hours_5 (by decide) ?_
    exact y_iret C hr rfl trivial dL_hours_36
  by_cases ef1 : f = 1
  · subst ef1
    refine y_iload_n C 0 dL_hours_0 rfl rfl ?_
    refine y_if_ne C 8 dL_hours_1 (by decide) (fun _ => ?_) (fun h => absurd h (by decide))
    refine y_iload_n C 0 dL_hours_8 rfl rfl ?_
    refine y_iconst C (1) dL_hours_9 (by decide) ?_
    refine y_icmp_ne C 17 dL_hours_10 (by decide) (fun h => absurd h (by decide)) (fun _ => ?_)
    refine y_iconst C (3) dL_hours_13 (by decide) ?_
    refine y_goto C 36 dL_hours_14 (by decide) ?_
    exact y_iret C hr rfl trivial dL_hours_36
  by_cases ef2 : f = 2
  · subst ef2
    refine y_iload_n C 0 dL_hours_0 rfl rfl ?_
    refine y_if_ne C 8 dL_hours_1 (by decide) (fun _ => ?_) (fun h => absurd h (by decide))
    refine y_iload_n C 0 dL_hours_8 rfl rfl ?_
    refine y_iconst C (1) dL_hours_9 (by decide) ?_
    refine y_icmp_ne C 17 dL_hours_10 (by decide) (fun _ => ?_) (fun h => absurd h (by decide))
    refine y_iload_n C 0 dL_hours_17 rfl rfl ?_
    refine y_iconst C (2) dL_hours_18 (by decide) ?_
    refine y_icmp_ne C 26 dL_hours_19 (by decide) (fun h => absurd h (by decide)) (fun _ => ?_)
    refine y_iconst C (1) dL_hours_22 (by decide) ?_
    refine y_goto C 36 dL_hours_23 (by decide) ?_
    exact y_iret C hr rfl trivial dL_hours_36
  by_cases ef3 : f = 3
  · subst ef3
    refine y_iload_n C 0 dL_hours_0 rfl rfl ?_
    refine y_if_ne C 8 dL_hours_1 (by decide) (fun _ => ?_) (fun h => absurd h (by decide))
    refine y_iload_n C 0 dL_hours_8 rfl rfl ?_
    refine y_iconst C (1) dL_hours_9 (by decide) ?_
    refine y_icmp_ne C 17 dL_hours_10 (by decide) (fun _ => ?_) (fun h => absurd h (by decide))
    refine y_iload_n C 0 dL_hours_17 rfl rfl ?_
    refine y_iconst C (2) dL_hours_18 (by decide) ?_
    refine y_icmp_ne C 26 dL_hours_19 (by decide) (fun _ => ?_) (fun h => absurd h (by decide))
    refine y_iload_n C 0 dL_hours_26 rfl rfl ?_
    refine y_iconst C (3) dL_hours_27 (by decide) ?_
    refine y_icmp_ne C 35 dL_hours_28 (by decide) (fun h => absurd h (by decide)) (fun _ => ?_)
    refine y_iconst C (5) dL_hours_31 (by decide) ?_
    refine y_goto C 36 dL_hours_32 (by decide) ?_
    exact y_iret C hr rfl trivial dL_hours_36
  by_cases ef4 : f = 4
  · subst ef4
    refine y_iload_n C 0 dL_hours_0 rfl rfl ?_
    refine y_if_ne C 8 dL_hours_1 (by decide) (fun _ => ?_) (fun h => absurd h (by decide))
    refine y_iload_n C 0 dL_hours_8 rfl rfl ?_
    refine y_iconst C (1) dL_hours_9 (by decide) ?_
    refine y_icmp_ne C 17 dL_hours_10 (by decide) (fun _ => ?_) (fun h => absurd h (by decide))
    refine y_iload_n C 0 dL_hours_17 rfl rfl ?_
    refine y_iconst C (2) dL_hours_18 (by decide) ?_
    refine y_icmp_ne C 26 dL_hours_19 (by decide) (fun _ => ?_) (fun h => absurd h (by decide))
    refine y_iload_n C 0 dL_hours_26 rfl rfl ?_
    refine y_iconst C (3) dL_hours_27 (by decide) ?_
    refine y_icmp_ne C 35 dL_hours_28 (by decide) (fun _ => ?_) (fun h => absurd h (by decide))
    refine y_iconst C (4) dL_hours_35 (by decide) ?_
    exact y_iret C hr rfl trivial dL_hours_36
  exact absurd hf (by omega)
