/-! rows over Yx, second part: branches, floats, cells, calls, ends -/
section ROWS2
variable {g : KG} {B0 : Nat} {A : Nat → Prop} {p : Program} {l : Launch} {e : Env} {R : Room} {s : State} {m : MethodId} {args : Array Value} {below : List Frame} {meth : Method} {c : Code} {cc : ByteArray} {nL : Nat} {own : String} {cells slots : Nat} {Q : State → Prop} {lv lv' : List (Nat × Value)} {H : Heap} {pc : Nat} {rest : List Value}
theorem y_if_eq (C : Cx g B0 A p s m args meth c cc nL own) {x : Int32} {off : Int} (tgt : Nat) (hdg : decode cc pc = .ok (.ifCond .eq off, 3)) (ht : (pc : Int) + off = (tgt : Int)) (kt : x = 0 → Yx A p l e R s m args below meth c nL cells slots Q lv H tgt rest) (kf : ¬ x = 0 → Yx A p l e R s m args below meth c nL cells slots Q lv H (pc + 3) rest) : Yx A p l e R s m args below meth c nL cells slots Q lv H pc (.int x :: rest) :=
  fun ls locs hl hS => lv_if_eq C.1 C.2.1 hdg ht (fun h => kt h ls locs hl hS) (fun h => kf h ls locs hl hS)
theorem y_icmp_eq (C : Cx g B0 A p s m args meth c cc nL own) {x y : Int32} {off : Int} (tgt : Nat) (hdg : decode cc pc = .ok (.if_icmp .eq off, 3)) (ht : (pc : Int) + off = (tgt : Int)) (kt : x = y → Yx A p l e R s m args below meth c nL cells slots Q lv H tgt rest) (kf : ¬ x = y → Yx A p l e R s m args below meth c nL cells slots Q lv H (pc + 3) rest) : Yx A p l e R s m args below meth c nL cells slots Q lv H pc (.int y :: .int x :: rest) :=
  fun ls locs hl hS => lv_icmp_eq C.1 C.2.1 hdg ht (fun h => kt h ls locs hl hS) (fun h => kf h ls locs hl hS)
theorem y_if_ne (C : Cx g B0 A p s m args meth c cc nL own) {x : Int32} {off : Int} (tgt : Nat) (hdg : decode cc pc = .ok (.ifCond .ne off, 3)) (ht : (pc : Int) + off = (tgt : Int)) (kt : ¬ x = 0 → Yx A p l e R s m args below meth c nL cells slots Q lv H tgt rest) (kf : x = 0 → Yx A p l e R s m args below meth c nL cells slots Q lv H (pc + 3) rest) : Yx A p l e R s m args below meth c nL cells slots Q lv H pc (.int x :: rest) :=
  fun ls locs hl hS => lv_if_ne C.1 C.2.1 hdg ht (fun h => kt h ls locs hl hS) (fun h => kf h ls locs hl hS)
theorem y_icmp_ne (C : Cx g B0 A p s m args meth c cc nL own) {x y : Int32} {off : Int} (tgt : Nat) (hdg : decode cc pc = .ok (.if_icmp .ne off, 3)) (ht : (pc : Int) + off = (tgt : Int)) (kt : ¬ x = y → Yx A p l e R s m args below meth c nL cells slots Q lv H tgt rest) (kf : x = y → Yx A p l e R s m args below meth c nL cells slots Q lv H (pc + 3) rest) : Yx A p l e R s m args below meth c nL cells slots Q lv H pc (.int y :: .int x :: rest) :=
  fun ls locs hl hS => lv_icmp_ne C.1 C.2.1 hdg ht (fun h => kt h ls locs hl hS) (fun h => kf h ls locs hl hS)
theorem y_if_lt (C : Cx g B0 A p s m args meth c cc nL own) {x : Int32} {off : Int} (tgt : Nat) (hdg : decode cc pc = .ok (.ifCond .lt off, 3)) (ht : (pc : Int) + off = (tgt : Int)) (kt : x < 0 → Yx A p l e R s m args below meth c nL cells slots Q lv H tgt rest) (kf : ¬ x < 0 → Yx A p l e R s m args below meth c nL cells slots Q lv H (pc + 3) rest) : Yx A p l e R s m args below meth c nL cells slots Q lv H pc (.int x :: rest) :=
  fun ls locs hl hS => lv_if_lt C.1 C.2.1 hdg ht (fun h => kt h ls locs hl hS) (fun h => kf h ls locs hl hS)
theorem y_icmp_lt (C : Cx g B0 A p s m args meth c cc nL own) {x y : Int32} {off : Int} (tgt : Nat) (hdg : decode cc pc = .ok (.if_icmp .lt off, 3)) (ht : (pc : Int) + off = (tgt : Int)) (kt : x < y → Yx A p l e R s m args below meth c nL cells slots Q lv H tgt rest) (kf : ¬ x < y → Yx A p l e R s m args below meth c nL cells slots Q lv H (pc + 3) rest) : Yx A p l e R s m args below meth c nL cells slots Q lv H pc (.int y :: .int x :: rest) :=
  fun ls locs hl hS => lv_icmp_lt C.1 C.2.1 hdg ht (fun h => kt h ls locs hl hS) (fun h => kf h ls locs hl hS)
theorem y_if_ge (C : Cx g B0 A p s m args meth c cc nL own) {x : Int32} {off : Int} (tgt : Nat) (hdg : decode cc pc = .ok (.ifCond .ge off, 3)) (ht : (pc : Int) + off = (tgt : Int)) (kt : 0 ≤ x → Yx A p l e R s m args below meth c nL cells slots Q lv H tgt rest) (kf : ¬ 0 ≤ x → Yx A p l e R s m args below meth c nL cells slots Q lv H (pc + 3) rest) : Yx A p l e R s m args below meth c nL cells slots Q lv H pc (.int x :: rest) :=
  fun ls locs hl hS => lv_if_ge C.1 C.2.1 hdg ht (fun h => kt h ls locs hl hS) (fun h => kf h ls locs hl hS)
theorem y_icmp_ge (C : Cx g B0 A p s m args meth c cc nL own) {x y : Int32} {off : Int} (tgt : Nat) (hdg : decode cc pc = .ok (.if_icmp .ge off, 3)) (ht : (pc : Int) + off = (tgt : Int)) (kt : y ≤ x → Yx A p l e R s m args below meth c nL cells slots Q lv H tgt rest) (kf : ¬ y ≤ x → Yx A p l e R s m args below meth c nL cells slots Q lv H (pc + 3) rest) : Yx A p l e R s m args below meth c nL cells slots Q lv H pc (.int y :: .int x :: rest) :=
  fun ls locs hl hS => lv_icmp_ge C.1 C.2.1 hdg ht (fun h => kt h ls locs hl hS) (fun h => kf h ls locs hl hS)
theorem y_if_gt (C : Cx g B0 A p s m args meth c cc nL own) {x : Int32} {off : Int} (tgt : Nat) (hdg : decode cc pc = .ok (.ifCond .gt off, 3)) (ht : (pc : Int) + off = (tgt : Int)) (kt : 0 < x → Yx A p l e R s m args below meth c nL cells slots Q lv H tgt rest) (kf : ¬ 0 < x → Yx A p l e R s m args below meth c nL cells slots Q lv H (pc + 3) rest) : Yx A p l e R s m args below meth c nL cells slots Q lv H pc (.int x :: rest) :=
  fun ls locs hl hS => lv_if_gt C.1 C.2.1 hdg ht (fun h => kt h ls locs hl hS) (fun h => kf h ls locs hl hS)
theorem y_icmp_gt (C : Cx g B0 A p s m args meth c cc nL own) {x y : Int32} {off : Int} (tgt : Nat) (hdg : decode cc pc = .ok (.if_icmp .gt off, 3)) (ht : (pc : Int) + off = (tgt : Int)) (kt : y < x → Yx A p l e R s m args below meth c nL cells slots Q lv H tgt rest) (kf : ¬ y < x → Yx A p l e R s m args below meth c nL cells slots Q lv H (pc + 3) rest) : Yx A p l e R s m args below meth c nL cells slots Q lv H pc (.int y :: .int x :: rest) :=
  fun ls locs hl hS => lv_icmp_gt C.1 C.2.1 hdg ht (fun h => kt h ls locs hl hS) (fun h => kf h ls locs hl hS)
theorem y_if_le (C : Cx g B0 A p s m args meth c cc nL own) {x : Int32} {off : Int} (tgt : Nat) (hdg : decode cc pc = .ok (.ifCond .le off, 3)) (ht : (pc : Int) + off = (tgt : Int)) (kt : x ≤ 0 → Yx A p l e R s m args below meth c nL cells slots Q lv H tgt rest) (kf : ¬ x ≤ 0 → Yx A p l e R s m args below meth c nL cells slots Q lv H (pc + 3) rest) : Yx A p l e R s m args below meth c nL cells slots Q lv H pc (.int x :: rest) :=
  fun ls locs hl hS => lv_if_le C.1 C.2.1 hdg ht (fun h => kt h ls locs hl hS) (fun h => kf h ls locs hl hS)
theorem y_icmp_le (C : Cx g B0 A p s m args meth c cc nL own) {x y : Int32} {off : Int} (tgt : Nat) (hdg : decode cc pc = .ok (.if_icmp .le off, 3)) (ht : (pc : Int) + off = (tgt : Int)) (kt : x ≤ y → Yx A p l e R s m args below meth c nL cells slots Q lv H tgt rest) (kf : ¬ x ≤ y → Yx A p l e R s m args below meth c nL cells slots Q lv H (pc + 3) rest) : Yx A p l e R s m args below meth c nL cells slots Q lv H pc (.int y :: .int x :: rest) :=
  fun ls locs hl hS => lv_icmp_le C.1 C.2.1 hdg ht (fun h => kt h ls locs hl hS) (fun h => kf h ls locs hl hS)
theorem y_goto (C : Cx g B0 A p s m args meth c cc nL own) {off : Int} (tgt : Nat) (hdg : decode cc pc = .ok (.goto off, 3)) (ht : (pc : Int) + off = (tgt : Int)) (k : Yx A p l e R s m args below meth c nL cells slots Q lv H tgt rest) : Yx A p l e R s m args below meth c nL cells slots Q lv H pc rest :=
  fun ls locs hl hS => lv_goto C.1 C.2.1 hdg ht (k ls locs hl hS)
theorem y_tableOut (C : Cx g B0 A p s m args meth c cc nL own) {dflt lo hi : Int} {offs : Array Int} {len : Nat} {x : Int32} (tgt : Nat) (hdg : decode cc pc = .ok (.tableswitch dflt lo hi offs, len)) (h : x.toInt < lo ∨ hi < x.toInt) (ht : (pc : Int) + dflt = (tgt : Int)) (k : Yx A p l e R s m args below meth c nL cells slots Q lv H tgt rest) : Yx A p l e R s m args below meth c nL cells slots Q lv H pc (.int x :: rest) :=
  fun ls locs hl hS => lv_tableOut C.1 C.2.1 hdg h ht (k ls locs hl hS)
theorem y_tableIn (C : Cx g B0 A p s m args meth c cc nL own) {dflt lo hi : Int} {offs : Array Int} {len : Nat} {x : Int32} {off : Int} (tgt : Nat) (hdg : decode cc pc = .ok (.tableswitch dflt lo hi offs, len)) (h1 : ¬ x.toInt < lo) (h2 : ¬ hi < x.toInt) (ho : offs[(x.toInt - lo).toNat]? = some off) (ht : (pc : Int) + off = (tgt : Int)) (k : Yx A p l e R s m args below meth c nL cells slots Q lv H tgt rest) : Yx A p l e R s m args below meth c nL cells slots Q lv H pc (.int x :: rest) :=
  fun ls locs hl hS => lv_tableIn C.1 C.2.1 hdg h1 h2 ho ht (k ls locs hl hS)
theorem y_dup (C : Cx g B0 A p s m args meth c cc nL own) {va : Value} (hdg : decode cc pc = .ok (.dup, 1)) (hva : va.category = 1) (k : Yx A p l e R s m args below meth c nL cells slots Q lv H (pc + 1) (va :: va :: rest)) : Yx A p l e R s m args below meth c nL cells slots Q lv H pc (va :: rest) :=
  fun ls locs hl hS => lv_dup C.1 C.2.1 hdg hva (k ls locs hl hS)
theorem y_pop (C : Cx g B0 A p s m args meth c cc nL own) {va : Value} (hdg : decode cc pc = .ok (.pop, 1)) (hva : va.category = 1) (k : Yx A p l e R s m args below meth c nL cells slots Q lv H (pc + 1) rest) : Yx A p l e R s m args below meth c nL cells slots Q lv H pc (va :: rest) :=
  fun ls locs hl hS => lv_pop C.1 C.2.1 hdg hva (k ls locs hl hS)
theorem y_dup2 (C : Cx g B0 A p s m args meth c cc nL own) {va vb : Value} (hdg : decode cc pc = .ok (.dup2, 1)) (hva : va.category = 1) (hvb : vb.category = 1) (k : Yx A p l e R s m args below meth c nL cells slots Q lv H (pc + 1) (va :: vb :: va :: vb :: rest)) : Yx A p l e R s m args below meth c nL cells slots Q lv H pc (va :: vb :: rest) :=
  fun ls locs hl hS => lv_dup2_11 C.1 C.2.1 hdg hva hvb (k ls locs hl hS)
theorem y_dup_x1 (C : Cx g B0 A p s m args meth c cc nL own) {va vb : Value} (hdg : decode cc pc = .ok (.dup_x1, 1)) (hva : va.category = 1) (hvb : vb.category = 1) (k : Yx A p l e R s m args below meth c nL cells slots Q lv H (pc + 1) (va :: vb :: va :: rest)) : Yx A p l e R s m args below meth c nL cells slots Q lv H pc (va :: vb :: rest) :=
  fun ls locs hl hS => lv_dup_x1 C.1 C.2.1 hdg hva hvb (k ls locs hl hS)
theorem y_fadd (C : Cx g B0 A p s m args meth c cc nL own) {x y : UInt32} (hdg : decode cc pc = .ok (.fadd, 1)) (hne : vf_n32 (FP.fadd x y)) (k : Yx A p l e R s m args below meth c nL cells slots Q lv H (pc + 1) (.float (FP.fadd x y) :: rest)) : Yx A p l e R s m args below meth c nL cells slots Q lv H pc (.float y :: .float x :: rest) :=
  fun ls locs hl hS => lv_fadd C.1 C.2.1 hdg hne (k ls locs hl hS)
theorem y_fmul (C : Cx g B0 A p s m args meth c cc nL own) {x y : UInt32} (hdg : decode cc pc = .ok (.fmul, 1)) (hne : vf_n32 (FP.fmul x y)) (k : Yx A p l e R s m args below meth c nL cells slots Q lv H (pc + 1) (.float (FP.fmul x y) :: rest)) : Yx A p l e R s m args below meth c nL cells slots Q lv H pc (.float y :: .float x :: rest) :=
  fun ls locs hl hS => lv_fmul C.1 C.2.1 hdg hne (k ls locs hl hS)
theorem y_fdiv (C : Cx g B0 A p s m args meth c cc nL own) {x y : UInt32} (hdg : decode cc pc = .ok (.fdiv, 1)) (hne : vf_n32 (FP.fdiv x y)) (k : Yx A p l e R s m args below meth c nL cells slots Q lv H (pc + 1) (.float (FP.fdiv x y) :: rest)) : Yx A p l e R s m args below meth c nL cells slots Q lv H pc (.float y :: .float x :: rest) :=
  fun ls locs hl hS => lv_fdiv C.1 C.2.1 hdg hne (k ls locs hl hS)
theorem y_fcmp (C : Cx g B0 A p s m args meth c cc nL own) {x y : UInt32} {op : CmpOp} (hdg : decode cc pc = .ok (.fcmp op, 1)) (k : Yx A p l e R s m args below meth c nL cells slots Q lv H (pc + 1) (.int (Op.cmpValue (FP.fcmp x y) op) :: rest)) : Yx A p l e R s m args below meth c nL cells slots Q lv H pc (.float y :: .float x :: rest) :=
  fun ls locs hl hS => lv_fcmp C.1 C.2.1 hdg (k ls locs hl hS)
theorem y_i2f (C : Cx g B0 A p s m args meth c cc nL own) {x : Int32} (hdg : decode cc pc = .ok (.i2f, 1)) (k : Yx A p l e R s m args below meth c nL cells slots Q lv H (pc + 1) (.float (FP.i2f x) :: rest)) : Yx A p l e R s m args below meth c nL cells slots Q lv H pc (.int x :: rest) :=
  fun ls locs hl hS => lv_i2f C.1 C.2.1 hdg (k ls locs hl hS)
theorem y_f2i (C : Cx g B0 A p s m args meth c cc nL own) {x : UInt32} (hdg : decode cc pc = .ok (.f2i, 1)) (k : Yx A p l e R s m args below meth c nL cells slots Q lv H (pc + 1) (.int (FP.f2i x) :: rest)) : Yx A p l e R s m args below meth c nL cells slots Q lv H pc (.float x :: rest) :=
  fun ls locs hl hS => lv_f2i C.1 C.2.1 hdg (k ls locs hl hS)
theorem y_mmax (C : Cx g B0 A p s m args meth c cc nL own) {index : Nat} {x y : Int32} (h1 : Cond.methodLink own index Lib.Math.max.name ∈ wsL_law) (h2 : Cond.static Lib.Math.max.name ∈ wsL_law) (h3 : Cond.initialized "java/lang/Math" ∈ wsL_law) (h4 : Cond.code Lib.Math.max.name Lib.Math.max.code 2 (some .int) ∈ wsL_law) (hf : 1 ≤ R.frames) (hlo : (rest.map fun v => v.category).sum + 13 ≤ R.locals) (hc : cells ≤ R.cells) (hs : slots ≤ R.slots) (hdg : decode cc pc = .ok (.invokestatic index, 3)) (k : Yx A p l e R s m args below meth c nL cells slots Q lv H (pc + 3) (.int (if x < y then y else x) :: rest)) : Yx A p l e R s m args below meth c nL cells slots Q lv H pc (.int y :: .int x :: rest) :=
  fun ls locs hl hS => va_mmax C.1 C.2.1 (C.2.2.1.trans hl.1.symm) C.2.2.2.1 (C.2.2.2.2.1 _ h1) (C.2.2.2.2.1 _ h2) (C.2.2.2.2.1 _ h3) (C.2.2.2.2.1 _ h4) hf hlo hc hs hdg (k ls locs hl hS)
theorem y_mmin (C : Cx g B0 A p s m args meth c cc nL own) {index : Nat} {x y : Int32} (h1 : Cond.methodLink own index Lib.Math.min.name ∈ wsL_law) (h2 : Cond.static Lib.Math.min.name ∈ wsL_law) (h3 : Cond.initialized "java/lang/Math" ∈ wsL_law) (h4 : Cond.code Lib.Math.min.name Lib.Math.min.code 2 (some .int) ∈ wsL_law) (hf : 1 ≤ R.frames) (hlo : (rest.map fun v => v.category).sum + 13 ≤ R.locals) (hc : cells ≤ R.cells) (hs : slots ≤ R.slots) (hdg : decode cc pc = .ok (.invokestatic index, 3)) (k : Yx A p l e R s m args below meth c nL cells slots Q lv H (pc + 3) (.int (if y < x then y else x) :: rest)) : Yx A p l e R s m args below meth c nL cells slots Q lv H pc (.int y :: .int x :: rest) :=
  fun ls locs hl hS => va_mmin C.1 C.2.1 (C.2.2.1.trans hl.1.symm) C.2.2.2.1 (C.2.2.2.2.1 _ h1) (C.2.2.2.2.1 _ h2) (C.2.2.2.2.1 _ h3) (C.2.2.2.2.1 _ h4) hf hlo hc hs hdg (k ls locs hl hS)
/-- one cell of the heap, at q -/
abbrev cA1 (g : KG) (q : Nat) (e : va_E) (H : Heap) : Prop := va_at g.1 vwCl (q, e) H
theorem cA1P {g : KG} {q : Nat} {e : va_E} {H : Heap} (h : cA1 g q e H) : va_P g.1 vwCl [(q, e)] H := fun k x hx => by cases k with | zero => (cases hx; exact h) | succ k => (cases hx)
theorem y_get0 (C : Cx g B0 A p s m args meth c cc nL own) {index a : Nat} {fs : List Value} (hat : cA1 g a (.inr (0, fs)) H) (k : Nat) (hk : k < 2) (hlink : Cond.fieldLink own index RX0 (TX0 k).2.1 (TX0 k).2.2.1 ∈ wsL_law) (hs1 : (TX0 k).1 = RX0) {v : Value} (hv : fs[k]? = some v) (hdg : decode cc pc = .ok (.getfield index, 3)) (kk : Yx A p l e R s m args below meth c nL cells slots Q lv H (pc + 3) (v :: rest)) : Yx A p l e R s m args below meth c nL cells slots Q lv H pc (.ref a :: rest) :=
  fun ls locs hl hS => va_get (ref := RX0) (C := RX0) (T := TX0) (N := 2) (ci := 0) C.1 C.2.1 C.2.2.2.2.1 inlX0 C.2.2.2.1 C.2.2.2.2.2.1.1 (cA1P hat) 0 rfl rfl k hk (C.2.2.2.2.1 _ hlink) (fun x hx => by rw [hs1] at hx; exact hx) hv hdg (kk ls locs hl hS)
theorem y_put0 (C : Cx g B0 A p s m args meth c cc nL own) {index a : Nat} {fs : List Value} (hat : cA1 g a (.inr (0, fs)) H) (hAa : A a) (k : Nat) (hk : k < 2) (hlink : Cond.fieldLink own index RX0 (TX0 k).2.1 (TX0 k).2.2.1 ∈ wsL_law) (hs1 : (TX0 k).1 = RX0) (hfin : (TX0 k).2.2.2 = false) {ty : FieldType} {v : Value} (hd : parseFieldDescriptor (TX0 k).2.2.1 = some ty) (hn : narrow ty v = v) (hfit : fits ty v = true) (hlen : k < fs.length) (hdg : decode cc pc = .ok (.putfield index, 3)) (kk : ∀ H1 : Heap, cA1 g a (.inr (0, fs.set k v)) H1 → (∀ q : Nat, q ≠ a → H1[q]? = H[q]?) → H1.size = H.size → Yx A p l e R s m args below meth c nL cells slots Q lv H1 (pc + 3) rest) : Yx A p l e R s m args below meth c nL cells slots Q lv H pc (v :: .ref a :: rest) := by
  intro ls locs hl hS
  obtain ⟨hexec, hb, -, hown, hts, hE, -⟩ := C
  have hK := hE.1
  have hc : vwCl[0]? = some (RX0, TX0, 2) := rfl
  have hap := va_apart (own := own) hts inlX0 tyX0 tyX0_ok nmX0 hK hc
  obtain ⟨r, h1, cell, q1, q2, q3, q4⟩ := hat
  have hr : r = (RX0, TX0, 2) := Option.some.inj (h1.symm.trans hc)
  subst hr
  obtain ⟨hSl, hfc, kC, hkC, hkind⟩ := hK.1 0 _ hc
  obtain ⟨cf, kf, fi, f, hi, hsl⟩ := hSl k hk
  have hlay := hts _ (inlX0 _ (u_in_lay hk))
  unfold u_lay at hlay
  rw [if_neg (by rw [hfin]; decide)] at hlay
  have hst := (u_facts hfc hkC (u_lays hts inlX0 hk) hi).1
  have hsame : s.fieldFound? RX0 (TX0 k).2.1 (TX0 k).2.2.1 = some (cf, kf, fi, f) := by rw [← hs1]; exact hi
  have h6 := u_store hfc hkC hkind hlay hi hd hn hfit
  refine W.putK hexec hb (f := f) ⟨hown, hts _ hlink, ⟨_, _, _, hsame⟩, hst⟩ (by rw [q2]; exact h6) q1 q3 (by rw [hsl]; exact k2_hasslot (q4 k hk)) rfl rfl hdg fun H' e1 e2 e3 => ?_
  rw [hsl] at e1 ⊢
  exact kk H' ⟨_, hc, t_OB.to (V := updV (vp_V fs) k v) ⟨_, e1, q2, q3, t_set q4 hap hk v⟩ (fun j _ => vp_updV_set hlen v j)⟩ e3 e2 ls _ hl (hS.put e2 e3 hAa)
theorem y_put0F (C : Cx g B0 A p s m args meth c cc nL own) {index a : Nat} {fs : List Value} (hat : cA1 g a (.inr (0, fs)) H) (hAa : A a) (k : Nat) (hk : k < 2) (hlink : Cond.fieldLink own index RX0 (TX0 k).2.1 (TX0 k).2.2.1 ∈ wsL_law) (hs1 : (TX0 k).1 = RX0) (hfin : (TX0 k).2.2.2 = true) (hin : meth.name = "<init>") (hdecl : (TX0 k).1 = own) {ty : FieldType} {v : Value} (hd : parseFieldDescriptor (TX0 k).2.2.1 = some ty) (hn : narrow ty v = v) (hfit : fits ty v = true) (hlen : k < fs.length) (hdg : decode cc pc = .ok (.putfield index, 3)) (kk : ∀ H1 : Heap, cA1 g a (.inr (0, fs.set k v)) H1 → (∀ q : Nat, q ≠ a → H1[q]? = H[q]?) → H1.size = H.size → Yx A p l e R s m args below meth c nL cells slots Q lv H1 (pc + 3) rest) : Yx A p l e R s m args below meth c nL cells slots Q lv H pc (v :: .ref a :: rest) := by
  intro ls locs hl hS
  obtain ⟨hexec, hb, -, hown, hts, hE, -⟩ := C
  have hK := hE.1
  have hc : vwCl[0]? = some (RX0, TX0, 2) := rfl
  have hap := va_apart (own := own) hts inlX0 tyX0 tyX0_ok nmX0 hK hc
  obtain ⟨r, h1, cell, q1, q2, q3, q4⟩ := hat
  have hr : r = (RX0, TX0, 2) := Option.some.inj (h1.symm.trans hc)
  subst hr
  obtain ⟨hSl, hfc, kC, hkC, hkind⟩ := hK.1 0 _ hc
  obtain ⟨cf, kf, fi, f, hi, hsl⟩ := hSl k hk
  have hlay := hts _ (inlX0 _ (u_in_lay hk))
  unfold u_lay at hlay
  rw [if_pos hfin] at hlay
  have hst := (u_facts hfc hkC (u_lays hts inlX0 hk) hi).1
  have hsame : s.fieldFound? RX0 (TX0 k).2.1 (TX0 k).2.2.1 = some (cf, kf, fi, f) := by rw [← hs1]; exact hi
  have hcf : m.cls = cf := by
    obtain ⟨_, _, c', _, _, _, -, -, hf', -, -, -, hown2, -⟩ := Cond.laysFinal_spec hlay
    have e1 : c' = cf := by have := hi.symm.trans hf'; simp at this; exact this.1.symm
    rw [hdecl] at hown2
    rw [← e1]; exact Option.some.inj (hown.symm.trans hown2)
  have h6 := u_fits hfc hkC hkind (Or.inr hlay) hi hd hn hfit
  refine W.putFinK hexec hb hown (hts _ hlink) hsame hst hcf hin (by rw [q2]; exact h6) q1 q3 (by rw [hsl]; exact k2_hasslot (q4 k hk)) rfl rfl hdg fun H' e1 e2 e3 => ?_
  rw [hsl] at e1 ⊢
  exact kk H' ⟨_, hc, t_OB.to (V := updV (vp_V fs) k v) ⟨_, e1, q2, q3, t_set q4 hap hk v⟩ (fun j _ => vp_updV_set hlen v j)⟩ e3 e2 ls _ hl (hS.put e2 e3 hAa)
theorem y_get1 (C : Cx g B0 A p s m args meth c cc nL own) {index a : Nat} {fs : List Value} (hat : cA1 g a (.inr (1, fs)) H) (k : Nat) (hk : k < 6) (hlink : Cond.fieldLink own index RX1 (TX1 k).2.1 (TX1 k).2.2.1 ∈ wsL_law) (hs1 : (TX1 k).1 = RX1) {v : Value} (hv : fs[k]? = some v) (hdg : decode cc pc = .ok (.getfield index, 3)) (kk : Yx A p l e R s m args below meth c nL cells slots Q lv H (pc + 3) (v :: rest)) : Yx A p l e R s m args below meth c nL cells slots Q lv H pc (.ref a :: rest) :=
  fun ls locs hl hS => va_get (ref := RX1) (C := RX1) (T := TX1) (N := 6) (ci := 1) C.1 C.2.1 C.2.2.2.2.1 inlX1 C.2.2.2.1 C.2.2.2.2.2.1.1 (cA1P hat) 0 rfl rfl k hk (C.2.2.2.2.1 _ hlink) (fun x hx => by rw [hs1] at hx; exact hx) hv hdg (kk ls locs hl hS)
theorem y_put1 (C : Cx g B0 A p s m args meth c cc nL own) {index a : Nat} {fs : List Value} (hat : cA1 g a (.inr (1, fs)) H) (hAa : A a) (k : Nat) (hk : k < 6) (hlink : Cond.fieldLink own index RX1 (TX1 k).2.1 (TX1 k).2.2.1 ∈ wsL_law) (hs1 : (TX1 k).1 = RX1) (hfin : (TX1 k).2.2.2 = false) {ty : FieldType} {v : Value} (hd : parseFieldDescriptor (TX1 k).2.2.1 = some ty) (hn : narrow ty v = v) (hfit : fits ty v = true) (hlen : k < fs.length) (hdg : decode cc pc = .ok (.putfield index, 3)) (kk : ∀ H1 : Heap, cA1 g a (.inr (1, fs.set k v)) H1 → (∀ q : Nat, q ≠ a → H1[q]? = H[q]?) → H1.size = H.size → Yx A p l e R s m args below meth c nL cells slots Q lv H1 (pc + 3) rest) : Yx A p l e R s m args below meth c nL cells slots Q lv H pc (v :: .ref a :: rest) := by
  intro ls locs hl hS
  obtain ⟨hexec, hb, -, hown, hts, hE, -⟩ := C
  have hK := hE.1
  have hc : vwCl[1]? = some (RX1, TX1, 6) := rfl
  have hap := va_apart (own := own) hts inlX1 tyX1 tyX1_ok nmX1 hK hc
  obtain ⟨r, h1, cell, q1, q2, q3, q4⟩ := hat
  have hr : r = (RX1, TX1, 6) := Option.some.inj (h1.symm.trans hc)
  subst hr
  obtain ⟨hSl, hfc, kC, hkC, hkind⟩ := hK.1 1 _ hc
  obtain ⟨cf, kf, fi, f, hi, hsl⟩ := hSl k hk
  have hlay := hts _ (inlX1 _ (u_in_lay hk))
  unfold u_lay at hlay
  rw [if_neg (by rw [hfin]; decide)] at hlay
  have hst := (u_facts hfc hkC (u_lays hts inlX1 hk) hi).1
  have hsame : s.fieldFound? RX1 (TX1 k).2.1 (TX1 k).2.2.1 = some (cf, kf, fi, f) := by rw [← hs1]; exact hi
  have h6 := u_store hfc hkC hkind hlay hi hd hn hfit
  refine W.putK hexec hb (f := f) ⟨hown, hts _ hlink, ⟨_, _, _, hsame⟩, hst⟩ (by rw [q2]; exact h6) q1 q3 (by rw [hsl]; exact k2_hasslot (q4 k hk)) rfl rfl hdg fun H' e1 e2 e3 => ?_
  rw [hsl] at e1 ⊢
  exact kk H' ⟨_, hc, t_OB.to (V := updV (vp_V fs) k v) ⟨_, e1, q2, q3, t_set q4 hap hk v⟩ (fun j _ => vp_updV_set hlen v j)⟩ e3 e2 ls _ hl (hS.put e2 e3 hAa)
theorem y_put1F (C : Cx g B0 A p s m args meth c cc nL own) {index a : Nat} {fs : List Value} (hat : cA1 g a (.inr (1, fs)) H) (hAa : A a) (k : Nat) (hk : k < 6) (hlink : Cond.fieldLink own index RX1 (TX1 k).2.1 (TX1 k).2.2.1 ∈ wsL_law) (hs1 : (TX1 k).1 = RX1) (hfin : (TX1 k).2.2.2 = true) (hin : meth.name = "<init>") (hdecl : (TX1 k).1 = own) {ty : FieldType} {v : Value} (hd : parseFieldDescriptor (TX1 k).2.2.1 = some ty) (hn : narrow ty v = v) (hfit : fits ty v = true) (hlen : k < fs.length) (hdg : decode cc pc = .ok (.putfield index, 3)) (kk : ∀ H1 : Heap, cA1 g a (.inr (1, fs.set k v)) H1 → (∀ q : Nat, q ≠ a → H1[q]? = H[q]?) → H1.size = H.size → Yx A p l e R s m args below meth c nL cells slots Q lv H1 (pc + 3) rest) : Yx A p l e R s m args below meth c nL cells slots Q lv H pc (v :: .ref a :: rest) := by
  intro ls locs hl hS
  obtain ⟨hexec, hb, -, hown, hts, hE, -⟩ := C
  have hK := hE.1
  have hc : vwCl[1]? = some (RX1, TX1, 6) := rfl
  have hap := va_apart (own := own) hts inlX1 tyX1 tyX1_ok nmX1 hK hc
  obtain ⟨r, h1, cell, q1, q2, q3, q4⟩ := hat
  have hr : r = (RX1, TX1, 6) := Option.some.inj (h1.symm.trans hc)
  subst hr
  obtain ⟨hSl, hfc, kC, hkC, hkind⟩ := hK.1 1 _ hc
  obtain ⟨cf, kf, fi, f, hi, hsl⟩ := hSl k hk
  have hlay := hts _ (inlX1 _ (u_in_lay hk))
  unfold u_lay at hlay
  rw [if_pos hfin] at hlay
  have hst := (u_facts hfc hkC (u_lays hts inlX1 hk) hi).1
  have hsame : s.fieldFound? RX1 (TX1 k).2.1 (TX1 k).2.2.1 = some (cf, kf, fi, f) := by rw [← hs1]; exact hi
  have hcf : m.cls = cf := by
    obtain ⟨_, _, c', _, _, _, -, -, hf', -, -, -, hown2, -⟩ := Cond.laysFinal_spec hlay
    have e1 : c' = cf := by have := hi.symm.trans hf'; simp at this; exact this.1.symm
    rw [hdecl] at hown2
    rw [← e1]; exact Option.some.inj (hown.symm.trans hown2)
  have h6 := u_fits hfc hkC hkind (Or.inr hlay) hi hd hn hfit
  refine W.putFinK hexec hb hown (hts _ hlink) hsame hst hcf hin (by rw [q2]; exact h6) q1 q3 (by rw [hsl]; exact k2_hasslot (q4 k hk)) rfl rfl hdg fun H' e1 e2 e3 => ?_
  rw [hsl] at e1 ⊢
  exact kk H' ⟨_, hc, t_OB.to (V := updV (vp_V fs) k v) ⟨_, e1, q2, q3, t_set q4 hap hk v⟩ (fun j _ => vp_updV_set hlen v j)⟩ e3 e2 ls _ hl (hS.put e2 e3 hAa)
theorem y_get2 (C : Cx g B0 A p s m args meth c cc nL own) {index a : Nat} {fs : List Value} (hat : cA1 g a (.inr (2, fs)) H) (k : Nat) (hk : k < 6) (hlink : Cond.fieldLink own index RX2 (TX2 k).2.1 (TX2 k).2.2.1 ∈ wsL_law) (hs1 : (TX2 k).1 = RX2) {v : Value} (hv : fs[k]? = some v) (hdg : decode cc pc = .ok (.getfield index, 3)) (kk : Yx A p l e R s m args below meth c nL cells slots Q lv H (pc + 3) (v :: rest)) : Yx A p l e R s m args below meth c nL cells slots Q lv H pc (.ref a :: rest) :=
  fun ls locs hl hS => va_get (ref := RX2) (C := RX2) (T := TX2) (N := 6) (ci := 2) C.1 C.2.1 C.2.2.2.2.1 inlX2 C.2.2.2.1 C.2.2.2.2.2.1.1 (cA1P hat) 0 rfl rfl k hk (C.2.2.2.2.1 _ hlink) (fun x hx => by rw [hs1] at hx; exact hx) hv hdg (kk ls locs hl hS)
theorem y_put2 (C : Cx g B0 A p s m args meth c cc nL own) {index a : Nat} {fs : List Value} (hat : cA1 g a (.inr (2, fs)) H) (hAa : A a) (k : Nat) (hk : k < 6) (hlink : Cond.fieldLink own index RX2 (TX2 k).2.1 (TX2 k).2.2.1 ∈ wsL_law) (hs1 : (TX2 k).1 = RX2) (hfin : (TX2 k).2.2.2 = false) {ty : FieldType} {v : Value} (hd : parseFieldDescriptor (TX2 k).2.2.1 = some ty) (hn : narrow ty v = v) (hfit : fits ty v = true) (hlen : k < fs.length) (hdg : decode cc pc = .ok (.putfield index, 3)) (kk : ∀ H1 : Heap, cA1 g a (.inr (2, fs.set k v)) H1 → (∀ q : Nat, q ≠ a → H1[q]? = H[q]?) → H1.size = H.size → Yx A p l e R s m args below meth c nL cells slots Q lv H1 (pc + 3) rest) : Yx A p l e R s m args below meth c nL cells slots Q lv H pc (v :: .ref a :: rest) := by
  intro ls locs hl hS
  obtain ⟨hexec, hb, -, hown, hts, hE, -⟩ := C
  have hK := hE.1
  have hc : vwCl[2]? = some (RX2, TX2, 6) := rfl
  have hap := va_apart (own := own) hts inlX2 tyX2 tyX2_ok nmX2 hK hc
  obtain ⟨r, h1, cell, q1, q2, q3, q4⟩ := hat
  have hr : r = (RX2, TX2, 6) := Option.some.inj (h1.symm.trans hc)
  subst hr
  obtain ⟨hSl, hfc, kC, hkC, hkind⟩ := hK.1 2 _ hc
  obtain ⟨cf, kf, fi, f, hi, hsl⟩ := hSl k hk
  have hlay := hts _ (inlX2 _ (u_in_lay hk))
  unfold u_lay at hlay
  rw [if_neg (by rw [hfin]; decide)] at hlay
  have hst := (u_facts hfc hkC (u_lays hts inlX2 hk) hi).1
  have hsame : s.fieldFound? RX2 (TX2 k).2.1 (TX2 k).2.2.1 = some (cf, kf, fi, f) := by rw [← hs1]; exact hi
  have h6 := u_store hfc hkC hkind hlay hi hd hn hfit
  refine W.putK hexec hb (f := f) ⟨hown, hts _ hlink, ⟨_, _, _, hsame⟩, hst⟩ (by rw [q2]; exact h6) q1 q3 (by rw [hsl]; exact k2_hasslot (q4 k hk)) rfl rfl hdg fun H' e1 e2 e3 => ?_
  rw [hsl] at e1 ⊢
  exact kk H' ⟨_, hc, t_OB.to (V := updV (vp_V fs) k v) ⟨_, e1, q2, q3, t_set q4 hap hk v⟩ (fun j _ => vp_updV_set hlen v j)⟩ e3 e2 ls _ hl (hS.put e2 e3 hAa)
theorem y_put2F (C : Cx g B0 A p s m args meth c cc nL own) {index a : Nat} {fs : List Value} (hat : cA1 g a (.inr (2, fs)) H) (hAa : A a) (k : Nat) (hk : k < 6) (hlink : Cond.fieldLink own index RX2 (TX2 k).2.1 (TX2 k).2.2.1 ∈ wsL_law) (hs1 : (TX2 k).1 = RX2) (hfin : (TX2 k).2.2.2 = true) (hin : meth.name = "<init>") (hdecl : (TX2 k).1 = own) {ty : FieldType} {v : Value} (hd : parseFieldDescriptor (TX2 k).2.2.1 = some ty) (hn : narrow ty v = v) (hfit : fits ty v = true) (hlen : k < fs.length) (hdg : decode cc pc = .ok (.putfield index, 3)) (kk : ∀ H1 : Heap, cA1 g a (.inr (2, fs.set k v)) H1 → (∀ q : Nat, q ≠ a → H1[q]? = H[q]?) → H1.size = H.size → Yx A p l e R s m args below meth c nL cells slots Q lv H1 (pc + 3) rest) : Yx A p l e R s m args below meth c nL cells slots Q lv H pc (v :: .ref a :: rest) := by
  intro ls locs hl hS
  obtain ⟨hexec, hb, -, hown, hts, hE, -⟩ := C
  have hK := hE.1
  have hc : vwCl[2]? = some (RX2, TX2, 6) := rfl
  have hap := va_apart (own := own) hts inlX2 tyX2 tyX2_ok nmX2 hK hc
  obtain ⟨r, h1, cell, q1, q2, q3, q4⟩ := hat
  have hr : r = (RX2, TX2, 6) := Option.some.inj (h1.symm.trans hc)
  subst hr
  obtain ⟨hSl, hfc, kC, hkC, hkind⟩ := hK.1 2 _ hc
  obtain ⟨cf, kf, fi, f, hi, hsl⟩ := hSl k hk
  have hlay := hts _ (inlX2 _ (u_in_lay hk))
  unfold u_lay at hlay
  rw [if_pos hfin] at hlay
  have hst := (u_facts hfc hkC (u_lays hts inlX2 hk) hi).1
  have hsame : s.fieldFound? RX2 (TX2 k).2.1 (TX2 k).2.2.1 = some (cf, kf, fi, f) := by rw [← hs1]; exact hi
  have hcf : m.cls = cf := by
    obtain ⟨_, _, c', _, _, _, -, -, hf', -, -, -, hown2, -⟩ := Cond.laysFinal_spec hlay
    have e1 : c' = cf := by have := hi.symm.trans hf'; simp at this; exact this.1.symm
    rw [hdecl] at hown2
    rw [← e1]; exact Option.some.inj (hown.symm.trans hown2)
  have h6 := u_fits hfc hkC hkind (Or.inr hlay) hi hd hn hfit
  refine W.putFinK hexec hb hown (hts _ hlink) hsame hst hcf hin (by rw [q2]; exact h6) q1 q3 (by rw [hsl]; exact k2_hasslot (q4 k hk)) rfl rfl hdg fun H' e1 e2 e3 => ?_
  rw [hsl] at e1 ⊢
  exact kk H' ⟨_, hc, t_OB.to (V := updV (vp_V fs) k v) ⟨_, e1, q2, q3, t_set q4 hap hk v⟩ (fun j _ => vp_updV_set hlen v j)⟩ e3 e2 ls _ hl (hS.put e2 e3 hAa)
theorem y_get3 (C : Cx g B0 A p s m args meth c cc nL own) {index a : Nat} {fs : List Value} (hat : cA1 g a (.inr (3, fs)) H) (k : Nat) (hk : k < 2) (hlink : Cond.fieldLink own index RX3 (TX3 k).2.1 (TX3 k).2.2.1 ∈ wsL_law) (hs1 : (TX3 k).1 = RX3) {v : Value} (hv : fs[k]? = some v) (hdg : decode cc pc = .ok (.getfield index, 3)) (kk : Yx A p l e R s m args below meth c nL cells slots Q lv H (pc + 3) (v :: rest)) : Yx A p l e R s m args below meth c nL cells slots Q lv H pc (.ref a :: rest) :=
  fun ls locs hl hS => va_get (ref := RX3) (C := RX3) (T := TX3) (N := 2) (ci := 3) C.1 C.2.1 C.2.2.2.2.1 inlX3 C.2.2.2.1 C.2.2.2.2.2.1.1 (cA1P hat) 0 rfl rfl k hk (C.2.2.2.2.1 _ hlink) (fun x hx => by rw [hs1] at hx; exact hx) hv hdg (kk ls locs hl hS)
theorem y_put3 (C : Cx g B0 A p s m args meth c cc nL own) {index a : Nat} {fs : List Value} (hat : cA1 g a (.inr (3, fs)) H) (hAa : A a) (k : Nat) (hk : k < 2) (hlink : Cond.fieldLink own index RX3 (TX3 k).2.1 (TX3 k).2.2.1 ∈ wsL_law) (hs1 : (TX3 k).1 = RX3) (hfin : (TX3 k).2.2.2 = false) {ty : FieldType} {v : Value} (hd : parseFieldDescriptor (TX3 k).2.2.1 = some ty) (hn : narrow ty v = v) (hfit : fits ty v = true) (hlen : k < fs.length) (hdg : decode cc pc = .ok (.putfield index, 3)) (kk : ∀ H1 : Heap, cA1 g a (.inr (3, fs.set k v)) H1 → (∀ q : Nat, q ≠ a → H1[q]? = H[q]?) → H1.size = H.size → Yx A p l e R s m args below meth c nL cells slots Q lv H1 (pc + 3) rest) : Yx A p l e R s m args below meth c nL cells slots Q lv H pc (v :: .ref a :: rest) := by
  intro ls locs hl hS
  obtain ⟨hexec, hb, -, hown, hts, hE, -⟩ := C
  have hK := hE.1
  have hc : vwCl[3]? = some (RX3, TX3, 2) := rfl
  have hap := va_apart (own := own) hts inlX3 tyX3 tyX3_ok nmX3 hK hc
  obtain ⟨r, h1, cell, q1, q2, q3, q4⟩ := hat
  have hr : r = (RX3, TX3, 2) := Option.some.inj (h1.symm.trans hc)
  subst hr
  obtain ⟨hSl, hfc, kC, hkC, hkind⟩ := hK.1 3 _ hc
  obtain ⟨cf, kf, fi, f, hi, hsl⟩ := hSl k hk
  have hlay := hts _ (inlX3 _ (u_in_lay hk))
  unfold u_lay at hlay
  rw [if_neg (by rw [hfin]; decide)] at hlay
  have hst := (u_facts hfc hkC (u_lays hts inlX3 hk) hi).1
  have hsame : s.fieldFound? RX3 (TX3 k).2.1 (TX3 k).2.2.1 = some (cf, kf, fi, f) := by rw [← hs1]; exact hi
  have h6 := u_store hfc hkC hkind hlay hi hd hn hfit
  refine W.putK hexec hb (f := f) ⟨hown, hts _ hlink, ⟨_, _, _, hsame⟩, hst⟩ (by rw [q2]; exact h6) q1 q3 (by rw [hsl]; exact k2_hasslot (q4 k hk)) rfl rfl hdg fun H' e1 e2 e3 => ?_
  rw [hsl] at e1 ⊢
  exact kk H' ⟨_, hc, t_OB.to (V := updV (vp_V fs) k v) ⟨_, e1, q2, q3, t_set q4 hap hk v⟩ (fun j _ => vp_updV_set hlen v j)⟩ e3 e2 ls _ hl (hS.put e2 e3 hAa)
theorem y_put3F (C : Cx g B0 A p s m args meth c cc nL own) {index a : Nat} {fs : List Value} (hat : cA1 g a (.inr (3, fs)) H) (hAa : A a) (k : Nat) (hk : k < 2) (hlink : Cond.fieldLink own index RX3 (TX3 k).2.1 (TX3 k).2.2.1 ∈ wsL_law) (hs1 : (TX3 k).1 = RX3) (hfin : (TX3 k).2.2.2 = true) (hin : meth.name = "<init>") (hdecl : (TX3 k).1 = own) {ty : FieldType} {v : Value} (hd : parseFieldDescriptor (TX3 k).2.2.1 = some ty) (hn : narrow ty v = v) (hfit : fits ty v = true) (hlen : k < fs.length) (hdg : decode cc pc = .ok (.putfield index, 3)) (kk : ∀ H1 : Heap, cA1 g a (.inr (3, fs.set k v)) H1 → (∀ q : Nat, q ≠ a → H1[q]? = H[q]?) → H1.size = H.size → Yx A p l e R s m args below meth c nL cells slots Q lv H1 (pc + 3) rest) : Yx A p l e R s m args below meth c nL cells slots Q lv H pc (v :: .ref a :: rest) := by
  intro ls locs hl hS
  obtain ⟨hexec, hb, -, hown, hts, hE, -⟩ := C
  have hK := hE.1
  have hc : vwCl[3]? = some (RX3, TX3, 2) := rfl
  have hap := va_apart (own := own) hts inlX3 tyX3 tyX3_ok nmX3 hK hc
  obtain ⟨r, h1, cell, q1, q2, q3, q4⟩ := hat
  have hr : r = (RX3, TX3, 2) := Option.some.inj (h1.symm.trans hc)
  subst hr
  obtain ⟨hSl, hfc, kC, hkC, hkind⟩ := hK.1 3 _ hc
  obtain ⟨cf, kf, fi, f, hi, hsl⟩ := hSl k hk
  have hlay := hts _ (inlX3 _ (u_in_lay hk))
  unfold u_lay at hlay
  rw [if_pos hfin] at hlay
  have hst := (u_facts hfc hkC (u_lays hts inlX3 hk) hi).1
  have hsame : s.fieldFound? RX3 (TX3 k).2.1 (TX3 k).2.2.1 = some (cf, kf, fi, f) := by rw [← hs1]; exact hi
  have hcf : m.cls = cf := by
    obtain ⟨_, _, c', _, _, _, -, -, hf', -, -, -, hown2, -⟩ := Cond.laysFinal_spec hlay
    have e1 : c' = cf := by have := hi.symm.trans hf'; simp at this; exact this.1.symm
    rw [hdecl] at hown2
    rw [← e1]; exact Option.some.inj (hown.symm.trans hown2)
  have h6 := u_fits hfc hkC hkind (Or.inr hlay) hi hd hn hfit
  refine W.putFinK hexec hb hown (hts _ hlink) hsame hst hcf hin (by rw [q2]; exact h6) q1 q3 (by rw [hsl]; exact k2_hasslot (q4 k hk)) rfl rfl hdg fun H' e1 e2 e3 => ?_
  rw [hsl] at e1 ⊢
  exact kk H' ⟨_, hc, t_OB.to (V := updV (vp_V fs) k v) ⟨_, e1, q2, q3, t_set q4 hap hk v⟩ (fun j _ => vp_updV_set hlen v j)⟩ e3 e2 ls _ hl (hS.put e2 e3 hAa)
theorem y_get4 (C : Cx g B0 A p s m args meth c cc nL own) {index a : Nat} {fs : List Value} (hat : cA1 g a (.inr (4, fs)) H) (k : Nat) (hk : k < 9) (hlink : Cond.fieldLink own index RX4 (TX4 k).2.1 (TX4 k).2.2.1 ∈ wsL_law) (hs1 : (TX4 k).1 = RX4) {v : Value} (hv : fs[k]? = some v) (hdg : decode cc pc = .ok (.getfield index, 3)) (kk : Yx A p l e R s m args below meth c nL cells slots Q lv H (pc + 3) (v :: rest)) : Yx A p l e R s m args below meth c nL cells slots Q lv H pc (.ref a :: rest) :=
  fun ls locs hl hS => va_get (ref := RX4) (C := RX4) (T := TX4) (N := 9) (ci := 4) C.1 C.2.1 C.2.2.2.2.1 inlX4 C.2.2.2.1 C.2.2.2.2.2.1.1 (cA1P hat) 0 rfl rfl k hk (C.2.2.2.2.1 _ hlink) (fun x hx => by rw [hs1] at hx; exact hx) hv hdg (kk ls locs hl hS)
theorem y_put4 (C : Cx g B0 A p s m args meth c cc nL own) {index a : Nat} {fs : List Value} (hat : cA1 g a (.inr (4, fs)) H) (hAa : A a) (k : Nat) (hk : k < 9) (hlink : Cond.fieldLink own index RX4 (TX4 k).2.1 (TX4 k).2.2.1 ∈ wsL_law) (hs1 : (TX4 k).1 = RX4) (hfin : (TX4 k).2.2.2 = false) {ty : FieldType} {v : Value} (hd : parseFieldDescriptor (TX4 k).2.2.1 = some ty) (hn : narrow ty v = v) (hfit : fits ty v = true) (hlen : k < fs.length) (hdg : decode cc pc = .ok (.putfield index, 3)) (kk : ∀ H1 : Heap, cA1 g a (.inr (4, fs.set k v)) H1 → (∀ q : Nat, q ≠ a → H1[q]? = H[q]?) → H1.size = H.size → Yx A p l e R s m args below meth c nL cells slots Q lv H1 (pc + 3) rest) : Yx A p l e R s m args below meth c nL cells slots Q lv H pc (v :: .ref a :: rest) := by
  intro ls locs hl hS
  obtain ⟨hexec, hb, -, hown, hts, hE, -⟩ := C
  have hK := hE.1
  have hc : vwCl[4]? = some (RX4, TX4, 9) := rfl
  have hap := va_apart (own := own) hts inlX4 tyX4 tyX4_ok nmX4 hK hc
  obtain ⟨r, h1, cell, q1, q2, q3, q4⟩ := hat
  have hr : r = (RX4, TX4, 9) := Option.some.inj (h1.symm.trans hc)
  subst hr
  obtain ⟨hSl, hfc, kC, hkC, hkind⟩ := hK.1 4 _ hc
  obtain ⟨cf, kf, fi, f, hi, hsl⟩ := hSl k hk
  have hlay := hts _ (inlX4 _ (u_in_lay hk))
  unfold u_lay at hlay
  rw [if_neg (by rw [hfin]; decide)] at hlay
  have hst := (u_facts hfc hkC (u_lays hts inlX4 hk) hi).1
  have hsame : s.fieldFound? RX4 (TX4 k).2.1 (TX4 k).2.2.1 = some (cf, kf, fi, f) := by rw [← hs1]; exact hi
  have h6 := u_store hfc hkC hkind hlay hi hd hn hfit
  refine W.putK hexec hb (f := f) ⟨hown, hts _ hlink, ⟨_, _, _, hsame⟩, hst⟩ (by rw [q2]; exact h6) q1 q3 (by rw [hsl]; exact k2_hasslot (q4 k hk)) rfl rfl hdg fun H' e1 e2 e3 => ?_
  rw [hsl] at e1 ⊢
  exact kk H' ⟨_, hc, t_OB.to (V := updV (vp_V fs) k v) ⟨_, e1, q2, q3, t_set q4 hap hk v⟩ (fun j _ => vp_updV_set hlen v j)⟩ e3 e2 ls _ hl (hS.put e2 e3 hAa)
theorem y_put4F (C : Cx g B0 A p s m args meth c cc nL own) {index a : Nat} {fs : List Value} (hat : cA1 g a (.inr (4, fs)) H) (hAa : A a) (k : Nat) (hk : k < 9) (hlink : Cond.fieldLink own index RX4 (TX4 k).2.1 (TX4 k).2.2.1 ∈ wsL_law) (hs1 : (TX4 k).1 = RX4) (hfin : (TX4 k).2.2.2 = true) (hin : meth.name = "<init>") (hdecl : (TX4 k).1 = own) {ty : FieldType} {v : Value} (hd : parseFieldDescriptor (TX4 k).2.2.1 = some ty) (hn : narrow ty v = v) (hfit : fits ty v = true) (hlen : k < fs.length) (hdg : decode cc pc = .ok (.putfield index, 3)) (kk : ∀ H1 : Heap, cA1 g a (.inr (4, fs.set k v)) H1 → (∀ q : Nat, q ≠ a → H1[q]? = H[q]?) → H1.size = H.size → Yx A p l e R s m args below meth c nL cells slots Q lv H1 (pc + 3) rest) : Yx A p l e R s m args below meth c nL cells slots Q lv H pc (v :: .ref a :: rest) := by
  intro ls locs hl hS
  obtain ⟨hexec, hb, -, hown, hts, hE, -⟩ := C
  have hK := hE.1
  have hc : vwCl[4]? = some (RX4, TX4, 9) := rfl
  have hap := va_apart (own := own) hts inlX4 tyX4 tyX4_ok nmX4 hK hc
  obtain ⟨r, h1, cell, q1, q2, q3, q4⟩ := hat
  have hr : r = (RX4, TX4, 9) := Option.some.inj (h1.symm.trans hc)
  subst hr
  obtain ⟨hSl, hfc, kC, hkC, hkind⟩ := hK.1 4 _ hc
  obtain ⟨cf, kf, fi, f, hi, hsl⟩ := hSl k hk
  have hlay := hts _ (inlX4 _ (u_in_lay hk))
  unfold u_lay at hlay
  rw [if_pos hfin] at hlay
  have hst := (u_facts hfc hkC (u_lays hts inlX4 hk) hi).1
  have hsame : s.fieldFound? RX4 (TX4 k).2.1 (TX4 k).2.2.1 = some (cf, kf, fi, f) := by rw [← hs1]; exact hi
  have hcf : m.cls = cf := by
    obtain ⟨_, _, c', _, _, _, -, -, hf', -, -, -, hown2, -⟩ := Cond.laysFinal_spec hlay
    have e1 : c' = cf := by have := hi.symm.trans hf'; simp at this; exact this.1.symm
    rw [hdecl] at hown2
    rw [← e1]; exact Option.some.inj (hown.symm.trans hown2)
  have h6 := u_fits hfc hkC hkind (Or.inr hlay) hi hd hn hfit
  refine W.putFinK hexec hb hown (hts _ hlink) hsame hst hcf hin (by rw [q2]; exact h6) q1 q3 (by rw [hsl]; exact k2_hasslot (q4 k hk)) rfl rfl hdg fun H' e1 e2 e3 => ?_
  rw [hsl] at e1 ⊢
  exact kk H' ⟨_, hc, t_OB.to (V := updV (vp_V fs) k v) ⟨_, e1, q2, q3, t_set q4 hap hk v⟩ (fun j _ => vp_updV_set hlen v j)⟩ e3 e2 ls _ hl (hS.put e2 e3 hAa)
theorem y_get5 (C : Cx g B0 A p s m args meth c cc nL own) {index a : Nat} {fs : List Value} (hat : cA1 g a (.inr (5, fs)) H) (k : Nat) (hk : k < 8) (hlink : Cond.fieldLink own index RX5 (TX5 k).2.1 (TX5 k).2.2.1 ∈ wsL_law) (hs1 : (TX5 k).1 = RX5) {v : Value} (hv : fs[k]? = some v) (hdg : decode cc pc = .ok (.getfield index, 3)) (kk : Yx A p l e R s m args below meth c nL cells slots Q lv H (pc + 3) (v :: rest)) : Yx A p l e R s m args below meth c nL cells slots Q lv H pc (.ref a :: rest) :=
  fun ls locs hl hS => va_get (ref := RX5) (C := RX5) (T := TX5) (N := 8) (ci := 5) C.1 C.2.1 C.2.2.2.2.1 inlX5 C.2.2.2.1 C.2.2.2.2.2.1.1 (cA1P hat) 0 rfl rfl k hk (C.2.2.2.2.1 _ hlink) (fun x hx => by rw [hs1] at hx; exact hx) hv hdg (kk ls locs hl hS)
theorem y_put5 (C : Cx g B0 A p s m args meth c cc nL own) {index a : Nat} {fs : List Value} (hat : cA1 g a (.inr (5, fs)) H) (hAa : A a) (k : Nat) (hk : k < 8) (hlink : Cond.fieldLink own index RX5 (TX5 k).2.1 (TX5 k).2.2.1 ∈ wsL_law) (hs1 : (TX5 k).1 = RX5) (hfin : (TX5 k).2.2.2 = false) {ty : FieldType} {v : Value} (hd : parseFieldDescriptor (TX5 k).2.2.1 = some ty) (hn : narrow ty v = v) (hfit : fits ty v = true) (hlen : k < fs.length) (hdg : decode cc pc = .ok (.putfield index, 3)) (kk : ∀ H1 : Heap, cA1 g a (.inr (5, fs.set k v)) H1 → (∀ q : Nat, q ≠ a → H1[q]? = H[q]?) → H1.size = H.size → Yx A p l e R s m args below meth c nL cells slots Q lv H1 (pc + 3) rest) : Yx A p l e R s m args below meth c nL cells slots Q lv H pc (v :: .ref a :: rest) := by
  intro ls locs hl hS
  obtain ⟨hexec, hb, -, hown, hts, hE, -⟩ := C
  have hK := hE.1
  have hc : vwCl[5]? = some (RX5, TX5, 8) := rfl
  have hap := va_apart (own := own) hts inlX5 tyX5 tyX5_ok nmX5 hK hc
  obtain ⟨r, h1, cell, q1, q2, q3, q4⟩ := hat
  have hr : r = (RX5, TX5, 8) := Option.some.inj (h1.symm.trans hc)
  subst hr
  obtain ⟨hSl, hfc, kC, hkC, hkind⟩ := hK.1 5 _ hc
  obtain ⟨cf, kf, fi, f, hi, hsl⟩ := hSl k hk
  have hlay := hts _ (inlX5 _ (u_in_lay hk))
  unfold u_lay at hlay
  rw [if_neg (by rw [hfin]; decide)] at hlay
  have hst := (u_facts hfc hkC (u_lays hts inlX5 hk) hi).1
  have hsame : s.fieldFound? RX5 (TX5 k).2.1 (TX5 k).2.2.1 = some (cf, kf, fi, f) := by rw [← hs1]; exact hi
  have h6 := u_store hfc hkC hkind hlay hi hd hn hfit
  refine W.putK hexec hb (f := f) ⟨hown, hts _ hlink, ⟨_, _, _, hsame⟩, hst⟩ (by rw [q2]; exact h6) q1 q3 (by rw [hsl]; exact k2_hasslot (q4 k hk)) rfl rfl hdg fun H' e1 e2 e3 => ?_
  rw [hsl] at e1 ⊢
  exact kk H' ⟨_, hc, t_OB.to (V := updV (vp_V fs) k v) ⟨_, e1, q2, q3, t_set q4 hap hk v⟩ (fun j _ => vp_updV_set hlen v j)⟩ e3 e2 ls _ hl (hS.put e2 e3 hAa)
theorem y_put5F (C : Cx g B0 A p s m args meth c cc nL own) {index a : Nat} {fs : List Value} (hat : cA1 g a (.inr (5, fs)) H) (hAa : A a) (k : Nat) (hk : k < 8) (hlink : Cond.fieldLink own index RX5 (TX5 k).2.1 (TX5 k).2.2.1 ∈ wsL_law) (hs1 : (TX5 k).1 = RX5) (hfin : (TX5 k).2.2.2 = true) (hin : meth.name = "<init>") (hdecl : (TX5 k).1 = own) {ty : FieldType} {v : Value} (hd : parseFieldDescriptor (TX5 k).2.2.1 = some ty) (hn : narrow ty v = v) (hfit : fits ty v = true) (hlen : k < fs.length) (hdg : decode cc pc = .ok (.putfield index, 3)) (kk : ∀ H1 : Heap, cA1 g a (.inr (5, fs.set k v)) H1 → (∀ q : Nat, q ≠ a → H1[q]? = H[q]?) → H1.size = H.size → Yx A p l e R s m args below meth c nL cells slots Q lv H1 (pc + 3) rest) : Yx A p l e R s m args below meth c nL cells slots Q lv H pc (v :: .ref a :: rest) := by
  intro ls locs hl hS
  obtain ⟨hexec, hb, -, hown, hts, hE, -⟩ := C
  have hK := hE.1
  have hc : vwCl[5]? = some (RX5, TX5, 8) := rfl
  have hap := va_apart (own := own) hts inlX5 tyX5 tyX5_ok nmX5 hK hc
  obtain ⟨r, h1, cell, q1, q2, q3, q4⟩ := hat
  have hr : r = (RX5, TX5, 8) := Option.some.inj (h1.symm.trans hc)
  subst hr
  obtain ⟨hSl, hfc, kC, hkC, hkind⟩ := hK.1 5 _ hc
  obtain ⟨cf, kf, fi, f, hi, hsl⟩ := hSl k hk
  have hlay := hts _ (inlX5 _ (u_in_lay hk))
  unfold u_lay at hlay
  rw [if_pos hfin] at hlay
  have hst := (u_facts hfc hkC (u_lays hts inlX5 hk) hi).1
  have hsame : s.fieldFound? RX5 (TX5 k).2.1 (TX5 k).2.2.1 = some (cf, kf, fi, f) := by rw [← hs1]; exact hi
  have hcf : m.cls = cf := by
    obtain ⟨_, _, c', _, _, _, -, -, hf', -, -, -, hown2, -⟩ := Cond.laysFinal_spec hlay
    have e1 : c' = cf := by have := hi.symm.trans hf'; simp at this; exact this.1.symm
    rw [hdecl] at hown2
    rw [← e1]; exact Option.some.inj (hown.symm.trans hown2)
  have h6 := u_fits hfc hkC hkind (Or.inr hlay) hi hd hn hfit
  refine W.putFinK hexec hb hown (hts _ hlink) hsame hst hcf hin (by rw [q2]; exact h6) q1 q3 (by rw [hsl]; exact k2_hasslot (q4 k hk)) rfl rfl hdg fun H' e1 e2 e3 => ?_
  rw [hsl] at e1 ⊢
  exact kk H' ⟨_, hc, t_OB.to (V := updV (vp_V fs) k v) ⟨_, e1, q2, q3, t_set q4 hap hk v⟩ (fun j _ => vp_updV_set hlen v j)⟩ e3 e2 ls _ hl (hS.put e2 e3 hAa)
theorem y_get6 (C : Cx g B0 A p s m args meth c cc nL own) {index a : Nat} {fs : List Value} (hat : cA1 g a (.inr (6, fs)) H) (k : Nat) (hk : k < 6) (hlink : Cond.fieldLink own index RX6 (TX6 k).2.1 (TX6 k).2.2.1 ∈ wsL_law) (hs1 : (TX6 k).1 = RX6) {v : Value} (hv : fs[k]? = some v) (hdg : decode cc pc = .ok (.getfield index, 3)) (kk : Yx A p l e R s m args below meth c nL cells slots Q lv H (pc + 3) (v :: rest)) : Yx A p l e R s m args below meth c nL cells slots Q lv H pc (.ref a :: rest) :=
  fun ls locs hl hS => va_get (ref := RX6) (C := RX6) (T := TX6) (N := 6) (ci := 6) C.1 C.2.1 C.2.2.2.2.1 inlX6 C.2.2.2.1 C.2.2.2.2.2.1.1 (cA1P hat) 0 rfl rfl k hk (C.2.2.2.2.1 _ hlink) (fun x hx => by rw [hs1] at hx; exact hx) hv hdg (kk ls locs hl hS)
theorem y_put6 (C : Cx g B0 A p s m args meth c cc nL own) {index a : Nat} {fs : List Value} (hat : cA1 g a (.inr (6, fs)) H) (hAa : A a) (k : Nat) (hk : k < 6) (hlink : Cond.fieldLink own index RX6 (TX6 k).2.1 (TX6 k).2.2.1 ∈ wsL_law) (hs1 : (TX6 k).1 = RX6) (hfin : (TX6 k).2.2.2 = false) {ty : FieldType} {v : Value} (hd : parseFieldDescriptor (TX6 k).2.2.1 = some ty) (hn : narrow ty v = v) (hfit : fits ty v = true) (hlen : k < fs.length) (hdg : decode cc pc = .ok (.putfield index, 3)) (kk : ∀ H1 : Heap, cA1 g a (.inr (6, fs.set k v)) H1 → (∀ q : Nat, q ≠ a → H1[q]? = H[q]?) → H1.size = H.size → Yx A p l e R s m args below meth c nL cells slots Q lv H1 (pc + 3) rest) : Yx A p l e R s m args below meth c nL cells slots Q lv H pc (v :: .ref a :: rest) := by
  intro ls locs hl hS
  obtain ⟨hexec, hb, -, hown, hts, hE, -⟩ := C
  have hK := hE.1
  have hc : vwCl[6]? = some (RX6, TX6, 6) := rfl
  have hap := va_apart (own := own) hts inlX6 tyX6 tyX6_ok nmX6 hK hc
  obtain ⟨r, h1, cell, q1, q2, q3, q4⟩ := hat
  have hr : r = (RX6, TX6, 6) := Option.some.inj (h1.symm.trans hc)
  subst hr
  obtain ⟨hSl, hfc, kC, hkC, hkind⟩ := hK.1 6 _ hc
  obtain ⟨cf, kf, fi, f, hi, hsl⟩ := hSl k hk
  have hlay := hts _ (inlX6 _ (u_in_lay hk))
  unfold u_lay at hlay
  rw [if_neg (by rw [hfin]; decide)] at hlay
  have hst := (u_facts hfc hkC (u_lays hts inlX6 hk) hi).1
  have hsame : s.fieldFound? RX6 (TX6 k).2.1 (TX6 k).2.2.1 = some (cf, kf, fi, f) := by rw [← hs1]; exact hi
  have h6 := u_store hfc hkC hkind hlay hi hd hn hfit
  refine W.putK hexec hb (f := f) ⟨hown, hts _ hlink, ⟨_, _, _, hsame⟩, hst⟩ (by rw [q2]; exact h6) q1 q3 (by rw [hsl]; exact k2_hasslot (q4 k hk)) rfl rfl hdg fun H' e1 e2 e3 => ?_
  rw [hsl] at e1 ⊢
  exact kk H' ⟨_, hc, t_OB.to (V := updV (vp_V fs) k v) ⟨_, e1, q2, q3, t_set q4 hap hk v⟩ (fun j _ => vp_updV_set hlen v j)⟩ e3 e2 ls _ hl (hS.put e2 e3 hAa)
theorem y_put6F (C : Cx g B0 A p s m args meth c cc nL own) {index a : Nat} {fs : List Value} (hat : cA1 g a (.inr (6, fs)) H) (hAa : A a) (k : Nat) (hk : k < 6) (hlink : Cond.fieldLink own index RX6 (TX6 k).2.1 (TX6 k).2.2.1 ∈ wsL_law) (hs1 : (TX6 k).1 = RX6) (hfin : (TX6 k).2.2.2 = true) (hin : meth.name = "<init>") (hdecl : (TX6 k).1 = own) {ty : FieldType} {v : Value} (hd : parseFieldDescriptor (TX6 k).2.2.1 = some ty) (hn : narrow ty v = v) (hfit : fits ty v = true) (hlen : k < fs.length) (hdg : decode cc pc = .ok (.putfield index, 3)) (kk : ∀ H1 : Heap, cA1 g a (.inr (6, fs.set k v)) H1 → (∀ q : Nat, q ≠ a → H1[q]? = H[q]?) → H1.size = H.size → Yx A p l e R s m args below meth c nL cells slots Q lv H1 (pc + 3) rest) : Yx A p l e R s m args below meth c nL cells slots Q lv H pc (v :: .ref a :: rest) := by
  intro ls locs hl hS
  obtain ⟨hexec, hb, -, hown, hts, hE, -⟩ := C
  have hK := hE.1
  have hc : vwCl[6]? = some (RX6, TX6, 6) := rfl
  have hap := va_apart (own := own) hts inlX6 tyX6 tyX6_ok nmX6 hK hc
  obtain ⟨r, h1, cell, q1, q2, q3, q4⟩ := hat
  have hr : r = (RX6, TX6, 6) := Option.some.inj (h1.symm.trans hc)
  subst hr
  obtain ⟨hSl, hfc, kC, hkC, hkind⟩ := hK.1 6 _ hc
  obtain ⟨cf, kf, fi, f, hi, hsl⟩ := hSl k hk
  have hlay := hts _ (inlX6 _ (u_in_lay hk))
  unfold u_lay at hlay
  rw [if_pos hfin] at hlay
  have hst := (u_facts hfc hkC (u_lays hts inlX6 hk) hi).1
  have hsame : s.fieldFound? RX6 (TX6 k).2.1 (TX6 k).2.2.1 = some (cf, kf, fi, f) := by rw [← hs1]; exact hi
  have hcf : m.cls = cf := by
    obtain ⟨_, _, c', _, _, _, -, -, hf', -, -, -, hown2, -⟩ := Cond.laysFinal_spec hlay
    have e1 : c' = cf := by have := hi.symm.trans hf'; simp at this; exact this.1.symm
    rw [hdecl] at hown2
    rw [← e1]; exact Option.some.inj (hown.symm.trans hown2)
  have h6 := u_fits hfc hkC hkind (Or.inr hlay) hi hd hn hfit
  refine W.putFinK hexec hb hown (hts _ hlink) hsame hst hcf hin (by rw [q2]; exact h6) q1 q3 (by rw [hsl]; exact k2_hasslot (q4 k hk)) rfl rfl hdg fun H' e1 e2 e3 => ?_
  rw [hsl] at e1 ⊢
  exact kk H' ⟨_, hc, t_OB.to (V := updV (vp_V fs) k v) ⟨_, e1, q2, q3, t_set q4 hap hk v⟩ (fun j _ => vp_updV_set hlen v j)⟩ e3 e2 ls _ hl (hS.put e2 e3 hAa)
theorem cA1i {g : KG} {cA : ClassId} {q n : Nat} {f : Nat → Int32} {H : Heap} (h : cA1 g q (.inl (cA, n, .inl f)) H) : H[q]? = some (vp_cell cA (n, .inl f)) := h
theorem y_iald (C : Cx g B0 A p s m args meth c cc nL own) {a n : Nat} {f : Nat → Int32} (hat : cA1 g a (.inl (g.2 0, n, .inl f)) H) {i : Int32} (k : Nat) (hi : i = nI k) (hk : k < n) (hn : n < 2 ^ 31) (hdg : decode cc pc = .ok (.iaload, 1)) (kk : Yx A p l e R s m args below meth c nL cells slots Q lv H (pc + 1) (.int (f k) :: rest)) : Yx A p l e R s m args below meth c nL cells slots Q lv H pc (.int i :: .ref a :: rest) := by
  subst hi
  have hz : (nI k).toNatClampNeg = k := nI_clamp (Nat.lt_trans hk hn)
  exact fun ls locs hl hS => va_iald C.1 C.2.1 C.2.2.2.2.2.1.1 (cA1P hat) 0 0 rfl rfl (vp_in_nI hk hn) hdg (by rw [hz]; exact kk ls locs hl hS)
theorem y_fald (C : Cx g B0 A p s m args meth c cc nL own) {a n : Nat} {f : Nat → UInt32} (hat : cA1 g a (.inl (g.2 1, n, .inr (.inr (.inl f)))) H) {i : Int32} (k : Nat) (hi : i = nI k) (hk : k < n) (hn : n < 2 ^ 31) (hdg : decode cc pc = .ok (.faload, 1)) (kk : Yx A p l e R s m args below meth c nL cells slots Q lv H (pc + 1) (.float (f k) :: rest)) : Yx A p l e R s m args below meth c nL cells slots Q lv H pc (.int i :: .ref a :: rest) := by
  subst hi
  have hz : (nI k).toNatClampNeg = k := nI_clamp (Nat.lt_trans hk hn)
  exact fun ls locs hl hS => va_fald C.1 C.2.1 C.2.2.2.2.2.1.1 (cA1P hat) 0 1 rfl rfl (vp_in_nI hk hn) hdg (by rw [hz]; exact kk ls locs hl hS)
theorem y_aald (C : Cx g B0 A p s m args meth c cc nL own) {a n : Nat} {f : Nat → Option Nat} (hat : cA1 g a (.inl (g.2 3, n, .inr (.inr (.inr (.inr f))))) H) {i : Int32} (k : Nat) (hi : i = nI k) (hk : k < n) (hn : n < 2 ^ 31) {v : Value} (hv : va_rf (f k) = v) (hdg : decode cc pc = .ok (.aaload, 1)) (kk : Yx A p l e R s m args below meth c nL cells slots Q lv H (pc + 1) (v :: rest)) : Yx A p l e R s m args below meth c nL cells slots Q lv H pc (.int i :: .ref a :: rest) := by
  subst hi; subst hv
  have hz : (nI k).toNatClampNeg = k := nI_clamp (Nat.lt_trans hk hn)
  exact fun ls locs hl hS => va_aldq C.1 C.2.1 C.2.2.2.2.2.1.1 (cA1P hat) 0 3 rfl rfl (vp_in_nI hk hn) hdg (by rw [hz]; exact kk ls locs hl hS)
theorem y_iast (C : Cx g B0 A p s m args meth c cc nL own) {a n : Nat} {f : Nat → Int32} (hat : cA1 g a (.inl (g.2 0, n, .inl f)) H) (hAa : A a) {i x : Int32} (k : Nat) (hi : i = nI k) (hk : k < n) (hn : n < 2 ^ 31) (hdg : decode cc pc = .ok (.iastore, 1)) (kk : ∀ H1 : Heap, cA1 g a (.inl (g.2 0, n, .inl (upd f k x))) H1 → (∀ q : Nat, q ≠ a → H1[q]? = H[q]?) → H1.size = H.size → Yx A p l e R s m args below meth c nL cells slots Q lv H1 (pc + 1) rest) : Yx A p l e R s m args below meth c nL cells slots Q lv H pc (.int x :: .int i :: .ref a :: rest) := by
  subst hi
  have hz : (nI k).toNatClampNeg = k := nI_clamp (Nat.lt_trans hk hn)
  intro ls locs hl hS
  refine W.iast C.1 C.2.1 (cA1i hat) ((C.2.2.2.2.2.1.1.2 0 _ rfl).1 n (fun j => .int (f j))) (fun q => by cases q) (by show ¬ (nI k < 0 ∨ (arrV _ _ _).slots.size ≤ _); rw [arrV_size]; exact vp_in_nI hk hn) rfl rfl hdg fun H1 e z oq => ?_
  refine kk H1 ?_ oq z ls _ hl (hS.put z oq hAa)
  show H1[a]? = some (vp_cell _ _)
  rw [e, vp_cell_i, vp_cell_i, arrV_store, hz]
  congr 2
  funext q
  by_cases hq : q = k
  · subst hq; simp [updV, upd]
  · simp [updV, upd, hq]
theorem y_fast (C : Cx g B0 A p s m args meth c cc nL own) {a n : Nat} {f : Nat → UInt32} (hat : cA1 g a (.inl (g.2 1, n, .inr (.inr (.inl f)))) H) (hAa : A a) {i : Int32} {x : UInt32} (k : Nat) (hi : i = nI k) (hk : k < n) (hn : n < 2 ^ 31) (hdg : decode cc pc = .ok (.fastore, 1)) (kk : ∀ H1 : Heap, cA1 g a (.inl (g.2 1, n, .inr (.inr (.inl (vf_upd f k x))))) H1 → (∀ q : Nat, q ≠ a → H1[q]? = H[q]?) → H1.size = H.size → Yx A p l e R s m args below meth c nL cells slots Q lv H1 (pc + 1) rest) : Yx A p l e R s m args below meth c nL cells slots Q lv H pc (.float x :: .int i :: .ref a :: rest) := by
  subst hi
  have hz : (nI k).toNatClampNeg = k := nI_clamp (Nat.lt_trans hk hn)
  intro ls locs hl hS
  have hc : H[a]? = some (vp_cell (g.2 1) (n, .inr (.inr (.inl f)))) := hat
  refine W.fast C.1 C.2.1 hc ((C.2.2.2.2.2.1.1.2 1 _ rfl).1 n (fun j => .float (f j))) (fun q => by cases q) (by show ¬ (nI k < 0 ∨ (arrV _ _ _).slots.size ≤ _); rw [arrV_size]; exact vp_in_nI hk hn) rfl rfl hdg fun H1 e z oq => ?_
  refine kk H1 ?_ oq z ls _ hl (hS.put z oq hAa)
  show H1[a]? = some (vp_cell _ _)
  rw [e, vp_cell_f, vp_cell_f, arrV_store, hz]
  congr 2
  funext q
  by_cases hq : q = k
  · subst hq; simp [updV, vf_upd]
  · simp [updV, vf_upd, hq]
theorem stA.get {B0 N : Nat} {nm : String} {f : Nat → Int32} {U : State} {H : Heap} (h : stA B0 nm N f U H) (hAB : ∀ q, A q → B0 ≤ q) : ∃ t : Nat, va_Z "SetRepairs" nm "[I" (.ref t) A U H ∧ va_T .int t N (fun j => .int (f j)) A U H := by
  obtain ⟨t, h1, h2⟩ := h
  exact ⟨t, h1.narrow hAB, h2.narrow hAB⟩
theorem y_sld (C : Cx g B0 A p s m args meth c cc nL own) {t N : Nat} {f : Nat → Int32} (hT : va_T .int t N (fun j => .int (f j)) A s s.heap) {i : Int32} (k : Nat) (hi : i = nI k) (hk : k < N) (hn : N < 2 ^ 31) (hdg : decode cc pc = .ok (.iaload, 1)) (kk : Yx A p l e R s m args below meth c nL cells slots Q lv H (pc + 1) (.int (f k) :: rest)) : Yx A p l e R s m args below meth c nL cells slots Q lv H pc (.int i :: .ref t :: rest) := by
  subst hi
  have hz : (nI k).toNatClampNeg = k := nI_clamp (Nat.lt_trans hk hn)
  exact fun ls locs hl hS => va_ti C.1 C.2.1 hT hS (vp_in_nI hk hn) (by show Value.int (f (nI k).toNatClampNeg) = .int (f k); rw [hz]) hdg (kk ls locs hl hS)
theorem y_gets (C : Cx g B0 A p s m args meth c cc nL own) {nm : String} {t index : Nat} (hZ : va_Z "SetRepairs" nm "[I" (.ref t) A s s.heap) (hlink : Cond.fieldLink own index "SetRepairs" nm "[I" ∈ wsL_law) (hdg : decode cc pc = .ok (.getstatic index, 3)) (kk : Yx A p l e R s m args below meth c nL cells slots Q lv H (pc + 3) (.ref t :: rest)) : Yx A p l e R s m args below meth c nL cells slots Q lv H pc rest :=
  fun ls locs hl hS => va_gets C.1 C.2.1 hZ hS C.2.2.2.1 (C.2.2.2.2.1 _ hlink) (fun _ h => h) hdg (kk ls locs hl hS)
theorem y_getsN (C : Cx g B0 A p s m args meth c cc nL own) {nm : String} {t index : Nat} (hZ : va_Z "SetRepairs" nm "[I" (.ref t) A s s.heap) (hlink : va_Nw (.fieldLinkNest own index "SetRepairs" nm "[I" "SetRepairs") s) (hdg : decode cc pc = .ok (.getstatic index, 3)) (kk : Yx A p l e R s m args below meth c nL cells slots Q lv H (pc + 3) (.ref t :: rest)) : Yx A p l e R s m args below meth c nL cells slots Q lv H pc rest :=
  fun ls locs hl hS => va_getsN C.1 C.2.1 hZ hS C.2.2.2.1 (va_Nw.use rfl hlink) (fun _ h => h) hdg (kk ls locs hl hS)
theorem y_iret (C : Cx g B0 A p s m args meth c cc nL own) {rv : Option Value} {P1 : Heap → Prop} {v : Int32} (hr : meth.sig.returnType = some .int) (hrv : rv = some (.int v)) (hP : P1 H) (hdg : decode cc pc = .ok (.ireturn, 1)) : Yx A p l e R s m args below meth c nL cells slots (MQ below (Qx rv P1 A) args s cells slots A) lv H pc [.int v] := by
  subst hrv
  exact fun ls locs hl hS => W.iret C.1 C.2.1 hr (fun t ht hW => ⟨⟨rfl, by rw [ht]; exact hP⟩, hS.F ht⟩) hS.2.2 hdg C.2.2.2.2.2.2.2
theorem y_zret (C : Cx g B0 A p s m args meth c cc nL own) {rv : Option Value} {P1 : Heap → Prop} {v : Int32} (hr : meth.sig.returnType = some .boolean) (hn : v = 0 ∨ v = 1) (hrv : rv = some (.int v)) (hP : P1 H) (hdg : decode cc pc = .ok (.ireturn, 1)) : Yx A p l e R s m args below meth c nL cells slots (MQ below (Qx rv P1 A) args s cells slots A) lv H pc [.int v] := by
  subst hrv
  exact fun ls locs hl hS => W.zret C.1 C.2.1 hr (by rcases hn with rfl | rfl <;> rfl) (fun t ht hW => ⟨⟨rfl, by rw [ht]; exact hP⟩, hS.F ht⟩) hS.2.2 hdg C.2.2.2.2.2.2.2
theorem y_fret (C : Cx g B0 A p s m args meth c cc nL own) {rv : Option Value} {P1 : Heap → Prop} {v : UInt32} (hr : meth.sig.returnType = some .float) (hrv : rv = some (.float v)) (hP : P1 H) (hdg : decode cc pc = .ok (.freturn, 1)) : Yx A p l e R s m args below meth c nL cells slots (MQ below (Qx rv P1 A) args s cells slots A) lv H pc [.float v] := by
  subst hrv
  exact fun ls locs hl hS => W.fret C.1 C.2.1 hr (fun t ht hW => ⟨⟨rfl, by rw [ht]; exact hP⟩, hS.F ht⟩) hS.2.2 hdg C.2.2.2.2.2.2.2
theorem y_vret (C : Cx g B0 A p s m args meth c cc nL own) {P1 : Heap → Prop} (hr : meth.sig.returnType = none) (hP : P1 H) (hdg : decode cc pc = .ok (.return_, 1)) : Yx A p l e R s m args below meth c nL cells slots (MQ below (Qx none P1 A) args s cells slots A) lv H pc [] := by
  exact fun ls locs hl hS => W.vret C.1 C.2.1 hr (fun t ht hW => ⟨⟨rfl, by rw [ht]; exact hP⟩, hS.F ht⟩) hS.2.2 hdg C.2.2.2.2.2.2.2
theorem preB {A1 : Nat → Prop} {av : List Value} {P : Heap → Prop} : FrameBlind (va_Pc av (fun U => (∀ q, A1 q → B0 ≤ q) ∧ env g B0 U U.heap ∧ P U.heap)) := fun a U f mk q => ⟨q.1, q.2.1, env.same (u := U) (U := U.calling f mk a) rfl q.2.2.1, q.2.2.2⟩
theorem preU {A1 : Nat → Prop} {av : List Value} {P : Heap → Prop} {locs : List Loc} (hE : env g B0 s s.heap) (hAB : ∀ q, A q → B0 ≤ q) (hS : va_S A s.heap H locs) (hA1 : ∀ q, A1 q → A q) (hP : P H) : ∀ U : State, U.heap = H → s.WarmedH U.vm → va_Pc av (fun U => (∀ q, A1 q → B0 ≤ q) ∧ env g B0 U U.heap ∧ P U.heap) av.toArray U := by
  intro U hU hW
  refine ⟨rfl, fun q hq => hAB q (hA1 q hq), ?_, by rw [hU]; exact hP⟩
  rw [hU]
  exact (hE.warm hW).kept (fun q h1 h2 => hS.2.1 q h1 (fun z => Nat.lt_irrefl _ (Nat.lt_of_lt_of_le h2 (hAB q z))))
/-- how a run of a call goes on -/
theorem y_goes {A1 : Nat → Prop} {P1 : Heap → Prop} {rv : Option Value} {mc ms : Nat} {st0 st1 : List Value} {a : Array Value} {ls : Array Slot} {locs : List Loc} (hl : lv_has ls nL lv) (hr : va_Run p l e R s m args below meth c H locs cells slots mc ms (F0 m pc ls st0) rest (Qx rv P1 A1 a) A1) (hS : va_S A s.heap H locs) (hA : ∀ q, A1 q → A q) (hst : rv.toList ++ rest = st1) (kk : ∀ H1 : Heap, P1 H1 → H.size ≤ H1.size → (∀ q : Nat, q < H.size → ¬ A1 q → H1[q]? = H[q]?) → Yx A p l e R s m args below meth c nL (cells + mc) (slots + ms) Q lv H1 (pc + 3) st1) : W p l e R s m args below meth c H locs cells slots Q (F0 m pc ls st0) := by
  subst hst
  intro T hT X
  obtain ⟨v, st₀, t, T', L, h0, X', hL, e1, e2, ⟨⟨hv, hp⟩, hz, hk⟩, st⟩ := hr T hT X
  cases hv
  rw [h0] at hz hk
  obtain ⟨t2, a1, b1⟩ := kk T'.heap (by rw [e1]; exact hp) (by rw [e1]; exact hz) (fun q h1 h2 => by rw [e1]; exact hk q h1 h2) ls (locs ++ L) hl
    ⟨Nat.le_trans hS.1 (by rw [e1]; exact hz), fun q h1 h2 => by rw [e1, hk q (Nat.lt_of_lt_of_le h1 hS.1) (fun z => h2 (hA q z))]; exact hS.2.1 q h1 h2, fun q hq => by
      rcases List.mem_append.mp hq with h | h
      · exact hS.2.2 q h
      · exact hA _ (hL q h)⟩ T' rfl X'
  exact ⟨t2, st t2 a1, b1⟩
theorem y_callV (C : Cx g B0 A p s m args meth c cc nL own) {y : MethodName} {cy : ByteArray} {nY : Nat} {ret : Option FieldType} {rm : Room} {A1 : Nat → Prop} {P P1 : Heap → Prop} {rv : Option Value} {mc ms index : Nat} {st1 : List Value} {b : Nat} (As : List Value) (hM : Mt g B0 l y cy nY ret rm (.ref b :: As) A1 P rv P1 mc ms) (Cn : String) (n : Nat) (hw : ∀ w ∈ wsV own index Cn y (.code y cy nY ret :: wsL_law), w ∈ wsL_law) (hd : y.cls = Cn ∧ y.cls ≠ "java/lang/invoke/MethodHandle" ∧ y.cls ≠ "java/lang/invoke/VarHandle" ∧ (parseMethodDescriptor y.desc).map (fun d => d.parameters.length) = some n) (hR : rm.frames + 1 ≤ R.frames ∧ 8 + (nY + 11) + rm.locals ≤ R.locals) (hrm : rm.cells = mc ∧ rm.slots = ms) (hrc : ∃ cell : Cell, H[b]? = some cell ∧ cell.vm.isStatics = false ∧ s.vm.findClass Cn = some cell.cls) (hP : P H) (hA1 : ∀ q, A1 q → A q) (hn : As.length = n) {st0 : List Value} (hst0 : st0 = As.reverse ++ .ref b :: rest) (hcat : (rest.map fun v => v.category).sum ≤ 8) (hdg : decode cc pc = .ok (.invokevirtual index, 3)) (hroom : cells + mc ≤ R.cells ∧ slots + ms ≤ R.slots) (hst : rv.toList ++ rest = st1) (kk : ∀ H1 : Heap, P1 H1 → H.size ≤ H1.size → (∀ q : Nat, q < H.size → ¬ A1 q → H1[q]? = H[q]?) → Yx A p l e R s m args below meth c nL (cells + mc) (slots + ms) Q lv H1 (pc + 3) st1) : Yx A p l e R s m args below meth c nL cells slots Q lv H pc st0 := by
  subst hst0
  intro ls locs hl hS
  exact y_goes hl (va_runV (C := Cn) (As := As) (rest := rest) ⟨C.1, C.2.1, C.2.2.1, C.2.2.2.1, C.2.2.2.2.1⟩ hM (cwV n C.2.2.2.2.1 (lwG hw) rfl hrm.1 hrm.2 hd hR) ⟨preB, hrc, preU C.2.2.2.2.2.1 C.2.2.2.2.2.2.1 hS hA1 hP⟩ rfl hn hl.1 rfl (lv_room hcat) hdg hroom) hS hA1 hst kk
theorem y_callS (C : Cx g B0 A p s m args meth c cc nL own) {y : MethodName} {cy : ByteArray} {nY : Nat} {ret : Option FieldType} {rm : Room} {A1 : Nat → Prop} {P P1 : Heap → Prop} {rv : Option Value} {mc ms index : Nat} {st1 : List Value} (As : List Value) (hM : Mt g B0 l y cy nY ret rm As A1 P rv P1 mc ms) (n : Nat) (hw : ∀ w ∈ va_wsS own index y (.code y cy nY ret :: wsL_law), w ∈ wsL_law) (hd : y.cls ≠ "java/lang/invoke/MethodHandle" ∧ y.cls ≠ "java/lang/invoke/VarHandle" ∧ (parseMethodDescriptor y.desc).map (fun d => d.parameters.length) = some n) (hR : rm.frames + 1 ≤ R.frames ∧ 8 + (nY + 11) + rm.locals ≤ R.locals) (hrm : rm.cells = mc ∧ rm.slots = ms) (hP : P H) (hA1 : ∀ q, A1 q → A q) (hn : As.length = n) {st0 : List Value} (hst0 : st0 = As.reverse ++ rest) (hcat : (rest.map fun v => v.category).sum ≤ 8) (hdg : decode cc pc = .ok (.invokestatic index, 3)) (hroom : cells + mc ≤ R.cells ∧ slots + ms ≤ R.slots) (hst : rv.toList ++ rest = st1) (kk : ∀ H1 : Heap, P1 H1 → H.size ≤ H1.size → (∀ q : Nat, q < H.size → ¬ A1 q → H1[q]? = H[q]?) → Yx A p l e R s m args below meth c nL (cells + mc) (slots + ms) Q lv H1 (pc + 3) st1) : Yx A p l e R s m args below meth c nL cells slots Q lv H pc st0 := by
  subst hst0
  intro ls locs hl hS
  exact y_goes hl (va_runS (As := As) (rest := rest) ⟨C.1, C.2.1, C.2.2.1, C.2.2.2.1, C.2.2.2.2.1⟩ hM (va_cwS n C.2.2.2.2.1 (lwG hw) rfl hrm.1 hrm.2 hd hR) ⟨preB, preU C.2.2.2.2.2.1 C.2.2.2.2.2.2.1 hS hA1 hP⟩ rfl hn hl.1 rfl (lv_room hcat) hdg hroom) hS hA1 hst kk
theorem y_callI (C : Cx g B0 A p s m args meth c cc nL own) {y : MethodName} {cy : ByteArray} {nY : Nat} {rm : Room} {A1 : Nat → Prop} {P P1 : Heap → Prop} {mc ms index : Nat} {b : Nat} (hM : Mt g B0 l y cy nY none rm [.ref b] A1 P none P1 mc ms) (hw1 : Cond.methodLink own index y ∈ wsL_law) (hw2 : Cond.instanceMethod y ∈ wsL_law) (hw3 : Cond.initialized y.cls ∈ wsL_law) (hw4 : Cond.code y cy nY none ∈ wsL_law) (hy : y.name = "<init>") (hd : y.cls ≠ "java/lang/invoke/MethodHandle" ∧ y.cls ≠ "java/lang/invoke/VarHandle" ∧ (parseMethodDescriptor y.desc).map (fun d => d.parameters.length) = some 0) (hR : rm.frames + 1 ≤ R.frames ∧ 8 + (nY + 11) + rm.locals ≤ R.locals) (hrm : rm.cells = mc ∧ rm.slots = ms) (hP : P H) (hA1 : ∀ q, A1 q → A q) (hcat : (rest.map fun v => v.category).sum ≤ 8) (hdg : decode cc pc = .ok (.invokespecial index, 3)) (hroom : cells + mc ≤ R.cells ∧ slots + ms ≤ R.slots) (kk : ∀ H1 : Heap, P1 H1 → H.size ≤ H1.size → (∀ q : Nat, q < H.size → ¬ A1 q → H1[q]? = H[q]?) → Yx A p l e R s m args below meth c nL (cells + mc) (slots + ms) Q lv H1 (pc + 3) rest) : Yx A p l e R s m args below meth c nL cells slots Q lv H pc (.ref b :: rest) := by
  intro ls locs hl hS
  have hG : ∀ w ∈ (.code y cy nY none :: wsL_law : List Cond), w ∈ wsL_law := fun w h => (List.mem_cons.mp h).elim (fun e => e ▸ hw4) id
  exact y_goes (rest := rest) hl (va_runI (As := []) (rest := rest) ⟨C.1, C.2.1, C.2.2.1, C.2.2.2.1, C.2.2.2.2.1⟩ hM (cwI 0 C.2.2.2.2.1 (lwG hG) rfl hrm.1 hrm.2 (C.2.2.2.2.1 _ hw3) (C.2.2.2.2.1 _ hw1) (C.2.2.2.2.1 _ hw2) hy hd hR) ⟨preB, preU C.2.2.2.2.2.1 C.2.2.2.2.2.2.1 hS hA1 hP⟩ rfl rfl hl.1 rfl (lv_room hcat) hdg hroom) hS hA1 rfl kk
theorem wVin {own Cn : String} {index : Nat} {y : MethodName} {cy : ByteArray} {nY : Nat} {ret : Option FieldType} (h1 : Cond.methodLink own index y ∈ wsL_law) (h2 : Cond.instanceMethod y ∈ wsL_law) (h3 : Cond.selects Cn y y ∈ wsL_law) (h4 : Cond.initialized Cn ∈ wsL_law) (h5 : Cond.code y cy nY ret ∈ wsL_law) : ∀ w ∈ wsV own index Cn y (.code y cy nY ret :: wsL_law), w ∈ wsL_law := by
  intro w hw
  unfold wsV at hw
  simp only [List.cons_append, List.nil_append, List.mem_cons] at hw
  rcases hw with rfl | rfl | rfl | rfl | rfl | hw
  · exact h1
  · exact h2
  · exact h3
  · exact h4
  · exact h5
  · exact hw
theorem wSin {own : String} {index : Nat} {y : MethodName} {cy : ByteArray} {nY : Nat} {ret : Option FieldType} (h1 : Cond.methodLink own index y ∈ wsL_law) (h2 : Cond.static y ∈ wsL_law) (h4 : Cond.initialized y.cls ∈ wsL_law) (h5 : Cond.code y cy nY ret ∈ wsL_law) : ∀ w ∈ va_wsS own index y (.code y cy nY ret :: wsL_law), w ∈ wsL_law := by
  intro w hw
  unfold va_wsS at hw
  simp only [List.cons_append, List.nil_append, List.mem_cons] at hw
  rcases hw with rfl | rfl | rfl | rfl | hw
  · exact h1
  · exact h2
  · exact h4
  · exact h5
  · exact hw
end ROWS2
/-- the receiver of a call -/
theorem rcv {g : KG} {B0 : Nat} {s : State} {H H' : Heap} {a ci : Nat} {r : vw_C} {fs : List Value} (hE : env g B0 s H') (h : cA1 g a (.inr (ci, fs)) H) (hc : vwCl[ci]? = some r) : ∃ cell : Cell, H[a]? = some cell ∧ cell.vm.isStatics = false ∧ s.vm.findClass r.1 = some cell.cls := va_recv hE.1 (cA1P h) hc (q0 := 0) (ci := ci) rfl
/-- the entry of a method -/
theorem Mt_of {g : KG} {B0 : Nat} {l : Launch} {y : MethodName} {cy : ByteArray} {nY : Nat} {ret : Option FieldType} {rm : Room} {av : List Value} {A : Nat → Prop} {P : Heap → Prop} {rv : Option Value} {P1 : Heap → Prop} {mc ms : Nat} (own : String) (hy : plainName y.cls = true) (hown : y.cls = own) (lv0 : List (Nat × Value)) (hlv : lv_args 0 av = lv0) (hlen : (lg_sl av).length ≤ nY)
  (body : ∀ p e s m args below meth c, Cx g B0 A p s m args meth c cy nY own → meth.sig.returnType = ret → (y.name = "<init>" → meth.name = "<init>") → P s.heap → Yx A p l e rm s m args below meth c nY 0 0 (MQ below (Qx rv P1 A) args s mc ms A) lv0 s.heap 0 []) : Mt g B0 l y cy nY ret rm av A P rv P1 mc ms := by
  refine Met.ofW (cc := cy) (maxL := nY) (ret := ret) hy rfl ?_
  intro p e s m args below meth c s₁ B hml hv
  obtain ⟨rfl, hAB, hE, hP⟩ := hv
  have hts := atoms_spec (ws := .code y cy nY ret :: wsL_law) B.pre
  have hown' : s.vm.findClass own = some m.cls := by rw [← hown]; exact findClass_of_methodNamed B.named
  have hn : y.name = "<init>" → meth.name = "<init>" := fun h => by rw [(name_of_methodNamed B.named B.method).1]; exact h
  have hl := lv_entry av (n := nY) hlen
  rw [hlv] at hl
  rw [lg_entry_eq]
  exact body p e s m av.toArray below meth c ⟨B.exec, B.bytes, hml, hown', fun w h => hts w (List.mem_cons_of_mem _ h), hE, hAB, B.notSynchronized⟩ B.returns hn hP _ [] hl va_S.rf
