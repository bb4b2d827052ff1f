/-! THE LAW: prices, cost -/
section ROWS6
variable {g : KG} {B0 : Nat} {A : Nat → Prop} {p : Program} {l : Launch} {e : Env} {R : Room} {s : State} {m : MethodId} {args : Array Value} {below : List Frame} {meth : Method} {c : Code} {cc : ByteArray} {nL : Nat} {own : String} {cells slots : Nat} {Q : State → Prop} {lv lv' : List (Nat × Value)} {H : Heap} {pc : Nat} {rest : List Value}
theorem y_fload (C : Cx g B0 A p s m args meth c cc nL own) {i : Nat} {x : UInt32} (q : Nat) (hdg : decode cc pc = .ok (.fload i, 2)) (hq : lv[q]? = some (i, .float x)) (k : Yx A p l e R s m args below meth c nL cells slots Q lv H (pc + 2) (.float x :: rest)) : Yx A p l e R s m args below meth c nL cells slots Q lv H pc rest :=
  fun ls locs hl hS => lv_fload C.1 C.2.1 hdg (lv_at hl q hq) (k ls locs hl hS)
theorem y_fstore (C : Cx g B0 A p s m args meth c cc nL own) {i : Nat} {x : UInt32} (hdg : decode cc pc = .ok (.fstore i, 2)) (hn : i < nL) (hl' : (i, Value.float x) :: lv.filter (fun q => !(q.1 == i) && !(q.1 + 1 == i && q.2.category == 2)) = lv') (k : Yx A p l e R s m args below meth c nL cells slots Q lv' H (pc + 2) rest) : Yx A p l e R s m args below meth c nL cells slots Q lv H pc (.float x :: rest) :=
  fun ls locs hl hS => lv_fstore C.1 C.2.1 hdg hl hn hl' (fun ls' h' => k ls' locs h' hS)
end ROWS6
theorem sv_t {X : SV} (hv : sv X) {t : DV} (h1 : sf t) (h2 : fr t) : sv (stJ 1 X t) := ⟨hv.1, fun j hj => by
  show sf (va_up X.2.2.2 1 t j) ∧ fr (va_up X.2.2.2 1 t j)
  unfold va_up
  split
  · exact ⟨h1, h2⟩
  · exact hv.2 j hj⟩
theorem stJ_uu (X : SV) (t u : DV) : stJ 1 (stJ 1 X t) u = stJ 1 X u := by
  unfold stJ
  dsimp only
  rw [bx_uu]
def rm_L_prices : Room := { frames := 3, cells := 0, slots := 0, locals := 68 }
set_option maxRecDepth 100000 in
set_option maxHeartbeats 4000000 in
theorem c_L_prices (g : KG) (B0 : Nat) (l : Launch) (b : Nat) (X : SV) (hv : sv X) (f : Nat) (hf0 : f < 5) : Mt g B0 l yL_prices cL_prices 4 (some .int) rm_L_prices [.ref b, .int (nI f)] (iv b 152) (sXt g b X) (some (.int (pop (X.2.2.2 0) f 6))) (sXt g b X) 0 0 := by
  refine Mt_of RL (by decide) rfl [(0, .ref b), (1, .int (nI f))] rfl (Nat.le_of_ble_eq_true rfl) ?_
  intro pr e s m args below meth c C hr hin hd
  obtain ⟨t, ht1, ht2, hX⟩ := hd
  refine y_iconst C (0) dL_prices_0 (by decide) ?_
  refine y_istore_n C dL_prices_1 rfl (by decide) rfl ?_
  refine y_iconst C (0) dL_prices_2 (by decide) ?_
  refine y_istore_n C dL_prices_3 rfl (by decide) rfl ?_
  suffices K : ∀ rem n : Nat, n + rem = 6 → ∀ sum : Int32, sum = pop (X.2.2.2 0) f n → ∀ H : Heap, sXt g b X H → Yx (iv b 152) pr l e rm_L_prices s m args below meth c 4 0 0 (MQ below (Qx (some (.int (pop (X.2.2.2 0) f 6))) (sXt g b X) (iv b 152)) args s 0 0 (iv b 152)) [(3, .int (nI n)), (2, .int sum), (0, .ref b), (1, .int (nI f))] H 4 [] from y_sub [0, 1, 2, 3] (K 6 0 (Nat.zero_add _) _ rfl _ ⟨t, ht1, ht2, hX⟩) rfl
  intro rem
  induction rem with
  | zero =>
    intro n hn sum hs H hd
    obtain ⟨t, ht1, ht2, hX⟩ := hd
    obtain rfl : n = 6 := by omega
    refine y_iload_n C 0 dL_prices_4 rfl rfl ?_
    refine y_bipush C (6) dL_prices_5 (by decide) ?_
    refine y_icmp_ge C 31 dL_prices_7 (by decide) (fun _ => ?_) (fun h => absurd (ge_t rfl rfl (Nat.le_refl 6) (by decide)) h)
    refine y_iload_n C 1 dL_prices_31 rfl rfl ?_
    exact y_iret C hr (by rw [hs]) ⟨t, ht1, ht2, hX⟩ dL_prices_32
  | succ rem ih =>
    intro n hn sum hs H hd
    obtain ⟨t, ht1, ht2, hX⟩ := hd
    have hlt : n < 6 := by omega
    refine y_iload_n C 0 dL_prices_4 rfl rfl ?_
    refine y_bipush C (6) dL_prices_5 (by decide) ?_
    refine y_icmp_ge C 31 dL_prices_7 (by decide) (fun h => absurd h (ge_f rfl rfl hlt (by decide))) (fun _ => ?_)
    refine y_iload_n C 1 dL_prices_10 rfl rfl ?_
    refine y_iload_n C 3 dL_prices_11 rfl rfl ?_
    refine y_iload_n C 0 dL_prices_12 rfl rfl ?_
    refine y_callS C [.int (nI f), .int (nI n)] (c_L_need g B0 l f n hf0 hlt) 2 (wSin q392 q393 q125 q394) hs_L_need ⟨(Nat.le_of_ble_eq_true rfl), (Nat.le_of_ble_eq_true rfl)⟩ ⟨rfl, rfl⟩ trivial nF.no rfl rfl (Nat.le_of_ble_eq_true rfl) dL_prices_13 ⟨(Nat.le_of_ble_eq_true rfl), (Nat.le_of_ble_eq_true rfl)⟩ rfl (fun H hp hz hf => ?_)
    have hX := sys.fr (A1 := nF) hX hf (fun _ _ z => z)
    refine y_aload_n C 2 dL_prices_16 rfl rfl ?_
    refine y_iload_n C 0 dL_prices_17 rfl rfl ?_
    refine y_iconst C (0) dL_prices_18 (by decide) ?_
    refine y_callV C [.int (nI n), .int (0 : Int32)] (c_X6_part_0 g B0 l b (stJ 1 X t) (sv_t hv ht1 ht2) n hlt) RX6 2 (wVin q395 q396 q397 q2 q398) hy_X6_part ⟨(Nat.le_of_ble_eq_true rfl), (Nat.le_of_ble_eq_true rfl)⟩ ⟨rfl, rfl⟩ (rcv C.2.2.2.2.2.1 hX.1 rfl) hX (fun _ h => h) rfl rfl (Nat.le_of_ble_eq_true rfl) dL_prices_19 ⟨(Nat.le_of_ble_eq_true rfl), (Nat.le_of_ble_eq_true rfl)⟩ rfl (fun H hp hz hf => ?_)
    have hX := hp
    refine y_top (show _ = ((X.2.2.2 0).1 4 n) from rfl) ?_
    refine y_imul C dL_prices_22 ?_
    refine y_iadd C dL_prices_23 ?_
    refine y_istore_n C dL_prices_24 rfl (by decide) rfl ?_
    refine y_iinc C 1 (nI (n + 1)) dL_prices_25 rfl (nI_succ _).symm (by decide) rfl ?_
    refine y_goto C 4 dL_prices_28 (by decide) ?_
    exact y_sub [0, 1, 2, 3] (ih (n + 1) (by omega) _ (by rw [pop, hs]) H ⟨t, ht1, ht2, hX⟩) rfl
def rm_L_cost : Room := { frames := 4, cells := 0, slots := 0, locals := 91 }
set_option maxRecDepth 100000 in
set_option maxHeartbeats 4000000 in
theorem c_L_cost (g : KG) (B0 : Nat) (l : Launch) (b : Nat) (X : SV) (hv : sv X) (f : Nat) (hf0 : f < 5) : Mt g B0 l yL_cost cL_cost 3 (some .int) rm_L_cost [.ref b, .int (nI f)] (iv b 152) (sXt g b X) (some (.int (cost (X.2.2.2 0) f))) (sXt g b X) 0 0 := by
  refine Mt_of RL (by decide) rfl [(0, .ref b), (1, .int (nI f))] rfl (Nat.le_of_ble_eq_true rfl) ?_
  intro pr e s m args below meth c C hr hin hd
  obtain ⟨t, ht1, ht2, hX⟩ := hd
  refine y_aload_n C 0 dL_cost_0 rfl rfl ?_
  refine y_iload_n C 1 dL_cost_1 rfl rfl ?_
  refine y_callS C [.ref b, .int (nI f)] (c_L_prices g B0 l b X hv f hf0) 2 (wSin q442 q443 q125 q444) hs_L_prices ⟨(Nat.le_of_ble_eq_true rfl), (Nat.le_of_ble_eq_true rfl)⟩ ⟨rfl, rfl⟩ ⟨t, ht1, ht2, hX⟩ (fun _ h => h) rfl rfl (Nat.le_of_ble_eq_true rfl) dL_cost_2 ⟨(Nat.le_of_ble_eq_true rfl), (Nat.le_of_ble_eq_true rfl)⟩ rfl (fun H hp hz hf => ?_)
  obtain ⟨t, ht1, ht2, hX⟩ := hp
  refine y_i2f C dL_cost_5 ?_
  refine y_aload_n C 0 dL_cost_6 rfl rfl ?_
  refine y_iconst C (0) dL_cost_7 (by decide) ?_
  refine y_callV C [.int (0 : Int32)] (c_X6_rate_0 g B0 l b (stJ 1 X t) (sv_t hv ht1 ht2)) RX6 1 (wVin q445 q446 q447 q2 q448) hy_X6_rate ⟨(Nat.le_of_ble_eq_true rfl), (Nat.le_of_ble_eq_true rfl)⟩ ⟨rfl, rfl⟩ (rcv C.2.2.2.2.2.1 hX.1 rfl) hX (fun _ h => h) rfl rfl (Nat.le_of_ble_eq_true rfl) dL_cost_8 ⟨(Nat.le_of_ble_eq_true rfl), (Nat.le_of_ble_eq_true rfl)⟩ rfl (fun H hp hz hf => ?_)
  have hX := hp
  refine y_fmul C dL_cost_11 (fp_mul (FP.Core.i2f_fin _) ((hv.2 0 (by decide)).2 0 (by decide))) ?_
  refine y_fstore_n C dL_cost_12 rfl (by decide) rfl ?_
  refine y_fload_n C 0 dL_cost_13 rfl rfl ?_
  refine y_iload_n C 2 dL_cost_14 rfl rfl ?_
  refine y_callS C [.int (nI f)] (c_L_hours g B0 l f hf0) 1 (wSin q414 q415 q125 q416) hs_L_hours ⟨(Nat.le_of_ble_eq_true rfl), (Nat.le_of_ble_eq_true rfl)⟩ ⟨rfl, rfl⟩ trivial nF.no rfl rfl (Nat.le_of_ble_eq_true rfl) dL_cost_15 ⟨(Nat.le_of_ble_eq_true rfl), (Nat.le_of_ble_eq_true rfl)⟩ rfl (fun H hp hz hf => ?_)
  have hX := sys.fr (A1 := nF) hX hf (fun _ _ z => z)
  refine y_aload_n C 1 dL_cost_18 rfl rfl ?_
  refine y_iconst C (1) dL_cost_19 (by decide) ?_
  refine y_callV C [.int (1 : Int32)] (c_X6_number g B0 l b (stJ 1 X t) (sv_t hv ht1 ht2) 1 (by decide)) RX6 1 (wVin q431 q432 q433 q2 q434) hy_X6_number ⟨(Nat.le_of_ble_eq_true rfl), (Nat.le_of_ble_eq_true rfl)⟩ ⟨rfl, rfl⟩ (rcv C.2.2.2.2.2.1 hX.1 rfl) hX (fun _ h => h) rfl rfl (Nat.le_of_ble_eq_true rfl) dL_cost_20 ⟨(Nat.le_of_ble_eq_true rfl), (Nat.le_of_ble_eq_true rfl)⟩ rfl (fun H hp hz hf => ?_)
  have hX := hp
  refine y_top (show _ = ((X.2.2.2 0).1 2 1) from rfl) ?_
  refine y_imul C dL_cost_23 ?_
  refine y_i2f C dL_cost_24 ?_
  refine y_fadd C dL_cost_25 (fp_addm (FP.Core.i2f_fin _) ((hv.2 0 (by decide)).2 0 (by decide)) (FP.Core.i2f_fin _)) ?_
  refine y_f2i C dL_cost_26 ?_
  exact y_iret C hr rfl ⟨t, ht1, ht2, hX⟩ dL_cost_27
