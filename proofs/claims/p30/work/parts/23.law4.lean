/-! THE LAW: cell, act -/
theorem y_ishl2 {g : KG} {B0 : Nat} {A : Nat → Prop} {p : Program} {l : Launch} {e : Env} {R : Room} {s : State} {m : MethodId} {args : Array Value} {below : List Frame} {meth : Method} {c : Code} {cc : ByteArray} {nL : Nat} {own : String} {cells slots : Nat} {Q : State → Prop} {lv : List (Nat × Value)} {H : Heap} {pc : Nat} {rest : List Value} (C : Cx g B0 A p s m args meth c cc nL own) {x y : Int32} (z : Int32) (hdg : decode cc pc = .ok (.ishl, 1)) (hz : x <<< (y &&& 31) = z ∨ x <<< y = z) (hz2 : x <<< (y &&& 31) = x <<< y) (k : Yx A p l e R s m args below meth c nL cells slots Q lv H (pc + 1) (.int z :: rest)) : Yx A p l e R s m args below meth c nL cells slots Q lv H pc (.int y :: .int x :: rest) := by
  have e1 : x <<< (y &&& 31) = z := by rcases hz with h | h; exact h; rw [hz2]; exact h
  have e2 : x <<< y = z := by rw [← hz2]; exact e1
  refine fun ls locs hl hS => lv_ishl C.1 C.2.1 hdg ?_
  first
    | (rw [e1]; exact k ls locs hl hS)
    | (rw [e2]; exact k ls locs hl hS)
def cl (L : Nat) (xs : Nat → Int32) (k : Nat) : Int32 := if nI L ≤ nI k then 40503 * nI k + 977 else xs k
def lAct (X : SV) (c : Nat) (a bb : Int32) : Int32 × SV :=
  if c < 3 then aCome X (lw a 5) else if c < 6 then aEst X (lw a 10) else if c < 9 then aAns X (lw a 10) (if nI (lw bb 6) ≤ 0 then 0 else 1) else if c < 12 then aPut X (lw a 6) (1 + lw bb 4) else
  if c < 13 then aOrd X (lw a 6) (1 + lw bb 4) else if c < 14 then aLend X (lw a 10) else if c < 15 then aCol X (lw a 10) else if c < 16 then aSetP X (lw a 6) (1 + lw bb 40000) (1 + lw bb 6) else
  if c < 17 then (if nI (lw a 2) = 0 then aSetN X (lw a 5) (1 + lw bb 24) else aSetR X (1065353216 + lw bb 180 * 2 ^ 16)) else if c < 18 then aUndo X else if c < 19 then (if nI (lw bb 2) = 0 then aKeep X else aRest X) else aPass X (1 + lw bb 5)
def rm_L_cell : Room := { frames := 0, cells := 0, slots := 0, locals := 0 }
set_option maxRecDepth 100000 in
set_option maxHeartbeats 4000000 in
theorem c_L_cell (g : KG) (B0 sb L : Nat) (xs : Nat → Int32) (l : Launch) (hL : L < 2 ^ 31) (k : Nat) (hk31 : k < 2 ^ 31) : MtS g B0 sb L xs l yL_cell cL_cell 2 (some .int) rm_L_cell [.ref sb, .int (nI k)] nF (fun _ => True) (some (.int (cl L xs k))) (fun _ => True) 0 0 := by
  refine MtS_of RL (by decide) rfl [(0, .ref sb), (1, .int (nI k))] rfl (Nat.le_of_ble_eq_true rfl) ?_
  intro pr e s m args below meth c C hr hSc hd
  refine y_iload_n C 1 dL_cell_0 rfl rfl ?_
  refine y_aload_n C 0 dL_cell_1 rfl rfl ?_
  refine y_xlen C hSc dL_cell_2 ?_
  refine y_icmp_ge C 12 dL_cell_3 (by decide) (fun h1 => ?_) (fun h1 => ?_)
  · refine y_ldc C q127 dL_cell_12 ?_
    refine y_iload_n C 1 dL_cell_14 rfl rfl ?_
    refine y_imul C dL_cell_15 ?_
    refine y_sipush C (977) dL_cell_16 (by decide) ?_
    refine y_iadd C dL_cell_19 ?_
    exact y_iret C hr (by first | (rw [cl, if_neg h1]; done) | (rw [cl, if_pos h1]; done) | (rw [cl]; done)) trivial dL_cell_20
  · refine y_aload_n C 0 dL_cell_6 rfl rfl ?_
    refine y_iload_n C 1 dL_cell_7 rfl rfl ?_
    refine y_xld C hSc k rfl (Nat.lt_of_not_le (fun z => h1 (nI_le z hk31))) hL dL_cell_8 ?_
    refine y_goto C 20 dL_cell_9 (by decide) ?_
    exact y_iret C hr (by first | (rw [cl, if_neg h1]; done) | (rw [cl, if_pos h1]; done) | (rw [cl]; done)) trivial dL_cell_20
def rm_L_act : Room := { frames := 7, cells := 0, slots := 0, locals := 160 }
set_option maxRecDepth 100000 in
set_option maxHeartbeats 4000000 in
theorem c_L_act (g : KG) (B0 sb L : Nat) (xs : Nat → Int32) (l : Launch) (hL : L < 2 ^ 31) (b : Nat) (X : SV) (hv : sv X) (k : Nat) (hk31 : k + 2 < 2 ^ 31) : MtS g B0 sb L xs l yL_act cL_act 6 (some .int) rm_L_act [.ref b, .ref sb, .int (nI k)] (iv b 152) (sX g b X) (some (.int (lAct X (lw (cl L xs k) 22) (cl L xs (k + 1)) (cl L xs (k + 2))).1)) (sX g b (lAct X (lw (cl L xs k) 22) (cl L xs (k + 1)) (cl L xs (k + 2))).2) 0 0 := by
  refine MtS_of RL (by decide) rfl [(0, .ref b), (1, .ref sb), (2, .int (nI k))] rfl (Nat.le_of_ble_eq_true rfl) ?_
  intro pr e s m args below meth c C hr hSc hd
  have hX := hd
  refine y_aload_n C 1 dL_act_0 rfl rfl ?_
  refine y_iload_n C 2 dL_act_1 rfl rfl ?_
  refine y_iconst C (1) dL_act_2 (by decide) ?_
  refine y_iadd C dL_act_3 ?_
  refine y_top (nI_1 k) ?_
  refine y_callSS C hSc [.ref sb, .int (nI (k + 1))] (c_L_cell g B0 sb L xs l hL (k + 1) (by omega)) 2 (wSin q123 q124 q125 q126) hs_L_cell ⟨(Nat.le_of_ble_eq_true rfl), (Nat.le_of_ble_eq_true rfl)⟩ ⟨rfl, rfl⟩ trivial nF.no rfl rfl (Nat.le_of_ble_eq_true rfl) dL_act_4 ⟨(Nat.le_of_ble_eq_true rfl), (Nat.le_of_ble_eq_true rfl)⟩ rfl (fun H hp hz hf => ?_)
  have hX := sys.fr (A1 := nF) hX hf (fun _ _ z => z)
  refine y_istore_n C dL_act_7 rfl (by decide) rfl ?_
  refine y_aload_n C 2 dL_act_8 rfl rfl ?_
  refine y_iload_n C 3 dL_act_9 rfl rfl ?_
  refine y_iconst C (2) dL_act_10 (by decide) ?_
  refine y_iadd C dL_act_11 ?_
  refine y_top (nI_add k 2) ?_
  refine y_callSS C hSc [.ref sb, .int (nI (k + 2))] (c_L_cell g B0 sb L xs l hL (k + 2) (by omega)) 2 (wSin q123 q124 q125 q126) hs_L_cell ⟨(Nat.le_of_ble_eq_true rfl), (Nat.le_of_ble_eq_true rfl)⟩ ⟨rfl, rfl⟩ trivial nF.no rfl rfl (Nat.le_of_ble_eq_true rfl) dL_act_12 ⟨(Nat.le_of_ble_eq_true rfl), (Nat.le_of_ble_eq_true rfl)⟩ rfl (fun H hp hz hf => ?_)
  have hX := sys.fr (A1 := nF) hX hf (fun _ _ z => z)
  refine y_istore C dL_act_15 (by decide) rfl ?_
  refine y_iload_n C 1 dL_act_17 rfl rfl ?_
  refine y_bipush C (10) dL_act_18 (by decide) ?_
  refine y_callS C [.int (cl L xs (k + 1)), .int (10 : Int32)] (c_L_low g B0 l (cl L xs (k + 1)) 10 (by decide) (by decide)) 2 (wSin q128 q129 q125 q130) hs_L_low ⟨(Nat.le_of_ble_eq_true rfl), (Nat.le_of_ble_eq_true rfl)⟩ ⟨rfl, rfl⟩ trivial nF.no rfl rfl (Nat.le_of_ble_eq_true rfl) dL_act_20 ⟨(Nat.le_of_ble_eq_true rfl), (Nat.le_of_ble_eq_true rfl)⟩ rfl (fun H hp hz hf => ?_)
  have hX := sys.fr (A1 := nF) hX hf (fun _ _ z => z)
  refine y_istore C dL_act_23 (by decide) rfl ?_
  refine y_aload_n C 4 dL_act_25 rfl rfl ?_
  refine y_iload_n C 5 dL_act_26 rfl rfl ?_
  refine y_callSS C hSc [.ref sb, .int (nI k)] (c_L_cell g B0 sb L xs l hL k (by omega)) 2 (wSin q123 q124 q125 q126) hs_L_cell ⟨(Nat.le_of_ble_eq_true rfl), (Nat.le_of_ble_eq_true rfl)⟩ ⟨rfl, rfl⟩ trivial nF.no rfl rfl (Nat.le_of_ble_eq_true rfl) dL_act_27 ⟨(Nat.le_of_ble_eq_true rfl), (Nat.le_of_ble_eq_true rfl)⟩ rfl (fun H hp hz hf => ?_)
  have hX := sys.fr (A1 := nF) hX hf (fun _ _ z => z)
  refine y_bipush C (22) dL_act_30 (by decide) ?_
  refine y_callS C [.int (cl L xs k), .int (22 : Int32)] (c_L_low g B0 l (cl L xs k) 22 (by decide) (by decide)) 2 (wSin q128 q129 q125 q130) hs_L_low ⟨(Nat.le_of_ble_eq_true rfl), (Nat.le_of_ble_eq_true rfl)⟩ ⟨rfl, rfl⟩ trivial nF.no rfl rfl (Nat.le_of_ble_eq_true rfl) dL_act_32 ⟨(Nat.le_of_ble_eq_true rfl), (Nat.le_of_ble_eq_true rfl)⟩ rfl (fun H hp hz hf => ?_)
  have hX := sys.fr (A1 := nF) hX hf (fun _ _ z => z)
  have hc : (lw (cl L xs k) 22) < 22 := lw_lt (by decide)
  by_cases ec0 : (lw (cl L xs k) 22) = 0
  · refine y_top (congrArg nI ec0) ?_
    refine y_tableIn C 124 dL_act_35 (by decide) (by decide) rfl (by decide) ?_
    refine y_aload_n C 3 dL_act_124 rfl rfl ?_
    refine y_iload_n C 2 dL_act_125 rfl rfl ?_
    refine y_iconst C (5) dL_act_126 (by decide) ?_
    refine y_callS C [.int (cl L xs (k + 1)), .int (5 : Int32)] (c_L_low g B0 l (cl L xs (k + 1)) 5 (by decide) (by decide)) 2 (wSin q128 q129 q125 q130) hs_L_low ⟨(Nat.le_of_ble_eq_true rfl), (Nat.le_of_ble_eq_true rfl)⟩ ⟨rfl, rfl⟩ trivial nF.no rfl rfl (Nat.le_of_ble_eq_true rfl) dL_act_127 ⟨(Nat.le_of_ble_eq_true rfl), (Nat.le_of_ble_eq_true rfl)⟩ rfl (fun H hp hz hf => ?_)
    have hX := sys.fr (A1 := nF) hX hf (fun _ _ z => z)
    refine y_callV C [.int (nI (lw (cl L xs (k + 1)) 5))] (c_X6_come g B0 l b X hv (lw (cl L xs (k + 1)) 5) (lw_lt (by decide))) RX6 1 (wVin q266 q267 q268 q2 q269) hy_X6_come ⟨(Nat.le_of_ble_eq_true rfl), (Nat.le_of_ble_eq_true rfl)⟩ ⟨rfl, rfl⟩ (rcv C.2.2.2.2.2.1 hX.1 rfl) hX (fun _ h => h) rfl rfl (Nat.le_of_ble_eq_true rfl) dL_act_130 ⟨(Nat.le_of_ble_eq_true rfl), (Nat.le_of_ble_eq_true rfl)⟩ rfl (fun H hp hz hf => ?_)
    have hX := hp
    have hres : (lAct X (lw (cl L xs k) 22) (cl L xs (k + 1)) (cl L xs (k + 2))) = aCome X (lw (cl L xs (k + 1)) 5) := (by rw [ec0]; rfl)
    exact y_iret C hr (by rw [hres]) (by rw [hres]; exact hX) dL_act_133
  by_cases ec1 : (lw (cl L xs k) 22) = 1
  · refine y_top (congrArg nI ec1) ?_
    refine y_tableIn C 124 dL_act_35 (by decide) (by decide) rfl (by decide) ?_
    refine y_aload_n C 3 dL_act_124 rfl rfl ?_
    refine y_iload_n C 2 dL_act_125 rfl rfl ?_
    refine y_iconst C (5) dL_act_126 (by decide) ?_
    refine y_callS C [.int (cl L xs (k + 1)), .int (5 : Int32)] (c_L_low g B0 l (cl L xs (k + 1)) 5 (by decide) (by decide)) 2 (wSin q128 q129 q125 q130) hs_L_low ⟨(Nat.le_of_ble_eq_true rfl), (Nat.le_of_ble_eq_true rfl)⟩ ⟨rfl, rfl⟩ trivial nF.no rfl rfl (Nat.le_of_ble_eq_true rfl) dL_act_127 ⟨(Nat.le_of_ble_eq_true rfl), (Nat.le_of_ble_eq_true rfl)⟩ rfl (fun H hp hz hf => ?_)
    have hX := sys.fr (A1 := nF) hX hf (fun _ _ z => z)
    refine y_callV C [.int (nI (lw (cl L xs (k + 1)) 5))] (c_X6_come g B0 l b X hv (lw (cl L xs (k + 1)) 5) (lw_lt (by decide))) RX6 1 (wVin q266 q267 q268 q2 q269) hy_X6_come ⟨(Nat.le_of_ble_eq_true rfl), (Nat.le_of_ble_eq_true rfl)⟩ ⟨rfl, rfl⟩ (rcv C.2.2.2.2.2.1 hX.1 rfl) hX (fun _ h => h) rfl rfl (Nat.le_of_ble_eq_true rfl) dL_act_130 ⟨(Nat.le_of_ble_eq_true rfl), (Nat.le_of_ble_eq_true rfl)⟩ rfl (fun H hp hz hf => ?_)
    have hX := hp
    have hres : (lAct X (lw (cl L xs k) 22) (cl L xs (k + 1)) (cl L xs (k + 2))) = aCome X (lw (cl L xs (k + 1)) 5) := (by rw [ec1]; rfl)
    exact y_iret C hr (by rw [hres]) (by rw [hres]; exact hX) dL_act_133
  by_cases ec2 : (lw (cl L xs k) 22) = 2
  · refine y_top (congrArg nI ec2) ?_
    refine y_tableIn C 124 dL_act_35 (by decide) (by decide) rfl (by decide) ?_
    refine y_aload_n C 3 dL_act_124 rfl rfl ?_
    refine y_iload_n C 2 dL_act_125 rfl rfl ?_
    refine y_iconst C (5) dL_act_126 (by decide) ?_
    refine y_callS C [.int (cl L xs (k + 1)), .int (5 : Int32)] (c_L_low g B0 l (cl L xs (k + 1)) 5 (by decide) (by decide)) 2 (wSin q128 q129 q125 q130) hs_L_low ⟨(Nat.le_of_ble_eq_true rfl), (Nat.le_of_ble_eq_true rfl)⟩ ⟨rfl, rfl⟩ trivial nF.no rfl rfl (Nat.le_of_ble_eq_true rfl) dL_act_127 ⟨(Nat.le_of_ble_eq_true rfl), (Nat.le_of_ble_eq_true rfl)⟩ rfl (fun H hp hz hf => ?_)
    have hX := sys.fr (A1 := nF) hX hf (fun _ _ z => z)
    refine y_callV C [.int (nI (lw (cl L xs (k + 1)) 5))] (c_X6_come g B0 l b X hv (lw (cl L xs (k + 1)) 5) (lw_lt (by decide))) RX6 1 (wVin q266 q267 q268 q2 q269) hy_X6_come ⟨(Nat.le_of_ble_eq_true rfl), (Nat.le_of_ble_eq_true rfl)⟩ ⟨rfl, rfl⟩ (rcv C.2.2.2.2.2.1 hX.1 rfl) hX (fun _ h => h) rfl rfl (Nat.le_of_ble_eq_true rfl) dL_act_130 ⟨(Nat.le_of_ble_eq_true rfl), (Nat.le_of_ble_eq_true rfl)⟩ rfl (fun H hp hz hf => ?_)
    have hX := hp
    have hres : (lAct X (lw (cl L xs k) 22) (cl L xs (k + 1)) (cl L xs (k + 2))) = aCome X (lw (cl L xs (k + 1)) 5) := (by rw [ec2]; rfl)
    exact y_iret C hr (by rw [hres]) (by rw [hres]; exact hX) dL_act_133
  by_cases ec3 : (lw (cl L xs k) 22) = 3
  · refine y_top (congrArg nI ec3) ?_
    refine y_tableIn C 134 dL_act_35 (by decide) (by decide) rfl (by decide) ?_
    refine y_aload_n C 3 dL_act_134 rfl rfl ?_
    refine y_iload C 0 dL_act_135 rfl ?_
    refine y_callV C [.int (nI (lw (cl L xs (k + 1)) 10))] (c_X6_estimate g B0 l b X hv (lw (cl L xs (k + 1)) 10) (Nat.lt_trans (lw_lt (by decide)) (by decide))) RX6 1 (wVin q283 q284 q285 q2 q286) hy_X6_estimate ⟨(Nat.le_of_ble_eq_true rfl), (Nat.le_of_ble_eq_true rfl)⟩ ⟨rfl, rfl⟩ (rcv C.2.2.2.2.2.1 hX.1 rfl) hX (fun _ h => h) rfl rfl (Nat.le_of_ble_eq_true rfl) dL_act_137 ⟨(Nat.le_of_ble_eq_true rfl), (Nat.le_of_ble_eq_true rfl)⟩ rfl (fun H hp hz hf => ?_)
    have hX := hp
    have hres : (lAct X (lw (cl L xs k) 22) (cl L xs (k + 1)) (cl L xs (k + 2))) = aEst X (lw (cl L xs (k + 1)) 10) := (by rw [ec3]; rfl)
    exact y_iret C hr (by rw [hres]) (by rw [hres]; exact hX) dL_act_140
  by_cases ec4 : (lw (cl L xs k) 22) = 4
  · refine y_top (congrArg nI ec4) ?_
    refine y_tableIn C 134 dL_act_35 (by decide) (by decide) rfl (by decide) ?_
    refine y_aload_n C 3 dL_act_134 rfl rfl ?_
    refine y_iload C 0 dL_act_135 rfl ?_
    refine y_callV C [.int (nI (lw (cl L xs (k + 1)) 10))] (c_X6_estimate g B0 l b X hv (lw (cl L xs (k + 1)) 10) (Nat.lt_trans (lw_lt (by decide)) (by decide))) RX6 1 (wVin q283 q284 q285 q2 q286) hy_X6_estimate ⟨(Nat.le_of_ble_eq_true rfl), (Nat.le_of_ble_eq_true rfl)⟩ ⟨rfl, rfl⟩ (rcv C.2.2.2.2.2.1 hX.1 rfl) hX (fun _ h => h) rfl rfl (Nat.le_of_ble_eq_true rfl) dL_act_137 ⟨(Nat.le_of_ble_eq_true rfl), (Nat.le_of_ble_eq_true rfl)⟩ rfl (fun H hp hz hf => ?_)
    have hX := hp
    have hres : (lAct X (lw (cl L xs k) 22) (cl L xs (k + 1)) (cl L xs (k + 2))) = aEst X (lw (cl L xs (k + 1)) 10) := (by rw [ec4]; rfl)
    exact y_iret C hr (by rw [hres]) (by rw [hres]; exact hX) dL_act_140
  by_cases ec5 : (lw (cl L xs k) 22) = 5
  · refine y_top (congrArg nI ec5) ?_
    refine y_tableIn C 134 dL_act_35 (by decide) (by decide) rfl (by decide) ?_
    refine y_aload_n C 3 dL_act_134 rfl rfl ?_
    refine y_iload C 0 dL_act_135 rfl ?_
    refine y_callV C [.int (nI (lw (cl L xs (k + 1)) 10))] (c_X6_estimate g B0 l b X hv (lw (cl L xs (k + 1)) 10) (Nat.lt_trans (lw_lt (by decide)) (by decide))) RX6 1 (wVin q283 q284 q285 q2 q286) hy_X6_estimate ⟨(Nat.le_of_ble_eq_true rfl), (Nat.le_of_ble_eq_true rfl)⟩ ⟨rfl, rfl⟩ (rcv C.2.2.2.2.2.1 hX.1 rfl) hX (fun _ h => h) rfl rfl (Nat.le_of_ble_eq_true rfl) dL_act_137 ⟨(Nat.le_of_ble_eq_true rfl), (Nat.le_of_ble_eq_true rfl)⟩ rfl (fun H hp hz hf => ?_)
    have hX := hp
    have hres : (lAct X (lw (cl L xs k) 22) (cl L xs (k + 1)) (cl L xs (k + 2))) = aEst X (lw (cl L xs (k + 1)) 10) := (by rw [ec5]; rfl)
    exact y_iret C hr (by rw [hres]) (by rw [hres]; exact hX) dL_act_140
  by_cases ec6 : (lw (cl L xs k) 22) = 6
  · refine y_top (congrArg nI ec6) ?_
    refine y_tableIn C 141 dL_act_35 (by decide) (by decide) rfl (by decide) ?_
    refine y_aload_n C 3 dL_act_141 rfl rfl ?_
    refine y_iload C 0 dL_act_142 rfl ?_
    refine y_iload C 1 dL_act_144 rfl ?_
    refine y_bipush C (6) dL_act_146 (by decide) ?_
    refine y_callS C [.int (cl L xs (k + 2)), .int (6 : Int32)] (c_L_low g B0 l (cl L xs (k + 2)) 6 (by decide) (by decide)) 2 (wSin q128 q129 q125 q130) hs_L_low ⟨(Nat.le_of_ble_eq_true rfl), (Nat.le_of_ble_eq_true rfl)⟩ ⟨rfl, rfl⟩ trivial nF.no rfl rfl (Nat.le_of_ble_eq_true rfl) dL_act_148 ⟨(Nat.le_of_ble_eq_true rfl), (Nat.le_of_ble_eq_true rfl)⟩ rfl (fun H hp hz hf => ?_)
    have hX := sys.fr (A1 := nF) hX hf (fun _ _ z => z)
    refine y_if_le C 158 dL_act_151 (by decide) (fun hle => ?_) (fun hle => ?_)
    · refine y_iconst C (0) dL_act_158 (by decide) ?_
      refine y_callV C [.int (nI (lw (cl L xs (k + 1)) 10)), .int (0 : Int32)] (c_X6_answer g B0 l b X hv (lw (cl L xs (k + 1)) 10) (Nat.lt_trans (lw_lt (by decide)) (by decide)) (0 : Int32)) RX6 2 (wVin q290 q291 q292 q2 q293) hy_X6_answer ⟨(Nat.le_of_ble_eq_true rfl), (Nat.le_of_ble_eq_true rfl)⟩ ⟨rfl, rfl⟩ (rcv C.2.2.2.2.2.1 hX.1 rfl) hX (fun _ h => h) rfl rfl (Nat.le_of_ble_eq_true rfl) dL_act_159 ⟨(Nat.le_of_ble_eq_true rfl), (Nat.le_of_ble_eq_true rfl)⟩ rfl (fun H hp hz hf => ?_)
      have hX := hp
      have hres : (lAct X (lw (cl L xs k) 22) (cl L xs (k + 1)) (cl L xs (k + 2))) = aAns X (lw (cl L xs (k + 1)) 10) (0 : Int32) := (by rw [ec6]; exact (show aAns X (lw (cl L xs (k + 1)) 10) (if nI (lw (cl L xs (k + 2)) 6) ≤ 0 then 0 else 1) = aAns X (lw (cl L xs (k + 1)) 10) (0 : Int32) by rw [if_pos hle]))
      exact y_iret C hr (by rw [hres]) (by rw [hres]; exact hX) dL_act_162
    · refine y_iconst C (1) dL_act_154 (by decide) ?_
      refine y_goto C 159 dL_act_155 (by decide) ?_
      refine y_callV C [.int (nI (lw (cl L xs (k + 1)) 10)), .int (1 : Int32)] (c_X6_answer g B0 l b X hv (lw (cl L xs (k + 1)) 10) (Nat.lt_trans (lw_lt (by decide)) (by decide)) (1 : Int32)) RX6 2 (wVin q290 q291 q292 q2 q293) hy_X6_answer ⟨(Nat.le_of_ble_eq_true rfl), (Nat.le_of_ble_eq_true rfl)⟩ ⟨rfl, rfl⟩ (rcv C.2.2.2.2.2.1 hX.1 rfl) hX (fun _ h => h) rfl rfl (Nat.le_of_ble_eq_true rfl) dL_act_159 ⟨(Nat.le_of_ble_eq_true rfl), (Nat.le_of_ble_eq_true rfl)⟩ rfl (fun H hp hz hf => ?_)
      have hX := hp
      have hres : (lAct X (lw (cl L xs k) 22) (cl L xs (k + 1)) (cl L xs (k + 2))) = aAns X (lw (cl L xs (k + 1)) 10) (1 : Int32) := (by rw [ec6]; exact (show aAns X (lw (cl L xs (k + 1)) 10) (if nI (lw (cl L xs (k + 2)) 6) ≤ 0 then 0 else 1) = aAns X (lw (cl L xs (k + 1)) 10) (1 : Int32) by rw [if_neg hle]))
      exact y_iret C hr (by rw [hres]) (by rw [hres]; exact hX) dL_act_162
  by_cases ec7 : (lw (cl L xs k) 22) = 7
  · refine y_top (congrArg nI ec7) ?_
    refine y_tableIn C 141 dL_act_35 (by decide) (by decide) rfl (by decide) ?_
    refine y_aload_n C 3 dL_act_141 rfl rfl ?_
    refine y_iload C 0 dL_act_142 rfl ?_
    refine y_iload C 1 dL_act_144 rfl ?_
    refine y_bipush C (6) dL_act_146 (by decide) ?_
    refine y_callS C [.int (cl L xs (k + 2)), .int (6 : Int32)] (c_L_low g B0 l (cl L xs (k + 2)) 6 (by decide) (by decide)) 2 (wSin q128 q129 q125 q130) hs_L_low ⟨(Nat.le_of_ble_eq_true rfl), (Nat.le_of_ble_eq_true rfl)⟩ ⟨rfl, rfl⟩ trivial nF.no rfl rfl (Nat.le_of_ble_eq_true rfl) dL_act_148 ⟨(Nat.le_of_ble_eq_true rfl), (Nat.le_of_ble_eq_true rfl)⟩ rfl (fun H hp hz hf => ?_)
    have hX := sys.fr (A1 := nF) hX hf (fun _ _ z => z)
    refine y_if_le C 158 dL_act_151 (by decide) (fun hle => ?_) (fun hle => ?_)
    · refine y_iconst C (0) dL_act_158 (by decide) ?_
      refine y_callV C [.int (nI (lw (cl L xs (k + 1)) 10)), .int (0 : Int32)] (c_X6_answer g B0 l b X hv (lw (cl L xs (k + 1)) 10) (Nat.lt_trans (lw_lt (by decide)) (by decide)) (0 : Int32)) RX6 2 (wVin q290 q291 q292 q2 q293) hy_X6_answer ⟨(Nat.le_of_ble_eq_true rfl), (Nat.le_of_ble_eq_true rfl)⟩ ⟨rfl, rfl⟩ (rcv C.2.2.2.2.2.1 hX.1 rfl) hX (fun _ h => h) rfl rfl (Nat.le_of_ble_eq_true rfl) dL_act_159 ⟨(Nat.le_of_ble_eq_true rfl), (Nat.le_of_ble_eq_true rfl)⟩ rfl (fun H hp hz hf => ?_)
      have hX := hp
      have hres : (lAct X (lw (cl L xs k) 22) (cl L xs (k + 1)) (cl L xs (k + 2))) = aAns X (lw (cl L xs (k + 1)) 10) (0 : Int32) := (by rw [ec7]; exact (show aAns X (lw (cl L xs (k + 1)) 10) (if nI (lw (cl L xs (k + 2)) 6) ≤ 0 then 0 else 1) = aAns X (lw (cl L xs (k + 1)) 10) (0 : Int32) by rw [if_pos hle]))
      exact y_iret C hr (by rw [hres]) (by rw [hres]; exact hX) dL_act_162
    · refine y_iconst C (1) dL_act_154 (by decide) ?_
      refine y_goto C 159 dL_act_155 (by decide) ?_
      refine y_callV C [.int (nI (lw (cl L xs (k + 1)) 10)), .int (1 : Int32)] (c_X6_answer g B0 l b X hv (lw (cl L xs (k + 1)) 10) (Nat.lt_trans (lw_lt (by decide)) (by decide)) (1 : Int32)) RX6 2 (wVin q290 q291 q292 q2 q293) hy_X6_answer ⟨(Nat.le_of_ble_eq_true rfl), (Nat.le_of_ble_eq_true rfl)⟩ ⟨rfl, rfl⟩ (rcv C.2.2.2.2.2.1 hX.1 rfl) hX (fun _ h => h) rfl rfl (Nat.le_of_ble_eq_true rfl) dL_act_159 ⟨(Nat.le_of_ble_eq_true rfl), (Nat.le_of_ble_eq_true rfl)⟩ rfl (fun H hp hz hf => ?_)
      have hX := hp
      have hres : (lAct X (lw (cl L xs k) 22) (cl L xs (k + 1)) (cl L xs (k + 2))) = aAns X (lw (cl L xs (k + 1)) 10) (1 : Int32) := (by rw [ec7]; exact (show aAns X (lw (cl L xs (k + 1)) 10) (if nI (lw (cl L xs (k + 2)) 6) ≤ 0 then 0 else 1) = aAns X (lw (cl L xs (k + 1)) 10) (1 : Int32) by rw [if_neg hle]))
      exact y_iret C hr (by rw [hres]) (by rw [hres]; exact hX) dL_act_162
  by_cases ec8 : (lw (cl L xs k) 22) = 8
  · refine y_top (congrArg nI ec8) ?_
    refine y_tableIn C 141 dL_act_35 (by decide) (by decide) rfl (by decide) ?_
    refine y_aload_n C 3 dL_act_141 rfl rfl ?_
    refine y_iload C 0 dL_act_142 rfl ?_
    refine y_iload C 1 dL_act_144 rfl ?_
    refine y_bipush C (6) dL_act_146 (by decide) ?_
    refine y_callS C [.int (cl L xs (k + 2)), .int (6 : Int32)] (c_L_low g B0 l (cl L xs (k + 2)) 6 (by decide) (by decide)) 2 (wSin q128 q129 q125 q130) hs_L_low ⟨(Nat.le_of_ble_eq_true rfl), (Nat.le_of_ble_eq_true rfl)⟩ ⟨rfl, rfl⟩ trivial nF.no rfl rfl (Nat.le_of_ble_eq_true rfl) dL_act_148 ⟨(Nat.le_of_ble_eq_true rfl), (Nat.le_of_ble_eq_true rfl)⟩ rfl (fun H hp hz hf => ?_)
    have hX := sys.fr (A1 := nF) hX hf (fun _ _ z => z)
    refine y_if_le C 158 dL_act_151 (by decide) (fun hle => ?_) (fun hle => ?_)
    · refine y_iconst C (0) dL_act_158 (by decide) ?_
      refine y_callV C [.int (nI (lw (cl L xs (k + 1)) 10)), .int (0 : Int32)] (c_X6_answer g B0 l b X hv (lw (cl L xs (k + 1)) 10) (Nat.lt_trans (lw_lt (by decide)) (by decide)) (0 : Int32)) RX6 2 (wVin q290 q291 q292 q2 q293) hy_X6_answer ⟨(Nat.le_of_ble_eq_true rfl), (Nat.le_of_ble_eq_true rfl)⟩ ⟨rfl, rfl⟩ (rcv C.2.2.2.2.2.1 hX.1 rfl) hX (fun _ h => h) rfl rfl (Nat.le_of_ble_eq_true rfl) dL_act_159 ⟨(Nat.le_of_ble_eq_true rfl), (Nat.le_of_ble_eq_true rfl)⟩ rfl (fun H hp hz hf => ?_)
      have hX := hp
      have hres : (lAct X (lw (cl L xs k) 22) (cl L xs (k + 1)) (cl L xs (k + 2))) = aAns X (lw (cl L xs (k + 1)) 10) (0 : Int32) := (by rw [ec8]; exact (show aAns X (lw (cl L xs (k + 1)) 10) (if nI (lw (cl L xs (k + 2)) 6) ≤ 0 then 0 else 1) = aAns X (lw (cl L xs (k + 1)) 10) (0 : Int32) by rw [if_pos hle]))
      exact y_iret C hr (by rw [hres]) (by rw [hres]; exact hX) dL_act_162
    · refine y_iconst C (1) dL_act_154 (by decide) ?_
      refine y_goto C 159 dL_act_155 (by decide) ?_
      refine y_callV C [.int (nI (lw (cl L xs (k + 1)) 10)), .int (1 : Int32)] (c_X6_answer g B0 l b X hv (lw (cl L xs (k + 1)) 10) (Nat.lt_trans (lw_lt (by decide)) (by decide)) (1 : Int32)) RX6 2 (wVin q290 q291 q292 q2 q293) hy_X6_answer ⟨(Nat.le_of_ble_eq_true rfl), (Nat.le_of_ble_eq_true rfl)⟩ ⟨rfl, rfl⟩ (rcv C.2.2.2.2.2.1 hX.1 rfl) hX (fun _ h => h) rfl rfl (Nat.le_of_ble_eq_true rfl) dL_act_159 ⟨(Nat.le_of_ble_eq_true rfl), (Nat.le_of_ble_eq_true rfl)⟩ rfl (fun H hp hz hf => ?_)
      have hX := hp
      have hres : (lAct X (lw (cl L xs k) 22) (cl L xs (k + 1)) (cl L xs (k + 2))) = aAns X (lw (cl L xs (k + 1)) 10) (1 : Int32) := (by rw [ec8]; exact (show aAns X (lw (cl L xs (k + 1)) 10) (if nI (lw (cl L xs (k + 2)) 6) ≤ 0 then 0 else 1) = aAns X (lw (cl L xs (k + 1)) 10) (1 : Int32) by rw [if_neg hle]))
      exact y_iret C hr (by rw [hres]) (by rw [hres]; exact hX) dL_act_162
  by_cases ec9 : (lw (cl L xs k) 22) = 9
  · refine y_top (congrArg nI ec9) ?_
    refine y_tableIn C 163 dL_act_35 (by decide) (by decide) rfl (by decide) ?_
    refine y_aload_n C 3 dL_act_163 rfl rfl ?_
    refine y_iload_n C 2 dL_act_164 rfl rfl ?_
    refine y_bipush C (6) dL_act_165 (by decide) ?_
    refine y_callS C [.int (cl L xs (k + 1)), .int (6 : Int32)] (c_L_low g B0 l (cl L xs (k + 1)) 6 (by decide) (by decide)) 2 (wSin q128 q129 q125 q130) hs_L_low ⟨(Nat.le_of_ble_eq_true rfl), (Nat.le_of_ble_eq_true rfl)⟩ ⟨rfl, rfl⟩ trivial nF.no rfl rfl (Nat.le_of_ble_eq_true rfl) dL_act_167 ⟨(Nat.le_of_ble_eq_true rfl), (Nat.le_of_ble_eq_true rfl)⟩ rfl (fun H hp hz hf => ?_)
    have hX := sys.fr (A1 := nF) hX hf (fun _ _ z => z)
    refine y_iconst C (1) dL_act_170 (by decide) ?_
    refine y_iload C 1 dL_act_171 rfl ?_
    refine y_iconst C (4) dL_act_173 (by decide) ?_
    refine y_callS C [.int (cl L xs (k + 2)), .int (4 : Int32)] (c_L_low g B0 l (cl L xs (k + 2)) 4 (by decide) (by decide)) 2 (wSin q128 q129 q125 q130) hs_L_low ⟨(Nat.le_of_ble_eq_true rfl), (Nat.le_of_ble_eq_true rfl)⟩ ⟨rfl, rfl⟩ trivial nF.no rfl rfl (Nat.le_of_ble_eq_true rfl) dL_act_174 ⟨(Nat.le_of_ble_eq_true rfl), (Nat.le_of_ble_eq_true rfl)⟩ rfl (fun H hp hz hf => ?_)
    have hX := sys.fr (A1 := nF) hX hf (fun _ _ z => z)
    refine y_iadd C dL_act_177 ?_
    refine y_top (nI_add 1 (lw (cl L xs (k + 2)) 4)) ?_
    refine y_callV C [.int (nI (lw (cl L xs (k + 1)) 6)), .int (nI (1 + (lw (cl L xs (k + 2)) 4)))] (c_X6_put g B0 l b X hv (lw (cl L xs (k + 1)) 6) (1 + (lw (cl L xs (k + 2)) 4)) (lw_lt (by decide)) (Nat.le_add_right 1 _) (by have := (lw_lt (v := (cl L xs (k + 2))) (n := 4) (by decide)); omega)) RX6 2 (wVin q298 q299 q300 q2 q301) hy_X6_put ⟨(Nat.le_of_ble_eq_true rfl), (Nat.le_of_ble_eq_true rfl)⟩ ⟨rfl, rfl⟩ (rcv C.2.2.2.2.2.1 hX.1 rfl) hX (fun _ h => h) rfl rfl (Nat.le_of_ble_eq_true rfl) dL_act_178 ⟨(Nat.le_of_ble_eq_true rfl), (Nat.le_of_ble_eq_true rfl)⟩ rfl (fun H hp hz hf => ?_)
    have hX := hp
    have hres : (lAct X (lw (cl L xs k) 22) (cl L xs (k + 1)) (cl L xs (k + 2))) = aPut X (lw (cl L xs (k + 1)) 6) (1 + (lw (cl L xs (k + 2)) 4)) := (by rw [ec9]; rfl)
    exact y_iret C hr (by rw [hres]) (by rw [hres]; exact hX) dL_act_181
  by_cases ec10 : (lw (cl L xs k) 22) = 10
  · refine y_top (congrArg nI ec10) ?_
    refine y_tableIn C 163 dL_act_35 (by decide) (by decide) rfl (by decide) ?_
    refine y_aload_n C 3 dL_act_163 rfl rfl ?_
    refine y_iload_n C 2 dL_act_164 rfl rfl ?_
    refine y_bipush C (6) dL_act_165 (by decide) ?_
    refine y_callS C [.int (cl L xs (k + 1)), .int (6 : Int32)] (c_L_low g B0 l (cl L xs (k + 1)) 6 (by decide) (by decide)) 2 (wSin q128 q129 q125 q130) hs_L_low ⟨(Nat.le_of_ble_eq_true rfl), (Nat.le_of_ble_eq_true rfl)⟩ ⟨rfl, rfl⟩ trivial nF.no rfl rfl (Nat.le_of_ble_eq_true rfl) dL_act_167 ⟨(Nat.le_of_ble_eq_true rfl), (Nat.le_of_ble_eq_true rfl)⟩ rfl (fun H hp hz hf => ?_)
    have hX := sys.fr (A1 := nF) hX hf (fun _ _ z => z)
    refine y_iconst C (1) dL_act_170 (by decide) ?_
    refine y_iload C 1 dL_act_171 rfl ?_
    refine y_iconst C (4) dL_act_173 (by decide) ?_
    refine y_callS C [.int (cl L xs (k + 2)), .int (4 : Int32)] (c_L_low g B0 l (cl L xs (k + 2)) 4 (by decide) (by decide)) 2 (wSin q128 q129 q125 q130) hs_L_low ⟨(Nat.le_of_ble_eq_true rfl), (Nat.le_of_ble_eq_true rfl)⟩ ⟨rfl, rfl⟩ trivial nF.no rfl rfl (Nat.le_of_ble_eq_true rfl) dL_act_174 ⟨(Nat.le_of_ble_eq_true rfl), (Nat.le_of_ble_eq_true rfl)⟩ rfl (fun H hp hz hf => ?_)
    have hX := sys.fr (A1 := nF) hX hf (fun _ _ z => z)
    refine y_iadd C dL_act_177 ?_
    refine y_top (nI_add 1 (lw (cl L xs (k + 2)) 4)) ?_
    refine y_callV C [.int (nI (lw (cl L xs (k + 1)) 6)), .int (nI (1 + (lw (cl L xs (k + 2)) 4)))] (c_X6_put g B0 l b X hv (lw (cl L xs (k + 1)) 6) (1 + (lw (cl L xs (k + 2)) 4)) (lw_lt (by decide)) (Nat.le_add_right 1 _) (by have := (lw_lt (v := (cl L xs (k + 2))) (n := 4) (by decide)); omega)) RX6 2 (wVin q298 q299 q300 q2 q301) hy_X6_put ⟨(Nat.le_of_ble_eq_true rfl), (Nat.le_of_ble_eq_true rfl)⟩ ⟨rfl, rfl⟩ (rcv C.2.2.2.2.2.1 hX.1 rfl) hX (fun _ h => h) rfl rfl (Nat.le_of_ble_eq_true rfl) dL_act_178 ⟨(Nat.le_of_ble_eq_true rfl), (Nat.le_of_ble_eq_true rfl)⟩ rfl (fun H hp hz hf => ?_)
    have hX := hp
    have hres : (lAct X (lw (cl L xs k) 22) (cl L xs (k + 1)) (cl L xs (k + 2))) = aPut X (lw (cl L xs (k + 1)) 6) (1 + (lw (cl L xs (k + 2)) 4)) := (by rw [ec10]; rfl)
    exact y_iret C hr (by rw [hres]) (by rw [hres]; exact hX) dL_act_181
  by_cases ec11 : (lw (cl L xs k) 22) = 11
  · refine y_top (congrArg nI ec11) ?_
    refine y_tableIn C 163 dL_act_35 (by decide) (by decide) rfl (by decide) ?_
    refine y_aload_n C 3 dL_act_163 rfl rfl ?_
    refine y_iload_n C 2 dL_act_164 rfl rfl ?_
    refine y_bipush C (6) dL_act_165 (by decide) ?_
    refine y_callS C [.int (cl L xs (k + 1)), .int (6 : Int32)] (c_L_low g B0 l (cl L xs (k + 1)) 6 (by decide) (by decide)) 2 (wSin q128 q129 q125 q130) hs_L_low ⟨(Nat.le_of_ble_eq_true rfl), (Nat.le_of_ble_eq_true rfl)⟩ ⟨rfl, rfl⟩ trivial nF.no rfl rfl (Nat.le_of_ble_eq_true rfl) dL_act_167 ⟨(Nat.le_of_ble_eq_true rfl), (Nat.le_of_ble_eq_true rfl)⟩ rfl (fun H hp hz hf => ?_)
    have hX := sys.fr (A1 := nF) hX hf (fun _ _ z => z)
    refine y_iconst C (1) dL_act_170 (by decide) ?_
    refine y_iload C 1 dL_act_171 rfl ?_
    refine y_iconst C (4) dL_act_173 (by decide) ?_
    refine y_callS C [.int (cl L xs (k + 2)), .int (4 : Int32)] (c_L_low g B0 l (cl L xs (k + 2)) 4 (by decide) (by decide)) 2 (wSin q128 q129 q125 q130) hs_L_low ⟨(Nat.le_of_ble_eq_true rfl), (Nat.le_of_ble_eq_true rfl)⟩ ⟨rfl, rfl⟩ trivial nF.no rfl rfl (Nat.le_of_ble_eq_true rfl) dL_act_174 ⟨(Nat.le_of_ble_eq_true rfl), (Nat.le_of_ble_eq_true rfl)⟩ rfl (fun H hp hz hf => ?_)
    have hX := sys.fr (A1 := nF) hX hf (fun _ _ z => z)
    refine y_iadd C dL_act_177 ?_
    refine y_top (nI_add 1 (lw (cl L xs (k + 2)) 4)) ?_
    refine y_callV C [.int (nI (lw (cl L xs (k + 1)) 6)), .int (nI (1 + (lw (cl L xs (k + 2)) 4)))] (c_X6_put g B0 l b X hv (lw (cl L xs (k + 1)) 6) (1 + (lw (cl L xs (k + 2)) 4)) (lw_lt (by decide)) (Nat.le_add_right 1 _) (by have := (lw_lt (v := (cl L xs (k + 2))) (n := 4) (by decide)); omega)) RX6 2 (wVin q298 q299 q300 q2 q301) hy_X6_put ⟨(Nat.le_of_ble_eq_true rfl), (Nat.le_of_ble_eq_true rfl)⟩ ⟨rfl, rfl⟩ (rcv C.2.2.2.2.2.1 hX.1 rfl) hX (fun _ h => h) rfl rfl (Nat.le_of_ble_eq_true rfl) dL_act_178 ⟨(Nat.le_of_ble_eq_true rfl), (Nat.le_of_ble_eq_true rfl)⟩ rfl (fun H hp hz hf => ?_)
    have hX := hp
    have hres : (lAct X (lw (cl L xs k) 22) (cl L xs (k + 1)) (cl L xs (k + 2))) = aPut X (lw (cl L xs (k + 1)) 6) (1 + (lw (cl L xs (k + 2)) 4)) := (by rw [ec11]; rfl)
    exact y_iret C hr (by rw [hres]) (by rw [hres]; exact hX) dL_act_181
  by_cases ec12 : (lw (cl L xs k) 22) = 12
  · refine y_top (congrArg nI ec12) ?_
    refine y_tableIn C 182 dL_act_35 (by decide) (by decide) rfl (by decide) ?_
    refine y_aload_n C 3 dL_act_182 rfl rfl ?_
    refine y_iload_n C 2 dL_act_183 rfl rfl ?_
    refine y_bipush C (6) dL_act_184 (by decide) ?_
    refine y_callS C [.int (cl L xs (k + 1)), .int (6 : Int32)] (c_L_low g B0 l (cl L xs (k + 1)) 6 (by decide) (by decide)) 2 (wSin q128 q129 q125 q130) hs_L_low ⟨(Nat.le_of_ble_eq_true rfl), (Nat.le_of_ble_eq_true rfl)⟩ ⟨rfl, rfl⟩ trivial nF.no rfl rfl (Nat.le_of_ble_eq_true rfl) dL_act_186 ⟨(Nat.le_of_ble_eq_true rfl), (Nat.le_of_ble_eq_true rfl)⟩ rfl (fun H hp hz hf => ?_)
    have hX := sys.fr (A1 := nF) hX hf (fun _ _ z => z)
    refine y_iconst C (1) dL_act_189 (by decide) ?_
    refine y_iload C 1 dL_act_190 rfl ?_
    refine y_iconst C (4) dL_act_192 (by decide) ?_
    refine y_callS C [.int (cl L xs (k + 2)), .int (4 : Int32)] (c_L_low g B0 l (cl L xs (k + 2)) 4 (by decide) (by decide)) 2 (wSin q128 q129 q125 q130) hs_L_low ⟨(Nat.le_of_ble_eq_true rfl), (Nat.le_of_ble_eq_true rfl)⟩ ⟨rfl, rfl⟩ trivial nF.no rfl rfl (Nat.le_of_ble_eq_true rfl) dL_act_193 ⟨(Nat.le_of_ble_eq_true rfl), (Nat.le_of_ble_eq_true rfl)⟩ rfl (fun H hp hz hf => ?_)
    have hX := sys.fr (A1 := nF) hX hf (fun _ _ z => z)
    refine y_iadd C dL_act_196 ?_
    refine y_top (nI_add 1 (lw (cl L xs (k + 2)) 4)) ?_
    refine y_callV C [.int (nI (lw (cl L xs (k + 1)) 6)), .int (nI (1 + (lw (cl L xs (k + 2)) 4)))] (c_X6_order g B0 l b X hv (lw (cl L xs (k + 1)) 6) (1 + (lw (cl L xs (k + 2)) 4)) (lw_lt (by decide)) (Nat.le_add_right 1 _) (by have := (lw_lt (v := (cl L xs (k + 2))) (n := 4) (by decide)); omega)) RX6 2 (wVin q304 q305 q306 q2 q307) hy_X6_order ⟨(Nat.le_of_ble_eq_true rfl), (Nat.le_of_ble_eq_true rfl)⟩ ⟨rfl, rfl⟩ (rcv C.2.2.2.2.2.1 hX.1 rfl) hX (fun _ h => h) rfl rfl (Nat.le_of_ble_eq_true rfl) dL_act_197 ⟨(Nat.le_of_ble_eq_true rfl), (Nat.le_of_ble_eq_true rfl)⟩ rfl (fun H hp hz hf => ?_)
    have hX := hp
    have hres : (lAct X (lw (cl L xs k) 22) (cl L xs (k + 1)) (cl L xs (k + 2))) = aOrd X (lw (cl L xs (k + 1)) 6) (1 + (lw (cl L xs (k + 2)) 4)) := (by rw [ec12]; rfl)
    exact y_iret C hr (by rw [hres]) (by rw [hres]; exact hX) dL_act_200
  by_cases ec13 : (lw (cl L xs k) 22) = 13
  · refine y_top (congrArg nI ec13) ?_
    refine y_tableIn C 201 dL_act_35 (by decide) (by decide) rfl (by decide) ?_
    refine y_aload_n C 3 dL_act_201 rfl rfl ?_
    refine y_iload C 0 dL_act_202 rfl ?_
    refine y_callV C [.int (nI (lw (cl L xs (k + 1)) 10))] (c_X6_lend g B0 l b X hv (lw (cl L xs (k + 1)) 10) (Nat.lt_trans (lw_lt (by decide)) (by decide))) RX6 1 (wVin q313 q314 q315 q2 q316) hy_X6_lend ⟨(Nat.le_of_ble_eq_true rfl), (Nat.le_of_ble_eq_true rfl)⟩ ⟨rfl, rfl⟩ (rcv C.2.2.2.2.2.1 hX.1 rfl) hX (fun _ h => h) rfl rfl (Nat.le_of_ble_eq_true rfl) dL_act_204 ⟨(Nat.le_of_ble_eq_true rfl), (Nat.le_of_ble_eq_true rfl)⟩ rfl (fun H hp hz hf => ?_)
    have hX := hp
    have hres : (lAct X (lw (cl L xs k) 22) (cl L xs (k + 1)) (cl L xs (k + 2))) = aLend X (lw (cl L xs (k + 1)) 10) := (by rw [ec13]; rfl)
    exact y_iret C hr (by rw [hres]) (by rw [hres]; exact hX) dL_act_207
  by_cases ec14 : (lw (cl L xs k) 22) = 14
  · refine y_top (congrArg nI ec14) ?_
    refine y_tableIn C 208 dL_act_35 (by decide) (by decide) rfl (by decide) ?_
    refine y_aload_n C 3 dL_act_208 rfl rfl ?_
    refine y_iload C 0 dL_act_209 rfl ?_
    refine y_callV C [.int (nI (lw (cl L xs (k + 1)) 10))] (c_X6_collect g B0 l b X hv (lw (cl L xs (k + 1)) 10) (Nat.lt_trans (lw_lt (by decide)) (by decide))) RX6 1 (wVin q318 q319 q320 q2 q321) hy_X6_collect ⟨(Nat.le_of_ble_eq_true rfl), (Nat.le_of_ble_eq_true rfl)⟩ ⟨rfl, rfl⟩ (rcv C.2.2.2.2.2.1 hX.1 rfl) hX (fun _ h => h) rfl rfl (Nat.le_of_ble_eq_true rfl) dL_act_211 ⟨(Nat.le_of_ble_eq_true rfl), (Nat.le_of_ble_eq_true rfl)⟩ rfl (fun H hp hz hf => ?_)
    have hX := hp
    have hres : (lAct X (lw (cl L xs k) 22) (cl L xs (k + 1)) (cl L xs (k + 2))) = aCol X (lw (cl L xs (k + 1)) 10) := (by rw [ec14]; rfl)
    exact y_iret C hr (by rw [hres]) (by rw [hres]; exact hX) dL_act_214
  by_cases ec15 : (lw (cl L xs k) 22) = 15
  · refine y_top (congrArg nI ec15) ?_
    refine y_tableIn C 215 dL_act_35 (by decide) (by decide) rfl (by decide) ?_
    refine y_aload_n C 3 dL_act_215 rfl rfl ?_
    refine y_iload_n C 2 dL_act_216 rfl rfl ?_
    refine y_bipush C (6) dL_act_217 (by decide) ?_
    refine y_callS C [.int (cl L xs (k + 1)), .int (6 : Int32)] (c_L_low g B0 l (cl L xs (k + 1)) 6 (by decide) (by decide)) 2 (wSin q128 q129 q125 q130) hs_L_low ⟨(Nat.le_of_ble_eq_true rfl), (Nat.le_of_ble_eq_true rfl)⟩ ⟨rfl, rfl⟩ trivial nF.no rfl rfl (Nat.le_of_ble_eq_true rfl) dL_act_219 ⟨(Nat.le_of_ble_eq_true rfl), (Nat.le_of_ble_eq_true rfl)⟩ rfl (fun H hp hz hf => ?_)
    have hX := sys.fr (A1 := nF) hX hf (fun _ _ z => z)
    refine y_iconst C (1) dL_act_222 (by decide) ?_
    refine y_iload C 1 dL_act_223 rfl ?_
    refine y_ldc C q264 dL_act_225 ?_
    refine y_callS C [.int (cl L xs (k + 2)), .int (40000 : Int32)] (c_L_low g B0 l (cl L xs (k + 2)) 40000 (by decide) (by decide)) 2 (wSin q128 q129 q125 q130) hs_L_low ⟨(Nat.le_of_ble_eq_true rfl), (Nat.le_of_ble_eq_true rfl)⟩ ⟨rfl, rfl⟩ trivial nF.no rfl rfl (Nat.le_of_ble_eq_true rfl) dL_act_227 ⟨(Nat.le_of_ble_eq_true rfl), (Nat.le_of_ble_eq_true rfl)⟩ rfl (fun H hp hz hf => ?_)
    have hX := sys.fr (A1 := nF) hX hf (fun _ _ z => z)
    refine y_iadd C dL_act_230 ?_
    refine y_top (nI_add 1 (lw (cl L xs (k + 2)) 40000)) ?_
    refine y_iconst C (1) dL_act_231 (by decide) ?_
    refine y_iload C 1 dL_act_232 rfl ?_
    refine y_bipush C (6) dL_act_234 (by decide) ?_
    refine y_callS C [.int (cl L xs (k + 2)), .int (6 : Int32)] (c_L_low g B0 l (cl L xs (k + 2)) 6 (by decide) (by decide)) 2 (wSin q128 q129 q125 q130) hs_L_low ⟨(Nat.le_of_ble_eq_true rfl), (Nat.le_of_ble_eq_true rfl)⟩ ⟨rfl, rfl⟩ trivial nF.no rfl rfl (Nat.le_of_ble_eq_true rfl) dL_act_236 ⟨(Nat.le_of_ble_eq_true rfl), (Nat.le_of_ble_eq_true rfl)⟩ rfl (fun H hp hz hf => ?_)
    have hX := sys.fr (A1 := nF) hX hf (fun _ _ z => z)
    refine y_iadd C dL_act_239 ?_
    refine y_top (nI_add 1 (lw (cl L xs (k + 2)) 6)) ?_
    refine y_callV C [.int (nI (lw (cl L xs (k + 1)) 6)), .int (nI (1 + (lw (cl L xs (k + 2)) 40000))), .int (nI (1 + (lw (cl L xs (k + 2)) 6)))] (c_X6_setPart g B0 l b X hv (lw (cl L xs (k + 1)) 6) (1 + (lw (cl L xs (k + 2)) 40000)) (1 + (lw (cl L xs (k + 2)) 6)) (lw_lt (by decide)) (Nat.le_add_right 1 _) (by have := (lw_lt (v := (cl L xs (k + 2))) (n := 40000) (by decide)); omega) (Nat.le_add_right 1 _) (by have := (lw_lt (v := (cl L xs (k + 2))) (n := 6) (by decide)); omega)) RX6 3 (wVin q333 q334 q335 q2 q336) hy_X6_setPart ⟨(Nat.le_of_ble_eq_true rfl), (Nat.le_of_ble_eq_true rfl)⟩ ⟨rfl, rfl⟩ (rcv C.2.2.2.2.2.1 hX.1 rfl) hX (fun _ h => h) rfl rfl (Nat.le_of_ble_eq_true rfl) dL_act_240 ⟨(Nat.le_of_ble_eq_true rfl), (Nat.le_of_ble_eq_true rfl)⟩ rfl (fun H hp hz hf => ?_)
    have hX := hp
    have hres : (lAct X (lw (cl L xs k) 22) (cl L xs (k + 1)) (cl L xs (k + 2))) = aSetP X (lw (cl L xs (k + 1)) 6) (1 + (lw (cl L xs (k + 2)) 40000)) (1 + (lw (cl L xs (k + 2)) 6)) := (by rw [ec15]; rfl)
    exact y_iret C hr (by rw [hres]) (by rw [hres]; exact hX) dL_act_243
  by_cases ec16 : (lw (cl L xs k) 22) = 16
  · refine y_top (congrArg nI ec16) ?_
    refine y_tableIn C 244 dL_act_35 (by decide) (by decide) rfl (by decide) ?_
    refine y_iload_n C 2 dL_act_244 rfl rfl ?_
    refine y_iconst C (2) dL_act_245 (by decide) ?_
    refine y_callS C [.int (cl L xs (k + 1)), .int (2 : Int32)] (c_L_low g B0 l (cl L xs (k + 1)) 2 (by decide) (by decide)) 2 (wSin q128 q129 q125 q130) hs_L_low ⟨(Nat.le_of_ble_eq_true rfl), (Nat.le_of_ble_eq_true rfl)⟩ ⟨rfl, rfl⟩ trivial nF.no rfl rfl (Nat.le_of_ble_eq_true rfl) dL_act_246 ⟨(Nat.le_of_ble_eq_true rfl), (Nat.le_of_ble_eq_true rfl)⟩ rfl (fun H hp hz hf => ?_)
    have hX := sys.fr (A1 := nF) hX hf (fun _ _ z => z)
    refine y_if_ne C 273 dL_act_249 (by decide) (fun hne => ?_) (fun hne => ?_)
    · refine y_aload_n C 3 dL_act_273 rfl rfl ?_
      refine y_iload_n C 2 dL_act_274 rfl rfl ?_
      refine y_iconst C (2) dL_act_275 (by decide) ?_
      refine y_callS C [.int (cl L xs (k + 1)), .int (2 : Int32)] (c_L_low g B0 l (cl L xs (k + 1)) 2 (by decide) (by decide)) 2 (wSin q128 q129 q125 q130) hs_L_low ⟨(Nat.le_of_ble_eq_true rfl), (Nat.le_of_ble_eq_true rfl)⟩ ⟨rfl, rfl⟩ trivial nF.no rfl rfl (Nat.le_of_ble_eq_true rfl) dL_act_276 ⟨(Nat.le_of_ble_eq_true rfl), (Nat.le_of_ble_eq_true rfl)⟩ rfl (fun H hp hz hf => ?_)
      have hX := sys.fr (A1 := nF) hX hf (fun _ _ z => z)
      have e1 : lw (cl L xs (k + 1)) 2 = 1 := by have h2 := (lw_lt (v := (cl L xs (k + 1))) (n := 2) (by decide)); have h3 : lw (cl L xs (k + 1)) 2 ≠ 0 := fun z => hne (by rw [z]; rfl); omega
      refine y_top (congrArg nI e1) ?_
      refine y_ldc C q265 dL_act_279 ?_
      refine y_iload C 1 dL_act_281 rfl ?_
      refine y_sipush C (180) dL_act_283 (by decide) ?_
      refine y_callS C [.int (cl L xs (k + 2)), .int (180 : Int32)] (c_L_low g B0 l (cl L xs (k + 2)) 180 (by decide) (by decide)) 2 (wSin q128 q129 q125 q130) hs_L_low ⟨(Nat.le_of_ble_eq_true rfl), (Nat.le_of_ble_eq_true rfl)⟩ ⟨rfl, rfl⟩ trivial nF.no rfl rfl (Nat.le_of_ble_eq_true rfl) dL_act_286 ⟨(Nat.le_of_ble_eq_true rfl), (Nat.le_of_ble_eq_true rfl)⟩ rfl (fun H hp hz hf => ?_)
      have hX := sys.fr (A1 := nF) hX hf (fun _ _ z => z)
      refine y_bipush C (16) dL_act_289 (by decide) ?_
      refine y_ishl2 C (nI ((lw (cl L xs (k + 2)) 180) * 2 ^ 16)) dL_act_291 (Or.inr (pk_shlN 16 16 (by decide) (by have := lw_lt (v := (cl L xs (k + 2))) (n := 180) (by decide); omega))) rfl ?_
      refine y_iadd C dL_act_292 ?_
      refine y_top (nI_add 1065353216 ((lw (cl L xs (k + 2)) 180) * 2 ^ 16)) ?_
      refine y_callV C [.int (nI 1), .int (nI (1065353216 + ((lw (cl L xs (k + 2)) 180) * 2 ^ 16)))] (c_X6_setRate g B0 l b X hv (1065353216 + ((lw (cl L xs (k + 2)) 180) * 2 ^ 16)) (Nat.le_add_right _ _) (by have := (lw_lt (v := (cl L xs (k + 2))) (n := 180) (by decide)); omega)) RX6 2 (wVin q347 q348 q349 q2 q350) hy_X6_setRate ⟨(Nat.le_of_ble_eq_true rfl), (Nat.le_of_ble_eq_true rfl)⟩ ⟨rfl, rfl⟩ (rcv C.2.2.2.2.2.1 hX.1 rfl) hX (fun _ h => h) rfl rfl (Nat.le_of_ble_eq_true rfl) dL_act_293 ⟨(Nat.le_of_ble_eq_true rfl), (Nat.le_of_ble_eq_true rfl)⟩ rfl (fun H hp hz hf => ?_)
      have hX := hp
      have hres : (lAct X (lw (cl L xs k) 22) (cl L xs (k + 1)) (cl L xs (k + 2))) = aSetR X (1065353216 + ((lw (cl L xs (k + 2)) 180) * 2 ^ 16)) := (by rw [ec16]; exact (show (if nI (lw (cl L xs (k + 1)) 2) = 0 then aSetN X (lw (cl L xs (k + 1)) 5) (1 + lw (cl L xs (k + 2)) 24) else aSetR X (1065353216 + lw (cl L xs (k + 2)) 180 * 2 ^ 16)) = aSetR X (1065353216 + ((lw (cl L xs (k + 2)) 180) * 2 ^ 16)) by rw [if_neg hne]))
      exact y_iret C hr (by rw [hres]) (by rw [hres]; exact hX) dL_act_296
    · refine y_aload_n C 3 dL_act_252 rfl rfl ?_
      refine y_iload_n C 2 dL_act_253 rfl rfl ?_
      refine y_iconst C (5) dL_act_254 (by decide) ?_
      refine y_callS C [.int (cl L xs (k + 1)), .int (5 : Int32)] (c_L_low g B0 l (cl L xs (k + 1)) 5 (by decide) (by decide)) 2 (wSin q128 q129 q125 q130) hs_L_low ⟨(Nat.le_of_ble_eq_true rfl), (Nat.le_of_ble_eq_true rfl)⟩ ⟨rfl, rfl⟩ trivial nF.no rfl rfl (Nat.le_of_ble_eq_true rfl) dL_act_255 ⟨(Nat.le_of_ble_eq_true rfl), (Nat.le_of_ble_eq_true rfl)⟩ rfl (fun H hp hz hf => ?_)
      have hX := sys.fr (A1 := nF) hX hf (fun _ _ z => z)
      refine y_iconst C (1) dL_act_258 (by decide) ?_
      refine y_iload C 1 dL_act_259 rfl ?_
      refine y_bipush C (24) dL_act_261 (by decide) ?_
      refine y_callS C [.int (cl L xs (k + 2)), .int (24 : Int32)] (c_L_low g B0 l (cl L xs (k + 2)) 24 (by decide) (by decide)) 2 (wSin q128 q129 q125 q130) hs_L_low ⟨(Nat.le_of_ble_eq_true rfl), (Nat.le_of_ble_eq_true rfl)⟩ ⟨rfl, rfl⟩ trivial nF.no rfl rfl (Nat.le_of_ble_eq_true rfl) dL_act_263 ⟨(Nat.le_of_ble_eq_true rfl), (Nat.le_of_ble_eq_true rfl)⟩ rfl (fun H hp hz hf => ?_)
      have hX := sys.fr (A1 := nF) hX hf (fun _ _ z => z)
      refine y_iadd C dL_act_266 ?_
      refine y_top (nI_add 1 (lw (cl L xs (k + 2)) 24)) ?_
      refine y_callV C [.int (nI (lw (cl L xs (k + 1)) 5)), .int (nI (1 + (lw (cl L xs (k + 2)) 24)))] (c_X6_setNumber g B0 l b X hv (lw (cl L xs (k + 1)) 5) (1 + (lw (cl L xs (k + 2)) 24)) (lw_lt (by decide)) (by have := (lw_lt (v := (cl L xs (k + 2))) (n := 24) (by decide)); omega)) RX6 2 (wVin q339 q340 q341 q2 q342) hy_X6_setNumber ⟨(Nat.le_of_ble_eq_true rfl), (Nat.le_of_ble_eq_true rfl)⟩ ⟨rfl, rfl⟩ (rcv C.2.2.2.2.2.1 hX.1 rfl) hX (fun _ h => h) rfl rfl (Nat.le_of_ble_eq_true rfl) dL_act_267 ⟨(Nat.le_of_ble_eq_true rfl), (Nat.le_of_ble_eq_true rfl)⟩ rfl (fun H hp hz hf => ?_)
      have hX := hp
      refine y_goto C 296 dL_act_270 (by decide) ?_
      have hres : (lAct X (lw (cl L xs k) 22) (cl L xs (k + 1)) (cl L xs (k + 2))) = aSetN X (lw (cl L xs (k + 1)) 5) (1 + (lw (cl L xs (k + 2)) 24)) := (by rw [ec16]; exact (show (if nI (lw (cl L xs (k + 1)) 2) = 0 then aSetN X (lw (cl L xs (k + 1)) 5) (1 + lw (cl L xs (k + 2)) 24) else aSetR X (1065353216 + lw (cl L xs (k + 2)) 180 * 2 ^ 16)) = aSetN X (lw (cl L xs (k + 1)) 5) (1 + (lw (cl L xs (k + 2)) 24)) by rw [if_pos hne]))
      exact y_iret C hr (by rw [hres]) (by rw [hres]; exact hX) dL_act_296
  by_cases ec17 : (lw (cl L xs k) 22) = 17
  · refine y_top (congrArg nI ec17) ?_
    refine y_tableIn C 297 dL_act_35 (by decide) (by decide) rfl (by decide) ?_
    refine y_aload_n C 3 dL_act_297 rfl rfl ?_
    refine y_callV C [] (c_X6_undo g B0 l b X hv ) RX6 0 (wVin q359 q360 q361 q2 q362) hy_X6_undo ⟨(Nat.le_of_ble_eq_true rfl), (Nat.le_of_ble_eq_true rfl)⟩ ⟨rfl, rfl⟩ (rcv C.2.2.2.2.2.1 hX.1 rfl) hX (fun _ h => h) rfl rfl (Nat.le_of_ble_eq_true rfl) dL_act_298 ⟨(Nat.le_of_ble_eq_true rfl), (Nat.le_of_ble_eq_true rfl)⟩ rfl (fun H hp hz hf => ?_)
    have hX := hp
    have hres : (lAct X (lw (cl L xs k) 22) (cl L xs (k + 1)) (cl L xs (k + 2))) = aUndo X  := (by rw [ec17]; rfl)
    exact y_iret C hr (by rw [hres]) (by rw [hres]; exact hX) dL_act_301
  by_cases ec18 : (lw (cl L xs k) 22) = 18
  · refine y_top (congrArg nI ec18) ?_
    refine y_tableIn C 302 dL_act_35 (by decide) (by decide) rfl (by decide) ?_
    refine y_iload C 1 dL_act_302 rfl ?_
    refine y_iconst C (2) dL_act_304 (by decide) ?_
    refine y_callS C [.int (cl L xs (k + 2)), .int (2 : Int32)] (c_L_low g B0 l (cl L xs (k + 2)) 2 (by decide) (by decide)) 2 (wSin q128 q129 q125 q130) hs_L_low ⟨(Nat.le_of_ble_eq_true rfl), (Nat.le_of_ble_eq_true rfl)⟩ ⟨rfl, rfl⟩ trivial nF.no rfl rfl (Nat.le_of_ble_eq_true rfl) dL_act_305 ⟨(Nat.le_of_ble_eq_true rfl), (Nat.le_of_ble_eq_true rfl)⟩ rfl (fun H hp hz hf => ?_)
    have hX := sys.fr (A1 := nF) hX hf (fun _ _ z => z)
    refine y_if_ne C 318 dL_act_308 (by decide) (fun hne => ?_) (fun hne => ?_)
    · refine y_aload_n C 3 dL_act_318 rfl rfl ?_
      refine y_callV C [] (c_X6_restore g B0 l b X hv ) RX6 0 (wVin q371 q372 q373 q2 q374) hy_X6_restore ⟨(Nat.le_of_ble_eq_true rfl), (Nat.le_of_ble_eq_true rfl)⟩ ⟨rfl, rfl⟩ (rcv C.2.2.2.2.2.1 hX.1 rfl) hX (fun _ h => h) rfl rfl (Nat.le_of_ble_eq_true rfl) dL_act_319 ⟨(Nat.le_of_ble_eq_true rfl), (Nat.le_of_ble_eq_true rfl)⟩ rfl (fun H hp hz hf => ?_)
      have hX := hp
      have hres : (lAct X (lw (cl L xs k) 22) (cl L xs (k + 1)) (cl L xs (k + 2))) = aRest X  := (by rw [ec18]; exact (show (if nI (lw (cl L xs (k + 2)) 2) = 0 then aKeep X else aRest X) = aRest X  by rw [if_neg hne]))
      exact y_iret C hr (by rw [hres]) (by rw [hres]; exact hX) dL_act_322
    · refine y_aload_n C 3 dL_act_311 rfl rfl ?_
      refine y_callV C [] (c_X6_keep g B0 l b X hv ) RX6 0 (wVin q367 q368 q369 q2 q370) hy_X6_keep ⟨(Nat.le_of_ble_eq_true rfl), (Nat.le_of_ble_eq_true rfl)⟩ ⟨rfl, rfl⟩ (rcv C.2.2.2.2.2.1 hX.1 rfl) hX (fun _ h => h) rfl rfl (Nat.le_of_ble_eq_true rfl) dL_act_312 ⟨(Nat.le_of_ble_eq_true rfl), (Nat.le_of_ble_eq_true rfl)⟩ rfl (fun H hp hz hf => ?_)
      have hX := hp
      refine y_goto C 322 dL_act_315 (by decide) ?_
      have hres : (lAct X (lw (cl L xs k) 22) (cl L xs (k + 1)) (cl L xs (k + 2))) = aKeep X  := (by rw [ec18]; exact (show (if nI (lw (cl L xs (k + 2)) 2) = 0 then aKeep X else aRest X) = aKeep X  by rw [if_pos hne]))
      exact y_iret C hr (by rw [hres]) (by rw [hres]; exact hX) dL_act_322
  by_cases ec19 : (lw (cl L xs k) 22) = 19
  · refine y_top (congrArg nI ec19) ?_
    refine y_tableOut C 323 dL_act_35 (by decide) (by decide) ?_
    refine y_aload_n C 3 dL_act_323 rfl rfl ?_
    refine y_iconst C (1) dL_act_324 (by decide) ?_
    refine y_iload C 1 dL_act_325 rfl ?_
    refine y_iconst C (5) dL_act_327 (by decide) ?_
    refine y_callS C [.int (cl L xs (k + 2)), .int (5 : Int32)] (c_L_low g B0 l (cl L xs (k + 2)) 5 (by decide) (by decide)) 2 (wSin q128 q129 q125 q130) hs_L_low ⟨(Nat.le_of_ble_eq_true rfl), (Nat.le_of_ble_eq_true rfl)⟩ ⟨rfl, rfl⟩ trivial nF.no rfl rfl (Nat.le_of_ble_eq_true rfl) dL_act_328 ⟨(Nat.le_of_ble_eq_true rfl), (Nat.le_of_ble_eq_true rfl)⟩ rfl (fun H hp hz hf => ?_)
    have hX := sys.fr (A1 := nF) hX hf (fun _ _ z => z)
    refine y_iadd C dL_act_331 ?_
    refine y_top (nI_add 1 (lw (cl L xs (k + 2)) 5)) ?_
    refine y_callV C [.int (nI (1 + (lw (cl L xs (k + 2)) 5)))] (c_X6_pass g B0 l b X hv (1 + (lw (cl L xs (k + 2)) 5)) (Nat.le_add_right 1 _) (by have := (lw_lt (v := (cl L xs (k + 2))) (n := 5) (by decide)); omega)) RX6 1 (wVin q375 q376 q377 q2 q378) hy_X6_pass ⟨(Nat.le_of_ble_eq_true rfl), (Nat.le_of_ble_eq_true rfl)⟩ ⟨rfl, rfl⟩ (rcv C.2.2.2.2.2.1 hX.1 rfl) hX (fun _ h => h) rfl rfl (Nat.le_of_ble_eq_true rfl) dL_act_332 ⟨(Nat.le_of_ble_eq_true rfl), (Nat.le_of_ble_eq_true rfl)⟩ rfl (fun H hp hz hf => ?_)
    have hX := hp
    have hres : (lAct X (lw (cl L xs k) 22) (cl L xs (k + 1)) (cl L xs (k + 2))) = aPass X (1 + (lw (cl L xs (k + 2)) 5)) := (by rw [ec19]; rfl)
    exact y_iret C hr (by rw [hres]) (by rw [hres]; exact hX) dL_act_335
  by_cases ec20 : (lw (cl L xs k) 22) = 20
  · refine y_top (congrArg nI ec20) ?_
    refine y_tableOut C 323 dL_act_35 (by decide) (by decide) ?_
    refine y_aload_n C 3 dL_act_323 rfl rfl ?_
    refine y_iconst C (1) dL_act_324 (by decide) ?_
    refine y_iload C 1 dL_act_325 rfl ?_
    refine y_iconst C (5) dL_act_327 (by decide) ?_
    refine y_callS C [.int (cl L xs (k + 2)), .int (5 : Int32)] (c_L_low g B0 l (cl L xs (k + 2)) 5 (by decide) (by decide)) 2 (wSin q128 q129 q125 q130) hs_L_low ⟨(Nat.le_of_ble_eq_true rfl), (Nat.le_of_ble_eq_true rfl)⟩ ⟨rfl, rfl⟩ trivial nF.no rfl rfl (Nat.le_of_ble_eq_true rfl) dL_act_328 ⟨(Nat.le_of_ble_eq_true rfl), (Nat.le_of_ble_eq_true rfl)⟩ rfl (fun H hp hz hf => ?_)
    have hX := sys.fr (A1 := nF) hX hf (fun _ _ z => z)
    refine y_iadd C dL_act_331 ?_
    refine y_top (nI_add 1 (lw (cl L xs (k + 2)) 5)) ?_
    refine y_callV C [.int (nI (1 + (lw (cl L xs (k + 2)) 5)))] (c_X6_pass g B0 l b X hv (1 + (lw (cl L xs (k + 2)) 5)) (Nat.le_add_right 1 _) (by have := (lw_lt (v := (cl L xs (k + 2))) (n := 5) (by decide)); omega)) RX6 1 (wVin q375 q376 q377 q2 q378) hy_X6_pass ⟨(Nat.le_of_ble_eq_true rfl), (Nat.le_of_ble_eq_true rfl)⟩ ⟨rfl, rfl⟩ (rcv C.2.2.2.2.2.1 hX.1 rfl) hX (fun _ h => h) rfl rfl (Nat.le_of_ble_eq_true rfl) dL_act_332 ⟨(Nat.le_of_ble_eq_true rfl), (Nat.le_of_ble_eq_true rfl)⟩ rfl (fun H hp hz hf => ?_)
    have hX := hp
    have hres : (lAct X (lw (cl L xs k) 22) (cl L xs (k + 1)) (cl L xs (k + 2))) = aPass X (1 + (lw (cl L xs (k + 2)) 5)) := (by rw [ec20]; rfl)
    exact y_iret C hr (by rw [hres]) (by rw [hres]; exact hX) dL_act_335
  have ec21 : (lw (cl L xs k) 22) = 21 := by omega
  refine y_top (congrArg nI ec21) ?_
  refine y_tableOut C 323 dL_act_35 (by decide) (by decide) ?_
  refine y_aload_n C 3 dL_act_323 rfl rfl ?_
  refine y_iconst C (1) dL_act_324 (by decide) ?_
  refine y_iload C 1 dL_act_325 rfl ?_
  refine y_iconst C (5) dL_act_327 (by decide) ?_
  refine y_callS C [.int (cl L xs (k + 2)), .int (5 : Int32)] (c_L_low g B0 l (cl L xs (k + 2)) 5 (by decide) (by decide)) 2 (wSin q128 q129 q125 q130) hs_L_low ⟨(Nat.le_of_ble_eq_true rfl), (Nat.le_of_ble_eq_true rfl)⟩ ⟨rfl, rfl⟩ trivial nF.no rfl rfl (Nat.le_of_ble_eq_true rfl) dL_act_328 ⟨(Nat.le_of_ble_eq_true rfl), (Nat.le_of_ble_eq_true rfl)⟩ rfl (fun H hp hz hf => ?_)
  have hX := sys.fr (A1 := nF) hX hf (fun _ _ z => z)
  refine y_iadd C dL_act_331 ?_
  refine y_top (nI_add 1 (lw (cl L xs (k + 2)) 5)) ?_
  refine y_callV C [.int (nI (1 + (lw (cl L xs (k + 2)) 5)))] (c_X6_pass g B0 l b X hv (1 + (lw (cl L xs (k + 2)) 5)) (Nat.le_add_right 1 _) (by have := (lw_lt (v := (cl L xs (k + 2))) (n := 5) (by decide)); omega)) RX6 1 (wVin q375 q376 q377 q2 q378) hy_X6_pass ⟨(Nat.le_of_ble_eq_true rfl), (Nat.le_of_ble_eq_true rfl)⟩ ⟨rfl, rfl⟩ (rcv C.2.2.2.2.2.1 hX.1 rfl) hX (fun _ h => h) rfl rfl (Nat.le_of_ble_eq_true rfl) dL_act_332 ⟨(Nat.le_of_ble_eq_true rfl), (Nat.le_of_ble_eq_true rfl)⟩ rfl (fun H hp hz hf => ?_)
  have hX := hp
  have hres : (lAct X (lw (cl L xs k) 22) (cl L xs (k + 1)) (cl L xs (k + 2))) = aPass X (1 + (lw (cl L xs (k + 2)) 5)) := (by rw [ec21]; rfl)
  exact y_iret C hr (by rw [hres]) (by rw [hres]; exact hX) dL_act_335
