/-! pass, setRate, doneIn, and what is told -/
/-- a float that halves of it stay like: its magnitude below 2^33 -/
def sm (x : UInt32) : Prop := x.toNat % 2 ^ 31 < 160 * 2 ^ 23
theorem sm.fin {x : UInt32} (h : sm x) : FP.Core.FFin x := FP.Core.fin_of_lt32 h (by decide)
theorem two_fin : FP.Core.FFin FP.fconst2 := by rw [FP.Core.fin_bits32]; decide
theorem two_nz : ¬ FP.Core.FZero FP.fconst2 := by
  intro h
  have h1 := FP.Core.FZero.zval h
  revert h1
  decide +kernel
theorem sm.half {x : UInt32} (h : sm x) : sm (FP.fdiv x FP.fconst2) := by
  have h1 := FP.Core.fdiv_mag (a := x) (b := FP.fconst2) (K := 160) (L := 128) h (by decide) (by decide) (by decide) (by decide)
  unfold sm
  omega
theorem sm.nan {x : UInt32} (h : sm x) : vf_n32 (FP.fdiv x FP.fconst2) := n32 (FP.Core.fdiv_out (FP.Core.FFin.notNaN h.fin) two_fin two_nz)
def hlv : Nat → UInt32 → UInt32
  | 0, x => x
  | n + 1, x => hlv n (FP.fdiv x FP.fconst2)
def floI (B : Nat) : UInt32 := FP.i2f (nI (B % 2 ^ 23) ||| 8388608)
/-- what floatOf answers for bits of a float from 1.0f on -/
def flo (B : Nat) : UInt32 := hlv (150 - B / 2 ^ 23) (floI B)
theorem hlv_sm : ∀ (n : Nat) (x : UInt32), sm x → sm (hlv n x)
  | 0, _, h => h
  | n + 1, _, h => hlv_sm n _ h.half
theorem flo_sm (B : Nat) : sm (flo B) := hlv_sm _ _ (FP.Core.i2f_mag _)
def aSetR (X : SV) (B : Nat) : Int32 × SV := if wif (nI B) (tLR 1) (tHR 1) = 0 then (-2, X) else if Op.cmpValue (FP.fcmp ((X.2.2.2 0).2 1) (flo B)) .l = 0 then (-5, X) else (1, acX X (rset (X.2.2.2 0) 1 (flo B)))
/-- when a set is done, if only days pass -/
def din : Nat → Nat → DV → Nat → Int32
  | 0, _, _, _ => -5
  | r + 1, n, d, k => if d.1 18 k = 2 then (if d.1 3 0 = 0 then -5 else if (psd d).1 18 k = 4 then nI n else din r (n + 1) (psd d) k) else if (psd d).1 18 k = 4 then nI n else din r (n + 1) (psd d) k
def tDin (X : SV) (k : Nat) : Int32 := if isS X k = 0 then -1 else if (X.2.2.2 0).1 18 k = 2 then din 200 1 (X.2.2.2 0) k else if (X.2.2.2 0).1 18 k = 3 then din 200 1 (X.2.2.2 0) k else -5
/-- the whole, but another trial -/
def sXt (g : KG) (b : Nat) (X : SV) (H : Heap) : Prop := ∃ t : DV, sf t ∧ fr t ∧ sX g b (stJ 1 X t) H
theorem sX.t {g : KG} {b : Nat} {X : SV} {H : Heap} (h : sX g b X H) (hv : sv X) : sXt g b X H := ⟨X.2.2.2 1, (hv.2 1 (by decide)).1, (hv.2 1 (by decide)).2, (h.ex 1).clJ (h.d 1 (by decide))⟩
def rm_X6_floatOf : Room := { frames := 0, cells := 0, slots := 0, locals := 0 }
set_option maxRecDepth 100000 in
set_option maxHeartbeats 4000000 in
theorem c_X6_floatOf (g : KG) (B0 : Nat) (l : Launch) (B : Nat) (hB1 : 1065353216 ≤ B) (hB2 : B ≤ 1073741824) : Mt g B0 l yX6_floatOf cX6_floatOf 5 (some .float) rm_X6_floatOf [.int (nI B)] nF (fun _ => True) (some (.float (flo B))) (fun _ => True) 0 0 := by
  refine Mt_of RX6 (by decide) rfl [(0, .int (nI B))] rfl (Nat.le_of_ble_eq_true rfl) ?_
  intro pr e s m args below meth c C hr hin hd
  refine y_iload_n C 0 dX6_floatOf_0 rfl rfl ?_
  refine y_bipush C (23) dX6_floatOf_1 (by decide) ?_
  refine y_iushr C (nI (B / 2 ^ 23)) dX6_floatOf_3 (pk_ushrN (by omega) 23 23 (by decide)) ?_
  refine y_istore_n C dX6_floatOf_4 rfl (by decide) rfl ?_
  refine y_iload_n C 1 dX6_floatOf_5 rfl rfl ?_
  refine y_ldc C q357 dX6_floatOf_6 ?_
  refine y_iand C dX6_floatOf_8 ?_
  refine y_top (pk_andN (by omega) 23 (by decide)) ?_
  refine y_istore_n C dX6_floatOf_9 rfl (by decide) rfl ?_
  refine y_iload_n C 1 dX6_floatOf_10 rfl rfl ?_
  refine y_if_ne C 19 dX6_floatOf_11 (by decide) (fun _ => ?_) (fun h => absurd h (nI_ne0 (n := B / 2 ^ 23) (by omega) (by omega)))
  refine y_iload_n C 0 dX6_floatOf_19 rfl rfl ?_
  refine y_ldc C q358 dX6_floatOf_20 ?_
  refine y_ior C dX6_floatOf_22 ?_
  refine y_istore_n C dX6_floatOf_23 rfl (by decide) rfl ?_
  refine y_iload_n C 0 dX6_floatOf_24 rfl rfl ?_
  refine y_i2f C dX6_floatOf_25 ?_
  refine y_fstore_n C dX6_floatOf_26 rfl (by decide) rfl ?_
  refine y_iload_n C 2 dX6_floatOf_27 rfl rfl ?_
  refine y_istore C dX6_floatOf_28 (by decide) rfl ?_
  suffices K : ∀ rem n : Nat, n + rem = 150 → ∀ y : UInt32, hlv rem y = flo B → sm y → ∀ H : Heap, Yx nF pr l e rm_X6_floatOf s m args below meth c 5 0 0 (MQ below (Qx (some (.float (flo B))) (fun _ => True) nF) args s 0 0 nF) [(4, .int (nI n)), (3, .float y), (2, .int (nI (B % 2 ^ 23) ||| 8388608)), (1, .int (nI (B / 2 ^ 23))), (0, .int (nI B))] H 30 [] from y_sub [0, 1, 2, 3, 4] (K (150 - B / 2 ^ 23) (B / 2 ^ 23) (by omega) _ rfl (FP.Core.i2f_mag _) _) rfl
  intro rem
  induction rem with
  | zero =>
    intro n hn y hs hsm H
    obtain rfl : n = 150 := by omega
    refine y_iload C 0 dX6_floatOf_30 rfl ?_
    refine y_sipush C (150) dX6_floatOf_32 (by decide) ?_
    refine y_icmp_ge C 48 dX6_floatOf_35 (by decide) (fun _ => ?_) (fun h => absurd (ge_t rfl rfl (Nat.le_refl 150) (by decide)) h)
    refine y_fload_n C 1 dX6_floatOf_48 rfl rfl ?_
    exact y_fret C hr (by rw [← hs]; rfl) trivial dX6_floatOf_49
  | succ rem ih =>
    intro n hn y hs hsm H
    have hlt : n < 150 := by omega
    refine y_iload C 0 dX6_floatOf_30 rfl ?_
    refine y_sipush C (150) dX6_floatOf_32 (by decide) ?_
    refine y_icmp_ge C 48 dX6_floatOf_35 (by decide) (fun h => absurd h (ge_f rfl rfl hlt (by decide))) (fun _ => ?_)
    refine y_fload_n C 1 dX6_floatOf_38 rfl rfl ?_
    refine y_fconst2 C dX6_floatOf_39 ?_
    refine y_fdiv C dX6_floatOf_40 hsm.nan ?_
    refine y_fstore_n C dX6_floatOf_41 rfl (by decide) rfl ?_
    refine y_iinc C 1 (nI (n + 1)) dX6_floatOf_42 rfl (nI_succ _).symm (by decide) rfl ?_
    refine y_goto C 30 dX6_floatOf_45 (by decide) ?_
    exact y_sub [0, 1, 2, 3, 4] (ih (n + 1) (by omega) _ (by rw [← hs]; rfl) hsm.half H) rfl
def rm_X6_setRate : Room := { frames := 4, cells := 0, slots := 0, locals := 81 }
set_option maxRecDepth 100000 in
set_option maxHeartbeats 4000000 in
theorem c_X6_setRate (g : KG) (B0 : Nat) (l : Launch) (b : Nat) (X : SV) (hv : sv X) (B : Nat) (hB1 : 1065353216 ≤ B) (hB31 : B < 2 ^ 31) : Mt g B0 l yX6_setRate cX6_setRate 4 (some .int) rm_X6_setRate [.ref b, .int (nI 1), .int (nI B)] (iv b 152) (sX g b X) (some (.int (aSetR X B).1)) (sX g b (aSetR X B).2) 0 0 := by
  refine Mt_of RX6 (by decide) rfl [(0, .ref b), (1, .int (nI 1)), (2, .int (nI B))] rfl (Nat.le_of_ble_eq_true rfl) ?_
  intro pr e s m args below meth c C hr hin hd
  have hO := hd.ex 0
  have h0 := hd.d0
  obtain ⟨t1, hZ1, hT1⟩ := stA.get C.2.2.2.2.2.1.2.2.2.2.2.2.2.2.2.1 C.2.2.2.2.2.2.1
  obtain ⟨t2, hZ2, hT2⟩ := stA.get C.2.2.2.2.2.1.2.2.2.2.2.2.2.2.2.2 C.2.2.2.2.2.2.1
  refine y_iload_n C 1 dX6_setRate_0 rfl rfl ?_
  refine y_iconst C (4) dX6_setRate_1 (by decide) ?_
  refine y_callS C [.int (nI 1), .int (4 : Int32)] (c_X6_isIndex g B0 l (nI 1) (4 : Int32)) 2 (wSin q141 q142 q2 q143) hs_X6_isIndex ⟨(Nat.le_of_ble_eq_true rfl), (Nat.le_of_ble_eq_true rfl)⟩ ⟨rfl, rfl⟩ trivial nF.no rfl rfl (Nat.le_of_ble_eq_true rfl) dX6_setRate_2 ⟨(Nat.le_of_ble_eq_true rfl), (Nat.le_of_ble_eq_true rfl)⟩ rfl (fun H hp hz hf => ?_)
  have h0 := h0.fr hf (fun _ _ z => z)
  have hO := hO.fr (j := 0) (by decide) hf nF.no
  refine y_if_ne C 10 dX6_setRate_5 (by decide) (fun _ => ?_) (fun h => absurd h (ixf_t (k := 1) (n := 4) (by decide) (by decide)))
  refine y_iload_n C 2 dX6_setRate_10 rfl rfl ?_
  refine y_gets C hZ1 q351 dX6_setRate_11 ?_
  refine y_iload_n C 1 dX6_setRate_14 rfl rfl ?_
  refine y_sld C hT1 1 rfl (by decide) (by decide) dX6_setRate_15 ?_
  refine y_gets C hZ2 q352 dX6_setRate_16 ?_
  refine y_iload_n C 1 dX6_setRate_19 rfl rfl ?_
  refine y_sld C hT2 1 rfl (by decide) (by decide) dX6_setRate_20 ?_
  refine y_callS C [.int (nI B), .int (tLR 1), .int (tHR 1)] (c_X6_isWithin g B0 l (nI B) (tLR 1) (tHR 1)) 3 (wSin q108 q109 q2 q110) hs_X6_isWithin ⟨(Nat.le_of_ble_eq_true rfl), (Nat.le_of_ble_eq_true rfl)⟩ ⟨rfl, rfl⟩ trivial nF.no rfl rfl (Nat.le_of_ble_eq_true rfl) dX6_setRate_21 ⟨(Nat.le_of_ble_eq_true rfl), (Nat.le_of_ble_eq_true rfl)⟩ rfl (fun H hp hz hf => ?_)
  have h0 := h0.fr hf (fun _ _ z => z)
  have hO := hO.fr (j := 0) (by decide) hf nF.no
  refine y_if_ne C 30 dX6_setRate_24 (by decide) (fun h1 => ?_) (fun h1 => ?_)
  · have hB2 : B ≤ 1073741824 := Nat.le_of_not_lt (fun z => h1 (by show wif (nI B) (nI 1065353216) (nI 1073741824) = 0; rw [wif, if_neg (nI_nlt (a := B) (b := 1065353216) hB1 hB31), if_pos (nI_lt (a := 1073741824) z hB31)]))
    refine y_iload_n C 2 dX6_setRate_30 rfl rfl ?_
    refine y_callS C [.int (nI B)] (c_X6_floatOf g B0 l B hB1 hB2) 1 (wSin q354 q355 q2 q356) hs_X6_floatOf ⟨(Nat.le_of_ble_eq_true rfl), (Nat.le_of_ble_eq_true rfl)⟩ ⟨rfl, rfl⟩ trivial nF.no rfl rfl (Nat.le_of_ble_eq_true rfl) dX6_setRate_31 ⟨(Nat.le_of_ble_eq_true rfl), (Nat.le_of_ble_eq_true rfl)⟩ rfl (fun H hp hz hf => ?_)
    have h0 := h0.fr hf (fun _ _ z => z)
    have hO := hO.fr (j := 0) (by decide) hf nF.no
    refine y_fstore_n C dX6_setRate_34 rfl (by decide) rfl ?_
    refine y_aload_n C 1 dX6_setRate_35 rfl rfl ?_
    refine y_get6 C hO.1 0 (by decide) q12 rfl rfl dX6_setRate_36 ?_
    refine y_get2 C (dk_0 h0) 1 (by decide) q353 rfl rfl dX6_setRate_39 ?_
    refine y_iload_n C 2 dX6_setRate_42 rfl rfl ?_
    refine y_fald C (dk_1 h0) 1 rfl (by decide) (by decide) dX6_setRate_43 ?_
    refine y_fload_n C 0 dX6_setRate_44 rfl rfl ?_
    refine y_fcmp C dX6_setRate_45 ?_
    refine y_if_ne C 52 dX6_setRate_46 (by decide) (fun h2 => ?_) (fun h2 => ?_)
    · refine y_aload_n C 1 dX6_setRate_52 rfl rfl ?_
      refine y_get6 C hO.1 4 (by decide) q19 rfl rfl dX6_setRate_53 ?_
      refine y_aload_n C 1 dX6_setRate_56 rfl rfl ?_
      refine y_get6 C hO.1 0 (by decide) q12 rfl rfl dX6_setRate_57 ?_
      refine y_callV C [.ref (b + 1)] (c_X3_record g B0 l b X.1 X.2.1 X.2.2.1 X.2.2.2 hv.1) RX3 1 (wVin q270 q271 q272 q18 q273) hy_X3_record ⟨(Nat.le_of_ble_eq_true rfl), (Nat.le_of_ble_eq_true rfl)⟩ ⟨rfl, rfl⟩ (rcv C.2.2.2.2.2.1 hO.2.1 rfl) (hO.cl0 h0) (fun _ h => h) rfl rfl (Nat.le_of_ble_eq_true rfl) dX6_setRate_60 ⟨(Nat.le_of_ble_eq_true rfl), (Nat.le_of_ble_eq_true rfl)⟩ rfl (fun H hp hz hf => ?_)
      have hO : sysO 0 g b (rcX X) H := sX.ex (X := rcX X) 0 hp
      have h0 := rcX_0 (X := X) hp
      refine y_aload_n C 1 dX6_setRate_63 rfl rfl ?_
      refine y_get6 C hO.1 0 (by decide) q12 rfl rfl dX6_setRate_64 ?_
      refine y_get2 C (dk_0 h0) 1 (by decide) q353 rfl rfl dX6_setRate_67 ?_
      refine y_iload_n C 2 dX6_setRate_70 rfl rfl ?_
      refine y_fload_n C 0 dX6_setRate_71 rfl rfl ?_
      refine y_fast C (dk_1 h0) (adr_iv (j := 0) (by decide) _ (ivm 1 (by decide))) 1 rfl (by decide) (by decide) dX6_setRate_72 (fun H hw1 ow1 zw1 => ?_)
      have h0 := dk_set1 h0 hw1 ow1
      have hO := hO.off (j := 0) (by decide) ow1 (ivm 1 (by decide))
      refine y_iconst C (1) dX6_setRate_73 (by decide) ?_
      exact y_iret C hr (by first | (rw [aSetR, if_neg h1, if_neg h2]; done) | (rw [aSetR, if_neg h1, if_pos h2]; done) | (rw [aSetR, if_pos h1, if_neg h2]; done) | (rw [aSetR, if_pos h1, if_pos h2]; done) | (rw [aSetR, if_neg h1]; done) | (rw [aSetR, if_pos h1]; done) | (rw [aSetR]; done)) (by first | (rw [aSetR, if_neg h1, if_neg h2]; first | exact hO.cl0 h0 | exact hO.clJ (j := 0) h0) | (rw [aSetR, if_neg h1, if_pos h2]; first | exact hO.cl0 h0 | exact hO.clJ (j := 0) h0) | (rw [aSetR, if_pos h1, if_neg h2]; first | exact hO.cl0 h0 | exact hO.clJ (j := 0) h0) | (rw [aSetR, if_pos h1, if_pos h2]; first | exact hO.cl0 h0 | exact hO.clJ (j := 0) h0) | (rw [aSetR, if_neg h1]; first | exact hO.cl0 h0 | exact hO.clJ (j := 0) h0) | (rw [aSetR, if_pos h1]; first | exact hO.cl0 h0 | exact hO.clJ (j := 0) h0) | (rw [aSetR]; first | exact hO.cl0 h0 | exact hO.clJ (j := 0) h0)) dX6_setRate_74
    · refine y_bipush C (-5) dX6_setRate_49 (by decide) ?_
      exact y_iret C hr (by first | (rw [aSetR, if_neg h1, if_neg h2]; done) | (rw [aSetR, if_neg h1, if_pos h2]; done) | (rw [aSetR, if_pos h1, if_neg h2]; done) | (rw [aSetR, if_pos h1, if_pos h2]; done) | (rw [aSetR, if_neg h1]; done) | (rw [aSetR, if_pos h1]; done) | (rw [aSetR]; done)) (by first | (rw [aSetR, if_neg h1, if_neg h2]; first | exact hO.cl0 h0 | exact hO.clJ (j := 0) h0) | (rw [aSetR, if_neg h1, if_pos h2]; first | exact hO.cl0 h0 | exact hO.clJ (j := 0) h0) | (rw [aSetR, if_pos h1, if_neg h2]; first | exact hO.cl0 h0 | exact hO.clJ (j := 0) h0) | (rw [aSetR, if_pos h1, if_pos h2]; first | exact hO.cl0 h0 | exact hO.clJ (j := 0) h0) | (rw [aSetR, if_neg h1]; first | exact hO.cl0 h0 | exact hO.clJ (j := 0) h0) | (rw [aSetR, if_pos h1]; first | exact hO.cl0 h0 | exact hO.clJ (j := 0) h0) | (rw [aSetR]; first | exact hO.cl0 h0 | exact hO.clJ (j := 0) h0)) dX6_setRate_51
  · refine y_bipush C (-2) dX6_setRate_27 (by decide) ?_
    exact y_iret C hr (by first | (rw [aSetR, if_neg h1]; done) | (rw [aSetR, if_pos h1]; done) | (rw [aSetR]; done)) (by first | (rw [aSetR, if_neg h1]; first | exact hO.cl0 h0 | exact hO.clJ (j := 0) h0) | (rw [aSetR, if_pos h1]; first | exact hO.cl0 h0 | exact hO.clJ (j := 0) h0) | (rw [aSetR]; first | exact hO.cl0 h0 | exact hO.clJ (j := 0) h0)) dX6_setRate_29
def rm_X6_pass : Room := { frames := 6, cells := 0, slots := 0, locals := 137 }
set_option maxRecDepth 100000 in
set_option maxHeartbeats 4000000 in
theorem c_X6_pass (g : KG) (B0 : Nat) (l : Launch) (b : Nat) (X : SV) (hv : sv X) (n : Nat) (hn1 : 1 ≤ n) (hn60 : n ≤ 60) : Mt g B0 l yX6_pass cX6_pass 4 (some .int) rm_X6_pass [.ref b, .int (nI n)] (iv b 152) (sX g b X) (some (.int (aPass X n).1)) (sX g b (aPass X n).2) 0 0 := by
  refine Mt_of RX6 (by decide) rfl [(0, .ref b), (1, .int (nI n))] rfl (Nat.le_of_ble_eq_true rfl) ?_
  intro pr e s m args below meth c C hr hin hd
  have hO := hd.ex 0
  have h0 := hd.d0
  refine y_iload_n C 1 dX6_pass_0 rfl rfl ?_
  refine y_iconst C (1) dX6_pass_1 (by decide) ?_
  refine y_bipush C (60) dX6_pass_2 (by decide) ?_
  refine y_callS C [.int (nI n), .int (1 : Int32), .int (60 : Int32)] (c_X6_isWithin g B0 l (nI n) (1 : Int32) (60 : Int32)) 3 (wSin q108 q109 q2 q110) hs_X6_isWithin ⟨(Nat.le_of_ble_eq_true rfl), (Nat.le_of_ble_eq_true rfl)⟩ ⟨rfl, rfl⟩ trivial nF.no rfl rfl (Nat.le_of_ble_eq_true rfl) dX6_pass_4 ⟨(Nat.le_of_ble_eq_true rfl), (Nat.le_of_ble_eq_true rfl)⟩ rfl (fun H hp hz hf => ?_)
  have h0 := h0.fr hf (fun _ _ z => z)
  have hO := hO.fr (j := 0) (by decide) hf nF.no
  refine y_if_ne C 13 dX6_pass_7 (by decide) (fun _ => ?_) (fun h => absurd h (wif_t (lo := 1) (hi := 60) hn1 hn60 (by decide)))
  refine y_aload_n C 0 dX6_pass_13 rfl rfl ?_
  refine y_get6 C hO.1 0 (by decide) q12 rfl rfl dX6_pass_14 ?_
  refine y_get2 C (dk_0 h0) 0 (by decide) q97 rfl rfl dX6_pass_17 ?_
  refine y_iload_n C 1 dX6_pass_20 rfl rfl ?_
  refine y_iadd C dX6_pass_21 ?_
  refine y_sipush C (9999) dX6_pass_22 (by decide) ?_
  refine y_icmp_le C 31 dX6_pass_25 (by decide) (fun h1 => ?_) (fun h1 => ?_)
  · refine y_aload_n C 0 dX6_pass_31 rfl rfl ?_
    refine y_get6 C hO.1 4 (by decide) q19 rfl rfl dX6_pass_32 ?_
    refine y_aload_n C 0 dX6_pass_35 rfl rfl ?_
    refine y_get6 C hO.1 0 (by decide) q12 rfl rfl dX6_pass_36 ?_
    refine y_callV C [.ref (b + 1)] (c_X3_record g B0 l b X.1 X.2.1 X.2.2.1 X.2.2.2 hv.1) RX3 1 (wVin q270 q271 q272 q18 q273) hy_X3_record ⟨(Nat.le_of_ble_eq_true rfl), (Nat.le_of_ble_eq_true rfl)⟩ ⟨rfl, rfl⟩ (rcv C.2.2.2.2.2.1 hO.2.1 rfl) (hO.cl0 h0) (fun _ h => h) rfl rfl (Nat.le_of_ble_eq_true rfl) dX6_pass_39 ⟨(Nat.le_of_ble_eq_true rfl), (Nat.le_of_ble_eq_true rfl)⟩ rfl (fun H hp hz hf => ?_)
    have hO : sysO 0 g b (rcX X) H := sX.ex (X := rcX X) 0 hp
    have h0 := rcX_0 (X := X) hp
    refine y_aload_n C 0 dX6_pass_42 rfl rfl ?_
    refine y_get6 C hO.1 0 (by decide) q12 rfl rfl dX6_pass_43 ?_
    refine y_get2 C (dk_0 h0) 5 (by decide) q101 rfl rfl dX6_pass_46 ?_
    refine y_get1 C (dk_20 h0) 4 (by decide) q379 rfl rfl dX6_pass_49 ?_
    refine y_istore_n C dX6_pass_52 rfl (by decide) rfl ?_
    refine y_iconst C (0) dX6_pass_53 (by decide) ?_
    refine y_istore_n C dX6_pass_54 rfl (by decide) rfl ?_
    suffices K : ∀ rem i : Nat, i + rem = n → ∀ H : Heap, sysO 0 g b (rcX X) H → dk g (b + 1) (pN (X.2.2.2 0) i) H → Yx (iv b 152) pr l e rm_X6_pass s m args below meth c 4 0 0 (MQ below (Qx (some (.int (aPass X n).1)) (sX g b (aPass X n).2) (iv b 152)) args s 0 0 (iv b 152)) [(3, .int (nI i)), (2, .int ((X.2.2.2 0).1 20 4)), (0, .ref b), (1, .int (nI n))] H 55 [] from K n 0 (Nat.zero_add _) _ hO h0
    intro rem
    induction rem with
    | zero =>
      intro i hi H hO h0
      obtain rfl : i = n := by omega
      refine y_iload_n C 0 dX6_pass_55 rfl rfl ?_
      refine y_iload_n C 3 dX6_pass_56 rfl rfl ?_
      refine y_icmp_ge C 73 dX6_pass_57 (by decide) (fun _ => ?_) (fun h => absurd (ge_t rfl rfl (Nat.le_refl _) (by omega)) h)
      refine y_aload_n C 2 dX6_pass_73 rfl rfl ?_
      refine y_get6 C hO.1 0 (by decide) q12 rfl rfl dX6_pass_74 ?_
      refine y_get2 C (dk_0 h0) 5 (by decide) q101 rfl rfl dX6_pass_77 ?_
      refine y_get1 C (dk_20 h0) 4 (by decide) q379 rfl rfl dX6_pass_80 ?_
      refine y_iload_n C 1 dX6_pass_83 rfl rfl ?_
      refine y_isub C dX6_pass_84 ?_
      exact y_iret C hr (by first | (rw [aPass, if_neg h1]; done) | (rw [aPass, if_pos h1]; done)) (by first | (rw [aPass, if_neg h1]; first | exact hO.cl0 h0 | exact hO.clJ (j := 0) h0) | (rw [aPass, if_pos h1]; first | exact hO.cl0 h0 | exact hO.clJ (j := 0) h0) | (rw [aPass]; first | exact hO.cl0 h0 | exact hO.clJ (j := 0) h0)) dX6_pass_85
    | succ rem ih =>
      intro i hi H hO h0
      have hlt : i < n := by omega
      refine y_iload_n C 0 dX6_pass_55 rfl rfl ?_
      refine y_iload_n C 3 dX6_pass_56 rfl rfl ?_
      refine y_icmp_ge C 73 dX6_pass_57 (by decide) (fun h => absurd h (ge_f rfl rfl hlt (by omega))) (fun _ => ?_)
      refine y_aload_n C 2 dX6_pass_60 rfl rfl ?_
      refine y_get6 C hO.1 0 (by decide) q12 rfl rfl dX6_pass_61 ?_
      refine y_callV C [] (c_X2_passDay g B0 l (b + 1) (pN (X.2.2.2 0) i) (sf_pN (hv.2 0 (by decide)).1 i) ((hv.2 0 (by decide)).2.to (pN_2 _ i))) RX2 0 (wVin q172 q173 q174 q11 q175) hy_X2_passDay ⟨(Nat.le_of_ble_eq_true rfl), (Nat.le_of_ble_eq_true rfl)⟩ ⟨rfl, rfl⟩ (rcv C.2.2.2.2.2.1 (dk_0 h0) rfl) h0 (adr_iv (j := 0) (by decide)) rfl rfl (Nat.le_of_ble_eq_true rfl) dX6_pass_64 ⟨(Nat.le_of_ble_eq_true rfl), (Nat.le_of_ble_eq_true rfl)⟩ rfl (fun H hp hz hf => ?_)
      have h0 := hp
      have hO := hO.fr (j := 0) (by decide) hf (fun _ z => z)
      refine y_iinc C 0 (nI (i + 1)) dX6_pass_67 rfl (nI_succ _).symm (by decide) rfl ?_
      refine y_goto C 55 dX6_pass_70 (by decide) ?_
      exact ih (i + 1) (by omega) H hO h0
  · refine y_bipush C (-4) dX6_pass_28 (by decide) ?_
    exact y_iret C hr (by first | (rw [aPass, if_neg h1]; done) | (rw [aPass, if_pos h1]; done)) (by first | (rw [aPass, if_neg h1]; first | exact hO.cl0 h0 | exact hO.clJ (j := 0) h0) | (rw [aPass, if_pos h1]; first | exact hO.cl0 h0 | exact hO.clJ (j := 0) h0) | (rw [aPass]; first | exact hO.cl0 h0 | exact hO.clJ (j := 0) h0)) dX6_pass_30
def rm_X6_rate : Room := { frames := 1, cells := 0, slots := 0, locals := 21 }
set_option maxRecDepth 100000 in
set_option maxHeartbeats 4000000 in
theorem c_X6_rate_0 (g : KG) (B0 : Nat) (l : Launch) (b : Nat) (X : SV) (hv : sv X)  : Mt g B0 l yX6_rate cX6_rate 2 (some .float) rm_X6_rate [.ref b, .int (nI 0)] (iv b 152) (sX g b X) (some (.float ((X.2.2.2 0).2 0))) (sX g b X) 0 0 := by
  refine Mt_of RX6 (by decide) rfl [(0, .ref b), (1, .int (nI 0))] rfl (Nat.le_of_ble_eq_true rfl) ?_
  intro pr e s m args below meth c C hr hin hd
  have hO := hd.ex 0
  have h0 := hd.d0
  refine y_iload_n C 1 dX6_rate_0 rfl rfl ?_
  refine y_iconst C (4) dX6_rate_1 (by decide) ?_
  refine y_callS C [.int (nI 0), .int (4 : Int32)] (c_X6_isIndex g B0 l (nI 0) (4 : Int32)) 2 (wSin q141 q142 q2 q143) hs_X6_isIndex ⟨(Nat.le_of_ble_eq_true rfl), (Nat.le_of_ble_eq_true rfl)⟩ ⟨rfl, rfl⟩ trivial nF.no rfl rfl (Nat.le_of_ble_eq_true rfl) dX6_rate_2 ⟨(Nat.le_of_ble_eq_true rfl), (Nat.le_of_ble_eq_true rfl)⟩ rfl (fun H hp hz hf => ?_)
  have h0 := h0.fr hf (fun _ _ z => z)
  have hO := hO.fr (j := 0) (by decide) hf nF.no
  refine y_if_eq C 20 dX6_rate_5 (by decide) (fun h => absurd h (ixf_t (k := 0) (n := 4) (by decide) (by decide))) (fun _ => ?_)
  refine y_aload_n C 0 dX6_rate_8 rfl rfl ?_
  refine y_get6 C hO.1 0 (by decide) q12 rfl rfl dX6_rate_9 ?_
  refine y_get2 C (dk_0 h0) 1 (by decide) q353 rfl rfl dX6_rate_12 ?_
  refine y_iload_n C 1 dX6_rate_15 rfl rfl ?_
  refine y_fald C (dk_1 h0) 0 rfl (by decide) (by decide) dX6_rate_16 ?_
  refine y_goto C 22 dX6_rate_17 (by decide) ?_
  exact y_fret C hr rfl (hO.cl0 h0) dX6_rate_22
def rm_X6_number : Room := { frames := 1, cells := 0, slots := 0, locals := 21 }
set_option maxRecDepth 100000 in
set_option maxHeartbeats 4000000 in
theorem c_X6_number (g : KG) (B0 : Nat) (l : Launch) (b : Nat) (X : SV) (hv : sv X) (w : Nat) (hw5 : w < 5) : Mt g B0 l yX6_number cX6_number 2 (some .int) rm_X6_number [.ref b, .int (nI w)] (iv b 152) (sX g b X) (some (.int ((X.2.2.2 0).1 2 w))) (sX g b X) 0 0 := by
  refine Mt_of RX6 (by decide) rfl [(0, .ref b), (1, .int (nI w))] rfl (Nat.le_of_ble_eq_true rfl) ?_
  intro pr e s m args below meth c C hr hin hd
  have hO := hd.ex 0
  have h0 := hd.d0
  refine y_iload_n C 1 dX6_number_0 rfl rfl ?_
  refine y_iconst C (5) dX6_number_1 (by decide) ?_
  refine y_callS C [.int (nI w), .int (5 : Int32)] (c_X6_isIndex g B0 l (nI w) (5 : Int32)) 2 (wSin q141 q142 q2 q143) hs_X6_isIndex ⟨(Nat.le_of_ble_eq_true rfl), (Nat.le_of_ble_eq_true rfl)⟩ ⟨rfl, rfl⟩ trivial nF.no rfl rfl (Nat.le_of_ble_eq_true rfl) dX6_number_2 ⟨(Nat.le_of_ble_eq_true rfl), (Nat.le_of_ble_eq_true rfl)⟩ rfl (fun H hp hz hf => ?_)
  have h0 := h0.fr hf (fun _ _ z => z)
  have hO := hO.fr (j := 0) (by decide) hf nF.no
  refine y_if_eq C 20 dX6_number_5 (by decide) (fun h => absurd h (ixf_t (n := 5) hw5 (by decide))) (fun _ => ?_)
  refine y_aload_n C 0 dX6_number_8 rfl rfl ?_
  refine y_get6 C hO.1 0 (by decide) q12 rfl rfl dX6_number_9 ?_
  refine y_get2 C (dk_0 h0) 2 (by decide) q345 rfl rfl dX6_number_12 ?_
  refine y_iload_n C 1 dX6_number_15 rfl rfl ?_
  refine y_iald C (dk_2 h0) w rfl hw5 (by decide) dX6_number_16 ?_
  refine y_goto C 21 dX6_number_17 (by decide) ?_
  exact y_iret C hr rfl (hO.cl0 h0) dX6_number_21
def rm_X6_part : Room := { frames := 2, cells := 0, slots := 0, locals := 46 }
set_option maxRecDepth 100000 in
set_option maxHeartbeats 4000000 in
theorem c_X6_part_0 (g : KG) (B0 : Nat) (l : Launch) (b : Nat) (X : SV) (hv : sv X) (p : Nat) (hp6 : p < 6) : Mt g B0 l yX6_part cX6_part 3 (some .int) rm_X6_part [.ref b, .int (nI p), .int (nI 0)] (iv b 152) (sX g b X) (some (.int ((X.2.2.2 0).1 4 p))) (sX g b X) 0 0 := by
  refine Mt_of RX6 (by decide) rfl [(0, .ref b), (1, .int (nI p)), (2, .int (nI 0))] rfl (Nat.le_of_ble_eq_true rfl) ?_
  intro pr e s m args below meth c C hr hin hd
  have hO := hd.ex 0
  have h0 := hd.d0
  refine y_iload_n C 1 dX6_part_0 rfl rfl ?_
  refine y_bipush C (6) dX6_part_1 (by decide) ?_
  refine y_callS C [.int (nI p), .int (6 : Int32)] (c_X6_isIndex g B0 l (nI p) (6 : Int32)) 2 (wSin q141 q142 q2 q143) hs_X6_isIndex ⟨(Nat.le_of_ble_eq_true rfl), (Nat.le_of_ble_eq_true rfl)⟩ ⟨rfl, rfl⟩ trivial nF.no rfl rfl (Nat.le_of_ble_eq_true rfl) dX6_part_3 ⟨(Nat.le_of_ble_eq_true rfl), (Nat.le_of_ble_eq_true rfl)⟩ rfl (fun H hp hz hf => ?_)
  have h0 := h0.fr hf (fun _ _ z => z)
  have hO := hO.fr (j := 0) (by decide) hf nF.no
  refine y_if_ne C 11 dX6_part_6 (by decide) (fun _ => ?_) (fun h => absurd h (ixf_t (n := 6) hp6 (by decide)))
  refine y_iload_n C 2 dX6_part_11 rfl rfl ?_
  refine y_tableIn C 52 dX6_part_12 (by decide) (by decide) rfl (by decide) ?_
  refine y_aload_n C 0 dX6_part_52 rfl rfl ?_
  refine y_get6 C hO.1 0 (by decide) q12 rfl rfl dX6_part_53 ?_
  refine y_get2 C (dk_0 h0) 3 (by decide) q99 rfl rfl dX6_part_56 ?_
  refine y_get5 C (dk_3 h0) 0 (by decide) q338 rfl rfl dX6_part_59 ?_
  refine y_iload_n C 1 dX6_part_62 rfl rfl ?_
  refine y_iald C (dk_4 h0) p rfl hp6 (by decide) dX6_part_63 ?_
  exact y_iret C hr rfl (hO.cl0 h0) dX6_part_64
set_option maxRecDepth 100000 in
set_option maxHeartbeats 4000000 in
theorem c_X6_part_2 (g : KG) (B0 : Nat) (l : Launch) (b : Nat) (X : SV) (hv : sv X) (p : Nat) (hp6 : p < 6) : Mt g B0 l yX6_part cX6_part 3 (some .int) rm_X6_part [.ref b, .int (nI p), .int (nI 2)] (iv b 152) (sX g b X) (some (.int ((X.2.2.2 0).1 6 p))) (sX g b X) 0 0 := by
  refine Mt_of RX6 (by decide) rfl [(0, .ref b), (1, .int (nI p)), (2, .int (nI 2))] rfl (Nat.le_of_ble_eq_true rfl) ?_
  intro pr e s m args below meth c C hr hin hd
  have hO := hd.ex 0
  have h0 := hd.d0
  refine y_iload_n C 1 dX6_part_0 rfl rfl ?_
  refine y_bipush C (6) dX6_part_1 (by decide) ?_
  refine y_callS C [.int (nI p), .int (6 : Int32)] (c_X6_isIndex g B0 l (nI p) (6 : Int32)) 2 (wSin q141 q142 q2 q143) hs_X6_isIndex ⟨(Nat.le_of_ble_eq_true rfl), (Nat.le_of_ble_eq_true rfl)⟩ ⟨rfl, rfl⟩ trivial nF.no rfl rfl (Nat.le_of_ble_eq_true rfl) dX6_part_3 ⟨(Nat.le_of_ble_eq_true rfl), (Nat.le_of_ble_eq_true rfl)⟩ rfl (fun H hp hz hf => ?_)
  have h0 := h0.fr hf (fun _ _ z => z)
  have hO := hO.fr (j := 0) (by decide) hf nF.no
  refine y_if_ne C 11 dX6_part_6 (by decide) (fun _ => ?_) (fun h => absurd h (ixf_t (n := 6) hp6 (by decide)))
  refine y_iload_n C 2 dX6_part_11 rfl rfl ?_
  refine y_tableIn C 78 dX6_part_12 (by decide) (by decide) rfl (by decide) ?_
  refine y_aload_n C 0 dX6_part_78 rfl rfl ?_
  refine y_get6 C hO.1 0 (by decide) q12 rfl rfl dX6_part_79 ?_
  refine y_get2 C (dk_0 h0) 3 (by decide) q99 rfl rfl dX6_part_82 ?_
  refine y_get5 C (dk_3 h0) 2 (by decide) q302 rfl rfl dX6_part_85 ?_
  refine y_iload_n C 1 dX6_part_88 rfl rfl ?_
  refine y_iald C (dk_6 h0) p rfl hp6 (by decide) dX6_part_89 ?_
  exact y_iret C hr rfl (hO.cl0 h0) dX6_part_90
set_option maxRecDepth 100000 in
set_option maxHeartbeats 4000000 in
theorem c_X6_part_3 (g : KG) (B0 : Nat) (l : Launch) (b : Nat) (X : SV) (hv : sv X) (p : Nat) (hp6 : p < 6) : Mt g B0 l yX6_part cX6_part 3 (some .int) rm_X6_part [.ref b, .int (nI p), .int (nI 3)] (iv b 152) (sX g b X) (some (.int ((X.2.2.2 0).1 7 p))) (sX g b X) 0 0 := by
  refine Mt_of RX6 (by decide) rfl [(0, .ref b), (1, .int (nI p)), (2, .int (nI 3))] rfl (Nat.le_of_ble_eq_true rfl) ?_
  intro pr e s m args below meth c C hr hin hd
  have hO := hd.ex 0
  have h0 := hd.d0
  refine y_iload_n C 1 dX6_part_0 rfl rfl ?_
  refine y_bipush C (6) dX6_part_1 (by decide) ?_
  refine y_callS C [.int (nI p), .int (6 : Int32)] (c_X6_isIndex g B0 l (nI p) (6 : Int32)) 2 (wSin q141 q142 q2 q143) hs_X6_isIndex ⟨(Nat.le_of_ble_eq_true rfl), (Nat.le_of_ble_eq_true rfl)⟩ ⟨rfl, rfl⟩ trivial nF.no rfl rfl (Nat.le_of_ble_eq_true rfl) dX6_part_3 ⟨(Nat.le_of_ble_eq_true rfl), (Nat.le_of_ble_eq_true rfl)⟩ rfl (fun H hp hz hf => ?_)
  have h0 := h0.fr hf (fun _ _ z => z)
  have hO := hO.fr (j := 0) (by decide) hf nF.no
  refine y_if_ne C 11 dX6_part_6 (by decide) (fun _ => ?_) (fun h => absurd h (ixf_t (n := 6) hp6 (by decide)))
  refine y_iload_n C 2 dX6_part_11 rfl rfl ?_
  refine y_tableIn C 91 dX6_part_12 (by decide) (by decide) rfl (by decide) ?_
  refine y_aload_n C 0 dX6_part_91 rfl rfl ?_
  refine y_get6 C hO.1 0 (by decide) q12 rfl rfl dX6_part_92 ?_
  refine y_get2 C (dk_0 h0) 3 (by decide) q99 rfl rfl dX6_part_95 ?_
  refine y_get5 C (dk_3 h0) 3 (by decide) q399 rfl rfl dX6_part_98 ?_
  refine y_iload_n C 1 dX6_part_101 rfl rfl ?_
  refine y_iald C (dk_7 h0) p rfl hp6 (by decide) dX6_part_102 ?_
  exact y_iret C hr rfl (hO.cl0 h0) dX6_part_103
set_option maxRecDepth 100000 in
set_option maxHeartbeats 4000000 in
theorem c_X6_part_4 (g : KG) (B0 : Nat) (l : Launch) (b : Nat) (X : SV) (hv : sv X) (p : Nat) (hp6 : p < 6) : Mt g B0 l yX6_part cX6_part 3 (some .int) rm_X6_part [.ref b, .int (nI p), .int (nI 4)] (iv b 152) (sX g b X) (some (.int (oo (X.2.2.2 0) p (no (X.2.2.2 0))))) (sX g b X) 0 0 := by
  refine Mt_of RX6 (by decide) rfl [(0, .ref b), (1, .int (nI p)), (2, .int (nI 4))] rfl (Nat.le_of_ble_eq_true rfl) ?_
  intro pr e s m args below meth c C hr hin hd
  have hO := hd.ex 0
  have h0 := hd.d0
  refine y_iload_n C 1 dX6_part_0 rfl rfl ?_
  refine y_bipush C (6) dX6_part_1 (by decide) ?_
  refine y_callS C [.int (nI p), .int (6 : Int32)] (c_X6_isIndex g B0 l (nI p) (6 : Int32)) 2 (wSin q141 q142 q2 q143) hs_X6_isIndex ⟨(Nat.le_of_ble_eq_true rfl), (Nat.le_of_ble_eq_true rfl)⟩ ⟨rfl, rfl⟩ trivial nF.no rfl rfl (Nat.le_of_ble_eq_true rfl) dX6_part_3 ⟨(Nat.le_of_ble_eq_true rfl), (Nat.le_of_ble_eq_true rfl)⟩ rfl (fun H hp hz hf => ?_)
  have h0 := h0.fr hf (fun _ _ z => z)
  have hO := hO.fr (j := 0) (by decide) hf nF.no
  refine y_if_ne C 11 dX6_part_6 (by decide) (fun _ => ?_) (fun h => absurd h (ixf_t (n := 6) hp6 (by decide)))
  refine y_iload_n C 2 dX6_part_11 rfl rfl ?_
  refine y_tableIn C 104 dX6_part_12 (by decide) (by decide) rfl (by decide) ?_
  refine y_aload_n C 0 dX6_part_104 rfl rfl ?_
  refine y_get6 C hO.1 0 (by decide) q12 rfl rfl dX6_part_105 ?_
  refine y_get2 C (dk_0 h0) 3 (by decide) q99 rfl rfl dX6_part_108 ?_
  refine y_iload_n C 1 dX6_part_111 rfl rfl ?_
  refine y_callV C [.int (nI p)] (c_X5_onOrder g B0 l (b + 1) (X.2.2.2 0) p (hv.2 0 (by decide)).1) RX5 1 (wVin q400 q401 q402 q39 q403) hy_X5_onOrder ⟨(Nat.le_of_ble_eq_true rfl), (Nat.le_of_ble_eq_true rfl)⟩ ⟨rfl, rfl⟩ (rcv C.2.2.2.2.2.1 (dk_3 h0) rfl) h0 (adr_iv (j := 0) (by decide)) rfl rfl (Nat.le_of_ble_eq_true rfl) dX6_part_112 ⟨(Nat.le_of_ble_eq_true rfl), (Nat.le_of_ble_eq_true rfl)⟩ rfl (fun H hp hz hf => ?_)
  have h0 := hp
  have hO := hO.fr (j := 0) (by decide) hf (fun _ z => z)
  exact y_iret C hr rfl (hO.cl0 h0) dX6_part_115
set_option maxRecDepth 100000 in
set_option maxHeartbeats 4000000 in
theorem c_X6_part_5 (g : KG) (B0 : Nat) (l : Launch) (b : Nat) (X : SV) (hv : sv X) (p : Nat) (hp6 : p < 6) : Mt g B0 l yX6_part cX6_part 3 (some .int) rm_X6_part [.ref b, .int (nI p), .int (nI 5)] (iv b 152) (sX g b X) (some (.int (lko (X.2.2.2 0) p))) (sX g b X) 0 0 := by
  refine Mt_of RX6 (by decide) rfl [(0, .ref b), (1, .int (nI p)), (2, .int (nI 5))] rfl (Nat.le_of_ble_eq_true rfl) ?_
  intro pr e s m args below meth c C hr hin hd
  have hO := hd.ex 0
  have h0 := hd.d0
  refine y_iload_n C 1 dX6_part_0 rfl rfl ?_
  refine y_bipush C (6) dX6_part_1 (by decide) ?_
  refine y_callS C [.int (nI p), .int (6 : Int32)] (c_X6_isIndex g B0 l (nI p) (6 : Int32)) 2 (wSin q141 q142 q2 q143) hs_X6_isIndex ⟨(Nat.le_of_ble_eq_true rfl), (Nat.le_of_ble_eq_true rfl)⟩ ⟨rfl, rfl⟩ trivial nF.no rfl rfl (Nat.le_of_ble_eq_true rfl) dX6_part_3 ⟨(Nat.le_of_ble_eq_true rfl), (Nat.le_of_ble_eq_true rfl)⟩ rfl (fun H hp hz hf => ?_)
  have h0 := h0.fr hf (fun _ _ z => z)
  have hO := hO.fr (j := 0) (by decide) hf nF.no
  refine y_if_ne C 11 dX6_part_6 (by decide) (fun _ => ?_) (fun h => absurd h (ixf_t (n := 6) hp6 (by decide)))
  refine y_iload_n C 2 dX6_part_11 rfl rfl ?_
  refine y_tableIn C 116 dX6_part_12 (by decide) (by decide) rfl (by decide) ?_
  refine y_aload_n C 0 dX6_part_116 rfl rfl ?_
  refine y_get6 C hO.1 0 (by decide) q12 rfl rfl dX6_part_117 ?_
  refine y_iload_n C 1 dX6_part_120 rfl rfl ?_
  refine y_callV C [.int (nI p)] (c_X2_lackingOf g B0 l (b + 1) (X.2.2.2 0) p hp6 (hv.2 0 (by decide)).1) RX2 1 (wVin q404 q405 q406 q11 q407) hy_X2_lackingOf ⟨(Nat.le_of_ble_eq_true rfl), (Nat.le_of_ble_eq_true rfl)⟩ ⟨rfl, rfl⟩ (rcv C.2.2.2.2.2.1 (dk_0 h0) rfl) h0 (adr_iv (j := 0) (by decide)) rfl rfl (Nat.le_of_ble_eq_true rfl) dX6_part_121 ⟨(Nat.le_of_ble_eq_true rfl), (Nat.le_of_ble_eq_true rfl)⟩ rfl (fun H hp hz hf => ?_)
  have h0 := hp
  have hO := hO.fr (j := 0) (by decide) hf (fun _ z => z)
  exact y_iret C hr rfl (hO.cl0 h0) dX6_part_124
def rm_X6_costOf : Room := { frames := 3, cells := 0, slots := 0, locals := 67 }
set_option maxRecDepth 100000 in
set_option maxHeartbeats 4000000 in
theorem c_X6_costOf (g : KG) (B0 : Nat) (l : Launch) (b : Nat) (X : SV) (hv : sv X) (f : Nat) (hf0 : f < 5) : Mt g B0 l yX6_costOf cX6_costOf 2 (some .int) rm_X6_costOf [.ref b, .int (nI f)] (iv b 152) (sX g b X) (some (.int (cost (X.2.2.2 0) f))) (sX g b X) 0 0 := by
  refine Mt_of RX6 (by decide) rfl [(0, .ref b), (1, .int (nI f))] rfl (Nat.le_of_ble_eq_true rfl) ?_
  intro pr e s m args below meth c C hr hin hd
  have hO := hd.ex 0
  have h0 := hd.d0
  refine y_iload_n C 1 dX6_costOf_0 rfl rfl ?_
  refine y_iconst C (5) dX6_costOf_1 (by decide) ?_
  refine y_callS C [.int (nI f), .int (5 : Int32)] (c_X6_isIndex g B0 l (nI f) (5 : Int32)) 2 (wSin q141 q142 q2 q143) hs_X6_isIndex ⟨(Nat.le_of_ble_eq_true rfl), (Nat.le_of_ble_eq_true rfl)⟩ ⟨rfl, rfl⟩ trivial nF.no rfl rfl (Nat.le_of_ble_eq_true rfl) dX6_costOf_2 ⟨(Nat.le_of_ble_eq_true rfl), (Nat.le_of_ble_eq_true rfl)⟩ rfl (fun H hp hz hf => ?_)
  have h0 := h0.fr hf (fun _ _ z => z)
  have hO := hO.fr (j := 0) (by decide) hf nF.no
  refine y_if_eq C 19 dX6_costOf_5 (by decide) (fun h => absurd h (ixf_t (n := 5) hf0 (by decide))) (fun _ => ?_)
  refine y_aload_n C 0 dX6_costOf_8 rfl rfl ?_
  refine y_get6 C hO.1 0 (by decide) q12 rfl rfl dX6_costOf_9 ?_
  refine y_iload_n C 1 dX6_costOf_12 rfl rfl ?_
  refine y_callV C [.int (nI f)] (c_X2_costNow g B0 l (b + 1) (X.2.2.2 0) f hf0 (hv.2 0 (by decide)).2) RX2 1 (wVin q289 q244 q245 q11 q246) hy_X2_costNow ⟨(Nat.le_of_ble_eq_true rfl), (Nat.le_of_ble_eq_true rfl)⟩ ⟨rfl, rfl⟩ (rcv C.2.2.2.2.2.1 (dk_0 h0) rfl) h0 (adr_iv (j := 0) (by decide)) rfl rfl (Nat.le_of_ble_eq_true rfl) dX6_costOf_13 ⟨(Nat.le_of_ble_eq_true rfl), (Nat.le_of_ble_eq_true rfl)⟩ rfl (fun H hp hz hf => ?_)
  have h0 := hp
  have hO := hO.fr (j := 0) (by decide) hf (fun _ z => z)
  refine y_goto C 20 dX6_costOf_16 (by decide) ?_
  exact y_iret C hr rfl (hO.cl0 h0) dX6_costOf_20
def tFee (d : DV) (k : Nat) : Int32 := if isR d k = 0 then -5 else sfee d k
def rm_X6_set : Room := { frames := 2, cells := 0, slots := 0, locals := 42 }
set_option maxRecDepth 100000 in
set_option maxHeartbeats 4000000 in
theorem c_X6_set_0 (g : KG) (B0 : Nat) (l : Launch) (b : Nat) (X : SV) (hv : sv X) (k : Nat) (hkn : k < nm (X.2.2.2 0)) : Mt g B0 l yX6_set cX6_set 3 (some .int) rm_X6_set [.ref b, .int (nI k), .int (nI 0)] (iv b 152) (sX g b X) (some (.int ((X.2.2.2 0).1 12 k))) (sX g b X) 0 0 := by
  refine Mt_of RX6 (by decide) rfl [(0, .ref b), (1, .int (nI k)), (2, .int (nI 0))] rfl (Nat.le_of_ble_eq_true rfl) ?_
  intro pr e s m args below meth c C hr hin hd
  have hO := hd.ex 0
  have h0 := hd.d0
  refine y_aload_n C 0 dX6_set_0 rfl rfl ?_
  refine y_iload_n C 1 dX6_set_1 rfl rfl ?_
  refine y_callV C [.int (nI k)] (c_X6_isSet g B0 l b X hv k) RX6 1 (wVin q137 q138 q139 q2 q140) hy_X6_isSet ⟨(Nat.le_of_ble_eq_true rfl), (Nat.le_of_ble_eq_true rfl)⟩ ⟨rfl, rfl⟩ (rcv C.2.2.2.2.2.1 hO.1 rfl) (hO.cl0 h0) (fun _ h => h) rfl rfl (Nat.le_of_ble_eq_true rfl) dX6_set_2 ⟨(Nat.le_of_ble_eq_true rfl), (Nat.le_of_ble_eq_true rfl)⟩ rfl (fun H hp hz hf => ?_)
  have hO := hp.ex 0
  have h0 := hp.d0
  refine y_if_ne C 10 dX6_set_5 (by decide) (fun _ => ?_) (fun h => absurd h (isS_t hv hkn))
  refine y_iload_n C 2 dX6_set_10 rfl rfl ?_
  refine y_tableIn C 60 dX6_set_11 (by decide) (by decide) rfl (by decide) ?_
  refine y_aload_n C 0 dX6_set_60 rfl rfl ?_
  refine y_get6 C hO.1 0 (by decide) q12 rfl rfl dX6_set_61 ?_
  refine y_get2 C (dk_0 h0) 4 (by decide) q96 rfl rfl dX6_set_64 ?_
  refine y_get4 C (dk_11 h0) 1 (by decide) q287 rfl rfl dX6_set_67 ?_
  refine y_iload_n C 1 dX6_set_70 rfl rfl ?_
  refine y_iald C (dk_12 h0) k rfl (Nat.lt_of_lt_of_le hkn (hv.2 0 (by decide)).1.2.1.2) (by decide) dX6_set_71 ?_
  exact y_iret C hr rfl (hO.cl0 h0) dX6_set_72
set_option maxRecDepth 100000 in
set_option maxHeartbeats 4000000 in
theorem c_X6_set_1 (g : KG) (B0 : Nat) (l : Launch) (b : Nat) (X : SV) (hv : sv X) (k : Nat) (hkn : k < nm (X.2.2.2 0)) : Mt g B0 l yX6_set cX6_set 3 (some .int) rm_X6_set [.ref b, .int (nI k), .int (nI 1)] (iv b 152) (sX g b X) (some (.int ((X.2.2.2 0).1 13 k))) (sX g b X) 0 0 := by
  refine Mt_of RX6 (by decide) rfl [(0, .ref b), (1, .int (nI k)), (2, .int (nI 1))] rfl (Nat.le_of_ble_eq_true rfl) ?_
  intro pr e s m args below meth c C hr hin hd
  have hO := hd.ex 0
  have h0 := hd.d0
  refine y_aload_n C 0 dX6_set_0 rfl rfl ?_
  refine y_iload_n C 1 dX6_set_1 rfl rfl ?_
  refine y_callV C [.int (nI k)] (c_X6_isSet g B0 l b X hv k) RX6 1 (wVin q137 q138 q139 q2 q140) hy_X6_isSet ⟨(Nat.le_of_ble_eq_true rfl), (Nat.le_of_ble_eq_true rfl)⟩ ⟨rfl, rfl⟩ (rcv C.2.2.2.2.2.1 hO.1 rfl) (hO.cl0 h0) (fun _ h => h) rfl rfl (Nat.le_of_ble_eq_true rfl) dX6_set_2 ⟨(Nat.le_of_ble_eq_true rfl), (Nat.le_of_ble_eq_true rfl)⟩ rfl (fun H hp hz hf => ?_)
  have hO := hp.ex 0
  have h0 := hp.d0
  refine y_if_ne C 10 dX6_set_5 (by decide) (fun _ => ?_) (fun h => absurd h (isS_t hv hkn))
  refine y_iload_n C 2 dX6_set_10 rfl rfl ?_
  refine y_tableIn C 73 dX6_set_11 (by decide) (by decide) rfl (by decide) ?_
  refine y_aload_n C 0 dX6_set_73 rfl rfl ?_
  refine y_get6 C hO.1 0 (by decide) q12 rfl rfl dX6_set_74 ?_
  refine y_get2 C (dk_0 h0) 4 (by decide) q96 rfl rfl dX6_set_77 ?_
  refine y_get4 C (dk_11 h0) 2 (by decide) q384 rfl rfl dX6_set_80 ?_
  refine y_iload_n C 1 dX6_set_83 rfl rfl ?_
  refine y_iald C (dk_13 h0) k rfl (Nat.lt_of_lt_of_le hkn (hv.2 0 (by decide)).1.2.1.2) (by decide) dX6_set_84 ?_
  exact y_iret C hr rfl (hO.cl0 h0) dX6_set_85
set_option maxRecDepth 100000 in
set_option maxHeartbeats 4000000 in
theorem c_X6_set_2 (g : KG) (B0 : Nat) (l : Launch) (b : Nat) (X : SV) (hv : sv X) (k : Nat) (hkn : k < nm (X.2.2.2 0)) : Mt g B0 l yX6_set cX6_set 3 (some .int) rm_X6_set [.ref b, .int (nI k), .int (nI 2)] (iv b 152) (sX g b X) (some (.int ((X.2.2.2 0).1 14 k))) (sX g b X) 0 0 := by
  refine Mt_of RX6 (by decide) rfl [(0, .ref b), (1, .int (nI k)), (2, .int (nI 2))] rfl (Nat.le_of_ble_eq_true rfl) ?_
  intro pr e s m args below meth c C hr hin hd
  have hO := hd.ex 0
  have h0 := hd.d0
  refine y_aload_n C 0 dX6_set_0 rfl rfl ?_
  refine y_iload_n C 1 dX6_set_1 rfl rfl ?_
  refine y_callV C [.int (nI k)] (c_X6_isSet g B0 l b X hv k) RX6 1 (wVin q137 q138 q139 q2 q140) hy_X6_isSet ⟨(Nat.le_of_ble_eq_true rfl), (Nat.le_of_ble_eq_true rfl)⟩ ⟨rfl, rfl⟩ (rcv C.2.2.2.2.2.1 hO.1 rfl) (hO.cl0 h0) (fun _ h => h) rfl rfl (Nat.le_of_ble_eq_true rfl) dX6_set_2 ⟨(Nat.le_of_ble_eq_true rfl), (Nat.le_of_ble_eq_true rfl)⟩ rfl (fun H hp hz hf => ?_)
  have hO := hp.ex 0
  have h0 := hp.d0
  refine y_if_ne C 10 dX6_set_5 (by decide) (fun _ => ?_) (fun h => absurd h (isS_t hv hkn))
  refine y_iload_n C 2 dX6_set_10 rfl rfl ?_
  refine y_tableIn C 86 dX6_set_11 (by decide) (by decide) rfl (by decide) ?_
  refine y_aload_n C 0 dX6_set_86 rfl rfl ?_
  refine y_get6 C hO.1 0 (by decide) q12 rfl rfl dX6_set_87 ?_
  refine y_get2 C (dk_0 h0) 4 (by decide) q96 rfl rfl dX6_set_90 ?_
  refine y_get4 C (dk_11 h0) 3 (by decide) q288 rfl rfl dX6_set_93 ?_
  refine y_iload_n C 1 dX6_set_96 rfl rfl ?_
  refine y_iald C (dk_14 h0) k rfl (Nat.lt_of_lt_of_le hkn (hv.2 0 (by decide)).1.2.1.2) (by decide) dX6_set_97 ?_
  exact y_iret C hr rfl (hO.cl0 h0) dX6_set_98
set_option maxRecDepth 100000 in
set_option maxHeartbeats 4000000 in
theorem c_X6_set_3 (g : KG) (B0 : Nat) (l : Launch) (b : Nat) (X : SV) (hv : sv X) (k : Nat) (hkn : k < nm (X.2.2.2 0)) : Mt g B0 l yX6_set cX6_set 3 (some .int) rm_X6_set [.ref b, .int (nI k), .int (nI 3)] (iv b 152) (sX g b X) (some (.int ((X.2.2.2 0).1 15 k))) (sX g b X) 0 0 := by
  refine Mt_of RX6 (by decide) rfl [(0, .ref b), (1, .int (nI k)), (2, .int (nI 3))] rfl (Nat.le_of_ble_eq_true rfl) ?_
  intro pr e s m args below meth c C hr hin hd
  have hO := hd.ex 0
  have h0 := hd.d0
  refine y_aload_n C 0 dX6_set_0 rfl rfl ?_
  refine y_iload_n C 1 dX6_set_1 rfl rfl ?_
  refine y_callV C [.int (nI k)] (c_X6_isSet g B0 l b X hv k) RX6 1 (wVin q137 q138 q139 q2 q140) hy_X6_isSet ⟨(Nat.le_of_ble_eq_true rfl), (Nat.le_of_ble_eq_true rfl)⟩ ⟨rfl, rfl⟩ (rcv C.2.2.2.2.2.1 hO.1 rfl) (hO.cl0 h0) (fun _ h => h) rfl rfl (Nat.le_of_ble_eq_true rfl) dX6_set_2 ⟨(Nat.le_of_ble_eq_true rfl), (Nat.le_of_ble_eq_true rfl)⟩ rfl (fun H hp hz hf => ?_)
  have hO := hp.ex 0
  have h0 := hp.d0
  refine y_if_ne C 10 dX6_set_5 (by decide) (fun _ => ?_) (fun h => absurd h (isS_t hv hkn))
  refine y_iload_n C 2 dX6_set_10 rfl rfl ?_
  refine y_tableIn C 99 dX6_set_11 (by decide) (by decide) rfl (by decide) ?_
  refine y_aload_n C 0 dX6_set_99 rfl rfl ?_
  refine y_get6 C hO.1 0 (by decide) q12 rfl rfl dX6_set_100 ?_
  refine y_get2 C (dk_0 h0) 4 (by decide) q96 rfl rfl dX6_set_103 ?_
  refine y_get4 C (dk_11 h0) 4 (by decide) q385 rfl rfl dX6_set_106 ?_
  refine y_iload_n C 1 dX6_set_109 rfl rfl ?_
  refine y_iald C (dk_15 h0) k rfl (Nat.lt_of_lt_of_le hkn (hv.2 0 (by decide)).1.2.1.2) (by decide) dX6_set_110 ?_
  exact y_iret C hr rfl (hO.cl0 h0) dX6_set_111
set_option maxRecDepth 100000 in
set_option maxHeartbeats 4000000 in
theorem c_X6_set_4 (g : KG) (B0 : Nat) (l : Launch) (b : Nat) (X : SV) (hv : sv X) (k : Nat) (hkn : k < nm (X.2.2.2 0)) : Mt g B0 l yX6_set cX6_set 3 (some .int) rm_X6_set [.ref b, .int (nI k), .int (nI 4)] (iv b 152) (sX g b X) (some (.int ((X.2.2.2 0).1 16 k))) (sX g b X) 0 0 := by
  refine Mt_of RX6 (by decide) rfl [(0, .ref b), (1, .int (nI k)), (2, .int (nI 4))] rfl (Nat.le_of_ble_eq_true rfl) ?_
  intro pr e s m args below meth c C hr hin hd
  have hO := hd.ex 0
  have h0 := hd.d0
  refine y_aload_n C 0 dX6_set_0 rfl rfl ?_
  refine y_iload_n C 1 dX6_set_1 rfl rfl ?_
  refine y_callV C [.int (nI k)] (c_X6_isSet g B0 l b X hv k) RX6 1 (wVin q137 q138 q139 q2 q140) hy_X6_isSet ⟨(Nat.le_of_ble_eq_true rfl), (Nat.le_of_ble_eq_true rfl)⟩ ⟨rfl, rfl⟩ (rcv C.2.2.2.2.2.1 hO.1 rfl) (hO.cl0 h0) (fun _ h => h) rfl rfl (Nat.le_of_ble_eq_true rfl) dX6_set_2 ⟨(Nat.le_of_ble_eq_true rfl), (Nat.le_of_ble_eq_true rfl)⟩ rfl (fun H hp hz hf => ?_)
  have hO := hp.ex 0
  have h0 := hp.d0
  refine y_if_ne C 10 dX6_set_5 (by decide) (fun _ => ?_) (fun h => absurd h (isS_t hv hkn))
  refine y_iload_n C 2 dX6_set_10 rfl rfl ?_
  refine y_tableIn C 112 dX6_set_11 (by decide) (by decide) rfl (by decide) ?_
  refine y_aload_n C 0 dX6_set_112 rfl rfl ?_
  refine y_get6 C hO.1 0 (by decide) q12 rfl rfl dX6_set_113 ?_
  refine y_get2 C (dk_0 h0) 4 (by decide) q96 rfl rfl dX6_set_116 ?_
  refine y_get4 C (dk_11 h0) 5 (by decide) q386 rfl rfl dX6_set_119 ?_
  refine y_iload_n C 1 dX6_set_122 rfl rfl ?_
  refine y_iald C (dk_16 h0) k rfl (Nat.lt_of_lt_of_le hkn (hv.2 0 (by decide)).1.2.1.2) (by decide) dX6_set_123 ?_
  exact y_iret C hr rfl (hO.cl0 h0) dX6_set_124
set_option maxRecDepth 100000 in
set_option maxHeartbeats 4000000 in
theorem c_X6_set_5 (g : KG) (B0 : Nat) (l : Launch) (b : Nat) (X : SV) (hv : sv X) (k : Nat) (hkn : k < nm (X.2.2.2 0)) : Mt g B0 l yX6_set cX6_set 3 (some .int) rm_X6_set [.ref b, .int (nI k), .int (nI 5)] (iv b 152) (sX g b X) (some (.int ((X.2.2.2 0).1 17 k))) (sX g b X) 0 0 := by
  refine Mt_of RX6 (by decide) rfl [(0, .ref b), (1, .int (nI k)), (2, .int (nI 5))] rfl (Nat.le_of_ble_eq_true rfl) ?_
  intro pr e s m args below meth c C hr hin hd
  have hO := hd.ex 0
  have h0 := hd.d0
  refine y_aload_n C 0 dX6_set_0 rfl rfl ?_
  refine y_iload_n C 1 dX6_set_1 rfl rfl ?_
  refine y_callV C [.int (nI k)] (c_X6_isSet g B0 l b X hv k) RX6 1 (wVin q137 q138 q139 q2 q140) hy_X6_isSet ⟨(Nat.le_of_ble_eq_true rfl), (Nat.le_of_ble_eq_true rfl)⟩ ⟨rfl, rfl⟩ (rcv C.2.2.2.2.2.1 hO.1 rfl) (hO.cl0 h0) (fun _ h => h) rfl rfl (Nat.le_of_ble_eq_true rfl) dX6_set_2 ⟨(Nat.le_of_ble_eq_true rfl), (Nat.le_of_ble_eq_true rfl)⟩ rfl (fun H hp hz hf => ?_)
  have hO := hp.ex 0
  have h0 := hp.d0
  refine y_if_ne C 10 dX6_set_5 (by decide) (fun _ => ?_) (fun h => absurd h (isS_t hv hkn))
  refine y_iload_n C 2 dX6_set_10 rfl rfl ?_
  refine y_tableIn C 125 dX6_set_11 (by decide) (by decide) rfl (by decide) ?_
  refine y_aload_n C 0 dX6_set_125 rfl rfl ?_
  refine y_get6 C hO.1 0 (by decide) q12 rfl rfl dX6_set_126 ?_
  refine y_get2 C (dk_0 h0) 4 (by decide) q96 rfl rfl dX6_set_129 ?_
  refine y_get4 C (dk_11 h0) 6 (by decide) q317 rfl rfl dX6_set_132 ?_
  refine y_iload_n C 1 dX6_set_135 rfl rfl ?_
  refine y_iald C (dk_17 h0) k rfl (Nat.lt_of_lt_of_le hkn (hv.2 0 (by decide)).1.2.1.2) (by decide) dX6_set_136 ?_
  exact y_iret C hr rfl (hO.cl0 h0) dX6_set_137
set_option maxRecDepth 100000 in
set_option maxHeartbeats 4000000 in
theorem c_X6_set_6 (g : KG) (B0 : Nat) (l : Launch) (b : Nat) (X : SV) (hv : sv X) (k : Nat) (hkn : k < nm (X.2.2.2 0)) : Mt g B0 l yX6_set cX6_set 3 (some .int) rm_X6_set [.ref b, .int (nI k), .int (nI 6)] (iv b 152) (sX g b X) (some (.int ((X.2.2.2 0).1 18 k))) (sX g b X) 0 0 := by
  refine Mt_of RX6 (by decide) rfl [(0, .ref b), (1, .int (nI k)), (2, .int (nI 6))] rfl (Nat.le_of_ble_eq_true rfl) ?_
  intro pr e s m args below meth c C hr hin hd
  have hO := hd.ex 0
  have h0 := hd.d0
  refine y_aload_n C 0 dX6_set_0 rfl rfl ?_
  refine y_iload_n C 1 dX6_set_1 rfl rfl ?_
  refine y_callV C [.int (nI k)] (c_X6_isSet g B0 l b X hv k) RX6 1 (wVin q137 q138 q139 q2 q140) hy_X6_isSet ⟨(Nat.le_of_ble_eq_true rfl), (Nat.le_of_ble_eq_true rfl)⟩ ⟨rfl, rfl⟩ (rcv C.2.2.2.2.2.1 hO.1 rfl) (hO.cl0 h0) (fun _ h => h) rfl rfl (Nat.le_of_ble_eq_true rfl) dX6_set_2 ⟨(Nat.le_of_ble_eq_true rfl), (Nat.le_of_ble_eq_true rfl)⟩ rfl (fun H hp hz hf => ?_)
  have hO := hp.ex 0
  have h0 := hp.d0
  refine y_if_ne C 10 dX6_set_5 (by decide) (fun _ => ?_) (fun h => absurd h (isS_t hv hkn))
  refine y_iload_n C 2 dX6_set_10 rfl rfl ?_
  refine y_tableIn C 138 dX6_set_11 (by decide) (by decide) rfl (by decide) ?_
  refine y_aload_n C 0 dX6_set_138 rfl rfl ?_
  refine y_get6 C hO.1 0 (by decide) q12 rfl rfl dX6_set_139 ?_
  refine y_get2 C (dk_0 h0) 4 (by decide) q96 rfl rfl dX6_set_142 ?_
  refine y_get4 C (dk_11 h0) 7 (by decide) q136 rfl rfl dX6_set_145 ?_
  refine y_iload_n C 1 dX6_set_148 rfl rfl ?_
  refine y_iald C (dk_18 h0) k rfl (Nat.lt_of_lt_of_le hkn (hv.2 0 (by decide)).1.2.1.2) (by decide) dX6_set_149 ?_
  exact y_iret C hr rfl (hO.cl0 h0) dX6_set_150
set_option maxRecDepth 100000 in
set_option maxHeartbeats 4000000 in
theorem c_X6_set_7 (g : KG) (B0 : Nat) (l : Launch) (b : Nat) (X : SV) (hv : sv X) (k : Nat) (hkn : k < nm (X.2.2.2 0)) : Mt g B0 l yX6_set cX6_set 3 (some .int) rm_X6_set [.ref b, .int (nI k), .int (nI 7)] (iv b 152) (sX g b X) (some (.int ((X.2.2.2 0).1 19 k))) (sX g b X) 0 0 := by
  refine Mt_of RX6 (by decide) rfl [(0, .ref b), (1, .int (nI k)), (2, .int (nI 7))] rfl (Nat.le_of_ble_eq_true rfl) ?_
  intro pr e s m args below meth c C hr hin hd
  have hO := hd.ex 0
  have h0 := hd.d0
  refine y_aload_n C 0 dX6_set_0 rfl rfl ?_
  refine y_iload_n C 1 dX6_set_1 rfl rfl ?_
  refine y_callV C [.int (nI k)] (c_X6_isSet g B0 l b X hv k) RX6 1 (wVin q137 q138 q139 q2 q140) hy_X6_isSet ⟨(Nat.le_of_ble_eq_true rfl), (Nat.le_of_ble_eq_true rfl)⟩ ⟨rfl, rfl⟩ (rcv C.2.2.2.2.2.1 hO.1 rfl) (hO.cl0 h0) (fun _ h => h) rfl rfl (Nat.le_of_ble_eq_true rfl) dX6_set_2 ⟨(Nat.le_of_ble_eq_true rfl), (Nat.le_of_ble_eq_true rfl)⟩ rfl (fun H hp hz hf => ?_)
  have hO := hp.ex 0
  have h0 := hp.d0
  refine y_if_ne C 10 dX6_set_5 (by decide) (fun _ => ?_) (fun h => absurd h (isS_t hv hkn))
  refine y_iload_n C 2 dX6_set_10 rfl rfl ?_
  refine y_tableIn C 151 dX6_set_11 (by decide) (by decide) rfl (by decide) ?_
  refine y_aload_n C 0 dX6_set_151 rfl rfl ?_
  refine y_get6 C hO.1 0 (by decide) q12 rfl rfl dX6_set_152 ?_
  refine y_get2 C (dk_0 h0) 4 (by decide) q96 rfl rfl dX6_set_155 ?_
  refine y_get4 C (dk_11 h0) 8 (by decide) q387 rfl rfl dX6_set_158 ?_
  refine y_iload_n C 1 dX6_set_161 rfl rfl ?_
  refine y_iald C (dk_19 h0) k rfl (Nat.lt_of_lt_of_le hkn (hv.2 0 (by decide)).1.2.1.2) (by decide) dX6_set_162 ?_
  exact y_iret C hr rfl (hO.cl0 h0) dX6_set_163
set_option maxRecDepth 100000 in
set_option maxHeartbeats 4000000 in
theorem c_X6_set_8 (g : KG) (B0 : Nat) (l : Launch) (b : Nat) (X : SV) (hv : sv X) (k : Nat) (hkn : k < nm (X.2.2.2 0)) : Mt g B0 l yX6_set cX6_set 3 (some .int) rm_X6_set [.ref b, .int (nI k), .int (nI 8)] (iv b 152) (sX g b X) (some (.int (tFee (X.2.2.2 0) k))) (sX g b X) 0 0 := by
  refine Mt_of RX6 (by decide) rfl [(0, .ref b), (1, .int (nI k)), (2, .int (nI 8))] rfl (Nat.le_of_ble_eq_true rfl) ?_
  intro pr e s m args below meth c C hr hin hd
  have hO := hd.ex 0
  have h0 := hd.d0
  refine y_aload_n C 0 dX6_set_0 rfl rfl ?_
  refine y_iload_n C 1 dX6_set_1 rfl rfl ?_
  refine y_callV C [.int (nI k)] (c_X6_isSet g B0 l b X hv k) RX6 1 (wVin q137 q138 q139 q2 q140) hy_X6_isSet ⟨(Nat.le_of_ble_eq_true rfl), (Nat.le_of_ble_eq_true rfl)⟩ ⟨rfl, rfl⟩ (rcv C.2.2.2.2.2.1 hO.1 rfl) (hO.cl0 h0) (fun _ h => h) rfl rfl (Nat.le_of_ble_eq_true rfl) dX6_set_2 ⟨(Nat.le_of_ble_eq_true rfl), (Nat.le_of_ble_eq_true rfl)⟩ rfl (fun H hp hz hf => ?_)
  have hO := hp.ex 0
  have h0 := hp.d0
  refine y_if_ne C 10 dX6_set_5 (by decide) (fun _ => ?_) (fun h => absurd h (isS_t hv hkn))
  refine y_iload_n C 2 dX6_set_10 rfl rfl ?_
  refine y_tableIn C 164 dX6_set_11 (by decide) (by decide) rfl (by decide) ?_
  refine y_aload_n C 0 dX6_set_164 rfl rfl ?_
  refine y_get6 C hO.1 0 (by decide) q12 rfl rfl dX6_set_165 ?_
  refine y_get2 C (dk_0 h0) 4 (by decide) q96 rfl rfl dX6_set_168 ?_
  refine y_iload_n C 1 dX6_set_171 rfl rfl ?_
  refine y_callV C [.int (nI k)] (c_X4_isReady g B0 l (b + 1) (X.2.2.2 0) k (Nat.lt_of_lt_of_le hkn (hv.2 0 (by decide)).1.2.1.2)) RX4 1 (wVin q322 q258 q259 q43 q260) hy_X4_isReady ⟨(Nat.le_of_ble_eq_true rfl), (Nat.le_of_ble_eq_true rfl)⟩ ⟨rfl, rfl⟩ (rcv C.2.2.2.2.2.1 (dk_11 h0) rfl) h0 (adr_iv (j := 0) (by decide)) rfl rfl (Nat.le_of_ble_eq_true rfl) dX6_set_172 ⟨(Nat.le_of_ble_eq_true rfl), (Nat.le_of_ble_eq_true rfl)⟩ rfl (fun H hp hz hf => ?_)
  have h0 := hp
  have hO := hO.fr (j := 0) (by decide) hf (fun _ z => z)
  refine y_if_eq C 189 dX6_set_175 (by decide) (fun h1 => ?_) (fun h1 => ?_)
  · refine y_bipush C (-5) dX6_set_189 (by decide) ?_
    exact y_iret C hr (by first | (rw [tFee, if_pos h1]; done) | (rw [tFee, if_neg h1]; done)) (hO.cl0 h0) dX6_set_191
  · refine y_aload_n C 0 dX6_set_178 rfl rfl ?_
    refine y_get6 C hO.1 0 (by decide) q12 rfl rfl dX6_set_179 ?_
    refine y_iload_n C 1 dX6_set_182 rfl rfl ?_
    refine y_callV C [.int (nI k)] (c_X2_storageFee g B0 l (b + 1) (X.2.2.2 0) k (Nat.lt_of_lt_of_le hkn (hv.2 0 (by decide)).1.2.1.2) (hv.2 0 (by decide)).2) RX2 1 (wVin q388 q330 q331 q11 q332) hy_X2_storageFee ⟨(Nat.le_of_ble_eq_true rfl), (Nat.le_of_ble_eq_true rfl)⟩ ⟨rfl, rfl⟩ (rcv C.2.2.2.2.2.1 (dk_0 h0) rfl) h0 (adr_iv (j := 0) (by decide)) rfl rfl (Nat.le_of_ble_eq_true rfl) dX6_set_183 ⟨(Nat.le_of_ble_eq_true rfl), (Nat.le_of_ble_eq_true rfl)⟩ rfl (fun H hp hz hf => ?_)
    have h0 := hp
    have hO := hO.fr (j := 0) (by decide) hf (fun _ z => z)
    refine y_goto C 191 dX6_set_186 (by decide) ?_
    exact y_iret C hr (by first | (rw [tFee, if_pos h1]; done) | (rw [tFee, if_neg h1]; done)) (hO.cl0 h0) dX6_set_191
def tLks (d : DV) (k : Nat) : Int32 := if d.1 18 k = 2 then lsf d (fl d k) 6 0 else -5
def rm_X6_lacks : Room := { frames := 2, cells := 0, slots := 0, locals := 43 }
set_option maxRecDepth 100000 in
set_option maxHeartbeats 4000000 in
theorem c_X6_lacks (g : KG) (B0 : Nat) (l : Launch) (b : Nat) (X : SV) (hv : sv X) (k : Nat) (hkn : k < nm (X.2.2.2 0)) : Mt g B0 l yX6_lacks cX6_lacks 2 (some .int) rm_X6_lacks [.ref b, .int (nI k)] (iv b 152) (sX g b X) (some (.int (tLks (X.2.2.2 0) k))) (sX g b X) 0 0 := by
  refine Mt_of RX6 (by decide) rfl [(0, .ref b), (1, .int (nI k))] rfl (Nat.le_of_ble_eq_true rfl) ?_
  intro pr e s m args below meth c C hr hin hd
  have hO := hd.ex 0
  have h0 := hd.d0
  refine y_aload_n C 0 dX6_lacks_0 rfl rfl ?_
  refine y_iload_n C 1 dX6_lacks_1 rfl rfl ?_
  refine y_callV C [.int (nI k)] (c_X6_isSet g B0 l b X hv k) RX6 1 (wVin q137 q138 q139 q2 q140) hy_X6_isSet ⟨(Nat.le_of_ble_eq_true rfl), (Nat.le_of_ble_eq_true rfl)⟩ ⟨rfl, rfl⟩ (rcv C.2.2.2.2.2.1 hO.1 rfl) (hO.cl0 h0) (fun _ h => h) rfl rfl (Nat.le_of_ble_eq_true rfl) dX6_lacks_2 ⟨(Nat.le_of_ble_eq_true rfl), (Nat.le_of_ble_eq_true rfl)⟩ rfl (fun H hp hz hf => ?_)
  have hO := hp.ex 0
  have h0 := hp.d0
  refine y_if_ne C 10 dX6_lacks_5 (by decide) (fun _ => ?_) (fun h => absurd h (isS_t hv hkn))
  refine y_aload_n C 0 dX6_lacks_10 rfl rfl ?_
  refine y_get6 C hO.1 0 (by decide) q12 rfl rfl dX6_lacks_11 ?_
  refine y_get2 C (dk_0 h0) 4 (by decide) q96 rfl rfl dX6_lacks_14 ?_
  refine y_get4 C (dk_11 h0) 7 (by decide) q136 rfl rfl dX6_lacks_17 ?_
  refine y_iload_n C 1 dX6_lacks_20 rfl rfl ?_
  refine y_iald C (dk_18 h0) k rfl (Nat.lt_of_lt_of_le hkn (hv.2 0 (by decide)).1.2.1.2) (by decide) dX6_lacks_21 ?_
  refine y_iconst C (2) dX6_lacks_22 (by decide) ?_
  refine y_icmp_eq C 29 dX6_lacks_23 (by decide) (fun h1 => ?_) (fun h1 => ?_)
  · refine y_aload_n C 0 dX6_lacks_29 rfl rfl ?_
    refine y_get6 C hO.1 0 (by decide) q12 rfl rfl dX6_lacks_30 ?_
    refine y_get2 C (dk_0 h0) 3 (by decide) q99 rfl rfl dX6_lacks_33 ?_
    refine y_aload_n C 0 dX6_lacks_36 rfl rfl ?_
    refine y_get6 C hO.1 0 (by decide) q12 rfl rfl dX6_lacks_37 ?_
    refine y_get2 C (dk_0 h0) 4 (by decide) q96 rfl rfl dX6_lacks_40 ?_
    refine y_get4 C (dk_11 h0) 1 (by decide) q287 rfl rfl dX6_lacks_43 ?_
    refine y_iload_n C 1 dX6_lacks_46 rfl rfl ?_
    refine y_iald C (dk_12 h0) k rfl (Nat.lt_of_lt_of_le hkn (hv.2 0 (by decide)).1.2.1.2) (by decide) dX6_lacks_47 ?_
    refine y_top ((hv.2 0 (by decide)).1.2.2.1 _ hkn).1 ?_
    refine y_callV C [.int (nI (fl (X.2.2.2 0) k))] (c_X5_lowestShort g B0 l (b + 1) (X.2.2.2 0) (fl (X.2.2.2 0) k) ((hv.2 0 (by decide)).1.2.2.1 _ hkn).2) RX5 1 (wVin q421 q201 q202 q39 q203) hy_X5_lowestShort ⟨(Nat.le_of_ble_eq_true rfl), (Nat.le_of_ble_eq_true rfl)⟩ ⟨rfl, rfl⟩ (rcv C.2.2.2.2.2.1 (dk_3 h0) rfl) h0 (adr_iv (j := 0) (by decide)) rfl rfl (Nat.le_of_ble_eq_true rfl) dX6_lacks_48 ⟨(Nat.le_of_ble_eq_true rfl), (Nat.le_of_ble_eq_true rfl)⟩ rfl (fun H hp hz hf => ?_)
    have h0 := hp
    have hO := hO.fr (j := 0) (by decide) hf (fun _ z => z)
    exact y_iret C hr (by first | (rw [tLks, if_pos h1]; done) | (rw [tLks, if_neg h1]; done)) (hO.cl0 h0) dX6_lacks_51
  · refine y_bipush C (-5) dX6_lacks_26 (by decide) ?_
    exact y_iret C hr (by first | (rw [tLks, if_pos h1]; done) | (rw [tLks, if_neg h1]; done)) (hO.cl0 h0) dX6_lacks_28
def tMean (d : DV) : UInt32 := if 0 < d.1 20 4 then FP.fdiv (FP.i2f (d.1 20 5)) (FP.i2f (d.1 20 4)) else 2143289344
theorem mean_nan {x y : Int32} (h : 0 < y) : vf_n32 (FP.fdiv (FP.i2f x) (FP.i2f y)) := by
  have hy : y ≠ 0 := fun z => by rw [z] at h; exact absurd h (by decide)
  refine n32 (FP.Core.fdiv_out (FP.Core.FFin.notNaN (FP.Core.i2f_fin x)) (FP.Core.i2f_fin y) (fun z => FP.Core.i2f_ne_zero hy ((FP.Core.zero_bits232 _).mp z)))
def rm_X6_meanDays : Room := { frames := 0, cells := 0, slots := 0, locals := 0 }
set_option maxRecDepth 100000 in
set_option maxHeartbeats 4000000 in
theorem c_X6_meanDays (g : KG) (B0 : Nat) (l : Launch) (b : Nat) (X : SV) (hv : sv X)  : Mt g B0 l yX6_meanDays cX6_meanDays 2 (some .float) rm_X6_meanDays [.ref b] (iv b 152) (sX g b X) (some (.float (tMean (X.2.2.2 0)))) (sX g b X) 0 0 := by
  refine Mt_of RX6 (by decide) rfl [(0, .ref b)] rfl (Nat.le_of_ble_eq_true rfl) ?_
  intro pr e s m args below meth c C hr hin hd
  have hO := hd.ex 0
  have h0 := hd.d0
  refine y_aload_n C 0 dX6_meanDays_0 rfl rfl ?_
  refine y_get6 C hO.1 0 (by decide) q12 rfl rfl dX6_meanDays_1 ?_
  refine y_get2 C (dk_0 h0) 5 (by decide) q101 rfl rfl dX6_meanDays_4 ?_
  refine y_get1 C (dk_20 h0) 4 (by decide) q379 rfl rfl dX6_meanDays_7 ?_
  refine y_istore_n C dX6_meanDays_10 rfl (by decide) rfl ?_
  refine y_iload_n C 0 dX6_meanDays_11 rfl rfl ?_
  refine y_if_gt C 18 dX6_meanDays_12 (by decide) (fun h1 => ?_) (fun h1 => ?_)
  · refine y_aload_n C 1 dX6_meanDays_18 rfl rfl ?_
    refine y_get6 C hO.1 0 (by decide) q12 rfl rfl dX6_meanDays_19 ?_
    refine y_get2 C (dk_0 h0) 5 (by decide) q101 rfl rfl dX6_meanDays_22 ?_
    refine y_get1 C (dk_20 h0) 5 (by decide) q454 rfl rfl dX6_meanDays_25 ?_
    refine y_i2f C dX6_meanDays_28 ?_
    refine y_iload_n C 0 dX6_meanDays_29 rfl rfl ?_
    refine y_i2f C dX6_meanDays_30 ?_
    refine y_fdiv C dX6_meanDays_31 (mean_nan h1) ?_
    exact y_fret C hr (by first | (rw [tMean, if_pos h1]; done) | (rw [tMean, if_neg h1]; done)) (hO.cl0 h0) dX6_meanDays_32
  · refine y_ldcf C q449 dX6_meanDays_15 ?_
    exact y_fret C hr (by first | (rw [tMean, if_pos h1]; done) | (rw [tMean, if_neg h1]; done)) (hO.cl0 h0) dX6_meanDays_17
def rm_X6_count : Room := { frames := 2, cells := 0, slots := 0, locals := 42 }
set_option maxRecDepth 100000 in
set_option maxHeartbeats 4000000 in
theorem c_X6_count_0 (g : KG) (B0 : Nat) (l : Launch) (b : Nat) (X : SV) (hv : sv X)  : Mt g B0 l yX6_count cX6_count 2 (some .int) rm_X6_count [.ref b, .int (nI 0)] (iv b 152) (sX g b X) (some (.int ((X.2.2.2 0).1 0 0))) (sX g b X) 0 0 := by
  refine Mt_of RX6 (by decide) rfl [(0, .ref b), (1, .int (nI 0))] rfl (Nat.le_of_ble_eq_true rfl) ?_
  intro pr e s m args below meth c C hr hin hd
  have hO := hd.ex 0
  have h0 := hd.d0
  refine y_iload_n C 1 dX6_count_0 rfl rfl ?_
  refine y_iconst C (2) dX6_count_1 (by decide) ?_
  refine y_bipush C (9) dX6_count_2 (by decide) ?_
  refine y_callS C [.int (nI 0), .int (2 : Int32), .int (9 : Int32)] (c_X6_isWithin g B0 l (nI 0) (2 : Int32) (9 : Int32)) 3 (wSin q108 q109 q2 q110) hs_X6_isWithin ⟨(Nat.le_of_ble_eq_true rfl), (Nat.le_of_ble_eq_true rfl)⟩ ⟨rfl, rfl⟩ trivial nF.no rfl rfl (Nat.le_of_ble_eq_true rfl) dX6_count_4 ⟨(Nat.le_of_ble_eq_true rfl), (Nat.le_of_ble_eq_true rfl)⟩ rfl (fun H hp hz hf => ?_)
  have h0 := h0.fr hf (fun _ _ z => z)
  have hO := hO.fr (j := 0) (by decide) hf nF.no
  refine y_if_eq C 24 dX6_count_7 (by decide) (fun _ => ?_) (fun h => absurd (by decide) h)
  refine y_iload_n C 1 dX6_count_24 rfl rfl ?_
  refine y_tableIn C 112 dX6_count_25 (by decide) (by decide) rfl (by decide) ?_
  refine y_aload_n C 0 dX6_count_112 rfl rfl ?_
  refine y_get6 C hO.1 0 (by decide) q12 rfl rfl dX6_count_113 ?_
  refine y_get2 C (dk_0 h0) 0 (by decide) q97 rfl rfl dX6_count_116 ?_
  exact y_iret C hr rfl (hO.cl0 h0) dX6_count_119
set_option maxRecDepth 100000 in
set_option maxHeartbeats 4000000 in
theorem c_X6_count_1 (g : KG) (B0 : Nat) (l : Launch) (b : Nat) (X : SV) (hv : sv X)  : Mt g B0 l yX6_count cX6_count 2 (some .int) rm_X6_count [.ref b, .int (nI 1)] (iv b 152) (sX g b X) (some (.int ((X.2.2.2 0).1 11 0))) (sX g b X) 0 0 := by
  refine Mt_of RX6 (by decide) rfl [(0, .ref b), (1, .int (nI 1))] rfl (Nat.le_of_ble_eq_true rfl) ?_
  intro pr e s m args below meth c C hr hin hd
  have hO := hd.ex 0
  have h0 := hd.d0
  refine y_iload_n C 1 dX6_count_0 rfl rfl ?_
  refine y_iconst C (2) dX6_count_1 (by decide) ?_
  refine y_bipush C (9) dX6_count_2 (by decide) ?_
  refine y_callS C [.int (nI 1), .int (2 : Int32), .int (9 : Int32)] (c_X6_isWithin g B0 l (nI 1) (2 : Int32) (9 : Int32)) 3 (wSin q108 q109 q2 q110) hs_X6_isWithin ⟨(Nat.le_of_ble_eq_true rfl), (Nat.le_of_ble_eq_true rfl)⟩ ⟨rfl, rfl⟩ trivial nF.no rfl rfl (Nat.le_of_ble_eq_true rfl) dX6_count_4 ⟨(Nat.le_of_ble_eq_true rfl), (Nat.le_of_ble_eq_true rfl)⟩ rfl (fun H hp hz hf => ?_)
  have h0 := h0.fr hf (fun _ _ z => z)
  have hO := hO.fr (j := 0) (by decide) hf nF.no
  refine y_if_eq C 24 dX6_count_7 (by decide) (fun _ => ?_) (fun h => absurd (by decide) h)
  refine y_iload_n C 1 dX6_count_24 rfl rfl ?_
  refine y_tableIn C 120 dX6_count_25 (by decide) (by decide) rfl (by decide) ?_
  refine y_aload_n C 0 dX6_count_120 rfl rfl ?_
  refine y_get6 C hO.1 0 (by decide) q12 rfl rfl dX6_count_121 ?_
  refine y_get2 C (dk_0 h0) 4 (by decide) q96 rfl rfl dX6_count_124 ?_
  refine y_get4 C (dk_11 h0) 0 (by decide) q98 rfl rfl dX6_count_127 ?_
  exact y_iret C hr rfl (hO.cl0 h0) dX6_count_130
set_option maxRecDepth 100000 in
set_option maxHeartbeats 4000000 in
theorem c_X6_count_10 (g : KG) (B0 : Nat) (l : Launch) (b : Nat) (X : SV) (hv : sv X)  : Mt g B0 l yX6_count cX6_count 2 (some .int) rm_X6_count [.ref b, .int (nI 10)] (iv b 152) (sX g b X) (some (.int ((X.2.2.2 0).1 3 0))) (sX g b X) 0 0 := by
  refine Mt_of RX6 (by decide) rfl [(0, .ref b), (1, .int (nI 10))] rfl (Nat.le_of_ble_eq_true rfl) ?_
  intro pr e s m args below meth c C hr hin hd
  have hO := hd.ex 0
  have h0 := hd.d0
  refine y_iload_n C 1 dX6_count_0 rfl rfl ?_
  refine y_iconst C (2) dX6_count_1 (by decide) ?_
  refine y_bipush C (9) dX6_count_2 (by decide) ?_
  refine y_callS C [.int (nI 10), .int (2 : Int32), .int (9 : Int32)] (c_X6_isWithin g B0 l (nI 10) (2 : Int32) (9 : Int32)) 3 (wSin q108 q109 q2 q110) hs_X6_isWithin ⟨(Nat.le_of_ble_eq_true rfl), (Nat.le_of_ble_eq_true rfl)⟩ ⟨rfl, rfl⟩ trivial nF.no rfl rfl (Nat.le_of_ble_eq_true rfl) dX6_count_4 ⟨(Nat.le_of_ble_eq_true rfl), (Nat.le_of_ble_eq_true rfl)⟩ rfl (fun H hp hz hf => ?_)
  have h0 := h0.fr hf (fun _ _ z => z)
  have hO := hO.fr (j := 0) (by decide) hf nF.no
  refine y_if_eq C 24 dX6_count_7 (by decide) (fun _ => ?_) (fun h => absurd (by decide) h)
  refine y_iload_n C 1 dX6_count_24 rfl rfl ?_
  refine y_tableIn C 131 dX6_count_25 (by decide) (by decide) rfl (by decide) ?_
  refine y_aload_n C 0 dX6_count_131 rfl rfl ?_
  refine y_get6 C hO.1 0 (by decide) q12 rfl rfl dX6_count_132 ?_
  refine y_get2 C (dk_0 h0) 3 (by decide) q99 rfl rfl dX6_count_135 ?_
  refine y_get5 C (dk_3 h0) 4 (by decide) q100 rfl rfl dX6_count_138 ?_
  exact y_iret C hr rfl (hO.cl0 h0) dX6_count_141
set_option maxRecDepth 100000 in
set_option maxHeartbeats 4000000 in
theorem c_X6_count_11 (g : KG) (B0 : Nat) (l : Launch) (b : Nat) (X : SV) (hv : sv X)  : Mt g B0 l yX6_count cX6_count 2 (some .int) rm_X6_count [.ref b, .int (nI 11)] (iv b 152) (sX g b X) (some (.int (lth (X.2.2.2 0)))) (sX g b X) 0 0 := by
  refine Mt_of RX6 (by decide) rfl [(0, .ref b), (1, .int (nI 11))] rfl (Nat.le_of_ble_eq_true rfl) ?_
  intro pr e s m args below meth c C hr hin hd
  have hO := hd.ex 0
  have h0 := hd.d0
  refine y_iload_n C 1 dX6_count_0 rfl rfl ?_
  refine y_iconst C (2) dX6_count_1 (by decide) ?_
  refine y_bipush C (9) dX6_count_2 (by decide) ?_
  refine y_callS C [.int (nI 11), .int (2 : Int32), .int (9 : Int32)] (c_X6_isWithin g B0 l (nI 11) (2 : Int32) (9 : Int32)) 3 (wSin q108 q109 q2 q110) hs_X6_isWithin ⟨(Nat.le_of_ble_eq_true rfl), (Nat.le_of_ble_eq_true rfl)⟩ ⟨rfl, rfl⟩ trivial nF.no rfl rfl (Nat.le_of_ble_eq_true rfl) dX6_count_4 ⟨(Nat.le_of_ble_eq_true rfl), (Nat.le_of_ble_eq_true rfl)⟩ rfl (fun H hp hz hf => ?_)
  have h0 := h0.fr hf (fun _ _ z => z)
  have hO := hO.fr (j := 0) (by decide) hf nF.no
  refine y_if_eq C 24 dX6_count_7 (by decide) (fun _ => ?_) (fun h => absurd (by decide) h)
  refine y_iload_n C 1 dX6_count_24 rfl rfl ?_
  refine y_tableIn C 142 dX6_count_25 (by decide) (by decide) rfl (by decide) ?_
  refine y_aload_n C 0 dX6_count_142 rfl rfl ?_
  refine y_get6 C hO.1 0 (by decide) q12 rfl rfl dX6_count_143 ?_
  refine y_callV C [] (c_X2_loanersThere g B0 l (b + 1) (X.2.2.2 0) (hv.2 0 (by decide)).1) RX2 0 (wVin q115 q116 q117 q11 q118) hy_X2_loanersThere ⟨(Nat.le_of_ble_eq_true rfl), (Nat.le_of_ble_eq_true rfl)⟩ ⟨rfl, rfl⟩ (rcv C.2.2.2.2.2.1 (dk_0 h0) rfl) h0 (adr_iv (j := 0) (by decide)) rfl rfl (Nat.le_of_ble_eq_true rfl) dX6_count_146 ⟨(Nat.le_of_ble_eq_true rfl), (Nat.le_of_ble_eq_true rfl)⟩ rfl (fun H hp hz hf => ?_)
  have h0 := hp
  have hO := hO.fr (j := 0) (by decide) hf (fun _ z => z)
  exact y_iret C hr rfl (hO.cl0 h0) dX6_count_149
set_option maxRecDepth 100000 in
set_option maxHeartbeats 4000000 in
theorem c_X6_count_16 (g : KG) (B0 : Nat) (l : Launch) (b : Nat) (X : SV) (hv : sv X)  : Mt g B0 l yX6_count cX6_count 2 (some .int) rm_X6_count [.ref b, .int (nI 16)] (iv b 152) (sX g b X) (some (.int (nI X.2.1))) (sX g b X) 0 0 := by
  refine Mt_of RX6 (by decide) rfl [(0, .ref b), (1, .int (nI 16))] rfl (Nat.le_of_ble_eq_true rfl) ?_
  intro pr e s m args below meth c C hr hin hd
  have hO := hd.ex 0
  have h0 := hd.d0
  refine y_iload_n C 1 dX6_count_0 rfl rfl ?_
  refine y_iconst C (2) dX6_count_1 (by decide) ?_
  refine y_bipush C (9) dX6_count_2 (by decide) ?_
  refine y_callS C [.int (nI 16), .int (2 : Int32), .int (9 : Int32)] (c_X6_isWithin g B0 l (nI 16) (2 : Int32) (9 : Int32)) 3 (wSin q108 q109 q2 q110) hs_X6_isWithin ⟨(Nat.le_of_ble_eq_true rfl), (Nat.le_of_ble_eq_true rfl)⟩ ⟨rfl, rfl⟩ trivial nF.no rfl rfl (Nat.le_of_ble_eq_true rfl) dX6_count_4 ⟨(Nat.le_of_ble_eq_true rfl), (Nat.le_of_ble_eq_true rfl)⟩ rfl (fun H hp hz hf => ?_)
  have h0 := h0.fr hf (fun _ _ z => z)
  have hO := hO.fr (j := 0) (by decide) hf nF.no
  refine y_if_eq C 24 dX6_count_7 (by decide) (fun _ => ?_) (fun h => absurd (by decide) h)
  refine y_iload_n C 1 dX6_count_24 rfl rfl ?_
  refine y_tableIn C 194 dX6_count_25 (by decide) (by decide) rfl (by decide) ?_
  refine y_aload_n C 0 dX6_count_194 rfl rfl ?_
  refine y_get6 C hO.1 4 (by decide) q19 rfl rfl dX6_count_195 ?_
  refine y_get3 C hO.2.1 0 (by decide) q106 rfl rfl dX6_count_198 ?_
  exact y_iret C hr rfl (hO.cl0 h0) dX6_count_201
set_option maxRecDepth 100000 in
set_option maxHeartbeats 4000000 in
theorem c_X6_count_st (g : KG) (B0 : Nat) (l : Launch) (b : Nat) (X : SV) (hv : sv X) (j : Nat) (hj : j < 8) : Mt g B0 l yX6_count cX6_count 2 (some .int) rm_X6_count [.ref b, .int (nI (2 + j))] (iv b 152) (sX g b X) (some (.int (ins (X.2.2.2 0) (nI j) (nm (X.2.2.2 0))))) (sX g b X) 0 0 := by
  refine Mt_of RX6 (by decide) rfl [(0, .ref b), (1, .int (nI (2 + j)))] rfl (Nat.le_of_ble_eq_true rfl) ?_
  intro pr e s m args below meth c C hr hin hd
  have hO := hd.ex 0
  have h0 := hd.d0
  refine y_iload_n C 1 dX6_count_0 rfl rfl ?_
  refine y_iconst C (2) dX6_count_1 (by decide) ?_
  refine y_bipush C (9) dX6_count_2 (by decide) ?_
  refine y_callS C [.int (nI (2 + j)), .int (2 : Int32), .int (9 : Int32)] (c_X6_isWithin g B0 l (nI (2 + j)) (2 : Int32) (9 : Int32)) 3 (wSin q108 q109 q2 q110) hs_X6_isWithin ⟨(Nat.le_of_ble_eq_true rfl), (Nat.le_of_ble_eq_true rfl)⟩ ⟨rfl, rfl⟩ trivial nF.no rfl rfl (Nat.le_of_ble_eq_true rfl) dX6_count_4 ⟨(Nat.le_of_ble_eq_true rfl), (Nat.le_of_ble_eq_true rfl)⟩ rfl (fun H hp hz hf => ?_)
  have h0 := h0.fr hf (fun _ _ z => z)
  have hO := hO.fr (j := 0) (by decide) hf nF.no
  refine y_if_eq C 24 dX6_count_7 (by decide) (fun h => absurd h (wif_t (lo := 2) (hi := 9) (by omega) (by omega) (by decide))) (fun _ => ?_)
  refine y_aload_n C 0 dX6_count_10 rfl rfl ?_
  refine y_get6 C hO.1 0 (by decide) q12 rfl rfl dX6_count_11 ?_
  refine y_get2 C (dk_0 h0) 4 (by decide) q96 rfl rfl dX6_count_14 ?_
  refine y_iload_n C 1 dX6_count_17 rfl rfl ?_
  refine y_iconst C (2) dX6_count_18 (by decide) ?_
  refine y_isub C dX6_count_19 ?_
  refine y_top (show nI (2 + j) - 2 = nI j by rw [show (2 : Int32) = nI 2 from rfl, pk_sub (by omega)]; congr 1; omega) ?_
  refine y_callV C [.int (nI j)] (c_X4_inState g B0 l (b + 1) (X.2.2.2 0) (nI j) (hv.2 0 (by decide)).1) RX4 1 (wVin q111 q112 q113 q43 q114) hy_X4_inState ⟨(Nat.le_of_ble_eq_true rfl), (Nat.le_of_ble_eq_true rfl)⟩ ⟨rfl, rfl⟩ (rcv C.2.2.2.2.2.1 (dk_11 h0) rfl) h0 (adr_iv (j := 0) (by decide)) rfl rfl (Nat.le_of_ble_eq_true rfl) dX6_count_20 ⟨(Nat.le_of_ble_eq_true rfl), (Nat.le_of_ble_eq_true rfl)⟩ rfl (fun H hp hz hf => ?_)
  have h0 := hp
  have hO := hO.fr (j := 0) (by decide) hf (fun _ z => z)
  exact y_iret C hr rfl (hO.cl0 h0) dX6_count_23
def tWt (d : DV) (k : Nat) : Int32 := if d.1 18 k = 0 then 0 else if d.1 18 k = 1 then 1 else if d.1 18 k = 2 then (if ieo d (fl d k) 6 0 = 0 then 3 else 2) else if d.1 18 k = 3 then 4 else if d.1 18 k = 4 then 5 else if d.1 18 k = 5 then 5 else -5
theorem tab_out {x : Int32} (h0 : ¬ x = 0) (h1 : ¬ x = 1) (h2 : ¬ x = 2) (h3 : ¬ x = 3) (h4 : ¬ x = 4) (h5 : ¬ x = 5) : x.toInt < 0 ∨ 5 < x.toInt := by
  have k : ∀ y : Int32, ¬ x = y → x.toInt ≠ y.toInt := fun y h z => h (Int32.toInt.inj z)
  have := k 0 h0
  have := k 1 h1
  have := k 2 h2
  have := k 3 h3
  have := k 4 h4
  have := k 5 h5
  have e0 : (0 : Int32).toInt = 0 := rfl
  have e1 : (1 : Int32).toInt = 1 := rfl
  have e2 : (2 : Int32).toInt = 2 := rfl
  have e3 : (3 : Int32).toInt = 3 := rfl
  have e4 : (4 : Int32).toInt = 4 := rfl
  have e5 : (5 : Int32).toInt = 5 := rfl
  omega
def rm_X6_waitsFor : Room := { frames := 2, cells := 0, slots := 0, locals := 45 }
set_option maxRecDepth 100000 in
set_option maxHeartbeats 4000000 in
theorem c_X6_waitsFor (g : KG) (B0 : Nat) (l : Launch) (b : Nat) (X : SV) (hv : sv X) (k : Nat) (hkn : k < nm (X.2.2.2 0)) : Mt g B0 l yX6_waitsFor cX6_waitsFor 2 (some .int) rm_X6_waitsFor [.ref b, .int (nI k)] (iv b 152) (sX g b X) (some (.int (tWt (X.2.2.2 0) k))) (sX g b X) 0 0 := by
  refine Mt_of RX6 (by decide) rfl [(0, .ref b), (1, .int (nI k))] rfl (Nat.le_of_ble_eq_true rfl) ?_
  intro pr e s m args below meth c C hr hin hd
  have hO := hd.ex 0
  have h0 := hd.d0
  refine y_aload_n C 0 dX6_waitsFor_0 rfl rfl ?_
  refine y_iload_n C 1 dX6_waitsFor_1 rfl rfl ?_
  refine y_callV C [.int (nI k)] (c_X6_isSet g B0 l b X hv k) RX6 1 (wVin q137 q138 q139 q2 q140) hy_X6_isSet ⟨(Nat.le_of_ble_eq_true rfl), (Nat.le_of_ble_eq_true rfl)⟩ ⟨rfl, rfl⟩ (rcv C.2.2.2.2.2.1 hO.1 rfl) (hO.cl0 h0) (fun _ h => h) rfl rfl (Nat.le_of_ble_eq_true rfl) dX6_waitsFor_2 ⟨(Nat.le_of_ble_eq_true rfl), (Nat.le_of_ble_eq_true rfl)⟩ rfl (fun H hp hz hf => ?_)
  have hO := hp.ex 0
  have h0 := hp.d0
  refine y_if_ne C 10 dX6_waitsFor_5 (by decide) (fun _ => ?_) (fun h => absurd h (isS_t hv hkn))
  refine y_aload_n C 0 dX6_waitsFor_10 rfl rfl ?_
  refine y_get6 C hO.1 0 (by decide) q12 rfl rfl dX6_waitsFor_11 ?_
  refine y_get2 C (dk_0 h0) 4 (by decide) q96 rfl rfl dX6_waitsFor_14 ?_
  refine y_get4 C (dk_11 h0) 7 (by decide) q136 rfl rfl dX6_waitsFor_17 ?_
  refine y_iload_n C 1 dX6_waitsFor_20 rfl rfl ?_
  refine y_iald C (dk_18 h0) k rfl (Nat.lt_of_lt_of_le hkn (hv.2 0 (by decide)).1.2.1.2) (by decide) dX6_waitsFor_21 ?_
  by_cases e0 : (X.2.2.2 0).1 18 k = 0
  · refine y_top e0 ?_
    refine y_tableIn C 60 dX6_waitsFor_22 (by decide) (by decide) rfl (by decide) ?_
    refine y_iconst C (0) dX6_waitsFor_60 (by decide) ?_
    exact y_iret C hr (by first | (rw [tWt, if_pos e0]; done) | (rw [tWt, if_neg e0]; done)) (hO.cl0 h0) dX6_waitsFor_61
  by_cases e1 : (X.2.2.2 0).1 18 k = 1
  · refine y_top e1 ?_
    refine y_tableIn C 62 dX6_waitsFor_22 (by decide) (by decide) rfl (by decide) ?_
    refine y_iconst C (1) dX6_waitsFor_62 (by decide) ?_
    exact y_iret C hr (by first | (rw [tWt, if_neg e0, if_pos e1]; done) | (rw [tWt, if_neg e0, if_neg e1]; done)) (hO.cl0 h0) dX6_waitsFor_63
  by_cases e2 : (X.2.2.2 0).1 18 k = 2
  · refine y_top e2 ?_
    refine y_tableIn C 64 dX6_waitsFor_22 (by decide) (by decide) rfl (by decide) ?_
    refine y_aload_n C 0 dX6_waitsFor_64 rfl rfl ?_
    refine y_get6 C hO.1 0 (by decide) q12 rfl rfl dX6_waitsFor_65 ?_
    refine y_get2 C (dk_0 h0) 3 (by decide) q99 rfl rfl dX6_waitsFor_68 ?_
    refine y_aload_n C 0 dX6_waitsFor_71 rfl rfl ?_
    refine y_get6 C hO.1 0 (by decide) q12 rfl rfl dX6_waitsFor_72 ?_
    refine y_get2 C (dk_0 h0) 4 (by decide) q96 rfl rfl dX6_waitsFor_75 ?_
    refine y_get4 C (dk_11 h0) 1 (by decide) q287 rfl rfl dX6_waitsFor_78 ?_
    refine y_iload_n C 1 dX6_waitsFor_81 rfl rfl ?_
    refine y_iald C (dk_12 h0) k rfl (Nat.lt_of_lt_of_le hkn (hv.2 0 (by decide)).1.2.1.2) (by decide) dX6_waitsFor_82 ?_
    refine y_top ((hv.2 0 (by decide)).1.2.2.1 _ hkn).1 ?_
    refine y_callV C [.int (nI (fl (X.2.2.2 0) k))] (c_X5_isEnoughOrdered g B0 l (b + 1) (X.2.2.2 0) (fl (X.2.2.2 0) k) ((hv.2 0 (by decide)).1.2.2.1 _ hkn).2 (hv.2 0 (by decide)).1) RX5 1 (wVin q426 q427 q428 q39 q429) hy_X5_isEnoughOrdered ⟨(Nat.le_of_ble_eq_true rfl), (Nat.le_of_ble_eq_true rfl)⟩ ⟨rfl, rfl⟩ (rcv C.2.2.2.2.2.1 (dk_3 h0) rfl) h0 (adr_iv (j := 0) (by decide)) rfl rfl (Nat.le_of_ble_eq_true rfl) dX6_waitsFor_83 ⟨(Nat.le_of_ble_eq_true rfl), (Nat.le_of_ble_eq_true rfl)⟩ rfl (fun H hp hz hf => ?_)
    have h0 := hp
    have hO := hO.fr (j := 0) (by decide) hf (fun _ z => z)
    refine y_if_eq C 93 dX6_waitsFor_86 (by decide) (fun h9 => ?_) (fun h9 => ?_)
    · refine y_iconst C (3) dX6_waitsFor_93 (by decide) ?_
      exact y_iret C hr (by first | (rw [tWt, if_neg e0, if_neg e1, if_pos e2, if_pos h9]; done) | (rw [tWt, if_neg e0, if_neg e1, if_pos e2, if_neg h9]; done)) (hO.cl0 h0) dX6_waitsFor_94
    · refine y_iconst C (2) dX6_waitsFor_89 (by decide) ?_
      refine y_goto C 94 dX6_waitsFor_90 (by decide) ?_
      exact y_iret C hr (by first | (rw [tWt, if_neg e0, if_neg e1, if_pos e2, if_pos h9]; done) | (rw [tWt, if_neg e0, if_neg e1, if_pos e2, if_neg h9]; done)) (hO.cl0 h0) dX6_waitsFor_94
  by_cases e3 : (X.2.2.2 0).1 18 k = 3
  · refine y_top e3 ?_
    refine y_tableIn C 95 dX6_waitsFor_22 (by decide) (by decide) rfl (by decide) ?_
    refine y_iconst C (4) dX6_waitsFor_95 (by decide) ?_
    exact y_iret C hr (by first | (rw [tWt, if_neg e0, if_neg e1, if_neg e2, if_pos e3]; done) | (rw [tWt, if_neg e0, if_neg e1, if_neg e2, if_neg e3]; done)) (hO.cl0 h0) dX6_waitsFor_96
  by_cases e4 : (X.2.2.2 0).1 18 k = 4
  · refine y_top e4 ?_
    refine y_tableIn C 97 dX6_waitsFor_22 (by decide) (by decide) rfl (by decide) ?_
    refine y_iconst C (5) dX6_waitsFor_97 (by decide) ?_
    exact y_iret C hr (by first | (rw [tWt, if_neg e0, if_neg e1, if_neg e2, if_neg e3, if_pos e4]; done) | (rw [tWt, if_neg e0, if_neg e1, if_neg e2, if_neg e3, if_neg e4]; done)) (hO.cl0 h0) dX6_waitsFor_98
  by_cases e5 : (X.2.2.2 0).1 18 k = 5
  · refine y_top e5 ?_
    refine y_tableIn C 99 dX6_waitsFor_22 (by decide) (by decide) rfl (by decide) ?_
    refine y_iconst C (5) dX6_waitsFor_99 (by decide) ?_
    exact y_iret C hr (by first | (rw [tWt, if_neg e0, if_neg e1, if_neg e2, if_neg e3, if_neg e4, if_pos e5]; done) | (rw [tWt, if_neg e0, if_neg e1, if_neg e2, if_neg e3, if_neg e4, if_neg e5]; done)) (hO.cl0 h0) dX6_waitsFor_100
  refine y_tableOut C 101 dX6_waitsFor_22 (tab_out e0 e1 e2 e3 e4 e5) (by decide) ?_
  refine y_bipush C (-5) dX6_waitsFor_101 (by decide) ?_
  exact y_iret C hr (by first | (rw [tWt, if_neg e0, if_neg e1, if_neg e2, if_neg e3, if_neg e4, if_pos e5]; done) | (rw [tWt, if_neg e0, if_neg e1, if_neg e2, if_neg e3, if_neg e4, if_neg e5]; done)) (hO.cl0 h0) dX6_waitsFor_103
def rm_X6_doneIn : Room := { frames := 6, cells := 0, slots := 0, locals := 137 }
set_option maxRecDepth 100000 in
set_option maxHeartbeats 4000000 in
theorem c_X6_doneIn (g : KG) (B0 : Nat) (l : Launch) (b : Nat) (X : SV) (hv : sv X) (k : Nat) (hk31 : k < 2 ^ 31) : Mt g B0 l yX6_doneIn cX6_doneIn 4 (some .int) rm_X6_doneIn [.ref b, .int (nI k)] (iv b 152) (sX g b X) (some (.int (tDin X k))) (sXt g b X) 0 0 := by
  refine Mt_of RX6 (by decide) rfl [(0, .ref b), (1, .int (nI k))] rfl (Nat.le_of_ble_eq_true rfl) ?_
  intro pr e s m args below meth c C hr hin hd
  have hO := hd.ex 0
  have h0 := hd.d0
  refine y_aload_n C 0 dX6_doneIn_0 rfl rfl ?_
  refine y_iload_n C 1 dX6_doneIn_1 rfl rfl ?_
  refine y_callV C [.int (nI k)] (c_X6_isSet g B0 l b X hv k) RX6 1 (wVin q137 q138 q139 q2 q140) hy_X6_isSet ⟨(Nat.le_of_ble_eq_true rfl), (Nat.le_of_ble_eq_true rfl)⟩ ⟨rfl, rfl⟩ (rcv C.2.2.2.2.2.1 hO.1 rfl) (hO.cl0 h0) (fun _ h => h) rfl rfl (Nat.le_of_ble_eq_true rfl) dX6_doneIn_2 ⟨(Nat.le_of_ble_eq_true rfl), (Nat.le_of_ble_eq_true rfl)⟩ rfl (fun H hp hz hf => ?_)
  have hO := hp.ex 0
  have h0 := hp.d0
  refine y_if_ne C 10 dX6_doneIn_5 (by decide) (fun h1 => ?_) (fun h1 => ?_)
  · have hkn : k < nm (X.2.2.2 0) := isS_lt hv hk31 h1
    refine y_aload_n C 0 dX6_doneIn_10 rfl rfl ?_
    refine y_get6 C hO.1 0 (by decide) q12 rfl rfl dX6_doneIn_11 ?_
    refine y_get2 C (dk_0 h0) 4 (by decide) q96 rfl rfl dX6_doneIn_14 ?_
    refine y_get4 C (dk_11 h0) 7 (by decide) q136 rfl rfl dX6_doneIn_17 ?_
    refine y_iload_n C 1 dX6_doneIn_20 rfl rfl ?_
    refine y_iald C (dk_18 h0) k rfl (Nat.lt_of_lt_of_le hkn (hv.2 0 (by decide)).1.2.1.2) (by decide) dX6_doneIn_21 ?_
    refine y_istore_n C dX6_doneIn_22 rfl (by decide) rfl ?_
    refine y_iload_n C 0 dX6_doneIn_23 rfl rfl ?_
    refine y_iconst C (2) dX6_doneIn_24 (by decide) ?_
    refine y_icmp_eq C 36 dX6_doneIn_25 (by decide) (fun h2 => ?_) (fun h2 => ?_)
    · refine y_aload_n C 1 dX6_doneIn_36 rfl rfl ?_
      refine y_get6 C hO.1 1 (by decide) q13 rfl rfl dX6_doneIn_37 ?_
      refine y_aload_n C 1 dX6_doneIn_40 rfl rfl ?_
      refine y_get6 C hO.1 0 (by decide) q12 rfl rfl dX6_doneIn_41 ?_
      refine y_callV C [.ref (b + 1)] (c_X2_copyFrom g B0 l (b + 22) (b + 1) (X.2.2.2 1) (X.2.2.2 0) (adr_no (i := 1) (j := 0) (by decide) (by decide) (by decide))) RX2 1 (wVin q144 q145 q146 q11 q147) hy_X2_copyFrom ⟨(Nat.le_of_ble_eq_true rfl), (Nat.le_of_ble_eq_true rfl)⟩ ⟨rfl, rfl⟩ (rcv C.2.2.2.2.2.1 (dk_0 (hO.cl0 h0).d1) rfl) ⟨(hO.cl0 h0).d1, h0⟩ (adr_iv (j := 1) (by decide)) rfl rfl (Nat.le_of_ble_eq_true rfl) dX6_doneIn_44 ⟨(Nat.le_of_ble_eq_true rfl), (Nat.le_of_ble_eq_true rfl)⟩ rfl (fun H hp hz hf => ?_)
      have hO1 := (sX.ex 1 (hO.cl0 h0)).fr (j := 1) (by decide) hf (fun _ z => z)
      have h1t := hp.1
      refine y_iconst C (1) dX6_doneIn_47 (by decide) ?_
      refine y_istore_n C dX6_doneIn_48 rfl (by decide) rfl ?_
      have hres : tDin X k = din 200 1 (X.2.2.2 0) k := by first | (rw [tDin, if_neg h1, if_pos h2]; done) | (rw [tDin, if_neg h1, if_neg h2, if_pos h3]; done)
      suffices K : ∀ rem n : Nat, n + rem = 201 → ∀ D : DV, din rem n D k = tDin X k → sf D → fr D → ∀ H : Heap, sysO 1 g b X H → dk g (b + 22) D H → Yx (iv b 152) pr l e rm_X6_doneIn s m args below meth c 4 0 0 (MQ below (Qx (some (.int (tDin X k))) (sXt g b X) (iv b 152)) args s 0 0 (iv b 152)) [(3, .int (nI n)), (0, .ref b), (1, .int (nI k))] H 49 [] from y_sub [0, 2, 3] (K 200 1 (by decide) _ hres.symm (hv.2 0 (by decide)).1 (hv.2 0 (by decide)).2 _ hO1 h1t) rfl
      intro rem
      induction rem with
      | zero =>
        intro n hn D hs hsD hfD H hO1 h1t
        obtain rfl : n = 201 := by omega
        refine y_iload_n C 0 dX6_doneIn_49 rfl rfl ?_
        refine y_sipush C (200) dX6_doneIn_50 (by decide) ?_
        refine y_icmp_gt C 119 dX6_doneIn_53 (by decide) (fun _ => ?_) (fun h => absurd (nI_lt (a := 200) (b := 201) (by decide) (by decide)) h)
        refine y_bipush C (-5) dX6_doneIn_119 (by decide) ?_
        exact y_iret C hr (by rw [← hs]; rfl) ⟨D, hsD, hfD, hO1.clJ (j := 1) h1t⟩ dX6_doneIn_121
      | succ rem ih =>
        intro n hn D hs hsD hfD H hO1 h1t
        have hlt : n < 201 := by omega
        refine y_iload_n C 0 dX6_doneIn_49 rfl rfl ?_
        refine y_sipush C (200) dX6_doneIn_50 (by decide) ?_
        refine y_icmp_gt C 119 dX6_doneIn_53 (by decide) (fun h => absurd h (nI_nlt (a := 200) (b := n) (by omega) (by decide))) (fun _ => ?_)
        refine y_aload_n C 1 dX6_doneIn_56 rfl rfl ?_
        refine y_get6 C hO1.1 1 (by decide) q13 rfl rfl dX6_doneIn_57 ?_
        refine y_get2 C (dk_0 h1t) 4 (by decide) q96 rfl rfl dX6_doneIn_60 ?_
        refine y_get4 C (dk_11 h1t) 7 (by decide) q136 rfl rfl dX6_doneIn_63 ?_
        refine y_iload_n C 2 dX6_doneIn_66 rfl rfl ?_
        refine y_iald C (dk_18 h1t) k rfl (Nat.lt_of_lt_of_le hkn (hv.2 0 (by decide)).1.2.1.2) (by decide) dX6_doneIn_67 ?_
        refine y_iconst C (2) dX6_doneIn_68 (by decide) ?_
        refine y_icmp_ne C 88 dX6_doneIn_69 (by decide) (fun h4 => ?_) (fun h4 => ?_)
        · refine y_aload_n C 1 dX6_doneIn_88 rfl rfl ?_
          refine y_get6 C hO1.1 1 (by decide) q13 rfl rfl dX6_doneIn_89 ?_
          refine y_callV C [] (c_X2_passDay g B0 l (b + 22) D hsD hfD) RX2 0 (wVin q172 q173 q174 q11 q175) hy_X2_passDay ⟨(Nat.le_of_ble_eq_true rfl), (Nat.le_of_ble_eq_true rfl)⟩ ⟨rfl, rfl⟩ (rcv C.2.2.2.2.2.1 (dk_0 h1t) rfl) h1t (adr_iv (j := 1) (by decide)) rfl rfl (Nat.le_of_ble_eq_true rfl) dX6_doneIn_92 ⟨(Nat.le_of_ble_eq_true rfl), (Nat.le_of_ble_eq_true rfl)⟩ rfl (fun H hp hz hf => ?_)
          have h1t := hp
          have hO1 := hO1.fr (j := 1) (by decide) hf (fun _ z => z)
          refine y_aload_n C 1 dX6_doneIn_95 rfl rfl ?_
          refine y_get6 C hO1.1 1 (by decide) q13 rfl rfl dX6_doneIn_96 ?_
          refine y_get2 C (dk_0 h1t) 4 (by decide) q96 rfl rfl dX6_doneIn_99 ?_
          refine y_get4 C (dk_11 h1t) 7 (by decide) q136 rfl rfl dX6_doneIn_102 ?_
          refine y_iload_n C 2 dX6_doneIn_105 rfl rfl ?_
          refine y_iald C (dk_18 h1t) k rfl (Nat.lt_of_lt_of_le hkn (hv.2 0 (by decide)).1.2.1.2) (by decide) dX6_doneIn_106 ?_
          refine y_iconst C (4) dX6_doneIn_107 (by decide) ?_
          refine y_icmp_ne C 113 dX6_doneIn_108 (by decide) (fun h6 => ?_) (fun h6 => ?_)
          · refine y_iinc C 0 (nI (n + 1)) dX6_doneIn_113 rfl (nI_succ _).symm (by decide) rfl ?_
            refine y_goto C 49 dX6_doneIn_116 (by decide) ?_
            exact ih (n + 1) (by omega) _ (by first | (rw [← hs, din, if_pos h4, if_neg h5, if_neg h6]; done) | (rw [← hs, din, if_neg h4, if_neg h6]; done)) (sf_psd hsD) (hfD.to (psd_2 D)) H hO1 h1t
          · refine y_iload_n C 0 dX6_doneIn_111 rfl rfl ?_
            exact y_iret C hr (by first | (rw [← hs, din, if_pos h4, if_pos h5]; done) | (rw [← hs, din, if_pos h4, if_neg h5, if_pos h6]; done) | (rw [← hs, din, if_neg h4, if_pos h6]; done)) ⟨psd D, sf_psd hsD, hfD.to (psd_2 D), hO1.clJ (j := 1) h1t⟩ dX6_doneIn_112
        · refine y_aload_n C 1 dX6_doneIn_72 rfl rfl ?_
          refine y_get6 C hO1.1 1 (by decide) q13 rfl rfl dX6_doneIn_73 ?_
          refine y_get2 C (dk_0 h1t) 3 (by decide) q99 rfl rfl dX6_doneIn_76 ?_
          refine y_get5 C (dk_3 h1t) 4 (by decide) q100 rfl rfl dX6_doneIn_79 ?_
          refine y_if_ne C 88 dX6_doneIn_82 (by decide) (fun h5 => ?_) (fun h5 => ?_)
          · refine y_aload_n C 1 dX6_doneIn_88 rfl rfl ?_
            refine y_get6 C hO1.1 1 (by decide) q13 rfl rfl dX6_doneIn_89 ?_
            refine y_callV C [] (c_X2_passDay g B0 l (b + 22) D hsD hfD) RX2 0 (wVin q172 q173 q174 q11 q175) hy_X2_passDay ⟨(Nat.le_of_ble_eq_true rfl), (Nat.le_of_ble_eq_true rfl)⟩ ⟨rfl, rfl⟩ (rcv C.2.2.2.2.2.1 (dk_0 h1t) rfl) h1t (adr_iv (j := 1) (by decide)) rfl rfl (Nat.le_of_ble_eq_true rfl) dX6_doneIn_92 ⟨(Nat.le_of_ble_eq_true rfl), (Nat.le_of_ble_eq_true rfl)⟩ rfl (fun H hp hz hf => ?_)
            have h1t := hp
            have hO1 := hO1.fr (j := 1) (by decide) hf (fun _ z => z)
            refine y_aload_n C 1 dX6_doneIn_95 rfl rfl ?_
            refine y_get6 C hO1.1 1 (by decide) q13 rfl rfl dX6_doneIn_96 ?_
            refine y_get2 C (dk_0 h1t) 4 (by decide) q96 rfl rfl dX6_doneIn_99 ?_
            refine y_get4 C (dk_11 h1t) 7 (by decide) q136 rfl rfl dX6_doneIn_102 ?_
            refine y_iload_n C 2 dX6_doneIn_105 rfl rfl ?_
            refine y_iald C (dk_18 h1t) k rfl (Nat.lt_of_lt_of_le hkn (hv.2 0 (by decide)).1.2.1.2) (by decide) dX6_doneIn_106 ?_
            refine y_iconst C (4) dX6_doneIn_107 (by decide) ?_
            refine y_icmp_ne C 113 dX6_doneIn_108 (by decide) (fun h6 => ?_) (fun h6 => ?_)
            · refine y_iinc C 0 (nI (n + 1)) dX6_doneIn_113 rfl (nI_succ _).symm (by decide) rfl ?_
              refine y_goto C 49 dX6_doneIn_116 (by decide) ?_
              exact ih (n + 1) (by omega) _ (by first | (rw [← hs, din, if_pos h4, if_neg h5, if_neg h6]; done) | (rw [← hs, din, if_neg h4, if_neg h6]; done)) (sf_psd hsD) (hfD.to (psd_2 D)) H hO1 h1t
            · refine y_iload_n C 0 dX6_doneIn_111 rfl rfl ?_
              exact y_iret C hr (by first | (rw [← hs, din, if_pos h4, if_pos h5]; done) | (rw [← hs, din, if_pos h4, if_neg h5, if_pos h6]; done) | (rw [← hs, din, if_neg h4, if_pos h6]; done)) ⟨psd D, sf_psd hsD, hfD.to (psd_2 D), hO1.clJ (j := 1) h1t⟩ dX6_doneIn_112
          · refine y_bipush C (-5) dX6_doneIn_85 (by decide) ?_
            exact y_iret C hr (by first | (rw [← hs, din, if_pos h4, if_pos h5]; done) | (rw [← hs, din, if_pos h4, if_neg h5, if_pos h6]; done) | (rw [← hs, din, if_neg h4, if_pos h6]; done)) ⟨D, hsD, hfD, hO1.clJ (j := 1) h1t⟩ dX6_doneIn_87
    · refine y_iload_n C 0 dX6_doneIn_28 rfl rfl ?_
      refine y_iconst C (3) dX6_doneIn_29 (by decide) ?_
      refine y_icmp_eq C 36 dX6_doneIn_30 (by decide) (fun h3 => ?_) (fun h3 => ?_)
      · refine y_aload_n C 1 dX6_doneIn_36 rfl rfl ?_
        refine y_get6 C hO.1 1 (by decide) q13 rfl rfl dX6_doneIn_37 ?_
        refine y_aload_n C 1 dX6_doneIn_40 rfl rfl ?_
        refine y_get6 C hO.1 0 (by decide) q12 rfl rfl dX6_doneIn_41 ?_
        refine y_callV C [.ref (b + 1)] (c_X2_copyFrom g B0 l (b + 22) (b + 1) (X.2.2.2 1) (X.2.2.2 0) (adr_no (i := 1) (j := 0) (by decide) (by decide) (by decide))) RX2 1 (wVin q144 q145 q146 q11 q147) hy_X2_copyFrom ⟨(Nat.le_of_ble_eq_true rfl), (Nat.le_of_ble_eq_true rfl)⟩ ⟨rfl, rfl⟩ (rcv C.2.2.2.2.2.1 (dk_0 (hO.cl0 h0).d1) rfl) ⟨(hO.cl0 h0).d1, h0⟩ (adr_iv (j := 1) (by decide)) rfl rfl (Nat.le_of_ble_eq_true rfl) dX6_doneIn_44 ⟨(Nat.le_of_ble_eq_true rfl), (Nat.le_of_ble_eq_true rfl)⟩ rfl (fun H hp hz hf => ?_)
        have hO1 := (sX.ex 1 (hO.cl0 h0)).fr (j := 1) (by decide) hf (fun _ z => z)
        have h1t := hp.1
        refine y_iconst C (1) dX6_doneIn_47 (by decide) ?_
        refine y_istore_n C dX6_doneIn_48 rfl (by decide) rfl ?_
        have hres : tDin X k = din 200 1 (X.2.2.2 0) k := by first | (rw [tDin, if_neg h1, if_pos h2]; done) | (rw [tDin, if_neg h1, if_neg h2, if_pos h3]; done)
        suffices K : ∀ rem n : Nat, n + rem = 201 → ∀ D : DV, din rem n D k = tDin X k → sf D → fr D → ∀ H : Heap, sysO 1 g b X H → dk g (b + 22) D H → Yx (iv b 152) pr l e rm_X6_doneIn s m args below meth c 4 0 0 (MQ below (Qx (some (.int (tDin X k))) (sXt g b X) (iv b 152)) args s 0 0 (iv b 152)) [(3, .int (nI n)), (0, .ref b), (1, .int (nI k))] H 49 [] from y_sub [0, 2, 3] (K 200 1 (by decide) _ hres.symm (hv.2 0 (by decide)).1 (hv.2 0 (by decide)).2 _ hO1 h1t) rfl
        intro rem
        induction rem with
        | zero =>
          intro n hn D hs hsD hfD H hO1 h1t
          obtain rfl : n = 201 := by omega
          refine y_iload_n C 0 dX6_doneIn_49 rfl rfl ?_
          refine y_sipush C (200) dX6_doneIn_50 (by decide) ?_
          refine y_icmp_gt C 119 dX6_doneIn_53 (by decide) (fun _ => ?_) (fun h => absurd (nI_lt (a := 200) (b := 201) (by decide) (by decide)) h)
          refine y_bipush C (-5) dX6_doneIn_119 (by decide) ?_
          exact y_iret C hr (by rw [← hs]; rfl) ⟨D, hsD, hfD, hO1.clJ (j := 1) h1t⟩ dX6_doneIn_121
        | succ rem ih =>
          intro n hn D hs hsD hfD H hO1 h1t
          have hlt : n < 201 := by omega
          refine y_iload_n C 0 dX6_doneIn_49 rfl rfl ?_
          refine y_sipush C (200) dX6_doneIn_50 (by decide) ?_
          refine y_icmp_gt C 119 dX6_doneIn_53 (by decide) (fun h => absurd h (nI_nlt (a := 200) (b := n) (by omega) (by decide))) (fun _ => ?_)
          refine y_aload_n C 1 dX6_doneIn_56 rfl rfl ?_
          refine y_get6 C hO1.1 1 (by decide) q13 rfl rfl dX6_doneIn_57 ?_
          refine y_get2 C (dk_0 h1t) 4 (by decide) q96 rfl rfl dX6_doneIn_60 ?_
          refine y_get4 C (dk_11 h1t) 7 (by decide) q136 rfl rfl dX6_doneIn_63 ?_
          refine y_iload_n C 2 dX6_doneIn_66 rfl rfl ?_
          refine y_iald C (dk_18 h1t) k rfl (Nat.lt_of_lt_of_le hkn (hv.2 0 (by decide)).1.2.1.2) (by decide) dX6_doneIn_67 ?_
          refine y_iconst C (2) dX6_doneIn_68 (by decide) ?_
          refine y_icmp_ne C 88 dX6_doneIn_69 (by decide) (fun h4 => ?_) (fun h4 => ?_)
          · refine y_aload_n C 1 dX6_doneIn_88 rfl rfl ?_
            refine y_get6 C hO1.1 1 (by decide) q13 rfl rfl dX6_doneIn_89 ?_
            refine y_callV C [] (c_X2_passDay g B0 l (b + 22) D hsD hfD) RX2 0 (wVin q172 q173 q174 q11 q175) hy_X2_passDay ⟨(Nat.le_of_ble_eq_true rfl), (Nat.le_of_ble_eq_true rfl)⟩ ⟨rfl, rfl⟩ (rcv C.2.2.2.2.2.1 (dk_0 h1t) rfl) h1t (adr_iv (j := 1) (by decide)) rfl rfl (Nat.le_of_ble_eq_true rfl) dX6_doneIn_92 ⟨(Nat.le_of_ble_eq_true rfl), (Nat.le_of_ble_eq_true rfl)⟩ rfl (fun H hp hz hf => ?_)
            have h1t := hp
            have hO1 := hO1.fr (j := 1) (by decide) hf (fun _ z => z)
            refine y_aload_n C 1 dX6_doneIn_95 rfl rfl ?_
            refine y_get6 C hO1.1 1 (by decide) q13 rfl rfl dX6_doneIn_96 ?_
            refine y_get2 C (dk_0 h1t) 4 (by decide) q96 rfl rfl dX6_doneIn_99 ?_
            refine y_get4 C (dk_11 h1t) 7 (by decide) q136 rfl rfl dX6_doneIn_102 ?_
            refine y_iload_n C 2 dX6_doneIn_105 rfl rfl ?_
            refine y_iald C (dk_18 h1t) k rfl (Nat.lt_of_lt_of_le hkn (hv.2 0 (by decide)).1.2.1.2) (by decide) dX6_doneIn_106 ?_
            refine y_iconst C (4) dX6_doneIn_107 (by decide) ?_
            refine y_icmp_ne C 113 dX6_doneIn_108 (by decide) (fun h6 => ?_) (fun h6 => ?_)
            · refine y_iinc C 0 (nI (n + 1)) dX6_doneIn_113 rfl (nI_succ _).symm (by decide) rfl ?_
              refine y_goto C 49 dX6_doneIn_116 (by decide) ?_
              exact ih (n + 1) (by omega) _ (by first | (rw [← hs, din, if_pos h4, if_neg h5, if_neg h6]; done) | (rw [← hs, din, if_neg h4, if_neg h6]; done)) (sf_psd hsD) (hfD.to (psd_2 D)) H hO1 h1t
            · refine y_iload_n C 0 dX6_doneIn_111 rfl rfl ?_
              exact y_iret C hr (by first | (rw [← hs, din, if_pos h4, if_pos h5]; done) | (rw [← hs, din, if_pos h4, if_neg h5, if_pos h6]; done) | (rw [← hs, din, if_neg h4, if_pos h6]; done)) ⟨psd D, sf_psd hsD, hfD.to (psd_2 D), hO1.clJ (j := 1) h1t⟩ dX6_doneIn_112
          · refine y_aload_n C 1 dX6_doneIn_72 rfl rfl ?_
            refine y_get6 C hO1.1 1 (by decide) q13 rfl rfl dX6_doneIn_73 ?_
            refine y_get2 C (dk_0 h1t) 3 (by decide) q99 rfl rfl dX6_doneIn_76 ?_
            refine y_get5 C (dk_3 h1t) 4 (by decide) q100 rfl rfl dX6_doneIn_79 ?_
            refine y_if_ne C 88 dX6_doneIn_82 (by decide) (fun h5 => ?_) (fun h5 => ?_)
            · refine y_aload_n C 1 dX6_doneIn_88 rfl rfl ?_
              refine y_get6 C hO1.1 1 (by decide) q13 rfl rfl dX6_doneIn_89 ?_
              refine y_callV C [] (c_X2_passDay g B0 l (b + 22) D hsD hfD) RX2 0 (wVin q172 q173 q174 q11 q175) hy_X2_passDay ⟨(Nat.le_of_ble_eq_true rfl), (Nat.le_of_ble_eq_true rfl)⟩ ⟨rfl, rfl⟩ (rcv C.2.2.2.2.2.1 (dk_0 h1t) rfl) h1t (adr_iv (j := 1) (by decide)) rfl rfl (Nat.le_of_ble_eq_true rfl) dX6_doneIn_92 ⟨(Nat.le_of_ble_eq_true rfl), (Nat.le_of_ble_eq_true rfl)⟩ rfl (fun H hp hz hf => ?_)
              have h1t := hp
              have hO1 := hO1.fr (j := 1) (by decide) hf (fun _ z => z)
              refine y_aload_n C 1 dX6_doneIn_95 rfl rfl ?_
              refine y_get6 C hO1.1 1 (by decide) q13 rfl rfl dX6_doneIn_96 ?_
              refine y_get2 C (dk_0 h1t) 4 (by decide) q96 rfl rfl dX6_doneIn_99 ?_
              refine y_get4 C (dk_11 h1t) 7 (by decide) q136 rfl rfl dX6_doneIn_102 ?_
              refine y_iload_n C 2 dX6_doneIn_105 rfl rfl ?_
              refine y_iald C (dk_18 h1t) k rfl (Nat.lt_of_lt_of_le hkn (hv.2 0 (by decide)).1.2.1.2) (by decide) dX6_doneIn_106 ?_
              refine y_iconst C (4) dX6_doneIn_107 (by decide) ?_
              refine y_icmp_ne C 113 dX6_doneIn_108 (by decide) (fun h6 => ?_) (fun h6 => ?_)
              · refine y_iinc C 0 (nI (n + 1)) dX6_doneIn_113 rfl (nI_succ _).symm (by decide) rfl ?_
                refine y_goto C 49 dX6_doneIn_116 (by decide) ?_
                exact ih (n + 1) (by omega) _ (by first | (rw [← hs, din, if_pos h4, if_neg h5, if_neg h6]; done) | (rw [← hs, din, if_neg h4, if_neg h6]; done)) (sf_psd hsD) (hfD.to (psd_2 D)) H hO1 h1t
              · refine y_iload_n C 0 dX6_doneIn_111 rfl rfl ?_
                exact y_iret C hr (by first | (rw [← hs, din, if_pos h4, if_pos h5]; done) | (rw [← hs, din, if_pos h4, if_neg h5, if_pos h6]; done) | (rw [← hs, din, if_neg h4, if_pos h6]; done)) ⟨psd D, sf_psd hsD, hfD.to (psd_2 D), hO1.clJ (j := 1) h1t⟩ dX6_doneIn_112
            · refine y_bipush C (-5) dX6_doneIn_85 (by decide) ?_
              exact y_iret C hr (by first | (rw [← hs, din, if_pos h4, if_pos h5]; done) | (rw [← hs, din, if_pos h4, if_neg h5, if_pos h6]; done) | (rw [← hs, din, if_neg h4, if_pos h6]; done)) ⟨D, hsD, hfD, hO1.clJ (j := 1) h1t⟩ dX6_doneIn_87
      · refine y_bipush C (-5) dX6_doneIn_33 (by decide) ?_
        exact y_iret C hr (by first | (rw [tDin, if_pos h1]; done) | (rw [tDin, if_neg h1, if_neg h2, if_neg h3]; done)) ((hO.cl0 h0).t hv) dX6_doneIn_35
  · refine y_iconst C (-1) dX6_doneIn_8 (by decide) ?_
    exact y_iret C hr (by first | (rw [tDin, if_pos h1]; done) | (rw [tDin, if_neg h1, if_neg h2, if_neg h3]; done)) ((hO.cl0 h0).t hv) dX6_doneIn_9
