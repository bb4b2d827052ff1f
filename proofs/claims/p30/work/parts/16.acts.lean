/-! THE ACTS -/
theorem nm_lt {d : DV} (h : sf d) {N : Nat} (hN : N < 2 ^ 31) (h1 : d.1 11 0 < nI N) : nm d < N := by
  rw [h.2.1.1] at h1
  exact (nI_ltI (by have := h.2.1.2; omega) hN).mp h1
theorem no_lt {d : DV} (h : sf d) {N : Nat} (hN : N < 2 ^ 31) (h1 : d.1 3 0 < nI N) : no d < N := by
  rw [h.1.1] at h1
  exact (nI_ltI (by have := h.1.2; omega) hN).mp h1
def aCome (X : SV) (f : Nat) : Int32 × SV := if (X.2.2.2 0).1 11 0 < 20 then (nI (nm (X.2.2.2 0)), acX X (adS (X.2.2.2 0) (nI f) ((X.2.2.2 0).1 0 0))) else (-3, X)
def aEst (X : SV) (k : Nat) : Int32 × SV := if isS X k = 0 then (-1, X) else if (X.2.2.2 0).1 18 k = 0 then (cost (X.2.2.2 0) (fl (X.2.2.2 0) k), acX X (dset (dset (X.2.2.2 0) 14 k (cost (X.2.2.2 0) (fl (X.2.2.2 0) k))) 18 k 1)) else (-4, X)
def aAns (X : SV) (k : Nat) (bb : Int32) : Int32 × SV := if isS X k = 0 then (-1, X) else if (X.2.2.2 0).1 18 k = 1 then ((dcd (X.2.2.2 0) k bb).1 18 k, acX X (dcd (X.2.2.2 0) k bb)) else (-4, X)
def aLend (X : SV) (k : Nat) : Int32 × SV := if isS X k = 0 then (-1, X) else if 4 ≤ (X.2.2.2 0).1 18 k then (-4, X) else if (X.2.2.2 0).1 17 k = 1 then (-4, X) else
  if 0 < lth (X.2.2.2 0) then (lth (dset (X.2.2.2 0) 17 k 1), acX X (dset (X.2.2.2 0) 17 k 1)) else (-3, X)
def aCol (X : SV) (k : Nat) : Int32 × SV := if isS X k = 0 then (-1, X) else if isR (X.2.2.2 0) k = 0 then (-4, X) else ((X.2.2.2 0).1 16 k + sfee (X.2.2.2 0) k, acX X (hov (X.2.2.2 0) k))
def aSetP (X : SV) (p price lead : Nat) : Int32 × SV := if (X.2.2.2 0).1 4 p = nI price then (if (X.2.2.2 0).1 5 p = nI lead then (-5, X) else ((X.2.2.2 0).1 4 p, acX X (dset (dset (X.2.2.2 0) 4 p (nI price)) 5 p (nI lead)))) else ((X.2.2.2 0).1 4 p, acX X (dset (dset (X.2.2.2 0) 4 p (nI price)) 5 p (nI lead)))
def aSetN2 (X : SV) (w v : Nat) : Int32 × SV := if (X.2.2.2 0).1 2 w = nI v then (-5, X) else ((X.2.2.2 0).1 2 w, acX X (dset (X.2.2.2 0) 2 w (nI v)))
def aSetN (X : SV) (w v : Nat) : Int32 × SV := if wif (nI v) (tLN w) (tHN w) = 0 then (-2, X) else if nI w = 4 then (if wlo (X.2.2.2 0) (nm (X.2.2.2 0)) ≤ nI v then aSetN2 X w v else (-4, X)) else aSetN2 X w v
def aOrd (X : SV) (p mm : Nat) : Int32 × SV := if (X.2.2.2 0).1 3 0 < 12 then ((X.2.2.2 0).1 0 0 + (X.2.2.2 0).1 5 p, acX X (ado (X.2.2.2 0) (nI p) (nI mm) ((X.2.2.2 0).1 0 0 + (X.2.2.2 0).1 5 p))) else (-3, X)
def ptD (d : DV) (p mm : Nat) : DV := rpa (dset d 6 p (d.1 6 p + nI mm))
def aPut (X : SV) (p mm : Nat) : Int32 × SV := if (X.2.2.2 0).1 6 p + nI mm ≤ 99 then ((ptD (X.2.2.2 0) p mm).1 6 p, acX X (ptD (X.2.2.2 0) p mm)) else (-3, X)
def aUndo (X : SV) : Int32 × SV := if 0 < nI X.2.1 then (nI (X.2.1 - 1), (X.1, X.2.1 - 1, X.2.2.1, va_up X.2.2.2 0 (X.2.2.2 (3 + (X.2.2.1 + (X.2.1 - 1)) % 4)))) else (-5, X)
def aKeep (X : SV) : Int32 × SV := ((X.2.2.2 0).1 0 0, (1, X.2.1, X.2.2.1, va_up X.2.2.2 2 (X.2.2.2 0)))
def aRest (X : SV) : Int32 × SV := if X.1 = 0 then (-5, X) else (((rcX X).2.2.2 2).1 0 0, acX X ((rcX X).2.2.2 2))
def pN (d : DV) : Nat → DV
  | 0 => d
  | n + 1 => psd (pN d n)
def aPass (X : SV) (n : Nat) : Int32 × SV := if (X.2.2.2 0).1 0 0 + nI n ≤ 9999 then ((pN (X.2.2.2 0) n).1 20 4 - (X.2.2.2 0).1 20 4, acX X (pN (X.2.2.2 0) n)) else (-4, X)
theorem sf_pN {d : DV} (h : sf d) : ∀ n, sf (pN d n)
  | 0 => h
  | n + 1 => sf_psd (sf_pN h n)
theorem pN_2 (d : DV) : ∀ n, (pN d n).2 = d.2
  | 0 => rfl
  | n + 1 => (psd_2 _).trans (pN_2 d n)
def rm_X6_come : Room := { frames := 4, cells := 0, slots := 0, locals := 81 }
set_option maxRecDepth 100000 in
set_option maxHeartbeats 4000000 in
theorem c_X6_come (g : KG) (B0 : Nat) (l : Launch) (b : Nat) (X : SV) (hv : sv X) (f : Nat) (hf0 : f < 5) : Mt g B0 l yX6_come cX6_come 2 (some .int) rm_X6_come [.ref b, .int (nI f)] (iv b 152) (sX g b X) (some (.int (aCome X f).1)) (sX g b (aCome X f).2) 0 0 := by
  refine Mt_of RX6 (by decide) rfl [(0, .ref b), (1, .int (nI f))] rfl (Nat.le_of_ble_eq_true rfl) ?_
  intro pr e s m args below meth c C hr hin hd
  have hO := hd.ex 0
  have h0 := hd.d0
  refine y_iload_n C 1 dX6_come_0 rfl rfl ?_
  refine y_iconst C (5) dX6_come_1 (by decide) ?_
  refine y_callS C [.int (nI f), .int (5 : Int32)] (c_X6_isIndex g B0 l (nI f) (5 : Int32)) 2 (wSin q141 q142 q2 q143) hs_X6_isIndex ⟨(Nat.le_of_ble_eq_true rfl), (Nat.le_of_ble_eq_true rfl)⟩ ⟨rfl, rfl⟩ trivial nF.no rfl rfl (Nat.le_of_ble_eq_true rfl) dX6_come_2 ⟨(Nat.le_of_ble_eq_true rfl), (Nat.le_of_ble_eq_true rfl)⟩ rfl (fun H hp hz hf => ?_)
  have h0 := h0.fr hf (fun _ _ z => z)
  have hO := hO.fr (j := 0) (by decide) hf nF.no
  refine y_if_ne C 10 dX6_come_5 (by decide) (fun _ => ?_) (fun h => absurd h (ixf_t (n := 5) hf0 (by decide)))
  refine y_aload_n C 0 dX6_come_10 rfl rfl ?_
  refine y_get6 C hO.1 0 (by decide) q12 rfl rfl dX6_come_11 ?_
  refine y_get2 C (dk_0 h0) 4 (by decide) q96 rfl rfl dX6_come_14 ?_
  refine y_get4 C (dk_11 h0) 0 (by decide) q98 rfl rfl dX6_come_17 ?_
  refine y_bipush C (20) dX6_come_20 (by decide) ?_
  refine y_icmp_lt C 28 dX6_come_22 (by decide) (fun h1 => ?_) (fun h1 => ?_)
  · refine y_aload_n C 0 dX6_come_28 rfl rfl ?_
    refine y_get6 C hO.1 4 (by decide) q19 rfl rfl dX6_come_29 ?_
    refine y_aload_n C 0 dX6_come_32 rfl rfl ?_
    refine y_get6 C hO.1 0 (by decide) q12 rfl rfl dX6_come_33 ?_
    refine y_callV C [.ref (b + 1)] (c_X3_record g B0 l b X.1 X.2.1 X.2.2.1 X.2.2.2 hv.1) RX3 1 (wVin q270 q271 q272 q18 q273) hy_X3_record ⟨(Nat.le_of_ble_eq_true rfl), (Nat.le_of_ble_eq_true rfl)⟩ ⟨rfl, rfl⟩ (rcv C.2.2.2.2.2.1 hO.2.1 rfl) (hO.cl0 h0) (fun _ h => h) rfl rfl (Nat.le_of_ble_eq_true rfl) dX6_come_36 ⟨(Nat.le_of_ble_eq_true rfl), (Nat.le_of_ble_eq_true rfl)⟩ rfl (fun H hp hz hf => ?_)
    have hO : sysO 0 g b (rcX X) H := sX.ex (X := rcX X) 0 hp
    have h0 := rcX_0 (X := X) hp
    refine y_aload_n C 0 dX6_come_39 rfl rfl ?_
    refine y_get6 C hO.1 0 (by decide) q12 rfl rfl dX6_come_40 ?_
    refine y_get2 C (dk_0 h0) 4 (by decide) q96 rfl rfl dX6_come_43 ?_
    refine y_iload_n C 1 dX6_come_46 rfl rfl ?_
    refine y_aload_n C 0 dX6_come_47 rfl rfl ?_
    refine y_get6 C hO.1 0 (by decide) q12 rfl rfl dX6_come_48 ?_
    refine y_get2 C (dk_0 h0) 0 (by decide) q97 rfl rfl dX6_come_51 ?_
    refine y_callV C [.int (nI f), .int ((X.2.2.2 0).1 0 0)] (c_X4_add g B0 l (b + 1) (X.2.2.2 0) (nI f) ((X.2.2.2 0).1 0 0) (hv.2 0 (by decide)).1 (nm_lt (hv.2 0 (by decide)).1 (N := 20) (by decide) h1)) RX4 2 (wVin q279 q280 q281 q43 q282) hy_X4_add ⟨(Nat.le_of_ble_eq_true rfl), (Nat.le_of_ble_eq_true rfl)⟩ ⟨rfl, rfl⟩ (rcv C.2.2.2.2.2.1 (dk_11 h0) rfl) h0 (adr_iv (j := 0) (by decide)) rfl rfl (Nat.le_of_ble_eq_true rfl) dX6_come_54 ⟨(Nat.le_of_ble_eq_true rfl), (Nat.le_of_ble_eq_true rfl)⟩ rfl (fun H hp hz hf => ?_)
    have h0 := hp
    have hO := hO.fr (j := 0) (by decide) hf (fun _ z => z)
    exact y_iret C hr (by first | (rw [aCome, if_neg h1]; done) | (rw [aCome, if_pos h1]; done) | (rw [aCome]; done)) (by first | (rw [aCome, if_neg h1]; first | exact hO.cl0 h0 | exact hO.clJ (j := 0) h0) | (rw [aCome, if_pos h1]; first | exact hO.cl0 h0 | exact hO.clJ (j := 0) h0) | (rw [aCome]; first | exact hO.cl0 h0 | exact hO.clJ (j := 0) h0)) dX6_come_57
  · refine y_bipush C (-3) dX6_come_25 (by decide) ?_
    exact y_iret C hr (by first | (rw [aCome, if_neg h1]; done) | (rw [aCome, if_pos h1]; done) | (rw [aCome]; done)) (by first | (rw [aCome, if_neg h1]; first | exact hO.cl0 h0 | exact hO.clJ (j := 0) h0) | (rw [aCome, if_pos h1]; first | exact hO.cl0 h0 | exact hO.clJ (j := 0) h0) | (rw [aCome]; first | exact hO.cl0 h0 | exact hO.clJ (j := 0) h0)) dX6_come_27
def rm_X6_estimate : Room := { frames := 4, cells := 0, slots := 0, locals := 81 }
set_option maxRecDepth 100000 in
set_option maxHeartbeats 4000000 in
theorem c_X6_estimate (g : KG) (B0 : Nat) (l : Launch) (b : Nat) (X : SV) (hv : sv X) (k : Nat) (hk31 : k < 2 ^ 31) : Mt g B0 l yX6_estimate cX6_estimate 3 (some .int) rm_X6_estimate [.ref b, .int (nI k)] (iv b 152) (sX g b X) (some (.int (aEst X k).1)) (sX g b (aEst X k).2) 0 0 := by
  refine Mt_of RX6 (by decide) rfl [(0, .ref b), (1, .int (nI k))] rfl (Nat.le_of_ble_eq_true rfl) ?_
  intro pr e s m args below meth c C hr hin hd
  have hO := hd.ex 0
  have h0 := hd.d0
  refine y_aload_n C 0 dX6_estimate_0 rfl rfl ?_
  refine y_iload_n C 1 dX6_estimate_1 rfl rfl ?_
  refine y_callV C [.int (nI k)] (c_X6_isSet g B0 l b X hv k) RX6 1 (wVin q137 q138 q139 q2 q140) hy_X6_isSet ⟨(Nat.le_of_ble_eq_true rfl), (Nat.le_of_ble_eq_true rfl)⟩ ⟨rfl, rfl⟩ (rcv C.2.2.2.2.2.1 hO.1 rfl) (hO.cl0 h0) (fun _ h => h) rfl rfl (Nat.le_of_ble_eq_true rfl) dX6_estimate_2 ⟨(Nat.le_of_ble_eq_true rfl), (Nat.le_of_ble_eq_true rfl)⟩ rfl (fun H hp hz hf => ?_)
  have hO := hp.ex 0
  have h0 := hp.d0
  refine y_if_ne C 10 dX6_estimate_5 (by decide) (fun h1 => ?_) (fun h1 => ?_)
  · have hkn : k < nm (X.2.2.2 0) := isS_lt hv hk31 h1
    refine y_aload_n C 0 dX6_estimate_10 rfl rfl ?_
    refine y_get6 C hO.1 0 (by decide) q12 rfl rfl dX6_estimate_11 ?_
    refine y_get2 C (dk_0 h0) 4 (by decide) q96 rfl rfl dX6_estimate_14 ?_
    refine y_get4 C (dk_11 h0) 7 (by decide) q136 rfl rfl dX6_estimate_17 ?_
    refine y_iload_n C 1 dX6_estimate_20 rfl rfl ?_
    refine y_iald C (dk_18 h0) k rfl (Nat.lt_of_lt_of_le hkn (hv.2 0 (by decide)).1.2.1.2) (by decide) dX6_estimate_21 ?_
    refine y_if_eq C 28 dX6_estimate_22 (by decide) (fun h2 => ?_) (fun h2 => ?_)
    · refine y_aload_n C 0 dX6_estimate_28 rfl rfl ?_
      refine y_get6 C hO.1 4 (by decide) q19 rfl rfl dX6_estimate_29 ?_
      refine y_aload_n C 0 dX6_estimate_32 rfl rfl ?_
      refine y_get6 C hO.1 0 (by decide) q12 rfl rfl dX6_estimate_33 ?_
      refine y_callV C [.ref (b + 1)] (c_X3_record g B0 l b X.1 X.2.1 X.2.2.1 X.2.2.2 hv.1) RX3 1 (wVin q270 q271 q272 q18 q273) hy_X3_record ⟨(Nat.le_of_ble_eq_true rfl), (Nat.le_of_ble_eq_true rfl)⟩ ⟨rfl, rfl⟩ (rcv C.2.2.2.2.2.1 hO.2.1 rfl) (hO.cl0 h0) (fun _ h => h) rfl rfl (Nat.le_of_ble_eq_true rfl) dX6_estimate_36 ⟨(Nat.le_of_ble_eq_true rfl), (Nat.le_of_ble_eq_true rfl)⟩ rfl (fun H hp hz hf => ?_)
      have hO : sysO 0 g b (rcX X) H := sX.ex (X := rcX X) 0 hp
      have h0 := rcX_0 (X := X) hp
      refine y_aload_n C 0 dX6_estimate_39 rfl rfl ?_
      refine y_get6 C hO.1 0 (by decide) q12 rfl rfl dX6_estimate_40 ?_
      refine y_aload_n C 0 dX6_estimate_43 rfl rfl ?_
      refine y_get6 C hO.1 0 (by decide) q12 rfl rfl dX6_estimate_44 ?_
      refine y_get2 C (dk_0 h0) 4 (by decide) q96 rfl rfl dX6_estimate_47 ?_
      refine y_get4 C (dk_11 h0) 1 (by decide) q287 rfl rfl dX6_estimate_50 ?_
      refine y_iload_n C 1 dX6_estimate_53 rfl rfl ?_
      refine y_iald C (dk_12 h0) k rfl (Nat.lt_of_lt_of_le hkn (hv.2 0 (by decide)).1.2.1.2) (by decide) dX6_estimate_54 ?_
      refine y_top ((hv.2 0 (by decide)).1.2.2.1 _ hkn).1 ?_
      refine y_callV C [.int (nI (fl (X.2.2.2 0) k))] (c_X2_costNow g B0 l (b + 1) (X.2.2.2 0) (fl (X.2.2.2 0) k) ((hv.2 0 (by decide)).1.2.2.1 _ hkn).2 (hv.2 0 (by decide)).2) RX2 1 (wVin q289 q244 q245 q11 q246) hy_X2_costNow ⟨(Nat.le_of_ble_eq_true rfl), (Nat.le_of_ble_eq_true rfl)⟩ ⟨rfl, rfl⟩ (rcv C.2.2.2.2.2.1 (dk_0 h0) rfl) h0 (adr_iv (j := 0) (by decide)) rfl rfl (Nat.le_of_ble_eq_true rfl) dX6_estimate_55 ⟨(Nat.le_of_ble_eq_true rfl), (Nat.le_of_ble_eq_true rfl)⟩ rfl (fun H hp hz hf => ?_)
      have h0 := hp
      have hO := hO.fr (j := 0) (by decide) hf (fun _ z => z)
      refine y_istore_n C dX6_estimate_58 rfl (by decide) rfl ?_
      refine y_aload_n C 1 dX6_estimate_59 rfl rfl ?_
      refine y_get6 C hO.1 0 (by decide) q12 rfl rfl dX6_estimate_60 ?_
      refine y_get2 C (dk_0 h0) 4 (by decide) q96 rfl rfl dX6_estimate_63 ?_
      refine y_get4 C (dk_11 h0) 3 (by decide) q288 rfl rfl dX6_estimate_66 ?_
      refine y_iload_n C 2 dX6_estimate_69 rfl rfl ?_
      refine y_iload_n C 0 dX6_estimate_70 rfl rfl ?_
      refine y_iast C (dk_14 h0) (adr_iv (j := 0) (by decide) _ (ivm 14 (by decide))) k rfl (Nat.lt_of_lt_of_le hkn (hv.2 0 (by decide)).1.2.1.2) (by decide) dX6_estimate_71 (fun H hw1 ow1 zw1 => ?_)
      have h0 := dk_set14 h0 hw1 ow1
      have hO := hO.off (j := 0) (by decide) ow1 (ivm 14 (by decide))
      refine y_aload_n C 1 dX6_estimate_72 rfl rfl ?_
      refine y_get6 C hO.1 0 (by decide) q12 rfl rfl dX6_estimate_73 ?_
      refine y_get2 C (dk_0 h0) 4 (by decide) q96 rfl rfl dX6_estimate_76 ?_
      refine y_get4 C (dk_11 h0) 7 (by decide) q136 rfl rfl dX6_estimate_79 ?_
      refine y_iload_n C 2 dX6_estimate_82 rfl rfl ?_
      refine y_iconst C (1) dX6_estimate_83 (by decide) ?_
      refine y_iast C (dk_18 h0) (adr_iv (j := 0) (by decide) _ (ivm 18 (by decide))) k rfl (Nat.lt_of_lt_of_le hkn (hv.2 0 (by decide)).1.2.1.2) (by decide) dX6_estimate_84 (fun H hw1 ow1 zw1 => ?_)
      have h0 := dk_set18 h0 hw1 ow1
      have hO := hO.off (j := 0) (by decide) ow1 (ivm 18 (by decide))
      refine y_iload_n C 0 dX6_estimate_85 rfl rfl ?_
      exact y_iret C hr (by first | (rw [aEst, if_neg h1, if_neg h2]; done) | (rw [aEst, if_neg h1, if_pos h2]; done) | (rw [aEst, if_pos h1, if_neg h2]; done) | (rw [aEst, if_pos h1, if_pos h2]; done) | (rw [aEst, if_neg h1]; done) | (rw [aEst, if_pos h1]; done) | (rw [aEst]; done)) (by first | (rw [aEst, if_neg h1, if_neg h2]; first | exact hO.cl0 h0 | exact hO.clJ (j := 0) h0) | (rw [aEst, if_neg h1, if_pos h2]; first | exact hO.cl0 h0 | exact hO.clJ (j := 0) h0) | (rw [aEst, if_pos h1, if_neg h2]; first | exact hO.cl0 h0 | exact hO.clJ (j := 0) h0) | (rw [aEst, if_pos h1, if_pos h2]; first | exact hO.cl0 h0 | exact hO.clJ (j := 0) h0) | (rw [aEst, if_neg h1]; first | exact hO.cl0 h0 | exact hO.clJ (j := 0) h0) | (rw [aEst, if_pos h1]; first | exact hO.cl0 h0 | exact hO.clJ (j := 0) h0) | (rw [aEst]; first | exact hO.cl0 h0 | exact hO.clJ (j := 0) h0)) dX6_estimate_86
    · refine y_bipush C (-4) dX6_estimate_25 (by decide) ?_
      exact y_iret C hr (by first | (rw [aEst, if_neg h1, if_neg h2]; done) | (rw [aEst, if_neg h1, if_pos h2]; done) | (rw [aEst, if_pos h1, if_neg h2]; done) | (rw [aEst, if_pos h1, if_pos h2]; done) | (rw [aEst, if_neg h1]; done) | (rw [aEst, if_pos h1]; done) | (rw [aEst]; done)) (by first | (rw [aEst, if_neg h1, if_neg h2]; first | exact hO.cl0 h0 | exact hO.clJ (j := 0) h0) | (rw [aEst, if_neg h1, if_pos h2]; first | exact hO.cl0 h0 | exact hO.clJ (j := 0) h0) | (rw [aEst, if_pos h1, if_neg h2]; first | exact hO.cl0 h0 | exact hO.clJ (j := 0) h0) | (rw [aEst, if_pos h1, if_pos h2]; first | exact hO.cl0 h0 | exact hO.clJ (j := 0) h0) | (rw [aEst, if_neg h1]; first | exact hO.cl0 h0 | exact hO.clJ (j := 0) h0) | (rw [aEst, if_pos h1]; first | exact hO.cl0 h0 | exact hO.clJ (j := 0) h0) | (rw [aEst]; first | exact hO.cl0 h0 | exact hO.clJ (j := 0) h0)) dX6_estimate_27
  · refine y_iconst C (-1) dX6_estimate_8 (by decide) ?_
    exact y_iret C hr (by first | (rw [aEst, if_neg h1]; done) | (rw [aEst, if_pos h1]; done) | (rw [aEst]; done)) (by first | (rw [aEst, if_neg h1]; first | exact hO.cl0 h0 | exact hO.clJ (j := 0) h0) | (rw [aEst, if_pos h1]; first | exact hO.cl0 h0 | exact hO.clJ (j := 0) h0) | (rw [aEst]; first | exact hO.cl0 h0 | exact hO.clJ (j := 0) h0)) dX6_estimate_9
def rm_X6_answer : Room := { frames := 5, cells := 0, slots := 0, locals := 108 }
set_option maxRecDepth 100000 in
set_option maxHeartbeats 4000000 in
theorem c_X6_answer (g : KG) (B0 : Nat) (l : Launch) (b : Nat) (X : SV) (hv : sv X) (k : Nat) (hk31 : k < 2 ^ 31) (bb : Int32) : Mt g B0 l yX6_answer cX6_answer 3 (some .int) rm_X6_answer [.ref b, .int (nI k), .int bb] (iv b 152) (sX g b X) (some (.int (aAns X k bb).1)) (sX g b (aAns X k bb).2) 0 0 := by
  refine Mt_of RX6 (by decide) rfl [(0, .ref b), (1, .int (nI k)), (2, .int bb)] rfl (Nat.le_of_ble_eq_true rfl) ?_
  intro pr e s m args below meth c C hr hin hd
  have hO := hd.ex 0
  have h0 := hd.d0
  refine y_aload_n C 0 dX6_answer_0 rfl rfl ?_
  refine y_iload_n C 1 dX6_answer_1 rfl rfl ?_
  refine y_callV C [.int (nI k)] (c_X6_isSet g B0 l b X hv k) RX6 1 (wVin q137 q138 q139 q2 q140) hy_X6_isSet ⟨(Nat.le_of_ble_eq_true rfl), (Nat.le_of_ble_eq_true rfl)⟩ ⟨rfl, rfl⟩ (rcv C.2.2.2.2.2.1 hO.1 rfl) (hO.cl0 h0) (fun _ h => h) rfl rfl (Nat.le_of_ble_eq_true rfl) dX6_answer_2 ⟨(Nat.le_of_ble_eq_true rfl), (Nat.le_of_ble_eq_true rfl)⟩ rfl (fun H hp hz hf => ?_)
  have hO := hp.ex 0
  have h0 := hp.d0
  refine y_if_ne C 10 dX6_answer_5 (by decide) (fun h1 => ?_) (fun h1 => ?_)
  · have hkn : k < nm (X.2.2.2 0) := isS_lt hv hk31 h1
    refine y_aload_n C 0 dX6_answer_10 rfl rfl ?_
    refine y_get6 C hO.1 0 (by decide) q12 rfl rfl dX6_answer_11 ?_
    refine y_get2 C (dk_0 h0) 4 (by decide) q96 rfl rfl dX6_answer_14 ?_
    refine y_get4 C (dk_11 h0) 7 (by decide) q136 rfl rfl dX6_answer_17 ?_
    refine y_iload_n C 1 dX6_answer_20 rfl rfl ?_
    refine y_iald C (dk_18 h0) k rfl (Nat.lt_of_lt_of_le hkn (hv.2 0 (by decide)).1.2.1.2) (by decide) dX6_answer_21 ?_
    refine y_iconst C (1) dX6_answer_22 (by decide) ?_
    refine y_icmp_eq C 29 dX6_answer_23 (by decide) (fun h2 => ?_) (fun h2 => ?_)
    · refine y_aload_n C 0 dX6_answer_29 rfl rfl ?_
      refine y_get6 C hO.1 4 (by decide) q19 rfl rfl dX6_answer_30 ?_
      refine y_aload_n C 0 dX6_answer_33 rfl rfl ?_
      refine y_get6 C hO.1 0 (by decide) q12 rfl rfl dX6_answer_34 ?_
      refine y_callV C [.ref (b + 1)] (c_X3_record g B0 l b X.1 X.2.1 X.2.2.1 X.2.2.2 hv.1) RX3 1 (wVin q270 q271 q272 q18 q273) hy_X3_record ⟨(Nat.le_of_ble_eq_true rfl), (Nat.le_of_ble_eq_true rfl)⟩ ⟨rfl, rfl⟩ (rcv C.2.2.2.2.2.1 hO.2.1 rfl) (hO.cl0 h0) (fun _ h => h) rfl rfl (Nat.le_of_ble_eq_true rfl) dX6_answer_37 ⟨(Nat.le_of_ble_eq_true rfl), (Nat.le_of_ble_eq_true rfl)⟩ rfl (fun H hp hz hf => ?_)
      have hO : sysO 0 g b (rcX X) H := sX.ex (X := rcX X) 0 hp
      have h0 := rcX_0 (X := X) hp
      refine y_aload_n C 0 dX6_answer_40 rfl rfl ?_
      refine y_get6 C hO.1 0 (by decide) q12 rfl rfl dX6_answer_41 ?_
      refine y_iload_n C 1 dX6_answer_44 rfl rfl ?_
      refine y_iload_n C 2 dX6_answer_45 rfl rfl ?_
      refine y_callV C [.int (nI k), .int bb] (c_X2_decide g B0 l (b + 1) (X.2.2.2 0) k bb (Nat.lt_of_lt_of_le hkn (hv.2 0 (by decide)).1.2.1.2) (hv.2 0 (by decide)).1) RX2 2 (wVin q294 q295 q296 q11 q297) hy_X2_decide ⟨(Nat.le_of_ble_eq_true rfl), (Nat.le_of_ble_eq_true rfl)⟩ ⟨rfl, rfl⟩ (rcv C.2.2.2.2.2.1 (dk_0 h0) rfl) h0 (adr_iv (j := 0) (by decide)) rfl rfl (Nat.le_of_ble_eq_true rfl) dX6_answer_46 ⟨(Nat.le_of_ble_eq_true rfl), (Nat.le_of_ble_eq_true rfl)⟩ rfl (fun H hp hz hf => ?_)
      have h0 := hp
      have hO := hO.fr (j := 0) (by decide) hf (fun _ z => z)
      refine y_aload_n C 0 dX6_answer_49 rfl rfl ?_
      refine y_get6 C hO.1 0 (by decide) q12 rfl rfl dX6_answer_50 ?_
      refine y_get2 C (dk_0 h0) 4 (by decide) q96 rfl rfl dX6_answer_53 ?_
      refine y_get4 C (dk_11 h0) 7 (by decide) q136 rfl rfl dX6_answer_56 ?_
      refine y_iload_n C 1 dX6_answer_59 rfl rfl ?_
      refine y_iald C (dk_18 h0) k rfl (Nat.lt_of_lt_of_le hkn (hv.2 0 (by decide)).1.2.1.2) (by decide) dX6_answer_60 ?_
      exact y_iret C hr (by first | (rw [aAns, if_neg h1, if_neg h2]; done) | (rw [aAns, if_neg h1, if_pos h2]; done) | (rw [aAns, if_pos h1, if_neg h2]; done) | (rw [aAns, if_pos h1, if_pos h2]; done) | (rw [aAns, if_neg h1]; done) | (rw [aAns, if_pos h1]; done) | (rw [aAns]; done)) (by first | (rw [aAns, if_neg h1, if_neg h2]; first | exact hO.cl0 h0 | exact hO.clJ (j := 0) h0) | (rw [aAns, if_neg h1, if_pos h2]; first | exact hO.cl0 h0 | exact hO.clJ (j := 0) h0) | (rw [aAns, if_pos h1, if_neg h2]; first | exact hO.cl0 h0 | exact hO.clJ (j := 0) h0) | (rw [aAns, if_pos h1, if_pos h2]; first | exact hO.cl0 h0 | exact hO.clJ (j := 0) h0) | (rw [aAns, if_neg h1]; first | exact hO.cl0 h0 | exact hO.clJ (j := 0) h0) | (rw [aAns, if_pos h1]; first | exact hO.cl0 h0 | exact hO.clJ (j := 0) h0) | (rw [aAns]; first | exact hO.cl0 h0 | exact hO.clJ (j := 0) h0)) dX6_answer_61
    · refine y_bipush C (-4) dX6_answer_26 (by decide) ?_
      exact y_iret C hr (by first | (rw [aAns, if_neg h1, if_neg h2]; done) | (rw [aAns, if_neg h1, if_pos h2]; done) | (rw [aAns, if_pos h1, if_neg h2]; done) | (rw [aAns, if_pos h1, if_pos h2]; done) | (rw [aAns, if_neg h1]; done) | (rw [aAns, if_pos h1]; done) | (rw [aAns]; done)) (by first | (rw [aAns, if_neg h1, if_neg h2]; first | exact hO.cl0 h0 | exact hO.clJ (j := 0) h0) | (rw [aAns, if_neg h1, if_pos h2]; first | exact hO.cl0 h0 | exact hO.clJ (j := 0) h0) | (rw [aAns, if_pos h1, if_neg h2]; first | exact hO.cl0 h0 | exact hO.clJ (j := 0) h0) | (rw [aAns, if_pos h1, if_pos h2]; first | exact hO.cl0 h0 | exact hO.clJ (j := 0) h0) | (rw [aAns, if_neg h1]; first | exact hO.cl0 h0 | exact hO.clJ (j := 0) h0) | (rw [aAns, if_pos h1]; first | exact hO.cl0 h0 | exact hO.clJ (j := 0) h0) | (rw [aAns]; first | exact hO.cl0 h0 | exact hO.clJ (j := 0) h0)) dX6_answer_28
  · refine y_iconst C (-1) dX6_answer_8 (by decide) ?_
    exact y_iret C hr (by first | (rw [aAns, if_neg h1]; done) | (rw [aAns, if_pos h1]; done) | (rw [aAns]; done)) (by first | (rw [aAns, if_neg h1]; first | exact hO.cl0 h0 | exact hO.clJ (j := 0) h0) | (rw [aAns, if_pos h1]; first | exact hO.cl0 h0 | exact hO.clJ (j := 0) h0) | (rw [aAns]; first | exact hO.cl0 h0 | exact hO.clJ (j := 0) h0)) dX6_answer_9
def rm_X6_lend : Room := { frames := 4, cells := 0, slots := 0, locals := 81 }
set_option maxRecDepth 100000 in
set_option maxHeartbeats 4000000 in
theorem c_X6_lend (g : KG) (B0 : Nat) (l : Launch) (b : Nat) (X : SV) (hv : sv X) (k : Nat) (hk31 : k < 2 ^ 31) : Mt g B0 l yX6_lend cX6_lend 2 (some .int) rm_X6_lend [.ref b, .int (nI k)] (iv b 152) (sX g b X) (some (.int (aLend X k).1)) (sX g b (aLend X k).2) 0 0 := by
  refine Mt_of RX6 (by decide) rfl [(0, .ref b), (1, .int (nI k))] rfl (Nat.le_of_ble_eq_true rfl) ?_
  intro pr e s m args below meth c C hr hin hd
  have hO := hd.ex 0
  have h0 := hd.d0
  refine y_aload_n C 0 dX6_lend_0 rfl rfl ?_
  refine y_iload_n C 1 dX6_lend_1 rfl rfl ?_
  refine y_callV C [.int (nI k)] (c_X6_isSet g B0 l b X hv k) RX6 1 (wVin q137 q138 q139 q2 q140) hy_X6_isSet ⟨(Nat.le_of_ble_eq_true rfl), (Nat.le_of_ble_eq_true rfl)⟩ ⟨rfl, rfl⟩ (rcv C.2.2.2.2.2.1 hO.1 rfl) (hO.cl0 h0) (fun _ h => h) rfl rfl (Nat.le_of_ble_eq_true rfl) dX6_lend_2 ⟨(Nat.le_of_ble_eq_true rfl), (Nat.le_of_ble_eq_true rfl)⟩ rfl (fun H hp hz hf => ?_)
  have hO := hp.ex 0
  have h0 := hp.d0
  refine y_if_ne C 10 dX6_lend_5 (by decide) (fun h1 => ?_) (fun h1 => ?_)
  · have hkn : k < nm (X.2.2.2 0) := isS_lt hv hk31 h1
    refine y_aload_n C 0 dX6_lend_10 rfl rfl ?_
    refine y_get6 C hO.1 0 (by decide) q12 rfl rfl dX6_lend_11 ?_
    refine y_get2 C (dk_0 h0) 4 (by decide) q96 rfl rfl dX6_lend_14 ?_
    refine y_get4 C (dk_11 h0) 7 (by decide) q136 rfl rfl dX6_lend_17 ?_
    refine y_iload_n C 1 dX6_lend_20 rfl rfl ?_
    refine y_iald C (dk_18 h0) k rfl (Nat.lt_of_lt_of_le hkn (hv.2 0 (by decide)).1.2.1.2) (by decide) dX6_lend_21 ?_
    refine y_iconst C (4) dX6_lend_22 (by decide) ?_
    refine y_icmp_ge C 42 dX6_lend_23 (by decide) (fun h2 => ?_) (fun h2 => ?_)
    · refine y_bipush C (-4) dX6_lend_42 (by decide) ?_
      exact y_iret C hr (by first | (rw [aLend, if_neg h1, if_neg h2]; done) | (rw [aLend, if_neg h1, if_pos h2]; done) | (rw [aLend, if_pos h1, if_neg h2]; done) | (rw [aLend, if_pos h1, if_pos h2]; done) | (rw [aLend, if_neg h1]; done) | (rw [aLend, if_pos h1]; done) | (rw [aLend]; done)) (by first | (rw [aLend, if_neg h1, if_neg h2]; first | exact hO.cl0 h0 | exact hO.clJ (j := 0) h0) | (rw [aLend, if_neg h1, if_pos h2]; first | exact hO.cl0 h0 | exact hO.clJ (j := 0) h0) | (rw [aLend, if_pos h1, if_neg h2]; first | exact hO.cl0 h0 | exact hO.clJ (j := 0) h0) | (rw [aLend, if_pos h1, if_pos h2]; first | exact hO.cl0 h0 | exact hO.clJ (j := 0) h0) | (rw [aLend, if_neg h1]; first | exact hO.cl0 h0 | exact hO.clJ (j := 0) h0) | (rw [aLend, if_pos h1]; first | exact hO.cl0 h0 | exact hO.clJ (j := 0) h0) | (rw [aLend]; first | exact hO.cl0 h0 | exact hO.clJ (j := 0) h0)) dX6_lend_44
    · refine y_aload_n C 0 dX6_lend_26 rfl rfl ?_
      refine y_get6 C hO.1 0 (by decide) q12 rfl rfl dX6_lend_27 ?_
      refine y_get2 C (dk_0 h0) 4 (by decide) q96 rfl rfl dX6_lend_30 ?_
      refine y_get4 C (dk_11 h0) 6 (by decide) q317 rfl rfl dX6_lend_33 ?_
      refine y_iload_n C 1 dX6_lend_36 rfl rfl ?_
      refine y_iald C (dk_17 h0) k rfl (Nat.lt_of_lt_of_le hkn (hv.2 0 (by decide)).1.2.1.2) (by decide) dX6_lend_37 ?_
      refine y_iconst C (1) dX6_lend_38 (by decide) ?_
      refine y_icmp_ne C 45 dX6_lend_39 (by decide) (fun h3 => ?_) (fun h3 => ?_)
      · refine y_aload_n C 0 dX6_lend_45 rfl rfl ?_
        refine y_get6 C hO.1 0 (by decide) q12 rfl rfl dX6_lend_46 ?_
        refine y_callV C [] (c_X2_loanersThere g B0 l (b + 1) (X.2.2.2 0) (hv.2 0 (by decide)).1) RX2 0 (wVin q115 q116 q117 q11 q118) hy_X2_loanersThere ⟨(Nat.le_of_ble_eq_true rfl), (Nat.le_of_ble_eq_true rfl)⟩ ⟨rfl, rfl⟩ (rcv C.2.2.2.2.2.1 (dk_0 h0) rfl) h0 (adr_iv (j := 0) (by decide)) rfl rfl (Nat.le_of_ble_eq_true rfl) dX6_lend_49 ⟨(Nat.le_of_ble_eq_true rfl), (Nat.le_of_ble_eq_true rfl)⟩ rfl (fun H hp hz hf => ?_)
        have h0 := hp
        have hO := hO.fr (j := 0) (by decide) hf (fun _ z => z)
        refine y_if_gt C 58 dX6_lend_52 (by decide) (fun h4 => ?_) (fun h4 => ?_)
        · refine y_aload_n C 0 dX6_lend_58 rfl rfl ?_
          refine y_get6 C hO.1 4 (by decide) q19 rfl rfl dX6_lend_59 ?_
          refine y_aload_n C 0 dX6_lend_62 rfl rfl ?_
          refine y_get6 C hO.1 0 (by decide) q12 rfl rfl dX6_lend_63 ?_
          refine y_callV C [.ref (b + 1)] (c_X3_record g B0 l b X.1 X.2.1 X.2.2.1 X.2.2.2 hv.1) RX3 1 (wVin q270 q271 q272 q18 q273) hy_X3_record ⟨(Nat.le_of_ble_eq_true rfl), (Nat.le_of_ble_eq_true rfl)⟩ ⟨rfl, rfl⟩ (rcv C.2.2.2.2.2.1 hO.2.1 rfl) (hO.cl0 h0) (fun _ h => h) rfl rfl (Nat.le_of_ble_eq_true rfl) dX6_lend_66 ⟨(Nat.le_of_ble_eq_true rfl), (Nat.le_of_ble_eq_true rfl)⟩ rfl (fun H hp hz hf => ?_)
          have hO : sysO 0 g b (rcX X) H := sX.ex (X := rcX X) 0 hp
          have h0 := rcX_0 (X := X) hp
          refine y_aload_n C 0 dX6_lend_69 rfl rfl ?_
          refine y_get6 C hO.1 0 (by decide) q12 rfl rfl dX6_lend_70 ?_
          refine y_get2 C (dk_0 h0) 4 (by decide) q96 rfl rfl dX6_lend_73 ?_
          refine y_get4 C (dk_11 h0) 6 (by decide) q317 rfl rfl dX6_lend_76 ?_
          refine y_iload_n C 1 dX6_lend_79 rfl rfl ?_
          refine y_iconst C (1) dX6_lend_80 (by decide) ?_
          refine y_iast C (dk_17 h0) (adr_iv (j := 0) (by decide) _ (ivm 17 (by decide))) k rfl (Nat.lt_of_lt_of_le hkn (hv.2 0 (by decide)).1.2.1.2) (by decide) dX6_lend_81 (fun H hw1 ow1 zw1 => ?_)
          have h0 := dk_set17 h0 hw1 ow1
          have hO := hO.off (j := 0) (by decide) ow1 (ivm 17 (by decide))
          refine y_aload_n C 0 dX6_lend_82 rfl rfl ?_
          refine y_get6 C hO.1 0 (by decide) q12 rfl rfl dX6_lend_83 ?_
          refine y_callV C [] (c_X2_loanersThere g B0 l (b + 1) (dset (X.2.2.2 0) 17 k (1 : Int32)) ((hv.2 0 (by decide)).1.to rfl rfl rfl rfl)) RX2 0 (wVin q115 q116 q117 q11 q118) hy_X2_loanersThere ⟨(Nat.le_of_ble_eq_true rfl), (Nat.le_of_ble_eq_true rfl)⟩ ⟨rfl, rfl⟩ (rcv C.2.2.2.2.2.1 (dk_0 h0) rfl) h0 (adr_iv (j := 0) (by decide)) rfl rfl (Nat.le_of_ble_eq_true rfl) dX6_lend_86 ⟨(Nat.le_of_ble_eq_true rfl), (Nat.le_of_ble_eq_true rfl)⟩ rfl (fun H hp hz hf => ?_)
          have h0 := hp
          have hO := hO.fr (j := 0) (by decide) hf (fun _ z => z)
          exact y_iret C hr (by first | (rw [aLend, if_neg h1, if_neg h2, if_neg h3, if_neg h4]; done) | (rw [aLend, if_neg h1, if_neg h2, if_neg h3, if_pos h4]; done) | (rw [aLend, if_neg h1, if_neg h2, if_pos h3, if_neg h4]; done) | (rw [aLend, if_neg h1, if_neg h2, if_pos h3, if_pos h4]; done) | (rw [aLend, if_neg h1, if_pos h2, if_neg h3, if_neg h4]; done) | (rw [aLend, if_neg h1, if_pos h2, if_neg h3, if_pos h4]; done) | (rw [aLend, if_neg h1, if_pos h2, if_pos h3, if_neg h4]; done) | (rw [aLend, if_neg h1, if_pos h2, if_pos h3, if_pos h4]; done) | (rw [aLend, if_pos h1, if_neg h2, if_neg h3, if_neg h4]; done) | (rw [aLend, if_pos h1, if_neg h2, if_neg h3, if_pos h4]; done) | (rw [aLend, if_pos h1, if_neg h2, if_pos h3, if_neg h4]; done) | (rw [aLend, if_pos h1, if_neg h2, if_pos h3, if_pos h4]; done) | (rw [aLend, if_pos h1, if_pos h2, if_neg h3, if_neg h4]; done) | (rw [aLend, if_pos h1, if_pos h2, if_neg h3, if_pos h4]; done) | (rw [aLend, if_pos h1, if_pos h2, if_pos h3, if_neg h4]; done) | (rw [aLend, if_pos h1, if_pos h2, if_pos h3, if_pos h4]; done) | (rw [aLend, if_neg h1, if_neg h2, if_neg h3]; done) | (rw [aLend, if_neg h1, if_neg h2, if_pos h3]; done) | (rw [aLend, if_neg h1, if_pos h2, if_neg h3]; done) | (rw [aLend, if_neg h1, if_pos h2, if_pos h3]; done) | (rw [aLend, if_pos h1, if_neg h2, if_neg h3]; done) | (rw [aLend, if_pos h1, if_neg h2, if_pos h3]; done) | (rw [aLend, if_pos h1, if_pos h2, if_neg h3]; done) | (rw [aLend, if_pos h1, if_pos h2, if_pos h3]; done) | (rw [aLend, if_neg h1, if_neg h2]; done) | (rw [aLend, if_neg h1, if_pos h2]; done) | (rw [aLend, if_pos h1, if_neg h2]; done) | (rw [aLend, if_pos h1, if_pos h2]; done) | (rw [aLend, if_neg h1]; done) | (rw [aLend, if_pos h1]; done) | (rw [aLend]; done)) (by first | (rw [aLend, if_neg h1, if_neg h2, if_neg h3, if_neg h4]; first | exact hO.cl0 h0 | exact hO.clJ (j := 0) h0) | (rw [aLend, if_neg h1, if_neg h2, if_neg h3, if_pos h4]; first | exact hO.cl0 h0 | exact hO.clJ (j := 0) h0) | (rw [aLend, if_neg h1, if_neg h2, if_pos h3, if_neg h4]; first | exact hO.cl0 h0 | exact hO.clJ (j := 0) h0) | (rw [aLend, if_neg h1, if_neg h2, if_pos h3, if_pos h4]; first | exact hO.cl0 h0 | exact hO.clJ (j := 0) h0) | (rw [aLend, if_neg h1, if_pos h2, if_neg h3, if_neg h4]; first | exact hO.cl0 h0 | exact hO.clJ (j := 0) h0) | (rw [aLend, if_neg h1, if_pos h2, if_neg h3, if_pos h4]; first | exact hO.cl0 h0 | exact hO.clJ (j := 0) h0) | (rw [aLend, if_neg h1, if_pos h2, if_pos h3, if_neg h4]; first | exact hO.cl0 h0 | exact hO.clJ (j := 0) h0) | (rw [aLend, if_neg h1, if_pos h2, if_pos h3, if_pos h4]; first | exact hO.cl0 h0 | exact hO.clJ (j := 0) h0) | (rw [aLend, if_pos h1, if_neg h2, if_neg h3, if_neg h4]; first | exact hO.cl0 h0 | exact hO.clJ (j := 0) h0) | (rw [aLend, if_pos h1, if_neg h2, if_neg h3, if_pos h4]; first | exact hO.cl0 h0 | exact hO.clJ (j := 0) h0) | (rw [aLend, if_pos h1, if_neg h2, if_pos h3, if_neg h4]; first | exact hO.cl0 h0 | exact hO.clJ (j := 0) h0) | (rw [aLend, if_pos h1, if_neg h2, if_pos h3, if_pos h4]; first | exact hO.cl0 h0 | exact hO.clJ (j := 0) h0) | (rw [aLend, if_pos h1, if_pos h2, if_neg h3, if_neg h4]; first | exact hO.cl0 h0 | exact hO.clJ (j := 0) h0) | (rw [aLend, if_pos h1, if_pos h2, if_neg h3, if_pos h4]; first | exact hO.cl0 h0 | exact hO.clJ (j := 0) h0) | (rw [aLend, if_pos h1, if_pos h2, if_pos h3, if_neg h4]; first | exact hO.cl0 h0 | exact hO.clJ (j := 0) h0) | (rw [aLend, if_pos h1, if_pos h2, if_pos h3, if_pos h4]; first | exact hO.cl0 h0 | exact hO.clJ (j := 0) h0) | (rw [aLend, if_neg h1, if_neg h2, if_neg h3]; first | exact hO.cl0 h0 | exact hO.clJ (j := 0) h0) | (rw [aLend, if_neg h1, if_neg h2, if_pos h3]; first | exact hO.cl0 h0 | exact hO.clJ (j := 0) h0) | (rw [aLend, if_neg h1, if_pos h2, if_neg h3]; first | exact hO.cl0 h0 | exact hO.clJ (j := 0) h0) | (rw [aLend, if_neg h1, if_pos h2, if_pos h3]; first | exact hO.cl0 h0 | exact hO.clJ (j := 0) h0) | (rw [aLend, if_pos h1, if_neg h2, if_neg h3]; first | exact hO.cl0 h0 | exact hO.clJ (j := 0) h0) | (rw [aLend, if_pos h1, if_neg h2, if_pos h3]; first | exact hO.cl0 h0 | exact hO.clJ (j := 0) h0) | (rw [aLend, if_pos h1, if_pos h2, if_neg h3]; first | exact hO.cl0 h0 | exact hO.clJ (j := 0) h0) | (rw [aLend, if_pos h1, if_pos h2, if_pos h3]; first | exact hO.cl0 h0 | exact hO.clJ (j := 0) h0) | (rw [aLend, if_neg h1, if_neg h2]; first | exact hO.cl0 h0 | exact hO.clJ (j := 0) h0) | (rw [aLend, if_neg h1, if_pos h2]; first | exact hO.cl0 h0 | exact hO.clJ (j := 0) h0) | (rw [aLend, if_pos h1, if_neg h2]; first | exact hO.cl0 h0 | exact hO.clJ (j := 0) h0) | (rw [aLend, if_pos h1, if_pos h2]; first | exact hO.cl0 h0 | exact hO.clJ (j := 0) h0) | (rw [aLend, if_neg h1]; first | exact hO.cl0 h0 | exact hO.clJ (j := 0) h0) | (rw [aLend, if_pos h1]; first | exact hO.cl0 h0 | exact hO.clJ (j := 0) h0) | (rw [aLend]; first | exact hO.cl0 h0 | exact hO.clJ (j := 0) h0)) dX6_lend_89
        · refine y_bipush C (-3) dX6_lend_55 (by decide) ?_
          exact y_iret C hr (by first | (rw [aLend, if_neg h1, if_neg h2, if_neg h3, if_neg h4]; done) | (rw [aLend, if_neg h1, if_neg h2, if_neg h3, if_pos h4]; done) | (rw [aLend, if_neg h1, if_neg h2, if_pos h3, if_neg h4]; done) | (rw [aLend, if_neg h1, if_neg h2, if_pos h3, if_pos h4]; done) | (rw [aLend, if_neg h1, if_pos h2, if_neg h3, if_neg h4]; done) | (rw [aLend, if_neg h1, if_pos h2, if_neg h3, if_pos h4]; done) | (rw [aLend, if_neg h1, if_pos h2, if_pos h3, if_neg h4]; done) | (rw [aLend, if_neg h1, if_pos h2, if_pos h3, if_pos h4]; done) | (rw [aLend, if_pos h1, if_neg h2, if_neg h3, if_neg h4]; done) | (rw [aLend, if_pos h1, if_neg h2, if_neg h3, if_pos h4]; done) | (rw [aLend, if_pos h1, if_neg h2, if_pos h3, if_neg h4]; done) | (rw [aLend, if_pos h1, if_neg h2, if_pos h3, if_pos h4]; done) | (rw [aLend, if_pos h1, if_pos h2, if_neg h3, if_neg h4]; done) | (rw [aLend, if_pos h1, if_pos h2, if_neg h3, if_pos h4]; done) | (rw [aLend, if_pos h1, if_pos h2, if_pos h3, if_neg h4]; done) | (rw [aLend, if_pos h1, if_pos h2, if_pos h3, if_pos h4]; done) | (rw [aLend, if_neg h1, if_neg h2, if_neg h3]; done) | (rw [aLend, if_neg h1, if_neg h2, if_pos h3]; done) | (rw [aLend, if_neg h1, if_pos h2, if_neg h3]; done) | (rw [aLend, if_neg h1, if_pos h2, if_pos h3]; done) | (rw [aLend, if_pos h1, if_neg h2, if_neg h3]; done) | (rw [aLend, if_pos h1, if_neg h2, if_pos h3]; done) | (rw [aLend, if_pos h1, if_pos h2, if_neg h3]; done) | (rw [aLend, if_pos h1, if_pos h2, if_pos h3]; done) | (rw [aLend, if_neg h1, if_neg h2]; done) | (rw [aLend, if_neg h1, if_pos h2]; done) | (rw [aLend, if_pos h1, if_neg h2]; done) | (rw [aLend, if_pos h1, if_pos h2]; done) | (rw [aLend, if_neg h1]; done) | (rw [aLend, if_pos h1]; done) | (rw [aLend]; done)) (by first | (rw [aLend, if_neg h1, if_neg h2, if_neg h3, if_neg h4]; first | exact hO.cl0 h0 | exact hO.clJ (j := 0) h0) | (rw [aLend, if_neg h1, if_neg h2, if_neg h3, if_pos h4]; first | exact hO.cl0 h0 | exact hO.clJ (j := 0) h0) | (rw [aLend, if_neg h1, if_neg h2, if_pos h3, if_neg h4]; first | exact hO.cl0 h0 | exact hO.clJ (j := 0) h0) | (rw [aLend, if_neg h1, if_neg h2, if_pos h3, if_pos h4]; first | exact hO.cl0 h0 | exact hO.clJ (j := 0) h0) | (rw [aLend, if_neg h1, if_pos h2, if_neg h3, if_neg h4]; first | exact hO.cl0 h0 | exact hO.clJ (j := 0) h0) | (rw [aLend, if_neg h1, if_pos h2, if_neg h3, if_pos h4]; first | exact hO.cl0 h0 | exact hO.clJ (j := 0) h0) | (rw [aLend, if_neg h1, if_pos h2, if_pos h3, if_neg h4]; first | exact hO.cl0 h0 | exact hO.clJ (j := 0) h0) | (rw [aLend, if_neg h1, if_pos h2, if_pos h3, if_pos h4]; first | exact hO.cl0 h0 | exact hO.clJ (j := 0) h0) | (rw [aLend, if_pos h1, if_neg h2, if_neg h3, if_neg h4]; first | exact hO.cl0 h0 | exact hO.clJ (j := 0) h0) | (rw [aLend, if_pos h1, if_neg h2, if_neg h3, if_pos h4]; first | exact hO.cl0 h0 | exact hO.clJ (j := 0) h0) | (rw [aLend, if_pos h1, if_neg h2, if_pos h3, if_neg h4]; first | exact hO.cl0 h0 | exact hO.clJ (j := 0) h0) | (rw [aLend, if_pos h1, if_neg h2, if_pos h3, if_pos h4]; first | exact hO.cl0 h0 | exact hO.clJ (j := 0) h0) | (rw [aLend, if_pos h1, if_pos h2, if_neg h3, if_neg h4]; first | exact hO.cl0 h0 | exact hO.clJ (j := 0) h0) | (rw [aLend, if_pos h1, if_pos h2, if_neg h3, if_pos h4]; first | exact hO.cl0 h0 | exact hO.clJ (j := 0) h0) | (rw [aLend, if_pos h1, if_pos h2, if_pos h3, if_neg h4]; first | exact hO.cl0 h0 | exact hO.clJ (j := 0) h0) | (rw [aLend, if_pos h1, if_pos h2, if_pos h3, if_pos h4]; first | exact hO.cl0 h0 | exact hO.clJ (j := 0) h0) | (rw [aLend, if_neg h1, if_neg h2, if_neg h3]; first | exact hO.cl0 h0 | exact hO.clJ (j := 0) h0) | (rw [aLend, if_neg h1, if_neg h2, if_pos h3]; first | exact hO.cl0 h0 | exact hO.clJ (j := 0) h0) | (rw [aLend, if_neg h1, if_pos h2, if_neg h3]; first | exact hO.cl0 h0 | exact hO.clJ (j := 0) h0) | (rw [aLend, if_neg h1, if_pos h2, if_pos h3]; first | exact hO.cl0 h0 | exact hO.clJ (j := 0) h0) | (rw [aLend, if_pos h1, if_neg h2, if_neg h3]; first | exact hO.cl0 h0 | exact hO.clJ (j := 0) h0) | (rw [aLend, if_pos h1, if_neg h2, if_pos h3]; first | exact hO.cl0 h0 | exact hO.clJ (j := 0) h0) | (rw [aLend, if_pos h1, if_pos h2, if_neg h3]; first | exact hO.cl0 h0 | exact hO.clJ (j := 0) h0) | (rw [aLend, if_pos h1, if_pos h2, if_pos h3]; first | exact hO.cl0 h0 | exact hO.clJ (j := 0) h0) | (rw [aLend, if_neg h1, if_neg h2]; first | exact hO.cl0 h0 | exact hO.clJ (j := 0) h0) | (rw [aLend, if_neg h1, if_pos h2]; first | exact hO.cl0 h0 | exact hO.clJ (j := 0) h0) | (rw [aLend, if_pos h1, if_neg h2]; first | exact hO.cl0 h0 | exact hO.clJ (j := 0) h0) | (rw [aLend, if_pos h1, if_pos h2]; first | exact hO.cl0 h0 | exact hO.clJ (j := 0) h0) | (rw [aLend, if_neg h1]; first | exact hO.cl0 h0 | exact hO.clJ (j := 0) h0) | (rw [aLend, if_pos h1]; first | exact hO.cl0 h0 | exact hO.clJ (j := 0) h0) | (rw [aLend]; first | exact hO.cl0 h0 | exact hO.clJ (j := 0) h0)) dX6_lend_57
      · refine y_bipush C (-4) dX6_lend_42 (by decide) ?_
        exact y_iret C hr (by first | (rw [aLend, if_neg h1, if_neg h2, if_neg h3]; done) | (rw [aLend, if_neg h1, if_neg h2, if_pos h3]; done) | (rw [aLend, if_neg h1, if_pos h2, if_neg h3]; done) | (rw [aLend, if_neg h1, if_pos h2, if_pos h3]; done) | (rw [aLend, if_pos h1, if_neg h2, if_neg h3]; done) | (rw [aLend, if_pos h1, if_neg h2, if_pos h3]; done) | (rw [aLend, if_pos h1, if_pos h2, if_neg h3]; done) | (rw [aLend, if_pos h1, if_pos h2, if_pos h3]; done) | (rw [aLend, if_neg h1, if_neg h2]; done) | (rw [aLend, if_neg h1, if_pos h2]; done) | (rw [aLend, if_pos h1, if_neg h2]; done) | (rw [aLend, if_pos h1, if_pos h2]; done) | (rw [aLend, if_neg h1]; done) | (rw [aLend, if_pos h1]; done) | (rw [aLend]; done)) (by first | (rw [aLend, if_neg h1, if_neg h2, if_neg h3]; first | exact hO.cl0 h0 | exact hO.clJ (j := 0) h0) | (rw [aLend, if_neg h1, if_neg h2, if_pos h3]; first | exact hO.cl0 h0 | exact hO.clJ (j := 0) h0) | (rw [aLend, if_neg h1, if_pos h2, if_neg h3]; first | exact hO.cl0 h0 | exact hO.clJ (j := 0) h0) | (rw [aLend, if_neg h1, if_pos h2, if_pos h3]; first | exact hO.cl0 h0 | exact hO.clJ (j := 0) h0) | (rw [aLend, if_pos h1, if_neg h2, if_neg h3]; first | exact hO.cl0 h0 | exact hO.clJ (j := 0) h0) | (rw [aLend, if_pos h1, if_neg h2, if_pos h3]; first | exact hO.cl0 h0 | exact hO.clJ (j := 0) h0) | (rw [aLend, if_pos h1, if_pos h2, if_neg h3]; first | exact hO.cl0 h0 | exact hO.clJ (j := 0) h0) | (rw [aLend, if_pos h1, if_pos h2, if_pos h3]; first | exact hO.cl0 h0 | exact hO.clJ (j := 0) h0) | (rw [aLend, if_neg h1, if_neg h2]; first | exact hO.cl0 h0 | exact hO.clJ (j := 0) h0) | (rw [aLend, if_neg h1, if_pos h2]; first | exact hO.cl0 h0 | exact hO.clJ (j := 0) h0) | (rw [aLend, if_pos h1, if_neg h2]; first | exact hO.cl0 h0 | exact hO.clJ (j := 0) h0) | (rw [aLend, if_pos h1, if_pos h2]; first | exact hO.cl0 h0 | exact hO.clJ (j := 0) h0) | (rw [aLend, if_neg h1]; first | exact hO.cl0 h0 | exact hO.clJ (j := 0) h0) | (rw [aLend, if_pos h1]; first | exact hO.cl0 h0 | exact hO.clJ (j := 0) h0) | (rw [aLend]; first | exact hO.cl0 h0 | exact hO.clJ (j := 0) h0)) dX6_lend_44
  · refine y_iconst C (-1) dX6_lend_8 (by decide) ?_
    exact y_iret C hr (by first | (rw [aLend, if_neg h1]; done) | (rw [aLend, if_pos h1]; done) | (rw [aLend]; done)) (by first | (rw [aLend, if_neg h1]; first | exact hO.cl0 h0 | exact hO.clJ (j := 0) h0) | (rw [aLend, if_pos h1]; first | exact hO.cl0 h0 | exact hO.clJ (j := 0) h0) | (rw [aLend]; first | exact hO.cl0 h0 | exact hO.clJ (j := 0) h0)) dX6_lend_9
def rm_X6_collect : Room := { frames := 4, cells := 0, slots := 0, locals := 81 }
set_option maxRecDepth 100000 in
set_option maxHeartbeats 4000000 in
theorem c_X6_collect (g : KG) (B0 : Nat) (l : Launch) (b : Nat) (X : SV) (hv : sv X) (k : Nat) (hk31 : k < 2 ^ 31) : Mt g B0 l yX6_collect cX6_collect 2 (some .int) rm_X6_collect [.ref b, .int (nI k)] (iv b 152) (sX g b X) (some (.int (aCol X k).1)) (sX g b (aCol X k).2) 0 0 := by
  refine Mt_of RX6 (by decide) rfl [(0, .ref b), (1, .int (nI k))] rfl (Nat.le_of_ble_eq_true rfl) ?_
  intro pr e s m args below meth c C hr hin hd
  have hO := hd.ex 0
  have h0 := hd.d0
  refine y_aload_n C 0 dX6_collect_0 rfl rfl ?_
  refine y_iload_n C 1 dX6_collect_1 rfl rfl ?_
  refine y_callV C [.int (nI k)] (c_X6_isSet g B0 l b X hv k) RX6 1 (wVin q137 q138 q139 q2 q140) hy_X6_isSet ⟨(Nat.le_of_ble_eq_true rfl), (Nat.le_of_ble_eq_true rfl)⟩ ⟨rfl, rfl⟩ (rcv C.2.2.2.2.2.1 hO.1 rfl) (hO.cl0 h0) (fun _ h => h) rfl rfl (Nat.le_of_ble_eq_true rfl) dX6_collect_2 ⟨(Nat.le_of_ble_eq_true rfl), (Nat.le_of_ble_eq_true rfl)⟩ rfl (fun H hp hz hf => ?_)
  have hO := hp.ex 0
  have h0 := hp.d0
  refine y_if_ne C 10 dX6_collect_5 (by decide) (fun h1 => ?_) (fun h1 => ?_)
  · have hkn : k < nm (X.2.2.2 0) := isS_lt hv hk31 h1
    refine y_aload_n C 0 dX6_collect_10 rfl rfl ?_
    refine y_get6 C hO.1 0 (by decide) q12 rfl rfl dX6_collect_11 ?_
    refine y_get2 C (dk_0 h0) 4 (by decide) q96 rfl rfl dX6_collect_14 ?_
    refine y_iload_n C 1 dX6_collect_17 rfl rfl ?_
    refine y_callV C [.int (nI k)] (c_X4_isReady g B0 l (b + 1) (X.2.2.2 0) k (Nat.lt_of_lt_of_le hkn (hv.2 0 (by decide)).1.2.1.2)) RX4 1 (wVin q322 q258 q259 q43 q260) hy_X4_isReady ⟨(Nat.le_of_ble_eq_true rfl), (Nat.le_of_ble_eq_true rfl)⟩ ⟨rfl, rfl⟩ (rcv C.2.2.2.2.2.1 (dk_11 h0) rfl) h0 (adr_iv (j := 0) (by decide)) rfl rfl (Nat.le_of_ble_eq_true rfl) dX6_collect_18 ⟨(Nat.le_of_ble_eq_true rfl), (Nat.le_of_ble_eq_true rfl)⟩ rfl (fun H hp hz hf => ?_)
    have h0 := hp
    have hO := hO.fr (j := 0) (by decide) hf (fun _ z => z)
    refine y_if_ne C 27 dX6_collect_21 (by decide) (fun h2 => ?_) (fun h2 => ?_)
    · refine y_aload_n C 0 dX6_collect_27 rfl rfl ?_
      refine y_get6 C hO.1 4 (by decide) q19 rfl rfl dX6_collect_28 ?_
      refine y_aload_n C 0 dX6_collect_31 rfl rfl ?_
      refine y_get6 C hO.1 0 (by decide) q12 rfl rfl dX6_collect_32 ?_
      refine y_callV C [.ref (b + 1)] (c_X3_record g B0 l b X.1 X.2.1 X.2.2.1 X.2.2.2 hv.1) RX3 1 (wVin q270 q271 q272 q18 q273) hy_X3_record ⟨(Nat.le_of_ble_eq_true rfl), (Nat.le_of_ble_eq_true rfl)⟩ ⟨rfl, rfl⟩ (rcv C.2.2.2.2.2.1 hO.2.1 rfl) (hO.cl0 h0) (fun _ h => h) rfl rfl (Nat.le_of_ble_eq_true rfl) dX6_collect_35 ⟨(Nat.le_of_ble_eq_true rfl), (Nat.le_of_ble_eq_true rfl)⟩ rfl (fun H hp hz hf => ?_)
      have hO : sysO 0 g b (rcX X) H := sX.ex (X := rcX X) 0 hp
      have h0 := rcX_0 (X := X) hp
      refine y_aload_n C 0 dX6_collect_38 rfl rfl ?_
      refine y_get6 C hO.1 0 (by decide) q12 rfl rfl dX6_collect_39 ?_
      refine y_iload_n C 1 dX6_collect_42 rfl rfl ?_
      refine y_callV C [.int (nI k)] (c_X2_handOver g B0 l (b + 1) (X.2.2.2 0) k (Nat.lt_of_lt_of_le hkn (hv.2 0 (by decide)).1.2.1.2) (hv.2 0 (by decide)).2) RX2 1 (wVin q323 q324 q325 q11 q326) hy_X2_handOver ⟨(Nat.le_of_ble_eq_true rfl), (Nat.le_of_ble_eq_true rfl)⟩ ⟨rfl, rfl⟩ (rcv C.2.2.2.2.2.1 (dk_0 h0) rfl) h0 (adr_iv (j := 0) (by decide)) rfl rfl (Nat.le_of_ble_eq_true rfl) dX6_collect_43 ⟨(Nat.le_of_ble_eq_true rfl), (Nat.le_of_ble_eq_true rfl)⟩ rfl (fun H hp hz hf => ?_)
      have h0 := hp
      have hO := hO.fr (j := 0) (by decide) hf (fun _ z => z)
      exact y_iret C hr (by first | (rw [aCol, if_neg h1, if_neg h2]; done) | (rw [aCol, if_neg h1, if_pos h2]; done) | (rw [aCol, if_pos h1, if_neg h2]; done) | (rw [aCol, if_pos h1, if_pos h2]; done) | (rw [aCol, if_neg h1]; done) | (rw [aCol, if_pos h1]; done) | (rw [aCol]; done)) (by first | (rw [aCol, if_neg h1, if_neg h2]; first | exact hO.cl0 h0 | exact hO.clJ (j := 0) h0) | (rw [aCol, if_neg h1, if_pos h2]; first | exact hO.cl0 h0 | exact hO.clJ (j := 0) h0) | (rw [aCol, if_pos h1, if_neg h2]; first | exact hO.cl0 h0 | exact hO.clJ (j := 0) h0) | (rw [aCol, if_pos h1, if_pos h2]; first | exact hO.cl0 h0 | exact hO.clJ (j := 0) h0) | (rw [aCol, if_neg h1]; first | exact hO.cl0 h0 | exact hO.clJ (j := 0) h0) | (rw [aCol, if_pos h1]; first | exact hO.cl0 h0 | exact hO.clJ (j := 0) h0) | (rw [aCol]; first | exact hO.cl0 h0 | exact hO.clJ (j := 0) h0)) dX6_collect_46
    · refine y_bipush C (-4) dX6_collect_24 (by decide) ?_
      exact y_iret C hr (by first | (rw [aCol, if_neg h1, if_neg h2]; done) | (rw [aCol, if_neg h1, if_pos h2]; done) | (rw [aCol, if_pos h1, if_neg h2]; done) | (rw [aCol, if_pos h1, if_pos h2]; done) | (rw [aCol, if_neg h1]; done) | (rw [aCol, if_pos h1]; done) | (rw [aCol]; done)) (by first | (rw [aCol, if_neg h1, if_neg h2]; first | exact hO.cl0 h0 | exact hO.clJ (j := 0) h0) | (rw [aCol, if_neg h1, if_pos h2]; first | exact hO.cl0 h0 | exact hO.clJ (j := 0) h0) | (rw [aCol, if_pos h1, if_neg h2]; first | exact hO.cl0 h0 | exact hO.clJ (j := 0) h0) | (rw [aCol, if_pos h1, if_pos h2]; first | exact hO.cl0 h0 | exact hO.clJ (j := 0) h0) | (rw [aCol, if_neg h1]; first | exact hO.cl0 h0 | exact hO.clJ (j := 0) h0) | (rw [aCol, if_pos h1]; first | exact hO.cl0 h0 | exact hO.clJ (j := 0) h0) | (rw [aCol]; first | exact hO.cl0 h0 | exact hO.clJ (j := 0) h0)) dX6_collect_26
  · refine y_iconst C (-1) dX6_collect_8 (by decide) ?_
    exact y_iret C hr (by first | (rw [aCol, if_neg h1]; done) | (rw [aCol, if_pos h1]; done) | (rw [aCol]; done)) (by first | (rw [aCol, if_neg h1]; first | exact hO.cl0 h0 | exact hO.clJ (j := 0) h0) | (rw [aCol, if_pos h1]; first | exact hO.cl0 h0 | exact hO.clJ (j := 0) h0) | (rw [aCol]; first | exact hO.cl0 h0 | exact hO.clJ (j := 0) h0)) dX6_collect_9
def rm_X6_setPart : Room := { frames := 4, cells := 0, slots := 0, locals := 81 }
set_option maxRecDepth 100000 in
set_option maxHeartbeats 4000000 in
theorem c_X6_setPart (g : KG) (B0 : Nat) (l : Launch) (b : Nat) (X : SV) (hv : sv X) (p price lead : Nat) (hp6 : p < 6) (hp1 : 1 ≤ price) (hp2 : price ≤ 50000) (hl1 : 1 ≤ lead) (hl2 : lead ≤ 30) : Mt g B0 l yX6_setPart cX6_setPart 5 (some .int) rm_X6_setPart [.ref b, .int (nI p), .int (nI price), .int (nI lead)] (iv b 152) (sX g b X) (some (.int (aSetP X p price lead).1)) (sX g b (aSetP X p price lead).2) 0 0 := by
  refine Mt_of RX6 (by decide) rfl [(0, .ref b), (1, .int (nI p)), (2, .int (nI price)), (3, .int (nI lead))] rfl (Nat.le_of_ble_eq_true rfl) ?_
  intro pr e s m args below meth c C hr hin hd
  have hO := hd.ex 0
  have h0 := hd.d0
  refine y_iload_n C 1 dX6_setPart_0 rfl rfl ?_
  refine y_bipush C (6) dX6_setPart_1 (by decide) ?_
  refine y_callS C [.int (nI p), .int (6 : Int32)] (c_X6_isIndex g B0 l (nI p) (6 : Int32)) 2 (wSin q141 q142 q2 q143) hs_X6_isIndex ⟨(Nat.le_of_ble_eq_true rfl), (Nat.le_of_ble_eq_true rfl)⟩ ⟨rfl, rfl⟩ trivial nF.no rfl rfl (Nat.le_of_ble_eq_true rfl) dX6_setPart_3 ⟨(Nat.le_of_ble_eq_true rfl), (Nat.le_of_ble_eq_true rfl)⟩ rfl (fun H hp hz hf => ?_)
  have h0 := h0.fr hf (fun _ _ z => z)
  have hO := hO.fr (j := 0) (by decide) hf nF.no
  refine y_if_ne C 11 dX6_setPart_6 (by decide) (fun _ => ?_) (fun h => absurd h (ixf_t (n := 6) hp6 (by decide)))
  refine y_iload_n C 2 dX6_setPart_11 rfl rfl ?_
  refine y_iconst C (1) dX6_setPart_12 (by decide) ?_
  refine y_ldc C q337 dX6_setPart_13 ?_
  refine y_callS C [.int (nI price), .int (1 : Int32), .int (50000 : Int32)] (c_X6_isWithin g B0 l (nI price) (1 : Int32) (50000 : Int32)) 3 (wSin q108 q109 q2 q110) hs_X6_isWithin ⟨(Nat.le_of_ble_eq_true rfl), (Nat.le_of_ble_eq_true rfl)⟩ ⟨rfl, rfl⟩ trivial nF.no rfl rfl (Nat.le_of_ble_eq_true rfl) dX6_setPart_15 ⟨(Nat.le_of_ble_eq_true rfl), (Nat.le_of_ble_eq_true rfl)⟩ rfl (fun H hp hz hf => ?_)
  have h0 := h0.fr hf (fun _ _ z => z)
  have hO := hO.fr (j := 0) (by decide) hf nF.no
  refine y_if_eq C 31 dX6_setPart_18 (by decide) (fun h => absurd h (wif_t (lo := 1) (hi := 50000) hp1 hp2 (by decide))) (fun _ => ?_)
  refine y_iload_n C 3 dX6_setPart_21 rfl rfl ?_
  refine y_iconst C (1) dX6_setPart_22 (by decide) ?_
  refine y_bipush C (30) dX6_setPart_23 (by decide) ?_
  refine y_callS C [.int (nI lead), .int (1 : Int32), .int (30 : Int32)] (c_X6_isWithin g B0 l (nI lead) (1 : Int32) (30 : Int32)) 3 (wSin q108 q109 q2 q110) hs_X6_isWithin ⟨(Nat.le_of_ble_eq_true rfl), (Nat.le_of_ble_eq_true rfl)⟩ ⟨rfl, rfl⟩ trivial nF.no rfl rfl (Nat.le_of_ble_eq_true rfl) dX6_setPart_25 ⟨(Nat.le_of_ble_eq_true rfl), (Nat.le_of_ble_eq_true rfl)⟩ rfl (fun H hp hz hf => ?_)
  have h0 := h0.fr hf (fun _ _ z => z)
  have hO := hO.fr (j := 0) (by decide) hf nF.no
  refine y_if_ne C 34 dX6_setPart_28 (by decide) (fun _ => ?_) (fun h => absurd h (wif_t (lo := 1) (hi := 30) hl1 hl2 (by decide)))
  refine y_aload_n C 0 dX6_setPart_34 rfl rfl ?_
  refine y_get6 C hO.1 0 (by decide) q12 rfl rfl dX6_setPart_35 ?_
  refine y_get2 C (dk_0 h0) 3 (by decide) q99 rfl rfl dX6_setPart_38 ?_
  refine y_get5 C (dk_3 h0) 0 (by decide) q338 rfl rfl dX6_setPart_41 ?_
  refine y_iload_n C 1 dX6_setPart_44 rfl rfl ?_
  refine y_iald C (dk_4 h0) p rfl hp6 (by decide) dX6_setPart_45 ?_
  refine y_istore C dX6_setPart_46 (by decide) rfl ?_
  refine y_iload C 0 dX6_setPart_48 rfl ?_
  refine y_iload_n C 3 dX6_setPart_50 rfl rfl ?_
  refine y_icmp_ne C 73 dX6_setPart_51 (by decide) (fun h1 => ?_) (fun h1 => ?_)
  · refine y_aload_n C 1 dX6_setPart_73 rfl rfl ?_
    refine y_get6 C hO.1 4 (by decide) q19 rfl rfl dX6_setPart_74 ?_
    refine y_aload_n C 1 dX6_setPart_77 rfl rfl ?_
    refine y_get6 C hO.1 0 (by decide) q12 rfl rfl dX6_setPart_78 ?_
    refine y_callV C [.ref (b + 1)] (c_X3_record g B0 l b X.1 X.2.1 X.2.2.1 X.2.2.2 hv.1) RX3 1 (wVin q270 q271 q272 q18 q273) hy_X3_record ⟨(Nat.le_of_ble_eq_true rfl), (Nat.le_of_ble_eq_true rfl)⟩ ⟨rfl, rfl⟩ (rcv C.2.2.2.2.2.1 hO.2.1 rfl) (hO.cl0 h0) (fun _ h => h) rfl rfl (Nat.le_of_ble_eq_true rfl) dX6_setPart_81 ⟨(Nat.le_of_ble_eq_true rfl), (Nat.le_of_ble_eq_true rfl)⟩ rfl (fun H hp hz hf => ?_)
    have hO : sysO 0 g b (rcX X) H := sX.ex (X := rcX X) 0 hp
    have h0 := rcX_0 (X := X) hp
    refine y_aload_n C 1 dX6_setPart_84 rfl rfl ?_
    refine y_get6 C hO.1 0 (by decide) q12 rfl rfl dX6_setPart_85 ?_
    refine y_get2 C (dk_0 h0) 3 (by decide) q99 rfl rfl dX6_setPart_88 ?_
    refine y_get5 C (dk_3 h0) 0 (by decide) q338 rfl rfl dX6_setPart_91 ?_
    refine y_iload_n C 2 dX6_setPart_94 rfl rfl ?_
    refine y_iload_n C 3 dX6_setPart_95 rfl rfl ?_
    refine y_iast C (dk_4 h0) (adr_iv (j := 0) (by decide) _ (ivm 4 (by decide))) p rfl hp6 (by decide) dX6_setPart_96 (fun H hw1 ow1 zw1 => ?_)
    have h0 := dk_set4 h0 hw1 ow1
    have hO := hO.off (j := 0) (by decide) ow1 (ivm 4 (by decide))
    refine y_aload_n C 1 dX6_setPart_97 rfl rfl ?_
    refine y_get6 C hO.1 0 (by decide) q12 rfl rfl dX6_setPart_98 ?_
    refine y_get2 C (dk_0 h0) 3 (by decide) q99 rfl rfl dX6_setPart_101 ?_
    refine y_get5 C (dk_3 h0) 1 (by decide) q308 rfl rfl dX6_setPart_104 ?_
    refine y_iload_n C 2 dX6_setPart_107 rfl rfl ?_
    refine y_iload_n C 4 dX6_setPart_108 rfl rfl ?_
    refine y_iast C (dk_5 h0) (adr_iv (j := 0) (by decide) _ (ivm 5 (by decide))) p rfl hp6 (by decide) dX6_setPart_109 (fun H hw1 ow1 zw1 => ?_)
    have h0 := dk_set5 h0 hw1 ow1
    have hO := hO.off (j := 0) (by decide) ow1 (ivm 5 (by decide))
    refine y_iload C 0 dX6_setPart_110 rfl ?_
    exact y_iret C hr (by first | (rw [aSetP, if_neg h1]; done) | (rw [aSetP, if_pos h1]; done) | (rw [aSetP]; done)) (by first | (rw [aSetP, if_neg h1]; first | exact hO.cl0 h0 | exact hO.clJ (j := 0) h0) | (rw [aSetP, if_pos h1]; first | exact hO.cl0 h0 | exact hO.clJ (j := 0) h0) | (rw [aSetP]; first | exact hO.cl0 h0 | exact hO.clJ (j := 0) h0)) dX6_setPart_112
  · refine y_aload_n C 1 dX6_setPart_54 rfl rfl ?_
    refine y_get6 C hO.1 0 (by decide) q12 rfl rfl dX6_setPart_55 ?_
    refine y_get2 C (dk_0 h0) 3 (by decide) q99 rfl rfl dX6_setPart_58 ?_
    refine y_get5 C (dk_3 h0) 1 (by decide) q308 rfl rfl dX6_setPart_61 ?_
    refine y_iload_n C 2 dX6_setPart_64 rfl rfl ?_
    refine y_iald C (dk_5 h0) p rfl hp6 (by decide) dX6_setPart_65 ?_
    refine y_iload_n C 4 dX6_setPart_66 rfl rfl ?_
    refine y_icmp_ne C 73 dX6_setPart_67 (by decide) (fun h2 => ?_) (fun h2 => ?_)
    · refine y_aload_n C 1 dX6_setPart_73 rfl rfl ?_
      refine y_get6 C hO.1 4 (by decide) q19 rfl rfl dX6_setPart_74 ?_
      refine y_aload_n C 1 dX6_setPart_77 rfl rfl ?_
      refine y_get6 C hO.1 0 (by decide) q12 rfl rfl dX6_setPart_78 ?_
      refine y_callV C [.ref (b + 1)] (c_X3_record g B0 l b X.1 X.2.1 X.2.2.1 X.2.2.2 hv.1) RX3 1 (wVin q270 q271 q272 q18 q273) hy_X3_record ⟨(Nat.le_of_ble_eq_true rfl), (Nat.le_of_ble_eq_true rfl)⟩ ⟨rfl, rfl⟩ (rcv C.2.2.2.2.2.1 hO.2.1 rfl) (hO.cl0 h0) (fun _ h => h) rfl rfl (Nat.le_of_ble_eq_true rfl) dX6_setPart_81 ⟨(Nat.le_of_ble_eq_true rfl), (Nat.le_of_ble_eq_true rfl)⟩ rfl (fun H hp hz hf => ?_)
      have hO : sysO 0 g b (rcX X) H := sX.ex (X := rcX X) 0 hp
      have h0 := rcX_0 (X := X) hp
      refine y_aload_n C 1 dX6_setPart_84 rfl rfl ?_
      refine y_get6 C hO.1 0 (by decide) q12 rfl rfl dX6_setPart_85 ?_
      refine y_get2 C (dk_0 h0) 3 (by decide) q99 rfl rfl dX6_setPart_88 ?_
      refine y_get5 C (dk_3 h0) 0 (by decide) q338 rfl rfl dX6_setPart_91 ?_
      refine y_iload_n C 2 dX6_setPart_94 rfl rfl ?_
      refine y_iload_n C 3 dX6_setPart_95 rfl rfl ?_
      refine y_iast C (dk_4 h0) (adr_iv (j := 0) (by decide) _ (ivm 4 (by decide))) p rfl hp6 (by decide) dX6_setPart_96 (fun H hw1 ow1 zw1 => ?_)
      have h0 := dk_set4 h0 hw1 ow1
      have hO := hO.off (j := 0) (by decide) ow1 (ivm 4 (by decide))
      refine y_aload_n C 1 dX6_setPart_97 rfl rfl ?_
      refine y_get6 C hO.1 0 (by decide) q12 rfl rfl dX6_setPart_98 ?_
      refine y_get2 C (dk_0 h0) 3 (by decide) q99 rfl rfl dX6_setPart_101 ?_
      refine y_get5 C (dk_3 h0) 1 (by decide) q308 rfl rfl dX6_setPart_104 ?_
      refine y_iload_n C 2 dX6_setPart_107 rfl rfl ?_
      refine y_iload_n C 4 dX6_setPart_108 rfl rfl ?_
      refine y_iast C (dk_5 h0) (adr_iv (j := 0) (by decide) _ (ivm 5 (by decide))) p rfl hp6 (by decide) dX6_setPart_109 (fun H hw1 ow1 zw1 => ?_)
      have h0 := dk_set5 h0 hw1 ow1
      have hO := hO.off (j := 0) (by decide) ow1 (ivm 5 (by decide))
      refine y_iload C 0 dX6_setPart_110 rfl ?_
      exact y_iret C hr (by first | (rw [aSetP, if_neg h1, if_neg h2]; done) | (rw [aSetP, if_neg h1, if_pos h2]; done) | (rw [aSetP, if_pos h1, if_neg h2]; done) | (rw [aSetP, if_pos h1, if_pos h2]; done) | (rw [aSetP, if_neg h1]; done) | (rw [aSetP, if_pos h1]; done) | (rw [aSetP]; done)) (by first | (rw [aSetP, if_neg h1, if_neg h2]; first | exact hO.cl0 h0 | exact hO.clJ (j := 0) h0) | (rw [aSetP, if_neg h1, if_pos h2]; first | exact hO.cl0 h0 | exact hO.clJ (j := 0) h0) | (rw [aSetP, if_pos h1, if_neg h2]; first | exact hO.cl0 h0 | exact hO.clJ (j := 0) h0) | (rw [aSetP, if_pos h1, if_pos h2]; first | exact hO.cl0 h0 | exact hO.clJ (j := 0) h0) | (rw [aSetP, if_neg h1]; first | exact hO.cl0 h0 | exact hO.clJ (j := 0) h0) | (rw [aSetP, if_pos h1]; first | exact hO.cl0 h0 | exact hO.clJ (j := 0) h0) | (rw [aSetP]; first | exact hO.cl0 h0 | exact hO.clJ (j := 0) h0)) dX6_setPart_112
    · refine y_bipush C (-5) dX6_setPart_70 (by decide) ?_
      exact y_iret C hr (by first | (rw [aSetP, if_neg h1, if_neg h2]; done) | (rw [aSetP, if_neg h1, if_pos h2]; done) | (rw [aSetP, if_pos h1, if_neg h2]; done) | (rw [aSetP, if_pos h1, if_pos h2]; done) | (rw [aSetP, if_neg h1]; done) | (rw [aSetP, if_pos h1]; done) | (rw [aSetP]; done)) (by first | (rw [aSetP, if_neg h1, if_neg h2]; first | exact hO.cl0 h0 | exact hO.clJ (j := 0) h0) | (rw [aSetP, if_neg h1, if_pos h2]; first | exact hO.cl0 h0 | exact hO.clJ (j := 0) h0) | (rw [aSetP, if_pos h1, if_neg h2]; first | exact hO.cl0 h0 | exact hO.clJ (j := 0) h0) | (rw [aSetP, if_pos h1, if_pos h2]; first | exact hO.cl0 h0 | exact hO.clJ (j := 0) h0) | (rw [aSetP, if_neg h1]; first | exact hO.cl0 h0 | exact hO.clJ (j := 0) h0) | (rw [aSetP, if_pos h1]; first | exact hO.cl0 h0 | exact hO.clJ (j := 0) h0) | (rw [aSetP]; first | exact hO.cl0 h0 | exact hO.clJ (j := 0) h0)) dX6_setPart_72
def rm_X6_order : Room := { frames := 4, cells := 0, slots := 0, locals := 81 }
set_option maxRecDepth 100000 in
set_option maxHeartbeats 4000000 in
theorem c_X6_order (g : KG) (B0 : Nat) (l : Launch) (b : Nat) (X : SV) (hv : sv X) (p mm : Nat) (hp6 : p < 6) (hm1 : 1 ≤ mm) (hm9 : mm ≤ 9) : Mt g B0 l yX6_order cX6_order 4 (some .int) rm_X6_order [.ref b, .int (nI p), .int (nI mm)] (iv b 152) (sX g b X) (some (.int (aOrd X p mm).1)) (sX g b (aOrd X p mm).2) 0 0 := by
  refine Mt_of RX6 (by decide) rfl [(0, .ref b), (1, .int (nI p)), (2, .int (nI mm))] rfl (Nat.le_of_ble_eq_true rfl) ?_
  intro pr e s m args below meth c C hr hin hd
  have hO := hd.ex 0
  have h0 := hd.d0
  refine y_iload_n C 1 dX6_order_0 rfl rfl ?_
  refine y_bipush C (6) dX6_order_1 (by decide) ?_
  refine y_callS C [.int (nI p), .int (6 : Int32)] (c_X6_isIndex g B0 l (nI p) (6 : Int32)) 2 (wSin q141 q142 q2 q143) hs_X6_isIndex ⟨(Nat.le_of_ble_eq_true rfl), (Nat.le_of_ble_eq_true rfl)⟩ ⟨rfl, rfl⟩ trivial nF.no rfl rfl (Nat.le_of_ble_eq_true rfl) dX6_order_3 ⟨(Nat.le_of_ble_eq_true rfl), (Nat.le_of_ble_eq_true rfl)⟩ rfl (fun H hp hz hf => ?_)
  have h0 := h0.fr hf (fun _ _ z => z)
  have hO := hO.fr (j := 0) (by decide) hf nF.no
  refine y_if_ne C 11 dX6_order_6 (by decide) (fun _ => ?_) (fun h => absurd h (ixf_t (n := 6) hp6 (by decide)))
  refine y_iload_n C 2 dX6_order_11 rfl rfl ?_
  refine y_iconst C (1) dX6_order_12 (by decide) ?_
  refine y_bipush C (9) dX6_order_13 (by decide) ?_
  refine y_callS C [.int (nI mm), .int (1 : Int32), .int (9 : Int32)] (c_X6_isWithin g B0 l (nI mm) (1 : Int32) (9 : Int32)) 3 (wSin q108 q109 q2 q110) hs_X6_isWithin ⟨(Nat.le_of_ble_eq_true rfl), (Nat.le_of_ble_eq_true rfl)⟩ ⟨rfl, rfl⟩ trivial nF.no rfl rfl (Nat.le_of_ble_eq_true rfl) dX6_order_15 ⟨(Nat.le_of_ble_eq_true rfl), (Nat.le_of_ble_eq_true rfl)⟩ rfl (fun H hp hz hf => ?_)
  have h0 := h0.fr hf (fun _ _ z => z)
  have hO := hO.fr (j := 0) (by decide) hf nF.no
  refine y_if_ne C 24 dX6_order_18 (by decide) (fun _ => ?_) (fun h => absurd h (wif_t (lo := 1) (hi := 9) hm1 hm9 (by decide)))
  refine y_aload_n C 0 dX6_order_24 rfl rfl ?_
  refine y_get6 C hO.1 0 (by decide) q12 rfl rfl dX6_order_25 ?_
  refine y_get2 C (dk_0 h0) 3 (by decide) q99 rfl rfl dX6_order_28 ?_
  refine y_get5 C (dk_3 h0) 4 (by decide) q100 rfl rfl dX6_order_31 ?_
  refine y_bipush C (12) dX6_order_34 (by decide) ?_
  refine y_icmp_lt C 42 dX6_order_36 (by decide) (fun h1 => ?_) (fun h1 => ?_)
  · refine y_aload_n C 0 dX6_order_42 rfl rfl ?_
    refine y_get6 C hO.1 4 (by decide) q19 rfl rfl dX6_order_43 ?_
    refine y_aload_n C 0 dX6_order_46 rfl rfl ?_
    refine y_get6 C hO.1 0 (by decide) q12 rfl rfl dX6_order_47 ?_
    refine y_callV C [.ref (b + 1)] (c_X3_record g B0 l b X.1 X.2.1 X.2.2.1 X.2.2.2 hv.1) RX3 1 (wVin q270 q271 q272 q18 q273) hy_X3_record ⟨(Nat.le_of_ble_eq_true rfl), (Nat.le_of_ble_eq_true rfl)⟩ ⟨rfl, rfl⟩ (rcv C.2.2.2.2.2.1 hO.2.1 rfl) (hO.cl0 h0) (fun _ h => h) rfl rfl (Nat.le_of_ble_eq_true rfl) dX6_order_50 ⟨(Nat.le_of_ble_eq_true rfl), (Nat.le_of_ble_eq_true rfl)⟩ rfl (fun H hp hz hf => ?_)
    have hO : sysO 0 g b (rcX X) H := sX.ex (X := rcX X) 0 hp
    have h0 := rcX_0 (X := X) hp
    refine y_aload_n C 0 dX6_order_53 rfl rfl ?_
    refine y_get6 C hO.1 0 (by decide) q12 rfl rfl dX6_order_54 ?_
    refine y_get2 C (dk_0 h0) 0 (by decide) q97 rfl rfl dX6_order_57 ?_
    refine y_aload_n C 0 dX6_order_60 rfl rfl ?_
    refine y_get6 C hO.1 0 (by decide) q12 rfl rfl dX6_order_61 ?_
    refine y_get2 C (dk_0 h0) 3 (by decide) q99 rfl rfl dX6_order_64 ?_
    refine y_get5 C (dk_3 h0) 1 (by decide) q308 rfl rfl dX6_order_67 ?_
    refine y_iload_n C 1 dX6_order_70 rfl rfl ?_
    refine y_iald C (dk_5 h0) p rfl hp6 (by decide) dX6_order_71 ?_
    refine y_iadd C dX6_order_72 ?_
    refine y_istore_n C dX6_order_73 rfl (by decide) rfl ?_
    refine y_aload_n C 1 dX6_order_74 rfl rfl ?_
    refine y_get6 C hO.1 0 (by decide) q12 rfl rfl dX6_order_75 ?_
    refine y_get2 C (dk_0 h0) 3 (by decide) q99 rfl rfl dX6_order_78 ?_
    refine y_iload_n C 2 dX6_order_81 rfl rfl ?_
    refine y_iload_n C 3 dX6_order_82 rfl rfl ?_
    refine y_iload_n C 0 dX6_order_83 rfl rfl ?_
    refine y_callV C [.int (nI p), .int (nI mm), .int (((X.2.2.2 0).1 0 0) + ((X.2.2.2 0).1 5 p))] (c_X5_addOrder g B0 l (b + 1) (X.2.2.2 0) (nI p) (nI mm) (((X.2.2.2 0).1 0 0) + ((X.2.2.2 0).1 5 p)) (hv.2 0 (by decide)).1 (no_lt (hv.2 0 (by decide)).1 (N := 12) (by decide) h1)) RX5 3 (wVin q309 q310 q311 q39 q312) hy_X5_addOrder ⟨(Nat.le_of_ble_eq_true rfl), (Nat.le_of_ble_eq_true rfl)⟩ ⟨rfl, rfl⟩ (rcv C.2.2.2.2.2.1 (dk_3 h0) rfl) h0 (adr_iv (j := 0) (by decide)) rfl rfl (Nat.le_of_ble_eq_true rfl) dX6_order_84 ⟨(Nat.le_of_ble_eq_true rfl), (Nat.le_of_ble_eq_true rfl)⟩ rfl (fun H hp hz hf => ?_)
    have h0 := hp
    have hO := hO.fr (j := 0) (by decide) hf (fun _ z => z)
    refine y_iload_n C 0 dX6_order_87 rfl rfl ?_
    exact y_iret C hr (by first | (rw [aOrd, if_neg h1]; done) | (rw [aOrd, if_pos h1]; done) | (rw [aOrd]; done)) (by first | (rw [aOrd, if_neg h1]; first | exact hO.cl0 h0 | exact hO.clJ (j := 0) h0) | (rw [aOrd, if_pos h1]; first | exact hO.cl0 h0 | exact hO.clJ (j := 0) h0) | (rw [aOrd]; first | exact hO.cl0 h0 | exact hO.clJ (j := 0) h0)) dX6_order_88
  · refine y_bipush C (-3) dX6_order_39 (by decide) ?_
    exact y_iret C hr (by first | (rw [aOrd, if_neg h1]; done) | (rw [aOrd, if_pos h1]; done) | (rw [aOrd]; done)) (by first | (rw [aOrd, if_neg h1]; first | exact hO.cl0 h0 | exact hO.clJ (j := 0) h0) | (rw [aOrd, if_pos h1]; first | exact hO.cl0 h0 | exact hO.clJ (j := 0) h0) | (rw [aOrd]; first | exact hO.cl0 h0 | exact hO.clJ (j := 0) h0)) dX6_order_41
def rm_X6_put : Room := { frames := 4, cells := 0, slots := 0, locals := 86 }
set_option maxRecDepth 100000 in
set_option maxHeartbeats 4000000 in
theorem c_X6_put (g : KG) (B0 : Nat) (l : Launch) (b : Nat) (X : SV) (hv : sv X) (p mm : Nat) (hp6 : p < 6) (hm1 : 1 ≤ mm) (hm9 : mm ≤ 9) : Mt g B0 l yX6_put cX6_put 3 (some .int) rm_X6_put [.ref b, .int (nI p), .int (nI mm)] (iv b 152) (sX g b X) (some (.int (aPut X p mm).1)) (sX g b (aPut X p mm).2) 0 0 := by
  refine Mt_of RX6 (by decide) rfl [(0, .ref b), (1, .int (nI p)), (2, .int (nI mm))] rfl (Nat.le_of_ble_eq_true rfl) ?_
  intro pr e s m args below meth c C hr hin hd
  have hO := hd.ex 0
  have h0 := hd.d0
  refine y_iload_n C 1 dX6_put_0 rfl rfl ?_
  refine y_bipush C (6) dX6_put_1 (by decide) ?_
  refine y_callS C [.int (nI p), .int (6 : Int32)] (c_X6_isIndex g B0 l (nI p) (6 : Int32)) 2 (wSin q141 q142 q2 q143) hs_X6_isIndex ⟨(Nat.le_of_ble_eq_true rfl), (Nat.le_of_ble_eq_true rfl)⟩ ⟨rfl, rfl⟩ trivial nF.no rfl rfl (Nat.le_of_ble_eq_true rfl) dX6_put_3 ⟨(Nat.le_of_ble_eq_true rfl), (Nat.le_of_ble_eq_true rfl)⟩ rfl (fun H hp hz hf => ?_)
  have h0 := h0.fr hf (fun _ _ z => z)
  have hO := hO.fr (j := 0) (by decide) hf nF.no
  refine y_if_ne C 11 dX6_put_6 (by decide) (fun _ => ?_) (fun h => absurd h (ixf_t (n := 6) hp6 (by decide)))
  refine y_iload_n C 2 dX6_put_11 rfl rfl ?_
  refine y_iconst C (1) dX6_put_12 (by decide) ?_
  refine y_bipush C (9) dX6_put_13 (by decide) ?_
  refine y_callS C [.int (nI mm), .int (1 : Int32), .int (9 : Int32)] (c_X6_isWithin g B0 l (nI mm) (1 : Int32) (9 : Int32)) 3 (wSin q108 q109 q2 q110) hs_X6_isWithin ⟨(Nat.le_of_ble_eq_true rfl), (Nat.le_of_ble_eq_true rfl)⟩ ⟨rfl, rfl⟩ trivial nF.no rfl rfl (Nat.le_of_ble_eq_true rfl) dX6_put_15 ⟨(Nat.le_of_ble_eq_true rfl), (Nat.le_of_ble_eq_true rfl)⟩ rfl (fun H hp hz hf => ?_)
  have h0 := h0.fr hf (fun _ _ z => z)
  have hO := hO.fr (j := 0) (by decide) hf nF.no
  refine y_if_ne C 24 dX6_put_18 (by decide) (fun _ => ?_) (fun h => absurd h (wif_t (lo := 1) (hi := 9) hm1 hm9 (by decide)))
  refine y_aload_n C 0 dX6_put_24 rfl rfl ?_
  refine y_get6 C hO.1 0 (by decide) q12 rfl rfl dX6_put_25 ?_
  refine y_get2 C (dk_0 h0) 3 (by decide) q99 rfl rfl dX6_put_28 ?_
  refine y_get5 C (dk_3 h0) 2 (by decide) q302 rfl rfl dX6_put_31 ?_
  refine y_iload_n C 1 dX6_put_34 rfl rfl ?_
  refine y_iald C (dk_6 h0) p rfl hp6 (by decide) dX6_put_35 ?_
  refine y_iload_n C 2 dX6_put_36 rfl rfl ?_
  refine y_iadd C dX6_put_37 ?_
  refine y_bipush C (99) dX6_put_38 (by decide) ?_
  refine y_icmp_le C 46 dX6_put_40 (by decide) (fun h1 => ?_) (fun h1 => ?_)
  · refine y_aload_n C 0 dX6_put_46 rfl rfl ?_
    refine y_get6 C hO.1 4 (by decide) q19 rfl rfl dX6_put_47 ?_
    refine y_aload_n C 0 dX6_put_50 rfl rfl ?_
    refine y_get6 C hO.1 0 (by decide) q12 rfl rfl dX6_put_51 ?_
    refine y_callV C [.ref (b + 1)] (c_X3_record g B0 l b X.1 X.2.1 X.2.2.1 X.2.2.2 hv.1) RX3 1 (wVin q270 q271 q272 q18 q273) hy_X3_record ⟨(Nat.le_of_ble_eq_true rfl), (Nat.le_of_ble_eq_true rfl)⟩ ⟨rfl, rfl⟩ (rcv C.2.2.2.2.2.1 hO.2.1 rfl) (hO.cl0 h0) (fun _ h => h) rfl rfl (Nat.le_of_ble_eq_true rfl) dX6_put_54 ⟨(Nat.le_of_ble_eq_true rfl), (Nat.le_of_ble_eq_true rfl)⟩ rfl (fun H hp hz hf => ?_)
    have hO : sysO 0 g b (rcX X) H := sX.ex (X := rcX X) 0 hp
    have h0 := rcX_0 (X := X) hp
    refine y_aload_n C 0 dX6_put_57 rfl rfl ?_
    refine y_get6 C hO.1 0 (by decide) q12 rfl rfl dX6_put_58 ?_
    refine y_get2 C (dk_0 h0) 3 (by decide) q99 rfl rfl dX6_put_61 ?_
    refine y_get5 C (dk_3 h0) 2 (by decide) q302 rfl rfl dX6_put_64 ?_
    refine y_iload_n C 1 dX6_put_67 rfl rfl ?_
    refine y_dup2 C dX6_put_68 rfl rfl ?_
    refine y_iald C (dk_6 h0) p rfl hp6 (by decide) dX6_put_69 ?_
    refine y_iload_n C 2 dX6_put_70 rfl rfl ?_
    refine y_iadd C dX6_put_71 ?_
    refine y_iast C (dk_6 h0) (adr_iv (j := 0) (by decide) _ (ivm 6 (by decide))) p rfl hp6 (by decide) dX6_put_72 (fun H hw1 ow1 zw1 => ?_)
    have h0 := dk_set6 h0 hw1 ow1
    have hO := hO.off (j := 0) (by decide) ow1 (ivm 6 (by decide))
    refine y_aload_n C 0 dX6_put_73 rfl rfl ?_
    refine y_get6 C hO.1 0 (by decide) q12 rfl rfl dX6_put_74 ?_
    refine y_callV C [] (c_X2_reserveParts g B0 l (b + 1) (dset (X.2.2.2 0) 6 p (((X.2.2.2 0).1 6 p) + (nI mm))) ((hv.2 0 (by decide)).1.to rfl rfl rfl rfl)) RX2 0 (wVin q303 q186 q187 q11 q188) hy_X2_reserveParts ⟨(Nat.le_of_ble_eq_true rfl), (Nat.le_of_ble_eq_true rfl)⟩ ⟨rfl, rfl⟩ (rcv C.2.2.2.2.2.1 (dk_0 h0) rfl) h0 (adr_iv (j := 0) (by decide)) rfl rfl (Nat.le_of_ble_eq_true rfl) dX6_put_77 ⟨(Nat.le_of_ble_eq_true rfl), (Nat.le_of_ble_eq_true rfl)⟩ rfl (fun H hp hz hf => ?_)
    have h0 := hp
    have hO := hO.fr (j := 0) (by decide) hf (fun _ z => z)
    refine y_aload_n C 0 dX6_put_80 rfl rfl ?_
    refine y_get6 C hO.1 0 (by decide) q12 rfl rfl dX6_put_81 ?_
    refine y_get2 C (dk_0 h0) 3 (by decide) q99 rfl rfl dX6_put_84 ?_
    refine y_get5 C (dk_3 h0) 2 (by decide) q302 rfl rfl dX6_put_87 ?_
    refine y_iload_n C 1 dX6_put_90 rfl rfl ?_
    refine y_iald C (dk_6 h0) p rfl hp6 (by decide) dX6_put_91 ?_
    exact y_iret C hr (by first | (rw [aPut, if_neg h1]; done) | (rw [aPut, if_pos h1]; rfl)) (by first | (rw [aPut, if_neg h1]; first | exact hO.cl0 h0 | exact hO.clJ (j := 0) h0) | (rw [aPut, if_pos h1]; first | exact hO.cl0 h0 | exact hO.clJ (j := 0) h0) | (rw [aPut]; first | exact hO.cl0 h0 | exact hO.clJ (j := 0) h0)) dX6_put_92
  · refine y_bipush C (-3) dX6_put_43 (by decide) ?_
    exact y_iret C hr (by first | (rw [aPut, if_neg h1]; done) | (rw [aPut, if_pos h1]; rfl)) (by first | (rw [aPut, if_neg h1]; first | exact hO.cl0 h0 | exact hO.clJ (j := 0) h0) | (rw [aPut, if_pos h1]; first | exact hO.cl0 h0 | exact hO.clJ (j := 0) h0) | (rw [aPut]; first | exact hO.cl0 h0 | exact hO.clJ (j := 0) h0)) dX6_put_45
def rm_X6_setNumber : Room := { frames := 4, cells := 0, slots := 0, locals := 81 }
set_option maxRecDepth 100000 in
set_option maxHeartbeats 4000000 in
theorem c_X6_setNumber (g : KG) (B0 : Nat) (l : Launch) (b : Nat) (X : SV) (hv : sv X) (w v : Nat) (hw5 : w < 5) (hv31 : v < 2 ^ 31) : Mt g B0 l yX6_setNumber cX6_setNumber 4 (some .int) rm_X6_setNumber [.ref b, .int (nI w), .int (nI v)] (iv b 152) (sX g b X) (some (.int (aSetN X w v).1)) (sX g b (aSetN X w v).2) 0 0 := by
  refine Mt_of RX6 (by decide) rfl [(0, .ref b), (1, .int (nI w)), (2, .int (nI v))] rfl (Nat.le_of_ble_eq_true rfl) ?_
  intro pr e s m args below meth c C hr hin hd
  have hO := hd.ex 0
  have h0 := hd.d0
  obtain ⟨t1, hZ1, hT1⟩ := stA.get C.2.2.2.2.2.1.2.2.2.2.2.2.2.1 C.2.2.2.2.2.2.1
  obtain ⟨t2, hZ2, hT2⟩ := stA.get C.2.2.2.2.2.1.2.2.2.2.2.2.2.2.1 C.2.2.2.2.2.2.1
  refine y_iload_n C 1 dX6_setNumber_0 rfl rfl ?_
  refine y_iconst C (5) dX6_setNumber_1 (by decide) ?_
  refine y_callS C [.int (nI w), .int (5 : Int32)] (c_X6_isIndex g B0 l (nI w) (5 : Int32)) 2 (wSin q141 q142 q2 q143) hs_X6_isIndex ⟨(Nat.le_of_ble_eq_true rfl), (Nat.le_of_ble_eq_true rfl)⟩ ⟨rfl, rfl⟩ trivial nF.no rfl rfl (Nat.le_of_ble_eq_true rfl) dX6_setNumber_2 ⟨(Nat.le_of_ble_eq_true rfl), (Nat.le_of_ble_eq_true rfl)⟩ rfl (fun H hp hz hf => ?_)
  have h0 := h0.fr hf (fun _ _ z => z)
  have hO := hO.fr (j := 0) (by decide) hf nF.no
  refine y_if_ne C 10 dX6_setNumber_5 (by decide) (fun _ => ?_) (fun h => absurd h (ixf_t (n := 5) hw5 (by decide)))
  refine y_iload_n C 2 dX6_setNumber_10 rfl rfl ?_
  refine y_gets C hZ1 q343 dX6_setNumber_11 ?_
  refine y_iload_n C 1 dX6_setNumber_14 rfl rfl ?_
  refine y_sld C hT1 w rfl hw5 (by decide) dX6_setNumber_15 ?_
  refine y_gets C hZ2 q344 dX6_setNumber_16 ?_
  refine y_iload_n C 1 dX6_setNumber_19 rfl rfl ?_
  refine y_sld C hT2 w rfl hw5 (by decide) dX6_setNumber_20 ?_
  refine y_callS C [.int (nI v), .int (tLN w), .int (tHN w)] (c_X6_isWithin g B0 l (nI v) (tLN w) (tHN w)) 3 (wSin q108 q109 q2 q110) hs_X6_isWithin ⟨(Nat.le_of_ble_eq_true rfl), (Nat.le_of_ble_eq_true rfl)⟩ ⟨rfl, rfl⟩ trivial nF.no rfl rfl (Nat.le_of_ble_eq_true rfl) dX6_setNumber_21 ⟨(Nat.le_of_ble_eq_true rfl), (Nat.le_of_ble_eq_true rfl)⟩ rfl (fun H hp hz hf => ?_)
  have h0 := h0.fr hf (fun _ _ z => z)
  have hO := hO.fr (j := 0) (by decide) hf nF.no
  refine y_if_ne C 30 dX6_setNumber_24 (by decide) (fun h1 => ?_) (fun h1 => ?_)
  · refine y_iload_n C 1 dX6_setNumber_30 rfl rfl ?_
    refine y_iconst C (4) dX6_setNumber_31 (by decide) ?_
    refine y_icmp_ne C 52 dX6_setNumber_32 (by decide) (fun h2 => ?_) (fun h2 => ?_)
    · refine y_aload_n C 0 dX6_setNumber_52 rfl rfl ?_
      refine y_get6 C hO.1 0 (by decide) q12 rfl rfl dX6_setNumber_53 ?_
      refine y_get2 C (dk_0 h0) 2 (by decide) q345 rfl rfl dX6_setNumber_56 ?_
      refine y_iload_n C 1 dX6_setNumber_59 rfl rfl ?_
      refine y_iald C (dk_2 h0) w rfl hw5 (by decide) dX6_setNumber_60 ?_
      refine y_istore_n C dX6_setNumber_61 rfl (by decide) rfl ?_
      refine y_iload_n C 0 dX6_setNumber_62 rfl rfl ?_
      refine y_iload_n C 3 dX6_setNumber_63 rfl rfl ?_
      refine y_icmp_ne C 70 dX6_setNumber_64 (by decide) (fun h4 => ?_) (fun h4 => ?_)
      · refine y_aload_n C 1 dX6_setNumber_70 rfl rfl ?_
        refine y_get6 C hO.1 4 (by decide) q19 rfl rfl dX6_setNumber_71 ?_
        refine y_aload_n C 1 dX6_setNumber_74 rfl rfl ?_
        refine y_get6 C hO.1 0 (by decide) q12 rfl rfl dX6_setNumber_75 ?_
        refine y_callV C [.ref (b + 1)] (c_X3_record g B0 l b X.1 X.2.1 X.2.2.1 X.2.2.2 hv.1) RX3 1 (wVin q270 q271 q272 q18 q273) hy_X3_record ⟨(Nat.le_of_ble_eq_true rfl), (Nat.le_of_ble_eq_true rfl)⟩ ⟨rfl, rfl⟩ (rcv C.2.2.2.2.2.1 hO.2.1 rfl) (hO.cl0 h0) (fun _ h => h) rfl rfl (Nat.le_of_ble_eq_true rfl) dX6_setNumber_78 ⟨(Nat.le_of_ble_eq_true rfl), (Nat.le_of_ble_eq_true rfl)⟩ rfl (fun H hp hz hf => ?_)
        have hO : sysO 0 g b (rcX X) H := sX.ex (X := rcX X) 0 hp
        have h0 := rcX_0 (X := X) hp
        refine y_aload_n C 1 dX6_setNumber_81 rfl rfl ?_
        refine y_get6 C hO.1 0 (by decide) q12 rfl rfl dX6_setNumber_82 ?_
        refine y_get2 C (dk_0 h0) 2 (by decide) q345 rfl rfl dX6_setNumber_85 ?_
        refine y_iload_n C 2 dX6_setNumber_88 rfl rfl ?_
        refine y_iload_n C 3 dX6_setNumber_89 rfl rfl ?_
        refine y_iast C (dk_2 h0) (adr_iv (j := 0) (by decide) _ (ivm 2 (by decide))) w rfl hw5 (by decide) dX6_setNumber_90 (fun H hw1 ow1 zw1 => ?_)
        have h0 := dk_set2 h0 hw1 ow1
        have hO := hO.off (j := 0) (by decide) ow1 (ivm 2 (by decide))
        refine y_iload_n C 0 dX6_setNumber_91 rfl rfl ?_
        exact y_iret C hr (by first | (rw [aSetN, if_neg h1, if_neg h2]; rw [aSetN2]; first | rw [if_pos h4] | rw [if_neg h4]) | (rw [aSetN, if_neg h1, if_pos h2]; rw [aSetN2]; first | rw [if_pos h4] | rw [if_neg h4]) | (rw [aSetN, if_pos h1, if_neg h2]; rw [aSetN2]; first | rw [if_pos h4] | rw [if_neg h4]) | (rw [aSetN, if_pos h1, if_pos h2]; rw [aSetN2]; first | rw [if_pos h4] | rw [if_neg h4]) | (rw [aSetN, if_neg h1]; rw [aSetN2]; first | rw [if_pos h4] | rw [if_neg h4]) | (rw [aSetN, if_pos h1]; rw [aSetN2]; first | rw [if_pos h4] | rw [if_neg h4]) | (rw [aSetN]; rw [aSetN2]; first | rw [if_pos h4] | rw [if_neg h4])) (by first | (rw [aSetN, if_neg h1, if_neg h2]; rw [aSetN2]; first | (rw [if_pos h4]; exact hO.cl0 h0) | (rw [if_neg h4]; exact hO.clJ (j := 0) h0)) | (rw [aSetN, if_neg h1, if_pos h2]; rw [aSetN2]; first | (rw [if_pos h4]; exact hO.cl0 h0) | (rw [if_neg h4]; exact hO.clJ (j := 0) h0)) | (rw [aSetN, if_pos h1, if_neg h2]; rw [aSetN2]; first | (rw [if_pos h4]; exact hO.cl0 h0) | (rw [if_neg h4]; exact hO.clJ (j := 0) h0)) | (rw [aSetN, if_pos h1, if_pos h2]; rw [aSetN2]; first | (rw [if_pos h4]; exact hO.cl0 h0) | (rw [if_neg h4]; exact hO.clJ (j := 0) h0)) | (rw [aSetN, if_neg h1]; rw [aSetN2]; first | (rw [if_pos h4]; exact hO.cl0 h0) | (rw [if_neg h4]; exact hO.clJ (j := 0) h0)) | (rw [aSetN, if_pos h1]; rw [aSetN2]; first | (rw [if_pos h4]; exact hO.cl0 h0) | (rw [if_neg h4]; exact hO.clJ (j := 0) h0)) | (rw [aSetN]; rw [aSetN2]; first | (rw [if_pos h4]; exact hO.cl0 h0) | (rw [if_neg h4]; exact hO.clJ (j := 0) h0))) dX6_setNumber_92
      · refine y_bipush C (-5) dX6_setNumber_67 (by decide) ?_
        exact y_iret C hr (by first | (rw [aSetN, if_neg h1, if_neg h2]; rw [aSetN2]; first | rw [if_pos h4] | rw [if_neg h4]) | (rw [aSetN, if_neg h1, if_pos h2]; rw [aSetN2]; first | rw [if_pos h4] | rw [if_neg h4]) | (rw [aSetN, if_pos h1, if_neg h2]; rw [aSetN2]; first | rw [if_pos h4] | rw [if_neg h4]) | (rw [aSetN, if_pos h1, if_pos h2]; rw [aSetN2]; first | rw [if_pos h4] | rw [if_neg h4]) | (rw [aSetN, if_neg h1]; rw [aSetN2]; first | rw [if_pos h4] | rw [if_neg h4]) | (rw [aSetN, if_pos h1]; rw [aSetN2]; first | rw [if_pos h4] | rw [if_neg h4]) | (rw [aSetN]; rw [aSetN2]; first | rw [if_pos h4] | rw [if_neg h4])) (by first | (rw [aSetN, if_neg h1, if_neg h2]; rw [aSetN2]; first | (rw [if_pos h4]; exact hO.cl0 h0) | (rw [if_neg h4]; exact hO.clJ (j := 0) h0)) | (rw [aSetN, if_neg h1, if_pos h2]; rw [aSetN2]; first | (rw [if_pos h4]; exact hO.cl0 h0) | (rw [if_neg h4]; exact hO.clJ (j := 0) h0)) | (rw [aSetN, if_pos h1, if_neg h2]; rw [aSetN2]; first | (rw [if_pos h4]; exact hO.cl0 h0) | (rw [if_neg h4]; exact hO.clJ (j := 0) h0)) | (rw [aSetN, if_pos h1, if_pos h2]; rw [aSetN2]; first | (rw [if_pos h4]; exact hO.cl0 h0) | (rw [if_neg h4]; exact hO.clJ (j := 0) h0)) | (rw [aSetN, if_neg h1]; rw [aSetN2]; first | (rw [if_pos h4]; exact hO.cl0 h0) | (rw [if_neg h4]; exact hO.clJ (j := 0) h0)) | (rw [aSetN, if_pos h1]; rw [aSetN2]; first | (rw [if_pos h4]; exact hO.cl0 h0) | (rw [if_neg h4]; exact hO.clJ (j := 0) h0)) | (rw [aSetN]; rw [aSetN2]; first | (rw [if_pos h4]; exact hO.cl0 h0) | (rw [if_neg h4]; exact hO.clJ (j := 0) h0))) dX6_setNumber_69
    · refine y_aload_n C 0 dX6_setNumber_35 rfl rfl ?_
      refine y_get6 C hO.1 0 (by decide) q12 rfl rfl dX6_setNumber_36 ?_
      refine y_get2 C (dk_0 h0) 4 (by decide) q96 rfl rfl dX6_setNumber_39 ?_
      refine y_callV C [] (c_X4_withLoaner g B0 l (b + 1) (X.2.2.2 0) (hv.2 0 (by decide)).1) RX4 0 (wVin q346 q120 q121 q43 q122) hy_X4_withLoaner ⟨(Nat.le_of_ble_eq_true rfl), (Nat.le_of_ble_eq_true rfl)⟩ ⟨rfl, rfl⟩ (rcv C.2.2.2.2.2.1 (dk_11 h0) rfl) h0 (adr_iv (j := 0) (by decide)) rfl rfl (Nat.le_of_ble_eq_true rfl) dX6_setNumber_42 ⟨(Nat.le_of_ble_eq_true rfl), (Nat.le_of_ble_eq_true rfl)⟩ rfl (fun H hp hz hf => ?_)
      have h0 := hp
      have hO := hO.fr (j := 0) (by decide) hf (fun _ z => z)
      refine y_iload_n C 2 dX6_setNumber_45 rfl rfl ?_
      refine y_icmp_le C 52 dX6_setNumber_46 (by decide) (fun h3 => ?_) (fun h3 => ?_)
      · refine y_aload_n C 0 dX6_setNumber_52 rfl rfl ?_
        refine y_get6 C hO.1 0 (by decide) q12 rfl rfl dX6_setNumber_53 ?_
        refine y_get2 C (dk_0 h0) 2 (by decide) q345 rfl rfl dX6_setNumber_56 ?_
        refine y_iload_n C 1 dX6_setNumber_59 rfl rfl ?_
        refine y_iald C (dk_2 h0) w rfl hw5 (by decide) dX6_setNumber_60 ?_
        refine y_istore_n C dX6_setNumber_61 rfl (by decide) rfl ?_
        refine y_iload_n C 0 dX6_setNumber_62 rfl rfl ?_
        refine y_iload_n C 3 dX6_setNumber_63 rfl rfl ?_
        refine y_icmp_ne C 70 dX6_setNumber_64 (by decide) (fun h4 => ?_) (fun h4 => ?_)
        · refine y_aload_n C 1 dX6_setNumber_70 rfl rfl ?_
          refine y_get6 C hO.1 4 (by decide) q19 rfl rfl dX6_setNumber_71 ?_
          refine y_aload_n C 1 dX6_setNumber_74 rfl rfl ?_
          refine y_get6 C hO.1 0 (by decide) q12 rfl rfl dX6_setNumber_75 ?_
          refine y_callV C [.ref (b + 1)] (c_X3_record g B0 l b X.1 X.2.1 X.2.2.1 X.2.2.2 hv.1) RX3 1 (wVin q270 q271 q272 q18 q273) hy_X3_record ⟨(Nat.le_of_ble_eq_true rfl), (Nat.le_of_ble_eq_true rfl)⟩ ⟨rfl, rfl⟩ (rcv C.2.2.2.2.2.1 hO.2.1 rfl) (hO.cl0 h0) (fun _ h => h) rfl rfl (Nat.le_of_ble_eq_true rfl) dX6_setNumber_78 ⟨(Nat.le_of_ble_eq_true rfl), (Nat.le_of_ble_eq_true rfl)⟩ rfl (fun H hp hz hf => ?_)
          have hO : sysO 0 g b (rcX X) H := sX.ex (X := rcX X) 0 hp
          have h0 := rcX_0 (X := X) hp
          refine y_aload_n C 1 dX6_setNumber_81 rfl rfl ?_
          refine y_get6 C hO.1 0 (by decide) q12 rfl rfl dX6_setNumber_82 ?_
          refine y_get2 C (dk_0 h0) 2 (by decide) q345 rfl rfl dX6_setNumber_85 ?_
          refine y_iload_n C 2 dX6_setNumber_88 rfl rfl ?_
          refine y_iload_n C 3 dX6_setNumber_89 rfl rfl ?_
          refine y_iast C (dk_2 h0) (adr_iv (j := 0) (by decide) _ (ivm 2 (by decide))) w rfl hw5 (by decide) dX6_setNumber_90 (fun H hw1 ow1 zw1 => ?_)
          have h0 := dk_set2 h0 hw1 ow1
          have hO := hO.off (j := 0) (by decide) ow1 (ivm 2 (by decide))
          refine y_iload_n C 0 dX6_setNumber_91 rfl rfl ?_
          exact y_iret C hr (by first | (rw [aSetN, if_neg h1, if_neg h2, if_neg h3]; rw [aSetN2]; first | rw [if_pos h4] | rw [if_neg h4]) | (rw [aSetN, if_neg h1, if_neg h2, if_pos h3]; rw [aSetN2]; first | rw [if_pos h4] | rw [if_neg h4]) | (rw [aSetN, if_neg h1, if_pos h2, if_neg h3]; rw [aSetN2]; first | rw [if_pos h4] | rw [if_neg h4]) | (rw [aSetN, if_neg h1, if_pos h2, if_pos h3]; rw [aSetN2]; first | rw [if_pos h4] | rw [if_neg h4]) | (rw [aSetN, if_pos h1, if_neg h2, if_neg h3]; rw [aSetN2]; first | rw [if_pos h4] | rw [if_neg h4]) | (rw [aSetN, if_pos h1, if_neg h2, if_pos h3]; rw [aSetN2]; first | rw [if_pos h4] | rw [if_neg h4]) | (rw [aSetN, if_pos h1, if_pos h2, if_neg h3]; rw [aSetN2]; first | rw [if_pos h4] | rw [if_neg h4]) | (rw [aSetN, if_pos h1, if_pos h2, if_pos h3]; rw [aSetN2]; first | rw [if_pos h4] | rw [if_neg h4]) | (rw [aSetN, if_neg h1, if_neg h2]; rw [aSetN2]; first | rw [if_pos h4] | rw [if_neg h4]) | (rw [aSetN, if_neg h1, if_pos h2]; rw [aSetN2]; first | rw [if_pos h4] | rw [if_neg h4]) | (rw [aSetN, if_pos h1, if_neg h2]; rw [aSetN2]; first | rw [if_pos h4] | rw [if_neg h4]) | (rw [aSetN, if_pos h1, if_pos h2]; rw [aSetN2]; first | rw [if_pos h4] | rw [if_neg h4]) | (rw [aSetN, if_neg h1]; rw [aSetN2]; first | rw [if_pos h4] | rw [if_neg h4]) | (rw [aSetN, if_pos h1]; rw [aSetN2]; first | rw [if_pos h4] | rw [if_neg h4]) | (rw [aSetN]; rw [aSetN2]; first | rw [if_pos h4] | rw [if_neg h4])) (by first | (rw [aSetN, if_neg h1, if_neg h2, if_neg h3]; rw [aSetN2]; first | (rw [if_pos h4]; exact hO.cl0 h0) | (rw [if_neg h4]; exact hO.clJ (j := 0) h0)) | (rw [aSetN, if_neg h1, if_neg h2, if_pos h3]; rw [aSetN2]; first | (rw [if_pos h4]; exact hO.cl0 h0) | (rw [if_neg h4]; exact hO.clJ (j := 0) h0)) | (rw [aSetN, if_neg h1, if_pos h2, if_neg h3]; rw [aSetN2]; first | (rw [if_pos h4]; exact hO.cl0 h0) | (rw [if_neg h4]; exact hO.clJ (j := 0) h0)) | (rw [aSetN, if_neg h1, if_pos h2, if_pos h3]; rw [aSetN2]; first | (rw [if_pos h4]; exact hO.cl0 h0) | (rw [if_neg h4]; exact hO.clJ (j := 0) h0)) | (rw [aSetN, if_pos h1, if_neg h2, if_neg h3]; rw [aSetN2]; first | (rw [if_pos h4]; exact hO.cl0 h0) | (rw [if_neg h4]; exact hO.clJ (j := 0) h0)) | (rw [aSetN, if_pos h1, if_neg h2, if_pos h3]; rw [aSetN2]; first | (rw [if_pos h4]; exact hO.cl0 h0) | (rw [if_neg h4]; exact hO.clJ (j := 0) h0)) | (rw [aSetN, if_pos h1, if_pos h2, if_neg h3]; rw [aSetN2]; first | (rw [if_pos h4]; exact hO.cl0 h0) | (rw [if_neg h4]; exact hO.clJ (j := 0) h0)) | (rw [aSetN, if_pos h1, if_pos h2, if_pos h3]; rw [aSetN2]; first | (rw [if_pos h4]; exact hO.cl0 h0) | (rw [if_neg h4]; exact hO.clJ (j := 0) h0)) | (rw [aSetN, if_neg h1, if_neg h2]; rw [aSetN2]; first | (rw [if_pos h4]; exact hO.cl0 h0) | (rw [if_neg h4]; exact hO.clJ (j := 0) h0)) | (rw [aSetN, if_neg h1, if_pos h2]; rw [aSetN2]; first | (rw [if_pos h4]; exact hO.cl0 h0) | (rw [if_neg h4]; exact hO.clJ (j := 0) h0)) | (rw [aSetN, if_pos h1, if_neg h2]; rw [aSetN2]; first | (rw [if_pos h4]; exact hO.cl0 h0) | (rw [if_neg h4]; exact hO.clJ (j := 0) h0)) | (rw [aSetN, if_pos h1, if_pos h2]; rw [aSetN2]; first | (rw [if_pos h4]; exact hO.cl0 h0) | (rw [if_neg h4]; exact hO.clJ (j := 0) h0)) | (rw [aSetN, if_neg h1]; rw [aSetN2]; first | (rw [if_pos h4]; exact hO.cl0 h0) | (rw [if_neg h4]; exact hO.clJ (j := 0) h0)) | (rw [aSetN, if_pos h1]; rw [aSetN2]; first | (rw [if_pos h4]; exact hO.cl0 h0) | (rw [if_neg h4]; exact hO.clJ (j := 0) h0)) | (rw [aSetN]; rw [aSetN2]; first | (rw [if_pos h4]; exact hO.cl0 h0) | (rw [if_neg h4]; exact hO.clJ (j := 0) h0))) dX6_setNumber_92
        · refine y_bipush C (-5) dX6_setNumber_67 (by decide) ?_
          exact y_iret C hr (by first | (rw [aSetN, if_neg h1, if_neg h2, if_neg h3]; rw [aSetN2]; first | rw [if_pos h4] | rw [if_neg h4]) | (rw [aSetN, if_neg h1, if_neg h2, if_pos h3]; rw [aSetN2]; first | rw [if_pos h4] | rw [if_neg h4]) | (rw [aSetN, if_neg h1, if_pos h2, if_neg h3]; rw [aSetN2]; first | rw [if_pos h4] | rw [if_neg h4]) | (rw [aSetN, if_neg h1, if_pos h2, if_pos h3]; rw [aSetN2]; first | rw [if_pos h4] | rw [if_neg h4]) | (rw [aSetN, if_pos h1, if_neg h2, if_neg h3]; rw [aSetN2]; first | rw [if_pos h4] | rw [if_neg h4]) | (rw [aSetN, if_pos h1, if_neg h2, if_pos h3]; rw [aSetN2]; first | rw [if_pos h4] | rw [if_neg h4]) | (rw [aSetN, if_pos h1, if_pos h2, if_neg h3]; rw [aSetN2]; first | rw [if_pos h4] | rw [if_neg h4]) | (rw [aSetN, if_pos h1, if_pos h2, if_pos h3]; rw [aSetN2]; first | rw [if_pos h4] | rw [if_neg h4]) | (rw [aSetN, if_neg h1, if_neg h2]; rw [aSetN2]; first | rw [if_pos h4] | rw [if_neg h4]) | (rw [aSetN, if_neg h1, if_pos h2]; rw [aSetN2]; first | rw [if_pos h4] | rw [if_neg h4]) | (rw [aSetN, if_pos h1, if_neg h2]; rw [aSetN2]; first | rw [if_pos h4] | rw [if_neg h4]) | (rw [aSetN, if_pos h1, if_pos h2]; rw [aSetN2]; first | rw [if_pos h4] | rw [if_neg h4]) | (rw [aSetN, if_neg h1]; rw [aSetN2]; first | rw [if_pos h4] | rw [if_neg h4]) | (rw [aSetN, if_pos h1]; rw [aSetN2]; first | rw [if_pos h4] | rw [if_neg h4]) | (rw [aSetN]; rw [aSetN2]; first | rw [if_pos h4] | rw [if_neg h4])) (by first | (rw [aSetN, if_neg h1, if_neg h2, if_neg h3]; rw [aSetN2]; first | (rw [if_pos h4]; exact hO.cl0 h0) | (rw [if_neg h4]; exact hO.clJ (j := 0) h0)) | (rw [aSetN, if_neg h1, if_neg h2, if_pos h3]; rw [aSetN2]; first | (rw [if_pos h4]; exact hO.cl0 h0) | (rw [if_neg h4]; exact hO.clJ (j := 0) h0)) | (rw [aSetN, if_neg h1, if_pos h2, if_neg h3]; rw [aSetN2]; first | (rw [if_pos h4]; exact hO.cl0 h0) | (rw [if_neg h4]; exact hO.clJ (j := 0) h0)) | (rw [aSetN, if_neg h1, if_pos h2, if_pos h3]; rw [aSetN2]; first | (rw [if_pos h4]; exact hO.cl0 h0) | (rw [if_neg h4]; exact hO.clJ (j := 0) h0)) | (rw [aSetN, if_pos h1, if_neg h2, if_neg h3]; rw [aSetN2]; first | (rw [if_pos h4]; exact hO.cl0 h0) | (rw [if_neg h4]; exact hO.clJ (j := 0) h0)) | (rw [aSetN, if_pos h1, if_neg h2, if_pos h3]; rw [aSetN2]; first | (rw [if_pos h4]; exact hO.cl0 h0) | (rw [if_neg h4]; exact hO.clJ (j := 0) h0)) | (rw [aSetN, if_pos h1, if_pos h2, if_neg h3]; rw [aSetN2]; first | (rw [if_pos h4]; exact hO.cl0 h0) | (rw [if_neg h4]; exact hO.clJ (j := 0) h0)) | (rw [aSetN, if_pos h1, if_pos h2, if_pos h3]; rw [aSetN2]; first | (rw [if_pos h4]; exact hO.cl0 h0) | (rw [if_neg h4]; exact hO.clJ (j := 0) h0)) | (rw [aSetN, if_neg h1, if_neg h2]; rw [aSetN2]; first | (rw [if_pos h4]; exact hO.cl0 h0) | (rw [if_neg h4]; exact hO.clJ (j := 0) h0)) | (rw [aSetN, if_neg h1, if_pos h2]; rw [aSetN2]; first | (rw [if_pos h4]; exact hO.cl0 h0) | (rw [if_neg h4]; exact hO.clJ (j := 0) h0)) | (rw [aSetN, if_pos h1, if_neg h2]; rw [aSetN2]; first | (rw [if_pos h4]; exact hO.cl0 h0) | (rw [if_neg h4]; exact hO.clJ (j := 0) h0)) | (rw [aSetN, if_pos h1, if_pos h2]; rw [aSetN2]; first | (rw [if_pos h4]; exact hO.cl0 h0) | (rw [if_neg h4]; exact hO.clJ (j := 0) h0)) | (rw [aSetN, if_neg h1]; rw [aSetN2]; first | (rw [if_pos h4]; exact hO.cl0 h0) | (rw [if_neg h4]; exact hO.clJ (j := 0) h0)) | (rw [aSetN, if_pos h1]; rw [aSetN2]; first | (rw [if_pos h4]; exact hO.cl0 h0) | (rw [if_neg h4]; exact hO.clJ (j := 0) h0)) | (rw [aSetN]; rw [aSetN2]; first | (rw [if_pos h4]; exact hO.cl0 h0) | (rw [if_neg h4]; exact hO.clJ (j := 0) h0))) dX6_setNumber_69
      · refine y_bipush C (-4) dX6_setNumber_49 (by decide) ?_
        exact y_iret C hr (by first | (rw [aSetN, if_neg h1, if_neg h2, if_neg h3]; done) | (rw [aSetN, if_neg h1, if_neg h2, if_pos h3]; done) | (rw [aSetN, if_neg h1, if_pos h2, if_neg h3]; done) | (rw [aSetN, if_neg h1, if_pos h2, if_pos h3]; done) | (rw [aSetN, if_pos h1, if_neg h2, if_neg h3]; done) | (rw [aSetN, if_pos h1, if_neg h2, if_pos h3]; done) | (rw [aSetN, if_pos h1, if_pos h2, if_neg h3]; done) | (rw [aSetN, if_pos h1, if_pos h2, if_pos h3]; done) | (rw [aSetN, if_neg h1, if_neg h2]; done) | (rw [aSetN, if_neg h1, if_pos h2]; done) | (rw [aSetN, if_pos h1, if_neg h2]; done) | (rw [aSetN, if_pos h1, if_pos h2]; done) | (rw [aSetN, if_neg h1]; done) | (rw [aSetN, if_pos h1]; done) | (rw [aSetN]; done)) (by first | (rw [aSetN, if_neg h1, if_neg h2, if_neg h3]; first | exact hO.cl0 h0 | exact hO.clJ (j := 0) h0) | (rw [aSetN, if_neg h1, if_neg h2, if_pos h3]; first | exact hO.cl0 h0 | exact hO.clJ (j := 0) h0) | (rw [aSetN, if_neg h1, if_pos h2, if_neg h3]; first | exact hO.cl0 h0 | exact hO.clJ (j := 0) h0) | (rw [aSetN, if_neg h1, if_pos h2, if_pos h3]; first | exact hO.cl0 h0 | exact hO.clJ (j := 0) h0) | (rw [aSetN, if_pos h1, if_neg h2, if_neg h3]; first | exact hO.cl0 h0 | exact hO.clJ (j := 0) h0) | (rw [aSetN, if_pos h1, if_neg h2, if_pos h3]; first | exact hO.cl0 h0 | exact hO.clJ (j := 0) h0) | (rw [aSetN, if_pos h1, if_pos h2, if_neg h3]; first | exact hO.cl0 h0 | exact hO.clJ (j := 0) h0) | (rw [aSetN, if_pos h1, if_pos h2, if_pos h3]; first | exact hO.cl0 h0 | exact hO.clJ (j := 0) h0) | (rw [aSetN, if_neg h1, if_neg h2]; first | exact hO.cl0 h0 | exact hO.clJ (j := 0) h0) | (rw [aSetN, if_neg h1, if_pos h2]; first | exact hO.cl0 h0 | exact hO.clJ (j := 0) h0) | (rw [aSetN, if_pos h1, if_neg h2]; first | exact hO.cl0 h0 | exact hO.clJ (j := 0) h0) | (rw [aSetN, if_pos h1, if_pos h2]; first | exact hO.cl0 h0 | exact hO.clJ (j := 0) h0) | (rw [aSetN, if_neg h1]; first | exact hO.cl0 h0 | exact hO.clJ (j := 0) h0) | (rw [aSetN, if_pos h1]; first | exact hO.cl0 h0 | exact hO.clJ (j := 0) h0) | (rw [aSetN]; first | exact hO.cl0 h0 | exact hO.clJ (j := 0) h0)) dX6_setNumber_51
  · refine y_bipush C (-2) dX6_setNumber_27 (by decide) ?_
    exact y_iret C hr (by first | (rw [aSetN, if_neg h1]; done) | (rw [aSetN, if_pos h1]; done) | (rw [aSetN]; done)) (by first | (rw [aSetN, if_neg h1]; first | exact hO.cl0 h0 | exact hO.clJ (j := 0) h0) | (rw [aSetN, if_pos h1]; first | exact hO.cl0 h0 | exact hO.clJ (j := 0) h0) | (rw [aSetN]; first | exact hO.cl0 h0 | exact hO.clJ (j := 0) h0)) dX6_setNumber_29
def rm_X6_undo : Room := { frames := 4, cells := 0, slots := 0, locals := 81 }
set_option maxRecDepth 100000 in
set_option maxHeartbeats 4000000 in
theorem c_X6_undo (g : KG) (B0 : Nat) (l : Launch) (b : Nat) (X : SV) (hv : sv X)  : Mt g B0 l yX6_undo cX6_undo 1 (some .int) rm_X6_undo [.ref b] (iv b 152) (sX g b X) (some (.int (aUndo X).1)) (sX g b (aUndo X).2) 0 0 := by
  refine Mt_of RX6 (by decide) rfl [(0, .ref b)] rfl (Nat.le_of_ble_eq_true rfl) ?_
  intro pr e s m args below meth c C hr hin hd
  have hO := hd.ex 0
  have h0 := hd.d0
  refine y_aload_n C 0 dX6_undo_0 rfl rfl ?_
  refine y_get6 C hO.1 4 (by decide) q19 rfl rfl dX6_undo_1 ?_
  refine y_get3 C hO.2.1 0 (by decide) q106 rfl rfl dX6_undo_4 ?_
  refine y_if_gt C 13 dX6_undo_7 (by decide) (fun h1 => ?_) (fun h1 => ?_)
  · refine y_aload_n C 0 dX6_undo_13 rfl rfl ?_
    refine y_get6 C hO.1 4 (by decide) q19 rfl rfl dX6_undo_14 ?_
    refine y_aload_n C 0 dX6_undo_17 rfl rfl ?_
    refine y_get6 C hO.1 0 (by decide) q12 rfl rfl dX6_undo_18 ?_
    refine y_callV C [.ref (b + 1)] (c_X3_giveBack g B0 l b X.1 X.2.1 X.2.2.1 X.2.2.2 hv.1 (Nat.pos_of_ne_zero (fun z => by rw [z] at h1; exact absurd h1 (by decide)))) RX3 1 (wVin q363 q364 q365 q18 q366) hy_X3_giveBack ⟨(Nat.le_of_ble_eq_true rfl), (Nat.le_of_ble_eq_true rfl)⟩ ⟨rfl, rfl⟩ (rcv C.2.2.2.2.2.1 hO.2.1 rfl) (hO.cl0 h0) (fun _ h => h) rfl rfl (Nat.le_of_ble_eq_true rfl) dX6_undo_21 ⟨(Nat.le_of_ble_eq_true rfl), (Nat.le_of_ble_eq_true rfl)⟩ rfl (fun H hp hz hf => ?_)
    have hX : sX g b (X.1, X.2.1 - 1, X.2.2.1, va_up X.2.2.2 0 (X.2.2.2 (3 + (X.2.2.1 + (X.2.1 - 1)) % 4))) H := hp
    have hO := hX
    refine y_aload_n C 0 dX6_undo_24 rfl rfl ?_
    refine y_get6 C hO.1 4 (by decide) q19 rfl rfl dX6_undo_25 ?_
    refine y_get3 C hO.2.1 0 (by decide) q106 rfl rfl dX6_undo_28 ?_
    exact y_iret C hr (by first | (rw [aUndo, if_neg h1]; done) | (rw [aUndo, if_pos h1]; done) | (rw [aUndo]; done)) (by rw [aUndo, if_pos h1]; exact hX) dX6_undo_31
  · refine y_bipush C (-5) dX6_undo_10 (by decide) ?_
    exact y_iret C hr (by first | (rw [aUndo, if_neg h1]; done) | (rw [aUndo, if_pos h1]; done) | (rw [aUndo]; done)) (by rw [aUndo, if_neg h1]; exact hO.cl0 h0) dX6_undo_12
def rm_X6_keep : Room := { frames := 3, cells := 0, slots := 0, locals := 60 }
set_option maxRecDepth 100000 in
set_option maxHeartbeats 4000000 in
theorem c_X6_keep (g : KG) (B0 : Nat) (l : Launch) (b : Nat) (X : SV) (hv : sv X)  : Mt g B0 l yX6_keep cX6_keep 1 (some .int) rm_X6_keep [.ref b] (iv b 152) (sX g b X) (some (.int (aKeep X).1)) (sX g b (aKeep X).2) 0 0 := by
  refine Mt_of RX6 (by decide) rfl [(0, .ref b)] rfl (Nat.le_of_ble_eq_true rfl) ?_
  intro pr e s m args below meth c C hr hin hd
  have hO := hd.ex 0
  have h0 := hd.d0
  refine y_aload_n C 0 dX6_keep_0 rfl rfl ?_
  refine y_get6 C hO.1 2 (by decide) q14 rfl rfl dX6_keep_1 ?_
  refine y_aload_n C 0 dX6_keep_4 rfl rfl ?_
  refine y_get6 C hO.1 0 (by decide) q12 rfl rfl dX6_keep_5 ?_
  refine y_callV C [.ref (b + 1)] (c_X2_copyFrom g B0 l (b + 43) (b + 1) (X.2.2.2 2) (X.2.2.2 0) (adr_no (i := 2) (j := 0) (by decide) (by decide) (by decide))) RX2 1 (wVin q144 q145 q146 q11 q147) hy_X2_copyFrom ⟨(Nat.le_of_ble_eq_true rfl), (Nat.le_of_ble_eq_true rfl)⟩ ⟨rfl, rfl⟩ (rcv C.2.2.2.2.2.1 (dk_0 (hO.cl0 h0).d2) rfl) ⟨(hO.cl0 h0).d2, h0⟩ (adr_iv (j := 2) (by decide)) rfl rfl (Nat.le_of_ble_eq_true rfl) dX6_keep_8 ⟨(Nat.le_of_ble_eq_true rfl), (Nat.le_of_ble_eq_true rfl)⟩ rfl (fun H hp hz hf => ?_)
  have hX := ((sX.ex 2 (hO.cl0 h0)).fr (j := 2) (by decide) hf (fun _ z => z)).clJ (j := 2) hp.1
  have hO := hX
  have h0 := hp.2
  refine y_aload_n C 0 dX6_keep_11 rfl rfl ?_
  refine y_iconst C (1) dX6_keep_12 (by decide) ?_
  refine y_put6 C hO.1 ⟨Nat.le_refl _, by omega⟩ 3 (by decide) q15 rfl rfl (ty := .boolean) (by decide +kernel) rfl rfl (Nat.le_of_ble_eq_true rfl) dX6_keep_13 (fun H hw1 ow1 zw1 => ?_)
  have hO : sX g b (aKeep X).2 H := sys.snap (hsn1 := 1) hX hw1 ow1
  have h0 := h0.off ow1 (by unfold iv; omega)
  refine y_aload_n C 0 dX6_keep_16 rfl rfl ?_
  refine y_get6 C hO.1 0 (by decide) q12 rfl rfl dX6_keep_17 ?_
  refine y_get2 C (dk_0 h0) 0 (by decide) q97 rfl rfl dX6_keep_20 ?_
  exact y_iret C hr rfl hO dX6_keep_23
def rm_X6_restore : Room := { frames := 4, cells := 0, slots := 0, locals := 81 }
set_option maxRecDepth 100000 in
set_option maxHeartbeats 4000000 in
theorem c_X6_restore (g : KG) (B0 : Nat) (l : Launch) (b : Nat) (X : SV) (hv : sv X)  : Mt g B0 l yX6_restore cX6_restore 1 (some .int) rm_X6_restore [.ref b] (iv b 152) (sX g b X) (some (.int (aRest X).1)) (sX g b (aRest X).2) 0 0 := by
  refine Mt_of RX6 (by decide) rfl [(0, .ref b)] rfl (Nat.le_of_ble_eq_true rfl) ?_
  intro pr e s m args below meth c C hr hin hd
  have hO := hd.ex 0
  have h0 := hd.d0
  refine y_aload_n C 0 dX6_restore_0 rfl rfl ?_
  refine y_get6 C hO.1 3 (by decide) q15 rfl rfl dX6_restore_1 ?_
  refine y_if_ne C 10 dX6_restore_4 (by decide) (fun h1 => ?_) (fun h1 => ?_)
  · refine y_aload_n C 0 dX6_restore_10 rfl rfl ?_
    refine y_get6 C hO.1 4 (by decide) q19 rfl rfl dX6_restore_11 ?_
    refine y_aload_n C 0 dX6_restore_14 rfl rfl ?_
    refine y_get6 C hO.1 0 (by decide) q12 rfl rfl dX6_restore_15 ?_
    refine y_callV C [.ref (b + 1)] (c_X3_record g B0 l b X.1 X.2.1 X.2.2.1 X.2.2.2 hv.1) RX3 1 (wVin q270 q271 q272 q18 q273) hy_X3_record ⟨(Nat.le_of_ble_eq_true rfl), (Nat.le_of_ble_eq_true rfl)⟩ ⟨rfl, rfl⟩ (rcv C.2.2.2.2.2.1 hO.2.1 rfl) (hO.cl0 h0) (fun _ h => h) rfl rfl (Nat.le_of_ble_eq_true rfl) dX6_restore_18 ⟨(Nat.le_of_ble_eq_true rfl), (Nat.le_of_ble_eq_true rfl)⟩ rfl (fun H hp hz hf => ?_)
    have hO : sysO 0 g b (rcX X) H := sX.ex (X := rcX X) 0 hp
    have h0 := rcX_0 (X := X) hp
    refine y_aload_n C 0 dX6_restore_21 rfl rfl ?_
    refine y_get6 C hO.1 0 (by decide) q12 rfl rfl dX6_restore_22 ?_
    refine y_aload_n C 0 dX6_restore_25 rfl rfl ?_
    refine y_get6 C hO.1 2 (by decide) q14 rfl rfl dX6_restore_26 ?_
    refine y_callV C [.ref (b + 43)] (c_X2_copyFrom g B0 l (b + 1) (b + 43) (X.2.2.2 0) ((rcX X).2.2.2 2) (adr_no (i := 0) (j := 2) (by decide) (by decide) (by decide))) RX2 1 (wVin q144 q145 q146 q11 q147) hy_X2_copyFrom ⟨(Nat.le_of_ble_eq_true rfl), (Nat.le_of_ble_eq_true rfl)⟩ ⟨rfl, rfl⟩ (rcv C.2.2.2.2.2.1 (dk_0 h0) rfl) ⟨h0, hO.2.2.2 2 (by decide) (by decide)⟩ (adr_iv (j := 0) (by decide)) rfl rfl (Nat.le_of_ble_eq_true rfl) dX6_restore_29 ⟨(Nat.le_of_ble_eq_true rfl), (Nat.le_of_ble_eq_true rfl)⟩ rfl (fun H hp hz hf => ?_)
    have h0 := hp.1
    have hO := hO.fr (j := 0) (by decide) hf (fun _ z => z)
    refine y_aload_n C 0 dX6_restore_32 rfl rfl ?_
    refine y_get6 C hO.1 0 (by decide) q12 rfl rfl dX6_restore_33 ?_
    refine y_get2 C (dk_0 h0) 0 (by decide) q97 rfl rfl dX6_restore_36 ?_
    exact y_iret C hr (by first | (rw [aRest, if_neg h1]; done) | (rw [aRest, if_pos h1]; done) | (rw [aRest]; done)) (by first | (rw [aRest, if_neg h1]; first | exact hO.cl0 h0 | exact hO.clJ (j := 0) h0) | (rw [aRest, if_pos h1]; first | exact hO.cl0 h0 | exact hO.clJ (j := 0) h0) | (rw [aRest]; first | exact hO.cl0 h0 | exact hO.clJ (j := 0) h0)) dX6_restore_39
  · refine y_bipush C (-5) dX6_restore_7 (by decide) ?_
    exact y_iret C hr (by first | (rw [aRest, if_neg h1]; done) | (rw [aRest, if_pos h1]; done) | (rw [aRest]; done)) (by first | (rw [aRest, if_neg h1]; first | exact hO.cl0 h0 | exact hO.clJ (j := 0) h0) | (rw [aRest, if_pos h1]; first | exact hO.cl0 h0 | exact hO.clJ (j := 0) h0) | (rw [aRest]; first | exact hO.cl0 h0 | exact hO.clJ (j := 0) h0)) dX6_restore_9
