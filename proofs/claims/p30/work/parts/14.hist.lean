/-! THE WHOLE: 152 cells from b on: 0 SetRepairs, 1 the desk, 22 the trial, 43 the snapshot, 64 History, 65 its states, 66, 87, 108, 129 the desks of the history, 150 the text, 151 its characters. hsn: is there a snapshot; hm: how many states; r: which of the four is the oldest; dv: the seven desks -/
def adr : Nat → Nat
  | 0 => 1
  | 1 => 22
  | 2 => 43
  | n + 3 => 66 + 21 * n
def sta (b r : Nat) : Nat → Option Nat := fun j => some (b + adr (3 + (r + j) % 4))
def rooC (b : Nat) (hsn : Int32) : va_E := .inr (6, [.ref (b + 1), .ref (b + 22), .ref (b + 43), .int hsn, .ref (b + 64), .ref (b + 150)])
def hisC (b hm : Nat) : va_E := .inr (3, [.int (nI hm), .ref (b + 65)])
def staC (g : KG) (f : Nat → Option Nat) : va_E := .inl (g.2 3, 4, .inr (.inr (.inr (.inr f))))
def sys (g : KG) (b : Nat) (hsn : Int32) (hm r : Nat) (dv : Nat → DV) (H : Heap) : Prop :=
  cA1 g b (rooC b hsn) H ∧ cA1 g (b + 64) (hisC b hm) H ∧ cA1 g (b + 65) (staC g (sta b r)) H ∧ ∀ j, j < 7 → dk g (b + adr j) (dv j) H
theorem adr_dis : ∀ i, i < 7 → ∀ j, j < 7 → i ≠ j → (adr i + 21 ≤ adr j ∨ adr j + 21 ≤ adr i) := by decide
theorem adr_in : ∀ j, j < 7 → 1 ≤ adr j ∧ adr j + 21 ≤ 150 ∧ (adr j + 21 ≤ 64 ∨ 66 ≤ adr j) := by decide
theorem adr_no {b i j : Nat} (hi : i < 7) (hj : j < 7) (h : i ≠ j) : ∀ q, iv (b + adr i) 21 q → ¬ iv (b + adr j) 21 q := by
  intro q h1 h2
  have := adr_dis i hi j hj h
  unfold iv at h1 h2
  omega
theorem adr_iv {b j : Nat} (hj : j < 7) : ∀ q, iv (b + adr j) 21 q → iv b 152 q := by
  intro q h
  have := adr_in j hj
  unfold iv at *
  omega
theorem sys.kept {g : KG} {b : Nat} {hsn : Int32} {hm r : Nat} {dv : Nat → DV} {H H1 : Heap} (h : sys g b hsn hm r dv H) (hq : ∀ q, iv b 152 q → H1[q]? = H[q]?) : sys g b hsn hm r dv H1 :=
  ⟨h.1.kept (hq b ⟨Nat.le_refl _, by omega⟩), h.2.1.kept (hq (b + 64) (ivm 64 (by decide))), h.2.2.1.kept (hq (b + 65) (ivm 65 (by decide))), fun j hj => (h.2.2.2 j hj).kept (fun q hz => hq q (adr_iv hj q hz))⟩
theorem sys.fr {g : KG} {b : Nat} {hsn : Int32} {hm r : Nat} {dv : Nat → DV} {H H1 : Heap} (h : sys g b hsn hm r dv H) {A1 : Nat → Prop} (hf : ∀ q : Nat, q < H.size → ¬ A1 q → H1[q]? = H[q]?) (hA : ∀ q, iv b 150 q → ¬ A1 q) : sys g b hsn hm r dv H1 := by
  have l1 : b + 129 + 20 < H.size := (h.2.2.2 6 (by decide)).lt
  refine ⟨h.1.kept (hf b (by omega) (hA _ ⟨Nat.le_refl _, by omega⟩)), h.2.1.kept (hf (b + 64) (by omega) (hA _ (ivm 64 (by decide)))), h.2.2.1.kept (hf (b + 65) (by omega) (hA _ (ivm 65 (by decide)))), fun j hj => (h.2.2.2 j hj).kept (fun q hz => ?_)⟩
  have := adr_in j hj
  unfold iv at hz
  exact hf q (by omega) (hA q ⟨by omega, by omega⟩)
/-- one of the seven desks is another one now -/
theorem sys.put {g : KG} {b : Nat} {hsn : Int32} {hm r : Nat} {dv : Nat → DV} {H H1 : Heap} (j : Nat) (hj : j < 7) (h : sys g b hsn hm r dv H) {d : DV} (hd : dk g (b + adr j) d H1) (hf : ∀ q : Nat, q < H.size → ¬ iv (b + adr j) 21 q → H1[q]? = H[q]?) : sys g b hsn hm r (va_up dv j d) H1 := by
  have l1 : b + 129 + 20 < H.size := (h.2.2.2 6 (by decide)).lt
  have ha := adr_in j hj
  refine ⟨h.1.kept (hf b (by omega) (fun z => by unfold iv at z; omega)), h.2.1.kept (hf (b + 64) (by omega) (fun z => by unfold iv at z; omega)), h.2.2.1.kept (hf (b + 65) (by omega) (fun z => by unfold iv at z; omega)), fun i hi => ?_⟩
  unfold va_up
  by_cases hij : i = j
  · subst hij; rw [if_pos rfl]; exact hd
  · rw [if_neg hij]
    refine (h.2.2.2 i hi).kept (fun q hz => ?_)
    have := adr_in i hi
    exact hf q (by unfold iv at hz; omega) (adr_no hi hj hij q hz)
theorem sys.put1 {g : KG} {b : Nat} {hsn : Int32} {hm r : Nat} {dv : Nat → DV} {H H1 : Heap} (j : Nat) (hj : j < 7) (h : sys g b hsn hm r dv H) {d : DV} {x : Nat} (hd : dk g (b + adr j) d H1) (o : ∀ q : Nat, q ≠ x → H1[q]? = H[q]?) (hx : iv (b + adr j) 21 x) : sys g b hsn hm r (va_up dv j d) H1 := h.put j hj hd (fun q _ hz => o q (fun e => hz (e ▸ hx)))
theorem sys.many {g : KG} {b : Nat} {hsn : Int32} {hm hm1 r : Nat} {dv : Nat → DV} {H H1 : Heap} (h : sys g b hsn hm r dv H) (h1 : cA1 g (b + 64) (hisC b hm1) H1) (o : ∀ q : Nat, q ≠ b + 64 → H1[q]? = H[q]?) : sys g b hsn hm1 r dv H1 :=
  ⟨h.1.kept (o b (by omega)), h1, h.2.2.1.kept (o (b + 65) (by omega)), fun j hj => (h.2.2.2 j hj).off o (by have := adr_in j hj; unfold iv; omega)⟩
theorem sys.snap {g : KG} {b : Nat} {hsn hsn1 : Int32} {hm r : Nat} {dv : Nat → DV} {H H1 : Heap} (h : sys g b hsn hm r dv H) (h1 : cA1 g b (rooC b hsn1) H1) (o : ∀ q : Nat, q ≠ b → H1[q]? = H[q]?) : sys g b hsn1 hm r dv H1 :=
  ⟨h1, h.2.1.kept (o (b + 64) (by omega)), h.2.2.1.kept (o (b + 65) (by omega)), fun j hj => (h.2.2.2 j hj).off o (by have := adr_in j hj; unfold iv; omega)⟩
theorem staC_same {g : KG} {q : Nat} {f f2 : Nat → Option Nat} {H : Heap} (h : cA1 g q (staC g f) H) (e : ∀ j, j < 4 → f j = f2 j) : cA1 g q (staC g f2) H := by
  have h1 : H[q]? = some (vp_cell (g.2 3) (4, .inr (.inr (.inr (.inr f))))) := h
  show H[q]? = some (vp_cell (g.2 3) (4, .inr (.inr (.inr (.inr f2)))))
  rw [h1, vp_cell_q, vp_cell_q]
  exact congrArg some (arrV_same _ _ (fun j hj => by rw [e j hj]))
theorem sta_rot (b r : Nat) : ∀ j, j < 4 → va_up (va_up (va_up (va_up (sta b r) 0 (some (b + adr (3 + (r + 1) % 4)))) 1 (some (b + adr (3 + (r + 2) % 4)))) 2 (some (b + adr (3 + (r + 3) % 4)))) 3 (some (b + adr (3 + (r + 0) % 4))) j = sta b ((r + 1) % 4) j := by
  intro j hj
  match j, hj with
  | 0, _ => show some (b + adr (3 + (r + 1) % 4)) = some (b + adr (3 + ((r + 1) % 4 + 0) % 4)); rw [show ((r + 1) % 4 + 0) % 4 = (r + 1) % 4 by omega]
  | 1, _ => show some (b + adr (3 + (r + 2) % 4)) = some (b + adr (3 + ((r + 1) % 4 + 1) % 4)); rw [show ((r + 1) % 4 + 1) % 4 = (r + 2) % 4 by omega]
  | 2, _ => show some (b + adr (3 + (r + 3) % 4)) = some (b + adr (3 + ((r + 1) % 4 + 2) % 4)); rw [show ((r + 1) % 4 + 2) % 4 = (r + 3) % 4 by omega]
  | 3, _ => show some (b + adr (3 + (r + 0) % 4)) = some (b + adr (3 + ((r + 1) % 4 + 3) % 4)); rw [show ((r + 1) % 4 + 3) % 4 = (r + 0) % 4 by omega]
  | n + 4, hj => exact absurd hj (by omega)
def rcM (hm : Nat) : Nat := if hm < 4 then hm + 1 else 4
def rcR (hm r : Nat) : Nat := if hm < 4 then r else (r + 1) % 4
def rcD (hm r : Nat) (dv : Nat → DV) : Nat → DV := if hm < 4 then va_up dv (3 + (r + hm) % 4) (dv 0) else va_up dv (3 + ((r + 1) % 4 + 3) % 4) (dv 0)
def rm_X3_dropOldest : Room := { frames := 0, cells := 0, slots := 0, locals := 0 }
set_option maxRecDepth 100000 in
set_option maxHeartbeats 4000000 in
theorem c_X3_dropOldest (g : KG) (B0 : Nat) (l : Launch) (b : Nat) (hsn : Int32) (hm r : Nat) (dv : Nat → DV) : Mt g B0 l yX3_dropOldest cX3_dropOldest 3 none rm_X3_dropOldest [.ref (b + 64)] (iv b 152) (sys g b hsn hm r dv) none (sys g b hsn 3 ((r + 1) % 4) dv) 0 0 := by
  refine Mt_of RX3 (by decide) rfl [(0, .ref (b + 64))] rfl (Nat.le_of_ble_eq_true rfl) ?_
  intro pr e s m args below meth c C hr hin hd
  obtain ⟨hro, hhi, hst, hdk⟩ := hd
  refine y_aload_n C 0 dX3_dropOldest_0 rfl rfl ?_
  refine y_get3 C hhi 1 (by decide) q83 rfl rfl dX3_dropOldest_1 ?_
  refine y_iconst C (0) dX3_dropOldest_4 (by decide) ?_
  refine y_aald C hst 0 rfl (by decide) (by decide) (v := .ref (b + adr (3 + (r + 0) % 4))) rfl dX3_dropOldest_5 ?_
  refine y_astore_n C dX3_dropOldest_6 rfl (by decide) rfl ?_
  refine y_iconst C (1) dX3_dropOldest_7 (by decide) ?_
  refine y_istore_n C dX3_dropOldest_8 rfl (by decide) rfl ?_
  refine y_iload_n C 0 dX3_dropOldest_9 rfl rfl ?_
  refine y_iconst C (4) dX3_dropOldest_10 (by decide) ?_
  refine y_icmp_ge C 34 dX3_dropOldest_11 (by decide) (fun h => absurd h (by decide)) (fun _ => ?_)
  refine y_aload_n C 2 dX3_dropOldest_14 rfl rfl ?_
  refine y_get3 C hhi 1 (by decide) q83 rfl rfl dX3_dropOldest_15 ?_
  refine y_iload_n C 0 dX3_dropOldest_18 rfl rfl ?_
  refine y_iconst C (1) dX3_dropOldest_19 (by decide) ?_
  refine y_isub C dX3_dropOldest_20 ?_
  refine y_aload_n C 2 dX3_dropOldest_21 rfl rfl ?_
  refine y_get3 C hhi 1 (by decide) q83 rfl rfl dX3_dropOldest_22 ?_
  refine y_iload_n C 0 dX3_dropOldest_25 rfl rfl ?_
  refine y_aald C hst 1 (by decide) (by decide) (by decide) (v := .ref (b + adr (3 + (r + 1) % 4))) rfl dX3_dropOldest_26 ?_
  refine y_aast C hst (dk_0 (hdk (3 + (r + 1) % 4) (by omega))) (ivm 65 (by decide)) 0 (by decide) (by decide) (by decide) dX3_dropOldest_27 (fun H hst ow1 zw1 => ?_)
  have hro := va_at.kept hro (ow1 b (by omega))
  have hhi := va_at.kept hhi (ow1 (b + 64) (by omega))
  have hdk := fun j (hj : j < 7) => (hdk j hj).off ow1 (by have := adr_in j hj; unfold iv; omega)
  refine y_iinc C 0 (nI (1 + 1)) dX3_dropOldest_28 rfl (by decide) (by decide) rfl ?_
  refine y_goto C 9 dX3_dropOldest_31 (by decide) ?_
  refine y_iload_n C 0 dX3_dropOldest_9 rfl rfl ?_
  refine y_iconst C (4) dX3_dropOldest_10 (by decide) ?_
  refine y_icmp_ge C 34 dX3_dropOldest_11 (by decide) (fun h => absurd h (by decide)) (fun _ => ?_)
  refine y_aload_n C 2 dX3_dropOldest_14 rfl rfl ?_
  refine y_get3 C hhi 1 (by decide) q83 rfl rfl dX3_dropOldest_15 ?_
  refine y_iload_n C 0 dX3_dropOldest_18 rfl rfl ?_
  refine y_iconst C (1) dX3_dropOldest_19 (by decide) ?_
  refine y_isub C dX3_dropOldest_20 ?_
  refine y_aload_n C 2 dX3_dropOldest_21 rfl rfl ?_
  refine y_get3 C hhi 1 (by decide) q83 rfl rfl dX3_dropOldest_22 ?_
  refine y_iload_n C 0 dX3_dropOldest_25 rfl rfl ?_
  refine y_aald C hst 2 (by decide) (by decide) (by decide) (v := .ref (b + adr (3 + (r + 2) % 4))) rfl dX3_dropOldest_26 ?_
  refine y_aast C hst (dk_0 (hdk (3 + (r + 2) % 4) (by omega))) (ivm 65 (by decide)) 1 (by decide) (by decide) (by decide) dX3_dropOldest_27 (fun H hst ow1 zw1 => ?_)
  have hro := va_at.kept hro (ow1 b (by omega))
  have hhi := va_at.kept hhi (ow1 (b + 64) (by omega))
  have hdk := fun j (hj : j < 7) => (hdk j hj).off ow1 (by have := adr_in j hj; unfold iv; omega)
  refine y_iinc C 0 (nI (2 + 1)) dX3_dropOldest_28 rfl (by decide) (by decide) rfl ?_
  refine y_goto C 9 dX3_dropOldest_31 (by decide) ?_
  refine y_iload_n C 0 dX3_dropOldest_9 rfl rfl ?_
  refine y_iconst C (4) dX3_dropOldest_10 (by decide) ?_
  refine y_icmp_ge C 34 dX3_dropOldest_11 (by decide) (fun h => absurd h (by decide)) (fun _ => ?_)
  refine y_aload_n C 2 dX3_dropOldest_14 rfl rfl ?_
  refine y_get3 C hhi 1 (by decide) q83 rfl rfl dX3_dropOldest_15 ?_
  refine y_iload_n C 0 dX3_dropOldest_18 rfl rfl ?_
  refine y_iconst C (1) dX3_dropOldest_19 (by decide) ?_
  refine y_isub C dX3_dropOldest_20 ?_
  refine y_aload_n C 2 dX3_dropOldest_21 rfl rfl ?_
  refine y_get3 C hhi 1 (by decide) q83 rfl rfl dX3_dropOldest_22 ?_
  refine y_iload_n C 0 dX3_dropOldest_25 rfl rfl ?_
  refine y_aald C hst 3 (by decide) (by decide) (by decide) (v := .ref (b + adr (3 + (r + 3) % 4))) rfl dX3_dropOldest_26 ?_
  refine y_aast C hst (dk_0 (hdk (3 + (r + 3) % 4) (by omega))) (ivm 65 (by decide)) 2 (by decide) (by decide) (by decide) dX3_dropOldest_27 (fun H hst ow1 zw1 => ?_)
  have hro := va_at.kept hro (ow1 b (by omega))
  have hhi := va_at.kept hhi (ow1 (b + 64) (by omega))
  have hdk := fun j (hj : j < 7) => (hdk j hj).off ow1 (by have := adr_in j hj; unfold iv; omega)
  refine y_iinc C 0 (nI (3 + 1)) dX3_dropOldest_28 rfl (by decide) (by decide) rfl ?_
  refine y_goto C 9 dX3_dropOldest_31 (by decide) ?_
  refine y_iload_n C 0 dX3_dropOldest_9 rfl rfl ?_
  refine y_iconst C (4) dX3_dropOldest_10 (by decide) ?_
  refine y_icmp_ge C 34 dX3_dropOldest_11 (by decide) (fun _ => ?_) (fun h => absurd (by decide) h)
  refine y_aload_n C 2 dX3_dropOldest_34 rfl rfl ?_
  refine y_get3 C hhi 1 (by decide) q83 rfl rfl dX3_dropOldest_35 ?_
  refine y_iconst C (3) dX3_dropOldest_38 (by decide) ?_
  refine y_aload_n C 1 dX3_dropOldest_39 rfl rfl ?_
  refine y_aast C hst (dk_0 (hdk (3 + (r + 0) % 4) (by omega))) (ivm 65 (by decide)) 3 rfl (by decide) (by decide) dX3_dropOldest_40 (fun H hst ow1 zw1 => ?_)
  have hro := va_at.kept hro (ow1 b (by omega))
  have hhi := va_at.kept hhi (ow1 (b + 64) (by omega))
  have hdk := fun j (hj : j < 7) => (hdk j hj).off ow1 (by have := adr_in j hj; unfold iv; omega)
  refine y_aload_n C 2 dX3_dropOldest_41 rfl rfl ?_
  refine y_iconst C (3) dX3_dropOldest_42 (by decide) ?_
  refine y_put3 C hhi (ivm 64 (by decide)) 0 (by decide) q81 rfl rfl (ty := .int) (by decide +kernel) rfl rfl (Nat.le_of_ble_eq_true rfl) dX3_dropOldest_43 (fun H hw1 ow1 zw1 => ?_)
  have hro := va_at.kept hro (ow1 b (by omega))
  have hst := va_at.kept hst (ow1 (b + 65) (by omega))
  have hdk := fun j (hj : j < 7) => (hdk j hj).off ow1 (by have := adr_in j hj; unfold iv; omega)
  exact y_vret C hr ⟨hro, hw1, staC_same hst (sta_rot b r), hdk⟩ dX3_dropOldest_46
def rm_X3_record : Room := { frames := 3, cells := 0, slots := 0, locals := 60 }
set_option maxRecDepth 100000 in
set_option maxHeartbeats 4000000 in
theorem c_X3_record (g : KG) (B0 : Nat) (l : Launch) (b : Nat) (hsn : Int32) (hm r : Nat) (dv : Nat → DV) (hm4 : hm ≤ 4) : Mt g B0 l yX3_record cX3_record 2 none rm_X3_record [.ref (b + 64), .ref (b + 1)] (iv b 152) (sys g b hsn hm r dv) none (sys g b hsn (rcM hm) (rcR hm r) (rcD hm r dv)) 0 0 := by
  refine Mt_of RX3 (by decide) rfl [(0, .ref (b + 64)), (1, .ref (b + 1))] rfl (Nat.le_of_ble_eq_true rfl) ?_
  intro pr e s m args below meth c C hr hin hd
  have hs := hd
  rcases Nat.lt_or_ge hm 4 with hq | hq
  · refine y_aload_n C 0 dX3_record_0 rfl rfl ?_
    refine y_get3 C hs.2.1 0 (by decide) q81 rfl rfl dX3_record_1 ?_
    refine y_iconst C (4) dX3_record_4 (by decide) ?_
    refine y_icmp_lt C 12 dX3_record_5 (by decide) (fun _ => ?_) (fun h => absurd (lt_t rfl rfl hq (by decide)) h)
    refine y_aload_n C 0 dX3_record_12 rfl rfl ?_
    refine y_get3 C hs.2.1 1 (by decide) q83 rfl rfl dX3_record_13 ?_
    refine y_aload_n C 0 dX3_record_16 rfl rfl ?_
    refine y_get3 C hs.2.1 0 (by decide) q81 rfl rfl dX3_record_17 ?_
    refine y_aald C hs.2.2.1 hm rfl hq (by decide) (v := .ref (b + adr (3 + (r + hm) % 4))) rfl dX3_record_20 ?_
    refine y_aload_n C 1 dX3_record_21 rfl rfl ?_
    refine y_callV C [.ref (b + 1)] (c_X2_copyFrom g B0 l (b + adr (3 + (r + hm) % 4)) (b + adr 0) (dv (3 + (r + hm) % 4)) (dv 0) (adr_no (by first | decide | omega) (by first | decide | omega) (by omega))) RX2 1 (wVin q278 q145 q146 q11 q147) hy_X2_copyFrom ⟨(Nat.le_of_ble_eq_true rfl), (Nat.le_of_ble_eq_true rfl)⟩ ⟨rfl, rfl⟩ (rcv C.2.2.2.2.2.1 (dk_0 (hs.2.2.2 (3 + (r + hm) % 4) (by first | decide | omega))) rfl) ⟨hs.2.2.2 (3 + (r + hm) % 4) (by first | decide | omega), hs.2.2.2 0 (by first | decide | omega)⟩ (adr_iv (by first | decide | omega)) rfl rfl (Nat.le_of_ble_eq_true rfl) dX3_record_22 ⟨(Nat.le_of_ble_eq_true rfl), (Nat.le_of_ble_eq_true rfl)⟩ rfl (fun H hp hz hf => ?_)
    have hs := hs.put (3 + (r + hm) % 4) (by first | decide | omega) hp.1 hf
    refine y_aload_n C 0 dX3_record_25 rfl rfl ?_
    refine y_dup C dX3_record_26 rfl ?_
    refine y_get3 C hs.2.1 0 (by decide) q81 rfl rfl dX3_record_27 ?_
    refine y_iconst C (1) dX3_record_30 (by decide) ?_
    refine y_iadd C dX3_record_31 ?_
    refine y_top (nI_1 _) ?_
    refine y_put3 C hs.2.1 (ivm 64 (by decide)) 0 (by decide) q81 rfl rfl (ty := .int) (by decide +kernel) rfl rfl (Nat.le_of_ble_eq_true rfl) dX3_record_32 (fun H hw1 ow1 zw1 => ?_)
    have hs := hs.many (hm1 := (hm + 1)) hw1 ow1
    exact y_vret C hr (by rw [rcM, rcR, rcD, if_pos hq, if_pos hq, if_pos hq]; exact hs) dX3_record_35
  · refine y_aload_n C 0 dX3_record_0 rfl rfl ?_
    refine y_get3 C hs.2.1 0 (by decide) q81 rfl rfl dX3_record_1 ?_
    refine y_iconst C (4) dX3_record_4 (by decide) ?_
    refine y_icmp_lt C 12 dX3_record_5 (by decide) (fun h => absurd h (lt_f rfl rfl hq (by omega))) (fun _ => ?_)
    refine y_aload_n C 0 dX3_record_8 rfl rfl ?_
    refine y_callV C [] (c_X3_dropOldest g B0 l b hsn hm r dv) RX3 0 (wVin q274 q275 q276 q18 q277) hy_X3_dropOldest ⟨(Nat.le_of_ble_eq_true rfl), (Nat.le_of_ble_eq_true rfl)⟩ ⟨rfl, rfl⟩ (rcv C.2.2.2.2.2.1 hs.2.1 rfl) hs (fun _ h => h) rfl rfl (Nat.le_of_ble_eq_true rfl) dX3_record_9 ⟨(Nat.le_of_ble_eq_true rfl), (Nat.le_of_ble_eq_true rfl)⟩ rfl (fun H hp hz hf => ?_)
    have hs := hp
    refine y_aload_n C 0 dX3_record_12 rfl rfl ?_
    refine y_get3 C hs.2.1 1 (by decide) q83 rfl rfl dX3_record_13 ?_
    refine y_aload_n C 0 dX3_record_16 rfl rfl ?_
    refine y_get3 C hs.2.1 0 (by decide) q81 rfl rfl dX3_record_17 ?_
    refine y_aald C hs.2.2.1 3 rfl (by decide) (by decide) (v := .ref (b + adr (3 + (((r + 1) % 4) + 3) % 4))) rfl dX3_record_20 ?_
    refine y_aload_n C 1 dX3_record_21 rfl rfl ?_
    refine y_callV C [.ref (b + 1)] (c_X2_copyFrom g B0 l (b + adr (3 + (((r + 1) % 4) + 3) % 4)) (b + adr 0) (dv (3 + (((r + 1) % 4) + 3) % 4)) (dv 0) (adr_no (by first | decide | omega) (by first | decide | omega) (by omega))) RX2 1 (wVin q278 q145 q146 q11 q147) hy_X2_copyFrom ⟨(Nat.le_of_ble_eq_true rfl), (Nat.le_of_ble_eq_true rfl)⟩ ⟨rfl, rfl⟩ (rcv C.2.2.2.2.2.1 (dk_0 (hs.2.2.2 (3 + (((r + 1) % 4) + 3) % 4) (by first | decide | omega))) rfl) ⟨hs.2.2.2 (3 + (((r + 1) % 4) + 3) % 4) (by first | decide | omega), hs.2.2.2 0 (by first | decide | omega)⟩ (adr_iv (by first | decide | omega)) rfl rfl (Nat.le_of_ble_eq_true rfl) dX3_record_22 ⟨(Nat.le_of_ble_eq_true rfl), (Nat.le_of_ble_eq_true rfl)⟩ rfl (fun H hp hz hf => ?_)
    have hs := hs.put (3 + (((r + 1) % 4) + 3) % 4) (by first | decide | omega) hp.1 hf
    refine y_aload_n C 0 dX3_record_25 rfl rfl ?_
    refine y_dup C dX3_record_26 rfl ?_
    refine y_get3 C hs.2.1 0 (by decide) q81 rfl rfl dX3_record_27 ?_
    refine y_iconst C (1) dX3_record_30 (by decide) ?_
    refine y_iadd C dX3_record_31 ?_
    refine y_top (nI_1 _) ?_
    refine y_put3 C hs.2.1 (ivm 64 (by decide)) 0 (by decide) q81 rfl rfl (ty := .int) (by decide +kernel) rfl rfl (Nat.le_of_ble_eq_true rfl) dX3_record_32 (fun H hw1 ow1 zw1 => ?_)
    have hs := hs.many (hm1 := (3 + 1)) hw1 ow1
    exact y_vret C hr (by rw [rcM, rcR, rcD, if_neg (Nat.not_lt.mpr hq), if_neg (Nat.not_lt.mpr hq), if_neg (Nat.not_lt.mpr hq)]; exact hs) dX3_record_35
def rm_X3_giveBack : Room := { frames := 3, cells := 0, slots := 0, locals := 60 }
set_option maxRecDepth 100000 in
set_option maxHeartbeats 4000000 in
theorem c_X3_giveBack (g : KG) (B0 : Nat) (l : Launch) (b : Nat) (hsn : Int32) (hm r : Nat) (dv : Nat → DV) (hm4 : hm ≤ 4) (hm0 : 0 < hm) : Mt g B0 l yX3_giveBack cX3_giveBack 2 none rm_X3_giveBack [.ref (b + 64), .ref (b + 1)] (iv b 152) (sys g b hsn hm r dv) none (sys g b hsn (hm - 1) r (va_up dv 0 (dv (3 + (r + (hm - 1)) % 4)))) 0 0 := by
  refine Mt_of RX3 (by decide) rfl [(0, .ref (b + 64)), (1, .ref (b + 1))] rfl (Nat.le_of_ble_eq_true rfl) ?_
  intro pr e s m args below meth c C hr hin hd
  have hs := hd
  refine y_aload_n C 0 dX3_giveBack_0 rfl rfl ?_
  refine y_get3 C hs.2.1 0 (by decide) q81 rfl rfl dX3_giveBack_1 ?_
  refine y_if_gt C 8 dX3_giveBack_4 (by decide) (fun _ => ?_) (fun h => absurd (nI_lt hm0 (by omega)) h)
  refine y_aload_n C 0 dX3_giveBack_8 rfl rfl ?_
  refine y_dup C dX3_giveBack_9 rfl ?_
  refine y_get3 C hs.2.1 0 (by decide) q81 rfl rfl dX3_giveBack_10 ?_
  refine y_iconst C (1) dX3_giveBack_13 (by decide) ?_
  refine y_isub C dX3_giveBack_14 ?_
  refine y_top (show nI hm - 1 = nI (hm - 1) from pk_sub (b := 1) hm0) ?_
  refine y_put3 C hs.2.1 (ivm 64 (by decide)) 0 (by decide) q81 rfl rfl (ty := .int) (by decide +kernel) rfl rfl (Nat.le_of_ble_eq_true rfl) dX3_giveBack_15 (fun H hw1 ow1 zw1 => ?_)
  have hs := hs.many (hm1 := (hm - 1)) hw1 ow1
  refine y_aload_n C 1 dX3_giveBack_18 rfl rfl ?_
  refine y_aload_n C 0 dX3_giveBack_19 rfl rfl ?_
  refine y_get3 C hs.2.1 1 (by decide) q83 rfl rfl dX3_giveBack_20 ?_
  refine y_aload_n C 0 dX3_giveBack_23 rfl rfl ?_
  refine y_get3 C hs.2.1 0 (by decide) q81 rfl rfl dX3_giveBack_24 ?_
  refine y_aald C hs.2.2.1 (hm - 1) rfl (by omega) (by decide) (v := .ref (b + adr (3 + (r + (hm - 1)) % 4))) rfl dX3_giveBack_27 ?_
  refine y_callV C [.ref (b + adr (3 + (r + (hm - 1)) % 4))] (c_X2_copyFrom g B0 l (b + adr 0) (b + adr (3 + (r + (hm - 1)) % 4)) (dv 0) (dv (3 + (r + (hm - 1)) % 4)) (adr_no (by first | decide | omega) (by first | decide | omega) (by omega))) RX2 1 (wVin q278 q145 q146 q11 q147) hy_X2_copyFrom ⟨(Nat.le_of_ble_eq_true rfl), (Nat.le_of_ble_eq_true rfl)⟩ ⟨rfl, rfl⟩ (rcv C.2.2.2.2.2.1 (dk_0 (hs.2.2.2 0 (by first | decide | omega))) rfl) ⟨hs.2.2.2 0 (by first | decide | omega), hs.2.2.2 (3 + (r + (hm - 1)) % 4) (by first | decide | omega)⟩ (adr_iv (by first | decide | omega)) rfl rfl (Nat.le_of_ble_eq_true rfl) dX3_giveBack_28 ⟨(Nat.le_of_ble_eq_true rfl), (Nat.le_of_ble_eq_true rfl)⟩ rfl (fun H hp hz hf => ?_)
  have hs := hs.put 0 (by first | decide | omega) hp.1 hf
  exact y_vret C hr hs dX3_giveBack_31
