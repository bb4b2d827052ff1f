/-! THE CLASS: its calls over the whole -/
abbrev SV : Type := Int32 × Nat × Nat × (Nat → DV)
def sX (g : KG) (b : Nat) (X : SV) (H : Heap) : Prop := sys g b X.1 X.2.1 X.2.2.1 X.2.2.2 H
def sv (X : SV) : Prop := X.2.1 ≤ 4 ∧ ∀ j, j < 7 → sf (X.2.2.2 j) ∧ fr (X.2.2.2 j)
/-- the whole without its j-th desk -/
def sysO (j : Nat) (g : KG) (b : Nat) (X : SV) (H : Heap) : Prop :=
  cA1 g b (rooC b X.1) H ∧ cA1 g (b + 64) (hisC b X.2.1) H ∧ cA1 g (b + 65) (staC g (sta b X.2.2.1)) H ∧ ∀ i, i < 7 → i ≠ j → dk g (b + adr i) (X.2.2.2 i) H
theorem sX.d {g : KG} {b : Nat} {X : SV} {H : Heap} (h : sX g b X H) (j : Nat) (hj : j < 7) : dk g (b + adr j) (X.2.2.2 j) H := h.2.2.2 j hj
theorem sX.d0 {g : KG} {b : Nat} {X : SV} {H : Heap} (h : sX g b X H) : dk g (b + 1) (X.2.2.2 0) H := h.2.2.2 0 (by decide)
theorem sX.d1 {g : KG} {b : Nat} {X : SV} {H : Heap} (h : sX g b X H) : dk g (b + 22) (X.2.2.2 1) H := h.2.2.2 1 (by decide)
theorem sX.d2 {g : KG} {b : Nat} {X : SV} {H : Heap} (h : sX g b X H) : dk g (b + 43) (X.2.2.2 2) H := h.2.2.2 2 (by decide)
theorem sX.ex {g : KG} {b : Nat} {X : SV} {H : Heap} (j : Nat) (h : sX g b X H) : sysO j g b X H := ⟨h.1, h.2.1, h.2.2.1, fun i hi _ => h.2.2.2 i hi⟩
theorem sysO.cl {g : KG} {b : Nat} {X : SV} {H : Heap} {j : Nat} (h : sysO j g b X H) (hd : dk g (b + adr j) (X.2.2.2 j) H) : sX g b X H := ⟨h.1, h.2.1, h.2.2.1, fun i hi => if e : i = j then e ▸ hd else h.2.2.2 i hi e⟩
theorem sysO.cl0 {g : KG} {b : Nat} {X : SV} {H : Heap} (h : sysO 0 g b X H) (hd : dk g (b + 1) (X.2.2.2 0) H) : sX g b X H := h.cl hd
def stJ (j : Nat) (X : SV) (d : DV) : SV := (X.1, X.2.1, X.2.2.1, va_up X.2.2.2 j d)
theorem sysO.clJ {g : KG} {b : Nat} {X : SV} {H : Heap} {j : Nat} {d : DV} (h : sysO j g b X H) (hd : dk g (b + adr j) d H) : sX g b (stJ j X d) H := ⟨h.1, h.2.1, h.2.2.1, fun i hi => by
  show dk g (b + adr i) (va_up X.2.2.2 j d i) H
  unfold va_up
  by_cases e : i = j
  · rw [if_pos e, e]; exact hd
  · rw [if_neg e]; exact h.2.2.2 i hi e⟩
theorem sysO.fr {g : KG} {b : Nat} {X : SV} {H H1 : Heap} {j : Nat} (hj : j < 7) (h : sysO j g b X H) {A1 : Nat → Prop} (hf : ∀ q : Nat, q < H.size → ¬ A1 q → H1[q]? = H[q]?) (hA : ∀ q, A1 q → iv (b + adr j) 21 q) : sysO j g b X H1 := by
  have ha := adr_in j hj
  refine ⟨h.1.kept (hf b h.1.lt (fun z => by have := hA _ z; unfold iv at this; omega)), h.2.1.kept (hf (b + 64) h.2.1.lt (fun z => by have := hA _ z; unfold iv at this; omega)), h.2.2.1.kept (hf (b + 65) h.2.2.1.lt (fun z => by have := hA _ z; unfold iv at this; omega)), fun i hi e => ?_⟩
  refine (h.2.2.2 i hi e).kept (fun q hz => hf q ?_ (fun z => adr_no hi hj e q hz (hA q z)))
  have l1 := (h.2.2.2 i hi e).lt
  unfold iv at hz
  omega
theorem sysO.off {g : KG} {b x : Nat} {X : SV} {H H1 : Heap} {j : Nat} (hj : j < 7) (h : sysO j g b X H) (o : ∀ q : Nat, q ≠ x → H1[q]? = H[q]?) (hx : iv (b + adr j) 21 x) : sysO j g b X H1 := h.fr hj (A1 := iv (b + adr j) 21) (fun q _ hz => o q (fun e => hz (e ▸ hx))) (fun _ z => z)
def dsk (X : SV) : DV := X.2.2.2 0
def rcX (X : SV) : SV := (X.1, rcM X.2.1, rcR X.2.1 X.2.2.1, rcD X.2.1 X.2.2.1 X.2.2.2)
def acX (X : SV) (d : DV) : SV := stJ 0 (rcX X) d
theorem rcD_0 (hm r : Nat) (dv : Nat → DV) (j : Nat) (hj : j < 3) : rcD hm r dv j = dv j := by
  unfold rcD va_up
  split
  · exact if_neg (by omega)
  · exact if_neg (by omega)
theorem rcX_0 {g : KG} {b : Nat} {X : SV} {H : Heap} (h : sX g b (rcX X) H) : dk g (b + 1) (X.2.2.2 0) H := by
  have h0 := h.d0
  rw [show (rcX X).2.2.2 0 = X.2.2.2 0 from rcD_0 _ _ _ 0 (by decide)] at h0
  exact h0
def ixf (v n : Int32) : Int32 := if v < 0 then 0 else if n ≤ v then 0 else 1
def wif (v lo hi : Int32) : Int32 := if v < lo then 0 else if hi < v then 0 else 1
theorem ixf_t {k n : Nat} (h : k < n) (hn : n < 2 ^ 31) : ¬ ixf (nI k) (nI n) = 0 := by
  unfold ixf
  rw [if_neg (nI_pos (Nat.lt_trans h hn)), if_neg (nI_ge h hn)]
  decide
theorem ixf_f {k n : Nat} (h : n ≤ k) (hk : k < 2 ^ 31) : ixf (nI k) (nI n) = 0 := by
  unfold ixf
  rw [if_neg (nI_pos hk), if_pos (nI_le h hk)]
theorem ixf_lt {k n : Nat} (hk : k < 2 ^ 31) (h : ¬ ixf (nI k) (nI n) = 0) : k < n := Nat.lt_of_not_le (fun z => h (ixf_f z hk))
theorem wif_t {k lo hi : Nat} (h1 : lo ≤ k) (h2 : k ≤ hi) (hh : hi < 2 ^ 31) : ¬ wif (nI k) (nI lo) (nI hi) = 0 := by
  unfold wif
  rw [if_neg (nI_nlt h1 (by omega)), if_neg (nI_nlt h2 hh)]
  decide
def isS (X : SV) (k : Nat) : Int32 := ixf (nI k) ((dsk X).1 11 0)
theorem isS_lt {X : SV} (hv : sv X) {k : Nat} (hk : k < 2 ^ 31) (h : ¬ isS X k = 0) : k < nm (dsk X) := by
  unfold isS at h
  have e : (dsk X).1 11 0 = nI (nm (dsk X)) := (hv.2 0 (by decide)).1.2.1.1
  rw [e] at h
  exact ixf_lt hk h
theorem isS_t {X : SV} (hv : sv X) {k : Nat} (h : k < nm (dsk X)) : ¬ isS X k = 0 := by
  unfold isS
  have e : (dsk X).1 11 0 = nI (nm (dsk X)) := (hv.2 0 (by decide)).1.2.1.1
  have e2 : nm (dsk X) ≤ 20 := (hv.2 0 (by decide)).1.2.1.2
  rw [e]
  exact ixf_t h (by omega)
def rm_X6_isIndex : Room := { frames := 0, cells := 0, slots := 0, locals := 0 }
set_option maxRecDepth 100000 in
set_option maxHeartbeats 4000000 in
theorem c_X6_isIndex (g : KG) (B0 : Nat) (l : Launch) (v n : Int32) : Mt g B0 l yX6_isIndex cX6_isIndex 2 (some .boolean) rm_X6_isIndex [.int v, .int n] nF (fun _ => True) (some (.int (ixf v n))) (fun _ => True) 0 0 := by
  refine Mt_of RX6 (by decide) rfl [(0, .int v), (1, .int n)] rfl (Nat.le_of_ble_eq_true rfl) ?_
  intro pr e s m args below meth c C hr hin hd
  refine y_iload_n C 0 dX6_isIndex_0 rfl rfl ?_
  refine y_if_lt C 13 dX6_isIndex_1 (by decide) (fun h1 => ?_) (fun h1 => ?_)
  · refine y_iconst C (0) dX6_isIndex_13 (by decide) ?_
    exact y_zret C hr (by first | exact Or.inl rfl | exact Or.inr rfl) (by first | (rw [ixf, if_neg h1]; done) | (rw [ixf, if_pos h1]; done) | (rw [ixf]; done)) trivial dX6_isIndex_14
  · refine y_iload_n C 0 dX6_isIndex_4 rfl rfl ?_
    refine y_iload_n C 1 dX6_isIndex_5 rfl rfl ?_
    refine y_icmp_ge C 13 dX6_isIndex_6 (by decide) (fun h2 => ?_) (fun h2 => ?_)
    · refine y_iconst C (0) dX6_isIndex_13 (by decide) ?_
      exact y_zret C hr (by first | exact Or.inl rfl | exact Or.inr rfl) (by first | (rw [ixf, if_neg h1, if_neg h2]; done) | (rw [ixf, if_neg h1, if_pos h2]; done) | (rw [ixf, if_pos h1, if_neg h2]; done) | (rw [ixf, if_pos h1, if_pos h2]; done) | (rw [ixf, if_neg h1]; done) | (rw [ixf, if_pos h1]; done) | (rw [ixf]; done)) trivial dX6_isIndex_14
    · refine y_iconst C (1) dX6_isIndex_9 (by decide) ?_
      refine y_goto C 14 dX6_isIndex_10 (by decide) ?_
      exact y_zret C hr (by first | exact Or.inl rfl | exact Or.inr rfl) (by first | (rw [ixf, if_neg h1, if_neg h2]; done) | (rw [ixf, if_neg h1, if_pos h2]; done) | (rw [ixf, if_pos h1, if_neg h2]; done) | (rw [ixf, if_pos h1, if_pos h2]; done) | (rw [ixf, if_neg h1]; done) | (rw [ixf, if_pos h1]; done) | (rw [ixf]; done)) trivial dX6_isIndex_14
def rm_X6_isWithin : Room := { frames := 0, cells := 0, slots := 0, locals := 0 }
set_option maxRecDepth 100000 in
set_option maxHeartbeats 4000000 in
theorem c_X6_isWithin (g : KG) (B0 : Nat) (l : Launch) (v lo hi : Int32) : Mt g B0 l yX6_isWithin cX6_isWithin 3 (some .boolean) rm_X6_isWithin [.int v, .int lo, .int hi] nF (fun _ => True) (some (.int (wif v lo hi))) (fun _ => True) 0 0 := by
  refine Mt_of RX6 (by decide) rfl [(0, .int v), (1, .int lo), (2, .int hi)] rfl (Nat.le_of_ble_eq_true rfl) ?_
  intro pr e s m args below meth c C hr hin hd
  refine y_iload_n C 0 dX6_isWithin_0 rfl rfl ?_
  refine y_iload_n C 1 dX6_isWithin_1 rfl rfl ?_
  refine y_icmp_lt C 14 dX6_isWithin_2 (by decide) (fun h1 => ?_) (fun h1 => ?_)
  · refine y_iconst C (0) dX6_isWithin_14 (by decide) ?_
    exact y_zret C hr (by first | exact Or.inl rfl | exact Or.inr rfl) (by first | (rw [wif, if_neg h1]; done) | (rw [wif, if_pos h1]; done) | (rw [wif]; done)) trivial dX6_isWithin_15
  · refine y_iload_n C 0 dX6_isWithin_5 rfl rfl ?_
    refine y_iload_n C 2 dX6_isWithin_6 rfl rfl ?_
    refine y_icmp_gt C 14 dX6_isWithin_7 (by decide) (fun h2 => ?_) (fun h2 => ?_)
    · refine y_iconst C (0) dX6_isWithin_14 (by decide) ?_
      exact y_zret C hr (by first | exact Or.inl rfl | exact Or.inr rfl) (by first | (rw [wif, if_neg h1, if_neg h2]; done) | (rw [wif, if_neg h1, if_pos h2]; done) | (rw [wif, if_pos h1, if_neg h2]; done) | (rw [wif, if_pos h1, if_pos h2]; done) | (rw [wif, if_neg h1]; done) | (rw [wif, if_pos h1]; done) | (rw [wif]; done)) trivial dX6_isWithin_15
    · refine y_iconst C (1) dX6_isWithin_10 (by decide) ?_
      refine y_goto C 15 dX6_isWithin_11 (by decide) ?_
      exact y_zret C hr (by first | exact Or.inl rfl | exact Or.inr rfl) (by first | (rw [wif, if_neg h1, if_neg h2]; done) | (rw [wif, if_neg h1, if_pos h2]; done) | (rw [wif, if_pos h1, if_neg h2]; done) | (rw [wif, if_pos h1, if_pos h2]; done) | (rw [wif, if_neg h1]; done) | (rw [wif, if_pos h1]; done) | (rw [wif]; done)) trivial dX6_isWithin_15
def rm_X6_isSet : Room := { frames := 1, cells := 0, slots := 0, locals := 21 }
set_option maxRecDepth 100000 in
set_option maxHeartbeats 4000000 in
theorem c_X6_isSet (g : KG) (B0 : Nat) (l : Launch) (b : Nat) (X : SV) (hv : sv X) (k : Nat) : Mt g B0 l yX6_isSet cX6_isSet 2 (some .boolean) rm_X6_isSet [.ref b, .int (nI k)] (iv b 152) (sX g b X) (some (.int (isS X k))) (sX g b X) 0 0 := by
  refine Mt_of RX6 (by decide) rfl [(0, .ref b), (1, .int (nI k))] rfl (Nat.le_of_ble_eq_true rfl) ?_
  intro pr e s m args below meth c C hr hin hd
  have hO := hd.ex 0
  have h0 := hd.d0
  refine y_iload_n C 1 dX6_isSet_0 rfl rfl ?_
  refine y_aload_n C 0 dX6_isSet_1 rfl rfl ?_
  refine y_get6 C hO.1 0 (by decide) q12 rfl rfl dX6_isSet_2 ?_
  refine y_get2 C (dk_0 h0) 4 (by decide) q96 rfl rfl dX6_isSet_5 ?_
  refine y_get4 C (dk_11 h0) 0 (by decide) q98 rfl rfl dX6_isSet_8 ?_
  refine y_callS C [.int (nI k), .int ((X.2.2.2 0).1 11 0)] (c_X6_isIndex g B0 l (nI k) ((X.2.2.2 0).1 11 0)) 2 (wSin q141 q142 q2 q143) hs_X6_isIndex ⟨(Nat.le_of_ble_eq_true rfl), (Nat.le_of_ble_eq_true rfl)⟩ ⟨rfl, rfl⟩ trivial nF.no rfl rfl (Nat.le_of_ble_eq_true rfl) dX6_isSet_11 ⟨(Nat.le_of_ble_eq_true rfl), (Nat.le_of_ble_eq_true rfl)⟩ rfl (fun H hp hz hf => ?_)
  have h0 := h0.fr hf (fun _ _ z => z)
  have hO := hO.fr (j := 0) (by decide) hf nF.no
  exact y_zret C hr (by unfold ixf; split; exact Or.inl rfl; split; exact Or.inl rfl; exact Or.inr rfl) rfl (hO.cl0 h0) dX6_isSet_14
