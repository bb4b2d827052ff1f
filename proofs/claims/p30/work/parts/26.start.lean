/-! THE START: what the Statement gives of it -/
set_option maxRecDepth 100000 in
theorem tw_st43 : (Cond.fieldLinkNest "SetRepairs$Store" 43 "SetRepairs" "PARTS_OF_FAULT" "[I" "SetRepairs" : Cond) ∈ lw_tbl := List.mem_of_getElem? (i := 318) rfl
set_option maxRecDepth 100000 in
theorem tw_de68 : (Cond.fieldLinkNest "SetRepairs$Desk" 68 "SetRepairs" "HOURS_OF_FAULT" "[I" "SetRepairs" : Cond) ∈ lw_tbl := List.mem_of_getElem? (i := 332) rfl
set_option maxRecDepth 100000 in
theorem tw_de43 : (Cond.methodLinkNest "SetRepairs$Desk" 43 yX1_init "SetRepairs" : Cond) ∈ lw_tbl := List.mem_of_getElem? (i := 132) rfl
set_option maxRecDepth 100000 in
theorem tw_ao : (Cond.arrayOver (.object "SetRepairs$Desk") : Cond) ∈ lw_tbl := List.mem_of_getElem? (i := 199) rfl
set_option maxRecDepth 100000 in
theorem tw_PARTS_OF_FAULT : (Cond.laysStatic "SetRepairs" "PARTS_OF_FAULT" "[I" : Cond) ∈ lw_tbl := List.mem_of_getElem? (i := 319) rfl
set_option maxRecDepth 100000 in
theorem tw_HOURS_OF_FAULT : (Cond.laysStatic "SetRepairs" "HOURS_OF_FAULT" "[I" : Cond) ∈ lw_tbl := List.mem_of_getElem? (i := 333) rfl
set_option maxRecDepth 100000 in
theorem tw_LOWEST_NUMBER : (Cond.laysStatic "SetRepairs" "LOWEST_NUMBER" "[I" : Cond) ∈ lw_tbl := List.mem_of_getElem? (i := 519) rfl
set_option maxRecDepth 100000 in
theorem tw_HIGHEST_NUMBER : (Cond.laysStatic "SetRepairs" "HIGHEST_NUMBER" "[I" : Cond) ∈ lw_tbl := List.mem_of_getElem? (i := 521) rfl
set_option maxRecDepth 100000 in
theorem tw_LOWEST_RATE_BITS : (Cond.laysStatic "SetRepairs" "LOWEST_RATE_BITS" "[I" : Cond) ∈ lw_tbl := List.mem_of_getElem? (i := 529) rfl
set_option maxRecDepth 100000 in
theorem tw_HIGHEST_RATE_BITS : (Cond.laysStatic "SetRepairs" "HIGHEST_RATE_BITS" "[I" : Cond) ∈ lw_tbl := List.mem_of_getElem? (i := 531) rfl
set_option maxRecDepth 100000 in
set_option maxHeartbeats 4000000 in
theorem sg_PARTS_OF_FAULT {s : State} {b : Nat} (hl : (Cond.laysStatic "SetRepairs" "PARTS_OF_FAULT" "[I").before #[Value.ref b] s = true) (hini : (Cond.initialized "SetRepairs").before #[Value.ref b] s = true) (hs : ∀ c ∈ flatC (Jvm.Cond.and given_1 narrow_1), c.before #[Value.ref b] s = true) : stA s.heap.size "PARTS_OF_FAULT" 30 tPF s s.heap := by
  have hA : ∀ a : Nat, a < s.heap.size → ¬ (fun q : Nat => s.heap.size ≤ q) a := fun a h z => Nat.lt_irrefl _ (Nat.lt_of_lt_of_le h z)
  have harr : (Cond.arrayOf (.static "SetRepairs" "PARTS_OF_FAULT" "[I") .int).before #[Value.ref b] s = true := hs _ (by decide +kernel)
  have hlen : (Cond.eq (.length (.static "SetRepairs" "PARTS_OF_FAULT" "[I")) (.int 30)).before #[Value.ref b] s = true := hs _ (by decide +kernel)
  have h0 : (Cond.eq (.elem (.static "SetRepairs" "PARTS_OF_FAULT" "[I") (.int 0)) (.int 1)).before #[Value.ref b] s = true := hs _ (by decide +kernel)
  have h1 : (Cond.eq (.elem (.static "SetRepairs" "PARTS_OF_FAULT" "[I") (.int 1)) (.int 0)).before #[Value.ref b] s = true := hs _ (by decide +kernel)
  have h2 : (Cond.eq (.elem (.static "SetRepairs" "PARTS_OF_FAULT" "[I") (.int 2)) (.int 0)).before #[Value.ref b] s = true := hs _ (by decide +kernel)
  have h3 : (Cond.eq (.elem (.static "SetRepairs" "PARTS_OF_FAULT" "[I") (.int 3)) (.int 0)).before #[Value.ref b] s = true := hs _ (by decide +kernel)
  have h4 : (Cond.eq (.elem (.static "SetRepairs" "PARTS_OF_FAULT" "[I") (.int 4)) (.int 0)).before #[Value.ref b] s = true := hs _ (by decide +kernel)
  have h5 : (Cond.eq (.elem (.static "SetRepairs" "PARTS_OF_FAULT" "[I") (.int 5)) (.int 0)).before #[Value.ref b] s = true := hs _ (by decide +kernel)
  have h6 : (Cond.eq (.elem (.static "SetRepairs" "PARTS_OF_FAULT" "[I") (.int 6)) (.int 0)).before #[Value.ref b] s = true := hs _ (by decide +kernel)
  have h7 : (Cond.eq (.elem (.static "SetRepairs" "PARTS_OF_FAULT" "[I") (.int 7)) (.int 1)).before #[Value.ref b] s = true := hs _ (by decide +kernel)
  have h8 : (Cond.eq (.elem (.static "SetRepairs" "PARTS_OF_FAULT" "[I") (.int 8)) (.int 0)).before #[Value.ref b] s = true := hs _ (by decide +kernel)
  have h9 : (Cond.eq (.elem (.static "SetRepairs" "PARTS_OF_FAULT" "[I") (.int 9)) (.int 0)).before #[Value.ref b] s = true := hs _ (by decide +kernel)
  have h10 : (Cond.eq (.elem (.static "SetRepairs" "PARTS_OF_FAULT" "[I") (.int 10)) (.int 0)).before #[Value.ref b] s = true := hs _ (by decide +kernel)
  have h11 : (Cond.eq (.elem (.static "SetRepairs" "PARTS_OF_FAULT" "[I") (.int 11)) (.int 0)).before #[Value.ref b] s = true := hs _ (by decide +kernel)
  have h12 : (Cond.eq (.elem (.static "SetRepairs" "PARTS_OF_FAULT" "[I") (.int 12)) (.int 0)).before #[Value.ref b] s = true := hs _ (by decide +kernel)
  have h13 : (Cond.eq (.elem (.static "SetRepairs" "PARTS_OF_FAULT" "[I") (.int 13)) (.int 0)).before #[Value.ref b] s = true := hs _ (by decide +kernel)
  have h14 : (Cond.eq (.elem (.static "SetRepairs" "PARTS_OF_FAULT" "[I") (.int 14)) (.int 2)).before #[Value.ref b] s = true := hs _ (by decide +kernel)
  have h15 : (Cond.eq (.elem (.static "SetRepairs" "PARTS_OF_FAULT" "[I") (.int 15)) (.int 0)).before #[Value.ref b] s = true := hs _ (by decide +kernel)
  have h16 : (Cond.eq (.elem (.static "SetRepairs" "PARTS_OF_FAULT" "[I") (.int 16)) (.int 0)).before #[Value.ref b] s = true := hs _ (by decide +kernel)
  have h17 : (Cond.eq (.elem (.static "SetRepairs" "PARTS_OF_FAULT" "[I") (.int 17)) (.int 0)).before #[Value.ref b] s = true := hs _ (by decide +kernel)
  have h18 : (Cond.eq (.elem (.static "SetRepairs" "PARTS_OF_FAULT" "[I") (.int 18)) (.int 0)).before #[Value.ref b] s = true := hs _ (by decide +kernel)
  have h19 : (Cond.eq (.elem (.static "SetRepairs" "PARTS_OF_FAULT" "[I") (.int 19)) (.int 0)).before #[Value.ref b] s = true := hs _ (by decide +kernel)
  have h20 : (Cond.eq (.elem (.static "SetRepairs" "PARTS_OF_FAULT" "[I") (.int 20)) (.int 0)).before #[Value.ref b] s = true := hs _ (by decide +kernel)
  have h21 : (Cond.eq (.elem (.static "SetRepairs" "PARTS_OF_FAULT" "[I") (.int 21)) (.int 1)).before #[Value.ref b] s = true := hs _ (by decide +kernel)
  have h22 : (Cond.eq (.elem (.static "SetRepairs" "PARTS_OF_FAULT" "[I") (.int 22)) (.int 1)).before #[Value.ref b] s = true := hs _ (by decide +kernel)
  have h23 : (Cond.eq (.elem (.static "SetRepairs" "PARTS_OF_FAULT" "[I") (.int 23)) (.int 0)).before #[Value.ref b] s = true := hs _ (by decide +kernel)
  have h24 : (Cond.eq (.elem (.static "SetRepairs" "PARTS_OF_FAULT" "[I") (.int 24)) (.int 0)).before #[Value.ref b] s = true := hs _ (by decide +kernel)
  have h25 : (Cond.eq (.elem (.static "SetRepairs" "PARTS_OF_FAULT" "[I") (.int 25)) (.int 0)).before #[Value.ref b] s = true := hs _ (by decide +kernel)
  have h26 : (Cond.eq (.elem (.static "SetRepairs" "PARTS_OF_FAULT" "[I") (.int 26)) (.int 0)).before #[Value.ref b] s = true := hs _ (by decide +kernel)
  have h27 : (Cond.eq (.elem (.static "SetRepairs" "PARTS_OF_FAULT" "[I") (.int 27)) (.int 0)).before #[Value.ref b] s = true := hs _ (by decide +kernel)
  have h28 : (Cond.eq (.elem (.static "SetRepairs" "PARTS_OF_FAULT" "[I") (.int 28)) (.int 0)).before #[Value.ref b] s = true := hs _ (by decide +kernel)
  have h29 : (Cond.eq (.elem (.static "SetRepairs" "PARTS_OF_FAULT" "[I") (.int 29)) (.int 1)).before #[Value.ref b] s = true := hs _ (by decide +kernel)
  obtain ⟨t, ht, hT⟩ := va_Tof (N := 30) (f := fun j => .int (tPF j)) (A := fun q : Nat => s.heap.size ≤ q) (by decide) harr (va_eqt hlen) (fun j hj => match j, hj with | 0, _ => va_eqt h0 | 1, _ => va_eqt h1 | 2, _ => va_eqt h2 | 3, _ => va_eqt h3 | 4, _ => va_eqt h4 | 5, _ => va_eqt h5 | 6, _ => va_eqt h6 | 7, _ => va_eqt h7 | 8, _ => va_eqt h8 | 9, _ => va_eqt h9 | 10, _ => va_eqt h10 | 11, _ => va_eqt h11 | 12, _ => va_eqt h12 | 13, _ => va_eqt h13 | 14, _ => va_eqt h14 | 15, _ => va_eqt h15 | 16, _ => va_eqt h16 | 17, _ => va_eqt h17 | 18, _ => va_eqt h18 | 19, _ => va_eqt h19 | 20, _ => va_eqt h20 | 21, _ => va_eqt h21 | 22, _ => va_eqt h22 | 23, _ => va_eqt h23 | 24, _ => va_eqt h24 | 25, _ => va_eqt h25 | 26, _ => va_eqt h26 | 27, _ => va_eqt h27 | 28, _ => va_eqt h28 | 29, _ => va_eqt h29 | n + 30, hj => absurd hj (by omega)) hA
  exact ⟨t, va_Zref hl hini ht hA, hT⟩
set_option maxRecDepth 100000 in
set_option maxHeartbeats 4000000 in
theorem sg_HOURS_OF_FAULT {s : State} {b : Nat} (hl : (Cond.laysStatic "SetRepairs" "HOURS_OF_FAULT" "[I").before #[Value.ref b] s = true) (hini : (Cond.initialized "SetRepairs").before #[Value.ref b] s = true) (hs : ∀ c ∈ flatC (Jvm.Cond.and given_1 narrow_1), c.before #[Value.ref b] s = true) : stA s.heap.size "HOURS_OF_FAULT" 5 tHF s s.heap := by
  have hA : ∀ a : Nat, a < s.heap.size → ¬ (fun q : Nat => s.heap.size ≤ q) a := fun a h z => Nat.lt_irrefl _ (Nat.lt_of_lt_of_le h z)
  have harr : (Cond.arrayOf (.static "SetRepairs" "HOURS_OF_FAULT" "[I") .int).before #[Value.ref b] s = true := hs _ (by decide +kernel)
  have hlen : (Cond.eq (.length (.static "SetRepairs" "HOURS_OF_FAULT" "[I")) (.int 5)).before #[Value.ref b] s = true := hs _ (by decide +kernel)
  have h0 : (Cond.eq (.elem (.static "SetRepairs" "HOURS_OF_FAULT" "[I") (.int 0)) (.int 2)).before #[Value.ref b] s = true := hs _ (by decide +kernel)
  have h1 : (Cond.eq (.elem (.static "SetRepairs" "HOURS_OF_FAULT" "[I") (.int 1)) (.int 3)).before #[Value.ref b] s = true := hs _ (by decide +kernel)
  have h2 : (Cond.eq (.elem (.static "SetRepairs" "HOURS_OF_FAULT" "[I") (.int 2)) (.int 1)).before #[Value.ref b] s = true := hs _ (by decide +kernel)
  have h3 : (Cond.eq (.elem (.static "SetRepairs" "HOURS_OF_FAULT" "[I") (.int 3)) (.int 5)).before #[Value.ref b] s = true := hs _ (by decide +kernel)
  have h4 : (Cond.eq (.elem (.static "SetRepairs" "HOURS_OF_FAULT" "[I") (.int 4)) (.int 4)).before #[Value.ref b] s = true := hs _ (by decide +kernel)
  obtain ⟨t, ht, hT⟩ := va_Tof (N := 5) (f := fun j => .int (tHF j)) (A := fun q : Nat => s.heap.size ≤ q) (by decide) harr (va_eqt hlen) (fun j hj => match j, hj with | 0, _ => va_eqt h0 | 1, _ => va_eqt h1 | 2, _ => va_eqt h2 | 3, _ => va_eqt h3 | 4, _ => va_eqt h4 | n + 5, hj => absurd hj (by omega)) hA
  exact ⟨t, va_Zref hl hini ht hA, hT⟩
set_option maxRecDepth 100000 in
set_option maxHeartbeats 4000000 in
theorem sg_LOWEST_NUMBER {s : State} {b : Nat} (hl : (Cond.laysStatic "SetRepairs" "LOWEST_NUMBER" "[I").before #[Value.ref b] s = true) (hini : (Cond.initialized "SetRepairs").before #[Value.ref b] s = true) (hs : ∀ c ∈ flatC (Jvm.Cond.and given_1 narrow_1), c.before #[Value.ref b] s = true) : stA s.heap.size "LOWEST_NUMBER" 5 tLN s s.heap := by
  have hA : ∀ a : Nat, a < s.heap.size → ¬ (fun q : Nat => s.heap.size ≤ q) a := fun a h z => Nat.lt_irrefl _ (Nat.lt_of_lt_of_le h z)
  have harr : (Cond.arrayOf (.static "SetRepairs" "LOWEST_NUMBER" "[I") .int).before #[Value.ref b] s = true := hs _ (by decide +kernel)
  have hlen : (Cond.eq (.length (.static "SetRepairs" "LOWEST_NUMBER" "[I")) (.int 5)).before #[Value.ref b] s = true := hs _ (by decide +kernel)
  have h0 : (Cond.eq (.elem (.static "SetRepairs" "LOWEST_NUMBER" "[I") (.int 0)) (.int 1)).before #[Value.ref b] s = true := hs _ (by decide +kernel)
  have h1 : (Cond.eq (.elem (.static "SetRepairs" "LOWEST_NUMBER" "[I") (.int 1)) (.int 100)).before #[Value.ref b] s = true := hs _ (by decide +kernel)
  have h2 : (Cond.eq (.elem (.static "SetRepairs" "LOWEST_NUMBER" "[I") (.int 2)) (.int 0)).before #[Value.ref b] s = true := hs _ (by decide +kernel)
  have h3 : (Cond.eq (.elem (.static "SetRepairs" "LOWEST_NUMBER" "[I") (.int 3)) (.int 1)).before #[Value.ref b] s = true := hs _ (by decide +kernel)
  have h4 : (Cond.eq (.elem (.static "SetRepairs" "LOWEST_NUMBER" "[I") (.int 4)) (.int 0)).before #[Value.ref b] s = true := hs _ (by decide +kernel)
  obtain ⟨t, ht, hT⟩ := va_Tof (N := 5) (f := fun j => .int (tLN j)) (A := fun q : Nat => s.heap.size ≤ q) (by decide) harr (va_eqt hlen) (fun j hj => match j, hj with | 0, _ => va_eqt h0 | 1, _ => va_eqt h1 | 2, _ => va_eqt h2 | 3, _ => va_eqt h3 | 4, _ => va_eqt h4 | n + 5, hj => absurd hj (by omega)) hA
  exact ⟨t, va_Zref hl hini ht hA, hT⟩
set_option maxRecDepth 100000 in
set_option maxHeartbeats 4000000 in
theorem sg_HIGHEST_NUMBER {s : State} {b : Nat} (hl : (Cond.laysStatic "SetRepairs" "HIGHEST_NUMBER" "[I").before #[Value.ref b] s = true) (hini : (Cond.initialized "SetRepairs").before #[Value.ref b] s = true) (hs : ∀ c ∈ flatC (Jvm.Cond.and given_1 narrow_1), c.before #[Value.ref b] s = true) : stA s.heap.size "HIGHEST_NUMBER" 5 tHN s s.heap := by
  have hA : ∀ a : Nat, a < s.heap.size → ¬ (fun q : Nat => s.heap.size ≤ q) a := fun a h z => Nat.lt_irrefl _ (Nat.lt_of_lt_of_le h z)
  have harr : (Cond.arrayOf (.static "SetRepairs" "HIGHEST_NUMBER" "[I") .int).before #[Value.ref b] s = true := hs _ (by decide +kernel)
  have hlen : (Cond.eq (.length (.static "SetRepairs" "HIGHEST_NUMBER" "[I")) (.int 5)).before #[Value.ref b] s = true := hs _ (by decide +kernel)
  have h0 : (Cond.eq (.elem (.static "SetRepairs" "HIGHEST_NUMBER" "[I") (.int 0)) (.int 24)).before #[Value.ref b] s = true := hs _ (by decide +kernel)
  have h1 : (Cond.eq (.elem (.static "SetRepairs" "HIGHEST_NUMBER" "[I") (.int 1)) (.int 20000)).before #[Value.ref b] s = true := hs _ (by decide +kernel)
  have h2 : (Cond.eq (.elem (.static "SetRepairs" "HIGHEST_NUMBER" "[I") (.int 2)) (.int 60)).before #[Value.ref b] s = true := hs _ (by decide +kernel)
  have h3 : (Cond.eq (.elem (.static "SetRepairs" "HIGHEST_NUMBER" "[I") (.int 3)) (.int 400)).before #[Value.ref b] s = true := hs _ (by decide +kernel)
  have h4 : (Cond.eq (.elem (.static "SetRepairs" "HIGHEST_NUMBER" "[I") (.int 4)) (.int 6)).before #[Value.ref b] s = true := hs _ (by decide +kernel)
  obtain ⟨t, ht, hT⟩ := va_Tof (N := 5) (f := fun j => .int (tHN j)) (A := fun q : Nat => s.heap.size ≤ q) (by decide) harr (va_eqt hlen) (fun j hj => match j, hj with | 0, _ => va_eqt h0 | 1, _ => va_eqt h1 | 2, _ => va_eqt h2 | 3, _ => va_eqt h3 | 4, _ => va_eqt h4 | n + 5, hj => absurd hj (by omega)) hA
  exact ⟨t, va_Zref hl hini ht hA, hT⟩
set_option maxRecDepth 100000 in
set_option maxHeartbeats 4000000 in
theorem sg_LOWEST_RATE_BITS {s : State} {b : Nat} (hl : (Cond.laysStatic "SetRepairs" "LOWEST_RATE_BITS" "[I").before #[Value.ref b] s = true) (hini : (Cond.initialized "SetRepairs").before #[Value.ref b] s = true) (hs : ∀ c ∈ flatC (Jvm.Cond.and given_1 narrow_1), c.before #[Value.ref b] s = true) : stA s.heap.size "LOWEST_RATE_BITS" 4 tLR s s.heap := by
  have hA : ∀ a : Nat, a < s.heap.size → ¬ (fun q : Nat => s.heap.size ≤ q) a := fun a h z => Nat.lt_irrefl _ (Nat.lt_of_lt_of_le h z)
  have harr : (Cond.arrayOf (.static "SetRepairs" "LOWEST_RATE_BITS" "[I") .int).before #[Value.ref b] s = true := hs _ (by decide +kernel)
  have hlen : (Cond.eq (.length (.static "SetRepairs" "LOWEST_RATE_BITS" "[I")) (.int 4)).before #[Value.ref b] s = true := hs _ (by decide +kernel)
  have h0 : (Cond.eq (.elem (.static "SetRepairs" "LOWEST_RATE_BITS" "[I") (.int 0)) (.int 1065353216)).before #[Value.ref b] s = true := hs _ (by decide +kernel)
  have h1 : (Cond.eq (.elem (.static "SetRepairs" "LOWEST_RATE_BITS" "[I") (.int 1)) (.int 1065353216)).before #[Value.ref b] s = true := hs _ (by decide +kernel)
  have h2 : (Cond.eq (.elem (.static "SetRepairs" "LOWEST_RATE_BITS" "[I") (.int 2)) (.int 0)).before #[Value.ref b] s = true := hs _ (by decide +kernel)
  have h3 : (Cond.eq (.elem (.static "SetRepairs" "LOWEST_RATE_BITS" "[I") (.int 3)) (.int 0)).before #[Value.ref b] s = true := hs _ (by decide +kernel)
  obtain ⟨t, ht, hT⟩ := va_Tof (N := 4) (f := fun j => .int (tLR j)) (A := fun q : Nat => s.heap.size ≤ q) (by decide) harr (va_eqt hlen) (fun j hj => match j, hj with | 0, _ => va_eqt h0 | 1, _ => va_eqt h1 | 2, _ => va_eqt h2 | 3, _ => va_eqt h3 | n + 4, hj => absurd hj (by omega)) hA
  exact ⟨t, va_Zref hl hini ht hA, hT⟩
set_option maxRecDepth 100000 in
set_option maxHeartbeats 4000000 in
theorem sg_HIGHEST_RATE_BITS {s : State} {b : Nat} (hl : (Cond.laysStatic "SetRepairs" "HIGHEST_RATE_BITS" "[I").before #[Value.ref b] s = true) (hini : (Cond.initialized "SetRepairs").before #[Value.ref b] s = true) (hs : ∀ c ∈ flatC (Jvm.Cond.and given_1 narrow_1), c.before #[Value.ref b] s = true) : stA s.heap.size "HIGHEST_RATE_BITS" 4 tHR s s.heap := by
  have hA : ∀ a : Nat, a < s.heap.size → ¬ (fun q : Nat => s.heap.size ≤ q) a := fun a h z => Nat.lt_irrefl _ (Nat.lt_of_lt_of_le h z)
  have harr : (Cond.arrayOf (.static "SetRepairs" "HIGHEST_RATE_BITS" "[I") .int).before #[Value.ref b] s = true := hs _ (by decide +kernel)
  have hlen : (Cond.eq (.length (.static "SetRepairs" "HIGHEST_RATE_BITS" "[I")) (.int 4)).before #[Value.ref b] s = true := hs _ (by decide +kernel)
  have h0 : (Cond.eq (.elem (.static "SetRepairs" "HIGHEST_RATE_BITS" "[I") (.int 0)) (.int 1077936128)).before #[Value.ref b] s = true := hs _ (by decide +kernel)
  have h1 : (Cond.eq (.elem (.static "SetRepairs" "HIGHEST_RATE_BITS" "[I") (.int 1)) (.int 1073741824)).before #[Value.ref b] s = true := hs _ (by decide +kernel)
  have h2 : (Cond.eq (.elem (.static "SetRepairs" "HIGHEST_RATE_BITS" "[I") (.int 2)) (.int 1148846080)).before #[Value.ref b] s = true := hs _ (by decide +kernel)
  have h3 : (Cond.eq (.elem (.static "SetRepairs" "HIGHEST_RATE_BITS" "[I") (.int 3)) (.int 1065353216)).before #[Value.ref b] s = true := hs _ (by decide +kernel)
  obtain ⟨t, ht, hT⟩ := va_Tof (N := 4) (f := fun j => .int (tHR j)) (A := fun q : Nat => s.heap.size ≤ q) (by decide) harr (va_eqt hlen) (fun j hj => match j, hj with | 0, _ => va_eqt h0 | 1, _ => va_eqt h1 | 2, _ => va_eqt h2 | 3, _ => va_eqt h3 | n + 4, hj => absurd hj (by omega)) hA
  exact ⟨t, va_Zref hl hini ht hA, hT⟩
set_option maxRecDepth 100000 in
set_option maxHeartbeats 4000000 in
/-- the tables and the statics at the law's entry -/
theorem env_start {p : Program} {s : State} {m : MethodId} {meth : Method} {c : Code} {b L : Nat} {xs : Nat → Int32} (C0 : lw_At p s m meth c b L xs) : ∃ g : KG, env g s.heap.size s s.heap := by
  obtain ⟨hx, hb, hr, hml, hown, hts0, hX, hbl, hlocks, hgv⟩ := id C0
  have hts : ∀ w ∈ wsL_law, w.before #[Value.ref b] s = true := fun w h => hts0 w (wsL_law_in w h)
  have hs := flat_of_before _ hgv
  obtain ⟨c0, iS0, hKn0⟩ := u_known (C := RX0) (T := TX0) (N := 2) (n := 2) hts inlX0 (hts _ q21)
  obtain ⟨c1, iS1, hKn1⟩ := u_known (C := RX1) (T := TX1) (N := 6) (n := 6) hts inlX1 (hts _ q46)
  obtain ⟨c2, iS2, hKn2⟩ := u_known (C := RX2) (T := TX2) (N := 6) (n := 6) hts inlX2 (hts _ q10)
  obtain ⟨c3, iS3, hKn3⟩ := u_known (C := RX3) (T := TX3) (N := 2) (n := 2) hts inlX3 (hts _ q17)
  obtain ⟨c4, iS4, hKn4⟩ := u_known (C := RX4) (T := TX4) (N := 9) (n := 9) hts inlX4 (hts _ q42)
  obtain ⟨c5, iS5, hKn5⟩ := u_known (C := RX5) (T := TX5) (N := 8) (n := 8) hts inlX5 (hts _ q38)
  obtain ⟨c6, iS6, hKn6⟩ := u_known (C := RX6) (T := TX6) (N := 6) (n := 6) hts inlX6 (hts _ q1)
  obtain ⟨a0, ka0, co0, e01, e02, e03⟩ := Cond.arrayClass_spec (hts _ q35)
  obtain ⟨a1, ka1, co1, e11, e12, e13⟩ := Cond.arrayClass_spec (hts _ q29)
  obtain ⟨a2, ka2, co2, e21, e22, e23⟩ := Cond.arrayClass_spec (hts _ q90)
  have hao := hts0 _ tw_ao
  obtain ⟨co3, a3, ka3, e31, -, e32, e33, e34⟩ := Cond.arrayOver_spec hao
  refine ⟨((fun k => match k with | 0 => c0 | 1 => c1 | 2 => c2 | 3 => c3 | 4 => c4 | 5 => c5 | _ => c6, fun k => match k with | 0 => iS0 | 1 => iS1 | 2 => iS2 | 3 => iS3 | 4 => iS4 | 5 => iS5 | _ => iS6), fun k => match k with | 0 => a0 | 1 => a1 | 2 => a2 | _ => a3), ⟨?_, ?_⟩, va_Nw.of rfl (hts0 _ tw_st43), va_Nw.of rfl (hts0 _ tw_de68), va_Nw.of rfl (hts0 _ tw_de43), va_AO.of hao, sg_PARTS_OF_FAULT (hts0 _ tw_PARTS_OF_FAULT) (hts _ q2) hs, sg_HOURS_OF_FAULT (hts0 _ tw_HOURS_OF_FAULT) (hts _ q2) hs, sg_LOWEST_NUMBER (hts0 _ tw_LOWEST_NUMBER) (hts _ q2) hs, sg_HIGHEST_NUMBER (hts0 _ tw_HIGHEST_NUMBER) (hts _ q2) hs, sg_LOWEST_RATE_BITS (hts0 _ tw_LOWEST_RATE_BITS) (hts _ q2) hs, sg_HIGHEST_RATE_BITS (hts0 _ tw_HIGHEST_RATE_BITS) (hts _ q2) hs⟩
  · intro k q hq
    match k, hq with
    | 0, hq => cases hq; exact hKn0
    | 1, hq => cases hq; exact hKn1
    | 2, hq => cases hq; exact hKn2
    | 3, hq => cases hq; exact hKn3
    | 4, hq => cases hq; exact hKn4
    | 5, hq => cases hq; exact hKn5
    | 6, hq => cases hq; exact hKn6
    | k + 7, hq => simp [vwCl] at hq
  · intro k q hq
    match k, hq with
    | 0, hq => cases hq; exact ⟨fun n z => ⟨(fun k h => by cases h), ka0, e02, co0, e03⟩, e01⟩
    | 1, hq => cases hq; exact ⟨fun n z => ⟨(fun k h => by cases h), ka1, e12, co1, e13⟩, e11⟩
    | 2, hq => cases hq; exact ⟨fun n z => ⟨(fun k h => by cases h), ka2, e22, co2, e23⟩, e21⟩
    | 3, hq => cases hq; exact ⟨fun n z => ⟨(fun k h => by cases h), ka3, e32, co3, e33⟩, ka3, co3, e32, e33, e31, e34⟩
    | k + 4, hq => simp [tysG] at hq
theorem whole_start_of {p : Program} {e : Env} {s : State} {m : MethodId} {below : List Frame} {meth : Method} {c : Code} (l : Launch) {b L : Nat} {xs : Nat → Int32} (hL : L ≤ 260) (C0 : lw_At p s m meth c b L xs) (hO : ∃ Ok, OkS Ok) : W p l e room_1 s m #[Value.ref b] below meth c s.heap [] 0 0 (lw_Z below #[Value.ref b] s) (entryFrame m ([Value.ref b] : List Value).toArray 12) := by
  obtain ⟨g, hE⟩ := env_start C0
  obtain ⟨Ok, hOk⟩ := hO
  obtain ⟨hx, hb, hr, hml, hown, hts0, hX, hbl, hlocks, hgv⟩ := id C0
  have hts : ∀ w ∈ wsL_law, w.before #[Value.ref b] s = true := fun w h => hts0 w (wsL_law_in w h)
  have hown' : s.vm.findClass RL = some m.cls := hown
  have hl := lv_entry ([.ref b]) (n := 12) (Nat.le_of_ble_eq_true rfl)
  rw [lg_entry_eq]
  exact law_body hL Ok hOk ⟨hx, hb, hml, hown', hts, hE, fun _ h => h, hlocks⟩ hr hlocks ⟨hX, hbl⟩ _ [] hl va_S.rf
