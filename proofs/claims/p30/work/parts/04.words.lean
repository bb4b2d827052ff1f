/-! the words one by one: q<i> is the i-th of wsL_law -/
theorem qc0 : ∀ w ∈ wsL_law_r1, w ∈ wsL_law := fun _ h => List.mem_append_left _ (List.mem_append_left _ (List.mem_append_left _ (List.mem_append_left _ (List.mem_append_left _ (List.mem_append_left _ (List.mem_append_left _ (List.mem_append_left _ (List.mem_append_left _ h))))))))
theorem qc1 : ∀ w ∈ wsL_law_r2, w ∈ wsL_law := fun _ h => List.mem_append_left _ (List.mem_append_left _ (List.mem_append_left _ (List.mem_append_left _ (List.mem_append_left _ (List.mem_append_left _ (List.mem_append_left _ (List.mem_append_left _ (List.mem_append_right _ (List.mem_append_left _ h)))))))))
theorem qc2 : ∀ w ∈ wsL_law_r3, w ∈ wsL_law := fun _ h => List.mem_append_left _ (List.mem_append_left _ (List.mem_append_left _ (List.mem_append_left _ (List.mem_append_left _ (List.mem_append_left _ (List.mem_append_left _ (List.mem_append_left _ (List.mem_append_right _ (List.mem_append_right _ (List.mem_append_left _ h))))))))))
theorem qc3 : ∀ w ∈ wsL_law_r4, w ∈ wsL_law := fun _ h => List.mem_append_left _ (List.mem_append_left _ (List.mem_append_left _ (List.mem_append_left _ (List.mem_append_left _ (List.mem_append_left _ (List.mem_append_left _ (List.mem_append_left _ (List.mem_append_right _ (List.mem_append_right _ (List.mem_append_right _ (List.mem_append_left _ h)))))))))))
theorem qc4 : ∀ w ∈ wsL_law_r5, w ∈ wsL_law := fun _ h => List.mem_append_left _ (List.mem_append_left _ (List.mem_append_left _ (List.mem_append_left _ (List.mem_append_left _ (List.mem_append_left _ (List.mem_append_left _ (List.mem_append_left _ (List.mem_append_right _ (List.mem_append_right _ (List.mem_append_right _ (List.mem_append_right _ (List.mem_append_left _ h))))))))))))
theorem qc5 : ∀ w ∈ wsL_law_r6, w ∈ wsL_law := fun _ h => List.mem_append_left _ (List.mem_append_left _ (List.mem_append_left _ (List.mem_append_left _ (List.mem_append_left _ (List.mem_append_left _ (List.mem_append_left _ (List.mem_append_left _ (List.mem_append_right _ (List.mem_append_right _ (List.mem_append_right _ (List.mem_append_right _ (List.mem_append_right _ (List.mem_append_left _ h)))))))))))))
theorem qc6 : ∀ w ∈ wsL_law_r7, w ∈ wsL_law := fun _ h => List.mem_append_left _ (List.mem_append_left _ (List.mem_append_left _ (List.mem_append_left _ (List.mem_append_left _ (List.mem_append_left _ (List.mem_append_left _ (List.mem_append_left _ (List.mem_append_right _ (List.mem_append_right _ (List.mem_append_right _ (List.mem_append_right _ (List.mem_append_right _ (List.mem_append_right _ (List.mem_append_left _ h))))))))))))))
theorem qc7 : ∀ w ∈ wsL_law_r8, w ∈ wsL_law := fun _ h => List.mem_append_left _ (List.mem_append_left _ (List.mem_append_left _ (List.mem_append_left _ (List.mem_append_left _ (List.mem_append_left _ (List.mem_append_left _ (List.mem_append_left _ (List.mem_append_right _ (List.mem_append_right _ (List.mem_append_right _ (List.mem_append_right _ (List.mem_append_right _ (List.mem_append_right _ (List.mem_append_right _ (List.mem_append_left _ h)))))))))))))))
theorem qc8 : ∀ w ∈ wsL_law_r9, w ∈ wsL_law := fun _ h => List.mem_append_left _ (List.mem_append_left _ (List.mem_append_left _ (List.mem_append_left _ (List.mem_append_left _ (List.mem_append_left _ (List.mem_append_left _ (List.mem_append_left _ (List.mem_append_right _ (List.mem_append_right _ (List.mem_append_right _ (List.mem_append_right _ (List.mem_append_right _ (List.mem_append_right _ (List.mem_append_right _ (List.mem_append_right _ (List.mem_append_left _ h))))))))))))))))
theorem qc9 : ∀ w ∈ wsL_law_r10, w ∈ wsL_law := fun _ h => List.mem_append_left _ (List.mem_append_left _ (List.mem_append_left _ (List.mem_append_left _ (List.mem_append_left _ (List.mem_append_left _ (List.mem_append_left _ (List.mem_append_left _ (List.mem_append_right _ (List.mem_append_right _ (List.mem_append_right _ (List.mem_append_right _ (List.mem_append_right _ (List.mem_append_right _ (List.mem_append_right _ (List.mem_append_right _ (List.mem_append_right _ (List.mem_append_left _ h)))))))))))))))))
theorem qc10 : ∀ w ∈ wsL_law_r11, w ∈ wsL_law := fun _ h => List.mem_append_left _ (List.mem_append_left _ (List.mem_append_left _ (List.mem_append_left _ (List.mem_append_left _ (List.mem_append_left _ (List.mem_append_left _ (List.mem_append_left _ (List.mem_append_right _ (List.mem_append_right _ (List.mem_append_right _ (List.mem_append_right _ (List.mem_append_right _ (List.mem_append_right _ (List.mem_append_right _ (List.mem_append_right _ (List.mem_append_right _ (List.mem_append_right _ (List.mem_append_left _ h))))))))))))))))))
theorem qc11 : ∀ w ∈ wsL_law_r12, w ∈ wsL_law := fun _ h => List.mem_append_left _ (List.mem_append_left _ (List.mem_append_left _ (List.mem_append_left _ (List.mem_append_left _ (List.mem_append_left _ (List.mem_append_left _ (List.mem_append_left _ (List.mem_append_right _ (List.mem_append_right _ (List.mem_append_right _ (List.mem_append_right _ (List.mem_append_right _ (List.mem_append_right _ (List.mem_append_right _ (List.mem_append_right _ (List.mem_append_right _ (List.mem_append_right _ (List.mem_append_right _ (List.mem_append_left _ h)))))))))))))))))))
theorem qc12 : ∀ w ∈ wsL_law_r13, w ∈ wsL_law := fun _ h => List.mem_append_left _ (List.mem_append_left _ (List.mem_append_left _ (List.mem_append_left _ (List.mem_append_left _ (List.mem_append_left _ (List.mem_append_left _ (List.mem_append_left _ (List.mem_append_right _ (List.mem_append_right _ (List.mem_append_right _ (List.mem_append_right _ (List.mem_append_right _ (List.mem_append_right _ (List.mem_append_right _ (List.mem_append_right _ (List.mem_append_right _ (List.mem_append_right _ (List.mem_append_right _ (List.mem_append_right _ (List.mem_append_left _ h))))))))))))))))))))
theorem qc13 : ∀ w ∈ wsL_law_r14, w ∈ wsL_law := fun _ h => List.mem_append_left _ (List.mem_append_left _ (List.mem_append_left _ (List.mem_append_left _ (List.mem_append_left _ (List.mem_append_left _ (List.mem_append_left _ (List.mem_append_left _ (List.mem_append_right _ (List.mem_append_right _ (List.mem_append_right _ (List.mem_append_right _ (List.mem_append_right _ (List.mem_append_right _ (List.mem_append_right _ (List.mem_append_right _ (List.mem_append_right _ (List.mem_append_right _ (List.mem_append_right _ (List.mem_append_right _ (List.mem_append_right _ (List.mem_append_left _ h)))))))))))))))))))))
theorem qc14 : ∀ w ∈ wsL_law_r15, w ∈ wsL_law := fun _ h => List.mem_append_left _ (List.mem_append_left _ (List.mem_append_left _ (List.mem_append_left _ (List.mem_append_left _ (List.mem_append_left _ (List.mem_append_left _ (List.mem_append_left _ (List.mem_append_right _ (List.mem_append_right _ (List.mem_append_right _ (List.mem_append_right _ (List.mem_append_right _ (List.mem_append_right _ (List.mem_append_right _ (List.mem_append_right _ (List.mem_append_right _ (List.mem_append_right _ (List.mem_append_right _ (List.mem_append_right _ (List.mem_append_right _ (List.mem_append_right _ (List.mem_append_left _ h))))))))))))))))))))))
theorem qc15 : ∀ w ∈ wsL_law_r16, w ∈ wsL_law := fun _ h => List.mem_append_left _ (List.mem_append_left _ (List.mem_append_left _ (List.mem_append_left _ (List.mem_append_left _ (List.mem_append_left _ (List.mem_append_left _ (List.mem_append_left _ (List.mem_append_right _ (List.mem_append_right _ (List.mem_append_right _ (List.mem_append_right _ (List.mem_append_right _ (List.mem_append_right _ (List.mem_append_right _ (List.mem_append_right _ (List.mem_append_right _ (List.mem_append_right _ (List.mem_append_right _ (List.mem_append_right _ (List.mem_append_right _ (List.mem_append_right _ (List.mem_append_right _ (List.mem_append_left _ h)))))))))))))))))))))))
theorem qc16 : ∀ w ∈ wsL_law_r17, w ∈ wsL_law := fun _ h => List.mem_append_left _ (List.mem_append_left _ (List.mem_append_left _ (List.mem_append_left _ (List.mem_append_left _ (List.mem_append_left _ (List.mem_append_left _ (List.mem_append_left _ (List.mem_append_right _ (List.mem_append_right _ (List.mem_append_right _ (List.mem_append_right _ (List.mem_append_right _ (List.mem_append_right _ (List.mem_append_right _ (List.mem_append_right _ (List.mem_append_right _ (List.mem_append_right _ (List.mem_append_right _ (List.mem_append_right _ (List.mem_append_right _ (List.mem_append_right _ (List.mem_append_right _ (List.mem_append_right _ (List.mem_append_left _ h))))))))))))))))))))))))
theorem qc17 : ∀ w ∈ wsL_law_r18, w ∈ wsL_law := fun _ h => List.mem_append_left _ (List.mem_append_left _ (List.mem_append_left _ (List.mem_append_left _ (List.mem_append_left _ (List.mem_append_left _ (List.mem_append_left _ (List.mem_append_left _ (List.mem_append_right _ (List.mem_append_right _ (List.mem_append_right _ (List.mem_append_right _ (List.mem_append_right _ (List.mem_append_right _ (List.mem_append_right _ (List.mem_append_right _ (List.mem_append_right _ (List.mem_append_right _ (List.mem_append_right _ (List.mem_append_right _ (List.mem_append_right _ (List.mem_append_right _ (List.mem_append_right _ (List.mem_append_right _ (List.mem_append_right _ (List.mem_append_left _ h)))))))))))))))))))))))))
theorem qc18 : ∀ w ∈ wsL_law_r19, w ∈ wsL_law := fun _ h => List.mem_append_left _ (List.mem_append_left _ (List.mem_append_left _ (List.mem_append_left _ (List.mem_append_left _ (List.mem_append_left _ (List.mem_append_left _ (List.mem_append_left _ (List.mem_append_right _ (List.mem_append_right _ (List.mem_append_right _ (List.mem_append_right _ (List.mem_append_right _ (List.mem_append_right _ (List.mem_append_right _ (List.mem_append_right _ (List.mem_append_right _ (List.mem_append_right _ (List.mem_append_right _ (List.mem_append_right _ (List.mem_append_right _ (List.mem_append_right _ (List.mem_append_right _ (List.mem_append_right _ (List.mem_append_right _ (List.mem_append_right _ (h))))))))))))))))))))))))))
theorem q0 : (Cond.classLink RL 16 RX6 : Cond) ∈ wsL_law := qc0 _ (List.mem_of_getElem? (i := 0) rfl)
theorem q1 : (Cond.instantiable RX6 6 : Cond) ∈ wsL_law := qc0 _ (List.mem_of_getElem? (i := 1) rfl)
theorem q2 : (Cond.initialized RX6 : Cond) ∈ wsL_law := qc0 _ (List.mem_of_getElem? (i := 2) rfl)
theorem q3 : (Cond.methodLink RL 114 yX6_init : Cond) ∈ wsL_law := qc0 _ (List.mem_of_getElem? (i := 3) rfl)
theorem q4 : (Cond.instanceMethod yX6_init : Cond) ∈ wsL_law := qc0 _ (List.mem_of_getElem? (i := 4) rfl)
theorem q5 : (Cond.code yX6_init cX6_init 1 none : Cond) ∈ wsL_law := qc0 _ (List.mem_of_getElem? (i := 5) rfl)
theorem q6 : (Cond.methodLink RX6 1 objectInit : Cond) ∈ wsL_law := qc0 _ (List.mem_of_getElem? (i := 6) rfl)
theorem q7 : (Cond.instanceMethod objectInit : Cond) ∈ wsL_law := qc0 _ (List.mem_of_getElem? (i := 7) rfl)
theorem q8 : (Cond.code objectInit ⟨#[0xb1]⟩ 1 none : Cond) ∈ wsL_law := qc0 _ (List.mem_of_getElem? (i := 8) rfl)
theorem q9 : (Cond.classLink RX6 7 RX2 : Cond) ∈ wsL_law := qc0 _ (List.mem_of_getElem? (i := 9) rfl)
theorem q10 : (Cond.instantiable RX2 6 : Cond) ∈ wsL_law := qc0 _ (List.mem_of_getElem? (i := 10) rfl)
theorem q11 : (Cond.initialized RX2 : Cond) ∈ wsL_law := qc0 _ (List.mem_of_getElem? (i := 11) rfl)
theorem q12 : (Cond.fieldLink RX6 10 "SetRepairs" "desk" "LSetRepairs$Desk;" : Cond) ∈ wsL_law := qc0 _ (List.mem_of_getElem? (i := 12) rfl)
theorem q13 : (Cond.fieldLink RX6 16 "SetRepairs" "trial" "LSetRepairs$Desk;" : Cond) ∈ wsL_law := qc0 _ (List.mem_of_getElem? (i := 13) rfl)
theorem q14 : (Cond.fieldLink RX6 19 "SetRepairs" "snapshot" "LSetRepairs$Desk;" : Cond) ∈ wsL_law := qc0 _ (List.mem_of_getElem? (i := 14) rfl)
theorem q15 : (Cond.fieldLink RX6 22 "SetRepairs" "hasSnapshot" "Z" : Cond) ∈ wsL_law := qc0 _ (List.mem_of_getElem? (i := 15) rfl)
theorem q16 : (Cond.classLink RX6 26 RX3 : Cond) ∈ wsL_law := qc0 _ (List.mem_of_getElem? (i := 16) rfl)
theorem q17 : (Cond.instantiable RX3 2 : Cond) ∈ wsL_law := qc0 _ (List.mem_of_getElem? (i := 17) rfl)
theorem q18 : (Cond.initialized RX3 : Cond) ∈ wsL_law := qc0 _ (List.mem_of_getElem? (i := 18) rfl)
theorem q19 : (Cond.fieldLink RX6 29 "SetRepairs" "history" "LSetRepairs$History;" : Cond) ∈ wsL_law := qc0 _ (List.mem_of_getElem? (i := 19) rfl)
theorem q20 : (Cond.classLink RX6 33 RX0 : Cond) ∈ wsL_law := qc0 _ (List.mem_of_getElem? (i := 20) rfl)
theorem q21 : (Cond.instantiable RX0 2 : Cond) ∈ wsL_law := qc0 _ (List.mem_of_getElem? (i := 21) rfl)
theorem q22 : (Cond.initialized RX0 : Cond) ∈ wsL_law := qc0 _ (List.mem_of_getElem? (i := 22) rfl)
theorem q23 : (Cond.fieldLink RX6 36 "SetRepairs" "text" "LSetRepairs$AnswerText;" : Cond) ∈ wsL_law := qc0 _ (List.mem_of_getElem? (i := 23) rfl)
theorem q24 : (Cond.methodLink RX6 9 yX2_init : Cond) ∈ wsL_law := qc1 _ (List.mem_of_getElem? (i := 0) rfl)
theorem q25 : (Cond.instanceMethod yX2_init : Cond) ∈ wsL_law := qc1 _ (List.mem_of_getElem? (i := 1) rfl)
theorem q26 : (Cond.code yX2_init cX2_init 1 none : Cond) ∈ wsL_law := qc1 _ (List.mem_of_getElem? (i := 2) rfl)
theorem q27 : (Cond.methodLink RX2 3 objectInit : Cond) ∈ wsL_law := qc1 _ (List.mem_of_getElem? (i := 3) rfl)
theorem q28 : (Cond.fieldLink RX2 9 "SetRepairs$Desk" "day" "I" : Cond) ∈ wsL_law := qc1 _ (List.mem_of_getElem? (i := 4) rfl)
theorem q29 : (Cond.arrayClass .float : Cond) ∈ wsL_law := qc1 _ (List.mem_of_getElem? (i := 5) rfl)
theorem q30 : (Cond.constantFloat RX2 15 (1068708659) : Cond) ∈ wsL_law := qc1 _ (List.mem_of_getElem? (i := 6) rfl)
theorem q31 : (Cond.constantFloat RX2 16 (1066192077) : Cond) ∈ wsL_law := qc1 _ (List.mem_of_getElem? (i := 7) rfl)
theorem q32 : (Cond.constantFloat RX2 17 (1103888384) : Cond) ∈ wsL_law := qc1 _ (List.mem_of_getElem? (i := 8) rfl)
theorem q33 : (Cond.constantFloat RX2 18 (1058642330) : Cond) ∈ wsL_law := qc1 _ (List.mem_of_getElem? (i := 9) rfl)
theorem q34 : (Cond.fieldLink RX2 19 "SetRepairs$Desk" "rates" "[F" : Cond) ∈ wsL_law := qc1 _ (List.mem_of_getElem? (i := 10) rfl)
theorem q35 : (Cond.arrayClass .int : Cond) ∈ wsL_law := qc1 _ (List.mem_of_getElem? (i := 11) rfl)
theorem q36 : (Cond.fieldLink RX2 23 "SetRepairs$Desk" "numbers" "[I" : Cond) ∈ wsL_law := qc1 _ (List.mem_of_getElem? (i := 12) rfl)
theorem q37 : (Cond.classLink RX2 27 RX5 : Cond) ∈ wsL_law := qc1 _ (List.mem_of_getElem? (i := 13) rfl)
theorem q38 : (Cond.instantiable RX5 8 : Cond) ∈ wsL_law := qc1 _ (List.mem_of_getElem? (i := 14) rfl)
theorem q39 : (Cond.initialized RX5 : Cond) ∈ wsL_law := qc1 _ (List.mem_of_getElem? (i := 15) rfl)
theorem q40 : (Cond.fieldLink RX2 30 "SetRepairs$Desk" "store" "LSetRepairs$Store;" : Cond) ∈ wsL_law := qc1 _ (List.mem_of_getElem? (i := 16) rfl)
theorem q41 : (Cond.classLink RX2 34 RX4 : Cond) ∈ wsL_law := qc1 _ (List.mem_of_getElem? (i := 17) rfl)
theorem q42 : (Cond.instantiable RX4 9 : Cond) ∈ wsL_law := qc1 _ (List.mem_of_getElem? (i := 18) rfl)
theorem q43 : (Cond.initialized RX4 : Cond) ∈ wsL_law := qc1 _ (List.mem_of_getElem? (i := 19) rfl)
theorem q44 : (Cond.fieldLink RX2 37 "SetRepairs$Desk" "sets" "LSetRepairs$Sets;" : Cond) ∈ wsL_law := qc1 _ (List.mem_of_getElem? (i := 20) rfl)
theorem q45 : (Cond.classLink RX2 41 RX1 : Cond) ∈ wsL_law := qc1 _ (List.mem_of_getElem? (i := 21) rfl)
theorem q46 : (Cond.instantiable RX1 6 : Cond) ∈ wsL_law := qc1 _ (List.mem_of_getElem? (i := 22) rfl)
theorem q47 : (Cond.initialized RX1 : Cond) ∈ wsL_law := qc1 _ (List.mem_of_getElem? (i := 23) rfl)
theorem q48 : (Cond.fieldLink RX2 44 "SetRepairs$Desk" "books" "LSetRepairs$Books;" : Cond) ∈ wsL_law := qc2 _ (List.mem_of_getElem? (i := 0) rfl)
theorem q49 : (Cond.methodLink RX2 29 yX5_init : Cond) ∈ wsL_law := qc2 _ (List.mem_of_getElem? (i := 1) rfl)
theorem q50 : (Cond.instanceMethod yX5_init : Cond) ∈ wsL_law := qc2 _ (List.mem_of_getElem? (i := 2) rfl)
theorem q51 : (Cond.code yX5_init cX5_init 1 none : Cond) ∈ wsL_law := qc2 _ (List.mem_of_getElem? (i := 3) rfl)
theorem q52 : (Cond.methodLink RX5 3 objectInit : Cond) ∈ wsL_law := qc2 _ (List.mem_of_getElem? (i := 4) rfl)
theorem q53 : (Cond.fieldLink RX5 9 "SetRepairs$Store" "price" "[I" : Cond) ∈ wsL_law := qc2 _ (List.mem_of_getElem? (i := 5) rfl)
theorem q54 : (Cond.fieldLink RX5 15 "SetRepairs$Store" "lead" "[I" : Cond) ∈ wsL_law := qc2 _ (List.mem_of_getElem? (i := 6) rfl)
theorem q55 : (Cond.fieldLink RX5 18 "SetRepairs$Store" "stock" "[I" : Cond) ∈ wsL_law := qc2 _ (List.mem_of_getElem? (i := 7) rfl)
theorem q56 : (Cond.fieldLink RX5 21 "SetRepairs$Store" "reserved" "[I" : Cond) ∈ wsL_law := qc2 _ (List.mem_of_getElem? (i := 8) rfl)
theorem q57 : (Cond.fieldLink RX5 24 "SetRepairs$Store" "orders" "I" : Cond) ∈ wsL_law := qc2 _ (List.mem_of_getElem? (i := 9) rfl)
theorem q58 : (Cond.fieldLink RX5 28 "SetRepairs$Store" "orderPart" "[I" : Cond) ∈ wsL_law := qc2 _ (List.mem_of_getElem? (i := 10) rfl)
theorem q59 : (Cond.fieldLink RX5 31 "SetRepairs$Store" "orderMany" "[I" : Cond) ∈ wsL_law := qc2 _ (List.mem_of_getElem? (i := 11) rfl)
theorem q60 : (Cond.fieldLink RX5 34 "SetRepairs$Store" "orderDay" "[I" : Cond) ∈ wsL_law := qc2 _ (List.mem_of_getElem? (i := 12) rfl)
theorem q61 : (Cond.methodLink RX2 36 yX4_init : Cond) ∈ wsL_law := qc2 _ (List.mem_of_getElem? (i := 13) rfl)
theorem q62 : (Cond.instanceMethod yX4_init : Cond) ∈ wsL_law := qc2 _ (List.mem_of_getElem? (i := 14) rfl)
theorem q63 : (Cond.code yX4_init cX4_init 1 none : Cond) ∈ wsL_law := qc2 _ (List.mem_of_getElem? (i := 15) rfl)
theorem q64 : (Cond.methodLink RX4 3 objectInit : Cond) ∈ wsL_law := qc2 _ (List.mem_of_getElem? (i := 16) rfl)
theorem q65 : (Cond.fieldLink RX4 9 "SetRepairs$Sets" "many" "I" : Cond) ∈ wsL_law := qc2 _ (List.mem_of_getElem? (i := 17) rfl)
theorem q66 : (Cond.fieldLink RX4 15 "SetRepairs$Sets" "fault" "[I" : Cond) ∈ wsL_law := qc2 _ (List.mem_of_getElem? (i := 18) rfl)
theorem q67 : (Cond.fieldLink RX4 19 "SetRepairs$Sets" "came" "[I" : Cond) ∈ wsL_law := qc2 _ (List.mem_of_getElem? (i := 19) rfl)
theorem q68 : (Cond.fieldLink RX4 22 "SetRepairs$Sets" "estimate" "[I" : Cond) ∈ wsL_law := qc2 _ (List.mem_of_getElem? (i := 20) rfl)
theorem q69 : (Cond.fieldLink RX4 25 "SetRepairs$Sets" "worked" "[I" : Cond) ∈ wsL_law := qc2 _ (List.mem_of_getElem? (i := 21) rfl)
theorem q70 : (Cond.fieldLink RX4 28 "SetRepairs$Sets" "bill" "[I" : Cond) ∈ wsL_law := qc2 _ (List.mem_of_getElem? (i := 22) rfl)
theorem q71 : (Cond.fieldLink RX4 31 "SetRepairs$Sets" "loaner" "[I" : Cond) ∈ wsL_law := qc2 _ (List.mem_of_getElem? (i := 23) rfl)
theorem q72 : (Cond.fieldLink RX4 34 "SetRepairs$Sets" "state" "[I" : Cond) ∈ wsL_law := qc3 _ (List.mem_of_getElem? (i := 0) rfl)
theorem q73 : (Cond.fieldLink RX4 37 "SetRepairs$Sets" "ready" "[I" : Cond) ∈ wsL_law := qc3 _ (List.mem_of_getElem? (i := 1) rfl)
theorem q74 : (Cond.instanceMethod yX1_init : Cond) ∈ wsL_law := qc3 _ (List.mem_of_getElem? (i := 2) rfl)
theorem q75 : (Cond.code yX1_init cX1_init 1 none : Cond) ∈ wsL_law := qc3 _ (List.mem_of_getElem? (i := 3) rfl)
theorem q76 : (Cond.methodLink RX1 1 objectInit : Cond) ∈ wsL_law := qc3 _ (List.mem_of_getElem? (i := 4) rfl)
theorem q77 : (Cond.methodLink RX6 28 yX3_init : Cond) ∈ wsL_law := qc3 _ (List.mem_of_getElem? (i := 5) rfl)
theorem q78 : (Cond.instanceMethod yX3_init : Cond) ∈ wsL_law := qc3 _ (List.mem_of_getElem? (i := 6) rfl)
theorem q79 : (Cond.code yX3_init cX3_init 2 none : Cond) ∈ wsL_law := qc3 _ (List.mem_of_getElem? (i := 7) rfl)
theorem q80 : (Cond.methodLink RX3 3 objectInit : Cond) ∈ wsL_law := qc3 _ (List.mem_of_getElem? (i := 8) rfl)
theorem q81 : (Cond.fieldLink RX3 9 "SetRepairs$History" "many" "I" : Cond) ∈ wsL_law := qc3 _ (List.mem_of_getElem? (i := 9) rfl)
theorem q82 : (Cond.classLink RX3 15 RX2 : Cond) ∈ wsL_law := qc3 _ (List.mem_of_getElem? (i := 10) rfl)
theorem q83 : (Cond.fieldLink RX3 17 "SetRepairs$History" "states" "[LSetRepairs$Desk;" : Cond) ∈ wsL_law := qc3 _ (List.mem_of_getElem? (i := 11) rfl)
theorem q84 : (Cond.methodLink RX3 21 yX2_init : Cond) ∈ wsL_law := qc3 _ (List.mem_of_getElem? (i := 12) rfl)
theorem q85 : (Cond.methodLink RX6 35 yX0_init : Cond) ∈ wsL_law := qc3 _ (List.mem_of_getElem? (i := 13) rfl)
theorem q86 : (Cond.instanceMethod yX0_init : Cond) ∈ wsL_law := qc3 _ (List.mem_of_getElem? (i := 14) rfl)
theorem q87 : (Cond.code yX0_init cX0_init 1 none : Cond) ∈ wsL_law := qc3 _ (List.mem_of_getElem? (i := 15) rfl)
theorem q88 : (Cond.methodLink RX0 3 objectInit : Cond) ∈ wsL_law := qc3 _ (List.mem_of_getElem? (i := 16) rfl)
theorem q89 : (Cond.fieldLink RX0 9 "SetRepairs$AnswerText" "length" "I" : Cond) ∈ wsL_law := qc3 _ (List.mem_of_getElem? (i := 17) rfl)
theorem q90 : (Cond.arrayClass .char : Cond) ∈ wsL_law := qc3 _ (List.mem_of_getElem? (i := 18) rfl)
theorem q91 : (Cond.fieldLink RX0 15 "SetRepairs$AnswerText" "characters" "[C" : Cond) ∈ wsL_law := qc3 _ (List.mem_of_getElem? (i := 19) rfl)
theorem q92 : (Cond.methodLink RL 35 yX6_count : Cond) ∈ wsL_law := qc3 _ (List.mem_of_getElem? (i := 20) rfl)
theorem q93 : (Cond.instanceMethod yX6_count : Cond) ∈ wsL_law := qc3 _ (List.mem_of_getElem? (i := 21) rfl)
theorem q94 : (Cond.selects RX6 yX6_count yX6_count : Cond) ∈ wsL_law := qc3 _ (List.mem_of_getElem? (i := 22) rfl)
theorem q95 : (Cond.code yX6_count cX6_count 2 (some .int) : Cond) ∈ wsL_law := qc3 _ (List.mem_of_getElem? (i := 23) rfl)
theorem q96 : (Cond.fieldLink RX6 73 "SetRepairs$Desk" "sets" "LSetRepairs$Sets;" : Cond) ∈ wsL_law := qc4 _ (List.mem_of_getElem? (i := 0) rfl)
theorem q97 : (Cond.fieldLink RX6 103 "SetRepairs$Desk" "day" "I" : Cond) ∈ wsL_law := qc4 _ (List.mem_of_getElem? (i := 1) rfl)
theorem q98 : (Cond.fieldLink RX6 116 "SetRepairs$Sets" "many" "I" : Cond) ∈ wsL_law := qc4 _ (List.mem_of_getElem? (i := 2) rfl)
theorem q99 : (Cond.fieldLink RX6 87 "SetRepairs$Desk" "store" "LSetRepairs$Store;" : Cond) ∈ wsL_law := qc4 _ (List.mem_of_getElem? (i := 3) rfl)
theorem q100 : (Cond.fieldLink RX6 99 "SetRepairs$Store" "orders" "I" : Cond) ∈ wsL_law := qc4 _ (List.mem_of_getElem? (i := 4) rfl)
theorem q101 : (Cond.fieldLink RX6 168 "SetRepairs$Desk" "books" "LSetRepairs$Books;" : Cond) ∈ wsL_law := qc4 _ (List.mem_of_getElem? (i := 5) rfl)
theorem q102 : (Cond.fieldLink RX6 225 "SetRepairs$Books" "billsPaid" "I" : Cond) ∈ wsL_law := qc4 _ (List.mem_of_getElem? (i := 6) rfl)
theorem q103 : (Cond.fieldLink RX6 228 "SetRepairs$Books" "feesPaid" "I" : Cond) ∈ wsL_law := qc4 _ (List.mem_of_getElem? (i := 7) rfl)
theorem q104 : (Cond.fieldLink RX6 231 "SetRepairs$Books" "soldFor" "I" : Cond) ∈ wsL_law := qc4 _ (List.mem_of_getElem? (i := 8) rfl)
theorem q105 : (Cond.fieldLink RX6 234 "SetRepairs$Books" "partsBuiltIn" "I" : Cond) ∈ wsL_law := qc4 _ (List.mem_of_getElem? (i := 9) rfl)
theorem q106 : (Cond.fieldLink RX6 187 "SetRepairs$History" "many" "I" : Cond) ∈ wsL_law := qc4 _ (List.mem_of_getElem? (i := 10) rfl)
theorem q107 : (Cond.fieldLink RX6 180 "SetRepairs$AnswerText" "length" "I" : Cond) ∈ wsL_law := qc4 _ (List.mem_of_getElem? (i := 11) rfl)
theorem q108 : (Cond.methodLink RX6 51 yX6_isWithin : Cond) ∈ wsL_law := qc4 _ (List.mem_of_getElem? (i := 12) rfl)
theorem q109 : (Cond.static yX6_isWithin : Cond) ∈ wsL_law := qc4 _ (List.mem_of_getElem? (i := 13) rfl)
theorem q110 : (Cond.code yX6_isWithin cX6_isWithin 3 (some .boolean) : Cond) ∈ wsL_law := qc4 _ (List.mem_of_getElem? (i := 14) rfl)
theorem q111 : (Cond.methodLink RX6 153 yX4_inState : Cond) ∈ wsL_law := qc4 _ (List.mem_of_getElem? (i := 15) rfl)
theorem q112 : (Cond.instanceMethod yX4_inState : Cond) ∈ wsL_law := qc4 _ (List.mem_of_getElem? (i := 16) rfl)
theorem q113 : (Cond.selects RX4 yX4_inState yX4_inState : Cond) ∈ wsL_law := qc4 _ (List.mem_of_getElem? (i := 17) rfl)
theorem q114 : (Cond.code yX4_inState cX4_inState 4 (some .int) : Cond) ∈ wsL_law := qc4 _ (List.mem_of_getElem? (i := 18) rfl)
theorem q115 : (Cond.methodLink RX6 159 yX2_loanersThere : Cond) ∈ wsL_law := qc4 _ (List.mem_of_getElem? (i := 19) rfl)
theorem q116 : (Cond.instanceMethod yX2_loanersThere : Cond) ∈ wsL_law := qc4 _ (List.mem_of_getElem? (i := 20) rfl)
theorem q117 : (Cond.selects RX2 yX2_loanersThere yX2_loanersThere : Cond) ∈ wsL_law := qc4 _ (List.mem_of_getElem? (i := 21) rfl)
theorem q118 : (Cond.code yX2_loanersThere cX2_loanersThere 1 (some .int) : Cond) ∈ wsL_law := qc4 _ (List.mem_of_getElem? (i := 22) rfl)
theorem q119 : (Cond.methodLink RX2 71 yX4_withLoaner : Cond) ∈ wsL_law := qc4 _ (List.mem_of_getElem? (i := 23) rfl)
theorem q120 : (Cond.instanceMethod yX4_withLoaner : Cond) ∈ wsL_law := qc5 _ (List.mem_of_getElem? (i := 0) rfl)
theorem q121 : (Cond.selects RX4 yX4_withLoaner yX4_withLoaner : Cond) ∈ wsL_law := qc5 _ (List.mem_of_getElem? (i := 1) rfl)
theorem q122 : (Cond.code yX4_withLoaner cX4_withLoaner 3 (some .int) : Cond) ∈ wsL_law := qc5 _ (List.mem_of_getElem? (i := 2) rfl)
theorem q123 : (Cond.methodLink RL 60 yL_cell : Cond) ∈ wsL_law := qc5 _ (List.mem_of_getElem? (i := 3) rfl)
theorem q124 : (Cond.static yL_cell : Cond) ∈ wsL_law := qc5 _ (List.mem_of_getElem? (i := 4) rfl)
theorem q125 : (Cond.initialized RL : Cond) ∈ wsL_law := qc5 _ (List.mem_of_getElem? (i := 5) rfl)
theorem q126 : (Cond.code yL_cell cL_cell 2 (some .int) : Cond) ∈ wsL_law := qc5 _ (List.mem_of_getElem? (i := 6) rfl)
theorem q127 : (Cond.constant RL 8 (40503) : Cond) ∈ wsL_law := qc5 _ (List.mem_of_getElem? (i := 7) rfl)
theorem q128 : (Cond.methodLink RL 64 yL_low : Cond) ∈ wsL_law := qc5 _ (List.mem_of_getElem? (i := 8) rfl)
theorem q129 : (Cond.static yL_low : Cond) ∈ wsL_law := qc5 _ (List.mem_of_getElem? (i := 9) rfl)
theorem q130 : (Cond.code yL_low cL_low 2 (some .int) : Cond) ∈ wsL_law := qc5 _ (List.mem_of_getElem? (i := 10) rfl)
theorem q131 : (Cond.constant RL 7 (2147483647) : Cond) ∈ wsL_law := qc5 _ (List.mem_of_getElem? (i := 11) rfl)
theorem q132 : (Cond.methodLink RL 44 yX6_doneIn : Cond) ∈ wsL_law := qc5 _ (List.mem_of_getElem? (i := 12) rfl)
theorem q133 : (Cond.instanceMethod yX6_doneIn : Cond) ∈ wsL_law := qc5 _ (List.mem_of_getElem? (i := 13) rfl)
theorem q134 : (Cond.selects RX6 yX6_doneIn yX6_doneIn : Cond) ∈ wsL_law := qc5 _ (List.mem_of_getElem? (i := 14) rfl)
theorem q135 : (Cond.code yX6_doneIn cX6_doneIn 4 (some .int) : Cond) ∈ wsL_law := qc5 _ (List.mem_of_getElem? (i := 15) rfl)
theorem q136 : (Cond.fieldLink RX6 127 "SetRepairs$Sets" "state" "[I" : Cond) ∈ wsL_law := qc5 _ (List.mem_of_getElem? (i := 16) rfl)
theorem q137 : (Cond.methodLink RX6 123 yX6_isSet : Cond) ∈ wsL_law := qc5 _ (List.mem_of_getElem? (i := 17) rfl)
theorem q138 : (Cond.instanceMethod yX6_isSet : Cond) ∈ wsL_law := qc5 _ (List.mem_of_getElem? (i := 18) rfl)
theorem q139 : (Cond.selects RX6 yX6_isSet yX6_isSet : Cond) ∈ wsL_law := qc5 _ (List.mem_of_getElem? (i := 19) rfl)
theorem q140 : (Cond.code yX6_isSet cX6_isSet 2 (some .boolean) : Cond) ∈ wsL_law := qc5 _ (List.mem_of_getElem? (i := 20) rfl)
theorem q141 : (Cond.methodLink RX6 40 yX6_isIndex : Cond) ∈ wsL_law := qc5 _ (List.mem_of_getElem? (i := 21) rfl)
theorem q142 : (Cond.static yX6_isIndex : Cond) ∈ wsL_law := qc5 _ (List.mem_of_getElem? (i := 22) rfl)
theorem q143 : (Cond.code yX6_isIndex cX6_isIndex 2 (some .boolean) : Cond) ∈ wsL_law := qc5 _ (List.mem_of_getElem? (i := 23) rfl)
theorem q144 : (Cond.methodLink RX6 146 yX2_copyFrom : Cond) ∈ wsL_law := qc6 _ (List.mem_of_getElem? (i := 0) rfl)
theorem q145 : (Cond.instanceMethod yX2_copyFrom : Cond) ∈ wsL_law := qc6 _ (List.mem_of_getElem? (i := 1) rfl)
theorem q146 : (Cond.selects RX2 yX2_copyFrom yX2_copyFrom : Cond) ∈ wsL_law := qc6 _ (List.mem_of_getElem? (i := 2) rfl)
theorem q147 : (Cond.code yX2_copyFrom cX2_copyFrom 2 none : Cond) ∈ wsL_law := qc6 _ (List.mem_of_getElem? (i := 3) rfl)
theorem q148 : (Cond.methodLink RX2 48 arraycopyName : Cond) ∈ wsL_law := qc6 _ (List.mem_of_getElem? (i := 4) rfl)
theorem q149 : (Cond.native arraycopyName : Cond) ∈ wsL_law := qc6 _ (List.mem_of_getElem? (i := 5) rfl)
theorem q150 : (Cond.static arraycopyName : Cond) ∈ wsL_law := qc6 _ (List.mem_of_getElem? (i := 6) rfl)
theorem q151 : (Cond.initialized "java/lang/System" : Cond) ∈ wsL_law := qc6 _ (List.mem_of_getElem? (i := 7) rfl)
theorem q152 : (Cond.methodLink RX2 54 yX5_copyFrom : Cond) ∈ wsL_law := qc6 _ (List.mem_of_getElem? (i := 8) rfl)
theorem q153 : (Cond.instanceMethod yX5_copyFrom : Cond) ∈ wsL_law := qc6 _ (List.mem_of_getElem? (i := 9) rfl)
theorem q154 : (Cond.selects RX5 yX5_copyFrom yX5_copyFrom : Cond) ∈ wsL_law := qc6 _ (List.mem_of_getElem? (i := 10) rfl)
theorem q155 : (Cond.code yX5_copyFrom cX5_copyFrom 2 none : Cond) ∈ wsL_law := qc6 _ (List.mem_of_getElem? (i := 11) rfl)
theorem q156 : (Cond.methodLink RX5 37 arraycopyName : Cond) ∈ wsL_law := qc6 _ (List.mem_of_getElem? (i := 12) rfl)
theorem q157 : (Cond.methodLink RX2 58 yX4_copyFrom : Cond) ∈ wsL_law := qc6 _ (List.mem_of_getElem? (i := 13) rfl)
theorem q158 : (Cond.instanceMethod yX4_copyFrom : Cond) ∈ wsL_law := qc6 _ (List.mem_of_getElem? (i := 14) rfl)
theorem q159 : (Cond.selects RX4 yX4_copyFrom yX4_copyFrom : Cond) ∈ wsL_law := qc6 _ (List.mem_of_getElem? (i := 15) rfl)
theorem q160 : (Cond.code yX4_copyFrom cX4_copyFrom 2 none : Cond) ∈ wsL_law := qc6 _ (List.mem_of_getElem? (i := 16) rfl)
theorem q161 : (Cond.methodLink RX4 40 arraycopyName : Cond) ∈ wsL_law := qc6 _ (List.mem_of_getElem? (i := 17) rfl)
theorem q162 : (Cond.methodLink RX2 61 yX1_copyFrom : Cond) ∈ wsL_law := qc6 _ (List.mem_of_getElem? (i := 18) rfl)
theorem q163 : (Cond.instanceMethod yX1_copyFrom : Cond) ∈ wsL_law := qc6 _ (List.mem_of_getElem? (i := 19) rfl)
theorem q164 : (Cond.selects RX1 yX1_copyFrom yX1_copyFrom : Cond) ∈ wsL_law := qc6 _ (List.mem_of_getElem? (i := 20) rfl)
theorem q165 : (Cond.code yX1_copyFrom cX1_copyFrom 2 none : Cond) ∈ wsL_law := qc6 _ (List.mem_of_getElem? (i := 21) rfl)
theorem q166 : (Cond.fieldLink RX1 7 "SetRepairs$Books" "billsPaid" "I" : Cond) ∈ wsL_law := qc6 _ (List.mem_of_getElem? (i := 22) rfl)
theorem q167 : (Cond.fieldLink RX1 13 "SetRepairs$Books" "feesPaid" "I" : Cond) ∈ wsL_law := qc6 _ (List.mem_of_getElem? (i := 23) rfl)
theorem q168 : (Cond.fieldLink RX1 16 "SetRepairs$Books" "soldFor" "I" : Cond) ∈ wsL_law := qc7 _ (List.mem_of_getElem? (i := 0) rfl)
theorem q169 : (Cond.fieldLink RX1 19 "SetRepairs$Books" "partsBuiltIn" "I" : Cond) ∈ wsL_law := qc7 _ (List.mem_of_getElem? (i := 1) rfl)
theorem q170 : (Cond.fieldLink RX1 22 "SetRepairs$Books" "setsDone" "I" : Cond) ∈ wsL_law := qc7 _ (List.mem_of_getElem? (i := 2) rfl)
theorem q171 : (Cond.fieldLink RX1 25 "SetRepairs$Books" "daysToDone" "I" : Cond) ∈ wsL_law := qc7 _ (List.mem_of_getElem? (i := 3) rfl)
theorem q172 : (Cond.methodLink RX6 177 yX2_passDay : Cond) ∈ wsL_law := qc7 _ (List.mem_of_getElem? (i := 4) rfl)
theorem q173 : (Cond.instanceMethod yX2_passDay : Cond) ∈ wsL_law := qc7 _ (List.mem_of_getElem? (i := 5) rfl)
theorem q174 : (Cond.selects RX2 yX2_passDay yX2_passDay : Cond) ∈ wsL_law := qc7 _ (List.mem_of_getElem? (i := 6) rfl)
theorem q175 : (Cond.code yX2_passDay cX2_passDay 2 none : Cond) ∈ wsL_law := qc7 _ (List.mem_of_getElem? (i := 7) rfl)
theorem q176 : (Cond.methodLink RX2 134 yX2_takeOrders : Cond) ∈ wsL_law := qc7 _ (List.mem_of_getElem? (i := 8) rfl)
theorem q177 : (Cond.instanceMethod yX2_takeOrders : Cond) ∈ wsL_law := qc7 _ (List.mem_of_getElem? (i := 9) rfl)
theorem q178 : (Cond.selects RX2 yX2_takeOrders yX2_takeOrders : Cond) ∈ wsL_law := qc7 _ (List.mem_of_getElem? (i := 10) rfl)
theorem q179 : (Cond.code yX2_takeOrders cX2_takeOrders 2 none : Cond) ∈ wsL_law := qc7 _ (List.mem_of_getElem? (i := 11) rfl)
theorem q180 : (Cond.fieldLink RX2 143 "SetRepairs$Store" "orders" "I" : Cond) ∈ wsL_law := qc7 _ (List.mem_of_getElem? (i := 12) rfl)
theorem q181 : (Cond.fieldLink RX2 146 "SetRepairs$Store" "orderDay" "[I" : Cond) ∈ wsL_law := qc7 _ (List.mem_of_getElem? (i := 13) rfl)
theorem q182 : (Cond.fieldLink RX2 149 "SetRepairs$Store" "stock" "[I" : Cond) ∈ wsL_law := qc7 _ (List.mem_of_getElem? (i := 14) rfl)
theorem q183 : (Cond.fieldLink RX2 152 "SetRepairs$Store" "orderPart" "[I" : Cond) ∈ wsL_law := qc7 _ (List.mem_of_getElem? (i := 15) rfl)
theorem q184 : (Cond.fieldLink RX2 155 "SetRepairs$Store" "orderMany" "[I" : Cond) ∈ wsL_law := qc7 _ (List.mem_of_getElem? (i := 16) rfl)
theorem q185 : (Cond.methodLink RX2 102 yX2_reserveParts : Cond) ∈ wsL_law := qc7 _ (List.mem_of_getElem? (i := 17) rfl)
theorem q186 : (Cond.instanceMethod yX2_reserveParts : Cond) ∈ wsL_law := qc7 _ (List.mem_of_getElem? (i := 18) rfl)
theorem q187 : (Cond.selects RX2 yX2_reserveParts yX2_reserveParts : Cond) ∈ wsL_law := qc7 _ (List.mem_of_getElem? (i := 19) rfl)
theorem q188 : (Cond.code yX2_reserveParts cX2_reserveParts 1 none : Cond) ∈ wsL_law := qc7 _ (List.mem_of_getElem? (i := 20) rfl)
theorem q189 : (Cond.methodLink RX2 105 yX2_reservePartsWhere : Cond) ∈ wsL_law := qc7 _ (List.mem_of_getElem? (i := 21) rfl)
theorem q190 : (Cond.instanceMethod yX2_reservePartsWhere : Cond) ∈ wsL_law := qc7 _ (List.mem_of_getElem? (i := 22) rfl)
theorem q191 : (Cond.selects RX2 yX2_reservePartsWhere yX2_reservePartsWhere : Cond) ∈ wsL_law := qc7 _ (List.mem_of_getElem? (i := 23) rfl)
theorem q192 : (Cond.code yX2_reservePartsWhere cX2_reservePartsWhere 4 none : Cond) ∈ wsL_law := qc8 _ (List.mem_of_getElem? (i := 0) rfl)
theorem q193 : (Cond.fieldLink RX2 78 "SetRepairs$Sets" "many" "I" : Cond) ∈ wsL_law := qc8 _ (List.mem_of_getElem? (i := 1) rfl)
theorem q194 : (Cond.fieldLink RX2 84 "SetRepairs$Sets" "fault" "[I" : Cond) ∈ wsL_law := qc8 _ (List.mem_of_getElem? (i := 2) rfl)
theorem q195 : (Cond.fieldLink RX2 81 "SetRepairs$Sets" "state" "[I" : Cond) ∈ wsL_law := qc8 _ (List.mem_of_getElem? (i := 3) rfl)
theorem q196 : (Cond.methodLink RX2 109 yX4_isTurnOf : Cond) ∈ wsL_law := qc8 _ (List.mem_of_getElem? (i := 4) rfl)
theorem q197 : (Cond.instanceMethod yX4_isTurnOf : Cond) ∈ wsL_law := qc8 _ (List.mem_of_getElem? (i := 5) rfl)
theorem q198 : (Cond.selects RX4 yX4_isTurnOf yX4_isTurnOf : Cond) ∈ wsL_law := qc8 _ (List.mem_of_getElem? (i := 6) rfl)
theorem q199 : (Cond.code yX4_isTurnOf cX4_isTurnOf 4 (some .boolean) : Cond) ∈ wsL_law := qc8 _ (List.mem_of_getElem? (i := 7) rfl)
theorem q200 : (Cond.methodLink RX2 113 yX5_lowestShort : Cond) ∈ wsL_law := qc8 _ (List.mem_of_getElem? (i := 8) rfl)
theorem q201 : (Cond.instanceMethod yX5_lowestShort : Cond) ∈ wsL_law := qc8 _ (List.mem_of_getElem? (i := 9) rfl)
theorem q202 : (Cond.selects RX5 yX5_lowestShort yX5_lowestShort : Cond) ∈ wsL_law := qc8 _ (List.mem_of_getElem? (i := 10) rfl)
theorem q203 : (Cond.code yX5_lowestShort cX5_lowestShort 3 (some .int) : Cond) ∈ wsL_law := qc8 _ (List.mem_of_getElem? (i := 11) rfl)
theorem q204 : (Cond.methodLink RX5 50 yX5_free : Cond) ∈ wsL_law := qc8 _ (List.mem_of_getElem? (i := 12) rfl)
theorem q205 : (Cond.instanceMethod yX5_free : Cond) ∈ wsL_law := qc8 _ (List.mem_of_getElem? (i := 13) rfl)
theorem q206 : (Cond.selects RX5 yX5_free yX5_free : Cond) ∈ wsL_law := qc8 _ (List.mem_of_getElem? (i := 14) rfl)
theorem q207 : (Cond.code yX5_free cX5_free 2 (some .int) : Cond) ∈ wsL_law := qc8 _ (List.mem_of_getElem? (i := 15) rfl)
theorem q208 : (Cond.methodLink RX5 46 yX5_needOf : Cond) ∈ wsL_law := qc8 _ (List.mem_of_getElem? (i := 16) rfl)
theorem q209 : (Cond.static yX5_needOf : Cond) ∈ wsL_law := qc8 _ (List.mem_of_getElem? (i := 17) rfl)
theorem q210 : (Cond.code yX5_needOf cX5_needOf 2 (some .int) : Cond) ∈ wsL_law := qc8 _ (List.mem_of_getElem? (i := 18) rfl)
theorem q211 : (Cond.methodLink RX2 116 yX5_reserveFor : Cond) ∈ wsL_law := qc8 _ (List.mem_of_getElem? (i := 19) rfl)
theorem q212 : (Cond.instanceMethod yX5_reserveFor : Cond) ∈ wsL_law := qc8 _ (List.mem_of_getElem? (i := 20) rfl)
theorem q213 : (Cond.selects RX5 yX5_reserveFor yX5_reserveFor : Cond) ∈ wsL_law := qc8 _ (List.mem_of_getElem? (i := 21) rfl)
theorem q214 : (Cond.code yX5_reserveFor cX5_reserveFor 3 none : Cond) ∈ wsL_law := qc8 _ (List.mem_of_getElem? (i := 22) rfl)
theorem q215 : (Cond.methodLink RX2 158 yX5_dropOrdersOf : Cond) ∈ wsL_law := qc8 _ (List.mem_of_getElem? (i := 23) rfl)
theorem q216 : (Cond.instanceMethod yX5_dropOrdersOf : Cond) ∈ wsL_law := qc9 _ (List.mem_of_getElem? (i := 0) rfl)
theorem q217 : (Cond.selects RX5 yX5_dropOrdersOf yX5_dropOrdersOf : Cond) ∈ wsL_law := qc9 _ (List.mem_of_getElem? (i := 1) rfl)
theorem q218 : (Cond.code yX5_dropOrdersOf cX5_dropOrdersOf 4 none : Cond) ∈ wsL_law := qc9 _ (List.mem_of_getElem? (i := 2) rfl)
theorem q219 : (Cond.methodLink RX2 137 yX2_workWhere : Cond) ∈ wsL_law := qc9 _ (List.mem_of_getElem? (i := 3) rfl)
theorem q220 : (Cond.instanceMethod yX2_workWhere : Cond) ∈ wsL_law := qc9 _ (List.mem_of_getElem? (i := 4) rfl)
theorem q221 : (Cond.selects RX2 yX2_workWhere yX2_workWhere : Cond) ∈ wsL_law := qc9 _ (List.mem_of_getElem? (i := 5) rfl)
theorem q222 : (Cond.code yX2_workWhere cX2_workWhere 7 (some .int) : Cond) ∈ wsL_law := qc9 _ (List.mem_of_getElem? (i := 6) rfl)
theorem q223 : (Cond.fieldLink RX2 161 "SetRepairs$Sets" "worked" "[I" : Cond) ∈ wsL_law := qc9 _ (List.mem_of_getElem? (i := 7) rfl)
theorem q224 : (Cond.methodLink RX2 164 Lib.Math.min.name : Cond) ∈ wsL_law := qc9 _ (List.mem_of_getElem? (i := 8) rfl)
theorem q225 : (Cond.static Lib.Math.min.name : Cond) ∈ wsL_law := qc9 _ (List.mem_of_getElem? (i := 9) rfl)
theorem q226 : (Cond.initialized "java/lang/Math" : Cond) ∈ wsL_law := qc9 _ (List.mem_of_getElem? (i := 10) rfl)
theorem q227 : (Cond.code Lib.Math.min.name Lib.Math.min.code 2 (some .int) : Cond) ∈ wsL_law := qc9 _ (List.mem_of_getElem? (i := 11) rfl)
theorem q228 : (Cond.methodLink RX2 167 yX2_finish : Cond) ∈ wsL_law := qc9 _ (List.mem_of_getElem? (i := 12) rfl)
theorem q229 : (Cond.instanceMethod yX2_finish : Cond) ∈ wsL_law := qc9 _ (List.mem_of_getElem? (i := 13) rfl)
theorem q230 : (Cond.selects RX2 yX2_finish yX2_finish : Cond) ∈ wsL_law := qc9 _ (List.mem_of_getElem? (i := 14) rfl)
theorem q231 : (Cond.code yX2_finish cX2_finish 4 none : Cond) ∈ wsL_law := qc9 _ (List.mem_of_getElem? (i := 15) rfl)
theorem q232 : (Cond.fieldLink RX2 170 "SetRepairs$Sets" "estimate" "[I" : Cond) ∈ wsL_law := qc9 _ (List.mem_of_getElem? (i := 16) rfl)
theorem q233 : (Cond.fieldLink RX2 125 "SetRepairs$Sets" "bill" "[I" : Cond) ∈ wsL_law := qc9 _ (List.mem_of_getElem? (i := 17) rfl)
theorem q234 : (Cond.fieldLink RX2 75 "SetRepairs$Sets" "ready" "[I" : Cond) ∈ wsL_law := qc9 _ (List.mem_of_getElem? (i := 18) rfl)
theorem q235 : (Cond.fieldLink RX2 179 "SetRepairs$Books" "partsBuiltIn" "I" : Cond) ∈ wsL_law := qc9 _ (List.mem_of_getElem? (i := 19) rfl)
theorem q236 : (Cond.fieldLink RX2 182 "SetRepairs$Books" "daysToDone" "I" : Cond) ∈ wsL_law := qc9 _ (List.mem_of_getElem? (i := 20) rfl)
theorem q237 : (Cond.fieldLink RX2 185 "SetRepairs$Sets" "came" "[I" : Cond) ∈ wsL_law := qc9 _ (List.mem_of_getElem? (i := 21) rfl)
theorem q238 : (Cond.fieldLink RX2 188 "SetRepairs$Books" "setsDone" "I" : Cond) ∈ wsL_law := qc9 _ (List.mem_of_getElem? (i := 22) rfl)
theorem q239 : (Cond.methodLink RX2 173 yX5_takeReservedFor : Cond) ∈ wsL_law := qc9 _ (List.mem_of_getElem? (i := 23) rfl)
theorem q240 : (Cond.instanceMethod yX5_takeReservedFor : Cond) ∈ wsL_law := qc10 _ (List.mem_of_getElem? (i := 0) rfl)
theorem q241 : (Cond.selects RX5 yX5_takeReservedFor yX5_takeReservedFor : Cond) ∈ wsL_law := qc10 _ (List.mem_of_getElem? (i := 1) rfl)
theorem q242 : (Cond.code yX5_takeReservedFor cX5_takeReservedFor 3 none : Cond) ∈ wsL_law := qc10 _ (List.mem_of_getElem? (i := 2) rfl)
theorem q243 : (Cond.methodLink RX2 176 yX2_costNow : Cond) ∈ wsL_law := qc10 _ (List.mem_of_getElem? (i := 3) rfl)
theorem q244 : (Cond.instanceMethod yX2_costNow : Cond) ∈ wsL_law := qc10 _ (List.mem_of_getElem? (i := 4) rfl)
theorem q245 : (Cond.selects RX2 yX2_costNow yX2_costNow : Cond) ∈ wsL_law := qc10 _ (List.mem_of_getElem? (i := 5) rfl)
theorem q246 : (Cond.code yX2_costNow cX2_costNow 4 (some .int) : Cond) ∈ wsL_law := qc10 _ (List.mem_of_getElem? (i := 6) rfl)
theorem q247 : (Cond.methodLink RX2 64 yX5_priceOfParts : Cond) ∈ wsL_law := qc10 _ (List.mem_of_getElem? (i := 7) rfl)
theorem q248 : (Cond.instanceMethod yX5_priceOfParts : Cond) ∈ wsL_law := qc10 _ (List.mem_of_getElem? (i := 8) rfl)
theorem q249 : (Cond.selects RX5 yX5_priceOfParts yX5_priceOfParts : Cond) ∈ wsL_law := qc10 _ (List.mem_of_getElem? (i := 9) rfl)
theorem q250 : (Cond.code yX5_priceOfParts cX5_priceOfParts 4 (some .int) : Cond) ∈ wsL_law := qc10 _ (List.mem_of_getElem? (i := 10) rfl)
theorem q251 : (Cond.methodLink RX2 140 yX2_sellUnclaimed : Cond) ∈ wsL_law := qc10 _ (List.mem_of_getElem? (i := 11) rfl)
theorem q252 : (Cond.instanceMethod yX2_sellUnclaimed : Cond) ∈ wsL_law := qc10 _ (List.mem_of_getElem? (i := 12) rfl)
theorem q253 : (Cond.selects RX2 yX2_sellUnclaimed yX2_sellUnclaimed : Cond) ∈ wsL_law := qc10 _ (List.mem_of_getElem? (i := 13) rfl)
theorem q254 : (Cond.code yX2_sellUnclaimed cX2_sellUnclaimed 2 none : Cond) ∈ wsL_law := qc10 _ (List.mem_of_getElem? (i := 14) rfl)
theorem q255 : (Cond.fieldLink RX2 195 "SetRepairs$Books" "soldFor" "I" : Cond) ∈ wsL_law := qc10 _ (List.mem_of_getElem? (i := 15) rfl)
theorem q256 : (Cond.fieldLink RX2 131 "SetRepairs$Sets" "loaner" "[I" : Cond) ∈ wsL_law := qc10 _ (List.mem_of_getElem? (i := 16) rfl)
theorem q257 : (Cond.methodLink RX2 191 yX4_isReady : Cond) ∈ wsL_law := qc10 _ (List.mem_of_getElem? (i := 17) rfl)
theorem q258 : (Cond.instanceMethod yX4_isReady : Cond) ∈ wsL_law := qc10 _ (List.mem_of_getElem? (i := 18) rfl)
theorem q259 : (Cond.selects RX4 yX4_isReady yX4_isReady : Cond) ∈ wsL_law := qc10 _ (List.mem_of_getElem? (i := 19) rfl)
theorem q260 : (Cond.code yX4_isReady cX4_isReady 2 (some .boolean) : Cond) ∈ wsL_law := qc10 _ (List.mem_of_getElem? (i := 20) rfl)
theorem q261 : (Cond.methodLink RL 115 yL_act : Cond) ∈ wsL_law := qc10 _ (List.mem_of_getElem? (i := 21) rfl)
theorem q262 : (Cond.static yL_act : Cond) ∈ wsL_law := qc10 _ (List.mem_of_getElem? (i := 22) rfl)
theorem q263 : (Cond.code yL_act cL_act 6 (some .int) : Cond) ∈ wsL_law := qc10 _ (List.mem_of_getElem? (i := 23) rfl)
theorem q264 : (Cond.constant RL 89 (40000) : Cond) ∈ wsL_law := qc11 _ (List.mem_of_getElem? (i := 0) rfl)
theorem q265 : (Cond.constant RL 97 (1065353216) : Cond) ∈ wsL_law := qc11 _ (List.mem_of_getElem? (i := 1) rfl)
theorem q266 : (Cond.methodLink RL 67 yX6_come : Cond) ∈ wsL_law := qc11 _ (List.mem_of_getElem? (i := 2) rfl)
theorem q267 : (Cond.instanceMethod yX6_come : Cond) ∈ wsL_law := qc11 _ (List.mem_of_getElem? (i := 3) rfl)
theorem q268 : (Cond.selects RX6 yX6_come yX6_come : Cond) ∈ wsL_law := qc11 _ (List.mem_of_getElem? (i := 4) rfl)
theorem q269 : (Cond.code yX6_come cX6_come 2 (some .int) : Cond) ∈ wsL_law := qc11 _ (List.mem_of_getElem? (i := 5) rfl)
theorem q270 : (Cond.methodLink RX6 63 yX3_record : Cond) ∈ wsL_law := qc11 _ (List.mem_of_getElem? (i := 6) rfl)
theorem q271 : (Cond.instanceMethod yX3_record : Cond) ∈ wsL_law := qc11 _ (List.mem_of_getElem? (i := 7) rfl)
theorem q272 : (Cond.selects RX3 yX3_record yX3_record : Cond) ∈ wsL_law := qc11 _ (List.mem_of_getElem? (i := 8) rfl)
theorem q273 : (Cond.code yX3_record cX3_record 2 none : Cond) ∈ wsL_law := qc11 _ (List.mem_of_getElem? (i := 9) rfl)
theorem q274 : (Cond.methodLink RX3 22 yX3_dropOldest : Cond) ∈ wsL_law := qc11 _ (List.mem_of_getElem? (i := 10) rfl)
theorem q275 : (Cond.instanceMethod yX3_dropOldest : Cond) ∈ wsL_law := qc11 _ (List.mem_of_getElem? (i := 11) rfl)
theorem q276 : (Cond.selects RX3 yX3_dropOldest yX3_dropOldest : Cond) ∈ wsL_law := qc11 _ (List.mem_of_getElem? (i := 12) rfl)
theorem q277 : (Cond.code yX3_dropOldest cX3_dropOldest 3 none : Cond) ∈ wsL_law := qc11 _ (List.mem_of_getElem? (i := 13) rfl)
theorem q278 : (Cond.methodLink RX3 25 yX2_copyFrom : Cond) ∈ wsL_law := qc11 _ (List.mem_of_getElem? (i := 14) rfl)
theorem q279 : (Cond.methodLink RX6 119 yX4_add : Cond) ∈ wsL_law := qc11 _ (List.mem_of_getElem? (i := 15) rfl)
theorem q280 : (Cond.instanceMethod yX4_add : Cond) ∈ wsL_law := qc11 _ (List.mem_of_getElem? (i := 16) rfl)
theorem q281 : (Cond.selects RX4 yX4_add yX4_add : Cond) ∈ wsL_law := qc11 _ (List.mem_of_getElem? (i := 17) rfl)
theorem q282 : (Cond.code yX4_add cX4_add 4 (some .int) : Cond) ∈ wsL_law := qc11 _ (List.mem_of_getElem? (i := 18) rfl)
theorem q283 : (Cond.methodLink RL 70 yX6_estimate : Cond) ∈ wsL_law := qc11 _ (List.mem_of_getElem? (i := 19) rfl)
theorem q284 : (Cond.instanceMethod yX6_estimate : Cond) ∈ wsL_law := qc11 _ (List.mem_of_getElem? (i := 20) rfl)
theorem q285 : (Cond.selects RX6 yX6_estimate yX6_estimate : Cond) ∈ wsL_law := qc11 _ (List.mem_of_getElem? (i := 21) rfl)
theorem q286 : (Cond.code yX6_estimate cX6_estimate 3 (some .int) : Cond) ∈ wsL_law := qc11 _ (List.mem_of_getElem? (i := 22) rfl)
theorem q287 : (Cond.fieldLink RX6 130 "SetRepairs$Sets" "fault" "[I" : Cond) ∈ wsL_law := qc11 _ (List.mem_of_getElem? (i := 23) rfl)
theorem q288 : (Cond.fieldLink RX6 137 "SetRepairs$Sets" "estimate" "[I" : Cond) ∈ wsL_law := qc12 _ (List.mem_of_getElem? (i := 0) rfl)
theorem q289 : (Cond.methodLink RX6 133 yX2_costNow : Cond) ∈ wsL_law := qc12 _ (List.mem_of_getElem? (i := 1) rfl)
theorem q290 : (Cond.methodLink RL 73 yX6_answer : Cond) ∈ wsL_law := qc12 _ (List.mem_of_getElem? (i := 2) rfl)
theorem q291 : (Cond.instanceMethod yX6_answer : Cond) ∈ wsL_law := qc12 _ (List.mem_of_getElem? (i := 3) rfl)
theorem q292 : (Cond.selects RX6 yX6_answer yX6_answer : Cond) ∈ wsL_law := qc12 _ (List.mem_of_getElem? (i := 4) rfl)
theorem q293 : (Cond.code yX6_answer cX6_answer 3 (some .int) : Cond) ∈ wsL_law := qc12 _ (List.mem_of_getElem? (i := 5) rfl)
theorem q294 : (Cond.methodLink RX6 140 yX2_decide : Cond) ∈ wsL_law := qc12 _ (List.mem_of_getElem? (i := 6) rfl)
theorem q295 : (Cond.instanceMethod yX2_decide : Cond) ∈ wsL_law := qc12 _ (List.mem_of_getElem? (i := 7) rfl)
theorem q296 : (Cond.selects RX2 yX2_decide yX2_decide : Cond) ∈ wsL_law := qc12 _ (List.mem_of_getElem? (i := 8) rfl)
theorem q297 : (Cond.code yX2_decide cX2_decide 3 none : Cond) ∈ wsL_law := qc12 _ (List.mem_of_getElem? (i := 9) rfl)
theorem q298 : (Cond.methodLink RL 77 yX6_put : Cond) ∈ wsL_law := qc12 _ (List.mem_of_getElem? (i := 10) rfl)
theorem q299 : (Cond.instanceMethod yX6_put : Cond) ∈ wsL_law := qc12 _ (List.mem_of_getElem? (i := 11) rfl)
theorem q300 : (Cond.selects RX6 yX6_put yX6_put : Cond) ∈ wsL_law := qc12 _ (List.mem_of_getElem? (i := 12) rfl)
theorem q301 : (Cond.code yX6_put cX6_put 3 (some .int) : Cond) ∈ wsL_law := qc12 _ (List.mem_of_getElem? (i := 13) rfl)
theorem q302 : (Cond.fieldLink RX6 110 "SetRepairs$Store" "stock" "[I" : Cond) ∈ wsL_law := qc12 _ (List.mem_of_getElem? (i := 14) rfl)
theorem q303 : (Cond.methodLink RX6 113 yX2_reserveParts : Cond) ∈ wsL_law := qc12 _ (List.mem_of_getElem? (i := 15) rfl)
theorem q304 : (Cond.methodLink RL 80 yX6_order : Cond) ∈ wsL_law := qc12 _ (List.mem_of_getElem? (i := 16) rfl)
theorem q305 : (Cond.instanceMethod yX6_order : Cond) ∈ wsL_law := qc12 _ (List.mem_of_getElem? (i := 17) rfl)
theorem q306 : (Cond.selects RX6 yX6_order yX6_order : Cond) ∈ wsL_law := qc12 _ (List.mem_of_getElem? (i := 18) rfl)
theorem q307 : (Cond.code yX6_order cX6_order 4 (some .int) : Cond) ∈ wsL_law := qc12 _ (List.mem_of_getElem? (i := 19) rfl)
theorem q308 : (Cond.fieldLink RX6 96 "SetRepairs$Store" "lead" "[I" : Cond) ∈ wsL_law := qc12 _ (List.mem_of_getElem? (i := 20) rfl)
theorem q309 : (Cond.methodLink RX6 106 yX5_addOrder : Cond) ∈ wsL_law := qc12 _ (List.mem_of_getElem? (i := 21) rfl)
theorem q310 : (Cond.instanceMethod yX5_addOrder : Cond) ∈ wsL_law := qc12 _ (List.mem_of_getElem? (i := 22) rfl)
theorem q311 : (Cond.selects RX5 yX5_addOrder yX5_addOrder : Cond) ∈ wsL_law := qc12 _ (List.mem_of_getElem? (i := 23) rfl)
theorem q312 : (Cond.code yX5_addOrder cX5_addOrder 4 none : Cond) ∈ wsL_law := qc13 _ (List.mem_of_getElem? (i := 0) rfl)
theorem q313 : (Cond.methodLink RL 83 yX6_lend : Cond) ∈ wsL_law := qc13 _ (List.mem_of_getElem? (i := 1) rfl)
theorem q314 : (Cond.instanceMethod yX6_lend : Cond) ∈ wsL_law := qc13 _ (List.mem_of_getElem? (i := 2) rfl)
theorem q315 : (Cond.selects RX6 yX6_lend yX6_lend : Cond) ∈ wsL_law := qc13 _ (List.mem_of_getElem? (i := 3) rfl)
theorem q316 : (Cond.code yX6_lend cX6_lend 2 (some .int) : Cond) ∈ wsL_law := qc13 _ (List.mem_of_getElem? (i := 4) rfl)
theorem q317 : (Cond.fieldLink RX6 156 "SetRepairs$Sets" "loaner" "[I" : Cond) ∈ wsL_law := qc13 _ (List.mem_of_getElem? (i := 5) rfl)
theorem q318 : (Cond.methodLink RL 86 yX6_collect : Cond) ∈ wsL_law := qc13 _ (List.mem_of_getElem? (i := 6) rfl)
theorem q319 : (Cond.instanceMethod yX6_collect : Cond) ∈ wsL_law := qc13 _ (List.mem_of_getElem? (i := 7) rfl)
theorem q320 : (Cond.selects RX6 yX6_collect yX6_collect : Cond) ∈ wsL_law := qc13 _ (List.mem_of_getElem? (i := 8) rfl)
theorem q321 : (Cond.code yX6_collect cX6_collect 2 (some .int) : Cond) ∈ wsL_law := qc13 _ (List.mem_of_getElem? (i := 9) rfl)
theorem q322 : (Cond.methodLink RX6 162 yX4_isReady : Cond) ∈ wsL_law := qc13 _ (List.mem_of_getElem? (i := 10) rfl)
theorem q323 : (Cond.methodLink RX6 165 yX2_handOver : Cond) ∈ wsL_law := qc13 _ (List.mem_of_getElem? (i := 11) rfl)
theorem q324 : (Cond.instanceMethod yX2_handOver : Cond) ∈ wsL_law := qc13 _ (List.mem_of_getElem? (i := 12) rfl)
theorem q325 : (Cond.selects RX2 yX2_handOver yX2_handOver : Cond) ∈ wsL_law := qc13 _ (List.mem_of_getElem? (i := 13) rfl)
theorem q326 : (Cond.code yX2_handOver cX2_handOver 3 (some .int) : Cond) ∈ wsL_law := qc13 _ (List.mem_of_getElem? (i := 14) rfl)
theorem q327 : (Cond.fieldLink RX2 122 "SetRepairs$Books" "billsPaid" "I" : Cond) ∈ wsL_law := qc13 _ (List.mem_of_getElem? (i := 15) rfl)
theorem q328 : (Cond.fieldLink RX2 128 "SetRepairs$Books" "feesPaid" "I" : Cond) ∈ wsL_law := qc13 _ (List.mem_of_getElem? (i := 16) rfl)
theorem q329 : (Cond.methodLink RX2 119 yX2_storageFee : Cond) ∈ wsL_law := qc13 _ (List.mem_of_getElem? (i := 17) rfl)
theorem q330 : (Cond.instanceMethod yX2_storageFee : Cond) ∈ wsL_law := qc13 _ (List.mem_of_getElem? (i := 18) rfl)
theorem q331 : (Cond.selects RX2 yX2_storageFee yX2_storageFee : Cond) ∈ wsL_law := qc13 _ (List.mem_of_getElem? (i := 19) rfl)
theorem q332 : (Cond.code yX2_storageFee cX2_storageFee 3 (some .int) : Cond) ∈ wsL_law := qc13 _ (List.mem_of_getElem? (i := 20) rfl)
theorem q333 : (Cond.methodLink RL 90 yX6_setPart : Cond) ∈ wsL_law := qc13 _ (List.mem_of_getElem? (i := 21) rfl)
theorem q334 : (Cond.instanceMethod yX6_setPart : Cond) ∈ wsL_law := qc13 _ (List.mem_of_getElem? (i := 22) rfl)
theorem q335 : (Cond.selects RX6 yX6_setPart yX6_setPart : Cond) ∈ wsL_law := qc13 _ (List.mem_of_getElem? (i := 23) rfl)
theorem q336 : (Cond.code yX6_setPart cX6_setPart 5 (some .int) : Cond) ∈ wsL_law := qc14 _ (List.mem_of_getElem? (i := 0) rfl)
theorem q337 : (Cond.constant RX6 86 (50000) : Cond) ∈ wsL_law := qc14 _ (List.mem_of_getElem? (i := 1) rfl)
theorem q338 : (Cond.fieldLink RX6 91 "SetRepairs$Store" "price" "[I" : Cond) ∈ wsL_law := qc14 _ (List.mem_of_getElem? (i := 2) rfl)
theorem q339 : (Cond.methodLink RL 94 yX6_setNumber : Cond) ∈ wsL_law := qc14 _ (List.mem_of_getElem? (i := 3) rfl)
theorem q340 : (Cond.instanceMethod yX6_setNumber : Cond) ∈ wsL_law := qc14 _ (List.mem_of_getElem? (i := 4) rfl)
theorem q341 : (Cond.selects RX6 yX6_setNumber yX6_setNumber : Cond) ∈ wsL_law := qc14 _ (List.mem_of_getElem? (i := 5) rfl)
theorem q342 : (Cond.code yX6_setNumber cX6_setNumber 4 (some .int) : Cond) ∈ wsL_law := qc14 _ (List.mem_of_getElem? (i := 6) rfl)
theorem q343 : (Cond.fieldLink RX6 67 "SetRepairs" "LOWEST_NUMBER" "[I" : Cond) ∈ wsL_law := qc14 _ (List.mem_of_getElem? (i := 7) rfl)
theorem q344 : (Cond.fieldLink RX6 70 "SetRepairs" "HIGHEST_NUMBER" "[I" : Cond) ∈ wsL_law := qc14 _ (List.mem_of_getElem? (i := 8) rfl)
theorem q345 : (Cond.fieldLink RX6 83 "SetRepairs$Desk" "numbers" "[I" : Cond) ∈ wsL_law := qc14 _ (List.mem_of_getElem? (i := 9) rfl)
theorem q346 : (Cond.methodLink RX6 77 yX4_withLoaner : Cond) ∈ wsL_law := qc14 _ (List.mem_of_getElem? (i := 10) rfl)
theorem q347 : (Cond.methodLink RL 98 yX6_setRate : Cond) ∈ wsL_law := qc14 _ (List.mem_of_getElem? (i := 11) rfl)
theorem q348 : (Cond.instanceMethod yX6_setRate : Cond) ∈ wsL_law := qc14 _ (List.mem_of_getElem? (i := 12) rfl)
theorem q349 : (Cond.selects RX6 yX6_setRate yX6_setRate : Cond) ∈ wsL_law := qc14 _ (List.mem_of_getElem? (i := 13) rfl)
theorem q350 : (Cond.code yX6_setRate cX6_setRate 4 (some .int) : Cond) ∈ wsL_law := qc14 _ (List.mem_of_getElem? (i := 14) rfl)
theorem q351 : (Cond.fieldLink RX6 44 "SetRepairs" "LOWEST_RATE_BITS" "[I" : Cond) ∈ wsL_law := qc14 _ (List.mem_of_getElem? (i := 15) rfl)
theorem q352 : (Cond.fieldLink RX6 48 "SetRepairs" "HIGHEST_RATE_BITS" "[I" : Cond) ∈ wsL_law := qc14 _ (List.mem_of_getElem? (i := 16) rfl)
theorem q353 : (Cond.fieldLink RX6 59 "SetRepairs$Desk" "rates" "[F" : Cond) ∈ wsL_law := qc14 _ (List.mem_of_getElem? (i := 17) rfl)
theorem q354 : (Cond.methodLink RX6 55 yX6_floatOf : Cond) ∈ wsL_law := qc14 _ (List.mem_of_getElem? (i := 18) rfl)
theorem q355 : (Cond.static yX6_floatOf : Cond) ∈ wsL_law := qc14 _ (List.mem_of_getElem? (i := 19) rfl)
theorem q356 : (Cond.code yX6_floatOf cX6_floatOf 5 (some .float) : Cond) ∈ wsL_law := qc14 _ (List.mem_of_getElem? (i := 20) rfl)
theorem q357 : (Cond.constant RX6 237 (8388607) : Cond) ∈ wsL_law := qc14 _ (List.mem_of_getElem? (i := 21) rfl)
theorem q358 : (Cond.constant RX6 238 (8388608) : Cond) ∈ wsL_law := qc14 _ (List.mem_of_getElem? (i := 22) rfl)
theorem q359 : (Cond.methodLink RL 101 yX6_undo : Cond) ∈ wsL_law := qc14 _ (List.mem_of_getElem? (i := 23) rfl)
theorem q360 : (Cond.instanceMethod yX6_undo : Cond) ∈ wsL_law := qc15 _ (List.mem_of_getElem? (i := 0) rfl)
theorem q361 : (Cond.selects RX6 yX6_undo yX6_undo : Cond) ∈ wsL_law := qc15 _ (List.mem_of_getElem? (i := 1) rfl)
theorem q362 : (Cond.code yX6_undo cX6_undo 1 (some .int) : Cond) ∈ wsL_law := qc15 _ (List.mem_of_getElem? (i := 2) rfl)
theorem q363 : (Cond.methodLink RX6 188 yX3_giveBack : Cond) ∈ wsL_law := qc15 _ (List.mem_of_getElem? (i := 3) rfl)
theorem q364 : (Cond.instanceMethod yX3_giveBack : Cond) ∈ wsL_law := qc15 _ (List.mem_of_getElem? (i := 4) rfl)
theorem q365 : (Cond.selects RX3 yX3_giveBack yX3_giveBack : Cond) ∈ wsL_law := qc15 _ (List.mem_of_getElem? (i := 5) rfl)
theorem q366 : (Cond.code yX3_giveBack cX3_giveBack 2 none : Cond) ∈ wsL_law := qc15 _ (List.mem_of_getElem? (i := 6) rfl)
theorem q367 : (Cond.methodLink RL 105 yX6_keep : Cond) ∈ wsL_law := qc15 _ (List.mem_of_getElem? (i := 7) rfl)
theorem q368 : (Cond.instanceMethod yX6_keep : Cond) ∈ wsL_law := qc15 _ (List.mem_of_getElem? (i := 8) rfl)
theorem q369 : (Cond.selects RX6 yX6_keep yX6_keep : Cond) ∈ wsL_law := qc15 _ (List.mem_of_getElem? (i := 9) rfl)
theorem q370 : (Cond.code yX6_keep cX6_keep 1 (some .int) : Cond) ∈ wsL_law := qc15 _ (List.mem_of_getElem? (i := 10) rfl)
theorem q371 : (Cond.methodLink RL 108 yX6_restore : Cond) ∈ wsL_law := qc15 _ (List.mem_of_getElem? (i := 11) rfl)
theorem q372 : (Cond.instanceMethod yX6_restore : Cond) ∈ wsL_law := qc15 _ (List.mem_of_getElem? (i := 12) rfl)
theorem q373 : (Cond.selects RX6 yX6_restore yX6_restore : Cond) ∈ wsL_law := qc15 _ (List.mem_of_getElem? (i := 13) rfl)
theorem q374 : (Cond.code yX6_restore cX6_restore 1 (some .int) : Cond) ∈ wsL_law := qc15 _ (List.mem_of_getElem? (i := 14) rfl)
theorem q375 : (Cond.methodLink RL 111 yX6_pass : Cond) ∈ wsL_law := qc15 _ (List.mem_of_getElem? (i := 15) rfl)
theorem q376 : (Cond.instanceMethod yX6_pass : Cond) ∈ wsL_law := qc15 _ (List.mem_of_getElem? (i := 16) rfl)
theorem q377 : (Cond.selects RX6 yX6_pass yX6_pass : Cond) ∈ wsL_law := qc15 _ (List.mem_of_getElem? (i := 17) rfl)
theorem q378 : (Cond.code yX6_pass cX6_pass 4 (some .int) : Cond) ∈ wsL_law := qc15 _ (List.mem_of_getElem? (i := 18) rfl)
theorem q379 : (Cond.fieldLink RX6 172 "SetRepairs$Books" "setsDone" "I" : Cond) ∈ wsL_law := qc15 _ (List.mem_of_getElem? (i := 19) rfl)
theorem q380 : (Cond.methodLink RL 38 yX6_set : Cond) ∈ wsL_law := qc15 _ (List.mem_of_getElem? (i := 20) rfl)
theorem q381 : (Cond.instanceMethod yX6_set : Cond) ∈ wsL_law := qc15 _ (List.mem_of_getElem? (i := 21) rfl)
theorem q382 : (Cond.selects RX6 yX6_set yX6_set : Cond) ∈ wsL_law := qc15 _ (List.mem_of_getElem? (i := 22) rfl)
theorem q383 : (Cond.code yX6_set cX6_set 3 (some .int) : Cond) ∈ wsL_law := qc15 _ (List.mem_of_getElem? (i := 23) rfl)
theorem q384 : (Cond.fieldLink RX6 201 "SetRepairs$Sets" "came" "[I" : Cond) ∈ wsL_law := qc16 _ (List.mem_of_getElem? (i := 0) rfl)
theorem q385 : (Cond.fieldLink RX6 204 "SetRepairs$Sets" "worked" "[I" : Cond) ∈ wsL_law := qc16 _ (List.mem_of_getElem? (i := 1) rfl)
theorem q386 : (Cond.fieldLink RX6 207 "SetRepairs$Sets" "bill" "[I" : Cond) ∈ wsL_law := qc16 _ (List.mem_of_getElem? (i := 2) rfl)
theorem q387 : (Cond.fieldLink RX6 210 "SetRepairs$Sets" "ready" "[I" : Cond) ∈ wsL_law := qc16 _ (List.mem_of_getElem? (i := 3) rfl)
theorem q388 : (Cond.methodLink RX6 213 yX2_storageFee : Cond) ∈ wsL_law := qc16 _ (List.mem_of_getElem? (i := 4) rfl)
theorem q389 : (Cond.methodLink RL 119 yL_desk : Cond) ∈ wsL_law := qc16 _ (List.mem_of_getElem? (i := 5) rfl)
theorem q390 : (Cond.static yL_desk : Cond) ∈ wsL_law := qc16 _ (List.mem_of_getElem? (i := 6) rfl)
theorem q391 : (Cond.code yL_desk cL_desk 8 (some .boolean) : Cond) ∈ wsL_law := qc16 _ (List.mem_of_getElem? (i := 7) rfl)
theorem q392 : (Cond.methodLink RL 9 yL_need : Cond) ∈ wsL_law := qc16 _ (List.mem_of_getElem? (i := 8) rfl)
theorem q393 : (Cond.static yL_need : Cond) ∈ wsL_law := qc16 _ (List.mem_of_getElem? (i := 9) rfl)
theorem q394 : (Cond.code yL_need cL_need 2 (some .int) : Cond) ∈ wsL_law := qc16 _ (List.mem_of_getElem? (i := 10) rfl)
theorem q395 : (Cond.methodLink RL 15 yX6_part : Cond) ∈ wsL_law := qc16 _ (List.mem_of_getElem? (i := 11) rfl)
theorem q396 : (Cond.instanceMethod yX6_part : Cond) ∈ wsL_law := qc16 _ (List.mem_of_getElem? (i := 12) rfl)
theorem q397 : (Cond.selects RX6 yX6_part yX6_part : Cond) ∈ wsL_law := qc16 _ (List.mem_of_getElem? (i := 13) rfl)
theorem q398 : (Cond.code yX6_part cX6_part 3 (some .int) : Cond) ∈ wsL_law := qc16 _ (List.mem_of_getElem? (i := 14) rfl)
theorem q399 : (Cond.fieldLink RX6 192 "SetRepairs$Store" "reserved" "[I" : Cond) ∈ wsL_law := qc16 _ (List.mem_of_getElem? (i := 15) rfl)
theorem q400 : (Cond.methodLink RX6 195 yX5_onOrder : Cond) ∈ wsL_law := qc16 _ (List.mem_of_getElem? (i := 16) rfl)
theorem q401 : (Cond.instanceMethod yX5_onOrder : Cond) ∈ wsL_law := qc16 _ (List.mem_of_getElem? (i := 17) rfl)
theorem q402 : (Cond.selects RX5 yX5_onOrder yX5_onOrder : Cond) ∈ wsL_law := qc16 _ (List.mem_of_getElem? (i := 18) rfl)
theorem q403 : (Cond.code yX5_onOrder cX5_onOrder 4 (some .int) : Cond) ∈ wsL_law := qc16 _ (List.mem_of_getElem? (i := 19) rfl)
theorem q404 : (Cond.methodLink RX6 198 yX2_lackingOf : Cond) ∈ wsL_law := qc16 _ (List.mem_of_getElem? (i := 20) rfl)
theorem q405 : (Cond.instanceMethod yX2_lackingOf : Cond) ∈ wsL_law := qc16 _ (List.mem_of_getElem? (i := 21) rfl)
theorem q406 : (Cond.selects RX2 yX2_lackingOf yX2_lackingOf : Cond) ∈ wsL_law := qc16 _ (List.mem_of_getElem? (i := 22) rfl)
theorem q407 : (Cond.code yX2_lackingOf cX2_lackingOf 4 (some .int) : Cond) ∈ wsL_law := qc16 _ (List.mem_of_getElem? (i := 23) rfl)
theorem q408 : (Cond.methodLink RX2 97 Lib.Math.max.name : Cond) ∈ wsL_law := qc17 _ (List.mem_of_getElem? (i := 0) rfl)
theorem q409 : (Cond.static Lib.Math.max.name : Cond) ∈ wsL_law := qc17 _ (List.mem_of_getElem? (i := 1) rfl)
theorem q410 : (Cond.code Lib.Math.max.name Lib.Math.max.code 2 (some .int) : Cond) ∈ wsL_law := qc17 _ (List.mem_of_getElem? (i := 2) rfl)
theorem q411 : (Cond.methodLink RX2 87 yX5_needOf : Cond) ∈ wsL_law := qc17 _ (List.mem_of_getElem? (i := 3) rfl)
theorem q412 : (Cond.methodLink RX2 91 yX5_free : Cond) ∈ wsL_law := qc17 _ (List.mem_of_getElem? (i := 4) rfl)
theorem q413 : (Cond.methodLink RX2 94 yX5_onOrder : Cond) ∈ wsL_law := qc17 _ (List.mem_of_getElem? (i := 5) rfl)
theorem q414 : (Cond.methodLink RL 28 yL_hours : Cond) ∈ wsL_law := qc17 _ (List.mem_of_getElem? (i := 6) rfl)
theorem q415 : (Cond.static yL_hours : Cond) ∈ wsL_law := qc17 _ (List.mem_of_getElem? (i := 7) rfl)
theorem q416 : (Cond.code yL_hours cL_hours 1 (some .int) : Cond) ∈ wsL_law := qc17 _ (List.mem_of_getElem? (i := 8) rfl)
theorem q417 : (Cond.methodLink RL 41 yX6_lacks : Cond) ∈ wsL_law := qc17 _ (List.mem_of_getElem? (i := 9) rfl)
theorem q418 : (Cond.instanceMethod yX6_lacks : Cond) ∈ wsL_law := qc17 _ (List.mem_of_getElem? (i := 10) rfl)
theorem q419 : (Cond.selects RX6 yX6_lacks yX6_lacks : Cond) ∈ wsL_law := qc17 _ (List.mem_of_getElem? (i := 11) rfl)
theorem q420 : (Cond.code yX6_lacks cX6_lacks 2 (some .int) : Cond) ∈ wsL_law := qc17 _ (List.mem_of_getElem? (i := 12) rfl)
theorem q421 : (Cond.methodLink RX6 219 yX5_lowestShort : Cond) ∈ wsL_law := qc17 _ (List.mem_of_getElem? (i := 13) rfl)
theorem q422 : (Cond.methodLink RL 47 yX6_waitsFor : Cond) ∈ wsL_law := qc17 _ (List.mem_of_getElem? (i := 14) rfl)
theorem q423 : (Cond.instanceMethod yX6_waitsFor : Cond) ∈ wsL_law := qc17 _ (List.mem_of_getElem? (i := 15) rfl)
theorem q424 : (Cond.selects RX6 yX6_waitsFor yX6_waitsFor : Cond) ∈ wsL_law := qc17 _ (List.mem_of_getElem? (i := 16) rfl)
theorem q425 : (Cond.code yX6_waitsFor cX6_waitsFor 2 (some .int) : Cond) ∈ wsL_law := qc17 _ (List.mem_of_getElem? (i := 17) rfl)
theorem q426 : (Cond.methodLink RX6 216 yX5_isEnoughOrdered : Cond) ∈ wsL_law := qc17 _ (List.mem_of_getElem? (i := 18) rfl)
theorem q427 : (Cond.instanceMethod yX5_isEnoughOrdered : Cond) ∈ wsL_law := qc17 _ (List.mem_of_getElem? (i := 19) rfl)
theorem q428 : (Cond.selects RX5 yX5_isEnoughOrdered yX5_isEnoughOrdered : Cond) ∈ wsL_law := qc17 _ (List.mem_of_getElem? (i := 20) rfl)
theorem q429 : (Cond.code yX5_isEnoughOrdered cX5_isEnoughOrdered 3 (some .boolean) : Cond) ∈ wsL_law := qc17 _ (List.mem_of_getElem? (i := 21) rfl)
theorem q430 : (Cond.methodLink RX5 54 yX5_onOrder : Cond) ∈ wsL_law := qc17 _ (List.mem_of_getElem? (i := 22) rfl)
theorem q431 : (Cond.methodLink RL 32 yX6_number : Cond) ∈ wsL_law := qc17 _ (List.mem_of_getElem? (i := 23) rfl)
theorem q432 : (Cond.instanceMethod yX6_number : Cond) ∈ wsL_law := qc18 _ (List.mem_of_getElem? (i := 0) rfl)
theorem q433 : (Cond.selects RX6 yX6_number yX6_number : Cond) ∈ wsL_law := qc18 _ (List.mem_of_getElem? (i := 1) rfl)
theorem q434 : (Cond.code yX6_number cX6_number 2 (some .int) : Cond) ∈ wsL_law := qc18 _ (List.mem_of_getElem? (i := 2) rfl)
theorem q435 : (Cond.methodLink RL 50 yX6_costOf : Cond) ∈ wsL_law := qc18 _ (List.mem_of_getElem? (i := 3) rfl)
theorem q436 : (Cond.instanceMethod yX6_costOf : Cond) ∈ wsL_law := qc18 _ (List.mem_of_getElem? (i := 4) rfl)
theorem q437 : (Cond.selects RX6 yX6_costOf yX6_costOf : Cond) ∈ wsL_law := qc18 _ (List.mem_of_getElem? (i := 5) rfl)
theorem q438 : (Cond.code yX6_costOf cX6_costOf 2 (some .int) : Cond) ∈ wsL_law := qc18 _ (List.mem_of_getElem? (i := 6) rfl)
theorem q439 : (Cond.methodLink RL 53 yL_cost : Cond) ∈ wsL_law := qc18 _ (List.mem_of_getElem? (i := 7) rfl)
theorem q440 : (Cond.static yL_cost : Cond) ∈ wsL_law := qc18 _ (List.mem_of_getElem? (i := 8) rfl)
theorem q441 : (Cond.code yL_cost cL_cost 3 (some .int) : Cond) ∈ wsL_law := qc18 _ (List.mem_of_getElem? (i := 9) rfl)
theorem q442 : (Cond.methodLink RL 20 yL_prices : Cond) ∈ wsL_law := qc18 _ (List.mem_of_getElem? (i := 10) rfl)
theorem q443 : (Cond.static yL_prices : Cond) ∈ wsL_law := qc18 _ (List.mem_of_getElem? (i := 11) rfl)
theorem q444 : (Cond.code yL_prices cL_prices 4 (some .int) : Cond) ∈ wsL_law := qc18 _ (List.mem_of_getElem? (i := 12) rfl)
theorem q445 : (Cond.methodLink RL 24 yX6_rate : Cond) ∈ wsL_law := qc18 _ (List.mem_of_getElem? (i := 13) rfl)
theorem q446 : (Cond.instanceMethod yX6_rate : Cond) ∈ wsL_law := qc18 _ (List.mem_of_getElem? (i := 14) rfl)
theorem q447 : (Cond.selects RX6 yX6_rate yX6_rate : Cond) ∈ wsL_law := qc18 _ (List.mem_of_getElem? (i := 15) rfl)
theorem q448 : (Cond.code yX6_rate cX6_rate 2 (some .float) : Cond) ∈ wsL_law := qc18 _ (List.mem_of_getElem? (i := 16) rfl)
theorem q449 : (Cond.constantFloat RX6 191 (2143289344) : Cond) ∈ wsL_law := qc18 _ (List.mem_of_getElem? (i := 17) rfl)
theorem q450 : (Cond.methodLink RL 56 yX6_meanDays : Cond) ∈ wsL_law := qc18 _ (List.mem_of_getElem? (i := 18) rfl)
theorem q451 : (Cond.instanceMethod yX6_meanDays : Cond) ∈ wsL_law := qc18 _ (List.mem_of_getElem? (i := 19) rfl)
theorem q452 : (Cond.selects RX6 yX6_meanDays yX6_meanDays : Cond) ∈ wsL_law := qc18 _ (List.mem_of_getElem? (i := 20) rfl)
theorem q453 : (Cond.code yX6_meanDays cX6_meanDays 2 (some .float) : Cond) ∈ wsL_law := qc18 _ (List.mem_of_getElem? (i := 21) rfl)
theorem q454 : (Cond.fieldLink RX6 222 "SetRepairs$Books" "daysToDone" "I" : Cond) ∈ wsL_law := qc18 _ (List.mem_of_getElem? (i := 22) rfl)
set_option maxRecDepth 100000 in
theorem qt0 : (Cond.classLink RL 16 RX6 : Cond) ∈ lw_tbl := List.mem_of_getElem? (i := 17) rfl
set_option maxRecDepth 100000 in
theorem qt1 : (Cond.instantiable RX6 6 : Cond) ∈ lw_tbl := List.mem_of_getElem? (i := 18) rfl
set_option maxRecDepth 100000 in
theorem qt2 : (Cond.initialized RX6 : Cond) ∈ lw_tbl := List.mem_of_getElem? (i := 8) rfl
set_option maxRecDepth 100000 in
theorem qt3 : (Cond.methodLink RL 114 yX6_init : Cond) ∈ lw_tbl := List.mem_of_getElem? (i := 19) rfl
set_option maxRecDepth 100000 in
theorem qt4 : (Cond.instanceMethod yX6_init : Cond) ∈ lw_tbl := List.mem_of_getElem? (i := 20) rfl
set_option maxRecDepth 100000 in
theorem qt5 : (Cond.code yX6_init cX6_init 1 none : Cond) ∈ lw_tbl := List.mem_of_getElem? (i := 21) rfl
set_option maxRecDepth 100000 in
theorem qt6 : (Cond.methodLink RX6 1 objectInit : Cond) ∈ lw_tbl := List.mem_of_getElem? (i := 22) rfl
set_option maxRecDepth 100000 in
theorem qt7 : (Cond.instanceMethod objectInit : Cond) ∈ lw_tbl := List.mem_of_getElem? (i := 23) rfl
set_option maxRecDepth 100000 in
theorem qt8 : (Cond.code objectInit ⟨#[0xb1]⟩ 1 none : Cond) ∈ lw_tbl := List.mem_of_getElem? (i := 24) rfl
set_option maxRecDepth 100000 in
theorem qt9 : (Cond.classLink RX6 7 RX2 : Cond) ∈ lw_tbl := List.mem_of_getElem? (i := 25) rfl
set_option maxRecDepth 100000 in
theorem qt10 : (Cond.instantiable RX2 6 : Cond) ∈ lw_tbl := List.mem_of_getElem? (i := 26) rfl
set_option maxRecDepth 100000 in
theorem qt11 : (Cond.initialized RX2 : Cond) ∈ lw_tbl := List.mem_of_getElem? (i := 9) rfl
set_option maxRecDepth 100000 in
theorem qt12 : (Cond.fieldLink RX6 10 "SetRepairs" "desk" "LSetRepairs$Desk;" : Cond) ∈ lw_tbl := List.mem_of_getElem? (i := 224) rfl
set_option maxRecDepth 100000 in
theorem qt13 : (Cond.fieldLink RX6 16 "SetRepairs" "trial" "LSetRepairs$Desk;" : Cond) ∈ lw_tbl := List.mem_of_getElem? (i := 225) rfl
set_option maxRecDepth 100000 in
theorem qt14 : (Cond.fieldLink RX6 19 "SetRepairs" "snapshot" "LSetRepairs$Desk;" : Cond) ∈ lw_tbl := List.mem_of_getElem? (i := 226) rfl
set_option maxRecDepth 100000 in
theorem qt15 : (Cond.fieldLink RX6 22 "SetRepairs" "hasSnapshot" "Z" : Cond) ∈ lw_tbl := List.mem_of_getElem? (i := 227) rfl
set_option maxRecDepth 100000 in
theorem qt16 : (Cond.classLink RX6 26 RX3 : Cond) ∈ lw_tbl := List.mem_of_getElem? (i := 192) rfl
set_option maxRecDepth 100000 in
theorem qt17 : (Cond.instantiable RX3 2 : Cond) ∈ lw_tbl := List.mem_of_getElem? (i := 193) rfl
set_option maxRecDepth 100000 in
theorem qt18 : (Cond.initialized RX3 : Cond) ∈ lw_tbl := List.mem_of_getElem? (i := 13) rfl
set_option maxRecDepth 100000 in
theorem qt19 : (Cond.fieldLink RX6 29 "SetRepairs" "history" "LSetRepairs$History;" : Cond) ∈ lw_tbl := List.mem_of_getElem? (i := 228) rfl
set_option maxRecDepth 100000 in
theorem qt20 : (Cond.classLink RX6 33 RX0 : Cond) ∈ lw_tbl := List.mem_of_getElem? (i := 209) rfl
set_option maxRecDepth 100000 in
theorem qt21 : (Cond.instantiable RX0 2 : Cond) ∈ lw_tbl := List.mem_of_getElem? (i := 210) rfl
set_option maxRecDepth 100000 in
theorem qt22 : (Cond.initialized RX0 : Cond) ∈ lw_tbl := List.mem_of_getElem? (i := 14) rfl
set_option maxRecDepth 100000 in
theorem qt23 : (Cond.fieldLink RX6 36 "SetRepairs" "text" "LSetRepairs$AnswerText;" : Cond) ∈ lw_tbl := List.mem_of_getElem? (i := 229) rfl
set_option maxRecDepth 100000 in
theorem qt24 : (Cond.methodLink RX6 9 yX2_init : Cond) ∈ lw_tbl := List.mem_of_getElem? (i := 27) rfl
set_option maxRecDepth 100000 in
theorem qt25 : (Cond.instanceMethod yX2_init : Cond) ∈ lw_tbl := List.mem_of_getElem? (i := 28) rfl
set_option maxRecDepth 100000 in
theorem qt26 : (Cond.code yX2_init cX2_init 1 none : Cond) ∈ lw_tbl := List.mem_of_getElem? (i := 29) rfl
set_option maxRecDepth 100000 in
theorem qt27 : (Cond.methodLink RX2 3 objectInit : Cond) ∈ lw_tbl := List.mem_of_getElem? (i := 30) rfl
set_option maxRecDepth 100000 in
theorem qt28 : (Cond.fieldLink RX2 9 "SetRepairs$Desk" "day" "I" : Cond) ∈ lw_tbl := List.mem_of_getElem? (i := 167) rfl
set_option maxRecDepth 100000 in
theorem qt29 : (Cond.arrayClass .float : Cond) ∈ lw_tbl := List.mem_of_getElem? (i := 76) rfl
set_option maxRecDepth 100000 in
theorem qt30 : (Cond.constantFloat RX2 15 (1068708659) : Cond) ∈ lw_tbl := List.mem_of_getElem? (i := 31) rfl
set_option maxRecDepth 100000 in
theorem qt31 : (Cond.constantFloat RX2 16 (1066192077) : Cond) ∈ lw_tbl := List.mem_of_getElem? (i := 32) rfl
set_option maxRecDepth 100000 in
theorem qt32 : (Cond.constantFloat RX2 17 (1103888384) : Cond) ∈ lw_tbl := List.mem_of_getElem? (i := 33) rfl
set_option maxRecDepth 100000 in
theorem qt33 : (Cond.constantFloat RX2 18 (1058642330) : Cond) ∈ lw_tbl := List.mem_of_getElem? (i := 34) rfl
set_option maxRecDepth 100000 in
theorem qt34 : (Cond.fieldLink RX2 19 "SetRepairs$Desk" "rates" "[F" : Cond) ∈ lw_tbl := List.mem_of_getElem? (i := 169) rfl
set_option maxRecDepth 100000 in
theorem qt35 : (Cond.arrayClass .int : Cond) ∈ lw_tbl := List.mem_of_getElem? (i := 77) rfl
set_option maxRecDepth 100000 in
theorem qt36 : (Cond.fieldLink RX2 23 "SetRepairs$Desk" "numbers" "[I" : Cond) ∈ lw_tbl := List.mem_of_getElem? (i := 171) rfl
set_option maxRecDepth 100000 in
theorem qt37 : (Cond.classLink RX2 27 RX5 : Cond) ∈ lw_tbl := List.mem_of_getElem? (i := 35) rfl
set_option maxRecDepth 100000 in
theorem qt38 : (Cond.instantiable RX5 8 : Cond) ∈ lw_tbl := List.mem_of_getElem? (i := 36) rfl
set_option maxRecDepth 100000 in
theorem qt39 : (Cond.initialized RX5 : Cond) ∈ lw_tbl := List.mem_of_getElem? (i := 10) rfl
set_option maxRecDepth 100000 in
theorem qt40 : (Cond.fieldLink RX2 30 "SetRepairs$Desk" "store" "LSetRepairs$Store;" : Cond) ∈ lw_tbl := List.mem_of_getElem? (i := 173) rfl
set_option maxRecDepth 100000 in
theorem qt41 : (Cond.classLink RX2 34 RX4 : Cond) ∈ lw_tbl := List.mem_of_getElem? (i := 78) rfl
set_option maxRecDepth 100000 in
theorem qt42 : (Cond.instantiable RX4 9 : Cond) ∈ lw_tbl := List.mem_of_getElem? (i := 79) rfl
set_option maxRecDepth 100000 in
theorem qt43 : (Cond.initialized RX4 : Cond) ∈ lw_tbl := List.mem_of_getElem? (i := 11) rfl
set_option maxRecDepth 100000 in
theorem qt44 : (Cond.fieldLink RX2 37 "SetRepairs$Desk" "sets" "LSetRepairs$Sets;" : Cond) ∈ lw_tbl := List.mem_of_getElem? (i := 175) rfl
set_option maxRecDepth 100000 in
theorem qt45 : (Cond.classLink RX2 41 RX1 : Cond) ∈ lw_tbl := List.mem_of_getElem? (i := 130) rfl
set_option maxRecDepth 100000 in
theorem qt46 : (Cond.instantiable RX1 6 : Cond) ∈ lw_tbl := List.mem_of_getElem? (i := 131) rfl
set_option maxRecDepth 100000 in
theorem qt47 : (Cond.initialized RX1 : Cond) ∈ lw_tbl := List.mem_of_getElem? (i := 12) rfl
set_option maxRecDepth 100000 in
theorem qt48 : (Cond.fieldLink RX2 44 "SetRepairs$Desk" "books" "LSetRepairs$Books;" : Cond) ∈ lw_tbl := List.mem_of_getElem? (i := 177) rfl
set_option maxRecDepth 100000 in
theorem qt49 : (Cond.methodLink RX2 29 yX5_init : Cond) ∈ lw_tbl := List.mem_of_getElem? (i := 37) rfl
set_option maxRecDepth 100000 in
theorem qt50 : (Cond.instanceMethod yX5_init : Cond) ∈ lw_tbl := List.mem_of_getElem? (i := 38) rfl
set_option maxRecDepth 100000 in
theorem qt51 : (Cond.code yX5_init cX5_init 1 none : Cond) ∈ lw_tbl := List.mem_of_getElem? (i := 39) rfl
set_option maxRecDepth 100000 in
theorem qt52 : (Cond.methodLink RX5 3 objectInit : Cond) ∈ lw_tbl := List.mem_of_getElem? (i := 40) rfl
set_option maxRecDepth 100000 in
theorem qt53 : (Cond.fieldLink RX5 9 "SetRepairs$Store" "price" "[I" : Cond) ∈ lw_tbl := List.mem_of_getElem? (i := 41) rfl
set_option maxRecDepth 100000 in
theorem qt54 : (Cond.fieldLink RX5 15 "SetRepairs$Store" "lead" "[I" : Cond) ∈ lw_tbl := List.mem_of_getElem? (i := 43) rfl
set_option maxRecDepth 100000 in
theorem qt55 : (Cond.fieldLink RX5 18 "SetRepairs$Store" "stock" "[I" : Cond) ∈ lw_tbl := List.mem_of_getElem? (i := 45) rfl
set_option maxRecDepth 100000 in
theorem qt56 : (Cond.fieldLink RX5 21 "SetRepairs$Store" "reserved" "[I" : Cond) ∈ lw_tbl := List.mem_of_getElem? (i := 48) rfl
set_option maxRecDepth 100000 in
theorem qt57 : (Cond.fieldLink RX5 24 "SetRepairs$Store" "orders" "I" : Cond) ∈ lw_tbl := List.mem_of_getElem? (i := 50) rfl
set_option maxRecDepth 100000 in
theorem qt58 : (Cond.fieldLink RX5 28 "SetRepairs$Store" "orderPart" "[I" : Cond) ∈ lw_tbl := List.mem_of_getElem? (i := 53) rfl
set_option maxRecDepth 100000 in
theorem qt59 : (Cond.fieldLink RX5 31 "SetRepairs$Store" "orderMany" "[I" : Cond) ∈ lw_tbl := List.mem_of_getElem? (i := 55) rfl
set_option maxRecDepth 100000 in
theorem qt60 : (Cond.fieldLink RX5 34 "SetRepairs$Store" "orderDay" "[I" : Cond) ∈ lw_tbl := List.mem_of_getElem? (i := 57) rfl
set_option maxRecDepth 100000 in
theorem qt61 : (Cond.methodLink RX2 36 yX4_init : Cond) ∈ lw_tbl := List.mem_of_getElem? (i := 80) rfl
set_option maxRecDepth 100000 in
theorem qt62 : (Cond.instanceMethod yX4_init : Cond) ∈ lw_tbl := List.mem_of_getElem? (i := 81) rfl
set_option maxRecDepth 100000 in
theorem qt63 : (Cond.code yX4_init cX4_init 1 none : Cond) ∈ lw_tbl := List.mem_of_getElem? (i := 82) rfl
set_option maxRecDepth 100000 in
theorem qt64 : (Cond.methodLink RX4 3 objectInit : Cond) ∈ lw_tbl := List.mem_of_getElem? (i := 83) rfl
set_option maxRecDepth 100000 in
theorem qt65 : (Cond.fieldLink RX4 9 "SetRepairs$Sets" "many" "I" : Cond) ∈ lw_tbl := List.mem_of_getElem? (i := 84) rfl
set_option maxRecDepth 100000 in
theorem qt66 : (Cond.fieldLink RX4 15 "SetRepairs$Sets" "fault" "[I" : Cond) ∈ lw_tbl := List.mem_of_getElem? (i := 87) rfl
set_option maxRecDepth 100000 in
theorem qt67 : (Cond.fieldLink RX4 19 "SetRepairs$Sets" "came" "[I" : Cond) ∈ lw_tbl := List.mem_of_getElem? (i := 90) rfl
set_option maxRecDepth 100000 in
theorem qt68 : (Cond.fieldLink RX4 22 "SetRepairs$Sets" "estimate" "[I" : Cond) ∈ lw_tbl := List.mem_of_getElem? (i := 93) rfl
set_option maxRecDepth 100000 in
theorem qt69 : (Cond.fieldLink RX4 25 "SetRepairs$Sets" "worked" "[I" : Cond) ∈ lw_tbl := List.mem_of_getElem? (i := 96) rfl
set_option maxRecDepth 100000 in
theorem qt70 : (Cond.fieldLink RX4 28 "SetRepairs$Sets" "bill" "[I" : Cond) ∈ lw_tbl := List.mem_of_getElem? (i := 99) rfl
set_option maxRecDepth 100000 in
theorem qt71 : (Cond.fieldLink RX4 31 "SetRepairs$Sets" "loaner" "[I" : Cond) ∈ lw_tbl := List.mem_of_getElem? (i := 102) rfl
set_option maxRecDepth 100000 in
theorem qt72 : (Cond.fieldLink RX4 34 "SetRepairs$Sets" "state" "[I" : Cond) ∈ lw_tbl := List.mem_of_getElem? (i := 105) rfl
set_option maxRecDepth 100000 in
theorem qt73 : (Cond.fieldLink RX4 37 "SetRepairs$Sets" "ready" "[I" : Cond) ∈ lw_tbl := List.mem_of_getElem? (i := 108) rfl
set_option maxRecDepth 100000 in
theorem qt74 : (Cond.instanceMethod yX1_init : Cond) ∈ lw_tbl := List.mem_of_getElem? (i := 133) rfl
set_option maxRecDepth 100000 in
theorem qt75 : (Cond.code yX1_init cX1_init 1 none : Cond) ∈ lw_tbl := List.mem_of_getElem? (i := 134) rfl
set_option maxRecDepth 100000 in
theorem qt76 : (Cond.methodLink RX1 1 objectInit : Cond) ∈ lw_tbl := List.mem_of_getElem? (i := 135) rfl
set_option maxRecDepth 100000 in
theorem qt77 : (Cond.methodLink RX6 28 yX3_init : Cond) ∈ lw_tbl := List.mem_of_getElem? (i := 194) rfl
set_option maxRecDepth 100000 in
theorem qt78 : (Cond.instanceMethod yX3_init : Cond) ∈ lw_tbl := List.mem_of_getElem? (i := 195) rfl
set_option maxRecDepth 100000 in
theorem qt79 : (Cond.code yX3_init cX3_init 2 none : Cond) ∈ lw_tbl := List.mem_of_getElem? (i := 196) rfl
set_option maxRecDepth 100000 in
theorem qt80 : (Cond.methodLink RX3 3 objectInit : Cond) ∈ lw_tbl := List.mem_of_getElem? (i := 197) rfl
set_option maxRecDepth 100000 in
theorem qt81 : (Cond.fieldLink RX3 9 "SetRepairs$History" "many" "I" : Cond) ∈ lw_tbl := List.mem_of_getElem? (i := 201) rfl
set_option maxRecDepth 100000 in
theorem qt82 : (Cond.classLink RX3 15 RX2 : Cond) ∈ lw_tbl := List.mem_of_getElem? (i := 198) rfl
set_option maxRecDepth 100000 in
theorem qt83 : (Cond.fieldLink RX3 17 "SetRepairs$History" "states" "[LSetRepairs$Desk;" : Cond) ∈ lw_tbl := List.mem_of_getElem? (i := 203) rfl
set_option maxRecDepth 100000 in
theorem qt84 : (Cond.methodLink RX3 21 yX2_init : Cond) ∈ lw_tbl := List.mem_of_getElem? (i := 200) rfl
set_option maxRecDepth 100000 in
theorem qt85 : (Cond.methodLink RX6 35 yX0_init : Cond) ∈ lw_tbl := List.mem_of_getElem? (i := 211) rfl
set_option maxRecDepth 100000 in
theorem qt86 : (Cond.instanceMethod yX0_init : Cond) ∈ lw_tbl := List.mem_of_getElem? (i := 212) rfl
set_option maxRecDepth 100000 in
theorem qt87 : (Cond.code yX0_init cX0_init 1 none : Cond) ∈ lw_tbl := List.mem_of_getElem? (i := 213) rfl
set_option maxRecDepth 100000 in
theorem qt88 : (Cond.methodLink RX0 3 objectInit : Cond) ∈ lw_tbl := List.mem_of_getElem? (i := 214) rfl
set_option maxRecDepth 100000 in
theorem qt89 : (Cond.fieldLink RX0 9 "SetRepairs$AnswerText" "length" "I" : Cond) ∈ lw_tbl := List.mem_of_getElem? (i := 215) rfl
set_option maxRecDepth 100000 in
theorem qt90 : (Cond.arrayClass .char : Cond) ∈ lw_tbl := List.mem_of_getElem? (i := 223) rfl
set_option maxRecDepth 100000 in
theorem qt91 : (Cond.fieldLink RX0 15 "SetRepairs$AnswerText" "characters" "[C" : Cond) ∈ lw_tbl := List.mem_of_getElem? (i := 217) rfl
set_option maxRecDepth 100000 in
theorem qt92 : (Cond.methodLink RL 35 yX6_count : Cond) ∈ lw_tbl := List.mem_of_getElem? (i := 358) rfl
set_option maxRecDepth 100000 in
theorem qt93 : (Cond.instanceMethod yX6_count : Cond) ∈ lw_tbl := List.mem_of_getElem? (i := 359) rfl
set_option maxRecDepth 100000 in
theorem qt94 : (Cond.selects RX6 yX6_count yX6_count : Cond) ∈ lw_tbl := List.mem_of_getElem? (i := 360) rfl
set_option maxRecDepth 100000 in
theorem qt95 : (Cond.code yX6_count cX6_count 2 (some .int) : Cond) ∈ lw_tbl := List.mem_of_getElem? (i := 361) rfl
set_option maxRecDepth 100000 in
theorem qt96 : (Cond.fieldLink RX6 73 "SetRepairs$Desk" "sets" "LSetRepairs$Sets;" : Cond) ∈ lw_tbl := List.mem_of_getElem? (i := 176) rfl
set_option maxRecDepth 100000 in
theorem qt97 : (Cond.fieldLink RX6 103 "SetRepairs$Desk" "day" "I" : Cond) ∈ lw_tbl := List.mem_of_getElem? (i := 168) rfl
set_option maxRecDepth 100000 in
theorem qt98 : (Cond.fieldLink RX6 116 "SetRepairs$Sets" "many" "I" : Cond) ∈ lw_tbl := List.mem_of_getElem? (i := 86) rfl
set_option maxRecDepth 100000 in
theorem qt99 : (Cond.fieldLink RX6 87 "SetRepairs$Desk" "store" "LSetRepairs$Store;" : Cond) ∈ lw_tbl := List.mem_of_getElem? (i := 174) rfl
set_option maxRecDepth 100000 in
theorem qt100 : (Cond.fieldLink RX6 99 "SetRepairs$Store" "orders" "I" : Cond) ∈ lw_tbl := List.mem_of_getElem? (i := 51) rfl
set_option maxRecDepth 100000 in
theorem qt101 : (Cond.fieldLink RX6 168 "SetRepairs$Desk" "books" "LSetRepairs$Books;" : Cond) ∈ lw_tbl := List.mem_of_getElem? (i := 178) rfl
set_option maxRecDepth 100000 in
theorem qt102 : (Cond.fieldLink RX6 225 "SetRepairs$Books" "billsPaid" "I" : Cond) ∈ lw_tbl := List.mem_of_getElem? (i := 138) rfl
set_option maxRecDepth 100000 in
theorem qt103 : (Cond.fieldLink RX6 228 "SetRepairs$Books" "feesPaid" "I" : Cond) ∈ lw_tbl := List.mem_of_getElem? (i := 141) rfl
set_option maxRecDepth 100000 in
theorem qt104 : (Cond.fieldLink RX6 231 "SetRepairs$Books" "soldFor" "I" : Cond) ∈ lw_tbl := List.mem_of_getElem? (i := 144) rfl
set_option maxRecDepth 100000 in
theorem qt105 : (Cond.fieldLink RX6 234 "SetRepairs$Books" "partsBuiltIn" "I" : Cond) ∈ lw_tbl := List.mem_of_getElem? (i := 147) rfl
set_option maxRecDepth 100000 in
theorem qt106 : (Cond.fieldLink RX6 187 "SetRepairs$History" "many" "I" : Cond) ∈ lw_tbl := List.mem_of_getElem? (i := 202) rfl
set_option maxRecDepth 100000 in
theorem qt107 : (Cond.fieldLink RX6 180 "SetRepairs$AnswerText" "length" "I" : Cond) ∈ lw_tbl := List.mem_of_getElem? (i := 216) rfl
set_option maxRecDepth 100000 in
theorem qt108 : (Cond.methodLink RX6 51 yX6_isWithin : Cond) ∈ lw_tbl := List.mem_of_getElem? (i := 362) rfl
set_option maxRecDepth 100000 in
theorem qt109 : (Cond.static yX6_isWithin : Cond) ∈ lw_tbl := List.mem_of_getElem? (i := 363) rfl
set_option maxRecDepth 100000 in
theorem qt110 : (Cond.code yX6_isWithin cX6_isWithin 3 (some .boolean) : Cond) ∈ lw_tbl := List.mem_of_getElem? (i := 364) rfl
set_option maxRecDepth 100000 in
theorem qt111 : (Cond.methodLink RX6 153 yX4_inState : Cond) ∈ lw_tbl := List.mem_of_getElem? (i := 365) rfl
set_option maxRecDepth 100000 in
theorem qt112 : (Cond.instanceMethod yX4_inState : Cond) ∈ lw_tbl := List.mem_of_getElem? (i := 366) rfl
set_option maxRecDepth 100000 in
theorem qt113 : (Cond.selects RX4 yX4_inState yX4_inState : Cond) ∈ lw_tbl := List.mem_of_getElem? (i := 367) rfl
set_option maxRecDepth 100000 in
theorem qt114 : (Cond.code yX4_inState cX4_inState 4 (some .int) : Cond) ∈ lw_tbl := List.mem_of_getElem? (i := 368) rfl
set_option maxRecDepth 100000 in
theorem qt115 : (Cond.methodLink RX6 159 yX2_loanersThere : Cond) ∈ lw_tbl := List.mem_of_getElem? (i := 369) rfl
set_option maxRecDepth 100000 in
theorem qt116 : (Cond.instanceMethod yX2_loanersThere : Cond) ∈ lw_tbl := List.mem_of_getElem? (i := 370) rfl
set_option maxRecDepth 100000 in
theorem qt117 : (Cond.selects RX2 yX2_loanersThere yX2_loanersThere : Cond) ∈ lw_tbl := List.mem_of_getElem? (i := 371) rfl
set_option maxRecDepth 100000 in
theorem qt118 : (Cond.code yX2_loanersThere cX2_loanersThere 1 (some .int) : Cond) ∈ lw_tbl := List.mem_of_getElem? (i := 372) rfl
set_option maxRecDepth 100000 in
theorem qt119 : (Cond.methodLink RX2 71 yX4_withLoaner : Cond) ∈ lw_tbl := List.mem_of_getElem? (i := 373) rfl
set_option maxRecDepth 100000 in
theorem qt120 : (Cond.instanceMethod yX4_withLoaner : Cond) ∈ lw_tbl := List.mem_of_getElem? (i := 374) rfl
set_option maxRecDepth 100000 in
theorem qt121 : (Cond.selects RX4 yX4_withLoaner yX4_withLoaner : Cond) ∈ lw_tbl := List.mem_of_getElem? (i := 375) rfl
set_option maxRecDepth 100000 in
theorem qt122 : (Cond.code yX4_withLoaner cX4_withLoaner 3 (some .int) : Cond) ∈ lw_tbl := List.mem_of_getElem? (i := 376) rfl
set_option maxRecDepth 100000 in
theorem qt123 : (Cond.methodLink RL 60 yL_cell : Cond) ∈ lw_tbl := List.mem_of_getElem? (i := 381) rfl
set_option maxRecDepth 100000 in
theorem qt124 : (Cond.static yL_cell : Cond) ∈ lw_tbl := List.mem_of_getElem? (i := 382) rfl
set_option maxRecDepth 100000 in
theorem qt125 : (Cond.initialized RL : Cond) ∈ lw_tbl := List.mem_of_getElem? (i := 7) rfl
set_option maxRecDepth 100000 in
theorem qt126 : (Cond.code yL_cell cL_cell 2 (some .int) : Cond) ∈ lw_tbl := List.mem_of_getElem? (i := 383) rfl
set_option maxRecDepth 100000 in
theorem qt127 : (Cond.constant RL 8 (40503) : Cond) ∈ lw_tbl := List.mem_of_getElem? (i := 384) rfl
set_option maxRecDepth 100000 in
theorem qt128 : (Cond.methodLink RL 64 yL_low : Cond) ∈ lw_tbl := List.mem_of_getElem? (i := 377) rfl
set_option maxRecDepth 100000 in
theorem qt129 : (Cond.static yL_low : Cond) ∈ lw_tbl := List.mem_of_getElem? (i := 378) rfl
set_option maxRecDepth 100000 in
theorem qt130 : (Cond.code yL_low cL_low 2 (some .int) : Cond) ∈ lw_tbl := List.mem_of_getElem? (i := 379) rfl
set_option maxRecDepth 100000 in
theorem qt131 : (Cond.constant RL 7 (2147483647) : Cond) ∈ lw_tbl := List.mem_of_getElem? (i := 380) rfl
set_option maxRecDepth 100000 in
theorem qt132 : (Cond.methodLink RL 44 yX6_doneIn : Cond) ∈ lw_tbl := List.mem_of_getElem? (i := 262) rfl
set_option maxRecDepth 100000 in
theorem qt133 : (Cond.instanceMethod yX6_doneIn : Cond) ∈ lw_tbl := List.mem_of_getElem? (i := 263) rfl
set_option maxRecDepth 100000 in
theorem qt134 : (Cond.selects RX6 yX6_doneIn yX6_doneIn : Cond) ∈ lw_tbl := List.mem_of_getElem? (i := 264) rfl
set_option maxRecDepth 100000 in
theorem qt135 : (Cond.code yX6_doneIn cX6_doneIn 4 (some .int) : Cond) ∈ lw_tbl := List.mem_of_getElem? (i := 265) rfl
set_option maxRecDepth 100000 in
theorem qt136 : (Cond.fieldLink RX6 127 "SetRepairs$Sets" "state" "[I" : Cond) ∈ lw_tbl := List.mem_of_getElem? (i := 107) rfl
set_option maxRecDepth 100000 in
theorem qt137 : (Cond.methodLink RX6 123 yX6_isSet : Cond) ∈ lw_tbl := List.mem_of_getElem? (i := 247) rfl
set_option maxRecDepth 100000 in
theorem qt138 : (Cond.instanceMethod yX6_isSet : Cond) ∈ lw_tbl := List.mem_of_getElem? (i := 249) rfl
set_option maxRecDepth 100000 in
theorem qt139 : (Cond.selects RX6 yX6_isSet yX6_isSet : Cond) ∈ lw_tbl := List.mem_of_getElem? (i := 0) rfl
set_option maxRecDepth 100000 in
theorem qt140 : (Cond.code yX6_isSet cX6_isSet 2 (some .boolean) : Cond) ∈ lw_tbl := List.mem_of_getElem? (i := 250) rfl
set_option maxRecDepth 100000 in
theorem qt141 : (Cond.methodLink RX6 40 yX6_isIndex : Cond) ∈ lw_tbl := List.mem_of_getElem? (i := 251) rfl
set_option maxRecDepth 100000 in
theorem qt142 : (Cond.static yX6_isIndex : Cond) ∈ lw_tbl := List.mem_of_getElem? (i := 252) rfl
set_option maxRecDepth 100000 in
theorem qt143 : (Cond.code yX6_isIndex cX6_isIndex 2 (some .boolean) : Cond) ∈ lw_tbl := List.mem_of_getElem? (i := 253) rfl
set_option maxRecDepth 100000 in
theorem qt144 : (Cond.methodLink RX6 146 yX2_copyFrom : Cond) ∈ lw_tbl := List.mem_of_getElem? (i := 266) rfl
set_option maxRecDepth 100000 in
theorem qt145 : (Cond.instanceMethod yX2_copyFrom : Cond) ∈ lw_tbl := List.mem_of_getElem? (i := 267) rfl
set_option maxRecDepth 100000 in
theorem qt146 : (Cond.selects RX2 yX2_copyFrom yX2_copyFrom : Cond) ∈ lw_tbl := List.mem_of_getElem? (i := 268) rfl
set_option maxRecDepth 100000 in
theorem qt147 : (Cond.code yX2_copyFrom cX2_copyFrom 2 none : Cond) ∈ lw_tbl := List.mem_of_getElem? (i := 269) rfl
set_option maxRecDepth 100000 in
theorem qt148 : (Cond.methodLink RX2 48 arraycopyName : Cond) ∈ lw_tbl := List.mem_of_getElem? (i := 270) rfl
set_option maxRecDepth 100000 in
theorem qt149 : (Cond.native arraycopyName : Cond) ∈ lw_tbl := List.mem_of_getElem? (i := 272) rfl
set_option maxRecDepth 100000 in
theorem qt150 : (Cond.static arraycopyName : Cond) ∈ lw_tbl := List.mem_of_getElem? (i := 271) rfl
set_option maxRecDepth 100000 in
theorem qt151 : (Cond.initialized "java/lang/System" : Cond) ∈ lw_tbl := List.mem_of_getElem? (i := 15) rfl
set_option maxRecDepth 100000 in
theorem qt152 : (Cond.methodLink RX2 54 yX5_copyFrom : Cond) ∈ lw_tbl := List.mem_of_getElem? (i := 273) rfl
set_option maxRecDepth 100000 in
theorem qt153 : (Cond.instanceMethod yX5_copyFrom : Cond) ∈ lw_tbl := List.mem_of_getElem? (i := 274) rfl
set_option maxRecDepth 100000 in
theorem qt154 : (Cond.selects RX5 yX5_copyFrom yX5_copyFrom : Cond) ∈ lw_tbl := List.mem_of_getElem? (i := 275) rfl
set_option maxRecDepth 100000 in
theorem qt155 : (Cond.code yX5_copyFrom cX5_copyFrom 2 none : Cond) ∈ lw_tbl := List.mem_of_getElem? (i := 276) rfl
set_option maxRecDepth 100000 in
theorem qt156 : (Cond.methodLink RX5 37 arraycopyName : Cond) ∈ lw_tbl := List.mem_of_getElem? (i := 277) rfl
set_option maxRecDepth 100000 in
theorem qt157 : (Cond.methodLink RX2 58 yX4_copyFrom : Cond) ∈ lw_tbl := List.mem_of_getElem? (i := 278) rfl
set_option maxRecDepth 100000 in
theorem qt158 : (Cond.instanceMethod yX4_copyFrom : Cond) ∈ lw_tbl := List.mem_of_getElem? (i := 279) rfl
set_option maxRecDepth 100000 in
theorem qt159 : (Cond.selects RX4 yX4_copyFrom yX4_copyFrom : Cond) ∈ lw_tbl := List.mem_of_getElem? (i := 280) rfl
set_option maxRecDepth 100000 in
theorem qt160 : (Cond.code yX4_copyFrom cX4_copyFrom 2 none : Cond) ∈ lw_tbl := List.mem_of_getElem? (i := 281) rfl
set_option maxRecDepth 100000 in
theorem qt161 : (Cond.methodLink RX4 40 arraycopyName : Cond) ∈ lw_tbl := List.mem_of_getElem? (i := 282) rfl
set_option maxRecDepth 100000 in
theorem qt162 : (Cond.methodLink RX2 61 yX1_copyFrom : Cond) ∈ lw_tbl := List.mem_of_getElem? (i := 283) rfl
set_option maxRecDepth 100000 in
theorem qt163 : (Cond.instanceMethod yX1_copyFrom : Cond) ∈ lw_tbl := List.mem_of_getElem? (i := 284) rfl
set_option maxRecDepth 100000 in
theorem qt164 : (Cond.selects RX1 yX1_copyFrom yX1_copyFrom : Cond) ∈ lw_tbl := List.mem_of_getElem? (i := 285) rfl
set_option maxRecDepth 100000 in
theorem qt165 : (Cond.code yX1_copyFrom cX1_copyFrom 2 none : Cond) ∈ lw_tbl := List.mem_of_getElem? (i := 286) rfl
set_option maxRecDepth 100000 in
theorem qt166 : (Cond.fieldLink RX1 7 "SetRepairs$Books" "billsPaid" "I" : Cond) ∈ lw_tbl := List.mem_of_getElem? (i := 136) rfl
set_option maxRecDepth 100000 in
theorem qt167 : (Cond.fieldLink RX1 13 "SetRepairs$Books" "feesPaid" "I" : Cond) ∈ lw_tbl := List.mem_of_getElem? (i := 139) rfl
set_option maxRecDepth 100000 in
theorem qt168 : (Cond.fieldLink RX1 16 "SetRepairs$Books" "soldFor" "I" : Cond) ∈ lw_tbl := List.mem_of_getElem? (i := 142) rfl
set_option maxRecDepth 100000 in
theorem qt169 : (Cond.fieldLink RX1 19 "SetRepairs$Books" "partsBuiltIn" "I" : Cond) ∈ lw_tbl := List.mem_of_getElem? (i := 145) rfl
set_option maxRecDepth 100000 in
theorem qt170 : (Cond.fieldLink RX1 22 "SetRepairs$Books" "setsDone" "I" : Cond) ∈ lw_tbl := List.mem_of_getElem? (i := 148) rfl
set_option maxRecDepth 100000 in
theorem qt171 : (Cond.fieldLink RX1 25 "SetRepairs$Books" "daysToDone" "I" : Cond) ∈ lw_tbl := List.mem_of_getElem? (i := 151) rfl
set_option maxRecDepth 100000 in
theorem qt172 : (Cond.methodLink RX6 177 yX2_passDay : Cond) ∈ lw_tbl := List.mem_of_getElem? (i := 287) rfl
set_option maxRecDepth 100000 in
theorem qt173 : (Cond.instanceMethod yX2_passDay : Cond) ∈ lw_tbl := List.mem_of_getElem? (i := 288) rfl
set_option maxRecDepth 100000 in
theorem qt174 : (Cond.selects RX2 yX2_passDay yX2_passDay : Cond) ∈ lw_tbl := List.mem_of_getElem? (i := 289) rfl
set_option maxRecDepth 100000 in
theorem qt175 : (Cond.code yX2_passDay cX2_passDay 2 none : Cond) ∈ lw_tbl := List.mem_of_getElem? (i := 290) rfl
set_option maxRecDepth 100000 in
theorem qt176 : (Cond.methodLink RX2 134 yX2_takeOrders : Cond) ∈ lw_tbl := List.mem_of_getElem? (i := 291) rfl
set_option maxRecDepth 100000 in
theorem qt177 : (Cond.instanceMethod yX2_takeOrders : Cond) ∈ lw_tbl := List.mem_of_getElem? (i := 293) rfl
set_option maxRecDepth 100000 in
theorem qt178 : (Cond.selects RX2 yX2_takeOrders yX2_takeOrders : Cond) ∈ lw_tbl := List.mem_of_getElem? (i := 1) rfl
set_option maxRecDepth 100000 in
theorem qt179 : (Cond.code yX2_takeOrders cX2_takeOrders 2 none : Cond) ∈ lw_tbl := List.mem_of_getElem? (i := 294) rfl
set_option maxRecDepth 100000 in
theorem qt180 : (Cond.fieldLink RX2 143 "SetRepairs$Store" "orders" "I" : Cond) ∈ lw_tbl := List.mem_of_getElem? (i := 52) rfl
set_option maxRecDepth 100000 in
theorem qt181 : (Cond.fieldLink RX2 146 "SetRepairs$Store" "orderDay" "[I" : Cond) ∈ lw_tbl := List.mem_of_getElem? (i := 58) rfl
set_option maxRecDepth 100000 in
theorem qt182 : (Cond.fieldLink RX2 149 "SetRepairs$Store" "stock" "[I" : Cond) ∈ lw_tbl := List.mem_of_getElem? (i := 47) rfl
set_option maxRecDepth 100000 in
theorem qt183 : (Cond.fieldLink RX2 152 "SetRepairs$Store" "orderPart" "[I" : Cond) ∈ lw_tbl := List.mem_of_getElem? (i := 54) rfl
set_option maxRecDepth 100000 in
theorem qt184 : (Cond.fieldLink RX2 155 "SetRepairs$Store" "orderMany" "[I" : Cond) ∈ lw_tbl := List.mem_of_getElem? (i := 56) rfl
set_option maxRecDepth 100000 in
theorem qt185 : (Cond.methodLink RX2 102 yX2_reserveParts : Cond) ∈ lw_tbl := List.mem_of_getElem? (i := 295) rfl
set_option maxRecDepth 100000 in
theorem qt186 : (Cond.instanceMethod yX2_reserveParts : Cond) ∈ lw_tbl := List.mem_of_getElem? (i := 296) rfl
set_option maxRecDepth 100000 in
theorem qt187 : (Cond.selects RX2 yX2_reserveParts yX2_reserveParts : Cond) ∈ lw_tbl := List.mem_of_getElem? (i := 297) rfl
set_option maxRecDepth 100000 in
theorem qt188 : (Cond.code yX2_reserveParts cX2_reserveParts 1 none : Cond) ∈ lw_tbl := List.mem_of_getElem? (i := 298) rfl
set_option maxRecDepth 100000 in
theorem qt189 : (Cond.methodLink RX2 105 yX2_reservePartsWhere : Cond) ∈ lw_tbl := List.mem_of_getElem? (i := 299) rfl
set_option maxRecDepth 100000 in
theorem qt190 : (Cond.instanceMethod yX2_reservePartsWhere : Cond) ∈ lw_tbl := List.mem_of_getElem? (i := 301) rfl
set_option maxRecDepth 100000 in
theorem qt191 : (Cond.selects RX2 yX2_reservePartsWhere yX2_reservePartsWhere : Cond) ∈ lw_tbl := List.mem_of_getElem? (i := 2) rfl
set_option maxRecDepth 100000 in
theorem qt192 : (Cond.code yX2_reservePartsWhere cX2_reservePartsWhere 4 none : Cond) ∈ lw_tbl := List.mem_of_getElem? (i := 302) rfl
set_option maxRecDepth 100000 in
theorem qt193 : (Cond.fieldLink RX2 78 "SetRepairs$Sets" "many" "I" : Cond) ∈ lw_tbl := List.mem_of_getElem? (i := 85) rfl
set_option maxRecDepth 100000 in
theorem qt194 : (Cond.fieldLink RX2 84 "SetRepairs$Sets" "fault" "[I" : Cond) ∈ lw_tbl := List.mem_of_getElem? (i := 88) rfl
set_option maxRecDepth 100000 in
theorem qt195 : (Cond.fieldLink RX2 81 "SetRepairs$Sets" "state" "[I" : Cond) ∈ lw_tbl := List.mem_of_getElem? (i := 106) rfl
set_option maxRecDepth 100000 in
theorem qt196 : (Cond.methodLink RX2 109 yX4_isTurnOf : Cond) ∈ lw_tbl := List.mem_of_getElem? (i := 303) rfl
set_option maxRecDepth 100000 in
theorem qt197 : (Cond.instanceMethod yX4_isTurnOf : Cond) ∈ lw_tbl := List.mem_of_getElem? (i := 304) rfl
set_option maxRecDepth 100000 in
theorem qt198 : (Cond.selects RX4 yX4_isTurnOf yX4_isTurnOf : Cond) ∈ lw_tbl := List.mem_of_getElem? (i := 305) rfl
set_option maxRecDepth 100000 in
theorem qt199 : (Cond.code yX4_isTurnOf cX4_isTurnOf 4 (some .boolean) : Cond) ∈ lw_tbl := List.mem_of_getElem? (i := 306) rfl
set_option maxRecDepth 100000 in
theorem qt200 : (Cond.methodLink RX2 113 yX5_lowestShort : Cond) ∈ lw_tbl := List.mem_of_getElem? (i := 307) rfl
set_option maxRecDepth 100000 in
theorem qt201 : (Cond.instanceMethod yX5_lowestShort : Cond) ∈ lw_tbl := List.mem_of_getElem? (i := 308) rfl
set_option maxRecDepth 100000 in
theorem qt202 : (Cond.selects RX5 yX5_lowestShort yX5_lowestShort : Cond) ∈ lw_tbl := List.mem_of_getElem? (i := 309) rfl
set_option maxRecDepth 100000 in
theorem qt203 : (Cond.code yX5_lowestShort cX5_lowestShort 3 (some .int) : Cond) ∈ lw_tbl := List.mem_of_getElem? (i := 310) rfl
set_option maxRecDepth 100000 in
theorem qt204 : (Cond.methodLink RX5 50 yX5_free : Cond) ∈ lw_tbl := List.mem_of_getElem? (i := 311) rfl
set_option maxRecDepth 100000 in
theorem qt205 : (Cond.instanceMethod yX5_free : Cond) ∈ lw_tbl := List.mem_of_getElem? (i := 312) rfl
set_option maxRecDepth 100000 in
theorem qt206 : (Cond.selects RX5 yX5_free yX5_free : Cond) ∈ lw_tbl := List.mem_of_getElem? (i := 313) rfl
set_option maxRecDepth 100000 in
theorem qt207 : (Cond.code yX5_free cX5_free 2 (some .int) : Cond) ∈ lw_tbl := List.mem_of_getElem? (i := 314) rfl
set_option maxRecDepth 100000 in
theorem qt208 : (Cond.methodLink RX5 46 yX5_needOf : Cond) ∈ lw_tbl := List.mem_of_getElem? (i := 315) rfl
set_option maxRecDepth 100000 in
theorem qt209 : (Cond.static yX5_needOf : Cond) ∈ lw_tbl := List.mem_of_getElem? (i := 316) rfl
set_option maxRecDepth 100000 in
theorem qt210 : (Cond.code yX5_needOf cX5_needOf 2 (some .int) : Cond) ∈ lw_tbl := List.mem_of_getElem? (i := 317) rfl
set_option maxRecDepth 100000 in
theorem qt211 : (Cond.methodLink RX2 116 yX5_reserveFor : Cond) ∈ lw_tbl := List.mem_of_getElem? (i := 320) rfl
set_option maxRecDepth 100000 in
theorem qt212 : (Cond.instanceMethod yX5_reserveFor : Cond) ∈ lw_tbl := List.mem_of_getElem? (i := 321) rfl
set_option maxRecDepth 100000 in
theorem qt213 : (Cond.selects RX5 yX5_reserveFor yX5_reserveFor : Cond) ∈ lw_tbl := List.mem_of_getElem? (i := 322) rfl
set_option maxRecDepth 100000 in
theorem qt214 : (Cond.code yX5_reserveFor cX5_reserveFor 3 none : Cond) ∈ lw_tbl := List.mem_of_getElem? (i := 323) rfl
set_option maxRecDepth 100000 in
theorem qt215 : (Cond.methodLink RX2 158 yX5_dropOrdersOf : Cond) ∈ lw_tbl := List.mem_of_getElem? (i := 324) rfl
set_option maxRecDepth 100000 in
theorem qt216 : (Cond.instanceMethod yX5_dropOrdersOf : Cond) ∈ lw_tbl := List.mem_of_getElem? (i := 325) rfl
set_option maxRecDepth 100000 in
theorem qt217 : (Cond.selects RX5 yX5_dropOrdersOf yX5_dropOrdersOf : Cond) ∈ lw_tbl := List.mem_of_getElem? (i := 326) rfl
set_option maxRecDepth 100000 in
theorem qt218 : (Cond.code yX5_dropOrdersOf cX5_dropOrdersOf 4 none : Cond) ∈ lw_tbl := List.mem_of_getElem? (i := 327) rfl
set_option maxRecDepth 100000 in
theorem qt219 : (Cond.methodLink RX2 137 yX2_workWhere : Cond) ∈ lw_tbl := List.mem_of_getElem? (i := 328) rfl
set_option maxRecDepth 100000 in
theorem qt220 : (Cond.instanceMethod yX2_workWhere : Cond) ∈ lw_tbl := List.mem_of_getElem? (i := 330) rfl
set_option maxRecDepth 100000 in
theorem qt221 : (Cond.selects RX2 yX2_workWhere yX2_workWhere : Cond) ∈ lw_tbl := List.mem_of_getElem? (i := 3) rfl
set_option maxRecDepth 100000 in
theorem qt222 : (Cond.code yX2_workWhere cX2_workWhere 7 (some .int) : Cond) ∈ lw_tbl := List.mem_of_getElem? (i := 331) rfl
set_option maxRecDepth 100000 in
theorem qt223 : (Cond.fieldLink RX2 161 "SetRepairs$Sets" "worked" "[I" : Cond) ∈ lw_tbl := List.mem_of_getElem? (i := 97) rfl
set_option maxRecDepth 100000 in
theorem qt224 : (Cond.methodLink RX2 164 Lib.Math.min.name : Cond) ∈ lw_tbl := List.mem_of_getElem? (i := 334) rfl
set_option maxRecDepth 100000 in
theorem qt225 : (Cond.static Lib.Math.min.name : Cond) ∈ lw_tbl := List.mem_of_getElem? (i := 335) rfl
set_option maxRecDepth 100000 in
theorem qt226 : (Cond.initialized "java/lang/Math" : Cond) ∈ lw_tbl := List.mem_of_getElem? (i := 16) rfl
set_option maxRecDepth 100000 in
theorem qt227 : (Cond.code Lib.Math.min.name Lib.Math.min.code 2 (some .int) : Cond) ∈ lw_tbl := List.mem_of_getElem? (i := 336) rfl
set_option maxRecDepth 100000 in
theorem qt228 : (Cond.methodLink RX2 167 yX2_finish : Cond) ∈ lw_tbl := List.mem_of_getElem? (i := 337) rfl
set_option maxRecDepth 100000 in
theorem qt229 : (Cond.instanceMethod yX2_finish : Cond) ∈ lw_tbl := List.mem_of_getElem? (i := 339) rfl
set_option maxRecDepth 100000 in
theorem qt230 : (Cond.selects RX2 yX2_finish yX2_finish : Cond) ∈ lw_tbl := List.mem_of_getElem? (i := 4) rfl
set_option maxRecDepth 100000 in
theorem qt231 : (Cond.code yX2_finish cX2_finish 4 none : Cond) ∈ lw_tbl := List.mem_of_getElem? (i := 340) rfl
set_option maxRecDepth 100000 in
theorem qt232 : (Cond.fieldLink RX2 170 "SetRepairs$Sets" "estimate" "[I" : Cond) ∈ lw_tbl := List.mem_of_getElem? (i := 95) rfl
set_option maxRecDepth 100000 in
theorem qt233 : (Cond.fieldLink RX2 125 "SetRepairs$Sets" "bill" "[I" : Cond) ∈ lw_tbl := List.mem_of_getElem? (i := 100) rfl
set_option maxRecDepth 100000 in
theorem qt234 : (Cond.fieldLink RX2 75 "SetRepairs$Sets" "ready" "[I" : Cond) ∈ lw_tbl := List.mem_of_getElem? (i := 109) rfl
set_option maxRecDepth 100000 in
theorem qt235 : (Cond.fieldLink RX2 179 "SetRepairs$Books" "partsBuiltIn" "I" : Cond) ∈ lw_tbl := List.mem_of_getElem? (i := 146) rfl
set_option maxRecDepth 100000 in
theorem qt236 : (Cond.fieldLink RX2 182 "SetRepairs$Books" "daysToDone" "I" : Cond) ∈ lw_tbl := List.mem_of_getElem? (i := 152) rfl
set_option maxRecDepth 100000 in
theorem qt237 : (Cond.fieldLink RX2 185 "SetRepairs$Sets" "came" "[I" : Cond) ∈ lw_tbl := List.mem_of_getElem? (i := 91) rfl
set_option maxRecDepth 100000 in
theorem qt238 : (Cond.fieldLink RX2 188 "SetRepairs$Books" "setsDone" "I" : Cond) ∈ lw_tbl := List.mem_of_getElem? (i := 150) rfl
set_option maxRecDepth 100000 in
theorem qt239 : (Cond.methodLink RX2 173 yX5_takeReservedFor : Cond) ∈ lw_tbl := List.mem_of_getElem? (i := 341) rfl
set_option maxRecDepth 100000 in
theorem qt240 : (Cond.instanceMethod yX5_takeReservedFor : Cond) ∈ lw_tbl := List.mem_of_getElem? (i := 342) rfl
set_option maxRecDepth 100000 in
theorem qt241 : (Cond.selects RX5 yX5_takeReservedFor yX5_takeReservedFor : Cond) ∈ lw_tbl := List.mem_of_getElem? (i := 343) rfl
set_option maxRecDepth 100000 in
theorem qt242 : (Cond.code yX5_takeReservedFor cX5_takeReservedFor 3 none : Cond) ∈ lw_tbl := List.mem_of_getElem? (i := 344) rfl
set_option maxRecDepth 100000 in
theorem qt243 : (Cond.methodLink RX2 176 yX2_costNow : Cond) ∈ lw_tbl := List.mem_of_getElem? (i := 345) rfl
set_option maxRecDepth 100000 in
theorem qt244 : (Cond.instanceMethod yX2_costNow : Cond) ∈ lw_tbl := List.mem_of_getElem? (i := 346) rfl
set_option maxRecDepth 100000 in
theorem qt245 : (Cond.selects RX2 yX2_costNow yX2_costNow : Cond) ∈ lw_tbl := List.mem_of_getElem? (i := 347) rfl
set_option maxRecDepth 100000 in
theorem qt246 : (Cond.code yX2_costNow cX2_costNow 4 (some .int) : Cond) ∈ lw_tbl := List.mem_of_getElem? (i := 348) rfl
set_option maxRecDepth 100000 in
theorem qt247 : (Cond.methodLink RX2 64 yX5_priceOfParts : Cond) ∈ lw_tbl := List.mem_of_getElem? (i := 349) rfl
set_option maxRecDepth 100000 in
theorem qt248 : (Cond.instanceMethod yX5_priceOfParts : Cond) ∈ lw_tbl := List.mem_of_getElem? (i := 350) rfl
set_option maxRecDepth 100000 in
theorem qt249 : (Cond.selects RX5 yX5_priceOfParts yX5_priceOfParts : Cond) ∈ lw_tbl := List.mem_of_getElem? (i := 351) rfl
set_option maxRecDepth 100000 in
theorem qt250 : (Cond.code yX5_priceOfParts cX5_priceOfParts 4 (some .int) : Cond) ∈ lw_tbl := List.mem_of_getElem? (i := 352) rfl
set_option maxRecDepth 100000 in
theorem qt251 : (Cond.methodLink RX2 140 yX2_sellUnclaimed : Cond) ∈ lw_tbl := List.mem_of_getElem? (i := 353) rfl
set_option maxRecDepth 100000 in
theorem qt252 : (Cond.instanceMethod yX2_sellUnclaimed : Cond) ∈ lw_tbl := List.mem_of_getElem? (i := 355) rfl
set_option maxRecDepth 100000 in
theorem qt253 : (Cond.selects RX2 yX2_sellUnclaimed yX2_sellUnclaimed : Cond) ∈ lw_tbl := List.mem_of_getElem? (i := 5) rfl
set_option maxRecDepth 100000 in
theorem qt254 : (Cond.code yX2_sellUnclaimed cX2_sellUnclaimed 2 none : Cond) ∈ lw_tbl := List.mem_of_getElem? (i := 356) rfl
set_option maxRecDepth 100000 in
theorem qt255 : (Cond.fieldLink RX2 195 "SetRepairs$Books" "soldFor" "I" : Cond) ∈ lw_tbl := List.mem_of_getElem? (i := 143) rfl
set_option maxRecDepth 100000 in
theorem qt256 : (Cond.fieldLink RX2 131 "SetRepairs$Sets" "loaner" "[I" : Cond) ∈ lw_tbl := List.mem_of_getElem? (i := 103) rfl
set_option maxRecDepth 100000 in
theorem qt257 : (Cond.methodLink RX2 191 yX4_isReady : Cond) ∈ lw_tbl := List.mem_of_getElem? (i := 357) rfl
set_option maxRecDepth 100000 in
theorem qt258 : (Cond.instanceMethod yX4_isReady : Cond) ∈ lw_tbl := List.mem_of_getElem? (i := 255) rfl
set_option maxRecDepth 100000 in
theorem qt259 : (Cond.selects RX4 yX4_isReady yX4_isReady : Cond) ∈ lw_tbl := List.mem_of_getElem? (i := 256) rfl
set_option maxRecDepth 100000 in
theorem qt260 : (Cond.code yX4_isReady cX4_isReady 2 (some .boolean) : Cond) ∈ lw_tbl := List.mem_of_getElem? (i := 257) rfl
set_option maxRecDepth 100000 in
theorem qt261 : (Cond.methodLink RL 115 yL_act : Cond) ∈ lw_tbl := List.mem_of_getElem? (i := 450) rfl
set_option maxRecDepth 100000 in
theorem qt262 : (Cond.static yL_act : Cond) ∈ lw_tbl := List.mem_of_getElem? (i := 451) rfl
set_option maxRecDepth 100000 in
theorem qt263 : (Cond.code yL_act cL_act 6 (some .int) : Cond) ∈ lw_tbl := List.mem_of_getElem? (i := 452) rfl
set_option maxRecDepth 100000 in
theorem qt264 : (Cond.constant RL 89 (40000) : Cond) ∈ lw_tbl := List.mem_of_getElem? (i := 508) rfl
set_option maxRecDepth 100000 in
theorem qt265 : (Cond.constant RL 97 (1065353216) : Cond) ∈ lw_tbl := List.mem_of_getElem? (i := 523) rfl
set_option maxRecDepth 100000 in
theorem qt266 : (Cond.methodLink RL 67 yX6_come : Cond) ∈ lw_tbl := List.mem_of_getElem? (i := 453) rfl
set_option maxRecDepth 100000 in
theorem qt267 : (Cond.instanceMethod yX6_come : Cond) ∈ lw_tbl := List.mem_of_getElem? (i := 454) rfl
set_option maxRecDepth 100000 in
theorem qt268 : (Cond.selects RX6 yX6_come yX6_come : Cond) ∈ lw_tbl := List.mem_of_getElem? (i := 455) rfl
set_option maxRecDepth 100000 in
theorem qt269 : (Cond.code yX6_come cX6_come 2 (some .int) : Cond) ∈ lw_tbl := List.mem_of_getElem? (i := 456) rfl
set_option maxRecDepth 100000 in
theorem qt270 : (Cond.methodLink RX6 63 yX3_record : Cond) ∈ lw_tbl := List.mem_of_getElem? (i := 457) rfl
set_option maxRecDepth 100000 in
theorem qt271 : (Cond.instanceMethod yX3_record : Cond) ∈ lw_tbl := List.mem_of_getElem? (i := 458) rfl
set_option maxRecDepth 100000 in
theorem qt272 : (Cond.selects RX3 yX3_record yX3_record : Cond) ∈ lw_tbl := List.mem_of_getElem? (i := 459) rfl
set_option maxRecDepth 100000 in
theorem qt273 : (Cond.code yX3_record cX3_record 2 none : Cond) ∈ lw_tbl := List.mem_of_getElem? (i := 460) rfl
set_option maxRecDepth 100000 in
theorem qt274 : (Cond.methodLink RX3 22 yX3_dropOldest : Cond) ∈ lw_tbl := List.mem_of_getElem? (i := 461) rfl
set_option maxRecDepth 100000 in
theorem qt275 : (Cond.instanceMethod yX3_dropOldest : Cond) ∈ lw_tbl := List.mem_of_getElem? (i := 463) rfl
set_option maxRecDepth 100000 in
theorem qt276 : (Cond.selects RX3 yX3_dropOldest yX3_dropOldest : Cond) ∈ lw_tbl := List.mem_of_getElem? (i := 6) rfl
set_option maxRecDepth 100000 in
theorem qt277 : (Cond.code yX3_dropOldest cX3_dropOldest 3 none : Cond) ∈ lw_tbl := List.mem_of_getElem? (i := 464) rfl
set_option maxRecDepth 100000 in
theorem qt278 : (Cond.methodLink RX3 25 yX2_copyFrom : Cond) ∈ lw_tbl := List.mem_of_getElem? (i := 465) rfl
set_option maxRecDepth 100000 in
theorem qt279 : (Cond.methodLink RX6 119 yX4_add : Cond) ∈ lw_tbl := List.mem_of_getElem? (i := 466) rfl
set_option maxRecDepth 100000 in
theorem qt280 : (Cond.instanceMethod yX4_add : Cond) ∈ lw_tbl := List.mem_of_getElem? (i := 467) rfl
set_option maxRecDepth 100000 in
theorem qt281 : (Cond.selects RX4 yX4_add yX4_add : Cond) ∈ lw_tbl := List.mem_of_getElem? (i := 468) rfl
set_option maxRecDepth 100000 in
theorem qt282 : (Cond.code yX4_add cX4_add 4 (some .int) : Cond) ∈ lw_tbl := List.mem_of_getElem? (i := 469) rfl
set_option maxRecDepth 100000 in
theorem qt283 : (Cond.methodLink RL 70 yX6_estimate : Cond) ∈ lw_tbl := List.mem_of_getElem? (i := 470) rfl
set_option maxRecDepth 100000 in
theorem qt284 : (Cond.instanceMethod yX6_estimate : Cond) ∈ lw_tbl := List.mem_of_getElem? (i := 471) rfl
set_option maxRecDepth 100000 in
theorem qt285 : (Cond.selects RX6 yX6_estimate yX6_estimate : Cond) ∈ lw_tbl := List.mem_of_getElem? (i := 472) rfl
set_option maxRecDepth 100000 in
theorem qt286 : (Cond.code yX6_estimate cX6_estimate 3 (some .int) : Cond) ∈ lw_tbl := List.mem_of_getElem? (i := 473) rfl
set_option maxRecDepth 100000 in
theorem qt287 : (Cond.fieldLink RX6 130 "SetRepairs$Sets" "fault" "[I" : Cond) ∈ lw_tbl := List.mem_of_getElem? (i := 89) rfl
set_option maxRecDepth 100000 in
theorem qt288 : (Cond.fieldLink RX6 137 "SetRepairs$Sets" "estimate" "[I" : Cond) ∈ lw_tbl := List.mem_of_getElem? (i := 94) rfl
set_option maxRecDepth 100000 in
theorem qt289 : (Cond.methodLink RX6 133 yX2_costNow : Cond) ∈ lw_tbl := List.mem_of_getElem? (i := 434) rfl
set_option maxRecDepth 100000 in
theorem qt290 : (Cond.methodLink RL 73 yX6_answer : Cond) ∈ lw_tbl := List.mem_of_getElem? (i := 474) rfl
set_option maxRecDepth 100000 in
theorem qt291 : (Cond.instanceMethod yX6_answer : Cond) ∈ lw_tbl := List.mem_of_getElem? (i := 475) rfl
set_option maxRecDepth 100000 in
theorem qt292 : (Cond.selects RX6 yX6_answer yX6_answer : Cond) ∈ lw_tbl := List.mem_of_getElem? (i := 476) rfl
set_option maxRecDepth 100000 in
theorem qt293 : (Cond.code yX6_answer cX6_answer 3 (some .int) : Cond) ∈ lw_tbl := List.mem_of_getElem? (i := 477) rfl
set_option maxRecDepth 100000 in
theorem qt294 : (Cond.methodLink RX6 140 yX2_decide : Cond) ∈ lw_tbl := List.mem_of_getElem? (i := 478) rfl
set_option maxRecDepth 100000 in
theorem qt295 : (Cond.instanceMethod yX2_decide : Cond) ∈ lw_tbl := List.mem_of_getElem? (i := 479) rfl
set_option maxRecDepth 100000 in
theorem qt296 : (Cond.selects RX2 yX2_decide yX2_decide : Cond) ∈ lw_tbl := List.mem_of_getElem? (i := 480) rfl
set_option maxRecDepth 100000 in
theorem qt297 : (Cond.code yX2_decide cX2_decide 3 none : Cond) ∈ lw_tbl := List.mem_of_getElem? (i := 481) rfl
set_option maxRecDepth 100000 in
theorem qt298 : (Cond.methodLink RL 77 yX6_put : Cond) ∈ lw_tbl := List.mem_of_getElem? (i := 482) rfl
set_option maxRecDepth 100000 in
theorem qt299 : (Cond.instanceMethod yX6_put : Cond) ∈ lw_tbl := List.mem_of_getElem? (i := 483) rfl
set_option maxRecDepth 100000 in
theorem qt300 : (Cond.selects RX6 yX6_put yX6_put : Cond) ∈ lw_tbl := List.mem_of_getElem? (i := 484) rfl
set_option maxRecDepth 100000 in
theorem qt301 : (Cond.code yX6_put cX6_put 3 (some .int) : Cond) ∈ lw_tbl := List.mem_of_getElem? (i := 485) rfl
set_option maxRecDepth 100000 in
theorem qt302 : (Cond.fieldLink RX6 110 "SetRepairs$Store" "stock" "[I" : Cond) ∈ lw_tbl := List.mem_of_getElem? (i := 46) rfl
set_option maxRecDepth 100000 in
theorem qt303 : (Cond.methodLink RX6 113 yX2_reserveParts : Cond) ∈ lw_tbl := List.mem_of_getElem? (i := 486) rfl
set_option maxRecDepth 100000 in
theorem qt304 : (Cond.methodLink RL 80 yX6_order : Cond) ∈ lw_tbl := List.mem_of_getElem? (i := 487) rfl
set_option maxRecDepth 100000 in
theorem qt305 : (Cond.instanceMethod yX6_order : Cond) ∈ lw_tbl := List.mem_of_getElem? (i := 488) rfl
set_option maxRecDepth 100000 in
theorem qt306 : (Cond.selects RX6 yX6_order yX6_order : Cond) ∈ lw_tbl := List.mem_of_getElem? (i := 489) rfl
set_option maxRecDepth 100000 in
theorem qt307 : (Cond.code yX6_order cX6_order 4 (some .int) : Cond) ∈ lw_tbl := List.mem_of_getElem? (i := 490) rfl
set_option maxRecDepth 100000 in
theorem qt308 : (Cond.fieldLink RX6 96 "SetRepairs$Store" "lead" "[I" : Cond) ∈ lw_tbl := List.mem_of_getElem? (i := 44) rfl
set_option maxRecDepth 100000 in
theorem qt309 : (Cond.methodLink RX6 106 yX5_addOrder : Cond) ∈ lw_tbl := List.mem_of_getElem? (i := 491) rfl
set_option maxRecDepth 100000 in
theorem qt310 : (Cond.instanceMethod yX5_addOrder : Cond) ∈ lw_tbl := List.mem_of_getElem? (i := 492) rfl
set_option maxRecDepth 100000 in
theorem qt311 : (Cond.selects RX5 yX5_addOrder yX5_addOrder : Cond) ∈ lw_tbl := List.mem_of_getElem? (i := 493) rfl
set_option maxRecDepth 100000 in
theorem qt312 : (Cond.code yX5_addOrder cX5_addOrder 4 none : Cond) ∈ lw_tbl := List.mem_of_getElem? (i := 494) rfl
set_option maxRecDepth 100000 in
theorem qt313 : (Cond.methodLink RL 83 yX6_lend : Cond) ∈ lw_tbl := List.mem_of_getElem? (i := 495) rfl
set_option maxRecDepth 100000 in
theorem qt314 : (Cond.instanceMethod yX6_lend : Cond) ∈ lw_tbl := List.mem_of_getElem? (i := 496) rfl
set_option maxRecDepth 100000 in
theorem qt315 : (Cond.selects RX6 yX6_lend yX6_lend : Cond) ∈ lw_tbl := List.mem_of_getElem? (i := 497) rfl
set_option maxRecDepth 100000 in
theorem qt316 : (Cond.code yX6_lend cX6_lend 2 (some .int) : Cond) ∈ lw_tbl := List.mem_of_getElem? (i := 498) rfl
set_option maxRecDepth 100000 in
theorem qt317 : (Cond.fieldLink RX6 156 "SetRepairs$Sets" "loaner" "[I" : Cond) ∈ lw_tbl := List.mem_of_getElem? (i := 104) rfl
set_option maxRecDepth 100000 in
theorem qt318 : (Cond.methodLink RL 86 yX6_collect : Cond) ∈ lw_tbl := List.mem_of_getElem? (i := 499) rfl
set_option maxRecDepth 100000 in
theorem qt319 : (Cond.instanceMethod yX6_collect : Cond) ∈ lw_tbl := List.mem_of_getElem? (i := 500) rfl
set_option maxRecDepth 100000 in
theorem qt320 : (Cond.selects RX6 yX6_collect yX6_collect : Cond) ∈ lw_tbl := List.mem_of_getElem? (i := 501) rfl
set_option maxRecDepth 100000 in
theorem qt321 : (Cond.code yX6_collect cX6_collect 2 (some .int) : Cond) ∈ lw_tbl := List.mem_of_getElem? (i := 502) rfl
set_option maxRecDepth 100000 in
theorem qt322 : (Cond.methodLink RX6 162 yX4_isReady : Cond) ∈ lw_tbl := List.mem_of_getElem? (i := 254) rfl
set_option maxRecDepth 100000 in
theorem qt323 : (Cond.methodLink RX6 165 yX2_handOver : Cond) ∈ lw_tbl := List.mem_of_getElem? (i := 503) rfl
set_option maxRecDepth 100000 in
theorem qt324 : (Cond.instanceMethod yX2_handOver : Cond) ∈ lw_tbl := List.mem_of_getElem? (i := 504) rfl
set_option maxRecDepth 100000 in
theorem qt325 : (Cond.selects RX2 yX2_handOver yX2_handOver : Cond) ∈ lw_tbl := List.mem_of_getElem? (i := 505) rfl
set_option maxRecDepth 100000 in
theorem qt326 : (Cond.code yX2_handOver cX2_handOver 3 (some .int) : Cond) ∈ lw_tbl := List.mem_of_getElem? (i := 506) rfl
set_option maxRecDepth 100000 in
theorem qt327 : (Cond.fieldLink RX2 122 "SetRepairs$Books" "billsPaid" "I" : Cond) ∈ lw_tbl := List.mem_of_getElem? (i := 137) rfl
set_option maxRecDepth 100000 in
theorem qt328 : (Cond.fieldLink RX2 128 "SetRepairs$Books" "feesPaid" "I" : Cond) ∈ lw_tbl := List.mem_of_getElem? (i := 140) rfl
set_option maxRecDepth 100000 in
theorem qt329 : (Cond.methodLink RX2 119 yX2_storageFee : Cond) ∈ lw_tbl := List.mem_of_getElem? (i := 507) rfl
set_option maxRecDepth 100000 in
theorem qt330 : (Cond.instanceMethod yX2_storageFee : Cond) ∈ lw_tbl := List.mem_of_getElem? (i := 259) rfl
set_option maxRecDepth 100000 in
theorem qt331 : (Cond.selects RX2 yX2_storageFee yX2_storageFee : Cond) ∈ lw_tbl := List.mem_of_getElem? (i := 260) rfl
set_option maxRecDepth 100000 in
theorem qt332 : (Cond.code yX2_storageFee cX2_storageFee 3 (some .int) : Cond) ∈ lw_tbl := List.mem_of_getElem? (i := 261) rfl
set_option maxRecDepth 100000 in
theorem qt333 : (Cond.methodLink RL 90 yX6_setPart : Cond) ∈ lw_tbl := List.mem_of_getElem? (i := 509) rfl
set_option maxRecDepth 100000 in
theorem qt334 : (Cond.instanceMethod yX6_setPart : Cond) ∈ lw_tbl := List.mem_of_getElem? (i := 510) rfl
set_option maxRecDepth 100000 in
theorem qt335 : (Cond.selects RX6 yX6_setPart yX6_setPart : Cond) ∈ lw_tbl := List.mem_of_getElem? (i := 511) rfl
set_option maxRecDepth 100000 in
theorem qt336 : (Cond.code yX6_setPart cX6_setPart 5 (some .int) : Cond) ∈ lw_tbl := List.mem_of_getElem? (i := 512) rfl
set_option maxRecDepth 100000 in
theorem qt337 : (Cond.constant RX6 86 (50000) : Cond) ∈ lw_tbl := List.mem_of_getElem? (i := 513) rfl
set_option maxRecDepth 100000 in
theorem qt338 : (Cond.fieldLink RX6 91 "SetRepairs$Store" "price" "[I" : Cond) ∈ lw_tbl := List.mem_of_getElem? (i := 42) rfl
set_option maxRecDepth 100000 in
theorem qt339 : (Cond.methodLink RL 94 yX6_setNumber : Cond) ∈ lw_tbl := List.mem_of_getElem? (i := 514) rfl
set_option maxRecDepth 100000 in
theorem qt340 : (Cond.instanceMethod yX6_setNumber : Cond) ∈ lw_tbl := List.mem_of_getElem? (i := 515) rfl
set_option maxRecDepth 100000 in
theorem qt341 : (Cond.selects RX6 yX6_setNumber yX6_setNumber : Cond) ∈ lw_tbl := List.mem_of_getElem? (i := 516) rfl
set_option maxRecDepth 100000 in
theorem qt342 : (Cond.code yX6_setNumber cX6_setNumber 4 (some .int) : Cond) ∈ lw_tbl := List.mem_of_getElem? (i := 517) rfl
set_option maxRecDepth 100000 in
theorem qt343 : (Cond.fieldLink RX6 67 "SetRepairs" "LOWEST_NUMBER" "[I" : Cond) ∈ lw_tbl := List.mem_of_getElem? (i := 518) rfl
set_option maxRecDepth 100000 in
theorem qt344 : (Cond.fieldLink RX6 70 "SetRepairs" "HIGHEST_NUMBER" "[I" : Cond) ∈ lw_tbl := List.mem_of_getElem? (i := 520) rfl
set_option maxRecDepth 100000 in
theorem qt345 : (Cond.fieldLink RX6 83 "SetRepairs$Desk" "numbers" "[I" : Cond) ∈ lw_tbl := List.mem_of_getElem? (i := 172) rfl
set_option maxRecDepth 100000 in
theorem qt346 : (Cond.methodLink RX6 77 yX4_withLoaner : Cond) ∈ lw_tbl := List.mem_of_getElem? (i := 522) rfl
set_option maxRecDepth 100000 in
theorem qt347 : (Cond.methodLink RL 98 yX6_setRate : Cond) ∈ lw_tbl := List.mem_of_getElem? (i := 524) rfl
set_option maxRecDepth 100000 in
theorem qt348 : (Cond.instanceMethod yX6_setRate : Cond) ∈ lw_tbl := List.mem_of_getElem? (i := 525) rfl
set_option maxRecDepth 100000 in
theorem qt349 : (Cond.selects RX6 yX6_setRate yX6_setRate : Cond) ∈ lw_tbl := List.mem_of_getElem? (i := 526) rfl
set_option maxRecDepth 100000 in
theorem qt350 : (Cond.code yX6_setRate cX6_setRate 4 (some .int) : Cond) ∈ lw_tbl := List.mem_of_getElem? (i := 527) rfl
set_option maxRecDepth 100000 in
theorem qt351 : (Cond.fieldLink RX6 44 "SetRepairs" "LOWEST_RATE_BITS" "[I" : Cond) ∈ lw_tbl := List.mem_of_getElem? (i := 528) rfl
set_option maxRecDepth 100000 in
theorem qt352 : (Cond.fieldLink RX6 48 "SetRepairs" "HIGHEST_RATE_BITS" "[I" : Cond) ∈ lw_tbl := List.mem_of_getElem? (i := 530) rfl
set_option maxRecDepth 100000 in
theorem qt353 : (Cond.fieldLink RX6 59 "SetRepairs$Desk" "rates" "[F" : Cond) ∈ lw_tbl := List.mem_of_getElem? (i := 170) rfl
set_option maxRecDepth 100000 in
theorem qt354 : (Cond.methodLink RX6 55 yX6_floatOf : Cond) ∈ lw_tbl := List.mem_of_getElem? (i := 532) rfl
set_option maxRecDepth 100000 in
theorem qt355 : (Cond.static yX6_floatOf : Cond) ∈ lw_tbl := List.mem_of_getElem? (i := 533) rfl
set_option maxRecDepth 100000 in
theorem qt356 : (Cond.code yX6_floatOf cX6_floatOf 5 (some .float) : Cond) ∈ lw_tbl := List.mem_of_getElem? (i := 534) rfl
set_option maxRecDepth 100000 in
theorem qt357 : (Cond.constant RX6 237 (8388607) : Cond) ∈ lw_tbl := List.mem_of_getElem? (i := 535) rfl
set_option maxRecDepth 100000 in
theorem qt358 : (Cond.constant RX6 238 (8388608) : Cond) ∈ lw_tbl := List.mem_of_getElem? (i := 536) rfl
set_option maxRecDepth 100000 in
theorem qt359 : (Cond.methodLink RL 101 yX6_undo : Cond) ∈ lw_tbl := List.mem_of_getElem? (i := 537) rfl
set_option maxRecDepth 100000 in
theorem qt360 : (Cond.instanceMethod yX6_undo : Cond) ∈ lw_tbl := List.mem_of_getElem? (i := 538) rfl
set_option maxRecDepth 100000 in
theorem qt361 : (Cond.selects RX6 yX6_undo yX6_undo : Cond) ∈ lw_tbl := List.mem_of_getElem? (i := 539) rfl
set_option maxRecDepth 100000 in
theorem qt362 : (Cond.code yX6_undo cX6_undo 1 (some .int) : Cond) ∈ lw_tbl := List.mem_of_getElem? (i := 540) rfl
set_option maxRecDepth 100000 in
theorem qt363 : (Cond.methodLink RX6 188 yX3_giveBack : Cond) ∈ lw_tbl := List.mem_of_getElem? (i := 541) rfl
set_option maxRecDepth 100000 in
theorem qt364 : (Cond.instanceMethod yX3_giveBack : Cond) ∈ lw_tbl := List.mem_of_getElem? (i := 542) rfl
set_option maxRecDepth 100000 in
theorem qt365 : (Cond.selects RX3 yX3_giveBack yX3_giveBack : Cond) ∈ lw_tbl := List.mem_of_getElem? (i := 543) rfl
set_option maxRecDepth 100000 in
theorem qt366 : (Cond.code yX3_giveBack cX3_giveBack 2 none : Cond) ∈ lw_tbl := List.mem_of_getElem? (i := 544) rfl
set_option maxRecDepth 100000 in
theorem qt367 : (Cond.methodLink RL 105 yX6_keep : Cond) ∈ lw_tbl := List.mem_of_getElem? (i := 545) rfl
set_option maxRecDepth 100000 in
theorem qt368 : (Cond.instanceMethod yX6_keep : Cond) ∈ lw_tbl := List.mem_of_getElem? (i := 546) rfl
set_option maxRecDepth 100000 in
theorem qt369 : (Cond.selects RX6 yX6_keep yX6_keep : Cond) ∈ lw_tbl := List.mem_of_getElem? (i := 547) rfl
set_option maxRecDepth 100000 in
theorem qt370 : (Cond.code yX6_keep cX6_keep 1 (some .int) : Cond) ∈ lw_tbl := List.mem_of_getElem? (i := 548) rfl
set_option maxRecDepth 100000 in
theorem qt371 : (Cond.methodLink RL 108 yX6_restore : Cond) ∈ lw_tbl := List.mem_of_getElem? (i := 549) rfl
set_option maxRecDepth 100000 in
theorem qt372 : (Cond.instanceMethod yX6_restore : Cond) ∈ lw_tbl := List.mem_of_getElem? (i := 550) rfl
set_option maxRecDepth 100000 in
theorem qt373 : (Cond.selects RX6 yX6_restore yX6_restore : Cond) ∈ lw_tbl := List.mem_of_getElem? (i := 551) rfl
set_option maxRecDepth 100000 in
theorem qt374 : (Cond.code yX6_restore cX6_restore 1 (some .int) : Cond) ∈ lw_tbl := List.mem_of_getElem? (i := 552) rfl
set_option maxRecDepth 100000 in
theorem qt375 : (Cond.methodLink RL 111 yX6_pass : Cond) ∈ lw_tbl := List.mem_of_getElem? (i := 553) rfl
set_option maxRecDepth 100000 in
theorem qt376 : (Cond.instanceMethod yX6_pass : Cond) ∈ lw_tbl := List.mem_of_getElem? (i := 554) rfl
set_option maxRecDepth 100000 in
theorem qt377 : (Cond.selects RX6 yX6_pass yX6_pass : Cond) ∈ lw_tbl := List.mem_of_getElem? (i := 555) rfl
set_option maxRecDepth 100000 in
theorem qt378 : (Cond.code yX6_pass cX6_pass 4 (some .int) : Cond) ∈ lw_tbl := List.mem_of_getElem? (i := 556) rfl
set_option maxRecDepth 100000 in
theorem qt379 : (Cond.fieldLink RX6 172 "SetRepairs$Books" "setsDone" "I" : Cond) ∈ lw_tbl := List.mem_of_getElem? (i := 149) rfl
set_option maxRecDepth 100000 in
theorem qt380 : (Cond.methodLink RL 38 yX6_set : Cond) ∈ lw_tbl := List.mem_of_getElem? (i := 243) rfl
set_option maxRecDepth 100000 in
theorem qt381 : (Cond.instanceMethod yX6_set : Cond) ∈ lw_tbl := List.mem_of_getElem? (i := 244) rfl
set_option maxRecDepth 100000 in
theorem qt382 : (Cond.selects RX6 yX6_set yX6_set : Cond) ∈ lw_tbl := List.mem_of_getElem? (i := 245) rfl
set_option maxRecDepth 100000 in
theorem qt383 : (Cond.code yX6_set cX6_set 3 (some .int) : Cond) ∈ lw_tbl := List.mem_of_getElem? (i := 246) rfl
set_option maxRecDepth 100000 in
theorem qt384 : (Cond.fieldLink RX6 201 "SetRepairs$Sets" "came" "[I" : Cond) ∈ lw_tbl := List.mem_of_getElem? (i := 92) rfl
set_option maxRecDepth 100000 in
theorem qt385 : (Cond.fieldLink RX6 204 "SetRepairs$Sets" "worked" "[I" : Cond) ∈ lw_tbl := List.mem_of_getElem? (i := 98) rfl
set_option maxRecDepth 100000 in
theorem qt386 : (Cond.fieldLink RX6 207 "SetRepairs$Sets" "bill" "[I" : Cond) ∈ lw_tbl := List.mem_of_getElem? (i := 101) rfl
set_option maxRecDepth 100000 in
theorem qt387 : (Cond.fieldLink RX6 210 "SetRepairs$Sets" "ready" "[I" : Cond) ∈ lw_tbl := List.mem_of_getElem? (i := 110) rfl
set_option maxRecDepth 100000 in
theorem qt388 : (Cond.methodLink RX6 213 yX2_storageFee : Cond) ∈ lw_tbl := List.mem_of_getElem? (i := 258) rfl
set_option maxRecDepth 100000 in
theorem qt389 : (Cond.methodLink RL 119 yL_desk : Cond) ∈ lw_tbl := List.mem_of_getElem? (i := 385) rfl
set_option maxRecDepth 100000 in
theorem qt390 : (Cond.static yL_desk : Cond) ∈ lw_tbl := List.mem_of_getElem? (i := 386) rfl
set_option maxRecDepth 100000 in
theorem qt391 : (Cond.code yL_desk cL_desk 8 (some .boolean) : Cond) ∈ lw_tbl := List.mem_of_getElem? (i := 387) rfl
set_option maxRecDepth 100000 in
theorem qt392 : (Cond.methodLink RL 9 yL_need : Cond) ∈ lw_tbl := List.mem_of_getElem? (i := 388) rfl
set_option maxRecDepth 100000 in
theorem qt393 : (Cond.static yL_need : Cond) ∈ lw_tbl := List.mem_of_getElem? (i := 389) rfl
set_option maxRecDepth 100000 in
theorem qt394 : (Cond.code yL_need cL_need 2 (some .int) : Cond) ∈ lw_tbl := List.mem_of_getElem? (i := 390) rfl
set_option maxRecDepth 100000 in
theorem qt395 : (Cond.methodLink RL 15 yX6_part : Cond) ∈ lw_tbl := List.mem_of_getElem? (i := 391) rfl
set_option maxRecDepth 100000 in
theorem qt396 : (Cond.instanceMethod yX6_part : Cond) ∈ lw_tbl := List.mem_of_getElem? (i := 392) rfl
set_option maxRecDepth 100000 in
theorem qt397 : (Cond.selects RX6 yX6_part yX6_part : Cond) ∈ lw_tbl := List.mem_of_getElem? (i := 393) rfl
set_option maxRecDepth 100000 in
theorem qt398 : (Cond.code yX6_part cX6_part 3 (some .int) : Cond) ∈ lw_tbl := List.mem_of_getElem? (i := 394) rfl
set_option maxRecDepth 100000 in
theorem qt399 : (Cond.fieldLink RX6 192 "SetRepairs$Store" "reserved" "[I" : Cond) ∈ lw_tbl := List.mem_of_getElem? (i := 49) rfl
set_option maxRecDepth 100000 in
theorem qt400 : (Cond.methodLink RX6 195 yX5_onOrder : Cond) ∈ lw_tbl := List.mem_of_getElem? (i := 395) rfl
set_option maxRecDepth 100000 in
theorem qt401 : (Cond.instanceMethod yX5_onOrder : Cond) ∈ lw_tbl := List.mem_of_getElem? (i := 396) rfl
set_option maxRecDepth 100000 in
theorem qt402 : (Cond.selects RX5 yX5_onOrder yX5_onOrder : Cond) ∈ lw_tbl := List.mem_of_getElem? (i := 397) rfl
set_option maxRecDepth 100000 in
theorem qt403 : (Cond.code yX5_onOrder cX5_onOrder 4 (some .int) : Cond) ∈ lw_tbl := List.mem_of_getElem? (i := 398) rfl
set_option maxRecDepth 100000 in
theorem qt404 : (Cond.methodLink RX6 198 yX2_lackingOf : Cond) ∈ lw_tbl := List.mem_of_getElem? (i := 399) rfl
set_option maxRecDepth 100000 in
theorem qt405 : (Cond.instanceMethod yX2_lackingOf : Cond) ∈ lw_tbl := List.mem_of_getElem? (i := 400) rfl
set_option maxRecDepth 100000 in
theorem qt406 : (Cond.selects RX2 yX2_lackingOf yX2_lackingOf : Cond) ∈ lw_tbl := List.mem_of_getElem? (i := 401) rfl
set_option maxRecDepth 100000 in
theorem qt407 : (Cond.code yX2_lackingOf cX2_lackingOf 4 (some .int) : Cond) ∈ lw_tbl := List.mem_of_getElem? (i := 402) rfl
set_option maxRecDepth 100000 in
theorem qt408 : (Cond.methodLink RX2 97 Lib.Math.max.name : Cond) ∈ lw_tbl := List.mem_of_getElem? (i := 406) rfl
set_option maxRecDepth 100000 in
theorem qt409 : (Cond.static Lib.Math.max.name : Cond) ∈ lw_tbl := List.mem_of_getElem? (i := 407) rfl
set_option maxRecDepth 100000 in
theorem qt410 : (Cond.code Lib.Math.max.name Lib.Math.max.code 2 (some .int) : Cond) ∈ lw_tbl := List.mem_of_getElem? (i := 408) rfl
set_option maxRecDepth 100000 in
theorem qt411 : (Cond.methodLink RX2 87 yX5_needOf : Cond) ∈ lw_tbl := List.mem_of_getElem? (i := 403) rfl
set_option maxRecDepth 100000 in
theorem qt412 : (Cond.methodLink RX2 91 yX5_free : Cond) ∈ lw_tbl := List.mem_of_getElem? (i := 404) rfl
set_option maxRecDepth 100000 in
theorem qt413 : (Cond.methodLink RX2 94 yX5_onOrder : Cond) ∈ lw_tbl := List.mem_of_getElem? (i := 405) rfl
set_option maxRecDepth 100000 in
theorem qt414 : (Cond.methodLink RL 28 yL_hours : Cond) ∈ lw_tbl := List.mem_of_getElem? (i := 409) rfl
set_option maxRecDepth 100000 in
theorem qt415 : (Cond.static yL_hours : Cond) ∈ lw_tbl := List.mem_of_getElem? (i := 410) rfl
set_option maxRecDepth 100000 in
theorem qt416 : (Cond.code yL_hours cL_hours 1 (some .int) : Cond) ∈ lw_tbl := List.mem_of_getElem? (i := 411) rfl
set_option maxRecDepth 100000 in
theorem qt417 : (Cond.methodLink RL 41 yX6_lacks : Cond) ∈ lw_tbl := List.mem_of_getElem? (i := 412) rfl
set_option maxRecDepth 100000 in
theorem qt418 : (Cond.instanceMethod yX6_lacks : Cond) ∈ lw_tbl := List.mem_of_getElem? (i := 413) rfl
set_option maxRecDepth 100000 in
theorem qt419 : (Cond.selects RX6 yX6_lacks yX6_lacks : Cond) ∈ lw_tbl := List.mem_of_getElem? (i := 414) rfl
set_option maxRecDepth 100000 in
theorem qt420 : (Cond.code yX6_lacks cX6_lacks 2 (some .int) : Cond) ∈ lw_tbl := List.mem_of_getElem? (i := 415) rfl
set_option maxRecDepth 100000 in
theorem qt421 : (Cond.methodLink RX6 219 yX5_lowestShort : Cond) ∈ lw_tbl := List.mem_of_getElem? (i := 416) rfl
set_option maxRecDepth 100000 in
theorem qt422 : (Cond.methodLink RL 47 yX6_waitsFor : Cond) ∈ lw_tbl := List.mem_of_getElem? (i := 417) rfl
set_option maxRecDepth 100000 in
theorem qt423 : (Cond.instanceMethod yX6_waitsFor : Cond) ∈ lw_tbl := List.mem_of_getElem? (i := 418) rfl
set_option maxRecDepth 100000 in
theorem qt424 : (Cond.selects RX6 yX6_waitsFor yX6_waitsFor : Cond) ∈ lw_tbl := List.mem_of_getElem? (i := 419) rfl
set_option maxRecDepth 100000 in
theorem qt425 : (Cond.code yX6_waitsFor cX6_waitsFor 2 (some .int) : Cond) ∈ lw_tbl := List.mem_of_getElem? (i := 420) rfl
set_option maxRecDepth 100000 in
theorem qt426 : (Cond.methodLink RX6 216 yX5_isEnoughOrdered : Cond) ∈ lw_tbl := List.mem_of_getElem? (i := 421) rfl
set_option maxRecDepth 100000 in
theorem qt427 : (Cond.instanceMethod yX5_isEnoughOrdered : Cond) ∈ lw_tbl := List.mem_of_getElem? (i := 422) rfl
set_option maxRecDepth 100000 in
theorem qt428 : (Cond.selects RX5 yX5_isEnoughOrdered yX5_isEnoughOrdered : Cond) ∈ lw_tbl := List.mem_of_getElem? (i := 423) rfl
set_option maxRecDepth 100000 in
theorem qt429 : (Cond.code yX5_isEnoughOrdered cX5_isEnoughOrdered 3 (some .boolean) : Cond) ∈ lw_tbl := List.mem_of_getElem? (i := 424) rfl
set_option maxRecDepth 100000 in
theorem qt430 : (Cond.methodLink RX5 54 yX5_onOrder : Cond) ∈ lw_tbl := List.mem_of_getElem? (i := 425) rfl
set_option maxRecDepth 100000 in
theorem qt431 : (Cond.methodLink RL 32 yX6_number : Cond) ∈ lw_tbl := List.mem_of_getElem? (i := 426) rfl
set_option maxRecDepth 100000 in
theorem qt432 : (Cond.instanceMethod yX6_number : Cond) ∈ lw_tbl := List.mem_of_getElem? (i := 427) rfl
set_option maxRecDepth 100000 in
theorem qt433 : (Cond.selects RX6 yX6_number yX6_number : Cond) ∈ lw_tbl := List.mem_of_getElem? (i := 428) rfl
set_option maxRecDepth 100000 in
theorem qt434 : (Cond.code yX6_number cX6_number 2 (some .int) : Cond) ∈ lw_tbl := List.mem_of_getElem? (i := 429) rfl
set_option maxRecDepth 100000 in
theorem qt435 : (Cond.methodLink RL 50 yX6_costOf : Cond) ∈ lw_tbl := List.mem_of_getElem? (i := 430) rfl
set_option maxRecDepth 100000 in
theorem qt436 : (Cond.instanceMethod yX6_costOf : Cond) ∈ lw_tbl := List.mem_of_getElem? (i := 431) rfl
set_option maxRecDepth 100000 in
theorem qt437 : (Cond.selects RX6 yX6_costOf yX6_costOf : Cond) ∈ lw_tbl := List.mem_of_getElem? (i := 432) rfl
set_option maxRecDepth 100000 in
theorem qt438 : (Cond.code yX6_costOf cX6_costOf 2 (some .int) : Cond) ∈ lw_tbl := List.mem_of_getElem? (i := 433) rfl
set_option maxRecDepth 100000 in
theorem qt439 : (Cond.methodLink RL 53 yL_cost : Cond) ∈ lw_tbl := List.mem_of_getElem? (i := 435) rfl
set_option maxRecDepth 100000 in
theorem qt440 : (Cond.static yL_cost : Cond) ∈ lw_tbl := List.mem_of_getElem? (i := 436) rfl
set_option maxRecDepth 100000 in
theorem qt441 : (Cond.code yL_cost cL_cost 3 (some .int) : Cond) ∈ lw_tbl := List.mem_of_getElem? (i := 437) rfl
set_option maxRecDepth 100000 in
theorem qt442 : (Cond.methodLink RL 20 yL_prices : Cond) ∈ lw_tbl := List.mem_of_getElem? (i := 438) rfl
set_option maxRecDepth 100000 in
theorem qt443 : (Cond.static yL_prices : Cond) ∈ lw_tbl := List.mem_of_getElem? (i := 439) rfl
set_option maxRecDepth 100000 in
theorem qt444 : (Cond.code yL_prices cL_prices 4 (some .int) : Cond) ∈ lw_tbl := List.mem_of_getElem? (i := 440) rfl
set_option maxRecDepth 100000 in
theorem qt445 : (Cond.methodLink RL 24 yX6_rate : Cond) ∈ lw_tbl := List.mem_of_getElem? (i := 441) rfl
set_option maxRecDepth 100000 in
theorem qt446 : (Cond.instanceMethod yX6_rate : Cond) ∈ lw_tbl := List.mem_of_getElem? (i := 442) rfl
set_option maxRecDepth 100000 in
theorem qt447 : (Cond.selects RX6 yX6_rate yX6_rate : Cond) ∈ lw_tbl := List.mem_of_getElem? (i := 443) rfl
set_option maxRecDepth 100000 in
theorem qt448 : (Cond.code yX6_rate cX6_rate 2 (some .float) : Cond) ∈ lw_tbl := List.mem_of_getElem? (i := 444) rfl
set_option maxRecDepth 100000 in
theorem qt449 : (Cond.constantFloat RX6 191 (2143289344) : Cond) ∈ lw_tbl := List.mem_of_getElem? (i := 445) rfl
set_option maxRecDepth 100000 in
theorem qt450 : (Cond.methodLink RL 56 yX6_meanDays : Cond) ∈ lw_tbl := List.mem_of_getElem? (i := 446) rfl
set_option maxRecDepth 100000 in
theorem qt451 : (Cond.instanceMethod yX6_meanDays : Cond) ∈ lw_tbl := List.mem_of_getElem? (i := 447) rfl
set_option maxRecDepth 100000 in
theorem qt452 : (Cond.selects RX6 yX6_meanDays yX6_meanDays : Cond) ∈ lw_tbl := List.mem_of_getElem? (i := 448) rfl
set_option maxRecDepth 100000 in
theorem qt453 : (Cond.code yX6_meanDays cX6_meanDays 2 (some .float) : Cond) ∈ lw_tbl := List.mem_of_getElem? (i := 449) rfl
set_option maxRecDepth 100000 in
theorem qt454 : (Cond.fieldLink RX6 222 "SetRepairs$Books" "daysToDone" "I" : Cond) ∈ lw_tbl := List.mem_of_getElem? (i := 153) rfl
theorem qct0 : ∀ w ∈ wsL_law_r1, w ∈ lw_tbl := List.forall_mem_cons.mpr ⟨qt0, List.forall_mem_cons.mpr ⟨qt1, List.forall_mem_cons.mpr ⟨qt2, List.forall_mem_cons.mpr ⟨qt3, List.forall_mem_cons.mpr ⟨qt4, List.forall_mem_cons.mpr ⟨qt5, List.forall_mem_cons.mpr ⟨qt6, List.forall_mem_cons.mpr ⟨qt7, List.forall_mem_cons.mpr ⟨qt8, List.forall_mem_cons.mpr ⟨qt9, List.forall_mem_cons.mpr ⟨qt10, List.forall_mem_cons.mpr ⟨qt11, List.forall_mem_cons.mpr ⟨qt12, List.forall_mem_cons.mpr ⟨qt13, List.forall_mem_cons.mpr ⟨qt14, List.forall_mem_cons.mpr ⟨qt15, List.forall_mem_cons.mpr ⟨qt16, List.forall_mem_cons.mpr ⟨qt17, List.forall_mem_cons.mpr ⟨qt18, List.forall_mem_cons.mpr ⟨qt19, List.forall_mem_cons.mpr ⟨qt20, List.forall_mem_cons.mpr ⟨qt21, List.forall_mem_cons.mpr ⟨qt22, List.forall_mem_cons.mpr ⟨qt23, fun _ h => absurd h List.not_mem_nil⟩⟩⟩⟩⟩⟩⟩⟩⟩⟩⟩⟩⟩⟩⟩⟩⟩⟩⟩⟩⟩⟩⟩⟩
theorem qct1 : ∀ w ∈ wsL_law_r2, w ∈ lw_tbl := List.forall_mem_cons.mpr ⟨qt24, List.forall_mem_cons.mpr ⟨qt25, List.forall_mem_cons.mpr ⟨qt26, List.forall_mem_cons.mpr ⟨qt27, List.forall_mem_cons.mpr ⟨qt28, List.forall_mem_cons.mpr ⟨qt29, List.forall_mem_cons.mpr ⟨qt30, List.forall_mem_cons.mpr ⟨qt31, List.forall_mem_cons.mpr ⟨qt32, List.forall_mem_cons.mpr ⟨qt33, List.forall_mem_cons.mpr ⟨qt34, List.forall_mem_cons.mpr ⟨qt35, List.forall_mem_cons.mpr ⟨qt36, List.forall_mem_cons.mpr ⟨qt37, List.forall_mem_cons.mpr ⟨qt38, List.forall_mem_cons.mpr ⟨qt39, List.forall_mem_cons.mpr ⟨qt40, List.forall_mem_cons.mpr ⟨qt41, List.forall_mem_cons.mpr ⟨qt42, List.forall_mem_cons.mpr ⟨qt43, List.forall_mem_cons.mpr ⟨qt44, List.forall_mem_cons.mpr ⟨qt45, List.forall_mem_cons.mpr ⟨qt46, List.forall_mem_cons.mpr ⟨qt47, fun _ h => absurd h List.not_mem_nil⟩⟩⟩⟩⟩⟩⟩⟩⟩⟩⟩⟩⟩⟩⟩⟩⟩⟩⟩⟩⟩⟩⟩⟩
theorem qct2 : ∀ w ∈ wsL_law_r3, w ∈ lw_tbl := List.forall_mem_cons.mpr ⟨qt48, List.forall_mem_cons.mpr ⟨qt49, List.forall_mem_cons.mpr ⟨qt50, List.forall_mem_cons.mpr ⟨qt51, List.forall_mem_cons.mpr ⟨qt52, List.forall_mem_cons.mpr ⟨qt53, List.forall_mem_cons.mpr ⟨qt54, List.forall_mem_cons.mpr ⟨qt55, List.forall_mem_cons.mpr ⟨qt56, List.forall_mem_cons.mpr ⟨qt57, List.forall_mem_cons.mpr ⟨qt58, List.forall_mem_cons.mpr ⟨qt59, List.forall_mem_cons.mpr ⟨qt60, List.forall_mem_cons.mpr ⟨qt61, List.forall_mem_cons.mpr ⟨qt62, List.forall_mem_cons.mpr ⟨qt63, List.forall_mem_cons.mpr ⟨qt64, List.forall_mem_cons.mpr ⟨qt65, List.forall_mem_cons.mpr ⟨qt66, List.forall_mem_cons.mpr ⟨qt67, List.forall_mem_cons.mpr ⟨qt68, List.forall_mem_cons.mpr ⟨qt69, List.forall_mem_cons.mpr ⟨qt70, List.forall_mem_cons.mpr ⟨qt71, fun _ h => absurd h List.not_mem_nil⟩⟩⟩⟩⟩⟩⟩⟩⟩⟩⟩⟩⟩⟩⟩⟩⟩⟩⟩⟩⟩⟩⟩⟩
theorem qct3 : ∀ w ∈ wsL_law_r4, w ∈ lw_tbl := List.forall_mem_cons.mpr ⟨qt72, List.forall_mem_cons.mpr ⟨qt73, List.forall_mem_cons.mpr ⟨qt74, List.forall_mem_cons.mpr ⟨qt75, List.forall_mem_cons.mpr ⟨qt76, List.forall_mem_cons.mpr ⟨qt77, List.forall_mem_cons.mpr ⟨qt78, List.forall_mem_cons.mpr ⟨qt79, List.forall_mem_cons.mpr ⟨qt80, List.forall_mem_cons.mpr ⟨qt81, List.forall_mem_cons.mpr ⟨qt82, List.forall_mem_cons.mpr ⟨qt83, List.forall_mem_cons.mpr ⟨qt84, List.forall_mem_cons.mpr ⟨qt85, List.forall_mem_cons.mpr ⟨qt86, List.forall_mem_cons.mpr ⟨qt87, List.forall_mem_cons.mpr ⟨qt88, List.forall_mem_cons.mpr ⟨qt89, List.forall_mem_cons.mpr ⟨qt90, List.forall_mem_cons.mpr ⟨qt91, List.forall_mem_cons.mpr ⟨qt92, List.forall_mem_cons.mpr ⟨qt93, List.forall_mem_cons.mpr ⟨qt94, List.forall_mem_cons.mpr ⟨qt95, fun _ h => absurd h List.not_mem_nil⟩⟩⟩⟩⟩⟩⟩⟩⟩⟩⟩⟩⟩⟩⟩⟩⟩⟩⟩⟩⟩⟩⟩⟩
theorem qct4 : ∀ w ∈ wsL_law_r5, w ∈ lw_tbl := List.forall_mem_cons.mpr ⟨qt96, List.forall_mem_cons.mpr ⟨qt97, List.forall_mem_cons.mpr ⟨qt98, List.forall_mem_cons.mpr ⟨qt99, List.forall_mem_cons.mpr ⟨qt100, List.forall_mem_cons.mpr ⟨qt101, List.forall_mem_cons.mpr ⟨qt102, List.forall_mem_cons.mpr ⟨qt103, List.forall_mem_cons.mpr ⟨qt104, List.forall_mem_cons.mpr ⟨qt105, List.forall_mem_cons.mpr ⟨qt106, List.forall_mem_cons.mpr ⟨qt107, List.forall_mem_cons.mpr ⟨qt108, List.forall_mem_cons.mpr ⟨qt109, List.forall_mem_cons.mpr ⟨qt110, List.forall_mem_cons.mpr ⟨qt111, List.forall_mem_cons.mpr ⟨qt112, List.forall_mem_cons.mpr ⟨qt113, List.forall_mem_cons.mpr ⟨qt114, List.forall_mem_cons.mpr ⟨qt115, List.forall_mem_cons.mpr ⟨qt116, List.forall_mem_cons.mpr ⟨qt117, List.forall_mem_cons.mpr ⟨qt118, List.forall_mem_cons.mpr ⟨qt119, fun _ h => absurd h List.not_mem_nil⟩⟩⟩⟩⟩⟩⟩⟩⟩⟩⟩⟩⟩⟩⟩⟩⟩⟩⟩⟩⟩⟩⟩⟩
theorem qct5 : ∀ w ∈ wsL_law_r6, w ∈ lw_tbl := List.forall_mem_cons.mpr ⟨qt120, List.forall_mem_cons.mpr ⟨qt121, List.forall_mem_cons.mpr ⟨qt122, List.forall_mem_cons.mpr ⟨qt123, List.forall_mem_cons.mpr ⟨qt124, List.forall_mem_cons.mpr ⟨qt125, List.forall_mem_cons.mpr ⟨qt126, List.forall_mem_cons.mpr ⟨qt127, List.forall_mem_cons.mpr ⟨qt128, List.forall_mem_cons.mpr ⟨qt129, List.forall_mem_cons.mpr ⟨qt130, List.forall_mem_cons.mpr ⟨qt131, List.forall_mem_cons.mpr ⟨qt132, List.forall_mem_cons.mpr ⟨qt133, List.forall_mem_cons.mpr ⟨qt134, List.forall_mem_cons.mpr ⟨qt135, List.forall_mem_cons.mpr ⟨qt136, List.forall_mem_cons.mpr ⟨qt137, List.forall_mem_cons.mpr ⟨qt138, List.forall_mem_cons.mpr ⟨qt139, List.forall_mem_cons.mpr ⟨qt140, List.forall_mem_cons.mpr ⟨qt141, List.forall_mem_cons.mpr ⟨qt142, List.forall_mem_cons.mpr ⟨qt143, fun _ h => absurd h List.not_mem_nil⟩⟩⟩⟩⟩⟩⟩⟩⟩⟩⟩⟩⟩⟩⟩⟩⟩⟩⟩⟩⟩⟩⟩⟩
theorem qct6 : ∀ w ∈ wsL_law_r7, w ∈ lw_tbl := List.forall_mem_cons.mpr ⟨qt144, List.forall_mem_cons.mpr ⟨qt145, List.forall_mem_cons.mpr ⟨qt146, List.forall_mem_cons.mpr ⟨qt147, List.forall_mem_cons.mpr ⟨qt148, List.forall_mem_cons.mpr ⟨qt149, List.forall_mem_cons.mpr ⟨qt150, List.forall_mem_cons.mpr ⟨qt151, List.forall_mem_cons.mpr ⟨qt152, List.forall_mem_cons.mpr ⟨qt153, List.forall_mem_cons.mpr ⟨qt154, List.forall_mem_cons.mpr ⟨qt155, List.forall_mem_cons.mpr ⟨qt156, List.forall_mem_cons.mpr ⟨qt157, List.forall_mem_cons.mpr ⟨qt158, List.forall_mem_cons.mpr ⟨qt159, List.forall_mem_cons.mpr ⟨qt160, List.forall_mem_cons.mpr ⟨qt161, List.forall_mem_cons.mpr ⟨qt162, List.forall_mem_cons.mpr ⟨qt163, List.forall_mem_cons.mpr ⟨qt164, List.forall_mem_cons.mpr ⟨qt165, List.forall_mem_cons.mpr ⟨qt166, List.forall_mem_cons.mpr ⟨qt167, fun _ h => absurd h List.not_mem_nil⟩⟩⟩⟩⟩⟩⟩⟩⟩⟩⟩⟩⟩⟩⟩⟩⟩⟩⟩⟩⟩⟩⟩⟩
theorem qct7 : ∀ w ∈ wsL_law_r8, w ∈ lw_tbl := List.forall_mem_cons.mpr ⟨qt168, List.forall_mem_cons.mpr ⟨qt169, List.forall_mem_cons.mpr ⟨qt170, List.forall_mem_cons.mpr ⟨qt171, List.forall_mem_cons.mpr ⟨qt172, List.forall_mem_cons.mpr ⟨qt173, List.forall_mem_cons.mpr ⟨qt174, List.forall_mem_cons.mpr ⟨qt175, List.forall_mem_cons.mpr ⟨qt176, List.forall_mem_cons.mpr ⟨qt177, List.forall_mem_cons.mpr ⟨qt178, List.forall_mem_cons.mpr ⟨qt179, List.forall_mem_cons.mpr ⟨qt180, List.forall_mem_cons.mpr ⟨qt181, List.forall_mem_cons.mpr ⟨qt182, List.forall_mem_cons.mpr ⟨qt183, List.forall_mem_cons.mpr ⟨qt184, List.forall_mem_cons.mpr ⟨qt185, List.forall_mem_cons.mpr ⟨qt186, List.forall_mem_cons.mpr ⟨qt187, List.forall_mem_cons.mpr ⟨qt188, List.forall_mem_cons.mpr ⟨qt189, List.forall_mem_cons.mpr ⟨qt190, List.forall_mem_cons.mpr ⟨qt191, fun _ h => absurd h List.not_mem_nil⟩⟩⟩⟩⟩⟩⟩⟩⟩⟩⟩⟩⟩⟩⟩⟩⟩⟩⟩⟩⟩⟩⟩⟩
theorem qct8 : ∀ w ∈ wsL_law_r9, w ∈ lw_tbl := List.forall_mem_cons.mpr ⟨qt192, List.forall_mem_cons.mpr ⟨qt193, List.forall_mem_cons.mpr ⟨qt194, List.forall_mem_cons.mpr ⟨qt195, List.forall_mem_cons.mpr ⟨qt196, List.forall_mem_cons.mpr ⟨qt197, List.forall_mem_cons.mpr ⟨qt198, List.forall_mem_cons.mpr ⟨qt199, List.forall_mem_cons.mpr ⟨qt200, List.forall_mem_cons.mpr ⟨qt201, List.forall_mem_cons.mpr ⟨qt202, List.forall_mem_cons.mpr ⟨qt203, List.forall_mem_cons.mpr ⟨qt204, List.forall_mem_cons.mpr ⟨qt205, List.forall_mem_cons.mpr ⟨qt206, List.forall_mem_cons.mpr ⟨qt207, List.forall_mem_cons.mpr ⟨qt208, List.forall_mem_cons.mpr ⟨qt209, List.forall_mem_cons.mpr ⟨qt210, List.forall_mem_cons.mpr ⟨qt211, List.forall_mem_cons.mpr ⟨qt212, List.forall_mem_cons.mpr ⟨qt213, List.forall_mem_cons.mpr ⟨qt214, List.forall_mem_cons.mpr ⟨qt215, fun _ h => absurd h List.not_mem_nil⟩⟩⟩⟩⟩⟩⟩⟩⟩⟩⟩⟩⟩⟩⟩⟩⟩⟩⟩⟩⟩⟩⟩⟩
theorem qct9 : ∀ w ∈ wsL_law_r10, w ∈ lw_tbl := List.forall_mem_cons.mpr ⟨qt216, List.forall_mem_cons.mpr ⟨qt217, List.forall_mem_cons.mpr ⟨qt218, List.forall_mem_cons.mpr ⟨qt219, List.forall_mem_cons.mpr ⟨qt220, List.forall_mem_cons.mpr ⟨qt221, List.forall_mem_cons.mpr ⟨qt222, List.forall_mem_cons.mpr ⟨qt223, List.forall_mem_cons.mpr ⟨qt224, List.forall_mem_cons.mpr ⟨qt225, List.forall_mem_cons.mpr ⟨qt226, List.forall_mem_cons.mpr ⟨qt227, List.forall_mem_cons.mpr ⟨qt228, List.forall_mem_cons.mpr ⟨qt229, List.forall_mem_cons.mpr ⟨qt230, List.forall_mem_cons.mpr ⟨qt231, List.forall_mem_cons.mpr ⟨qt232, List.forall_mem_cons.mpr ⟨qt233, List.forall_mem_cons.mpr ⟨qt234, List.forall_mem_cons.mpr ⟨qt235, List.forall_mem_cons.mpr ⟨qt236, List.forall_mem_cons.mpr ⟨qt237, List.forall_mem_cons.mpr ⟨qt238, List.forall_mem_cons.mpr ⟨qt239, fun _ h => absurd h List.not_mem_nil⟩⟩⟩⟩⟩⟩⟩⟩⟩⟩⟩⟩⟩⟩⟩⟩⟩⟩⟩⟩⟩⟩⟩⟩
theorem qct10 : ∀ w ∈ wsL_law_r11, w ∈ lw_tbl := List.forall_mem_cons.mpr ⟨qt240, List.forall_mem_cons.mpr ⟨qt241, List.forall_mem_cons.mpr ⟨qt242, List.forall_mem_cons.mpr ⟨qt243, List.forall_mem_cons.mpr ⟨qt244, List.forall_mem_cons.mpr ⟨qt245, List.forall_mem_cons.mpr ⟨qt246, List.forall_mem_cons.mpr ⟨qt247, List.forall_mem_cons.mpr ⟨qt248, List.forall_mem_cons.mpr ⟨qt249, List.forall_mem_cons.mpr ⟨qt250, List.forall_mem_cons.mpr ⟨qt251, List.forall_mem_cons.mpr ⟨qt252, List.forall_mem_cons.mpr ⟨qt253, List.forall_mem_cons.mpr ⟨qt254, List.forall_mem_cons.mpr ⟨qt255, List.forall_mem_cons.mpr ⟨qt256, List.forall_mem_cons.mpr ⟨qt257, List.forall_mem_cons.mpr ⟨qt258, List.forall_mem_cons.mpr ⟨qt259, List.forall_mem_cons.mpr ⟨qt260, List.forall_mem_cons.mpr ⟨qt261, List.forall_mem_cons.mpr ⟨qt262, List.forall_mem_cons.mpr ⟨qt263, fun _ h => absurd h List.not_mem_nil⟩⟩⟩⟩⟩⟩⟩⟩⟩⟩⟩⟩⟩⟩⟩⟩⟩⟩⟩⟩⟩⟩⟩⟩
theorem qct11 : ∀ w ∈ wsL_law_r12, w ∈ lw_tbl := List.forall_mem_cons.mpr ⟨qt264, List.forall_mem_cons.mpr ⟨qt265, List.forall_mem_cons.mpr ⟨qt266, List.forall_mem_cons.mpr ⟨qt267, List.forall_mem_cons.mpr ⟨qt268, List.forall_mem_cons.mpr ⟨qt269, List.forall_mem_cons.mpr ⟨qt270, List.forall_mem_cons.mpr ⟨qt271, List.forall_mem_cons.mpr ⟨qt272, List.forall_mem_cons.mpr ⟨qt273, List.forall_mem_cons.mpr ⟨qt274, List.forall_mem_cons.mpr ⟨qt275, List.forall_mem_cons.mpr ⟨qt276, List.forall_mem_cons.mpr ⟨qt277, List.forall_mem_cons.mpr ⟨qt278, List.forall_mem_cons.mpr ⟨qt279, List.forall_mem_cons.mpr ⟨qt280, List.forall_mem_cons.mpr ⟨qt281, List.forall_mem_cons.mpr ⟨qt282, List.forall_mem_cons.mpr ⟨qt283, List.forall_mem_cons.mpr ⟨qt284, List.forall_mem_cons.mpr ⟨qt285, List.forall_mem_cons.mpr ⟨qt286, List.forall_mem_cons.mpr ⟨qt287, fun _ h => absurd h List.not_mem_nil⟩⟩⟩⟩⟩⟩⟩⟩⟩⟩⟩⟩⟩⟩⟩⟩⟩⟩⟩⟩⟩⟩⟩⟩
theorem qct12 : ∀ w ∈ wsL_law_r13, w ∈ lw_tbl := List.forall_mem_cons.mpr ⟨qt288, List.forall_mem_cons.mpr ⟨qt289, List.forall_mem_cons.mpr ⟨qt290, List.forall_mem_cons.mpr ⟨qt291, List.forall_mem_cons.mpr ⟨qt292, List.forall_mem_cons.mpr ⟨qt293, List.forall_mem_cons.mpr ⟨qt294, List.forall_mem_cons.mpr ⟨qt295, List.forall_mem_cons.mpr ⟨qt296, List.forall_mem_cons.mpr ⟨qt297, List.forall_mem_cons.mpr ⟨qt298, List.forall_mem_cons.mpr ⟨qt299, List.forall_mem_cons.mpr ⟨qt300, List.forall_mem_cons.mpr ⟨qt301, List.forall_mem_cons.mpr ⟨qt302, List.forall_mem_cons.mpr ⟨qt303, List.forall_mem_cons.mpr ⟨qt304, List.forall_mem_cons.mpr ⟨qt305, List.forall_mem_cons.mpr ⟨qt306, List.forall_mem_cons.mpr ⟨qt307, List.forall_mem_cons.mpr ⟨qt308, List.forall_mem_cons.mpr ⟨qt309, List.forall_mem_cons.mpr ⟨qt310, List.forall_mem_cons.mpr ⟨qt311, fun _ h => absurd h List.not_mem_nil⟩⟩⟩⟩⟩⟩⟩⟩⟩⟩⟩⟩⟩⟩⟩⟩⟩⟩⟩⟩⟩⟩⟩⟩
theorem qct13 : ∀ w ∈ wsL_law_r14, w ∈ lw_tbl := List.forall_mem_cons.mpr ⟨qt312, List.forall_mem_cons.mpr ⟨qt313, List.forall_mem_cons.mpr ⟨qt314, List.forall_mem_cons.mpr ⟨qt315, List.forall_mem_cons.mpr ⟨qt316, List.forall_mem_cons.mpr ⟨qt317, List.forall_mem_cons.mpr ⟨qt318, List.forall_mem_cons.mpr ⟨qt319, List.forall_mem_cons.mpr ⟨qt320, List.forall_mem_cons.mpr ⟨qt321, List.forall_mem_cons.mpr ⟨qt322, List.forall_mem_cons.mpr ⟨qt323, List.forall_mem_cons.mpr ⟨qt324, List.forall_mem_cons.mpr ⟨qt325, List.forall_mem_cons.mpr ⟨qt326, List.forall_mem_cons.mpr ⟨qt327, List.forall_mem_cons.mpr ⟨qt328, List.forall_mem_cons.mpr ⟨qt329, List.forall_mem_cons.mpr ⟨qt330, List.forall_mem_cons.mpr ⟨qt331, List.forall_mem_cons.mpr ⟨qt332, List.forall_mem_cons.mpr ⟨qt333, List.forall_mem_cons.mpr ⟨qt334, List.forall_mem_cons.mpr ⟨qt335, fun _ h => absurd h List.not_mem_nil⟩⟩⟩⟩⟩⟩⟩⟩⟩⟩⟩⟩⟩⟩⟩⟩⟩⟩⟩⟩⟩⟩⟩⟩
theorem qct14 : ∀ w ∈ wsL_law_r15, w ∈ lw_tbl := List.forall_mem_cons.mpr ⟨qt336, List.forall_mem_cons.mpr ⟨qt337, List.forall_mem_cons.mpr ⟨qt338, List.forall_mem_cons.mpr ⟨qt339, List.forall_mem_cons.mpr ⟨qt340, List.forall_mem_cons.mpr ⟨qt341, List.forall_mem_cons.mpr ⟨qt342, List.forall_mem_cons.mpr ⟨qt343, List.forall_mem_cons.mpr ⟨qt344, List.forall_mem_cons.mpr ⟨qt345, List.forall_mem_cons.mpr ⟨qt346, List.forall_mem_cons.mpr ⟨qt347, List.forall_mem_cons.mpr ⟨qt348, List.forall_mem_cons.mpr ⟨qt349, List.forall_mem_cons.mpr ⟨qt350, List.forall_mem_cons.mpr ⟨qt351, List.forall_mem_cons.mpr ⟨qt352, List.forall_mem_cons.mpr ⟨qt353, List.forall_mem_cons.mpr ⟨qt354, List.forall_mem_cons.mpr ⟨qt355, List.forall_mem_cons.mpr ⟨qt356, List.forall_mem_cons.mpr ⟨qt357, List.forall_mem_cons.mpr ⟨qt358, List.forall_mem_cons.mpr ⟨qt359, fun _ h => absurd h List.not_mem_nil⟩⟩⟩⟩⟩⟩⟩⟩⟩⟩⟩⟩⟩⟩⟩⟩⟩⟩⟩⟩⟩⟩⟩⟩
theorem qct15 : ∀ w ∈ wsL_law_r16, w ∈ lw_tbl := List.forall_mem_cons.mpr ⟨qt360, List.forall_mem_cons.mpr ⟨qt361, List.forall_mem_cons.mpr ⟨qt362, List.forall_mem_cons.mpr ⟨qt363, List.forall_mem_cons.mpr ⟨qt364, List.forall_mem_cons.mpr ⟨qt365, List.forall_mem_cons.mpr ⟨qt366, List.forall_mem_cons.mpr ⟨qt367, List.forall_mem_cons.mpr ⟨qt368, List.forall_mem_cons.mpr ⟨qt369, List.forall_mem_cons.mpr ⟨qt370, List.forall_mem_cons.mpr ⟨qt371, List.forall_mem_cons.mpr ⟨qt372, List.forall_mem_cons.mpr ⟨qt373, List.forall_mem_cons.mpr ⟨qt374, List.forall_mem_cons.mpr ⟨qt375, List.forall_mem_cons.mpr ⟨qt376, List.forall_mem_cons.mpr ⟨qt377, List.forall_mem_cons.mpr ⟨qt378, List.forall_mem_cons.mpr ⟨qt379, List.forall_mem_cons.mpr ⟨qt380, List.forall_mem_cons.mpr ⟨qt381, List.forall_mem_cons.mpr ⟨qt382, List.forall_mem_cons.mpr ⟨qt383, fun _ h => absurd h List.not_mem_nil⟩⟩⟩⟩⟩⟩⟩⟩⟩⟩⟩⟩⟩⟩⟩⟩⟩⟩⟩⟩⟩⟩⟩⟩
theorem qct16 : ∀ w ∈ wsL_law_r17, w ∈ lw_tbl := List.forall_mem_cons.mpr ⟨qt384, List.forall_mem_cons.mpr ⟨qt385, List.forall_mem_cons.mpr ⟨qt386, List.forall_mem_cons.mpr ⟨qt387, List.forall_mem_cons.mpr ⟨qt388, List.forall_mem_cons.mpr ⟨qt389, List.forall_mem_cons.mpr ⟨qt390, List.forall_mem_cons.mpr ⟨qt391, List.forall_mem_cons.mpr ⟨qt392, List.forall_mem_cons.mpr ⟨qt393, List.forall_mem_cons.mpr ⟨qt394, List.forall_mem_cons.mpr ⟨qt395, List.forall_mem_cons.mpr ⟨qt396, List.forall_mem_cons.mpr ⟨qt397, List.forall_mem_cons.mpr ⟨qt398, List.forall_mem_cons.mpr ⟨qt399, List.forall_mem_cons.mpr ⟨qt400, List.forall_mem_cons.mpr ⟨qt401, List.forall_mem_cons.mpr ⟨qt402, List.forall_mem_cons.mpr ⟨qt403, List.forall_mem_cons.mpr ⟨qt404, List.forall_mem_cons.mpr ⟨qt405, List.forall_mem_cons.mpr ⟨qt406, List.forall_mem_cons.mpr ⟨qt407, fun _ h => absurd h List.not_mem_nil⟩⟩⟩⟩⟩⟩⟩⟩⟩⟩⟩⟩⟩⟩⟩⟩⟩⟩⟩⟩⟩⟩⟩⟩
theorem qct17 : ∀ w ∈ wsL_law_r18, w ∈ lw_tbl := List.forall_mem_cons.mpr ⟨qt408, List.forall_mem_cons.mpr ⟨qt409, List.forall_mem_cons.mpr ⟨qt410, List.forall_mem_cons.mpr ⟨qt411, List.forall_mem_cons.mpr ⟨qt412, List.forall_mem_cons.mpr ⟨qt413, List.forall_mem_cons.mpr ⟨qt414, List.forall_mem_cons.mpr ⟨qt415, List.forall_mem_cons.mpr ⟨qt416, List.forall_mem_cons.mpr ⟨qt417, List.forall_mem_cons.mpr ⟨qt418, List.forall_mem_cons.mpr ⟨qt419, List.forall_mem_cons.mpr ⟨qt420, List.forall_mem_cons.mpr ⟨qt421, List.forall_mem_cons.mpr ⟨qt422, List.forall_mem_cons.mpr ⟨qt423, List.forall_mem_cons.mpr ⟨qt424, List.forall_mem_cons.mpr ⟨qt425, List.forall_mem_cons.mpr ⟨qt426, List.forall_mem_cons.mpr ⟨qt427, List.forall_mem_cons.mpr ⟨qt428, List.forall_mem_cons.mpr ⟨qt429, List.forall_mem_cons.mpr ⟨qt430, List.forall_mem_cons.mpr ⟨qt431, fun _ h => absurd h List.not_mem_nil⟩⟩⟩⟩⟩⟩⟩⟩⟩⟩⟩⟩⟩⟩⟩⟩⟩⟩⟩⟩⟩⟩⟩⟩
theorem qct18 : ∀ w ∈ wsL_law_r19, w ∈ lw_tbl := List.forall_mem_cons.mpr ⟨qt432, List.forall_mem_cons.mpr ⟨qt433, List.forall_mem_cons.mpr ⟨qt434, List.forall_mem_cons.mpr ⟨qt435, List.forall_mem_cons.mpr ⟨qt436, List.forall_mem_cons.mpr ⟨qt437, List.forall_mem_cons.mpr ⟨qt438, List.forall_mem_cons.mpr ⟨qt439, List.forall_mem_cons.mpr ⟨qt440, List.forall_mem_cons.mpr ⟨qt441, List.forall_mem_cons.mpr ⟨qt442, List.forall_mem_cons.mpr ⟨qt443, List.forall_mem_cons.mpr ⟨qt444, List.forall_mem_cons.mpr ⟨qt445, List.forall_mem_cons.mpr ⟨qt446, List.forall_mem_cons.mpr ⟨qt447, List.forall_mem_cons.mpr ⟨qt448, List.forall_mem_cons.mpr ⟨qt449, List.forall_mem_cons.mpr ⟨qt450, List.forall_mem_cons.mpr ⟨qt451, List.forall_mem_cons.mpr ⟨qt452, List.forall_mem_cons.mpr ⟨qt453, List.forall_mem_cons.mpr ⟨qt454, fun _ h => absurd h List.not_mem_nil⟩⟩⟩⟩⟩⟩⟩⟩⟩⟩⟩⟩⟩⟩⟩⟩⟩⟩⟩⟩⟩⟩⟩
set_option maxRecDepth 100000 in
theorem qt455 : (u_lay RX6 TX6 0 : Cond) ∈ lw_tbl := List.mem_of_getElem? (i := 230) rfl
set_option maxRecDepth 100000 in
theorem qt456 : (u_lay RX6 TX6 1 : Cond) ∈ lw_tbl := List.mem_of_getElem? (i := 232) rfl
set_option maxRecDepth 100000 in
theorem qt457 : (u_lay RX6 TX6 2 : Cond) ∈ lw_tbl := List.mem_of_getElem? (i := 234) rfl
set_option maxRecDepth 100000 in
theorem qt458 : (u_lay RX6 TX6 3 : Cond) ∈ lw_tbl := List.mem_of_getElem? (i := 236) rfl
set_option maxRecDepth 100000 in
theorem qt459 : (u_lay RX6 TX6 4 : Cond) ∈ lw_tbl := List.mem_of_getElem? (i := 238) rfl
set_option maxRecDepth 100000 in
theorem qt460 : (u_lay RX6 TX6 5 : Cond) ∈ lw_tbl := List.mem_of_getElem? (i := 240) rfl
set_option maxRecDepth 100000 in
theorem qt461 : (u_lay RX2 TX2 0 : Cond) ∈ lw_tbl := List.mem_of_getElem? (i := 179) rfl
set_option maxRecDepth 100000 in
theorem qt462 : (u_lay RX2 TX2 1 : Cond) ∈ lw_tbl := List.mem_of_getElem? (i := 181) rfl
set_option maxRecDepth 100000 in
theorem qt463 : (u_lay RX2 TX2 2 : Cond) ∈ lw_tbl := List.mem_of_getElem? (i := 183) rfl
set_option maxRecDepth 100000 in
theorem qt464 : (u_lay RX2 TX2 3 : Cond) ∈ lw_tbl := List.mem_of_getElem? (i := 185) rfl
set_option maxRecDepth 100000 in
theorem qt465 : (u_lay RX2 TX2 4 : Cond) ∈ lw_tbl := List.mem_of_getElem? (i := 187) rfl
set_option maxRecDepth 100000 in
theorem qt466 : (u_lay RX2 TX2 5 : Cond) ∈ lw_tbl := List.mem_of_getElem? (i := 189) rfl
set_option maxRecDepth 100000 in
theorem qt467 : (u_lay RX3 TX3 0 : Cond) ∈ lw_tbl := List.mem_of_getElem? (i := 204) rfl
set_option maxRecDepth 100000 in
theorem qt468 : (u_lay RX3 TX3 1 : Cond) ∈ lw_tbl := List.mem_of_getElem? (i := 206) rfl
set_option maxRecDepth 100000 in
theorem qt469 : (u_lay RX0 TX0 0 : Cond) ∈ lw_tbl := List.mem_of_getElem? (i := 218) rfl
set_option maxRecDepth 100000 in
theorem qt470 : (u_lay RX0 TX0 1 : Cond) ∈ lw_tbl := List.mem_of_getElem? (i := 220) rfl
set_option maxRecDepth 100000 in
theorem qt471 : (u_lay RX5 TX5 0 : Cond) ∈ lw_tbl := List.mem_of_getElem? (i := 59) rfl
set_option maxRecDepth 100000 in
theorem qt472 : (u_lay RX5 TX5 1 : Cond) ∈ lw_tbl := List.mem_of_getElem? (i := 61) rfl
set_option maxRecDepth 100000 in
theorem qt473 : (u_lay RX5 TX5 2 : Cond) ∈ lw_tbl := List.mem_of_getElem? (i := 63) rfl
set_option maxRecDepth 100000 in
theorem qt474 : (u_lay RX5 TX5 3 : Cond) ∈ lw_tbl := List.mem_of_getElem? (i := 65) rfl
set_option maxRecDepth 100000 in
theorem qt475 : (u_lay RX5 TX5 4 : Cond) ∈ lw_tbl := List.mem_of_getElem? (i := 67) rfl
set_option maxRecDepth 100000 in
theorem qt476 : (u_lay RX5 TX5 5 : Cond) ∈ lw_tbl := List.mem_of_getElem? (i := 69) rfl
set_option maxRecDepth 100000 in
theorem qt477 : (u_lay RX5 TX5 6 : Cond) ∈ lw_tbl := List.mem_of_getElem? (i := 71) rfl
set_option maxRecDepth 100000 in
theorem qt478 : (u_lay RX5 TX5 7 : Cond) ∈ lw_tbl := List.mem_of_getElem? (i := 73) rfl
set_option maxRecDepth 100000 in
theorem qt479 : (u_lay RX4 TX4 0 : Cond) ∈ lw_tbl := List.mem_of_getElem? (i := 111) rfl
set_option maxRecDepth 100000 in
theorem qt480 : (u_lay RX4 TX4 1 : Cond) ∈ lw_tbl := List.mem_of_getElem? (i := 113) rfl
set_option maxRecDepth 100000 in
theorem qt481 : (u_lay RX4 TX4 2 : Cond) ∈ lw_tbl := List.mem_of_getElem? (i := 115) rfl
set_option maxRecDepth 100000 in
theorem qt482 : (u_lay RX4 TX4 3 : Cond) ∈ lw_tbl := List.mem_of_getElem? (i := 117) rfl
set_option maxRecDepth 100000 in
theorem qt483 : (u_lay RX4 TX4 4 : Cond) ∈ lw_tbl := List.mem_of_getElem? (i := 119) rfl
set_option maxRecDepth 100000 in
theorem qt484 : (u_lay RX4 TX4 5 : Cond) ∈ lw_tbl := List.mem_of_getElem? (i := 121) rfl
set_option maxRecDepth 100000 in
theorem qt485 : (u_lay RX4 TX4 6 : Cond) ∈ lw_tbl := List.mem_of_getElem? (i := 123) rfl
set_option maxRecDepth 100000 in
theorem qt486 : (u_lay RX4 TX4 7 : Cond) ∈ lw_tbl := List.mem_of_getElem? (i := 125) rfl
set_option maxRecDepth 100000 in
theorem qt487 : (u_lay RX4 TX4 8 : Cond) ∈ lw_tbl := List.mem_of_getElem? (i := 127) rfl
set_option maxRecDepth 100000 in
theorem qt488 : (u_lay RX1 TX1 0 : Cond) ∈ lw_tbl := List.mem_of_getElem? (i := 154) rfl
set_option maxRecDepth 100000 in
theorem qt489 : (u_lay RX1 TX1 1 : Cond) ∈ lw_tbl := List.mem_of_getElem? (i := 156) rfl
set_option maxRecDepth 100000 in
theorem qt490 : (u_lay RX1 TX1 2 : Cond) ∈ lw_tbl := List.mem_of_getElem? (i := 158) rfl
set_option maxRecDepth 100000 in
theorem qt491 : (u_lay RX1 TX1 3 : Cond) ∈ lw_tbl := List.mem_of_getElem? (i := 160) rfl
set_option maxRecDepth 100000 in
theorem qt492 : (u_lay RX1 TX1 4 : Cond) ∈ lw_tbl := List.mem_of_getElem? (i := 162) rfl
set_option maxRecDepth 100000 in
theorem qt493 : (u_lay RX1 TX1 5 : Cond) ∈ lw_tbl := List.mem_of_getElem? (i := 164) rfl
theorem qt_wsX60 : ∀ w ∈ wsX60, w ∈ lw_tbl := List.forall_mem_cons.mpr ⟨qt455, List.forall_mem_cons.mpr ⟨qt456, List.forall_mem_cons.mpr ⟨qt457, List.forall_mem_cons.mpr ⟨qt458, List.forall_mem_cons.mpr ⟨qt459, List.forall_mem_cons.mpr ⟨qt460, fun _ h => absurd h List.not_mem_nil⟩⟩⟩⟩⟩⟩
theorem qt_wsX20 : ∀ w ∈ wsX20, w ∈ lw_tbl := List.forall_mem_cons.mpr ⟨qt461, List.forall_mem_cons.mpr ⟨qt462, List.forall_mem_cons.mpr ⟨qt463, List.forall_mem_cons.mpr ⟨qt464, List.forall_mem_cons.mpr ⟨qt465, List.forall_mem_cons.mpr ⟨qt466, fun _ h => absurd h List.not_mem_nil⟩⟩⟩⟩⟩⟩
theorem qt_wsX30 : ∀ w ∈ wsX30, w ∈ lw_tbl := List.forall_mem_cons.mpr ⟨qt467, List.forall_mem_cons.mpr ⟨qt468, fun _ h => absurd h List.not_mem_nil⟩⟩
theorem qt_wsX00 : ∀ w ∈ wsX00, w ∈ lw_tbl := List.forall_mem_cons.mpr ⟨qt469, List.forall_mem_cons.mpr ⟨qt470, fun _ h => absurd h List.not_mem_nil⟩⟩
theorem qt_wsX50 : ∀ w ∈ wsX50, w ∈ lw_tbl := List.forall_mem_cons.mpr ⟨qt471, List.forall_mem_cons.mpr ⟨qt472, List.forall_mem_cons.mpr ⟨qt473, List.forall_mem_cons.mpr ⟨qt474, List.forall_mem_cons.mpr ⟨qt475, List.forall_mem_cons.mpr ⟨qt476, List.forall_mem_cons.mpr ⟨qt477, List.forall_mem_cons.mpr ⟨qt478, fun _ h => absurd h List.not_mem_nil⟩⟩⟩⟩⟩⟩⟩⟩
theorem qt_wsX40 : ∀ w ∈ wsX40, w ∈ lw_tbl := List.forall_mem_cons.mpr ⟨qt479, List.forall_mem_cons.mpr ⟨qt480, List.forall_mem_cons.mpr ⟨qt481, List.forall_mem_cons.mpr ⟨qt482, List.forall_mem_cons.mpr ⟨qt483, List.forall_mem_cons.mpr ⟨qt484, List.forall_mem_cons.mpr ⟨qt485, List.forall_mem_cons.mpr ⟨qt486, List.forall_mem_cons.mpr ⟨qt487, fun _ h => absurd h List.not_mem_nil⟩⟩⟩⟩⟩⟩⟩⟩⟩
theorem qt_wsX10 : ∀ w ∈ wsX10, w ∈ lw_tbl := List.forall_mem_cons.mpr ⟨qt488, List.forall_mem_cons.mpr ⟨qt489, List.forall_mem_cons.mpr ⟨qt490, List.forall_mem_cons.mpr ⟨qt491, List.forall_mem_cons.mpr ⟨qt492, List.forall_mem_cons.mpr ⟨qt493, fun _ h => absurd h List.not_mem_nil⟩⟩⟩⟩⟩⟩
theorem wsL_law_in : ∀ w ∈ wsL_law, w ∈ lw_tbl := List.forall_mem_append.mpr ⟨List.forall_mem_append.mpr ⟨List.forall_mem_append.mpr ⟨List.forall_mem_append.mpr ⟨List.forall_mem_append.mpr ⟨List.forall_mem_append.mpr ⟨List.forall_mem_append.mpr ⟨List.forall_mem_append.mpr ⟨List.forall_mem_append.mpr ⟨qct0, List.forall_mem_append.mpr ⟨qct1, List.forall_mem_append.mpr ⟨qct2, List.forall_mem_append.mpr ⟨qct3, List.forall_mem_append.mpr ⟨qct4, List.forall_mem_append.mpr ⟨qct5, List.forall_mem_append.mpr ⟨qct6, List.forall_mem_append.mpr ⟨qct7, List.forall_mem_append.mpr ⟨qct8, List.forall_mem_append.mpr ⟨qct9, List.forall_mem_append.mpr ⟨qct10, List.forall_mem_append.mpr ⟨qct11, List.forall_mem_append.mpr ⟨qct12, List.forall_mem_append.mpr ⟨qct13, List.forall_mem_append.mpr ⟨qct14, List.forall_mem_append.mpr ⟨qct15, List.forall_mem_append.mpr ⟨qct16, List.forall_mem_append.mpr ⟨qct17, qct18⟩⟩⟩⟩⟩⟩⟩⟩⟩⟩⟩⟩⟩⟩⟩⟩⟩⟩, qt_wsX60⟩, qt_wsX20⟩, qt_wsX30⟩, qt_wsX00⟩, qt_wsX50⟩, qt_wsX40⟩, qt_wsX10⟩, fun _ h => absurd h List.not_mem_nil⟩
theorem qg0 : wsL_law_r1.all goodWord = true := by decide +kernel
theorem qg1 : wsL_law_r2.all goodWord = true := by decide +kernel
theorem qg2 : wsL_law_r3.all goodWord = true := by decide +kernel
theorem qg3 : wsL_law_r4.all goodWord = true := by decide +kernel
theorem qg4 : wsL_law_r5.all goodWord = true := by decide +kernel
theorem qg5 : wsL_law_r6.all goodWord = true := by decide +kernel
theorem qg6 : wsL_law_r7.all goodWord = true := by decide +kernel
theorem qg7 : wsL_law_r8.all goodWord = true := by decide +kernel
theorem qg8 : wsL_law_r9.all goodWord = true := by decide +kernel
theorem qg9 : wsL_law_r10.all goodWord = true := by decide +kernel
theorem qg10 : wsL_law_r11.all goodWord = true := by decide +kernel
theorem qg11 : wsL_law_r12.all goodWord = true := by decide +kernel
theorem qg12 : wsL_law_r13.all goodWord = true := by decide +kernel
theorem qg13 : wsL_law_r14.all goodWord = true := by decide +kernel
theorem qg14 : wsL_law_r15.all goodWord = true := by decide +kernel
theorem qg15 : wsL_law_r16.all goodWord = true := by decide +kernel
theorem qg16 : wsL_law_r17.all goodWord = true := by decide +kernel
theorem qg17 : wsL_law_r18.all goodWord = true := by decide +kernel
theorem qg18 : wsL_law_r19.all goodWord = true := by decide +kernel
theorem qg_wsX60 : wsX60.all goodWord = true := by decide +kernel
theorem qg_wsX20 : wsX20.all goodWord = true := by decide +kernel
theorem qg_wsX30 : wsX30.all goodWord = true := by decide +kernel
theorem qg_wsX00 : wsX00.all goodWord = true := by decide +kernel
theorem qg_wsX50 : wsX50.all goodWord = true := by decide +kernel
theorem qg_wsX40 : wsX40.all goodWord = true := by decide +kernel
theorem qg_wsX10 : wsX10.all goodWord = true := by decide +kernel
theorem wsL_good : ∀ w ∈ wsL_law, goodWord w = true := List.forall_mem_append.mpr ⟨List.forall_mem_append.mpr ⟨List.forall_mem_append.mpr ⟨List.forall_mem_append.mpr ⟨List.forall_mem_append.mpr ⟨List.forall_mem_append.mpr ⟨List.forall_mem_append.mpr ⟨List.forall_mem_append.mpr ⟨List.forall_mem_append.mpr ⟨fun w h => List.all_eq_true.mp qg0 w h, List.forall_mem_append.mpr ⟨fun w h => List.all_eq_true.mp qg1 w h, List.forall_mem_append.mpr ⟨fun w h => List.all_eq_true.mp qg2 w h, List.forall_mem_append.mpr ⟨fun w h => List.all_eq_true.mp qg3 w h, List.forall_mem_append.mpr ⟨fun w h => List.all_eq_true.mp qg4 w h, List.forall_mem_append.mpr ⟨fun w h => List.all_eq_true.mp qg5 w h, List.forall_mem_append.mpr ⟨fun w h => List.all_eq_true.mp qg6 w h, List.forall_mem_append.mpr ⟨fun w h => List.all_eq_true.mp qg7 w h, List.forall_mem_append.mpr ⟨fun w h => List.all_eq_true.mp qg8 w h, List.forall_mem_append.mpr ⟨fun w h => List.all_eq_true.mp qg9 w h, List.forall_mem_append.mpr ⟨fun w h => List.all_eq_true.mp qg10 w h, List.forall_mem_append.mpr ⟨fun w h => List.all_eq_true.mp qg11 w h, List.forall_mem_append.mpr ⟨fun w h => List.all_eq_true.mp qg12 w h, List.forall_mem_append.mpr ⟨fun w h => List.all_eq_true.mp qg13 w h, List.forall_mem_append.mpr ⟨fun w h => List.all_eq_true.mp qg14 w h, List.forall_mem_append.mpr ⟨fun w h => List.all_eq_true.mp qg15 w h, List.forall_mem_append.mpr ⟨fun w h => List.all_eq_true.mp qg16 w h, List.forall_mem_append.mpr ⟨fun w h => List.all_eq_true.mp qg17 w h, fun w h => List.all_eq_true.mp qg18 w h⟩⟩⟩⟩⟩⟩⟩⟩⟩⟩⟩⟩⟩⟩⟩⟩⟩⟩, fun w h => List.all_eq_true.mp qg_wsX60 w h⟩, fun w h => List.all_eq_true.mp qg_wsX20 w h⟩, fun w h => List.all_eq_true.mp qg_wsX30 w h⟩, fun w h => List.all_eq_true.mp qg_wsX00 w h⟩, fun w h => List.all_eq_true.mp qg_wsX50 w h⟩, fun w h => List.all_eq_true.mp qg_wsX40 w h⟩, fun w h => List.all_eq_true.mp qg_wsX10 w h⟩, fun _ h => absurd h List.not_mem_nil⟩
