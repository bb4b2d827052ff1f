/-! what a call asks of a name -/
theorem hy_X1_copyFrom : yX1_copyFrom.cls = RX1 ∧ yX1_copyFrom.cls ≠ "java/lang/invoke/MethodHandle" ∧ yX1_copyFrom.cls ≠ "java/lang/invoke/VarHandle" ∧ (parseMethodDescriptor yX1_copyFrom.desc).map (fun d => d.parameters.length) = some 1 := by decide +kernel
theorem hy_X2_copyFrom : yX2_copyFrom.cls = RX2 ∧ yX2_copyFrom.cls ≠ "java/lang/invoke/MethodHandle" ∧ yX2_copyFrom.cls ≠ "java/lang/invoke/VarHandle" ∧ (parseMethodDescriptor yX2_copyFrom.desc).map (fun d => d.parameters.length) = some 1 := by decide +kernel
theorem hy_X2_costNow : yX2_costNow.cls = RX2 ∧ yX2_costNow.cls ≠ "java/lang/invoke/MethodHandle" ∧ yX2_costNow.cls ≠ "java/lang/invoke/VarHandle" ∧ (parseMethodDescriptor yX2_costNow.desc).map (fun d => d.parameters.length) = some 1 := by decide +kernel
theorem hy_X2_loanersThere : yX2_loanersThere.cls = RX2 ∧ yX2_loanersThere.cls ≠ "java/lang/invoke/MethodHandle" ∧ yX2_loanersThere.cls ≠ "java/lang/invoke/VarHandle" ∧ (parseMethodDescriptor yX2_loanersThere.desc).map (fun d => d.parameters.length) = some 0 := by decide +kernel
theorem hy_X2_storageFee : yX2_storageFee.cls = RX2 ∧ yX2_storageFee.cls ≠ "java/lang/invoke/MethodHandle" ∧ yX2_storageFee.cls ≠ "java/lang/invoke/VarHandle" ∧ (parseMethodDescriptor yX2_storageFee.desc).map (fun d => d.parameters.length) = some 1 := by decide +kernel
theorem hy_X2_lackingOf : yX2_lackingOf.cls = RX2 ∧ yX2_lackingOf.cls ≠ "java/lang/invoke/MethodHandle" ∧ yX2_lackingOf.cls ≠ "java/lang/invoke/VarHandle" ∧ (parseMethodDescriptor yX2_lackingOf.desc).map (fun d => d.parameters.length) = some 1 := by decide +kernel
theorem hy_X2_decide : yX2_decide.cls = RX2 ∧ yX2_decide.cls ≠ "java/lang/invoke/MethodHandle" ∧ yX2_decide.cls ≠ "java/lang/invoke/VarHandle" ∧ (parseMethodDescriptor yX2_decide.desc).map (fun d => d.parameters.length) = some 2 := by decide +kernel
theorem hy_X2_reserveParts : yX2_reserveParts.cls = RX2 ∧ yX2_reserveParts.cls ≠ "java/lang/invoke/MethodHandle" ∧ yX2_reserveParts.cls ≠ "java/lang/invoke/VarHandle" ∧ (parseMethodDescriptor yX2_reserveParts.desc).map (fun d => d.parameters.length) = some 0 := by decide +kernel
theorem hy_X2_reservePartsWhere : yX2_reservePartsWhere.cls = RX2 ∧ yX2_reservePartsWhere.cls ≠ "java/lang/invoke/MethodHandle" ∧ yX2_reservePartsWhere.cls ≠ "java/lang/invoke/VarHandle" ∧ (parseMethodDescriptor yX2_reservePartsWhere.desc).map (fun d => d.parameters.length) = some 1 := by decide +kernel
theorem hy_X2_handOver : yX2_handOver.cls = RX2 ∧ yX2_handOver.cls ≠ "java/lang/invoke/MethodHandle" ∧ yX2_handOver.cls ≠ "java/lang/invoke/VarHandle" ∧ (parseMethodDescriptor yX2_handOver.desc).map (fun d => d.parameters.length) = some 1 := by decide +kernel
theorem hy_X2_passDay : yX2_passDay.cls = RX2 ∧ yX2_passDay.cls ≠ "java/lang/invoke/MethodHandle" ∧ yX2_passDay.cls ≠ "java/lang/invoke/VarHandle" ∧ (parseMethodDescriptor yX2_passDay.desc).map (fun d => d.parameters.length) = some 0 := by decide +kernel
theorem hy_X2_takeOrders : yX2_takeOrders.cls = RX2 ∧ yX2_takeOrders.cls ≠ "java/lang/invoke/MethodHandle" ∧ yX2_takeOrders.cls ≠ "java/lang/invoke/VarHandle" ∧ (parseMethodDescriptor yX2_takeOrders.desc).map (fun d => d.parameters.length) = some 0 := by decide +kernel
theorem hy_X2_workWhere : yX2_workWhere.cls = RX2 ∧ yX2_workWhere.cls ≠ "java/lang/invoke/MethodHandle" ∧ yX2_workWhere.cls ≠ "java/lang/invoke/VarHandle" ∧ (parseMethodDescriptor yX2_workWhere.desc).map (fun d => d.parameters.length) = some 2 := by decide +kernel
theorem hy_X2_finish : yX2_finish.cls = RX2 ∧ yX2_finish.cls ≠ "java/lang/invoke/MethodHandle" ∧ yX2_finish.cls ≠ "java/lang/invoke/VarHandle" ∧ (parseMethodDescriptor yX2_finish.desc).map (fun d => d.parameters.length) = some 1 := by decide +kernel
theorem hy_X2_sellUnclaimed : yX2_sellUnclaimed.cls = RX2 ∧ yX2_sellUnclaimed.cls ≠ "java/lang/invoke/MethodHandle" ∧ yX2_sellUnclaimed.cls ≠ "java/lang/invoke/VarHandle" ∧ (parseMethodDescriptor yX2_sellUnclaimed.desc).map (fun d => d.parameters.length) = some 0 := by decide +kernel
theorem hy_X3_record : yX3_record.cls = RX3 ∧ yX3_record.cls ≠ "java/lang/invoke/MethodHandle" ∧ yX3_record.cls ≠ "java/lang/invoke/VarHandle" ∧ (parseMethodDescriptor yX3_record.desc).map (fun d => d.parameters.length) = some 1 := by decide +kernel
theorem hy_X3_dropOldest : yX3_dropOldest.cls = RX3 ∧ yX3_dropOldest.cls ≠ "java/lang/invoke/MethodHandle" ∧ yX3_dropOldest.cls ≠ "java/lang/invoke/VarHandle" ∧ (parseMethodDescriptor yX3_dropOldest.desc).map (fun d => d.parameters.length) = some 0 := by decide +kernel
theorem hy_X3_giveBack : yX3_giveBack.cls = RX3 ∧ yX3_giveBack.cls ≠ "java/lang/invoke/MethodHandle" ∧ yX3_giveBack.cls ≠ "java/lang/invoke/VarHandle" ∧ (parseMethodDescriptor yX3_giveBack.desc).map (fun d => d.parameters.length) = some 1 := by decide +kernel
theorem hy_X4_copyFrom : yX4_copyFrom.cls = RX4 ∧ yX4_copyFrom.cls ≠ "java/lang/invoke/MethodHandle" ∧ yX4_copyFrom.cls ≠ "java/lang/invoke/VarHandle" ∧ (parseMethodDescriptor yX4_copyFrom.desc).map (fun d => d.parameters.length) = some 1 := by decide +kernel
theorem hy_X4_add : yX4_add.cls = RX4 ∧ yX4_add.cls ≠ "java/lang/invoke/MethodHandle" ∧ yX4_add.cls ≠ "java/lang/invoke/VarHandle" ∧ (parseMethodDescriptor yX4_add.desc).map (fun d => d.parameters.length) = some 2 := by decide +kernel
theorem hy_X4_isReady : yX4_isReady.cls = RX4 ∧ yX4_isReady.cls ≠ "java/lang/invoke/MethodHandle" ∧ yX4_isReady.cls ≠ "java/lang/invoke/VarHandle" ∧ (parseMethodDescriptor yX4_isReady.desc).map (fun d => d.parameters.length) = some 1 := by decide +kernel
theorem hy_X4_isTurnOf : yX4_isTurnOf.cls = RX4 ∧ yX4_isTurnOf.cls ≠ "java/lang/invoke/MethodHandle" ∧ yX4_isTurnOf.cls ≠ "java/lang/invoke/VarHandle" ∧ (parseMethodDescriptor yX4_isTurnOf.desc).map (fun d => d.parameters.length) = some 3 := by decide +kernel
theorem hy_X4_inState : yX4_inState.cls = RX4 ∧ yX4_inState.cls ≠ "java/lang/invoke/MethodHandle" ∧ yX4_inState.cls ≠ "java/lang/invoke/VarHandle" ∧ (parseMethodDescriptor yX4_inState.desc).map (fun d => d.parameters.length) = some 1 := by decide +kernel
theorem hy_X4_withLoaner : yX4_withLoaner.cls = RX4 ∧ yX4_withLoaner.cls ≠ "java/lang/invoke/MethodHandle" ∧ yX4_withLoaner.cls ≠ "java/lang/invoke/VarHandle" ∧ (parseMethodDescriptor yX4_withLoaner.desc).map (fun d => d.parameters.length) = some 0 := by decide +kernel
theorem hy_X5_copyFrom : yX5_copyFrom.cls = RX5 ∧ yX5_copyFrom.cls ≠ "java/lang/invoke/MethodHandle" ∧ yX5_copyFrom.cls ≠ "java/lang/invoke/VarHandle" ∧ (parseMethodDescriptor yX5_copyFrom.desc).map (fun d => d.parameters.length) = some 1 := by decide +kernel
theorem hs_X5_needOf : yX5_needOf.cls ≠ "java/lang/invoke/MethodHandle" ∧ yX5_needOf.cls ≠ "java/lang/invoke/VarHandle" ∧ (parseMethodDescriptor yX5_needOf.desc).map (fun d => d.parameters.length) = some 2 := by decide +kernel
theorem hy_X5_priceOfParts : yX5_priceOfParts.cls = RX5 ∧ yX5_priceOfParts.cls ≠ "java/lang/invoke/MethodHandle" ∧ yX5_priceOfParts.cls ≠ "java/lang/invoke/VarHandle" ∧ (parseMethodDescriptor yX5_priceOfParts.desc).map (fun d => d.parameters.length) = some 1 := by decide +kernel
theorem hy_X5_free : yX5_free.cls = RX5 ∧ yX5_free.cls ≠ "java/lang/invoke/MethodHandle" ∧ yX5_free.cls ≠ "java/lang/invoke/VarHandle" ∧ (parseMethodDescriptor yX5_free.desc).map (fun d => d.parameters.length) = some 1 := by decide +kernel
theorem hy_X5_onOrder : yX5_onOrder.cls = RX5 ∧ yX5_onOrder.cls ≠ "java/lang/invoke/MethodHandle" ∧ yX5_onOrder.cls ≠ "java/lang/invoke/VarHandle" ∧ (parseMethodDescriptor yX5_onOrder.desc).map (fun d => d.parameters.length) = some 1 := by decide +kernel
theorem hy_X5_lowestShort : yX5_lowestShort.cls = RX5 ∧ yX5_lowestShort.cls ≠ "java/lang/invoke/MethodHandle" ∧ yX5_lowestShort.cls ≠ "java/lang/invoke/VarHandle" ∧ (parseMethodDescriptor yX5_lowestShort.desc).map (fun d => d.parameters.length) = some 1 := by decide +kernel
theorem hy_X5_isEnoughOrdered : yX5_isEnoughOrdered.cls = RX5 ∧ yX5_isEnoughOrdered.cls ≠ "java/lang/invoke/MethodHandle" ∧ yX5_isEnoughOrdered.cls ≠ "java/lang/invoke/VarHandle" ∧ (parseMethodDescriptor yX5_isEnoughOrdered.desc).map (fun d => d.parameters.length) = some 1 := by decide +kernel
theorem hy_X5_reserveFor : yX5_reserveFor.cls = RX5 ∧ yX5_reserveFor.cls ≠ "java/lang/invoke/MethodHandle" ∧ yX5_reserveFor.cls ≠ "java/lang/invoke/VarHandle" ∧ (parseMethodDescriptor yX5_reserveFor.desc).map (fun d => d.parameters.length) = some 1 := by decide +kernel
theorem hy_X5_takeReservedFor : yX5_takeReservedFor.cls = RX5 ∧ yX5_takeReservedFor.cls ≠ "java/lang/invoke/MethodHandle" ∧ yX5_takeReservedFor.cls ≠ "java/lang/invoke/VarHandle" ∧ (parseMethodDescriptor yX5_takeReservedFor.desc).map (fun d => d.parameters.length) = some 1 := by decide +kernel
theorem hy_X5_addOrder : yX5_addOrder.cls = RX5 ∧ yX5_addOrder.cls ≠ "java/lang/invoke/MethodHandle" ∧ yX5_addOrder.cls ≠ "java/lang/invoke/VarHandle" ∧ (parseMethodDescriptor yX5_addOrder.desc).map (fun d => d.parameters.length) = some 3 := by decide +kernel
theorem hy_X5_dropOrdersOf : yX5_dropOrdersOf.cls = RX5 ∧ yX5_dropOrdersOf.cls ≠ "java/lang/invoke/MethodHandle" ∧ yX5_dropOrdersOf.cls ≠ "java/lang/invoke/VarHandle" ∧ (parseMethodDescriptor yX5_dropOrdersOf.desc).map (fun d => d.parameters.length) = some 1 := by decide +kernel
theorem hy_X6_setRate : yX6_setRate.cls = RX6 ∧ yX6_setRate.cls ≠ "java/lang/invoke/MethodHandle" ∧ yX6_setRate.cls ≠ "java/lang/invoke/VarHandle" ∧ (parseMethodDescriptor yX6_setRate.desc).map (fun d => d.parameters.length) = some 2 := by decide +kernel
theorem hy_X6_setNumber : yX6_setNumber.cls = RX6 ∧ yX6_setNumber.cls ≠ "java/lang/invoke/MethodHandle" ∧ yX6_setNumber.cls ≠ "java/lang/invoke/VarHandle" ∧ (parseMethodDescriptor yX6_setNumber.desc).map (fun d => d.parameters.length) = some 2 := by decide +kernel
theorem hy_X6_setPart : yX6_setPart.cls = RX6 ∧ yX6_setPart.cls ≠ "java/lang/invoke/MethodHandle" ∧ yX6_setPart.cls ≠ "java/lang/invoke/VarHandle" ∧ (parseMethodDescriptor yX6_setPart.desc).map (fun d => d.parameters.length) = some 3 := by decide +kernel
theorem hy_X6_order : yX6_order.cls = RX6 ∧ yX6_order.cls ≠ "java/lang/invoke/MethodHandle" ∧ yX6_order.cls ≠ "java/lang/invoke/VarHandle" ∧ (parseMethodDescriptor yX6_order.desc).map (fun d => d.parameters.length) = some 2 := by decide +kernel
theorem hy_X6_put : yX6_put.cls = RX6 ∧ yX6_put.cls ≠ "java/lang/invoke/MethodHandle" ∧ yX6_put.cls ≠ "java/lang/invoke/VarHandle" ∧ (parseMethodDescriptor yX6_put.desc).map (fun d => d.parameters.length) = some 2 := by decide +kernel
theorem hy_X6_come : yX6_come.cls = RX6 ∧ yX6_come.cls ≠ "java/lang/invoke/MethodHandle" ∧ yX6_come.cls ≠ "java/lang/invoke/VarHandle" ∧ (parseMethodDescriptor yX6_come.desc).map (fun d => d.parameters.length) = some 1 := by decide +kernel
theorem hy_X6_estimate : yX6_estimate.cls = RX6 ∧ yX6_estimate.cls ≠ "java/lang/invoke/MethodHandle" ∧ yX6_estimate.cls ≠ "java/lang/invoke/VarHandle" ∧ (parseMethodDescriptor yX6_estimate.desc).map (fun d => d.parameters.length) = some 1 := by decide +kernel
theorem hy_X6_answer : yX6_answer.cls = RX6 ∧ yX6_answer.cls ≠ "java/lang/invoke/MethodHandle" ∧ yX6_answer.cls ≠ "java/lang/invoke/VarHandle" ∧ (parseMethodDescriptor yX6_answer.desc).map (fun d => d.parameters.length) = some 2 := by decide +kernel
theorem hy_X6_lend : yX6_lend.cls = RX6 ∧ yX6_lend.cls ≠ "java/lang/invoke/MethodHandle" ∧ yX6_lend.cls ≠ "java/lang/invoke/VarHandle" ∧ (parseMethodDescriptor yX6_lend.desc).map (fun d => d.parameters.length) = some 1 := by decide +kernel
theorem hy_X6_collect : yX6_collect.cls = RX6 ∧ yX6_collect.cls ≠ "java/lang/invoke/MethodHandle" ∧ yX6_collect.cls ≠ "java/lang/invoke/VarHandle" ∧ (parseMethodDescriptor yX6_collect.desc).map (fun d => d.parameters.length) = some 1 := by decide +kernel
theorem hy_X6_pass : yX6_pass.cls = RX6 ∧ yX6_pass.cls ≠ "java/lang/invoke/MethodHandle" ∧ yX6_pass.cls ≠ "java/lang/invoke/VarHandle" ∧ (parseMethodDescriptor yX6_pass.desc).map (fun d => d.parameters.length) = some 1 := by decide +kernel
theorem hy_X6_undo : yX6_undo.cls = RX6 ∧ yX6_undo.cls ≠ "java/lang/invoke/MethodHandle" ∧ yX6_undo.cls ≠ "java/lang/invoke/VarHandle" ∧ (parseMethodDescriptor yX6_undo.desc).map (fun d => d.parameters.length) = some 0 := by decide +kernel
theorem hy_X6_keep : yX6_keep.cls = RX6 ∧ yX6_keep.cls ≠ "java/lang/invoke/MethodHandle" ∧ yX6_keep.cls ≠ "java/lang/invoke/VarHandle" ∧ (parseMethodDescriptor yX6_keep.desc).map (fun d => d.parameters.length) = some 0 := by decide +kernel
theorem hy_X6_restore : yX6_restore.cls = RX6 ∧ yX6_restore.cls ≠ "java/lang/invoke/MethodHandle" ∧ yX6_restore.cls ≠ "java/lang/invoke/VarHandle" ∧ (parseMethodDescriptor yX6_restore.desc).map (fun d => d.parameters.length) = some 0 := by decide +kernel
theorem hy_X6_rate : yX6_rate.cls = RX6 ∧ yX6_rate.cls ≠ "java/lang/invoke/MethodHandle" ∧ yX6_rate.cls ≠ "java/lang/invoke/VarHandle" ∧ (parseMethodDescriptor yX6_rate.desc).map (fun d => d.parameters.length) = some 1 := by decide +kernel
theorem hy_X6_number : yX6_number.cls = RX6 ∧ yX6_number.cls ≠ "java/lang/invoke/MethodHandle" ∧ yX6_number.cls ≠ "java/lang/invoke/VarHandle" ∧ (parseMethodDescriptor yX6_number.desc).map (fun d => d.parameters.length) = some 1 := by decide +kernel
theorem hy_X6_part : yX6_part.cls = RX6 ∧ yX6_part.cls ≠ "java/lang/invoke/MethodHandle" ∧ yX6_part.cls ≠ "java/lang/invoke/VarHandle" ∧ (parseMethodDescriptor yX6_part.desc).map (fun d => d.parameters.length) = some 2 := by decide +kernel
theorem hy_X6_costOf : yX6_costOf.cls = RX6 ∧ yX6_costOf.cls ≠ "java/lang/invoke/MethodHandle" ∧ yX6_costOf.cls ≠ "java/lang/invoke/VarHandle" ∧ (parseMethodDescriptor yX6_costOf.desc).map (fun d => d.parameters.length) = some 1 := by decide +kernel
theorem hy_X6_set : yX6_set.cls = RX6 ∧ yX6_set.cls ≠ "java/lang/invoke/MethodHandle" ∧ yX6_set.cls ≠ "java/lang/invoke/VarHandle" ∧ (parseMethodDescriptor yX6_set.desc).map (fun d => d.parameters.length) = some 2 := by decide +kernel
theorem hy_X6_waitsFor : yX6_waitsFor.cls = RX6 ∧ yX6_waitsFor.cls ≠ "java/lang/invoke/MethodHandle" ∧ yX6_waitsFor.cls ≠ "java/lang/invoke/VarHandle" ∧ (parseMethodDescriptor yX6_waitsFor.desc).map (fun d => d.parameters.length) = some 1 := by decide +kernel
theorem hy_X6_lacks : yX6_lacks.cls = RX6 ∧ yX6_lacks.cls ≠ "java/lang/invoke/MethodHandle" ∧ yX6_lacks.cls ≠ "java/lang/invoke/VarHandle" ∧ (parseMethodDescriptor yX6_lacks.desc).map (fun d => d.parameters.length) = some 1 := by decide +kernel
theorem hy_X6_doneIn : yX6_doneIn.cls = RX6 ∧ yX6_doneIn.cls ≠ "java/lang/invoke/MethodHandle" ∧ yX6_doneIn.cls ≠ "java/lang/invoke/VarHandle" ∧ (parseMethodDescriptor yX6_doneIn.desc).map (fun d => d.parameters.length) = some 1 := by decide +kernel
theorem hy_X6_meanDays : yX6_meanDays.cls = RX6 ∧ yX6_meanDays.cls ≠ "java/lang/invoke/MethodHandle" ∧ yX6_meanDays.cls ≠ "java/lang/invoke/VarHandle" ∧ (parseMethodDescriptor yX6_meanDays.desc).map (fun d => d.parameters.length) = some 0 := by decide +kernel
theorem hy_X6_count : yX6_count.cls = RX6 ∧ yX6_count.cls ≠ "java/lang/invoke/MethodHandle" ∧ yX6_count.cls ≠ "java/lang/invoke/VarHandle" ∧ (parseMethodDescriptor yX6_count.desc).map (fun d => d.parameters.length) = some 1 := by decide +kernel
theorem hs_X6_isIndex : yX6_isIndex.cls ≠ "java/lang/invoke/MethodHandle" ∧ yX6_isIndex.cls ≠ "java/lang/invoke/VarHandle" ∧ (parseMethodDescriptor yX6_isIndex.desc).map (fun d => d.parameters.length) = some 2 := by decide +kernel
theorem hs_X6_isWithin : yX6_isWithin.cls ≠ "java/lang/invoke/MethodHandle" ∧ yX6_isWithin.cls ≠ "java/lang/invoke/VarHandle" ∧ (parseMethodDescriptor yX6_isWithin.desc).map (fun d => d.parameters.length) = some 3 := by decide +kernel
theorem hy_X6_isSet : yX6_isSet.cls = RX6 ∧ yX6_isSet.cls ≠ "java/lang/invoke/MethodHandle" ∧ yX6_isSet.cls ≠ "java/lang/invoke/VarHandle" ∧ (parseMethodDescriptor yX6_isSet.desc).map (fun d => d.parameters.length) = some 1 := by decide +kernel
theorem hs_X6_floatOf : yX6_floatOf.cls ≠ "java/lang/invoke/MethodHandle" ∧ yX6_floatOf.cls ≠ "java/lang/invoke/VarHandle" ∧ (parseMethodDescriptor yX6_floatOf.desc).map (fun d => d.parameters.length) = some 1 := by decide +kernel
theorem hs_L_low : yL_low.cls ≠ "java/lang/invoke/MethodHandle" ∧ yL_low.cls ≠ "java/lang/invoke/VarHandle" ∧ (parseMethodDescriptor yL_low.desc).map (fun d => d.parameters.length) = some 2 := by decide +kernel
theorem hs_L_cell : yL_cell.cls ≠ "java/lang/invoke/MethodHandle" ∧ yL_cell.cls ≠ "java/lang/invoke/VarHandle" ∧ (parseMethodDescriptor yL_cell.desc).map (fun d => d.parameters.length) = some 2 := by decide +kernel
theorem hs_L_need : yL_need.cls ≠ "java/lang/invoke/MethodHandle" ∧ yL_need.cls ≠ "java/lang/invoke/VarHandle" ∧ (parseMethodDescriptor yL_need.desc).map (fun d => d.parameters.length) = some 2 := by decide +kernel
theorem hs_L_hours : yL_hours.cls ≠ "java/lang/invoke/MethodHandle" ∧ yL_hours.cls ≠ "java/lang/invoke/VarHandle" ∧ (parseMethodDescriptor yL_hours.desc).map (fun d => d.parameters.length) = some 1 := by decide +kernel
theorem hs_L_prices : yL_prices.cls ≠ "java/lang/invoke/MethodHandle" ∧ yL_prices.cls ≠ "java/lang/invoke/VarHandle" ∧ (parseMethodDescriptor yL_prices.desc).map (fun d => d.parameters.length) = some 2 := by decide +kernel
theorem hs_L_cost : yL_cost.cls ≠ "java/lang/invoke/MethodHandle" ∧ yL_cost.cls ≠ "java/lang/invoke/VarHandle" ∧ (parseMethodDescriptor yL_cost.desc).map (fun d => d.parameters.length) = some 2 := by decide +kernel
theorem hs_L_desk : yL_desk.cls ≠ "java/lang/invoke/MethodHandle" ∧ yL_desk.cls ≠ "java/lang/invoke/VarHandle" ∧ (parseMethodDescriptor yL_desk.desc).map (fun d => d.parameters.length) = some 1 := by decide +kernel
theorem hs_L_act : yL_act.cls ≠ "java/lang/invoke/MethodHandle" ∧ yL_act.cls ≠ "java/lang/invoke/VarHandle" ∧ (parseMethodDescriptor yL_act.desc).map (fun d => d.parameters.length) = some 3 := by decide +kernel
theorem ge_t {x y : Int32} {n N : Nat} (hx : x = nI n) (hy : y = nI N) (h : N ≤ n) (hb : n < 2 ^ 31) : y ≤ x := by subst hx hy; exact nI_le h hb
theorem ge_f {x y : Int32} {n N : Nat} (hx : x = nI n) (hy : y = nI N) (h : n < N) (hb : N < 2 ^ 31) : ¬ y ≤ x := by subst hx hy; exact nI_ge h hb
theorem lt_t {x y : Int32} {n N : Nat} (hx : x = nI n) (hy : y = nI N) (h : n < N) (hb : N < 2 ^ 31) : x < y := by subst hx hy; exact nI_lt h hb
theorem lt_f {x y : Int32} {n N : Nat} (hx : x = nI n) (hy : y = nI N) (h : N ≤ n) (hb : n < 2 ^ 31) : ¬ x < y := by subst hx hy; exact nI_nlt h hb
/-- a call that changes nothing of the desk -/
theorem dk.fr {g : KG} {a : Nat} {d : DV} {H H1 : Heap} {A1 : Nat → Prop} (h : dk g a d H) (hf : ∀ q : Nat, q < H.size → ¬ A1 q → H1[q]? = H[q]?) (hA : ∀ q, iv a 21 q → ¬ A1 q) : dk g a d H1 := h.kept (fun q hq => hf q (by have := h.lt; have := hq.2; omega) (hA q hq))
def nF : Nat → Prop := fun _ => False
theorem nF.no {A : Nat → Prop} : ∀ q, nF q → A q := fun _ h => h.elim
/-! THE STORE, as numbers: need, price of a fault's parts, free parts, on order, the lowest short part, enough on order, reserved, taken, an order added, the orders of a day dropped -/
def need (f p : Nat) : Int32 := tPF (f * 6 + p)
def pop (d : DV) (f : Nat) : Nat → Int32
  | 0 => 0
  | n + 1 => pop d f n + need f n * d.1 4 n
def fre (d : DV) (p : Nat) : Int32 := d.1 6 p - d.1 7 p
def oo (d : DV) (p : Nat) : Nat → Int32
  | 0 => 0
  | n + 1 => if d.1 8 n = nI p then oo d p n + d.1 9 n else oo d p n
def lsf (d : DV) (f : Nat) : Nat → Nat → Int32
  | 0, _ => -5
  | r + 1, p => if need f p ≤ fre d p then lsf d f r (p + 1) else nI p
def ieo (d : DV) (f : Nat) : Nat → Nat → Int32
  | 0, _ => 1
  | r + 1, p => if need f p ≤ fre d p + oo d p (no d) then ieo d f r (p + 1) else 0
def rsv (d : DV) (f : Nat) : Nat → DV
  | 0 => d
  | n + 1 => dset (rsv d f n) 7 n ((rsv d f n).1 7 n + need f n)
def trv (d : DV) (f : Nat) : Nat → DV
  | 0 => d
  | n + 1 => dset (dset (trv d f n) 6 n ((trv d f n).1 6 n - need f n)) 7 n ((trv d f n).1 7 n - need f n)
def ado (d : DV) (p many comes : Int32) : DV := dset (dset (dset (dset d 8 (no d) p) 9 (no d) many) 10 (no d) comes) 3 0 (d.1 3 0 + 1)
def dof (d : DV) (day : Int32) : Nat → DV × Nat
  | 0 => (d, 0)
  | n + 1 => if (dof d day n).1.1 10 n = day then dof d day n else
    (dset (dset (dset (dof d day n).1 8 (dof d day n).2 ((dof d day n).1.1 8 n)) 9 (dof d day n).2 ((dof d day n).1.1 9 n)) 10 (dof d day n).2 ((dof d day n).1.1 10 n), (dof d day n).2 + 1)
def dofd (d : DV) (day : Int32) : DV := dset (dof d day (no d)).1 3 0 (nI (dof d day (no d)).2)
def rm_X5_needOf : Room := { frames := 0, cells := 0, slots := 0, locals := 0 }
set_option maxRecDepth 100000 in
set_option maxHeartbeats 4000000 in
theorem c_X5_needOf (g : KG) (B0 : Nat) (l : Launch) (f p : Nat) (hf : f < 5) (hp : p < 6) : Mt g B0 l yX5_needOf cX5_needOf 2 (some .int) rm_X5_needOf [.int (nI f), .int (nI p)] nF (fun _ => True) (some (.int (need f p))) (fun _ => True) 0 0 := by
  refine Mt_of RX5 (by decide) rfl [(0, .int (nI f)), (1, .int (nI p))] rfl (Nat.le_of_ble_eq_true rfl) ?_
  intro pr e s m args below meth c C hr hin hd
  obtain ⟨t, hZ, hT⟩ := stA.get C.2.2.2.2.2.1.2.2.2.2.2.1 C.2.2.2.2.2.2.1
  refine y_getsN C hZ C.2.2.2.2.2.1.2.1 dX5_needOf_0 ?_
  refine y_iload_n C 0 dX5_needOf_3 rfl rfl ?_
  refine y_bipush C (6) dX5_needOf_4 (by decide) ?_
  refine y_imul C dX5_needOf_6 ?_
  refine y_iload_n C 1 dX5_needOf_7 rfl rfl ?_
  refine y_iadd C dX5_needOf_8 ?_
  refine y_sld C hT (f * 6 + p) (by rw [show (6 : Int32) = nI 6 from rfl, pk_mul, nI_add]) (by omega) (by decide) dX5_needOf_9 ?_
  exact y_iret C hr rfl trivial dX5_needOf_10
def rm_X5_free : Room := { frames := 0, cells := 0, slots := 0, locals := 0 }
set_option maxRecDepth 100000 in
set_option maxHeartbeats 4000000 in
theorem c_X5_free (g : KG) (B0 : Nat) (l : Launch) (a : Nat) (d : DV) (p : Nat) (hp : p < 6) : Mt g B0 l yX5_free cX5_free 2 (some .int) rm_X5_free [.ref (a + 3), .int (nI p)] (iv a 21) (dk g a d) (some (.int (fre d p))) (dk g a d) 0 0 := by
  refine Mt_of RX5 (by decide) rfl [(0, .ref (a + 3)), (1, .int (nI p))] rfl (Nat.le_of_ble_eq_true rfl) ?_
  intro pr e s m args below meth c C hr hin hd
  refine y_aload_n C 0 dX5_free_0 rfl rfl ?_
  refine y_get5 C (dk_3 hd) 2 (by decide) q55 rfl rfl dX5_free_1 ?_
  refine y_iload_n C 1 dX5_free_4 rfl rfl ?_
  refine y_iald C (dk_6 hd) p rfl hp (by decide) dX5_free_5 ?_
  refine y_aload_n C 0 dX5_free_6 rfl rfl ?_
  refine y_get5 C (dk_3 hd) 3 (by decide) q56 rfl rfl dX5_free_7 ?_
  refine y_iload_n C 1 dX5_free_10 rfl rfl ?_
  refine y_iald C (dk_7 hd) p rfl hp (by decide) dX5_free_11 ?_
  refine y_isub C dX5_free_12 ?_
  exact y_iret C hr rfl hd dX5_free_13
def rm_X5_priceOfParts : Room := { frames := 1, cells := 0, slots := 0, locals := 21 }
set_option maxRecDepth 100000 in
set_option maxHeartbeats 4000000 in
theorem c_X5_priceOfParts (g : KG) (B0 : Nat) (l : Launch) (a : Nat) (d : DV) (f : Nat) (hf0 : f < 5) : Mt g B0 l yX5_priceOfParts cX5_priceOfParts 4 (some .int) rm_X5_priceOfParts [.ref (a + 3), .int (nI f)] (iv a 21) (dk g a d) (some (.int (pop d f 6))) (dk g a d) 0 0 := by
  refine Mt_of RX5 (by decide) rfl [(0, .ref (a + 3)), (1, .int (nI f))] rfl (Nat.le_of_ble_eq_true rfl) ?_
  intro pr e s m args below meth c C hr hin hd
  refine y_iconst C (0) dX5_priceOfParts_0 (by decide) ?_
  refine y_istore_n C dX5_priceOfParts_1 rfl (by decide) rfl ?_
  refine y_iconst C (0) dX5_priceOfParts_2 (by decide) ?_
  refine y_istore_n C dX5_priceOfParts_3 rfl (by decide) rfl ?_
  suffices K : ∀ rem n : Nat, n + rem = 6 → ∀ sum : Int32, sum = pop d f n → ∀ H : Heap, dk g a d H → Yx (iv a 21) pr l e rm_X5_priceOfParts s m args below meth c 4 0 0 (MQ below (Qx (some (.int (pop d f 6))) (dk g a d) (iv a 21)) args s 0 0 (iv a 21)) [(3, .int (nI n)), (2, .int sum), (0, .ref (a + 3)), (1, .int (nI f))] H 4 [] from K (6) 0 (Nat.zero_add _) _ rfl _ hd
  intro rem
  induction rem with
  | zero =>
    intro n hn sum hs H hd
    obtain rfl : n = 6 := by omega
    refine y_iload_n C 0 dX5_priceOfParts_4 rfl rfl ?_
    refine y_bipush C (6) dX5_priceOfParts_5 (by decide) ?_
    refine y_icmp_ge C 31 dX5_priceOfParts_7 (by decide) (fun _ => ?_) (fun h => absurd (ge_t rfl rfl (Nat.le_refl 6) (by decide)) h)
    refine y_iload_n C 1 dX5_priceOfParts_31 rfl rfl ?_
    exact y_iret C hr (by rw [hs]) hd dX5_priceOfParts_32
  | succ rem ih =>
    intro n hn sum hs H hd
    have hlt : n < 6 := by omega
    refine y_iload_n C 0 dX5_priceOfParts_4 rfl rfl ?_
    refine y_bipush C (6) dX5_priceOfParts_5 (by decide) ?_
    refine y_icmp_ge C 31 dX5_priceOfParts_7 (by decide) (fun h => absurd h (ge_f rfl rfl hlt (by decide))) (fun _ => ?_)
    refine y_iload_n C 1 dX5_priceOfParts_10 rfl rfl ?_
    refine y_iload_n C 3 dX5_priceOfParts_11 rfl rfl ?_
    refine y_iload_n C 0 dX5_priceOfParts_12 rfl rfl ?_
    refine y_callS C [.int (nI f), .int (nI n)] (c_X5_needOf g B0 l f n hf0 hlt) 2 (wSin q208 q209 q39 q210) hs_X5_needOf ⟨(Nat.le_of_ble_eq_true rfl), (Nat.le_of_ble_eq_true rfl)⟩ ⟨rfl, rfl⟩ trivial nF.no rfl rfl (Nat.le_of_ble_eq_true rfl) dX5_priceOfParts_13 ⟨(Nat.le_of_ble_eq_true rfl), (Nat.le_of_ble_eq_true rfl)⟩ rfl (fun H hp hz hf => ?_)
    have hd := hd.fr hf (fun _ _ z => z)
    refine y_aload_n C 2 dX5_priceOfParts_16 rfl rfl ?_
    refine y_get5 C (dk_3 hd) 0 (by decide) q53 rfl rfl dX5_priceOfParts_17 ?_
    refine y_iload_n C 0 dX5_priceOfParts_20 rfl rfl ?_
    refine y_iald C (dk_4 hd) n rfl hlt (by decide) dX5_priceOfParts_21 ?_
    refine y_imul C dX5_priceOfParts_22 ?_
    refine y_iadd C dX5_priceOfParts_23 ?_
    refine y_istore_n C dX5_priceOfParts_24 rfl (by decide) rfl ?_
    refine y_iinc C 1 (nI (n + 1)) dX5_priceOfParts_25 rfl (nI_succ _).symm (by decide) rfl ?_
    refine y_goto C 4 dX5_priceOfParts_28 (by decide) ?_
    exact ih (n + 1) (by omega) _ (by rw [pop, hs]) H hd
def rm_X5_onOrder : Room := { frames := 0, cells := 0, slots := 0, locals := 0 }
set_option maxRecDepth 100000 in
set_option maxHeartbeats 4000000 in
theorem c_X5_onOrder (g : KG) (B0 : Nat) (l : Launch) (a : Nat) (d : DV) (p : Nat) (hsf : sf d) : Mt g B0 l yX5_onOrder cX5_onOrder 4 (some .int) rm_X5_onOrder [.ref (a + 3), .int (nI p)] (iv a 21) (dk g a d) (some (.int (oo d p (no d)))) (dk g a d) 0 0 := by
  refine Mt_of RX5 (by decide) rfl [(0, .ref (a + 3)), (1, .int (nI p))] rfl (Nat.le_of_ble_eq_true rfl) ?_
  intro pr e s m args below meth c C hr hin hd
  refine y_iconst C (0) dX5_onOrder_0 (by decide) ?_
  refine y_istore_n C dX5_onOrder_1 rfl (by decide) rfl ?_
  refine y_iconst C (0) dX5_onOrder_2 (by decide) ?_
  refine y_istore_n C dX5_onOrder_3 rfl (by decide) rfl ?_
  suffices K : ∀ rem n : Nat, n + rem = no d → ∀ sum : Int32, sum = oo d p n → ∀ H : Heap, dk g a d H → Yx (iv a 21) pr l e rm_X5_onOrder s m args below meth c 4 0 0 (MQ below (Qx (some (.int (oo d p (no d)))) (dk g a d) (iv a 21)) args s 0 0 (iv a 21)) [(3, .int (nI n)), (2, .int sum), (0, .ref (a + 3)), (1, .int (nI p))] H 4 [] from K (no d) 0 (Nat.zero_add _) _ rfl _ hd
  intro rem
  induction rem with
  | zero =>
    intro n hn sum hs H hd
    obtain rfl : n = no d := by omega
    refine y_iload_n C 0 dX5_onOrder_4 rfl rfl ?_
    refine y_aload_n C 2 dX5_onOrder_5 rfl rfl ?_
    refine y_get5 C (dk_3 hd) 4 (by decide) q57 rfl rfl dX5_onOrder_6 ?_
    refine y_icmp_ge C 37 dX5_onOrder_9 (by decide) (fun _ => ?_) (fun h => absurd (ge_t rfl hsf.1.1 (Nat.le_refl _) (by have := hsf.1.2; omega)) h)
    refine y_iload_n C 1 dX5_onOrder_37 rfl rfl ?_
    exact y_iret C hr (by rw [hs]) hd dX5_onOrder_38
  | succ rem ih =>
    intro n hn sum hs H hd
    have hlt : n < no d := by omega
    refine y_iload_n C 0 dX5_onOrder_4 rfl rfl ?_
    refine y_aload_n C 2 dX5_onOrder_5 rfl rfl ?_
    refine y_get5 C (dk_3 hd) 4 (by decide) q57 rfl rfl dX5_onOrder_6 ?_
    refine y_icmp_ge C 37 dX5_onOrder_9 (by decide) (fun h => absurd h (ge_f rfl hsf.1.1 hlt (by have := hsf.1.2; omega))) (fun _ => ?_)
    refine y_aload_n C 2 dX5_onOrder_12 rfl rfl ?_
    refine y_get5 C (dk_3 hd) 5 (by decide) q58 rfl rfl dX5_onOrder_13 ?_
    refine y_iload_n C 0 dX5_onOrder_16 rfl rfl ?_
    refine y_iald C (dk_8 hd) n rfl (by have := hsf.1.2; omega) (by decide) dX5_onOrder_17 ?_
    refine y_iload_n C 3 dX5_onOrder_18 rfl rfl ?_
    refine y_icmp_ne C 31 dX5_onOrder_19 (by decide) (fun h1 => ?_) (fun h1 => ?_)
    · refine y_iinc C 0 (nI (n + 1)) dX5_onOrder_31 rfl (nI_succ _).symm (by decide) rfl ?_
      refine y_goto C 4 dX5_onOrder_34 (by decide) ?_
      exact ih (n + 1) (by omega) _ (by rw [oo, if_neg h1, hs]) H hd
    · refine y_iload_n C 1 dX5_onOrder_22 rfl rfl ?_
      refine y_aload_n C 2 dX5_onOrder_23 rfl rfl ?_
      refine y_get5 C (dk_3 hd) 6 (by decide) q59 rfl rfl dX5_onOrder_24 ?_
      refine y_iload_n C 0 dX5_onOrder_27 rfl rfl ?_
      refine y_iald C (dk_9 hd) n rfl (by have := hsf.1.2; omega) (by decide) dX5_onOrder_28 ?_
      refine y_iadd C dX5_onOrder_29 ?_
      refine y_istore_n C dX5_onOrder_30 rfl (by decide) rfl ?_
      refine y_iinc C 1 (nI (n + 1)) dX5_onOrder_31 rfl (nI_succ _).symm (by decide) rfl ?_
      refine y_goto C 4 dX5_onOrder_34 (by decide) ?_
      exact ih (n + 1) (by omega) _ (by rw [oo, if_pos h1, hs]) H hd
def rm_X5_lowestShort : Room := { frames := 1, cells := 0, slots := 0, locals := 21 }
set_option maxRecDepth 100000 in
set_option maxHeartbeats 4000000 in
theorem c_X5_lowestShort (g : KG) (B0 : Nat) (l : Launch) (a : Nat) (d : DV) (f : Nat) (hf0 : f < 5) : Mt g B0 l yX5_lowestShort cX5_lowestShort 3 (some .int) rm_X5_lowestShort [.ref (a + 3), .int (nI f)] (iv a 21) (dk g a d) (some (.int (lsf d f 6 0))) (dk g a d) 0 0 := by
  refine Mt_of RX5 (by decide) rfl [(0, .ref (a + 3)), (1, .int (nI f))] rfl (Nat.le_of_ble_eq_true rfl) ?_
  intro pr e s m args below meth c C hr hin hd
  refine y_iconst C (0) dX5_lowestShort_0 (by decide) ?_
  refine y_istore_n C dX5_lowestShort_1 rfl (by decide) rfl ?_
  suffices K : ∀ rem n : Nat, n + rem = 6 → lsf d f rem n = lsf d f 6 0 → ∀ H : Heap, dk g a d H → Yx (iv a 21) pr l e rm_X5_lowestShort s m args below meth c 3 0 0 (MQ below (Qx (some (.int (lsf d f 6 0))) (dk g a d) (iv a 21)) args s 0 0 (iv a 21)) [(2, .int (nI n)), (0, .ref (a + 3)), (1, .int (nI f))] H 2 [] from K (6) 0 (Nat.zero_add _) rfl _ hd
  intro rem
  induction rem with
  | zero =>
    intro n hn hs H hd
    obtain rfl : n = 6 := by omega
    refine y_iload_n C 0 dX5_lowestShort_2 rfl rfl ?_
    refine y_bipush C (6) dX5_lowestShort_3 (by decide) ?_
    refine y_icmp_ge C 29 dX5_lowestShort_5 (by decide) (fun _ => ?_) (fun h => absurd (ge_t rfl rfl (Nat.le_refl 6) (by decide)) h)
    refine y_bipush C (-5) dX5_lowestShort_29 (by decide) ?_
    exact y_iret C hr (by rw [← hs]; rfl) hd dX5_lowestShort_31
  | succ rem ih =>
    intro n hn hs H hd
    have hlt : n < 6 := by omega
    refine y_iload_n C 0 dX5_lowestShort_2 rfl rfl ?_
    refine y_bipush C (6) dX5_lowestShort_3 (by decide) ?_
    refine y_icmp_ge C 29 dX5_lowestShort_5 (by decide) (fun h => absurd h (ge_f rfl rfl hlt (by decide))) (fun _ => ?_)
    refine y_aload_n C 1 dX5_lowestShort_8 rfl rfl ?_
    refine y_iload_n C 0 dX5_lowestShort_9 rfl rfl ?_
    refine y_callV C [.int (nI n)] (c_X5_free g B0 l a d n hlt) RX5 1 (wVin q204 q205 q206 q39 q207) hy_X5_free ⟨(Nat.le_of_ble_eq_true rfl), (Nat.le_of_ble_eq_true rfl)⟩ ⟨rfl, rfl⟩ (rcv C.2.2.2.2.2.1 (dk_3 hd) rfl) hd (fun _ h => h) rfl rfl (Nat.le_of_ble_eq_true rfl) dX5_lowestShort_10 ⟨(Nat.le_of_ble_eq_true rfl), (Nat.le_of_ble_eq_true rfl)⟩ rfl (fun H hp hz hf => ?_)
    have hd := hp
    refine y_iload_n C 2 dX5_lowestShort_13 rfl rfl ?_
    refine y_iload_n C 0 dX5_lowestShort_14 rfl rfl ?_
    refine y_callS C [.int (nI f), .int (nI n)] (c_X5_needOf g B0 l f n hf0 hlt) 2 (wSin q208 q209 q39 q210) hs_X5_needOf ⟨(Nat.le_of_ble_eq_true rfl), (Nat.le_of_ble_eq_true rfl)⟩ ⟨rfl, rfl⟩ trivial nF.no rfl rfl (Nat.le_of_ble_eq_true rfl) dX5_lowestShort_15 ⟨(Nat.le_of_ble_eq_true rfl), (Nat.le_of_ble_eq_true rfl)⟩ rfl (fun H hp hz hf => ?_)
    have hd := hd.fr hf (fun _ _ z => z)
    refine y_icmp_ge C 23 dX5_lowestShort_18 (by decide) (fun h1 => ?_) (fun h1 => ?_)
    · refine y_iinc C 0 (nI (n + 1)) dX5_lowestShort_23 rfl (nI_succ _).symm (by decide) rfl ?_
      refine y_goto C 2 dX5_lowestShort_26 (by decide) ?_
      exact ih (n + 1) (by omega) (by rw [← hs, lsf, if_pos h1]) H hd
    · refine y_iload_n C 0 dX5_lowestShort_21 rfl rfl ?_
      exact y_iret C hr (by rw [← hs, lsf, if_neg h1]) hd dX5_lowestShort_22
def rm_X5_isEnoughOrdered : Room := { frames := 1, cells := 0, slots := 0, locals := 23 }
set_option maxRecDepth 100000 in
set_option maxHeartbeats 4000000 in
theorem c_X5_isEnoughOrdered (g : KG) (B0 : Nat) (l : Launch) (a : Nat) (d : DV) (f : Nat) (hf0 : f < 5) (hsf : sf d) : Mt g B0 l yX5_isEnoughOrdered cX5_isEnoughOrdered 3 (some .boolean) rm_X5_isEnoughOrdered [.ref (a + 3), .int (nI f)] (iv a 21) (dk g a d) (some (.int (ieo d f 6 0))) (dk g a d) 0 0 := by
  refine Mt_of RX5 (by decide) rfl [(0, .ref (a + 3)), (1, .int (nI f))] rfl (Nat.le_of_ble_eq_true rfl) ?_
  intro pr e s m args below meth c C hr hin hd
  refine y_iconst C (0) dX5_isEnoughOrdered_0 (by decide) ?_
  refine y_istore_n C dX5_isEnoughOrdered_1 rfl (by decide) rfl ?_
  suffices K : ∀ rem n : Nat, n + rem = 6 → ieo d f rem n = ieo d f 6 0 → ∀ H : Heap, dk g a d H → Yx (iv a 21) pr l e rm_X5_isEnoughOrdered s m args below meth c 3 0 0 (MQ below (Qx (some (.int (ieo d f 6 0))) (dk g a d) (iv a 21)) args s 0 0 (iv a 21)) [(2, .int (nI n)), (0, .ref (a + 3)), (1, .int (nI f))] H 2 [] from K (6) 0 (Nat.zero_add _) rfl _ hd
  intro rem
  induction rem with
  | zero =>
    intro n hn hs H hd
    obtain rfl : n = 6 := by omega
    refine y_iload_n C 0 dX5_isEnoughOrdered_2 rfl rfl ?_
    refine y_bipush C (6) dX5_isEnoughOrdered_3 (by decide) ?_
    refine y_icmp_ge C 35 dX5_isEnoughOrdered_5 (by decide) (fun _ => ?_) (fun h => absurd (ge_t rfl rfl (Nat.le_refl 6) (by decide)) h)
    refine y_iconst C (1) dX5_isEnoughOrdered_35 (by decide) ?_
    exact y_zret C hr (by first | exact Or.inl rfl | exact Or.inr rfl) (by rw [← hs]; rfl) hd dX5_isEnoughOrdered_36
  | succ rem ih =>
    intro n hn hs H hd
    have hlt : n < 6 := by omega
    refine y_iload_n C 0 dX5_isEnoughOrdered_2 rfl rfl ?_
    refine y_bipush C (6) dX5_isEnoughOrdered_3 (by decide) ?_
    refine y_icmp_ge C 35 dX5_isEnoughOrdered_5 (by decide) (fun h => absurd h (ge_f rfl rfl hlt (by decide))) (fun _ => ?_)
    refine y_aload_n C 1 dX5_isEnoughOrdered_8 rfl rfl ?_
    refine y_iload_n C 0 dX5_isEnoughOrdered_9 rfl rfl ?_
    refine y_callV C [.int (nI n)] (c_X5_free g B0 l a d n hlt) RX5 1 (wVin q204 q205 q206 q39 q207) hy_X5_free ⟨(Nat.le_of_ble_eq_true rfl), (Nat.le_of_ble_eq_true rfl)⟩ ⟨rfl, rfl⟩ (rcv C.2.2.2.2.2.1 (dk_3 hd) rfl) hd (fun _ h => h) rfl rfl (Nat.le_of_ble_eq_true rfl) dX5_isEnoughOrdered_10 ⟨(Nat.le_of_ble_eq_true rfl), (Nat.le_of_ble_eq_true rfl)⟩ rfl (fun H hp hz hf => ?_)
    have hd := hp
    refine y_aload_n C 1 dX5_isEnoughOrdered_13 rfl rfl ?_
    refine y_iload_n C 0 dX5_isEnoughOrdered_14 rfl rfl ?_
    refine y_callV C [.int (nI n)] (c_X5_onOrder g B0 l a d n hsf) RX5 1 (wVin q430 q401 q402 q39 q403) hy_X5_onOrder ⟨(Nat.le_of_ble_eq_true rfl), (Nat.le_of_ble_eq_true rfl)⟩ ⟨rfl, rfl⟩ (rcv C.2.2.2.2.2.1 (dk_3 hd) rfl) hd (fun _ h => h) rfl rfl (Nat.le_of_ble_eq_true rfl) dX5_isEnoughOrdered_15 ⟨(Nat.le_of_ble_eq_true rfl), (Nat.le_of_ble_eq_true rfl)⟩ rfl (fun H hp hz hf => ?_)
    have hd := hp
    refine y_iadd C dX5_isEnoughOrdered_18 ?_
    refine y_iload_n C 2 dX5_isEnoughOrdered_19 rfl rfl ?_
    refine y_iload_n C 0 dX5_isEnoughOrdered_20 rfl rfl ?_
    refine y_callS C [.int (nI f), .int (nI n)] (c_X5_needOf g B0 l f n hf0 hlt) 2 (wSin q208 q209 q39 q210) hs_X5_needOf ⟨(Nat.le_of_ble_eq_true rfl), (Nat.le_of_ble_eq_true rfl)⟩ ⟨rfl, rfl⟩ trivial nF.no rfl rfl (Nat.le_of_ble_eq_true rfl) dX5_isEnoughOrdered_21 ⟨(Nat.le_of_ble_eq_true rfl), (Nat.le_of_ble_eq_true rfl)⟩ rfl (fun H hp hz hf => ?_)
    have hd := hd.fr hf (fun _ _ z => z)
    refine y_icmp_ge C 29 dX5_isEnoughOrdered_24 (by decide) (fun h1 => ?_) (fun h1 => ?_)
    · refine y_iinc C 0 (nI (n + 1)) dX5_isEnoughOrdered_29 rfl (nI_succ _).symm (by decide) rfl ?_
      refine y_goto C 2 dX5_isEnoughOrdered_32 (by decide) ?_
      exact ih (n + 1) (by omega) (by rw [← hs, ieo, if_pos h1]) H hd
    · refine y_iconst C (0) dX5_isEnoughOrdered_27 (by decide) ?_
      exact y_zret C hr (by first | exact Or.inl rfl | exact Or.inr rfl) (by rw [← hs, ieo, if_neg h1]) hd dX5_isEnoughOrdered_28
def rm_X5_reserveFor : Room := { frames := 1, cells := 0, slots := 0, locals := 21 }
set_option maxRecDepth 100000 in
set_option maxHeartbeats 4000000 in
theorem c_X5_reserveFor (g : KG) (B0 : Nat) (l : Launch) (a : Nat) (d : DV) (f : Nat) (hf0 : f < 5) : Mt g B0 l yX5_reserveFor cX5_reserveFor 3 none rm_X5_reserveFor [.ref (a + 3), .int (nI f)] (iv a 21) (dk g a d) none (dk g a (rsv d f 6)) 0 0 := by
  refine Mt_of RX5 (by decide) rfl [(0, .ref (a + 3)), (1, .int (nI f))] rfl (Nat.le_of_ble_eq_true rfl) ?_
  intro pr e s m args below meth c C hr hin hd
  refine y_iconst C (0) dX5_reserveFor_0 (by decide) ?_
  refine y_istore_n C dX5_reserveFor_1 rfl (by decide) rfl ?_
  suffices K : ∀ rem n : Nat, n + rem = 6 → ∀ D : DV, D = rsv d f n → ∀ H : Heap, dk g a D H → Yx (iv a 21) pr l e rm_X5_reserveFor s m args below meth c 3 0 0 (MQ below (Qx none (dk g a (rsv d f 6)) (iv a 21)) args s 0 0 (iv a 21)) [(2, .int (nI n)), (0, .ref (a + 3)), (1, .int (nI f))] H 2 [] from K (6) 0 (Nat.zero_add _) d rfl _ hd
  intro rem
  induction rem with
  | zero =>
    intro n hn D hs H hd
    obtain rfl : n = 6 := by omega
    refine y_iload_n C 0 dX5_reserveFor_2 rfl rfl ?_
    refine y_bipush C (6) dX5_reserveFor_3 (by decide) ?_
    refine y_icmp_ge C 28 dX5_reserveFor_5 (by decide) (fun _ => ?_) (fun h => absurd (ge_t rfl rfl (Nat.le_refl 6) (by decide)) h)
    exact y_vret C hr (hs ▸ hd) dX5_reserveFor_28
  | succ rem ih =>
    intro n hn D hs H hd
    have hlt : n < 6 := by omega
    refine y_iload_n C 0 dX5_reserveFor_2 rfl rfl ?_
    refine y_bipush C (6) dX5_reserveFor_3 (by decide) ?_
    refine y_icmp_ge C 28 dX5_reserveFor_5 (by decide) (fun h => absurd h (ge_f rfl rfl hlt (by decide))) (fun _ => ?_)
    refine y_aload_n C 1 dX5_reserveFor_8 rfl rfl ?_
    refine y_get5 C (dk_3 hd) 3 (by decide) q56 rfl rfl dX5_reserveFor_9 ?_
    refine y_iload_n C 0 dX5_reserveFor_12 rfl rfl ?_
    refine y_dup2 C dX5_reserveFor_13 rfl rfl ?_
    refine y_iald C (dk_7 hd) n rfl hlt (by decide) dX5_reserveFor_14 ?_
    refine y_iload_n C 2 dX5_reserveFor_15 rfl rfl ?_
    refine y_iload_n C 0 dX5_reserveFor_16 rfl rfl ?_
    refine y_callS C [.int (nI f), .int (nI n)] (c_X5_needOf g B0 l f n hf0 hlt) 2 (wSin q208 q209 q39 q210) hs_X5_needOf ⟨(Nat.le_of_ble_eq_true rfl), (Nat.le_of_ble_eq_true rfl)⟩ ⟨rfl, rfl⟩ trivial nF.no rfl rfl (Nat.le_of_ble_eq_true rfl) dX5_reserveFor_17 ⟨(Nat.le_of_ble_eq_true rfl), (Nat.le_of_ble_eq_true rfl)⟩ rfl (fun H hp hz hf => ?_)
    have hd := hd.fr hf (fun _ _ z => z)
    refine y_iadd C dX5_reserveFor_20 ?_
    refine y_iast C (dk_7 hd) (ivm 7 (by decide)) n rfl hlt (by decide) dX5_reserveFor_21 (fun H hw1 ow1 zw1 => ?_)
    have hd := dk_set7 hd hw1 ow1
    refine y_iinc C 0 (nI (n + 1)) dX5_reserveFor_22 rfl (nI_succ _).symm (by decide) rfl ?_
    refine y_goto C 2 dX5_reserveFor_25 (by decide) ?_
    exact ih (n + 1) (by omega) _ (by rw [rsv, ← hs] <;> rfl) H hd
def rm_X5_takeReservedFor : Room := { frames := 1, cells := 0, slots := 0, locals := 21 }
set_option maxRecDepth 100000 in
set_option maxHeartbeats 4000000 in
theorem c_X5_takeReservedFor (g : KG) (B0 : Nat) (l : Launch) (a : Nat) (d : DV) (f : Nat) (hf0 : f < 5) : Mt g B0 l yX5_takeReservedFor cX5_takeReservedFor 3 none rm_X5_takeReservedFor [.ref (a + 3), .int (nI f)] (iv a 21) (dk g a d) none (dk g a (trv d f 6)) 0 0 := by
  refine Mt_of RX5 (by decide) rfl [(0, .ref (a + 3)), (1, .int (nI f))] rfl (Nat.le_of_ble_eq_true rfl) ?_
  intro pr e s m args below meth c C hr hin hd
  refine y_iconst C (0) dX5_takeReservedFor_0 (by decide) ?_
  refine y_istore_n C dX5_takeReservedFor_1 rfl (by decide) rfl ?_
  suffices K : ∀ rem n : Nat, n + rem = 6 → ∀ D : DV, D = trv d f n → ∀ H : Heap, dk g a D H → Yx (iv a 21) pr l e rm_X5_takeReservedFor s m args below meth c 3 0 0 (MQ below (Qx none (dk g a (trv d f 6)) (iv a 21)) args s 0 0 (iv a 21)) [(2, .int (nI n)), (0, .ref (a + 3)), (1, .int (nI f))] H 2 [] from K (6) 0 (Nat.zero_add _) d rfl _ hd
  intro rem
  induction rem with
  | zero =>
    intro n hn D hs H hd
    obtain rfl : n = 6 := by omega
    refine y_iload_n C 0 dX5_takeReservedFor_2 rfl rfl ?_
    refine y_bipush C (6) dX5_takeReservedFor_3 (by decide) ?_
    refine y_icmp_ge C 42 dX5_takeReservedFor_5 (by decide) (fun _ => ?_) (fun h => absurd (ge_t rfl rfl (Nat.le_refl 6) (by decide)) h)
    exact y_vret C hr (hs ▸ hd) dX5_takeReservedFor_42
  | succ rem ih =>
    intro n hn D hs H hd
    have hlt : n < 6 := by omega
    refine y_iload_n C 0 dX5_takeReservedFor_2 rfl rfl ?_
    refine y_bipush C (6) dX5_takeReservedFor_3 (by decide) ?_
    refine y_icmp_ge C 42 dX5_takeReservedFor_5 (by decide) (fun h => absurd h (ge_f rfl rfl hlt (by decide))) (fun _ => ?_)
    refine y_aload_n C 1 dX5_takeReservedFor_8 rfl rfl ?_
    refine y_get5 C (dk_3 hd) 2 (by decide) q55 rfl rfl dX5_takeReservedFor_9 ?_
    refine y_iload_n C 0 dX5_takeReservedFor_12 rfl rfl ?_
    refine y_dup2 C dX5_takeReservedFor_13 rfl rfl ?_
    refine y_iald C (dk_6 hd) n rfl hlt (by decide) dX5_takeReservedFor_14 ?_
    refine y_iload_n C 2 dX5_takeReservedFor_15 rfl rfl ?_
    refine y_iload_n C 0 dX5_takeReservedFor_16 rfl rfl ?_
    refine y_callS C [.int (nI f), .int (nI n)] (c_X5_needOf g B0 l f n hf0 hlt) 2 (wSin q208 q209 q39 q210) hs_X5_needOf ⟨(Nat.le_of_ble_eq_true rfl), (Nat.le_of_ble_eq_true rfl)⟩ ⟨rfl, rfl⟩ trivial nF.no rfl rfl (Nat.le_of_ble_eq_true rfl) dX5_takeReservedFor_17 ⟨(Nat.le_of_ble_eq_true rfl), (Nat.le_of_ble_eq_true rfl)⟩ rfl (fun H hp hz hf => ?_)
    have hd := hd.fr hf (fun _ _ z => z)
    refine y_isub C dX5_takeReservedFor_20 ?_
    refine y_iast C (dk_6 hd) (ivm 6 (by decide)) n rfl hlt (by decide) dX5_takeReservedFor_21 (fun H hw1 ow1 zw1 => ?_)
    have hd := dk_set6 hd hw1 ow1
    refine y_aload_n C 1 dX5_takeReservedFor_22 rfl rfl ?_
    refine y_get5 C (dk_3 hd) 3 (by decide) q56 rfl rfl dX5_takeReservedFor_23 ?_
    refine y_iload_n C 0 dX5_takeReservedFor_26 rfl rfl ?_
    refine y_dup2 C dX5_takeReservedFor_27 rfl rfl ?_
    refine y_iald C (dk_7 hd) n rfl hlt (by decide) dX5_takeReservedFor_28 ?_
    refine y_iload_n C 2 dX5_takeReservedFor_29 rfl rfl ?_
    refine y_iload_n C 0 dX5_takeReservedFor_30 rfl rfl ?_
    refine y_callS C [.int (nI f), .int (nI n)] (c_X5_needOf g B0 l f n hf0 hlt) 2 (wSin q208 q209 q39 q210) hs_X5_needOf ⟨(Nat.le_of_ble_eq_true rfl), (Nat.le_of_ble_eq_true rfl)⟩ ⟨rfl, rfl⟩ trivial nF.no rfl rfl (Nat.le_of_ble_eq_true rfl) dX5_takeReservedFor_31 ⟨(Nat.le_of_ble_eq_true rfl), (Nat.le_of_ble_eq_true rfl)⟩ rfl (fun H hp hz hf => ?_)
    have hd := hd.fr hf (fun _ _ z => z)
    refine y_isub C dX5_takeReservedFor_34 ?_
    refine y_iast C (dk_7 hd) (ivm 7 (by decide)) n rfl hlt (by decide) dX5_takeReservedFor_35 (fun H hw1 ow1 zw1 => ?_)
    have hd := dk_set7 hd hw1 ow1
    refine y_iinc C 0 (nI (n + 1)) dX5_takeReservedFor_36 rfl (nI_succ _).symm (by decide) rfl ?_
    refine y_goto C 2 dX5_takeReservedFor_39 (by decide) ?_
    exact ih (n + 1) (by omega) _ (by rw [trv, ← hs] <;> rfl) H hd
def rm_X5_addOrder : Room := { frames := 0, cells := 0, slots := 0, locals := 0 }
set_option maxRecDepth 100000 in
set_option maxHeartbeats 4000000 in
theorem c_X5_addOrder (g : KG) (B0 : Nat) (l : Launch) (a : Nat) (d : DV) (p many comes : Int32) (hsf : sf d) (hno : no d < 12) : Mt g B0 l yX5_addOrder cX5_addOrder 4 none rm_X5_addOrder [.ref (a + 3), .int p, .int many, .int comes] (iv a 21) (dk g a d) none (dk g a (ado d p many comes)) 0 0 := by
  refine Mt_of RX5 (by decide) rfl [(0, .ref (a + 3)), (1, .int p), (2, .int many), (3, .int comes)] rfl (Nat.le_of_ble_eq_true rfl) ?_
  intro pr e s m args below meth c C hr hin hd
  refine y_aload_n C 0 dX5_addOrder_0 rfl rfl ?_
  refine y_get5 C (dk_3 hd) 4 (by decide) q57 rfl rfl dX5_addOrder_1 ?_
  refine y_bipush C (12) dX5_addOrder_4 (by decide) ?_
  refine y_icmp_lt C 10 dX5_addOrder_6 (by decide) (fun _ => ?_) (fun h => absurd (lt_t hsf.1.1 rfl hno (by decide)) h)
  refine y_aload_n C 0 dX5_addOrder_10 rfl rfl ?_
  refine y_get5 C (dk_3 hd) 5 (by decide) q58 rfl rfl dX5_addOrder_11 ?_
  refine y_aload_n C 0 dX5_addOrder_14 rfl rfl ?_
  refine y_get5 C (dk_3 hd) 4 (by decide) q57 rfl rfl dX5_addOrder_15 ?_
  refine y_iload_n C 1 dX5_addOrder_18 rfl rfl ?_
  refine y_iast C (dk_8 hd) (ivm 8 (by decide)) (no d) hsf.1.1 hno (by decide) dX5_addOrder_19 (fun H hw1 ow1 zw1 => ?_)
  have hd := dk_set8 hd hw1 ow1
  refine y_aload_n C 0 dX5_addOrder_20 rfl rfl ?_
  refine y_get5 C (dk_3 hd) 6 (by decide) q59 rfl rfl dX5_addOrder_21 ?_
  refine y_aload_n C 0 dX5_addOrder_24 rfl rfl ?_
  refine y_get5 C (dk_3 hd) 4 (by decide) q57 rfl rfl dX5_addOrder_25 ?_
  refine y_iload_n C 2 dX5_addOrder_28 rfl rfl ?_
  refine y_iast C (dk_9 hd) (ivm 9 (by decide)) (no d) hsf.1.1 hno (by decide) dX5_addOrder_29 (fun H hw1 ow1 zw1 => ?_)
  have hd := dk_set9 hd hw1 ow1
  refine y_aload_n C 0 dX5_addOrder_30 rfl rfl ?_
  refine y_get5 C (dk_3 hd) 7 (by decide) q60 rfl rfl dX5_addOrder_31 ?_
  refine y_aload_n C 0 dX5_addOrder_34 rfl rfl ?_
  refine y_get5 C (dk_3 hd) 4 (by decide) q57 rfl rfl dX5_addOrder_35 ?_
  refine y_iload_n C 3 dX5_addOrder_38 rfl rfl ?_
  refine y_iast C (dk_10 hd) (ivm 10 (by decide)) (no d) hsf.1.1 hno (by decide) dX5_addOrder_39 (fun H hw1 ow1 zw1 => ?_)
  have hd := dk_set10 hd hw1 ow1
  refine y_aload_n C 0 dX5_addOrder_40 rfl rfl ?_
  refine y_dup C dX5_addOrder_41 rfl ?_
  refine y_get5 C (dk_3 hd) 4 (by decide) q57 rfl rfl dX5_addOrder_42 ?_
  refine y_iconst C (1) dX5_addOrder_45 (by decide) ?_
  refine y_iadd C dX5_addOrder_46 ?_
  refine y_put5 C (dk_3 hd) (ivm 3 (by decide)) 4 (by decide) q57 rfl rfl (ty := .int) (by decide +kernel) rfl rfl (Nat.le_of_ble_eq_true rfl) dX5_addOrder_47 (fun H hw1 ow1 zw1 => ?_)
  have hd := dk_put3_4 hd hw1 ow1
  exact y_vret C hr hd dX5_addOrder_50
theorem dof_le (d : DV) (day : Int32) (n : Nat) : (dof d day n).2 ≤ n := by
  induction n with
  | zero => exact Nat.le_refl 0
  | succ n ih => rw [dof]; split <;> first | omega | (dsimp only; omega)
theorem dof_ne (d : DV) (day : Int32) (i : Nat) (h8 : i ≠ 8) (h9 : i ≠ 9) (h10 : i ≠ 10) (n : Nat) : (dof d day n).1.1 i = d.1 i := by
  induction n with
  | zero => rfl
  | succ n ih =>
    rw [dof]
    split
    · exact ih
    · simp only [dset, h8, h9, h10, if_false]; exact ih
def rm_X5_dropOrdersOf : Room := { frames := 0, cells := 0, slots := 0, locals := 0 }
set_option maxRecDepth 100000 in
set_option maxHeartbeats 4000000 in
theorem c_X5_dropOrdersOf (g : KG) (B0 : Nat) (l : Launch) (a : Nat) (d : DV) (day : Int32) (hsf : sf d) : Mt g B0 l yX5_dropOrdersOf cX5_dropOrdersOf 4 none rm_X5_dropOrdersOf [.ref (a + 3), .int day] (iv a 21) (dk g a d) none (dk g a (dofd d day)) 0 0 := by
  refine Mt_of RX5 (by decide) rfl [(0, .ref (a + 3)), (1, .int day)] rfl (Nat.le_of_ble_eq_true rfl) ?_
  intro pr e s m args below meth c C hr hin hd
  refine y_iconst C (0) dX5_dropOrdersOf_0 (by decide) ?_
  refine y_istore_n C dX5_dropOrdersOf_1 rfl (by decide) rfl ?_
  refine y_iconst C (0) dX5_dropOrdersOf_2 (by decide) ?_
  refine y_istore_n C dX5_dropOrdersOf_3 rfl (by decide) rfl ?_
  suffices K : ∀ rem n : Nat, n + rem = no d → ∀ (D : DV) (L : Nat), (D, L) = dof d day n → ∀ H : Heap, dk g a D H → Yx (iv a 21) pr l e rm_X5_dropOrdersOf s m args below meth c 4 0 0 (MQ below (Qx none (dk g a (dofd d day)) (iv a 21)) args s 0 0 (iv a 21)) [(3, .int (nI n)), (2, .int (nI L)), (0, .ref (a + 3)), (1, .int day)] H 4 [] from K (no d) 0 (Nat.zero_add _) d 0 rfl _ hd
  intro rem
  induction rem with
  | zero =>
    intro n hn D L hs H hd
    have h3 : D.1 3 0 = nI (no d) := by have h := dof_ne d day 3 (by decide) (by decide) (by decide) n; rw [← hs] at h; rw [← hsf.1.1]; exact congrFun h 0
    obtain rfl : n = no d := by omega
    refine y_iload_n C 0 dX5_dropOrdersOf_4 rfl rfl ?_
    refine y_aload_n C 2 dX5_dropOrdersOf_5 rfl rfl ?_
    refine y_get5 C (dk_3 hd) 4 (by decide) q57 rfl rfl dX5_dropOrdersOf_6 ?_
    refine y_icmp_ge C 67 dX5_dropOrdersOf_9 (by decide) (fun _ => ?_) (fun h => absurd (ge_t rfl h3 (Nat.le_refl _) (by have := hsf.1.2; omega)) h)
    refine y_aload_n C 2 dX5_dropOrdersOf_67 rfl rfl ?_
    refine y_iload_n C 1 dX5_dropOrdersOf_68 rfl rfl ?_
    refine y_put5 C (dk_3 hd) (ivm 3 (by decide)) 4 (by decide) q57 rfl rfl (ty := .int) (by decide +kernel) rfl rfl (Nat.le_of_ble_eq_true rfl) dX5_dropOrdersOf_69 (fun H hw1 ow1 zw1 => ?_)
    have hd := dk_put3_4 hd hw1 ow1
    exact y_vret C hr (by rw [dofd, ← hs]; exact hd) dX5_dropOrdersOf_72
  | succ rem ih =>
    intro n hn D L hs H hd
    have hlt : n < no d := by omega
    have h3 : D.1 3 0 = nI (no d) := by have h := dof_ne d day 3 (by decide) (by decide) (by decide) n; rw [← hs] at h; rw [← hsf.1.1]; exact congrFun h 0
    have hL : L ≤ n := by have h := dof_le d day n; rw [← hs] at h; exact h
    refine y_iload_n C 0 dX5_dropOrdersOf_4 rfl rfl ?_
    refine y_aload_n C 2 dX5_dropOrdersOf_5 rfl rfl ?_
    refine y_get5 C (dk_3 hd) 4 (by decide) q57 rfl rfl dX5_dropOrdersOf_6 ?_
    refine y_icmp_ge C 67 dX5_dropOrdersOf_9 (by decide) (fun h => absurd h (ge_f rfl h3 hlt (by have := hsf.1.2; omega))) (fun _ => ?_)
    refine y_aload_n C 2 dX5_dropOrdersOf_12 rfl rfl ?_
    refine y_get5 C (dk_3 hd) 7 (by decide) q60 rfl rfl dX5_dropOrdersOf_13 ?_
    refine y_iload_n C 0 dX5_dropOrdersOf_16 rfl rfl ?_
    refine y_iald C (dk_10 hd) n rfl (by have := hsf.1.2; omega) (by decide) dX5_dropOrdersOf_17 ?_
    refine y_iload_n C 3 dX5_dropOrdersOf_18 rfl rfl ?_
    refine y_icmp_eq C 61 dX5_dropOrdersOf_19 (by decide) (fun h1 => ?_) (fun h1 => ?_)
    · refine y_iinc C 0 (nI (n + 1)) dX5_dropOrdersOf_61 rfl (nI_succ _).symm (by decide) rfl ?_
      refine y_goto C 4 dX5_dropOrdersOf_64 (by decide) ?_
      exact ih (n + 1) (by omega) _ _ (by rw [dof, ← hs]; dsimp only; rw [if_pos h1]) H hd
    · refine y_aload_n C 2 dX5_dropOrdersOf_22 rfl rfl ?_
      refine y_get5 C (dk_3 hd) 5 (by decide) q58 rfl rfl dX5_dropOrdersOf_23 ?_
      refine y_iload_n C 1 dX5_dropOrdersOf_26 rfl rfl ?_
      refine y_aload_n C 2 dX5_dropOrdersOf_27 rfl rfl ?_
      refine y_get5 C (dk_3 hd) 5 (by decide) q58 rfl rfl dX5_dropOrdersOf_28 ?_
      refine y_iload_n C 0 dX5_dropOrdersOf_31 rfl rfl ?_
      refine y_iald C (dk_8 hd) n rfl (by have := hsf.1.2; omega) (by decide) dX5_dropOrdersOf_32 ?_
      refine y_iast C (dk_8 hd) (ivm 8 (by decide)) L rfl (by have := hsf.1.2; omega) (by decide) dX5_dropOrdersOf_33 (fun H hw1 ow1 zw1 => ?_)
      have hd := dk_set8 hd hw1 ow1
      refine y_aload_n C 2 dX5_dropOrdersOf_34 rfl rfl ?_
      refine y_get5 C (dk_3 hd) 6 (by decide) q59 rfl rfl dX5_dropOrdersOf_35 ?_
      refine y_iload_n C 1 dX5_dropOrdersOf_38 rfl rfl ?_
      refine y_aload_n C 2 dX5_dropOrdersOf_39 rfl rfl ?_
      refine y_get5 C (dk_3 hd) 6 (by decide) q59 rfl rfl dX5_dropOrdersOf_40 ?_
      refine y_iload_n C 0 dX5_dropOrdersOf_43 rfl rfl ?_
      refine y_iald C (dk_9 hd) n rfl (by have := hsf.1.2; omega) (by decide) dX5_dropOrdersOf_44 ?_
      refine y_iast C (dk_9 hd) (ivm 9 (by decide)) L rfl (by have := hsf.1.2; omega) (by decide) dX5_dropOrdersOf_45 (fun H hw1 ow1 zw1 => ?_)
      have hd := dk_set9 hd hw1 ow1
      refine y_aload_n C 2 dX5_dropOrdersOf_46 rfl rfl ?_
      refine y_get5 C (dk_3 hd) 7 (by decide) q60 rfl rfl dX5_dropOrdersOf_47 ?_
      refine y_iload_n C 1 dX5_dropOrdersOf_50 rfl rfl ?_
      refine y_aload_n C 2 dX5_dropOrdersOf_51 rfl rfl ?_
      refine y_get5 C (dk_3 hd) 7 (by decide) q60 rfl rfl dX5_dropOrdersOf_52 ?_
      refine y_iload_n C 0 dX5_dropOrdersOf_55 rfl rfl ?_
      refine y_iald C (dk_10 hd) n rfl (by have := hsf.1.2; omega) (by decide) dX5_dropOrdersOf_56 ?_
      refine y_iast C (dk_10 hd) (ivm 10 (by decide)) L rfl (by have := hsf.1.2; omega) (by decide) dX5_dropOrdersOf_57 (fun H hw1 ow1 zw1 => ?_)
      have hd := dk_set10 hd hw1 ow1
      refine y_iinc C 1 (nI (L + 1)) dX5_dropOrdersOf_58 rfl (nI_succ _).symm (by decide) rfl ?_
      refine y_iinc C 1 (nI (n + 1)) dX5_dropOrdersOf_61 rfl (nI_succ _).symm (by decide) rfl ?_
      refine y_goto C 4 dX5_dropOrdersOf_64 (by decide) ?_
      exact ih (n + 1) (by omega) _ _ (by rw [dof, ← hs]; dsimp only; rw [if_neg h1] <;> rfl) H hd
