set_option maxRecDepth 20000 in
theorem az_t0 : ∀ q ∈ k_X0_init, az_iok az_ms (az_o 0) yX0_init.name cX0_init q := az_tc_ok az_pool_ok az_mok_all.1 0 true (fun _ => rfl) (by decide +kernel)
set_option maxRecDepth 20000 in
theorem az_t1 : ∀ q ∈ k_X0_limit, az_iok az_ms (az_o 0) yX0_limit.name cX0_limit q := az_tc_ok az_pool_ok az_mok_all.1 0 false (fun h => by cases h) (by decide +kernel)
set_option maxRecDepth 20000 in
theorem az_t2 : ∀ q ∈ k_X0_covers, az_iok az_ms (az_o 0) yX0_covers.name cX0_covers q := az_tc_ok az_pool_ok az_mok_all.1 0 false (fun h => by cases h) (by decide +kernel)
set_option maxRecDepth 20000 in
theorem az_t3 : ∀ q ∈ k_X0_holdsOn, az_iok az_ms (az_o 0) yX0_holdsOn.name cX0_holdsOn q := az_tc_ok az_pool_ok az_mok_all.1 0 false (fun h => by cases h) (by decide +kernel)
set_option maxRecDepth 20000 in
theorem az_t4 : ∀ q ∈ k_X1_init, az_iok az_ms (az_o 1) yX1_init.name cX1_init q := az_tc_ok az_pool_ok az_mok_all.1 1 true (fun _ => rfl) (by decide +kernel)
set_option maxRecDepth 20000 in
theorem az_t5 : ∀ q ∈ k_X1_has, az_iok az_ms (az_o 1) yX1_has.name cX1_has q := az_tc_ok az_pool_ok az_mok_all.1 1 false (fun h => by cases h) (by decide +kernel)
set_option maxRecDepth 20000 in
theorem az_t6 : ∀ q ∈ k_X1_columnOf, az_iok az_ms (az_o 1) yX1_columnOf.name cX1_columnOf q := az_tc_ok az_pool_ok az_mok_all.1 1 false (fun h => by cases h) (by decide +kernel)
set_option maxRecDepth 20000 in
theorem az_t7 : ∀ q ∈ k_X1_rowOf, az_iok az_ms (az_o 1) yX1_rowOf.name cX1_rowOf q := az_tc_ok az_pool_ok az_mok_all.1 1 false (fun h => by cases h) (by decide +kernel)
set_option maxRecDepth 20000 in
theorem az_t8 : ∀ q ∈ k_X1_cellAt, az_iok az_ms (az_o 1) yX1_cellAt.name cX1_cellAt q := az_tc_ok az_pool_ok az_mok_all.1 1 false (fun h => by cases h) (by decide +kernel)
set_option maxRecDepth 20000 in
theorem az_t9 : ∀ q ∈ k_X1_stepsBetween, az_iok az_ms (az_o 1) yX1_stepsBetween.name cX1_stepsBetween q := az_tc_ok az_pool_ok az_mok_all.1 1 false (fun h => by cases h) (by decide +kernel)
set_option maxRecDepth 20000 in
theorem az_t10 : ∀ q ∈ k_X2_init, az_iok az_ms (az_o 2) yX2_init.name cX2_init q := az_tc_ok az_pool_ok az_mok_all.1 2 true (fun _ => rfl) (by decide +kernel)
set_option maxRecDepth 20000 in
theorem az_t11 : ∀ q ∈ k_X2_parseInto, az_iok az_ms (az_o 2) yX2_parseInto.name cX2_parseInto q := az_tc_ok az_pool_ok az_mok_all.1 2 false (fun h => by cases h) (by decide +kernel)
set_option maxRecDepth 20000 in
theorem az_t12 : ∀ q ∈ k_X2_fail, az_iok az_ms (az_o 2) yX2_fail.name cX2_fail q := az_tc_ok az_pool_ok az_mok_all.1 2 false (fun h => by cases h) (by decide +kernel)
set_option maxRecDepth 20000 in
theorem az_t13 : ∀ q ∈ k_X2_advance, az_iok az_ms (az_o 2) yX2_advance.name cX2_advance q := az_tc_ok az_pool_ok az_mok_all.1 2 false (fun h => by cases h) (by decide +kernel)
set_option maxRecDepth 20000 in
theorem az_t14 : ∀ q ∈ k_X2_pass, az_iok az_ms (az_o 2) yX2_pass.name cX2_pass q := az_tc_ok az_pool_ok az_mok_all.1 2 false (fun h => by cases h) (by decide +kernel)
set_option maxRecDepth 20000 in
theorem az_t15 : ∀ q ∈ k_X2_open, az_iok az_ms (az_o 2) yX2_open.name cX2_open q := az_tc_ok az_pool_ok az_mok_all.1 2 false (fun h => by cases h) (by decide +kernel)
set_option maxRecDepth 20000 in
theorem az_t16 : ∀ q ∈ k_X2_rule, az_iok az_ms (az_o 2) yX2_rule.name cX2_rule q := az_tc_ok az_pool_ok az_mok_all.1 2 false (fun h => by cases h) (by decide +kernel)
set_option maxRecDepth 20000 in
theorem az_t17 : ∀ q ∈ k_X2_either, az_iok az_ms (az_o 2) yX2_either.name cX2_either q := az_tc_ok az_pool_ok az_mok_all.1 2 false (fun h => by cases h) (by decide +kernel)
set_option maxRecDepth 20000 in
theorem az_t18 : ∀ q ∈ k_X2_both, az_iok az_ms (az_o 2) yX2_both.name cX2_both q := az_tc_ok az_pool_ok az_mok_all.1 2 false (fun h => by cases h) (by decide +kernel)
set_option maxRecDepth 20000 in
theorem az_t19 : ∀ q ∈ k_X2_ask, az_iok az_ms (az_o 2) yX2_ask.name cX2_ask q := az_tc_ok az_pool_ok az_mok_all.1 2 false (fun h => by cases h) (by decide +kernel)
set_option maxRecDepth 20000 in
theorem az_t20 : ∀ q ∈ k_X2_sum, az_iok az_ms (az_o 2) yX2_sum.name cX2_sum q := az_tc_ok az_pool_ok az_mok_all.1 2 false (fun h => by cases h) (by decide +kernel)
set_option maxRecDepth 20000 in
theorem az_t21 : ∀ q ∈ k_X2_product, az_iok az_ms (az_o 2) yX2_product.name cX2_product q := az_tc_ok az_pool_ok az_mok_all.1 2 false (fun h => by cases h) (by decide +kernel)
set_option maxRecDepth 20000 in
theorem az_t22 : ∀ q ∈ k_X2_one, az_iok az_ms (az_o 2) yX2_one.name cX2_one q := az_tc_ok az_pool_ok az_mok_all.1 2 false (fun h => by cases h) (by decide +kernel)
set_option maxRecDepth 20000 in
theorem az_t23 : ∀ q ∈ k_X2_value, az_iok az_ms (az_o 2) yX2_value.name cX2_value q := az_tc_ok az_pool_ok az_mok_all.1 2 false (fun h => by cases h) (by decide +kernel)
set_option maxRecDepth 20000 in
theorem az_t24 : ∀ q ∈ k_X3_init, az_iok az_ms (az_o 3) yX3_init.name cX3_init q := az_tc_ok az_pool_ok az_mok_all.1 3 true (fun _ => rfl) (by decide +kernel)
set_option maxRecDepth 20000 in
theorem az_t25 : ∀ q ∈ k_X3_wasDead, az_iok az_ms (az_o 3) yX3_wasDead.name cX3_wasDead q := az_tc_ok az_pool_ok az_mok_all.1 3 false (fun h => by cases h) (by decide +kernel)
set_option maxRecDepth 20000 in
theorem az_t26 : ∀ q ∈ k_X4_init, az_iok az_ms (az_o 4) yX4_init.name cX4_init q := az_tc_ok az_pool_ok az_mok_all.1 4 true (fun _ => rfl) (by decide +kernel)
set_option maxRecDepth 20000 in
theorem az_t27 : ∀ q ∈ k_X4_startFromBehind, az_iok az_ms (az_o 4) yX4_startFromBehind.name cX4_startFromBehind q := az_tc_ok az_pool_ok az_mok_all.1 4 false (fun h => by cases h) (by decide +kernel)
set_option maxRecDepth 20000 in
theorem az_t28 : ∀ q ∈ k_X4_goBackAnHour, az_iok az_ms (az_o 4) yX4_goBackAnHour.name cX4_goBackAnHour q := az_tc_ok az_pool_ok az_mok_all.1 4 false (fun h => by cases h) (by decide +kernel)
set_option maxRecDepth 20000 in
theorem az_t29 : ∀ q ∈ k_X4_leadsOn, az_iok az_ms (az_o 4) yX4_leadsOn.name cX4_leadsOn q := az_tc_ok az_pool_ok az_mok_all.1 4 false (fun h => by cases h) (by decide +kernel)
set_option maxRecDepth 20000 in
theorem az_t30 : ∀ q ∈ k_X4_bestNext, az_iok az_ms (az_o 4) yX4_bestNext.name cX4_bestNext q := az_tc_ok az_pool_ok az_mok_all.1 4 false (fun h => by cases h) (by decide +kernel)
set_option maxRecDepth 20000 in
theorem az_t31 : ∀ q ∈ k_X4_isBetter, az_iok az_ms (az_o 4) yX4_isBetter.name cX4_isBetter q := az_tc_ok az_pool_ok az_mok_all.1 4 false (fun h => by cases h) (by decide +kernel)
set_option maxRecDepth 20000 in
theorem az_t32 : ∀ q ∈ k_X4_lead, az_iok az_ms (az_o 4) yX4_lead.name cX4_lead q := az_tc_ok az_pool_ok az_mok_all.1 4 false (fun h => by cases h) (by decide +kernel)
set_option maxRecDepth 20000 in
theorem az_t33 : ∀ q ∈ k_X4_follow, az_iok az_ms (az_o 4) yX4_follow.name cX4_follow q := az_tc_ok az_pool_ok az_mok_all.1 4 false (fun h => by cases h) (by decide +kernel)
set_option maxRecDepth 20000 in
theorem az_t34 : ∀ q ∈ k_X4_charges, az_iok az_ms (az_o 4) yX4_charges.name cX4_charges q := az_tc_ok az_pool_ok az_mok_all.1 4 false (fun h => by cases h) (by decide +kernel)
set_option maxRecDepth 20000 in
theorem az_t35 : ∀ q ∈ k_X4_cellOfPath, az_iok az_ms (az_o 4) yX4_cellOfPath.name cX4_cellOfPath q := az_tc_ok az_pool_ok az_mok_all.1 4 false (fun h => by cases h) (by decide +kernel)
set_option maxRecDepth 20000 in
theorem az_t36 : ∀ q ∈ k_X5_init, az_iok az_ms (az_o 5) yX5_init.name cX5_init q := az_tc_ok az_pool_ok az_mok_all.1 5 true (fun _ => rfl) (by decide +kernel)
set_option maxRecDepth 20000 in
theorem az_t37 : ∀ q ∈ k_X5_lookAt, az_iok az_ms (az_o 5) yX5_lookAt.name cX5_lookAt q := az_tc_ok az_pool_ok az_mok_all.1 5 false (fun h => by cases h) (by decide +kernel)
set_option maxRecDepth 20000 in
theorem az_t38 : ∀ q ∈ k_X5_turnTo, az_iok az_ms (az_o 5) yX5_turnTo.name cX5_turnTo q := az_tc_ok az_pool_ok az_mok_all.1 5 false (fun h => by cases h) (by decide +kernel)
set_option maxRecDepth 20000 in
theorem az_t39 : ∀ q ∈ k_X5_castShadow, az_iok az_ms (az_o 5) yX5_castShadow.name cX5_castShadow q := az_tc_ok az_pool_ok az_mok_all.1 5 false (fun h => by cases h) (by decide +kernel)
set_option maxRecDepth 20000 in
theorem az_t40 : ∀ q ∈ k_X5_heightOf, az_iok az_ms (az_o 5) yX5_heightOf.name cX5_heightOf q := az_tc_ok az_pool_ok az_mok_all.1 5 false (fun h => by cases h) (by decide +kernel)
set_option maxRecDepth 20000 in
theorem az_t41 : ∀ q ∈ k_X5_isOpen, az_iok az_ms (az_o 5) yX5_isOpen.name cX5_isOpen q := az_tc_ok az_pool_ok az_mok_all.1 5 false (fun h => by cases h) (by decide +kernel)
set_option maxRecDepth 20000 in
theorem az_t42 : ∀ q ∈ k_X5_shadersOf, az_iok az_ms (az_o 5) yX5_shadersOf.name cX5_shadersOf q := az_tc_ok az_pool_ok az_mok_all.1 5 false (fun h => by cases h) (by decide +kernel)
set_option maxRecDepth 20000 in
theorem az_t43 : ∀ q ∈ k_X5_partsOf, az_iok az_ms (az_o 5) yX5_partsOf.name cX5_partsOf q := az_tc_ok az_pool_ok az_mok_all.1 5 false (fun h => by cases h) (by decide +kernel)
set_option maxRecDepth 20000 in
theorem az_t44 : ∀ q ∈ k_X5_partsOfAll, az_iok az_ms (az_o 5) yX5_partsOfAll.name cX5_partsOfAll q := az_tc_ok az_pool_ok az_mok_all.1 5 false (fun h => by cases h) (by decide +kernel)
set_option maxRecDepth 20000 in
theorem az_t45 : ∀ q ∈ k_X5_cellsShadedBy, az_iok az_ms (az_o 5) yX5_cellsShadedBy.name cX5_cellsShadedBy q := az_tc_ok az_pool_ok az_mok_all.1 5 false (fun h => by cases h) (by decide +kernel)
set_option maxRecDepth 20000 in
theorem az_t46 : ∀ q ∈ k_X6_init, az_iok az_ms (az_o 6) yX6_init.name cX6_init q := az_tc_ok az_pool_ok az_mok_all.1 6 true (fun _ => rfl) (by decide +kernel)
