/-! LadderBenchModel.sum -/
def rm_X10_sum : Room := { frames := 2, cells := 0, slots := 0, locals := 55 }
set_option maxRecDepth 20000 in
theorem ggX10_sum_X10_becomes : GoodIn wsX10_sum wsX10_becomes := goodIn_r _ [8, 9, 10, 1, 2, 3, 4, 11, 12, 13, 14, 15, 16, 17, 18, 19, 20, 21, 22, 23, 24, 25, 26, 27, 28, 29, 30, 31, 32, 33, 34, 35, 36] (by decide +kernel) (by decide +kernel)
set_option maxRecDepth 20000 in
theorem gX10_sum_X10_becomes : GoodIn wsX10_sum (wsV RX10 172 RX10 yX10_becomes wsX10_becomes) := goodIn_app (goodIn_of _ (by decide +kernel)) ggX10_sum_X10_becomes
set_option maxRecDepth 20000 in
theorem ggX10_sum_X10_divisor : GoodIn wsX10_sum wsX10_divisor := goodIn_r _ [4] (by decide +kernel) (by decide +kernel)
set_option maxRecDepth 20000 in
theorem gX10_sum_X10_divisor : GoodIn wsX10_sum (va_wsS RX10 161 yX10_divisor wsX10_divisor) := goodIn_app (goodIn_of _ (by decide +kernel)) ggX10_sum_X10_divisor
theorem hy_X10_sum : yX10_sum.cls = RX10 ∧ yX10_sum.cls ≠ "java/lang/invoke/MethodHandle" ∧ yX10_sum.cls ≠ "java/lang/invoke/VarHandle" ∧ (parseMethodDescriptor yX10_sum.desc).map (fun d => d.parameters.length) = some 4 := by decide +kernel
set_option maxRecDepth 100000 in
theorem D_X10_sum : gDec cX10_sum [(0, (.lload_n 3, 1)), (1, (.lload 7, 2)), (3, (.invokestatic 161, 3)), (6, (.lstore 9, 2)), (8, (.aload_n 0, 1)), (9, (.lload_n 1, 1)), (10, (.lload 7, 2)), (12, (.lload 9, 2)), (14, (.ldiv, 1)), (15, (.lmul, 1)), (16, (.lload 5, 2)), (18, (.lload_n 3, 1)), (19, (.lload 9, 2)), (21, (.ldiv, 1)), (22, (.lmul, 1)), (23, (.ladd, 1)), (24, (.lload_n 3, 1)), (25, (.lload 9, 2)), (27, (.ldiv, 1)), (28, (.lload 7, 2)), (30, (.lmul, 1)), (31, (.invokevirtual 172, 3)), (34, (.return_, 1))] = true := by decide +kernel
def f_X10_sum (a0 : Nat) (l1 : Int64) (l3 : Int64) (l5 : Int64) (l7 : Int64) (h : gHp) : Option (gHp) := (f_X10_divisor l3 l7 h).bind fun v2 => if v2 = 0 then none else if v2 = 0 then none else if v2 = 0 then none else (f_X10_becomes a0 ((l1 * (l7 / v2)) + (l5 * (l3 / v2))) ((l3 / v2) * l7) h).bind fun v7 => some v7
set_option maxRecDepth 20000 in
set_option maxHeartbeats 4000000 in
theorem m_X10_sum (w : gWd) (h : gHp) {a0 : Nat} (A0 : is_X10 w a0) (l1 : Int64) (l3 : Int64) (l5 : Int64) (l7 : Int64) {o : gHp} (hF : f_X10_sum a0 l1 l3 l5 l7 h = some o) : gMet w yX10_sum wsX10_sum rm_X10_sum [.ref a0, .long l1, .long l3, .long l5, .long l7] h (none) o := by
  refine gMet_of (cc := cX10_sum) (maxL := 11) (ret := none) (fr := 2) (lo := 55) (own := RX10) [(0, .ref a0), (1, .long l1), (3, .long l3), (5, .long l5), (7, .long l7)] (by decide) rfl rfl (Nat.le_of_ble_eq_true rfl) rfl (Nat.le_refl _) (Nat.le_refl _) (fun g C E => ?_)
  rw [f_X10_sum] at hF
  refine gx_lload_n C 2 (gDec_at D_X10_sum 0 rfl) rfl rfl ?_
  refine gx_lload C 4 (gDec_at D_X10_sum 1 rfl) rfl ?_
  obtain ⟨v2, hv1, hF⟩ := gBind hF
  refine gx_callS1 C (st := []) 2 [.long l3, .long l7] (m_X10_divisor w h l3 l7 hv1) gX10_sum_X10_divisor rfl rfl rfl hy_X10_divisor (Nat.le_of_ble_eq_true rfl) (Nat.le_of_ble_eq_true rfl) rfl rfl (Nat.le_of_ble_eq_true rfl) (gDec_at D_X10_sum 2 rfl) ?_
  refine gx_lstore C (lv' := [(9, .long v2), (0, .ref a0), (1, .long l1), (3, .long l3), (5, .long l5), (7, .long l7)]) (gDec_at D_X10_sum 3 rfl) (Nat.le_of_ble_eq_true rfl) rfl ?_
  refine gx_aload_n C 1 (gDec_at D_X10_sum 4 rfl) rfl rfl ?_
  refine gx_lload_n C 2 (gDec_at D_X10_sum 5 rfl) rfl rfl ?_
  refine gx_lload C 5 (gDec_at D_X10_sum 6 rfl) rfl ?_
  refine gx_lload C 0 (gDec_at D_X10_sum 7 rfl) rfl ?_
  obtain ⟨z3, hF⟩ := gGn hF
  refine gx_ldiv C (gDec_at D_X10_sum 8 rfl) z3 ?_
  refine gx_lmul C (gDec_at D_X10_sum 9 rfl) ?_
  refine gx_lload C 4 (gDec_at D_X10_sum 10 rfl) rfl ?_
  refine gx_lload_n C 3 (gDec_at D_X10_sum 11 rfl) rfl rfl ?_
  refine gx_lload C 0 (gDec_at D_X10_sum 12 rfl) rfl ?_
  obtain ⟨z4, hF⟩ := gGn hF
  refine gx_ldiv C (gDec_at D_X10_sum 13 rfl) z4 ?_
  refine gx_lmul C (gDec_at D_X10_sum 14 rfl) ?_
  refine gx_ladd C (gDec_at D_X10_sum 15 rfl) ?_
  refine gx_lload_n C 3 (gDec_at D_X10_sum 16 rfl) rfl rfl ?_
  refine gx_lload C 0 (gDec_at D_X10_sum 17 rfl) rfl ?_
  obtain ⟨z5, hF⟩ := gGn hF
  refine gx_ldiv C (gDec_at D_X10_sum 18 rfl) z5 ?_
  refine gx_lload C 5 (gDec_at D_X10_sum 19 rfl) rfl ?_
  refine gx_lmul C (gDec_at D_X10_sum 20 rfl) ?_
  obtain ⟨v7, hv6, hF⟩ := gBind hF
  refine gx_callV0 C (st := []) 2 [.long ((l1 * (l7 / v2)) + (l5 * (l3 / v2))), .long ((l3 / v2) * l7)] (m_X10_becomes w h A0 ((l1 * (l7 / v2)) + (l5 * (l3 / v2))) ((l3 / v2) * l7) hv6) gX10_sum_X10_becomes rfl rfl rfl hy_X10_becomes (Nat.le_of_ble_eq_true rfl) (Nat.le_of_ble_eq_true rfl) (is_X10_sh A0) rfl rfl rfl (Nat.le_of_ble_eq_true rfl) (gDec_at D_X10_sum 21 rfl) ?_
  obtain rfl := Option.some.inj hF
  exact gx_vret C E (gDec_at D_X10_sum 22 rfl)
/-! LadderBenchModel.product -/
def rm_X10_product : Room := { frames := 2, cells := 0, slots := 0, locals := 55 }
set_option maxRecDepth 20000 in
theorem ggX10_product_X10_becomes : GoodIn wsX10_product wsX10_becomes := goodIn_r _ [8, 9, 10, 1, 2, 3, 4, 11, 12, 13, 14, 15, 16, 17, 18, 19, 20, 21, 22, 23, 24, 25, 26, 27, 28, 29, 30, 31, 32, 33, 34, 35, 36] (by decide +kernel) (by decide +kernel)
set_option maxRecDepth 20000 in
theorem gX10_product_X10_becomes : GoodIn wsX10_product (wsV RX10 172 RX10 yX10_becomes wsX10_becomes) := goodIn_app (goodIn_of _ (by decide +kernel)) ggX10_product_X10_becomes
set_option maxRecDepth 20000 in
theorem ggX10_product_X10_divisor : GoodIn wsX10_product wsX10_divisor := goodIn_r _ [4] (by decide +kernel) (by decide +kernel)
set_option maxRecDepth 20000 in
theorem gX10_product_X10_divisor : GoodIn wsX10_product (va_wsS RX10 161 yX10_divisor wsX10_divisor) := goodIn_app (goodIn_of _ (by decide +kernel)) ggX10_product_X10_divisor
theorem hy_X10_product : yX10_product.cls = RX10 ∧ yX10_product.cls ≠ "java/lang/invoke/MethodHandle" ∧ yX10_product.cls ≠ "java/lang/invoke/VarHandle" ∧ (parseMethodDescriptor yX10_product.desc).map (fun d => d.parameters.length) = some 4 := by decide +kernel
set_option maxRecDepth 100000 in
theorem D_X10_product : gDec cX10_product [(0, (.lload_n 1, 1)), (1, (.lload 7, 2)), (3, (.invokestatic 161, 3)), (6, (.lstore 9, 2)), (8, (.lload 5, 2)), (10, (.lload_n 3, 1)), (11, (.invokestatic 161, 3)), (14, (.lstore 11, 2)), (16, (.aload_n 0, 1)), (17, (.lload_n 1, 1)), (18, (.lload 9, 2)), (20, (.ldiv, 1)), (21, (.lload 5, 2)), (23, (.lload 11, 2)), (25, (.ldiv, 1)), (26, (.lmul, 1)), (27, (.lload_n 3, 1)), (28, (.lload 11, 2)), (30, (.ldiv, 1)), (31, (.lload 7, 2)), (33, (.lload 9, 2)), (35, (.ldiv, 1)), (36, (.lmul, 1)), (37, (.invokevirtual 172, 3)), (40, (.return_, 1))] = true := by decide +kernel
def f_X10_product (a0 : Nat) (l1 : Int64) (l3 : Int64) (l5 : Int64) (l7 : Int64) (h : gHp) : Option (gHp) := (f_X10_divisor l1 l7 h).bind fun v2 => (f_X10_divisor l5 l3 h).bind fun v4 => if v2 = 0 then none else if v4 = 0 then none else if v4 = 0 then none else if v2 = 0 then none else (f_X10_becomes a0 ((l1 / v2) * (l5 / v4)) ((l3 / v4) * (l7 / v2)) h).bind fun v10 => some v10
set_option maxRecDepth 20000 in
set_option maxHeartbeats 4000000 in
theorem m_X10_product (w : gWd) (h : gHp) {a0 : Nat} (A0 : is_X10 w a0) (l1 : Int64) (l3 : Int64) (l5 : Int64) (l7 : Int64) {o : gHp} (hF : f_X10_product a0 l1 l3 l5 l7 h = some o) : gMet w yX10_product wsX10_product rm_X10_product [.ref a0, .long l1, .long l3, .long l5, .long l7] h (none) o := by
  refine gMet_of (cc := cX10_product) (maxL := 13) (ret := none) (fr := 2) (lo := 55) (own := RX10) [(0, .ref a0), (1, .long l1), (3, .long l3), (5, .long l5), (7, .long l7)] (by decide) rfl rfl (Nat.le_of_ble_eq_true rfl) rfl (Nat.le_refl _) (Nat.le_refl _) (fun g C E => ?_)
  rw [f_X10_product] at hF
  refine gx_lload_n C 1 (gDec_at D_X10_product 0 rfl) rfl rfl ?_
  refine gx_lload C 4 (gDec_at D_X10_product 1 rfl) rfl ?_
  obtain ⟨v2, hv1, hF⟩ := gBind hF
  refine gx_callS1 C (st := []) 2 [.long l1, .long l7] (m_X10_divisor w h l1 l7 hv1) gX10_product_X10_divisor rfl rfl rfl hy_X10_divisor (Nat.le_of_ble_eq_true rfl) (Nat.le_of_ble_eq_true rfl) rfl rfl (Nat.le_of_ble_eq_true rfl) (gDec_at D_X10_product 2 rfl) ?_
  refine gx_lstore C (lv' := [(9, .long v2), (0, .ref a0), (1, .long l1), (3, .long l3), (5, .long l5), (7, .long l7)]) (gDec_at D_X10_product 3 rfl) (Nat.le_of_ble_eq_true rfl) rfl ?_
  refine gx_lload C 4 (gDec_at D_X10_product 4 rfl) rfl ?_
  refine gx_lload_n C 3 (gDec_at D_X10_product 5 rfl) rfl rfl ?_
  obtain ⟨v4, hv3, hF⟩ := gBind hF
  refine gx_callS1 C (st := []) 2 [.long l5, .long l3] (m_X10_divisor w h l5 l3 hv3) gX10_product_X10_divisor rfl rfl rfl hy_X10_divisor (Nat.le_of_ble_eq_true rfl) (Nat.le_of_ble_eq_true rfl) rfl rfl (Nat.le_of_ble_eq_true rfl) (gDec_at D_X10_product 6 rfl) ?_
  refine gx_lstore C (lv' := [(11, .long v4), (9, .long v2), (0, .ref a0), (1, .long l1), (3, .long l3), (5, .long l5), (7, .long l7)]) (gDec_at D_X10_product 7 rfl) (Nat.le_of_ble_eq_true rfl) rfl ?_
  refine gx_aload_n C 2 (gDec_at D_X10_product 8 rfl) rfl rfl ?_
  refine gx_lload_n C 3 (gDec_at D_X10_product 9 rfl) rfl rfl ?_
  refine gx_lload C 1 (gDec_at D_X10_product 10 rfl) rfl ?_
  obtain ⟨z5, hF⟩ := gGn hF
  refine gx_ldiv C (gDec_at D_X10_product 11 rfl) z5 ?_
  refine gx_lload C 5 (gDec_at D_X10_product 12 rfl) rfl ?_
  refine gx_lload C 0 (gDec_at D_X10_product 13 rfl) rfl ?_
  obtain ⟨z6, hF⟩ := gGn hF
  refine gx_ldiv C (gDec_at D_X10_product 14 rfl) z6 ?_
  refine gx_lmul C (gDec_at D_X10_product 15 rfl) ?_
  refine gx_lload_n C 4 (gDec_at D_X10_product 16 rfl) rfl rfl ?_
  refine gx_lload C 0 (gDec_at D_X10_product 17 rfl) rfl ?_
  obtain ⟨z7, hF⟩ := gGn hF
  refine gx_ldiv C (gDec_at D_X10_product 18 rfl) z7 ?_
  refine gx_lload C 6 (gDec_at D_X10_product 19 rfl) rfl ?_
  refine gx_lload C 1 (gDec_at D_X10_product 20 rfl) rfl ?_
  obtain ⟨z8, hF⟩ := gGn hF
  refine gx_ldiv C (gDec_at D_X10_product 21 rfl) z8 ?_
  refine gx_lmul C (gDec_at D_X10_product 22 rfl) ?_
  obtain ⟨v10, hv9, hF⟩ := gBind hF
  refine gx_callV0 C (st := []) 2 [.long ((l1 / v2) * (l5 / v4)), .long ((l3 / v4) * (l7 / v2))] (m_X10_becomes w h A0 ((l1 / v2) * (l5 / v4)) ((l3 / v4) * (l7 / v2)) hv9) gX10_product_X10_becomes rfl rfl rfl hy_X10_becomes (Nat.le_of_ble_eq_true rfl) (Nat.le_of_ble_eq_true rfl) (is_X10_sh A0) rfl rfl rfl (Nat.le_of_ble_eq_true rfl) (gDec_at D_X10_product 23 rfl) ?_
  obtain rfl := Option.some.inj hF
  exact gx_vret C E (gDec_at D_X10_product 24 rfl)
/-! LadderBenchModel.layArm -/
def rm_X10_layArm : Room := { frames := 1, cells := 0, slots := 0, locals := 22 }
set_option maxRecDepth 20000 in
theorem ggX10_layArm_X10_ofArm : GoodIn wsX10_layArm wsX10_ofArm := goodIn_r _ [12, 8, 13, 14, 15, 16, 17, 18, 19, 20, 21, 22, 23, 24, 25, 26, 27, 28, 29, 30, 31, 32, 33, 34, 35, 36, 37, 38] (by decide +kernel) (by decide +kernel)
set_option maxRecDepth 20000 in
theorem gX10_layArm_X10_ofArm : GoodIn wsX10_layArm (wsV RX10 64 RX10 yX10_ofArm wsX10_ofArm) := goodIn_app (goodIn_of _ (by decide +kernel)) ggX10_layArm_X10_ofArm
set_option maxRecDepth 20000 in
theorem ggX10_layArm_X10_ofPart : GoodIn wsX10_layArm wsX10_ofPart := goodIn_r _ [7, 8, 13, 14, 15, 16, 17, 18, 19, 20, 21, 22, 23, 24, 25, 26, 27, 28, 29, 30, 31, 32, 33, 34, 35, 36, 37, 38] (by decide +kernel) (by decide +kernel)
set_option maxRecDepth 20000 in
theorem gX10_layArm_X10_ofPart : GoodIn wsX10_layArm (wsV RX10 130 RX10 yX10_ofPart wsX10_ofPart) := goodIn_app (goodIn_of _ (by decide +kernel)) ggX10_layArm_X10_ofPart
theorem hy_X10_layArm : yX10_layArm.cls = RX10 ∧ yX10_layArm.cls ≠ "java/lang/invoke/MethodHandle" ∧ yX10_layArm.cls ≠ "java/lang/invoke/VarHandle" ∧ (parseMethodDescriptor yX10_layArm.desc).map (fun d => d.parameters.length) = some 3 := by decide +kernel
set_option maxRecDepth 100000 in
theorem D_X10_layArm : gDec cX10_layArm [(0, (.aload_n 0, 1)), (1, (.iload_n 1, 1)), (2, (.iconst 2, 1)), (3, (.invokevirtual 130, 3)), (6, (.istore 4, 2)), (8, (.iload 4, 2)), (10, (.iload_n 2, 1)), (11, (.if_icmp .ne 7, 3)), (14, (.iload_n 3, 1)), (15, (.goto 10, 3)), (18, (.aload_n 0, 1)), (19, (.iload 4, 2)), (21, (.iconst 1, 1)), (22, (.invokevirtual 64, 3)), (25, (.istore 5, 2)), (27, (.aload_n 0, 1)), (28, (.getfield 36, 3)), (31, (.iload_n 1, 1)), (32, (.iload 5, 2)), (34, (.ifCond .ne 14, 3)), (37, (.aload_n 0, 1)), (38, (.iload 4, 2)), (40, (.iconst 0, 1)), (41, (.invokevirtual 64, 3)), (44, (.i2l, 1)), (45, (.goto 14, 3)), (48, (.iload 5, 2)), (50, (.iconst 1, 1)), (51, (.if_icmp .ne 7, 3)), (54, (.lconst 1, 1)), (55, (.goto 4, 3)), (58, (.lconst 0, 1)), (59, (.lastore, 1)), (60, (.aload_n 0, 1)), (61, (.getfield 39, 3)), (64, (.iload_n 1, 1)), (65, (.iload 5, 2)), (67, (.iconst 1, 1)), (68, (.if_icmp .ne 7, 3)), (71, (.lconst 0, 1)), (72, (.goto 4, 3)), (75, (.lconst 1, 1)), (76, (.lastore, 1)), (77, (.return_, 1))] = true := by decide +kernel
set_option maxRecDepth 100000 in
theorem in_X10_layArm_X10 : ∀ x ∈ u_ws RX10 TX10 26, x ∈ wsX10_layArm := by decide +kernel
theorem fl_X10_layArm_36 : gF wsX10_layArm RX10 36 10 19 := ⟨RX10, TX10, 26, rfl, by decide, in_X10_layArm_X10, by decide +kernel⟩
theorem fl_X10_layArm_39 : gF wsX10_layArm RX10 39 10 20 := ⟨RX10, TX10, 26, rfl, by decide, in_X10_layArm_X10, by decide +kernel⟩
def f_X10_layArm (a0 : Nat) (x1 : Int32) (x2 : Int32) (x3 : Int32) (h : gHp) : Option (gHp) := (f_X10_ofPart a0 x1 2 h).bind fun v2 => (if v2 = x2 then some x3 else (f_X10_ofArm a0 v2 1 h).bind fun v15 => some v15 : Option (Int32)).bind fun v3 => (if v3 = 0 then (f_X10_ofArm a0 v2 0 h).bind fun v13 => some v13.toInt64 else if v3 = 1 then some 1 else some 0 : Option (Int64)).bind fun v6 => if gIn x1 11 then if v3 = 1 then if gIn x1 11 then some (gsL (gsL h (a0 + 9) (gN x1) v6) (a0 + 10) (gN x1) 0) else none else if gIn x1 11 then some (gsL (gsL h (a0 + 9) (gN x1) v6) (a0 + 10) (gN x1) 1) else none else none
set_option maxRecDepth 20000 in
set_option maxHeartbeats 4000000 in
theorem m_X10_layArm (w : gWd) (h : gHp) {a0 : Nat} (A0 : is_X10 w a0) (x1 : Int32) (x2 : Int32) (x3 : Int32) {o : gHp} (hF : f_X10_layArm a0 x1 x2 x3 h = some o) : gMet w yX10_layArm wsX10_layArm rm_X10_layArm [.ref a0, .int x1, .int x2, .int x3] h (none) o := by
  refine gMet_of (cc := cX10_layArm) (maxL := 6) (ret := none) (fr := 1) (lo := 22) (own := RX10) [(0, .ref a0), (1, .int x1), (2, .int x2), (3, .int x3)] (by decide) rfl rfl (Nat.le_of_ble_eq_true rfl) rfl (Nat.le_refl _) (Nat.le_refl _) (fun g C E => ?_)
  rw [f_X10_layArm] at hF
  refine gx_aload_n C 0 (gDec_at D_X10_layArm 0 rfl) rfl rfl ?_
  refine gx_iload_n C 1 (gDec_at D_X10_layArm 1 rfl) rfl rfl ?_
  refine gx_iconst C (v := 2) (gDec_at D_X10_layArm 2 rfl) (by decide) ?_
  obtain ⟨v2, hv1, hF⟩ := gBind hF
  refine gx_callV1 C (st := []) 2 [.int x1, .int 2] (m_X10_ofPart w h A0 x1 2 hv1) gX10_layArm_X10_ofPart rfl rfl rfl hy_X10_ofPart (Nat.le_of_ble_eq_true rfl) (Nat.le_of_ble_eq_true rfl) (is_X10_sh A0) rfl rfl rfl (Nat.le_of_ble_eq_true rfl) (gDec_at D_X10_layArm 3 rfl) ?_
  refine gx_istore C (lv' := [(4, .int v2), (0, .ref a0), (1, .int x1), (2, .int x2), (3, .int x3)]) (gDec_at D_X10_layArm 4 rfl) (Nat.le_of_ble_eq_true rfl) rfl ?_
  refine gx_iload C 0 (gDec_at D_X10_layArm 5 rfl) rfl ?_
  refine gx_iload_n C 3 (gDec_at D_X10_layArm 6 rfl) rfl rfl ?_
  obtain ⟨v3, hv4, hF⟩ := gBind hF
  have k5 : gX w g 6 h 25 [(0, .ref a0), (1, .int x1), (4, .int v2)] (.int v3 :: []) := by
    refine gx_istore C (lv' := [(5, .int v3), (0, .ref a0), (1, .int x1), (4, .int v2)]) (gDec_at D_X10_layArm 14 rfl) (Nat.le_of_ble_eq_true rfl) rfl ?_
    refine gx_aload_n C 1 (gDec_at D_X10_layArm 15 rfl) rfl rfl ?_
    refine gx_getr C fl_X10_layArm_36 (is_X10_sh A0) rfl (gDec_at D_X10_layArm 16 rfl) ?_
    refine gx_iload_n C 2 (gDec_at D_X10_layArm 17 rfl) rfl rfl ?_
    refine gx_iload C 0 (gDec_at D_X10_layArm 18 rfl) rfl ?_
    obtain ⟨v6, hv7, hF⟩ := gBind hF
    have k8 : gX w g 6 h 59 [(0, .ref a0), (1, .int x1), (5, .int v3)] (.long v6 :: .int x1 :: .ref (a0 + 9) :: []) := by
      obtain ⟨b9, hF⟩ := gGd hF
      refine gx_lastore C (is_X10_upper A0) b9 (gDec_at D_X10_layArm 32 rfl) ?_
      refine gx_aload_n C 0 (gDec_at D_X10_layArm 33 rfl) rfl rfl ?_
      refine gx_getr C fl_X10_layArm_39 (is_X10_sh A0) rfl (gDec_at D_X10_layArm 34 rfl) ?_
      refine gx_iload_n C 1 (gDec_at D_X10_layArm 35 rfl) rfl rfl ?_
      refine gx_iload C 2 (gDec_at D_X10_layArm 36 rfl) rfl ?_
      refine gx_iconst C (v := 1) (gDec_at D_X10_layArm 37 rfl) (by decide) ?_
      refine gx_icmp_ne C 75 (gDec_at D_X10_layArm 38 rfl) (by decide) (fun c => ?_) (fun c => ?_)
      · replace hF := gNeg c hF
        refine gx_lconst C (v := 1) (gDec_at D_X10_layArm 41 rfl) (by decide) ?_
        obtain ⟨b10, hF⟩ := gGd hF
        refine gx_lastore C (is_X10_lower A0) b10 (gDec_at D_X10_layArm 42 rfl) ?_
        obtain rfl := Option.some.inj hF
        exact gx_vret C E (gDec_at D_X10_layArm 43 rfl)
      · replace hF := gPos c hF
        refine gx_lconst C (v := 0) (gDec_at D_X10_layArm 39 rfl) (by decide) ?_
        refine gx_goto C 76 (gDec_at D_X10_layArm 40 rfl) (by decide) ?_
        obtain ⟨b11, hF⟩ := gGd hF
        refine gx_lastore C (is_X10_lower A0) b11 (gDec_at D_X10_layArm 42 rfl) ?_
        obtain rfl := Option.some.inj hF
        exact gx_vret C E (gDec_at D_X10_layArm 43 rfl)
    replace hF := hv7
    refine gx_if_ne C 48 (gDec_at D_X10_layArm 19 rfl) (by decide) (fun c => ?_) (fun c => ?_)
    · replace hF := gNeg c hF
      refine gx_iload C 0 (gDec_at D_X10_layArm 26 rfl) rfl ?_
      refine gx_iconst C (v := 1) (gDec_at D_X10_layArm 27 rfl) (by decide) ?_
      refine gx_icmp_ne C 58 (gDec_at D_X10_layArm 28 rfl) (by decide) (fun c => ?_) (fun c => ?_)
      · replace hF := gNeg c hF
        refine gx_lconst C (v := 0) (gDec_at D_X10_layArm 31 rfl) (by decide) ?_
        obtain rfl := Option.some.inj hF
        exact gx_sub [1, 2, 0] rfl k8
      · replace hF := gPos c hF
        refine gx_lconst C (v := 1) (gDec_at D_X10_layArm 29 rfl) (by decide) ?_
        refine gx_goto C 59 (gDec_at D_X10_layArm 30 rfl) (by decide) ?_
        obtain rfl := Option.some.inj hF
        exact gx_sub [1, 2, 0] rfl k8
    · replace hF := gPos c hF
      refine gx_aload_n C 1 (gDec_at D_X10_layArm 20 rfl) rfl rfl ?_
      refine gx_iload C 3 (gDec_at D_X10_layArm 21 rfl) rfl ?_
      refine gx_iconst C (v := 0) (gDec_at D_X10_layArm 22 rfl) (by decide) ?_
      obtain ⟨v13, hv12, hF⟩ := gBind hF
      refine gx_callV1 C (st := .int x1 :: .ref (a0 + 9) :: []) 2 [.int v2, .int 0] (m_X10_ofArm w h A0 v2 0 hv12) gX10_layArm_X10_ofArm rfl rfl rfl hy_X10_ofArm (Nat.le_of_ble_eq_true rfl) (Nat.le_of_ble_eq_true rfl) (is_X10_sh A0) rfl rfl rfl (Nat.le_of_ble_eq_true rfl) (gDec_at D_X10_layArm 23 rfl) ?_
      refine gx_i2l C (gDec_at D_X10_layArm 24 rfl) ?_
      refine gx_goto C 59 (gDec_at D_X10_layArm 25 rfl) (by decide) ?_
      obtain rfl := Option.some.inj hF
      exact gx_sub [1, 2, 0] rfl k8
  replace hF := hv4
  refine gx_icmp_ne C 18 (gDec_at D_X10_layArm 7 rfl) (by decide) (fun c => ?_) (fun c => ?_)
  · replace hF := gNeg c hF
    refine gx_aload_n C 1 (gDec_at D_X10_layArm 10 rfl) rfl rfl ?_
    refine gx_iload C 0 (gDec_at D_X10_layArm 11 rfl) rfl ?_
    refine gx_iconst C (v := 1) (gDec_at D_X10_layArm 12 rfl) (by decide) ?_
    obtain ⟨v15, hv14, hF⟩ := gBind hF
    refine gx_callV1 C (st := []) 2 [.int v2, .int 1] (m_X10_ofArm w h A0 v2 1 hv14) gX10_layArm_X10_ofArm rfl rfl rfl hy_X10_ofArm (Nat.le_of_ble_eq_true rfl) (Nat.le_of_ble_eq_true rfl) (is_X10_sh A0) rfl rfl rfl (Nat.le_of_ble_eq_true rfl) (gDec_at D_X10_layArm 13 rfl) ?_
    obtain rfl := Option.some.inj hF
    exact gx_sub [1, 2, 0] rfl k5
  · replace hF := gPos c hF
    refine gx_iload_n C 4 (gDec_at D_X10_layArm 8 rfl) rfl rfl ?_
    refine gx_goto C 25 (gDec_at D_X10_layArm 9 rfl) (by decide) ?_
    obtain rfl := Option.some.inj hF
    exact gx_sub [1, 2, 0] rfl k5
/-! LadderBenchModel.laySeries -/
def rm_X10_laySeries : Room := { frames := 3, cells := 0, slots := 0, locals := 85 }
set_option maxRecDepth 20000 in
theorem ggX10_laySeries_X10_ofPart : GoodIn wsX10_laySeries wsX10_ofPart := goodIn_r _ [9, 10, 22, 23, 24, 25, 26, 27, 28, 29, 30, 31, 32, 33, 34, 35, 36, 37, 38, 39, 40, 41, 42, 43, 44, 45, 46, 47] (by decide +kernel) (by decide +kernel)
set_option maxRecDepth 20000 in
theorem gX10_laySeries_X10_ofPart : GoodIn wsX10_laySeries (wsV RX10 130 RX10 yX10_ofPart wsX10_ofPart) := goodIn_app (goodIn_of _ (by decide +kernel)) ggX10_laySeries_X10_ofPart
set_option maxRecDepth 20000 in
theorem ggX10_laySeries_X10_sum : GoodIn wsX10_laySeries wsX10_sum := goodIn_r _ [14, 15, 16, 8, 17, 18, 19, 20, 21, 3, 4, 22, 23, 24, 25, 26, 27, 28, 29, 30, 31, 32, 33, 34, 35, 36, 37, 38, 39, 40, 41, 42, 43, 44, 45, 46, 47] (by decide +kernel) (by decide +kernel)
set_option maxRecDepth 20000 in
theorem gX10_laySeries_X10_sum : GoodIn wsX10_laySeries (wsV RX10 176 RX10 yX10_sum wsX10_sum) := goodIn_app (goodIn_of _ (by decide +kernel)) ggX10_laySeries_X10_sum
theorem hy_X10_laySeries : yX10_laySeries.cls = RX10 ∧ yX10_laySeries.cls ≠ "java/lang/invoke/MethodHandle" ∧ yX10_laySeries.cls ≠ "java/lang/invoke/VarHandle" ∧ (parseMethodDescriptor yX10_laySeries.desc).map (fun d => d.parameters.length) = some 1 := by decide +kernel
set_option maxRecDepth 100000 in
theorem D_X10_laySeries : gDec cX10_laySeries [(0, (.lconst 0, 1)), (1, (.lstore_n 2, 1)), (2, (.lconst 1, 1)), (3, (.lstore 4, 2)), (5, (.iconst 0, 1)), (6, (.istore 6, 2)), (8, (.iload 6, 2)), (10, (.iload_n 1, 1)), (11, (.if_icmp .ge 82, 3)), (14, (.aload_n 0, 1)), (15, (.iload 6, 2)), (17, (.iconst 1, 1)), (18, (.invokevirtual 130, 3)), (21, (.iload_n 1, 1)), (22, (.if_icmp .ne 65, 3)), (25, (.lload 4, 2)), (27, (.lconst 0, 1)), (28, (.lcmp, 1)), (29, (.ifCond .ne 6, 3)), (32, (.goto 55, 3)), (35, (.aload_n 0, 1)), (36, (.getfield 39, 3)), (39, (.iload 6, 2)), (41, (.laload, 1)), (42, (.lconst 0, 1)), (43, (.lcmp, 1)), (44, (.ifCond .ne 11, 3)), (47, (.lconst 1, 1)), (48, (.lstore_n 2, 1)), (49, (.lconst 0, 1)), (50, (.lstore 4, 2)), (52, (.goto 35, 3)), (55, (.aload_n 0, 1)), (56, (.lload_n 2, 1)), (57, (.lload 4, 2)), (59, (.aload_n 0, 1)), (60, (.getfield 36, 3)), (63, (.iload 6, 2)), (65, (.laload, 1)), (66, (.aload_n 0, 1)), (67, (.getfield 39, 3)), (70, (.iload 6, 2)), (72, (.laload, 1)), (73, (.invokevirtual 176, 3)), (76, (.aload_n 0, 1)), (77, (.getfield 165, 3)), (80, (.lstore_n 2, 1)), (81, (.aload_n 0, 1)), (82, (.getfield 169, 3)), (85, (.lstore 4, 2)), (87, (.iinc 6 1, 3)), (90, (.goto (-82), 3)), (93, (.aload_n 0, 1)), (94, (.getfield 36, 3)), (97, (.iload_n 1, 1)), (98, (.lload_n 2, 1)), (99, (.lastore, 1)), (100, (.aload_n 0, 1)), (101, (.getfield 39, 3)), (104, (.iload_n 1, 1)), (105, (.lload 4, 2)), (107, (.lastore, 1)), (108, (.return_, 1))] = true := by decide +kernel
set_option maxRecDepth 100000 in
theorem in_X10_laySeries_X10 : ∀ x ∈ u_ws RX10 TX10 26, x ∈ wsX10_laySeries := by decide +kernel
theorem fl_X10_laySeries_39 : gF wsX10_laySeries RX10 39 10 20 := ⟨RX10, TX10, 26, rfl, by decide, in_X10_laySeries_X10, by decide +kernel⟩
theorem fl_X10_laySeries_36 : gF wsX10_laySeries RX10 36 10 19 := ⟨RX10, TX10, 26, rfl, by decide, in_X10_laySeries_X10, by decide +kernel⟩
theorem fl_X10_laySeries_165 : gF wsX10_laySeries RX10 165 10 17 := ⟨RX10, TX10, 26, rfl, by decide, in_X10_laySeries_X10, by decide +kernel⟩
theorem fl_X10_laySeries_169 : gF wsX10_laySeries RX10 169 10 18 := ⟨RX10, TX10, 26, rfl, by decide, in_X10_laySeries_X10, by decide +kernel⟩
def f_X10_laySeries_8 (a0 : Nat) (x1 : Int32) : Nat → Int64 → Int64 → Int32 → gHp → Option (Int64 × Int64 × gHp)
  | 0, _, _, _, _ => none
  | n + 1, l2, l4, x6, h => if x1 ≤ x6 then some (l2, l4, h) else (f_X10_ofPart a0 x6 1 h).bind fun v2 => if v2 = x1 then if l4 = 0 then f_X10_laySeries_8 a0 x1 n l2 l4 (x6 + 1) h else if gIn x6 11 then if (h.2 (a0 + 10) (gN x6)) = 0 then f_X10_laySeries_8 a0 x1 n 1 0 (x6 + 1) h else if gIn x6 11 then if gIn x6 11 then (f_X10_sum a0 l2 l4 (h.2 (a0 + 9) (gN x6)) (h.2 (a0 + 10) (gN x6)) h).bind fun v7 => f_X10_laySeries_8 a0 x1 n (v7.2 a0 17) (v7.2 a0 18) (x6 + 1) v7 else none else none else none else f_X10_laySeries_8 a0 x1 n l2 l4 (x6 + 1) h
set_option maxRecDepth 20000 in
set_option maxHeartbeats 4000000 in
theorem w_X10_laySeries_8 {w : gWd} {g : gCx} (C : gC w g cX10_laySeries wsX10_laySeries RX10 7 3 85) {a0 : Nat} (A0 : is_X10 w a0) (x1 : Int32)  {o : Int64 × Int64 × gHp} (hk : gX w g 7 o.2.2 93 [(0, .ref a0), (1, .int x1), (2, .long o.1), (4, .long o.2.1)] []) : ∀ (n : Nat) (l2 : Int64) (l4 : Int64) (x6 : Int32) (h : gHp), f_X10_laySeries_8 a0 x1 n l2 l4 x6 h = some o → gX w g 7 h 8 [(0, .ref a0), (1, .int x1), (2, .long l2), (4, .long l4), (6, .int x6)] [] := by
  intro n
  induction n with
  | zero => intro _ _ _ _ hF; cases hF
  | succ n ih =>
    intro l2 l4 x6 h hF
    rw [f_X10_laySeries_8] at hF
    refine gx_iload C 4 (gDec_at D_X10_laySeries 6 rfl) rfl ?_
    refine gx_iload_n C 1 (gDec_at D_X10_laySeries 7 rfl) rfl rfl ?_
    refine gx_icmp_ge C 93 (gDec_at D_X10_laySeries 8 rfl) (by decide) (fun c => ?_) (fun c => ?_)
    · replace hF := gPos c hF
      obtain rfl := Option.some.inj hF
      exact gx_sub [0, 1, 2, 3] rfl hk
    · replace hF := gNeg c hF
      refine gx_aload_n C 0 (gDec_at D_X10_laySeries 9 rfl) rfl rfl ?_
      refine gx_iload C 4 (gDec_at D_X10_laySeries 10 rfl) rfl ?_
      refine gx_iconst C (v := 1) (gDec_at D_X10_laySeries 11 rfl) (by decide) ?_
      obtain ⟨v2, hv1, hF⟩ := gBind hF
      refine gx_callV1 C (st := []) 2 [.int x6, .int 1] (m_X10_ofPart w h A0 x6 1 hv1) gX10_laySeries_X10_ofPart rfl rfl rfl hy_X10_ofPart (Nat.le_of_ble_eq_true rfl) (Nat.le_of_ble_eq_true rfl) (is_X10_sh A0) rfl rfl rfl (Nat.le_of_ble_eq_true rfl) (gDec_at D_X10_laySeries 12 rfl) ?_
      refine gx_iload_n C 1 (gDec_at D_X10_laySeries 13 rfl) rfl rfl ?_
      refine gx_icmp_ne C 87 (gDec_at D_X10_laySeries 14 rfl) (by decide) (fun c => ?_) (fun c => ?_)
      · replace hF := gNeg c hF
        refine gx_iinc C (j := 4) (v := x6 + 1) (lv' := [(6, .int (x6 + 1)), (0, .ref a0), (1, .int x1), (2, .long l2), (4, .long l4)]) (gDec_at D_X10_laySeries 50 rfl) rfl (by rfl) (Nat.le_of_ble_eq_true rfl) rfl ?_
        refine gx_goto C 8 (gDec_at D_X10_laySeries 51 rfl) (by decide) ?_
        exact gx_sub [1, 2, 3, 4, 0] rfl (ih l2 l4 (x6 + 1) h hF)
      · replace hF := gPos c hF
        refine gx_lload C 3 (gDec_at D_X10_laySeries 15 rfl) rfl ?_
        refine gx_lconst C (v := 0) (gDec_at D_X10_laySeries 16 rfl) (by decide) ?_
        refine gx_lcmp_ne C 35 (gDec_at D_X10_laySeries 17 rfl) (gDec_at D_X10_laySeries 18 rfl) (by decide) (fun c => ?_) (fun c => ?_)
        · replace hF := gNeg c hF
          refine gx_aload_n C 0 (gDec_at D_X10_laySeries 20 rfl) rfl rfl ?_
          refine gx_getr C fl_X10_laySeries_39 (is_X10_sh A0) rfl (gDec_at D_X10_laySeries 21 rfl) ?_
          refine gx_iload C 4 (gDec_at D_X10_laySeries 22 rfl) rfl ?_
          obtain ⟨b3, hF⟩ := gGd hF
          refine gx_laload C (is_X10_lower A0) b3 (gDec_at D_X10_laySeries 23 rfl) ?_
          refine gx_lconst C (v := 0) (gDec_at D_X10_laySeries 24 rfl) (by decide) ?_
          refine gx_lcmp_ne C 55 (gDec_at D_X10_laySeries 25 rfl) (gDec_at D_X10_laySeries 26 rfl) (by decide) (fun c => ?_) (fun c => ?_)
          · replace hF := gNeg c hF
            refine gx_aload_n C 0 (gDec_at D_X10_laySeries 32 rfl) rfl rfl ?_
            refine gx_lload_n C 2 (gDec_at D_X10_laySeries 33 rfl) rfl rfl ?_
            refine gx_lload C 3 (gDec_at D_X10_laySeries 34 rfl) rfl ?_
            refine gx_aload_n C 0 (gDec_at D_X10_laySeries 35 rfl) rfl rfl ?_
            refine gx_getr C fl_X10_laySeries_36 (is_X10_sh A0) rfl (gDec_at D_X10_laySeries 36 rfl) ?_
            refine gx_iload C 4 (gDec_at D_X10_laySeries 37 rfl) rfl ?_
            obtain ⟨b4, hF⟩ := gGd hF
            refine gx_laload C (is_X10_upper A0) b4 (gDec_at D_X10_laySeries 38 rfl) ?_
            refine gx_aload_n C 0 (gDec_at D_X10_laySeries 39 rfl) rfl rfl ?_
            refine gx_getr C fl_X10_laySeries_39 (is_X10_sh A0) rfl (gDec_at D_X10_laySeries 40 rfl) ?_
            refine gx_iload C 4 (gDec_at D_X10_laySeries 41 rfl) rfl ?_
            obtain ⟨b5, hF⟩ := gGd hF
            refine gx_laload C (is_X10_lower A0) b5 (gDec_at D_X10_laySeries 42 rfl) ?_
            obtain ⟨v7, hv6, hF⟩ := gBind hF
            refine gx_callV0 C (st := []) 4 [.long l2, .long l4, .long (h.2 (a0 + 9) (gN x6)), .long (h.2 (a0 + 10) (gN x6))] (m_X10_sum w h A0 l2 l4 (h.2 (a0 + 9) (gN x6)) (h.2 (a0 + 10) (gN x6)) hv6) gX10_laySeries_X10_sum rfl rfl rfl hy_X10_sum (Nat.le_of_ble_eq_true rfl) (Nat.le_of_ble_eq_true rfl) (is_X10_sh A0) rfl rfl rfl (Nat.le_of_ble_eq_true rfl) (gDec_at D_X10_laySeries 43 rfl) ?_
            refine gx_aload_n C 0 (gDec_at D_X10_laySeries 44 rfl) rfl rfl ?_
            refine gx_getl C fl_X10_laySeries_165 (is_X10_sh A0) rfl (gDec_at D_X10_laySeries 45 rfl) ?_
            refine gx_lstore_n C (lv' := [(2, .long (v7.2 a0 17)), (0, .ref a0), (1, .int x1), (4, .long l4), (6, .int x6)]) (gDec_at D_X10_laySeries 46 rfl) rfl (Nat.le_of_ble_eq_true rfl) rfl ?_
            refine gx_aload_n C 1 (gDec_at D_X10_laySeries 47 rfl) rfl rfl ?_
            refine gx_getl C fl_X10_laySeries_169 (is_X10_sh A0) rfl (gDec_at D_X10_laySeries 48 rfl) ?_
            refine gx_lstore C (lv' := [(4, .long (v7.2 a0 18)), (2, .long (v7.2 a0 17)), (0, .ref a0), (1, .int x1), (6, .int x6)]) (gDec_at D_X10_laySeries 49 rfl) (Nat.le_of_ble_eq_true rfl) rfl ?_
            refine gx_iinc C (j := 4) (v := x6 + 1) (lv' := [(6, .int (x6 + 1)), (4, .long (v7.2 a0 18)), (2, .long (v7.2 a0 17)), (0, .ref a0), (1, .int x1)]) (gDec_at D_X10_laySeries 50 rfl) rfl (by rfl) (Nat.le_of_ble_eq_true rfl) rfl ?_
            refine gx_goto C 8 (gDec_at D_X10_laySeries 51 rfl) (by decide) ?_
            exact gx_sub [3, 4, 2, 1, 0] rfl (ih (v7.2 a0 17) (v7.2 a0 18) (x6 + 1) v7 hF)
          · replace hF := gPos c hF
            refine gx_lconst C (v := 1) (gDec_at D_X10_laySeries 27 rfl) (by decide) ?_
            refine gx_lstore_n C (lv' := [(2, .long 1), (0, .ref a0), (1, .int x1), (4, .long l4), (6, .int x6)]) (gDec_at D_X10_laySeries 28 rfl) rfl (Nat.le_of_ble_eq_true rfl) rfl ?_
            refine gx_lconst C (v := 0) (gDec_at D_X10_laySeries 29 rfl) (by decide) ?_
            refine gx_lstore C (lv' := [(4, .long 0), (2, .long 1), (0, .ref a0), (1, .int x1), (6, .int x6)]) (gDec_at D_X10_laySeries 30 rfl) (Nat.le_of_ble_eq_true rfl) rfl ?_
            refine gx_goto C 87 (gDec_at D_X10_laySeries 31 rfl) (by decide) ?_
            refine gx_iinc C (j := 4) (v := x6 + 1) (lv' := [(6, .int (x6 + 1)), (4, .long 0), (2, .long 1), (0, .ref a0), (1, .int x1)]) (gDec_at D_X10_laySeries 50 rfl) rfl (by rfl) (Nat.le_of_ble_eq_true rfl) rfl ?_
            refine gx_goto C 8 (gDec_at D_X10_laySeries 51 rfl) (by decide) ?_
            exact gx_sub [3, 4, 2, 1, 0] rfl (ih 1 0 (x6 + 1) h hF)
        · replace hF := gPos c hF
          refine gx_goto C 87 (gDec_at D_X10_laySeries 19 rfl) (by decide) ?_
          refine gx_iinc C (j := 4) (v := x6 + 1) (lv' := [(6, .int (x6 + 1)), (0, .ref a0), (1, .int x1), (2, .long l2), (4, .long l4)]) (gDec_at D_X10_laySeries 50 rfl) rfl (by rfl) (Nat.le_of_ble_eq_true rfl) rfl ?_
          refine gx_goto C 8 (gDec_at D_X10_laySeries 51 rfl) (by decide) ?_
          exact gx_sub [1, 2, 3, 4, 0] rfl (ih l2 l4 (x6 + 1) h hF)
def f_X10_laySeries (a0 : Nat) (x1 : Int32) (h : gHp) : Option (gHp) := (f_X10_laySeries_8 a0 x1 gFuel 0 1 0 h).bind fun v8 => if gIn x1 11 then if gIn x1 11 then some (gsL (gsL v8.2.2 (a0 + 9) (gN x1) v8.1) (a0 + 10) (gN x1) v8.2.1) else none else none
set_option maxRecDepth 20000 in
set_option maxHeartbeats 4000000 in
theorem m_X10_laySeries (w : gWd) (h : gHp) {a0 : Nat} (A0 : is_X10 w a0) (x1 : Int32) {o : gHp} (hF : f_X10_laySeries a0 x1 h = some o) : gMet w yX10_laySeries wsX10_laySeries rm_X10_laySeries [.ref a0, .int x1] h (none) o := by
  refine gMet_of (cc := cX10_laySeries) (maxL := 7) (ret := none) (fr := 3) (lo := 85) (own := RX10) [(0, .ref a0), (1, .int x1)] (by decide) rfl rfl (Nat.le_of_ble_eq_true rfl) rfl (Nat.le_refl _) (Nat.le_refl _) (fun g C E => ?_)
  rw [f_X10_laySeries] at hF
  refine gx_lconst C (v := 0) (gDec_at D_X10_laySeries 0 rfl) (by decide) ?_
  refine gx_lstore_n C (lv' := [(2, .long 0), (0, .ref a0), (1, .int x1)]) (gDec_at D_X10_laySeries 1 rfl) rfl (Nat.le_of_ble_eq_true rfl) rfl ?_
  refine gx_lconst C (v := 1) (gDec_at D_X10_laySeries 2 rfl) (by decide) ?_
  refine gx_lstore C (lv' := [(4, .long 1), (2, .long 0), (0, .ref a0), (1, .int x1)]) (gDec_at D_X10_laySeries 3 rfl) (Nat.le_of_ble_eq_true rfl) rfl ?_
  refine gx_iconst C (v := 0) (gDec_at D_X10_laySeries 4 rfl) (by decide) ?_
  refine gx_istore C (lv' := [(6, .int 0), (4, .long 1), (2, .long 0), (0, .ref a0), (1, .int x1)]) (gDec_at D_X10_laySeries 5 rfl) (Nat.le_of_ble_eq_true rfl) rfl ?_
  obtain ⟨v8, hv9, hF⟩ := gBind hF
  have k10 : gX w g 7 v8.2.2 93 [(0, .ref a0), (1, .int x1), (2, .long v8.1), (4, .long v8.2.1)] [] := by
    refine gx_aload_n C 0 (gDec_at D_X10_laySeries 52 rfl) rfl rfl ?_
    refine gx_getr C fl_X10_laySeries_36 (is_X10_sh A0) rfl (gDec_at D_X10_laySeries 53 rfl) ?_
    refine gx_iload_n C 1 (gDec_at D_X10_laySeries 54 rfl) rfl rfl ?_
    refine gx_lload_n C 2 (gDec_at D_X10_laySeries 55 rfl) rfl rfl ?_
    obtain ⟨b11, hF⟩ := gGd hF
    refine gx_lastore C (is_X10_upper A0) b11 (gDec_at D_X10_laySeries 56 rfl) ?_
    refine gx_aload_n C 0 (gDec_at D_X10_laySeries 57 rfl) rfl rfl ?_
    refine gx_getr C fl_X10_laySeries_39 (is_X10_sh A0) rfl (gDec_at D_X10_laySeries 58 rfl) ?_
    refine gx_iload_n C 1 (gDec_at D_X10_laySeries 59 rfl) rfl rfl ?_
    refine gx_lload C 3 (gDec_at D_X10_laySeries 60 rfl) rfl ?_
    obtain ⟨b12, hF⟩ := gGd hF
    refine gx_lastore C (is_X10_lower A0) b12 (gDec_at D_X10_laySeries 61 rfl) ?_
    obtain rfl := Option.some.inj hF
    exact gx_vret C E (gDec_at D_X10_laySeries 62 rfl)
  exact gx_sub [3, 4, 2, 1, 0] rfl (w_X10_laySeries_8 C A0 x1 k10 gFuel 0 1 0 h hv9)
/-! LadderBenchModel.lets -/
def rm_X10_lets : Room := { frames := 3, cells := 0, slots := 0, locals := 85 }
set_option maxRecDepth 20000 in
theorem ggX10_lets_X10_sum : GoodIn wsX10_lets wsX10_sum := goodIn_r _ [10, 11, 12, 9, 13, 14, 15, 16, 17, 4, 5, 18, 19, 20, 21, 22, 23, 24, 25, 26, 27, 28, 29, 30, 31, 32, 33, 34, 35, 36, 37, 38, 39, 40, 41, 42, 43] (by decide +kernel) (by decide +kernel)
set_option maxRecDepth 20000 in
theorem gX10_lets_X10_sum : GoodIn wsX10_lets (wsV RX10 176 RX10 yX10_sum wsX10_sum) := goodIn_app (goodIn_of _ (by decide +kernel)) ggX10_lets_X10_sum
theorem hy_X10_lets : yX10_lets.cls = RX10 ∧ yX10_lets.cls ≠ "java/lang/invoke/MethodHandle" ∧ yX10_lets.cls ≠ "java/lang/invoke/VarHandle" ∧ (parseMethodDescriptor yX10_lets.desc).map (fun d => d.parameters.length) = some 2 := by decide +kernel
set_option maxRecDepth 100000 in
theorem D_X10_lets : gDec cX10_lets [(0, (.lload_n 1, 1)), (1, (.lconst 0, 1)), (2, (.lcmp, 1)), (3, (.ifCond .ne 11, 3)), (6, (.aload_n 0, 1)), (7, (.iconst 1, 1)), (8, (.putfield 180, 3)), (11, (.goto 39, 3)), (14, (.lload_n 3, 1)), (15, (.lconst 0, 1)), (16, (.lcmp, 1)), (17, (.ifCond .le 33, 3)), (20, (.aload_n 0, 1)), (21, (.aload_n 0, 1)), (22, (.getfield 184, 3)), (25, (.aload_n 0, 1)), (26, (.getfield 187, 3)), (29, (.lload_n 3, 1)), (30, (.lload_n 1, 1)), (31, (.invokevirtual 176, 3)), (34, (.aload_n 0, 1)), (35, (.aload_n 0, 1)), (36, (.getfield 165, 3)), (39, (.putfield 184, 3)), (42, (.aload_n 0, 1)), (43, (.aload_n 0, 1)), (44, (.getfield 169, 3)), (47, (.putfield 187, 3)), (50, (.return_, 1))] = true := by decide +kernel
set_option maxRecDepth 100000 in
theorem in_X10_lets_X10 : ∀ x ∈ u_ws RX10 TX10 26, x ∈ wsX10_lets := by decide +kernel
theorem fl_X10_lets_184 : gF wsX10_lets RX10 184 10 21 := ⟨RX10, TX10, 26, rfl, by decide, in_X10_lets_X10, by decide +kernel⟩
theorem fl_X10_lets_187 : gF wsX10_lets RX10 187 10 22 := ⟨RX10, TX10, 26, rfl, by decide, in_X10_lets_X10, by decide +kernel⟩
theorem fl_X10_lets_165 : gF wsX10_lets RX10 165 10 17 := ⟨RX10, TX10, 26, rfl, by decide, in_X10_lets_X10, by decide +kernel⟩
theorem flw_X10_lets_184 : gFw wsX10_lets RX10 184 10 21 .long := ⟨RX10, TX10, 26, tyX10, rfl, by decide, in_X10_lets_X10, by decide +kernel, tyX10_ok, nmX10, rfl, by decide +kernel⟩
theorem fl_X10_lets_169 : gF wsX10_lets RX10 169 10 18 := ⟨RX10, TX10, 26, rfl, by decide, in_X10_lets_X10, by decide +kernel⟩
theorem flw_X10_lets_187 : gFw wsX10_lets RX10 187 10 22 .long := ⟨RX10, TX10, 26, tyX10, rfl, by decide, in_X10_lets_X10, by decide +kernel, tyX10_ok, nmX10, rfl, by decide +kernel⟩
theorem flw_X10_lets_180 : gFw wsX10_lets RX10 180 10 23 .boolean := ⟨RX10, TX10, 26, tyX10, rfl, by decide, in_X10_lets_X10, by decide +kernel, tyX10_ok, nmX10, rfl, by decide +kernel⟩
def f_X10_lets (a0 : Nat) (l1 : Int64) (l3 : Int64) (h : gHp) : Option (gHp) := if l1 = 0 then some (gsI h a0 23 1) else if l3 ≤ 0 then some h else (f_X10_sum a0 (h.2 a0 21) (h.2 a0 22) l3 l1 h).bind fun v2 => some (gsL (gsL v2 a0 21 (v2.2 a0 17)) a0 22 ((gsL v2 a0 21 (v2.2 a0 17)).2 a0 18))
set_option maxRecDepth 20000 in
set_option maxHeartbeats 4000000 in
theorem m_X10_lets (w : gWd) (h : gHp) {a0 : Nat} (A0 : is_X10 w a0) (l1 : Int64) (l3 : Int64) {o : gHp} (hF : f_X10_lets a0 l1 l3 h = some o) : gMet w yX10_lets wsX10_lets rm_X10_lets [.ref a0, .long l1, .long l3] h (none) o := by
  refine gMet_of (cc := cX10_lets) (maxL := 5) (ret := none) (fr := 3) (lo := 85) (own := RX10) [(0, .ref a0), (1, .long l1), (3, .long l3)] (by decide) rfl rfl (Nat.le_of_ble_eq_true rfl) rfl (Nat.le_refl _) (Nat.le_refl _) (fun g C E => ?_)
  rw [f_X10_lets] at hF
  refine gx_lload_n C 1 (gDec_at D_X10_lets 0 rfl) rfl rfl ?_
  refine gx_lconst C (v := 0) (gDec_at D_X10_lets 1 rfl) (by decide) ?_
  refine gx_lcmp_ne C 14 (gDec_at D_X10_lets 2 rfl) (gDec_at D_X10_lets 3 rfl) (by decide) (fun c => ?_) (fun c => ?_)
  · replace hF := gNeg c hF
    refine gx_lload_n C 2 (gDec_at D_X10_lets 8 rfl) rfl rfl ?_
    refine gx_lconst C (v := 0) (gDec_at D_X10_lets 9 rfl) (by decide) ?_
    refine gx_lcmp_le C 50 (gDec_at D_X10_lets 10 rfl) (gDec_at D_X10_lets 11 rfl) (by decide) (fun c => ?_) (fun c => ?_)
    · replace hF := gPos c hF
      obtain rfl := Option.some.inj hF
      exact gx_vret C E (gDec_at D_X10_lets 28 rfl)
    · replace hF := gNeg c hF
      refine gx_aload_n C 0 (gDec_at D_X10_lets 12 rfl) rfl rfl ?_
      refine gx_aload_n C 0 (gDec_at D_X10_lets 13 rfl) rfl rfl ?_
      refine gx_getl C fl_X10_lets_184 (is_X10_sh A0) rfl (gDec_at D_X10_lets 14 rfl) ?_
      refine gx_aload_n C 0 (gDec_at D_X10_lets 15 rfl) rfl rfl ?_
      refine gx_getl C fl_X10_lets_187 (is_X10_sh A0) rfl (gDec_at D_X10_lets 16 rfl) ?_
      refine gx_lload_n C 2 (gDec_at D_X10_lets 17 rfl) rfl rfl ?_
      refine gx_lload_n C 1 (gDec_at D_X10_lets 18 rfl) rfl rfl ?_
      obtain ⟨v2, hv1, hF⟩ := gBind hF
      refine gx_callV0 C (st := []) 4 [.long (h.2 a0 21), .long (h.2 a0 22), .long l3, .long l1] (m_X10_sum w h A0 (h.2 a0 21) (h.2 a0 22) l3 l1 hv1) gX10_lets_X10_sum rfl rfl rfl hy_X10_sum (Nat.le_of_ble_eq_true rfl) (Nat.le_of_ble_eq_true rfl) (is_X10_sh A0) rfl rfl rfl (Nat.le_of_ble_eq_true rfl) (gDec_at D_X10_lets 19 rfl) ?_
      refine gx_aload_n C 0 (gDec_at D_X10_lets 20 rfl) rfl rfl ?_
      refine gx_aload_n C 0 (gDec_at D_X10_lets 21 rfl) rfl rfl ?_
      refine gx_getl C fl_X10_lets_165 (is_X10_sh A0) rfl (gDec_at D_X10_lets 22 rfl) ?_
      refine gx_putL C flw_X10_lets_184 (is_X10_sh A0) rfl rfl rfl (gDec_at D_X10_lets 23 rfl) ?_
      refine gx_aload_n C 0 (gDec_at D_X10_lets 24 rfl) rfl rfl ?_
      refine gx_aload_n C 0 (gDec_at D_X10_lets 25 rfl) rfl rfl ?_
      refine gx_getl C fl_X10_lets_169 (is_X10_sh A0) rfl (gDec_at D_X10_lets 26 rfl) ?_
      refine gx_putL C flw_X10_lets_187 (is_X10_sh A0) rfl rfl rfl (gDec_at D_X10_lets 27 rfl) ?_
      obtain rfl := Option.some.inj hF
      exact gx_vret C E (gDec_at D_X10_lets 28 rfl)
  · replace hF := gPos c hF
    refine gx_aload_n C 0 (gDec_at D_X10_lets 4 rfl) rfl rfl ?_
    refine gx_iconst C (v := 1) (gDec_at D_X10_lets 5 rfl) (by decide) ?_
    refine gx_putI C flw_X10_lets_180 (is_X10_sh A0) rfl rfl rfl (gDec_at D_X10_lets 6 rfl) ?_
    refine gx_goto C 50 (gDec_at D_X10_lets 7 rfl) (by decide) ?_
    obtain rfl := Option.some.inj hF
    exact gx_vret C E (gDec_at D_X10_lets 28 rfl)
/-! LadderBenchModel.letsOf -/
def rm_X10_letsOf : Room := { frames := 4, cells := 0, slots := 0, locals := 109 }
set_option maxRecDepth 20000 in
theorem ggX10_letsOf_X10_lets : GoodIn wsX10_letsOf wsX10_lets := goodIn_r _ [15, 3, 1, 2, 16, 17, 18, 19, 20, 9, 21, 22, 23, 24, 25, 26, 27, 28, 29, 30, 31, 32, 33, 34, 35, 36, 37, 38, 39, 40, 41, 42, 43, 44, 45, 46, 47, 48, 49, 50, 51, 52, 53, 54] (by decide +kernel) (by decide +kernel)
set_option maxRecDepth 20000 in
theorem gX10_letsOf_X10_lets : GoodIn wsX10_letsOf (wsV RX10 190 RX10 yX10_lets wsX10_lets) := goodIn_app (goodIn_of _ (by decide +kernel)) ggX10_letsOf_X10_lets
set_option maxRecDepth 20000 in
theorem ggX10_letsOf_X10_ofPart : GoodIn wsX10_letsOf wsX10_ofPart := goodIn_r _ [10, 11, 29, 30, 31, 32, 33, 34, 35, 36, 37, 38, 39, 40, 41, 42, 43, 44, 45, 46, 47, 48, 49, 50, 51, 52, 53, 54] (by decide +kernel) (by decide +kernel)
set_option maxRecDepth 20000 in
theorem gX10_letsOf_X10_ofPart : GoodIn wsX10_letsOf (wsV RX10 130 RX10 yX10_ofPart wsX10_ofPart) := goodIn_app (goodIn_of _ (by decide +kernel)) ggX10_letsOf_X10_ofPart
theorem hy_X10_letsOf : yX10_letsOf.cls = RX10 ∧ yX10_letsOf.cls ≠ "java/lang/invoke/MethodHandle" ∧ yX10_letsOf.cls ≠ "java/lang/invoke/VarHandle" ∧ (parseMethodDescriptor yX10_letsOf.desc).map (fun d => d.parameters.length) = some 2 := by decide +kernel
set_option maxRecDepth 100000 in
theorem D_X10_letsOf : gDec cX10_letsOf [(0, (.aload_n 0, 1)), (1, (.lconst 0, 1)), (2, (.putfield 184, 3)), (5, (.aload_n 0, 1)), (6, (.lconst 1, 1)), (7, (.putfield 187, 3)), (10, (.aload_n 0, 1)), (11, (.iconst 0, 1)), (12, (.putfield 180, 3)), (15, (.iconst 0, 1)), (16, (.istore_n 3, 1)), (17, (.iload_n 3, 1)), (18, (.iload_n 1, 1)), (19, (.if_icmp .ge 40, 3)), (22, (.aload_n 0, 1)), (23, (.iload_n 3, 1)), (24, (.iconst 1, 1)), (25, (.invokevirtual 130, 3)), (28, (.iload_n 1, 1)), (29, (.if_icmp .ne 24, 3)), (32, (.iload_n 3, 1)), (33, (.iload_n 2, 1)), (34, (.if_icmp .eq 19, 3)), (37, (.aload_n 0, 1)), (38, (.aload_n 0, 1)), (39, (.getfield 36, 3)), (42, (.iload_n 3, 1)), (43, (.laload, 1)), (44, (.aload_n 0, 1)), (45, (.getfield 39, 3)), (48, (.iload_n 3, 1)), (49, (.laload, 1)), (50, (.invokevirtual 190, 3)), (53, (.iinc 3 1, 3)), (56, (.goto (-39), 3)), (59, (.return_, 1))] = true := by decide +kernel
set_option maxRecDepth 100000 in
theorem in_X10_letsOf_X10 : ∀ x ∈ u_ws RX10 TX10 26, x ∈ wsX10_letsOf := by decide +kernel
theorem flw_X10_letsOf_184 : gFw wsX10_letsOf RX10 184 10 21 .long := ⟨RX10, TX10, 26, tyX10, rfl, by decide, in_X10_letsOf_X10, by decide +kernel, tyX10_ok, nmX10, rfl, by decide +kernel⟩
theorem flw_X10_letsOf_187 : gFw wsX10_letsOf RX10 187 10 22 .long := ⟨RX10, TX10, 26, tyX10, rfl, by decide, in_X10_letsOf_X10, by decide +kernel, tyX10_ok, nmX10, rfl, by decide +kernel⟩
theorem flw_X10_letsOf_180 : gFw wsX10_letsOf RX10 180 10 23 .boolean := ⟨RX10, TX10, 26, tyX10, rfl, by decide, in_X10_letsOf_X10, by decide +kernel, tyX10_ok, nmX10, rfl, by decide +kernel⟩
theorem fl_X10_letsOf_36 : gF wsX10_letsOf RX10 36 10 19 := ⟨RX10, TX10, 26, rfl, by decide, in_X10_letsOf_X10, by decide +kernel⟩
theorem fl_X10_letsOf_39 : gF wsX10_letsOf RX10 39 10 20 := ⟨RX10, TX10, 26, rfl, by decide, in_X10_letsOf_X10, by decide +kernel⟩
def f_X10_letsOf_17 (a0 : Nat) (x1 : Int32) (x2 : Int32) : Nat → Int32 → gHp → Option (gHp)
  | 0, _, _ => none
  | n + 1, x3, h => if x1 ≤ x3 then some h else (f_X10_ofPart a0 x3 1 h).bind fun v2 => if v2 = x1 then if x3 = x2 then f_X10_letsOf_17 a0 x1 x2 n (x3 + 1) h else if gIn x3 11 then if gIn x3 11 then (f_X10_lets a0 (h.2 (a0 + 9) (gN x3)) (h.2 (a0 + 10) (gN x3)) h).bind fun v6 => f_X10_letsOf_17 a0 x1 x2 n (x3 + 1) v6 else none else none else f_X10_letsOf_17 a0 x1 x2 n (x3 + 1) h
set_option maxRecDepth 20000 in
set_option maxHeartbeats 4000000 in
theorem w_X10_letsOf_17 {w : gWd} {g : gCx} (C : gC w g cX10_letsOf wsX10_letsOf RX10 4 4 109) {a0 : Nat} (A0 : is_X10 w a0) (x1 : Int32) (x2 : Int32)  {o : gHp} (hk : gX w g 4 o 59 [] []) : ∀ (n : Nat) (x3 : Int32) (h : gHp), f_X10_letsOf_17 a0 x1 x2 n x3 h = some o → gX w g 4 h 17 [(0, .ref a0), (1, .int x1), (2, .int x2), (3, .int x3)] [] := by
  intro n
  induction n with
  | zero => intro _ _ hF; cases hF
  | succ n ih =>
    intro x3 h hF
    rw [f_X10_letsOf_17] at hF
    refine gx_iload_n C 3 (gDec_at D_X10_letsOf 11 rfl) rfl rfl ?_
    refine gx_iload_n C 1 (gDec_at D_X10_letsOf 12 rfl) rfl rfl ?_
    refine gx_icmp_ge C 59 (gDec_at D_X10_letsOf 13 rfl) (by decide) (fun c => ?_) (fun c => ?_)
    · replace hF := gPos c hF
      obtain rfl := Option.some.inj hF
      exact gx_sub [] rfl hk
    · replace hF := gNeg c hF
      refine gx_aload_n C 0 (gDec_at D_X10_letsOf 14 rfl) rfl rfl ?_
      refine gx_iload_n C 3 (gDec_at D_X10_letsOf 15 rfl) rfl rfl ?_
      refine gx_iconst C (v := 1) (gDec_at D_X10_letsOf 16 rfl) (by decide) ?_
      obtain ⟨v2, hv1, hF⟩ := gBind hF
      refine gx_callV1 C (st := []) 2 [.int x3, .int 1] (m_X10_ofPart w h A0 x3 1 hv1) gX10_letsOf_X10_ofPart rfl rfl rfl hy_X10_ofPart (Nat.le_of_ble_eq_true rfl) (Nat.le_of_ble_eq_true rfl) (is_X10_sh A0) rfl rfl rfl (Nat.le_of_ble_eq_true rfl) (gDec_at D_X10_letsOf 17 rfl) ?_
      refine gx_iload_n C 1 (gDec_at D_X10_letsOf 18 rfl) rfl rfl ?_
      refine gx_icmp_ne C 53 (gDec_at D_X10_letsOf 19 rfl) (by decide) (fun c => ?_) (fun c => ?_)
      · replace hF := gNeg c hF
        refine gx_iinc C (j := 3) (v := x3 + 1) (lv' := [(3, .int (x3 + 1)), (0, .ref a0), (1, .int x1), (2, .int x2)]) (gDec_at D_X10_letsOf 33 rfl) rfl (by rfl) (Nat.le_of_ble_eq_true rfl) rfl ?_
        refine gx_goto C 17 (gDec_at D_X10_letsOf 34 rfl) (by decide) ?_
        exact gx_sub [1, 2, 3, 0] rfl (ih (x3 + 1) h hF)
      · replace hF := gPos c hF
        refine gx_iload_n C 3 (gDec_at D_X10_letsOf 20 rfl) rfl rfl ?_
        refine gx_iload_n C 2 (gDec_at D_X10_letsOf 21 rfl) rfl rfl ?_
        refine gx_icmp_eq C 53 (gDec_at D_X10_letsOf 22 rfl) (by decide) (fun c => ?_) (fun c => ?_)
        · replace hF := gPos c hF
          refine gx_iinc C (j := 3) (v := x3 + 1) (lv' := [(3, .int (x3 + 1)), (0, .ref a0), (1, .int x1), (2, .int x2)]) (gDec_at D_X10_letsOf 33 rfl) rfl (by rfl) (Nat.le_of_ble_eq_true rfl) rfl ?_
          refine gx_goto C 17 (gDec_at D_X10_letsOf 34 rfl) (by decide) ?_
          exact gx_sub [1, 2, 3, 0] rfl (ih (x3 + 1) h hF)
        · replace hF := gNeg c hF
          refine gx_aload_n C 0 (gDec_at D_X10_letsOf 23 rfl) rfl rfl ?_
          refine gx_aload_n C 0 (gDec_at D_X10_letsOf 24 rfl) rfl rfl ?_
          refine gx_getr C fl_X10_letsOf_36 (is_X10_sh A0) rfl (gDec_at D_X10_letsOf 25 rfl) ?_
          refine gx_iload_n C 3 (gDec_at D_X10_letsOf 26 rfl) rfl rfl ?_
          obtain ⟨b3, hF⟩ := gGd hF
          refine gx_laload C (is_X10_upper A0) b3 (gDec_at D_X10_letsOf 27 rfl) ?_
          refine gx_aload_n C 0 (gDec_at D_X10_letsOf 28 rfl) rfl rfl ?_
          refine gx_getr C fl_X10_letsOf_39 (is_X10_sh A0) rfl (gDec_at D_X10_letsOf 29 rfl) ?_
          refine gx_iload_n C 3 (gDec_at D_X10_letsOf 30 rfl) rfl rfl ?_
          obtain ⟨b4, hF⟩ := gGd hF
          refine gx_laload C (is_X10_lower A0) b4 (gDec_at D_X10_letsOf 31 rfl) ?_
          obtain ⟨v6, hv5, hF⟩ := gBind hF
          refine gx_callV0 C (st := []) 2 [.long (h.2 (a0 + 9) (gN x3)), .long (h.2 (a0 + 10) (gN x3))] (m_X10_lets w h A0 (h.2 (a0 + 9) (gN x3)) (h.2 (a0 + 10) (gN x3)) hv5) gX10_letsOf_X10_lets rfl rfl rfl hy_X10_lets (Nat.le_of_ble_eq_true rfl) (Nat.le_of_ble_eq_true rfl) (is_X10_sh A0) rfl rfl rfl (Nat.le_of_ble_eq_true rfl) (gDec_at D_X10_letsOf 32 rfl) ?_
          refine gx_iinc C (j := 3) (v := x3 + 1) (lv' := [(3, .int (x3 + 1)), (0, .ref a0), (1, .int x1), (2, .int x2)]) (gDec_at D_X10_letsOf 33 rfl) rfl (by rfl) (Nat.le_of_ble_eq_true rfl) rfl ?_
          refine gx_goto C 17 (gDec_at D_X10_letsOf 34 rfl) (by decide) ?_
          exact gx_sub [1, 2, 3, 0] rfl (ih (x3 + 1) v6 hF)
def f_X10_letsOf (a0 : Nat) (x1 : Int32) (x2 : Int32) (h : gHp) : Option (gHp) := (f_X10_letsOf_17 a0 x1 x2 gFuel 0 (gsI (gsL (gsL h a0 21 0) a0 22 1) a0 23 0)).bind fun v7 => some v7
set_option maxRecDepth 20000 in
set_option maxHeartbeats 4000000 in
theorem m_X10_letsOf (w : gWd) (h : gHp) {a0 : Nat} (A0 : is_X10 w a0) (x1 : Int32) (x2 : Int32) {o : gHp} (hF : f_X10_letsOf a0 x1 x2 h = some o) : gMet w yX10_letsOf wsX10_letsOf rm_X10_letsOf [.ref a0, .int x1, .int x2] h (none) o := by
  refine gMet_of (cc := cX10_letsOf) (maxL := 4) (ret := none) (fr := 4) (lo := 109) (own := RX10) [(0, .ref a0), (1, .int x1), (2, .int x2)] (by decide) rfl rfl (Nat.le_of_ble_eq_true rfl) rfl (Nat.le_refl _) (Nat.le_refl _) (fun g C E => ?_)
  rw [f_X10_letsOf] at hF
  refine gx_aload_n C 0 (gDec_at D_X10_letsOf 0 rfl) rfl rfl ?_
  refine gx_lconst C (v := 0) (gDec_at D_X10_letsOf 1 rfl) (by decide) ?_
  refine gx_putL C flw_X10_letsOf_184 (is_X10_sh A0) rfl rfl rfl (gDec_at D_X10_letsOf 2 rfl) ?_
  refine gx_aload_n C 0 (gDec_at D_X10_letsOf 3 rfl) rfl rfl ?_
  refine gx_lconst C (v := 1) (gDec_at D_X10_letsOf 4 rfl) (by decide) ?_
  refine gx_putL C flw_X10_letsOf_187 (is_X10_sh A0) rfl rfl rfl (gDec_at D_X10_letsOf 5 rfl) ?_
  refine gx_aload_n C 0 (gDec_at D_X10_letsOf 6 rfl) rfl rfl ?_
  refine gx_iconst C (v := 0) (gDec_at D_X10_letsOf 7 rfl) (by decide) ?_
  refine gx_putI C flw_X10_letsOf_180 (is_X10_sh A0) rfl rfl rfl (gDec_at D_X10_letsOf 8 rfl) ?_
  refine gx_iconst C (v := 0) (gDec_at D_X10_letsOf 9 rfl) (by decide) ?_
  refine gx_istore_n C (lv' := [(3, .int 0), (0, .ref a0), (1, .int x1), (2, .int x2)]) (gDec_at D_X10_letsOf 10 rfl) rfl (Nat.le_of_ble_eq_true rfl) rfl ?_
  obtain ⟨v7, hv8, hF⟩ := gBind hF
  have k9 : gX w g 4 v7 59 [] [] := by
    obtain rfl := Option.some.inj hF
    exact gx_vret C E (gDec_at D_X10_letsOf 35 rfl)
  exact gx_sub [1, 2, 3, 0] rfl (w_X10_letsOf_17 C A0 x1 x2 k9 gFuel 0 (gsI (gsL (gsL h a0 21 0) a0 22 1) a0 23 0) hv8)
/-! LadderBenchModel.takeLets -/
def rm_X10_takeLets : Room := { frames := 0, cells := 0, slots := 0, locals := 0 }
theorem hy_X10_takeLets : yX10_takeLets.cls = RX10 ∧ yX10_takeLets.cls ≠ "java/lang/invoke/MethodHandle" ∧ yX10_takeLets.cls ≠ "java/lang/invoke/VarHandle" ∧ (parseMethodDescriptor yX10_takeLets.desc).map (fun d => d.parameters.length) = some 1 := by decide +kernel
set_option maxRecDepth 100000 in
theorem D_X10_takeLets : gDec cX10_takeLets [(0, (.aload_n 0, 1)), (1, (.getfield 36, 3)), (4, (.iload_n 1, 1)), (5, (.aload_n 0, 1)), (6, (.getfield 180, 3)), (9, (.ifCond .eq 7, 3)), (12, (.lconst 0, 1)), (13, (.goto 20, 3)), (16, (.aload_n 0, 1)), (17, (.getfield 184, 3)), (20, (.lconst 0, 1)), (21, (.lcmp, 1)), (22, (.ifCond .ne 7, 3)), (25, (.lconst 1, 1)), (26, (.goto 7, 3)), (29, (.aload_n 0, 1)), (30, (.getfield 187, 3)), (33, (.lastore, 1)), (34, (.aload_n 0, 1)), (35, (.getfield 39, 3)), (38, (.iload_n 1, 1)), (39, (.aload_n 0, 1)), (40, (.getfield 180, 3)), (43, (.ifCond .eq 7, 3)), (46, (.lconst 1, 1)), (47, (.goto 7, 3)), (50, (.aload_n 0, 1)), (51, (.getfield 184, 3)), (54, (.lastore, 1)), (55, (.return_, 1))] = true := by decide +kernel
set_option maxRecDepth 100000 in
theorem in_X10_takeLets_X10 : ∀ x ∈ u_ws RX10 TX10 26, x ∈ wsX10_takeLets := by decide +kernel
theorem fl_X10_takeLets_36 : gF wsX10_takeLets RX10 36 10 19 := ⟨RX10, TX10, 26, rfl, by decide, in_X10_takeLets_X10, by decide +kernel⟩
theorem fl_X10_takeLets_180 : gF wsX10_takeLets RX10 180 10 23 := ⟨RX10, TX10, 26, rfl, by decide, in_X10_takeLets_X10, by decide +kernel⟩
theorem fl_X10_takeLets_39 : gF wsX10_takeLets RX10 39 10 20 := ⟨RX10, TX10, 26, rfl, by decide, in_X10_takeLets_X10, by decide +kernel⟩
theorem fl_X10_takeLets_184 : gF wsX10_takeLets RX10 184 10 21 := ⟨RX10, TX10, 26, rfl, by decide, in_X10_takeLets_X10, by decide +kernel⟩
theorem fl_X10_takeLets_187 : gF wsX10_takeLets RX10 187 10 22 := ⟨RX10, TX10, 26, rfl, by decide, in_X10_takeLets_X10, by decide +kernel⟩
def f_X10_takeLets (a0 : Nat) (x1 : Int32) (h : gHp) : Option (gHp) := (if (h.1 a0 23) = 0 then if (h.2 a0 21) = 0 then some 1 else some (h.2 a0 22) else some 0 : Option (Int64)).bind fun v1 => if gIn x1 11 then if ((gsL h (a0 + 9) (gN x1) v1).1 a0 23) = 0 then if gIn x1 11 then some (gsL (gsL h (a0 + 9) (gN x1) v1) (a0 + 10) (gN x1) ((gsL h (a0 + 9) (gN x1) v1).2 a0 21)) else none else if gIn x1 11 then some (gsL (gsL h (a0 + 9) (gN x1) v1) (a0 + 10) (gN x1) 1) else none else none
set_option maxRecDepth 20000 in
set_option maxHeartbeats 4000000 in
theorem m_X10_takeLets (w : gWd) (h : gHp) {a0 : Nat} (A0 : is_X10 w a0) (x1 : Int32) {o : gHp} (hF : f_X10_takeLets a0 x1 h = some o) : gMet w yX10_takeLets wsX10_takeLets rm_X10_takeLets [.ref a0, .int x1] h (none) o := by
  refine gMet_of (cc := cX10_takeLets) (maxL := 2) (ret := none) (fr := 0) (lo := 0) (own := RX10) [(0, .ref a0), (1, .int x1)] (by decide) rfl rfl (Nat.le_of_ble_eq_true rfl) rfl (Nat.le_refl _) (Nat.le_refl _) (fun g C E => ?_)
  rw [f_X10_takeLets] at hF
  refine gx_aload_n C 0 (gDec_at D_X10_takeLets 0 rfl) rfl rfl ?_
  refine gx_getr C fl_X10_takeLets_36 (is_X10_sh A0) rfl (gDec_at D_X10_takeLets 1 rfl) ?_
  refine gx_iload_n C 1 (gDec_at D_X10_takeLets 2 rfl) rfl rfl ?_
  refine gx_aload_n C 0 (gDec_at D_X10_takeLets 3 rfl) rfl rfl ?_
  refine gx_geti C fl_X10_takeLets_180 (is_X10_sh A0) rfl (gDec_at D_X10_takeLets 4 rfl) ?_
  obtain ⟨v1, hv2, hF⟩ := gBind hF
  have k3 : gX w g 2 h 33 [(0, .ref a0), (1, .int x1)] (.long v1 :: .int x1 :: .ref (a0 + 9) :: []) := by
    obtain ⟨b4, hF⟩ := gGd hF
    refine gx_lastore C (is_X10_upper A0) b4 (gDec_at D_X10_takeLets 17 rfl) ?_
    refine gx_aload_n C 0 (gDec_at D_X10_takeLets 18 rfl) rfl rfl ?_
    refine gx_getr C fl_X10_takeLets_39 (is_X10_sh A0) rfl (gDec_at D_X10_takeLets 19 rfl) ?_
    refine gx_iload_n C 1 (gDec_at D_X10_takeLets 20 rfl) rfl rfl ?_
    refine gx_aload_n C 0 (gDec_at D_X10_takeLets 21 rfl) rfl rfl ?_
    refine gx_geti C fl_X10_takeLets_180 (is_X10_sh A0) rfl (gDec_at D_X10_takeLets 22 rfl) ?_
    refine gx_if_eq C 50 (gDec_at D_X10_takeLets 23 rfl) (by decide) (fun c => ?_) (fun c => ?_)
    · replace hF := gPos c hF
      refine gx_aload_n C 0 (gDec_at D_X10_takeLets 26 rfl) rfl rfl ?_
      refine gx_getl C fl_X10_takeLets_184 (is_X10_sh A0) rfl (gDec_at D_X10_takeLets 27 rfl) ?_
      obtain ⟨b5, hF⟩ := gGd hF
      refine gx_lastore C (is_X10_lower A0) b5 (gDec_at D_X10_takeLets 28 rfl) ?_
      obtain rfl := Option.some.inj hF
      exact gx_vret C E (gDec_at D_X10_takeLets 29 rfl)
    · replace hF := gNeg c hF
      refine gx_lconst C (v := 1) (gDec_at D_X10_takeLets 24 rfl) (by decide) ?_
      refine gx_goto C 54 (gDec_at D_X10_takeLets 25 rfl) (by decide) ?_
      obtain ⟨b6, hF⟩ := gGd hF
      refine gx_lastore C (is_X10_lower A0) b6 (gDec_at D_X10_takeLets 28 rfl) ?_
      obtain rfl := Option.some.inj hF
      exact gx_vret C E (gDec_at D_X10_takeLets 29 rfl)
  replace hF := hv2
  refine gx_if_eq C 16 (gDec_at D_X10_takeLets 5 rfl) (by decide) (fun c => ?_) (fun c => ?_)
  · replace hF := gPos c hF
    refine gx_aload_n C 0 (gDec_at D_X10_takeLets 8 rfl) rfl rfl ?_
    refine gx_getl C fl_X10_takeLets_184 (is_X10_sh A0) rfl (gDec_at D_X10_takeLets 9 rfl) ?_
    refine gx_lconst C (v := 0) (gDec_at D_X10_takeLets 10 rfl) (by decide) ?_
    refine gx_lcmp_ne C 29 (gDec_at D_X10_takeLets 11 rfl) (gDec_at D_X10_takeLets 12 rfl) (by decide) (fun c => ?_) (fun c => ?_)
    · replace hF := gNeg c hF
      refine gx_aload_n C 0 (gDec_at D_X10_takeLets 15 rfl) rfl rfl ?_
      refine gx_getl C fl_X10_takeLets_187 (is_X10_sh A0) rfl (gDec_at D_X10_takeLets 16 rfl) ?_
      obtain rfl := Option.some.inj hF
      exact gx_sub [0, 1] rfl k3
    · replace hF := gPos c hF
      refine gx_lconst C (v := 1) (gDec_at D_X10_takeLets 13 rfl) (by decide) ?_
      refine gx_goto C 33 (gDec_at D_X10_takeLets 14 rfl) (by decide) ?_
      obtain rfl := Option.some.inj hF
      exact gx_sub [0, 1] rfl k3
  · replace hF := gNeg c hF
    refine gx_lconst C (v := 0) (gDec_at D_X10_takeLets 6 rfl) (by decide) ?_
    refine gx_goto C 33 (gDec_at D_X10_takeLets 7 rfl) (by decide) ?_
    obtain rfl := Option.some.inj hF
    exact gx_sub [0, 1] rfl k3
