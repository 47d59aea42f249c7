/-! LadderBenchModel.layVoltage -/
def rm_X10_layVoltage : Room := { frames := 3, cells := 0, slots := 0, locals := 87 }
set_option maxRecDepth 20000 in
theorem ggX10_layVoltage_X10_infinite : GoodIn wsX10_layVoltage wsX10_infinite := goodIn_r _ [16, 5, 7, 8, 9, 10, 11, 12, 28, 29, 30, 31, 32, 33, 34, 35, 36, 37, 38, 39, 40, 41, 42, 43, 44, 45, 46, 47, 48, 49, 50, 51, 52, 53] (by decide +kernel) (by decide +kernel)
set_option maxRecDepth 20000 in
theorem gX10_layVoltage_X10_infinite : GoodIn wsX10_layVoltage (wsV RX10 214 RX10 yX10_infinite wsX10_infinite) := goodIn_app (goodIn_of _ (by decide +kernel)) ggX10_layVoltage_X10_infinite
set_option maxRecDepth 20000 in
theorem ggX10_layVoltage_X10_ofPart : GoodIn wsX10_layVoltage wsX10_ofPart := goodIn_r _ [11, 12, 28, 29, 30, 31, 32, 33, 34, 35, 36, 37, 38, 39, 40, 41, 42, 43, 44, 45, 46, 47, 48, 49, 50, 51, 52, 53] (by decide +kernel) (by decide +kernel)
set_option maxRecDepth 20000 in
theorem gX10_layVoltage_X10_ofPart : GoodIn wsX10_layVoltage (wsV RX10 130 RX10 yX10_ofPart wsX10_ofPart) := goodIn_app (goodIn_of _ (by decide +kernel)) ggX10_layVoltage_X10_ofPart
set_option maxRecDepth 20000 in
theorem ggX10_layVoltage_X10_product : GoodIn wsX10_layVoltage wsX10_product := goodIn_r _ [20, 21, 22, 10, 23, 24, 25, 26, 27, 3, 4, 28, 29, 30, 31, 32, 33, 34, 35, 36, 37, 38, 39, 40, 41, 42, 43, 44, 45, 46, 47, 48, 49, 50, 51, 52, 53] (by decide +kernel) (by decide +kernel)
set_option maxRecDepth 20000 in
theorem gX10_layVoltage_X10_product : GoodIn wsX10_layVoltage (wsV RX10 217 RX10 yX10_product wsX10_product) := goodIn_app (goodIn_of _ (by decide +kernel)) ggX10_layVoltage_X10_product
theorem hy_X10_layVoltage : yX10_layVoltage.cls = RX10 ∧ yX10_layVoltage.cls ≠ "java/lang/invoke/MethodHandle" ∧ yX10_layVoltage.cls ≠ "java/lang/invoke/VarHandle" ∧ (parseMethodDescriptor yX10_layVoltage.desc).map (fun d => d.parameters.length) = some 2 := by decide +kernel
set_option maxRecDepth 100000 in
theorem D_X10_layVoltage : gDec cX10_layVoltage [(0, (.aload_n 0, 1)), (1, (.getfield 42, 3)), (4, (.iload_n 1, 1)), (5, (.aload_n 0, 1)), (6, (.getfield 42, 3)), (9, (.iload_n 2, 1)), (10, (.laload, 1)), (11, (.lastore, 1)), (12, (.aload_n 0, 1)), (13, (.getfield 45, 3)), (16, (.iload_n 1, 1)), (17, (.aload_n 0, 1)), (18, (.getfield 45, 3)), (21, (.iload_n 2, 1)), (22, (.laload, 1)), (23, (.lastore, 1)), (24, (.aload_n 0, 1)), (25, (.iload_n 2, 1)), (26, (.iconst 0, 1)), (27, (.invokevirtual 130, 3)), (30, (.iconst 2, 1)), (31, (.if_icmp .ne 4, 3)), (34, (.return_, 1)), (35, (.aload_n 0, 1)), (36, (.lconst 0, 1)), (37, (.putfield 165, 3)), (40, (.aload_n 0, 1)), (41, (.lconst 1, 1)), (42, (.putfield 169, 3)), (45, (.aload_n 0, 1)), (46, (.getfield 39, 3)), (49, (.iload_n 2, 1)), (50, (.laload, 1)), (51, (.lconst 0, 1)), (52, (.lcmp, 1)), (53, (.ifCond .ne 40, 3)), (56, (.aload_n 0, 1)), (57, (.getfield 39, 3)), (60, (.iload_n 1, 1)), (61, (.laload, 1)), (62, (.lconst 0, 1)), (63, (.lcmp, 1)), (64, (.ifCond .ne 92, 3)), (67, (.aload_n 0, 1)), (68, (.aload_n 0, 1)), (69, (.getfield 42, 3)), (72, (.iload_n 1, 1)), (73, (.laload, 1)), (74, (.aload_n 0, 1)), (75, (.getfield 45, 3)), (78, (.iload_n 1, 1)), (79, (.laload, 1)), (80, (.lconst 1, 1)), (81, (.aload_n 0, 1)), (82, (.iload_n 2, 1)), (83, (.invokevirtual 214, 3)), (86, (.i2l, 1)), (87, (.invokevirtual 217, 3)), (90, (.goto 66, 3)), (93, (.aload_n 0, 1)), (94, (.getfield 36, 3)), (97, (.iload_n 2, 1)), (98, (.laload, 1)), (99, (.lconst 0, 1)), (100, (.lcmp, 1)), (101, (.ifCond .le 55, 3)), (104, (.aload_n 0, 1)), (105, (.aload_n 0, 1)), (106, (.getfield 36, 3)), (109, (.iload_n 1, 1)), (110, (.laload, 1)), (111, (.aload_n 0, 1)), (112, (.getfield 39, 3)), (115, (.iload_n 1, 1)), (116, (.laload, 1)), (117, (.aload_n 0, 1)), (118, (.getfield 39, 3)), (121, (.iload_n 2, 1)), (122, (.laload, 1)), (123, (.aload_n 0, 1)), (124, (.getfield 36, 3)), (127, (.iload_n 2, 1)), (128, (.laload, 1)), (129, (.invokevirtual 217, 3)), (132, (.aload_n 0, 1)), (133, (.aload_n 0, 1)), (134, (.getfield 165, 3)), (137, (.aload_n 0, 1)), (138, (.getfield 169, 3)), (141, (.aload_n 0, 1)), (142, (.getfield 42, 3)), (145, (.iload_n 1, 1)), (146, (.laload, 1)), (147, (.aload_n 0, 1)), (148, (.getfield 45, 3)), (151, (.iload_n 1, 1)), (152, (.laload, 1)), (153, (.invokevirtual 217, 3)), (156, (.aload_n 0, 1)), (157, (.getfield 42, 3)), (160, (.iload_n 1, 1)), (161, (.aload_n 0, 1)), (162, (.getfield 165, 3)), (165, (.lastore, 1)), (166, (.aload_n 0, 1)), (167, (.getfield 45, 3)), (170, (.iload_n 1, 1)), (171, (.aload_n 0, 1)), (172, (.getfield 169, 3)), (175, (.lastore, 1)), (176, (.return_, 1))] = true := by decide +kernel
set_option maxRecDepth 100000 in
theorem in_X10_layVoltage_X10 : ∀ x ∈ u_ws RX10 TX10 26, x ∈ wsX10_layVoltage := by decide +kernel
theorem fl_X10_layVoltage_42 : gF wsX10_layVoltage RX10 42 10 24 := ⟨RX10, TX10, 26, rfl, by decide, in_X10_layVoltage_X10, by decide +kernel⟩
theorem fl_X10_layVoltage_45 : gF wsX10_layVoltage RX10 45 10 25 := ⟨RX10, TX10, 26, rfl, by decide, in_X10_layVoltage_X10, by decide +kernel⟩
theorem flw_X10_layVoltage_165 : gFw wsX10_layVoltage RX10 165 10 17 .long := ⟨RX10, TX10, 26, tyX10, rfl, by decide, in_X10_layVoltage_X10, by decide +kernel, tyX10_ok, nmX10, rfl, by decide +kernel⟩
theorem flw_X10_layVoltage_169 : gFw wsX10_layVoltage RX10 169 10 18 .long := ⟨RX10, TX10, 26, tyX10, rfl, by decide, in_X10_layVoltage_X10, by decide +kernel, tyX10_ok, nmX10, rfl, by decide +kernel⟩
theorem fl_X10_layVoltage_39 : gF wsX10_layVoltage RX10 39 10 20 := ⟨RX10, TX10, 26, rfl, by decide, in_X10_layVoltage_X10, by decide +kernel⟩
theorem fl_X10_layVoltage_165 : gF wsX10_layVoltage RX10 165 10 17 := ⟨RX10, TX10, 26, rfl, by decide, in_X10_layVoltage_X10, by decide +kernel⟩
theorem fl_X10_layVoltage_169 : gF wsX10_layVoltage RX10 169 10 18 := ⟨RX10, TX10, 26, rfl, by decide, in_X10_layVoltage_X10, by decide +kernel⟩
theorem fl_X10_layVoltage_36 : gF wsX10_layVoltage RX10 36 10 19 := ⟨RX10, TX10, 26, rfl, by decide, in_X10_layVoltage_X10, by decide +kernel⟩
def f_X10_layVoltage (a0 : Nat) (x1 : Int32) (x2 : Int32) (h : gHp) : Option (gHp) := if gIn x2 11 then if gIn x1 11 then if gIn x2 11 then if gIn x1 11 then (f_X10_ofPart a0 x2 0 (gsL (gsL h (a0 + 11) (gN x1) (h.2 (a0 + 11) (gN x2))) (a0 + 12) (gN x1) ((gsL h (a0 + 11) (gN x1) (h.2 (a0 + 11) (gN x2))).2 (a0 + 12) (gN x2)))).bind fun v6 => if v6 = 2 then some (gsL (gsL h (a0 + 11) (gN x1) (h.2 (a0 + 11) (gN x2))) (a0 + 12) (gN x1) ((gsL h (a0 + 11) (gN x1) (h.2 (a0 + 11) (gN x2))).2 (a0 + 12) (gN x2))) else if gIn x2 11 then (if ((gsL (gsL (gsL (gsL h (a0 + 11) (gN x1) (h.2 (a0 + 11) (gN x2))) (a0 + 12) (gN x1) ((gsL h (a0 + 11) (gN x1) (h.2 (a0 + 11) (gN x2))).2 (a0 + 12) (gN x2))) a0 17 0) a0 18 1).2 (a0 + 10) (gN x2)) = 0 then if gIn x1 11 then if ((gsL (gsL (gsL (gsL h (a0 + 11) (gN x1) (h.2 (a0 + 11) (gN x2))) (a0 + 12) (gN x1) ((gsL h (a0 + 11) (gN x1) (h.2 (a0 + 11) (gN x2))).2 (a0 + 12) (gN x2))) a0 17 0) a0 18 1).2 (a0 + 10) (gN x1)) = 0 then if gIn x1 11 then if gIn x1 11 then (f_X10_infinite a0 x2 (gsL (gsL (gsL (gsL h (a0 + 11) (gN x1) (h.2 (a0 + 11) (gN x2))) (a0 + 12) (gN x1) ((gsL h (a0 + 11) (gN x1) (h.2 (a0 + 11) (gN x2))).2 (a0 + 12) (gN x2))) a0 17 0) a0 18 1)).bind fun v28 => (f_X10_product a0 ((gsL (gsL (gsL (gsL h (a0 + 11) (gN x1) (h.2 (a0 + 11) (gN x2))) (a0 + 12) (gN x1) ((gsL h (a0 + 11) (gN x1) (h.2 (a0 + 11) (gN x2))).2 (a0 + 12) (gN x2))) a0 17 0) a0 18 1).2 (a0 + 11) (gN x1)) ((gsL (gsL (gsL (gsL h (a0 + 11) (gN x1) (h.2 (a0 + 11) (gN x2))) (a0 + 12) (gN x1) ((gsL h (a0 + 11) (gN x1) (h.2 (a0 + 11) (gN x2))).2 (a0 + 12) (gN x2))) a0 17 0) a0 18 1).2 (a0 + 12) (gN x1)) 1 v28.toInt64 (gsL (gsL (gsL (gsL h (a0 + 11) (gN x1) (h.2 (a0 + 11) (gN x2))) (a0 + 12) (gN x1) ((gsL h (a0 + 11) (gN x1) (h.2 (a0 + 11) (gN x2))).2 (a0 + 12) (gN x2))) a0 17 0) a0 18 1)).bind fun v30 => some v30 else none else none else some (gsL (gsL (gsL (gsL h (a0 + 11) (gN x1) (h.2 (a0 + 11) (gN x2))) (a0 + 12) (gN x1) ((gsL h (a0 + 11) (gN x1) (h.2 (a0 + 11) (gN x2))).2 (a0 + 12) (gN x2))) a0 17 0) a0 18 1) else none else if gIn x2 11 then if ((gsL (gsL (gsL (gsL h (a0 + 11) (gN x1) (h.2 (a0 + 11) (gN x2))) (a0 + 12) (gN x1) ((gsL h (a0 + 11) (gN x1) (h.2 (a0 + 11) (gN x2))).2 (a0 + 12) (gN x2))) a0 17 0) a0 18 1).2 (a0 + 9) (gN x2)) ≤ 0 then some (gsL (gsL (gsL (gsL h (a0 + 11) (gN x1) (h.2 (a0 + 11) (gN x2))) (a0 + 12) (gN x1) ((gsL h (a0 + 11) (gN x1) (h.2 (a0 + 11) (gN x2))).2 (a0 + 12) (gN x2))) a0 17 0) a0 18 1) else if gIn x1 11 then if gIn x1 11 then if gIn x2 11 then if gIn x2 11 then (f_X10_product a0 ((gsL (gsL (gsL (gsL h (a0 + 11) (gN x1) (h.2 (a0 + 11) (gN x2))) (a0 + 12) (gN x1) ((gsL h (a0 + 11) (gN x1) (h.2 (a0 + 11) (gN x2))).2 (a0 + 12) (gN x2))) a0 17 0) a0 18 1).2 (a0 + 9) (gN x1)) ((gsL (gsL (gsL (gsL h (a0 + 11) (gN x1) (h.2 (a0 + 11) (gN x2))) (a0 + 12) (gN x1) ((gsL h (a0 + 11) (gN x1) (h.2 (a0 + 11) (gN x2))).2 (a0 + 12) (gN x2))) a0 17 0) a0 18 1).2 (a0 + 10) (gN x1)) ((gsL (gsL (gsL (gsL h (a0 + 11) (gN x1) (h.2 (a0 + 11) (gN x2))) (a0 + 12) (gN x1) ((gsL h (a0 + 11) (gN x1) (h.2 (a0 + 11) (gN x2))).2 (a0 + 12) (gN x2))) a0 17 0) a0 18 1).2 (a0 + 10) (gN x2)) ((gsL (gsL (gsL (gsL h (a0 + 11) (gN x1) (h.2 (a0 + 11) (gN x2))) (a0 + 12) (gN x1) ((gsL h (a0 + 11) (gN x1) (h.2 (a0 + 11) (gN x2))).2 (a0 + 12) (gN x2))) a0 17 0) a0 18 1).2 (a0 + 9) (gN x2)) (gsL (gsL (gsL (gsL h (a0 + 11) (gN x1) (h.2 (a0 + 11) (gN x2))) (a0 + 12) (gN x1) ((gsL h (a0 + 11) (gN x1) (h.2 (a0 + 11) (gN x2))).2 (a0 + 12) (gN x2))) a0 17 0) a0 18 1)).bind fun v19 => if gIn x1 11 then if gIn x1 11 then (f_X10_product a0 (v19.2 a0 17) (v19.2 a0 18) (v19.2 (a0 + 11) (gN x1)) (v19.2 (a0 + 12) (gN x1)) v19).bind fun v23 => some v23 else none else none else none else none else none else none else none : Option (gHp)).bind fun v8 => if gIn x1 11 then if gIn x1 11 then some (gsL (gsL v8 (a0 + 11) (gN x1) (v8.2 a0 17)) (a0 + 12) (gN x1) ((gsL v8 (a0 + 11) (gN x1) (v8.2 a0 17)).2 a0 18)) else none else none else none else none else none else none else none
set_option maxRecDepth 20000 in
set_option maxHeartbeats 4000000 in
theorem m_X10_layVoltage (w : gWd) (h : gHp) {a0 : Nat} (A0 : is_X10 w a0) (x1 : Int32) (x2 : Int32) {o : gHp} (hF : f_X10_layVoltage a0 x1 x2 h = some o) : gMet w yX10_layVoltage wsX10_layVoltage rm_X10_layVoltage [.ref a0, .int x1, .int x2] h (none) o := by
  refine gMet_of (cc := cX10_layVoltage) (maxL := 3) (ret := none) (fr := 3) (lo := 87) (own := RX10) [(0, .ref a0), (1, .int x1), (2, .int x2)] (by decide) rfl rfl (Nat.le_of_ble_eq_true rfl) rfl (Nat.le_refl _) (Nat.le_refl _) (fun g C E => ?_)
  rw [f_X10_layVoltage] at hF
  refine gx_aload_n C 0 (gDec_at D_X10_layVoltage 0 rfl) rfl rfl ?_
  refine gx_getr C fl_X10_layVoltage_42 (is_X10_sh A0) rfl (gDec_at D_X10_layVoltage 1 rfl) ?_
  refine gx_iload_n C 1 (gDec_at D_X10_layVoltage 2 rfl) rfl rfl ?_
  refine gx_aload_n C 0 (gDec_at D_X10_layVoltage 3 rfl) rfl rfl ?_
  refine gx_getr C fl_X10_layVoltage_42 (is_X10_sh A0) rfl (gDec_at D_X10_layVoltage 4 rfl) ?_
  refine gx_iload_n C 2 (gDec_at D_X10_layVoltage 5 rfl) rfl rfl ?_
  obtain ⟨b1, hF⟩ := gGd hF
  refine gx_laload C (is_X10_voltUp A0) b1 (gDec_at D_X10_layVoltage 6 rfl) ?_
  obtain ⟨b2, hF⟩ := gGd hF
  refine gx_lastore C (is_X10_voltUp A0) b2 (gDec_at D_X10_layVoltage 7 rfl) ?_
  refine gx_aload_n C 0 (gDec_at D_X10_layVoltage 8 rfl) rfl rfl ?_
  refine gx_getr C fl_X10_layVoltage_45 (is_X10_sh A0) rfl (gDec_at D_X10_layVoltage 9 rfl) ?_
  refine gx_iload_n C 1 (gDec_at D_X10_layVoltage 10 rfl) rfl rfl ?_
  refine gx_aload_n C 0 (gDec_at D_X10_layVoltage 11 rfl) rfl rfl ?_
  refine gx_getr C fl_X10_layVoltage_45 (is_X10_sh A0) rfl (gDec_at D_X10_layVoltage 12 rfl) ?_
  refine gx_iload_n C 2 (gDec_at D_X10_layVoltage 13 rfl) rfl rfl ?_
  obtain ⟨b3, hF⟩ := gGd hF
  refine gx_laload C (is_X10_voltLow A0) b3 (gDec_at D_X10_layVoltage 14 rfl) ?_
  obtain ⟨b4, hF⟩ := gGd hF
  refine gx_lastore C (is_X10_voltLow A0) b4 (gDec_at D_X10_layVoltage 15 rfl) ?_
  refine gx_aload_n C 0 (gDec_at D_X10_layVoltage 16 rfl) rfl rfl ?_
  refine gx_iload_n C 2 (gDec_at D_X10_layVoltage 17 rfl) rfl rfl ?_
  refine gx_iconst C (v := 0) (gDec_at D_X10_layVoltage 18 rfl) (by decide) ?_
  obtain ⟨v6, hv5, hF⟩ := gBind hF
  refine gx_callV1 C (st := []) 2 [.int x2, .int 0] (m_X10_ofPart w (gsL (gsL h (a0 + 11) (gN x1) (h.2 (a0 + 11) (gN x2))) (a0 + 12) (gN x1) ((gsL h (a0 + 11) (gN x1) (h.2 (a0 + 11) (gN x2))).2 (a0 + 12) (gN x2))) A0 x2 0 hv5) gX10_layVoltage_X10_ofPart rfl rfl rfl hy_X10_ofPart (Nat.le_of_ble_eq_true rfl) (Nat.le_of_ble_eq_true rfl) (is_X10_sh A0) rfl rfl rfl (Nat.le_of_ble_eq_true rfl) (gDec_at D_X10_layVoltage 19 rfl) ?_
  refine gx_iconst C (v := 2) (gDec_at D_X10_layVoltage 20 rfl) (by decide) ?_
  refine gx_icmp_ne C 35 (gDec_at D_X10_layVoltage 21 rfl) (by decide) (fun c => ?_) (fun c => ?_)
  · replace hF := gNeg c hF
    refine gx_aload_n C 0 (gDec_at D_X10_layVoltage 23 rfl) rfl rfl ?_
    refine gx_lconst C (v := 0) (gDec_at D_X10_layVoltage 24 rfl) (by decide) ?_
    refine gx_putL C flw_X10_layVoltage_165 (is_X10_sh A0) rfl rfl rfl (gDec_at D_X10_layVoltage 25 rfl) ?_
    refine gx_aload_n C 0 (gDec_at D_X10_layVoltage 26 rfl) rfl rfl ?_
    refine gx_lconst C (v := 1) (gDec_at D_X10_layVoltage 27 rfl) (by decide) ?_
    refine gx_putL C flw_X10_layVoltage_169 (is_X10_sh A0) rfl rfl rfl (gDec_at D_X10_layVoltage 28 rfl) ?_
    refine gx_aload_n C 0 (gDec_at D_X10_layVoltage 29 rfl) rfl rfl ?_
    refine gx_getr C fl_X10_layVoltage_39 (is_X10_sh A0) rfl (gDec_at D_X10_layVoltage 30 rfl) ?_
    refine gx_iload_n C 2 (gDec_at D_X10_layVoltage 31 rfl) rfl rfl ?_
    obtain ⟨b7, hF⟩ := gGd hF
    refine gx_laload C (is_X10_lower A0) b7 (gDec_at D_X10_layVoltage 32 rfl) ?_
    refine gx_lconst C (v := 0) (gDec_at D_X10_layVoltage 33 rfl) (by decide) ?_
    obtain ⟨v8, hv9, hF⟩ := gBind hF
    have k10 : gX w g 3 v8 156 [(0, .ref a0), (1, .int x1)] ([]) := by
      refine gx_aload_n C 0 (gDec_at D_X10_layVoltage 98 rfl) rfl rfl ?_
      refine gx_getr C fl_X10_layVoltage_42 (is_X10_sh A0) rfl (gDec_at D_X10_layVoltage 99 rfl) ?_
      refine gx_iload_n C 1 (gDec_at D_X10_layVoltage 100 rfl) rfl rfl ?_
      refine gx_aload_n C 0 (gDec_at D_X10_layVoltage 101 rfl) rfl rfl ?_
      refine gx_getl C fl_X10_layVoltage_165 (is_X10_sh A0) rfl (gDec_at D_X10_layVoltage 102 rfl) ?_
      obtain ⟨b11, hF⟩ := gGd hF
      refine gx_lastore C (is_X10_voltUp A0) b11 (gDec_at D_X10_layVoltage 103 rfl) ?_
      refine gx_aload_n C 0 (gDec_at D_X10_layVoltage 104 rfl) rfl rfl ?_
      refine gx_getr C fl_X10_layVoltage_45 (is_X10_sh A0) rfl (gDec_at D_X10_layVoltage 105 rfl) ?_
      refine gx_iload_n C 1 (gDec_at D_X10_layVoltage 106 rfl) rfl rfl ?_
      refine gx_aload_n C 0 (gDec_at D_X10_layVoltage 107 rfl) rfl rfl ?_
      refine gx_getl C fl_X10_layVoltage_169 (is_X10_sh A0) rfl (gDec_at D_X10_layVoltage 108 rfl) ?_
      obtain ⟨b12, hF⟩ := gGd hF
      refine gx_lastore C (is_X10_voltLow A0) b12 (gDec_at D_X10_layVoltage 109 rfl) ?_
      obtain rfl := Option.some.inj hF
      exact gx_vret C E (gDec_at D_X10_layVoltage 110 rfl)
    replace hF := hv9
    refine gx_lcmp_ne C 93 (gDec_at D_X10_layVoltage 34 rfl) (gDec_at D_X10_layVoltage 35 rfl) (by decide) (fun c => ?_) (fun c => ?_)
    · replace hF := gNeg c hF
      refine gx_aload_n C 0 (gDec_at D_X10_layVoltage 59 rfl) rfl rfl ?_
      refine gx_getr C fl_X10_layVoltage_36 (is_X10_sh A0) rfl (gDec_at D_X10_layVoltage 60 rfl) ?_
      refine gx_iload_n C 2 (gDec_at D_X10_layVoltage 61 rfl) rfl rfl ?_
      obtain ⟨b13, hF⟩ := gGd hF
      refine gx_laload C (is_X10_upper A0) b13 (gDec_at D_X10_layVoltage 62 rfl) ?_
      refine gx_lconst C (v := 0) (gDec_at D_X10_layVoltage 63 rfl) (by decide) ?_
      refine gx_lcmp_le C 156 (gDec_at D_X10_layVoltage 64 rfl) (gDec_at D_X10_layVoltage 65 rfl) (by decide) (fun c => ?_) (fun c => ?_)
      · replace hF := gPos c hF
        obtain rfl := Option.some.inj hF
        exact gx_sub [0, 1] rfl k10
      · replace hF := gNeg c hF
        refine gx_aload_n C 0 (gDec_at D_X10_layVoltage 66 rfl) rfl rfl ?_
        refine gx_aload_n C 0 (gDec_at D_X10_layVoltage 67 rfl) rfl rfl ?_
        refine gx_getr C fl_X10_layVoltage_36 (is_X10_sh A0) rfl (gDec_at D_X10_layVoltage 68 rfl) ?_
        refine gx_iload_n C 1 (gDec_at D_X10_layVoltage 69 rfl) rfl rfl ?_
        obtain ⟨b14, hF⟩ := gGd hF
        refine gx_laload C (is_X10_upper A0) b14 (gDec_at D_X10_layVoltage 70 rfl) ?_
        refine gx_aload_n C 0 (gDec_at D_X10_layVoltage 71 rfl) rfl rfl ?_
        refine gx_getr C fl_X10_layVoltage_39 (is_X10_sh A0) rfl (gDec_at D_X10_layVoltage 72 rfl) ?_
        refine gx_iload_n C 1 (gDec_at D_X10_layVoltage 73 rfl) rfl rfl ?_
        obtain ⟨b15, hF⟩ := gGd hF
        refine gx_laload C (is_X10_lower A0) b15 (gDec_at D_X10_layVoltage 74 rfl) ?_
        refine gx_aload_n C 0 (gDec_at D_X10_layVoltage 75 rfl) rfl rfl ?_
        refine gx_getr C fl_X10_layVoltage_39 (is_X10_sh A0) rfl (gDec_at D_X10_layVoltage 76 rfl) ?_
        refine gx_iload_n C 2 (gDec_at D_X10_layVoltage 77 rfl) rfl rfl ?_
        obtain ⟨b16, hF⟩ := gGd hF
        refine gx_laload C (is_X10_lower A0) b16 (gDec_at D_X10_layVoltage 78 rfl) ?_
        refine gx_aload_n C 0 (gDec_at D_X10_layVoltage 79 rfl) rfl rfl ?_
        refine gx_getr C fl_X10_layVoltage_36 (is_X10_sh A0) rfl (gDec_at D_X10_layVoltage 80 rfl) ?_
        refine gx_iload_n C 2 (gDec_at D_X10_layVoltage 81 rfl) rfl rfl ?_
        obtain ⟨b17, hF⟩ := gGd hF
        refine gx_laload C (is_X10_upper A0) b17 (gDec_at D_X10_layVoltage 82 rfl) ?_
        obtain ⟨v19, hv18, hF⟩ := gBind hF
        refine gx_callV0 C (st := []) 4 [.long ((gsL (gsL (gsL (gsL h (a0 + 11) (gN x1) (h.2 (a0 + 11) (gN x2))) (a0 + 12) (gN x1) ((gsL h (a0 + 11) (gN x1) (h.2 (a0 + 11) (gN x2))).2 (a0 + 12) (gN x2))) a0 17 0) a0 18 1).2 (a0 + 9) (gN x1)), .long ((gsL (gsL (gsL (gsL h (a0 + 11) (gN x1) (h.2 (a0 + 11) (gN x2))) (a0 + 12) (gN x1) ((gsL h (a0 + 11) (gN x1) (h.2 (a0 + 11) (gN x2))).2 (a0 + 12) (gN x2))) a0 17 0) a0 18 1).2 (a0 + 10) (gN x1)), .long ((gsL (gsL (gsL (gsL h (a0 + 11) (gN x1) (h.2 (a0 + 11) (gN x2))) (a0 + 12) (gN x1) ((gsL h (a0 + 11) (gN x1) (h.2 (a0 + 11) (gN x2))).2 (a0 + 12) (gN x2))) a0 17 0) a0 18 1).2 (a0 + 10) (gN x2)), .long ((gsL (gsL (gsL (gsL h (a0 + 11) (gN x1) (h.2 (a0 + 11) (gN x2))) (a0 + 12) (gN x1) ((gsL h (a0 + 11) (gN x1) (h.2 (a0 + 11) (gN x2))).2 (a0 + 12) (gN x2))) a0 17 0) a0 18 1).2 (a0 + 9) (gN x2))] (m_X10_product w (gsL (gsL (gsL (gsL h (a0 + 11) (gN x1) (h.2 (a0 + 11) (gN x2))) (a0 + 12) (gN x1) ((gsL h (a0 + 11) (gN x1) (h.2 (a0 + 11) (gN x2))).2 (a0 + 12) (gN x2))) a0 17 0) a0 18 1) A0 ((gsL (gsL (gsL (gsL h (a0 + 11) (gN x1) (h.2 (a0 + 11) (gN x2))) (a0 + 12) (gN x1) ((gsL h (a0 + 11) (gN x1) (h.2 (a0 + 11) (gN x2))).2 (a0 + 12) (gN x2))) a0 17 0) a0 18 1).2 (a0 + 9) (gN x1)) ((gsL (gsL (gsL (gsL h (a0 + 11) (gN x1) (h.2 (a0 + 11) (gN x2))) (a0 + 12) (gN x1) ((gsL h (a0 + 11) (gN x1) (h.2 (a0 + 11) (gN x2))).2 (a0 + 12) (gN x2))) a0 17 0) a0 18 1).2 (a0 + 10) (gN x1)) ((gsL (gsL (gsL (gsL h (a0 + 11) (gN x1) (h.2 (a0 + 11) (gN x2))) (a0 + 12) (gN x1) ((gsL h (a0 + 11) (gN x1) (h.2 (a0 + 11) (gN x2))).2 (a0 + 12) (gN x2))) a0 17 0) a0 18 1).2 (a0 + 10) (gN x2)) ((gsL (gsL (gsL (gsL h (a0 + 11) (gN x1) (h.2 (a0 + 11) (gN x2))) (a0 + 12) (gN x1) ((gsL h (a0 + 11) (gN x1) (h.2 (a0 + 11) (gN x2))).2 (a0 + 12) (gN x2))) a0 17 0) a0 18 1).2 (a0 + 9) (gN x2)) hv18) gX10_layVoltage_X10_product rfl rfl rfl hy_X10_product (Nat.le_of_ble_eq_true rfl) (Nat.le_of_ble_eq_true rfl) (is_X10_sh A0) rfl rfl rfl (Nat.le_of_ble_eq_true rfl) (gDec_at D_X10_layVoltage 83 rfl) ?_
        refine gx_aload_n C 0 (gDec_at D_X10_layVoltage 84 rfl) rfl rfl ?_
        refine gx_aload_n C 0 (gDec_at D_X10_layVoltage 85 rfl) rfl rfl ?_
        refine gx_getl C fl_X10_layVoltage_165 (is_X10_sh A0) rfl (gDec_at D_X10_layVoltage 86 rfl) ?_
        refine gx_aload_n C 0 (gDec_at D_X10_layVoltage 87 rfl) rfl rfl ?_
        refine gx_getl C fl_X10_layVoltage_169 (is_X10_sh A0) rfl (gDec_at D_X10_layVoltage 88 rfl) ?_
        refine gx_aload_n C 0 (gDec_at D_X10_layVoltage 89 rfl) rfl rfl ?_
        refine gx_getr C fl_X10_layVoltage_42 (is_X10_sh A0) rfl (gDec_at D_X10_layVoltage 90 rfl) ?_
        refine gx_iload_n C 1 (gDec_at D_X10_layVoltage 91 rfl) rfl rfl ?_
        obtain ⟨b20, hF⟩ := gGd hF
        refine gx_laload C (is_X10_voltUp A0) b20 (gDec_at D_X10_layVoltage 92 rfl) ?_
        refine gx_aload_n C 0 (gDec_at D_X10_layVoltage 93 rfl) rfl rfl ?_
        refine gx_getr C fl_X10_layVoltage_45 (is_X10_sh A0) rfl (gDec_at D_X10_layVoltage 94 rfl) ?_
        refine gx_iload_n C 1 (gDec_at D_X10_layVoltage 95 rfl) rfl rfl ?_
        obtain ⟨b21, hF⟩ := gGd hF
        refine gx_laload C (is_X10_voltLow A0) b21 (gDec_at D_X10_layVoltage 96 rfl) ?_
        obtain ⟨v23, hv22, hF⟩ := gBind hF
        refine gx_callV0 C (st := []) 4 [.long (v19.2 a0 17), .long (v19.2 a0 18), .long (v19.2 (a0 + 11) (gN x1)), .long (v19.2 (a0 + 12) (gN x1))] (m_X10_product w v19 A0 (v19.2 a0 17) (v19.2 a0 18) (v19.2 (a0 + 11) (gN x1)) (v19.2 (a0 + 12) (gN x1)) hv22) gX10_layVoltage_X10_product rfl rfl rfl hy_X10_product (Nat.le_of_ble_eq_true rfl) (Nat.le_of_ble_eq_true rfl) (is_X10_sh A0) rfl rfl rfl (Nat.le_of_ble_eq_true rfl) (gDec_at D_X10_layVoltage 97 rfl) ?_
        obtain rfl := Option.some.inj hF
        exact gx_sub [0, 1] rfl k10
    · replace hF := gPos c hF
      refine gx_aload_n C 0 (gDec_at D_X10_layVoltage 36 rfl) rfl rfl ?_
      refine gx_getr C fl_X10_layVoltage_39 (is_X10_sh A0) rfl (gDec_at D_X10_layVoltage 37 rfl) ?_
      refine gx_iload_n C 1 (gDec_at D_X10_layVoltage 38 rfl) rfl rfl ?_
      obtain ⟨b24, hF⟩ := gGd hF
      refine gx_laload C (is_X10_lower A0) b24 (gDec_at D_X10_layVoltage 39 rfl) ?_
      refine gx_lconst C (v := 0) (gDec_at D_X10_layVoltage 40 rfl) (by decide) ?_
      refine gx_lcmp_ne C 156 (gDec_at D_X10_layVoltage 41 rfl) (gDec_at D_X10_layVoltage 42 rfl) (by decide) (fun c => ?_) (fun c => ?_)
      · replace hF := gNeg c hF
        obtain rfl := Option.some.inj hF
        exact gx_sub [0, 1] rfl k10
      · replace hF := gPos c hF
        refine gx_aload_n C 0 (gDec_at D_X10_layVoltage 43 rfl) rfl rfl ?_
        refine gx_aload_n C 0 (gDec_at D_X10_layVoltage 44 rfl) rfl rfl ?_
        refine gx_getr C fl_X10_layVoltage_42 (is_X10_sh A0) rfl (gDec_at D_X10_layVoltage 45 rfl) ?_
        refine gx_iload_n C 1 (gDec_at D_X10_layVoltage 46 rfl) rfl rfl ?_
        obtain ⟨b25, hF⟩ := gGd hF
        refine gx_laload C (is_X10_voltUp A0) b25 (gDec_at D_X10_layVoltage 47 rfl) ?_
        refine gx_aload_n C 0 (gDec_at D_X10_layVoltage 48 rfl) rfl rfl ?_
        refine gx_getr C fl_X10_layVoltage_45 (is_X10_sh A0) rfl (gDec_at D_X10_layVoltage 49 rfl) ?_
        refine gx_iload_n C 1 (gDec_at D_X10_layVoltage 50 rfl) rfl rfl ?_
        obtain ⟨b26, hF⟩ := gGd hF
        refine gx_laload C (is_X10_voltLow A0) b26 (gDec_at D_X10_layVoltage 51 rfl) ?_
        refine gx_lconst C (v := 1) (gDec_at D_X10_layVoltage 52 rfl) (by decide) ?_
        refine gx_aload_n C 0 (gDec_at D_X10_layVoltage 53 rfl) rfl rfl ?_
        refine gx_iload_n C 2 (gDec_at D_X10_layVoltage 54 rfl) rfl rfl ?_
        obtain ⟨v28, hv27, hF⟩ := gBind hF
        refine gx_callV1 C (st := .long 1 :: .long ((gsL (gsL (gsL (gsL h (a0 + 11) (gN x1) (h.2 (a0 + 11) (gN x2))) (a0 + 12) (gN x1) ((gsL h (a0 + 11) (gN x1) (h.2 (a0 + 11) (gN x2))).2 (a0 + 12) (gN x2))) a0 17 0) a0 18 1).2 (a0 + 12) (gN x1)) :: .long ((gsL (gsL (gsL (gsL h (a0 + 11) (gN x1) (h.2 (a0 + 11) (gN x2))) (a0 + 12) (gN x1) ((gsL h (a0 + 11) (gN x1) (h.2 (a0 + 11) (gN x2))).2 (a0 + 12) (gN x2))) a0 17 0) a0 18 1).2 (a0 + 11) (gN x1)) :: .ref a0 :: []) 1 [.int x2] (m_X10_infinite w (gsL (gsL (gsL (gsL h (a0 + 11) (gN x1) (h.2 (a0 + 11) (gN x2))) (a0 + 12) (gN x1) ((gsL h (a0 + 11) (gN x1) (h.2 (a0 + 11) (gN x2))).2 (a0 + 12) (gN x2))) a0 17 0) a0 18 1) A0 x2 hv27) gX10_layVoltage_X10_infinite rfl rfl rfl hy_X10_infinite (Nat.le_of_ble_eq_true rfl) (Nat.le_of_ble_eq_true rfl) (is_X10_sh A0) rfl rfl rfl (Nat.le_of_ble_eq_true rfl) (gDec_at D_X10_layVoltage 55 rfl) ?_
        refine gx_i2l C (gDec_at D_X10_layVoltage 56 rfl) ?_
        obtain ⟨v30, hv29, hF⟩ := gBind hF
        refine gx_callV0 C (st := []) 4 [.long ((gsL (gsL (gsL (gsL h (a0 + 11) (gN x1) (h.2 (a0 + 11) (gN x2))) (a0 + 12) (gN x1) ((gsL h (a0 + 11) (gN x1) (h.2 (a0 + 11) (gN x2))).2 (a0 + 12) (gN x2))) a0 17 0) a0 18 1).2 (a0 + 11) (gN x1)), .long ((gsL (gsL (gsL (gsL h (a0 + 11) (gN x1) (h.2 (a0 + 11) (gN x2))) (a0 + 12) (gN x1) ((gsL h (a0 + 11) (gN x1) (h.2 (a0 + 11) (gN x2))).2 (a0 + 12) (gN x2))) a0 17 0) a0 18 1).2 (a0 + 12) (gN x1)), .long 1, .long v28.toInt64] (m_X10_product w (gsL (gsL (gsL (gsL h (a0 + 11) (gN x1) (h.2 (a0 + 11) (gN x2))) (a0 + 12) (gN x1) ((gsL h (a0 + 11) (gN x1) (h.2 (a0 + 11) (gN x2))).2 (a0 + 12) (gN x2))) a0 17 0) a0 18 1) A0 ((gsL (gsL (gsL (gsL h (a0 + 11) (gN x1) (h.2 (a0 + 11) (gN x2))) (a0 + 12) (gN x1) ((gsL h (a0 + 11) (gN x1) (h.2 (a0 + 11) (gN x2))).2 (a0 + 12) (gN x2))) a0 17 0) a0 18 1).2 (a0 + 11) (gN x1)) ((gsL (gsL (gsL (gsL h (a0 + 11) (gN x1) (h.2 (a0 + 11) (gN x2))) (a0 + 12) (gN x1) ((gsL h (a0 + 11) (gN x1) (h.2 (a0 + 11) (gN x2))).2 (a0 + 12) (gN x2))) a0 17 0) a0 18 1).2 (a0 + 12) (gN x1)) 1 v28.toInt64 hv29) gX10_layVoltage_X10_product rfl rfl rfl hy_X10_product (Nat.le_of_ble_eq_true rfl) (Nat.le_of_ble_eq_true rfl) (is_X10_sh A0) rfl rfl rfl (Nat.le_of_ble_eq_true rfl) (gDec_at D_X10_layVoltage 57 rfl) ?_
        refine gx_goto C 156 (gDec_at D_X10_layVoltage 58 rfl) (by decide) ?_
        obtain rfl := Option.some.inj hF
        exact gx_sub [0, 1] rfl k10
  · replace hF := gPos c hF
    obtain rfl := Option.some.inj hF
    exact gx_vret C E (gDec_at D_X10_layVoltage 22 rfl)
/-! LadderBenchModel.layVoltages -/
def rm_X10_layVoltages : Room := { frames := 4, cells := 0, slots := 0, locals := 109 }
set_option maxRecDepth 20000 in
theorem ggX10_layVoltages_X10_layVoltage : GoodIn wsX10_layVoltages wsX10_layVoltage := goodIn_r _ [16, 1, 3, 17, 18, 19, 20, 9, 10, 11, 7, 12, 2, 21, 22, 23, 24, 25, 26, 27, 28, 29, 30, 31, 32, 33, 34, 35, 36, 37, 38, 39, 40, 41, 42, 43, 44, 45, 46, 47, 48, 49, 50, 51, 52, 53, 54, 55, 56, 57, 58, 59, 60, 61] (by decide +kernel) (by decide +kernel)
set_option maxRecDepth 20000 in
theorem gX10_layVoltages_X10_layVoltage : GoodIn wsX10_layVoltages (wsV RX10 220 RX10 yX10_layVoltage wsX10_layVoltage) := goodIn_app (goodIn_of _ (by decide +kernel)) ggX10_layVoltages_X10_layVoltage
set_option maxRecDepth 20000 in
theorem ggX10_layVoltages_X10_ofPart : GoodIn wsX10_layVoltages wsX10_ofPart := goodIn_r _ [12, 2, 36, 37, 38, 39, 40, 41, 42, 43, 44, 45, 46, 47, 48, 49, 50, 51, 52, 53, 54, 55, 56, 57, 58, 59, 60, 61] (by decide +kernel) (by decide +kernel)
set_option maxRecDepth 20000 in
theorem gX10_layVoltages_X10_ofPart : GoodIn wsX10_layVoltages (wsV RX10 130 RX10 yX10_ofPart wsX10_ofPart) := goodIn_app (goodIn_of _ (by decide +kernel)) ggX10_layVoltages_X10_ofPart
set_option maxRecDepth 20000 in
theorem ggX10_layVoltages_X10_parts : GoodIn wsX10_layVoltages wsX10_parts := goodIn_r _ [8, 2, 36, 37, 38, 39, 40, 41, 42, 43, 44, 45, 46, 47, 48, 49, 50, 51, 52, 53, 54, 55, 56, 57, 58, 59, 60, 61] (by decide +kernel) (by decide +kernel)
set_option maxRecDepth 20000 in
theorem gX10_layVoltages_X10_parts : GoodIn wsX10_layVoltages (wsV RX10 56 RX10 yX10_parts wsX10_parts) := goodIn_app (goodIn_of _ (by decide +kernel)) ggX10_layVoltages_X10_parts
theorem hy_X10_layVoltages : yX10_layVoltages.cls = RX10 ∧ yX10_layVoltages.cls ≠ "java/lang/invoke/MethodHandle" ∧ yX10_layVoltages.cls ≠ "java/lang/invoke/VarHandle" ∧ (parseMethodDescriptor yX10_layVoltages.desc).map (fun d => d.parameters.length) = some 1 := by decide +kernel
set_option maxRecDepth 100000 in
theorem D_X10_layVoltages : gDec cX10_layVoltages [(0, (.aload_n 0, 1)), (1, (.invokevirtual 56, 3)), (4, (.istore_n 2, 1)), (5, (.aload_n 0, 1)), (6, (.getfield 42, 3)), (9, (.iload_n 2, 1)), (10, (.iconst 1, 1)), (11, (.isub, 1)), (12, (.aload_n 0, 1)), (13, (.getfield 7, 3)), (16, (.iconst 1, 1)), (17, (.laload, 1)), (18, (.lastore, 1)), (19, (.aload_n 0, 1)), (20, (.getfield 45, 3)), (23, (.iload_n 2, 1)), (24, (.iconst 1, 1)), (25, (.isub, 1)), (26, (.lconst 1, 1)), (27, (.lastore, 1)), (28, (.iload_n 2, 1)), (29, (.iconst 2, 1)), (30, (.isub, 1)), (31, (.istore_n 3, 1)), (32, (.iload_n 3, 1)), (33, (.iload_n 1, 1)), (34, (.if_icmp .lt 20, 3)), (37, (.aload_n 0, 1)), (38, (.iload_n 3, 1)), (39, (.aload_n 0, 1)), (40, (.iload_n 3, 1)), (41, (.iconst 1, 1)), (42, (.invokevirtual 130, 3)), (45, (.invokevirtual 220, 3)), (48, (.iinc 3 (-1), 3)), (51, (.goto (-19), 3)), (54, (.return_, 1))] = true := by decide +kernel
set_option maxRecDepth 100000 in
theorem in_X10_layVoltages_X10 : ∀ x ∈ u_ws RX10 TX10 26, x ∈ wsX10_layVoltages := by decide +kernel
theorem fl_X10_layVoltages_42 : gF wsX10_layVoltages RX10 42 10 24 := ⟨RX10, TX10, 26, rfl, by decide, in_X10_layVoltages_X10, by decide +kernel⟩
theorem fl_X10_layVoltages_7 : gF wsX10_layVoltages RX10 7 10 0 := ⟨RX10, TX10, 26, rfl, by decide, in_X10_layVoltages_X10, by decide +kernel⟩
theorem fl_X10_layVoltages_45 : gF wsX10_layVoltages RX10 45 10 25 := ⟨RX10, TX10, 26, rfl, by decide, in_X10_layVoltages_X10, by decide +kernel⟩
def f_X10_layVoltages_32 (a0 : Nat) (x1 : Int32) : Nat → Int32 → gHp → Option (gHp)
  | 0, _, _ => none
  | n + 1, x3, h => if x3 < x1 then some h else (f_X10_ofPart a0 x3 1 h).bind fun v7 => (f_X10_layVoltage a0 x3 v7 h).bind fun v9 => f_X10_layVoltages_32 a0 x1 n (x3 + (-1)) v9
set_option maxRecDepth 20000 in
set_option maxHeartbeats 4000000 in
theorem w_X10_layVoltages_32 {w : gWd} {g : gCx} (C : gC w g cX10_layVoltages wsX10_layVoltages RX10 4 4 109) {a0 : Nat} (A0 : is_X10 w a0) (x1 : Int32)  {o : gHp} (hk : gX w g 4 o 54 [] []) : ∀ (n : Nat) (x3 : Int32) (h : gHp), f_X10_layVoltages_32 a0 x1 n x3 h = some o → gX w g 4 h 32 [(0, .ref a0), (1, .int x1), (3, .int x3)] [] := by
  intro n
  induction n with
  | zero => intro _ _ hF; cases hF
  | succ n ih =>
    intro x3 h hF
    rw [f_X10_layVoltages_32] at hF
    refine gx_iload_n C 2 (gDec_at D_X10_layVoltages 24 rfl) rfl rfl ?_
    refine gx_iload_n C 1 (gDec_at D_X10_layVoltages 25 rfl) rfl rfl ?_
    refine gx_icmp_lt C 54 (gDec_at D_X10_layVoltages 26 rfl) (by decide) (fun c => ?_) (fun c => ?_)
    · replace hF := gPos c hF
      obtain rfl := Option.some.inj hF
      exact gx_sub [] rfl hk
    · replace hF := gNeg c hF
      refine gx_aload_n C 0 (gDec_at D_X10_layVoltages 27 rfl) rfl rfl ?_
      refine gx_iload_n C 2 (gDec_at D_X10_layVoltages 28 rfl) rfl rfl ?_
      refine gx_aload_n C 0 (gDec_at D_X10_layVoltages 29 rfl) rfl rfl ?_
      refine gx_iload_n C 2 (gDec_at D_X10_layVoltages 30 rfl) rfl rfl ?_
      refine gx_iconst C (v := 1) (gDec_at D_X10_layVoltages 31 rfl) (by decide) ?_
      obtain ⟨v7, hv6, hF⟩ := gBind hF
      refine gx_callV1 C (st := .int x3 :: .ref a0 :: []) 2 [.int x3, .int 1] (m_X10_ofPart w h A0 x3 1 hv6) gX10_layVoltages_X10_ofPart rfl rfl rfl hy_X10_ofPart (Nat.le_of_ble_eq_true rfl) (Nat.le_of_ble_eq_true rfl) (is_X10_sh A0) rfl rfl rfl (Nat.le_of_ble_eq_true rfl) (gDec_at D_X10_layVoltages 32 rfl) ?_
      obtain ⟨v9, hv8, hF⟩ := gBind hF
      refine gx_callV0 C (st := []) 2 [.int x3, .int v7] (m_X10_layVoltage w h A0 x3 v7 hv8) gX10_layVoltages_X10_layVoltage rfl rfl rfl hy_X10_layVoltage (Nat.le_of_ble_eq_true rfl) (Nat.le_of_ble_eq_true rfl) (is_X10_sh A0) rfl rfl rfl (Nat.le_of_ble_eq_true rfl) (gDec_at D_X10_layVoltages 33 rfl) ?_
      refine gx_iinc C (j := 2) (v := x3 + (-1)) (lv' := [(3, .int (x3 + (-1))), (0, .ref a0), (1, .int x1)]) (gDec_at D_X10_layVoltages 34 rfl) rfl (by rfl) (Nat.le_of_ble_eq_true rfl) rfl ?_
      refine gx_goto C 32 (gDec_at D_X10_layVoltages 35 rfl) (by decide) ?_
      exact gx_sub [1, 2, 0] rfl (ih (x3 + (-1)) v9 hF)
def f_X10_layVoltages (a0 : Nat) (x1 : Int32) (h : gHp) : Option (gHp) := (f_X10_parts a0 h).bind fun v2 => if gIn 1 141 then if gIn (v2 - 1) 11 then if gIn (v2 - 1) 11 then (f_X10_layVoltages_32 a0 x1 gFuel (v2 - 2) (gsL (gsL h (a0 + 11) (gN (v2 - 1)) (h.2 (a0 + 1) (gN 1))) (a0 + 12) (gN (v2 - 1)) 1)).bind fun v10 => some v10 else none else none else none
set_option maxRecDepth 20000 in
set_option maxHeartbeats 4000000 in
theorem m_X10_layVoltages (w : gWd) (h : gHp) {a0 : Nat} (A0 : is_X10 w a0) (x1 : Int32) {o : gHp} (hF : f_X10_layVoltages a0 x1 h = some o) : gMet w yX10_layVoltages wsX10_layVoltages rm_X10_layVoltages [.ref a0, .int x1] h (none) o := by
  refine gMet_of (cc := cX10_layVoltages) (maxL := 4) (ret := none) (fr := 4) (lo := 109) (own := RX10) [(0, .ref a0), (1, .int x1)] (by decide) rfl rfl (Nat.le_of_ble_eq_true rfl) rfl (Nat.le_refl _) (Nat.le_refl _) (fun g C E => ?_)
  rw [f_X10_layVoltages] at hF
  refine gx_aload_n C 0 (gDec_at D_X10_layVoltages 0 rfl) rfl rfl ?_
  obtain ⟨v2, hv1, hF⟩ := gBind hF
  refine gx_callV1 C (st := []) 0 [] (m_X10_parts w h A0 hv1) gX10_layVoltages_X10_parts rfl rfl rfl hy_X10_parts (Nat.le_of_ble_eq_true rfl) (Nat.le_of_ble_eq_true rfl) (is_X10_sh A0) rfl rfl rfl (Nat.le_of_ble_eq_true rfl) (gDec_at D_X10_layVoltages 1 rfl) ?_
  refine gx_istore_n C (lv' := [(2, .int v2), (0, .ref a0), (1, .int x1)]) (gDec_at D_X10_layVoltages 2 rfl) rfl (Nat.le_of_ble_eq_true rfl) rfl ?_
  refine gx_aload_n C 1 (gDec_at D_X10_layVoltages 3 rfl) rfl rfl ?_
  refine gx_getr C fl_X10_layVoltages_42 (is_X10_sh A0) rfl (gDec_at D_X10_layVoltages 4 rfl) ?_
  refine gx_iload_n C 0 (gDec_at D_X10_layVoltages 5 rfl) rfl rfl ?_
  refine gx_iconst C (v := 1) (gDec_at D_X10_layVoltages 6 rfl) (by decide) ?_
  refine gx_isub C (gDec_at D_X10_layVoltages 7 rfl) ?_
  refine gx_aload_n C 1 (gDec_at D_X10_layVoltages 8 rfl) rfl rfl ?_
  refine gx_getr C fl_X10_layVoltages_7 (is_X10_sh A0) rfl (gDec_at D_X10_layVoltages 9 rfl) ?_
  refine gx_iconst C (v := 1) (gDec_at D_X10_layVoltages 10 rfl) (by decide) ?_
  obtain ⟨b3, hF⟩ := gGd hF
  refine gx_laload C (is_X10_now A0) b3 (gDec_at D_X10_layVoltages 11 rfl) ?_
  obtain ⟨b4, hF⟩ := gGd hF
  refine gx_lastore C (is_X10_voltUp A0) b4 (gDec_at D_X10_layVoltages 12 rfl) ?_
  refine gx_aload_n C 1 (gDec_at D_X10_layVoltages 13 rfl) rfl rfl ?_
  refine gx_getr C fl_X10_layVoltages_45 (is_X10_sh A0) rfl (gDec_at D_X10_layVoltages 14 rfl) ?_
  refine gx_iload_n C 0 (gDec_at D_X10_layVoltages 15 rfl) rfl rfl ?_
  refine gx_iconst C (v := 1) (gDec_at D_X10_layVoltages 16 rfl) (by decide) ?_
  refine gx_isub C (gDec_at D_X10_layVoltages 17 rfl) ?_
  refine gx_lconst C (v := 1) (gDec_at D_X10_layVoltages 18 rfl) (by decide) ?_
  obtain ⟨b5, hF⟩ := gGd hF
  refine gx_lastore C (is_X10_voltLow A0) b5 (gDec_at D_X10_layVoltages 19 rfl) ?_
  refine gx_iload_n C 0 (gDec_at D_X10_layVoltages 20 rfl) rfl rfl ?_
  refine gx_iconst C (v := 2) (gDec_at D_X10_layVoltages 21 rfl) (by decide) ?_
  refine gx_isub C (gDec_at D_X10_layVoltages 22 rfl) ?_
  refine gx_istore_n C (lv' := [(3, .int (v2 - 2)), (2, .int v2), (0, .ref a0), (1, .int x1)]) (gDec_at D_X10_layVoltages 23 rfl) rfl (Nat.le_of_ble_eq_true rfl) rfl ?_
  obtain ⟨v10, hv11, hF⟩ := gBind hF
  have k12 : gX w g 4 v10 54 [] [] := by
    obtain rfl := Option.some.inj hF
    exact gx_vret C E (gDec_at D_X10_layVoltages 36 rfl)
  exact gx_sub [2, 3, 0] rfl (w_X10_layVoltages_32 C A0 x1 k12 gFuel (v2 - 2) (gsL (gsL h (a0 + 11) (gN (v2 - 1)) (h.2 (a0 + 1) (gN 1))) (a0 + 12) (gN (v2 - 1)) 1) hv11)
/-! LadderBenchModel.findVoltage -/
def rm_X10_findVoltage : Room := { frames := 6, cells := 0, slots := 0, locals := 160 }
set_option maxRecDepth 20000 in
theorem ggX10_findVoltage_X10_lay : GoodIn wsX10_findVoltage wsX10_lay := goodIn_r _ [9, 10, 11, 12, 13, 14, 15, 8, 16, 17, 18, 19, 20, 21, 22, 23, 24, 25, 26, 27, 28, 29, 30, 31, 32, 2, 4, 33, 34, 35, 36, 37, 38, 39, 40, 41, 42, 43, 44, 45, 46, 47, 48, 49, 50, 51, 52, 53, 54, 55, 56, 57, 58, 75, 76, 77, 78, 79, 80, 81, 82, 83, 84, 85, 86, 87, 88, 89, 90, 91, 92, 93, 94, 95, 96, 97, 98, 99, 100] (by decide +kernel) (by decide +kernel)
set_option maxRecDepth 20000 in
theorem gX10_findVoltage_X10_lay : GoodIn wsX10_findVoltage (wsV RX10 209 RX10 yX10_lay wsX10_lay) := goodIn_app (goodIn_of _ (by decide +kernel)) ggX10_findVoltage_X10_lay
set_option maxRecDepth 20000 in
theorem ggX10_findVoltage_X10_layVoltages : GoodIn wsX10_findVoltage wsX10_layVoltages := goodIn_r _ [62, 1, 12, 3, 13, 14, 15, 8, 16, 17, 18, 19, 20, 63, 64, 65, 66, 2, 4, 11, 10, 67, 68, 69, 70, 71, 72, 73, 74, 37, 38, 39, 40, 41, 42, 43, 75, 76, 77, 78, 79, 80, 81, 82, 83, 84, 85, 86, 87, 88, 89, 90, 91, 92, 93, 94, 95, 96, 97, 98, 99, 100] (by decide +kernel) (by decide +kernel)
set_option maxRecDepth 20000 in
theorem gX10_findVoltage_X10_layVoltages : GoodIn wsX10_findVoltage (wsV RX10 223 RX10 yX10_layVoltages wsX10_layVoltages) := goodIn_app (goodIn_of _ (by decide +kernel)) ggX10_findVoltage_X10_layVoltages
theorem hy_X10_findVoltage : yX10_findVoltage.cls = RX10 ∧ yX10_findVoltage.cls ≠ "java/lang/invoke/MethodHandle" ∧ yX10_findVoltage.cls ≠ "java/lang/invoke/VarHandle" ∧ (parseMethodDescriptor yX10_findVoltage.desc).map (fun d => d.parameters.length) = some 2 := by decide +kernel
set_option maxRecDepth 100000 in
theorem D_X10_findVoltage : gDec cX10_findVoltage [(0, (.aload_n 0, 1)), (1, (.iload_n 2, 1)), (2, (.bipush (-4), 2)), (4, (.iconst 0, 1)), (5, (.invokevirtual 209, 3)), (8, (.aload_n 0, 1)), (9, (.iload_n 1, 1)), (10, (.invokevirtual 223, 3)), (13, (.aload_n 0, 1)), (14, (.aload_n 0, 1)), (15, (.getfield 42, 3)), (18, (.iload_n 1, 1)), (19, (.laload, 1)), (20, (.putfield 165, 3)), (23, (.aload_n 0, 1)), (24, (.aload_n 0, 1)), (25, (.getfield 45, 3)), (28, (.iload_n 1, 1)), (29, (.laload, 1)), (30, (.putfield 169, 3)), (33, (.return_, 1))] = true := by decide +kernel
set_option maxRecDepth 100000 in
theorem in_X10_findVoltage_X10 : ∀ x ∈ u_ws RX10 TX10 26, x ∈ wsX10_findVoltage := by decide +kernel
theorem fl_X10_findVoltage_42 : gF wsX10_findVoltage RX10 42 10 24 := ⟨RX10, TX10, 26, rfl, by decide, in_X10_findVoltage_X10, by decide +kernel⟩
theorem flw_X10_findVoltage_165 : gFw wsX10_findVoltage RX10 165 10 17 .long := ⟨RX10, TX10, 26, tyX10, rfl, by decide, in_X10_findVoltage_X10, by decide +kernel, tyX10_ok, nmX10, rfl, by decide +kernel⟩
theorem fl_X10_findVoltage_45 : gF wsX10_findVoltage RX10 45 10 25 := ⟨RX10, TX10, 26, rfl, by decide, in_X10_findVoltage_X10, by decide +kernel⟩
theorem flw_X10_findVoltage_169 : gFw wsX10_findVoltage RX10 169 10 18 .long := ⟨RX10, TX10, 26, tyX10, rfl, by decide, in_X10_findVoltage_X10, by decide +kernel, tyX10_ok, nmX10, rfl, by decide +kernel⟩
def f_X10_findVoltage (a0 : Nat) (x1 : Int32) (x2 : Int32) (h : gHp) : Option (gHp) := (f_X10_lay a0 x2 (-4) 0 h).bind fun v2 => (f_X10_layVoltages a0 x1 v2).bind fun v4 => if gIn x1 11 then if gIn x1 11 then some (gsL (gsL v4 a0 17 (v4.2 (a0 + 11) (gN x1))) a0 18 ((gsL v4 a0 17 (v4.2 (a0 + 11) (gN x1))).2 (a0 + 12) (gN x1))) else none else none
set_option maxRecDepth 20000 in
set_option maxHeartbeats 4000000 in
theorem m_X10_findVoltage (w : gWd) (h : gHp) {a0 : Nat} (A0 : is_X10 w a0) (x1 : Int32) (x2 : Int32) {o : gHp} (hF : f_X10_findVoltage a0 x1 x2 h = some o) : gMet w yX10_findVoltage wsX10_findVoltage rm_X10_findVoltage [.ref a0, .int x1, .int x2] h (none) o := by
  refine gMet_of (cc := cX10_findVoltage) (maxL := 3) (ret := none) (fr := 6) (lo := 160) (own := RX10) [(0, .ref a0), (1, .int x1), (2, .int x2)] (by decide) rfl rfl (Nat.le_of_ble_eq_true rfl) rfl (Nat.le_refl _) (Nat.le_refl _) (fun g C E => ?_)
  rw [f_X10_findVoltage] at hF
  refine gx_aload_n C 0 (gDec_at D_X10_findVoltage 0 rfl) rfl rfl ?_
  refine gx_iload_n C 2 (gDec_at D_X10_findVoltage 1 rfl) rfl rfl ?_
  refine gx_bipush C (v := (-4)) (gDec_at D_X10_findVoltage 2 rfl) (by decide) ?_
  refine gx_iconst C (v := 0) (gDec_at D_X10_findVoltage 3 rfl) (by decide) ?_
  obtain ⟨v2, hv1, hF⟩ := gBind hF
  refine gx_callV0 C (st := []) 3 [.int x2, .int (-4), .int 0] (m_X10_lay w h A0 x2 (-4) 0 hv1) gX10_findVoltage_X10_lay rfl rfl rfl hy_X10_lay (Nat.le_of_ble_eq_true rfl) (Nat.le_of_ble_eq_true rfl) (is_X10_sh A0) rfl rfl rfl (Nat.le_of_ble_eq_true rfl) (gDec_at D_X10_findVoltage 4 rfl) ?_
  refine gx_aload_n C 0 (gDec_at D_X10_findVoltage 5 rfl) rfl rfl ?_
  refine gx_iload_n C 1 (gDec_at D_X10_findVoltage 6 rfl) rfl rfl ?_
  obtain ⟨v4, hv3, hF⟩ := gBind hF
  refine gx_callV0 C (st := []) 1 [.int x1] (m_X10_layVoltages w v2 A0 x1 hv3) gX10_findVoltage_X10_layVoltages rfl rfl rfl hy_X10_layVoltages (Nat.le_of_ble_eq_true rfl) (Nat.le_of_ble_eq_true rfl) (is_X10_sh A0) rfl rfl rfl (Nat.le_of_ble_eq_true rfl) (gDec_at D_X10_findVoltage 7 rfl) ?_
  refine gx_aload_n C 0 (gDec_at D_X10_findVoltage 8 rfl) rfl rfl ?_
  refine gx_aload_n C 0 (gDec_at D_X10_findVoltage 9 rfl) rfl rfl ?_
  refine gx_getr C fl_X10_findVoltage_42 (is_X10_sh A0) rfl (gDec_at D_X10_findVoltage 10 rfl) ?_
  refine gx_iload_n C 1 (gDec_at D_X10_findVoltage 11 rfl) rfl rfl ?_
  obtain ⟨b5, hF⟩ := gGd hF
  refine gx_laload C (is_X10_voltUp A0) b5 (gDec_at D_X10_findVoltage 12 rfl) ?_
  refine gx_putL C flw_X10_findVoltage_165 (is_X10_sh A0) rfl rfl rfl (gDec_at D_X10_findVoltage 13 rfl) ?_
  refine gx_aload_n C 0 (gDec_at D_X10_findVoltage 14 rfl) rfl rfl ?_
  refine gx_aload_n C 0 (gDec_at D_X10_findVoltage 15 rfl) rfl rfl ?_
  refine gx_getr C fl_X10_findVoltage_45 (is_X10_sh A0) rfl (gDec_at D_X10_findVoltage 16 rfl) ?_
  refine gx_iload_n C 1 (gDec_at D_X10_findVoltage 17 rfl) rfl rfl ?_
  obtain ⟨b6, hF⟩ := gGd hF
  refine gx_laload C (is_X10_voltLow A0) b6 (gDec_at D_X10_findVoltage 18 rfl) ?_
  refine gx_putL C flw_X10_findVoltage_169 (is_X10_sh A0) rfl rfl rfl (gDec_at D_X10_findVoltage 19 rfl) ?_
  obtain rfl := Option.some.inj hF
  exact gx_vret C E (gDec_at D_X10_findVoltage 20 rfl)
/-! LadderBenchModel.voltage -/
def rm_X10_voltage : Room := { frames := 7, cells := 0, slots := 0, locals := 182 }
set_option maxRecDepth 20000 in
theorem ggX10_voltage_X10_findVoltage : GoodIn wsX10_voltage wsX10_findVoltage := goodIn_r _ [23, 24, 1, 25, 2, 26, 27, 28, 6, 29, 30, 31, 16, 12, 13, 14, 15, 32, 33, 34, 35, 36, 37, 38, 39, 40, 41, 42, 43, 44, 45, 46, 47, 48, 49, 50, 51, 52, 53, 54, 55, 56, 57, 58, 59, 60, 61, 62, 63, 64, 65, 66, 67, 68, 69, 70, 71, 72, 73, 74, 75, 76, 77, 78, 79, 80, 81, 82, 83, 84, 85, 86, 87, 88, 89, 90, 91, 92, 93, 94, 95, 96, 97, 98, 99, 100, 101, 102, 103, 104, 105, 106, 107, 108, 109, 110, 111, 112, 113, 114, 115] (by decide +kernel) (by decide +kernel)
set_option maxRecDepth 20000 in
theorem gX10_voltage_X10_findVoltage : GoodIn wsX10_voltage (wsV RX10 226 RX10 yX10_findVoltage wsX10_findVoltage) := goodIn_app (goodIn_of _ (by decide +kernel)) ggX10_voltage_X10_findVoltage
set_option maxRecDepth 20000 in
theorem ggX10_voltage_X10_telling : GoodIn wsX10_voltage wsX10_telling := goodIn_r _ [7, 8, 9, 10, 6, 11, 12, 13, 14, 15, 16, 17, 18, 19, 90, 91, 92, 93, 94, 95, 96, 97, 98, 99, 100, 101, 102, 103, 104, 105, 106, 107, 108, 109, 110, 111, 112, 113, 114, 115] (by decide +kernel) (by decide +kernel)
set_option maxRecDepth 20000 in
theorem gX10_voltage_X10_telling : GoodIn wsX10_voltage (wsV RX10 206 RX10 yX10_telling wsX10_telling) := goodIn_app (goodIn_of _ (by decide +kernel)) ggX10_voltage_X10_telling
theorem hy_X10_voltage : yX10_voltage.cls = RX10 ∧ yX10_voltage.cls ≠ "java/lang/invoke/MethodHandle" ∧ yX10_voltage.cls ≠ "java/lang/invoke/VarHandle" ∧ (parseMethodDescriptor yX10_voltage.desc).map (fun d => d.parameters.length) = some 2 := by decide +kernel
set_option maxRecDepth 100000 in
theorem D_X10_voltage : gDec cX10_voltage [(0, (.aload_n 0, 1)), (1, (.iload_n 1, 1)), (2, (.iload_n 2, 1)), (3, (.invokevirtual 206, 3)), (6, (.istore_n 3, 1)), (7, (.iload_n 3, 1)), (8, (.ifCond .eq 6, 3)), (11, (.iload_n 3, 1)), (12, (.i2l, 1)), (13, (.lreturn, 1)), (14, (.aload_n 0, 1)), (15, (.iload_n 1, 1)), (16, (.bipush (-4), 2)), (18, (.invokevirtual 226, 3)), (21, (.iload_n 2, 1)), (22, (.ifCond .ne 10, 3)), (25, (.aload_n 0, 1)), (26, (.getfield 165, 3)), (29, (.goto 7, 3)), (32, (.aload_n 0, 1)), (33, (.getfield 169, 3)), (36, (.lreturn, 1))] = true := by decide +kernel
set_option maxRecDepth 100000 in
theorem in_X10_voltage_X10 : ∀ x ∈ u_ws RX10 TX10 26, x ∈ wsX10_voltage := by decide +kernel
theorem fl_X10_voltage_169 : gF wsX10_voltage RX10 169 10 18 := ⟨RX10, TX10, 26, rfl, by decide, in_X10_voltage_X10, by decide +kernel⟩
theorem fl_X10_voltage_165 : gF wsX10_voltage RX10 165 10 17 := ⟨RX10, TX10, 26, rfl, by decide, in_X10_voltage_X10, by decide +kernel⟩
def f_X10_voltage (a0 : Nat) (x1 : Int32) (x2 : Int32) (h : gHp) : Option (Int64 × gHp) := (f_X10_telling a0 x1 x2 h).bind fun v2 => if v2 = 0 then (f_X10_findVoltage a0 x1 (-4) h).bind fun v4 => if x2 = 0 then some (v4.2 a0 17, v4) else some (v4.2 a0 18, v4) else some (v2.toInt64, h)
set_option maxRecDepth 20000 in
set_option maxHeartbeats 4000000 in
theorem m_X10_voltage (w : gWd) (h : gHp) {a0 : Nat} (A0 : is_X10 w a0) (x1 : Int32) (x2 : Int32) {o : Int64 × gHp} (hF : f_X10_voltage a0 x1 x2 h = some o) : gMet w yX10_voltage wsX10_voltage rm_X10_voltage [.ref a0, .int x1, .int x2] h (some (.long o.1)) o.2 := by
  refine gMet_of (cc := cX10_voltage) (maxL := 4) (ret := (some .long)) (fr := 7) (lo := 182) (own := RX10) [(0, .ref a0), (1, .int x1), (2, .int x2)] (by decide) rfl rfl (Nat.le_of_ble_eq_true rfl) rfl (Nat.le_refl _) (Nat.le_refl _) (fun g C E => ?_)
  rw [f_X10_voltage] at hF
  refine gx_aload_n C 0 (gDec_at D_X10_voltage 0 rfl) rfl rfl ?_
  refine gx_iload_n C 1 (gDec_at D_X10_voltage 1 rfl) rfl rfl ?_
  refine gx_iload_n C 2 (gDec_at D_X10_voltage 2 rfl) rfl rfl ?_
  obtain ⟨v2, hv1, hF⟩ := gBind hF
  refine gx_callV1 C (st := []) 2 [.int x1, .int x2] (m_X10_telling w h A0 x1 x2 hv1) gX10_voltage_X10_telling rfl rfl rfl hy_X10_telling (Nat.le_of_ble_eq_true rfl) (Nat.le_of_ble_eq_true rfl) (is_X10_sh A0) rfl rfl rfl (Nat.le_of_ble_eq_true rfl) (gDec_at D_X10_voltage 3 rfl) ?_
  refine gx_istore_n C (lv' := [(3, .int v2), (0, .ref a0), (1, .int x1), (2, .int x2)]) (gDec_at D_X10_voltage 4 rfl) rfl (Nat.le_of_ble_eq_true rfl) rfl ?_
  refine gx_iload_n C 0 (gDec_at D_X10_voltage 5 rfl) rfl rfl ?_
  refine gx_if_eq C 14 (gDec_at D_X10_voltage 6 rfl) (by decide) (fun c => ?_) (fun c => ?_)
  · replace hF := gPos c hF
    refine gx_aload_n C 1 (gDec_at D_X10_voltage 10 rfl) rfl rfl ?_
    refine gx_iload_n C 2 (gDec_at D_X10_voltage 11 rfl) rfl rfl ?_
    refine gx_bipush C (v := (-4)) (gDec_at D_X10_voltage 12 rfl) (by decide) ?_
    obtain ⟨v4, hv3, hF⟩ := gBind hF
    refine gx_callV0 C (st := []) 2 [.int x1, .int (-4)] (m_X10_findVoltage w h A0 x1 (-4) hv3) gX10_voltage_X10_findVoltage rfl rfl rfl hy_X10_findVoltage (Nat.le_of_ble_eq_true rfl) (Nat.le_of_ble_eq_true rfl) (is_X10_sh A0) rfl rfl rfl (Nat.le_of_ble_eq_true rfl) (gDec_at D_X10_voltage 13 rfl) ?_
    refine gx_iload_n C 3 (gDec_at D_X10_voltage 14 rfl) rfl rfl ?_
    refine gx_if_ne C 32 (gDec_at D_X10_voltage 15 rfl) (by decide) (fun c => ?_) (fun c => ?_)
    · replace hF := gNeg c hF
      refine gx_aload_n C 1 (gDec_at D_X10_voltage 19 rfl) rfl rfl ?_
      refine gx_getl C fl_X10_voltage_169 (is_X10_sh A0) rfl (gDec_at D_X10_voltage 20 rfl) ?_
      obtain rfl := Option.some.inj hF
      exact gx_lret C E (gDec_at D_X10_voltage 21 rfl)
    · replace hF := gPos c hF
      refine gx_aload_n C 1 (gDec_at D_X10_voltage 16 rfl) rfl rfl ?_
      refine gx_getl C fl_X10_voltage_165 (is_X10_sh A0) rfl (gDec_at D_X10_voltage 17 rfl) ?_
      refine gx_goto C 36 (gDec_at D_X10_voltage 18 rfl) (by decide) ?_
      obtain rfl := Option.some.inj hF
      exact gx_lret C E (gDec_at D_X10_voltage 21 rfl)
  · replace hF := gNeg c hF
    refine gx_iload_n C 0 (gDec_at D_X10_voltage 7 rfl) rfl rfl ?_
    refine gx_i2l C (gDec_at D_X10_voltage 8 rfl) ?_
    obtain rfl := Option.some.inj hF
    exact gx_lret C E (gDec_at D_X10_voltage 9 rfl)
/-! LadderBenchModel.reading -/
def rm_X10_reading : Room := { frames := 7, cells := 0, slots := 0, locals := 182 }
set_option maxRecDepth 20000 in
theorem ggX10_reading_X10_findVoltage : GoodIn wsX10_reading wsX10_findVoltage := goodIn_r _ [23, 24, 1, 25, 2, 26, 27, 28, 6, 29, 30, 31, 16, 12, 13, 14, 15, 32, 33, 34, 35, 36, 37, 38, 39, 40, 41, 42, 43, 44, 45, 46, 47, 48, 49, 50, 51, 52, 53, 54, 55, 56, 57, 58, 59, 60, 61, 62, 63, 64, 65, 66, 67, 68, 69, 70, 71, 72, 73, 74, 75, 76, 77, 78, 79, 80, 81, 82, 83, 84, 85, 86, 87, 88, 89, 90, 91, 92, 93, 94, 95, 96, 97, 98, 99, 100, 101, 102, 103, 104, 105, 106, 107, 108, 109, 110, 111, 112, 113, 114, 115] (by decide +kernel) (by decide +kernel)
set_option maxRecDepth 20000 in
theorem gX10_reading_X10_findVoltage : GoodIn wsX10_reading (wsV RX10 226 RX10 yX10_findVoltage wsX10_findVoltage) := goodIn_app (goodIn_of _ (by decide +kernel)) ggX10_reading_X10_findVoltage
set_option maxRecDepth 20000 in
theorem ggX10_reading_X10_telling : GoodIn wsX10_reading wsX10_telling := goodIn_r _ [7, 8, 9, 10, 6, 11, 12, 13, 14, 15, 16, 17, 18, 19, 90, 91, 92, 93, 94, 95, 96, 97, 98, 99, 100, 101, 102, 103, 104, 105, 106, 107, 108, 109, 110, 111, 112, 113, 114, 115] (by decide +kernel) (by decide +kernel)
set_option maxRecDepth 20000 in
theorem gX10_reading_X10_telling : GoodIn wsX10_reading (wsV RX10 206 RX10 yX10_telling wsX10_telling) := goodIn_app (goodIn_of _ (by decide +kernel)) ggX10_reading_X10_telling
theorem hy_X10_reading : yX10_reading.cls = RX10 ∧ yX10_reading.cls ≠ "java/lang/invoke/MethodHandle" ∧ yX10_reading.cls ≠ "java/lang/invoke/VarHandle" ∧ (parseMethodDescriptor yX10_reading.desc).map (fun d => d.parameters.length) = some 2 := by decide +kernel
set_option maxRecDepth 100000 in
theorem D_X10_reading : gDec cX10_reading [(0, (.aload_n 0, 1)), (1, (.iload_n 1, 1)), (2, (.iload_n 2, 1)), (3, (.invokevirtual 206, 3)), (6, (.istore_n 3, 1)), (7, (.iload_n 3, 1)), (8, (.ifCond .eq 6, 3)), (11, (.iload_n 3, 1)), (12, (.i2l, 1)), (13, (.lreturn, 1)), (14, (.aload_n 0, 1)), (15, (.iload_n 1, 1)), (16, (.iload_n 1, 1)), (17, (.invokevirtual 226, 3)), (20, (.iload_n 2, 1)), (21, (.ifCond .ne 10, 3)), (24, (.aload_n 0, 1)), (25, (.getfield 165, 3)), (28, (.goto 7, 3)), (31, (.aload_n 0, 1)), (32, (.getfield 169, 3)), (35, (.lreturn, 1))] = true := by decide +kernel
set_option maxRecDepth 100000 in
theorem in_X10_reading_X10 : ∀ x ∈ u_ws RX10 TX10 26, x ∈ wsX10_reading := by decide +kernel
theorem fl_X10_reading_169 : gF wsX10_reading RX10 169 10 18 := ⟨RX10, TX10, 26, rfl, by decide, in_X10_reading_X10, by decide +kernel⟩
theorem fl_X10_reading_165 : gF wsX10_reading RX10 165 10 17 := ⟨RX10, TX10, 26, rfl, by decide, in_X10_reading_X10, by decide +kernel⟩
def f_X10_reading (a0 : Nat) (x1 : Int32) (x2 : Int32) (h : gHp) : Option (Int64 × gHp) := (f_X10_telling a0 x1 x2 h).bind fun v2 => if v2 = 0 then (f_X10_findVoltage a0 x1 x1 h).bind fun v4 => if x2 = 0 then some (v4.2 a0 17, v4) else some (v4.2 a0 18, v4) else some (v2.toInt64, h)
set_option maxRecDepth 20000 in
set_option maxHeartbeats 4000000 in
theorem m_X10_reading (w : gWd) (h : gHp) {a0 : Nat} (A0 : is_X10 w a0) (x1 : Int32) (x2 : Int32) {o : Int64 × gHp} (hF : f_X10_reading a0 x1 x2 h = some o) : gMet w yX10_reading wsX10_reading rm_X10_reading [.ref a0, .int x1, .int x2] h (some (.long o.1)) o.2 := by
  refine gMet_of (cc := cX10_reading) (maxL := 4) (ret := (some .long)) (fr := 7) (lo := 182) (own := RX10) [(0, .ref a0), (1, .int x1), (2, .int x2)] (by decide) rfl rfl (Nat.le_of_ble_eq_true rfl) rfl (Nat.le_refl _) (Nat.le_refl _) (fun g C E => ?_)
  rw [f_X10_reading] at hF
  refine gx_aload_n C 0 (gDec_at D_X10_reading 0 rfl) rfl rfl ?_
  refine gx_iload_n C 1 (gDec_at D_X10_reading 1 rfl) rfl rfl ?_
  refine gx_iload_n C 2 (gDec_at D_X10_reading 2 rfl) rfl rfl ?_
  obtain ⟨v2, hv1, hF⟩ := gBind hF
  refine gx_callV1 C (st := []) 2 [.int x1, .int x2] (m_X10_telling w h A0 x1 x2 hv1) gX10_reading_X10_telling rfl rfl rfl hy_X10_telling (Nat.le_of_ble_eq_true rfl) (Nat.le_of_ble_eq_true rfl) (is_X10_sh A0) rfl rfl rfl (Nat.le_of_ble_eq_true rfl) (gDec_at D_X10_reading 3 rfl) ?_
  refine gx_istore_n C (lv' := [(3, .int v2), (0, .ref a0), (1, .int x1), (2, .int x2)]) (gDec_at D_X10_reading 4 rfl) rfl (Nat.le_of_ble_eq_true rfl) rfl ?_
  refine gx_iload_n C 0 (gDec_at D_X10_reading 5 rfl) rfl rfl ?_
  refine gx_if_eq C 14 (gDec_at D_X10_reading 6 rfl) (by decide) (fun c => ?_) (fun c => ?_)
  · replace hF := gPos c hF
    refine gx_aload_n C 1 (gDec_at D_X10_reading 10 rfl) rfl rfl ?_
    refine gx_iload_n C 2 (gDec_at D_X10_reading 11 rfl) rfl rfl ?_
    refine gx_iload_n C 2 (gDec_at D_X10_reading 12 rfl) rfl rfl ?_
    obtain ⟨v4, hv3, hF⟩ := gBind hF
    refine gx_callV0 C (st := []) 2 [.int x1, .int x1] (m_X10_findVoltage w h A0 x1 x1 hv3) gX10_reading_X10_findVoltage rfl rfl rfl hy_X10_findVoltage (Nat.le_of_ble_eq_true rfl) (Nat.le_of_ble_eq_true rfl) (is_X10_sh A0) rfl rfl rfl (Nat.le_of_ble_eq_true rfl) (gDec_at D_X10_reading 13 rfl) ?_
    refine gx_iload_n C 3 (gDec_at D_X10_reading 14 rfl) rfl rfl ?_
    refine gx_if_ne C 31 (gDec_at D_X10_reading 15 rfl) (by decide) (fun c => ?_) (fun c => ?_)
    · replace hF := gNeg c hF
      refine gx_aload_n C 1 (gDec_at D_X10_reading 19 rfl) rfl rfl ?_
      refine gx_getl C fl_X10_reading_169 (is_X10_sh A0) rfl (gDec_at D_X10_reading 20 rfl) ?_
      obtain rfl := Option.some.inj hF
      exact gx_lret C E (gDec_at D_X10_reading 21 rfl)
    · replace hF := gPos c hF
      refine gx_aload_n C 1 (gDec_at D_X10_reading 16 rfl) rfl rfl ?_
      refine gx_getl C fl_X10_reading_165 (is_X10_sh A0) rfl (gDec_at D_X10_reading 17 rfl) ?_
      refine gx_goto C 35 (gDec_at D_X10_reading 18 rfl) (by decide) ?_
      obtain rfl := Option.some.inj hF
      exact gx_lret C E (gDec_at D_X10_reading 21 rfl)
  · replace hF := gNeg c hF
    refine gx_iload_n C 0 (gDec_at D_X10_reading 7 rfl) rfl rfl ?_
    refine gx_i2l C (gDec_at D_X10_reading 8 rfl) ?_
    obtain rfl := Option.some.inj hF
    exact gx_lret C E (gDec_at D_X10_reading 9 rfl)
/-! LadderBenchModel.lossOf -/
def rm_X10_lossOf : Room := { frames := 7, cells := 0, slots := 0, locals := 182 }
set_option maxRecDepth 20000 in
theorem ggX10_lossOf_X10_findVoltage : GoodIn wsX10_lossOf wsX10_findVoltage := goodIn_r _ [8, 9, 1, 10, 2, 11, 12, 13, 7, 14, 15, 16, 17, 18, 19, 20, 21, 22, 23, 24, 25, 26, 27, 28, 29, 30, 31, 32, 33, 34, 35, 36, 37, 38, 39, 40, 41, 42, 43, 44, 45, 46, 47, 48, 49, 50, 51, 52, 53, 54, 55, 56, 57, 58, 59, 60, 61, 62, 63, 64, 65, 66, 67, 68, 69, 70, 71, 72, 73, 74, 75, 76, 77, 78, 79, 80, 81, 82, 83, 84, 85, 86, 87, 88, 89, 90, 91, 92, 93, 94, 95, 96, 97, 98, 99, 100, 101, 102, 103, 104, 105] (by decide +kernel) (by decide +kernel)
set_option maxRecDepth 20000 in
theorem gX10_lossOf_X10_findVoltage : GoodIn wsX10_lossOf (wsV RX10 226 RX10 yX10_findVoltage wsX10_findVoltage) := goodIn_app (goodIn_of _ (by decide +kernel)) ggX10_lossOf_X10_findVoltage
set_option maxRecDepth 20000 in
theorem ggX10_lossOf_X10_product : GoodIn wsX10_lossOf wsX10_product := goodIn_r _ [79, 42, 43, 7, 44, 45, 46, 47, 48, 1, 2, 80, 81, 82, 83, 84, 85, 86, 87, 88, 89, 90, 91, 92, 93, 94, 95, 96, 97, 98, 99, 100, 101, 102, 103, 104, 105] (by decide +kernel) (by decide +kernel)
set_option maxRecDepth 20000 in
theorem gX10_lossOf_X10_product : GoodIn wsX10_lossOf (wsV RX10 217 RX10 yX10_product wsX10_product) := goodIn_app (goodIn_of _ (by decide +kernel)) ggX10_lossOf_X10_product
theorem hy_X10_lossOf : yX10_lossOf.cls = RX10 ∧ yX10_lossOf.cls ≠ "java/lang/invoke/MethodHandle" ∧ yX10_lossOf.cls ≠ "java/lang/invoke/VarHandle" ∧ (parseMethodDescriptor yX10_lossOf.desc).map (fun d => d.parameters.length) = some 1 := by decide +kernel
set_option maxRecDepth 100000 in
theorem D_X10_lossOf : gDec cX10_lossOf [(0, (.aload_n 0, 1)), (1, (.iload_n 1, 1)), (2, (.bipush (-4), 2)), (4, (.invokevirtual 226, 3)), (7, (.aload_n 0, 1)), (8, (.getfield 165, 3)), (11, (.lconst 0, 1)), (12, (.lcmp, 1)), (13, (.ifCond .ne 5, 3)), (16, (.iconst 0, 1)), (17, (.ireturn, 1)), (18, (.aload_n 0, 1)), (19, (.getfield 165, 3)), (22, (.lstore_n 2, 1)), (23, (.aload_n 0, 1)), (24, (.getfield 169, 3)), (27, (.lstore 4, 2)), (29, (.aload_n 0, 1)), (30, (.iload_n 1, 1)), (31, (.iload_n 1, 1)), (32, (.invokevirtual 226, 3)), (35, (.aload_n 0, 1)), (36, (.aload_n 0, 1)), (37, (.getfield 165, 3)), (40, (.aload_n 0, 1)), (41, (.getfield 169, 3)), (44, (.lload 4, 2)), (46, (.lload_n 2, 1)), (47, (.invokevirtual 217, 3)), (50, (.ldc2_w 229, 3)), (53, (.aload_n 0, 1)), (54, (.getfield 169, 3)), (57, (.aload_n 0, 1)), (58, (.getfield 165, 3)), (61, (.lsub, 1)), (62, (.lmul, 1)), (63, (.aload_n 0, 1)), (64, (.getfield 169, 3)), (67, (.ldiv, 1)), (68, (.l2i, 1)), (69, (.ireturn, 1))] = true := by decide +kernel
set_option maxRecDepth 100000 in
theorem in_X10_lossOf_X10 : ∀ x ∈ u_ws RX10 TX10 26, x ∈ wsX10_lossOf := by decide +kernel
theorem fl_X10_lossOf_165 : gF wsX10_lossOf RX10 165 10 17 := ⟨RX10, TX10, 26, rfl, by decide, in_X10_lossOf_X10, by decide +kernel⟩
theorem fl_X10_lossOf_169 : gF wsX10_lossOf RX10 169 10 18 := ⟨RX10, TX10, 26, rfl, by decide, in_X10_lossOf_X10, by decide +kernel⟩
theorem lc_X10_lossOf_229 : Jvm.Cond.constantLong RX10 229 1000 ∈ wsX10_lossOf := by decide +kernel
def f_X10_lossOf (a0 : Nat) (x1 : Int32) (h : gHp) : Option (Int32 × gHp) := (f_X10_findVoltage a0 x1 (-4) h).bind fun v2 => if (v2.2 a0 17) = 0 then some (0, v2) else (f_X10_findVoltage a0 x1 x1 v2).bind fun v4 => (f_X10_product a0 (v4.2 a0 17) (v4.2 a0 18) (v2.2 a0 18) (v2.2 a0 17) v4).bind fun v6 => if (v6.2 a0 18) = 0 then none else some (((1000 * ((v6.2 a0 18) - (v6.2 a0 17))) / (v6.2 a0 18)).toInt32, v6)
set_option maxRecDepth 20000 in
set_option maxHeartbeats 4000000 in
theorem m_X10_lossOf (w : gWd) (h : gHp) {a0 : Nat} (A0 : is_X10 w a0) (x1 : Int32) {o : Int32 × gHp} (hF : f_X10_lossOf a0 x1 h = some o) : gMet w yX10_lossOf wsX10_lossOf rm_X10_lossOf [.ref a0, .int x1] h (some (.int o.1)) o.2 := by
  refine gMet_of (cc := cX10_lossOf) (maxL := 6) (ret := (some .int)) (fr := 7) (lo := 182) (own := RX10) [(0, .ref a0), (1, .int x1)] (by decide) rfl rfl (Nat.le_of_ble_eq_true rfl) rfl (Nat.le_refl _) (Nat.le_refl _) (fun g C E => ?_)
  rw [f_X10_lossOf] at hF
  refine gx_aload_n C 0 (gDec_at D_X10_lossOf 0 rfl) rfl rfl ?_
  refine gx_iload_n C 1 (gDec_at D_X10_lossOf 1 rfl) rfl rfl ?_
  refine gx_bipush C (v := (-4)) (gDec_at D_X10_lossOf 2 rfl) (by decide) ?_
  obtain ⟨v2, hv1, hF⟩ := gBind hF
  refine gx_callV0 C (st := []) 2 [.int x1, .int (-4)] (m_X10_findVoltage w h A0 x1 (-4) hv1) gX10_lossOf_X10_findVoltage rfl rfl rfl hy_X10_findVoltage (Nat.le_of_ble_eq_true rfl) (Nat.le_of_ble_eq_true rfl) (is_X10_sh A0) rfl rfl rfl (Nat.le_of_ble_eq_true rfl) (gDec_at D_X10_lossOf 3 rfl) ?_
  refine gx_aload_n C 0 (gDec_at D_X10_lossOf 4 rfl) rfl rfl ?_
  refine gx_getl C fl_X10_lossOf_165 (is_X10_sh A0) rfl (gDec_at D_X10_lossOf 5 rfl) ?_
  refine gx_lconst C (v := 0) (gDec_at D_X10_lossOf 6 rfl) (by decide) ?_
  refine gx_lcmp_ne C 18 (gDec_at D_X10_lossOf 7 rfl) (gDec_at D_X10_lossOf 8 rfl) (by decide) (fun c => ?_) (fun c => ?_)
  · replace hF := gNeg c hF
    refine gx_aload_n C 0 (gDec_at D_X10_lossOf 11 rfl) rfl rfl ?_
    refine gx_getl C fl_X10_lossOf_165 (is_X10_sh A0) rfl (gDec_at D_X10_lossOf 12 rfl) ?_
    refine gx_lstore_n C (lv' := [(2, .long (v2.2 a0 17)), (0, .ref a0), (1, .int x1)]) (gDec_at D_X10_lossOf 13 rfl) rfl (Nat.le_of_ble_eq_true rfl) rfl ?_
    refine gx_aload_n C 1 (gDec_at D_X10_lossOf 14 rfl) rfl rfl ?_
    refine gx_getl C fl_X10_lossOf_169 (is_X10_sh A0) rfl (gDec_at D_X10_lossOf 15 rfl) ?_
    refine gx_lstore C (lv' := [(4, .long (v2.2 a0 18)), (2, .long (v2.2 a0 17)), (0, .ref a0), (1, .int x1)]) (gDec_at D_X10_lossOf 16 rfl) (Nat.le_of_ble_eq_true rfl) rfl ?_
    refine gx_aload_n C 2 (gDec_at D_X10_lossOf 17 rfl) rfl rfl ?_
    refine gx_iload_n C 3 (gDec_at D_X10_lossOf 18 rfl) rfl rfl ?_
    refine gx_iload_n C 3 (gDec_at D_X10_lossOf 19 rfl) rfl rfl ?_
    obtain ⟨v4, hv3, hF⟩ := gBind hF
    refine gx_callV0 C (st := []) 2 [.int x1, .int x1] (m_X10_findVoltage w v2 A0 x1 x1 hv3) gX10_lossOf_X10_findVoltage rfl rfl rfl hy_X10_findVoltage (Nat.le_of_ble_eq_true rfl) (Nat.le_of_ble_eq_true rfl) (is_X10_sh A0) rfl rfl rfl (Nat.le_of_ble_eq_true rfl) (gDec_at D_X10_lossOf 20 rfl) ?_
    refine gx_aload_n C 2 (gDec_at D_X10_lossOf 21 rfl) rfl rfl ?_
    refine gx_aload_n C 2 (gDec_at D_X10_lossOf 22 rfl) rfl rfl ?_
    refine gx_getl C fl_X10_lossOf_165 (is_X10_sh A0) rfl (gDec_at D_X10_lossOf 23 rfl) ?_
    refine gx_aload_n C 2 (gDec_at D_X10_lossOf 24 rfl) rfl rfl ?_
    refine gx_getl C fl_X10_lossOf_169 (is_X10_sh A0) rfl (gDec_at D_X10_lossOf 25 rfl) ?_
    refine gx_lload C 0 (gDec_at D_X10_lossOf 26 rfl) rfl ?_
    refine gx_lload_n C 1 (gDec_at D_X10_lossOf 27 rfl) rfl rfl ?_
    obtain ⟨v6, hv5, hF⟩ := gBind hF
    refine gx_callV0 C (st := []) 4 [.long (v4.2 a0 17), .long (v4.2 a0 18), .long (v2.2 a0 18), .long (v2.2 a0 17)] (m_X10_product w v4 A0 (v4.2 a0 17) (v4.2 a0 18) (v2.2 a0 18) (v2.2 a0 17) hv5) gX10_lossOf_X10_product rfl rfl rfl hy_X10_product (Nat.le_of_ble_eq_true rfl) (Nat.le_of_ble_eq_true rfl) (is_X10_sh A0) rfl rfl rfl (Nat.le_of_ble_eq_true rfl) (gDec_at D_X10_lossOf 28 rfl) ?_
    refine gx_ldc2 C (v := 1000) lc_X10_lossOf_229 (gDec_at D_X10_lossOf 29 rfl) ?_
    refine gx_aload_n C 2 (gDec_at D_X10_lossOf 30 rfl) rfl rfl ?_
    refine gx_getl C fl_X10_lossOf_169 (is_X10_sh A0) rfl (gDec_at D_X10_lossOf 31 rfl) ?_
    refine gx_aload_n C 2 (gDec_at D_X10_lossOf 32 rfl) rfl rfl ?_
    refine gx_getl C fl_X10_lossOf_165 (is_X10_sh A0) rfl (gDec_at D_X10_lossOf 33 rfl) ?_
    refine gx_lsub C (gDec_at D_X10_lossOf 34 rfl) ?_
    refine gx_lmul C (gDec_at D_X10_lossOf 35 rfl) ?_
    refine gx_aload_n C 2 (gDec_at D_X10_lossOf 36 rfl) rfl rfl ?_
    refine gx_getl C fl_X10_lossOf_169 (is_X10_sh A0) rfl (gDec_at D_X10_lossOf 37 rfl) ?_
    obtain ⟨z7, hF⟩ := gGn hF
    refine gx_ldiv C (gDec_at D_X10_lossOf 38 rfl) z7 ?_
    refine gx_l2i C (gDec_at D_X10_lossOf 39 rfl) ?_
    obtain rfl := Option.some.inj hF
    exact gx_iret C E (gDec_at D_X10_lossOf 40 rfl)
  · replace hF := gPos c hF
    refine gx_iconst C (v := 0) (gDec_at D_X10_lossOf 9 rfl) (by decide) ?_
    obtain rfl := Option.some.inj hF
    exact gx_iret C E (gDec_at D_X10_lossOf 10 rfl)
