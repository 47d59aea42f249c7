/-! java/lang/Integer.bitCount -/
def rm_J6_bitCount_0f7a4 : Room := { frames := 0, cells := 0, slots := 0, locals := 0 }
theorem hy_J6_bitCount_0f7a4 : yJ6_bitCount_0f7a4.cls ≠ "java/lang/invoke/MethodHandle" ∧ yJ6_bitCount_0f7a4.cls ≠ "java/lang/invoke/VarHandle" ∧ (parseMethodDescriptor yJ6_bitCount_0f7a4.desc).map (fun d => d.parameters.length) = some 1 := by decide +kernel
set_option maxRecDepth 100000 in
theorem D_J6_bitCount_0f7a4 : gDec cJ6_bitCount_0f7a4 [(0, (.iload_n 0, 1)), (1, (.iload_n 0, 1)), (2, (.iconst 1, 1)), (3, (.iushr, 1)), (4, (.ldc_w 265, 3)), (7, (.iand, 1)), (8, (.isub, 1)), (9, (.istore_n 0, 1)), (10, (.iload_n 0, 1)), (11, (.ldc_w 266, 3)), (14, (.iand, 1)), (15, (.iload_n 0, 1)), (16, (.iconst 2, 1)), (17, (.iushr, 1)), (18, (.ldc_w 266, 3)), (21, (.iand, 1)), (22, (.iadd, 1)), (23, (.istore_n 0, 1)), (24, (.iload_n 0, 1)), (25, (.iload_n 0, 1)), (26, (.iconst 4, 1)), (27, (.iushr, 1)), (28, (.iadd, 1)), (29, (.ldc_w 267, 3)), (32, (.iand, 1)), (33, (.istore_n 0, 1)), (34, (.iload_n 0, 1)), (35, (.iload_n 0, 1)), (36, (.bipush 8, 2)), (38, (.iushr, 1)), (39, (.iadd, 1)), (40, (.istore_n 0, 1)), (41, (.iload_n 0, 1)), (42, (.iload_n 0, 1)), (43, (.bipush 16, 2)), (45, (.iushr, 1)), (46, (.iadd, 1)), (47, (.istore_n 0, 1)), (48, (.iload_n 0, 1)), (49, (.bipush 63, 2)), (51, (.iand, 1)), (52, (.ireturn, 1))] = true := by decide +kernel
theorem lc_J6_bitCount_0f7a4_265 : Jvm.Cond.constant RJ6 265 1431655765 ∈ wsJ6_bitCount_0f7a4 := by decide +kernel
theorem lc_J6_bitCount_0f7a4_266 : Jvm.Cond.constant RJ6 266 858993459 ∈ wsJ6_bitCount_0f7a4 := by decide +kernel
theorem lc_J6_bitCount_0f7a4_267 : Jvm.Cond.constant RJ6 267 252645135 ∈ wsJ6_bitCount_0f7a4 := by decide +kernel
def f_J6_bitCount_0f7a4 (x0 : Int32) (h : gHp) : Option (Int32) := some ((((((((x0 - (((x0.toUInt32 >>> ((1 : Int32).toUInt32 &&& Int32.toUInt32 31)).toInt32) &&& 1431655765)) &&& 858993459) + ((((x0 - (((x0.toUInt32 >>> ((1 : Int32).toUInt32 &&& Int32.toUInt32 31)).toInt32) &&& 1431655765)).toUInt32 >>> ((2 : Int32).toUInt32 &&& Int32.toUInt32 31)).toInt32) &&& 858993459)) + (((((x0 - (((x0.toUInt32 >>> ((1 : Int32).toUInt32 &&& Int32.toUInt32 31)).toInt32) &&& 1431655765)) &&& 858993459) + ((((x0 - (((x0.toUInt32 >>> ((1 : Int32).toUInt32 &&& Int32.toUInt32 31)).toInt32) &&& 1431655765)).toUInt32 >>> ((2 : Int32).toUInt32 &&& Int32.toUInt32 31)).toInt32) &&& 858993459)).toUInt32 >>> ((4 : Int32).toUInt32 &&& Int32.toUInt32 31)).toInt32)) &&& 252645135) + (((((((x0 - (((x0.toUInt32 >>> ((1 : Int32).toUInt32 &&& Int32.toUInt32 31)).toInt32) &&& 1431655765)) &&& 858993459) + ((((x0 - (((x0.toUInt32 >>> ((1 : Int32).toUInt32 &&& Int32.toUInt32 31)).toInt32) &&& 1431655765)).toUInt32 >>> ((2 : Int32).toUInt32 &&& Int32.toUInt32 31)).toInt32) &&& 858993459)) + (((((x0 - (((x0.toUInt32 >>> ((1 : Int32).toUInt32 &&& Int32.toUInt32 31)).toInt32) &&& 1431655765)) &&& 858993459) + ((((x0 - (((x0.toUInt32 >>> ((1 : Int32).toUInt32 &&& Int32.toUInt32 31)).toInt32) &&& 1431655765)).toUInt32 >>> ((2 : Int32).toUInt32 &&& Int32.toUInt32 31)).toInt32) &&& 858993459)).toUInt32 >>> ((4 : Int32).toUInt32 &&& Int32.toUInt32 31)).toInt32)) &&& 252645135).toUInt32 >>> ((8 : Int32).toUInt32 &&& Int32.toUInt32 31)).toInt32)) + ((((((((x0 - (((x0.toUInt32 >>> ((1 : Int32).toUInt32 &&& Int32.toUInt32 31)).toInt32) &&& 1431655765)) &&& 858993459) + ((((x0 - (((x0.toUInt32 >>> ((1 : Int32).toUInt32 &&& Int32.toUInt32 31)).toInt32) &&& 1431655765)).toUInt32 >>> ((2 : Int32).toUInt32 &&& Int32.toUInt32 31)).toInt32) &&& 858993459)) + (((((x0 - (((x0.toUInt32 >>> ((1 : Int32).toUInt32 &&& Int32.toUInt32 31)).toInt32) &&& 1431655765)) &&& 858993459) + ((((x0 - (((x0.toUInt32 >>> ((1 : Int32).toUInt32 &&& Int32.toUInt32 31)).toInt32) &&& 1431655765)).toUInt32 >>> ((2 : Int32).toUInt32 &&& Int32.toUInt32 31)).toInt32) &&& 858993459)).toUInt32 >>> ((4 : Int32).toUInt32 &&& Int32.toUInt32 31)).toInt32)) &&& 252645135) + (((((((x0 - (((x0.toUInt32 >>> ((1 : Int32).toUInt32 &&& Int32.toUInt32 31)).toInt32) &&& 1431655765)) &&& 858993459) + ((((x0 - (((x0.toUInt32 >>> ((1 : Int32).toUInt32 &&& Int32.toUInt32 31)).toInt32) &&& 1431655765)).toUInt32 >>> ((2 : Int32).toUInt32 &&& Int32.toUInt32 31)).toInt32) &&& 858993459)) + (((((x0 - (((x0.toUInt32 >>> ((1 : Int32).toUInt32 &&& Int32.toUInt32 31)).toInt32) &&& 1431655765)) &&& 858993459) + ((((x0 - (((x0.toUInt32 >>> ((1 : Int32).toUInt32 &&& Int32.toUInt32 31)).toInt32) &&& 1431655765)).toUInt32 >>> ((2 : Int32).toUInt32 &&& Int32.toUInt32 31)).toInt32) &&& 858993459)).toUInt32 >>> ((4 : Int32).toUInt32 &&& Int32.toUInt32 31)).toInt32)) &&& 252645135).toUInt32 >>> ((8 : Int32).toUInt32 &&& Int32.toUInt32 31)).toInt32)).toUInt32 >>> ((16 : Int32).toUInt32 &&& Int32.toUInt32 31)).toInt32)) &&& 63)
set_option maxRecDepth 20000 in
set_option maxHeartbeats 4000000 in
theorem m_J6_bitCount_0f7a4 (w : gWd) (h : gHp) (x0 : Int32) {o : Int32} (hF : f_J6_bitCount_0f7a4 x0 h = some o) : gMet w yJ6_bitCount_0f7a4 wsJ6_bitCount_0f7a4 rm_J6_bitCount_0f7a4 [.int x0] h (some (.int o)) h := by
  refine gMet_of (cc := cJ6_bitCount_0f7a4) (maxL := 1) (ret := (some .int)) (fr := 0) (lo := 0) (own := RJ6) [(0, .int x0)] (by decide) rfl rfl (Nat.le_of_ble_eq_true rfl) rfl (Nat.le_refl _) (Nat.le_refl _) (fun g C E => ?_)
  rw [f_J6_bitCount_0f7a4] at hF
  refine gx_iload_n C 0 (gDec_at D_J6_bitCount_0f7a4 0 rfl) rfl rfl ?_
  refine gx_iload_n C 0 (gDec_at D_J6_bitCount_0f7a4 1 rfl) rfl rfl ?_
  refine gx_iconst C (v := 1) (gDec_at D_J6_bitCount_0f7a4 2 rfl) (by decide) ?_
  refine gx_iushr C (gDec_at D_J6_bitCount_0f7a4 3 rfl) ?_
  refine gx_ldc_w C (v := 1431655765) lc_J6_bitCount_0f7a4_265 (gDec_at D_J6_bitCount_0f7a4 4 rfl) ?_
  refine gx_iand C (gDec_at D_J6_bitCount_0f7a4 5 rfl) ?_
  refine gx_isub C (gDec_at D_J6_bitCount_0f7a4 6 rfl) ?_
  refine gx_istore_n C (lv' := [(0, .int (x0 - (((x0.toUInt32 >>> ((1 : Int32).toUInt32 &&& Int32.toUInt32 31)).toInt32) &&& 1431655765)))]) (gDec_at D_J6_bitCount_0f7a4 7 rfl) rfl (Nat.le_of_ble_eq_true rfl) rfl ?_
  refine gx_iload_n C 0 (gDec_at D_J6_bitCount_0f7a4 8 rfl) rfl rfl ?_
  refine gx_ldc_w C (v := 858993459) lc_J6_bitCount_0f7a4_266 (gDec_at D_J6_bitCount_0f7a4 9 rfl) ?_
  refine gx_iand C (gDec_at D_J6_bitCount_0f7a4 10 rfl) ?_
  refine gx_iload_n C 0 (gDec_at D_J6_bitCount_0f7a4 11 rfl) rfl rfl ?_
  refine gx_iconst C (v := 2) (gDec_at D_J6_bitCount_0f7a4 12 rfl) (by decide) ?_
  refine gx_iushr C (gDec_at D_J6_bitCount_0f7a4 13 rfl) ?_
  refine gx_ldc_w C (v := 858993459) lc_J6_bitCount_0f7a4_266 (gDec_at D_J6_bitCount_0f7a4 14 rfl) ?_
  refine gx_iand C (gDec_at D_J6_bitCount_0f7a4 15 rfl) ?_
  refine gx_iadd C (gDec_at D_J6_bitCount_0f7a4 16 rfl) ?_
  refine gx_istore_n C (lv' := [(0, .int (((x0 - (((x0.toUInt32 >>> ((1 : Int32).toUInt32 &&& Int32.toUInt32 31)).toInt32) &&& 1431655765)) &&& 858993459) + ((((x0 - (((x0.toUInt32 >>> ((1 : Int32).toUInt32 &&& Int32.toUInt32 31)).toInt32) &&& 1431655765)).toUInt32 >>> ((2 : Int32).toUInt32 &&& Int32.toUInt32 31)).toInt32) &&& 858993459)))]) (gDec_at D_J6_bitCount_0f7a4 17 rfl) rfl (Nat.le_of_ble_eq_true rfl) rfl ?_
  refine gx_iload_n C 0 (gDec_at D_J6_bitCount_0f7a4 18 rfl) rfl rfl ?_
  refine gx_iload_n C 0 (gDec_at D_J6_bitCount_0f7a4 19 rfl) rfl rfl ?_
  refine gx_iconst C (v := 4) (gDec_at D_J6_bitCount_0f7a4 20 rfl) (by decide) ?_
  refine gx_iushr C (gDec_at D_J6_bitCount_0f7a4 21 rfl) ?_
  refine gx_iadd C (gDec_at D_J6_bitCount_0f7a4 22 rfl) ?_
  refine gx_ldc_w C (v := 252645135) lc_J6_bitCount_0f7a4_267 (gDec_at D_J6_bitCount_0f7a4 23 rfl) ?_
  refine gx_iand C (gDec_at D_J6_bitCount_0f7a4 24 rfl) ?_
  refine gx_istore_n C (lv' := [(0, .int (((((x0 - (((x0.toUInt32 >>> ((1 : Int32).toUInt32 &&& Int32.toUInt32 31)).toInt32) &&& 1431655765)) &&& 858993459) + ((((x0 - (((x0.toUInt32 >>> ((1 : Int32).toUInt32 &&& Int32.toUInt32 31)).toInt32) &&& 1431655765)).toUInt32 >>> ((2 : Int32).toUInt32 &&& Int32.toUInt32 31)).toInt32) &&& 858993459)) + (((((x0 - (((x0.toUInt32 >>> ((1 : Int32).toUInt32 &&& Int32.toUInt32 31)).toInt32) &&& 1431655765)) &&& 858993459) + ((((x0 - (((x0.toUInt32 >>> ((1 : Int32).toUInt32 &&& Int32.toUInt32 31)).toInt32) &&& 1431655765)).toUInt32 >>> ((2 : Int32).toUInt32 &&& Int32.toUInt32 31)).toInt32) &&& 858993459)).toUInt32 >>> ((4 : Int32).toUInt32 &&& Int32.toUInt32 31)).toInt32)) &&& 252645135))]) (gDec_at D_J6_bitCount_0f7a4 25 rfl) rfl (Nat.le_of_ble_eq_true rfl) rfl ?_
  refine gx_iload_n C 0 (gDec_at D_J6_bitCount_0f7a4 26 rfl) rfl rfl ?_
  refine gx_iload_n C 0 (gDec_at D_J6_bitCount_0f7a4 27 rfl) rfl rfl ?_
  refine gx_bipush C (v := 8) (gDec_at D_J6_bitCount_0f7a4 28 rfl) (by decide) ?_
  refine gx_iushr C (gDec_at D_J6_bitCount_0f7a4 29 rfl) ?_
  refine gx_iadd C (gDec_at D_J6_bitCount_0f7a4 30 rfl) ?_
  refine gx_istore_n C (lv' := [(0, .int ((((((x0 - (((x0.toUInt32 >>> ((1 : Int32).toUInt32 &&& Int32.toUInt32 31)).toInt32) &&& 1431655765)) &&& 858993459) + ((((x0 - (((x0.toUInt32 >>> ((1 : Int32).toUInt32 &&& Int32.toUInt32 31)).toInt32) &&& 1431655765)).toUInt32 >>> ((2 : Int32).toUInt32 &&& Int32.toUInt32 31)).toInt32) &&& 858993459)) + (((((x0 - (((x0.toUInt32 >>> ((1 : Int32).toUInt32 &&& Int32.toUInt32 31)).toInt32) &&& 1431655765)) &&& 858993459) + ((((x0 - (((x0.toUInt32 >>> ((1 : Int32).toUInt32 &&& Int32.toUInt32 31)).toInt32) &&& 1431655765)).toUInt32 >>> ((2 : Int32).toUInt32 &&& Int32.toUInt32 31)).toInt32) &&& 858993459)).toUInt32 >>> ((4 : Int32).toUInt32 &&& Int32.toUInt32 31)).toInt32)) &&& 252645135) + (((((((x0 - (((x0.toUInt32 >>> ((1 : Int32).toUInt32 &&& Int32.toUInt32 31)).toInt32) &&& 1431655765)) &&& 858993459) + ((((x0 - (((x0.toUInt32 >>> ((1 : Int32).toUInt32 &&& Int32.toUInt32 31)).toInt32) &&& 1431655765)).toUInt32 >>> ((2 : Int32).toUInt32 &&& Int32.toUInt32 31)).toInt32) &&& 858993459)) + (((((x0 - (((x0.toUInt32 >>> ((1 : Int32).toUInt32 &&& Int32.toUInt32 31)).toInt32) &&& 1431655765)) &&& 858993459) + ((((x0 - (((x0.toUInt32 >>> ((1 : Int32).toUInt32 &&& Int32.toUInt32 31)).toInt32) &&& 1431655765)).toUInt32 >>> ((2 : Int32).toUInt32 &&& Int32.toUInt32 31)).toInt32) &&& 858993459)).toUInt32 >>> ((4 : Int32).toUInt32 &&& Int32.toUInt32 31)).toInt32)) &&& 252645135).toUInt32 >>> ((8 : Int32).toUInt32 &&& Int32.toUInt32 31)).toInt32)))]) (gDec_at D_J6_bitCount_0f7a4 31 rfl) rfl (Nat.le_of_ble_eq_true rfl) rfl ?_
  refine gx_iload_n C 0 (gDec_at D_J6_bitCount_0f7a4 32 rfl) rfl rfl ?_
  refine gx_iload_n C 0 (gDec_at D_J6_bitCount_0f7a4 33 rfl) rfl rfl ?_
  refine gx_bipush C (v := 16) (gDec_at D_J6_bitCount_0f7a4 34 rfl) (by decide) ?_
  refine gx_iushr C (gDec_at D_J6_bitCount_0f7a4 35 rfl) ?_
  refine gx_iadd C (gDec_at D_J6_bitCount_0f7a4 36 rfl) ?_
  refine gx_istore_n C (lv' := [(0, .int (((((((x0 - (((x0.toUInt32 >>> ((1 : Int32).toUInt32 &&& Int32.toUInt32 31)).toInt32) &&& 1431655765)) &&& 858993459) + ((((x0 - (((x0.toUInt32 >>> ((1 : Int32).toUInt32 &&& Int32.toUInt32 31)).toInt32) &&& 1431655765)).toUInt32 >>> ((2 : Int32).toUInt32 &&& Int32.toUInt32 31)).toInt32) &&& 858993459)) + (((((x0 - (((x0.toUInt32 >>> ((1 : Int32).toUInt32 &&& Int32.toUInt32 31)).toInt32) &&& 1431655765)) &&& 858993459) + ((((x0 - (((x0.toUInt32 >>> ((1 : Int32).toUInt32 &&& Int32.toUInt32 31)).toInt32) &&& 1431655765)).toUInt32 >>> ((2 : Int32).toUInt32 &&& Int32.toUInt32 31)).toInt32) &&& 858993459)).toUInt32 >>> ((4 : Int32).toUInt32 &&& Int32.toUInt32 31)).toInt32)) &&& 252645135) + (((((((x0 - (((x0.toUInt32 >>> ((1 : Int32).toUInt32 &&& Int32.toUInt32 31)).toInt32) &&& 1431655765)) &&& 858993459) + ((((x0 - (((x0.toUInt32 >>> ((1 : Int32).toUInt32 &&& Int32.toUInt32 31)).toInt32) &&& 1431655765)).toUInt32 >>> ((2 : Int32).toUInt32 &&& Int32.toUInt32 31)).toInt32) &&& 858993459)) + (((((x0 - (((x0.toUInt32 >>> ((1 : Int32).toUInt32 &&& Int32.toUInt32 31)).toInt32) &&& 1431655765)) &&& 858993459) + ((((x0 - (((x0.toUInt32 >>> ((1 : Int32).toUInt32 &&& Int32.toUInt32 31)).toInt32) &&& 1431655765)).toUInt32 >>> ((2 : Int32).toUInt32 &&& Int32.toUInt32 31)).toInt32) &&& 858993459)).toUInt32 >>> ((4 : Int32).toUInt32 &&& Int32.toUInt32 31)).toInt32)) &&& 252645135).toUInt32 >>> ((8 : Int32).toUInt32 &&& Int32.toUInt32 31)).toInt32)) + ((((((((x0 - (((x0.toUInt32 >>> ((1 : Int32).toUInt32 &&& Int32.toUInt32 31)).toInt32) &&& 1431655765)) &&& 858993459) + ((((x0 - (((x0.toUInt32 >>> ((1 : Int32).toUInt32 &&& Int32.toUInt32 31)).toInt32) &&& 1431655765)).toUInt32 >>> ((2 : Int32).toUInt32 &&& Int32.toUInt32 31)).toInt32) &&& 858993459)) + (((((x0 - (((x0.toUInt32 >>> ((1 : Int32).toUInt32 &&& Int32.toUInt32 31)).toInt32) &&& 1431655765)) &&& 858993459) + ((((x0 - (((x0.toUInt32 >>> ((1 : Int32).toUInt32 &&& Int32.toUInt32 31)).toInt32) &&& 1431655765)).toUInt32 >>> ((2 : Int32).toUInt32 &&& Int32.toUInt32 31)).toInt32) &&& 858993459)).toUInt32 >>> ((4 : Int32).toUInt32 &&& Int32.toUInt32 31)).toInt32)) &&& 252645135) + (((((((x0 - (((x0.toUInt32 >>> ((1 : Int32).toUInt32 &&& Int32.toUInt32 31)).toInt32) &&& 1431655765)) &&& 858993459) + ((((x0 - (((x0.toUInt32 >>> ((1 : Int32).toUInt32 &&& Int32.toUInt32 31)).toInt32) &&& 1431655765)).toUInt32 >>> ((2 : Int32).toUInt32 &&& Int32.toUInt32 31)).toInt32) &&& 858993459)) + (((((x0 - (((x0.toUInt32 >>> ((1 : Int32).toUInt32 &&& Int32.toUInt32 31)).toInt32) &&& 1431655765)) &&& 858993459) + ((((x0 - (((x0.toUInt32 >>> ((1 : Int32).toUInt32 &&& Int32.toUInt32 31)).toInt32) &&& 1431655765)).toUInt32 >>> ((2 : Int32).toUInt32 &&& Int32.toUInt32 31)).toInt32) &&& 858993459)).toUInt32 >>> ((4 : Int32).toUInt32 &&& Int32.toUInt32 31)).toInt32)) &&& 252645135).toUInt32 >>> ((8 : Int32).toUInt32 &&& Int32.toUInt32 31)).toInt32)).toUInt32 >>> ((16 : Int32).toUInt32 &&& Int32.toUInt32 31)).toInt32)))]) (gDec_at D_J6_bitCount_0f7a4 37 rfl) rfl (Nat.le_of_ble_eq_true rfl) rfl ?_
  refine gx_iload_n C 0 (gDec_at D_J6_bitCount_0f7a4 38 rfl) rfl rfl ?_
  refine gx_bipush C (v := 63) (gDec_at D_J6_bitCount_0f7a4 39 rfl) (by decide) ?_
  refine gx_iand C (gDec_at D_J6_bitCount_0f7a4 40 rfl) ?_
  obtain rfl := Option.some.inj hF
  exact gx_iret C E (gDec_at D_J6_bitCount_0f7a4 41 rfl)
/-! LadderBench$Fraction.commonDivisor -/
def rm_X2_commonDivisor : Room := { frames := 0, cells := 0, slots := 0, locals := 0 }
theorem hy_X2_commonDivisor : yX2_commonDivisor.cls ≠ "java/lang/invoke/MethodHandle" ∧ yX2_commonDivisor.cls ≠ "java/lang/invoke/VarHandle" ∧ (parseMethodDescriptor yX2_commonDivisor.desc).map (fun d => d.parameters.length) = some 2 := by decide +kernel
set_option maxRecDepth 100000 in
theorem D_X2_commonDivisor : gDec cX2_commonDivisor [(0, (.lload_n 0, 1)), (1, (.lconst 0, 1)), (2, (.lcmp, 1)), (3, (.ifCond .ge 8, 3)), (6, (.lload_n 0, 1)), (7, (.lneg, 1)), (8, (.goto 4, 3)), (11, (.lload_n 0, 1)), (12, (.lstore 4, 2)), (14, (.lload_n 2, 1)), (15, (.lconst 0, 1)), (16, (.lcmp, 1)), (17, (.ifCond .ge 8, 3)), (20, (.lload_n 2, 1)), (21, (.lneg, 1)), (22, (.goto 4, 3)), (25, (.lload_n 2, 1)), (26, (.lstore 6, 2)), (28, (.iconst 0, 1)), (29, (.istore 8, 2)), (31, (.iload 8, 2)), (33, (.sipush 1000, 3)), (36, (.if_icmp .ge 31, 3)), (39, (.lload 6, 2)), (41, (.lconst 0, 1)), (42, (.lcmp, 1)), (43, (.ifCond .eq 24, 3)), (46, (.lload 4, 2)), (48, (.lload 6, 2)), (50, (.lrem, 1)), (51, (.lstore 9, 2)), (53, (.lload 6, 2)), (55, (.lstore 4, 2)), (57, (.lload 9, 2)), (59, (.lstore 6, 2)), (61, (.iinc 8 1, 3)), (64, (.goto (-33), 3)), (67, (.lload 4, 2)), (69, (.lconst 1, 1)), (70, (.lcmp, 1)), (71, (.ifCond .ge 7, 3)), (74, (.lconst 1, 1)), (75, (.goto 5, 3)), (78, (.lload 4, 2)), (80, (.lreturn, 1))] = true := by decide +kernel
def f_X2_commonDivisor_31 (h : gHp) : Nat → Int64 → Int64 → Int32 → Option (Int64)
  | 0, _, _, _ => none
  | n + 1, l4, l6, x8 => if 1000 ≤ x8 then some l4 else if l6 = 0 then some l4 else if l6 = 0 then none else f_X2_commonDivisor_31 h n l6 (l4 - l4 / l6 * l6) (x8 + 1)
set_option maxRecDepth 20000 in
set_option maxHeartbeats 4000000 in
theorem w_X2_commonDivisor_31 {w : gWd} {g : gCx} (C : gC w g cX2_commonDivisor wsX2_commonDivisor RX2 11 0 0) (h : gHp)  {o : Int64} (hk : gX w g 11 h 67 [(4, .long o)] []) : ∀ (n : Nat) (l4 : Int64) (l6 : Int64) (x8 : Int32), f_X2_commonDivisor_31 h n l4 l6 x8 = some o → gX w g 11 h 31 [(4, .long l4), (6, .long l6), (8, .int x8)] [] := by
  intro n
  induction n with
  | zero => intro _ _ _ hF; cases hF
  | succ n ih =>
    intro l4 l6 x8 hF
    rw [f_X2_commonDivisor_31] at hF
    refine gx_iload C 2 (gDec_at D_X2_commonDivisor 20 rfl) rfl ?_
    refine gx_sipush C (v := 1000) (gDec_at D_X2_commonDivisor 21 rfl) (by decide) ?_
    refine gx_icmp_ge C 67 (gDec_at D_X2_commonDivisor 22 rfl) (by decide) (fun c => ?_) (fun c => ?_)
    · replace hF := gPos c hF
      obtain rfl := Option.some.inj hF
      exact gx_sub [0] rfl hk
    · replace hF := gNeg c hF
      refine gx_lload C 1 (gDec_at D_X2_commonDivisor 23 rfl) rfl ?_
      refine gx_lconst C (v := 0) (gDec_at D_X2_commonDivisor 24 rfl) (by decide) ?_
      refine gx_lcmp_eq C 67 (gDec_at D_X2_commonDivisor 25 rfl) (gDec_at D_X2_commonDivisor 26 rfl) (by decide) (fun c => ?_) (fun c => ?_)
      · replace hF := gPos c hF
        obtain rfl := Option.some.inj hF
        exact gx_sub [0] rfl hk
      · replace hF := gNeg c hF
        refine gx_lload C 0 (gDec_at D_X2_commonDivisor 27 rfl) rfl ?_
        refine gx_lload C 1 (gDec_at D_X2_commonDivisor 28 rfl) rfl ?_
        obtain ⟨z7, hF⟩ := gGn hF
        refine gx_lrem C (gDec_at D_X2_commonDivisor 29 rfl) z7 ?_
        refine gx_lstore C (lv' := [(9, .long (l4 - l4 / l6 * l6)), (4, .long l4), (6, .long l6), (8, .int x8)]) (gDec_at D_X2_commonDivisor 30 rfl) (Nat.le_of_ble_eq_true rfl) rfl ?_
        refine gx_lload C 2 (gDec_at D_X2_commonDivisor 31 rfl) rfl ?_
        refine gx_lstore C (lv' := [(4, .long l6), (9, .long (l4 - l4 / l6 * l6)), (6, .long l6), (8, .int x8)]) (gDec_at D_X2_commonDivisor 32 rfl) (Nat.le_of_ble_eq_true rfl) rfl ?_
        refine gx_lload C 1 (gDec_at D_X2_commonDivisor 33 rfl) rfl ?_
        refine gx_lstore C (lv' := [(6, .long (l4 - l4 / l6 * l6)), (4, .long l6), (9, .long (l4 - l4 / l6 * l6)), (8, .int x8)]) (gDec_at D_X2_commonDivisor 34 rfl) (Nat.le_of_ble_eq_true rfl) rfl ?_
        refine gx_iinc C (j := 3) (v := x8 + 1) (lv' := [(8, .int (x8 + 1)), (6, .long (l4 - l4 / l6 * l6)), (4, .long l6), (9, .long (l4 - l4 / l6 * l6))]) (gDec_at D_X2_commonDivisor 35 rfl) rfl (by rfl) (Nat.le_of_ble_eq_true rfl) rfl ?_
        refine gx_goto C 31 (gDec_at D_X2_commonDivisor 36 rfl) (by decide) ?_
        exact gx_sub [2, 1, 0] rfl (ih l6 (l4 - l4 / l6 * l6) (x8 + 1) hF)
def f_X2_commonDivisor (l0 : Int64) (l2 : Int64) (h : gHp) : Option (Int64) := (if 0 ≤ l0 then some l0 else some (-l0) : Option (Int64)).bind fun v1 => (if 0 ≤ l2 then some l2 else some (-l2) : Option (Int64)).bind fun v4 => (f_X2_commonDivisor_31 h gFuel v1 v4 0).bind fun v8 => if 1 ≤ v8 then some v8 else some 1
set_option maxRecDepth 20000 in
set_option maxHeartbeats 4000000 in
theorem m_X2_commonDivisor (w : gWd) (h : gHp) (l0 : Int64) (l2 : Int64) {o : Int64} (hF : f_X2_commonDivisor l0 l2 h = some o) : gMet w yX2_commonDivisor wsX2_commonDivisor rm_X2_commonDivisor [.long l0, .long l2] h (some (.long o)) h := by
  refine gMet_of (cc := cX2_commonDivisor) (maxL := 11) (ret := (some .long)) (fr := 0) (lo := 0) (own := RX2) [(0, .long l0), (2, .long l2)] (by decide) rfl rfl (Nat.le_of_ble_eq_true rfl) rfl (Nat.le_refl _) (Nat.le_refl _) (fun g C E => ?_)
  rw [f_X2_commonDivisor] at hF
  refine gx_lload_n C 0 (gDec_at D_X2_commonDivisor 0 rfl) rfl rfl ?_
  refine gx_lconst C (v := 0) (gDec_at D_X2_commonDivisor 1 rfl) (by decide) ?_
  obtain ⟨v1, hv2, hF⟩ := gBind hF
  have k3 : gX w g 11 h 12 [(2, .long l2)] (.long v1 :: []) := by
    refine gx_lstore C (lv' := [(4, .long v1), (2, .long l2)]) (gDec_at D_X2_commonDivisor 8 rfl) (Nat.le_of_ble_eq_true rfl) rfl ?_
    refine gx_lload_n C 1 (gDec_at D_X2_commonDivisor 9 rfl) rfl rfl ?_
    refine gx_lconst C (v := 0) (gDec_at D_X2_commonDivisor 10 rfl) (by decide) ?_
    obtain ⟨v4, hv5, hF⟩ := gBind hF
    have k6 : gX w g 11 h 26 [(4, .long v1)] (.long v4 :: []) := by
      refine gx_lstore C (lv' := [(6, .long v4), (4, .long v1)]) (gDec_at D_X2_commonDivisor 17 rfl) (Nat.le_of_ble_eq_true rfl) rfl ?_
      refine gx_iconst C (v := 0) (gDec_at D_X2_commonDivisor 18 rfl) (by decide) ?_
      refine gx_istore C (lv' := [(8, .int 0), (6, .long v4), (4, .long v1)]) (gDec_at D_X2_commonDivisor 19 rfl) (Nat.le_of_ble_eq_true rfl) rfl ?_
      obtain ⟨v8, hv9, hF⟩ := gBind hF
      have k10 : gX w g 11 h 67 [(4, .long v8)] [] := by
        refine gx_lload C 0 (gDec_at D_X2_commonDivisor 37 rfl) rfl ?_
        refine gx_lconst C (v := 1) (gDec_at D_X2_commonDivisor 38 rfl) (by decide) ?_
        refine gx_lcmp_ge C 78 (gDec_at D_X2_commonDivisor 39 rfl) (gDec_at D_X2_commonDivisor 40 rfl) (by decide) (fun c => ?_) (fun c => ?_)
        · replace hF := gPos c hF
          refine gx_lload C 0 (gDec_at D_X2_commonDivisor 43 rfl) rfl ?_
          obtain rfl := Option.some.inj hF
          exact gx_lret C E (gDec_at D_X2_commonDivisor 44 rfl)
        · replace hF := gNeg c hF
          refine gx_lconst C (v := 1) (gDec_at D_X2_commonDivisor 41 rfl) (by decide) ?_
          refine gx_goto C 80 (gDec_at D_X2_commonDivisor 42 rfl) (by decide) ?_
          obtain rfl := Option.some.inj hF
          exact gx_lret C E (gDec_at D_X2_commonDivisor 44 rfl)
      exact gx_sub [2, 1, 0] rfl (w_X2_commonDivisor_31 C h k10 gFuel v1 v4 0 hv9)
    replace hF := hv5
    refine gx_lcmp_ge C 25 (gDec_at D_X2_commonDivisor 11 rfl) (gDec_at D_X2_commonDivisor 12 rfl) (by decide) (fun c => ?_) (fun c => ?_)
    · replace hF := gPos c hF
      refine gx_lload_n C 1 (gDec_at D_X2_commonDivisor 16 rfl) rfl rfl ?_
      obtain rfl := Option.some.inj hF
      exact gx_sub [0] rfl k6
    · replace hF := gNeg c hF
      refine gx_lload_n C 1 (gDec_at D_X2_commonDivisor 13 rfl) rfl rfl ?_
      refine gx_lneg C (gDec_at D_X2_commonDivisor 14 rfl) ?_
      refine gx_goto C 26 (gDec_at D_X2_commonDivisor 15 rfl) (by decide) ?_
      obtain rfl := Option.some.inj hF
      exact gx_sub [0] rfl k6
  replace hF := hv2
  refine gx_lcmp_ge C 11 (gDec_at D_X2_commonDivisor 2 rfl) (gDec_at D_X2_commonDivisor 3 rfl) (by decide) (fun c => ?_) (fun c => ?_)
  · replace hF := gPos c hF
    refine gx_lload_n C 0 (gDec_at D_X2_commonDivisor 7 rfl) rfl rfl ?_
    obtain rfl := Option.some.inj hF
    exact gx_sub [1] rfl k3
  · replace hF := gNeg c hF
    refine gx_lload_n C 0 (gDec_at D_X2_commonDivisor 4 rfl) rfl rfl ?_
    refine gx_lneg C (gDec_at D_X2_commonDivisor 5 rfl) ?_
    refine gx_goto C 12 (gDec_at D_X2_commonDivisor 6 rfl) (by decide) ?_
    obtain rfl := Option.some.inj hF
    exact gx_sub [1] rfl k3
/-! LadderBench$Fraction.put -/
def rm_X2_put : Room := { frames := 1, cells := 0, slots := 0, locals := 30 }
set_option maxRecDepth 20000 in
theorem ggX2_put_X2_commonDivisor : GoodIn wsX2_put wsX2_commonDivisor := goodIn_r _ [6] (by decide +kernel) (by decide +kernel)
set_option maxRecDepth 20000 in
theorem gX2_put_X2_commonDivisor : GoodIn wsX2_put (va_wsS RX2 18 yX2_commonDivisor wsX2_commonDivisor) := goodIn_app (goodIn_of _ (by decide +kernel)) ggX2_put_X2_commonDivisor
theorem hy_X2_put : yX2_put.cls = RX2 ∧ yX2_put.cls ≠ "java/lang/invoke/MethodHandle" ∧ yX2_put.cls ≠ "java/lang/invoke/VarHandle" ∧ (parseMethodDescriptor yX2_put.desc).map (fun d => d.parameters.length) = some 2 := by decide +kernel
set_option maxRecDepth 100000 in
theorem D_X2_put : gDec cX2_put [(0, (.lload_n 1, 1)), (1, (.lload_n 3, 1)), (2, (.invokestatic 18, 3)), (5, (.lstore 5, 2)), (7, (.aload_n 0, 1)), (8, (.lload_n 1, 1)), (9, (.lload 5, 2)), (11, (.ldiv, 1)), (12, (.putfield 9, 3)), (15, (.aload_n 0, 1)), (16, (.lload_n 3, 1)), (17, (.lload 5, 2)), (19, (.ldiv, 1)), (20, (.putfield 15, 3)), (23, (.return_, 1))] = true := by decide +kernel
set_option maxRecDepth 100000 in
theorem in_X2_put_X2 : ∀ x ∈ u_ws RX2 TX2 2, x ∈ wsX2_put := by decide +kernel
theorem flw_X2_put_9 : gFw wsX2_put RX2 9 2 0 .long := ⟨RX2, TX2, 2, tyX2, rfl, by decide, in_X2_put_X2, by decide +kernel, tyX2_ok, nmX2, rfl, by decide +kernel⟩
theorem flw_X2_put_15 : gFw wsX2_put RX2 15 2 1 .long := ⟨RX2, TX2, 2, tyX2, rfl, by decide, in_X2_put_X2, by decide +kernel, tyX2_ok, nmX2, rfl, by decide +kernel⟩
def f_X2_put (a0 : Nat) (l1 : Int64) (l3 : Int64) (h : gHp) : Option (gHp) := (f_X2_commonDivisor l1 l3 h).bind fun v2 => if v2 = 0 then none else if v2 = 0 then none else some (gsL (gsL h a0 0 (l1 / v2)) a0 1 (l3 / v2))
set_option maxRecDepth 20000 in
set_option maxHeartbeats 4000000 in
theorem m_X2_put (w : gWd) (h : gHp) {a0 : Nat} (A0 : is_X2 w a0) (l1 : Int64) (l3 : Int64) {o : gHp} (hF : f_X2_put a0 l1 l3 h = some o) : gMet w yX2_put wsX2_put rm_X2_put [.ref a0, .long l1, .long l3] h (none) o := by
  refine gMet_of (cc := cX2_put) (maxL := 7) (ret := none) (fr := 1) (lo := 30) (own := RX2) [(0, .ref a0), (1, .long l1), (3, .long l3)] (by decide) rfl rfl (Nat.le_of_ble_eq_true rfl) rfl (Nat.le_refl _) (Nat.le_refl _) (fun g C E => ?_)
  rw [f_X2_put] at hF
  refine gx_lload_n C 1 (gDec_at D_X2_put 0 rfl) rfl rfl ?_
  refine gx_lload_n C 2 (gDec_at D_X2_put 1 rfl) rfl rfl ?_
  obtain ⟨v2, hv1, hF⟩ := gBind hF
  refine gx_callS1 C (st := []) 2 [.long l1, .long l3] (m_X2_commonDivisor w h l1 l3 hv1) gX2_put_X2_commonDivisor rfl rfl rfl hy_X2_commonDivisor (Nat.le_of_ble_eq_true rfl) (Nat.le_of_ble_eq_true rfl) rfl rfl (Nat.le_of_ble_eq_true rfl) (gDec_at D_X2_put 2 rfl) ?_
  refine gx_lstore C (lv' := [(5, .long v2), (0, .ref a0), (1, .long l1), (3, .long l3)]) (gDec_at D_X2_put 3 rfl) (Nat.le_of_ble_eq_true rfl) rfl ?_
  refine gx_aload_n C 1 (gDec_at D_X2_put 4 rfl) rfl rfl ?_
  refine gx_lload_n C 2 (gDec_at D_X2_put 5 rfl) rfl rfl ?_
  refine gx_lload C 0 (gDec_at D_X2_put 6 rfl) rfl ?_
  obtain ⟨z3, hF⟩ := gGn hF
  refine gx_ldiv C (gDec_at D_X2_put 7 rfl) z3 ?_
  refine gx_putL C flw_X2_put_9 (is_X2_sh A0) rfl rfl rfl (gDec_at D_X2_put 8 rfl) ?_
  refine gx_aload_n C 1 (gDec_at D_X2_put 9 rfl) rfl rfl ?_
  refine gx_lload_n C 3 (gDec_at D_X2_put 10 rfl) rfl rfl ?_
  refine gx_lload C 0 (gDec_at D_X2_put 11 rfl) rfl ?_
  obtain ⟨z4, hF⟩ := gGn hF
  refine gx_ldiv C (gDec_at D_X2_put 12 rfl) z4 ?_
  refine gx_putL C flw_X2_put_15 (is_X2_sh A0) rfl rfl rfl (gDec_at D_X2_put 13 rfl) ?_
  obtain rfl := Option.some.inj hF
  exact gx_vret C E (gDec_at D_X2_put 14 rfl)
/-! LadderBench$Fraction.copy -/
def rm_X2_copy : Room := { frames := 0, cells := 0, slots := 0, locals := 0 }
theorem hy_X2_copy : yX2_copy.cls = RX2 ∧ yX2_copy.cls ≠ "java/lang/invoke/MethodHandle" ∧ yX2_copy.cls ≠ "java/lang/invoke/VarHandle" ∧ (parseMethodDescriptor yX2_copy.desc).map (fun d => d.parameters.length) = some 1 := by decide +kernel
set_option maxRecDepth 100000 in
theorem D_X2_copy : gDec cX2_copy [(0, (.aload_n 0, 1)), (1, (.aload_n 1, 1)), (2, (.getfield 9, 3)), (5, (.putfield 9, 3)), (8, (.aload_n 0, 1)), (9, (.aload_n 1, 1)), (10, (.getfield 15, 3)), (13, (.putfield 15, 3)), (16, (.return_, 1))] = true := by decide +kernel
set_option maxRecDepth 100000 in
theorem in_X2_copy_X2 : ∀ x ∈ u_ws RX2 TX2 2, x ∈ wsX2_copy := by decide +kernel
theorem fl_X2_copy_9 : gF wsX2_copy RX2 9 2 0 := ⟨RX2, TX2, 2, rfl, by decide, in_X2_copy_X2, by decide +kernel⟩
theorem flw_X2_copy_9 : gFw wsX2_copy RX2 9 2 0 .long := ⟨RX2, TX2, 2, tyX2, rfl, by decide, in_X2_copy_X2, by decide +kernel, tyX2_ok, nmX2, rfl, by decide +kernel⟩
theorem fl_X2_copy_15 : gF wsX2_copy RX2 15 2 1 := ⟨RX2, TX2, 2, rfl, by decide, in_X2_copy_X2, by decide +kernel⟩
theorem flw_X2_copy_15 : gFw wsX2_copy RX2 15 2 1 .long := ⟨RX2, TX2, 2, tyX2, rfl, by decide, in_X2_copy_X2, by decide +kernel, tyX2_ok, nmX2, rfl, by decide +kernel⟩
def f_X2_copy (a0 : Nat) (a1 : Nat) (h : gHp) : Option (gHp) := some (gsL (gsL h a0 0 (h.2 a1 0)) a0 1 ((gsL h a0 0 (h.2 a1 0)).2 a1 1))
set_option maxRecDepth 20000 in
set_option maxHeartbeats 4000000 in
theorem m_X2_copy (w : gWd) (h : gHp) {a0 : Nat} (A0 : is_X2 w a0) {a1 : Nat} (A1 : is_X2 w a1) {o : gHp} (hF : f_X2_copy a0 a1 h = some o) : gMet w yX2_copy wsX2_copy rm_X2_copy [.ref a0, .ref a1] h (none) o := by
  refine gMet_of (cc := cX2_copy) (maxL := 2) (ret := none) (fr := 0) (lo := 0) (own := RX2) [(0, .ref a0), (1, .ref a1)] (by decide) rfl rfl (Nat.le_of_ble_eq_true rfl) rfl (Nat.le_refl _) (Nat.le_refl _) (fun g C E => ?_)
  rw [f_X2_copy] at hF
  refine gx_aload_n C 0 (gDec_at D_X2_copy 0 rfl) rfl rfl ?_
  refine gx_aload_n C 1 (gDec_at D_X2_copy 1 rfl) rfl rfl ?_
  refine gx_getl C fl_X2_copy_9 (is_X2_sh A1) rfl (gDec_at D_X2_copy 2 rfl) ?_
  refine gx_putL C flw_X2_copy_9 (is_X2_sh A0) rfl rfl rfl (gDec_at D_X2_copy 3 rfl) ?_
  refine gx_aload_n C 0 (gDec_at D_X2_copy 4 rfl) rfl rfl ?_
  refine gx_aload_n C 1 (gDec_at D_X2_copy 5 rfl) rfl rfl ?_
  refine gx_getl C fl_X2_copy_15 (is_X2_sh A1) rfl (gDec_at D_X2_copy 6 rfl) ?_
  refine gx_putL C flw_X2_copy_15 (is_X2_sh A0) rfl rfl rfl (gDec_at D_X2_copy 7 rfl) ?_
  obtain rfl := Option.some.inj hF
  exact gx_vret C E (gDec_at D_X2_copy 8 rfl)
/-! LadderBench$Fraction.invert -/
def rm_X2_invert : Room := { frames := 0, cells := 0, slots := 0, locals := 0 }
theorem hy_X2_invert : yX2_invert.cls = RX2 ∧ yX2_invert.cls ≠ "java/lang/invoke/MethodHandle" ∧ yX2_invert.cls ≠ "java/lang/invoke/VarHandle" ∧ (parseMethodDescriptor yX2_invert.desc).map (fun d => d.parameters.length) = some 0 := by decide +kernel
set_option maxRecDepth 100000 in
theorem D_X2_invert : gDec cX2_invert [(0, (.aload_n 0, 1)), (1, (.getfield 9, 3)), (4, (.lstore_n 1, 1)), (5, (.aload_n 0, 1)), (6, (.aload_n 0, 1)), (7, (.getfield 15, 3)), (10, (.putfield 9, 3)), (13, (.aload_n 0, 1)), (14, (.lload_n 1, 1)), (15, (.putfield 15, 3)), (18, (.return_, 1))] = true := by decide +kernel
set_option maxRecDepth 100000 in
theorem in_X2_invert_X2 : ∀ x ∈ u_ws RX2 TX2 2, x ∈ wsX2_invert := by decide +kernel
theorem fl_X2_invert_9 : gF wsX2_invert RX2 9 2 0 := ⟨RX2, TX2, 2, rfl, by decide, in_X2_invert_X2, by decide +kernel⟩
theorem fl_X2_invert_15 : gF wsX2_invert RX2 15 2 1 := ⟨RX2, TX2, 2, rfl, by decide, in_X2_invert_X2, by decide +kernel⟩
theorem flw_X2_invert_9 : gFw wsX2_invert RX2 9 2 0 .long := ⟨RX2, TX2, 2, tyX2, rfl, by decide, in_X2_invert_X2, by decide +kernel, tyX2_ok, nmX2, rfl, by decide +kernel⟩
theorem flw_X2_invert_15 : gFw wsX2_invert RX2 15 2 1 .long := ⟨RX2, TX2, 2, tyX2, rfl, by decide, in_X2_invert_X2, by decide +kernel, tyX2_ok, nmX2, rfl, by decide +kernel⟩
def f_X2_invert (a0 : Nat) (h : gHp) : Option (gHp) := some (gsL (gsL h a0 0 (h.2 a0 1)) a0 1 (h.2 a0 0))
set_option maxRecDepth 20000 in
set_option maxHeartbeats 4000000 in
theorem m_X2_invert (w : gWd) (h : gHp) {a0 : Nat} (A0 : is_X2 w a0) {o : gHp} (hF : f_X2_invert a0 h = some o) : gMet w yX2_invert wsX2_invert rm_X2_invert [.ref a0] h (none) o := by
  refine gMet_of (cc := cX2_invert) (maxL := 3) (ret := none) (fr := 0) (lo := 0) (own := RX2) [(0, .ref a0)] (by decide) rfl rfl (Nat.le_of_ble_eq_true rfl) rfl (Nat.le_refl _) (Nat.le_refl _) (fun g C E => ?_)
  rw [f_X2_invert] at hF
  refine gx_aload_n C 0 (gDec_at D_X2_invert 0 rfl) rfl rfl ?_
  refine gx_getl C fl_X2_invert_9 (is_X2_sh A0) rfl (gDec_at D_X2_invert 1 rfl) ?_
  refine gx_lstore_n C (lv' := [(1, .long (h.2 a0 0)), (0, .ref a0)]) (gDec_at D_X2_invert 2 rfl) rfl (Nat.le_of_ble_eq_true rfl) rfl ?_
  refine gx_aload_n C 1 (gDec_at D_X2_invert 3 rfl) rfl rfl ?_
  refine gx_aload_n C 1 (gDec_at D_X2_invert 4 rfl) rfl rfl ?_
  refine gx_getl C fl_X2_invert_15 (is_X2_sh A0) rfl (gDec_at D_X2_invert 5 rfl) ?_
  refine gx_putL C flw_X2_invert_9 (is_X2_sh A0) rfl rfl rfl (gDec_at D_X2_invert 6 rfl) ?_
  refine gx_aload_n C 1 (gDec_at D_X2_invert 7 rfl) rfl rfl ?_
  refine gx_lload_n C 0 (gDec_at D_X2_invert 8 rfl) rfl rfl ?_
  refine gx_putL C flw_X2_invert_15 (is_X2_sh A0) rfl rfl rfl (gDec_at D_X2_invert 9 rfl) ?_
  obtain rfl := Option.some.inj hF
  exact gx_vret C E (gDec_at D_X2_invert 10 rfl)
/-! LadderBench$Fraction.add -/
def rm_X2_add : Room := { frames := 2, cells := 0, slots := 0, locals := 56 }
set_option maxRecDepth 20000 in
theorem ggX2_add_X2_commonDivisor : GoodIn wsX2_add wsX2_commonDivisor := goodIn_r _ [10] (by decide +kernel) (by decide +kernel)
set_option maxRecDepth 20000 in
theorem gX2_add_X2_commonDivisor : GoodIn wsX2_add (va_wsS RX2 18 yX2_commonDivisor wsX2_commonDivisor) := goodIn_app (goodIn_of _ (by decide +kernel)) ggX2_add_X2_commonDivisor
set_option maxRecDepth 20000 in
theorem ggX2_add_X2_put : GoodIn wsX2_add wsX2_put := goodIn_r _ [7, 2, 1, 8, 9, 6, 10, 11, 12] (by decide +kernel) (by decide +kernel)
set_option maxRecDepth 20000 in
theorem gX2_add_X2_put : GoodIn wsX2_add (wsV RX2 22 RX2 yX2_put wsX2_put) := goodIn_app (goodIn_of _ (by decide +kernel)) ggX2_add_X2_put
theorem hy_X2_add : yX2_add.cls = RX2 ∧ yX2_add.cls ≠ "java/lang/invoke/MethodHandle" ∧ yX2_add.cls ≠ "java/lang/invoke/VarHandle" ∧ (parseMethodDescriptor yX2_add.desc).map (fun d => d.parameters.length) = some 2 := by decide +kernel
set_option maxRecDepth 100000 in
theorem D_X2_add : gDec cX2_add [(0, (.aload_n 0, 1)), (1, (.getfield 15, 3)), (4, (.lconst 0, 1)), (5, (.lcmp, 1)), (6, (.ifCond .eq 12, 3)), (9, (.aload_n 1, 1)), (10, (.getfield 15, 3)), (13, (.lconst 0, 1)), (14, (.lcmp, 1)), (15, (.ifCond .ne 10, 3)), (18, (.aload_n 0, 1)), (19, (.lconst 1, 1)), (20, (.lconst 0, 1)), (21, (.invokevirtual 22, 3)), (24, (.return_, 1)), (25, (.aload_n 0, 1)), (26, (.getfield 15, 3)), (29, (.aload_n 1, 1)), (30, (.getfield 15, 3)), (33, (.invokestatic 18, 3)), (36, (.lstore_n 3, 1)), (37, (.aload_n 1, 1)), (38, (.getfield 15, 3)), (41, (.lload_n 3, 1)), (42, (.ldiv, 1)), (43, (.lstore 5, 2)), (45, (.aload_n 0, 1)), (46, (.getfield 15, 3)), (49, (.lload_n 3, 1)), (50, (.ldiv, 1)), (51, (.lstore 7, 2)), (53, (.aload_n 0, 1)), (54, (.aload_n 0, 1)), (55, (.getfield 9, 3)), (58, (.lload 5, 2)), (60, (.lmul, 1)), (61, (.iload_n 2, 1)), (62, (.i2l, 1)), (63, (.aload_n 1, 1)), (64, (.getfield 9, 3)), (67, (.lmul, 1)), (68, (.lload 7, 2)), (70, (.lmul, 1)), (71, (.ladd, 1)), (72, (.aload_n 0, 1)), (73, (.getfield 15, 3)), (76, (.lload 5, 2)), (78, (.lmul, 1)), (79, (.invokevirtual 22, 3)), (82, (.return_, 1))] = true := by decide +kernel
set_option maxRecDepth 100000 in
theorem in_X2_add_X2 : ∀ x ∈ u_ws RX2 TX2 2, x ∈ wsX2_add := by decide +kernel
theorem fl_X2_add_15 : gF wsX2_add RX2 15 2 1 := ⟨RX2, TX2, 2, rfl, by decide, in_X2_add_X2, by decide +kernel⟩
theorem fl_X2_add_9 : gF wsX2_add RX2 9 2 0 := ⟨RX2, TX2, 2, rfl, by decide, in_X2_add_X2, by decide +kernel⟩
def f_X2_add_18 (a0 : Nat) (h : gHp) : Option (gHp) := (f_X2_put a0 1 0 h).bind fun v2 => some v2
set_option maxRecDepth 20000 in
set_option maxHeartbeats 4000000 in
theorem w_X2_add_18 {w : gWd} {g : gCx} (C : gC w g cX2_add wsX2_add RX2 9 2 56) {a0 : Nat} (A0 : is_X2 w a0) (h : gHp)  {o : gHp}  (E : gEn w g none (none) o) (hF : f_X2_add_18 a0 h = some o) : gX w g 9 h 18 [(0, .ref a0)] ([]) := by
  rw [f_X2_add_18] at hF
  refine gx_aload_n C 0 (gDec_at D_X2_add 10 rfl) rfl rfl ?_
  refine gx_lconst C (v := 1) (gDec_at D_X2_add 11 rfl) (by decide) ?_
  refine gx_lconst C (v := 0) (gDec_at D_X2_add 12 rfl) (by decide) ?_
  obtain ⟨v2, hv1, hF⟩ := gBind hF
  refine gx_callV0 C (st := []) 2 [.long 1, .long 0] (m_X2_put w h A0 1 0 hv1) gX2_add_X2_put rfl rfl rfl hy_X2_put (Nat.le_of_ble_eq_true rfl) (Nat.le_of_ble_eq_true rfl) (is_X2_sh A0) rfl rfl rfl (Nat.le_of_ble_eq_true rfl) (gDec_at D_X2_add 13 rfl) ?_
  obtain rfl := Option.some.inj hF
  exact gx_vret C E (gDec_at D_X2_add 14 rfl)
def f_X2_add (a0 : Nat) (a1 : Nat) (x2 : Int32) (h : gHp) : Option (gHp) := if (h.2 a0 1) = 0 then f_X2_add_18 a0 h else if (h.2 a1 1) = 0 then f_X2_add_18 a0 h else (f_X2_commonDivisor (h.2 a0 1) (h.2 a1 1) h).bind fun v4 => if v4 = 0 then none else if v4 = 0 then none else (f_X2_put a0 (((h.2 a0 0) * ((h.2 a1 1) / v4)) + ((x2.toInt64 * (h.2 a1 0)) * ((h.2 a0 1) / v4))) ((h.2 a0 1) * ((h.2 a1 1) / v4)) h).bind fun v8 => some v8
set_option maxRecDepth 20000 in
set_option maxHeartbeats 4000000 in
theorem m_X2_add (w : gWd) (h : gHp) {a0 : Nat} (A0 : is_X2 w a0) {a1 : Nat} (A1 : is_X2 w a1) (x2 : Int32) {o : gHp} (hF : f_X2_add a0 a1 x2 h = some o) : gMet w yX2_add wsX2_add rm_X2_add [.ref a0, .ref a1, .int x2] h (none) o := by
  refine gMet_of (cc := cX2_add) (maxL := 9) (ret := none) (fr := 2) (lo := 56) (own := RX2) [(0, .ref a0), (1, .ref a1), (2, .int x2)] (by decide) rfl rfl (Nat.le_of_ble_eq_true rfl) rfl (Nat.le_refl _) (Nat.le_refl _) (fun g C E => ?_)
  rw [f_X2_add] at hF
  refine gx_aload_n C 0 (gDec_at D_X2_add 0 rfl) rfl rfl ?_
  refine gx_getl C fl_X2_add_15 (is_X2_sh A0) rfl (gDec_at D_X2_add 1 rfl) ?_
  refine gx_lconst C (v := 0) (gDec_at D_X2_add 2 rfl) (by decide) ?_
  refine gx_lcmp_eq C 18 (gDec_at D_X2_add 3 rfl) (gDec_at D_X2_add 4 rfl) (by decide) (fun c => ?_) (fun c => ?_)
  · replace hF := gPos c hF
    exact gx_sub [0] rfl (w_X2_add_18 C A0 h   E hF)
  · replace hF := gNeg c hF
    refine gx_aload_n C 1 (gDec_at D_X2_add 5 rfl) rfl rfl ?_
    refine gx_getl C fl_X2_add_15 (is_X2_sh A1) rfl (gDec_at D_X2_add 6 rfl) ?_
    refine gx_lconst C (v := 0) (gDec_at D_X2_add 7 rfl) (by decide) ?_
    refine gx_lcmp_ne C 25 (gDec_at D_X2_add 8 rfl) (gDec_at D_X2_add 9 rfl) (by decide) (fun c => ?_) (fun c => ?_)
    · replace hF := gNeg c hF
      refine gx_aload_n C 0 (gDec_at D_X2_add 15 rfl) rfl rfl ?_
      refine gx_getl C fl_X2_add_15 (is_X2_sh A0) rfl (gDec_at D_X2_add 16 rfl) ?_
      refine gx_aload_n C 1 (gDec_at D_X2_add 17 rfl) rfl rfl ?_
      refine gx_getl C fl_X2_add_15 (is_X2_sh A1) rfl (gDec_at D_X2_add 18 rfl) ?_
      obtain ⟨v4, hv3, hF⟩ := gBind hF
      refine gx_callS1 C (st := []) 2 [.long (h.2 a0 1), .long (h.2 a1 1)] (m_X2_commonDivisor w h (h.2 a0 1) (h.2 a1 1) hv3) gX2_add_X2_commonDivisor rfl rfl rfl hy_X2_commonDivisor (Nat.le_of_ble_eq_true rfl) (Nat.le_of_ble_eq_true rfl) rfl rfl (Nat.le_of_ble_eq_true rfl) (gDec_at D_X2_add 19 rfl) ?_
      refine gx_lstore_n C (lv' := [(3, .long v4), (0, .ref a0), (1, .ref a1), (2, .int x2)]) (gDec_at D_X2_add 20 rfl) rfl (Nat.le_of_ble_eq_true rfl) rfl ?_
      refine gx_aload_n C 2 (gDec_at D_X2_add 21 rfl) rfl rfl ?_
      refine gx_getl C fl_X2_add_15 (is_X2_sh A1) rfl (gDec_at D_X2_add 22 rfl) ?_
      refine gx_lload_n C 0 (gDec_at D_X2_add 23 rfl) rfl rfl ?_
      obtain ⟨z5, hF⟩ := gGn hF
      refine gx_ldiv C (gDec_at D_X2_add 24 rfl) z5 ?_
      refine gx_lstore C (lv' := [(5, .long ((h.2 a1 1) / v4)), (3, .long v4), (0, .ref a0), (1, .ref a1), (2, .int x2)]) (gDec_at D_X2_add 25 rfl) (Nat.le_of_ble_eq_true rfl) rfl ?_
      refine gx_aload_n C 2 (gDec_at D_X2_add 26 rfl) rfl rfl ?_
      refine gx_getl C fl_X2_add_15 (is_X2_sh A0) rfl (gDec_at D_X2_add 27 rfl) ?_
      refine gx_lload_n C 1 (gDec_at D_X2_add 28 rfl) rfl rfl ?_
      obtain ⟨z6, hF⟩ := gGn hF
      refine gx_ldiv C (gDec_at D_X2_add 29 rfl) z6 ?_
      refine gx_lstore C (lv' := [(7, .long ((h.2 a0 1) / v4)), (5, .long ((h.2 a1 1) / v4)), (3, .long v4), (0, .ref a0), (1, .ref a1), (2, .int x2)]) (gDec_at D_X2_add 30 rfl) (Nat.le_of_ble_eq_true rfl) rfl ?_
      refine gx_aload_n C 3 (gDec_at D_X2_add 31 rfl) rfl rfl ?_
      refine gx_aload_n C 3 (gDec_at D_X2_add 32 rfl) rfl rfl ?_
      refine gx_getl C fl_X2_add_9 (is_X2_sh A0) rfl (gDec_at D_X2_add 33 rfl) ?_
      refine gx_lload C 1 (gDec_at D_X2_add 34 rfl) rfl ?_
      refine gx_lmul C (gDec_at D_X2_add 35 rfl) ?_
      refine gx_iload_n C 5 (gDec_at D_X2_add 36 rfl) rfl rfl ?_
      refine gx_i2l C (gDec_at D_X2_add 37 rfl) ?_
      refine gx_aload_n C 4 (gDec_at D_X2_add 38 rfl) rfl rfl ?_
      refine gx_getl C fl_X2_add_9 (is_X2_sh A1) rfl (gDec_at D_X2_add 39 rfl) ?_
      refine gx_lmul C (gDec_at D_X2_add 40 rfl) ?_
      refine gx_lload C 0 (gDec_at D_X2_add 41 rfl) rfl ?_
      refine gx_lmul C (gDec_at D_X2_add 42 rfl) ?_
      refine gx_ladd C (gDec_at D_X2_add 43 rfl) ?_
      refine gx_aload_n C 3 (gDec_at D_X2_add 44 rfl) rfl rfl ?_
      refine gx_getl C fl_X2_add_15 (is_X2_sh A0) rfl (gDec_at D_X2_add 45 rfl) ?_
      refine gx_lload C 1 (gDec_at D_X2_add 46 rfl) rfl ?_
      refine gx_lmul C (gDec_at D_X2_add 47 rfl) ?_
      obtain ⟨v8, hv7, hF⟩ := gBind hF
      refine gx_callV0 C (st := []) 2 [.long (((h.2 a0 0) * ((h.2 a1 1) / v4)) + ((x2.toInt64 * (h.2 a1 0)) * ((h.2 a0 1) / v4))), .long ((h.2 a0 1) * ((h.2 a1 1) / v4))] (m_X2_put w h A0 (((h.2 a0 0) * ((h.2 a1 1) / v4)) + ((x2.toInt64 * (h.2 a1 0)) * ((h.2 a0 1) / v4))) ((h.2 a0 1) * ((h.2 a1 1) / v4)) hv7) gX2_add_X2_put rfl rfl rfl hy_X2_put (Nat.le_of_ble_eq_true rfl) (Nat.le_of_ble_eq_true rfl) (is_X2_sh A0) rfl rfl rfl (Nat.le_of_ble_eq_true rfl) (gDec_at D_X2_add 48 rfl) ?_
      obtain rfl := Option.some.inj hF
      exact gx_vret C E (gDec_at D_X2_add 49 rfl)
    · replace hF := gPos c hF
      exact gx_sub [0] rfl (w_X2_add_18 C A0 h   E hF)
/-! LadderBench$Fraction.isInfinite -/
def rm_X2_isInfinite : Room := { frames := 0, cells := 0, slots := 0, locals := 0 }
theorem hy_X2_isInfinite : yX2_isInfinite.cls = RX2 ∧ yX2_isInfinite.cls ≠ "java/lang/invoke/MethodHandle" ∧ yX2_isInfinite.cls ≠ "java/lang/invoke/VarHandle" ∧ (parseMethodDescriptor yX2_isInfinite.desc).map (fun d => d.parameters.length) = some 0 := by decide +kernel
set_option maxRecDepth 100000 in
theorem D_X2_isInfinite : gDec cX2_isInfinite [(0, (.aload_n 0, 1)), (1, (.getfield 15, 3)), (4, (.lconst 0, 1)), (5, (.lcmp, 1)), (6, (.ifCond .ne 7, 3)), (9, (.iconst 1, 1)), (10, (.goto 4, 3)), (13, (.iconst 0, 1)), (14, (.ireturn, 1))] = true := by decide +kernel
set_option maxRecDepth 100000 in
theorem in_X2_isInfinite_X2 : ∀ x ∈ u_ws RX2 TX2 2, x ∈ wsX2_isInfinite := by decide +kernel
theorem fl_X2_isInfinite_15 : gF wsX2_isInfinite RX2 15 2 1 := ⟨RX2, TX2, 2, rfl, by decide, in_X2_isInfinite_X2, by decide +kernel⟩
def f_X2_isInfinite (a0 : Nat) (h : gHp) : Option (Bool) := if (h.2 a0 1) = 0 then some true else some false
set_option maxRecDepth 20000 in
set_option maxHeartbeats 4000000 in
theorem m_X2_isInfinite (w : gWd) (h : gHp) {a0 : Nat} (A0 : is_X2 w a0) {o : Bool} (hF : f_X2_isInfinite a0 h = some o) : gMet w yX2_isInfinite wsX2_isInfinite rm_X2_isInfinite [.ref a0] h (some (.int (gZ o))) h := by
  refine gMet_of (cc := cX2_isInfinite) (maxL := 1) (ret := (some .boolean)) (fr := 0) (lo := 0) (own := RX2) [(0, .ref a0)] (by decide) rfl rfl (Nat.le_of_ble_eq_true rfl) rfl (Nat.le_refl _) (Nat.le_refl _) (fun g C E => ?_)
  rw [f_X2_isInfinite] at hF
  refine gx_aload_n C 0 (gDec_at D_X2_isInfinite 0 rfl) rfl rfl ?_
  refine gx_getl C fl_X2_isInfinite_15 (is_X2_sh A0) rfl (gDec_at D_X2_isInfinite 1 rfl) ?_
  refine gx_lconst C (v := 0) (gDec_at D_X2_isInfinite 2 rfl) (by decide) ?_
  refine gx_lcmp_ne C 13 (gDec_at D_X2_isInfinite 3 rfl) (gDec_at D_X2_isInfinite 4 rfl) (by decide) (fun c => ?_) (fun c => ?_)
  · replace hF := gNeg c hF
    refine gx_iconst C (v := 0) (gDec_at D_X2_isInfinite 7 rfl) (by decide) ?_
    obtain rfl := Option.some.inj hF
    exact gx_zret (b := false) C E (gDec_at D_X2_isInfinite 8 rfl)
  · replace hF := gPos c hF
    refine gx_iconst C (v := 1) (gDec_at D_X2_isInfinite 5 rfl) (by decide) ?_
    refine gx_goto C 14 (gDec_at D_X2_isInfinite 6 rfl) (by decide) ?_
    obtain rfl := Option.some.inj hF
    exact gx_zret (b := true) C E (gDec_at D_X2_isInfinite 8 rfl)
/-! LadderBench$Fraction.isZero -/
def rm_X2_isZero : Room := { frames := 0, cells := 0, slots := 0, locals := 0 }
theorem hy_X2_isZero : yX2_isZero.cls = RX2 ∧ yX2_isZero.cls ≠ "java/lang/invoke/MethodHandle" ∧ yX2_isZero.cls ≠ "java/lang/invoke/VarHandle" ∧ (parseMethodDescriptor yX2_isZero.desc).map (fun d => d.parameters.length) = some 0 := by decide +kernel
set_option maxRecDepth 100000 in
theorem D_X2_isZero : gDec cX2_isZero [(0, (.aload_n 0, 1)), (1, (.getfield 9, 3)), (4, (.lconst 0, 1)), (5, (.lcmp, 1)), (6, (.ifCond .ne 7, 3)), (9, (.iconst 1, 1)), (10, (.goto 4, 3)), (13, (.iconst 0, 1)), (14, (.ireturn, 1))] = true := by decide +kernel
set_option maxRecDepth 100000 in
theorem in_X2_isZero_X2 : ∀ x ∈ u_ws RX2 TX2 2, x ∈ wsX2_isZero := by decide +kernel
theorem fl_X2_isZero_9 : gF wsX2_isZero RX2 9 2 0 := ⟨RX2, TX2, 2, rfl, by decide, in_X2_isZero_X2, by decide +kernel⟩
def f_X2_isZero (a0 : Nat) (h : gHp) : Option (Bool) := if (h.2 a0 0) = 0 then some true else some false
set_option maxRecDepth 20000 in
set_option maxHeartbeats 4000000 in
theorem m_X2_isZero (w : gWd) (h : gHp) {a0 : Nat} (A0 : is_X2 w a0) {o : Bool} (hF : f_X2_isZero a0 h = some o) : gMet w yX2_isZero wsX2_isZero rm_X2_isZero [.ref a0] h (some (.int (gZ o))) h := by
  refine gMet_of (cc := cX2_isZero) (maxL := 1) (ret := (some .boolean)) (fr := 0) (lo := 0) (own := RX2) [(0, .ref a0)] (by decide) rfl rfl (Nat.le_of_ble_eq_true rfl) rfl (Nat.le_refl _) (Nat.le_refl _) (fun g C E => ?_)
  rw [f_X2_isZero] at hF
  refine gx_aload_n C 0 (gDec_at D_X2_isZero 0 rfl) rfl rfl ?_
  refine gx_getl C fl_X2_isZero_9 (is_X2_sh A0) rfl (gDec_at D_X2_isZero 1 rfl) ?_
  refine gx_lconst C (v := 0) (gDec_at D_X2_isZero 2 rfl) (by decide) ?_
  refine gx_lcmp_ne C 13 (gDec_at D_X2_isZero 3 rfl) (gDec_at D_X2_isZero 4 rfl) (by decide) (fun c => ?_) (fun c => ?_)
  · replace hF := gNeg c hF
    refine gx_iconst C (v := 0) (gDec_at D_X2_isZero 7 rfl) (by decide) ?_
    obtain rfl := Option.some.inj hF
    exact gx_zret (b := false) C E (gDec_at D_X2_isZero 8 rfl)
  · replace hF := gPos c hF
    refine gx_iconst C (v := 1) (gDec_at D_X2_isZero 5 rfl) (by decide) ?_
    refine gx_goto C 14 (gDec_at D_X2_isZero 6 rfl) (by decide) ?_
    obtain rfl := Option.some.inj hF
    exact gx_zret (b := true) C E (gDec_at D_X2_isZero 8 rfl)
/-! LadderBench$Fraction.multiply -/
def rm_X2_multiply : Room := { frames := 1, cells := 0, slots := 0, locals := 30 }
set_option maxRecDepth 20000 in
theorem ggX2_multiply_X2_commonDivisor : GoodIn wsX2_multiply wsX2_commonDivisor := goodIn_r _ [6] (by decide +kernel) (by decide +kernel)
set_option maxRecDepth 20000 in
theorem gX2_multiply_X2_commonDivisor : GoodIn wsX2_multiply (va_wsS RX2 18 yX2_commonDivisor wsX2_commonDivisor) := goodIn_app (goodIn_of _ (by decide +kernel)) ggX2_multiply_X2_commonDivisor
theorem hy_X2_multiply : yX2_multiply.cls = RX2 ∧ yX2_multiply.cls ≠ "java/lang/invoke/MethodHandle" ∧ yX2_multiply.cls ≠ "java/lang/invoke/VarHandle" ∧ (parseMethodDescriptor yX2_multiply.desc).map (fun d => d.parameters.length) = some 1 := by decide +kernel
set_option maxRecDepth 100000 in
theorem D_X2_multiply : gDec cX2_multiply [(0, (.aload_n 0, 1)), (1, (.getfield 9, 3)), (4, (.aload_n 1, 1)), (5, (.getfield 15, 3)), (8, (.invokestatic 18, 3)), (11, (.lstore_n 2, 1)), (12, (.aload_n 1, 1)), (13, (.getfield 9, 3)), (16, (.aload_n 0, 1)), (17, (.getfield 15, 3)), (20, (.invokestatic 18, 3)), (23, (.lstore 4, 2)), (25, (.aload_n 0, 1)), (26, (.getfield 9, 3)), (29, (.lload_n 2, 1)), (30, (.ldiv, 1)), (31, (.aload_n 1, 1)), (32, (.getfield 9, 3)), (35, (.lload 4, 2)), (37, (.ldiv, 1)), (38, (.lmul, 1)), (39, (.lstore 6, 2)), (41, (.aload_n 0, 1)), (42, (.aload_n 0, 1)), (43, (.getfield 15, 3)), (46, (.lload 4, 2)), (48, (.ldiv, 1)), (49, (.aload_n 1, 1)), (50, (.getfield 15, 3)), (53, (.lload_n 2, 1)), (54, (.ldiv, 1)), (55, (.lmul, 1)), (56, (.putfield 15, 3)), (59, (.aload_n 0, 1)), (60, (.lload 6, 2)), (62, (.putfield 9, 3)), (65, (.return_, 1))] = true := by decide +kernel
set_option maxRecDepth 100000 in
theorem in_X2_multiply_X2 : ∀ x ∈ u_ws RX2 TX2 2, x ∈ wsX2_multiply := by decide +kernel
theorem fl_X2_multiply_9 : gF wsX2_multiply RX2 9 2 0 := ⟨RX2, TX2, 2, rfl, by decide, in_X2_multiply_X2, by decide +kernel⟩
theorem fl_X2_multiply_15 : gF wsX2_multiply RX2 15 2 1 := ⟨RX2, TX2, 2, rfl, by decide, in_X2_multiply_X2, by decide +kernel⟩
theorem flw_X2_multiply_15 : gFw wsX2_multiply RX2 15 2 1 .long := ⟨RX2, TX2, 2, tyX2, rfl, by decide, in_X2_multiply_X2, by decide +kernel, tyX2_ok, nmX2, rfl, by decide +kernel⟩
theorem flw_X2_multiply_9 : gFw wsX2_multiply RX2 9 2 0 .long := ⟨RX2, TX2, 2, tyX2, rfl, by decide, in_X2_multiply_X2, by decide +kernel, tyX2_ok, nmX2, rfl, by decide +kernel⟩
def f_X2_multiply (a0 : Nat) (a1 : Nat) (h : gHp) : Option (gHp) := (f_X2_commonDivisor (h.2 a0 0) (h.2 a1 1) h).bind fun v2 => (f_X2_commonDivisor (h.2 a1 0) (h.2 a0 1) h).bind fun v4 => if v2 = 0 then none else if v4 = 0 then none else if v4 = 0 then none else if v2 = 0 then none else some (gsL (gsL h a0 1 (((h.2 a0 1) / v4) * ((h.2 a1 1) / v2))) a0 0 (((h.2 a0 0) / v2) * ((h.2 a1 0) / v4)))
set_option maxRecDepth 20000 in
set_option maxHeartbeats 4000000 in
theorem m_X2_multiply (w : gWd) (h : gHp) {a0 : Nat} (A0 : is_X2 w a0) {a1 : Nat} (A1 : is_X2 w a1) {o : gHp} (hF : f_X2_multiply a0 a1 h = some o) : gMet w yX2_multiply wsX2_multiply rm_X2_multiply [.ref a0, .ref a1] h (none) o := by
  refine gMet_of (cc := cX2_multiply) (maxL := 8) (ret := none) (fr := 1) (lo := 30) (own := RX2) [(0, .ref a0), (1, .ref a1)] (by decide) rfl rfl (Nat.le_of_ble_eq_true rfl) rfl (Nat.le_refl _) (Nat.le_refl _) (fun g C E => ?_)
  rw [f_X2_multiply] at hF
  refine gx_aload_n C 0 (gDec_at D_X2_multiply 0 rfl) rfl rfl ?_
  refine gx_getl C fl_X2_multiply_9 (is_X2_sh A0) rfl (gDec_at D_X2_multiply 1 rfl) ?_
  refine gx_aload_n C 1 (gDec_at D_X2_multiply 2 rfl) rfl rfl ?_
  refine gx_getl C fl_X2_multiply_15 (is_X2_sh A1) rfl (gDec_at D_X2_multiply 3 rfl) ?_
  obtain ⟨v2, hv1, hF⟩ := gBind hF
  refine gx_callS1 C (st := []) 2 [.long (h.2 a0 0), .long (h.2 a1 1)] (m_X2_commonDivisor w h (h.2 a0 0) (h.2 a1 1) hv1) gX2_multiply_X2_commonDivisor rfl rfl rfl hy_X2_commonDivisor (Nat.le_of_ble_eq_true rfl) (Nat.le_of_ble_eq_true rfl) rfl rfl (Nat.le_of_ble_eq_true rfl) (gDec_at D_X2_multiply 4 rfl) ?_
  refine gx_lstore_n C (lv' := [(2, .long v2), (0, .ref a0), (1, .ref a1)]) (gDec_at D_X2_multiply 5 rfl) rfl (Nat.le_of_ble_eq_true rfl) rfl ?_
  refine gx_aload_n C 2 (gDec_at D_X2_multiply 6 rfl) rfl rfl ?_
  refine gx_getl C fl_X2_multiply_9 (is_X2_sh A1) rfl (gDec_at D_X2_multiply 7 rfl) ?_
  refine gx_aload_n C 1 (gDec_at D_X2_multiply 8 rfl) rfl rfl ?_
  refine gx_getl C fl_X2_multiply_15 (is_X2_sh A0) rfl (gDec_at D_X2_multiply 9 rfl) ?_
  obtain ⟨v4, hv3, hF⟩ := gBind hF
  refine gx_callS1 C (st := []) 2 [.long (h.2 a1 0), .long (h.2 a0 1)] (m_X2_commonDivisor w h (h.2 a1 0) (h.2 a0 1) hv3) gX2_multiply_X2_commonDivisor rfl rfl rfl hy_X2_commonDivisor (Nat.le_of_ble_eq_true rfl) (Nat.le_of_ble_eq_true rfl) rfl rfl (Nat.le_of_ble_eq_true rfl) (gDec_at D_X2_multiply 10 rfl) ?_
  refine gx_lstore C (lv' := [(4, .long v4), (2, .long v2), (0, .ref a0), (1, .ref a1)]) (gDec_at D_X2_multiply 11 rfl) (Nat.le_of_ble_eq_true rfl) rfl ?_
  refine gx_aload_n C 2 (gDec_at D_X2_multiply 12 rfl) rfl rfl ?_
  refine gx_getl C fl_X2_multiply_9 (is_X2_sh A0) rfl (gDec_at D_X2_multiply 13 rfl) ?_
  refine gx_lload_n C 1 (gDec_at D_X2_multiply 14 rfl) rfl rfl ?_
  obtain ⟨z5, hF⟩ := gGn hF
  refine gx_ldiv C (gDec_at D_X2_multiply 15 rfl) z5 ?_
  refine gx_aload_n C 3 (gDec_at D_X2_multiply 16 rfl) rfl rfl ?_
  refine gx_getl C fl_X2_multiply_9 (is_X2_sh A1) rfl (gDec_at D_X2_multiply 17 rfl) ?_
  refine gx_lload C 0 (gDec_at D_X2_multiply 18 rfl) rfl ?_
  obtain ⟨z6, hF⟩ := gGn hF
  refine gx_ldiv C (gDec_at D_X2_multiply 19 rfl) z6 ?_
  refine gx_lmul C (gDec_at D_X2_multiply 20 rfl) ?_
  refine gx_lstore C (lv' := [(6, .long (((h.2 a0 0) / v2) * ((h.2 a1 0) / v4))), (4, .long v4), (2, .long v2), (0, .ref a0), (1, .ref a1)]) (gDec_at D_X2_multiply 21 rfl) (Nat.le_of_ble_eq_true rfl) rfl ?_
  refine gx_aload_n C 3 (gDec_at D_X2_multiply 22 rfl) rfl rfl ?_
  refine gx_aload_n C 3 (gDec_at D_X2_multiply 23 rfl) rfl rfl ?_
  refine gx_getl C fl_X2_multiply_15 (is_X2_sh A0) rfl (gDec_at D_X2_multiply 24 rfl) ?_
  refine gx_lload C 1 (gDec_at D_X2_multiply 25 rfl) rfl ?_
  obtain ⟨z7, hF⟩ := gGn hF
  refine gx_ldiv C (gDec_at D_X2_multiply 26 rfl) z7 ?_
  refine gx_aload_n C 4 (gDec_at D_X2_multiply 27 rfl) rfl rfl ?_
  refine gx_getl C fl_X2_multiply_15 (is_X2_sh A1) rfl (gDec_at D_X2_multiply 28 rfl) ?_
  refine gx_lload_n C 2 (gDec_at D_X2_multiply 29 rfl) rfl rfl ?_
  obtain ⟨z8, hF⟩ := gGn hF
  refine gx_ldiv C (gDec_at D_X2_multiply 30 rfl) z8 ?_
  refine gx_lmul C (gDec_at D_X2_multiply 31 rfl) ?_
  refine gx_putL C flw_X2_multiply_15 (is_X2_sh A0) rfl rfl rfl (gDec_at D_X2_multiply 32 rfl) ?_
  refine gx_aload_n C 3 (gDec_at D_X2_multiply 33 rfl) rfl rfl ?_
  refine gx_lload C 0 (gDec_at D_X2_multiply 34 rfl) rfl ?_
  refine gx_putL C flw_X2_multiply_9 (is_X2_sh A0) rfl rfl rfl (gDec_at D_X2_multiply 35 rfl) ?_
  obtain rfl := Option.some.inj hF
  exact gx_vret C E (gDec_at D_X2_multiply 36 rfl)
/-! LadderBench$Fraction.half -/
def rm_X2_half : Room := { frames := 0, cells := 0, slots := 0, locals := 0 }
theorem hy_X2_half : yX2_half.cls = RX2 ∧ yX2_half.cls ≠ "java/lang/invoke/MethodHandle" ∧ yX2_half.cls ≠ "java/lang/invoke/VarHandle" ∧ (parseMethodDescriptor yX2_half.desc).map (fun d => d.parameters.length) = some 1 := by decide +kernel
set_option maxRecDepth 100000 in
theorem D_X2_half : gDec cX2_half [(0, (.iload_n 1, 1)), (1, (.ifCond .ne 10, 3)), (4, (.aload_n 0, 1)), (5, (.getfield 9, 3)), (8, (.goto 7, 3)), (11, (.aload_n 0, 1)), (12, (.getfield 15, 3)), (15, (.lreturn, 1))] = true := by decide +kernel
set_option maxRecDepth 100000 in
theorem in_X2_half_X2 : ∀ x ∈ u_ws RX2 TX2 2, x ∈ wsX2_half := by decide +kernel
theorem fl_X2_half_15 : gF wsX2_half RX2 15 2 1 := ⟨RX2, TX2, 2, rfl, by decide, in_X2_half_X2, by decide +kernel⟩
theorem fl_X2_half_9 : gF wsX2_half RX2 9 2 0 := ⟨RX2, TX2, 2, rfl, by decide, in_X2_half_X2, by decide +kernel⟩
def f_X2_half (a0 : Nat) (x1 : Int32) (h : gHp) : Option (Int64) := if x1 = 0 then some (h.2 a0 0) else some (h.2 a0 1)
set_option maxRecDepth 20000 in
set_option maxHeartbeats 4000000 in
theorem m_X2_half (w : gWd) (h : gHp) {a0 : Nat} (A0 : is_X2 w a0) (x1 : Int32) {o : Int64} (hF : f_X2_half a0 x1 h = some o) : gMet w yX2_half wsX2_half rm_X2_half [.ref a0, .int x1] h (some (.long o)) h := by
  refine gMet_of (cc := cX2_half) (maxL := 2) (ret := (some .long)) (fr := 0) (lo := 0) (own := RX2) [(0, .ref a0), (1, .int x1)] (by decide) rfl rfl (Nat.le_of_ble_eq_true rfl) rfl (Nat.le_refl _) (Nat.le_refl _) (fun g C E => ?_)
  rw [f_X2_half] at hF
  refine gx_iload_n C 1 (gDec_at D_X2_half 0 rfl) rfl rfl ?_
  refine gx_if_ne C 11 (gDec_at D_X2_half 1 rfl) (by decide) (fun c => ?_) (fun c => ?_)
  · replace hF := gNeg c hF
    refine gx_aload_n C 0 (gDec_at D_X2_half 5 rfl) rfl rfl ?_
    refine gx_getl C fl_X2_half_15 (is_X2_sh A0) rfl (gDec_at D_X2_half 6 rfl) ?_
    obtain rfl := Option.some.inj hF
    exact gx_lret C E (gDec_at D_X2_half 7 rfl)
  · replace hF := gPos c hF
    refine gx_aload_n C 0 (gDec_at D_X2_half 2 rfl) rfl rfl ?_
    refine gx_getl C fl_X2_half_9 (is_X2_sh A0) rfl (gDec_at D_X2_half 3 rfl) ?_
    refine gx_goto C 15 (gDec_at D_X2_half 4 rfl) (by decide) ?_
    obtain rfl := Option.some.inj hF
    exact gx_lret C E (gDec_at D_X2_half 7 rfl)
/-! java/lang/Math.floorDiv -/
def rm_J9_floorDiv_f86c9 : Room := { frames := 0, cells := 0, slots := 0, locals := 0 }
theorem hy_J9_floorDiv_f86c9 : yJ9_floorDiv_f86c9.cls ≠ "java/lang/invoke/MethodHandle" ∧ yJ9_floorDiv_f86c9.cls ≠ "java/lang/invoke/VarHandle" ∧ (parseMethodDescriptor yJ9_floorDiv_f86c9.desc).map (fun d => d.parameters.length) = some 2 := by decide +kernel
set_option maxRecDepth 100000 in
theorem D_J9_floorDiv_f86c9 : gDec cJ9_floorDiv_f86c9 [(0, (.lload_n 0, 1)), (1, (.lload_n 2, 1)), (2, (.ldiv, 1)), (3, (.lstore 4, 2)), (5, (.lload_n 0, 1)), (6, (.lload_n 2, 1)), (7, (.lxor, 1)), (8, (.lconst 0, 1)), (9, (.lcmp, 1)), (10, (.ifCond .ge 17, 3)), (13, (.lload 4, 2)), (15, (.lload_n 2, 1)), (16, (.lmul, 1)), (17, (.lload_n 0, 1)), (18, (.lcmp, 1)), (19, (.ifCond .eq 8, 3)), (22, (.lload 4, 2)), (24, (.lconst 1, 1)), (25, (.lsub, 1)), (26, (.lreturn, 1)), (27, (.lload 4, 2)), (29, (.lreturn, 1))] = true := by decide +kernel
def f_J9_floorDiv_f86c9 (l0 : Int64) (l2 : Int64) (h : gHp) : Option (Int64) := if l2 = 0 then none else if 0 ≤ (l0 ^^^ l2) then some (l0 / l2) else if ((l0 / l2) * l2) = l0 then some (l0 / l2) else some ((l0 / l2) - 1)
set_option maxRecDepth 20000 in
set_option maxHeartbeats 4000000 in
theorem m_J9_floorDiv_f86c9 (w : gWd) (h : gHp) (l0 : Int64) (l2 : Int64) {o : Int64} (hF : f_J9_floorDiv_f86c9 l0 l2 h = some o) : gMet w yJ9_floorDiv_f86c9 wsJ9_floorDiv_f86c9 rm_J9_floorDiv_f86c9 [.long l0, .long l2] h (some (.long o)) h := by
  refine gMet_ofF (cc := cJ9_floorDiv_f86c9) (maxL := 6) (ret := (some .long)) (fr := 0) (lo := 0) (own := RJ9) [(0, .long l0), (2, .long l2)] (by decide +kernel) rfl rfl (Nat.le_of_ble_eq_true rfl) rfl (Nat.le_refl _) (Nat.le_refl _) (fun g C E => ?_)
  rw [f_J9_floorDiv_f86c9] at hF
  refine gx_lload_n C 0 (gDec_at D_J9_floorDiv_f86c9 0 rfl) rfl rfl ?_
  refine gx_lload_n C 1 (gDec_at D_J9_floorDiv_f86c9 1 rfl) rfl rfl ?_
  obtain ⟨z1, hF⟩ := gGn hF
  refine gx_ldiv C (gDec_at D_J9_floorDiv_f86c9 2 rfl) z1 ?_
  refine gx_lstore C (lv' := [(4, .long (l0 / l2)), (0, .long l0), (2, .long l2)]) (gDec_at D_J9_floorDiv_f86c9 3 rfl) (Nat.le_of_ble_eq_true rfl) rfl ?_
  refine gx_lload_n C 1 (gDec_at D_J9_floorDiv_f86c9 4 rfl) rfl rfl ?_
  refine gx_lload_n C 2 (gDec_at D_J9_floorDiv_f86c9 5 rfl) rfl rfl ?_
  refine gx_lxor C (gDec_at D_J9_floorDiv_f86c9 6 rfl) ?_
  refine gx_lconst C (v := 0) (gDec_at D_J9_floorDiv_f86c9 7 rfl) (by decide) ?_
  refine gx_lcmp_ge C 27 (gDec_at D_J9_floorDiv_f86c9 8 rfl) (gDec_at D_J9_floorDiv_f86c9 9 rfl) (by decide) (fun c => ?_) (fun c => ?_)
  · replace hF := gPos c hF
    refine gx_lload C 0 (gDec_at D_J9_floorDiv_f86c9 20 rfl) rfl ?_
    obtain rfl := Option.some.inj hF
    exact gx_lret C E (gDec_at D_J9_floorDiv_f86c9 21 rfl)
  · replace hF := gNeg c hF
    refine gx_lload C 0 (gDec_at D_J9_floorDiv_f86c9 10 rfl) rfl ?_
    refine gx_lload_n C 2 (gDec_at D_J9_floorDiv_f86c9 11 rfl) rfl rfl ?_
    refine gx_lmul C (gDec_at D_J9_floorDiv_f86c9 12 rfl) ?_
    refine gx_lload_n C 1 (gDec_at D_J9_floorDiv_f86c9 13 rfl) rfl rfl ?_
    refine gx_lcmp_eq C 27 (gDec_at D_J9_floorDiv_f86c9 14 rfl) (gDec_at D_J9_floorDiv_f86c9 15 rfl) (by decide) (fun c => ?_) (fun c => ?_)
    · replace hF := gPos c hF
      refine gx_lload C 0 (gDec_at D_J9_floorDiv_f86c9 20 rfl) rfl ?_
      obtain rfl := Option.some.inj hF
      exact gx_lret C E (gDec_at D_J9_floorDiv_f86c9 21 rfl)
    · replace hF := gNeg c hF
      refine gx_lload C 0 (gDec_at D_J9_floorDiv_f86c9 16 rfl) rfl ?_
      refine gx_lconst C (v := 1) (gDec_at D_J9_floorDiv_f86c9 17 rfl) (by decide) ?_
      refine gx_lsub C (gDec_at D_J9_floorDiv_f86c9 18 rfl) ?_
      obtain rfl := Option.some.inj hF
      exact gx_lret C E (gDec_at D_J9_floorDiv_f86c9 19 rfl)
