/-! LadderBenchModel.solve -/
def rm_X10_solve : Room := { frames := 7, cells := 0, slots := 0, locals := 190 }
set_option maxRecDepth 20000 in
theorem ggX10_solve_X10_armBy : GoodIn wsX10_solve wsX10_armBy := goodIn_r _ [10, 11, 12, 9, 13, 14, 15, 16, 17, 18, 19, 20, 21, 22, 79, 80, 81, 82, 83, 84, 85, 86, 87, 88, 89, 90, 91, 92, 93, 94, 95, 96, 97, 98, 99, 100, 101, 102, 103, 104] (by decide +kernel) (by decide +kernel)
set_option maxRecDepth 20000 in
theorem gX10_solve_X10_armBy : GoodIn wsX10_solve (wsV RX10 245 RX10 yX10_armBy wsX10_armBy) := goodIn_app (goodIn_of _ (by decide +kernel)) ggX10_solve_X10_armBy
set_option maxRecDepth 20000 in
theorem ggX10_solve_X10_find : GoodIn wsX10_solve wsX10_find := goodIn_r _ [26, 5, 27, 28, 29, 9, 30, 31, 32, 22, 33, 34, 35, 36, 37, 38, 39, 40, 41, 42, 43, 44, 18, 19, 20, 21, 45, 46, 47, 48, 4, 49, 50, 51, 52, 53, 54, 55, 56, 57, 58, 59, 60, 61, 62, 63, 64, 65, 66, 67, 68, 69, 70, 71, 72, 73, 74, 75, 76, 77, 78, 79, 80, 81, 82, 83, 84, 85, 86, 87, 88, 89, 90, 91, 92, 93, 94, 95, 96, 97, 98, 99, 100, 101, 102, 103, 104] (by decide +kernel) (by decide +kernel)
set_option maxRecDepth 20000 in
theorem gX10_solve_X10_find : GoodIn wsX10_solve (wsV RX10 253 RX10 yX10_find wsX10_find) := goodIn_app (goodIn_of _ (by decide +kernel)) ggX10_solve_X10_find
set_option maxRecDepth 20000 in
theorem ggX10_solve_X10_in : GoodIn wsX10_solve wsX10_in := goodIn_r _ [13] (by decide +kernel) (by decide +kernel)
set_option maxRecDepth 20000 in
theorem gX10_solve_X10_in : GoodIn wsX10_solve (va_wsS RX10 60 yX10_in wsX10_in) := goodIn_app (goodIn_of _ (by decide +kernel)) ggX10_solve_X10_in
theorem hy_X10_solve : yX10_solve.cls = RX10 ∧ yX10_solve.cls ≠ "java/lang/invoke/MethodHandle" ∧ yX10_solve.cls ≠ "java/lang/invoke/VarHandle" ∧ (parseMethodDescriptor yX10_solve.desc).map (fun d => d.parameters.length) = some 4 := by decide +kernel
set_option maxRecDepth 100000 in
theorem D_X10_solve : gDec cX10_solve [(0, (.aload_n 0, 1)), (1, (.iload_n 1, 1)), (2, (.invokevirtual 245, 3)), (5, (.istore 5, 2)), (7, (.iload 5, 2)), (9, (.bipush (-4), 2)), (11, (.if_icmp .ne 7, 3)), (14, (.ldc2_w 251, 3)), (17, (.lreturn, 1)), (18, (.iload_n 2, 1)), (19, (.iconst 0, 1)), (20, (.sipush 9999, 3)), (23, (.invokestatic 60, 3)), (26, (.ifCond .eq 23, 3)), (29, (.iload_n 3, 1)), (30, (.iconst 1, 1)), (31, (.bipush 99, 2)), (33, (.invokestatic 60, 3)), (36, (.ifCond .eq 13, 3)), (39, (.iload 4, 2)), (41, (.iconst 0, 1)), (42, (.iconst 2, 1)), (43, (.invokestatic 60, 3)), (46, (.ifCond .ne 7, 3)), (49, (.ldc2_w 234, 3)), (52, (.lreturn, 1)), (53, (.aload_n 0, 1)), (54, (.iload 5, 2)), (56, (.iload_n 2, 1)), (57, (.iload_n 3, 1)), (58, (.invokevirtual 253, 3)), (61, (.istore 6, 2)), (63, (.iload 4, 2)), (65, (.ifCond .ne 7, 3)), (68, (.iload 6, 2)), (70, (.i2l, 1)), (71, (.lreturn, 1)), (72, (.iload 6, 2)), (74, (.iconst 1, 1)), (75, (.if_icmp .eq 9, 3)), (78, (.ldc2_w 212, 3)), (81, (.goto 20, 3)), (84, (.iload 4, 2)), (86, (.iconst 1, 1)), (87, (.if_icmp .ne 10, 3)), (90, (.aload_n 0, 1)), (91, (.getfield 165, 3)), (94, (.goto 7, 3)), (97, (.aload_n 0, 1)), (98, (.getfield 169, 3)), (101, (.lreturn, 1))] = true := by decide +kernel
set_option maxRecDepth 100000 in
theorem in_X10_solve_X10 : ∀ x ∈ u_ws RX10 TX10 26, x ∈ wsX10_solve := by decide +kernel
theorem lc_X10_solve_234 : Jvm.Cond.constantLong RX10 234 (-2) ∈ wsX10_solve := by decide +kernel
theorem fl_X10_solve_169 : gF wsX10_solve RX10 169 10 18 := ⟨RX10, TX10, 26, rfl, by decide, in_X10_solve_X10, by decide +kernel⟩
theorem fl_X10_solve_165 : gF wsX10_solve RX10 165 10 17 := ⟨RX10, TX10, 26, rfl, by decide, in_X10_solve_X10, by decide +kernel⟩
theorem lc_X10_solve_212 : Jvm.Cond.constantLong RX10 212 (-4) ∈ wsX10_solve := by decide +kernel
theorem lc_X10_solve_251 : Jvm.Cond.constantLong RX10 251 (-1) ∈ wsX10_solve := by decide +kernel
def f_X10_solve (a0 : Nat) (x1 : Int32) (x2 : Int32) (x3 : Int32) (x4 : Int32) (h : gHp) : Option (Int64 × gHp) := (f_X10_armBy a0 x1 h).bind fun v2 => if v2 = (-4) then some ((-1), h) else (f_X10_in x2 0 9999 h).bind fun v4 => if v4 = true then (f_X10_in x3 1 99 h).bind fun v6 => if v6 = true then (f_X10_in x4 0 2 h).bind fun v8 => if v8 = true then (f_X10_find a0 v2 x2 x3 h).bind fun v10 => if x4 = 0 then some (v10.1.toInt64, v10.2) else if v10.1 = 1 then if x4 = 1 then some (v10.2.2 a0 17, v10.2) else some (v10.2.2 a0 18, v10.2) else some ((-4), v10.2) else some ((-2), h) else some ((-2), h) else some ((-2), h)
set_option maxRecDepth 20000 in
set_option maxHeartbeats 4000000 in
theorem m_X10_solve (w : gWd) (h : gHp) {a0 : Nat} (A0 : is_X10 w a0) (x1 : Int32) (x2 : Int32) (x3 : Int32) (x4 : Int32) {o : Int64 × gHp} (hF : f_X10_solve a0 x1 x2 x3 x4 h = some o) : gMet w yX10_solve wsX10_solve rm_X10_solve [.ref a0, .int x1, .int x2, .int x3, .int x4] h (some (.long o.1)) o.2 := by
  refine gMet_of (cc := cX10_solve) (maxL := 7) (ret := (some .long)) (fr := 7) (lo := 190) (own := RX10) [(0, .ref a0), (1, .int x1), (2, .int x2), (3, .int x3), (4, .int x4)] (by decide) rfl rfl (Nat.le_of_ble_eq_true rfl) rfl (Nat.le_refl _) (Nat.le_refl _) (fun g C E => ?_)
  rw [f_X10_solve] at hF
  refine gx_aload_n C 0 (gDec_at D_X10_solve 0 rfl) rfl rfl ?_
  refine gx_iload_n C 1 (gDec_at D_X10_solve 1 rfl) rfl rfl ?_
  obtain ⟨v2, hv1, hF⟩ := gBind hF
  refine gx_callV1 C (st := []) 1 [.int x1] (m_X10_armBy w h A0 x1 hv1) gX10_solve_X10_armBy rfl rfl rfl hy_X10_armBy (Nat.le_of_ble_eq_true rfl) (Nat.le_of_ble_eq_true rfl) (is_X10_sh A0) rfl rfl rfl (Nat.le_of_ble_eq_true rfl) (gDec_at D_X10_solve 2 rfl) ?_
  refine gx_istore C (lv' := [(5, .int v2), (0, .ref a0), (1, .int x1), (2, .int x2), (3, .int x3), (4, .int x4)]) (gDec_at D_X10_solve 3 rfl) (Nat.le_of_ble_eq_true rfl) rfl ?_
  refine gx_iload C 0 (gDec_at D_X10_solve 4 rfl) rfl ?_
  refine gx_bipush C (v := (-4)) (gDec_at D_X10_solve 5 rfl) (by decide) ?_
  refine gx_icmp_ne C 18 (gDec_at D_X10_solve 6 rfl) (by decide) (fun c => ?_) (fun c => ?_)
  · replace hF := gNeg c hF
    refine gx_iload_n C 3 (gDec_at D_X10_solve 9 rfl) rfl rfl ?_
    refine gx_iconst C (v := 0) (gDec_at D_X10_solve 10 rfl) (by decide) ?_
    refine gx_sipush C (v := 9999) (gDec_at D_X10_solve 11 rfl) (by decide) ?_
    obtain ⟨v4, hv3, hF⟩ := gBind hF
    refine gx_callS1 C (st := []) 3 [.int x2, .int 0, .int 9999] (m_X10_in w h x2 0 9999 hv3) gX10_solve_X10_in rfl rfl rfl hy_X10_in (Nat.le_of_ble_eq_true rfl) (Nat.le_of_ble_eq_true rfl) rfl rfl (Nat.le_of_ble_eq_true rfl) (gDec_at D_X10_solve 12 rfl) ?_
    refine gx_ifz_eq C 49 (gDec_at D_X10_solve 13 rfl) (by decide) (fun c => ?_) (fun c => ?_)
    · replace hF := gNeg c hF
      refine gx_ldc2 C (v := (-2)) lc_X10_solve_234 (gDec_at D_X10_solve 24 rfl) ?_
      obtain rfl := Option.some.inj hF
      exact gx_lret C E (gDec_at D_X10_solve 25 rfl)
    · replace hF := gPos c hF
      refine gx_iload_n C 4 (gDec_at D_X10_solve 14 rfl) rfl rfl ?_
      refine gx_iconst C (v := 1) (gDec_at D_X10_solve 15 rfl) (by decide) ?_
      refine gx_bipush C (v := 99) (gDec_at D_X10_solve 16 rfl) (by decide) ?_
      obtain ⟨v6, hv5, hF⟩ := gBind hF
      refine gx_callS1 C (st := []) 3 [.int x3, .int 1, .int 99] (m_X10_in w h x3 1 99 hv5) gX10_solve_X10_in rfl rfl rfl hy_X10_in (Nat.le_of_ble_eq_true rfl) (Nat.le_of_ble_eq_true rfl) rfl rfl (Nat.le_of_ble_eq_true rfl) (gDec_at D_X10_solve 17 rfl) ?_
      refine gx_ifz_eq C 49 (gDec_at D_X10_solve 18 rfl) (by decide) (fun c => ?_) (fun c => ?_)
      · replace hF := gNeg c hF
        refine gx_ldc2 C (v := (-2)) lc_X10_solve_234 (gDec_at D_X10_solve 24 rfl) ?_
        obtain rfl := Option.some.inj hF
        exact gx_lret C E (gDec_at D_X10_solve 25 rfl)
      · replace hF := gPos c hF
        refine gx_iload C 5 (gDec_at D_X10_solve 19 rfl) rfl ?_
        refine gx_iconst C (v := 0) (gDec_at D_X10_solve 20 rfl) (by decide) ?_
        refine gx_iconst C (v := 2) (gDec_at D_X10_solve 21 rfl) (by decide) ?_
        obtain ⟨v8, hv7, hF⟩ := gBind hF
        refine gx_callS1 C (st := []) 3 [.int x4, .int 0, .int 2] (m_X10_in w h x4 0 2 hv7) gX10_solve_X10_in rfl rfl rfl hy_X10_in (Nat.le_of_ble_eq_true rfl) (Nat.le_of_ble_eq_true rfl) rfl rfl (Nat.le_of_ble_eq_true rfl) (gDec_at D_X10_solve 22 rfl) ?_
        refine gx_ifz_ne C 53 (gDec_at D_X10_solve 23 rfl) (by decide) (fun c => ?_) (fun c => ?_)
        · replace hF := gPos c hF
          refine gx_aload_n C 1 (gDec_at D_X10_solve 26 rfl) rfl rfl ?_
          refine gx_iload C 0 (gDec_at D_X10_solve 27 rfl) rfl ?_
          refine gx_iload_n C 3 (gDec_at D_X10_solve 28 rfl) rfl rfl ?_
          refine gx_iload_n C 4 (gDec_at D_X10_solve 29 rfl) rfl rfl ?_
          obtain ⟨v10, hv9, hF⟩ := gBind hF
          refine gx_callV1 C (st := []) 3 [.int v2, .int x2, .int x3] (m_X10_find w h A0 v2 x2 x3 hv9) gX10_solve_X10_find rfl rfl rfl hy_X10_find (Nat.le_of_ble_eq_true rfl) (Nat.le_of_ble_eq_true rfl) (is_X10_sh A0) rfl rfl rfl (Nat.le_of_ble_eq_true rfl) (gDec_at D_X10_solve 30 rfl) ?_
          refine gx_istore C (lv' := [(6, .int v10.1), (5, .int v2), (0, .ref a0), (1, .int x1), (2, .int x2), (3, .int x3), (4, .int x4)]) (gDec_at D_X10_solve 31 rfl) (Nat.le_of_ble_eq_true rfl) rfl ?_
          refine gx_iload C 6 (gDec_at D_X10_solve 32 rfl) rfl ?_
          refine gx_if_ne C 72 (gDec_at D_X10_solve 33 rfl) (by decide) (fun c => ?_) (fun c => ?_)
          · replace hF := gNeg c hF
            refine gx_iload C 0 (gDec_at D_X10_solve 37 rfl) rfl ?_
            refine gx_iconst C (v := 1) (gDec_at D_X10_solve 38 rfl) (by decide) ?_
            refine gx_icmp_eq C 84 (gDec_at D_X10_solve 39 rfl) (by decide) (fun c => ?_) (fun c => ?_)
            · replace hF := gPos c hF
              refine gx_iload C 6 (gDec_at D_X10_solve 42 rfl) rfl ?_
              refine gx_iconst C (v := 1) (gDec_at D_X10_solve 43 rfl) (by decide) ?_
              refine gx_icmp_ne C 97 (gDec_at D_X10_solve 44 rfl) (by decide) (fun c => ?_) (fun c => ?_)
              · replace hF := gNeg c hF
                refine gx_aload_n C 2 (gDec_at D_X10_solve 48 rfl) rfl rfl ?_
                refine gx_getl C fl_X10_solve_169 (is_X10_sh A0) rfl (gDec_at D_X10_solve 49 rfl) ?_
                obtain rfl := Option.some.inj hF
                exact gx_lret C E (gDec_at D_X10_solve 50 rfl)
              · replace hF := gPos c hF
                refine gx_aload_n C 2 (gDec_at D_X10_solve 45 rfl) rfl rfl ?_
                refine gx_getl C fl_X10_solve_165 (is_X10_sh A0) rfl (gDec_at D_X10_solve 46 rfl) ?_
                refine gx_goto C 101 (gDec_at D_X10_solve 47 rfl) (by decide) ?_
                obtain rfl := Option.some.inj hF
                exact gx_lret C E (gDec_at D_X10_solve 50 rfl)
            · replace hF := gNeg c hF
              refine gx_ldc2 C (v := (-4)) lc_X10_solve_212 (gDec_at D_X10_solve 40 rfl) ?_
              refine gx_goto C 101 (gDec_at D_X10_solve 41 rfl) (by decide) ?_
              obtain rfl := Option.some.inj hF
              exact gx_lret C E (gDec_at D_X10_solve 50 rfl)
          · replace hF := gPos c hF
            refine gx_iload C 0 (gDec_at D_X10_solve 34 rfl) rfl ?_
            refine gx_i2l C (gDec_at D_X10_solve 35 rfl) ?_
            obtain rfl := Option.some.inj hF
            exact gx_lret C E (gDec_at D_X10_solve 36 rfl)
        · replace hF := gNeg c hF
          refine gx_ldc2 C (v := (-2)) lc_X10_solve_234 (gDec_at D_X10_solve 24 rfl) ?_
          obtain rfl := Option.some.inj hF
          exact gx_lret C E (gDec_at D_X10_solve 25 rfl)
  · replace hF := gPos c hF
    refine gx_ldc2 C (v := (-1)) lc_X10_solve_251 (gDec_at D_X10_solve 7 rfl) ?_
    obtain rfl := Option.some.inj hF
    exact gx_lret C E (gDec_at D_X10_solve 8 rfl)
/-! LadderBenchModel.fault -/
def rm_X10_fault : Room := { frames := 6, cells := 0, slots := 0, locals := 160 }
set_option maxRecDepth 20000 in
theorem ggX10_fault_X10_becomes : GoodIn wsX10_fault wsX10_becomes := goodIn_r _ [17, 1, 2, 18, 19, 7, 20, 64, 65, 66, 67, 68, 69, 70, 71, 72, 73, 74, 75, 76, 77, 78, 79, 80, 81, 82, 83, 84, 85, 86, 87, 88, 89] (by decide +kernel) (by decide +kernel)
set_option maxRecDepth 20000 in
theorem gX10_fault_X10_becomes : GoodIn wsX10_fault (wsV RX10 172 RX10 yX10_becomes wsX10_becomes) := goodIn_app (goodIn_of _ (by decide +kernel)) ggX10_fault_X10_becomes
set_option maxRecDepth 20000 in
theorem ggX10_fault_X10_hasArm : GoodIn wsX10_fault wsX10_hasArm := goodIn_r _ [24, 5, 6, 7, 8, 25, 26, 27, 28, 13, 64, 65, 66, 67, 68, 69, 70, 71, 72, 73, 74, 75, 76, 77, 78, 79, 80, 81, 82, 83, 84, 85, 86, 87, 88, 89] (by decide +kernel) (by decide +kernel)
set_option maxRecDepth 20000 in
theorem gX10_fault_X10_hasArm : GoodIn wsX10_fault (wsV RX10 136 RX10 yX10_hasArm wsX10_hasArm) := goodIn_app (goodIn_of _ (by decide +kernel)) ggX10_fault_X10_hasArm
set_option maxRecDepth 20000 in
theorem ggX10_fault_X10_in : GoodIn wsX10_fault wsX10_in := goodIn_r _ [8] (by decide +kernel) (by decide +kernel)
set_option maxRecDepth 20000 in
theorem gX10_fault_X10_in : GoodIn wsX10_fault (va_wsS RX10 60 yX10_in wsX10_in) := goodIn_app (goodIn_of _ (by decide +kernel)) ggX10_fault_X10_in
set_option maxRecDepth 20000 in
theorem ggX10_fault_X10_lay : GoodIn wsX10_fault wsX10_lay := goodIn_r _ [32, 3, 4, 13, 9, 10, 11, 7, 12, 33, 34, 35, 36, 37, 38, 39, 40, 25, 26, 27, 28, 41, 42, 43, 44, 1, 2, 45, 46, 47, 48, 18, 19, 20, 14, 15, 16, 17, 49, 50, 51, 52, 53, 54, 55, 56, 57, 58, 59, 60, 61, 62, 63, 64, 65, 66, 67, 68, 69, 70, 71, 72, 73, 74, 75, 76, 77, 78, 79, 80, 81, 82, 83, 84, 85, 86, 87, 88, 89] (by decide +kernel) (by decide +kernel)
set_option maxRecDepth 20000 in
theorem gX10_fault_X10_lay : GoodIn wsX10_fault (wsV RX10 209 RX10 yX10_lay wsX10_lay) := goodIn_app (goodIn_of _ (by decide +kernel)) ggX10_fault_X10_lay
set_option maxRecDepth 20000 in
theorem ggX10_fault_X10_ofArm : GoodIn wsX10_fault wsX10_ofArm := goodIn_r _ [28, 13, 64, 65, 66, 67, 68, 69, 70, 71, 72, 73, 74, 75, 76, 77, 78, 79, 80, 81, 82, 83, 84, 85, 86, 87, 88, 89] (by decide +kernel) (by decide +kernel)
set_option maxRecDepth 20000 in
theorem gX10_fault_X10_ofArm : GoodIn wsX10_fault (wsV RX10 64 RX10 yX10_ofArm wsX10_ofArm) := goodIn_app (goodIn_of _ (by decide +kernel)) ggX10_fault_X10_ofArm
set_option maxRecDepth 20000 in
theorem ggX10_fault_X10_parts : GoodIn wsX10_fault wsX10_parts := goodIn_r _ [12, 13, 64, 65, 66, 67, 68, 69, 70, 71, 72, 73, 74, 75, 76, 77, 78, 79, 80, 81, 82, 83, 84, 85, 86, 87, 88, 89] (by decide +kernel) (by decide +kernel)
set_option maxRecDepth 20000 in
theorem gX10_fault_X10_parts : GoodIn wsX10_fault (wsV RX10 56 RX10 yX10_parts wsX10_parts) := goodIn_app (goodIn_of _ (by decide +kernel)) ggX10_fault_X10_parts
theorem hy_X10_fault : yX10_fault.cls = RX10 ∧ yX10_fault.cls ≠ "java/lang/invoke/MethodHandle" ∧ yX10_fault.cls ≠ "java/lang/invoke/VarHandle" ∧ (parseMethodDescriptor yX10_fault.desc).map (fun d => d.parameters.length) = some 3 := by decide +kernel
set_option maxRecDepth 100000 in
theorem D_X10_fault : gDec cX10_fault [(0, (.iload_n 1, 1)), (1, (.iconst 0, 1)), (2, (.sipush 9999, 3)), (5, (.invokestatic 60, 3)), (8, (.ifCond .eq 25, 3)), (11, (.iload_n 2, 1)), (12, (.iconst 0, 1)), (13, (.bipush 99, 2)), (15, (.invokestatic 60, 3)), (18, (.ifCond .eq 15, 3)), (21, (.iload_n 1, 1)), (22, (.ifCond .ne 7, 3)), (25, (.iload_n 2, 1)), (26, (.ifCond .eq 7, 3)), (29, (.iload_n 3, 1)), (30, (.ifCond .ge 6, 3)), (33, (.bipush (-2), 2)), (35, (.ireturn, 1)), (36, (.aload_n 0, 1)), (37, (.invokevirtual 56, 3)), (40, (.ifCond .ne 6, 3)), (43, (.bipush (-3), 2)), (45, (.ireturn, 1)), (46, (.aload_n 0, 1)), (47, (.iload_n 1, 1)), (48, (.i2l, 1)), (49, (.iload_n 2, 1)), (50, (.i2l, 1)), (51, (.invokevirtual 172, 3)), (54, (.aload_n 0, 1)), (55, (.getfield 165, 3)), (58, (.lstore 4, 2)), (60, (.aload_n 0, 1)), (61, (.getfield 169, 3)), (64, (.lstore 6, 2)), (66, (.iconst 0, 1)), (67, (.istore 8, 2)), (69, (.iconst 0, 1)), (70, (.istore 9, 2)), (72, (.iload 9, 2)), (74, (.bipush 6, 2)), (76, (.if_icmp .ge 105, 3)), (79, (.iconst 1, 1)), (80, (.istore 10, 2)), (82, (.iload 10, 2)), (84, (.iconst 2, 1)), (85, (.if_icmp .gt 90, 3)), (88, (.aload_n 0, 1)), (89, (.iload 9, 2)), (91, (.invokevirtual 136, 3)), (94, (.ifCond .eq 81, 3)), (97, (.aload_n 0, 1)), (98, (.iload 9, 2)), (100, (.iconst 1, 1)), (101, (.invokevirtual 64, 3)), (104, (.ifCond .ne 71, 3)), (107, (.aload_n 0, 1)), (108, (.bipush (-4), 2)), (110, (.iload 9, 2)), (112, (.iload 10, 2)), (114, (.invokevirtual 209, 3)), (117, (.aload_n 0, 1)), (118, (.getfield 36, 3)), (121, (.aload_n 0, 1)), (122, (.invokevirtual 56, 3)), (125, (.iconst 1, 1)), (126, (.isub, 1)), (127, (.laload, 1)), (128, (.lload 4, 2)), (130, (.lcmp, 1)), (131, (.ifCond .ne 38, 3)), (134, (.aload_n 0, 1)), (135, (.getfield 39, 3)), (138, (.aload_n 0, 1)), (139, (.invokevirtual 56, 3)), (142, (.iconst 1, 1)), (143, (.isub, 1)), (144, (.laload, 1)), (145, (.lload 6, 2)), (147, (.lcmp, 1)), (148, (.ifCond .ne 21, 3)), (151, (.iload 8, 2)), (153, (.iload_n 3, 1)), (154, (.if_icmp .ne 12, 3)), (157, (.bipush 10, 2)), (159, (.iload 9, 2)), (161, (.imul, 1)), (162, (.iload 10, 2)), (164, (.iadd, 1)), (165, (.ireturn, 1)), (166, (.iinc 8 1, 3)), (169, (.iinc 10 1, 3)), (172, (.goto (-90), 3)), (175, (.iinc 9 1, 3)), (178, (.goto (-106), 3)), (181, (.bipush (-4), 2)), (183, (.ireturn, 1))] = true := by decide +kernel
set_option maxRecDepth 100000 in
theorem in_X10_fault_X10 : ∀ x ∈ u_ws RX10 TX10 26, x ∈ wsX10_fault := by decide +kernel
theorem fl_X10_fault_165 : gF wsX10_fault RX10 165 10 17 := ⟨RX10, TX10, 26, rfl, by decide, in_X10_fault_X10, by decide +kernel⟩
theorem fl_X10_fault_169 : gF wsX10_fault RX10 169 10 18 := ⟨RX10, TX10, 26, rfl, by decide, in_X10_fault_X10, by decide +kernel⟩
theorem fl_X10_fault_36 : gF wsX10_fault RX10 36 10 19 := ⟨RX10, TX10, 26, rfl, by decide, in_X10_fault_X10, by decide +kernel⟩
theorem fl_X10_fault_39 : gF wsX10_fault RX10 39 10 20 := ⟨RX10, TX10, 26, rfl, by decide, in_X10_fault_X10, by decide +kernel⟩
def f_X10_fault_82 (a0 : Nat) (x3 : Int32) (l4 : Int64) (l6 : Int64) (x9 : Int32) (k_72 : Int32 → Int32 → gHp → Option (Int32 × gHp)) : Nat → Int32 → Int32 → gHp → Option (Int32 × gHp)
  | 0, _, _, _ => none
  | n + 1, x8, x10, h => if 2 < x10 then k_72 x8 (x9 + 1) h else (f_X10_hasArm a0 x9 h).bind fun v10 => if v10 = true then (f_X10_ofArm a0 x9 1 h).bind fun v12 => if v12 = 0 then (f_X10_lay a0 (-4) x9 x10 h).bind fun v14 => (f_X10_parts a0 v14).bind fun v16 => if gIn (v16 - 1) 11 then if (v14.2 (a0 + 9) (gN (v16 - 1))) = l4 then (f_X10_parts a0 v14).bind fun v19 => if gIn (v19 - 1) 11 then if (v14.2 (a0 + 10) (gN (v19 - 1))) = l6 then if x8 = x3 then some ((10 * x9) + x10, v14) else f_X10_fault_82 a0 x3 l4 l6 x9 k_72 n (x8 + 1) (x10 + 1) v14 else f_X10_fault_82 a0 x3 l4 l6 x9 k_72 n x8 (x10 + 1) v14 else none else f_X10_fault_82 a0 x3 l4 l6 x9 k_72 n x8 (x10 + 1) v14 else none else k_72 x8 (x9 + 1) h else k_72 x8 (x9 + 1) h
set_option maxRecDepth 20000 in
set_option maxHeartbeats 4000000 in
theorem w_X10_fault_82 {w : gWd} {g : gCx} (C : gC w g cX10_fault wsX10_fault RX10 11 6 160) {a0 : Nat} (A0 : is_X10 w a0) (x3 : Int32) (l4 : Int64) (l6 : Int64) (x9 : Int32) (k_72 : Int32 → Int32 → gHp → Option (Int32 × gHp)) {o : Int32 × gHp} (hk_72 : ∀ (y0 : Int32) (y1 : Int32) (y2 : gHp), k_72 y0 y1 y2 = some o → gX w g 11 y2 72 [(0, .ref a0), (3, .int x3), (4, .long l4), (6, .long l6), (8, .int y0), (9, .int y1)] []) (E : gEn w g (some .int) (some (.int o.1)) o.2) : ∀ (n : Nat) (x8 : Int32) (x10 : Int32) (h : gHp), f_X10_fault_82 a0 x3 l4 l6 x9 k_72 n x8 x10 h = some o → gX w g 11 h 82 [(0, .ref a0), (3, .int x3), (4, .long l4), (6, .long l6), (8, .int x8), (9, .int x9), (10, .int x10)] [] := by
  intro n
  induction n with
  | zero => intro _ _ _ hF; cases hF
  | succ n ih =>
    intro x8 x10 h hF
    rw [f_X10_fault_82] at hF
    refine gx_iload C 6 (gDec_at D_X10_fault 44 rfl) rfl ?_
    refine gx_iconst C (v := 2) (gDec_at D_X10_fault 45 rfl) (by decide) ?_
    refine gx_icmp_gt C 175 (gDec_at D_X10_fault 46 rfl) (by decide) (fun c => ?_) (fun c => ?_)
    · replace hF := gPos c hF
      refine gx_iinc C (j := 5) (v := x9 + 1) (lv' := [(9, .int (x9 + 1)), (0, .ref a0), (3, .int x3), (4, .long l4), (6, .long l6), (8, .int x8), (10, .int x10)]) (gDec_at D_X10_fault 93 rfl) rfl (by rfl) (Nat.le_of_ble_eq_true rfl) rfl ?_
      refine gx_goto C 72 (gDec_at D_X10_fault 94 rfl) (by decide) ?_
      exact gx_sub [1, 2, 3, 4, 5, 0] rfl (hk_72 x8 (x9 + 1) h hF)
    · replace hF := gNeg c hF
      refine gx_aload_n C 0 (gDec_at D_X10_fault 47 rfl) rfl rfl ?_
      refine gx_iload C 5 (gDec_at D_X10_fault 48 rfl) rfl ?_
      obtain ⟨v10, hv9, hF⟩ := gBind hF
      refine gx_callV1 C (st := []) 1 [.int x9] (m_X10_hasArm w h A0 x9 hv9) gX10_fault_X10_hasArm rfl rfl rfl hy_X10_hasArm (Nat.le_of_ble_eq_true rfl) (Nat.le_of_ble_eq_true rfl) (is_X10_sh A0) rfl rfl rfl (Nat.le_of_ble_eq_true rfl) (gDec_at D_X10_fault 49 rfl) ?_
      refine gx_ifz_eq C 175 (gDec_at D_X10_fault 50 rfl) (by decide) (fun c => ?_) (fun c => ?_)
      · replace hF := gNeg c hF
        refine gx_iinc C (j := 5) (v := x9 + 1) (lv' := [(9, .int (x9 + 1)), (0, .ref a0), (3, .int x3), (4, .long l4), (6, .long l6), (8, .int x8), (10, .int x10)]) (gDec_at D_X10_fault 93 rfl) rfl (by rfl) (Nat.le_of_ble_eq_true rfl) rfl ?_
        refine gx_goto C 72 (gDec_at D_X10_fault 94 rfl) (by decide) ?_
        exact gx_sub [1, 2, 3, 4, 5, 0] rfl (hk_72 x8 (x9 + 1) h hF)
      · replace hF := gPos c hF
        refine gx_aload_n C 0 (gDec_at D_X10_fault 51 rfl) rfl rfl ?_
        refine gx_iload C 5 (gDec_at D_X10_fault 52 rfl) rfl ?_
        refine gx_iconst C (v := 1) (gDec_at D_X10_fault 53 rfl) (by decide) ?_
        obtain ⟨v12, hv11, hF⟩ := gBind hF
        refine gx_callV1 C (st := []) 2 [.int x9, .int 1] (m_X10_ofArm w h A0 x9 1 hv11) gX10_fault_X10_ofArm rfl rfl rfl hy_X10_ofArm (Nat.le_of_ble_eq_true rfl) (Nat.le_of_ble_eq_true rfl) (is_X10_sh A0) rfl rfl rfl (Nat.le_of_ble_eq_true rfl) (gDec_at D_X10_fault 54 rfl) ?_
        refine gx_if_ne C 175 (gDec_at D_X10_fault 55 rfl) (by decide) (fun c => ?_) (fun c => ?_)
        · replace hF := gNeg c hF
          refine gx_iinc C (j := 5) (v := x9 + 1) (lv' := [(9, .int (x9 + 1)), (0, .ref a0), (3, .int x3), (4, .long l4), (6, .long l6), (8, .int x8), (10, .int x10)]) (gDec_at D_X10_fault 93 rfl) rfl (by rfl) (Nat.le_of_ble_eq_true rfl) rfl ?_
          refine gx_goto C 72 (gDec_at D_X10_fault 94 rfl) (by decide) ?_
          exact gx_sub [1, 2, 3, 4, 5, 0] rfl (hk_72 x8 (x9 + 1) h hF)
        · replace hF := gPos c hF
          refine gx_aload_n C 0 (gDec_at D_X10_fault 56 rfl) rfl rfl ?_
          refine gx_bipush C (v := (-4)) (gDec_at D_X10_fault 57 rfl) (by decide) ?_
          refine gx_iload C 5 (gDec_at D_X10_fault 58 rfl) rfl ?_
          refine gx_iload C 6 (gDec_at D_X10_fault 59 rfl) rfl ?_
          obtain ⟨v14, hv13, hF⟩ := gBind hF
          refine gx_callV0 C (st := []) 3 [.int (-4), .int x9, .int x10] (m_X10_lay w h A0 (-4) x9 x10 hv13) gX10_fault_X10_lay rfl rfl rfl hy_X10_lay (Nat.le_of_ble_eq_true rfl) (Nat.le_of_ble_eq_true rfl) (is_X10_sh A0) rfl rfl rfl (Nat.le_of_ble_eq_true rfl) (gDec_at D_X10_fault 60 rfl) ?_
          refine gx_aload_n C 0 (gDec_at D_X10_fault 61 rfl) rfl rfl ?_
          refine gx_getr C fl_X10_fault_36 (is_X10_sh A0) rfl (gDec_at D_X10_fault 62 rfl) ?_
          refine gx_aload_n C 0 (gDec_at D_X10_fault 63 rfl) rfl rfl ?_
          obtain ⟨v16, hv15, hF⟩ := gBind hF
          refine gx_callV1 C (st := .ref (a0 + 9) :: []) 0 [] (m_X10_parts w v14 A0 hv15) gX10_fault_X10_parts rfl rfl rfl hy_X10_parts (Nat.le_of_ble_eq_true rfl) (Nat.le_of_ble_eq_true rfl) (is_X10_sh A0) rfl rfl rfl (Nat.le_of_ble_eq_true rfl) (gDec_at D_X10_fault 64 rfl) ?_
          refine gx_iconst C (v := 1) (gDec_at D_X10_fault 65 rfl) (by decide) ?_
          refine gx_isub C (gDec_at D_X10_fault 66 rfl) ?_
          obtain ⟨b17, hF⟩ := gGd hF
          refine gx_laload C (is_X10_upper A0) b17 (gDec_at D_X10_fault 67 rfl) ?_
          refine gx_lload C 2 (gDec_at D_X10_fault 68 rfl) rfl ?_
          refine gx_lcmp_ne C 169 (gDec_at D_X10_fault 69 rfl) (gDec_at D_X10_fault 70 rfl) (by decide) (fun c => ?_) (fun c => ?_)
          · replace hF := gNeg c hF
            refine gx_iinc C (j := 6) (v := x10 + 1) (lv' := [(10, .int (x10 + 1)), (0, .ref a0), (3, .int x3), (4, .long l4), (6, .long l6), (8, .int x8), (9, .int x9)]) (gDec_at D_X10_fault 91 rfl) rfl (by rfl) (Nat.le_of_ble_eq_true rfl) rfl ?_
            refine gx_goto C 82 (gDec_at D_X10_fault 92 rfl) (by decide) ?_
            exact gx_sub [1, 2, 3, 4, 5, 6, 0] rfl (ih x8 (x10 + 1) v14 hF)
          · replace hF := gPos c hF
            refine gx_aload_n C 0 (gDec_at D_X10_fault 71 rfl) rfl rfl ?_
            refine gx_getr C fl_X10_fault_39 (is_X10_sh A0) rfl (gDec_at D_X10_fault 72 rfl) ?_
            refine gx_aload_n C 0 (gDec_at D_X10_fault 73 rfl) rfl rfl ?_
            obtain ⟨v19, hv18, hF⟩ := gBind hF
            refine gx_callV1 C (st := .ref (a0 + 10) :: []) 0 [] (m_X10_parts w v14 A0 hv18) gX10_fault_X10_parts rfl rfl rfl hy_X10_parts (Nat.le_of_ble_eq_true rfl) (Nat.le_of_ble_eq_true rfl) (is_X10_sh A0) rfl rfl rfl (Nat.le_of_ble_eq_true rfl) (gDec_at D_X10_fault 74 rfl) ?_
            refine gx_iconst C (v := 1) (gDec_at D_X10_fault 75 rfl) (by decide) ?_
            refine gx_isub C (gDec_at D_X10_fault 76 rfl) ?_
            obtain ⟨b20, hF⟩ := gGd hF
            refine gx_laload C (is_X10_lower A0) b20 (gDec_at D_X10_fault 77 rfl) ?_
            refine gx_lload C 3 (gDec_at D_X10_fault 78 rfl) rfl ?_
            refine gx_lcmp_ne C 169 (gDec_at D_X10_fault 79 rfl) (gDec_at D_X10_fault 80 rfl) (by decide) (fun c => ?_) (fun c => ?_)
            · replace hF := gNeg c hF
              refine gx_iinc C (j := 6) (v := x10 + 1) (lv' := [(10, .int (x10 + 1)), (0, .ref a0), (3, .int x3), (4, .long l4), (6, .long l6), (8, .int x8), (9, .int x9)]) (gDec_at D_X10_fault 91 rfl) rfl (by rfl) (Nat.le_of_ble_eq_true rfl) rfl ?_
              refine gx_goto C 82 (gDec_at D_X10_fault 92 rfl) (by decide) ?_
              exact gx_sub [1, 2, 3, 4, 5, 6, 0] rfl (ih x8 (x10 + 1) v14 hF)
            · replace hF := gPos c hF
              refine gx_iload C 4 (gDec_at D_X10_fault 81 rfl) rfl ?_
              refine gx_iload_n C 1 (gDec_at D_X10_fault 82 rfl) rfl rfl ?_
              refine gx_icmp_ne C 166 (gDec_at D_X10_fault 83 rfl) (by decide) (fun c => ?_) (fun c => ?_)
              · replace hF := gNeg c hF
                refine gx_iinc C (j := 4) (v := x8 + 1) (lv' := [(8, .int (x8 + 1)), (0, .ref a0), (3, .int x3), (4, .long l4), (6, .long l6), (9, .int x9), (10, .int x10)]) (gDec_at D_X10_fault 90 rfl) rfl (by rfl) (Nat.le_of_ble_eq_true rfl) rfl ?_
                refine gx_iinc C (j := 6) (v := x10 + 1) (lv' := [(10, .int (x10 + 1)), (8, .int (x8 + 1)), (0, .ref a0), (3, .int x3), (4, .long l4), (6, .long l6), (9, .int x9)]) (gDec_at D_X10_fault 91 rfl) rfl (by rfl) (Nat.le_of_ble_eq_true rfl) rfl ?_
                refine gx_goto C 82 (gDec_at D_X10_fault 92 rfl) (by decide) ?_
                exact gx_sub [2, 3, 4, 5, 1, 6, 0] rfl (ih (x8 + 1) (x10 + 1) v14 hF)
              · replace hF := gPos c hF
                refine gx_bipush C (v := 10) (gDec_at D_X10_fault 84 rfl) (by decide) ?_
                refine gx_iload C 5 (gDec_at D_X10_fault 85 rfl) rfl ?_
                refine gx_imul C (gDec_at D_X10_fault 86 rfl) ?_
                refine gx_iload C 6 (gDec_at D_X10_fault 87 rfl) rfl ?_
                refine gx_iadd C (gDec_at D_X10_fault 88 rfl) ?_
                obtain rfl := Option.some.inj hF
                exact gx_iret C E (gDec_at D_X10_fault 89 rfl)
def f_X10_fault_72 (a0 : Nat) (x3 : Int32) (l4 : Int64) (l6 : Int64) : Nat → Int32 → Int32 → gHp → Option (Int32 × gHp)
  | 0, _, _, _ => none
  | n + 1, x8, x9, h => if 6 ≤ x9 then some ((-4), h) else f_X10_fault_82 a0 x3 l4 l6 x9 (fun y0 y1 y2 => f_X10_fault_72 a0 x3 l4 l6 n y0 y1 y2) gFuel x8 1 h
set_option maxRecDepth 20000 in
set_option maxHeartbeats 4000000 in
theorem w_X10_fault_72 {w : gWd} {g : gCx} (C : gC w g cX10_fault wsX10_fault RX10 11 6 160) {a0 : Nat} (A0 : is_X10 w a0) (x3 : Int32) (l4 : Int64) (l6 : Int64)  {o : Int32 × gHp} (E : gEn w g (some .int) (some (.int o.1)) o.2) : ∀ (n : Nat) (x8 : Int32) (x9 : Int32) (h : gHp), f_X10_fault_72 a0 x3 l4 l6 n x8 x9 h = some o → gX w g 11 h 72 [(0, .ref a0), (3, .int x3), (4, .long l4), (6, .long l6), (8, .int x8), (9, .int x9)] [] := by
  intro n
  induction n with
  | zero => intro _ _ _ hF; cases hF
  | succ n ih =>
    intro x8 x9 h hF
    rw [f_X10_fault_72] at hF
    refine gx_iload C 5 (gDec_at D_X10_fault 39 rfl) rfl ?_
    refine gx_bipush C (v := 6) (gDec_at D_X10_fault 40 rfl) (by decide) ?_
    refine gx_icmp_ge C 181 (gDec_at D_X10_fault 41 rfl) (by decide) (fun c => ?_) (fun c => ?_)
    · replace hF := gPos c hF
      refine gx_bipush C (v := (-4)) (gDec_at D_X10_fault 95 rfl) (by decide) ?_
      obtain rfl := Option.some.inj hF
      exact gx_iret C E (gDec_at D_X10_fault 96 rfl)
    · replace hF := gNeg c hF
      refine gx_iconst C (v := 1) (gDec_at D_X10_fault 42 rfl) (by decide) ?_
      refine gx_istore C (lv' := [(10, .int 1), (0, .ref a0), (3, .int x3), (4, .long l4), (6, .long l6), (8, .int x8), (9, .int x9)]) (gDec_at D_X10_fault 43 rfl) (Nat.le_of_ble_eq_true rfl) rfl ?_
      exact gx_sub [1, 2, 3, 4, 5, 6, 0] rfl (w_X10_fault_82 C A0 x3 l4 l6 x9 _ (fun y0 y1 y2 hq => ih y0 y1 y2 hq) E gFuel x8 1 h hF)
def f_X10_fault_29 (a0 : Nat) (x1 : Int32) (x2 : Int32) (x3 : Int32) (h : gHp) : Option (Int32 × gHp) := if 0 ≤ x3 then (f_X10_parts a0 h).bind fun v6 => if v6 = 0 then some ((-3), h) else (f_X10_becomes a0 x1.toInt64 x2.toInt64 h).bind fun v8 => f_X10_fault_72 a0 x3 (v8.2 a0 17) (v8.2 a0 18) gFuel 0 0 v8 else some ((-2), h)
set_option maxRecDepth 20000 in
set_option maxHeartbeats 4000000 in
theorem w_X10_fault_29 {w : gWd} {g : gCx} (C : gC w g cX10_fault wsX10_fault RX10 11 6 160) {a0 : Nat} (A0 : is_X10 w a0) (x1 : Int32) (x2 : Int32) (x3 : Int32) (h : gHp)  {o : Int32 × gHp}  (E : gEn w g (some .int) (some (.int o.1)) o.2) (hF : f_X10_fault_29 a0 x1 x2 x3 h = some o) : gX w g 11 h 29 [(0, .ref a0), (1, .int x1), (2, .int x2), (3, .int x3)] ([]) := by
  rw [f_X10_fault_29] at hF
  refine gx_iload_n C 3 (gDec_at D_X10_fault 14 rfl) rfl rfl ?_
  refine gx_if_ge C 36 (gDec_at D_X10_fault 15 rfl) (by decide) (fun c => ?_) (fun c => ?_)
  · replace hF := gPos c hF
    refine gx_aload_n C 0 (gDec_at D_X10_fault 18 rfl) rfl rfl ?_
    obtain ⟨v6, hv5, hF⟩ := gBind hF
    refine gx_callV1 C (st := []) 0 [] (m_X10_parts w h A0 hv5) gX10_fault_X10_parts rfl rfl rfl hy_X10_parts (Nat.le_of_ble_eq_true rfl) (Nat.le_of_ble_eq_true rfl) (is_X10_sh A0) rfl rfl rfl (Nat.le_of_ble_eq_true rfl) (gDec_at D_X10_fault 19 rfl) ?_
    refine gx_if_ne C 46 (gDec_at D_X10_fault 20 rfl) (by decide) (fun c => ?_) (fun c => ?_)
    · replace hF := gNeg c hF
      refine gx_aload_n C 0 (gDec_at D_X10_fault 23 rfl) rfl rfl ?_
      refine gx_iload_n C 1 (gDec_at D_X10_fault 24 rfl) rfl rfl ?_
      refine gx_i2l C (gDec_at D_X10_fault 25 rfl) ?_
      refine gx_iload_n C 2 (gDec_at D_X10_fault 26 rfl) rfl rfl ?_
      refine gx_i2l C (gDec_at D_X10_fault 27 rfl) ?_
      obtain ⟨v8, hv7, hF⟩ := gBind hF
      refine gx_callV0 C (st := []) 2 [.long x1.toInt64, .long x2.toInt64] (m_X10_becomes w h A0 x1.toInt64 x2.toInt64 hv7) gX10_fault_X10_becomes rfl rfl rfl hy_X10_becomes (Nat.le_of_ble_eq_true rfl) (Nat.le_of_ble_eq_true rfl) (is_X10_sh A0) rfl rfl rfl (Nat.le_of_ble_eq_true rfl) (gDec_at D_X10_fault 28 rfl) ?_
      refine gx_aload_n C 0 (gDec_at D_X10_fault 29 rfl) rfl rfl ?_
      refine gx_getl C fl_X10_fault_165 (is_X10_sh A0) rfl (gDec_at D_X10_fault 30 rfl) ?_
      refine gx_lstore C (lv' := [(4, .long (v8.2 a0 17)), (0, .ref a0), (1, .int x1), (2, .int x2), (3, .int x3)]) (gDec_at D_X10_fault 31 rfl) (Nat.le_of_ble_eq_true rfl) rfl ?_
      refine gx_aload_n C 1 (gDec_at D_X10_fault 32 rfl) rfl rfl ?_
      refine gx_getl C fl_X10_fault_169 (is_X10_sh A0) rfl (gDec_at D_X10_fault 33 rfl) ?_
      refine gx_lstore C (lv' := [(6, .long (v8.2 a0 18)), (4, .long (v8.2 a0 17)), (0, .ref a0), (1, .int x1), (2, .int x2), (3, .int x3)]) (gDec_at D_X10_fault 34 rfl) (Nat.le_of_ble_eq_true rfl) rfl ?_
      refine gx_iconst C (v := 0) (gDec_at D_X10_fault 35 rfl) (by decide) ?_
      refine gx_istore C (lv' := [(8, .int 0), (6, .long (v8.2 a0 18)), (4, .long (v8.2 a0 17)), (0, .ref a0), (1, .int x1), (2, .int x2), (3, .int x3)]) (gDec_at D_X10_fault 36 rfl) (Nat.le_of_ble_eq_true rfl) rfl ?_
      refine gx_iconst C (v := 0) (gDec_at D_X10_fault 37 rfl) (by decide) ?_
      refine gx_istore C (lv' := [(9, .int 0), (8, .int 0), (6, .long (v8.2 a0 18)), (4, .long (v8.2 a0 17)), (0, .ref a0), (1, .int x1), (2, .int x2), (3, .int x3)]) (gDec_at D_X10_fault 38 rfl) (Nat.le_of_ble_eq_true rfl) rfl ?_
      exact gx_sub [4, 7, 3, 2, 1, 0] rfl (w_X10_fault_72 C A0 x3 (v8.2 a0 17) (v8.2 a0 18)   E gFuel 0 0 v8 hF)
    · replace hF := gPos c hF
      refine gx_bipush C (v := (-3)) (gDec_at D_X10_fault 21 rfl) (by decide) ?_
      obtain rfl := Option.some.inj hF
      exact gx_iret C E (gDec_at D_X10_fault 22 rfl)
  · replace hF := gNeg c hF
    refine gx_bipush C (v := (-2)) (gDec_at D_X10_fault 16 rfl) (by decide) ?_
    obtain rfl := Option.some.inj hF
    exact gx_iret C E (gDec_at D_X10_fault 17 rfl)
def f_X10_fault (a0 : Nat) (x1 : Int32) (x2 : Int32) (x3 : Int32) (h : gHp) : Option (Int32 × gHp) := (f_X10_in x1 0 9999 h).bind fun v2 => if v2 = true then (f_X10_in x2 0 99 h).bind fun v4 => if v4 = true then if x1 = 0 then if x2 = 0 then some ((-2), h) else f_X10_fault_29 a0 x1 x2 x3 h else f_X10_fault_29 a0 x1 x2 x3 h else some ((-2), h) else some ((-2), h)
set_option maxRecDepth 20000 in
set_option maxHeartbeats 4000000 in
theorem m_X10_fault (w : gWd) (h : gHp) {a0 : Nat} (A0 : is_X10 w a0) (x1 : Int32) (x2 : Int32) (x3 : Int32) {o : Int32 × gHp} (hF : f_X10_fault a0 x1 x2 x3 h = some o) : gMet w yX10_fault wsX10_fault rm_X10_fault [.ref a0, .int x1, .int x2, .int x3] h (some (.int o.1)) o.2 := by
  refine gMet_of (cc := cX10_fault) (maxL := 11) (ret := (some .int)) (fr := 6) (lo := 160) (own := RX10) [(0, .ref a0), (1, .int x1), (2, .int x2), (3, .int x3)] (by decide) rfl rfl (Nat.le_of_ble_eq_true rfl) rfl (Nat.le_refl _) (Nat.le_refl _) (fun g C E => ?_)
  rw [f_X10_fault] at hF
  refine gx_iload_n C 1 (gDec_at D_X10_fault 0 rfl) rfl rfl ?_
  refine gx_iconst C (v := 0) (gDec_at D_X10_fault 1 rfl) (by decide) ?_
  refine gx_sipush C (v := 9999) (gDec_at D_X10_fault 2 rfl) (by decide) ?_
  obtain ⟨v2, hv1, hF⟩ := gBind hF
  refine gx_callS1 C (st := []) 3 [.int x1, .int 0, .int 9999] (m_X10_in w h x1 0 9999 hv1) gX10_fault_X10_in rfl rfl rfl hy_X10_in (Nat.le_of_ble_eq_true rfl) (Nat.le_of_ble_eq_true rfl) rfl rfl (Nat.le_of_ble_eq_true rfl) (gDec_at D_X10_fault 3 rfl) ?_
  refine gx_ifz_eq C 33 (gDec_at D_X10_fault 4 rfl) (by decide) (fun c => ?_) (fun c => ?_)
  · replace hF := gNeg c hF
    refine gx_bipush C (v := (-2)) (gDec_at D_X10_fault 16 rfl) (by decide) ?_
    obtain rfl := Option.some.inj hF
    exact gx_iret C E (gDec_at D_X10_fault 17 rfl)
  · replace hF := gPos c hF
    refine gx_iload_n C 2 (gDec_at D_X10_fault 5 rfl) rfl rfl ?_
    refine gx_iconst C (v := 0) (gDec_at D_X10_fault 6 rfl) (by decide) ?_
    refine gx_bipush C (v := 99) (gDec_at D_X10_fault 7 rfl) (by decide) ?_
    obtain ⟨v4, hv3, hF⟩ := gBind hF
    refine gx_callS1 C (st := []) 3 [.int x2, .int 0, .int 99] (m_X10_in w h x2 0 99 hv3) gX10_fault_X10_in rfl rfl rfl hy_X10_in (Nat.le_of_ble_eq_true rfl) (Nat.le_of_ble_eq_true rfl) rfl rfl (Nat.le_of_ble_eq_true rfl) (gDec_at D_X10_fault 8 rfl) ?_
    refine gx_ifz_eq C 33 (gDec_at D_X10_fault 9 rfl) (by decide) (fun c => ?_) (fun c => ?_)
    · replace hF := gNeg c hF
      refine gx_bipush C (v := (-2)) (gDec_at D_X10_fault 16 rfl) (by decide) ?_
      obtain rfl := Option.some.inj hF
      exact gx_iret C E (gDec_at D_X10_fault 17 rfl)
    · replace hF := gPos c hF
      refine gx_iload_n C 1 (gDec_at D_X10_fault 10 rfl) rfl rfl ?_
      refine gx_if_ne C 29 (gDec_at D_X10_fault 11 rfl) (by decide) (fun c => ?_) (fun c => ?_)
      · replace hF := gNeg c hF
        exact gx_sub [0, 1, 2, 3] rfl (w_X10_fault_29 C A0 x1 x2 x3 h   E hF)
      · replace hF := gPos c hF
        refine gx_iload_n C 2 (gDec_at D_X10_fault 12 rfl) rfl rfl ?_
        refine gx_if_eq C 33 (gDec_at D_X10_fault 13 rfl) (by decide) (fun c => ?_) (fun c => ?_)
        · replace hF := gPos c hF
          refine gx_bipush C (v := (-2)) (gDec_at D_X10_fault 16 rfl) (by decide) ?_
          obtain rfl := Option.some.inj hF
          exact gx_iret C E (gDec_at D_X10_fault 17 rfl)
        · replace hF := gNeg c hF
          exact gx_sub [0, 1, 2, 3] rfl (w_X10_fault_29 C A0 x1 x2 x3 h   E hF)
/-! LadderBenchModel.count -/
def rm_X10_count : Room := { frames := 3, cells := 0, slots := 0, locals := 65 }
set_option maxRecDepth 20000 in
theorem ggX10_count_X10_hasArm : GoodIn wsX10_count wsX10_hasArm := goodIn_r _ [8, 9, 10, 7, 11, 12, 13, 14, 15, 1, 32, 33, 34, 35, 36, 37, 38, 39, 40, 41, 42, 43, 44, 45, 46, 47, 48, 49, 50, 51, 52, 53, 54, 55, 56, 57] (by decide +kernel) (by decide +kernel)
set_option maxRecDepth 20000 in
theorem gX10_count_X10_hasArm : GoodIn wsX10_count (wsV RX10 136 RX10 yX10_hasArm wsX10_hasArm) := goodIn_app (goodIn_of _ (by decide +kernel)) ggX10_count_X10_hasArm
set_option maxRecDepth 20000 in
theorem ggX10_count_X10_ofArm : GoodIn wsX10_count wsX10_ofArm := goodIn_r _ [15, 1, 32, 33, 34, 35, 36, 37, 38, 39, 40, 41, 42, 43, 44, 45, 46, 47, 48, 49, 50, 51, 52, 53, 54, 55, 56, 57] (by decide +kernel) (by decide +kernel)
set_option maxRecDepth 20000 in
theorem gX10_count_X10_ofArm : GoodIn wsX10_count (wsV RX10 64 RX10 yX10_ofArm wsX10_ofArm) := goodIn_app (goodIn_of _ (by decide +kernel)) ggX10_count_X10_ofArm
set_option maxRecDepth 20000 in
theorem ggX10_count_X10_open : GoodIn wsX10_count wsX10_open := goodIn_r _ [23, 16, 17, 18, 7, 19, 1, 24, 25, 26, 27, 28, 29, 30, 31, 32, 33, 34, 35, 36, 37, 38, 39, 40, 41, 42, 43, 44, 45, 46, 47, 48, 49, 50, 51, 52, 53, 54, 55, 56, 57] (by decide +kernel) (by decide +kernel)
set_option maxRecDepth 20000 in
theorem gX10_count_X10_open : GoodIn wsX10_count (wsV RX10 154 RX10 yX10_open wsX10_open) := goodIn_app (goodIn_of _ (by decide +kernel)) ggX10_count_X10_open
set_option maxRecDepth 20000 in
theorem ggX10_count_X10_parts : GoodIn wsX10_count wsX10_parts := goodIn_r _ [19, 1, 32, 33, 34, 35, 36, 37, 38, 39, 40, 41, 42, 43, 44, 45, 46, 47, 48, 49, 50, 51, 52, 53, 54, 55, 56, 57] (by decide +kernel) (by decide +kernel)
set_option maxRecDepth 20000 in
theorem gX10_count_X10_parts : GoodIn wsX10_count (wsV RX10 56 RX10 yX10_parts wsX10_parts) := goodIn_app (goodIn_of _ (by decide +kernel)) ggX10_count_X10_parts
theorem hy_X10_count : yX10_count.cls = RX10 ∧ yX10_count.cls ≠ "java/lang/invoke/MethodHandle" ∧ yX10_count.cls ≠ "java/lang/invoke/VarHandle" ∧ (parseMethodDescriptor yX10_count.desc).map (fun d => d.parameters.length) = some 1 := by decide +kernel
set_option maxRecDepth 100000 in
theorem D_X10_count : gDec cX10_count [(0, (.iconst 0, 1)), (1, (.istore_n 2, 1)), (2, (.iconst 0, 1)), (3, (.istore_n 3, 1)), (4, (.iconst 0, 1)), (5, (.istore 4, 2)), (7, (.iload 4, 2)), (9, (.bipush 6, 2)), (11, (.if_icmp .ge 53, 3)), (14, (.iload_n 2, 1)), (15, (.aload_n 0, 1)), (16, (.iload 4, 2)), (18, (.invokevirtual 136, 3)), (21, (.ifCond .eq 7, 3)), (24, (.iconst 1, 1)), (25, (.goto 4, 3)), (28, (.iconst 0, 1)), (29, (.iadd, 1)), (30, (.istore_n 2, 1)), (31, (.iload_n 3, 1)), (32, (.aload_n 0, 1)), (33, (.iload 4, 2)), (35, (.invokevirtual 136, 3)), (38, (.ifCond .eq 17, 3)), (41, (.aload_n 0, 1)), (42, (.iload 4, 2)), (44, (.iconst 1, 1)), (45, (.invokevirtual 64, 3)), (48, (.ifCond .eq 7, 3)), (51, (.iconst 1, 1)), (52, (.goto 4, 3)), (55, (.iconst 0, 1)), (56, (.iadd, 1)), (57, (.istore_n 3, 1)), (58, (.iinc 4 1, 3)), (61, (.goto (-54), 3)), (64, (.iconst 0, 1)), (65, (.istore 4, 2)), (67, (.iconst 0, 1)), (68, (.istore 5, 2)), (70, (.iload 5, 2)), (72, (.i2l, 1)), (73, (.aload_n 0, 1)), (74, (.getfield 7, 3)), (77, (.iconst 4, 1)), (78, (.laload, 1)), (79, (.lcmp, 1)), (80, (.ifCond .ge 29, 3)), (83, (.iload 4, 2)), (85, (.aload_n 0, 1)), (86, (.getfield 7, 3)), (89, (.bipush 81, 2)), (91, (.iconst 3, 1)), (92, (.iload 5, 2)), (94, (.imul, 1)), (95, (.iadd, 1)), (96, (.iconst 2, 1)), (97, (.iadd, 1)), (98, (.laload, 1)), (99, (.l2i, 1)), (100, (.iadd, 1)), (101, (.istore 4, 2)), (103, (.iinc 5 1, 3)), (106, (.goto (-36), 3)), (109, (.iload_n 1, 1)), (110, (.tableswitch 117 0 10 #[58, 63, 65, 70, 78, 86, 94, 97, 105, 110, 115], 58)), (168, (.aload_n 0, 1)), (169, (.invokevirtual 56, 3)), (172, (.ireturn, 1)), (173, (.iload_n 2, 1)), (174, (.ireturn, 1)), (175, (.aload_n 0, 1)), (176, (.invokevirtual 154, 3)), (179, (.ireturn, 1)), (180, (.aload_n 0, 1)), (181, (.getfield 7, 3)), (184, (.iconst 1, 1)), (185, (.laload, 1)), (186, (.l2i, 1)), (187, (.ireturn, 1)), (188, (.aload_n 0, 1)), (189, (.getfield 7, 3)), (192, (.iconst 2, 1)), (193, (.laload, 1)), (194, (.l2i, 1)), (195, (.ireturn, 1)), (196, (.aload_n 0, 1)), (197, (.getfield 7, 3)), (200, (.iconst 4, 1)), (201, (.laload, 1)), (202, (.l2i, 1)), (203, (.ireturn, 1)), (204, (.iload 4, 2)), (206, (.ireturn, 1)), (207, (.aload_n 0, 1)), (208, (.getfield 7, 3)), (211, (.iconst 3, 1)), (212, (.laload, 1)), (213, (.l2i, 1)), (214, (.ireturn, 1)), (215, (.aload_n 0, 1)), (216, (.getfield 52, 3)), (219, (.ireturn, 1)), (220, (.aload_n 0, 1)), (221, (.getfield 68, 3)), (224, (.ireturn, 1)), (225, (.iload_n 3, 1)), (226, (.ireturn, 1)), (227, (.bipush (-2), 2)), (229, (.ireturn, 1))] = true := by decide +kernel
set_option maxRecDepth 100000 in
theorem in_X10_count_X10 : ∀ x ∈ u_ws RX10 TX10 26, x ∈ wsX10_count := by decide +kernel
theorem fl_X10_count_7 : gF wsX10_count RX10 7 10 0 := ⟨RX10, TX10, 26, rfl, by decide, in_X10_count_X10, by decide +kernel⟩
theorem fl_X10_count_52 : gF wsX10_count RX10 52 10 2 := ⟨RX10, TX10, 26, rfl, by decide, in_X10_count_X10, by decide +kernel⟩
theorem fl_X10_count_68 : gF wsX10_count RX10 68 10 5 := ⟨RX10, TX10, 26, rfl, by decide, in_X10_count_X10, by decide +kernel⟩
def f_X10_count_7 (a0 : Nat) (x1 : Int32) (h : gHp) : Nat → Int32 → Int32 → Int32 → Option (Int32 × Int32)
  | 0, _, _, _ => none
  | n + 1, x2, x3, x4 => if 6 ≤ x4 then some (x2, x3) else (f_X10_hasArm a0 x4 h).bind fun v2 => (if v2 = true then some 1 else some 0 : Option (Int32)).bind fun v3 => (f_X10_hasArm a0 x4 h).bind fun v7 => if v7 = true then (f_X10_ofArm a0 x4 1 h).bind fun v9 => if v9 = 0 then f_X10_count_7 a0 x1 h n (x2 + v3) (x3 + 0) (x4 + 1) else f_X10_count_7 a0 x1 h n (x2 + v3) (x3 + 1) (x4 + 1) else f_X10_count_7 a0 x1 h n (x2 + v3) (x3 + 0) (x4 + 1)
set_option maxRecDepth 20000 in
set_option maxHeartbeats 4000000 in
theorem w_X10_count_7 {w : gWd} {g : gCx} (C : gC w g cX10_count wsX10_count RX10 6 3 65) {a0 : Nat} (A0 : is_X10 w a0) (x1 : Int32) (h : gHp)  {o : Int32 × Int32} (hk : gX w g 6 h 64 [(0, .ref a0), (1, .int x1), (2, .int o.1), (3, .int o.2)] []) : ∀ (n : Nat) (x2 : Int32) (x3 : Int32) (x4 : Int32), f_X10_count_7 a0 x1 h n x2 x3 x4 = some o → gX w g 6 h 7 [(0, .ref a0), (1, .int x1), (2, .int x2), (3, .int x3), (4, .int x4)] [] := by
  intro n
  induction n with
  | zero => intro _ _ _ hF; cases hF
  | succ n ih =>
    intro x2 x3 x4 hF
    rw [f_X10_count_7] at hF
    refine gx_iload C 4 (gDec_at D_X10_count 6 rfl) rfl ?_
    refine gx_bipush C (v := 6) (gDec_at D_X10_count 7 rfl) (by decide) ?_
    refine gx_icmp_ge C 64 (gDec_at D_X10_count 8 rfl) (by decide) (fun c => ?_) (fun c => ?_)
    · replace hF := gPos c hF
      obtain rfl := Option.some.inj hF
      exact gx_sub [0, 1, 2, 3] rfl hk
    · replace hF := gNeg c hF
      refine gx_iload_n C 2 (gDec_at D_X10_count 9 rfl) rfl rfl ?_
      refine gx_aload_n C 0 (gDec_at D_X10_count 10 rfl) rfl rfl ?_
      refine gx_iload C 4 (gDec_at D_X10_count 11 rfl) rfl ?_
      obtain ⟨v2, hv1, hF⟩ := gBind hF
      refine gx_callV1 C (st := .int x2 :: []) 1 [.int x4] (m_X10_hasArm w h A0 x4 hv1) gX10_count_X10_hasArm rfl rfl rfl hy_X10_hasArm (Nat.le_of_ble_eq_true rfl) (Nat.le_of_ble_eq_true rfl) (is_X10_sh A0) rfl rfl rfl (Nat.le_of_ble_eq_true rfl) (gDec_at D_X10_count 12 rfl) ?_
      obtain ⟨v3, hv4, hF⟩ := gBind hF
      have k5 : gX w g 6 h 29 [(0, .ref a0), (1, .int x1), (3, .int x3), (4, .int x4)] (.int v3 :: .int x2 :: []) := by
        refine gx_iadd C (gDec_at D_X10_count 17 rfl) ?_
        refine gx_istore_n C (lv' := [(2, .int (x2 + v3)), (0, .ref a0), (1, .int x1), (3, .int x3), (4, .int x4)]) (gDec_at D_X10_count 18 rfl) rfl (Nat.le_of_ble_eq_true rfl) rfl ?_
        refine gx_iload_n C 3 (gDec_at D_X10_count 19 rfl) rfl rfl ?_
        refine gx_aload_n C 1 (gDec_at D_X10_count 20 rfl) rfl rfl ?_
        refine gx_iload C 4 (gDec_at D_X10_count 21 rfl) rfl ?_
        obtain ⟨v7, hv6, hF⟩ := gBind hF
        refine gx_callV1 C (st := .int x3 :: []) 1 [.int x4] (m_X10_hasArm w h A0 x4 hv6) gX10_count_X10_hasArm rfl rfl rfl hy_X10_hasArm (Nat.le_of_ble_eq_true rfl) (Nat.le_of_ble_eq_true rfl) (is_X10_sh A0) rfl rfl rfl (Nat.le_of_ble_eq_true rfl) (gDec_at D_X10_count 22 rfl) ?_
        refine gx_ifz_eq C 55 (gDec_at D_X10_count 23 rfl) (by decide) (fun c => ?_) (fun c => ?_)
        · replace hF := gNeg c hF
          refine gx_iconst C (v := 0) (gDec_at D_X10_count 31 rfl) (by decide) ?_
          refine gx_iadd C (gDec_at D_X10_count 32 rfl) ?_
          refine gx_istore_n C (lv' := [(3, .int (x3 + 0)), (2, .int (x2 + v3)), (0, .ref a0), (1, .int x1), (4, .int x4)]) (gDec_at D_X10_count 33 rfl) rfl (Nat.le_of_ble_eq_true rfl) rfl ?_
          refine gx_iinc C (j := 4) (v := x4 + 1) (lv' := [(4, .int (x4 + 1)), (3, .int (x3 + 0)), (2, .int (x2 + v3)), (0, .ref a0), (1, .int x1)]) (gDec_at D_X10_count 34 rfl) rfl (by rfl) (Nat.le_of_ble_eq_true rfl) rfl ?_
          refine gx_goto C 7 (gDec_at D_X10_count 35 rfl) (by decide) ?_
          exact gx_sub [3, 4, 2, 1, 0] rfl (ih (x2 + v3) (x3 + 0) (x4 + 1) hF)
        · replace hF := gPos c hF
          refine gx_aload_n C 1 (gDec_at D_X10_count 24 rfl) rfl rfl ?_
          refine gx_iload C 4 (gDec_at D_X10_count 25 rfl) rfl ?_
          refine gx_iconst C (v := 1) (gDec_at D_X10_count 26 rfl) (by decide) ?_
          obtain ⟨v9, hv8, hF⟩ := gBind hF
          refine gx_callV1 C (st := .int x3 :: []) 2 [.int x4, .int 1] (m_X10_ofArm w h A0 x4 1 hv8) gX10_count_X10_ofArm rfl rfl rfl hy_X10_ofArm (Nat.le_of_ble_eq_true rfl) (Nat.le_of_ble_eq_true rfl) (is_X10_sh A0) rfl rfl rfl (Nat.le_of_ble_eq_true rfl) (gDec_at D_X10_count 27 rfl) ?_
          refine gx_if_eq C 55 (gDec_at D_X10_count 28 rfl) (by decide) (fun c => ?_) (fun c => ?_)
          · replace hF := gPos c hF
            refine gx_iconst C (v := 0) (gDec_at D_X10_count 31 rfl) (by decide) ?_
            refine gx_iadd C (gDec_at D_X10_count 32 rfl) ?_
            refine gx_istore_n C (lv' := [(3, .int (x3 + 0)), (2, .int (x2 + v3)), (0, .ref a0), (1, .int x1), (4, .int x4)]) (gDec_at D_X10_count 33 rfl) rfl (Nat.le_of_ble_eq_true rfl) rfl ?_
            refine gx_iinc C (j := 4) (v := x4 + 1) (lv' := [(4, .int (x4 + 1)), (3, .int (x3 + 0)), (2, .int (x2 + v3)), (0, .ref a0), (1, .int x1)]) (gDec_at D_X10_count 34 rfl) rfl (by rfl) (Nat.le_of_ble_eq_true rfl) rfl ?_
            refine gx_goto C 7 (gDec_at D_X10_count 35 rfl) (by decide) ?_
            exact gx_sub [3, 4, 2, 1, 0] rfl (ih (x2 + v3) (x3 + 0) (x4 + 1) hF)
          · replace hF := gNeg c hF
            refine gx_iconst C (v := 1) (gDec_at D_X10_count 29 rfl) (by decide) ?_
            refine gx_goto C 56 (gDec_at D_X10_count 30 rfl) (by decide) ?_
            refine gx_iadd C (gDec_at D_X10_count 32 rfl) ?_
            refine gx_istore_n C (lv' := [(3, .int (x3 + 1)), (2, .int (x2 + v3)), (0, .ref a0), (1, .int x1), (4, .int x4)]) (gDec_at D_X10_count 33 rfl) rfl (Nat.le_of_ble_eq_true rfl) rfl ?_
            refine gx_iinc C (j := 4) (v := x4 + 1) (lv' := [(4, .int (x4 + 1)), (3, .int (x3 + 1)), (2, .int (x2 + v3)), (0, .ref a0), (1, .int x1)]) (gDec_at D_X10_count 34 rfl) rfl (by rfl) (Nat.le_of_ble_eq_true rfl) rfl ?_
            refine gx_goto C 7 (gDec_at D_X10_count 35 rfl) (by decide) ?_
            exact gx_sub [3, 4, 2, 1, 0] rfl (ih (x2 + v3) (x3 + 1) (x4 + 1) hF)
      replace hF := hv4
      refine gx_ifz_eq C 28 (gDec_at D_X10_count 13 rfl) (by decide) (fun c => ?_) (fun c => ?_)
      · replace hF := gNeg c hF
        refine gx_iconst C (v := 0) (gDec_at D_X10_count 16 rfl) (by decide) ?_
        obtain rfl := Option.some.inj hF
        exact gx_sub [0, 1, 3, 4] rfl k5
      · replace hF := gPos c hF
        refine gx_iconst C (v := 1) (gDec_at D_X10_count 14 rfl) (by decide) ?_
        refine gx_goto C 29 (gDec_at D_X10_count 15 rfl) (by decide) ?_
        obtain rfl := Option.some.inj hF
        exact gx_sub [0, 1, 3, 4] rfl k5
def f_X10_count_70 (a0 : Nat) (x1 : Int32) (x2 : Int32) (x3 : Int32) (h : gHp) : Nat → Int32 → Int32 → Option (Int32)
  | 0, _, _ => none
  | n + 1, x4, x5 => if gIn 4 141 then if (h.2 (a0 + 1) (gN 4)) ≤ x5.toInt64 then some x4 else if gIn ((81 + (3 * x5)) + 2) 141 then f_X10_count_70 a0 x1 x2 x3 h n (x4 + ((h.2 (a0 + 1) (gN ((81 + (3 * x5)) + 2))).toInt32)) (x5 + 1) else none else none
set_option maxRecDepth 20000 in
set_option maxHeartbeats 4000000 in
theorem w_X10_count_70 {w : gWd} {g : gCx} (C : gC w g cX10_count wsX10_count RX10 6 3 65) {a0 : Nat} (A0 : is_X10 w a0) (x1 : Int32) (x2 : Int32) (x3 : Int32) (h : gHp)  {o : Int32} (hk : gX w g 6 h 109 [(0, .ref a0), (1, .int x1), (2, .int x2), (3, .int x3), (4, .int o)] []) : ∀ (n : Nat) (x4 : Int32) (x5 : Int32), f_X10_count_70 a0 x1 x2 x3 h n x4 x5 = some o → gX w g 6 h 70 [(0, .ref a0), (1, .int x1), (2, .int x2), (3, .int x3), (4, .int x4), (5, .int x5)] [] := by
  intro n
  induction n with
  | zero => intro _ _ hF; cases hF
  | succ n ih =>
    intro x4 x5 hF
    rw [f_X10_count_70] at hF
    refine gx_iload C 5 (gDec_at D_X10_count 40 rfl) rfl ?_
    refine gx_i2l C (gDec_at D_X10_count 41 rfl) ?_
    refine gx_aload_n C 0 (gDec_at D_X10_count 42 rfl) rfl rfl ?_
    refine gx_getr C fl_X10_count_7 (is_X10_sh A0) rfl (gDec_at D_X10_count 43 rfl) ?_
    refine gx_iconst C (v := 4) (gDec_at D_X10_count 44 rfl) (by decide) ?_
    obtain ⟨b13, hF⟩ := gGd hF
    refine gx_laload C (is_X10_now A0) b13 (gDec_at D_X10_count 45 rfl) ?_
    refine gx_lcmp_ge C 109 (gDec_at D_X10_count 46 rfl) (gDec_at D_X10_count 47 rfl) (by decide) (fun c => ?_) (fun c => ?_)
    · replace hF := gPos c hF
      obtain rfl := Option.some.inj hF
      exact gx_sub [0, 1, 2, 3, 4] rfl hk
    · replace hF := gNeg c hF
      refine gx_iload C 4 (gDec_at D_X10_count 48 rfl) rfl ?_
      refine gx_aload_n C 0 (gDec_at D_X10_count 49 rfl) rfl rfl ?_
      refine gx_getr C fl_X10_count_7 (is_X10_sh A0) rfl (gDec_at D_X10_count 50 rfl) ?_
      refine gx_bipush C (v := 81) (gDec_at D_X10_count 51 rfl) (by decide) ?_
      refine gx_iconst C (v := 3) (gDec_at D_X10_count 52 rfl) (by decide) ?_
      refine gx_iload C 5 (gDec_at D_X10_count 53 rfl) rfl ?_
      refine gx_imul C (gDec_at D_X10_count 54 rfl) ?_
      refine gx_iadd C (gDec_at D_X10_count 55 rfl) ?_
      refine gx_iconst C (v := 2) (gDec_at D_X10_count 56 rfl) (by decide) ?_
      refine gx_iadd C (gDec_at D_X10_count 57 rfl) ?_
      obtain ⟨b14, hF⟩ := gGd hF
      refine gx_laload C (is_X10_now A0) b14 (gDec_at D_X10_count 58 rfl) ?_
      refine gx_l2i C (gDec_at D_X10_count 59 rfl) ?_
      refine gx_iadd C (gDec_at D_X10_count 60 rfl) ?_
      refine gx_istore C (lv' := [(4, .int (x4 + ((h.2 (a0 + 1) (gN ((81 + (3 * x5)) + 2))).toInt32))), (0, .ref a0), (1, .int x1), (2, .int x2), (3, .int x3), (5, .int x5)]) (gDec_at D_X10_count 61 rfl) (Nat.le_of_ble_eq_true rfl) rfl ?_
      refine gx_iinc C (j := 5) (v := x5 + 1) (lv' := [(5, .int (x5 + 1)), (4, .int (x4 + ((h.2 (a0 + 1) (gN ((81 + (3 * x5)) + 2))).toInt32))), (0, .ref a0), (1, .int x1), (2, .int x2), (3, .int x3)]) (gDec_at D_X10_count 62 rfl) rfl (by rfl) (Nat.le_of_ble_eq_true rfl) rfl ?_
      refine gx_goto C 70 (gDec_at D_X10_count 63 rfl) (by decide) ?_
      exact gx_sub [2, 3, 4, 5, 1, 0] rfl (ih (x4 + ((h.2 (a0 + 1) (gN ((81 + (3 * x5)) + 2))).toInt32)) (x5 + 1) hF)
def f_X10_count (a0 : Nat) (x1 : Int32) (h : gHp) : Option (Int32) := (f_X10_count_7 a0 x1 h gFuel 0 0 0).bind fun v10 => (f_X10_count_70 a0 x1 v10.1 v10.2 h gFuel 0 0).bind fun v15 => if x1 = 0 then (f_X10_parts a0 h).bind fun v19 => some v19 else if x1 = 1 then some v10.1 else if x1 = 2 then (f_X10_open a0 h).bind fun v21 => some v21 else if x1 = 3 then if gIn 1 141 then some ((h.2 (a0 + 1) (gN 1)).toInt32) else none else if x1 = 4 then if gIn 2 141 then some ((h.2 (a0 + 1) (gN 2)).toInt32) else none else if x1 = 5 then if gIn 4 141 then some ((h.2 (a0 + 1) (gN 4)).toInt32) else none else if x1 = 6 then some v15 else if x1 = 7 then if gIn 3 141 then some ((h.2 (a0 + 1) (gN 3)).toInt32) else none else if x1 = 8 then some (h.1 a0 2) else if x1 = 9 then some (h.1 a0 5) else if x1 = 10 then some v10.2 else some (-2)
set_option maxRecDepth 20000 in
set_option maxHeartbeats 4000000 in
theorem m_X10_count (w : gWd) (h : gHp) {a0 : Nat} (A0 : is_X10 w a0) (x1 : Int32) {o : Int32} (hF : f_X10_count a0 x1 h = some o) : gMet w yX10_count wsX10_count rm_X10_count [.ref a0, .int x1] h (some (.int o)) h := by
  refine gMet_of (cc := cX10_count) (maxL := 6) (ret := (some .int)) (fr := 3) (lo := 65) (own := RX10) [(0, .ref a0), (1, .int x1)] (by decide) rfl rfl (Nat.le_of_ble_eq_true rfl) rfl (Nat.le_refl _) (Nat.le_refl _) (fun g C E => ?_)
  rw [f_X10_count] at hF
  refine gx_iconst C (v := 0) (gDec_at D_X10_count 0 rfl) (by decide) ?_
  refine gx_istore_n C (lv' := [(2, .int 0), (0, .ref a0), (1, .int x1)]) (gDec_at D_X10_count 1 rfl) rfl (Nat.le_of_ble_eq_true rfl) rfl ?_
  refine gx_iconst C (v := 0) (gDec_at D_X10_count 2 rfl) (by decide) ?_
  refine gx_istore_n C (lv' := [(3, .int 0), (2, .int 0), (0, .ref a0), (1, .int x1)]) (gDec_at D_X10_count 3 rfl) rfl (Nat.le_of_ble_eq_true rfl) rfl ?_
  refine gx_iconst C (v := 0) (gDec_at D_X10_count 4 rfl) (by decide) ?_
  refine gx_istore C (lv' := [(4, .int 0), (3, .int 0), (2, .int 0), (0, .ref a0), (1, .int x1)]) (gDec_at D_X10_count 5 rfl) (Nat.le_of_ble_eq_true rfl) rfl ?_
  obtain ⟨v10, hv11, hF⟩ := gBind hF
  have k12 : gX w g 6 h 64 [(0, .ref a0), (1, .int x1), (2, .int v10.1), (3, .int v10.2)] [] := by
    refine gx_iconst C (v := 0) (gDec_at D_X10_count 36 rfl) (by decide) ?_
    refine gx_istore C (lv' := [(4, .int 0), (0, .ref a0), (1, .int x1), (2, .int v10.1), (3, .int v10.2)]) (gDec_at D_X10_count 37 rfl) (Nat.le_of_ble_eq_true rfl) rfl ?_
    refine gx_iconst C (v := 0) (gDec_at D_X10_count 38 rfl) (by decide) ?_
    refine gx_istore C (lv' := [(5, .int 0), (4, .int 0), (0, .ref a0), (1, .int x1), (2, .int v10.1), (3, .int v10.2)]) (gDec_at D_X10_count 39 rfl) (Nat.le_of_ble_eq_true rfl) rfl ?_
    obtain ⟨v15, hv16, hF⟩ := gBind hF
    have k17 : gX w g 6 h 109 [(0, .ref a0), (1, .int x1), (2, .int v10.1), (3, .int v10.2), (4, .int v15)] [] := by
      refine gx_iload_n C 1 (gDec_at D_X10_count 64 rfl) rfl rfl ?_
      by_cases c0 : x1 = 0
      · replace hF := gPos c0 hF
        refine gx_tableIn C 168 (gDec_at D_X10_count 65 rfl) (by rw [c0]; decide) (by rw [c0]; decide) (by rw [c0]; rfl) (by decide) ?_
        refine gx_aload_n C 0 (gDec_at D_X10_count 66 rfl) rfl rfl ?_
        obtain ⟨v19, hv18, hF⟩ := gBind hF
        refine gx_callV1 C (st := []) 0 [] (m_X10_parts w h A0 hv18) gX10_count_X10_parts rfl rfl rfl hy_X10_parts (Nat.le_of_ble_eq_true rfl) (Nat.le_of_ble_eq_true rfl) (is_X10_sh A0) rfl rfl rfl (Nat.le_of_ble_eq_true rfl) (gDec_at D_X10_count 67 rfl) ?_
        obtain rfl := Option.some.inj hF
        exact gx_iret C E (gDec_at D_X10_count 68 rfl)
      replace hF := gNeg c0 hF
      by_cases c1 : x1 = 1
      · replace hF := gPos c1 hF
        refine gx_tableIn C 173 (gDec_at D_X10_count 65 rfl) (by rw [c1]; decide) (by rw [c1]; decide) (by rw [c1]; rfl) (by decide) ?_
        refine gx_iload_n C 2 (gDec_at D_X10_count 69 rfl) rfl rfl ?_
        obtain rfl := Option.some.inj hF
        exact gx_iret C E (gDec_at D_X10_count 70 rfl)
      replace hF := gNeg c1 hF
      by_cases c2 : x1 = 2
      · replace hF := gPos c2 hF
        refine gx_tableIn C 175 (gDec_at D_X10_count 65 rfl) (by rw [c2]; decide) (by rw [c2]; decide) (by rw [c2]; rfl) (by decide) ?_
        refine gx_aload_n C 0 (gDec_at D_X10_count 71 rfl) rfl rfl ?_
        obtain ⟨v21, hv20, hF⟩ := gBind hF
        refine gx_callV1 C (st := []) 0 [] (m_X10_open w h A0 hv20) gX10_count_X10_open rfl rfl rfl hy_X10_open (Nat.le_of_ble_eq_true rfl) (Nat.le_of_ble_eq_true rfl) (is_X10_sh A0) rfl rfl rfl (Nat.le_of_ble_eq_true rfl) (gDec_at D_X10_count 72 rfl) ?_
        obtain rfl := Option.some.inj hF
        exact gx_iret C E (gDec_at D_X10_count 73 rfl)
      replace hF := gNeg c2 hF
      by_cases c3 : x1 = 3
      · replace hF := gPos c3 hF
        refine gx_tableIn C 180 (gDec_at D_X10_count 65 rfl) (by rw [c3]; decide) (by rw [c3]; decide) (by rw [c3]; rfl) (by decide) ?_
        refine gx_aload_n C 0 (gDec_at D_X10_count 74 rfl) rfl rfl ?_
        refine gx_getr C fl_X10_count_7 (is_X10_sh A0) rfl (gDec_at D_X10_count 75 rfl) ?_
        refine gx_iconst C (v := 1) (gDec_at D_X10_count 76 rfl) (by decide) ?_
        obtain ⟨b22, hF⟩ := gGd hF
        refine gx_laload C (is_X10_now A0) b22 (gDec_at D_X10_count 77 rfl) ?_
        refine gx_l2i C (gDec_at D_X10_count 78 rfl) ?_
        obtain rfl := Option.some.inj hF
        exact gx_iret C E (gDec_at D_X10_count 79 rfl)
      replace hF := gNeg c3 hF
      by_cases c4 : x1 = 4
      · replace hF := gPos c4 hF
        refine gx_tableIn C 188 (gDec_at D_X10_count 65 rfl) (by rw [c4]; decide) (by rw [c4]; decide) (by rw [c4]; rfl) (by decide) ?_
        refine gx_aload_n C 0 (gDec_at D_X10_count 80 rfl) rfl rfl ?_
        refine gx_getr C fl_X10_count_7 (is_X10_sh A0) rfl (gDec_at D_X10_count 81 rfl) ?_
        refine gx_iconst C (v := 2) (gDec_at D_X10_count 82 rfl) (by decide) ?_
        obtain ⟨b23, hF⟩ := gGd hF
        refine gx_laload C (is_X10_now A0) b23 (gDec_at D_X10_count 83 rfl) ?_
        refine gx_l2i C (gDec_at D_X10_count 84 rfl) ?_
        obtain rfl := Option.some.inj hF
        exact gx_iret C E (gDec_at D_X10_count 85 rfl)
      replace hF := gNeg c4 hF
      by_cases c5 : x1 = 5
      · replace hF := gPos c5 hF
        refine gx_tableIn C 196 (gDec_at D_X10_count 65 rfl) (by rw [c5]; decide) (by rw [c5]; decide) (by rw [c5]; rfl) (by decide) ?_
        refine gx_aload_n C 0 (gDec_at D_X10_count 86 rfl) rfl rfl ?_
        refine gx_getr C fl_X10_count_7 (is_X10_sh A0) rfl (gDec_at D_X10_count 87 rfl) ?_
        refine gx_iconst C (v := 4) (gDec_at D_X10_count 88 rfl) (by decide) ?_
        obtain ⟨b24, hF⟩ := gGd hF
        refine gx_laload C (is_X10_now A0) b24 (gDec_at D_X10_count 89 rfl) ?_
        refine gx_l2i C (gDec_at D_X10_count 90 rfl) ?_
        obtain rfl := Option.some.inj hF
        exact gx_iret C E (gDec_at D_X10_count 91 rfl)
      replace hF := gNeg c5 hF
      by_cases c6 : x1 = 6
      · replace hF := gPos c6 hF
        refine gx_tableIn C 204 (gDec_at D_X10_count 65 rfl) (by rw [c6]; decide) (by rw [c6]; decide) (by rw [c6]; rfl) (by decide) ?_
        refine gx_iload C 4 (gDec_at D_X10_count 92 rfl) rfl ?_
        obtain rfl := Option.some.inj hF
        exact gx_iret C E (gDec_at D_X10_count 93 rfl)
      replace hF := gNeg c6 hF
      by_cases c7 : x1 = 7
      · replace hF := gPos c7 hF
        refine gx_tableIn C 207 (gDec_at D_X10_count 65 rfl) (by rw [c7]; decide) (by rw [c7]; decide) (by rw [c7]; rfl) (by decide) ?_
        refine gx_aload_n C 0 (gDec_at D_X10_count 94 rfl) rfl rfl ?_
        refine gx_getr C fl_X10_count_7 (is_X10_sh A0) rfl (gDec_at D_X10_count 95 rfl) ?_
        refine gx_iconst C (v := 3) (gDec_at D_X10_count 96 rfl) (by decide) ?_
        obtain ⟨b25, hF⟩ := gGd hF
        refine gx_laload C (is_X10_now A0) b25 (gDec_at D_X10_count 97 rfl) ?_
        refine gx_l2i C (gDec_at D_X10_count 98 rfl) ?_
        obtain rfl := Option.some.inj hF
        exact gx_iret C E (gDec_at D_X10_count 99 rfl)
      replace hF := gNeg c7 hF
      by_cases c8 : x1 = 8
      · replace hF := gPos c8 hF
        refine gx_tableIn C 215 (gDec_at D_X10_count 65 rfl) (by rw [c8]; decide) (by rw [c8]; decide) (by rw [c8]; rfl) (by decide) ?_
        refine gx_aload_n C 0 (gDec_at D_X10_count 100 rfl) rfl rfl ?_
        refine gx_geti C fl_X10_count_52 (is_X10_sh A0) rfl (gDec_at D_X10_count 101 rfl) ?_
        obtain rfl := Option.some.inj hF
        exact gx_iret C E (gDec_at D_X10_count 102 rfl)
      replace hF := gNeg c8 hF
      by_cases c9 : x1 = 9
      · replace hF := gPos c9 hF
        refine gx_tableIn C 220 (gDec_at D_X10_count 65 rfl) (by rw [c9]; decide) (by rw [c9]; decide) (by rw [c9]; rfl) (by decide) ?_
        refine gx_aload_n C 0 (gDec_at D_X10_count 103 rfl) rfl rfl ?_
        refine gx_geti C fl_X10_count_68 (is_X10_sh A0) rfl (gDec_at D_X10_count 104 rfl) ?_
        obtain rfl := Option.some.inj hF
        exact gx_iret C E (gDec_at D_X10_count 105 rfl)
      replace hF := gNeg c9 hF
      by_cases c10 : x1 = 10
      · replace hF := gPos c10 hF
        refine gx_tableIn C 225 (gDec_at D_X10_count 65 rfl) (by rw [c10]; decide) (by rw [c10]; decide) (by rw [c10]; rfl) (by decide) ?_
        refine gx_iload_n C 3 (gDec_at D_X10_count 106 rfl) rfl rfl ?_
        obtain rfl := Option.some.inj hF
        exact gx_iret C E (gDec_at D_X10_count 107 rfl)
      replace hF := gNeg c10 hF
      refine gx_tableOut C 227 (gDec_at D_X10_count 65 rfl) (gSw _ 10 (by decide) (fun k hk => match k, hk with | 0, _ => c0 | 1, _ => c1 | 2, _ => c2 | 3, _ => c3 | 4, _ => c4 | 5, _ => c5 | 6, _ => c6 | 7, _ => c7 | 8, _ => c8 | 9, _ => c9 | 10, _ => c10 | k + 11, hk => absurd hk (by omega))) (by decide) ?_
      refine gx_bipush C (v := (-2)) (gDec_at D_X10_count 108 rfl) (by decide) ?_
      obtain rfl := Option.some.inj hF
      exact gx_iret C E (gDec_at D_X10_count 109 rfl)
    exact gx_sub [2, 3, 4, 5, 1, 0] rfl (w_X10_count_70 C A0 x1 v10.1 v10.2 h k17 gFuel 0 0 hv16)
  exact gx_sub [3, 4, 2, 1, 0] rfl (w_X10_count_7 C A0 x1 h k12 gFuel 0 0 0 hv11)
