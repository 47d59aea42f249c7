/-! LadderBenchModel.lay -/
def rm_X10_lay : Room := { frames := 5, cells := 0, slots := 0, locals := 132 }
set_option maxRecDepth 20000 in
theorem ggX10_lay_X10_layArm : GoodIn wsX10_lay wsX10_layArm := goodIn_r _ [16, 1, 2, 9, 10, 11, 7, 12, 3, 17, 18, 19, 20, 53, 54, 55, 56, 57, 58, 59, 60, 61, 62, 63, 64, 65, 66, 67, 68, 69, 70, 71, 72, 73, 74, 75, 76, 77, 78] (by decide +kernel) (by decide +kernel)
set_option maxRecDepth 20000 in
theorem gX10_lay_X10_layArm : GoodIn wsX10_lay (wsV RX10 193 RX10 yX10_layArm wsX10_layArm) := goodIn_app (goodIn_of _ (by decide +kernel)) ggX10_lay_X10_layArm
set_option maxRecDepth 20000 in
theorem ggX10_lay_X10_laySeries : GoodIn wsX10_lay wsX10_laySeries := goodIn_r _ [24, 2, 1, 25, 26, 9, 10, 11, 7, 12, 3, 27, 28, 29, 30, 31, 32, 33, 34, 35, 36, 37, 53, 54, 55, 56, 57, 58, 59, 60, 61, 62, 63, 64, 65, 66, 67, 68, 69, 70, 71, 72, 73, 74, 75, 76, 77, 78] (by decide +kernel) (by decide +kernel)
set_option maxRecDepth 20000 in
theorem gX10_lay_X10_laySeries : GoodIn wsX10_lay (wsV RX10 196 RX10 yX10_laySeries wsX10_laySeries) := goodIn_app (goodIn_of _ (by decide +kernel)) ggX10_lay_X10_laySeries
set_option maxRecDepth 20000 in
theorem ggX10_lay_X10_lets : GoodIn wsX10_lay wsX10_lets := goodIn_r _ [48, 44, 42, 43, 25, 26, 27, 28, 29, 7, 30, 31, 32, 33, 34, 35, 36, 37, 53, 54, 55, 56, 57, 58, 59, 60, 61, 62, 63, 64, 65, 66, 67, 68, 69, 70, 71, 72, 73, 74, 75, 76, 77, 78] (by decide +kernel) (by decide +kernel)
set_option maxRecDepth 20000 in
theorem gX10_lay_X10_lets : GoodIn wsX10_lay (wsV RX10 190 RX10 yX10_lets wsX10_lets) := goodIn_app (goodIn_of _ (by decide +kernel)) ggX10_lay_X10_lets
set_option maxRecDepth 20000 in
theorem ggX10_lay_X10_letsOf : GoodIn wsX10_lay wsX10_letsOf := goodIn_r _ [41, 42, 43, 44, 1, 2, 9, 10, 11, 7, 12, 3, 45, 46, 47, 48, 25, 26, 27, 28, 29, 30, 31, 32, 33, 34, 35, 36, 37, 53, 54, 55, 56, 57, 58, 59, 60, 61, 62, 63, 64, 65, 66, 67, 68, 69, 70, 71, 72, 73, 74, 75, 76, 77, 78] (by decide +kernel) (by decide +kernel)
set_option maxRecDepth 20000 in
theorem gX10_lay_X10_letsOf : GoodIn wsX10_lay (wsV RX10 199 RX10 yX10_letsOf wsX10_letsOf) := goodIn_app (goodIn_of _ (by decide +kernel)) ggX10_lay_X10_letsOf
set_option maxRecDepth 20000 in
theorem ggX10_lay_X10_ofPart : GoodIn wsX10_lay wsX10_ofPart := goodIn_r _ [12, 3, 53, 54, 55, 56, 57, 58, 59, 60, 61, 62, 63, 64, 65, 66, 67, 68, 69, 70, 71, 72, 73, 74, 75, 76, 77, 78] (by decide +kernel) (by decide +kernel)
set_option maxRecDepth 20000 in
theorem gX10_lay_X10_ofPart : GoodIn wsX10_lay (wsV RX10 130 RX10 yX10_ofPart wsX10_ofPart) := goodIn_app (goodIn_of _ (by decide +kernel)) ggX10_lay_X10_ofPart
set_option maxRecDepth 20000 in
theorem ggX10_lay_X10_parts : GoodIn wsX10_lay wsX10_parts := goodIn_r _ [8, 3, 53, 54, 55, 56, 57, 58, 59, 60, 61, 62, 63, 64, 65, 66, 67, 68, 69, 70, 71, 72, 73, 74, 75, 76, 77, 78] (by decide +kernel) (by decide +kernel)
set_option maxRecDepth 20000 in
theorem gX10_lay_X10_parts : GoodIn wsX10_lay (wsV RX10 56 RX10 yX10_parts wsX10_parts) := goodIn_app (goodIn_of _ (by decide +kernel)) ggX10_lay_X10_parts
set_option maxRecDepth 20000 in
theorem ggX10_lay_X10_takeLets : GoodIn wsX10_lay wsX10_takeLets := goodIn_r _ [52, 1, 44, 42, 43, 2, 53, 54, 55, 56, 57, 58, 59, 60, 61, 62, 63, 64, 65, 66, 67, 68, 69, 70, 71, 72, 73, 74, 75, 76, 77, 78] (by decide +kernel) (by decide +kernel)
set_option maxRecDepth 20000 in
theorem gX10_lay_X10_takeLets : GoodIn wsX10_lay (wsV RX10 203 RX10 yX10_takeLets wsX10_takeLets) := goodIn_app (goodIn_of _ (by decide +kernel)) ggX10_lay_X10_takeLets
theorem hy_X10_lay : yX10_lay.cls = RX10 ∧ yX10_lay.cls ≠ "java/lang/invoke/MethodHandle" ∧ yX10_lay.cls ≠ "java/lang/invoke/VarHandle" ∧ (parseMethodDescriptor yX10_lay.desc).map (fun d => d.parameters.length) = some 3 := by decide +kernel
set_option maxRecDepth 100000 in
theorem D_X10_lay : gDec cX10_lay [(0, (.iconst 0, 1)), (1, (.istore 4, 2)), (3, (.iload 4, 2)), (5, (.aload_n 0, 1)), (6, (.invokevirtual 56, 3)), (9, (.if_icmp .ge 120, 3)), (12, (.aload_n 0, 1)), (13, (.iload 4, 2)), (15, (.iconst 0, 1)), (16, (.invokevirtual 130, 3)), (19, (.ifCond .ne 14, 3)), (22, (.aload_n 0, 1)), (23, (.iload 4, 2)), (25, (.iload_n 2, 1)), (26, (.iload_n 3, 1)), (27, (.invokevirtual 193, 3)), (30, (.goto 37, 3)), (33, (.aload_n 0, 1)), (34, (.iload 4, 2)), (36, (.iconst 0, 1)), (37, (.invokevirtual 130, 3)), (40, (.iconst 1, 1)), (41, (.if_icmp .ne 12, 3)), (44, (.aload_n 0, 1)), (45, (.iload 4, 2)), (47, (.invokevirtual 196, 3)), (50, (.goto 17, 3)), (53, (.aload_n 0, 1)), (54, (.iload 4, 2)), (56, (.bipush (-4), 2)), (58, (.invokevirtual 199, 3)), (61, (.aload_n 0, 1)), (62, (.iload 4, 2)), (64, (.invokevirtual 203, 3)), (67, (.iload 4, 2)), (69, (.iload_n 1, 1)), (70, (.if_icmp .ne 53, 3)), (73, (.aload_n 0, 1)), (74, (.getfield 36, 3)), (77, (.iload 4, 2)), (79, (.laload, 1)), (80, (.lstore 5, 2)), (82, (.aload_n 0, 1)), (83, (.getfield 39, 3)), (86, (.iload 4, 2)), (88, (.laload, 1)), (89, (.lstore 7, 2)), (91, (.aload_n 0, 1)), (92, (.iconst 0, 1)), (93, (.bipush (-4), 2)), (95, (.invokevirtual 199, 3)), (98, (.aload_n 0, 1)), (99, (.lload 5, 2)), (101, (.lload 7, 2)), (103, (.invokevirtual 190, 3)), (106, (.aload_n 0, 1)), (107, (.aload_n 0, 1)), (108, (.getfield 7, 3)), (111, (.iconst 2, 1)), (112, (.laload, 1)), (113, (.lconst 1, 1)), (114, (.invokevirtual 190, 3)), (117, (.aload_n 0, 1)), (118, (.iload 4, 2)), (120, (.invokevirtual 203, 3)), (123, (.iinc 4 1, 3)), (126, (.goto (-123), 3)), (129, (.return_, 1))] = true := by decide +kernel
set_option maxRecDepth 100000 in
theorem in_X10_lay_X10 : ∀ x ∈ u_ws RX10 TX10 26, x ∈ wsX10_lay := by decide +kernel
theorem fl_X10_lay_36 : gF wsX10_lay RX10 36 10 19 := ⟨RX10, TX10, 26, rfl, by decide, in_X10_lay_X10, by decide +kernel⟩
theorem fl_X10_lay_39 : gF wsX10_lay RX10 39 10 20 := ⟨RX10, TX10, 26, rfl, by decide, in_X10_lay_X10, by decide +kernel⟩
theorem fl_X10_lay_7 : gF wsX10_lay RX10 7 10 0 := ⟨RX10, TX10, 26, rfl, by decide, in_X10_lay_X10, by decide +kernel⟩
def f_X10_lay_3 (a0 : Nat) (x1 : Int32) (x2 : Int32) (x3 : Int32) : Nat → Int32 → gHp → Option (gHp)
  | 0, _, _ => none
  | n + 1, x4, h => (f_X10_parts a0 h).bind fun v2 => if v2 ≤ x4 then some h else (f_X10_ofPart a0 x4 0 h).bind fun v4 => (if v4 = 0 then (f_X10_layArm a0 x4 x2 x3 h).bind fun v28 => some v28 else (f_X10_ofPart a0 x4 0 h).bind fun v20 => if v20 = 1 then (f_X10_laySeries a0 x4 h).bind fun v26 => some v26 else (f_X10_letsOf a0 x4 (-4) h).bind fun v22 => (f_X10_takeLets a0 x4 v22).bind fun v24 => some v24 : Option (gHp)).bind fun v5 => if x4 = x1 then if gIn x4 11 then if gIn x4 11 then (f_X10_letsOf a0 0 (-4) v5).bind fun v11 => (f_X10_lets a0 (v5.2 (a0 + 9) (gN x4)) (v5.2 (a0 + 10) (gN x4)) v11).bind fun v13 => if gIn 2 141 then (f_X10_lets a0 (v13.2 (a0 + 1) (gN 2)) 1 v13).bind fun v16 => (f_X10_takeLets a0 x4 v16).bind fun v18 => f_X10_lay_3 a0 x1 x2 x3 n (x4 + 1) v18 else none else none else none else f_X10_lay_3 a0 x1 x2 x3 n (x4 + 1) v5
set_option maxRecDepth 20000 in
set_option maxHeartbeats 4000000 in
theorem w_X10_lay_3 {w : gWd} {g : gCx} (C : gC w g cX10_lay wsX10_lay RX10 9 5 132) {a0 : Nat} (A0 : is_X10 w a0) (x1 : Int32) (x2 : Int32) (x3 : Int32)  {o : gHp} (hk : gX w g 9 o 129 [] []) : ∀ (n : Nat) (x4 : Int32) (h : gHp), f_X10_lay_3 a0 x1 x2 x3 n x4 h = some o → gX w g 9 h 3 [(0, .ref a0), (1, .int x1), (2, .int x2), (3, .int x3), (4, .int x4)] [] := by
  intro n
  induction n with
  | zero => intro _ _ hF; cases hF
  | succ n ih =>
    intro x4 h hF
    rw [f_X10_lay_3] at hF
    refine gx_iload C 4 (gDec_at D_X10_lay 2 rfl) rfl ?_
    refine gx_aload_n C 0 (gDec_at D_X10_lay 3 rfl) rfl rfl ?_
    obtain ⟨v2, hv1, hF⟩ := gBind hF
    refine gx_callV1 C (st := .int x4 :: []) 0 [] (m_X10_parts w h A0 hv1) gX10_lay_X10_parts rfl rfl rfl hy_X10_parts (Nat.le_of_ble_eq_true rfl) (Nat.le_of_ble_eq_true rfl) (is_X10_sh A0) rfl rfl rfl (Nat.le_of_ble_eq_true rfl) (gDec_at D_X10_lay 4 rfl) ?_
    refine gx_icmp_ge C 129 (gDec_at D_X10_lay 5 rfl) (by decide) (fun c => ?_) (fun c => ?_)
    · replace hF := gPos c hF
      obtain rfl := Option.some.inj hF
      exact gx_sub [] rfl hk
    · replace hF := gNeg c hF
      refine gx_aload_n C 0 (gDec_at D_X10_lay 6 rfl) rfl rfl ?_
      refine gx_iload C 4 (gDec_at D_X10_lay 7 rfl) rfl ?_
      refine gx_iconst C (v := 0) (gDec_at D_X10_lay 8 rfl) (by decide) ?_
      obtain ⟨v4, hv3, hF⟩ := gBind hF
      refine gx_callV1 C (st := []) 2 [.int x4, .int 0] (m_X10_ofPart w h A0 x4 0 hv3) gX10_lay_X10_ofPart rfl rfl rfl hy_X10_ofPart (Nat.le_of_ble_eq_true rfl) (Nat.le_of_ble_eq_true rfl) (is_X10_sh A0) rfl rfl rfl (Nat.le_of_ble_eq_true rfl) (gDec_at D_X10_lay 9 rfl) ?_
      obtain ⟨v5, hv6, hF⟩ := gBind hF
      have k7 : gX w g 9 v5 67 [(0, .ref a0), (1, .int x1), (2, .int x2), (3, .int x3), (4, .int x4)] ([]) := by
        refine gx_iload C 4 (gDec_at D_X10_lay 34 rfl) rfl ?_
        refine gx_iload_n C 1 (gDec_at D_X10_lay 35 rfl) rfl rfl ?_
        refine gx_icmp_ne C 123 (gDec_at D_X10_lay 36 rfl) (by decide) (fun c => ?_) (fun c => ?_)
        · replace hF := gNeg c hF
          refine gx_iinc C (j := 4) (v := x4 + 1) (lv' := [(4, .int (x4 + 1)), (0, .ref a0), (1, .int x1), (2, .int x2), (3, .int x3)]) (gDec_at D_X10_lay 65 rfl) rfl (by rfl) (Nat.le_of_ble_eq_true rfl) rfl ?_
          refine gx_goto C 3 (gDec_at D_X10_lay 66 rfl) (by decide) ?_
          exact gx_sub [1, 2, 3, 4, 0] rfl (ih (x4 + 1) v5 hF)
        · replace hF := gPos c hF
          refine gx_aload_n C 0 (gDec_at D_X10_lay 37 rfl) rfl rfl ?_
          refine gx_getr C fl_X10_lay_36 (is_X10_sh A0) rfl (gDec_at D_X10_lay 38 rfl) ?_
          refine gx_iload C 4 (gDec_at D_X10_lay 39 rfl) rfl ?_
          obtain ⟨b8, hF⟩ := gGd hF
          refine gx_laload C (is_X10_upper A0) b8 (gDec_at D_X10_lay 40 rfl) ?_
          refine gx_lstore C (lv' := [(5, .long (v5.2 (a0 + 9) (gN x4))), (0, .ref a0), (1, .int x1), (2, .int x2), (3, .int x3), (4, .int x4)]) (gDec_at D_X10_lay 41 rfl) (Nat.le_of_ble_eq_true rfl) rfl ?_
          refine gx_aload_n C 1 (gDec_at D_X10_lay 42 rfl) rfl rfl ?_
          refine gx_getr C fl_X10_lay_39 (is_X10_sh A0) rfl (gDec_at D_X10_lay 43 rfl) ?_
          refine gx_iload C 5 (gDec_at D_X10_lay 44 rfl) rfl ?_
          obtain ⟨b9, hF⟩ := gGd hF
          refine gx_laload C (is_X10_lower A0) b9 (gDec_at D_X10_lay 45 rfl) ?_
          refine gx_lstore C (lv' := [(7, .long (v5.2 (a0 + 10) (gN x4))), (5, .long (v5.2 (a0 + 9) (gN x4))), (0, .ref a0), (1, .int x1), (2, .int x2), (3, .int x3), (4, .int x4)]) (gDec_at D_X10_lay 46 rfl) (Nat.le_of_ble_eq_true rfl) rfl ?_
          refine gx_aload_n C 2 (gDec_at D_X10_lay 47 rfl) rfl rfl ?_
          refine gx_iconst C (v := 0) (gDec_at D_X10_lay 48 rfl) (by decide) ?_
          refine gx_bipush C (v := (-4)) (gDec_at D_X10_lay 49 rfl) (by decide) ?_
          obtain ⟨v11, hv10, hF⟩ := gBind hF
          refine gx_callV0 C (st := []) 2 [.int 0, .int (-4)] (m_X10_letsOf w v5 A0 0 (-4) hv10) gX10_lay_X10_letsOf rfl rfl rfl hy_X10_letsOf (Nat.le_of_ble_eq_true rfl) (Nat.le_of_ble_eq_true rfl) (is_X10_sh A0) rfl rfl rfl (Nat.le_of_ble_eq_true rfl) (gDec_at D_X10_lay 50 rfl) ?_
          refine gx_aload_n C 2 (gDec_at D_X10_lay 51 rfl) rfl rfl ?_
          refine gx_lload C 1 (gDec_at D_X10_lay 52 rfl) rfl ?_
          refine gx_lload C 0 (gDec_at D_X10_lay 53 rfl) rfl ?_
          obtain ⟨v13, hv12, hF⟩ := gBind hF
          refine gx_callV0 C (st := []) 2 [.long (v5.2 (a0 + 9) (gN x4)), .long (v5.2 (a0 + 10) (gN x4))] (m_X10_lets w v11 A0 (v5.2 (a0 + 9) (gN x4)) (v5.2 (a0 + 10) (gN x4)) hv12) gX10_lay_X10_lets rfl rfl rfl hy_X10_lets (Nat.le_of_ble_eq_true rfl) (Nat.le_of_ble_eq_true rfl) (is_X10_sh A0) rfl rfl rfl (Nat.le_of_ble_eq_true rfl) (gDec_at D_X10_lay 54 rfl) ?_
          refine gx_aload_n C 2 (gDec_at D_X10_lay 55 rfl) rfl rfl ?_
          refine gx_aload_n C 2 (gDec_at D_X10_lay 56 rfl) rfl rfl ?_
          refine gx_getr C fl_X10_lay_7 (is_X10_sh A0) rfl (gDec_at D_X10_lay 57 rfl) ?_
          refine gx_iconst C (v := 2) (gDec_at D_X10_lay 58 rfl) (by decide) ?_
          obtain ⟨b14, hF⟩ := gGd hF
          refine gx_laload C (is_X10_now A0) b14 (gDec_at D_X10_lay 59 rfl) ?_
          refine gx_lconst C (v := 1) (gDec_at D_X10_lay 60 rfl) (by decide) ?_
          obtain ⟨v16, hv15, hF⟩ := gBind hF
          refine gx_callV0 C (st := []) 2 [.long (v13.2 (a0 + 1) (gN 2)), .long 1] (m_X10_lets w v13 A0 (v13.2 (a0 + 1) (gN 2)) 1 hv15) gX10_lay_X10_lets rfl rfl rfl hy_X10_lets (Nat.le_of_ble_eq_true rfl) (Nat.le_of_ble_eq_true rfl) (is_X10_sh A0) rfl rfl rfl (Nat.le_of_ble_eq_true rfl) (gDec_at D_X10_lay 61 rfl) ?_
          refine gx_aload_n C 2 (gDec_at D_X10_lay 62 rfl) rfl rfl ?_
          refine gx_iload C 6 (gDec_at D_X10_lay 63 rfl) rfl ?_
          obtain ⟨v18, hv17, hF⟩ := gBind hF
          refine gx_callV0 C (st := []) 1 [.int x4] (m_X10_takeLets w v16 A0 x4 hv17) gX10_lay_X10_takeLets rfl rfl rfl hy_X10_takeLets (Nat.le_of_ble_eq_true rfl) (Nat.le_of_ble_eq_true rfl) (is_X10_sh A0) rfl rfl rfl (Nat.le_of_ble_eq_true rfl) (gDec_at D_X10_lay 64 rfl) ?_
          refine gx_iinc C (j := 6) (v := x4 + 1) (lv' := [(4, .int (x4 + 1)), (7, .long (v5.2 (a0 + 10) (gN x4))), (5, .long (v5.2 (a0 + 9) (gN x4))), (0, .ref a0), (1, .int x1), (2, .int x2), (3, .int x3)]) (gDec_at D_X10_lay 65 rfl) rfl (by rfl) (Nat.le_of_ble_eq_true rfl) rfl ?_
          refine gx_goto C 3 (gDec_at D_X10_lay 66 rfl) (by decide) ?_
          exact gx_sub [3, 4, 5, 6, 0] rfl (ih (x4 + 1) v18 hF)
      replace hF := hv6
      refine gx_if_ne C 33 (gDec_at D_X10_lay 10 rfl) (by decide) (fun c => ?_) (fun c => ?_)
      · replace hF := gNeg c hF
        refine gx_aload_n C 0 (gDec_at D_X10_lay 17 rfl) rfl rfl ?_
        refine gx_iload C 4 (gDec_at D_X10_lay 18 rfl) rfl ?_
        refine gx_iconst C (v := 0) (gDec_at D_X10_lay 19 rfl) (by decide) ?_
        obtain ⟨v20, hv19, hF⟩ := gBind hF
        refine gx_callV1 C (st := []) 2 [.int x4, .int 0] (m_X10_ofPart w h A0 x4 0 hv19) gX10_lay_X10_ofPart rfl rfl rfl hy_X10_ofPart (Nat.le_of_ble_eq_true rfl) (Nat.le_of_ble_eq_true rfl) (is_X10_sh A0) rfl rfl rfl (Nat.le_of_ble_eq_true rfl) (gDec_at D_X10_lay 20 rfl) ?_
        refine gx_iconst C (v := 1) (gDec_at D_X10_lay 21 rfl) (by decide) ?_
        refine gx_icmp_ne C 53 (gDec_at D_X10_lay 22 rfl) (by decide) (fun c => ?_) (fun c => ?_)
        · replace hF := gNeg c hF
          refine gx_aload_n C 0 (gDec_at D_X10_lay 27 rfl) rfl rfl ?_
          refine gx_iload C 4 (gDec_at D_X10_lay 28 rfl) rfl ?_
          refine gx_bipush C (v := (-4)) (gDec_at D_X10_lay 29 rfl) (by decide) ?_
          obtain ⟨v22, hv21, hF⟩ := gBind hF
          refine gx_callV0 C (st := []) 2 [.int x4, .int (-4)] (m_X10_letsOf w h A0 x4 (-4) hv21) gX10_lay_X10_letsOf rfl rfl rfl hy_X10_letsOf (Nat.le_of_ble_eq_true rfl) (Nat.le_of_ble_eq_true rfl) (is_X10_sh A0) rfl rfl rfl (Nat.le_of_ble_eq_true rfl) (gDec_at D_X10_lay 30 rfl) ?_
          refine gx_aload_n C 0 (gDec_at D_X10_lay 31 rfl) rfl rfl ?_
          refine gx_iload C 4 (gDec_at D_X10_lay 32 rfl) rfl ?_
          obtain ⟨v24, hv23, hF⟩ := gBind hF
          refine gx_callV0 C (st := []) 1 [.int x4] (m_X10_takeLets w v22 A0 x4 hv23) gX10_lay_X10_takeLets rfl rfl rfl hy_X10_takeLets (Nat.le_of_ble_eq_true rfl) (Nat.le_of_ble_eq_true rfl) (is_X10_sh A0) rfl rfl rfl (Nat.le_of_ble_eq_true rfl) (gDec_at D_X10_lay 33 rfl) ?_
          obtain rfl := Option.some.inj hF
          exact gx_sub [0, 1, 2, 3, 4] rfl k7
        · replace hF := gPos c hF
          refine gx_aload_n C 0 (gDec_at D_X10_lay 23 rfl) rfl rfl ?_
          refine gx_iload C 4 (gDec_at D_X10_lay 24 rfl) rfl ?_
          obtain ⟨v26, hv25, hF⟩ := gBind hF
          refine gx_callV0 C (st := []) 1 [.int x4] (m_X10_laySeries w h A0 x4 hv25) gX10_lay_X10_laySeries rfl rfl rfl hy_X10_laySeries (Nat.le_of_ble_eq_true rfl) (Nat.le_of_ble_eq_true rfl) (is_X10_sh A0) rfl rfl rfl (Nat.le_of_ble_eq_true rfl) (gDec_at D_X10_lay 25 rfl) ?_
          refine gx_goto C 67 (gDec_at D_X10_lay 26 rfl) (by decide) ?_
          obtain rfl := Option.some.inj hF
          exact gx_sub [0, 1, 2, 3, 4] rfl k7
      · replace hF := gPos c hF
        refine gx_aload_n C 0 (gDec_at D_X10_lay 11 rfl) rfl rfl ?_
        refine gx_iload C 4 (gDec_at D_X10_lay 12 rfl) rfl ?_
        refine gx_iload_n C 2 (gDec_at D_X10_lay 13 rfl) rfl rfl ?_
        refine gx_iload_n C 3 (gDec_at D_X10_lay 14 rfl) rfl rfl ?_
        obtain ⟨v28, hv27, hF⟩ := gBind hF
        refine gx_callV0 C (st := []) 3 [.int x4, .int x2, .int x3] (m_X10_layArm w h A0 x4 x2 x3 hv27) gX10_lay_X10_layArm rfl rfl rfl hy_X10_layArm (Nat.le_of_ble_eq_true rfl) (Nat.le_of_ble_eq_true rfl) (is_X10_sh A0) rfl rfl rfl (Nat.le_of_ble_eq_true rfl) (gDec_at D_X10_lay 15 rfl) ?_
        refine gx_goto C 67 (gDec_at D_X10_lay 16 rfl) (by decide) ?_
        obtain rfl := Option.some.inj hF
        exact gx_sub [0, 1, 2, 3, 4] rfl k7
def f_X10_lay (a0 : Nat) (x1 : Int32) (x2 : Int32) (x3 : Int32) (h : gHp) : Option (gHp) := (f_X10_lay_3 a0 x1 x2 x3 gFuel 0 h).bind fun v29 => some v29
set_option maxRecDepth 20000 in
set_option maxHeartbeats 4000000 in
theorem m_X10_lay (w : gWd) (h : gHp) {a0 : Nat} (A0 : is_X10 w a0) (x1 : Int32) (x2 : Int32) (x3 : Int32) {o : gHp} (hF : f_X10_lay a0 x1 x2 x3 h = some o) : gMet w yX10_lay wsX10_lay rm_X10_lay [.ref a0, .int x1, .int x2, .int x3] h (none) o := by
  refine gMet_of (cc := cX10_lay) (maxL := 9) (ret := none) (fr := 5) (lo := 132) (own := RX10) [(0, .ref a0), (1, .int x1), (2, .int x2), (3, .int x3)] (by decide) rfl rfl (Nat.le_of_ble_eq_true rfl) rfl (Nat.le_refl _) (Nat.le_refl _) (fun g C E => ?_)
  rw [f_X10_lay] at hF
  refine gx_iconst C (v := 0) (gDec_at D_X10_lay 0 rfl) (by decide) ?_
  refine gx_istore C (lv' := [(4, .int 0), (0, .ref a0), (1, .int x1), (2, .int x2), (3, .int x3)]) (gDec_at D_X10_lay 1 rfl) (Nat.le_of_ble_eq_true rfl) rfl ?_
  obtain ⟨v29, hv30, hF⟩ := gBind hF
  have k31 : gX w g 9 v29 129 [] [] := by
    obtain rfl := Option.some.inj hF
    exact gx_vret C E (gDec_at D_X10_lay 67 rfl)
  exact gx_sub [1, 2, 3, 4, 0] rfl (w_X10_lay_3 C A0 x1 x2 x3 k31 gFuel 0 h hv30)
/-! LadderBenchModel.telling -/
def rm_X10_telling : Room := { frames := 2, cells := 0, slots := 0, locals := 43 }
set_option maxRecDepth 20000 in
theorem ggX10_telling_X10_in : GoodIn wsX10_telling wsX10_in := goodIn_r _ [13] (by decide +kernel) (by decide +kernel)
set_option maxRecDepth 20000 in
theorem gX10_telling_X10_in : GoodIn wsX10_telling (va_wsS RX10 60 yX10_in wsX10_in) := goodIn_app (goodIn_of _ (by decide +kernel)) ggX10_telling_X10_in
set_option maxRecDepth 20000 in
theorem ggX10_telling_X10_noPart : GoodIn wsX10_telling wsX10_noPart := goodIn_r _ [5, 6, 7, 8, 4, 9, 10, 11, 12, 13, 14, 15, 16, 17, 18, 19, 20, 21, 22, 23, 24, 25, 26, 27, 28, 29, 30, 31, 32, 33, 34, 35, 36, 37, 38, 39] (by decide +kernel) (by decide +kernel)
set_option maxRecDepth 20000 in
theorem gX10_telling_X10_noPart : GoodIn wsX10_telling (wsV RX10 145 RX10 yX10_noPart wsX10_noPart) := goodIn_app (goodIn_of _ (by decide +kernel)) ggX10_telling_X10_noPart
theorem hy_X10_telling : yX10_telling.cls = RX10 ∧ yX10_telling.cls ≠ "java/lang/invoke/MethodHandle" ∧ yX10_telling.cls ≠ "java/lang/invoke/VarHandle" ∧ (parseMethodDescriptor yX10_telling.desc).map (fun d => d.parameters.length) = some 2 := by decide +kernel
set_option maxRecDepth 100000 in
theorem D_X10_telling : gDec cX10_telling [(0, (.aload_n 0, 1)), (1, (.iload_n 1, 1)), (2, (.invokevirtual 145, 3)), (5, (.ifCond .eq 7, 3)), (8, (.iconst (-1), 1)), (9, (.goto 18, 3)), (12, (.iload_n 2, 1)), (13, (.iconst 0, 1)), (14, (.iconst 1, 1)), (15, (.invokestatic 60, 3)), (18, (.ifCond .ne 8, 3)), (21, (.bipush (-2), 2)), (23, (.goto 4, 3)), (26, (.iconst 0, 1)), (27, (.ireturn, 1))] = true := by decide +kernel
def f_X10_telling (a0 : Nat) (x1 : Int32) (x2 : Int32) (h : gHp) : Option (Int32) := (f_X10_noPart a0 x1 h).bind fun v2 => if v2 = true then some (-1) else (f_X10_in x2 0 1 h).bind fun v4 => if v4 = true then some 0 else some (-2)
set_option maxRecDepth 20000 in
set_option maxHeartbeats 4000000 in
theorem m_X10_telling (w : gWd) (h : gHp) {a0 : Nat} (A0 : is_X10 w a0) (x1 : Int32) (x2 : Int32) {o : Int32} (hF : f_X10_telling a0 x1 x2 h = some o) : gMet w yX10_telling wsX10_telling rm_X10_telling [.ref a0, .int x1, .int x2] h (some (.int o)) h := by
  refine gMet_of (cc := cX10_telling) (maxL := 3) (ret := (some .int)) (fr := 2) (lo := 43) (own := RX10) [(0, .ref a0), (1, .int x1), (2, .int x2)] (by decide) rfl rfl (Nat.le_of_ble_eq_true rfl) rfl (Nat.le_refl _) (Nat.le_refl _) (fun g C E => ?_)
  rw [f_X10_telling] at hF
  refine gx_aload_n C 0 (gDec_at D_X10_telling 0 rfl) rfl rfl ?_
  refine gx_iload_n C 1 (gDec_at D_X10_telling 1 rfl) rfl rfl ?_
  obtain ⟨v2, hv1, hF⟩ := gBind hF
  refine gx_callV1 C (st := []) 1 [.int x1] (m_X10_noPart w h A0 x1 hv1) gX10_telling_X10_noPart rfl rfl rfl hy_X10_noPart (Nat.le_of_ble_eq_true rfl) (Nat.le_of_ble_eq_true rfl) (is_X10_sh A0) rfl rfl rfl (Nat.le_of_ble_eq_true rfl) (gDec_at D_X10_telling 2 rfl) ?_
  refine gx_ifz_eq C 12 (gDec_at D_X10_telling 3 rfl) (by decide) (fun c => ?_) (fun c => ?_)
  · replace hF := gNeg c hF
    refine gx_iload_n C 2 (gDec_at D_X10_telling 6 rfl) rfl rfl ?_
    refine gx_iconst C (v := 0) (gDec_at D_X10_telling 7 rfl) (by decide) ?_
    refine gx_iconst C (v := 1) (gDec_at D_X10_telling 8 rfl) (by decide) ?_
    obtain ⟨v4, hv3, hF⟩ := gBind hF
    refine gx_callS1 C (st := []) 3 [.int x2, .int 0, .int 1] (m_X10_in w h x2 0 1 hv3) gX10_telling_X10_in rfl rfl rfl hy_X10_in (Nat.le_of_ble_eq_true rfl) (Nat.le_of_ble_eq_true rfl) rfl rfl (Nat.le_of_ble_eq_true rfl) (gDec_at D_X10_telling 9 rfl) ?_
    refine gx_ifz_ne C 26 (gDec_at D_X10_telling 10 rfl) (by decide) (fun c => ?_) (fun c => ?_)
    · replace hF := gPos c hF
      refine gx_iconst C (v := 0) (gDec_at D_X10_telling 13 rfl) (by decide) ?_
      obtain rfl := Option.some.inj hF
      exact gx_iret C E (gDec_at D_X10_telling 14 rfl)
    · replace hF := gNeg c hF
      refine gx_bipush C (v := (-2)) (gDec_at D_X10_telling 11 rfl) (by decide) ?_
      refine gx_goto C 27 (gDec_at D_X10_telling 12 rfl) (by decide) ?_
      obtain rfl := Option.some.inj hF
      exact gx_iret C E (gDec_at D_X10_telling 14 rfl)
  · replace hF := gPos c hF
    refine gx_iconst C (v := (-1)) (gDec_at D_X10_telling 4 rfl) (by decide) ?_
    refine gx_goto C 27 (gDec_at D_X10_telling 5 rfl) (by decide) ?_
    obtain rfl := Option.some.inj hF
    exact gx_iret C E (gDec_at D_X10_telling 14 rfl)
/-! LadderBenchModel.resistance -/
def rm_X10_resistance : Room := { frames := 6, cells := 0, slots := 0, locals := 160 }
set_option maxRecDepth 20000 in
theorem ggX10_resistance_X10_lay : GoodIn wsX10_resistance wsX10_lay := goodIn_r _ [23, 1, 2, 16, 12, 13, 14, 6, 15, 24, 25, 26, 27, 28, 29, 30, 31, 32, 33, 34, 35, 36, 37, 38, 39, 40, 41, 42, 43, 44, 45, 46, 47, 48, 49, 50, 51, 52, 53, 54, 55, 56, 57, 58, 59, 60, 61, 62, 63, 64, 65, 66, 67, 68, 69, 70, 71, 72, 73, 74, 75, 76, 77, 78, 79, 80, 81, 82, 83, 84, 85, 86, 87, 88, 89, 90, 91, 92, 93] (by decide +kernel) (by decide +kernel)
set_option maxRecDepth 20000 in
theorem gX10_resistance_X10_lay : GoodIn wsX10_resistance (wsV RX10 209 RX10 yX10_lay wsX10_lay) := goodIn_app (goodIn_of _ (by decide +kernel)) ggX10_resistance_X10_lay
set_option maxRecDepth 20000 in
theorem ggX10_resistance_X10_telling : GoodIn wsX10_resistance wsX10_telling := goodIn_r _ [7, 8, 9, 10, 6, 11, 12, 13, 14, 15, 16, 17, 18, 19, 68, 69, 70, 71, 72, 73, 74, 75, 76, 77, 78, 79, 80, 81, 82, 83, 84, 85, 86, 87, 88, 89, 90, 91, 92, 93] (by decide +kernel) (by decide +kernel)
set_option maxRecDepth 20000 in
theorem gX10_resistance_X10_telling : GoodIn wsX10_resistance (wsV RX10 206 RX10 yX10_telling wsX10_telling) := goodIn_app (goodIn_of _ (by decide +kernel)) ggX10_resistance_X10_telling
theorem hy_X10_resistance : yX10_resistance.cls = RX10 ∧ yX10_resistance.cls ≠ "java/lang/invoke/MethodHandle" ∧ yX10_resistance.cls ≠ "java/lang/invoke/VarHandle" ∧ (parseMethodDescriptor yX10_resistance.desc).map (fun d => d.parameters.length) = some 2 := by decide +kernel
set_option maxRecDepth 100000 in
theorem D_X10_resistance : gDec cX10_resistance [(0, (.aload_n 0, 1)), (1, (.iload_n 1, 1)), (2, (.iload_n 2, 1)), (3, (.invokevirtual 206, 3)), (6, (.istore_n 3, 1)), (7, (.iload_n 3, 1)), (8, (.ifCond .eq 6, 3)), (11, (.iload_n 3, 1)), (12, (.i2l, 1)), (13, (.lreturn, 1)), (14, (.aload_n 0, 1)), (15, (.bipush (-4), 2)), (17, (.bipush (-4), 2)), (19, (.iconst 0, 1)), (20, (.invokevirtual 209, 3)), (23, (.iload_n 2, 1)), (24, (.ifCond .ne 12, 3)), (27, (.aload_n 0, 1)), (28, (.getfield 36, 3)), (31, (.iload_n 1, 1)), (32, (.laload, 1)), (33, (.goto 9, 3)), (36, (.aload_n 0, 1)), (37, (.getfield 39, 3)), (40, (.iload_n 1, 1)), (41, (.laload, 1)), (42, (.lreturn, 1))] = true := by decide +kernel
set_option maxRecDepth 100000 in
theorem in_X10_resistance_X10 : ∀ x ∈ u_ws RX10 TX10 26, x ∈ wsX10_resistance := by decide +kernel
theorem fl_X10_resistance_39 : gF wsX10_resistance RX10 39 10 20 := ⟨RX10, TX10, 26, rfl, by decide, in_X10_resistance_X10, by decide +kernel⟩
theorem fl_X10_resistance_36 : gF wsX10_resistance RX10 36 10 19 := ⟨RX10, TX10, 26, rfl, by decide, in_X10_resistance_X10, by decide +kernel⟩
def f_X10_resistance (a0 : Nat) (x1 : Int32) (x2 : Int32) (h : gHp) : Option (Int64 × gHp) := (f_X10_telling a0 x1 x2 h).bind fun v2 => if v2 = 0 then (f_X10_lay a0 (-4) (-4) 0 h).bind fun v4 => if x2 = 0 then if gIn x1 11 then some (v4.2 (a0 + 9) (gN x1), v4) else none else if gIn x1 11 then some (v4.2 (a0 + 10) (gN x1), v4) else none else some (v2.toInt64, h)
set_option maxRecDepth 20000 in
set_option maxHeartbeats 4000000 in
theorem m_X10_resistance (w : gWd) (h : gHp) {a0 : Nat} (A0 : is_X10 w a0) (x1 : Int32) (x2 : Int32) {o : Int64 × gHp} (hF : f_X10_resistance a0 x1 x2 h = some o) : gMet w yX10_resistance wsX10_resistance rm_X10_resistance [.ref a0, .int x1, .int x2] h (some (.long o.1)) o.2 := by
  refine gMet_of (cc := cX10_resistance) (maxL := 4) (ret := (some .long)) (fr := 6) (lo := 160) (own := RX10) [(0, .ref a0), (1, .int x1), (2, .int x2)] (by decide) rfl rfl (Nat.le_of_ble_eq_true rfl) rfl (Nat.le_refl _) (Nat.le_refl _) (fun g C E => ?_)
  rw [f_X10_resistance] at hF
  refine gx_aload_n C 0 (gDec_at D_X10_resistance 0 rfl) rfl rfl ?_
  refine gx_iload_n C 1 (gDec_at D_X10_resistance 1 rfl) rfl rfl ?_
  refine gx_iload_n C 2 (gDec_at D_X10_resistance 2 rfl) rfl rfl ?_
  obtain ⟨v2, hv1, hF⟩ := gBind hF
  refine gx_callV1 C (st := []) 2 [.int x1, .int x2] (m_X10_telling w h A0 x1 x2 hv1) gX10_resistance_X10_telling rfl rfl rfl hy_X10_telling (Nat.le_of_ble_eq_true rfl) (Nat.le_of_ble_eq_true rfl) (is_X10_sh A0) rfl rfl rfl (Nat.le_of_ble_eq_true rfl) (gDec_at D_X10_resistance 3 rfl) ?_
  refine gx_istore_n C (lv' := [(3, .int v2), (0, .ref a0), (1, .int x1), (2, .int x2)]) (gDec_at D_X10_resistance 4 rfl) rfl (Nat.le_of_ble_eq_true rfl) rfl ?_
  refine gx_iload_n C 0 (gDec_at D_X10_resistance 5 rfl) rfl rfl ?_
  refine gx_if_eq C 14 (gDec_at D_X10_resistance 6 rfl) (by decide) (fun c => ?_) (fun c => ?_)
  · replace hF := gPos c hF
    refine gx_aload_n C 1 (gDec_at D_X10_resistance 10 rfl) rfl rfl ?_
    refine gx_bipush C (v := (-4)) (gDec_at D_X10_resistance 11 rfl) (by decide) ?_
    refine gx_bipush C (v := (-4)) (gDec_at D_X10_resistance 12 rfl) (by decide) ?_
    refine gx_iconst C (v := 0) (gDec_at D_X10_resistance 13 rfl) (by decide) ?_
    obtain ⟨v4, hv3, hF⟩ := gBind hF
    refine gx_callV0 C (st := []) 3 [.int (-4), .int (-4), .int 0] (m_X10_lay w h A0 (-4) (-4) 0 hv3) gX10_resistance_X10_lay rfl rfl rfl hy_X10_lay (Nat.le_of_ble_eq_true rfl) (Nat.le_of_ble_eq_true rfl) (is_X10_sh A0) rfl rfl rfl (Nat.le_of_ble_eq_true rfl) (gDec_at D_X10_resistance 14 rfl) ?_
    refine gx_iload_n C 3 (gDec_at D_X10_resistance 15 rfl) rfl rfl ?_
    refine gx_if_ne C 36 (gDec_at D_X10_resistance 16 rfl) (by decide) (fun c => ?_) (fun c => ?_)
    · replace hF := gNeg c hF
      refine gx_aload_n C 1 (gDec_at D_X10_resistance 22 rfl) rfl rfl ?_
      refine gx_getr C fl_X10_resistance_39 (is_X10_sh A0) rfl (gDec_at D_X10_resistance 23 rfl) ?_
      refine gx_iload_n C 2 (gDec_at D_X10_resistance 24 rfl) rfl rfl ?_
      obtain ⟨b5, hF⟩ := gGd hF
      refine gx_laload C (is_X10_lower A0) b5 (gDec_at D_X10_resistance 25 rfl) ?_
      obtain rfl := Option.some.inj hF
      exact gx_lret C E (gDec_at D_X10_resistance 26 rfl)
    · replace hF := gPos c hF
      refine gx_aload_n C 1 (gDec_at D_X10_resistance 17 rfl) rfl rfl ?_
      refine gx_getr C fl_X10_resistance_36 (is_X10_sh A0) rfl (gDec_at D_X10_resistance 18 rfl) ?_
      refine gx_iload_n C 2 (gDec_at D_X10_resistance 19 rfl) rfl rfl ?_
      obtain ⟨b6, hF⟩ := gGd hF
      refine gx_laload C (is_X10_upper A0) b6 (gDec_at D_X10_resistance 20 rfl) ?_
      refine gx_goto C 42 (gDec_at D_X10_resistance 21 rfl) (by decide) ?_
      obtain rfl := Option.some.inj hF
      exact gx_lret C E (gDec_at D_X10_resistance 26 rfl)
  · replace hF := gNeg c hF
    refine gx_iload_n C 0 (gDec_at D_X10_resistance 7 rfl) rfl rfl ?_
    refine gx_i2l C (gDec_at D_X10_resistance 8 rfl) ?_
    obtain rfl := Option.some.inj hF
    exact gx_lret C E (gDec_at D_X10_resistance 9 rfl)
/-! LadderBenchModel.folded -/
def rm_X10_folded : Room := { frames := 6, cells := 0, slots := 0, locals := 160 }
set_option maxRecDepth 20000 in
theorem ggX10_folded_X10_isFolded : GoodIn wsX10_folded wsX10_isFolded := goodIn_r _ [24, 25, 26, 27, 7, 28, 17, 73, 74, 75, 76, 77, 78, 79, 80, 81, 82, 83, 84, 85, 86, 87, 88, 89, 90, 91, 92, 93, 94, 95, 96, 97, 98] (by decide +kernel) (by decide +kernel)
set_option maxRecDepth 20000 in
theorem gX10_folded_X10_isFolded : GoodIn wsX10_folded (wsV RX10 142 RX10 yX10_isFolded wsX10_isFolded) := goodIn_app (goodIn_of _ (by decide +kernel)) ggX10_folded_X10_isFolded
set_option maxRecDepth 20000 in
theorem ggX10_folded_X10_lay : GoodIn wsX10_folded wsX10_lay := goodIn_r _ [32, 2, 3, 17, 13, 14, 15, 7, 16, 25, 26, 27, 28, 33, 34, 35, 36, 37, 38, 39, 40, 41, 42, 43, 44, 45, 46, 47, 48, 49, 50, 51, 52, 53, 54, 55, 56, 57, 58, 59, 60, 61, 62, 63, 64, 65, 66, 67, 68, 69, 70, 71, 72, 73, 74, 75, 76, 77, 78, 79, 80, 81, 82, 83, 84, 85, 86, 87, 88, 89, 90, 91, 92, 93, 94, 95, 96, 97, 98] (by decide +kernel) (by decide +kernel)
set_option maxRecDepth 20000 in
theorem gX10_folded_X10_lay : GoodIn wsX10_folded (wsV RX10 209 RX10 yX10_lay wsX10_lay) := goodIn_app (goodIn_of _ (by decide +kernel)) ggX10_folded_X10_lay
set_option maxRecDepth 20000 in
theorem ggX10_folded_X10_telling : GoodIn wsX10_folded wsX10_telling := goodIn_r _ [8, 9, 10, 11, 7, 12, 13, 14, 15, 16, 17, 18, 19, 20, 73, 74, 75, 76, 77, 78, 79, 80, 81, 82, 83, 84, 85, 86, 87, 88, 89, 90, 91, 92, 93, 94, 95, 96, 97, 98] (by decide +kernel) (by decide +kernel)
set_option maxRecDepth 20000 in
theorem gX10_folded_X10_telling : GoodIn wsX10_folded (wsV RX10 206 RX10 yX10_telling wsX10_telling) := goodIn_app (goodIn_of _ (by decide +kernel)) ggX10_folded_X10_telling
theorem hy_X10_folded : yX10_folded.cls = RX10 ∧ yX10_folded.cls ≠ "java/lang/invoke/MethodHandle" ∧ yX10_folded.cls ≠ "java/lang/invoke/VarHandle" ∧ (parseMethodDescriptor yX10_folded.desc).map (fun d => d.parameters.length) = some 2 := by decide +kernel
set_option maxRecDepth 100000 in
theorem D_X10_folded : gDec cX10_folded [(0, (.aload_n 0, 1)), (1, (.iload_n 1, 1)), (2, (.iload_n 2, 1)), (3, (.invokevirtual 206, 3)), (6, (.istore_n 3, 1)), (7, (.iload_n 3, 1)), (8, (.ifCond .eq 6, 3)), (11, (.iload_n 3, 1)), (12, (.i2l, 1)), (13, (.lreturn, 1)), (14, (.aload_n 0, 1)), (15, (.iload_n 1, 1)), (16, (.invokevirtual 142, 3)), (19, (.ifCond .ne 7, 3)), (22, (.ldc2_w 212, 3)), (25, (.lreturn, 1)), (26, (.aload_n 0, 1)), (27, (.bipush (-4), 2)), (29, (.bipush (-4), 2)), (31, (.iconst 0, 1)), (32, (.invokevirtual 209, 3)), (35, (.iload_n 2, 1)), (36, (.ifCond .ne 12, 3)), (39, (.aload_n 0, 1)), (40, (.getfield 36, 3)), (43, (.iload_n 1, 1)), (44, (.laload, 1)), (45, (.goto 9, 3)), (48, (.aload_n 0, 1)), (49, (.getfield 39, 3)), (52, (.iload_n 1, 1)), (53, (.laload, 1)), (54, (.lreturn, 1))] = true := by decide +kernel
set_option maxRecDepth 100000 in
theorem in_X10_folded_X10 : ∀ x ∈ u_ws RX10 TX10 26, x ∈ wsX10_folded := by decide +kernel
theorem fl_X10_folded_39 : gF wsX10_folded RX10 39 10 20 := ⟨RX10, TX10, 26, rfl, by decide, in_X10_folded_X10, by decide +kernel⟩
theorem fl_X10_folded_36 : gF wsX10_folded RX10 36 10 19 := ⟨RX10, TX10, 26, rfl, by decide, in_X10_folded_X10, by decide +kernel⟩
theorem lc_X10_folded_212 : Jvm.Cond.constantLong RX10 212 (-4) ∈ wsX10_folded := by decide +kernel
def f_X10_folded (a0 : Nat) (x1 : Int32) (x2 : Int32) (h : gHp) : Option (Int64 × gHp) := (f_X10_telling a0 x1 x2 h).bind fun v2 => if v2 = 0 then (f_X10_isFolded a0 x1 h).bind fun v4 => if v4 = true then (f_X10_lay a0 (-4) (-4) 0 h).bind fun v6 => if x2 = 0 then if gIn x1 11 then some (v6.2 (a0 + 9) (gN x1), v6) else none else if gIn x1 11 then some (v6.2 (a0 + 10) (gN x1), v6) else none else some ((-4), h) else some (v2.toInt64, h)
set_option maxRecDepth 20000 in
set_option maxHeartbeats 4000000 in
theorem m_X10_folded (w : gWd) (h : gHp) {a0 : Nat} (A0 : is_X10 w a0) (x1 : Int32) (x2 : Int32) {o : Int64 × gHp} (hF : f_X10_folded a0 x1 x2 h = some o) : gMet w yX10_folded wsX10_folded rm_X10_folded [.ref a0, .int x1, .int x2] h (some (.long o.1)) o.2 := by
  refine gMet_of (cc := cX10_folded) (maxL := 4) (ret := (some .long)) (fr := 6) (lo := 160) (own := RX10) [(0, .ref a0), (1, .int x1), (2, .int x2)] (by decide) rfl rfl (Nat.le_of_ble_eq_true rfl) rfl (Nat.le_refl _) (Nat.le_refl _) (fun g C E => ?_)
  rw [f_X10_folded] at hF
  refine gx_aload_n C 0 (gDec_at D_X10_folded 0 rfl) rfl rfl ?_
  refine gx_iload_n C 1 (gDec_at D_X10_folded 1 rfl) rfl rfl ?_
  refine gx_iload_n C 2 (gDec_at D_X10_folded 2 rfl) rfl rfl ?_
  obtain ⟨v2, hv1, hF⟩ := gBind hF
  refine gx_callV1 C (st := []) 2 [.int x1, .int x2] (m_X10_telling w h A0 x1 x2 hv1) gX10_folded_X10_telling rfl rfl rfl hy_X10_telling (Nat.le_of_ble_eq_true rfl) (Nat.le_of_ble_eq_true rfl) (is_X10_sh A0) rfl rfl rfl (Nat.le_of_ble_eq_true rfl) (gDec_at D_X10_folded 3 rfl) ?_
  refine gx_istore_n C (lv' := [(3, .int v2), (0, .ref a0), (1, .int x1), (2, .int x2)]) (gDec_at D_X10_folded 4 rfl) rfl (Nat.le_of_ble_eq_true rfl) rfl ?_
  refine gx_iload_n C 0 (gDec_at D_X10_folded 5 rfl) rfl rfl ?_
  refine gx_if_eq C 14 (gDec_at D_X10_folded 6 rfl) (by decide) (fun c => ?_) (fun c => ?_)
  · replace hF := gPos c hF
    refine gx_aload_n C 1 (gDec_at D_X10_folded 10 rfl) rfl rfl ?_
    refine gx_iload_n C 2 (gDec_at D_X10_folded 11 rfl) rfl rfl ?_
    obtain ⟨v4, hv3, hF⟩ := gBind hF
    refine gx_callV1 C (st := []) 1 [.int x1] (m_X10_isFolded w h A0 x1 hv3) gX10_folded_X10_isFolded rfl rfl rfl hy_X10_isFolded (Nat.le_of_ble_eq_true rfl) (Nat.le_of_ble_eq_true rfl) (is_X10_sh A0) rfl rfl rfl (Nat.le_of_ble_eq_true rfl) (gDec_at D_X10_folded 12 rfl) ?_
    refine gx_ifz_ne C 26 (gDec_at D_X10_folded 13 rfl) (by decide) (fun c => ?_) (fun c => ?_)
    · replace hF := gPos c hF
      refine gx_aload_n C 1 (gDec_at D_X10_folded 16 rfl) rfl rfl ?_
      refine gx_bipush C (v := (-4)) (gDec_at D_X10_folded 17 rfl) (by decide) ?_
      refine gx_bipush C (v := (-4)) (gDec_at D_X10_folded 18 rfl) (by decide) ?_
      refine gx_iconst C (v := 0) (gDec_at D_X10_folded 19 rfl) (by decide) ?_
      obtain ⟨v6, hv5, hF⟩ := gBind hF
      refine gx_callV0 C (st := []) 3 [.int (-4), .int (-4), .int 0] (m_X10_lay w h A0 (-4) (-4) 0 hv5) gX10_folded_X10_lay rfl rfl rfl hy_X10_lay (Nat.le_of_ble_eq_true rfl) (Nat.le_of_ble_eq_true rfl) (is_X10_sh A0) rfl rfl rfl (Nat.le_of_ble_eq_true rfl) (gDec_at D_X10_folded 20 rfl) ?_
      refine gx_iload_n C 3 (gDec_at D_X10_folded 21 rfl) rfl rfl ?_
      refine gx_if_ne C 48 (gDec_at D_X10_folded 22 rfl) (by decide) (fun c => ?_) (fun c => ?_)
      · replace hF := gNeg c hF
        refine gx_aload_n C 1 (gDec_at D_X10_folded 28 rfl) rfl rfl ?_
        refine gx_getr C fl_X10_folded_39 (is_X10_sh A0) rfl (gDec_at D_X10_folded 29 rfl) ?_
        refine gx_iload_n C 2 (gDec_at D_X10_folded 30 rfl) rfl rfl ?_
        obtain ⟨b7, hF⟩ := gGd hF
        refine gx_laload C (is_X10_lower A0) b7 (gDec_at D_X10_folded 31 rfl) ?_
        obtain rfl := Option.some.inj hF
        exact gx_lret C E (gDec_at D_X10_folded 32 rfl)
      · replace hF := gPos c hF
        refine gx_aload_n C 1 (gDec_at D_X10_folded 23 rfl) rfl rfl ?_
        refine gx_getr C fl_X10_folded_36 (is_X10_sh A0) rfl (gDec_at D_X10_folded 24 rfl) ?_
        refine gx_iload_n C 2 (gDec_at D_X10_folded 25 rfl) rfl rfl ?_
        obtain ⟨b8, hF⟩ := gGd hF
        refine gx_laload C (is_X10_upper A0) b8 (gDec_at D_X10_folded 26 rfl) ?_
        refine gx_goto C 54 (gDec_at D_X10_folded 27 rfl) (by decide) ?_
        obtain rfl := Option.some.inj hF
        exact gx_lret C E (gDec_at D_X10_folded 32 rfl)
    · replace hF := gNeg c hF
      refine gx_ldc2 C (v := (-4)) lc_X10_folded_212 (gDec_at D_X10_folded 14 rfl) ?_
      obtain rfl := Option.some.inj hF
      exact gx_lret C E (gDec_at D_X10_folded 15 rfl)
  · replace hF := gNeg c hF
    refine gx_iload_n C 0 (gDec_at D_X10_folded 7 rfl) rfl rfl ?_
    refine gx_i2l C (gDec_at D_X10_folded 8 rfl) ?_
    obtain rfl := Option.some.inj hF
    exact gx_lret C E (gDec_at D_X10_folded 9 rfl)
/-! LadderBenchModel.infinite -/
def rm_X10_infinite : Room := { frames := 1, cells := 0, slots := 0, locals := 22 }
set_option maxRecDepth 20000 in
theorem ggX10_infinite_X10_ofPart : GoodIn wsX10_infinite wsX10_ofPart := goodIn_r _ [6, 7, 8, 9, 10, 11, 12, 13, 14, 15, 16, 17, 18, 19, 20, 21, 22, 23, 24, 25, 26, 27, 28, 29, 30, 31, 32, 33] (by decide +kernel) (by decide +kernel)
set_option maxRecDepth 20000 in
theorem gX10_infinite_X10_ofPart : GoodIn wsX10_infinite (wsV RX10 130 RX10 yX10_ofPart wsX10_ofPart) := goodIn_app (goodIn_of _ (by decide +kernel)) ggX10_infinite_X10_ofPart
theorem hy_X10_infinite : yX10_infinite.cls = RX10 ∧ yX10_infinite.cls ≠ "java/lang/invoke/MethodHandle" ∧ yX10_infinite.cls ≠ "java/lang/invoke/VarHandle" ∧ (parseMethodDescriptor yX10_infinite.desc).map (fun d => d.parameters.length) = some 1 := by decide +kernel
set_option maxRecDepth 100000 in
theorem D_X10_infinite : gDec cX10_infinite [(0, (.iconst 0, 1)), (1, (.istore_n 2, 1)), (2, (.iconst 0, 1)), (3, (.istore_n 3, 1)), (4, (.iload_n 3, 1)), (5, (.iload_n 1, 1)), (6, (.if_icmp .ge 38, 3)), (9, (.iload_n 2, 1)), (10, (.aload_n 0, 1)), (11, (.iload_n 3, 1)), (12, (.iconst 1, 1)), (13, (.invokevirtual 130, 3)), (16, (.iload_n 1, 1)), (17, (.if_icmp .ne 18, 3)), (20, (.aload_n 0, 1)), (21, (.getfield 39, 3)), (24, (.iload_n 3, 1)), (25, (.laload, 1)), (26, (.lconst 0, 1)), (27, (.lcmp, 1)), (28, (.ifCond .ne 7, 3)), (31, (.iconst 1, 1)), (32, (.goto 4, 3)), (35, (.iconst 0, 1)), (36, (.iadd, 1)), (37, (.istore_n 2, 1)), (38, (.iinc 3 1, 3)), (41, (.goto (-37), 3)), (44, (.iload_n 2, 1)), (45, (.ireturn, 1))] = true := by decide +kernel
set_option maxRecDepth 100000 in
theorem in_X10_infinite_X10 : ∀ x ∈ u_ws RX10 TX10 26, x ∈ wsX10_infinite := by decide +kernel
theorem fl_X10_infinite_39 : gF wsX10_infinite RX10 39 10 20 := ⟨RX10, TX10, 26, rfl, by decide, in_X10_infinite_X10, by decide +kernel⟩
def f_X10_infinite_4 (a0 : Nat) (x1 : Int32) (h : gHp) : Nat → Int32 → Int32 → Option (Int32)
  | 0, _, _ => none
  | n + 1, x2, x3 => if x1 ≤ x3 then some x2 else (f_X10_ofPart a0 x3 1 h).bind fun v2 => if v2 = x1 then if gIn x3 11 then if (h.2 (a0 + 10) (gN x3)) = 0 then f_X10_infinite_4 a0 x1 h n (x2 + 1) (x3 + 1) else f_X10_infinite_4 a0 x1 h n (x2 + 0) (x3 + 1) else none else f_X10_infinite_4 a0 x1 h n (x2 + 0) (x3 + 1)
set_option maxRecDepth 20000 in
set_option maxHeartbeats 4000000 in
theorem w_X10_infinite_4 {w : gWd} {g : gCx} (C : gC w g cX10_infinite wsX10_infinite RX10 4 1 22) {a0 : Nat} (A0 : is_X10 w a0) (x1 : Int32) (h : gHp)  {o : Int32} (hk : gX w g 4 h 44 [(2, .int o)] []) : ∀ (n : Nat) (x2 : Int32) (x3 : Int32), f_X10_infinite_4 a0 x1 h n x2 x3 = some o → gX w g 4 h 4 [(0, .ref a0), (1, .int x1), (2, .int x2), (3, .int x3)] [] := by
  intro n
  induction n with
  | zero => intro _ _ hF; cases hF
  | succ n ih =>
    intro x2 x3 hF
    rw [f_X10_infinite_4] at hF
    refine gx_iload_n C 3 (gDec_at D_X10_infinite 4 rfl) rfl rfl ?_
    refine gx_iload_n C 1 (gDec_at D_X10_infinite 5 rfl) rfl rfl ?_
    refine gx_icmp_ge C 44 (gDec_at D_X10_infinite 6 rfl) (by decide) (fun c => ?_) (fun c => ?_)
    · replace hF := gPos c hF
      obtain rfl := Option.some.inj hF
      exact gx_sub [2] rfl hk
    · replace hF := gNeg c hF
      refine gx_iload_n C 2 (gDec_at D_X10_infinite 7 rfl) rfl rfl ?_
      refine gx_aload_n C 0 (gDec_at D_X10_infinite 8 rfl) rfl rfl ?_
      refine gx_iload_n C 3 (gDec_at D_X10_infinite 9 rfl) rfl rfl ?_
      refine gx_iconst C (v := 1) (gDec_at D_X10_infinite 10 rfl) (by decide) ?_
      obtain ⟨v2, hv1, hF⟩ := gBind hF
      refine gx_callV1 C (st := .int x2 :: []) 2 [.int x3, .int 1] (m_X10_ofPart w h A0 x3 1 hv1) gX10_infinite_X10_ofPart rfl rfl rfl hy_X10_ofPart (Nat.le_of_ble_eq_true rfl) (Nat.le_of_ble_eq_true rfl) (is_X10_sh A0) rfl rfl rfl (Nat.le_of_ble_eq_true rfl) (gDec_at D_X10_infinite 11 rfl) ?_
      refine gx_iload_n C 1 (gDec_at D_X10_infinite 12 rfl) rfl rfl ?_
      refine gx_icmp_ne C 35 (gDec_at D_X10_infinite 13 rfl) (by decide) (fun c => ?_) (fun c => ?_)
      · replace hF := gNeg c hF
        refine gx_iconst C (v := 0) (gDec_at D_X10_infinite 23 rfl) (by decide) ?_
        refine gx_iadd C (gDec_at D_X10_infinite 24 rfl) ?_
        refine gx_istore_n C (lv' := [(2, .int (x2 + 0)), (0, .ref a0), (1, .int x1), (3, .int x3)]) (gDec_at D_X10_infinite 25 rfl) rfl (Nat.le_of_ble_eq_true rfl) rfl ?_
        refine gx_iinc C (j := 3) (v := x3 + 1) (lv' := [(3, .int (x3 + 1)), (2, .int (x2 + 0)), (0, .ref a0), (1, .int x1)]) (gDec_at D_X10_infinite 26 rfl) rfl (by rfl) (Nat.le_of_ble_eq_true rfl) rfl ?_
        refine gx_goto C 4 (gDec_at D_X10_infinite 27 rfl) (by decide) ?_
        exact gx_sub [2, 3, 1, 0] rfl (ih (x2 + 0) (x3 + 1) hF)
      · replace hF := gPos c hF
        refine gx_aload_n C 0 (gDec_at D_X10_infinite 14 rfl) rfl rfl ?_
        refine gx_getr C fl_X10_infinite_39 (is_X10_sh A0) rfl (gDec_at D_X10_infinite 15 rfl) ?_
        refine gx_iload_n C 3 (gDec_at D_X10_infinite 16 rfl) rfl rfl ?_
        obtain ⟨b3, hF⟩ := gGd hF
        refine gx_laload C (is_X10_lower A0) b3 (gDec_at D_X10_infinite 17 rfl) ?_
        refine gx_lconst C (v := 0) (gDec_at D_X10_infinite 18 rfl) (by decide) ?_
        refine gx_lcmp_ne C 35 (gDec_at D_X10_infinite 19 rfl) (gDec_at D_X10_infinite 20 rfl) (by decide) (fun c => ?_) (fun c => ?_)
        · replace hF := gNeg c hF
          refine gx_iconst C (v := 0) (gDec_at D_X10_infinite 23 rfl) (by decide) ?_
          refine gx_iadd C (gDec_at D_X10_infinite 24 rfl) ?_
          refine gx_istore_n C (lv' := [(2, .int (x2 + 0)), (0, .ref a0), (1, .int x1), (3, .int x3)]) (gDec_at D_X10_infinite 25 rfl) rfl (Nat.le_of_ble_eq_true rfl) rfl ?_
          refine gx_iinc C (j := 3) (v := x3 + 1) (lv' := [(3, .int (x3 + 1)), (2, .int (x2 + 0)), (0, .ref a0), (1, .int x1)]) (gDec_at D_X10_infinite 26 rfl) rfl (by rfl) (Nat.le_of_ble_eq_true rfl) rfl ?_
          refine gx_goto C 4 (gDec_at D_X10_infinite 27 rfl) (by decide) ?_
          exact gx_sub [2, 3, 1, 0] rfl (ih (x2 + 0) (x3 + 1) hF)
        · replace hF := gPos c hF
          refine gx_iconst C (v := 1) (gDec_at D_X10_infinite 21 rfl) (by decide) ?_
          refine gx_goto C 36 (gDec_at D_X10_infinite 22 rfl) (by decide) ?_
          refine gx_iadd C (gDec_at D_X10_infinite 24 rfl) ?_
          refine gx_istore_n C (lv' := [(2, .int (x2 + 1)), (0, .ref a0), (1, .int x1), (3, .int x3)]) (gDec_at D_X10_infinite 25 rfl) rfl (Nat.le_of_ble_eq_true rfl) rfl ?_
          refine gx_iinc C (j := 3) (v := x3 + 1) (lv' := [(3, .int (x3 + 1)), (2, .int (x2 + 1)), (0, .ref a0), (1, .int x1)]) (gDec_at D_X10_infinite 26 rfl) rfl (by rfl) (Nat.le_of_ble_eq_true rfl) rfl ?_
          refine gx_goto C 4 (gDec_at D_X10_infinite 27 rfl) (by decide) ?_
          exact gx_sub [2, 3, 1, 0] rfl (ih (x2 + 1) (x3 + 1) hF)
def f_X10_infinite (a0 : Nat) (x1 : Int32) (h : gHp) : Option (Int32) := (f_X10_infinite_4 a0 x1 h gFuel 0 0).bind fun v4 => some v4
set_option maxRecDepth 20000 in
set_option maxHeartbeats 4000000 in
theorem m_X10_infinite (w : gWd) (h : gHp) {a0 : Nat} (A0 : is_X10 w a0) (x1 : Int32) {o : Int32} (hF : f_X10_infinite a0 x1 h = some o) : gMet w yX10_infinite wsX10_infinite rm_X10_infinite [.ref a0, .int x1] h (some (.int o)) h := by
  refine gMet_of (cc := cX10_infinite) (maxL := 4) (ret := (some .int)) (fr := 1) (lo := 22) (own := RX10) [(0, .ref a0), (1, .int x1)] (by decide) rfl rfl (Nat.le_of_ble_eq_true rfl) rfl (Nat.le_refl _) (Nat.le_refl _) (fun g C E => ?_)
  rw [f_X10_infinite] at hF
  refine gx_iconst C (v := 0) (gDec_at D_X10_infinite 0 rfl) (by decide) ?_
  refine gx_istore_n C (lv' := [(2, .int 0), (0, .ref a0), (1, .int x1)]) (gDec_at D_X10_infinite 1 rfl) rfl (Nat.le_of_ble_eq_true rfl) rfl ?_
  refine gx_iconst C (v := 0) (gDec_at D_X10_infinite 2 rfl) (by decide) ?_
  refine gx_istore_n C (lv' := [(3, .int 0), (2, .int 0), (0, .ref a0), (1, .int x1)]) (gDec_at D_X10_infinite 3 rfl) rfl (Nat.le_of_ble_eq_true rfl) rfl ?_
  obtain ⟨v4, hv5, hF⟩ := gBind hF
  have k6 : gX w g 4 h 44 [(2, .int v4)] [] := by
    refine gx_iload_n C 0 (gDec_at D_X10_infinite 28 rfl) rfl rfl ?_
    obtain rfl := Option.some.inj hF
    exact gx_iret C E (gDec_at D_X10_infinite 29 rfl)
  exact gx_sub [2, 3, 1, 0] rfl (w_X10_infinite_4 C A0 x1 h k6 gFuel 0 0 hv5)
