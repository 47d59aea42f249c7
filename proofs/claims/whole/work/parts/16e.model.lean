/-! LadderBenchModel.takesBlank -/
def rm_X10_takesBlank : Room := { frames := 0, cells := 0, slots := 0, locals := 0 }
theorem hy_X10_takesBlank : yX10_takesBlank.cls = RX10 ∧ yX10_takesBlank.cls ≠ "java/lang/invoke/MethodHandle" ∧ yX10_takesBlank.cls ≠ "java/lang/invoke/VarHandle" ∧ (parseMethodDescriptor yX10_takesBlank.desc).map (fun d => d.parameters.length) = some 0 := by decide +kernel
set_option maxRecDepth 100000 in
theorem D_X10_takesBlank : gDec cX10_takesBlank [(0, (.aload_n 0, 1)), (1, (.getfield 85, 3)), (4, (.aload_n 0, 1)), (5, (.getfield 68, 3)), (8, (.if_icmp .ge 17, 3)), (11, (.aload_n 0, 1)), (12, (.getfield 19, 3)), (15, (.aload_n 0, 1)), (16, (.getfield 85, 3)), (19, (.caload, 1)), (20, (.bipush 32, 2)), (22, (.if_icmp .eq 5, 3)), (25, (.iconst 0, 1)), (26, (.ireturn, 1)), (27, (.aload_n 0, 1)), (28, (.dup, 1)), (29, (.getfield 85, 3)), (32, (.iconst 1, 1)), (33, (.iadd, 1)), (34, (.putfield 85, 3)), (37, (.iconst 1, 1)), (38, (.ireturn, 1))] = true := by decide +kernel
set_option maxRecDepth 100000 in
theorem in_X10_takesBlank_X10 : ∀ x ∈ u_ws RX10 TX10 26, x ∈ wsX10_takesBlank := by decide +kernel
theorem fl_X10_takesBlank_85 : gF wsX10_takesBlank RX10 85 10 7 := ⟨RX10, TX10, 26, rfl, by decide, in_X10_takesBlank_X10, by decide +kernel⟩
theorem fl_X10_takesBlank_68 : gF wsX10_takesBlank RX10 68 10 5 := ⟨RX10, TX10, 26, rfl, by decide, in_X10_takesBlank_X10, by decide +kernel⟩
theorem fl_X10_takesBlank_19 : gF wsX10_takesBlank RX10 19 10 6 := ⟨RX10, TX10, 26, rfl, by decide, in_X10_takesBlank_X10, by decide +kernel⟩
theorem flw_X10_takesBlank_85 : gFw wsX10_takesBlank RX10 85 10 7 .int := ⟨RX10, TX10, 26, tyX10, rfl, by decide, in_X10_takesBlank_X10, by decide +kernel, tyX10_ok, nmX10, rfl, by decide +kernel⟩
def f_X10_takesBlank (a0 : Nat) (h : gHp) : Option (Bool × gHp) := if (h.1 a0 5) ≤ (h.1 a0 7) then some (false, h) else if gIn (h.1 a0 7) 40 then if (h.1 (a0 + 4) (gN (h.1 a0 7))) = 32 then some (true, gsI h a0 7 ((h.1 a0 7) + 1)) else some (false, h) else none
set_option maxRecDepth 20000 in
set_option maxHeartbeats 4000000 in
theorem m_X10_takesBlank (w : gWd) (h : gHp) {a0 : Nat} (A0 : is_X10 w a0) {o : Bool × gHp} (hF : f_X10_takesBlank a0 h = some o) : gMet w yX10_takesBlank wsX10_takesBlank rm_X10_takesBlank [.ref a0] h (some (.int (gZ o.1))) o.2 := by
  refine gMet_of (cc := cX10_takesBlank) (maxL := 1) (ret := (some .boolean)) (fr := 0) (lo := 0) (own := RX10) [(0, .ref a0)] (by decide) rfl rfl (Nat.le_of_ble_eq_true rfl) rfl (Nat.le_refl _) (Nat.le_refl _) (fun g C E => ?_)
  rw [f_X10_takesBlank] at hF
  refine gx_aload_n C 0 (gDec_at D_X10_takesBlank 0 rfl) rfl rfl ?_
  refine gx_geti C fl_X10_takesBlank_85 (is_X10_sh A0) rfl (gDec_at D_X10_takesBlank 1 rfl) ?_
  refine gx_aload_n C 0 (gDec_at D_X10_takesBlank 2 rfl) rfl rfl ?_
  refine gx_geti C fl_X10_takesBlank_68 (is_X10_sh A0) rfl (gDec_at D_X10_takesBlank 3 rfl) ?_
  refine gx_icmp_ge C 25 (gDec_at D_X10_takesBlank 4 rfl) (by decide) (fun c => ?_) (fun c => ?_)
  · replace hF := gPos c hF
    refine gx_iconst C (v := 0) (gDec_at D_X10_takesBlank 12 rfl) (by decide) ?_
    obtain rfl := Option.some.inj hF
    exact gx_zret (b := false) C E (gDec_at D_X10_takesBlank 13 rfl)
  · replace hF := gNeg c hF
    refine gx_aload_n C 0 (gDec_at D_X10_takesBlank 5 rfl) rfl rfl ?_
    refine gx_getr C fl_X10_takesBlank_19 (is_X10_sh A0) rfl (gDec_at D_X10_takesBlank 6 rfl) ?_
    refine gx_aload_n C 0 (gDec_at D_X10_takesBlank 7 rfl) rfl rfl ?_
    refine gx_geti C fl_X10_takesBlank_85 (is_X10_sh A0) rfl (gDec_at D_X10_takesBlank 8 rfl) ?_
    obtain ⟨b1, hF⟩ := gGd hF
    refine gx_caload C (is_X10_text A0) b1 (gDec_at D_X10_takesBlank 9 rfl) ?_
    refine gx_bipush C (v := 32) (gDec_at D_X10_takesBlank 10 rfl) (by decide) ?_
    refine gx_icmp_eq C 27 (gDec_at D_X10_takesBlank 11 rfl) (by decide) (fun c => ?_) (fun c => ?_)
    · replace hF := gPos c hF
      refine gx_aload_n C 0 (gDec_at D_X10_takesBlank 14 rfl) rfl rfl ?_
      refine gx_dup C (gDec_at D_X10_takesBlank 15 rfl) rfl ?_
      refine gx_geti C fl_X10_takesBlank_85 (is_X10_sh A0) rfl (gDec_at D_X10_takesBlank 16 rfl) ?_
      refine gx_iconst C (v := 1) (gDec_at D_X10_takesBlank 17 rfl) (by decide) ?_
      refine gx_iadd C (gDec_at D_X10_takesBlank 18 rfl) ?_
      refine gx_putI C flw_X10_takesBlank_85 (is_X10_sh A0) rfl rfl rfl (gDec_at D_X10_takesBlank 19 rfl) ?_
      refine gx_iconst C (v := 1) (gDec_at D_X10_takesBlank 20 rfl) (by decide) ?_
      obtain rfl := Option.some.inj hF
      exact gx_zret (b := true) C E (gDec_at D_X10_takesBlank 21 rfl)
    · replace hF := gNeg c hF
      refine gx_iconst C (v := 0) (gDec_at D_X10_takesBlank 12 rfl) (by decide) ?_
      obtain rfl := Option.some.inj hF
      exact gx_zret (b := false) C E (gDec_at D_X10_takesBlank 13 rfl)
/-! LadderBenchModel.readsCommand -/
def rm_X10_readsCommand : Room := { frames := 2, cells := 0, slots := 0, locals := 47 }
set_option maxRecDepth 20000 in
theorem ggX10_readsCommand_X10_end : GoodIn wsX10_readsCommand wsX10_end := goodIn_r _ [11, 1, 6, 3, 31, 32, 33, 34, 35, 36, 37, 38, 39, 40, 41, 42, 43, 44, 45, 46, 47, 48, 49, 50, 51, 52, 53, 54, 55, 56] (by decide +kernel) (by decide +kernel)
set_option maxRecDepth 20000 in
theorem gX10_readsCommand_X10_end : GoodIn wsX10_readsCommand (wsV RX10 108 RX10 yX10_end wsX10_end) := goodIn_app (goodIn_of _ (by decide +kernel)) ggX10_readsCommand_X10_end
set_option maxRecDepth 20000 in
theorem ggX10_readsCommand_X10_in : GoodIn wsX10_readsCommand wsX10_in := goodIn_r _ [26] (by decide +kernel) (by decide +kernel)
set_option maxRecDepth 20000 in
theorem gX10_readsCommand_X10_in : GoodIn wsX10_readsCommand (va_wsS RX10 60 yX10_in wsX10_in) := goodIn_app (goodIn_of _ (by decide +kernel)) ggX10_readsCommand_X10_in
set_option maxRecDepth 20000 in
theorem ggX10_readsCommand_X10_number : GoodIn wsX10_readsCommand wsX10_number := goodIn_r _ [30, 1, 3, 24, 25, 10, 26, 31, 32, 33, 34, 35, 36, 37, 38, 39, 40, 41, 42, 43, 44, 45, 46, 47, 48, 49, 50, 51, 52, 53, 54, 55, 56] (by decide +kernel) (by decide +kernel)
set_option maxRecDepth 20000 in
theorem gX10_readsCommand_X10_number : GoodIn wsX10_readsCommand (wsV RX10 124 RX10 yX10_number wsX10_number) := goodIn_app (goodIn_of _ (by decide +kernel)) ggX10_readsCommand_X10_number
set_option maxRecDepth 20000 in
theorem ggX10_readsCommand_X10_takesBlank : GoodIn wsX10_readsCommand wsX10_takesBlank := goodIn_r _ [23, 1, 6, 3, 31, 32, 33, 34, 35, 36, 37, 38, 39, 40, 41, 42, 43, 44, 45, 46, 47, 48, 49, 50, 51, 52, 53, 54, 55, 56] (by decide +kernel) (by decide +kernel)
set_option maxRecDepth 20000 in
theorem gX10_readsCommand_X10_takesBlank : GoodIn wsX10_readsCommand (wsV RX10 118 RX10 yX10_takesBlank wsX10_takesBlank) := goodIn_app (goodIn_of _ (by decide +kernel)) ggX10_readsCommand_X10_takesBlank
set_option maxRecDepth 20000 in
theorem ggX10_readsCommand_X10_word : GoodIn wsX10_readsCommand wsX10_word := goodIn_r _ [15, 1, 3, 16, 17, 18, 10, 19, 31, 32, 33, 34, 35, 36, 37, 38, 39, 40, 41, 42, 43, 44, 45, 46, 47, 48, 49, 50, 51, 52, 53, 54, 55, 56] (by decide +kernel) (by decide +kernel)
set_option maxRecDepth 20000 in
theorem gX10_readsCommand_X10_word : GoodIn wsX10_readsCommand (wsV RX10 111 RX10 yX10_word wsX10_word) := goodIn_app (goodIn_of _ (by decide +kernel)) ggX10_readsCommand_X10_word
theorem hy_X10_readsCommand : yX10_readsCommand.cls = RX10 ∧ yX10_readsCommand.cls ≠ "java/lang/invoke/MethodHandle" ∧ yX10_readsCommand.cls ≠ "java/lang/invoke/VarHandle" ∧ (parseMethodDescriptor yX10_readsCommand.desc).map (fun d => d.parameters.length) = some 0 := by decide +kernel
set_option maxRecDepth 100000 in
theorem D_X10_readsCommand : gDec cX10_readsCommand [(0, (.aload_n 0, 1)), (1, (.iconst 0, 1)), (2, (.putfield 85, 3)), (5, (.aload_n 0, 1)), (6, (.invokevirtual 108, 3)), (9, (.istore_n 1, 1)), (10, (.aload_n 0, 1)), (11, (.aload_n 0, 1)), (12, (.iload_n 1, 1)), (13, (.invokevirtual 111, 3)), (16, (.putfield 115, 3)), (19, (.aload_n 0, 1)), (20, (.getfield 115, 3)), (23, (.bipush (-4), 2)), (25, (.if_icmp .ne 5, 3)), (28, (.iconst 0, 1)), (29, (.ireturn, 1)), (30, (.aload_n 0, 1)), (31, (.iload_n 1, 1)), (32, (.putfield 85, 3)), (35, (.aload_n 0, 1)), (36, (.invokevirtual 118, 3)), (39, (.ifCond .ne 5, 3)), (42, (.iconst 0, 1)), (43, (.ireturn, 1)), (44, (.aload_n 0, 1)), (45, (.getfield 115, 3)), (48, (.iconst 4, 1)), (49, (.if_icmp .ge 76, 3)), (52, (.aload_n 0, 1)), (53, (.invokevirtual 108, 3)), (56, (.istore_n 1, 1)), (57, (.iload_n 1, 1)), (58, (.aload_n 0, 1)), (59, (.getfield 85, 3)), (62, (.isub, 1)), (63, (.iconst 1, 1)), (64, (.if_icmp .ne 22, 3)), (67, (.aload_n 0, 1)), (68, (.getfield 19, 3)), (71, (.aload_n 0, 1)), (72, (.getfield 85, 3)), (75, (.caload, 1)), (76, (.bipush 97, 2)), (78, (.bipush 102, 2)), (80, (.invokestatic 60, 3)), (83, (.ifCond .ne 5, 3)), (86, (.iconst 0, 1)), (87, (.ireturn, 1)), (88, (.aload_n 0, 1)), (89, (.aload_n 0, 1)), (90, (.getfield 19, 3)), (93, (.aload_n 0, 1)), (94, (.getfield 85, 3)), (97, (.caload, 1)), (98, (.bipush 97, 2)), (100, (.isub, 1)), (101, (.putfield 121, 3)), (104, (.aload_n 0, 1)), (105, (.iload_n 1, 1)), (106, (.putfield 85, 3)), (109, (.aload_n 0, 1)), (110, (.getfield 115, 3)), (113, (.ifCond .ne 12, 3)), (116, (.aload_n 0, 1)), (117, (.invokevirtual 118, 3)), (120, (.ifCond .ne 5, 3)), (123, (.iconst 0, 1)), (124, (.ireturn, 1)), (125, (.aload_n 0, 1)), (126, (.getfield 115, 3)), (129, (.ifCond .eq 11, 3)), (132, (.aload_n 0, 1)), (133, (.getfield 115, 3)), (136, (.iconst 3, 1)), (137, (.if_icmp .le 49, 3)), (140, (.aload_n 0, 1)), (141, (.invokevirtual 108, 3)), (144, (.istore_n 1, 1)), (145, (.aload_n 0, 1)), (146, (.aload_n 0, 1)), (147, (.iload_n 1, 1)), (148, (.aload_n 0, 1)), (149, (.getfield 115, 3)), (152, (.iconst 5, 1)), (153, (.if_icmp .ne 9, 3)), (156, (.sipush 999, 3)), (159, (.goto 5, 3)), (162, (.bipush 99, 2)), (164, (.invokevirtual 124, 3)), (167, (.putfield 127, 3)), (170, (.aload_n 0, 1)), (171, (.getfield 127, 3)), (174, (.bipush (-4), 2)), (176, (.if_icmp .ne 5, 3)), (179, (.iconst 0, 1)), (180, (.ireturn, 1)), (181, (.aload_n 0, 1)), (182, (.iload_n 1, 1)), (183, (.putfield 85, 3)), (186, (.aload_n 0, 1)), (187, (.getfield 85, 3)), (190, (.aload_n 0, 1)), (191, (.getfield 68, 3)), (194, (.if_icmp .ne 7, 3)), (197, (.iconst 1, 1)), (198, (.goto 4, 3)), (201, (.iconst 0, 1)), (202, (.ireturn, 1))] = true := by decide +kernel
set_option maxRecDepth 100000 in
theorem in_X10_readsCommand_X10 : ∀ x ∈ u_ws RX10 TX10 26, x ∈ wsX10_readsCommand := by decide +kernel
theorem flw_X10_readsCommand_85 : gFw wsX10_readsCommand RX10 85 10 7 .int := ⟨RX10, TX10, 26, tyX10, rfl, by decide, in_X10_readsCommand_X10, by decide +kernel, tyX10_ok, nmX10, rfl, by decide +kernel⟩
theorem flw_X10_readsCommand_115 : gFw wsX10_readsCommand RX10 115 10 14 .int := ⟨RX10, TX10, 26, tyX10, rfl, by decide, in_X10_readsCommand_X10, by decide +kernel, tyX10_ok, nmX10, rfl, by decide +kernel⟩
theorem fl_X10_readsCommand_115 : gF wsX10_readsCommand RX10 115 10 14 := ⟨RX10, TX10, 26, rfl, by decide, in_X10_readsCommand_X10, by decide +kernel⟩
theorem flw_X10_readsCommand_127 : gFw wsX10_readsCommand RX10 127 10 16 .int := ⟨RX10, TX10, 26, tyX10, rfl, by decide, in_X10_readsCommand_X10, by decide +kernel, tyX10_ok, nmX10, rfl, by decide +kernel⟩
theorem fl_X10_readsCommand_127 : gF wsX10_readsCommand RX10 127 10 16 := ⟨RX10, TX10, 26, rfl, by decide, in_X10_readsCommand_X10, by decide +kernel⟩
theorem fl_X10_readsCommand_85 : gF wsX10_readsCommand RX10 85 10 7 := ⟨RX10, TX10, 26, rfl, by decide, in_X10_readsCommand_X10, by decide +kernel⟩
theorem fl_X10_readsCommand_68 : gF wsX10_readsCommand RX10 68 10 5 := ⟨RX10, TX10, 26, rfl, by decide, in_X10_readsCommand_X10, by decide +kernel⟩
theorem fl_X10_readsCommand_19 : gF wsX10_readsCommand RX10 19 10 6 := ⟨RX10, TX10, 26, rfl, by decide, in_X10_readsCommand_X10, by decide +kernel⟩
theorem flw_X10_readsCommand_121 : gFw wsX10_readsCommand RX10 121 10 15 .int := ⟨RX10, TX10, 26, tyX10, rfl, by decide, in_X10_readsCommand_X10, by decide +kernel, tyX10_ok, nmX10, rfl, by decide +kernel⟩
def f_X10_readsCommand_186 (a0 : Nat) (h : gHp) : Option (Bool × gHp) := if (h.1 a0 7) = (h.1 a0 5) then some (true, h) else some (false, h)
set_option maxRecDepth 20000 in
set_option maxHeartbeats 4000000 in
theorem w_X10_readsCommand_186 {w : gWd} {g : gCx} (C : gC w g cX10_readsCommand wsX10_readsCommand RX10 2 2 47) {a0 : Nat} (A0 : is_X10 w a0) (h : gHp)  {o : Bool × gHp}  (E : gEn w g (some .boolean) (some (.int (gZ o.1))) o.2) (hF : f_X10_readsCommand_186 a0 h = some o) : gX w g 2 h 186 [(0, .ref a0)] ([]) := by
  rw [f_X10_readsCommand_186] at hF
  refine gx_aload_n C 0 (gDec_at D_X10_readsCommand 100 rfl) rfl rfl ?_
  refine gx_geti C fl_X10_readsCommand_85 (is_X10_sh A0) rfl (gDec_at D_X10_readsCommand 101 rfl) ?_
  refine gx_aload_n C 0 (gDec_at D_X10_readsCommand 102 rfl) rfl rfl ?_
  refine gx_geti C fl_X10_readsCommand_68 (is_X10_sh A0) rfl (gDec_at D_X10_readsCommand 103 rfl) ?_
  refine gx_icmp_ne C 201 (gDec_at D_X10_readsCommand 104 rfl) (by decide) (fun c => ?_) (fun c => ?_)
  · replace hF := gNeg c hF
    refine gx_iconst C (v := 0) (gDec_at D_X10_readsCommand 107 rfl) (by decide) ?_
    obtain rfl := Option.some.inj hF
    exact gx_zret (b := false) C E (gDec_at D_X10_readsCommand 108 rfl)
  · replace hF := gPos c hF
    refine gx_iconst C (v := 1) (gDec_at D_X10_readsCommand 105 rfl) (by decide) ?_
    refine gx_goto C 202 (gDec_at D_X10_readsCommand 106 rfl) (by decide) ?_
    obtain rfl := Option.some.inj hF
    exact gx_zret (b := true) C E (gDec_at D_X10_readsCommand 108 rfl)
def f_X10_readsCommand_140 (a0 : Nat) (h : gHp) : Option (Bool × gHp) := (f_X10_end a0 h).bind fun v8 => (if (h.1 a0 14) = 5 then some 999 else some 99 : Option (Int32)).bind fun v9 => (f_X10_number a0 v8 v9 h).bind fun v13 => if ((gsI h a0 16 v13).1 a0 16) = (-4) then some (false, gsI h a0 16 v13) else f_X10_readsCommand_186 a0 (gsI (gsI h a0 16 v13) a0 7 v8)
set_option maxRecDepth 20000 in
set_option maxHeartbeats 4000000 in
theorem w_X10_readsCommand_140 {w : gWd} {g : gCx} (C : gC w g cX10_readsCommand wsX10_readsCommand RX10 2 2 47) {a0 : Nat} (A0 : is_X10 w a0) (h : gHp)  {o : Bool × gHp}  (E : gEn w g (some .boolean) (some (.int (gZ o.1))) o.2) (hF : f_X10_readsCommand_140 a0 h = some o) : gX w g 2 h 140 [(0, .ref a0)] ([]) := by
  rw [f_X10_readsCommand_140] at hF
  refine gx_aload_n C 0 (gDec_at D_X10_readsCommand 76 rfl) rfl rfl ?_
  obtain ⟨v8, hv7, hF⟩ := gBind hF
  refine gx_callV1 C (st := []) 0 [] (m_X10_end w h A0 hv7) gX10_readsCommand_X10_end rfl rfl rfl hy_X10_end (Nat.le_of_ble_eq_true rfl) (Nat.le_of_ble_eq_true rfl) (is_X10_sh A0) rfl rfl rfl (Nat.le_of_ble_eq_true rfl) (gDec_at D_X10_readsCommand 77 rfl) ?_
  refine gx_istore_n C (lv' := [(1, .int v8), (0, .ref a0)]) (gDec_at D_X10_readsCommand 78 rfl) rfl (Nat.le_of_ble_eq_true rfl) rfl ?_
  refine gx_aload_n C 1 (gDec_at D_X10_readsCommand 79 rfl) rfl rfl ?_
  refine gx_aload_n C 1 (gDec_at D_X10_readsCommand 80 rfl) rfl rfl ?_
  refine gx_iload_n C 0 (gDec_at D_X10_readsCommand 81 rfl) rfl rfl ?_
  refine gx_aload_n C 1 (gDec_at D_X10_readsCommand 82 rfl) rfl rfl ?_
  refine gx_geti C fl_X10_readsCommand_115 (is_X10_sh A0) rfl (gDec_at D_X10_readsCommand 83 rfl) ?_
  refine gx_iconst C (v := 5) (gDec_at D_X10_readsCommand 84 rfl) (by decide) ?_
  obtain ⟨v9, hv10, hF⟩ := gBind hF
  have k11 : gX w g 2 h 164 [(0, .ref a0), (1, .int v8)] (.int v9 :: .int v8 :: .ref a0 :: .ref a0 :: []) := by
    obtain ⟨v13, hv12, hF⟩ := gBind hF
    refine gx_callV1 C (st := .ref a0 :: []) 2 [.int v8, .int v9] (m_X10_number w h A0 v8 v9 hv12) gX10_readsCommand_X10_number rfl rfl rfl hy_X10_number (Nat.le_of_ble_eq_true rfl) (Nat.le_of_ble_eq_true rfl) (is_X10_sh A0) rfl rfl rfl (Nat.le_of_ble_eq_true rfl) (gDec_at D_X10_readsCommand 89 rfl) ?_
    refine gx_putI C flw_X10_readsCommand_127 (is_X10_sh A0) rfl rfl rfl (gDec_at D_X10_readsCommand 90 rfl) ?_
    refine gx_aload_n C 0 (gDec_at D_X10_readsCommand 91 rfl) rfl rfl ?_
    refine gx_geti C fl_X10_readsCommand_127 (is_X10_sh A0) rfl (gDec_at D_X10_readsCommand 92 rfl) ?_
    refine gx_bipush C (v := (-4)) (gDec_at D_X10_readsCommand 93 rfl) (by decide) ?_
    refine gx_icmp_ne C 181 (gDec_at D_X10_readsCommand 94 rfl) (by decide) (fun c => ?_) (fun c => ?_)
    · replace hF := gNeg c hF
      refine gx_aload_n C 0 (gDec_at D_X10_readsCommand 97 rfl) rfl rfl ?_
      refine gx_iload_n C 1 (gDec_at D_X10_readsCommand 98 rfl) rfl rfl ?_
      refine gx_putI C flw_X10_readsCommand_85 (is_X10_sh A0) rfl rfl rfl (gDec_at D_X10_readsCommand 99 rfl) ?_
      exact gx_sub [0] rfl (w_X10_readsCommand_186 C A0 (gsI (gsI h a0 16 v13) a0 7 v8)   E hF)
    · replace hF := gPos c hF
      refine gx_iconst C (v := 0) (gDec_at D_X10_readsCommand 95 rfl) (by decide) ?_
      obtain rfl := Option.some.inj hF
      exact gx_zret (b := false) C E (gDec_at D_X10_readsCommand 96 rfl)
  replace hF := hv10
  refine gx_icmp_ne C 162 (gDec_at D_X10_readsCommand 85 rfl) (by decide) (fun c => ?_) (fun c => ?_)
  · replace hF := gNeg c hF
    refine gx_bipush C (v := 99) (gDec_at D_X10_readsCommand 88 rfl) (by decide) ?_
    obtain rfl := Option.some.inj hF
    exact gx_sub [1, 0] rfl k11
  · replace hF := gPos c hF
    refine gx_sipush C (v := 999) (gDec_at D_X10_readsCommand 86 rfl) (by decide) ?_
    refine gx_goto C 164 (gDec_at D_X10_readsCommand 87 rfl) (by decide) ?_
    obtain rfl := Option.some.inj hF
    exact gx_sub [1, 0] rfl k11
def f_X10_readsCommand_125 (a0 : Nat) (h : gHp) : Option (Bool × gHp) := if (h.1 a0 14) = 0 then f_X10_readsCommand_140 a0 h else if (h.1 a0 14) ≤ 3 then f_X10_readsCommand_186 a0 h else f_X10_readsCommand_140 a0 h
set_option maxRecDepth 20000 in
set_option maxHeartbeats 4000000 in
theorem w_X10_readsCommand_125 {w : gWd} {g : gCx} (C : gC w g cX10_readsCommand wsX10_readsCommand RX10 2 2 47) {a0 : Nat} (A0 : is_X10 w a0) (h : gHp)  {o : Bool × gHp}  (E : gEn w g (some .boolean) (some (.int (gZ o.1))) o.2) (hF : f_X10_readsCommand_125 a0 h = some o) : gX w g 2 h 125 [(0, .ref a0)] ([]) := by
  rw [f_X10_readsCommand_125] at hF
  refine gx_aload_n C 0 (gDec_at D_X10_readsCommand 69 rfl) rfl rfl ?_
  refine gx_geti C fl_X10_readsCommand_115 (is_X10_sh A0) rfl (gDec_at D_X10_readsCommand 70 rfl) ?_
  refine gx_if_eq C 140 (gDec_at D_X10_readsCommand 71 rfl) (by decide) (fun c => ?_) (fun c => ?_)
  · replace hF := gPos c hF
    exact gx_sub [0] rfl (w_X10_readsCommand_140 C A0 h   E hF)
  · replace hF := gNeg c hF
    refine gx_aload_n C 0 (gDec_at D_X10_readsCommand 72 rfl) rfl rfl ?_
    refine gx_geti C fl_X10_readsCommand_115 (is_X10_sh A0) rfl (gDec_at D_X10_readsCommand 73 rfl) ?_
    refine gx_iconst C (v := 3) (gDec_at D_X10_readsCommand 74 rfl) (by decide) ?_
    refine gx_icmp_le C 186 (gDec_at D_X10_readsCommand 75 rfl) (by decide) (fun c => ?_) (fun c => ?_)
    · replace hF := gPos c hF
      exact gx_sub [0] rfl (w_X10_readsCommand_186 C A0 h   E hF)
    · replace hF := gNeg c hF
      exact gx_sub [0] rfl (w_X10_readsCommand_140 C A0 h   E hF)
def f_X10_readsCommand (a0 : Nat) (h : gHp) : Option (Bool × gHp) := (f_X10_end a0 (gsI h a0 7 0)).bind fun v2 => (f_X10_word a0 v2 (gsI h a0 7 0)).bind fun v4 => if ((gsI (gsI h a0 7 0) a0 14 v4).1 a0 14) = (-4) then some (false, gsI (gsI h a0 7 0) a0 14 v4) else (f_X10_takesBlank a0 (gsI (gsI (gsI h a0 7 0) a0 14 v4) a0 7 v2)).bind fun v6 => if v6.1 = true then if 4 ≤ (v6.2.1 a0 14) then f_X10_readsCommand_125 a0 v6.2 else (f_X10_end a0 v6.2).bind fun v15 => if (v15 - (v6.2.1 a0 7)) = 1 then if gIn (v6.2.1 a0 7) 40 then (f_X10_in (v6.2.1 (a0 + 4) (gN (v6.2.1 a0 7))) 97 102 v6.2).bind fun v18 => if v18 = true then if gIn (v6.2.1 a0 7) 40 then if ((gsI (gsI v6.2 a0 15 ((v6.2.1 (a0 + 4) (gN (v6.2.1 a0 7))) - 97)) a0 7 v15).1 a0 14) = 0 then (f_X10_takesBlank a0 (gsI (gsI v6.2 a0 15 ((v6.2.1 (a0 + 4) (gN (v6.2.1 a0 7))) - 97)) a0 7 v15)).bind fun v21 => if v21.1 = true then f_X10_readsCommand_125 a0 v21.2 else some (false, v21.2) else f_X10_readsCommand_125 a0 (gsI (gsI v6.2 a0 15 ((v6.2.1 (a0 + 4) (gN (v6.2.1 a0 7))) - 97)) a0 7 v15) else none else some (false, v6.2) else none else some (false, v6.2) else some (false, v6.2)
set_option maxRecDepth 20000 in
set_option maxHeartbeats 4000000 in
theorem m_X10_readsCommand (w : gWd) (h : gHp) {a0 : Nat} (A0 : is_X10 w a0) {o : Bool × gHp} (hF : f_X10_readsCommand a0 h = some o) : gMet w yX10_readsCommand wsX10_readsCommand rm_X10_readsCommand [.ref a0] h (some (.int (gZ o.1))) o.2 := by
  refine gMet_of (cc := cX10_readsCommand) (maxL := 2) (ret := (some .boolean)) (fr := 2) (lo := 47) (own := RX10) [(0, .ref a0)] (by decide) rfl rfl (Nat.le_of_ble_eq_true rfl) rfl (Nat.le_refl _) (Nat.le_refl _) (fun g C E => ?_)
  rw [f_X10_readsCommand] at hF
  refine gx_aload_n C 0 (gDec_at D_X10_readsCommand 0 rfl) rfl rfl ?_
  refine gx_iconst C (v := 0) (gDec_at D_X10_readsCommand 1 rfl) (by decide) ?_
  refine gx_putI C flw_X10_readsCommand_85 (is_X10_sh A0) rfl rfl rfl (gDec_at D_X10_readsCommand 2 rfl) ?_
  refine gx_aload_n C 0 (gDec_at D_X10_readsCommand 3 rfl) rfl rfl ?_
  obtain ⟨v2, hv1, hF⟩ := gBind hF
  refine gx_callV1 C (st := []) 0 [] (m_X10_end w (gsI h a0 7 0) A0 hv1) gX10_readsCommand_X10_end rfl rfl rfl hy_X10_end (Nat.le_of_ble_eq_true rfl) (Nat.le_of_ble_eq_true rfl) (is_X10_sh A0) rfl rfl rfl (Nat.le_of_ble_eq_true rfl) (gDec_at D_X10_readsCommand 4 rfl) ?_
  refine gx_istore_n C (lv' := [(1, .int v2), (0, .ref a0)]) (gDec_at D_X10_readsCommand 5 rfl) rfl (Nat.le_of_ble_eq_true rfl) rfl ?_
  refine gx_aload_n C 1 (gDec_at D_X10_readsCommand 6 rfl) rfl rfl ?_
  refine gx_aload_n C 1 (gDec_at D_X10_readsCommand 7 rfl) rfl rfl ?_
  refine gx_iload_n C 0 (gDec_at D_X10_readsCommand 8 rfl) rfl rfl ?_
  obtain ⟨v4, hv3, hF⟩ := gBind hF
  refine gx_callV1 C (st := .ref a0 :: []) 1 [.int v2] (m_X10_word w (gsI h a0 7 0) A0 v2 hv3) gX10_readsCommand_X10_word rfl rfl rfl hy_X10_word (Nat.le_of_ble_eq_true rfl) (Nat.le_of_ble_eq_true rfl) (is_X10_sh A0) rfl rfl rfl (Nat.le_of_ble_eq_true rfl) (gDec_at D_X10_readsCommand 9 rfl) ?_
  refine gx_putI C flw_X10_readsCommand_115 (is_X10_sh A0) rfl rfl rfl (gDec_at D_X10_readsCommand 10 rfl) ?_
  refine gx_aload_n C 1 (gDec_at D_X10_readsCommand 11 rfl) rfl rfl ?_
  refine gx_geti C fl_X10_readsCommand_115 (is_X10_sh A0) rfl (gDec_at D_X10_readsCommand 12 rfl) ?_
  refine gx_bipush C (v := (-4)) (gDec_at D_X10_readsCommand 13 rfl) (by decide) ?_
  refine gx_icmp_ne C 30 (gDec_at D_X10_readsCommand 14 rfl) (by decide) (fun c => ?_) (fun c => ?_)
  · replace hF := gNeg c hF
    refine gx_aload_n C 1 (gDec_at D_X10_readsCommand 17 rfl) rfl rfl ?_
    refine gx_iload_n C 0 (gDec_at D_X10_readsCommand 18 rfl) rfl rfl ?_
    refine gx_putI C flw_X10_readsCommand_85 (is_X10_sh A0) rfl rfl rfl (gDec_at D_X10_readsCommand 19 rfl) ?_
    refine gx_aload_n C 1 (gDec_at D_X10_readsCommand 20 rfl) rfl rfl ?_
    obtain ⟨v6, hv5, hF⟩ := gBind hF
    refine gx_callV1 C (st := []) 0 [] (m_X10_takesBlank w (gsI (gsI (gsI h a0 7 0) a0 14 v4) a0 7 v2) A0 hv5) gX10_readsCommand_X10_takesBlank rfl rfl rfl hy_X10_takesBlank (Nat.le_of_ble_eq_true rfl) (Nat.le_of_ble_eq_true rfl) (is_X10_sh A0) rfl rfl rfl (Nat.le_of_ble_eq_true rfl) (gDec_at D_X10_readsCommand 21 rfl) ?_
    refine gx_ifz_ne C 44 (gDec_at D_X10_readsCommand 22 rfl) (by decide) (fun c => ?_) (fun c => ?_)
    · replace hF := gPos c hF
      refine gx_aload_n C 1 (gDec_at D_X10_readsCommand 25 rfl) rfl rfl ?_
      refine gx_geti C fl_X10_readsCommand_115 (is_X10_sh A0) rfl (gDec_at D_X10_readsCommand 26 rfl) ?_
      refine gx_iconst C (v := 4) (gDec_at D_X10_readsCommand 27 rfl) (by decide) ?_
      refine gx_icmp_ge C 125 (gDec_at D_X10_readsCommand 28 rfl) (by decide) (fun c => ?_) (fun c => ?_)
      · replace hF := gPos c hF
        exact gx_sub [1] rfl (w_X10_readsCommand_125 C A0 v6.2   E hF)
      · replace hF := gNeg c hF
        refine gx_aload_n C 1 (gDec_at D_X10_readsCommand 29 rfl) rfl rfl ?_
        obtain ⟨v15, hv14, hF⟩ := gBind hF
        refine gx_callV1 C (st := []) 0 [] (m_X10_end w v6.2 A0 hv14) gX10_readsCommand_X10_end rfl rfl rfl hy_X10_end (Nat.le_of_ble_eq_true rfl) (Nat.le_of_ble_eq_true rfl) (is_X10_sh A0) rfl rfl rfl (Nat.le_of_ble_eq_true rfl) (gDec_at D_X10_readsCommand 30 rfl) ?_
        refine gx_istore_n C (lv' := [(1, .int v15), (0, .ref a0)]) (gDec_at D_X10_readsCommand 31 rfl) rfl (Nat.le_of_ble_eq_true rfl) rfl ?_
        refine gx_iload_n C 0 (gDec_at D_X10_readsCommand 32 rfl) rfl rfl ?_
        refine gx_aload_n C 1 (gDec_at D_X10_readsCommand 33 rfl) rfl rfl ?_
        refine gx_geti C fl_X10_readsCommand_85 (is_X10_sh A0) rfl (gDec_at D_X10_readsCommand 34 rfl) ?_
        refine gx_isub C (gDec_at D_X10_readsCommand 35 rfl) ?_
        refine gx_iconst C (v := 1) (gDec_at D_X10_readsCommand 36 rfl) (by decide) ?_
        refine gx_icmp_ne C 86 (gDec_at D_X10_readsCommand 37 rfl) (by decide) (fun c => ?_) (fun c => ?_)
        · replace hF := gNeg c hF
          refine gx_iconst C (v := 0) (gDec_at D_X10_readsCommand 47 rfl) (by decide) ?_
          obtain rfl := Option.some.inj hF
          exact gx_zret (b := false) C E (gDec_at D_X10_readsCommand 48 rfl)
        · replace hF := gPos c hF
          refine gx_aload_n C 1 (gDec_at D_X10_readsCommand 38 rfl) rfl rfl ?_
          refine gx_getr C fl_X10_readsCommand_19 (is_X10_sh A0) rfl (gDec_at D_X10_readsCommand 39 rfl) ?_
          refine gx_aload_n C 1 (gDec_at D_X10_readsCommand 40 rfl) rfl rfl ?_
          refine gx_geti C fl_X10_readsCommand_85 (is_X10_sh A0) rfl (gDec_at D_X10_readsCommand 41 rfl) ?_
          obtain ⟨b16, hF⟩ := gGd hF
          refine gx_caload C (is_X10_text A0) b16 (gDec_at D_X10_readsCommand 42 rfl) ?_
          refine gx_bipush C (v := 97) (gDec_at D_X10_readsCommand 43 rfl) (by decide) ?_
          refine gx_bipush C (v := 102) (gDec_at D_X10_readsCommand 44 rfl) (by decide) ?_
          obtain ⟨v18, hv17, hF⟩ := gBind hF
          refine gx_callS1 C (st := []) 3 [.int (v6.2.1 (a0 + 4) (gN (v6.2.1 a0 7))), .int 97, .int 102] (m_X10_in w v6.2 (v6.2.1 (a0 + 4) (gN (v6.2.1 a0 7))) 97 102 hv17) gX10_readsCommand_X10_in rfl rfl rfl hy_X10_in (Nat.le_of_ble_eq_true rfl) (Nat.le_of_ble_eq_true rfl) rfl rfl (Nat.le_of_ble_eq_true rfl) (gDec_at D_X10_readsCommand 45 rfl) ?_
          refine gx_ifz_ne C 88 (gDec_at D_X10_readsCommand 46 rfl) (by decide) (fun c => ?_) (fun c => ?_)
          · replace hF := gPos c hF
            refine gx_aload_n C 1 (gDec_at D_X10_readsCommand 49 rfl) rfl rfl ?_
            refine gx_aload_n C 1 (gDec_at D_X10_readsCommand 50 rfl) rfl rfl ?_
            refine gx_getr C fl_X10_readsCommand_19 (is_X10_sh A0) rfl (gDec_at D_X10_readsCommand 51 rfl) ?_
            refine gx_aload_n C 1 (gDec_at D_X10_readsCommand 52 rfl) rfl rfl ?_
            refine gx_geti C fl_X10_readsCommand_85 (is_X10_sh A0) rfl (gDec_at D_X10_readsCommand 53 rfl) ?_
            obtain ⟨b19, hF⟩ := gGd hF
            refine gx_caload C (is_X10_text A0) b19 (gDec_at D_X10_readsCommand 54 rfl) ?_
            refine gx_bipush C (v := 97) (gDec_at D_X10_readsCommand 55 rfl) (by decide) ?_
            refine gx_isub C (gDec_at D_X10_readsCommand 56 rfl) ?_
            refine gx_putI C flw_X10_readsCommand_121 (is_X10_sh A0) rfl rfl rfl (gDec_at D_X10_readsCommand 57 rfl) ?_
            refine gx_aload_n C 1 (gDec_at D_X10_readsCommand 58 rfl) rfl rfl ?_
            refine gx_iload_n C 0 (gDec_at D_X10_readsCommand 59 rfl) rfl rfl ?_
            refine gx_putI C flw_X10_readsCommand_85 (is_X10_sh A0) rfl rfl rfl (gDec_at D_X10_readsCommand 60 rfl) ?_
            refine gx_aload_n C 1 (gDec_at D_X10_readsCommand 61 rfl) rfl rfl ?_
            refine gx_geti C fl_X10_readsCommand_115 (is_X10_sh A0) rfl (gDec_at D_X10_readsCommand 62 rfl) ?_
            refine gx_if_ne C 125 (gDec_at D_X10_readsCommand 63 rfl) (by decide) (fun c => ?_) (fun c => ?_)
            · replace hF := gNeg c hF
              exact gx_sub [1] rfl (w_X10_readsCommand_125 C A0 (gsI (gsI v6.2 a0 15 ((v6.2.1 (a0 + 4) (gN (v6.2.1 a0 7))) - 97)) a0 7 v15)   E hF)
            · replace hF := gPos c hF
              refine gx_aload_n C 1 (gDec_at D_X10_readsCommand 64 rfl) rfl rfl ?_
              obtain ⟨v21, hv20, hF⟩ := gBind hF
              refine gx_callV1 C (st := []) 0 [] (m_X10_takesBlank w (gsI (gsI v6.2 a0 15 ((v6.2.1 (a0 + 4) (gN (v6.2.1 a0 7))) - 97)) a0 7 v15) A0 hv20) gX10_readsCommand_X10_takesBlank rfl rfl rfl hy_X10_takesBlank (Nat.le_of_ble_eq_true rfl) (Nat.le_of_ble_eq_true rfl) (is_X10_sh A0) rfl rfl rfl (Nat.le_of_ble_eq_true rfl) (gDec_at D_X10_readsCommand 65 rfl) ?_
              refine gx_ifz_ne C 125 (gDec_at D_X10_readsCommand 66 rfl) (by decide) (fun c => ?_) (fun c => ?_)
              · replace hF := gPos c hF
                exact gx_sub [1] rfl (w_X10_readsCommand_125 C A0 v21.2   E hF)
              · replace hF := gNeg c hF
                refine gx_iconst C (v := 0) (gDec_at D_X10_readsCommand 67 rfl) (by decide) ?_
                obtain rfl := Option.some.inj hF
                exact gx_zret (b := false) C E (gDec_at D_X10_readsCommand 68 rfl)
          · replace hF := gNeg c hF
            refine gx_iconst C (v := 0) (gDec_at D_X10_readsCommand 47 rfl) (by decide) ?_
            obtain rfl := Option.some.inj hF
            exact gx_zret (b := false) C E (gDec_at D_X10_readsCommand 48 rfl)
    · replace hF := gNeg c hF
      refine gx_iconst C (v := 0) (gDec_at D_X10_readsCommand 23 rfl) (by decide) ?_
      obtain rfl := Option.some.inj hF
      exact gx_zret (b := false) C E (gDec_at D_X10_readsCommand 24 rfl)
  · replace hF := gPos c hF
    refine gx_iconst C (v := 0) (gDec_at D_X10_readsCommand 15 rfl) (by decide) ?_
    obtain rfl := Option.some.inj hF
    exact gx_zret (b := false) C E (gDec_at D_X10_readsCommand 16 rfl)
/-! LadderBenchModel.unfoldAll -/
def rm_X10_unfoldAll : Room := { frames := 1, cells := 0, slots := 0, locals := 22 }
set_option maxRecDepth 20000 in
theorem ggX10_unfoldAll_X10_ofPart : GoodIn wsX10_unfoldAll wsX10_ofPart := goodIn_r _ [10, 1, 11, 12, 13, 14, 15, 16, 17, 18, 19, 20, 21, 22, 23, 24, 25, 26, 27, 28, 29, 30, 31, 32, 33, 34, 35, 36] (by decide +kernel) (by decide +kernel)
set_option maxRecDepth 20000 in
theorem gX10_unfoldAll_X10_ofPart : GoodIn wsX10_unfoldAll (wsV RX10 130 RX10 yX10_ofPart wsX10_ofPart) := goodIn_app (goodIn_of _ (by decide +kernel)) ggX10_unfoldAll_X10_ofPart
set_option maxRecDepth 20000 in
theorem ggX10_unfoldAll_X10_parts : GoodIn wsX10_unfoldAll wsX10_parts := goodIn_r _ [6, 1, 11, 12, 13, 14, 15, 16, 17, 18, 19, 20, 21, 22, 23, 24, 25, 26, 27, 28, 29, 30, 31, 32, 33, 34, 35, 36] (by decide +kernel) (by decide +kernel)
set_option maxRecDepth 20000 in
theorem gX10_unfoldAll_X10_parts : GoodIn wsX10_unfoldAll (wsV RX10 56 RX10 yX10_parts wsX10_parts) := goodIn_app (goodIn_of _ (by decide +kernel)) ggX10_unfoldAll_X10_parts
theorem hy_X10_unfoldAll : yX10_unfoldAll.cls = RX10 ∧ yX10_unfoldAll.cls ≠ "java/lang/invoke/MethodHandle" ∧ yX10_unfoldAll.cls ≠ "java/lang/invoke/VarHandle" ∧ (parseMethodDescriptor yX10_unfoldAll.desc).map (fun d => d.parameters.length) = some 0 := by decide +kernel
set_option maxRecDepth 100000 in
theorem D_X10_unfoldAll : gDec cX10_unfoldAll [(0, (.iconst 0, 1)), (1, (.istore_n 1, 1)), (2, (.iload_n 1, 1)), (3, (.aload_n 0, 1)), (4, (.invokevirtual 56, 3)), (7, (.if_icmp .ge 36, 3)), (10, (.aload_n 0, 1)), (11, (.getfield 7, 3)), (14, (.bipush 26, 2)), (16, (.iconst 5, 1)), (17, (.iload_n 1, 1)), (18, (.imul, 1)), (19, (.iadd, 1)), (20, (.iconst 4, 1)), (21, (.iadd, 1)), (22, (.aload_n 0, 1)), (23, (.iload_n 1, 1)), (24, (.iconst 0, 1)), (25, (.invokevirtual 130, 3)), (28, (.ifCond .ne 7, 3)), (31, (.lconst 1, 1)), (32, (.goto 4, 3)), (35, (.lconst 0, 1)), (36, (.lastore, 1)), (37, (.iinc 1 1, 3)), (40, (.goto (-38), 3)), (43, (.return_, 1))] = true := by decide +kernel
set_option maxRecDepth 100000 in
theorem in_X10_unfoldAll_X10 : ∀ x ∈ u_ws RX10 TX10 26, x ∈ wsX10_unfoldAll := by decide +kernel
theorem fl_X10_unfoldAll_7 : gF wsX10_unfoldAll RX10 7 10 0 := ⟨RX10, TX10, 26, rfl, by decide, in_X10_unfoldAll_X10, by decide +kernel⟩
def f_X10_unfoldAll_2 (a0 : Nat) : Nat → Int32 → gHp → Option (gHp)
  | 0, _, _ => none
  | n + 1, x1, h => (f_X10_parts a0 h).bind fun v2 => if v2 ≤ x1 then some h else (f_X10_ofPart a0 x1 0 h).bind fun v4 => if v4 = 0 then if gIn ((26 + (5 * x1)) + 4) 141 then f_X10_unfoldAll_2 a0 n (x1 + 1) (gsL h (a0 + 1) (gN ((26 + (5 * x1)) + 4)) 1) else none else if gIn ((26 + (5 * x1)) + 4) 141 then f_X10_unfoldAll_2 a0 n (x1 + 1) (gsL h (a0 + 1) (gN ((26 + (5 * x1)) + 4)) 0) else none
set_option maxRecDepth 20000 in
set_option maxHeartbeats 4000000 in
theorem w_X10_unfoldAll_2 {w : gWd} {g : gCx} (C : gC w g cX10_unfoldAll wsX10_unfoldAll RX10 2 1 22) {a0 : Nat} (A0 : is_X10 w a0)  {o : gHp} (hk : gX w g 2 o 43 [] []) : ∀ (n : Nat) (x1 : Int32) (h : gHp), f_X10_unfoldAll_2 a0 n x1 h = some o → gX w g 2 h 2 [(0, .ref a0), (1, .int x1)] [] := by
  intro n
  induction n with
  | zero => intro _ _ hF; cases hF
  | succ n ih =>
    intro x1 h hF
    rw [f_X10_unfoldAll_2] at hF
    refine gx_iload_n C 1 (gDec_at D_X10_unfoldAll 2 rfl) rfl rfl ?_
    refine gx_aload_n C 0 (gDec_at D_X10_unfoldAll 3 rfl) rfl rfl ?_
    obtain ⟨v2, hv1, hF⟩ := gBind hF
    refine gx_callV1 C (st := .int x1 :: []) 0 [] (m_X10_parts w h A0 hv1) gX10_unfoldAll_X10_parts rfl rfl rfl hy_X10_parts (Nat.le_of_ble_eq_true rfl) (Nat.le_of_ble_eq_true rfl) (is_X10_sh A0) rfl rfl rfl (Nat.le_of_ble_eq_true rfl) (gDec_at D_X10_unfoldAll 4 rfl) ?_
    refine gx_icmp_ge C 43 (gDec_at D_X10_unfoldAll 5 rfl) (by decide) (fun c => ?_) (fun c => ?_)
    · replace hF := gPos c hF
      obtain rfl := Option.some.inj hF
      exact gx_sub [] rfl hk
    · replace hF := gNeg c hF
      refine gx_aload_n C 0 (gDec_at D_X10_unfoldAll 6 rfl) rfl rfl ?_
      refine gx_getr C fl_X10_unfoldAll_7 (is_X10_sh A0) rfl (gDec_at D_X10_unfoldAll 7 rfl) ?_
      refine gx_bipush C (v := 26) (gDec_at D_X10_unfoldAll 8 rfl) (by decide) ?_
      refine gx_iconst C (v := 5) (gDec_at D_X10_unfoldAll 9 rfl) (by decide) ?_
      refine gx_iload_n C 1 (gDec_at D_X10_unfoldAll 10 rfl) rfl rfl ?_
      refine gx_imul C (gDec_at D_X10_unfoldAll 11 rfl) ?_
      refine gx_iadd C (gDec_at D_X10_unfoldAll 12 rfl) ?_
      refine gx_iconst C (v := 4) (gDec_at D_X10_unfoldAll 13 rfl) (by decide) ?_
      refine gx_iadd C (gDec_at D_X10_unfoldAll 14 rfl) ?_
      refine gx_aload_n C 0 (gDec_at D_X10_unfoldAll 15 rfl) rfl rfl ?_
      refine gx_iload_n C 1 (gDec_at D_X10_unfoldAll 16 rfl) rfl rfl ?_
      refine gx_iconst C (v := 0) (gDec_at D_X10_unfoldAll 17 rfl) (by decide) ?_
      obtain ⟨v4, hv3, hF⟩ := gBind hF
      refine gx_callV1 C (st := .int ((26 + (5 * x1)) + 4) :: .ref (a0 + 1) :: []) 2 [.int x1, .int 0] (m_X10_ofPart w h A0 x1 0 hv3) gX10_unfoldAll_X10_ofPart rfl rfl rfl hy_X10_ofPart (Nat.le_of_ble_eq_true rfl) (Nat.le_of_ble_eq_true rfl) (is_X10_sh A0) rfl rfl rfl (Nat.le_of_ble_eq_true rfl) (gDec_at D_X10_unfoldAll 18 rfl) ?_
      refine gx_if_ne C 35 (gDec_at D_X10_unfoldAll 19 rfl) (by decide) (fun c => ?_) (fun c => ?_)
      · replace hF := gNeg c hF
        refine gx_lconst C (v := 0) (gDec_at D_X10_unfoldAll 22 rfl) (by decide) ?_
        obtain ⟨b5, hF⟩ := gGd hF
        refine gx_lastore C (is_X10_now A0) b5 (gDec_at D_X10_unfoldAll 23 rfl) ?_
        refine gx_iinc C (j := 1) (v := x1 + 1) (lv' := [(1, .int (x1 + 1)), (0, .ref a0)]) (gDec_at D_X10_unfoldAll 24 rfl) rfl (by rfl) (Nat.le_of_ble_eq_true rfl) rfl ?_
        refine gx_goto C 2 (gDec_at D_X10_unfoldAll 25 rfl) (by decide) ?_
        exact gx_sub [1, 0] rfl (ih (x1 + 1) (gsL h (a0 + 1) (gN ((26 + (5 * x1)) + 4)) 0) hF)
      · replace hF := gPos c hF
        refine gx_lconst C (v := 1) (gDec_at D_X10_unfoldAll 20 rfl) (by decide) ?_
        refine gx_goto C 36 (gDec_at D_X10_unfoldAll 21 rfl) (by decide) ?_
        obtain ⟨b6, hF⟩ := gGd hF
        refine gx_lastore C (is_X10_now A0) b6 (gDec_at D_X10_unfoldAll 23 rfl) ?_
        refine gx_iinc C (j := 1) (v := x1 + 1) (lv' := [(1, .int (x1 + 1)), (0, .ref a0)]) (gDec_at D_X10_unfoldAll 24 rfl) rfl (by rfl) (Nat.le_of_ble_eq_true rfl) rfl ?_
        refine gx_goto C 2 (gDec_at D_X10_unfoldAll 25 rfl) (by decide) ?_
        exact gx_sub [1, 0] rfl (ih (x1 + 1) (gsL h (a0 + 1) (gN ((26 + (5 * x1)) + 4)) 1) hF)
def f_X10_unfoldAll (a0 : Nat) (h : gHp) : Option (gHp) := (f_X10_unfoldAll_2 a0 gFuel 0 h).bind fun v7 => some v7
set_option maxRecDepth 20000 in
set_option maxHeartbeats 4000000 in
theorem m_X10_unfoldAll (w : gWd) (h : gHp) {a0 : Nat} (A0 : is_X10 w a0) {o : gHp} (hF : f_X10_unfoldAll a0 h = some o) : gMet w yX10_unfoldAll wsX10_unfoldAll rm_X10_unfoldAll [.ref a0] h (none) o := by
  refine gMet_of (cc := cX10_unfoldAll) (maxL := 2) (ret := none) (fr := 1) (lo := 22) (own := RX10) [(0, .ref a0)] (by decide) rfl rfl (Nat.le_of_ble_eq_true rfl) rfl (Nat.le_refl _) (Nat.le_refl _) (fun g C E => ?_)
  rw [f_X10_unfoldAll] at hF
  refine gx_iconst C (v := 0) (gDec_at D_X10_unfoldAll 0 rfl) (by decide) ?_
  refine gx_istore_n C (lv' := [(1, .int 0), (0, .ref a0)]) (gDec_at D_X10_unfoldAll 1 rfl) rfl (Nat.le_of_ble_eq_true rfl) rfl ?_
  obtain ⟨v7, hv8, hF⟩ := gBind hF
  have k9 : gX w g 2 v7 43 [] [] := by
    obtain rfl := Option.some.inj hF
    exact gx_vret C E (gDec_at D_X10_unfoldAll 26 rfl)
  exact gx_sub [1, 0] rfl (w_X10_unfoldAll_2 C A0 k9 gFuel 0 h hv8)
/-! LadderBenchModel.perform -/
def rm_X10_perform : Room := { frames := 3, cells := 0, slots := 0, locals := 68 }
set_option maxRecDepth 20000 in
theorem ggX10_perform_X10_hasArm : GoodIn wsX10_perform wsX10_hasArm := goodIn_r _ [39, 29, 30, 9, 31, 40, 41, 42, 43, 5, 62, 63, 64, 65, 66, 67, 68, 69, 70, 71, 72, 73, 74, 75, 76, 77, 78, 79, 80, 81, 82, 83, 84, 85, 86, 87] (by decide +kernel) (by decide +kernel)
set_option maxRecDepth 20000 in
theorem gX10_perform_X10_hasArm : GoodIn wsX10_perform (wsV RX10 136 RX10 yX10_hasArm wsX10_hasArm) := goodIn_app (goodIn_of _ (by decide +kernel)) ggX10_perform_X10_hasArm
set_option maxRecDepth 20000 in
theorem ggX10_perform_X10_readsCommand : GoodIn wsX10_perform wsX10_readsCommand := goodIn_r _ [10, 1, 2, 11, 3, 4, 12, 13, 14, 15, 9, 16, 17, 18, 19, 20, 21, 22, 23, 24, 25, 26, 27, 28, 29, 30, 31, 32, 33, 34, 35, 62, 63, 64, 65, 66, 67, 68, 69, 70, 71, 72, 73, 74, 75, 76, 77, 78, 79, 80, 81, 82, 83, 84, 85, 86, 87] (by decide +kernel) (by decide +kernel)
set_option maxRecDepth 20000 in
theorem gX10_perform_X10_readsCommand : GoodIn wsX10_perform (wsV RX10 133 RX10 yX10_readsCommand wsX10_readsCommand) := goodIn_app (goodIn_of _ (by decide +kernel)) ggX10_perform_X10_readsCommand
set_option maxRecDepth 20000 in
theorem ggX10_perform_X10_record : GoodIn wsX10_perform wsX10_record := goodIn_r _ [47, 48, 49, 5, 62, 63, 64, 65, 66, 67, 68, 69, 70, 71, 72, 73, 74, 75, 76, 77, 78, 79, 80, 81, 82, 83, 84, 85, 86, 87] (by decide +kernel) (by decide +kernel)
set_option maxRecDepth 20000 in
theorem gX10_perform_X10_record : GoodIn wsX10_perform (wsV RX10 99 RX10 yX10_record wsX10_record) := goodIn_app (goodIn_of _ (by decide +kernel)) ggX10_perform_X10_record
set_option maxRecDepth 20000 in
theorem ggX10_perform_X10_unfoldAll : GoodIn wsX10_perform wsX10_unfoldAll := goodIn_r _ [53, 5, 54, 55, 56, 9, 57, 58, 59, 60, 61, 62, 63, 64, 65, 66, 67, 68, 69, 70, 71, 72, 73, 74, 75, 76, 77, 78, 79, 80, 81, 82, 83, 84, 85, 86, 87] (by decide +kernel) (by decide +kernel)
set_option maxRecDepth 20000 in
theorem gX10_perform_X10_unfoldAll : GoodIn wsX10_perform (wsV RX10 139 RX10 yX10_unfoldAll wsX10_unfoldAll) := goodIn_app (goodIn_of _ (by decide +kernel)) ggX10_perform_X10_unfoldAll
theorem hy_X10_perform : yX10_perform.cls = RX10 ∧ yX10_perform.cls ≠ "java/lang/invoke/MethodHandle" ∧ yX10_perform.cls ≠ "java/lang/invoke/VarHandle" ∧ (parseMethodDescriptor yX10_perform.desc).map (fun d => d.parameters.length) = some 0 := by decide +kernel
set_option maxRecDepth 100000 in
theorem D_X10_perform : gDec cX10_perform [(0, (.aload_n 0, 1)), (1, (.invokevirtual 133, 3)), (4, (.ifCond .ne 11, 3)), (7, (.bipush (-100), 2)), (9, (.aload_n 0, 1)), (10, (.getfield 85, 3)), (13, (.isub, 1)), (14, (.ireturn, 1)), (15, (.aload_n 0, 1)), (16, (.getfield 115, 3)), (19, (.iconst 4, 1)), (20, (.if_icmp .ge 16, 3)), (23, (.aload_n 0, 1)), (24, (.aload_n 0, 1)), (25, (.getfield 121, 3)), (28, (.invokevirtual 136, 3)), (31, (.ifCond .ne 5, 3)), (34, (.iconst (-1), 1)), (35, (.ireturn, 1)), (36, (.aload_n 0, 1)), (37, (.getfield 115, 3)), (40, (.iconst 4, 1)), (41, (.if_icmp .ne 7, 3)), (44, (.iconst 1, 1)), (45, (.goto 37, 3)), (48, (.aload_n 0, 1)), (49, (.getfield 115, 3)), (52, (.iconst 5, 1)), (53, (.if_icmp .ne 7, 3)), (56, (.iconst 2, 1)), (57, (.goto 25, 3)), (60, (.bipush 8, 2)), (62, (.iconst 3, 1)), (63, (.aload_n 0, 1)), (64, (.getfield 121, 3)), (67, (.imul, 1)), (68, (.iadd, 1)), (69, (.aload_n 0, 1)), (70, (.getfield 115, 3)), (73, (.ifCond .ne 7, 3)), (76, (.iconst 0, 1)), (77, (.goto 4, 3)), (80, (.iconst 1, 1)), (81, (.iadd, 1)), (82, (.istore_n 1, 1)), (83, (.aload_n 0, 1)), (84, (.getfield 115, 3)), (87, (.iconst 1, 1)), (88, (.if_icmp .ne 7, 3)), (91, (.iconst 1, 1)), (92, (.goto 31, 3)), (95, (.aload_n 0, 1)), (96, (.getfield 115, 3)), (99, (.iconst 2, 1)), (100, (.if_icmp .ne 7, 3)), (103, (.iconst 2, 1)), (104, (.goto 19, 3)), (107, (.aload_n 0, 1)), (108, (.getfield 115, 3)), (111, (.iconst 3, 1)), (112, (.if_icmp .ne 7, 3)), (115, (.iconst 0, 1)), (116, (.goto 7, 3)), (119, (.aload_n 0, 1)), (120, (.getfield 127, 3)), (123, (.istore_n 2, 1)), (124, (.aload_n 0, 1)), (125, (.getfield 7, 3)), (128, (.iload_n 1, 1)), (129, (.laload, 1)), (130, (.iload_n 2, 1)), (131, (.i2l, 1)), (132, (.lcmp, 1)), (133, (.ifCond .ne 6, 3)), (136, (.bipush (-4), 2)), (138, (.ireturn, 1)), (139, (.aload_n 0, 1)), (140, (.invokevirtual 99, 3)), (143, (.aload_n 0, 1)), (144, (.getfield 7, 3)), (147, (.iload_n 1, 1)), (148, (.iload_n 2, 1)), (149, (.i2l, 1)), (150, (.lastore, 1)), (151, (.aload_n 0, 1)), (152, (.getfield 115, 3)), (155, (.iconst 4, 1)), (156, (.if_icmp .ge 7, 3)), (159, (.aload_n 0, 1)), (160, (.invokevirtual 139, 3)), (163, (.iconst 1, 1)), (164, (.ireturn, 1))] = true := by decide +kernel
set_option maxRecDepth 100000 in
theorem in_X10_perform_X10 : ∀ x ∈ u_ws RX10 TX10 26, x ∈ wsX10_perform := by decide +kernel
theorem fl_X10_perform_115 : gF wsX10_perform RX10 115 10 14 := ⟨RX10, TX10, 26, rfl, by decide, in_X10_perform_X10, by decide +kernel⟩
theorem fl_X10_perform_7 : gF wsX10_perform RX10 7 10 0 := ⟨RX10, TX10, 26, rfl, by decide, in_X10_perform_X10, by decide +kernel⟩
theorem fl_X10_perform_127 : gF wsX10_perform RX10 127 10 16 := ⟨RX10, TX10, 26, rfl, by decide, in_X10_perform_X10, by decide +kernel⟩
theorem fl_X10_perform_121 : gF wsX10_perform RX10 121 10 15 := ⟨RX10, TX10, 26, rfl, by decide, in_X10_perform_X10, by decide +kernel⟩
theorem fl_X10_perform_85 : gF wsX10_perform RX10 85 10 7 := ⟨RX10, TX10, 26, rfl, by decide, in_X10_perform_X10, by decide +kernel⟩
def f_X10_perform_36 (a0 : Nat) (h : gHp) : Option (Int32 × gHp) := (if (h.1 a0 14) = 4 then some 1 else if (h.1 a0 14) = 5 then some 2 else if (h.1 a0 14) = 0 then some ((8 + (3 * (h.1 a0 15))) + 0) else some ((8 + (3 * (h.1 a0 15))) + 1) : Option (Int32)).bind fun v3 => (if (h.1 a0 14) = 1 then some 1 else if (h.1 a0 14) = 2 then some 2 else if (h.1 a0 14) = 3 then some 0 else some (h.1 a0 16) : Option (Int32)).bind fun v6 => if gIn v3 141 then if (h.2 (a0 + 1) (gN v3)) = v6.toInt64 then some ((-4), h) else (f_X10_record a0 h).bind fun v11 => if gIn v3 141 then if 4 ≤ ((gsL v11 (a0 + 1) (gN v3) v6.toInt64).1 a0 14) then some (1, gsL v11 (a0 + 1) (gN v3) v6.toInt64) else (f_X10_unfoldAll a0 (gsL v11 (a0 + 1) (gN v3) v6.toInt64)).bind fun v14 => some (1, v14) else none else none
set_option maxRecDepth 20000 in
set_option maxHeartbeats 4000000 in
theorem w_X10_perform_36 {w : gWd} {g : gCx} (C : gC w g cX10_perform wsX10_perform RX10 3 3 68) {a0 : Nat} (A0 : is_X10 w a0) (h : gHp)  {o : Int32 × gHp}  (E : gEn w g (some .int) (some (.int o.1)) o.2) (hF : f_X10_perform_36 a0 h = some o) : gX w g 3 h 36 [(0, .ref a0)] ([]) := by
  rw [f_X10_perform_36] at hF
  refine gx_aload_n C 0 (gDec_at D_X10_perform 19 rfl) rfl rfl ?_
  refine gx_geti C fl_X10_perform_115 (is_X10_sh A0) rfl (gDec_at D_X10_perform 20 rfl) ?_
  refine gx_iconst C (v := 4) (gDec_at D_X10_perform 21 rfl) (by decide) ?_
  obtain ⟨v3, hv4, hF⟩ := gBind hF
  have k5 : gX w g 3 h 82 [(0, .ref a0)] (.int v3 :: []) := by
    refine gx_istore_n C (lv' := [(1, .int v3), (0, .ref a0)]) (gDec_at D_X10_perform 44 rfl) rfl (Nat.le_of_ble_eq_true rfl) rfl ?_
    refine gx_aload_n C 1 (gDec_at D_X10_perform 45 rfl) rfl rfl ?_
    refine gx_geti C fl_X10_perform_115 (is_X10_sh A0) rfl (gDec_at D_X10_perform 46 rfl) ?_
    refine gx_iconst C (v := 1) (gDec_at D_X10_perform 47 rfl) (by decide) ?_
    obtain ⟨v6, hv7, hF⟩ := gBind hF
    have k8 : gX w g 3 h 123 [(0, .ref a0), (1, .int v3)] (.int v6 :: []) := by
      refine gx_istore_n C (lv' := [(2, .int v6), (0, .ref a0), (1, .int v3)]) (gDec_at D_X10_perform 65 rfl) rfl (Nat.le_of_ble_eq_true rfl) rfl ?_
      refine gx_aload_n C 1 (gDec_at D_X10_perform 66 rfl) rfl rfl ?_
      refine gx_getr C fl_X10_perform_7 (is_X10_sh A0) rfl (gDec_at D_X10_perform 67 rfl) ?_
      refine gx_iload_n C 2 (gDec_at D_X10_perform 68 rfl) rfl rfl ?_
      obtain ⟨b9, hF⟩ := gGd hF
      refine gx_laload C (is_X10_now A0) b9 (gDec_at D_X10_perform 69 rfl) ?_
      refine gx_iload_n C 0 (gDec_at D_X10_perform 70 rfl) rfl rfl ?_
      refine gx_i2l C (gDec_at D_X10_perform 71 rfl) ?_
      refine gx_lcmp_ne C 139 (gDec_at D_X10_perform 72 rfl) (gDec_at D_X10_perform 73 rfl) (by decide) (fun c => ?_) (fun c => ?_)
      · replace hF := gNeg c hF
        refine gx_aload_n C 1 (gDec_at D_X10_perform 76 rfl) rfl rfl ?_
        obtain ⟨v11, hv10, hF⟩ := gBind hF
        refine gx_callV0 C (st := []) 0 [] (m_X10_record w h A0 hv10) gX10_perform_X10_record rfl rfl rfl hy_X10_record (Nat.le_of_ble_eq_true rfl) (Nat.le_of_ble_eq_true rfl) (is_X10_sh A0) rfl rfl rfl (Nat.le_of_ble_eq_true rfl) (gDec_at D_X10_perform 77 rfl) ?_
        refine gx_aload_n C 1 (gDec_at D_X10_perform 78 rfl) rfl rfl ?_
        refine gx_getr C fl_X10_perform_7 (is_X10_sh A0) rfl (gDec_at D_X10_perform 79 rfl) ?_
        refine gx_iload_n C 2 (gDec_at D_X10_perform 80 rfl) rfl rfl ?_
        refine gx_iload_n C 0 (gDec_at D_X10_perform 81 rfl) rfl rfl ?_
        refine gx_i2l C (gDec_at D_X10_perform 82 rfl) ?_
        obtain ⟨b12, hF⟩ := gGd hF
        refine gx_lastore C (is_X10_now A0) b12 (gDec_at D_X10_perform 83 rfl) ?_
        refine gx_aload_n C 1 (gDec_at D_X10_perform 84 rfl) rfl rfl ?_
        refine gx_geti C fl_X10_perform_115 (is_X10_sh A0) rfl (gDec_at D_X10_perform 85 rfl) ?_
        refine gx_iconst C (v := 4) (gDec_at D_X10_perform 86 rfl) (by decide) ?_
        refine gx_icmp_ge C 163 (gDec_at D_X10_perform 87 rfl) (by decide) (fun c => ?_) (fun c => ?_)
        · replace hF := gPos c hF
          refine gx_iconst C (v := 1) (gDec_at D_X10_perform 90 rfl) (by decide) ?_
          obtain rfl := Option.some.inj hF
          exact gx_iret C E (gDec_at D_X10_perform 91 rfl)
        · replace hF := gNeg c hF
          refine gx_aload_n C 1 (gDec_at D_X10_perform 88 rfl) rfl rfl ?_
          obtain ⟨v14, hv13, hF⟩ := gBind hF
          refine gx_callV0 C (st := []) 0 [] (m_X10_unfoldAll w (gsL v11 (a0 + 1) (gN v3) v6.toInt64) A0 hv13) gX10_perform_X10_unfoldAll rfl rfl rfl hy_X10_unfoldAll (Nat.le_of_ble_eq_true rfl) (Nat.le_of_ble_eq_true rfl) (is_X10_sh A0) rfl rfl rfl (Nat.le_of_ble_eq_true rfl) (gDec_at D_X10_perform 89 rfl) ?_
          refine gx_iconst C (v := 1) (gDec_at D_X10_perform 90 rfl) (by decide) ?_
          obtain rfl := Option.some.inj hF
          exact gx_iret C E (gDec_at D_X10_perform 91 rfl)
      · replace hF := gPos c hF
        refine gx_bipush C (v := (-4)) (gDec_at D_X10_perform 74 rfl) (by decide) ?_
        obtain rfl := Option.some.inj hF
        exact gx_iret C E (gDec_at D_X10_perform 75 rfl)
    replace hF := hv7
    refine gx_icmp_ne C 95 (gDec_at D_X10_perform 48 rfl) (by decide) (fun c => ?_) (fun c => ?_)
    · replace hF := gNeg c hF
      refine gx_aload_n C 1 (gDec_at D_X10_perform 51 rfl) rfl rfl ?_
      refine gx_geti C fl_X10_perform_115 (is_X10_sh A0) rfl (gDec_at D_X10_perform 52 rfl) ?_
      refine gx_iconst C (v := 2) (gDec_at D_X10_perform 53 rfl) (by decide) ?_
      refine gx_icmp_ne C 107 (gDec_at D_X10_perform 54 rfl) (by decide) (fun c => ?_) (fun c => ?_)
      · replace hF := gNeg c hF
        refine gx_aload_n C 1 (gDec_at D_X10_perform 57 rfl) rfl rfl ?_
        refine gx_geti C fl_X10_perform_115 (is_X10_sh A0) rfl (gDec_at D_X10_perform 58 rfl) ?_
        refine gx_iconst C (v := 3) (gDec_at D_X10_perform 59 rfl) (by decide) ?_
        refine gx_icmp_ne C 119 (gDec_at D_X10_perform 60 rfl) (by decide) (fun c => ?_) (fun c => ?_)
        · replace hF := gNeg c hF
          refine gx_aload_n C 1 (gDec_at D_X10_perform 63 rfl) rfl rfl ?_
          refine gx_geti C fl_X10_perform_127 (is_X10_sh A0) rfl (gDec_at D_X10_perform 64 rfl) ?_
          obtain rfl := Option.some.inj hF
          exact gx_sub [1, 0] rfl k8
        · replace hF := gPos c hF
          refine gx_iconst C (v := 0) (gDec_at D_X10_perform 61 rfl) (by decide) ?_
          refine gx_goto C 123 (gDec_at D_X10_perform 62 rfl) (by decide) ?_
          obtain rfl := Option.some.inj hF
          exact gx_sub [1, 0] rfl k8
      · replace hF := gPos c hF
        refine gx_iconst C (v := 2) (gDec_at D_X10_perform 55 rfl) (by decide) ?_
        refine gx_goto C 123 (gDec_at D_X10_perform 56 rfl) (by decide) ?_
        obtain rfl := Option.some.inj hF
        exact gx_sub [1, 0] rfl k8
    · replace hF := gPos c hF
      refine gx_iconst C (v := 1) (gDec_at D_X10_perform 49 rfl) (by decide) ?_
      refine gx_goto C 123 (gDec_at D_X10_perform 50 rfl) (by decide) ?_
      obtain rfl := Option.some.inj hF
      exact gx_sub [1, 0] rfl k8
  replace hF := hv4
  refine gx_icmp_ne C 48 (gDec_at D_X10_perform 22 rfl) (by decide) (fun c => ?_) (fun c => ?_)
  · replace hF := gNeg c hF
    refine gx_aload_n C 0 (gDec_at D_X10_perform 25 rfl) rfl rfl ?_
    refine gx_geti C fl_X10_perform_115 (is_X10_sh A0) rfl (gDec_at D_X10_perform 26 rfl) ?_
    refine gx_iconst C (v := 5) (gDec_at D_X10_perform 27 rfl) (by decide) ?_
    refine gx_icmp_ne C 60 (gDec_at D_X10_perform 28 rfl) (by decide) (fun c => ?_) (fun c => ?_)
    · replace hF := gNeg c hF
      refine gx_bipush C (v := 8) (gDec_at D_X10_perform 31 rfl) (by decide) ?_
      refine gx_iconst C (v := 3) (gDec_at D_X10_perform 32 rfl) (by decide) ?_
      refine gx_aload_n C 0 (gDec_at D_X10_perform 33 rfl) rfl rfl ?_
      refine gx_geti C fl_X10_perform_121 (is_X10_sh A0) rfl (gDec_at D_X10_perform 34 rfl) ?_
      refine gx_imul C (gDec_at D_X10_perform 35 rfl) ?_
      refine gx_iadd C (gDec_at D_X10_perform 36 rfl) ?_
      refine gx_aload_n C 0 (gDec_at D_X10_perform 37 rfl) rfl rfl ?_
      refine gx_geti C fl_X10_perform_115 (is_X10_sh A0) rfl (gDec_at D_X10_perform 38 rfl) ?_
      refine gx_if_ne C 80 (gDec_at D_X10_perform 39 rfl) (by decide) (fun c => ?_) (fun c => ?_)
      · replace hF := gNeg c hF
        refine gx_iconst C (v := 1) (gDec_at D_X10_perform 42 rfl) (by decide) ?_
        refine gx_iadd C (gDec_at D_X10_perform 43 rfl) ?_
        obtain rfl := Option.some.inj hF
        exact gx_sub [0] rfl k5
      · replace hF := gPos c hF
        refine gx_iconst C (v := 0) (gDec_at D_X10_perform 40 rfl) (by decide) ?_
        refine gx_goto C 81 (gDec_at D_X10_perform 41 rfl) (by decide) ?_
        refine gx_iadd C (gDec_at D_X10_perform 43 rfl) ?_
        obtain rfl := Option.some.inj hF
        exact gx_sub [0] rfl k5
    · replace hF := gPos c hF
      refine gx_iconst C (v := 2) (gDec_at D_X10_perform 29 rfl) (by decide) ?_
      refine gx_goto C 82 (gDec_at D_X10_perform 30 rfl) (by decide) ?_
      obtain rfl := Option.some.inj hF
      exact gx_sub [0] rfl k5
  · replace hF := gPos c hF
    refine gx_iconst C (v := 1) (gDec_at D_X10_perform 23 rfl) (by decide) ?_
    refine gx_goto C 82 (gDec_at D_X10_perform 24 rfl) (by decide) ?_
    obtain rfl := Option.some.inj hF
    exact gx_sub [0] rfl k5
def f_X10_perform (a0 : Nat) (h : gHp) : Option (Int32 × gHp) := (f_X10_readsCommand a0 h).bind fun v2 => if v2.1 = true then if 4 ≤ (v2.2.1 a0 14) then f_X10_perform_36 a0 v2.2 else (f_X10_hasArm a0 (v2.2.1 a0 15) v2.2).bind fun v16 => if v16 = true then f_X10_perform_36 a0 v2.2 else some ((-1), v2.2) else some ((-100) - (v2.2.1 a0 7), v2.2)
set_option maxRecDepth 20000 in
set_option maxHeartbeats 4000000 in
theorem m_X10_perform (w : gWd) (h : gHp) {a0 : Nat} (A0 : is_X10 w a0) {o : Int32 × gHp} (hF : f_X10_perform a0 h = some o) : gMet w yX10_perform wsX10_perform rm_X10_perform [.ref a0] h (some (.int o.1)) o.2 := by
  refine gMet_of (cc := cX10_perform) (maxL := 3) (ret := (some .int)) (fr := 3) (lo := 68) (own := RX10) [(0, .ref a0)] (by decide) rfl rfl (Nat.le_of_ble_eq_true rfl) rfl (Nat.le_refl _) (Nat.le_refl _) (fun g C E => ?_)
  rw [f_X10_perform] at hF
  refine gx_aload_n C 0 (gDec_at D_X10_perform 0 rfl) rfl rfl ?_
  obtain ⟨v2, hv1, hF⟩ := gBind hF
  refine gx_callV1 C (st := []) 0 [] (m_X10_readsCommand w h A0 hv1) gX10_perform_X10_readsCommand rfl rfl rfl hy_X10_readsCommand (Nat.le_of_ble_eq_true rfl) (Nat.le_of_ble_eq_true rfl) (is_X10_sh A0) rfl rfl rfl (Nat.le_of_ble_eq_true rfl) (gDec_at D_X10_perform 1 rfl) ?_
  refine gx_ifz_ne C 15 (gDec_at D_X10_perform 2 rfl) (by decide) (fun c => ?_) (fun c => ?_)
  · replace hF := gPos c hF
    refine gx_aload_n C 0 (gDec_at D_X10_perform 8 rfl) rfl rfl ?_
    refine gx_geti C fl_X10_perform_115 (is_X10_sh A0) rfl (gDec_at D_X10_perform 9 rfl) ?_
    refine gx_iconst C (v := 4) (gDec_at D_X10_perform 10 rfl) (by decide) ?_
    refine gx_icmp_ge C 36 (gDec_at D_X10_perform 11 rfl) (by decide) (fun c => ?_) (fun c => ?_)
    · replace hF := gPos c hF
      exact gx_sub [0] rfl (w_X10_perform_36 C A0 v2.2   E hF)
    · replace hF := gNeg c hF
      refine gx_aload_n C 0 (gDec_at D_X10_perform 12 rfl) rfl rfl ?_
      refine gx_aload_n C 0 (gDec_at D_X10_perform 13 rfl) rfl rfl ?_
      refine gx_geti C fl_X10_perform_121 (is_X10_sh A0) rfl (gDec_at D_X10_perform 14 rfl) ?_
      obtain ⟨v16, hv15, hF⟩ := gBind hF
      refine gx_callV1 C (st := []) 1 [.int (v2.2.1 a0 15)] (m_X10_hasArm w v2.2 A0 (v2.2.1 a0 15) hv15) gX10_perform_X10_hasArm rfl rfl rfl hy_X10_hasArm (Nat.le_of_ble_eq_true rfl) (Nat.le_of_ble_eq_true rfl) (is_X10_sh A0) rfl rfl rfl (Nat.le_of_ble_eq_true rfl) (gDec_at D_X10_perform 15 rfl) ?_
      refine gx_ifz_ne C 36 (gDec_at D_X10_perform 16 rfl) (by decide) (fun c => ?_) (fun c => ?_)
      · replace hF := gPos c hF
        exact gx_sub [0] rfl (w_X10_perform_36 C A0 v2.2   E hF)
      · replace hF := gNeg c hF
        refine gx_iconst C (v := (-1)) (gDec_at D_X10_perform 17 rfl) (by decide) ?_
        obtain rfl := Option.some.inj hF
        exact gx_iret C E (gDec_at D_X10_perform 18 rfl)
  · replace hF := gNeg c hF
    refine gx_bipush C (v := (-100)) (gDec_at D_X10_perform 3 rfl) (by decide) ?_
    refine gx_aload_n C 0 (gDec_at D_X10_perform 4 rfl) rfl rfl ?_
    refine gx_geti C fl_X10_perform_85 (is_X10_sh A0) rfl (gDec_at D_X10_perform 5 rfl) ?_
    refine gx_isub C (gDec_at D_X10_perform 6 rfl) ?_
    obtain rfl := Option.some.inj hF
    exact gx_iret C E (gDec_at D_X10_perform 7 rfl)
/-! LadderBenchModel.isFolded -/
def rm_X10_isFolded : Room := { frames := 1, cells := 0, slots := 0, locals := 22 }
set_option maxRecDepth 20000 in
theorem ggX10_isFolded_X10_ofPart : GoodIn wsX10_isFolded wsX10_ofPart := goodIn_r _ [5, 6, 7, 8, 9, 10, 11, 12, 13, 14, 15, 16, 17, 18, 19, 20, 21, 22, 23, 24, 25, 26, 27, 28, 29, 30, 31, 32] (by decide +kernel) (by decide +kernel)
set_option maxRecDepth 20000 in
theorem gX10_isFolded_X10_ofPart : GoodIn wsX10_isFolded (wsV RX10 130 RX10 yX10_ofPart wsX10_ofPart) := goodIn_app (goodIn_of _ (by decide +kernel)) ggX10_isFolded_X10_ofPart
theorem hy_X10_isFolded : yX10_isFolded.cls = RX10 ∧ yX10_isFolded.cls ≠ "java/lang/invoke/MethodHandle" ∧ yX10_isFolded.cls ≠ "java/lang/invoke/VarHandle" ∧ (parseMethodDescriptor yX10_isFolded.desc).map (fun d => d.parameters.length) = some 1 := by decide +kernel
set_option maxRecDepth 100000 in
theorem D_X10_isFolded : gDec cX10_isFolded [(0, (.aload_n 0, 1)), (1, (.iload_n 1, 1)), (2, (.iconst 4, 1)), (3, (.invokevirtual 130, 3)), (6, (.iconst 1, 1)), (7, (.if_icmp .ne 7, 3)), (10, (.iconst 1, 1)), (11, (.goto 4, 3)), (14, (.iconst 0, 1)), (15, (.ireturn, 1))] = true := by decide +kernel
def f_X10_isFolded (a0 : Nat) (x1 : Int32) (h : gHp) : Option (Bool) := (f_X10_ofPart a0 x1 4 h).bind fun v2 => if v2 = 1 then some true else some false
set_option maxRecDepth 20000 in
set_option maxHeartbeats 4000000 in
theorem m_X10_isFolded (w : gWd) (h : gHp) {a0 : Nat} (A0 : is_X10 w a0) (x1 : Int32) {o : Bool} (hF : f_X10_isFolded a0 x1 h = some o) : gMet w yX10_isFolded wsX10_isFolded rm_X10_isFolded [.ref a0, .int x1] h (some (.int (gZ o))) h := by
  refine gMet_of (cc := cX10_isFolded) (maxL := 2) (ret := (some .boolean)) (fr := 1) (lo := 22) (own := RX10) [(0, .ref a0), (1, .int x1)] (by decide) rfl rfl (Nat.le_of_ble_eq_true rfl) rfl (Nat.le_refl _) (Nat.le_refl _) (fun g C E => ?_)
  rw [f_X10_isFolded] at hF
  refine gx_aload_n C 0 (gDec_at D_X10_isFolded 0 rfl) rfl rfl ?_
  refine gx_iload_n C 1 (gDec_at D_X10_isFolded 1 rfl) rfl rfl ?_
  refine gx_iconst C (v := 4) (gDec_at D_X10_isFolded 2 rfl) (by decide) ?_
  obtain ⟨v2, hv1, hF⟩ := gBind hF
  refine gx_callV1 C (st := []) 2 [.int x1, .int 4] (m_X10_ofPart w h A0 x1 4 hv1) gX10_isFolded_X10_ofPart rfl rfl rfl hy_X10_ofPart (Nat.le_of_ble_eq_true rfl) (Nat.le_of_ble_eq_true rfl) (is_X10_sh A0) rfl rfl rfl (Nat.le_of_ble_eq_true rfl) (gDec_at D_X10_isFolded 3 rfl) ?_
  refine gx_iconst C (v := 1) (gDec_at D_X10_isFolded 4 rfl) (by decide) ?_
  refine gx_icmp_ne C 14 (gDec_at D_X10_isFolded 5 rfl) (by decide) (fun c => ?_) (fun c => ?_)
  · replace hF := gNeg c hF
    refine gx_iconst C (v := 0) (gDec_at D_X10_isFolded 8 rfl) (by decide) ?_
    obtain rfl := Option.some.inj hF
    exact gx_zret (b := false) C E (gDec_at D_X10_isFolded 9 rfl)
  · replace hF := gPos c hF
    refine gx_iconst C (v := 1) (gDec_at D_X10_isFolded 6 rfl) (by decide) ?_
    refine gx_goto C 15 (gDec_at D_X10_isFolded 7 rfl) (by decide) ?_
    obtain rfl := Option.some.inj hF
    exact gx_zret (b := true) C E (gDec_at D_X10_isFolded 9 rfl)
