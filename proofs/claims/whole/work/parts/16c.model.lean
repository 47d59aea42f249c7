/-! LadderBenchModel.readsNetwork -/
def rm_X10_readsNetwork : Room := { frames := 3, cells := 0, slots := 0, locals := 67 }
set_option maxRecDepth 20000 in
theorem ggX10_readsNetwork_X10_endsChain : GoodIn wsX10_readsNetwork wsX10_endsChain := goodIn_r _ [29, 4, 22, 23, 24, 10, 25, 3, 17, 18, 19, 20, 1, 16, 2, 21, 30, 31, 32, 33, 34, 35, 36, 37, 38, 39, 40, 41, 42, 43, 44, 45, 46, 47, 48, 49, 50, 51, 52, 53, 54, 55] (by decide +kernel) (by decide +kernel)
set_option maxRecDepth 20000 in
theorem gX10_readsNetwork_X10_endsChain : GoodIn wsX10_readsNetwork (wsV RX10 92 RX10 yX10_endsChain wsX10_endsChain) := goodIn_app (goodIn_of _ (by decide +kernel)) ggX10_readsNetwork_X10_endsChain
set_option maxRecDepth 20000 in
theorem ggX10_readsNetwork_X10_endsLink : GoodIn wsX10_readsNetwork wsX10_endsLink := goodIn_r _ [25, 3, 4, 17, 18, 19, 10, 20, 1, 16, 2, 21, 30, 31, 32, 33, 34, 35, 36, 37, 38, 39, 40, 41, 42, 43, 44, 45, 46, 47, 48, 49, 50, 51, 52, 53, 54, 55] (by decide +kernel) (by decide +kernel)
set_option maxRecDepth 20000 in
theorem gX10_readsNetwork_X10_endsLink : GoodIn wsX10_readsNetwork (wsV RX10 81 RX10 yX10_endsLink wsX10_endsLink) := goodIn_app (goodIn_of _ (by decide +kernel)) ggX10_readsNetwork_X10_endsLink
set_option maxRecDepth 20000 in
theorem ggX10_readsNetwork_X10_in : GoodIn wsX10_readsNetwork wsX10_in := goodIn_r _ [11] (by decide +kernel) (by decide +kernel)
set_option maxRecDepth 20000 in
theorem gX10_readsNetwork_X10_in : GoodIn wsX10_readsNetwork (va_wsS RX10 60 yX10_in wsX10_in) := goodIn_app (goodIn_of _ (by decide +kernel)) ggX10_readsNetwork_X10_in
set_option maxRecDepth 20000 in
theorem ggX10_readsNetwork_X10_isRead : GoodIn wsX10_readsNetwork wsX10_isRead := goodIn_r _ [15, 1, 16, 30, 31, 32, 33, 34, 35, 36, 37, 38, 39, 40, 41, 42, 43, 44, 45, 46, 47, 48, 49, 50, 51, 52, 53, 54, 55] (by decide +kernel) (by decide +kernel)
set_option maxRecDepth 20000 in
theorem gX10_readsNetwork_X10_isRead : GoodIn wsX10_readsNetwork (wsV RX10 88 RX10 yX10_isRead wsX10_isRead) := goodIn_app (goodIn_of _ (by decide +kernel)) ggX10_readsNetwork_X10_isRead
set_option maxRecDepth 20000 in
theorem ggX10_readsNetwork_X10_laysPart : GoodIn wsX10_readsNetwork wsX10_laysPart := goodIn_r _ [20, 1, 16, 2, 21, 30, 31, 32, 33, 34, 35, 36, 37, 38, 39, 40, 41, 42, 43, 44, 45, 46, 47, 48, 49, 50, 51, 52, 53, 54, 55] (by decide +kernel) (by decide +kernel)
set_option maxRecDepth 20000 in
theorem gX10_readsNetwork_X10_laysPart : GoodIn wsX10_readsNetwork (wsV RX10 77 RX10 yX10_laysPart wsX10_laysPart) := goodIn_app (goodIn_of _ (by decide +kernel)) ggX10_readsNetwork_X10_laysPart
theorem hy_X10_readsNetwork : yX10_readsNetwork.cls = RX10 ∧ yX10_readsNetwork.cls ≠ "java/lang/invoke/MethodHandle" ∧ yX10_readsNetwork.cls ≠ "java/lang/invoke/VarHandle" ∧ (parseMethodDescriptor yX10_readsNetwork.desc).map (fun d => d.parameters.length) = some 0 := by decide +kernel
set_option maxRecDepth 100000 in
theorem D_X10_readsNetwork : gDec cX10_readsNetwork [(0, (.aload_n 0, 1)), (1, (.iconst 0, 1)), (2, (.putfield 71, 3)), (5, (.aload_n 0, 1)), (6, (.iconst 0, 1)), (7, (.putfield 74, 3)), (10, (.iconst 0, 1)), (11, (.istore_n 1, 1)), (12, (.aload_n 0, 1)), (13, (.getfield 30, 3)), (16, (.iconst 0, 1)), (17, (.iconst 0, 1)), (18, (.iastore, 1)), (19, (.aload_n 0, 1)), (20, (.getfield 33, 3)), (23, (.iconst 0, 1)), (24, (.iconst 0, 1)), (25, (.iastore, 1)), (26, (.iconst 1, 1)), (27, (.istore_n 2, 1)), (28, (.aload_n 0, 1)), (29, (.iconst 0, 1)), (30, (.putfield 85, 3)), (33, (.aload_n 0, 1)), (34, (.getfield 85, 3)), (37, (.aload_n 0, 1)), (38, (.getfield 68, 3)), (41, (.if_icmp .ge 166, 3)), (44, (.aload_n 0, 1)), (45, (.getfield 19, 3)), (48, (.aload_n 0, 1)), (49, (.getfield 85, 3)), (52, (.caload, 1)), (53, (.istore_n 3, 1)), (54, (.iload_n 2, 1)), (55, (.ifCond .eq 29, 3)), (58, (.iload_n 3, 1)), (59, (.bipush 40, 2)), (61, (.if_icmp .ne 23, 3)), (64, (.iinc 1 1, 3)), (67, (.aload_n 0, 1)), (68, (.getfield 30, 3)), (71, (.iload_n 1, 1)), (72, (.iconst 0, 1)), (73, (.iastore, 1)), (74, (.aload_n 0, 1)), (75, (.getfield 33, 3)), (78, (.iload_n 1, 1)), (79, (.iconst 0, 1)), (80, (.iastore, 1)), (81, (.goto 113, 3)), (84, (.iload_n 2, 1)), (85, (.ifCond .eq 52, 3)), (88, (.iload_n 3, 1)), (89, (.bipush 97, 2)), (91, (.bipush 102, 2)), (93, (.invokestatic 60, 3)), (96, (.ifCond .eq 14, 3)), (99, (.aload_n 0, 1)), (100, (.iload_n 3, 1)), (101, (.bipush 97, 2)), (103, (.isub, 1)), (104, (.invokevirtual 88, 3)), (107, (.ifCond .eq 5, 3)), (110, (.iconst 0, 1)), (111, (.ireturn, 1)), (112, (.aload_n 0, 1)), (113, (.iconst 0, 1)), (114, (.iload_n 3, 1)), (115, (.bipush 97, 2)), (117, (.isub, 1)), (118, (.iconst 0, 1)), (119, (.invokevirtual 77, 3)), (122, (.aload_n 0, 1)), (123, (.getfield 30, 3)), (126, (.iload_n 1, 1)), (127, (.dup2, 1)), (128, (.iaload, 1)), (129, (.iconst 1, 1)), (130, (.iadd, 1)), (131, (.iastore, 1)), (132, (.iconst 0, 1)), (133, (.istore_n 2, 1)), (134, (.goto 60, 3)), (137, (.iload_n 3, 1)), (138, (.bipush 124, 2)), (140, (.if_icmp .ne 8, 3)), (143, (.iconst 1, 1)), (144, (.istore_n 2, 1)), (145, (.goto 49, 3)), (148, (.iload_n 3, 1)), (149, (.bipush 43, 2)), (151, (.if_icmp .ne 13, 3)), (154, (.aload_n 0, 1)), (155, (.iload_n 1, 1)), (156, (.invokevirtual 81, 3)), (159, (.iconst 1, 1)), (160, (.istore_n 2, 1)), (161, (.goto 33, 3)), (164, (.iload_n 3, 1)), (165, (.bipush 41, 2)), (167, (.if_icmp .ne 7, 3)), (170, (.iload_n 1, 1)), (171, (.ifCond .ne 5, 3)), (174, (.iconst 0, 1)), (175, (.ireturn, 1)), (176, (.aload_n 0, 1)), (177, (.iload_n 1, 1)), (178, (.invokevirtual 92, 3)), (181, (.iinc 1 (-1), 3)), (184, (.aload_n 0, 1)), (185, (.getfield 30, 3)), (188, (.iload_n 1, 1)), (189, (.dup2, 1)), (190, (.iaload, 1)), (191, (.iconst 1, 1)), (192, (.iadd, 1)), (193, (.iastore, 1)), (194, (.aload_n 0, 1)), (195, (.dup, 1)), (196, (.getfield 85, 3)), (199, (.iconst 1, 1)), (200, (.iadd, 1)), (201, (.putfield 85, 3)), (204, (.goto (-171), 3)), (207, (.iload_n 2, 1)), (208, (.ifCond .ne 7, 3)), (211, (.iload_n 1, 1)), (212, (.ifCond .le 5, 3)), (215, (.iconst 0, 1)), (216, (.ireturn, 1)), (217, (.aload_n 0, 1)), (218, (.iconst 0, 1)), (219, (.invokevirtual 92, 3)), (222, (.iconst 1, 1)), (223, (.ireturn, 1))] = true := by decide +kernel
set_option maxRecDepth 100000 in
theorem in_X10_readsNetwork_X10 : ∀ x ∈ u_ws RX10 TX10 26, x ∈ wsX10_readsNetwork := by decide +kernel
theorem flw_X10_readsNetwork_71 : gFw wsX10_readsNetwork RX10 71 10 8 .int := ⟨RX10, TX10, 26, tyX10, rfl, by decide, in_X10_readsNetwork_X10, by decide +kernel, tyX10_ok, nmX10, rfl, by decide +kernel⟩
theorem flw_X10_readsNetwork_74 : gFw wsX10_readsNetwork RX10 74 10 11 .int := ⟨RX10, TX10, 26, tyX10, rfl, by decide, in_X10_readsNetwork_X10, by decide +kernel, tyX10_ok, nmX10, rfl, by decide +kernel⟩
theorem fl_X10_readsNetwork_30 : gF wsX10_readsNetwork RX10 30 10 12 := ⟨RX10, TX10, 26, rfl, by decide, in_X10_readsNetwork_X10, by decide +kernel⟩
theorem fl_X10_readsNetwork_33 : gF wsX10_readsNetwork RX10 33 10 13 := ⟨RX10, TX10, 26, rfl, by decide, in_X10_readsNetwork_X10, by decide +kernel⟩
theorem flw_X10_readsNetwork_85 : gFw wsX10_readsNetwork RX10 85 10 7 .int := ⟨RX10, TX10, 26, tyX10, rfl, by decide, in_X10_readsNetwork_X10, by decide +kernel, tyX10_ok, nmX10, rfl, by decide +kernel⟩
theorem fl_X10_readsNetwork_85 : gF wsX10_readsNetwork RX10 85 10 7 := ⟨RX10, TX10, 26, rfl, by decide, in_X10_readsNetwork_X10, by decide +kernel⟩
theorem fl_X10_readsNetwork_68 : gF wsX10_readsNetwork RX10 68 10 5 := ⟨RX10, TX10, 26, rfl, by decide, in_X10_readsNetwork_X10, by decide +kernel⟩
theorem fl_X10_readsNetwork_19 : gF wsX10_readsNetwork RX10 19 10 6 := ⟨RX10, TX10, 26, rfl, by decide, in_X10_readsNetwork_X10, by decide +kernel⟩
def f_X10_readsNetwork_194 (a0 : Nat) (x1 : Int32) (x2 : Int32) (h : gHp) (k_33 : Int32 → Int32 → gHp → Option (Bool × gHp)) : Option (Bool × gHp) := k_33 x1 x2 (gsI h a0 7 ((h.1 a0 7) + 1))
set_option maxRecDepth 20000 in
set_option maxHeartbeats 4000000 in
theorem w_X10_readsNetwork_194 {w : gWd} {g : gCx} (C : gC w g cX10_readsNetwork wsX10_readsNetwork RX10 4 3 67) {a0 : Nat} (A0 : is_X10 w a0) (x1 : Int32) (x2 : Int32) (h : gHp) (k_33 : Int32 → Int32 → gHp → Option (Bool × gHp)) {o : Bool × gHp} (hk_33 : ∀ (y0 : Int32) (y1 : Int32) (y2 : gHp), k_33 y0 y1 y2 = some o → gX w g 4 y2 33 [(0, .ref a0), (1, .int y0), (2, .int y1)] []) (E : gEn w g (some .boolean) (some (.int (gZ o.1))) o.2) (hF : f_X10_readsNetwork_194 a0 x1 x2 h k_33 = some o) : gX w g 4 h 194 [(0, .ref a0), (1, .int x1), (2, .int x2)] ([]) := by
  rw [f_X10_readsNetwork_194] at hF
  refine gx_aload_n C 0 (gDec_at D_X10_readsNetwork 118 rfl) rfl rfl ?_
  refine gx_dup C (gDec_at D_X10_readsNetwork 119 rfl) rfl ?_
  refine gx_geti C fl_X10_readsNetwork_85 (is_X10_sh A0) rfl (gDec_at D_X10_readsNetwork 120 rfl) ?_
  refine gx_iconst C (v := 1) (gDec_at D_X10_readsNetwork 121 rfl) (by decide) ?_
  refine gx_iadd C (gDec_at D_X10_readsNetwork 122 rfl) ?_
  refine gx_putI C flw_X10_readsNetwork_85 (is_X10_sh A0) rfl rfl rfl (gDec_at D_X10_readsNetwork 123 rfl) ?_
  refine gx_goto C 33 (gDec_at D_X10_readsNetwork 124 rfl) (by decide) ?_
  exact gx_sub [0, 1, 2] rfl (hk_33 x1 x2 (gsI h a0 7 ((h.1 a0 7) + 1)) hF)
def f_X10_readsNetwork_84 (a0 : Nat) (x1 : Int32) (x2 : Int32) (x3 : Int32) (h : gHp) (k_33 : Int32 → Int32 → gHp → Option (Bool × gHp)) : Option (Bool × gHp) := if x2 = 0 then if x3 = 124 then f_X10_readsNetwork_194 a0 x1 1 h (fun y0 y1 y2 => k_33 y0 y1 y2) else if x3 = 43 then (f_X10_endsLink a0 x1 h).bind fun v11 => f_X10_readsNetwork_194 a0 x1 1 v11 (fun y0 y1 y2 => k_33 y0 y1 y2) else if x3 = 41 then if x1 = 0 then some (false, h) else (f_X10_endsChain a0 x1 h).bind fun v7 => if gIn (x1 + (-1)) 42 then if gIn (x1 + (-1)) 42 then f_X10_readsNetwork_194 a0 (x1 + (-1)) x2 (gsI v7 (a0 + 7) (gN (x1 + (-1))) ((v7.1 (a0 + 7) (gN (x1 + (-1)))) + 1)) (fun y0 y1 y2 => k_33 y0 y1 y2) else none else none else some (false, h) else (f_X10_in x3 97 102 h).bind fun v13 => if v13 = true then (f_X10_isRead a0 (x3 - 97) h).bind fun v15 => if v15 = true then some (false, h) else (f_X10_laysPart a0 0 (x3 - 97) 0 h).bind fun v17 => if gIn x1 42 then if gIn x1 42 then f_X10_readsNetwork_194 a0 x1 0 (gsI v17 (a0 + 7) (gN x1) ((v17.1 (a0 + 7) (gN x1)) + 1)) (fun y0 y1 y2 => k_33 y0 y1 y2) else none else none else some (false, h)
set_option maxRecDepth 20000 in
set_option maxHeartbeats 4000000 in
theorem w_X10_readsNetwork_84 {w : gWd} {g : gCx} (C : gC w g cX10_readsNetwork wsX10_readsNetwork RX10 4 3 67) {a0 : Nat} (A0 : is_X10 w a0) (x1 : Int32) (x2 : Int32) (x3 : Int32) (h : gHp) (k_33 : Int32 → Int32 → gHp → Option (Bool × gHp)) {o : Bool × gHp} (hk_33 : ∀ (y0 : Int32) (y1 : Int32) (y2 : gHp), k_33 y0 y1 y2 = some o → gX w g 4 y2 33 [(0, .ref a0), (1, .int y0), (2, .int y1)] []) (E : gEn w g (some .boolean) (some (.int (gZ o.1))) o.2) (hF : f_X10_readsNetwork_84 a0 x1 x2 x3 h k_33 = some o) : gX w g 4 h 84 [(0, .ref a0), (1, .int x1), (2, .int x2), (3, .int x3)] ([]) := by
  rw [f_X10_readsNetwork_84] at hF
  refine gx_iload_n C 2 (gDec_at D_X10_readsNetwork 51 rfl) rfl rfl ?_
  refine gx_if_eq C 137 (gDec_at D_X10_readsNetwork 52 rfl) (by decide) (fun c => ?_) (fun c => ?_)
  · replace hF := gPos c hF
    refine gx_iload_n C 3 (gDec_at D_X10_readsNetwork 84 rfl) rfl rfl ?_
    refine gx_bipush C (v := 124) (gDec_at D_X10_readsNetwork 85 rfl) (by decide) ?_
    refine gx_icmp_ne C 148 (gDec_at D_X10_readsNetwork 86 rfl) (by decide) (fun c => ?_) (fun c => ?_)
    · replace hF := gNeg c hF
      refine gx_iload_n C 3 (gDec_at D_X10_readsNetwork 90 rfl) rfl rfl ?_
      refine gx_bipush C (v := 43) (gDec_at D_X10_readsNetwork 91 rfl) (by decide) ?_
      refine gx_icmp_ne C 164 (gDec_at D_X10_readsNetwork 92 rfl) (by decide) (fun c => ?_) (fun c => ?_)
      · replace hF := gNeg c hF
        refine gx_iload_n C 3 (gDec_at D_X10_readsNetwork 99 rfl) rfl rfl ?_
        refine gx_bipush C (v := 41) (gDec_at D_X10_readsNetwork 100 rfl) (by decide) ?_
        refine gx_icmp_ne C 174 (gDec_at D_X10_readsNetwork 101 rfl) (by decide) (fun c => ?_) (fun c => ?_)
        · replace hF := gNeg c hF
          refine gx_iconst C (v := 0) (gDec_at D_X10_readsNetwork 104 rfl) (by decide) ?_
          obtain rfl := Option.some.inj hF
          exact gx_zret (b := false) C E (gDec_at D_X10_readsNetwork 105 rfl)
        · replace hF := gPos c hF
          refine gx_iload_n C 1 (gDec_at D_X10_readsNetwork 102 rfl) rfl rfl ?_
          refine gx_if_ne C 176 (gDec_at D_X10_readsNetwork 103 rfl) (by decide) (fun c => ?_) (fun c => ?_)
          · replace hF := gNeg c hF
            refine gx_aload_n C 0 (gDec_at D_X10_readsNetwork 106 rfl) rfl rfl ?_
            refine gx_iload_n C 1 (gDec_at D_X10_readsNetwork 107 rfl) rfl rfl ?_
            obtain ⟨v7, hv6, hF⟩ := gBind hF
            refine gx_callV0 C (st := []) 1 [.int x1] (m_X10_endsChain w h A0 x1 hv6) gX10_readsNetwork_X10_endsChain rfl rfl rfl hy_X10_endsChain (Nat.le_of_ble_eq_true rfl) (Nat.le_of_ble_eq_true rfl) (is_X10_sh A0) rfl rfl rfl (Nat.le_of_ble_eq_true rfl) (gDec_at D_X10_readsNetwork 108 rfl) ?_
            refine gx_iinc C (j := 1) (v := x1 + (-1)) (lv' := [(1, .int (x1 + (-1))), (0, .ref a0), (2, .int x2), (3, .int x3)]) (gDec_at D_X10_readsNetwork 109 rfl) rfl (by rfl) (Nat.le_of_ble_eq_true rfl) rfl ?_
            refine gx_aload_n C 1 (gDec_at D_X10_readsNetwork 110 rfl) rfl rfl ?_
            refine gx_getr C fl_X10_readsNetwork_30 (is_X10_sh A0) rfl (gDec_at D_X10_readsNetwork 111 rfl) ?_
            refine gx_iload_n C 0 (gDec_at D_X10_readsNetwork 112 rfl) rfl rfl ?_
            refine gx_dup2 C (gDec_at D_X10_readsNetwork 113 rfl) rfl rfl ?_
            obtain ⟨b8, hF⟩ := gGd hF
            refine gx_iaload C (is_X10_pieces A0) b8 (gDec_at D_X10_readsNetwork 114 rfl) ?_
            refine gx_iconst C (v := 1) (gDec_at D_X10_readsNetwork 115 rfl) (by decide) ?_
            refine gx_iadd C (gDec_at D_X10_readsNetwork 116 rfl) ?_
            obtain ⟨b9, hF⟩ := gGd hF
            refine gx_iastore C (is_X10_pieces A0) b9 (gDec_at D_X10_readsNetwork 117 rfl) ?_
            exact gx_sub [1, 0, 2] rfl (w_X10_readsNetwork_194 C A0 (x1 + (-1)) x2 (gsI v7 (a0 + 7) (gN (x1 + (-1))) ((v7.1 (a0 + 7) (gN (x1 + (-1)))) + 1)) _ (fun y0 y1 y2 hq => hk_33 y0 y1 y2 hq) E hF)
          · replace hF := gPos c hF
            refine gx_iconst C (v := 0) (gDec_at D_X10_readsNetwork 104 rfl) (by decide) ?_
            obtain rfl := Option.some.inj hF
            exact gx_zret (b := false) C E (gDec_at D_X10_readsNetwork 105 rfl)
      · replace hF := gPos c hF
        refine gx_aload_n C 0 (gDec_at D_X10_readsNetwork 93 rfl) rfl rfl ?_
        refine gx_iload_n C 1 (gDec_at D_X10_readsNetwork 94 rfl) rfl rfl ?_
        obtain ⟨v11, hv10, hF⟩ := gBind hF
        refine gx_callV0 C (st := []) 1 [.int x1] (m_X10_endsLink w h A0 x1 hv10) gX10_readsNetwork_X10_endsLink rfl rfl rfl hy_X10_endsLink (Nat.le_of_ble_eq_true rfl) (Nat.le_of_ble_eq_true rfl) (is_X10_sh A0) rfl rfl rfl (Nat.le_of_ble_eq_true rfl) (gDec_at D_X10_readsNetwork 95 rfl) ?_
        refine gx_iconst C (v := 1) (gDec_at D_X10_readsNetwork 96 rfl) (by decide) ?_
        refine gx_istore_n C (lv' := [(2, .int 1), (0, .ref a0), (1, .int x1), (3, .int x3)]) (gDec_at D_X10_readsNetwork 97 rfl) rfl (Nat.le_of_ble_eq_true rfl) rfl ?_
        refine gx_goto C 194 (gDec_at D_X10_readsNetwork 98 rfl) (by decide) ?_
        exact gx_sub [1, 2, 0] rfl (w_X10_readsNetwork_194 C A0 x1 1 v11 _ (fun y0 y1 y2 hq => hk_33 y0 y1 y2 hq) E hF)
    · replace hF := gPos c hF
      refine gx_iconst C (v := 1) (gDec_at D_X10_readsNetwork 87 rfl) (by decide) ?_
      refine gx_istore_n C (lv' := [(2, .int 1), (0, .ref a0), (1, .int x1), (3, .int x3)]) (gDec_at D_X10_readsNetwork 88 rfl) rfl (Nat.le_of_ble_eq_true rfl) rfl ?_
      refine gx_goto C 194 (gDec_at D_X10_readsNetwork 89 rfl) (by decide) ?_
      exact gx_sub [1, 2, 0] rfl (w_X10_readsNetwork_194 C A0 x1 1 h _ (fun y0 y1 y2 hq => hk_33 y0 y1 y2 hq) E hF)
  · replace hF := gNeg c hF
    refine gx_iload_n C 3 (gDec_at D_X10_readsNetwork 53 rfl) rfl rfl ?_
    refine gx_bipush C (v := 97) (gDec_at D_X10_readsNetwork 54 rfl) (by decide) ?_
    refine gx_bipush C (v := 102) (gDec_at D_X10_readsNetwork 55 rfl) (by decide) ?_
    obtain ⟨v13, hv12, hF⟩ := gBind hF
    refine gx_callS1 C (st := []) 3 [.int x3, .int 97, .int 102] (m_X10_in w h x3 97 102 hv12) gX10_readsNetwork_X10_in rfl rfl rfl hy_X10_in (Nat.le_of_ble_eq_true rfl) (Nat.le_of_ble_eq_true rfl) rfl rfl (Nat.le_of_ble_eq_true rfl) (gDec_at D_X10_readsNetwork 56 rfl) ?_
    refine gx_ifz_eq C 110 (gDec_at D_X10_readsNetwork 57 rfl) (by decide) (fun c => ?_) (fun c => ?_)
    · replace hF := gNeg c hF
      refine gx_iconst C (v := 0) (gDec_at D_X10_readsNetwork 64 rfl) (by decide) ?_
      obtain rfl := Option.some.inj hF
      exact gx_zret (b := false) C E (gDec_at D_X10_readsNetwork 65 rfl)
    · replace hF := gPos c hF
      refine gx_aload_n C 0 (gDec_at D_X10_readsNetwork 58 rfl) rfl rfl ?_
      refine gx_iload_n C 3 (gDec_at D_X10_readsNetwork 59 rfl) rfl rfl ?_
      refine gx_bipush C (v := 97) (gDec_at D_X10_readsNetwork 60 rfl) (by decide) ?_
      refine gx_isub C (gDec_at D_X10_readsNetwork 61 rfl) ?_
      obtain ⟨v15, hv14, hF⟩ := gBind hF
      refine gx_callV1 C (st := []) 1 [.int (x3 - 97)] (m_X10_isRead w h A0 (x3 - 97) hv14) gX10_readsNetwork_X10_isRead rfl rfl rfl hy_X10_isRead (Nat.le_of_ble_eq_true rfl) (Nat.le_of_ble_eq_true rfl) (is_X10_sh A0) rfl rfl rfl (Nat.le_of_ble_eq_true rfl) (gDec_at D_X10_readsNetwork 62 rfl) ?_
      refine gx_ifz_eq C 112 (gDec_at D_X10_readsNetwork 63 rfl) (by decide) (fun c => ?_) (fun c => ?_)
      · replace hF := gNeg c hF
        refine gx_aload_n C 0 (gDec_at D_X10_readsNetwork 66 rfl) rfl rfl ?_
        refine gx_iconst C (v := 0) (gDec_at D_X10_readsNetwork 67 rfl) (by decide) ?_
        refine gx_iload_n C 3 (gDec_at D_X10_readsNetwork 68 rfl) rfl rfl ?_
        refine gx_bipush C (v := 97) (gDec_at D_X10_readsNetwork 69 rfl) (by decide) ?_
        refine gx_isub C (gDec_at D_X10_readsNetwork 70 rfl) ?_
        refine gx_iconst C (v := 0) (gDec_at D_X10_readsNetwork 71 rfl) (by decide) ?_
        obtain ⟨v17, hv16, hF⟩ := gBind hF
        refine gx_callV0 C (st := []) 3 [.int 0, .int (x3 - 97), .int 0] (m_X10_laysPart w h A0 0 (x3 - 97) 0 hv16) gX10_readsNetwork_X10_laysPart rfl rfl rfl hy_X10_laysPart (Nat.le_of_ble_eq_true rfl) (Nat.le_of_ble_eq_true rfl) (is_X10_sh A0) rfl rfl rfl (Nat.le_of_ble_eq_true rfl) (gDec_at D_X10_readsNetwork 72 rfl) ?_
        refine gx_aload_n C 0 (gDec_at D_X10_readsNetwork 73 rfl) rfl rfl ?_
        refine gx_getr C fl_X10_readsNetwork_30 (is_X10_sh A0) rfl (gDec_at D_X10_readsNetwork 74 rfl) ?_
        refine gx_iload_n C 1 (gDec_at D_X10_readsNetwork 75 rfl) rfl rfl ?_
        refine gx_dup2 C (gDec_at D_X10_readsNetwork 76 rfl) rfl rfl ?_
        obtain ⟨b18, hF⟩ := gGd hF
        refine gx_iaload C (is_X10_pieces A0) b18 (gDec_at D_X10_readsNetwork 77 rfl) ?_
        refine gx_iconst C (v := 1) (gDec_at D_X10_readsNetwork 78 rfl) (by decide) ?_
        refine gx_iadd C (gDec_at D_X10_readsNetwork 79 rfl) ?_
        obtain ⟨b19, hF⟩ := gGd hF
        refine gx_iastore C (is_X10_pieces A0) b19 (gDec_at D_X10_readsNetwork 80 rfl) ?_
        refine gx_iconst C (v := 0) (gDec_at D_X10_readsNetwork 81 rfl) (by decide) ?_
        refine gx_istore_n C (lv' := [(2, .int 0), (0, .ref a0), (1, .int x1), (3, .int x3)]) (gDec_at D_X10_readsNetwork 82 rfl) rfl (Nat.le_of_ble_eq_true rfl) rfl ?_
        refine gx_goto C 194 (gDec_at D_X10_readsNetwork 83 rfl) (by decide) ?_
        exact gx_sub [1, 2, 0] rfl (w_X10_readsNetwork_194 C A0 x1 0 (gsI v17 (a0 + 7) (gN x1) ((v17.1 (a0 + 7) (gN x1)) + 1)) _ (fun y0 y1 y2 hq => hk_33 y0 y1 y2 hq) E hF)
      · replace hF := gPos c hF
        refine gx_iconst C (v := 0) (gDec_at D_X10_readsNetwork 64 rfl) (by decide) ?_
        obtain rfl := Option.some.inj hF
        exact gx_zret (b := false) C E (gDec_at D_X10_readsNetwork 65 rfl)
def f_X10_readsNetwork_33 (a0 : Nat) : Nat → Int32 → Int32 → gHp → Option (Bool × gHp)
  | 0, _, _, _ => none
  | n + 1, x1, x2, h => if (h.1 a0 5) ≤ (h.1 a0 7) then if x2 = 0 then if x1 ≤ 0 then (f_X10_endsChain a0 0 h).bind fun v4 => some (true, v4) else some (false, h) else some (false, h) else if gIn (h.1 a0 7) 40 then if x2 = 0 then f_X10_readsNetwork_84 a0 x1 x2 (h.1 (a0 + 4) (gN (h.1 a0 7))) h (fun y0 y1 y2 => f_X10_readsNetwork_33 a0 n y0 y1 y2) else if (h.1 (a0 + 4) (gN (h.1 a0 7))) = 40 then if gIn (x1 + 1) 42 then if gIn (x1 + 1) 42 then f_X10_readsNetwork_194 a0 (x1 + 1) x2 (gsI (gsI h (a0 + 7) (gN (x1 + 1)) 0) (a0 + 8) (gN (x1 + 1)) 0) (fun y0 y1 y2 => f_X10_readsNetwork_33 a0 n y0 y1 y2) else none else none else f_X10_readsNetwork_84 a0 x1 x2 (h.1 (a0 + 4) (gN (h.1 a0 7))) h (fun y0 y1 y2 => f_X10_readsNetwork_33 a0 n y0 y1 y2) else none
set_option maxRecDepth 20000 in
set_option maxHeartbeats 4000000 in
theorem w_X10_readsNetwork_33 {w : gWd} {g : gCx} (C : gC w g cX10_readsNetwork wsX10_readsNetwork RX10 4 3 67) {a0 : Nat} (A0 : is_X10 w a0)  {o : Bool × gHp} (E : gEn w g (some .boolean) (some (.int (gZ o.1))) o.2) : ∀ (n : Nat) (x1 : Int32) (x2 : Int32) (h : gHp), f_X10_readsNetwork_33 a0 n x1 x2 h = some o → gX w g 4 h 33 [(0, .ref a0), (1, .int x1), (2, .int x2)] [] := by
  intro n
  induction n with
  | zero => intro _ _ _ hF; cases hF
  | succ n ih =>
    intro x1 x2 h hF
    rw [f_X10_readsNetwork_33] at hF
    refine gx_aload_n C 0 (gDec_at D_X10_readsNetwork 23 rfl) rfl rfl ?_
    refine gx_geti C fl_X10_readsNetwork_85 (is_X10_sh A0) rfl (gDec_at D_X10_readsNetwork 24 rfl) ?_
    refine gx_aload_n C 0 (gDec_at D_X10_readsNetwork 25 rfl) rfl rfl ?_
    refine gx_geti C fl_X10_readsNetwork_68 (is_X10_sh A0) rfl (gDec_at D_X10_readsNetwork 26 rfl) ?_
    refine gx_icmp_ge C 207 (gDec_at D_X10_readsNetwork 27 rfl) (by decide) (fun c => ?_) (fun c => ?_)
    · replace hF := gPos c hF
      refine gx_iload_n C 2 (gDec_at D_X10_readsNetwork 125 rfl) rfl rfl ?_
      refine gx_if_ne C 215 (gDec_at D_X10_readsNetwork 126 rfl) (by decide) (fun c => ?_) (fun c => ?_)
      · replace hF := gNeg c hF
        refine gx_iconst C (v := 0) (gDec_at D_X10_readsNetwork 129 rfl) (by decide) ?_
        obtain rfl := Option.some.inj hF
        exact gx_zret (b := false) C E (gDec_at D_X10_readsNetwork 130 rfl)
      · replace hF := gPos c hF
        refine gx_iload_n C 1 (gDec_at D_X10_readsNetwork 127 rfl) rfl rfl ?_
        refine gx_if_le C 217 (gDec_at D_X10_readsNetwork 128 rfl) (by decide) (fun c => ?_) (fun c => ?_)
        · replace hF := gPos c hF
          refine gx_aload_n C 0 (gDec_at D_X10_readsNetwork 131 rfl) rfl rfl ?_
          refine gx_iconst C (v := 0) (gDec_at D_X10_readsNetwork 132 rfl) (by decide) ?_
          obtain ⟨v4, hv3, hF⟩ := gBind hF
          refine gx_callV0 C (st := []) 1 [.int 0] (m_X10_endsChain w h A0 0 hv3) gX10_readsNetwork_X10_endsChain rfl rfl rfl hy_X10_endsChain (Nat.le_of_ble_eq_true rfl) (Nat.le_of_ble_eq_true rfl) (is_X10_sh A0) rfl rfl rfl (Nat.le_of_ble_eq_true rfl) (gDec_at D_X10_readsNetwork 133 rfl) ?_
          refine gx_iconst C (v := 1) (gDec_at D_X10_readsNetwork 134 rfl) (by decide) ?_
          obtain rfl := Option.some.inj hF
          exact gx_zret (b := true) C E (gDec_at D_X10_readsNetwork 135 rfl)
        · replace hF := gNeg c hF
          refine gx_iconst C (v := 0) (gDec_at D_X10_readsNetwork 129 rfl) (by decide) ?_
          obtain rfl := Option.some.inj hF
          exact gx_zret (b := false) C E (gDec_at D_X10_readsNetwork 130 rfl)
    · replace hF := gNeg c hF
      refine gx_aload_n C 0 (gDec_at D_X10_readsNetwork 28 rfl) rfl rfl ?_
      refine gx_getr C fl_X10_readsNetwork_19 (is_X10_sh A0) rfl (gDec_at D_X10_readsNetwork 29 rfl) ?_
      refine gx_aload_n C 0 (gDec_at D_X10_readsNetwork 30 rfl) rfl rfl ?_
      refine gx_geti C fl_X10_readsNetwork_85 (is_X10_sh A0) rfl (gDec_at D_X10_readsNetwork 31 rfl) ?_
      obtain ⟨b5, hF⟩ := gGd hF
      refine gx_caload C (is_X10_text A0) b5 (gDec_at D_X10_readsNetwork 32 rfl) ?_
      refine gx_istore_n C (lv' := [(3, .int (h.1 (a0 + 4) (gN (h.1 a0 7)))), (0, .ref a0), (1, .int x1), (2, .int x2)]) (gDec_at D_X10_readsNetwork 33 rfl) rfl (Nat.le_of_ble_eq_true rfl) rfl ?_
      refine gx_iload_n C 3 (gDec_at D_X10_readsNetwork 34 rfl) rfl rfl ?_
      refine gx_if_eq C 84 (gDec_at D_X10_readsNetwork 35 rfl) (by decide) (fun c => ?_) (fun c => ?_)
      · replace hF := gPos c hF
        exact gx_sub [1, 2, 3, 0] rfl (w_X10_readsNetwork_84 C A0 x1 x2 (h.1 (a0 + 4) (gN (h.1 a0 7))) h _ (fun y0 y1 y2 hq => ih y0 y1 y2 hq) E hF)
      · replace hF := gNeg c hF
        refine gx_iload_n C 0 (gDec_at D_X10_readsNetwork 36 rfl) rfl rfl ?_
        refine gx_bipush C (v := 40) (gDec_at D_X10_readsNetwork 37 rfl) (by decide) ?_
        refine gx_icmp_ne C 84 (gDec_at D_X10_readsNetwork 38 rfl) (by decide) (fun c => ?_) (fun c => ?_)
        · replace hF := gNeg c hF
          exact gx_sub [1, 2, 3, 0] rfl (w_X10_readsNetwork_84 C A0 x1 x2 (h.1 (a0 + 4) (gN (h.1 a0 7))) h _ (fun y0 y1 y2 hq => ih y0 y1 y2 hq) E hF)
        · replace hF := gPos c hF
          refine gx_iinc C (j := 2) (v := x1 + 1) (lv' := [(1, .int (x1 + 1)), (3, .int (h.1 (a0 + 4) (gN (h.1 a0 7)))), (0, .ref a0), (2, .int x2)]) (gDec_at D_X10_readsNetwork 39 rfl) rfl (by rfl) (Nat.le_of_ble_eq_true rfl) rfl ?_
          refine gx_aload_n C 2 (gDec_at D_X10_readsNetwork 40 rfl) rfl rfl ?_
          refine gx_getr C fl_X10_readsNetwork_30 (is_X10_sh A0) rfl (gDec_at D_X10_readsNetwork 41 rfl) ?_
          refine gx_iload_n C 0 (gDec_at D_X10_readsNetwork 42 rfl) rfl rfl ?_
          refine gx_iconst C (v := 0) (gDec_at D_X10_readsNetwork 43 rfl) (by decide) ?_
          obtain ⟨b20, hF⟩ := gGd hF
          refine gx_iastore C (is_X10_pieces A0) b20 (gDec_at D_X10_readsNetwork 44 rfl) ?_
          refine gx_aload_n C 2 (gDec_at D_X10_readsNetwork 45 rfl) rfl rfl ?_
          refine gx_getr C fl_X10_readsNetwork_33 (is_X10_sh A0) rfl (gDec_at D_X10_readsNetwork 46 rfl) ?_
          refine gx_iload_n C 0 (gDec_at D_X10_readsNetwork 47 rfl) rfl rfl ?_
          refine gx_iconst C (v := 0) (gDec_at D_X10_readsNetwork 48 rfl) (by decide) ?_
          obtain ⟨b21, hF⟩ := gGd hF
          refine gx_iastore C (is_X10_links A0) b21 (gDec_at D_X10_readsNetwork 49 rfl) ?_
          refine gx_goto C 194 (gDec_at D_X10_readsNetwork 50 rfl) (by decide) ?_
          exact gx_sub [2, 0, 3] rfl (w_X10_readsNetwork_194 C A0 (x1 + 1) x2 (gsI (gsI h (a0 + 7) (gN (x1 + 1)) 0) (a0 + 8) (gN (x1 + 1)) 0) _ (fun y0 y1 y2 hq => ih y0 y1 y2 hq) E hF)
def f_X10_readsNetwork (a0 : Nat) (h : gHp) : Option (Bool × gHp) := if gIn 0 42 then if gIn 0 42 then f_X10_readsNetwork_33 a0 gFuel 0 1 (gsI (gsI (gsI (gsI (gsI h a0 8 0) a0 11 0) (a0 + 7) (gN 0) 0) (a0 + 8) (gN 0) 0) a0 7 0) else none else none
set_option maxRecDepth 20000 in
set_option maxHeartbeats 4000000 in
theorem m_X10_readsNetwork (w : gWd) (h : gHp) {a0 : Nat} (A0 : is_X10 w a0) {o : Bool × gHp} (hF : f_X10_readsNetwork a0 h = some o) : gMet w yX10_readsNetwork wsX10_readsNetwork rm_X10_readsNetwork [.ref a0] h (some (.int (gZ o.1))) o.2 := by
  refine gMet_of (cc := cX10_readsNetwork) (maxL := 4) (ret := (some .boolean)) (fr := 3) (lo := 67) (own := RX10) [(0, .ref a0)] (by decide) rfl rfl (Nat.le_of_ble_eq_true rfl) rfl (Nat.le_refl _) (Nat.le_refl _) (fun g C E => ?_)
  rw [f_X10_readsNetwork] at hF
  refine gx_aload_n C 0 (gDec_at D_X10_readsNetwork 0 rfl) rfl rfl ?_
  refine gx_iconst C (v := 0) (gDec_at D_X10_readsNetwork 1 rfl) (by decide) ?_
  refine gx_putI C flw_X10_readsNetwork_71 (is_X10_sh A0) rfl rfl rfl (gDec_at D_X10_readsNetwork 2 rfl) ?_
  refine gx_aload_n C 0 (gDec_at D_X10_readsNetwork 3 rfl) rfl rfl ?_
  refine gx_iconst C (v := 0) (gDec_at D_X10_readsNetwork 4 rfl) (by decide) ?_
  refine gx_putI C flw_X10_readsNetwork_74 (is_X10_sh A0) rfl rfl rfl (gDec_at D_X10_readsNetwork 5 rfl) ?_
  refine gx_iconst C (v := 0) (gDec_at D_X10_readsNetwork 6 rfl) (by decide) ?_
  refine gx_istore_n C (lv' := [(1, .int 0), (0, .ref a0)]) (gDec_at D_X10_readsNetwork 7 rfl) rfl (Nat.le_of_ble_eq_true rfl) rfl ?_
  refine gx_aload_n C 1 (gDec_at D_X10_readsNetwork 8 rfl) rfl rfl ?_
  refine gx_getr C fl_X10_readsNetwork_30 (is_X10_sh A0) rfl (gDec_at D_X10_readsNetwork 9 rfl) ?_
  refine gx_iconst C (v := 0) (gDec_at D_X10_readsNetwork 10 rfl) (by decide) ?_
  refine gx_iconst C (v := 0) (gDec_at D_X10_readsNetwork 11 rfl) (by decide) ?_
  obtain ⟨b1, hF⟩ := gGd hF
  refine gx_iastore C (is_X10_pieces A0) b1 (gDec_at D_X10_readsNetwork 12 rfl) ?_
  refine gx_aload_n C 1 (gDec_at D_X10_readsNetwork 13 rfl) rfl rfl ?_
  refine gx_getr C fl_X10_readsNetwork_33 (is_X10_sh A0) rfl (gDec_at D_X10_readsNetwork 14 rfl) ?_
  refine gx_iconst C (v := 0) (gDec_at D_X10_readsNetwork 15 rfl) (by decide) ?_
  refine gx_iconst C (v := 0) (gDec_at D_X10_readsNetwork 16 rfl) (by decide) ?_
  obtain ⟨b2, hF⟩ := gGd hF
  refine gx_iastore C (is_X10_links A0) b2 (gDec_at D_X10_readsNetwork 17 rfl) ?_
  refine gx_iconst C (v := 1) (gDec_at D_X10_readsNetwork 18 rfl) (by decide) ?_
  refine gx_istore_n C (lv' := [(2, .int 1), (1, .int 0), (0, .ref a0)]) (gDec_at D_X10_readsNetwork 19 rfl) rfl (Nat.le_of_ble_eq_true rfl) rfl ?_
  refine gx_aload_n C 2 (gDec_at D_X10_readsNetwork 20 rfl) rfl rfl ?_
  refine gx_iconst C (v := 0) (gDec_at D_X10_readsNetwork 21 rfl) (by decide) ?_
  refine gx_putI C flw_X10_readsNetwork_85 (is_X10_sh A0) rfl rfl rfl (gDec_at D_X10_readsNetwork 22 rfl) ?_
  exact gx_sub [2, 1, 0] rfl (w_X10_readsNetwork_33 C A0   E gFuel 0 1 (gsI (gsI (gsI (gsI (gsI h a0 8 0) a0 11 0) (a0 + 7) (gN 0) 0) (a0 + 8) (gN 0) 0) a0 7 0) hF)
/-! LadderBenchModel.readNetwork -/
def rm_X10_readNetwork : Room := { frames := 4, cells := 0, slots := 0, locals := 90 }
set_option maxRecDepth 20000 in
theorem ggX10_readNetwork_X10_readsNetwork : GoodIn wsX10_readNetwork wsX10_readsNetwork := goodIn_r _ [10, 3, 11, 12, 13, 1, 14, 15, 16, 17, 9, 18, 19, 20, 21, 22, 4, 23, 24, 25, 26, 27, 28, 29, 30, 31, 32, 33, 34, 35, 42, 43, 44, 45, 46, 47, 48, 49, 50, 51, 52, 53, 54, 55, 56, 57, 58, 59, 60, 61, 62, 63, 64, 65, 66, 67] (by decide +kernel) (by decide +kernel)
set_option maxRecDepth 20000 in
theorem gX10_readNetwork_X10_readsNetwork : GoodIn wsX10_readNetwork (wsV RX10 95 RX10 yX10_readsNetwork wsX10_readsNetwork) := goodIn_app (goodIn_of _ (by decide +kernel)) ggX10_readNetwork_X10_readsNetwork
set_option maxRecDepth 20000 in
theorem ggX10_readNetwork_X10_record : GoodIn wsX10_readNetwork wsX10_record := goodIn_r _ [39, 40, 41, 2, 42, 43, 44, 45, 46, 47, 48, 49, 50, 51, 52, 53, 54, 55, 56, 57, 58, 59, 60, 61, 62, 63, 64, 65, 66, 67] (by decide +kernel) (by decide +kernel)
set_option maxRecDepth 20000 in
theorem gX10_readNetwork_X10_record : GoodIn wsX10_readNetwork (wsV RX10 99 RX10 yX10_record wsX10_record) := goodIn_app (goodIn_of _ (by decide +kernel)) ggX10_readNetwork_X10_record
theorem hy_X10_readNetwork : yX10_readNetwork.cls = RX10 ∧ yX10_readNetwork.cls ≠ "java/lang/invoke/MethodHandle" ∧ yX10_readNetwork.cls ≠ "java/lang/invoke/VarHandle" ∧ (parseMethodDescriptor yX10_readNetwork.desc).map (fun d => d.parameters.length) = some 0 := by decide +kernel
set_option maxRecDepth 100000 in
theorem D_X10_readNetwork : gDec cX10_readNetwork [(0, (.aload_n 0, 1)), (1, (.invokevirtual 95, 3)), (4, (.ifCond .ne 11, 3)), (7, (.bipush (-100), 2)), (9, (.aload_n 0, 1)), (10, (.getfield 85, 3)), (13, (.isub, 1)), (14, (.ireturn, 1)), (15, (.aload_n 0, 1)), (16, (.invokevirtual 99, 3)), (19, (.aload_n 0, 1)), (20, (.getfield 7, 3)), (23, (.iconst 0, 1)), (24, (.aload_n 0, 1)), (25, (.getfield 71, 3)), (28, (.i2l, 1)), (29, (.lastore, 1)), (30, (.iconst 0, 1)), (31, (.istore_n 1, 1)), (32, (.iload_n 1, 1)), (33, (.bipush 6, 2)), (35, (.if_icmp .ge 23, 3)), (38, (.aload_n 0, 1)), (39, (.getfield 7, 3)), (42, (.bipush 8, 2)), (44, (.iconst 3, 1)), (45, (.iload_n 1, 1)), (46, (.imul, 1)), (47, (.iadd, 1)), (48, (.iconst 2, 1)), (49, (.iadd, 1)), (50, (.lconst 0, 1)), (51, (.lastore, 1)), (52, (.iinc 1 1, 3)), (55, (.goto (-23), 3)), (58, (.iconst 0, 1)), (59, (.istore_n 1, 1)), (60, (.iload_n 1, 1)), (61, (.iconst 5, 1)), (62, (.aload_n 0, 1)), (63, (.getfield 71, 3)), (66, (.imul, 1)), (67, (.if_icmp .ge 25, 3)), (70, (.aload_n 0, 1)), (71, (.getfield 7, 3)), (74, (.bipush 26, 2)), (76, (.iload_n 1, 1)), (77, (.iadd, 1)), (78, (.aload_n 0, 1)), (79, (.getfield 23, 3)), (82, (.iload_n 1, 1)), (83, (.iaload, 1)), (84, (.i2l, 1)), (85, (.lastore, 1)), (86, (.iinc 1 1, 3)), (89, (.goto (-29), 3)), (92, (.iconst 0, 1)), (93, (.istore_n 1, 1)), (94, (.iload_n 1, 1)), (95, (.aload_n 0, 1)), (96, (.getfield 71, 3)), (99, (.if_icmp .ge 70, 3)), (102, (.aload_n 0, 1)), (103, (.getfield 23, 3)), (106, (.iconst 5, 1)), (107, (.iload_n 1, 1)), (108, (.imul, 1)), (109, (.iconst 0, 1)), (110, (.iadd, 1)), (111, (.iaload, 1)), (112, (.ifCond .ne 51, 3)), (115, (.bipush 8, 2)), (117, (.iconst 3, 1)), (118, (.aload_n 0, 1)), (119, (.getfield 23, 3)), (122, (.iconst 5, 1)), (123, (.iload_n 1, 1)), (124, (.imul, 1)), (125, (.iconst 2, 1)), (126, (.iadd, 1)), (127, (.iaload, 1)), (128, (.imul, 1)), (129, (.iadd, 1)), (130, (.istore_n 2, 1)), (131, (.aload_n 0, 1)), (132, (.getfield 7, 3)), (135, (.iload_n 2, 1)), (136, (.iconst 0, 1)), (137, (.iadd, 1)), (138, (.ldc2_w 102, 3)), (141, (.lastore, 1)), (142, (.aload_n 0, 1)), (143, (.getfield 7, 3)), (146, (.iload_n 2, 1)), (147, (.iconst 1, 1)), (148, (.iadd, 1)), (149, (.lconst 0, 1)), (150, (.lastore, 1)), (151, (.aload_n 0, 1)), (152, (.getfield 7, 3)), (155, (.iload_n 2, 1)), (156, (.iconst 2, 1)), (157, (.iadd, 1)), (158, (.iload_n 1, 1)), (159, (.iconst 1, 1)), (160, (.iadd, 1)), (161, (.i2l, 1)), (162, (.lastore, 1)), (163, (.iinc 1 1, 3)), (166, (.goto (-72), 3)), (169, (.aload_n 0, 1)), (170, (.getfield 71, 3)), (173, (.ireturn, 1))] = true := by decide +kernel
set_option maxRecDepth 100000 in
theorem in_X10_readNetwork_X10 : ∀ x ∈ u_ws RX10 TX10 26, x ∈ wsX10_readNetwork := by decide +kernel
theorem fl_X10_readNetwork_7 : gF wsX10_readNetwork RX10 7 10 0 := ⟨RX10, TX10, 26, rfl, by decide, in_X10_readNetwork_X10, by decide +kernel⟩
theorem fl_X10_readNetwork_71 : gF wsX10_readNetwork RX10 71 10 8 := ⟨RX10, TX10, 26, rfl, by decide, in_X10_readNetwork_X10, by decide +kernel⟩
theorem fl_X10_readNetwork_23 : gF wsX10_readNetwork RX10 23 10 9 := ⟨RX10, TX10, 26, rfl, by decide, in_X10_readNetwork_X10, by decide +kernel⟩
theorem lc_X10_readNetwork_102 : Jvm.Cond.constantLong RX10 102 10 ∈ wsX10_readNetwork := by decide +kernel
theorem fl_X10_readNetwork_85 : gF wsX10_readNetwork RX10 85 10 7 := ⟨RX10, TX10, 26, rfl, by decide, in_X10_readNetwork_X10, by decide +kernel⟩
def f_X10_readNetwork_32 (a0 : Nat) : Nat → Int32 → gHp → Option (gHp)
  | 0, _, _ => none
  | n + 1, x1, h => if 6 ≤ x1 then some h else if gIn ((8 + (3 * x1)) + 2) 141 then f_X10_readNetwork_32 a0 n (x1 + 1) (gsL h (a0 + 1) (gN ((8 + (3 * x1)) + 2)) 0) else none
set_option maxRecDepth 20000 in
set_option maxHeartbeats 4000000 in
theorem w_X10_readNetwork_32 {w : gWd} {g : gCx} (C : gC w g cX10_readNetwork wsX10_readNetwork RX10 3 4 90) {a0 : Nat} (A0 : is_X10 w a0)  {o : gHp} (hk : gX w g 3 o 58 [(0, .ref a0)] []) : ∀ (n : Nat) (x1 : Int32) (h : gHp), f_X10_readNetwork_32 a0 n x1 h = some o → gX w g 3 h 32 [(0, .ref a0), (1, .int x1)] [] := by
  intro n
  induction n with
  | zero => intro _ _ hF; cases hF
  | succ n ih =>
    intro x1 h hF
    rw [f_X10_readNetwork_32] at hF
    refine gx_iload_n C 1 (gDec_at D_X10_readNetwork 19 rfl) rfl rfl ?_
    refine gx_bipush C (v := 6) (gDec_at D_X10_readNetwork 20 rfl) (by decide) ?_
    refine gx_icmp_ge C 58 (gDec_at D_X10_readNetwork 21 rfl) (by decide) (fun c => ?_) (fun c => ?_)
    · replace hF := gPos c hF
      obtain rfl := Option.some.inj hF
      exact gx_sub [0] rfl hk
    · replace hF := gNeg c hF
      refine gx_aload_n C 0 (gDec_at D_X10_readNetwork 22 rfl) rfl rfl ?_
      refine gx_getr C fl_X10_readNetwork_7 (is_X10_sh A0) rfl (gDec_at D_X10_readNetwork 23 rfl) ?_
      refine gx_bipush C (v := 8) (gDec_at D_X10_readNetwork 24 rfl) (by decide) ?_
      refine gx_iconst C (v := 3) (gDec_at D_X10_readNetwork 25 rfl) (by decide) ?_
      refine gx_iload_n C 1 (gDec_at D_X10_readNetwork 26 rfl) rfl rfl ?_
      refine gx_imul C (gDec_at D_X10_readNetwork 27 rfl) ?_
      refine gx_iadd C (gDec_at D_X10_readNetwork 28 rfl) ?_
      refine gx_iconst C (v := 2) (gDec_at D_X10_readNetwork 29 rfl) (by decide) ?_
      refine gx_iadd C (gDec_at D_X10_readNetwork 30 rfl) ?_
      refine gx_lconst C (v := 0) (gDec_at D_X10_readNetwork 31 rfl) (by decide) ?_
      obtain ⟨b6, hF⟩ := gGd hF
      refine gx_lastore C (is_X10_now A0) b6 (gDec_at D_X10_readNetwork 32 rfl) ?_
      refine gx_iinc C (j := 1) (v := x1 + 1) (lv' := [(1, .int (x1 + 1)), (0, .ref a0)]) (gDec_at D_X10_readNetwork 33 rfl) rfl (by rfl) (Nat.le_of_ble_eq_true rfl) rfl ?_
      refine gx_goto C 32 (gDec_at D_X10_readNetwork 34 rfl) (by decide) ?_
      exact gx_sub [1, 0] rfl (ih (x1 + 1) (gsL h (a0 + 1) (gN ((8 + (3 * x1)) + 2)) 0) hF)
def f_X10_readNetwork_60 (a0 : Nat) : Nat → Int32 → gHp → Option (gHp)
  | 0, _, _ => none
  | n + 1, x1, h => if (5 * (h.1 a0 8)) ≤ x1 then some h else if gIn x1 60 then if gIn (26 + x1) 141 then f_X10_readNetwork_60 a0 n (x1 + 1) (gsL h (a0 + 1) (gN (26 + x1)) ((h.1 (a0 + 5) (gN x1)).toInt64)) else none else none
set_option maxRecDepth 20000 in
set_option maxHeartbeats 4000000 in
theorem w_X10_readNetwork_60 {w : gWd} {g : gCx} (C : gC w g cX10_readNetwork wsX10_readNetwork RX10 3 4 90) {a0 : Nat} (A0 : is_X10 w a0)  {o : gHp} (hk : gX w g 3 o 92 [(0, .ref a0)] []) : ∀ (n : Nat) (x1 : Int32) (h : gHp), f_X10_readNetwork_60 a0 n x1 h = some o → gX w g 3 h 60 [(0, .ref a0), (1, .int x1)] [] := by
  intro n
  induction n with
  | zero => intro _ _ hF; cases hF
  | succ n ih =>
    intro x1 h hF
    rw [f_X10_readNetwork_60] at hF
    refine gx_iload_n C 1 (gDec_at D_X10_readNetwork 37 rfl) rfl rfl ?_
    refine gx_iconst C (v := 5) (gDec_at D_X10_readNetwork 38 rfl) (by decide) ?_
    refine gx_aload_n C 0 (gDec_at D_X10_readNetwork 39 rfl) rfl rfl ?_
    refine gx_geti C fl_X10_readNetwork_71 (is_X10_sh A0) rfl (gDec_at D_X10_readNetwork 40 rfl) ?_
    refine gx_imul C (gDec_at D_X10_readNetwork 41 rfl) ?_
    refine gx_icmp_ge C 92 (gDec_at D_X10_readNetwork 42 rfl) (by decide) (fun c => ?_) (fun c => ?_)
    · replace hF := gPos c hF
      obtain rfl := Option.some.inj hF
      exact gx_sub [0] rfl hk
    · replace hF := gNeg c hF
      refine gx_aload_n C 0 (gDec_at D_X10_readNetwork 43 rfl) rfl rfl ?_
      refine gx_getr C fl_X10_readNetwork_7 (is_X10_sh A0) rfl (gDec_at D_X10_readNetwork 44 rfl) ?_
      refine gx_bipush C (v := 26) (gDec_at D_X10_readNetwork 45 rfl) (by decide) ?_
      refine gx_iload_n C 1 (gDec_at D_X10_readNetwork 46 rfl) rfl rfl ?_
      refine gx_iadd C (gDec_at D_X10_readNetwork 47 rfl) ?_
      refine gx_aload_n C 0 (gDec_at D_X10_readNetwork 48 rfl) rfl rfl ?_
      refine gx_getr C fl_X10_readNetwork_23 (is_X10_sh A0) rfl (gDec_at D_X10_readNetwork 49 rfl) ?_
      refine gx_iload_n C 1 (gDec_at D_X10_readNetwork 50 rfl) rfl rfl ?_
      obtain ⟨b10, hF⟩ := gGd hF
      refine gx_iaload C (is_X10_read A0) b10 (gDec_at D_X10_readNetwork 51 rfl) ?_
      refine gx_i2l C (gDec_at D_X10_readNetwork 52 rfl) ?_
      obtain ⟨b11, hF⟩ := gGd hF
      refine gx_lastore C (is_X10_now A0) b11 (gDec_at D_X10_readNetwork 53 rfl) ?_
      refine gx_iinc C (j := 1) (v := x1 + 1) (lv' := [(1, .int (x1 + 1)), (0, .ref a0)]) (gDec_at D_X10_readNetwork 54 rfl) rfl (by rfl) (Nat.le_of_ble_eq_true rfl) rfl ?_
      refine gx_goto C 60 (gDec_at D_X10_readNetwork 55 rfl) (by decide) ?_
      exact gx_sub [1, 0] rfl (ih (x1 + 1) (gsL h (a0 + 1) (gN (26 + x1)) ((h.1 (a0 + 5) (gN x1)).toInt64)) hF)
def f_X10_readNetwork_94 (a0 : Nat) : Nat → Int32 → gHp → Option (gHp)
  | 0, _, _ => none
  | n + 1, x1, h => if (h.1 a0 8) ≤ x1 then some h else if gIn ((5 * x1) + 0) 60 then if (h.1 (a0 + 5) (gN ((5 * x1) + 0))) = 0 then if gIn ((5 * x1) + 2) 60 then if gIn ((8 + (3 * (h.1 (a0 + 5) (gN ((5 * x1) + 2))))) + 0) 141 then if gIn ((8 + (3 * (h.1 (a0 + 5) (gN ((5 * x1) + 2))))) + 1) 141 then if gIn ((8 + (3 * (h.1 (a0 + 5) (gN ((5 * x1) + 2))))) + 2) 141 then f_X10_readNetwork_94 a0 n (x1 + 1) (gsL (gsL (gsL h (a0 + 1) (gN ((8 + (3 * (h.1 (a0 + 5) (gN ((5 * x1) + 2))))) + 0)) 10) (a0 + 1) (gN ((8 + (3 * (h.1 (a0 + 5) (gN ((5 * x1) + 2))))) + 1)) 0) (a0 + 1) (gN ((8 + (3 * (h.1 (a0 + 5) (gN ((5 * x1) + 2))))) + 2)) ((x1 + 1).toInt64)) else none else none else none else none else f_X10_readNetwork_94 a0 n (x1 + 1) h else none
set_option maxRecDepth 20000 in
set_option maxHeartbeats 4000000 in
theorem w_X10_readNetwork_94 {w : gWd} {g : gCx} (C : gC w g cX10_readNetwork wsX10_readNetwork RX10 3 4 90) {a0 : Nat} (A0 : is_X10 w a0)  {o : gHp} (hk : gX w g 3 o 169 [(0, .ref a0)] []) : ∀ (n : Nat) (x1 : Int32) (h : gHp), f_X10_readNetwork_94 a0 n x1 h = some o → gX w g 3 h 94 [(0, .ref a0), (1, .int x1)] [] := by
  intro n
  induction n with
  | zero => intro _ _ hF; cases hF
  | succ n ih =>
    intro x1 h hF
    rw [f_X10_readNetwork_94] at hF
    refine gx_iload_n C 1 (gDec_at D_X10_readNetwork 58 rfl) rfl rfl ?_
    refine gx_aload_n C 0 (gDec_at D_X10_readNetwork 59 rfl) rfl rfl ?_
    refine gx_geti C fl_X10_readNetwork_71 (is_X10_sh A0) rfl (gDec_at D_X10_readNetwork 60 rfl) ?_
    refine gx_icmp_ge C 169 (gDec_at D_X10_readNetwork 61 rfl) (by decide) (fun c => ?_) (fun c => ?_)
    · replace hF := gPos c hF
      obtain rfl := Option.some.inj hF
      exact gx_sub [0] rfl hk
    · replace hF := gNeg c hF
      refine gx_aload_n C 0 (gDec_at D_X10_readNetwork 62 rfl) rfl rfl ?_
      refine gx_getr C fl_X10_readNetwork_23 (is_X10_sh A0) rfl (gDec_at D_X10_readNetwork 63 rfl) ?_
      refine gx_iconst C (v := 5) (gDec_at D_X10_readNetwork 64 rfl) (by decide) ?_
      refine gx_iload_n C 1 (gDec_at D_X10_readNetwork 65 rfl) rfl rfl ?_
      refine gx_imul C (gDec_at D_X10_readNetwork 66 rfl) ?_
      refine gx_iconst C (v := 0) (gDec_at D_X10_readNetwork 67 rfl) (by decide) ?_
      refine gx_iadd C (gDec_at D_X10_readNetwork 68 rfl) ?_
      obtain ⟨b15, hF⟩ := gGd hF
      refine gx_iaload C (is_X10_read A0) b15 (gDec_at D_X10_readNetwork 69 rfl) ?_
      refine gx_if_ne C 163 (gDec_at D_X10_readNetwork 70 rfl) (by decide) (fun c => ?_) (fun c => ?_)
      · replace hF := gNeg c hF
        refine gx_iinc C (j := 1) (v := x1 + 1) (lv' := [(1, .int (x1 + 1)), (0, .ref a0)]) (gDec_at D_X10_readNetwork 108 rfl) rfl (by rfl) (Nat.le_of_ble_eq_true rfl) rfl ?_
        refine gx_goto C 94 (gDec_at D_X10_readNetwork 109 rfl) (by decide) ?_
        exact gx_sub [1, 0] rfl (ih (x1 + 1) h hF)
      · replace hF := gPos c hF
        refine gx_bipush C (v := 8) (gDec_at D_X10_readNetwork 71 rfl) (by decide) ?_
        refine gx_iconst C (v := 3) (gDec_at D_X10_readNetwork 72 rfl) (by decide) ?_
        refine gx_aload_n C 0 (gDec_at D_X10_readNetwork 73 rfl) rfl rfl ?_
        refine gx_getr C fl_X10_readNetwork_23 (is_X10_sh A0) rfl (gDec_at D_X10_readNetwork 74 rfl) ?_
        refine gx_iconst C (v := 5) (gDec_at D_X10_readNetwork 75 rfl) (by decide) ?_
        refine gx_iload_n C 1 (gDec_at D_X10_readNetwork 76 rfl) rfl rfl ?_
        refine gx_imul C (gDec_at D_X10_readNetwork 77 rfl) ?_
        refine gx_iconst C (v := 2) (gDec_at D_X10_readNetwork 78 rfl) (by decide) ?_
        refine gx_iadd C (gDec_at D_X10_readNetwork 79 rfl) ?_
        obtain ⟨b16, hF⟩ := gGd hF
        refine gx_iaload C (is_X10_read A0) b16 (gDec_at D_X10_readNetwork 80 rfl) ?_
        refine gx_imul C (gDec_at D_X10_readNetwork 81 rfl) ?_
        refine gx_iadd C (gDec_at D_X10_readNetwork 82 rfl) ?_
        refine gx_istore_n C (lv' := [(2, .int (8 + (3 * (h.1 (a0 + 5) (gN ((5 * x1) + 2)))))), (0, .ref a0), (1, .int x1)]) (gDec_at D_X10_readNetwork 83 rfl) rfl (Nat.le_of_ble_eq_true rfl) rfl ?_
        refine gx_aload_n C 1 (gDec_at D_X10_readNetwork 84 rfl) rfl rfl ?_
        refine gx_getr C fl_X10_readNetwork_7 (is_X10_sh A0) rfl (gDec_at D_X10_readNetwork 85 rfl) ?_
        refine gx_iload_n C 0 (gDec_at D_X10_readNetwork 86 rfl) rfl rfl ?_
        refine gx_iconst C (v := 0) (gDec_at D_X10_readNetwork 87 rfl) (by decide) ?_
        refine gx_iadd C (gDec_at D_X10_readNetwork 88 rfl) ?_
        refine gx_ldc2 C (v := 10) lc_X10_readNetwork_102 (gDec_at D_X10_readNetwork 89 rfl) ?_
        obtain ⟨b17, hF⟩ := gGd hF
        refine gx_lastore C (is_X10_now A0) b17 (gDec_at D_X10_readNetwork 90 rfl) ?_
        refine gx_aload_n C 1 (gDec_at D_X10_readNetwork 91 rfl) rfl rfl ?_
        refine gx_getr C fl_X10_readNetwork_7 (is_X10_sh A0) rfl (gDec_at D_X10_readNetwork 92 rfl) ?_
        refine gx_iload_n C 0 (gDec_at D_X10_readNetwork 93 rfl) rfl rfl ?_
        refine gx_iconst C (v := 1) (gDec_at D_X10_readNetwork 94 rfl) (by decide) ?_
        refine gx_iadd C (gDec_at D_X10_readNetwork 95 rfl) ?_
        refine gx_lconst C (v := 0) (gDec_at D_X10_readNetwork 96 rfl) (by decide) ?_
        obtain ⟨b18, hF⟩ := gGd hF
        refine gx_lastore C (is_X10_now A0) b18 (gDec_at D_X10_readNetwork 97 rfl) ?_
        refine gx_aload_n C 1 (gDec_at D_X10_readNetwork 98 rfl) rfl rfl ?_
        refine gx_getr C fl_X10_readNetwork_7 (is_X10_sh A0) rfl (gDec_at D_X10_readNetwork 99 rfl) ?_
        refine gx_iload_n C 0 (gDec_at D_X10_readNetwork 100 rfl) rfl rfl ?_
        refine gx_iconst C (v := 2) (gDec_at D_X10_readNetwork 101 rfl) (by decide) ?_
        refine gx_iadd C (gDec_at D_X10_readNetwork 102 rfl) ?_
        refine gx_iload_n C 2 (gDec_at D_X10_readNetwork 103 rfl) rfl rfl ?_
        refine gx_iconst C (v := 1) (gDec_at D_X10_readNetwork 104 rfl) (by decide) ?_
        refine gx_iadd C (gDec_at D_X10_readNetwork 105 rfl) ?_
        refine gx_i2l C (gDec_at D_X10_readNetwork 106 rfl) ?_
        obtain ⟨b19, hF⟩ := gGd hF
        refine gx_lastore C (is_X10_now A0) b19 (gDec_at D_X10_readNetwork 107 rfl) ?_
        refine gx_iinc C (j := 2) (v := x1 + 1) (lv' := [(1, .int (x1 + 1)), (2, .int (8 + (3 * (h.1 (a0 + 5) (gN ((5 * x1) + 2)))))), (0, .ref a0)]) (gDec_at D_X10_readNetwork 108 rfl) rfl (by rfl) (Nat.le_of_ble_eq_true rfl) rfl ?_
        refine gx_goto C 94 (gDec_at D_X10_readNetwork 109 rfl) (by decide) ?_
        exact gx_sub [2, 0] rfl (ih (x1 + 1) (gsL (gsL (gsL h (a0 + 1) (gN ((8 + (3 * (h.1 (a0 + 5) (gN ((5 * x1) + 2))))) + 0)) 10) (a0 + 1) (gN ((8 + (3 * (h.1 (a0 + 5) (gN ((5 * x1) + 2))))) + 1)) 0) (a0 + 1) (gN ((8 + (3 * (h.1 (a0 + 5) (gN ((5 * x1) + 2))))) + 2)) ((x1 + 1).toInt64)) hF)
def f_X10_readNetwork (a0 : Nat) (h : gHp) : Option (Int32 × gHp) := (f_X10_readsNetwork a0 h).bind fun v2 => if v2.1 = true then (f_X10_record a0 v2.2).bind fun v4 => if gIn 0 141 then (f_X10_readNetwork_32 a0 gFuel 0 (gsL v4 (a0 + 1) (gN 0) ((v4.1 a0 8).toInt64))).bind fun v7 => (f_X10_readNetwork_60 a0 gFuel 0 v7).bind fun v12 => (f_X10_readNetwork_94 a0 gFuel 0 v12).bind fun v20 => some (v20.1 a0 8, v20) else none else some ((-100) - (v2.2.1 a0 7), v2.2)
set_option maxRecDepth 20000 in
set_option maxHeartbeats 4000000 in
theorem m_X10_readNetwork (w : gWd) (h : gHp) {a0 : Nat} (A0 : is_X10 w a0) {o : Int32 × gHp} (hF : f_X10_readNetwork a0 h = some o) : gMet w yX10_readNetwork wsX10_readNetwork rm_X10_readNetwork [.ref a0] h (some (.int o.1)) o.2 := by
  refine gMet_of (cc := cX10_readNetwork) (maxL := 3) (ret := (some .int)) (fr := 4) (lo := 90) (own := RX10) [(0, .ref a0)] (by decide) rfl rfl (Nat.le_of_ble_eq_true rfl) rfl (Nat.le_refl _) (Nat.le_refl _) (fun g C E => ?_)
  rw [f_X10_readNetwork] at hF
  refine gx_aload_n C 0 (gDec_at D_X10_readNetwork 0 rfl) rfl rfl ?_
  obtain ⟨v2, hv1, hF⟩ := gBind hF
  refine gx_callV1 C (st := []) 0 [] (m_X10_readsNetwork w h A0 hv1) gX10_readNetwork_X10_readsNetwork rfl rfl rfl hy_X10_readsNetwork (Nat.le_of_ble_eq_true rfl) (Nat.le_of_ble_eq_true rfl) (is_X10_sh A0) rfl rfl rfl (Nat.le_of_ble_eq_true rfl) (gDec_at D_X10_readNetwork 1 rfl) ?_
  refine gx_ifz_ne C 15 (gDec_at D_X10_readNetwork 2 rfl) (by decide) (fun c => ?_) (fun c => ?_)
  · replace hF := gPos c hF
    refine gx_aload_n C 0 (gDec_at D_X10_readNetwork 8 rfl) rfl rfl ?_
    obtain ⟨v4, hv3, hF⟩ := gBind hF
    refine gx_callV0 C (st := []) 0 [] (m_X10_record w v2.2 A0 hv3) gX10_readNetwork_X10_record rfl rfl rfl hy_X10_record (Nat.le_of_ble_eq_true rfl) (Nat.le_of_ble_eq_true rfl) (is_X10_sh A0) rfl rfl rfl (Nat.le_of_ble_eq_true rfl) (gDec_at D_X10_readNetwork 9 rfl) ?_
    refine gx_aload_n C 0 (gDec_at D_X10_readNetwork 10 rfl) rfl rfl ?_
    refine gx_getr C fl_X10_readNetwork_7 (is_X10_sh A0) rfl (gDec_at D_X10_readNetwork 11 rfl) ?_
    refine gx_iconst C (v := 0) (gDec_at D_X10_readNetwork 12 rfl) (by decide) ?_
    refine gx_aload_n C 0 (gDec_at D_X10_readNetwork 13 rfl) rfl rfl ?_
    refine gx_geti C fl_X10_readNetwork_71 (is_X10_sh A0) rfl (gDec_at D_X10_readNetwork 14 rfl) ?_
    refine gx_i2l C (gDec_at D_X10_readNetwork 15 rfl) ?_
    obtain ⟨b5, hF⟩ := gGd hF
    refine gx_lastore C (is_X10_now A0) b5 (gDec_at D_X10_readNetwork 16 rfl) ?_
    refine gx_iconst C (v := 0) (gDec_at D_X10_readNetwork 17 rfl) (by decide) ?_
    refine gx_istore_n C (lv' := [(1, .int 0), (0, .ref a0)]) (gDec_at D_X10_readNetwork 18 rfl) rfl (Nat.le_of_ble_eq_true rfl) rfl ?_
    obtain ⟨v7, hv8, hF⟩ := gBind hF
    have k9 : gX w g 3 v7 58 [(0, .ref a0)] [] := by
      refine gx_iconst C (v := 0) (gDec_at D_X10_readNetwork 35 rfl) (by decide) ?_
      refine gx_istore_n C (lv' := [(1, .int 0), (0, .ref a0)]) (gDec_at D_X10_readNetwork 36 rfl) rfl (Nat.le_of_ble_eq_true rfl) rfl ?_
      obtain ⟨v12, hv13, hF⟩ := gBind hF
      have k14 : gX w g 3 v12 92 [(0, .ref a0)] [] := by
        refine gx_iconst C (v := 0) (gDec_at D_X10_readNetwork 56 rfl) (by decide) ?_
        refine gx_istore_n C (lv' := [(1, .int 0), (0, .ref a0)]) (gDec_at D_X10_readNetwork 57 rfl) rfl (Nat.le_of_ble_eq_true rfl) rfl ?_
        obtain ⟨v20, hv21, hF⟩ := gBind hF
        have k22 : gX w g 3 v20 169 [(0, .ref a0)] [] := by
          refine gx_aload_n C 0 (gDec_at D_X10_readNetwork 110 rfl) rfl rfl ?_
          refine gx_geti C fl_X10_readNetwork_71 (is_X10_sh A0) rfl (gDec_at D_X10_readNetwork 111 rfl) ?_
          obtain rfl := Option.some.inj hF
          exact gx_iret C E (gDec_at D_X10_readNetwork 112 rfl)
        exact gx_sub [1, 0] rfl (w_X10_readNetwork_94 C A0 k22 gFuel 0 v12 hv21)
      exact gx_sub [1, 0] rfl (w_X10_readNetwork_60 C A0 k14 gFuel 0 v7 hv13)
    exact gx_sub [1, 0] rfl (w_X10_readNetwork_32 C A0 k9 gFuel 0 (gsL v4 (a0 + 1) (gN 0) ((v4.1 a0 8).toInt64)) hv8)
  · replace hF := gNeg c hF
    refine gx_bipush C (v := (-100)) (gDec_at D_X10_readNetwork 3 rfl) (by decide) ?_
    refine gx_aload_n C 0 (gDec_at D_X10_readNetwork 4 rfl) rfl rfl ?_
    refine gx_geti C fl_X10_readNetwork_85 (is_X10_sh A0) rfl (gDec_at D_X10_readNetwork 5 rfl) ?_
    refine gx_isub C (gDec_at D_X10_readNetwork 6 rfl) ?_
    obtain rfl := Option.some.inj hF
    exact gx_iret C E (gDec_at D_X10_readNetwork 7 rfl)
