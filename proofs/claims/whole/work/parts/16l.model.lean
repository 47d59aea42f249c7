/-! LadderBenchModel.goesIn -/
def rm_X10_goesIn : Room := { frames := 5, cells := 0, slots := 0, locals := 132 }
set_option maxRecDepth 20000 in
theorem ggX10_goesIn_X10_letsOf : GoodIn wsX10_goesIn wsX10_letsOf := goodIn_r _ [28, 6, 7, 5, 4, 3, 8, 9, 10, 11, 12, 13, 29, 30, 31, 32, 1, 2, 14, 15, 16, 17, 18, 19, 20, 21, 22, 23, 24, 33, 34, 35, 36, 37, 38, 39, 40, 41, 42, 43, 44, 45, 46, 47, 48, 49, 50, 51, 52, 53, 54, 55, 56, 57, 58] (by decide +kernel) (by decide +kernel)
set_option maxRecDepth 20000 in
theorem gX10_goesIn_X10_letsOf : GoodIn wsX10_goesIn (wsV RX10 199 RX10 yX10_letsOf wsX10_letsOf) := goodIn_app (goodIn_of _ (by decide +kernel)) ggX10_goesIn_X10_letsOf
set_option maxRecDepth 20000 in
theorem ggX10_goesIn_X10_ofPart : GoodIn wsX10_goesIn wsX10_ofPart := goodIn_r _ [12, 13, 33, 34, 35, 36, 37, 38, 39, 40, 41, 42, 43, 44, 45, 46, 47, 48, 49, 50, 51, 52, 53, 54, 55, 56, 57, 58] (by decide +kernel) (by decide +kernel)
set_option maxRecDepth 20000 in
theorem gX10_goesIn_X10_ofPart : GoodIn wsX10_goesIn (wsV RX10 130 RX10 yX10_ofPart wsX10_ofPart) := goodIn_app (goodIn_of _ (by decide +kernel)) ggX10_goesIn_X10_ofPart
set_option maxRecDepth 20000 in
theorem ggX10_goesIn_X10_sum : GoodIn wsX10_goesIn wsX10_sum := goodIn_r _ [17, 18, 19, 11, 20, 21, 22, 23, 24, 1, 2, 33, 34, 35, 36, 37, 38, 39, 40, 41, 42, 43, 44, 45, 46, 47, 48, 49, 50, 51, 52, 53, 54, 55, 56, 57, 58] (by decide +kernel) (by decide +kernel)
set_option maxRecDepth 20000 in
theorem gX10_goesIn_X10_sum : GoodIn wsX10_goesIn (wsV RX10 176 RX10 yX10_sum wsX10_sum) := goodIn_app (goodIn_of _ (by decide +kernel)) ggX10_goesIn_X10_sum
theorem hy_X10_goesIn : yX10_goesIn.cls = RX10 ∧ yX10_goesIn.cls ≠ "java/lang/invoke/MethodHandle" ∧ yX10_goesIn.cls ≠ "java/lang/invoke/VarHandle" ∧ (parseMethodDescriptor yX10_goesIn.desc).map (fun d => d.parameters.length) = some 2 := by decide +kernel
set_option maxRecDepth 100000 in
theorem D_X10_goesIn : gDec cX10_goesIn [(0, (.aload_n 0, 1)), (1, (.getfield 165, 3)), (4, (.lstore_n 3, 1)), (5, (.aload_n 0, 1)), (6, (.getfield 169, 3)), (9, (.lstore 5, 2)), (11, (.aload_n 0, 1)), (12, (.iload_n 1, 1)), (13, (.iconst 0, 1)), (14, (.invokevirtual 130, 3)), (17, (.iconst 1, 1)), (18, (.if_icmp .ne 148, 3)), (21, (.lconst 0, 1)), (22, (.lstore 7, 2)), (24, (.lconst 1, 1)), (25, (.lstore 9, 2)), (27, (.iconst 0, 1)), (28, (.istore 11, 2)), (30, (.iload 11, 2)), (32, (.iload_n 1, 1)), (33, (.if_icmp .ge 88, 3)), (36, (.aload_n 0, 1)), (37, (.iload 11, 2)), (39, (.iconst 1, 1)), (40, (.invokevirtual 130, 3)), (43, (.iload_n 1, 1)), (44, (.if_icmp .ne 71, 3)), (47, (.iload 11, 2)), (49, (.iload_n 2, 1)), (50, (.if_icmp .ne 6, 3)), (53, (.goto 62, 3)), (56, (.aload_n 0, 1)), (57, (.getfield 39, 3)), (60, (.iload 11, 2)), (62, (.laload, 1)), (63, (.lconst 0, 1)), (64, (.lcmp, 1)), (65, (.ifCond .ne 16, 3)), (68, (.lload 5, 2)), (70, (.lconst 0, 1)), (71, (.lcmp, 1)), (72, (.ifCond .ne 7, 3)), (75, (.iconst 2, 1)), (76, (.goto 4, 3)), (79, (.iconst 0, 1)), (80, (.ireturn, 1)), (81, (.aload_n 0, 1)), (82, (.lload 7, 2)), (84, (.lload 9, 2)), (86, (.aload_n 0, 1)), (87, (.getfield 36, 3)), (90, (.iload 11, 2)), (92, (.laload, 1)), (93, (.aload_n 0, 1)), (94, (.getfield 39, 3)), (97, (.iload 11, 2)), (99, (.laload, 1)), (100, (.invokevirtual 176, 3)), (103, (.aload_n 0, 1)), (104, (.getfield 165, 3)), (107, (.lstore 7, 2)), (109, (.aload_n 0, 1)), (110, (.getfield 169, 3)), (113, (.lstore 9, 2)), (115, (.iinc 11 1, 3)), (118, (.goto (-88), 3)), (121, (.aload_n 0, 1)), (122, (.lload_n 3, 1)), (123, (.putfield 165, 3)), (126, (.aload_n 0, 1)), (127, (.lload 5, 2)), (129, (.putfield 169, 3)), (132, (.lload 5, 2)), (134, (.lconst 0, 1)), (135, (.lcmp, 1)), (136, (.ifCond .le 15, 3)), (139, (.aload_n 0, 1)), (140, (.lload_n 3, 1)), (141, (.lload 5, 2)), (143, (.lload 7, 2)), (145, (.lneg, 1)), (146, (.lload 9, 2)), (148, (.invokevirtual 176, 3)), (151, (.aload_n 0, 1)), (152, (.getfield 165, 3)), (155, (.lconst 0, 1)), (156, (.lcmp, 1)), (157, (.ifCond .ge 7, 3)), (160, (.iconst 0, 1)), (161, (.goto 4, 3)), (164, (.iconst 1, 1)), (165, (.ireturn, 1)), (166, (.aload_n 0, 1)), (167, (.iload_n 1, 1)), (168, (.iload_n 2, 1)), (169, (.invokevirtual 199, 3)), (172, (.aload_n 0, 1)), (173, (.getfield 180, 3)), (176, (.ifCond .eq 15, 3)), (179, (.lload_n 3, 1)), (180, (.lconst 0, 1)), (181, (.lcmp, 1)), (182, (.ifCond .ne 7, 3)), (185, (.iconst 2, 1)), (186, (.goto 4, 3)), (189, (.iconst 0, 1)), (190, (.ireturn, 1)), (191, (.aload_n 0, 1)), (192, (.lload_n 3, 1)), (193, (.putfield 165, 3)), (196, (.aload_n 0, 1)), (197, (.lload 5, 2)), (199, (.putfield 169, 3)), (202, (.lload_n 3, 1)), (203, (.lconst 0, 1)), (204, (.lcmp, 1)), (205, (.ifCond .ne 5, 3)), (208, (.iconst 1, 1)), (209, (.ireturn, 1)), (210, (.lload 5, 2)), (212, (.lconst 0, 1)), (213, (.lcmp, 1)), (214, (.ifCond .ne 18, 3)), (217, (.aload_n 0, 1)), (218, (.getfield 184, 3)), (221, (.lconst 0, 1)), (222, (.lcmp, 1)), (223, (.ifCond .ne 7, 3)), (226, (.iconst 1, 1)), (227, (.goto 4, 3)), (230, (.iconst 0, 1)), (231, (.ireturn, 1)), (232, (.aload_n 0, 1)), (233, (.lload 5, 2)), (235, (.lload_n 3, 1)), (236, (.aload_n 0, 1)), (237, (.getfield 184, 3)), (240, (.lneg, 1)), (241, (.aload_n 0, 1)), (242, (.getfield 187, 3)), (245, (.invokevirtual 176, 3)), (248, (.aload_n 0, 1)), (249, (.getfield 165, 3)), (252, (.lconst 0, 1)), (253, (.lcmp, 1)), (254, (.ifCond .ge 5, 3)), (257, (.iconst 0, 1)), (258, (.ireturn, 1)), (259, (.aload_n 0, 1)), (260, (.getfield 165, 3)), (263, (.lstore 7, 2)), (265, (.aload_n 0, 1)), (266, (.lload 7, 2)), (268, (.lconst 0, 1)), (269, (.lcmp, 1)), (270, (.ifCond .ne 7, 3)), (273, (.lconst 1, 1)), (274, (.goto 7, 3)), (277, (.aload_n 0, 1)), (278, (.getfield 169, 3)), (281, (.putfield 165, 3)), (284, (.aload_n 0, 1)), (285, (.lload 7, 2)), (287, (.putfield 169, 3)), (290, (.iconst 1, 1)), (291, (.ireturn, 1))] = true := by decide +kernel
set_option maxRecDepth 100000 in
theorem in_X10_goesIn_X10 : ∀ x ∈ u_ws RX10 TX10 26, x ∈ wsX10_goesIn := by decide +kernel
theorem fl_X10_goesIn_165 : gF wsX10_goesIn RX10 165 10 17 := ⟨RX10, TX10, 26, rfl, by decide, in_X10_goesIn_X10, by decide +kernel⟩
theorem fl_X10_goesIn_169 : gF wsX10_goesIn RX10 169 10 18 := ⟨RX10, TX10, 26, rfl, by decide, in_X10_goesIn_X10, by decide +kernel⟩
theorem fl_X10_goesIn_180 : gF wsX10_goesIn RX10 180 10 23 := ⟨RX10, TX10, 26, rfl, by decide, in_X10_goesIn_X10, by decide +kernel⟩
theorem flw_X10_goesIn_165 : gFw wsX10_goesIn RX10 165 10 17 .long := ⟨RX10, TX10, 26, tyX10, rfl, by decide, in_X10_goesIn_X10, by decide +kernel, tyX10_ok, nmX10, rfl, by decide +kernel⟩
theorem flw_X10_goesIn_169 : gFw wsX10_goesIn RX10 169 10 18 .long := ⟨RX10, TX10, 26, tyX10, rfl, by decide, in_X10_goesIn_X10, by decide +kernel, tyX10_ok, nmX10, rfl, by decide +kernel⟩
theorem fl_X10_goesIn_184 : gF wsX10_goesIn RX10 184 10 21 := ⟨RX10, TX10, 26, rfl, by decide, in_X10_goesIn_X10, by decide +kernel⟩
theorem fl_X10_goesIn_187 : gF wsX10_goesIn RX10 187 10 22 := ⟨RX10, TX10, 26, rfl, by decide, in_X10_goesIn_X10, by decide +kernel⟩
theorem fl_X10_goesIn_39 : gF wsX10_goesIn RX10 39 10 20 := ⟨RX10, TX10, 26, rfl, by decide, in_X10_goesIn_X10, by decide +kernel⟩
theorem fl_X10_goesIn_36 : gF wsX10_goesIn RX10 36 10 19 := ⟨RX10, TX10, 26, rfl, by decide, in_X10_goesIn_X10, by decide +kernel⟩
def f_X10_goesIn_30 (a0 : Nat) (x1 : Int32) (x2 : Int32) (l3 : Int64) (l5 : Int64) : Nat → Int64 → Int64 → Int32 → gHp → Option (Int32 × gHp)
  | 0, _, _, _, _ => none
  | n + 1, l7, l9, x11, h => if x1 ≤ x11 then (if l5 ≤ 0 then some (gsL (gsL h a0 17 l3) a0 18 l5) else (f_X10_sum a0 l3 l5 (-l7) l9 (gsL (gsL h a0 17 l3) a0 18 l5)).bind fun v11 => some v11 : Option (gHp)).bind fun v7 => if 0 ≤ (v7.2 a0 17) then some (1, v7) else some (0, v7) else (f_X10_ofPart a0 x11 1 h).bind fun v13 => if v13 = x1 then if x11 = x2 then f_X10_goesIn_30 a0 x1 x2 l3 l5 n l7 l9 (x11 + 1) h else if gIn x11 11 then if (h.2 (a0 + 10) (gN x11)) = 0 then if l5 = 0 then some (2, h) else some (0, h) else if gIn x11 11 then if gIn x11 11 then (f_X10_sum a0 l7 l9 (h.2 (a0 + 9) (gN x11)) (h.2 (a0 + 10) (gN x11)) h).bind fun v18 => f_X10_goesIn_30 a0 x1 x2 l3 l5 n (v18.2 a0 17) (v18.2 a0 18) (x11 + 1) v18 else none else none else none else f_X10_goesIn_30 a0 x1 x2 l3 l5 n l7 l9 (x11 + 1) h
set_option maxRecDepth 20000 in
set_option maxHeartbeats 4000000 in
theorem w_X10_goesIn_30 {w : gWd} {g : gCx} (C : gC w g cX10_goesIn wsX10_goesIn RX10 12 5 132) {a0 : Nat} (A0 : is_X10 w a0) (x1 : Int32) (x2 : Int32) (l3 : Int64) (l5 : Int64)  {o : Int32 × gHp} (E : gEn w g (some .int) (some (.int o.1)) o.2) : ∀ (n : Nat) (l7 : Int64) (l9 : Int64) (x11 : Int32) (h : gHp), f_X10_goesIn_30 a0 x1 x2 l3 l5 n l7 l9 x11 h = some o → gX w g 12 h 30 [(0, .ref a0), (1, .int x1), (2, .int x2), (3, .long l3), (5, .long l5), (7, .long l7), (9, .long l9), (11, .int x11)] [] := by
  intro n
  induction n with
  | zero => intro _ _ _ _ hF; cases hF
  | succ n ih =>
    intro l7 l9 x11 h hF
    rw [f_X10_goesIn_30] at hF
    refine gx_iload C 7 (gDec_at D_X10_goesIn 18 rfl) rfl ?_
    refine gx_iload_n C 1 (gDec_at D_X10_goesIn 19 rfl) rfl rfl ?_
    refine gx_icmp_ge C 121 (gDec_at D_X10_goesIn 20 rfl) (by decide) (fun c => ?_) (fun c => ?_)
    · replace hF := gPos c hF
      refine gx_aload_n C 0 (gDec_at D_X10_goesIn 66 rfl) rfl rfl ?_
      refine gx_lload_n C 3 (gDec_at D_X10_goesIn 67 rfl) rfl rfl ?_
      refine gx_putL C flw_X10_goesIn_165 (is_X10_sh A0) rfl rfl rfl (gDec_at D_X10_goesIn 68 rfl) ?_
      refine gx_aload_n C 0 (gDec_at D_X10_goesIn 69 rfl) rfl rfl ?_
      refine gx_lload C 4 (gDec_at D_X10_goesIn 70 rfl) rfl ?_
      refine gx_putL C flw_X10_goesIn_169 (is_X10_sh A0) rfl rfl rfl (gDec_at D_X10_goesIn 71 rfl) ?_
      refine gx_lload C 4 (gDec_at D_X10_goesIn 72 rfl) rfl ?_
      refine gx_lconst C (v := 0) (gDec_at D_X10_goesIn 73 rfl) (by decide) ?_
      obtain ⟨v7, hv8, hF⟩ := gBind hF
      have k9 : gX w g 12 v7 151 [(0, .ref a0)] ([]) := by
        refine gx_aload_n C 0 (gDec_at D_X10_goesIn 83 rfl) rfl rfl ?_
        refine gx_getl C fl_X10_goesIn_165 (is_X10_sh A0) rfl (gDec_at D_X10_goesIn 84 rfl) ?_
        refine gx_lconst C (v := 0) (gDec_at D_X10_goesIn 85 rfl) (by decide) ?_
        refine gx_lcmp_ge C 164 (gDec_at D_X10_goesIn 86 rfl) (gDec_at D_X10_goesIn 87 rfl) (by decide) (fun c => ?_) (fun c => ?_)
        · replace hF := gPos c hF
          refine gx_iconst C (v := 1) (gDec_at D_X10_goesIn 90 rfl) (by decide) ?_
          obtain rfl := Option.some.inj hF
          exact gx_iret C E (gDec_at D_X10_goesIn 91 rfl)
        · replace hF := gNeg c hF
          refine gx_iconst C (v := 0) (gDec_at D_X10_goesIn 88 rfl) (by decide) ?_
          refine gx_goto C 165 (gDec_at D_X10_goesIn 89 rfl) (by decide) ?_
          obtain rfl := Option.some.inj hF
          exact gx_iret C E (gDec_at D_X10_goesIn 91 rfl)
      replace hF := hv8
      refine gx_lcmp_le C 151 (gDec_at D_X10_goesIn 74 rfl) (gDec_at D_X10_goesIn 75 rfl) (by decide) (fun c => ?_) (fun c => ?_)
      · replace hF := gPos c hF
        obtain rfl := Option.some.inj hF
        exact gx_sub [0] rfl k9
      · replace hF := gNeg c hF
        refine gx_aload_n C 0 (gDec_at D_X10_goesIn 76 rfl) rfl rfl ?_
        refine gx_lload_n C 3 (gDec_at D_X10_goesIn 77 rfl) rfl rfl ?_
        refine gx_lload C 4 (gDec_at D_X10_goesIn 78 rfl) rfl ?_
        refine gx_lload C 5 (gDec_at D_X10_goesIn 79 rfl) rfl ?_
        refine gx_lneg C (gDec_at D_X10_goesIn 80 rfl) ?_
        refine gx_lload C 6 (gDec_at D_X10_goesIn 81 rfl) rfl ?_
        obtain ⟨v11, hv10, hF⟩ := gBind hF
        refine gx_callV0 C (st := []) 4 [.long l3, .long l5, .long (-l7), .long l9] (m_X10_sum w (gsL (gsL h a0 17 l3) a0 18 l5) A0 l3 l5 (-l7) l9 hv10) gX10_goesIn_X10_sum rfl rfl rfl hy_X10_sum (Nat.le_of_ble_eq_true rfl) (Nat.le_of_ble_eq_true rfl) (is_X10_sh A0) rfl rfl rfl (Nat.le_of_ble_eq_true rfl) (gDec_at D_X10_goesIn 82 rfl) ?_
        obtain rfl := Option.some.inj hF
        exact gx_sub [0] rfl k9
    · replace hF := gNeg c hF
      refine gx_aload_n C 0 (gDec_at D_X10_goesIn 21 rfl) rfl rfl ?_
      refine gx_iload C 7 (gDec_at D_X10_goesIn 22 rfl) rfl ?_
      refine gx_iconst C (v := 1) (gDec_at D_X10_goesIn 23 rfl) (by decide) ?_
      obtain ⟨v13, hv12, hF⟩ := gBind hF
      refine gx_callV1 C (st := []) 2 [.int x11, .int 1] (m_X10_ofPart w h A0 x11 1 hv12) gX10_goesIn_X10_ofPart rfl rfl rfl hy_X10_ofPart (Nat.le_of_ble_eq_true rfl) (Nat.le_of_ble_eq_true rfl) (is_X10_sh A0) rfl rfl rfl (Nat.le_of_ble_eq_true rfl) (gDec_at D_X10_goesIn 24 rfl) ?_
      refine gx_iload_n C 1 (gDec_at D_X10_goesIn 25 rfl) rfl rfl ?_
      refine gx_icmp_ne C 115 (gDec_at D_X10_goesIn 26 rfl) (by decide) (fun c => ?_) (fun c => ?_)
      · replace hF := gNeg c hF
        refine gx_iinc C (j := 7) (v := x11 + 1) (lv' := [(11, .int (x11 + 1)), (0, .ref a0), (1, .int x1), (2, .int x2), (3, .long l3), (5, .long l5), (7, .long l7), (9, .long l9)]) (gDec_at D_X10_goesIn 64 rfl) rfl (by rfl) (Nat.le_of_ble_eq_true rfl) rfl ?_
        refine gx_goto C 30 (gDec_at D_X10_goesIn 65 rfl) (by decide) ?_
        exact gx_sub [1, 2, 3, 4, 5, 6, 7, 0] rfl (ih l7 l9 (x11 + 1) h hF)
      · replace hF := gPos c hF
        refine gx_iload C 7 (gDec_at D_X10_goesIn 27 rfl) rfl ?_
        refine gx_iload_n C 2 (gDec_at D_X10_goesIn 28 rfl) rfl rfl ?_
        refine gx_icmp_ne C 56 (gDec_at D_X10_goesIn 29 rfl) (by decide) (fun c => ?_) (fun c => ?_)
        · replace hF := gNeg c hF
          refine gx_aload_n C 0 (gDec_at D_X10_goesIn 31 rfl) rfl rfl ?_
          refine gx_getr C fl_X10_goesIn_39 (is_X10_sh A0) rfl (gDec_at D_X10_goesIn 32 rfl) ?_
          refine gx_iload C 7 (gDec_at D_X10_goesIn 33 rfl) rfl ?_
          obtain ⟨b14, hF⟩ := gGd hF
          refine gx_laload C (is_X10_lower A0) b14 (gDec_at D_X10_goesIn 34 rfl) ?_
          refine gx_lconst C (v := 0) (gDec_at D_X10_goesIn 35 rfl) (by decide) ?_
          refine gx_lcmp_ne C 81 (gDec_at D_X10_goesIn 36 rfl) (gDec_at D_X10_goesIn 37 rfl) (by decide) (fun c => ?_) (fun c => ?_)
          · replace hF := gNeg c hF
            refine gx_aload_n C 0 (gDec_at D_X10_goesIn 46 rfl) rfl rfl ?_
            refine gx_lload C 5 (gDec_at D_X10_goesIn 47 rfl) rfl ?_
            refine gx_lload C 6 (gDec_at D_X10_goesIn 48 rfl) rfl ?_
            refine gx_aload_n C 0 (gDec_at D_X10_goesIn 49 rfl) rfl rfl ?_
            refine gx_getr C fl_X10_goesIn_36 (is_X10_sh A0) rfl (gDec_at D_X10_goesIn 50 rfl) ?_
            refine gx_iload C 7 (gDec_at D_X10_goesIn 51 rfl) rfl ?_
            obtain ⟨b15, hF⟩ := gGd hF
            refine gx_laload C (is_X10_upper A0) b15 (gDec_at D_X10_goesIn 52 rfl) ?_
            refine gx_aload_n C 0 (gDec_at D_X10_goesIn 53 rfl) rfl rfl ?_
            refine gx_getr C fl_X10_goesIn_39 (is_X10_sh A0) rfl (gDec_at D_X10_goesIn 54 rfl) ?_
            refine gx_iload C 7 (gDec_at D_X10_goesIn 55 rfl) rfl ?_
            obtain ⟨b16, hF⟩ := gGd hF
            refine gx_laload C (is_X10_lower A0) b16 (gDec_at D_X10_goesIn 56 rfl) ?_
            obtain ⟨v18, hv17, hF⟩ := gBind hF
            refine gx_callV0 C (st := []) 4 [.long l7, .long l9, .long (h.2 (a0 + 9) (gN x11)), .long (h.2 (a0 + 10) (gN x11))] (m_X10_sum w h A0 l7 l9 (h.2 (a0 + 9) (gN x11)) (h.2 (a0 + 10) (gN x11)) hv17) gX10_goesIn_X10_sum rfl rfl rfl hy_X10_sum (Nat.le_of_ble_eq_true rfl) (Nat.le_of_ble_eq_true rfl) (is_X10_sh A0) rfl rfl rfl (Nat.le_of_ble_eq_true rfl) (gDec_at D_X10_goesIn 57 rfl) ?_
            refine gx_aload_n C 0 (gDec_at D_X10_goesIn 58 rfl) rfl rfl ?_
            refine gx_getl C fl_X10_goesIn_165 (is_X10_sh A0) rfl (gDec_at D_X10_goesIn 59 rfl) ?_
            refine gx_lstore C (lv' := [(7, .long (v18.2 a0 17)), (0, .ref a0), (1, .int x1), (2, .int x2), (3, .long l3), (5, .long l5), (9, .long l9), (11, .int x11)]) (gDec_at D_X10_goesIn 60 rfl) (Nat.le_of_ble_eq_true rfl) rfl ?_
            refine gx_aload_n C 1 (gDec_at D_X10_goesIn 61 rfl) rfl rfl ?_
            refine gx_getl C fl_X10_goesIn_169 (is_X10_sh A0) rfl (gDec_at D_X10_goesIn 62 rfl) ?_
            refine gx_lstore C (lv' := [(9, .long (v18.2 a0 18)), (7, .long (v18.2 a0 17)), (0, .ref a0), (1, .int x1), (2, .int x2), (3, .long l3), (5, .long l5), (11, .int x11)]) (gDec_at D_X10_goesIn 63 rfl) (Nat.le_of_ble_eq_true rfl) rfl ?_
            refine gx_iinc C (j := 7) (v := x11 + 1) (lv' := [(11, .int (x11 + 1)), (9, .long (v18.2 a0 18)), (7, .long (v18.2 a0 17)), (0, .ref a0), (1, .int x1), (2, .int x2), (3, .long l3), (5, .long l5)]) (gDec_at D_X10_goesIn 64 rfl) rfl (by rfl) (Nat.le_of_ble_eq_true rfl) rfl ?_
            refine gx_goto C 30 (gDec_at D_X10_goesIn 65 rfl) (by decide) ?_
            exact gx_sub [3, 4, 5, 6, 7, 2, 1, 0] rfl (ih (v18.2 a0 17) (v18.2 a0 18) (x11 + 1) v18 hF)
          · replace hF := gPos c hF
            refine gx_lload C 4 (gDec_at D_X10_goesIn 38 rfl) rfl ?_
            refine gx_lconst C (v := 0) (gDec_at D_X10_goesIn 39 rfl) (by decide) ?_
            refine gx_lcmp_ne C 79 (gDec_at D_X10_goesIn 40 rfl) (gDec_at D_X10_goesIn 41 rfl) (by decide) (fun c => ?_) (fun c => ?_)
            · replace hF := gNeg c hF
              refine gx_iconst C (v := 0) (gDec_at D_X10_goesIn 44 rfl) (by decide) ?_
              obtain rfl := Option.some.inj hF
              exact gx_iret C E (gDec_at D_X10_goesIn 45 rfl)
            · replace hF := gPos c hF
              refine gx_iconst C (v := 2) (gDec_at D_X10_goesIn 42 rfl) (by decide) ?_
              refine gx_goto C 80 (gDec_at D_X10_goesIn 43 rfl) (by decide) ?_
              obtain rfl := Option.some.inj hF
              exact gx_iret C E (gDec_at D_X10_goesIn 45 rfl)
        · replace hF := gPos c hF
          refine gx_goto C 115 (gDec_at D_X10_goesIn 30 rfl) (by decide) ?_
          refine gx_iinc C (j := 7) (v := x11 + 1) (lv' := [(11, .int (x11 + 1)), (0, .ref a0), (1, .int x1), (2, .int x2), (3, .long l3), (5, .long l5), (7, .long l7), (9, .long l9)]) (gDec_at D_X10_goesIn 64 rfl) rfl (by rfl) (Nat.le_of_ble_eq_true rfl) rfl ?_
          refine gx_goto C 30 (gDec_at D_X10_goesIn 65 rfl) (by decide) ?_
          exact gx_sub [1, 2, 3, 4, 5, 6, 7, 0] rfl (ih l7 l9 (x11 + 1) h hF)
def f_X10_goesIn (a0 : Nat) (x1 : Int32) (x2 : Int32) (h : gHp) : Option (Int32 × gHp) := (f_X10_ofPart a0 x1 0 h).bind fun v2 => if v2 = 1 then f_X10_goesIn_30 a0 x1 x2 (h.2 a0 17) (h.2 a0 18) gFuel 0 1 0 h else (f_X10_letsOf a0 x1 x2 h).bind fun v4 => if (v4.1 a0 23) = 0 then if (h.2 a0 17) = 0 then some (1, gsL (gsL v4 a0 17 (h.2 a0 17)) a0 18 (h.2 a0 18)) else if (h.2 a0 18) = 0 then if ((gsL (gsL v4 a0 17 (h.2 a0 17)) a0 18 (h.2 a0 18)).2 a0 21) = 0 then some (1, gsL (gsL v4 a0 17 (h.2 a0 17)) a0 18 (h.2 a0 18)) else some (0, gsL (gsL v4 a0 17 (h.2 a0 17)) a0 18 (h.2 a0 18)) else (f_X10_sum a0 (h.2 a0 18) (h.2 a0 17) (-((gsL (gsL v4 a0 17 (h.2 a0 17)) a0 18 (h.2 a0 18)).2 a0 21)) ((gsL (gsL v4 a0 17 (h.2 a0 17)) a0 18 (h.2 a0 18)).2 a0 22) (gsL (gsL v4 a0 17 (h.2 a0 17)) a0 18 (h.2 a0 18))).bind fun v6 => if 0 ≤ (v6.2 a0 17) then if (v6.2 a0 17) = 0 then some (1, gsL (gsL v6 a0 17 1) a0 18 (v6.2 a0 17)) else some (1, gsL (gsL v6 a0 17 (v6.2 a0 18)) a0 18 (v6.2 a0 17)) else some (0, v6) else if (h.2 a0 17) = 0 then some (2, v4) else some (0, v4)
set_option maxRecDepth 20000 in
set_option maxHeartbeats 4000000 in
theorem m_X10_goesIn (w : gWd) (h : gHp) {a0 : Nat} (A0 : is_X10 w a0) (x1 : Int32) (x2 : Int32) {o : Int32 × gHp} (hF : f_X10_goesIn a0 x1 x2 h = some o) : gMet w yX10_goesIn wsX10_goesIn rm_X10_goesIn [.ref a0, .int x1, .int x2] h (some (.int o.1)) o.2 := by
  refine gMet_of (cc := cX10_goesIn) (maxL := 12) (ret := (some .int)) (fr := 5) (lo := 132) (own := RX10) [(0, .ref a0), (1, .int x1), (2, .int x2)] (by decide) rfl rfl (Nat.le_of_ble_eq_true rfl) rfl (Nat.le_refl _) (Nat.le_refl _) (fun g C E => ?_)
  rw [f_X10_goesIn] at hF
  refine gx_aload_n C 0 (gDec_at D_X10_goesIn 0 rfl) rfl rfl ?_
  refine gx_getl C fl_X10_goesIn_165 (is_X10_sh A0) rfl (gDec_at D_X10_goesIn 1 rfl) ?_
  refine gx_lstore_n C (lv' := [(3, .long (h.2 a0 17)), (0, .ref a0), (1, .int x1), (2, .int x2)]) (gDec_at D_X10_goesIn 2 rfl) rfl (Nat.le_of_ble_eq_true rfl) rfl ?_
  refine gx_aload_n C 1 (gDec_at D_X10_goesIn 3 rfl) rfl rfl ?_
  refine gx_getl C fl_X10_goesIn_169 (is_X10_sh A0) rfl (gDec_at D_X10_goesIn 4 rfl) ?_
  refine gx_lstore C (lv' := [(5, .long (h.2 a0 18)), (3, .long (h.2 a0 17)), (0, .ref a0), (1, .int x1), (2, .int x2)]) (gDec_at D_X10_goesIn 5 rfl) (Nat.le_of_ble_eq_true rfl) rfl ?_
  refine gx_aload_n C 2 (gDec_at D_X10_goesIn 6 rfl) rfl rfl ?_
  refine gx_iload_n C 3 (gDec_at D_X10_goesIn 7 rfl) rfl rfl ?_
  refine gx_iconst C (v := 0) (gDec_at D_X10_goesIn 8 rfl) (by decide) ?_
  obtain ⟨v2, hv1, hF⟩ := gBind hF
  refine gx_callV1 C (st := []) 2 [.int x1, .int 0] (m_X10_ofPart w h A0 x1 0 hv1) gX10_goesIn_X10_ofPart rfl rfl rfl hy_X10_ofPart (Nat.le_of_ble_eq_true rfl) (Nat.le_of_ble_eq_true rfl) (is_X10_sh A0) rfl rfl rfl (Nat.le_of_ble_eq_true rfl) (gDec_at D_X10_goesIn 9 rfl) ?_
  refine gx_iconst C (v := 1) (gDec_at D_X10_goesIn 10 rfl) (by decide) ?_
  refine gx_icmp_ne C 166 (gDec_at D_X10_goesIn 11 rfl) (by decide) (fun c => ?_) (fun c => ?_)
  · replace hF := gNeg c hF
    refine gx_aload_n C 2 (gDec_at D_X10_goesIn 92 rfl) rfl rfl ?_
    refine gx_iload_n C 3 (gDec_at D_X10_goesIn 93 rfl) rfl rfl ?_
    refine gx_iload_n C 4 (gDec_at D_X10_goesIn 94 rfl) rfl rfl ?_
    obtain ⟨v4, hv3, hF⟩ := gBind hF
    refine gx_callV0 C (st := []) 2 [.int x1, .int x2] (m_X10_letsOf w h A0 x1 x2 hv3) gX10_goesIn_X10_letsOf rfl rfl rfl hy_X10_letsOf (Nat.le_of_ble_eq_true rfl) (Nat.le_of_ble_eq_true rfl) (is_X10_sh A0) rfl rfl rfl (Nat.le_of_ble_eq_true rfl) (gDec_at D_X10_goesIn 95 rfl) ?_
    refine gx_aload_n C 2 (gDec_at D_X10_goesIn 96 rfl) rfl rfl ?_
    refine gx_geti C fl_X10_goesIn_180 (is_X10_sh A0) rfl (gDec_at D_X10_goesIn 97 rfl) ?_
    refine gx_if_eq C 191 (gDec_at D_X10_goesIn 98 rfl) (by decide) (fun c => ?_) (fun c => ?_)
    · replace hF := gPos c hF
      refine gx_aload_n C 2 (gDec_at D_X10_goesIn 107 rfl) rfl rfl ?_
      refine gx_lload_n C 1 (gDec_at D_X10_goesIn 108 rfl) rfl rfl ?_
      refine gx_putL C flw_X10_goesIn_165 (is_X10_sh A0) rfl rfl rfl (gDec_at D_X10_goesIn 109 rfl) ?_
      refine gx_aload_n C 2 (gDec_at D_X10_goesIn 110 rfl) rfl rfl ?_
      refine gx_lload C 0 (gDec_at D_X10_goesIn 111 rfl) rfl ?_
      refine gx_putL C flw_X10_goesIn_169 (is_X10_sh A0) rfl rfl rfl (gDec_at D_X10_goesIn 112 rfl) ?_
      refine gx_lload_n C 1 (gDec_at D_X10_goesIn 113 rfl) rfl rfl ?_
      refine gx_lconst C (v := 0) (gDec_at D_X10_goesIn 114 rfl) (by decide) ?_
      refine gx_lcmp_ne C 210 (gDec_at D_X10_goesIn 115 rfl) (gDec_at D_X10_goesIn 116 rfl) (by decide) (fun c => ?_) (fun c => ?_)
      · replace hF := gNeg c hF
        refine gx_lload C 0 (gDec_at D_X10_goesIn 119 rfl) rfl ?_
        refine gx_lconst C (v := 0) (gDec_at D_X10_goesIn 120 rfl) (by decide) ?_
        refine gx_lcmp_ne C 232 (gDec_at D_X10_goesIn 121 rfl) (gDec_at D_X10_goesIn 122 rfl) (by decide) (fun c => ?_) (fun c => ?_)
        · replace hF := gNeg c hF
          refine gx_aload_n C 2 (gDec_at D_X10_goesIn 132 rfl) rfl rfl ?_
          refine gx_lload C 0 (gDec_at D_X10_goesIn 133 rfl) rfl ?_
          refine gx_lload_n C 1 (gDec_at D_X10_goesIn 134 rfl) rfl rfl ?_
          refine gx_aload_n C 2 (gDec_at D_X10_goesIn 135 rfl) rfl rfl ?_
          refine gx_getl C fl_X10_goesIn_184 (is_X10_sh A0) rfl (gDec_at D_X10_goesIn 136 rfl) ?_
          refine gx_lneg C (gDec_at D_X10_goesIn 137 rfl) ?_
          refine gx_aload_n C 2 (gDec_at D_X10_goesIn 138 rfl) rfl rfl ?_
          refine gx_getl C fl_X10_goesIn_187 (is_X10_sh A0) rfl (gDec_at D_X10_goesIn 139 rfl) ?_
          obtain ⟨v6, hv5, hF⟩ := gBind hF
          refine gx_callV0 C (st := []) 4 [.long (h.2 a0 18), .long (h.2 a0 17), .long (-((gsL (gsL v4 a0 17 (h.2 a0 17)) a0 18 (h.2 a0 18)).2 a0 21)), .long ((gsL (gsL v4 a0 17 (h.2 a0 17)) a0 18 (h.2 a0 18)).2 a0 22)] (m_X10_sum w (gsL (gsL v4 a0 17 (h.2 a0 17)) a0 18 (h.2 a0 18)) A0 (h.2 a0 18) (h.2 a0 17) (-((gsL (gsL v4 a0 17 (h.2 a0 17)) a0 18 (h.2 a0 18)).2 a0 21)) ((gsL (gsL v4 a0 17 (h.2 a0 17)) a0 18 (h.2 a0 18)).2 a0 22) hv5) gX10_goesIn_X10_sum rfl rfl rfl hy_X10_sum (Nat.le_of_ble_eq_true rfl) (Nat.le_of_ble_eq_true rfl) (is_X10_sh A0) rfl rfl rfl (Nat.le_of_ble_eq_true rfl) (gDec_at D_X10_goesIn 140 rfl) ?_
          refine gx_aload_n C 2 (gDec_at D_X10_goesIn 141 rfl) rfl rfl ?_
          refine gx_getl C fl_X10_goesIn_165 (is_X10_sh A0) rfl (gDec_at D_X10_goesIn 142 rfl) ?_
          refine gx_lconst C (v := 0) (gDec_at D_X10_goesIn 143 rfl) (by decide) ?_
          refine gx_lcmp_ge C 259 (gDec_at D_X10_goesIn 144 rfl) (gDec_at D_X10_goesIn 145 rfl) (by decide) (fun c => ?_) (fun c => ?_)
          · replace hF := gPos c hF
            refine gx_aload_n C 2 (gDec_at D_X10_goesIn 148 rfl) rfl rfl ?_
            refine gx_getl C fl_X10_goesIn_165 (is_X10_sh A0) rfl (gDec_at D_X10_goesIn 149 rfl) ?_
            refine gx_lstore C (lv' := [(7, .long (v6.2 a0 17)), (5, .long (h.2 a0 18)), (3, .long (h.2 a0 17)), (0, .ref a0), (1, .int x1), (2, .int x2)]) (gDec_at D_X10_goesIn 150 rfl) (Nat.le_of_ble_eq_true rfl) rfl ?_
            refine gx_aload_n C 3 (gDec_at D_X10_goesIn 151 rfl) rfl rfl ?_
            refine gx_lload C 0 (gDec_at D_X10_goesIn 152 rfl) rfl ?_
            refine gx_lconst C (v := 0) (gDec_at D_X10_goesIn 153 rfl) (by decide) ?_
            refine gx_lcmp_ne C 277 (gDec_at D_X10_goesIn 154 rfl) (gDec_at D_X10_goesIn 155 rfl) (by decide) (fun c => ?_) (fun c => ?_)
            · replace hF := gNeg c hF
              refine gx_aload_n C 3 (gDec_at D_X10_goesIn 158 rfl) rfl rfl ?_
              refine gx_getl C fl_X10_goesIn_169 (is_X10_sh A0) rfl (gDec_at D_X10_goesIn 159 rfl) ?_
              refine gx_putL C flw_X10_goesIn_165 (is_X10_sh A0) rfl rfl rfl (gDec_at D_X10_goesIn 160 rfl) ?_
              refine gx_aload_n C 3 (gDec_at D_X10_goesIn 161 rfl) rfl rfl ?_
              refine gx_lload C 0 (gDec_at D_X10_goesIn 162 rfl) rfl ?_
              refine gx_putL C flw_X10_goesIn_169 (is_X10_sh A0) rfl rfl rfl (gDec_at D_X10_goesIn 163 rfl) ?_
              refine gx_iconst C (v := 1) (gDec_at D_X10_goesIn 164 rfl) (by decide) ?_
              obtain rfl := Option.some.inj hF
              exact gx_iret C E (gDec_at D_X10_goesIn 165 rfl)
            · replace hF := gPos c hF
              refine gx_lconst C (v := 1) (gDec_at D_X10_goesIn 156 rfl) (by decide) ?_
              refine gx_goto C 281 (gDec_at D_X10_goesIn 157 rfl) (by decide) ?_
              refine gx_putL C flw_X10_goesIn_165 (is_X10_sh A0) rfl rfl rfl (gDec_at D_X10_goesIn 160 rfl) ?_
              refine gx_aload_n C 3 (gDec_at D_X10_goesIn 161 rfl) rfl rfl ?_
              refine gx_lload C 0 (gDec_at D_X10_goesIn 162 rfl) rfl ?_
              refine gx_putL C flw_X10_goesIn_169 (is_X10_sh A0) rfl rfl rfl (gDec_at D_X10_goesIn 163 rfl) ?_
              refine gx_iconst C (v := 1) (gDec_at D_X10_goesIn 164 rfl) (by decide) ?_
              obtain rfl := Option.some.inj hF
              exact gx_iret C E (gDec_at D_X10_goesIn 165 rfl)
          · replace hF := gNeg c hF
            refine gx_iconst C (v := 0) (gDec_at D_X10_goesIn 146 rfl) (by decide) ?_
            obtain rfl := Option.some.inj hF
            exact gx_iret C E (gDec_at D_X10_goesIn 147 rfl)
        · replace hF := gPos c hF
          refine gx_aload_n C 2 (gDec_at D_X10_goesIn 123 rfl) rfl rfl ?_
          refine gx_getl C fl_X10_goesIn_184 (is_X10_sh A0) rfl (gDec_at D_X10_goesIn 124 rfl) ?_
          refine gx_lconst C (v := 0) (gDec_at D_X10_goesIn 125 rfl) (by decide) ?_
          refine gx_lcmp_ne C 230 (gDec_at D_X10_goesIn 126 rfl) (gDec_at D_X10_goesIn 127 rfl) (by decide) (fun c => ?_) (fun c => ?_)
          · replace hF := gNeg c hF
            refine gx_iconst C (v := 0) (gDec_at D_X10_goesIn 130 rfl) (by decide) ?_
            obtain rfl := Option.some.inj hF
            exact gx_iret C E (gDec_at D_X10_goesIn 131 rfl)
          · replace hF := gPos c hF
            refine gx_iconst C (v := 1) (gDec_at D_X10_goesIn 128 rfl) (by decide) ?_
            refine gx_goto C 231 (gDec_at D_X10_goesIn 129 rfl) (by decide) ?_
            obtain rfl := Option.some.inj hF
            exact gx_iret C E (gDec_at D_X10_goesIn 131 rfl)
      · replace hF := gPos c hF
        refine gx_iconst C (v := 1) (gDec_at D_X10_goesIn 117 rfl) (by decide) ?_
        obtain rfl := Option.some.inj hF
        exact gx_iret C E (gDec_at D_X10_goesIn 118 rfl)
    · replace hF := gNeg c hF
      refine gx_lload_n C 1 (gDec_at D_X10_goesIn 99 rfl) rfl rfl ?_
      refine gx_lconst C (v := 0) (gDec_at D_X10_goesIn 100 rfl) (by decide) ?_
      refine gx_lcmp_ne C 189 (gDec_at D_X10_goesIn 101 rfl) (gDec_at D_X10_goesIn 102 rfl) (by decide) (fun c => ?_) (fun c => ?_)
      · replace hF := gNeg c hF
        refine gx_iconst C (v := 0) (gDec_at D_X10_goesIn 105 rfl) (by decide) ?_
        obtain rfl := Option.some.inj hF
        exact gx_iret C E (gDec_at D_X10_goesIn 106 rfl)
      · replace hF := gPos c hF
        refine gx_iconst C (v := 2) (gDec_at D_X10_goesIn 103 rfl) (by decide) ?_
        refine gx_goto C 190 (gDec_at D_X10_goesIn 104 rfl) (by decide) ?_
        obtain rfl := Option.some.inj hF
        exact gx_iret C E (gDec_at D_X10_goesIn 106 rfl)
  · replace hF := gPos c hF
    refine gx_lconst C (v := 0) (gDec_at D_X10_goesIn 12 rfl) (by decide) ?_
    refine gx_lstore C (lv' := [(7, .long 0), (5, .long (h.2 a0 18)), (3, .long (h.2 a0 17)), (0, .ref a0), (1, .int x1), (2, .int x2)]) (gDec_at D_X10_goesIn 13 rfl) (Nat.le_of_ble_eq_true rfl) rfl ?_
    refine gx_lconst C (v := 1) (gDec_at D_X10_goesIn 14 rfl) (by decide) ?_
    refine gx_lstore C (lv' := [(9, .long 1), (7, .long 0), (5, .long (h.2 a0 18)), (3, .long (h.2 a0 17)), (0, .ref a0), (1, .int x1), (2, .int x2)]) (gDec_at D_X10_goesIn 15 rfl) (Nat.le_of_ble_eq_true rfl) rfl ?_
    refine gx_iconst C (v := 0) (gDec_at D_X10_goesIn 16 rfl) (by decide) ?_
    refine gx_istore C (lv' := [(11, .int 0), (9, .long 1), (7, .long 0), (5, .long (h.2 a0 18)), (3, .long (h.2 a0 17)), (0, .ref a0), (1, .int x1), (2, .int x2)]) (gDec_at D_X10_goesIn 17 rfl) (Nat.le_of_ble_eq_true rfl) rfl ?_
    exact gx_sub [5, 6, 7, 4, 3, 2, 1, 0] rfl (w_X10_goesIn_30 C A0 x1 x2 (h.2 a0 17) (h.2 a0 18)   E gFuel 0 1 0 h hF)
/-! LadderBenchModel.find -/
def rm_X10_find : Room := { frames := 6, cells := 0, slots := 0, locals := 163 }
set_option maxRecDepth 20000 in
theorem ggX10_find_X10_becomes : GoodIn wsX10_find wsX10_becomes := goodIn_r _ [41, 30, 1, 35, 36, 5, 37, 61, 62, 63, 64, 65, 66, 67, 68, 69, 70, 71, 72, 73, 74, 75, 76, 77, 78, 79, 80, 81, 82, 83, 84, 85, 86] (by decide +kernel) (by decide +kernel)
set_option maxRecDepth 20000 in
theorem gX10_find_X10_becomes : GoodIn wsX10_find (wsV RX10 172 RX10 yX10_becomes wsX10_becomes) := goodIn_app (goodIn_of _ (by decide +kernel)) ggX10_find_X10_becomes
set_option maxRecDepth 20000 in
theorem ggX10_find_X10_goesIn : GoodIn wsX10_find wsX10_goesIn := goodIn_r _ [60, 30, 1, 8, 7, 48, 46, 47, 14, 15, 16, 5, 17, 9, 31, 32, 33, 34, 35, 36, 37, 38, 39, 40, 41, 42, 43, 44, 45, 49, 50, 51, 52, 61, 62, 63, 64, 65, 66, 67, 68, 69, 70, 71, 72, 73, 74, 75, 76, 77, 78, 79, 80, 81, 82, 83, 84, 85, 86] (by decide +kernel) (by decide +kernel)
set_option maxRecDepth 20000 in
theorem gX10_find_X10_goesIn : GoodIn wsX10_find (wsV RX10 248 RX10 yX10_goesIn wsX10_goesIn) := goodIn_app (goodIn_of _ (by decide +kernel)) ggX10_find_X10_goesIn
set_option maxRecDepth 20000 in
theorem ggX10_find_X10_lay : GoodIn wsX10_find wsX10_lay := goodIn_r _ [6, 7, 8, 9, 10, 11, 12, 5, 13, 14, 15, 16, 17, 18, 19, 20, 21, 22, 23, 24, 25, 26, 27, 28, 29, 30, 1, 31, 32, 33, 34, 35, 36, 37, 38, 39, 40, 41, 42, 43, 44, 45, 46, 47, 48, 49, 50, 51, 52, 53, 54, 55, 56, 61, 62, 63, 64, 65, 66, 67, 68, 69, 70, 71, 72, 73, 74, 75, 76, 77, 78, 79, 80, 81, 82, 83, 84, 85, 86] (by decide +kernel) (by decide +kernel)
set_option maxRecDepth 20000 in
theorem gX10_find_X10_lay : GoodIn wsX10_find (wsV RX10 209 RX10 yX10_lay wsX10_lay) := goodIn_app (goodIn_of _ (by decide +kernel)) ggX10_find_X10_lay
set_option maxRecDepth 20000 in
theorem ggX10_find_X10_ofArm : GoodIn wsX10_find wsX10_ofArm := goodIn_r _ [25, 9, 61, 62, 63, 64, 65, 66, 67, 68, 69, 70, 71, 72, 73, 74, 75, 76, 77, 78, 79, 80, 81, 82, 83, 84, 85, 86] (by decide +kernel) (by decide +kernel)
set_option maxRecDepth 20000 in
theorem gX10_find_X10_ofArm : GoodIn wsX10_find (wsV RX10 64 RX10 yX10_ofArm wsX10_ofArm) := goodIn_app (goodIn_of _ (by decide +kernel)) ggX10_find_X10_ofArm
set_option maxRecDepth 20000 in
theorem ggX10_find_X10_ofPart : GoodIn wsX10_find wsX10_ofPart := goodIn_r _ [17, 9, 61, 62, 63, 64, 65, 66, 67, 68, 69, 70, 71, 72, 73, 74, 75, 76, 77, 78, 79, 80, 81, 82, 83, 84, 85, 86] (by decide +kernel) (by decide +kernel)
set_option maxRecDepth 20000 in
theorem gX10_find_X10_ofPart : GoodIn wsX10_find (wsV RX10 130 RX10 yX10_ofPart wsX10_ofPart) := goodIn_app (goodIn_of _ (by decide +kernel)) ggX10_find_X10_ofPart
set_option maxRecDepth 20000 in
theorem ggX10_find_X10_parts : GoodIn wsX10_find wsX10_parts := goodIn_r _ [13, 9, 61, 62, 63, 64, 65, 66, 67, 68, 69, 70, 71, 72, 73, 74, 75, 76, 77, 78, 79, 80, 81, 82, 83, 84, 85, 86] (by decide +kernel) (by decide +kernel)
set_option maxRecDepth 20000 in
theorem gX10_find_X10_parts : GoodIn wsX10_find (wsV RX10 56 RX10 yX10_parts wsX10_parts) := goodIn_app (goodIn_of _ (by decide +kernel)) ggX10_find_X10_parts
theorem hy_X10_find : yX10_find.cls = RX10 ∧ yX10_find.cls ≠ "java/lang/invoke/MethodHandle" ∧ yX10_find.cls ≠ "java/lang/invoke/VarHandle" ∧ (parseMethodDescriptor yX10_find.desc).map (fun d => d.parameters.length) = some 3 := by decide +kernel
set_option maxRecDepth 100000 in
theorem D_X10_find : gDec cX10_find [(0, (.aload_n 0, 1)), (1, (.bipush (-4), 2)), (3, (.bipush (-4), 2)), (5, (.iconst 0, 1)), (6, (.invokevirtual 209, 3)), (9, (.aload_n 0, 1)), (10, (.iload_n 2, 1)), (11, (.i2l, 1)), (12, (.iload_n 3, 1)), (13, (.i2l, 1)), (14, (.invokevirtual 172, 3)), (17, (.aload_n 0, 1)), (18, (.iload_n 1, 1)), (19, (.iconst 2, 1)), (20, (.invokevirtual 64, 3)), (23, (.iconst 1, 1)), (24, (.isub, 1)), (25, (.istore 4, 2)), (27, (.aload_n 0, 1)), (28, (.invokevirtual 56, 3)), (31, (.iconst 1, 1)), (32, (.isub, 1)), (33, (.istore 5, 2)), (35, (.iconst 1, 1)), (36, (.istore 6, 2)), (38, (.iload 5, 2)), (40, (.iload 4, 2)), (42, (.if_icmp .eq 54, 3)), (45, (.iload 6, 2)), (47, (.iconst 1, 1)), (48, (.if_icmp .ne 48, 3)), (51, (.iload 4, 2)), (53, (.istore 7, 2)), (55, (.aload_n 0, 1)), (56, (.iload 7, 2)), (58, (.iconst 1, 1)), (59, (.invokevirtual 130, 3)), (62, (.iload 5, 2)), (64, (.if_icmp .eq 15, 3)), (67, (.aload_n 0, 1)), (68, (.iload 7, 2)), (70, (.iconst 1, 1)), (71, (.invokevirtual 130, 3)), (74, (.istore 7, 2)), (76, (.goto (-21), 3)), (79, (.aload_n 0, 1)), (80, (.iload 5, 2)), (82, (.iload 7, 2)), (84, (.invokevirtual 248, 3)), (87, (.istore 6, 2)), (89, (.iload 7, 2)), (91, (.istore 5, 2)), (93, (.goto (-55), 3)), (96, (.iload 6, 2)), (98, (.iconst 1, 1)), (99, (.if_icmp .ne 16, 3)), (102, (.aload_n 0, 1)), (103, (.getfield 169, 3)), (106, (.lconst 0, 1)), (107, (.lcmp, 1)), (108, (.ifCond .ne 7, 3)), (111, (.iconst 0, 1)), (112, (.goto 5, 3)), (115, (.iload 6, 2)), (117, (.ireturn, 1))] = true := by decide +kernel
set_option maxRecDepth 100000 in
theorem in_X10_find_X10 : ∀ x ∈ u_ws RX10 TX10 26, x ∈ wsX10_find := by decide +kernel
theorem fl_X10_find_169 : gF wsX10_find RX10 169 10 18 := ⟨RX10, TX10, 26, rfl, by decide, in_X10_find_X10, by decide +kernel⟩
def f_X10_find_55 (a0 : Nat) (x4 : Int32) (x5 : Int32) (h : gHp) : Nat → Int32 → Option (Int32)
  | 0, _ => none
  | n + 1, x7 => (f_X10_ofPart a0 x7 1 h).bind fun v10 => if v10 = x5 then some x7 else (f_X10_ofPart a0 x7 1 h).bind fun v12 => f_X10_find_55 a0 x4 x5 h n v12
set_option maxRecDepth 20000 in
set_option maxHeartbeats 4000000 in
theorem w_X10_find_55 {w : gWd} {g : gCx} (C : gC w g cX10_find wsX10_find RX10 8 6 163) {a0 : Nat} (A0 : is_X10 w a0) (x4 : Int32) (x5 : Int32) (h : gHp)  {o : Int32} (hk : gX w g 8 h 79 [(0, .ref a0), (4, .int x4), (5, .int x5), (7, .int o)] []) : ∀ (n : Nat) (x7 : Int32), f_X10_find_55 a0 x4 x5 h n x7 = some o → gX w g 8 h 55 [(0, .ref a0), (4, .int x4), (5, .int x5), (7, .int x7)] [] := by
  intro n
  induction n with
  | zero => intro _ hF; cases hF
  | succ n ih =>
    intro x7 hF
    rw [f_X10_find_55] at hF
    refine gx_aload_n C 0 (gDec_at D_X10_find 33 rfl) rfl rfl ?_
    refine gx_iload C 3 (gDec_at D_X10_find 34 rfl) rfl ?_
    refine gx_iconst C (v := 1) (gDec_at D_X10_find 35 rfl) (by decide) ?_
    obtain ⟨v10, hv9, hF⟩ := gBind hF
    refine gx_callV1 C (st := []) 2 [.int x7, .int 1] (m_X10_ofPart w h A0 x7 1 hv9) gX10_find_X10_ofPart rfl rfl rfl hy_X10_ofPart (Nat.le_of_ble_eq_true rfl) (Nat.le_of_ble_eq_true rfl) (is_X10_sh A0) rfl rfl rfl (Nat.le_of_ble_eq_true rfl) (gDec_at D_X10_find 36 rfl) ?_
    refine gx_iload C 2 (gDec_at D_X10_find 37 rfl) rfl ?_
    refine gx_icmp_eq C 79 (gDec_at D_X10_find 38 rfl) (by decide) (fun c => ?_) (fun c => ?_)
    · replace hF := gPos c hF
      obtain rfl := Option.some.inj hF
      exact gx_sub [0, 1, 2, 3] rfl hk
    · replace hF := gNeg c hF
      refine gx_aload_n C 0 (gDec_at D_X10_find 39 rfl) rfl rfl ?_
      refine gx_iload C 3 (gDec_at D_X10_find 40 rfl) rfl ?_
      refine gx_iconst C (v := 1) (gDec_at D_X10_find 41 rfl) (by decide) ?_
      obtain ⟨v12, hv11, hF⟩ := gBind hF
      refine gx_callV1 C (st := []) 2 [.int x7, .int 1] (m_X10_ofPart w h A0 x7 1 hv11) gX10_find_X10_ofPart rfl rfl rfl hy_X10_ofPart (Nat.le_of_ble_eq_true rfl) (Nat.le_of_ble_eq_true rfl) (is_X10_sh A0) rfl rfl rfl (Nat.le_of_ble_eq_true rfl) (gDec_at D_X10_find 42 rfl) ?_
      refine gx_istore C (lv' := [(7, .int v12), (0, .ref a0), (4, .int x4), (5, .int x5)]) (gDec_at D_X10_find 43 rfl) (Nat.le_of_ble_eq_true rfl) rfl ?_
      refine gx_goto C 55 (gDec_at D_X10_find 44 rfl) (by decide) ?_
      exact gx_sub [1, 2, 3, 0] rfl (ih v12 hF)
def f_X10_find_38 (a0 : Nat) (x4 : Int32) : Nat → Int32 → Int32 → gHp → Option (Int32 × gHp)
  | 0, _, _, _ => none
  | n + 1, x5, x6, h => if x5 = x4 then some (x6, h) else if x6 = 1 then (f_X10_find_55 a0 x4 x5 h gFuel x4).bind fun v13 => (f_X10_goesIn a0 x5 v13 h).bind fun v17 => f_X10_find_38 a0 x4 n v13 v17.1 v17.2 else some (x6, h)
set_option maxRecDepth 20000 in
set_option maxHeartbeats 4000000 in
theorem w_X10_find_38 {w : gWd} {g : gCx} (C : gC w g cX10_find wsX10_find RX10 8 6 163) {a0 : Nat} (A0 : is_X10 w a0) (x4 : Int32)  {o : Int32 × gHp} (hk : gX w g 8 o.2 96 [(0, .ref a0), (6, .int o.1)] []) : ∀ (n : Nat) (x5 : Int32) (x6 : Int32) (h : gHp), f_X10_find_38 a0 x4 n x5 x6 h = some o → gX w g 8 h 38 [(0, .ref a0), (4, .int x4), (5, .int x5), (6, .int x6)] [] := by
  intro n
  induction n with
  | zero => intro _ _ _ hF; cases hF
  | succ n ih =>
    intro x5 x6 h hF
    rw [f_X10_find_38] at hF
    refine gx_iload C 2 (gDec_at D_X10_find 25 rfl) rfl ?_
    refine gx_iload C 1 (gDec_at D_X10_find 26 rfl) rfl ?_
    refine gx_icmp_eq C 96 (gDec_at D_X10_find 27 rfl) (by decide) (fun c => ?_) (fun c => ?_)
    · replace hF := gPos c hF
      obtain rfl := Option.some.inj hF
      exact gx_sub [0, 3] rfl hk
    · replace hF := gNeg c hF
      refine gx_iload C 3 (gDec_at D_X10_find 28 rfl) rfl ?_
      refine gx_iconst C (v := 1) (gDec_at D_X10_find 29 rfl) (by decide) ?_
      refine gx_icmp_ne C 96 (gDec_at D_X10_find 30 rfl) (by decide) (fun c => ?_) (fun c => ?_)
      · replace hF := gNeg c hF
        obtain rfl := Option.some.inj hF
        exact gx_sub [0, 3] rfl hk
      · replace hF := gPos c hF
        refine gx_iload C 1 (gDec_at D_X10_find 31 rfl) rfl ?_
        refine gx_istore C (lv' := [(7, .int x4), (0, .ref a0), (4, .int x4), (5, .int x5), (6, .int x6)]) (gDec_at D_X10_find 32 rfl) (Nat.le_of_ble_eq_true rfl) rfl ?_
        obtain ⟨v13, hv14, hF⟩ := gBind hF
        have k15 : gX w g 8 h 79 [(0, .ref a0), (4, .int x4), (5, .int x5), (7, .int v13)] [] := by
          refine gx_aload_n C 0 (gDec_at D_X10_find 45 rfl) rfl rfl ?_
          refine gx_iload C 2 (gDec_at D_X10_find 46 rfl) rfl ?_
          refine gx_iload C 3 (gDec_at D_X10_find 47 rfl) rfl ?_
          obtain ⟨v17, hv16, hF⟩ := gBind hF
          refine gx_callV1 C (st := []) 2 [.int x5, .int v13] (m_X10_goesIn w h A0 x5 v13 hv16) gX10_find_X10_goesIn rfl rfl rfl hy_X10_goesIn (Nat.le_of_ble_eq_true rfl) (Nat.le_of_ble_eq_true rfl) (is_X10_sh A0) rfl rfl rfl (Nat.le_of_ble_eq_true rfl) (gDec_at D_X10_find 48 rfl) ?_
          refine gx_istore C (lv' := [(6, .int v17.1), (0, .ref a0), (4, .int x4), (5, .int x5), (7, .int v13)]) (gDec_at D_X10_find 49 rfl) (Nat.le_of_ble_eq_true rfl) rfl ?_
          refine gx_iload C 4 (gDec_at D_X10_find 50 rfl) rfl ?_
          refine gx_istore C (lv' := [(5, .int v13), (6, .int v17.1), (0, .ref a0), (4, .int x4), (7, .int v13)]) (gDec_at D_X10_find 51 rfl) (Nat.le_of_ble_eq_true rfl) rfl ?_
          refine gx_goto C 38 (gDec_at D_X10_find 52 rfl) (by decide) ?_
          exact gx_sub [2, 3, 0, 1] rfl (ih v13 v17.1 v17.2 hF)
        exact gx_sub [1, 2, 3, 0] rfl (w_X10_find_55 C A0 x4 x5 h k15 gFuel x4 hv14)
def f_X10_find (a0 : Nat) (x1 : Int32) (x2 : Int32) (x3 : Int32) (h : gHp) : Option (Int32 × gHp) := (f_X10_lay a0 (-4) (-4) 0 h).bind fun v2 => (f_X10_becomes a0 x2.toInt64 x3.toInt64 v2).bind fun v4 => (f_X10_ofArm a0 x1 2 v4).bind fun v6 => (f_X10_parts a0 v4).bind fun v8 => (f_X10_find_38 a0 (v6 - 1) gFuel (v8 - 1) 1 v4).bind fun v18 => if v18.1 = 1 then if (v18.2.2 a0 18) = 0 then some (0, v18.2) else some (v18.1, v18.2) else some (v18.1, v18.2)
set_option maxRecDepth 20000 in
set_option maxHeartbeats 4000000 in
theorem m_X10_find (w : gWd) (h : gHp) {a0 : Nat} (A0 : is_X10 w a0) (x1 : Int32) (x2 : Int32) (x3 : Int32) {o : Int32 × gHp} (hF : f_X10_find a0 x1 x2 x3 h = some o) : gMet w yX10_find wsX10_find rm_X10_find [.ref a0, .int x1, .int x2, .int x3] h (some (.int o.1)) o.2 := by
  refine gMet_of (cc := cX10_find) (maxL := 8) (ret := (some .int)) (fr := 6) (lo := 163) (own := RX10) [(0, .ref a0), (1, .int x1), (2, .int x2), (3, .int x3)] (by decide) rfl rfl (Nat.le_of_ble_eq_true rfl) rfl (Nat.le_refl _) (Nat.le_refl _) (fun g C E => ?_)
  rw [f_X10_find] at hF
  refine gx_aload_n C 0 (gDec_at D_X10_find 0 rfl) rfl rfl ?_
  refine gx_bipush C (v := (-4)) (gDec_at D_X10_find 1 rfl) (by decide) ?_
  refine gx_bipush C (v := (-4)) (gDec_at D_X10_find 2 rfl) (by decide) ?_
  refine gx_iconst C (v := 0) (gDec_at D_X10_find 3 rfl) (by decide) ?_
  obtain ⟨v2, hv1, hF⟩ := gBind hF
  refine gx_callV0 C (st := []) 3 [.int (-4), .int (-4), .int 0] (m_X10_lay w h A0 (-4) (-4) 0 hv1) gX10_find_X10_lay rfl rfl rfl hy_X10_lay (Nat.le_of_ble_eq_true rfl) (Nat.le_of_ble_eq_true rfl) (is_X10_sh A0) rfl rfl rfl (Nat.le_of_ble_eq_true rfl) (gDec_at D_X10_find 4 rfl) ?_
  refine gx_aload_n C 0 (gDec_at D_X10_find 5 rfl) rfl rfl ?_
  refine gx_iload_n C 2 (gDec_at D_X10_find 6 rfl) rfl rfl ?_
  refine gx_i2l C (gDec_at D_X10_find 7 rfl) ?_
  refine gx_iload_n C 3 (gDec_at D_X10_find 8 rfl) rfl rfl ?_
  refine gx_i2l C (gDec_at D_X10_find 9 rfl) ?_
  obtain ⟨v4, hv3, hF⟩ := gBind hF
  refine gx_callV0 C (st := []) 2 [.long x2.toInt64, .long x3.toInt64] (m_X10_becomes w v2 A0 x2.toInt64 x3.toInt64 hv3) gX10_find_X10_becomes rfl rfl rfl hy_X10_becomes (Nat.le_of_ble_eq_true rfl) (Nat.le_of_ble_eq_true rfl) (is_X10_sh A0) rfl rfl rfl (Nat.le_of_ble_eq_true rfl) (gDec_at D_X10_find 10 rfl) ?_
  refine gx_aload_n C 0 (gDec_at D_X10_find 11 rfl) rfl rfl ?_
  refine gx_iload_n C 1 (gDec_at D_X10_find 12 rfl) rfl rfl ?_
  refine gx_iconst C (v := 2) (gDec_at D_X10_find 13 rfl) (by decide) ?_
  obtain ⟨v6, hv5, hF⟩ := gBind hF
  refine gx_callV1 C (st := []) 2 [.int x1, .int 2] (m_X10_ofArm w v4 A0 x1 2 hv5) gX10_find_X10_ofArm rfl rfl rfl hy_X10_ofArm (Nat.le_of_ble_eq_true rfl) (Nat.le_of_ble_eq_true rfl) (is_X10_sh A0) rfl rfl rfl (Nat.le_of_ble_eq_true rfl) (gDec_at D_X10_find 14 rfl) ?_
  refine gx_iconst C (v := 1) (gDec_at D_X10_find 15 rfl) (by decide) ?_
  refine gx_isub C (gDec_at D_X10_find 16 rfl) ?_
  refine gx_istore C (lv' := [(4, .int (v6 - 1)), (0, .ref a0), (1, .int x1), (2, .int x2), (3, .int x3)]) (gDec_at D_X10_find 17 rfl) (Nat.le_of_ble_eq_true rfl) rfl ?_
  refine gx_aload_n C 1 (gDec_at D_X10_find 18 rfl) rfl rfl ?_
  obtain ⟨v8, hv7, hF⟩ := gBind hF
  refine gx_callV1 C (st := []) 0 [] (m_X10_parts w v4 A0 hv7) gX10_find_X10_parts rfl rfl rfl hy_X10_parts (Nat.le_of_ble_eq_true rfl) (Nat.le_of_ble_eq_true rfl) (is_X10_sh A0) rfl rfl rfl (Nat.le_of_ble_eq_true rfl) (gDec_at D_X10_find 19 rfl) ?_
  refine gx_iconst C (v := 1) (gDec_at D_X10_find 20 rfl) (by decide) ?_
  refine gx_isub C (gDec_at D_X10_find 21 rfl) ?_
  refine gx_istore C (lv' := [(5, .int (v8 - 1)), (4, .int (v6 - 1)), (0, .ref a0), (1, .int x1), (2, .int x2), (3, .int x3)]) (gDec_at D_X10_find 22 rfl) (Nat.le_of_ble_eq_true rfl) rfl ?_
  refine gx_iconst C (v := 1) (gDec_at D_X10_find 23 rfl) (by decide) ?_
  refine gx_istore C (lv' := [(6, .int 1), (5, .int (v8 - 1)), (4, .int (v6 - 1)), (0, .ref a0), (1, .int x1), (2, .int x2), (3, .int x3)]) (gDec_at D_X10_find 24 rfl) (Nat.le_of_ble_eq_true rfl) rfl ?_
  obtain ⟨v18, hv19, hF⟩ := gBind hF
  have k20 : gX w g 8 v18.2 96 [(0, .ref a0), (6, .int v18.1)] [] := by
    refine gx_iload C 1 (gDec_at D_X10_find 53 rfl) rfl ?_
    refine gx_iconst C (v := 1) (gDec_at D_X10_find 54 rfl) (by decide) ?_
    refine gx_icmp_ne C 115 (gDec_at D_X10_find 55 rfl) (by decide) (fun c => ?_) (fun c => ?_)
    · replace hF := gNeg c hF
      refine gx_iload C 1 (gDec_at D_X10_find 63 rfl) rfl ?_
      obtain rfl := Option.some.inj hF
      exact gx_iret C E (gDec_at D_X10_find 64 rfl)
    · replace hF := gPos c hF
      refine gx_aload_n C 0 (gDec_at D_X10_find 56 rfl) rfl rfl ?_
      refine gx_getl C fl_X10_find_169 (is_X10_sh A0) rfl (gDec_at D_X10_find 57 rfl) ?_
      refine gx_lconst C (v := 0) (gDec_at D_X10_find 58 rfl) (by decide) ?_
      refine gx_lcmp_ne C 115 (gDec_at D_X10_find 59 rfl) (gDec_at D_X10_find 60 rfl) (by decide) (fun c => ?_) (fun c => ?_)
      · replace hF := gNeg c hF
        refine gx_iload C 1 (gDec_at D_X10_find 63 rfl) rfl ?_
        obtain rfl := Option.some.inj hF
        exact gx_iret C E (gDec_at D_X10_find 64 rfl)
      · replace hF := gPos c hF
        refine gx_iconst C (v := 0) (gDec_at D_X10_find 61 rfl) (by decide) ?_
        refine gx_goto C 117 (gDec_at D_X10_find 62 rfl) (by decide) ?_
        obtain rfl := Option.some.inj hF
        exact gx_iret C E (gDec_at D_X10_find 64 rfl)
  exact gx_sub [3, 2, 1, 0] rfl (w_X10_find_38 C A0 (v6 - 1) k20 gFuel (v8 - 1) 1 v4 hv19)
